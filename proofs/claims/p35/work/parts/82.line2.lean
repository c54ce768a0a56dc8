/-- a line is shown and its source looked at, in both -/
theorem zComes {σ T ρ : QSt} {l0 s0 : Nat} (hs0 : s0 < 4) (hw : zIw T (zκs T l0 0)) (hR : zRel T ρ) (hl0 : l0 < T 0 0) (hk : ∀ a, a < T 0 2 → zLk T a) (hf : T 0 3 ≤ 6 * σ 0 0 + T 0 2) (h00 : T 0 0 = σ 0 0 + 1) (hn : σ 0 0 < 200) (hrq : ∀ x, x < T 0 4 → (T 193 x = 0 → T 1 0 < T 192 x) ∧ (T 193 x ≠ 0 → T 192 x ≤ T 1 0)) :
    (∀ i, i < T 0 2 → qWF (qfSa T l0 i) ∧ qOk (qfCd (qfSa T l0 i) i l0) i) ∧ qWF (qfSa T l0 (T 0 2)) ∧ qfSa T l0 (T 0 2) 0 3 ≤ T 0 3 + T 0 2 ∧ (∃ N, rDrp (rLs ρ (T 0 2)) s0 N ∧ zRel (qfLs (qfSa T l0 (T 0 2)) s0 200).1 (rDs (rLs ρ (T 0 2)) s0 N)) ∧ zIv (qfLs (qfSa T l0 (T 0 2)) s0 200).1 := by
  have hn2 := hw.wf.n
  obtain ⟨g1, g2, g3, g4, g5, g6⟩ := zShow hw hR hl0 hk (by omega) (T 0 2) (Nat.le_refl _)
  generalize hX : qfSa T l0 (T 0 2) = X at g1 g2 g3 g4 g5
  have eX : ∀ r j, r < 1000 → r ≠ 70 → r ≠ 163 → r ≠ 131 → r ≠ 133 → r ≠ 0 → r ≠ 16 → r ≠ 32 → r ≠ 134 → (r < 160 ∨ 192 ≤ r) → r ≠ 132 → X r j = T r j := fun r j a1 a2 a3 a4 a5 a6 a7 a8 a9 a10 a11 => by rw [← hX]; exact zSa_r a1 a2 a3 a4 a5 a6 a7 a8 a9 a10 a11 _
  have hw2 : zIw X (zκ X) := g1.cong (fun a l => qB_le) (fun a l ha _ => by
    rw [g4 2 (by decide)] at ha
    unfold zκs
    rw [if_neg (fun z => by omega)]
    refine qB_c (qcn_of (hw.wf.plc ha) (eX 1 0 (by decide) (by decide) (by decide) (by decide) (by decide) (by decide) (by decide) (by decide) (by decide) (by decide) (by decide)) (fun r hr _ => ?_) (by rw [eX 69 l (by decide) (by decide) (by decide) (by decide) (by decide) (by decide) (by decide) (by decide) (by decide) (by decide) (by decide)]) (fun r hr => ?_))
    · rcases hr with q | q <;> exact eX r l (by omega) (by omega) (by omega) (by omega) (by omega) (by omega) (by omega) (by omega) (by omega) (by omega) (by omega)
    · rcases hr with q | q <;> exact eX r a (by omega) (by omega) (by omega) (by omega) (by omega) (by omega) (by omega) (by omega) (by omega) (by omega) (by omega))
  have hiv : zIv X := ⟨hw2, fun a ha => g3 a (by rw [← g4 2 (by decide)]; exact ha), by rw [g4 0 (by decide), g4 2 (by decide), h00]; omega, fun x hx => by
    rw [g4 4 (by decide)] at hx
    rw [eX 193 x (by decide) (by decide) (by decide) (by decide) (by decide) (by decide) (by decide) (by decide) (by decide) (by decide) (by decide), eX 192 x (by decide) (by decide) (by decide) (by decide) (by decide) (by decide) (by decide) (by decide) (by decide) (by decide) (by decide), eX 1 0 (by decide) (by decide) (by decide) (by decide) (by decide) (by decide) (by decide) (by decide) (by decide) (by decide) (by decide)]
    exact hrq x hx⟩
  obtain ⟨d1, d2, d3⟩ := zDrop s0 hs0 200 X _ hw2 g2 (zNk_le g1.wf s0)
  exact ⟨g6, g1.wf, g5, ⟨_, d1, d2⟩, hiv.drop (fun r j hr => zLs_r g1.wf hr) d3⟩
/-- a line comes that fits a pattern -/
theorem zLineK {σ ρ : QSt} (h : zIv σ) (hR : zRel σ ρ) {s0 r0 x1 x2 x3 b0 p0 : Nat} (hs0 : s0 < 4) (hr0 : r0 < 5) (hx1 : x1 < 100) (hx2 : x2 < 100) (hx3 : x3 < 100) (hb0 : 1 ≤ b0 ∧ b0 ≤ 99) (hn : σ 0 0 < 200) (hp : p0 < σ 0 1) (hm : σ 97 p0 = 0 ∧ s0 = σ 96 p0 ∧ qft (fun k => σ (112 + k) p0) (zx x1 x2 x3)) :
    let T := qfLi σ s0 r0 x1 x2 x3 b0 p0
    (∀ i, i < T 0 2 → qWF (qfSa T (σ 0 0) i) ∧ qOk (qfCd (qfSa T (σ 0 0) i) i (σ 0 0)) i) ∧ qWF (qfSa T (σ 0 0) (T 0 2)) ∧ qfSa T (σ 0 0) (T 0 2) 0 3 ≤ T 0 3 + T 0 2 ∧ (∃ (N : Nat) (f : Nat → QSt) (P O : Nat → Nat) (M : Nat), f 0 = qup (rLi ρ s0 r0 x1 x2 x3 b0) 68 (ρ 0 0) p0 ∧ rTurns f P O M s0 ∧ rDrp (rLs (f M) (ρ 0 2)) s0 N ∧ zRel (qfLs (qfSa T (σ 0 0) (T 0 2)) s0 200).1 (rDs (rLs (f M) (ρ 0 2)) s0 N)) ∧ zIv (qfLs (qfSa T (σ 0 0) (T 0 2)) s0 200).1 := by
  intro T
  obtain ⟨hw, hk, hf, hrq⟩ := id h
  obtain ⟨hF, ia, ig, iff_, ip, io⟩ := id hw
  obtain ⟨w1, w2, w3, w4, w5⟩ := zLi_w hF ia ig iff_ io (p0 := p0) (s0 := s0) (r0 := r0) (x1 := x1) (x2 := x2) (x3 := x3) (b0 := b0) hp hs0 hr0 hx1 hx2 hx3 hb0 hn
  have e : ∀ r j, ¬ (64 ≤ r ∧ r < 96 ∧ j = σ 0 0) → ¬ ((r = 0 ∨ r = 16 ∨ r = 32) ∧ j = 0) → T r j = σ r j := fun r j q1 q2 => qfLi_r q1 q2
  have e00 : T 0 0 = σ 0 0 + 1 := qfLi_00
  have e0 : ∀ j, j ≠ 0 → T 0 j = σ 0 j := fun j hj => e 0 j (by omega) (by omega)
  have hlo : ∀ r j, r < 64 ∨ 96 ≤ r → r ≠ 0 → r ≠ 16 → r ≠ 32 → T r j = σ r j := fun r j q1 q2 q3 q4 => e r j (by omega) (by omega)
  have hum : ∀ p q, p < q → q < σ 0 1 → ∀ s, ¬ rMy T s p q := fun p q h1 h2 s h3 => by
    unfold rMy at h3
    rw [hlo 96 p (by omega) (by decide) (by decide) (by decide), hlo 96 q (by omega) (by decide) (by decide) (by decide), hlo 97 p (by omega) (by decide) (by decide) (by decide), hlo 97 q (by omega) (by decide) (by decide) (by decide), qdf_congr (P := fun k => σ (112 + k) p) (Q := fun k => σ (112 + k) q) (fun k hk => hlo (112 + k) p (by omega) (by omega) (by omega) (by omega)) (fun k hk => hlo (112 + k) q (by omega) (by omega) (by omega) (by omega))] at h3
    exact ip.2.2.1 p q h1 h2 s h3
  have w6 : zIp T := by
    refine ⟨by rw [e00, e0 1 (by decide)]; have := ip.1; omega, zLi_l ip.2.1 hm.1 hm.2.1.symm hm.2.2, fun p q h1 h2 s => ?_, fun p hp2 => ?_⟩
    · rw [e0 1 (by decide)] at h2; exact hum p q h1 h2 s
    · rw [e0 1 (by decide)] at hp2
      rw [hlo 97 p (by omega) (by decide) (by decide) (by decide)]; exact ip.2.2.2 p hp2
  have hρ0 : ρ 0 0 = σ 0 0 := hR.n (by decide)
  obtain ⟨v0, v64, v65, v66, v67, v69, v80, v81, v82⟩ := rLi_v (ρ := ρ) (s0 := s0) (r0 := r0) (x1 := x1) (x2 := x2) (x3 := x3) (b0 := b0)
  rw [hρ0] at v0 v64 v65 v66 v67 v69 v80 v81 v82
  have hRT : zRel T (qup (rLi ρ s0 r0 x1 x2 x3 b0) 68 (ρ 0 0) p0) := by
    rw [hρ0]
    refine zLi_R hR (fun r j q1 q2 => ?_) ((qup_k (by decide)).trans v0) ((qup_k (by decide)).trans v64) ((qup_k (by decide)).trans v65) ((qup_k (by decide)).trans v66) ((qup_k (by decide)).trans (v67.trans hR.t)) (qup_s _ _ _ _) ((qup_k (by decide)).trans v69) ((qup_k (by decide)).trans v80) ((qup_k (by decide)).trans v81) ((qup_k (by decide)).trans v82)
    rw [show qup (rLi ρ s0 r0 x1 x2 x3 b0) 68 (σ 0 0) p0 r j = rLi ρ s0 r0 x1 x2 x3 b0 r j from if_neg (by omega)]
    exact rLi_o (by rw [hρ0]; exact q1) q2
  obtain ⟨k1, k2, k3, ⟨N, k4, k5⟩, k6⟩ := zComes (σ := σ) (T := T) (s0 := s0) hs0 ⟨w1, w2, w3, w4, w6, w5⟩ hRT (by rw [e00]; exact Nat.lt_succ_self _) (fun a ha => by
    rw [e0 2 (by decide)] at ha
    have := hk a ha
    unfold zLk at this ⊢
    rw [hlo 131 a (by omega) (by decide) (by decide) (by decide), hlo 128 a (by omega) (by decide) (by decide) (by decide), hlo 132 a (by omega) (by decide) (by decide) (by decide)]; exact this) (by rw [e0 3 (by decide), e0 2 (by decide)]; exact hf) e00 hn (fun x hx => by
    rw [e0 4 (by decide)] at hx
    rw [hlo 193 x (by omega) (by decide) (by decide) (by decide), hlo 192 x (by omega) (by decide) (by decide) (by decide), hlo 1 0 (by omega) (by decide) (by decide) (by decide)]; exact hrq x hx)
  have hρ2 : ρ 0 2 = T 0 2 := (hR.n (by decide)).trans (e0 2 (by decide)).symm
  refine ⟨k1, k2, k3, ⟨N, fun _ => qup (rLi ρ s0 r0 x1 x2 x3 b0) 68 (ρ 0 0) p0, fun _ => 0, fun _ => 0, 0, rfl, ⟨fun i hi => absurd hi (Nat.not_lt_zero _), rM0.of hRT (fun p q h1 h2 => w6.2.2.1 p q h1 h2 s0)⟩, ?_, ?_⟩, k6⟩
  · rw [hρ2]; exact k4
  · rw [hρ2]; exact k5
/-- a line comes of which a pattern is learned -/
theorem zLineL {σ ρ : QSt} (h : zIv σ) (hR : zRel σ ρ) {s0 r0 x1 x2 x3 b0 : Nat} (hs0 : s0 < 4) (hr0 : r0 < 5) (hx1 : x1 < 100) (hx2 : x2 < 100) (hx3 : x3 < 100) (hb0 : 1 ≤ b0 ∧ b0 ≤ 99) (hn : σ 0 0 < 200) :
    let X := qfLe σ s0 x1 x2 x3
    let L := qfLi X s0 r0 x1 x2 x3 b0 (σ 0 1)
    let T := (qmI L (σ 0 1) (L 0 1)).1
    (∀ i, i < T 0 2 → qWF (qfSa T (X 0 0) i) ∧ qOk (qfCd (qfSa T (X 0 0) i) i (X 0 0)) i) ∧ qWF (qfSa T (X 0 0) (T 0 2)) ∧ qfSa T (X 0 0) (T 0 2) 0 3 ≤ T 0 3 + T 0 2 ∧ (∀ j, j ≠ 0 → j ≠ 1 → T 0 j = σ 0 j) ∧ X 0 0 = σ 0 0 ∧ X 32 0 = σ 32 0 ∧ T 32 3 = σ 32 3 ∧ (∃ (N : Nat) (f : Nat → QSt) (P O : Nat → Nat) (M : Nat), f 0 = qup (rLr (rLi ρ s0 r0 x1 x2 x3 b0) (ρ 0 0)) 68 (ρ 0 0) (rLi ρ s0 r0 x1 x2 x3 b0 0 1) ∧ rTurns f P O M s0 ∧ rDrp (rLs (f M) (ρ 0 2)) s0 N ∧ zRel (qfLs (qfSa T (X 0 0) (T 0 2)) s0 200).1 (rDs (rLs (f M) (ρ 0 2)) s0 N)) ∧ zIv (qfLs (qfSa T (X 0 0) (T 0 2)) s0 200).1 := by
  intro X L T
  obtain ⟨hw, hk, hf, hrq⟩ := id h
  obtain ⟨hF, ia, ig, iff_, ip, io⟩ := id hw
  have hn1 : σ 0 1 < 200 := by have := ip.1; omega
  have h161 := io.2.2.2.2.1 1 (by decide)
  have eX : ∀ r j, ¬ (96 ≤ r ∧ r < 128 ∧ j = σ 0 1) → ¬ ((r = 0 ∨ r = 16 ∨ r = 32) ∧ j = 1) → X r j = σ r j := fun r j q1 q2 => qfLe_r q1 q2
  have eX1 : X 0 1 = σ 0 1 + 1 := qfLe_01
  have eX0 : ∀ j, j ≠ 1 → X 0 j = σ 0 j := fun j hj => eX 0 j (by omega) (by omega)
  have eXl : ∀ r j, r < 96 ∨ 128 ≤ r → r ≠ 0 → r ≠ 16 → r ≠ 32 → X r j = σ r j := fun r j q1 q2 q3 q4 => eX r j (by omega) (by omega)
  have eXp : ∀ r p, p ≠ σ 0 1 → r ≠ 0 → r ≠ 16 → r ≠ 32 → X r p = σ r p := fun r p q1 q2 q3 q4 => eX r p (by omega) (by omega)
  have eXi : ∀ r v, ([(96, s0), (97, 0), (112, x1 + 1), (113, x2 + 1), (114, x3 + 1)]).find? (fun x => x.1 == r) = some (r, v) → 64 ≤ r → X r (σ 0 1) = v := fun r v q1 q2 => qad_in q1 q2
  have u96 := eXi 96 s0 rfl (by decide)
  have u97 := eXi 97 0 rfl (by decide)
  have u112 := eXi 112 (x1 + 1) rfl (by decide)
  have u113 := eXi 113 (x2 + 1) rfl (by decide)
  have u114 := eXi 114 (x3 + 1) rfl (by decide)
  have xF : qWF X := qfLe_wf hF hn1 (by omega) ⟨hs0, hx1, hx2, hx3⟩
  have xcn : ∀ a l, a < σ 0 2 → (qcn X a l ↔ qcn σ a l) := fun a l ha => qcn_of (hF.plc ha) (eXl 1 0 (by omega) (by decide) (by decide) (by decide)) (fun r hr _ => by rcases hr with q | q <;> exact eXl r l (by omega) (by omega) (by omega) (by omega)) (by rw [eXl 69 l (by omega) (by decide) (by decide) (by decide)]) (fun r hr => by rcases hr with q | q <;> exact eXl r a (by omega) (by omega) (by omega) (by omega))
  have xa : zIa X := ia.of (fun r j hr => eX r j (by omega) (by omega)) (fun j _ => ⟨eXl _ _ (by omega) (by decide) (by decide) (by decide), eXl _ _ (by omega) (by decide) (by decide) (by decide)⟩) hF
  have xg : zIg X (zκ X) := (ig.of (fun r j hr => eX r j (by omega) (by omega))).cong (fun a l => qB_le) (fun a l ha _ => by
    rw [eX0 2 (by decide)] at ha
    exact qB_c (xcn a l ha))
  have xf : zIf X := iff_.of (fun r j hr => eX r j (by omega) (by omega))
  have xo : zIo X := io.of (fun r j hr => eX r j (by omega) (by omega)) (fun l _ _ z => (eXl 70 l (by omega) (by decide) (by decide) (by decide)).trans z) (fun j hj => by
    by_cases c : j = 1
    · rw [c, eX1, show X 16 1 = σ 16 1 + 1 from qad_16 qfLe_ha, h161]
    · rw [eX0 j c, eX 16 j (by omega) (by omega)]; exact io.2.2.2.2.1 j hj)
  have xl : ∀ l, l < X 0 0 → X 97 (X 68 l) = 0 ∧ X 64 l = X 96 (X 68 l) ∧ qft (fun k => X (112 + k) (X 68 l)) (fun k => X (80 + k) l) := fun l hl => by
    rw [eX0 0 (by decide)] at hl
    have q := ip.2.1 l hl
    have hp := hF.pat hl
    rw [eXl 68 l (by omega) (by decide) (by decide) (by decide), eXp 97 _ (by omega) (by decide) (by decide) (by decide), eXl 64 l (by omega) (by decide) (by decide) (by decide), eXp 96 _ (by omega) (by decide) (by decide) (by decide)]
    refine ⟨q.1, q.2.1, fun k hk => ?_⟩
    show X (112 + k) (σ 68 l) = 0 ∨ X (112 + k) (σ 68 l) = X (80 + k) l + 1
    rw [eXp (112 + k) _ (by omega) (by omega) (by omega) (by omega), eXl (80 + k) l (by omega) (by omega) (by omega) (by omega)]
    exact q.2.2 k hk
  have hX00 : X 0 0 = σ 0 0 := eX0 0 (by decide)
  obtain ⟨w1, w2, w3, w4, w5⟩ := zLi_w xF xa xg xf xo (p0 := σ 0 1) (s0 := s0) (r0 := r0) (x1 := x1) (x2 := x2) (x3 := x3) (b0 := b0) (by rw [eX1]; exact Nat.lt_succ_self _) hs0 hr0 hx1 hx2 hx3 hb0 (by rw [hX00]; exact hn)
  have eL : ∀ r j, ¬ (64 ≤ r ∧ r < 96 ∧ j = X 0 0) → ¬ ((r = 0 ∨ r = 16 ∨ r = 32) ∧ j = 0) → L r j = X r j := fun r j q1 q2 => qfLi_r q1 q2
  have eL00 : L 0 0 = X 0 0 + 1 := qfLi_00
  have eL0 : ∀ j, j ≠ 0 → L 0 j = X 0 j := fun j hj => eL 0 j (by omega) (by omega)
  have eLl : ∀ r j, r < 64 ∨ 96 ≤ r → r ≠ 0 → r ≠ 16 → r ≠ 32 → L r j = X r j := fun r j q1 q2 q3 q4 => eL r j (by omega) (by omega)
  have hL1 : L 0 1 = σ 0 1 + 1 := (eL0 1 (by decide)).trans eX1
  have hfit : qft (fun k => X (112 + k) (σ 0 1)) (fun k => if k = 0 then x1 else if k = 1 then x2 else x3) := fun k hk => by
    rcases (show k = 0 ∨ k = 1 ∨ k = 2 by omega) with rfl | rfl | rfl
    · exact Or.inr u112
    · exact Or.inr u113
    · exact Or.inr u114
  have hM : zM L (σ 0 1) s0 := by
    refine ⟨w1, by rw [hL1]; exact Nat.lt_succ_self _, (eLl 97 _ (by omega) (by decide) (by decide) (by decide)).trans u97, (eLl 96 _ (by omega) (by decide) (by decide) (by decide)).trans u96, zLi_l xl u97 u96 hfit, fun p q h1 h2 s h3 => ?_, fun p hp => ?_⟩
    · rw [hL1] at h2
      by_cases c : q = σ 0 1
      · exact Or.inr c
      · exfalso
        unfold rMy at h3
        rw [eLl 96 p (by omega) (by decide) (by decide) (by decide), eLl 96 q (by omega) (by decide) (by decide) (by decide), eLl 97 p (by omega) (by decide) (by decide) (by decide), eLl 97 q (by omega) (by decide) (by decide) (by decide), eXp 96 p (by omega) (by decide) (by decide) (by decide), eXp 96 q c (by decide) (by decide) (by decide), eXp 97 p (by omega) (by decide) (by decide) (by decide), eXp 97 q c (by decide) (by decide) (by decide), qdf_congr (P := fun k => σ (112 + k) p) (Q := fun k => σ (112 + k) q) (fun k hk => (eLl (112 + k) p (by omega) (by omega) (by omega) (by omega)).trans (eXp (112 + k) p (by omega) (by omega) (by omega) (by omega))) (fun k hk => (eLl (112 + k) q (by omega) (by omega) (by omega) (by omega)).trans (eXp (112 + k) q c (by omega) (by omega) (by omega)))] at h3
        exact ip.2.2.1 p q h1 (by omega) s h3
    · rw [hL1] at hp
      rw [eLl 97 p (by omega) (by decide) (by decide) (by decide)]
      by_cases c : p = σ 0 1
      · rw [c, u97]; exact Nat.zero_le _
      · rw [eXp 97 p c (by decide) (by decide) (by decide)]; exact ip.2.2.2 p (by omega)
  -- the reference's state
  have hρ0 : ρ 0 0 = σ 0 0 := hR.n (by decide)
  have hρ1 : ρ 0 1 = σ 0 1 := hR.n (by decide)
  obtain ⟨v0, v64, v65, v66, v67, v69, v80, v81, v82⟩ := rLi_v (ρ := ρ) (s0 := s0) (r0 := r0) (x1 := x1) (x2 := x2) (x3 := x3) (b0 := b0)
  rw [hρ0] at v0 v64 v65 v66 v67 v69 v80 v81 v82
  have hI1 : rLi ρ s0 r0 x1 x2 x3 b0 0 1 = σ 0 1 := (rLi_o (by omega) (by omega)).trans hρ1
  have hIo : ∀ r j, ¬ (64 ≤ r ∧ r < 96 ∧ j = σ 0 0) → ¬ (r = 0 ∧ j = 0) → rLi ρ s0 r0 x1 x2 x3 b0 r j = ρ r j := fun r j q1 q2 => rLi_o (by rw [hρ0]; exact q1) q2
  generalize hI : rLi ρ s0 r0 x1 x2 x3 b0 = I at v0 v64 v65 v66 v67 v69 v80 v81 v82 hI1 hIo
  generalize hπe : qup (rLr I (ρ 0 0)) 68 (ρ 0 0) (I 0 1) = π
  rw [hρ0, hI1] at hπe
  have pv : ∀ r j, π r j = if r = 68 ∧ j = σ 0 0 then σ 0 1 else if r = 0 ∧ j = 1 then σ 0 1 + 1 else if 112 ≤ r ∧ r < 115 ∧ j = σ 0 1 then I (80 + (r - 112)) (σ 0 0) + 1 else if r = 96 ∧ j = σ 0 1 then s0 else I r j := fun r j => by
    rw [← hπe]
    unfold rLr
    rw [hI1, v64]
    show (if r = 68 ∧ j = σ 0 0 then σ 0 1 else if r = 0 ∧ j = 1 then σ 0 1 + 1 else rLp (qup I 96 (σ 0 1) s0) (σ 0 0) 3 r j) = _
    by_cases c1 : r = 68 ∧ j = σ 0 0
    · rw [if_pos c1, if_pos c1]
    rw [if_neg c1, if_neg c1]
    by_cases c2 : r = 0 ∧ j = 1
    · rw [if_pos c2, if_pos c2]
    rw [if_neg c2, if_neg c2]
    unfold rLp
    rw [show qup I 96 (σ 0 1) s0 0 1 = I 0 1 from qup_k (by decide), hI1]
    by_cases c3 : 112 ≤ r ∧ r < 115 ∧ j = σ 0 1
    · rw [if_pos c3, if_pos (show 112 ≤ r ∧ r < 112 + 3 ∧ j = σ 0 1 from c3), qup_k (by omega)]
    rw [if_neg c3, if_neg (show ¬ (112 ≤ r ∧ r < 112 + 3 ∧ j = σ 0 1) from c3)]
    rfl
  have hR1 : zRel X (fun r j => if (96 ≤ r ∧ r < 128 ∧ j = σ 0 1) ∨ (r = 0 ∧ j = 1) then π r j else ρ r j) := by
    refine hR.add (J := 1) (Or.inr (Or.inl rfl)) (fun r j q1 q2 => eX r j q1 q2) eX1 (fun r j q1 q2 => if_neg (fun z => z.elim q1 q2)) ?_ (fun r hr => ?_) (fun z => absurd z (by decide)) (fun z => absurd z (by decide))
    · show (if (96 ≤ 0 ∧ 0 < 128 ∧ 1 = σ 0 1) ∨ (0 = 0 ∧ 1 = 1) then π 0 1 else ρ 0 1) = _
      rw [if_pos (Or.inr ⟨rfl, rfl⟩), pv, if_neg (by omega), if_pos ⟨rfl, rfl⟩]
    · have hr3 : 96 ≤ r ∧ r < 128 := by rcases hr with q | q <;> omega
      show (if (96 ≤ r ∧ r < 128 ∧ σ 0 1 = σ 0 1) ∨ (r = 0 ∧ σ 0 1 = 1) then π r (σ 0 1) else ρ r (σ 0 1)) = _
      rw [if_pos (Or.inl ⟨hr3.1, hr3.2, rfl⟩), pv, if_neg (by omega), if_neg (by omega)]
      have hr2 : r = 96 ∨ r = 97 ∨ r = 112 ∨ r = 113 ∨ r = 114 := by rcases hr with q | q <;> omega
      rcases hr2 with rfl | rfl | rfl | rfl | rfl
      · rw [u96, if_neg (by omega), if_pos ⟨rfl, rfl⟩]
      · rw [u97, if_neg (by omega), if_neg (by omega), hIo 97 _ (by omega) (by omega)]; exact hR.2.2.2.2.1 _ (Nat.le_refl _)
      · rw [u112, if_pos ⟨by decide, by decide, rfl⟩, v80]
      · rw [u113, if_pos ⟨by decide, by decide, rfl⟩, v81]
      · rw [u114, if_pos ⟨by decide, by decide, rfl⟩, v82]
  have pL : ∀ r v, 64 ≤ r → r < 96 → r ≠ 68 → I r (σ 0 0) = v → π r (X 0 0) = v := fun r v q1 q2 q3 q4 => by
    rw [pv, hX00, if_neg (fun z => q3 z.1), if_neg (by omega), if_neg (by omega), if_neg (by omega)]; exact q4
  have hRL : zRel L π := by
    refine zLi_R hR1 (fun r j q1 q2 => ?_) ?_ (pL 64 _ (by decide) (by decide) (by decide) v64) (pL 65 _ (by decide) (by decide) (by decide) v65) (pL 66 _ (by decide) (by decide) (by decide) v66) ?_ ?_ (pL 69 _ (by decide) (by decide) (by decide) v69) (pL 80 _ (by decide) (by decide) (by decide) v80) (pL 81 _ (by decide) (by decide) (by decide) v81) (pL 82 _ (by decide) (by decide) (by decide) v82)
    · rw [hX00] at q1
      show π r j = if (96 ≤ r ∧ r < 128 ∧ j = σ 0 1) ∨ (r = 0 ∧ j = 1) then π r j else ρ r j
      by_cases c : (96 ≤ r ∧ r < 128 ∧ j = σ 0 1) ∨ (r = 0 ∧ j = 1)
      · rw [if_pos c]
      · rw [if_neg c, pv, if_neg (by omega), if_neg (by omega), if_neg (by omega), if_neg (by omega)]
        exact hIo r j q1 q2
    · rw [pv, hX00, if_neg (by omega), if_neg (by omega), if_neg (by omega), if_neg (by omega), v0]
    · rw [pL 67 _ (by decide) (by decide) (by decide) v67, hR.t, eXl 1 0 (by omega) (by decide) (by decide) (by decide)]
    · rw [pv, hX00, if_pos ⟨rfl, rfl⟩]
  obtain ⟨M, m1, m2, ⟨c2, m3⟩, m4⟩ := zMerge hM hRL
  have eT : ∀ r j, r < 112 ∨ 115 ≤ r → r ≠ 68 → r ≠ 97 → T r j = L r j := (qmI_ok hM.1 hM.2.1 (L 0 1)).2.2
  have eT0 : ∀ j, T 0 j = L 0 j := fun j => eT 0 j (by omega) (by decide) (by decide)
  have wT : zIw T (zκs T (X 0 0) 0) := by
    have hw1 : zIw T (zκs L (X 0 0) 0) := ⟨m3.1, w2.of (fun r j hr => eT r j (by omega) (by omega) (by omega)) (fun j _ => ⟨eT _ _ (by omega) (by decide) (by decide), eT _ _ (by omega) (by decide) (by decide)⟩) w1, w3.of (fun r j hr => eT r j (by omega) (by omega) (by omega)), w4.of (fun r j hr => eT r j (by omega) (by omega) (by omega)), ⟨by rw [eT0, eT0, eL00, hL1, hX00]; have := ip.1; omega, m3.2.2.2.2.1, fun p q h1 h2 s => m4 p q h1 (by rw [← eT0]; exact h2) s, m3.2.2.2.2.2.2⟩, w5.of (fun r j hr => eT r j (by omega) (by omega) (by omega)) (fun l _ _ z => (eT 70 l (by omega) (by decide) (by decide)).trans z) (fun j hj => by rw [eT 16 j (by omega) (by decide) (by decide), eT0]; exact w5.2.2.2.2.1 j hj)⟩
    exact hw1.cong (zκs_le T (X 0 0) 0) (fun a l ha _ => by
      rw [eT0] at ha
      unfold zκs
      split
      · rfl
      · exact qB_c (qcn_of (w1.plc ha) (eT 1 0 (by omega) (by decide) (by decide)) (fun r hr hr2 => eT r l (by omega) hr2.2 (by omega)) (by rw [eT 69 l (by omega) (by decide) (by decide)]) (fun r hr => eT r a (by omega) (by omega) (by omega))))
  have hlo : ∀ r j, r < 64 ∨ 128 ≤ r → r ≠ 0 → r ≠ 16 → r ≠ 32 → T r j = σ r j := fun r j q1 q2 q3 q4 => (eT r j (by omega) (by omega) (by omega)).trans ((eLl r j (by omega) q2 q3 q4).trans (eXl r j (by omega) q2 q3 q4))
  have hT0 : ∀ j, j ≠ 0 → j ≠ 1 → T 0 j = σ 0 j := fun j q1 q2 => (eT0 j).trans ((eL0 j q1).trans (eX0 j q2))
  have hT00 : T 0 0 = σ 0 0 + 1 := by rw [eT0, eL00, hX00]
  obtain ⟨k1, k2, k3, ⟨N, k4, k5⟩, k6⟩ := zComes (σ := σ) (s0 := s0) hs0 wT m2 (by rw [hT00, hX00]; exact Nat.lt_succ_self _) (fun a ha => by
    rw [hT0 2 (by decide) (by decide)] at ha
    have := hk a ha
    unfold zLk at this ⊢
    rw [hlo 131 a (by omega) (by decide) (by decide) (by decide), hlo 128 a (by omega) (by decide) (by decide) (by decide), hlo 132 a (by omega) (by decide) (by decide) (by decide)]; exact this) (by rw [hT0 3 (by decide) (by decide), hT0 2 (by decide) (by decide)]; exact hf) hT00 hn (fun x hx => by
    rw [hT0 4 (by decide) (by decide)] at hx
    rw [hlo 193 x (by omega) (by decide) (by decide) (by decide), hlo 192 x (by omega) (by decide) (by decide) (by decide), hlo 1 0 (by omega) (by decide) (by decide) (by decide)]; exact hrq x hx)
  have hρ2 : ρ 0 2 = T 0 2 := (hR.n (by decide)).trans (hT0 2 (by decide) (by decide)).symm
  refine ⟨k1, k2, k3, hT0, hX00, eX 32 0 (by omega) (by omega), ?_, ⟨N, zMf L π (σ 0 1), zMp L (σ 0 1), zMq L (σ 0 1), M, rfl, m1, ?_, ?_⟩, k6⟩
  · rw [eT 32 3 (by omega) (by decide) (by decide), eL 32 3 (by omega) (by omega), eX 32 3 (by omega) (by omega)]
  · rw [hρ2]; exact k4
  · rw [hρ2]; exact k5
