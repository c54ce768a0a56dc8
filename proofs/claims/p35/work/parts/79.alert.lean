/-! an alert is added, in both -/
def zκa (σ : QSt) (a0 i : Nat) : Nat → Nat → Nat := fun x l => if x = a0 ∧ i ≤ l then 0 else qB (qcn σ x l)
theorem zκa_le (σ : QSt) (a0 i x l : Nat) : zκa σ a0 i x l ≤ 1 := by
  unfold zκa; split
  · exact Nat.zero_le _
  · exact qB_le
theorem zAl {σ ρ : QSt} (h : zIv σ) (hR : zRel σ ρ) {s0 r0 P w0 g0 n0 h0 : Nat} (hs0 : s0 < 4) (hr0 : r0 < 5) (hP : P ≤ 3) (hw0 : w0 < 100) (hg0 : 1 ≤ g0 ∧ g0 ≤ 9) (hn0 : 1 ≤ n0 ∧ n0 ≤ 50) (hh0 : h0 ≤ 20) (hn2 : σ 0 2 < 6) : zIw (qfAl σ s0 r0 P w0 g0 n0 h0) (zκa (qfAl σ s0 r0 P w0 g0 n0 h0) (σ 0 2) 0) ∧ zRel (qfAl σ s0 r0 P w0 g0 n0 h0) (rAl ρ s0 r0 P w0 g0 n0 h0) := by
  obtain ⟨hw, hk, hf, hrq⟩ := id h
  obtain ⟨hF, ia, ig, iff_, ip, io⟩ := id hw
  have h16 := io.2.2.2.2.1 2 (by decide)
  generalize hA : qfAl σ s0 r0 P w0 g0 n0 h0 = A
  have e : ∀ r j, ¬ (128 ≤ r ∧ r < 160 ∧ j = σ 0 2) → ¬ ((r = 0 ∨ r = 16 ∨ r = 32) ∧ j = 2) → A r j = σ r j := fun r j q1 q2 => by rw [← hA]; exact qfAl_r q1 q2
  have e2 : A 0 2 = σ 0 2 + 1 := by rw [← hA]; exact qfAl_02
  have e0 : ∀ j, j ≠ 2 → A 0 j = σ 0 j := fun j hj => e 0 j (by omega) (by omega)
  have ei : ∀ r v, ([(128, g0), (129, n0), (130, h0), (131, 113), (132, 0), (133, 0), (134, 0), (144, s0), (145, r0), (146, P), (147, w0)]).find? (fun x => x.1 == r) = some (r, v) → 64 ≤ r → A r (σ 0 2) = v := fun r v q1 q2 => by rw [← hA]; exact qad_in q1 q2
  have v128 := ei 128 g0 rfl (by decide)
  have v129 := ei 129 n0 rfl (by decide)
  have v130 := ei 130 h0 rfl (by decide)
  have v131 := ei 131 113 rfl (by decide)
  have v132 := ei 132 0 rfl (by decide)
  have v133 := ei 133 0 rfl (by decide)
  have v134 := ei 134 0 rfl (by decide)
  have v144 := ei 144 s0 rfl (by decide)
  have v145 := ei 145 r0 rfl (by decide)
  have v146 := ei 146 P rfl (by decide)
  have v147 := ei 147 w0 rfl (by decide)
  have ho : ∀ r x, x ≠ σ 0 2 → r ≠ 0 → r ≠ 16 → r ≠ 32 → A r x = σ r x := fun r x q1 q2 q3 q4 => e r x (by omega) (by omega)
  have hlo : ∀ r j, r < 128 ∨ 160 ≤ r → r ≠ 0 → r ≠ 16 → r ≠ 32 → A r j = σ r j := fun r j q1 q2 q3 q4 => e r j (by omega) (by omega)
  have hcn : ∀ x l, x < σ 0 2 → (qcn A x l ↔ qcn σ x l) := fun x l hx => qcn_of (hF.plc hx) (hlo 1 0 (by omega) (by decide) (by decide) (by decide)) (fun r hr _ => by rcases hr with q | q <;> exact hlo r l (by omega) (by omega) (by omega) (by omega)) (by rw [hlo 69 l (by omega) (by decide) (by decide) (by decide)]) (fun r hr => by rcases hr with q | q <;> exact ho r x (by omega) (by omega) (by omega) (by omega))
  constructor
  · refine ⟨?_, ?_, ?_, ?_, ?_, ?_⟩
    · rw [← hA]; exact qfAl_wf hF hn2 (by omega) hP ⟨hs0, hr0, hw0, by omega, by omega, hh0⟩
    · intro x hx
      rw [e2] at hx
      by_cases c : x = σ 0 2
      · subst c
        rw [v131, v133, v130, v128, v129, v134]
        exact ⟨Or.inl rfl, fun z => absurd z (by decide), fun _ => rfl, by decide, hh0, hg0.1, hn0.1, hn0.2, fun z => absurd rfl z, fun z => absurd rfl z⟩
      · have g := ia x (by omega)
        rw [ho 131 x c (by decide) (by decide) (by decide), ho 133 x c (by decide) (by decide) (by decide), ho 130 x c (by decide) (by decide) (by decide), ho 128 x c (by decide) (by decide) (by decide), ho 129 x c (by decide) (by decide) (by decide), ho 134 x c (by decide) (by decide) (by decide), hlo 160 _ (by omega) (by decide) (by decide) (by decide), hlo 162 _ (by omega) (by decide) (by decide) (by decide)]
        exact g
    · refine ⟨zκa_le A (σ 0 2) 0, fun x hx => ?_, fun l hl => ?_, fun l hl => ?_⟩
      · rw [e2] at hx
        rw [e0 0 (by decide)]
        by_cases c : x = σ 0 2
        · subst c
          rw [v132]
          exact (qsum_zero _ (fun l _ => if_pos ⟨rfl, Nat.zero_le _⟩)).symm
        · rw [ho 132 x c (by decide) (by decide) (by decide), ig.2.1 x (by omega)]
          refine (qsum_congr _ (fun l _ => ?_)).symm
          unfold zκa
          rw [if_neg (fun z => c z.1)]
          exact qB_c (hcn x l (by omega))
      · rw [e0 0 (by decide)] at hl
        rw [e2, e0 3 (by decide), qsum, hlo 70 l (by omega) (by decide) (by decide) (by decide), ig.2.2.1 l hl, show zκa A (σ 0 2) 0 (σ 0 2) l = 0 from if_pos ⟨rfl, Nat.zero_le _⟩]
        have h1 : qsum (fun a => zκa A (σ 0 2) 0 a l) (σ 0 2) = qsum (fun a => zκ σ a l) (σ 0 2) := qsum_congr _ (fun a ha => by
          unfold zκa
          rw [if_neg (fun z => by omega)]
          exact qB_c (hcn a l ha))
        have h2 : qsum (fun f => qB (A (1000 + f) l = 1)) (σ 0 3) = qsum (fun f => qB (σ (1000 + f) l = 1)) (σ 0 3) := qsum_congr _ (fun f _ => by rw [hlo (1000 + f) l (by omega) (by omega) (by omega) (by omega)])
        rw [h1, h2, Nat.add_zero]
      · rw [e0 0 (by decide)] at hl
        rw [hlo 70 l (by omega) (by decide) (by decide) (by decide)]; exact ig.2.2.2 l hl
    · exact iff_.of (fun r j hr => e r j (by omega) (by omega))
    · exact ip.of (fun r j hr => e r j (by omega) (by omega))
    · refine io.of (fun r j hr => e r j (by omega) (by omega)) (fun l _ _ z => (hlo 70 l (by omega) (by decide) (by decide) (by decide)).trans z) (fun j hj => ?_)
      by_cases c : j = 2
      · rw [c, e2, show A 16 2 = σ 16 2 + 1 from by rw [← hA]; exact qad_16 qfAl_ha, h16]
      · rw [e0 j c, e 16 j (by omega) (by omega)]; exact io.2.2.2.2.1 j hj
  · have n2 : ρ 0 2 = σ 0 2 := hR.n (by decide)
    refine hR.add (J := 2) (Or.inr (Or.inr (Or.inl rfl))) (fun r j q1 q2 => e r j q1 q2) e2 (fun r j q1 q2 => ?_) ?_ (fun r hr => ?_) (fun _ => v134) (fun z => absurd z (by decide))
    · unfold rAl
      rw [n2]
      unfold qup
      rw [if_neg q2, if_neg (by omega), if_neg (by omega), if_neg (by omega), if_neg (by omega), if_neg (by omega), if_neg (by omega), if_neg (by omega), if_neg (by omega)]
    · unfold rAl; rw [n2, qup_s]
    · have hr2 : r = 128 ∨ r = 129 ∨ r = 130 ∨ r = 131 ∨ r = 133 ∨ r = 144 ∨ r = 145 ∨ r = 146 ∨ r = 147 := by rcases hr with q | q | q <;> omega
      unfold rAl
      rw [n2]
      rcases hr2 with rfl | rfl | rfl | rfl | rfl | rfl | rfl | rfl | rfl
      · rw [v128]; exact qup_s _ _ _ _
      · rw [v129]; exact qup_s _ _ _ _
      · rw [v130]; exact qup_s _ _ _ _
      · rw [v131]; exact qup_s _ _ _ _
      · rw [v133]; exact hR.2.2.2.2.2.1 _ (Nat.le_refl _)
      · rw [v144]; exact qup_s _ _ _ _
      · rw [v145]; exact qup_s _ _ _ _
      · rw [v146]; exact qup_s _ _ _ _
      · rw [v147]; exact qup_s _ _ _ _
theorem zCa {A ρ : QSt} {a0 : Nat} (h : zIw A (zκa A a0 0)) (hR : zRel A ρ) (ha : a0 < A 0 2) : ∀ i, i ≤ A 0 0 → zIw (qfCa A a0 i) (zκa A a0 i) ∧ zRel (qfCa A a0 i) ρ ∧ (∀ r j, r ≠ 132 → r ≠ 70 → qfCa A a0 i r j = A r j) ∧ ∀ x, x ≠ a0 → qfCa A a0 i 132 x = A 132 x
  | 0, _ => ⟨h, hR, fun _ _ _ _ => rfl, fun _ _ => rfl⟩
  | i + 1, hi => by
    obtain ⟨g1, g2, g3, g4⟩ := zCa h hR ha i (by omega)
    have e0 : qfCa A a0 i 0 0 = A 0 0 := g3 0 0 (by decide) (by decide)
    have e2 : qfCa A a0 i 0 2 = A 0 2 := g3 0 2 (by decide) (by decide)
    have hcn : ∀ x l, A 146 x ≤ 3 → (qcn (qfCa A a0 i) x l ↔ qcn A x l) := fun x l hx => qcn_of hx (g3 1 0 (by decide) (by decide)) (fun r hr _ => g3 r l (by omega) (by omega)) (by rw [g3 69 l (by decide) (by decide)]) (fun r hr => g3 r x (by omega) (by omega))
    refine ⟨g1.cd (a := a0) (l0 := i) (by omega) (by omega) (if_pos ⟨rfl, Nat.le_refl _⟩) (fun x l hx => ?_) ?_, g2.cd a0 i, fun r j q1 q2 => (qfCd_r q1 q2).trans (g3 r j q1 q2), fun x hx => ?_⟩
    · unfold zκa
      by_cases c : x = a0 ∧ i ≤ l
      · rw [if_pos c, if_pos ⟨c.1, by
          rcases Nat.lt_or_ge i l with q | q
          · exact q
          · exact absurd ⟨c.1, by omega⟩ hx⟩]
      · rw [if_neg c, if_neg (fun z => c ⟨z.1, by omega⟩)]
    · unfold zκa
      rw [if_neg (fun z => by omega)]
      exact qB_c (hcn a0 i (h.wf.plc ha)).symm
    · show qfCd (qfCa A a0 i) a0 i 132 x = _
      unfold qfCd
      split
      · rw [qup_k (by decide), qup_j hx]; exact g4 x hx
      · exact g4 x hx
theorem zAdd {σ ρ : QSt} (h : zIv σ) (hR : zRel σ ρ) {s0 r0 P w0 g0 n0 h0 : Nat} (hs0 : s0 < 4) (hr0 : r0 < 5) (hP : P ≤ 3) (hw0 : w0 < 100) (hg0 : 1 ≤ g0 ∧ g0 ≤ 9) (hn0 : 1 ≤ n0 ∧ n0 ≤ 50) (hh0 : h0 ≤ 20) (hn2 : σ 0 2 < 6) (hn3 : σ 0 3 < 1300) : zIv (qfAa σ s0 r0 P w0 g0 n0 h0) ∧ zRel (qfAa σ s0 r0 P w0 g0 n0 h0) (rLk (rAl ρ s0 r0 P w0 g0 n0 h0) (ρ 0 2)) := by
  obtain ⟨hw, hk, hf, hrq⟩ := id h
  obtain ⟨i1, r1⟩ := zAl h hR hs0 hr0 hP hw0 hg0 hn0 hh0 hn2
  have e : ∀ r j, ¬ (128 ≤ r ∧ r < 160 ∧ j = σ 0 2) → ¬ ((r = 0 ∨ r = 16 ∨ r = 32) ∧ j = 2) → qfAl σ s0 r0 P w0 g0 n0 h0 r j = σ r j := fun r j q1 q2 => qfAl_r q1 q2
  have e2 : qfAl σ s0 r0 P w0 g0 n0 h0 0 2 = σ 0 2 + 1 := qfAl_02
  have e00 : qfAl σ s0 r0 P w0 g0 n0 h0 0 0 = σ 0 0 := e 0 0 (by omega) (by omega)
  have v131 : qfAl σ s0 r0 P w0 g0 n0 h0 131 (σ 0 2) = 113 := qad_in rfl (by decide)
  have v128 : qfAl σ s0 r0 P w0 g0 n0 h0 128 (σ 0 2) = g0 := qad_in rfl (by decide)
  obtain ⟨c1, c2, c3, c4⟩ := zCa i1 r1 (by rw [e2]; exact Nat.lt_succ_self _) (σ 0 0) (by rw [e00]; exact Nat.le_refl _)
  have hC : qfCa (qfAl σ s0 r0 P w0 g0 n0 h0) (σ 0 2) (σ 0 0) = qfAc σ s0 r0 P w0 g0 n0 h0 := rfl
  rw [hC] at c1 c2 c3 c4
  generalize hCe : qfAc σ s0 r0 P w0 g0 n0 h0 = C at c1 c2 c3 c4
  have k2 : C 0 2 = σ 0 2 + 1 := (c3 0 2 (by decide) (by decide)).trans e2
  have k0 : C 0 0 = σ 0 0 := (c3 0 0 (by decide) (by decide)).trans e00
  have k3 : C 0 3 = σ 0 3 := (c3 0 3 (by decide) (by decide)).trans (e 0 3 (by omega) (by omega))
  have hwC : zIw C (zκ C) := c1.cong (fun a l => qB_le) (fun x l hx hl => by
    unfold zκa
    rw [if_neg (fun z => by omega)]
    exact qB_c (qcn_of (i1.wf.plc (by omega)) (c3 1 0 (by decide) (by decide)) (fun r hr _ => c3 r l (by omega) (by omega)) (by rw [c3 69 l (by decide) (by decide)]) (fun r hr => c3 r x (by omega) (by omega))))
  have hcnt : C 132 (σ 0 2) = qcnt C (σ 0 2) := hwC.ig.2.1 (σ 0 2) (by omega)
  have k131 : C 131 (σ 0 2) = 113 := (c3 131 _ (by decide) (by decide)).trans v131
  have k128 : C 128 (σ 0 2) = g0 := (c3 128 _ (by decide) (by decide)).trans v128
  have hAa : qfAa σ s0 r0 P w0 g0 n0 h0 = qLook C (σ 0 2) := by
    unfold qfAa
    rw [hCe]
    by_cases c : g0 ≤ C 132 (σ 0 2)
    · rw [if_pos c, qLook_t ⟨by rw [k128]; exact c, Or.inl k131⟩]
    · rw [if_neg c, qLook_f (fun z => c (by rw [← k128]; exact z.1))]
      unfold qfLk
      rw [if_neg (by rw [k128]; exact c), if_neg (by rw [k131]; decide)]
  obtain ⟨l1, l2, l3⟩ := zLook hwC c2 (a := σ 0 2) (by omega) hcnt (fun _ => by rw [k3]; exact hn3)
  rw [hAa, hR.n (by decide)]
  refine ⟨⟨?_, fun x hx => ?_, ?_, fun x hx => ?_⟩, l2⟩
  · exact l1.cong (fun a l => qB_le) (fun a l ha _ => by
      rw [qLook_0 (by decide)] at ha
      exact qB_c (zLook_cn (hwC.wf.plc ha)))
  · by_cases c : x = σ 0 2
    · rw [c]; exact l3
    · rw [qLook_0 (by decide), k2] at hx
      have g := hk x (by omega)
      unfold zLk at g ⊢
      rw [zLook_s (Or.inl rfl) c, zLook_r (r := 128) (by decide) (by decide) (by decide) (by decide) (by decide) (by decide) (by decide) (by decide) (by decide) (by decide), zLook_r (r := 132) (by decide) (by decide) (by decide) (by decide) (by decide) (by decide) (by decide) (by decide) (by decide) (by decide), c3 131 x (by decide) (by decide), c3 128 x (by decide) (by decide), c4 x c, e 131 x (by omega) (by omega), e 128 x (by omega) (by omega), e 132 x (by omega) (by omega)]
      exact g
  · rw [qLook_03, qLook_0 (by decide), qLook_0 (by decide), k3, k0, k2]
    have := qB_le (p := qNew C (σ 0 2))
    omega
  · rw [qLook_0 (by decide), c3 0 4 (by decide) (by decide), e 0 4 (by omega) (by omega)] at hx
    rw [zLook_r (r := 193) (by decide) (by decide) (by decide) (by decide) (by decide) (by decide) (by decide) (by decide) (by decide) (by decide), zLook_r (r := 192) (by decide) (by decide) (by decide) (by decide) (by decide) (by decide) (by decide) (by decide) (by decide) (by decide), zLook_r (r := 1) (by decide) (by decide) (by decide) (by decide) (by decide) (by decide) (by decide) (by decide) (by decide) (by decide), c3 193 x (by decide) (by decide), c3 192 x (by decide) (by decide), c3 1 0 (by decide) (by decide), e 193 x (by omega) (by omega), e 192 x (by omega) (by omega), e 1 0 (by omega) (by omega)]
    exact hrq x hx
