/-! a line is shown to all alerts, in both -/
theorem zCd_cn {σ : QSt} {a l0 x l : Nat} (hP : σ 146 x ≤ 3) : qcn (qfCd σ a l0) x l ↔ qcn σ x l :=
  qcn_of hP (qfCd_r (by decide) (by decide)) (fun r hr _ => qfCd_r (by omega) (by omega)) (by rw [qfCd_r (by decide) (by decide)]) (fun r hr => qfCd_r (by omega) (by omega))
theorem zSa_r {σ : QSt} {l0 r j : Nat} (h : r < 1000) (h1 : r ≠ 70) (h2 : r ≠ 163) (h3 : r ≠ 131) (h4 : r ≠ 133) (h5 : r ≠ 0) (h6 : r ≠ 16) (h7 : r ≠ 32) (h8 : r ≠ 134) (h9 : r < 160 ∨ 192 ≤ r) (h10 : r ≠ 132) : ∀ i, qfSa σ l0 i r j = σ r j
  | 0 => rfl
  | i + 1 => by
    show qLook (qfCd (qfSa σ l0 i) i l0) i r j = _
    rw [zLook_r h h1 h2 h3 h4 h5 h6 h7 h8 h9, qfCd_r h10 h1]
    exact zSa_r h h1 h2 h3 h4 h5 h6 h7 h8 h9 h10 i
def zκs (σ : QSt) (l0 i : Nat) : Nat → Nat → Nat := fun a l => if l = l0 ∧ i ≤ a then 0 else qB (qcn σ a l)
theorem zκs_le (σ : QSt) (l0 i a l : Nat) : zκs σ l0 i a l ≤ 1 := by
  unfold zκs; split
  · exact Nat.zero_le _
  · exact qB_le
theorem zShow {σ ρ : QSt} {l0 : Nat} (h : zIw σ (zκs σ l0 0)) (hR : zRel σ ρ) (hl0 : l0 < σ 0 0) (hk : ∀ a, a < σ 0 2 → zLk σ a) (hn : σ 0 3 + σ 0 2 ≤ 1300) : ∀ i, i ≤ σ 0 2 → zIw (qfSa σ l0 i) (zκs σ l0 i) ∧ zRel (qfSa σ l0 i) (rLs ρ i) ∧ (∀ a, a < σ 0 2 → zLk (qfSa σ l0 i) a) ∧ (∀ j, j ≠ 3 → qfSa σ l0 i 0 j = σ 0 j) ∧ qfSa σ l0 i 0 3 ≤ σ 0 3 + i ∧ (∀ k, k < i → qWF (qfSa σ l0 k) ∧ qOk (qfCd (qfSa σ l0 k) k l0) k)
  | 0, _ => ⟨h, hR, hk, fun _ _ => rfl, Nat.le_refl _, fun k hk => absurd hk (Nat.not_lt_zero _)⟩
  | i + 1, hi => by
    obtain ⟨g1, g2, g3, g4, g5, g6⟩ := zShow h hR hl0 hk hn i (by omega)
    generalize hX : qfSa σ l0 i = X at g1 g2 g3 g4 g5
    have e2 : X 0 2 = σ 0 2 := g4 2 (by decide)
    have e0 : X 0 0 = σ 0 0 := g4 0 (by decide)
    have hF := g1.wf
    have eX : ∀ r j, r < 1000 → r ≠ 70 → r ≠ 163 → r ≠ 131 → r ≠ 133 → r ≠ 0 → r ≠ 16 → r ≠ 32 → r ≠ 134 → (r < 160 ∨ 192 ≤ r) → r ≠ 132 → X r j = σ r j := fun r j a1 a2 a3 a4 a5 a6 a7 a8 a9 a10 a11 => by rw [← hX]; exact zSa_r a1 a2 a3 a4 a5 a6 a7 a8 a9 a10 a11 i
    have hP : ∀ a, a < σ 0 2 → σ 146 a ≤ 3 := fun a ha => h.wf.plc ha
    have hPX : ∀ a, a < σ 0 2 → X 146 a ≤ 3 := fun a ha => hF.plc (by omega)
    have hcX : ∀ a l, a < σ 0 2 → (qcn X a l ↔ qcn σ a l) := fun a l ha => qcn_of (hP a ha) (eX 1 0 (by decide) (by decide) (by decide) (by decide) (by decide) (by decide) (by decide) (by decide) (by decide) (by decide) (by decide)) (fun r hr _ => by rcases hr with q | q <;> exact eX r l (by omega) (by omega) (by omega) (by omega) (by omega) (by omega) (by omega) (by omega) (by omega) (by omega) (by omega)) (by rw [eX 69 l (by decide) (by decide) (by decide) (by decide) (by decide) (by decide) (by decide) (by decide) (by decide) (by decide) (by decide)]) (fun r hr => by rcases hr with q | q <;> exact eX r a (by omega) (by omega) (by omega) (by omega) (by omega) (by omega) (by omega) (by omega) (by omega) (by omega) (by omega))
    have hi2 : i < X 0 2 := by omega
    have hcd := g1.cd (κ2 := zκs σ l0 (i + 1)) (a := i) (l0 := l0) hi2 (by omega) (if_pos ⟨rfl, Nat.le_refl _⟩) (fun x l hx => by
      unfold zκs
      by_cases c : l = l0 ∧ i ≤ x
      · rw [if_pos c, if_pos ⟨c.1, by
          rcases Nat.lt_or_ge i x with q | q
          · exact q
          · exact absurd ⟨by omega, c.1⟩ hx⟩]
      · rw [if_neg c, if_neg (fun z => c ⟨z.1, by omega⟩)]) (by
      unfold zκs
      rw [if_neg (fun z => by omega)]
      exact qB_c (hcX i l0 (by omega)).symm)
    have hrel := g2.cd i l0
    have eY : ∀ r j, r ≠ 132 → r ≠ 70 → qfCd X i l0 r j = X r j := fun r j q1 q2 => qfCd_r q1 q2
    have hY2 : i < qfCd X i l0 0 2 := by rw [eY 0 2 (by decide) (by decide)]; exact hi2
    have hcnt : qfCd X i l0 132 i = qcnt (qfCd X i l0) i := by
      rw [hcd.ig.2.1 i hY2]
      unfold qcnt
      refine qsum_congr _ (fun l _ => ?_)
      unfold zκs
      rw [if_neg (fun z => by omega)]
      exact qB_c ((hcX i l (by omega)).symm.trans (zCd_cn (hPX i (by omega))).symm)
    have h3 : qfCd X i l0 0 3 < 1300 := by rw [eY 0 3 (by decide) (by decide)]; omega
    obtain ⟨k1, k2, k3⟩ := zLook hcd hrel hY2 hcnt (fun _ => h3)
    have hs : qfSa σ l0 (i + 1) = qLook (qfCd X i l0) i := by rw [← hX]; rfl
    rw [hs]
    refine ⟨k1, k2, fun a ha => ?_, fun j hj => ?_, ?_, fun k hk2 => ?_⟩
    · by_cases c : a = i
      · rw [c]; exact k3
      · have g := g3 a ha
        unfold zLk at g ⊢
        rw [zLook_s (Or.inl rfl) c, zLook_r (r := 128) (by decide) (by decide) (by decide) (by decide) (by decide) (by decide) (by decide) (by decide) (by decide) (by decide), zLook_r (r := 132) (by decide) (by decide) (by decide) (by decide) (by decide) (by decide) (by decide) (by decide) (by decide) (by decide), eY 131 a (by decide) (by decide), eY 128 a (by decide) (by decide)]
        have e132 : qfCd X i l0 132 a = X 132 a := by
          unfold qfCd
          split
          · rw [qup_k (by decide), qup_j c]
          · rfl
        rw [e132]
        exact g
    · rw [qLook_0 hj, eY 0 j (by decide) (by decide)]; exact g4 j hj
    · rw [qLook_03, eY 0 3 (by decide) (by decide)]
      have := qB_le (p := qNew (qfCd X i l0) i)
      omega
    · rcases Nat.lt_succ_iff_lt_or_eq.mp hk2 with q | q
      · exact g6 k q
      · subst q
        rw [hX]
        exact ⟨hF, hcd.ok hY2 h3⟩
/-! ticks: lines leave windows -/
theorem zIw.fl {X : QSt} {κ κ2 : Nat → Nat → Nat} (h : zIw X κ) {a : Nat} (ha : a < X 0 2) (h1 : ∀ x l, κ2 x l ≤ 1) (h2 : ∀ x l, x ≠ a → κ2 x l = κ x l) (h3 : ∀ l, l < X 0 0 → κ a l = κ2 a l + qB (qlv X a l)) : zIw (qfFl X a) κ2 ∧ qfrom (qlv X a) 0 (X 0 0) ≤ X 132 a ∧ ∀ l, l < X 0 0 → qlv X a l → 1 ≤ X 70 l := by
  obtain ⟨hF, ia, ig, iff_, ip, io⟩ := id h
  have e : ∀ r j, r ≠ 70 → r ≠ 132 → qfFl X a r j = X r j := fun r j q1 q2 => qfFlS_r X a 0 j q1 q2
  have hq : qfrom (qlv X a) 0 (X 0 0) = qsum (fun l => qB (qlv X a l)) (X 0 0) := qsum_congr _ (fun l _ => qB_c ⟨fun z => z.2, fun z => ⟨Nat.zero_le _, z⟩⟩)
  have hs : X 132 a = qsum (κ2 a) (X 0 0) + qfrom (qlv X a) 0 (X 0 0) := by
    rw [ig.2.1 a ha, hq, qsum_congr (f := fun l => κ2 a l + qB (qlv X a l)) _ h3, qsum_add]
  have hg : ∀ l, l < X 0 0 → X 70 l = qsum (fun x => κ2 x l) (X 0 2) + qsum (fun f => qB (X (1000 + f) l = 1)) (X 0 3) + qB (qlv X a l) := by
    intro l hl
    rw [ig.2.2.1 l hl]
    have := qsum_upd (f := fun x => κ2 x l) (g := fun x => κ x l) (l0 := a) (fun x hx => (h2 x l hx).symm) (X 0 2) ha
    have h4 := h3 l hl
    omega
  have e132 : qfFl X a 132 a = qsum (κ2 a) (X 0 0) := by
    show qfFlS X a 0 132 a = _
    rw [qfFlS_132, hs]; omega
  have e132x : ∀ x, x ≠ a → qfFl X a 132 x = X 132 x := fun x hx => by
    show qfFlS X a 0 132 x = _
    unfold qfFlS
    rw [qset_k (by decide), qup_j hx]
  have e70 : ∀ l, qfFl X a 70 l = if l < X 0 0 ∧ qlv X a l then X 70 l - 1 else X 70 l := fun l => by
    show qfFlS X a 0 70 l = _
    unfold qfFlS
    by_cases c : l < X 0 0 ∧ qlv X a l
    · rw [if_pos c, qset_in ⟨Nat.zero_le _, c⟩]
    · rw [if_neg c, qset_out (fun z => c z.2), qup_k (by decide)]
  refine ⟨⟨qfFlS_wf hF a 0, ?_, ?_, ?_, ?_, ?_⟩, by omega, fun l hl hv => by rw [hg l hl, qB_t hv]; omega⟩
  · exact ia.of (fun r j hr => e r j (by omega) (by omega)) (fun j _ => ⟨e _ _ (by decide) (by decide), e _ _ (by decide) (by decide)⟩) hF
  · refine ⟨h1, fun x hx => ?_, fun l hl => ?_, fun l hl => ?_⟩
    · rw [e 0 2 (by decide) (by decide)] at hx
      rw [e 0 0 (by decide) (by decide)]
      by_cases c : x = a
      · rw [c]; exact e132
      · rw [e132x x c, ig.2.1 x hx]
        exact (qsum_congr _ (fun l _ => h2 x l c)).symm
    · rw [e 0 0 (by decide) (by decide)] at hl
      rw [e 0 2 (by decide) (by decide), e 0 3 (by decide) (by decide), show qsum (fun f => qB (qfFl X a (1000 + f) l = 1)) (X 0 3) = qsum (fun f => qB (X (1000 + f) l = 1)) (X 0 3) from qsum_congr _ (fun f _ => by rw [e (1000 + f) l (by omega) (by omega)]), e70]
      have := hg l hl
      by_cases c : qlv X a l
      · rw [if_pos ⟨hl, c⟩]; rw [qB_t c] at this; omega
      · rw [if_neg (fun z => c z.2)]; rw [qB_f c] at this; omega
    · rw [e 0 0 (by decide) (by decide)] at hl
      rw [e70, if_neg (fun z => by omega)]; exact ig.2.2.2 l hl
  · exact iff_.of (fun r j hr => e r j (by omega) (by omega))
  · exact ip.of (fun r j hr => e r j (by omega) (by omega))
  · refine io.of (fun r j hr => e r j (by omega) (by omega)) (fun l hl hd h70 => ?_) (fun j hj => by rw [e 16 j (by decide) (by decide), e 0 j (by decide) (by decide)]; exact io.2.2.2.2.1 j hj)
    rw [e70, h70]
    split <;> rfl
theorem zIw.sh {σ : QSt} {κ : Nat → Nat → Nat} (h : zIw σ κ) {a : Nat} (ha : a < σ 0 2) : zIw (qfSh σ a) κ := by
  have g := h.ia a ha
  unfold qfSh
  by_cases c : σ 131 a = 104
  · have g2 := g.2.2.2.2.2.2.2.2.2 (by omega)
    rw [if_pos c]
    by_cases d : 1 < σ 133 a
    · rw [if_pos d]
      have := h.al (a := a) (v := 104) (w := σ 133 a - 1) ha (Or.inr (Or.inr rfl)) (fun _ => by omega) (fun z => absurd rfl z) (by have := g.2.2.2.1; omega) (fun _ => g2)
      rw [← c, qup_id] at this
      exact this
    · rw [if_neg d, qup_comm (r := 133) (r2 := 131) (by decide)]
      exact h.al (a := a) (v := 113) (w := 0) ha (Or.inl rfl) (fun z => absurd z (by decide)) (fun _ => rfl) (by decide) (fun z => absurd rfl z)
  · rw [if_neg c]; exact h
theorem zRel.sh {σ ρ : QSt} (h : zRel σ ρ) {a : Nat} (ha : a < σ 0 2) (h1 : σ 131 a = 104 → 1 ≤ σ 133 a) : zRel (qfSh σ a) (rSh ρ a) := by
  have e1 : ρ 131 a = σ 131 a := h.a ha (by omega)
  have e3 : ρ 133 a = σ 133 a := h.a ha (by omega)
  unfold qfSh rSh
  rw [e1, e3]
  by_cases c : σ 131 a = 104
  · rw [if_pos c, if_pos c]
    have h1c := h1 c
    by_cases d : 1 < σ 133 a
    · rw [if_pos d, if_neg (by omega : ¬ σ 133 a - 1 = 0)]
      have h2 := (h.up (r := 133) (i := a) (σ 133 a - 1) (by decide) (fun z => absurd z (by decide)) (fun _ => ha)).up (r := 131) (i := a) 104 (by decide) (fun z => absurd z (by decide)) (fun z => absurd z (by decide))
      rw [show qup (qup σ 133 a (σ 133 a - 1)) 131 a 104 = qup σ 133 a (σ 133 a - 1) from by
        rw [qup_comm (r := 133) (r2 := 131) (by decide), ← c, qup_id]] at h2
      exact h2
    · rw [if_neg d, show σ 133 a - 1 = 0 by omega, if_pos rfl]
      exact (h.up (r := 133) (i := a) 0 (by decide) (fun z => absurd z (by decide)) (fun _ => ha)).up (r := 131) (i := a) 113 (by decide) (fun z => absurd z (by decide)) (fun z => absurd z (by decide))
  · rw [if_neg c, if_neg c]; exact h
