theorem zLook_r {σ : QSt} {a r j : Nat} (h : r < 1000) (h1 : r ≠ 70) (h2 : r ≠ 163) (h3 : r ≠ 131) (h4 : r ≠ 133) (h5 : r ≠ 0) (h6 : r ≠ 16) (h7 : r ≠ 32) (h8 : r ≠ 134) (h9 : r < 160 ∨ 192 ≤ r) : qLook σ a r j = σ r j := by
  unfold qLook
  split
  · rw [qfLn_lo h h1 h2 h3 h4]
    exact qfNf_r (by omega) (by omega) (by omega) (by omega)
  · exact qfLk_lo h h1 h2 h3 h4
theorem zLook_s {σ : QSt} {a r x : Nat} (hr : r = 131 ∨ r = 133) (hx : x ≠ a) : qLook σ a r x = σ r x := by
  unfold qLook
  split
  · unfold qfLn
    rw [zSt_r (by omega) (by omega) (by omega), qup_j hx, qup_j hx]
    exact qfNf_r (by omega) (by omega) (by omega) (by omega)
  · unfold qfLk
    split
    · rw [zSt_r (by omega) (by omega) (by omega), qup_j hx, qup_j hx]
    · split
      · rw [qup_j hx, qup_j hx]
      · rfl
/-- what an alert counts rests on these rows -/
theorem qcn_of {σ τ : QSt} {a l : Nat} (hP : σ 146 a ≤ 3) (h1 : τ 1 0 = σ 1 0) (hl : ∀ r, zl r → r ≠ 69 ∧ r ≠ 68 → τ r l = σ r l) (h69 : τ 69 l ≠ 100 ↔ σ 69 l ≠ 100) (ha : ∀ r, r = 129 ∨ (144 ≤ r ∧ r ≤ 147) → τ r a = σ r a) : qcn τ a l ↔ qcn σ a l := by
  unfold qcn qcw qtk
  rw [h1, hl 67 (by omega) (by omega), ha 129 (by omega), hl 64 (by omega) (by omega), ha 144 (by omega), ha 145 (by omega), hl 65 (by omega) (by omega), ha 146 (by omega), ha 147 (by omega), hl (80 + (σ 146 a - 1)) (by omega) (by omega)]
  exact ⟨fun z => ⟨h69.mp z.1, z.2⟩, fun z => ⟨h69.mpr z.1, z.2⟩⟩
theorem zLook_cn {σ : QSt} {a x l : Nat} (hP : σ 146 x ≤ 3) : qcn (qLook σ a) x l ↔ qcn σ x l := by
  have e : ∀ r j, r < 160 → r ≠ 70 → r ≠ 131 → r ≠ 133 → r ≠ 0 → r ≠ 16 → r ≠ 32 → r ≠ 134 → qLook σ a r j = σ r j := fun r j a1 a2 a3 a4 a5 a6 a7 a8 => zLook_r (by omega) a2 (by omega) a3 a4 a5 a6 a7 a8 (Or.inl a1)
  refine qcn_of hP (e 1 0 (by decide) (by decide) (by decide) (by decide) (by decide) (by decide) (by decide) (by decide)) (fun r hr _ => ?_) (by rw [e 69 l (by decide) (by decide) (by decide) (by decide) (by decide) (by decide) (by decide) (by decide)]) (fun r hr => ?_)
  · rcases hr with h | h <;> exact e r l (by omega) (by omega) (by omega) (by omega) (by omega) (by omega) (by omega) (by omega)
  · rcases hr with h | h <;> exact e r x (by omega) (by omega) (by omega) (by omega) (by omega) (by omega) (by omega) (by omega)
theorem zLook {σ ρ : QSt} {κ : Nat → Nat → Nat} (h : zIw σ κ) (hR : zRel σ ρ) {a : Nat} (ha : a < σ 0 2) (hk : σ 132 a = qcnt σ a) (hn : qNew σ a → σ 0 3 < 1300) : zIw (qLook σ a) κ ∧ zRel (qLook σ a) (rLk ρ a) ∧ zLk (qLook σ a) a := by
  obtain ⟨hF, ia, ig, iff_, ip, io⟩ := id h
  have hP := hF.plc ha
  have g := ia a ha
  have gf := hF.fir ha
  have h131 : ρ 131 a = σ 131 a := hR.a ha (by omega)
  have h128 : ρ 128 a = σ 128 a := hR.a ha (by omega)
  have h130 : ρ 130 a = σ 130 a := hR.a ha (by omega)
  have hc : qcnt ρ a = σ 132 a := (hR.cnt ha hP).trans hk.symm
  have e128 : qLook σ a 128 a = σ 128 a := zLook_r (by decide) (by decide) (by decide) (by decide) (by decide) (by decide) (by decide) (by decide) (by decide) (by decide)
  have e132 : qLook σ a 132 a = σ 132 a := zLook_r (by decide) (by decide) (by decide) (by decide) (by decide) (by decide) (by decide) (by decide) (by decide) (by decide)
  by_cases c : σ 128 a ≤ σ 132 a
  · have hlk : rLk ρ a = rLkS (rLkB ρ a) a (ρ 0 0) := by unfold rLk; rw [if_neg (by omega)]
    have e0 : rLkB ρ a 0 0 = ρ 0 0 := rLkB_0 (by decide)
    by_cases q : σ 131 a = 113
    · have hq : qNew σ a := ⟨c, Or.inl q⟩
      have hN : rLkN ρ a = rNf ρ a := by unfold rLkN rNf; rw [if_pos (h131.trans q)]
      have ha1 : a < qfNf σ a 0 2 := by rw [zNf_0 (by decide)]; exact ha
      have i1 := h.nf ha (hn hq)
      have r1 := hR.nf ha
      have e162 : qfNf σ a 162 (σ 0 3) = 0 := zNf_f (r := 162) rfl (by decide)
      have i2 := i1.al (a := a) (v := 102) (w := 0) ha1 (Or.inr (Or.inl rfl)) (fun z => absurd z (by decide)) (fun _ => rfl) (by decide) (fun _ => by rw [qfNf_134, Nat.add_sub_cancel]; exact ⟨Nat.succ_ne_zero _, e162⟩)
      have r2 := (r1.up (r := 131) (i := a) 102 (by decide) (fun z => absurd z (by decide)) (fun z => absurd z (by decide))).up (r := 133) (i := a) 0 (by decide) (fun z => absurd z (by decide)) (fun _ => ha1)
      have f3 : σ 0 3 < qup (qup (qfNf σ a) 131 a 102) 133 a 0 0 3 := by show σ 0 3 < qfNf σ a 0 3; rw [qfNf_03]; exact Nat.lt_succ_self _
      have h146 : qfNf σ a 146 a = σ 146 a := qfNf_r (by omega) (by omega) (by omega) (by omega)
      have e135 : rNf ρ a 135 a = ρ 0 3 := by unfold rNf; rw [qup_k (by decide), qup_k (by decide), qup_k (by decide), qup_s]
      have i3 := i2.st (a := a) f3 e162 ha1
      have r3 := r2.st (a := a) f3 e162 ha1 (by show qfNf σ a 146 a ≤ 3; rw [h146]; exact hP) (by show rNf ρ a 135 a = σ 0 3; rw [e135]; exact hR.n (by decide))
      have hB : rLkB ρ a = qup (qup (rNf ρ a) 131 a 102) 133 a 0 := by unfold rLkB; rw [hN]
      rw [qLook_t hq] at e128 e132 ⊢
      refine ⟨i3, ?_, ?_⟩
      · rw [hlk, ← e0, hB]; exact r3
      · unfold zLk; rw [e128, e132]
        refine ⟨fun _ => c, fun _ => ?_⟩
        unfold qfLn
        rw [zSt_r (by decide) (by decide) (by omega), qup_k (by decide), qup_s]
    · have g2 := g.2.2.2.2.2.2.2.2.2 q
      have hq : ¬ qNew σ a := fun z => z.2.elim q g2.1
      have hN : rLkN ρ a = ρ := by unfold rLkN; rw [if_neg (by rw [h131]; exact q)]
      have hL : qfLk σ a = qfSt (qup (qup σ 131 a 102) 133 a 0) a (σ 134 a - 1) := by unfold qfLk; rw [if_pos c]
      have i2 := h.al (a := a) (v := 102) (w := 0) ha (Or.inr (Or.inl rfl)) (fun z => absurd z (by decide)) (fun _ => rfl) (by decide) (fun _ => g2)
      have r2 := (hR.up (r := 131) (i := a) 102 (by decide) (fun z => absurd z (by decide)) (fun z => absurd z (by decide))).up (r := 133) (i := a) 0 (by decide) (fun z => absurd z (by decide)) (fun _ => ha)
      have f3 : σ 134 a - 1 < σ 0 3 := by have := g2.1; omega
      have i3 := i2.st (a := a) (f := σ 134 a - 1) f3 g2.2 ha
      have r3 := r2.st (a := a) (f := σ 134 a - 1) f3 g2.2 ha hP (hR.2.1 a ha g2.1)
      have hB : rLkB ρ a = qup (qup ρ 131 a 102) 133 a 0 := by unfold rLkB; rw [hN]
      rw [qLook_f hq] at e128 e132 ⊢
      rw [hL] at e128 e132 ⊢
      refine ⟨i3, ?_, ?_⟩
      · rw [hlk, ← e0, hB]; exact r3
      · unfold zLk; rw [e128, e132]
        exact ⟨fun _ => c, fun _ => by rw [zSt_r (by decide) (by decide) (by omega), qup_k (by decide), qup_s]⟩
  · have hq : ¬ qNew σ a := fun z => c z.1
    have hlk : rLk ρ a = rLkA ρ a := by unfold rLk; rw [if_pos (by omega)]
    rw [qLook_f hq] at e128 e132 ⊢
    by_cases q : σ 131 a = 102
    · have g2 := g.2.2.2.2.2.2.2.2.2 (by omega)
      have hL : qfLk σ a = qup (qup σ 131 a (if 0 < σ 130 a then 104 else 113)) 133 a (σ 130 a) := by unfold qfLk; rw [if_neg c, if_pos q]
      have hA : rLkA ρ a = qup (qup ρ 131 a (if 0 < σ 130 a then 104 else 113)) 133 a (σ 130 a) := by
        unfold rLkA
        rw [if_pos (h131.trans q), h130]
        congr 2
        by_cases z : σ 130 a = 0
        · rw [if_pos z, if_neg (by omega)]
        · rw [if_neg z, if_pos (by omega)]
      have i2 := h.al (a := a) (v := if 0 < σ 130 a then 104 else 113) (w := σ 130 a) ha (by split; exact Or.inr (Or.inr rfl); exact Or.inl rfl) (fun z => by
        by_cases y : 0 < σ 130 a
        · exact y
        · rw [if_neg y] at z; exact absurd z (by decide)) (fun z => by
        by_cases y : 0 < σ 130 a
        · rw [if_pos y] at z; exact absurd rfl z
        · omega) g.2.2.2.2.1 (fun _ => g2)
      have r2 := (hR.up (r := 131) (i := a) (if 0 < σ 130 a then 104 else 113) (by decide) (fun z => absurd z (by decide)) (fun z => absurd z (by decide))).up (r := 133) (i := a) (σ 130 a) (by decide) (fun z => absurd z (by decide)) (fun _ => ha)
      rw [hL] at e128 e132 ⊢
      rw [hlk, hA]
      refine ⟨i2, r2, ?_⟩
      unfold zLk; rw [e128, e132, qup_k (by decide), qup_s]
      refine ⟨fun z => ?_, fun z => absurd z c⟩
      by_cases y : 0 < σ 130 a
      · rw [if_pos y] at z; exact absurd z (by decide)
      · rw [if_neg y] at z; exact absurd z (by decide)
    · have hL : qfLk σ a = σ := by unfold qfLk; rw [if_neg c, if_neg q]
      have hA : rLkA ρ a = ρ := by unfold rLkA; rw [if_neg (by rw [h131]; exact q)]
      rw [hL, hlk, hA]
      exact ⟨h, hR, fun z => absurd z q, fun z => absurd z c⟩
/-! an alert counts a line more -/
theorem zIg.cong {σ : QSt} {κ κ2 : Nat → Nat → Nat} (h : zIg σ κ) (h1 : ∀ a l, κ2 a l ≤ 1) (h2 : ∀ a l, a < σ 0 2 → l < σ 0 0 → κ2 a l = κ a l) : zIg σ κ2 := by
  refine ⟨h1, fun a ha => ?_, fun l hl => ?_, h.2.2.2⟩
  · rw [h.2.1 a ha]; exact (qsum_congr _ (fun l hl => h2 a l ha hl)).symm
  · rw [h.2.2.1 l hl]
    congr 1
    exact (qsum_congr _ (fun a ha => h2 a l ha hl)).symm
theorem zIw.cong {σ : QSt} {κ κ2 : Nat → Nat → Nat} (h : zIw σ κ) (h1 : ∀ a l, κ2 a l ≤ 1) (h2 : ∀ a l, a < σ 0 2 → l < σ 0 0 → κ2 a l = κ a l) : zIw σ κ2 := ⟨h.1, h.2.1, h.2.2.1.cong h1 h2, h.2.2.2⟩
theorem zIw.cd {σ : QSt} {κ κ2 : Nat → Nat → Nat} (h : zIw σ κ) {a l0 : Nat} (ha : a < σ 0 2) (hl0 : l0 < σ 0 0) (h0 : κ a l0 = 0) (h1 : ∀ x l, ¬ (x = a ∧ l = l0) → κ2 x l = κ x l) (h2 : κ2 a l0 = qB (qcn σ a l0)) : zIw (qfCd σ a l0) κ2 := by
  obtain ⟨hF, ia, ig, iff_, ip, io⟩ := id h
  have hle := ig.le hF
  have e : ∀ r j, r ≠ 132 → r ≠ 70 → qfCd σ a l0 r j = σ r j := fun r j q1 q2 => qfCd_r q1 q2
  have hk1 : ∀ x l, κ2 x l ≤ 1 := fun x l => by
    by_cases c : x = a ∧ l = l0
    · rw [c.1, c.2, h2]; exact qB_le
    · rw [h1 x l c]; exact ig.1 x l
  have e132 : qfCd σ a l0 132 a = σ 132 a + qB (qcn σ a l0) := by
    unfold qfCd
    by_cases c : qcn σ a l0
    · rw [if_pos c, qup_k (by decide), qup_s, qB_t c]
    · rw [if_neg c, qB_f c]; rfl
  have e132x : ∀ x, x ≠ a → qfCd σ a l0 132 x = σ 132 x := fun x hx => by
    unfold qfCd
    split
    · rw [qup_k (by decide), qup_j hx]
    · rfl
  have e70 : qfCd σ a l0 70 l0 = σ 70 l0 + qB (qcn σ a l0) := by
    unfold qfCd
    by_cases c : qcn σ a l0
    · rw [if_pos c, qup_s, qB_t c]
    · rw [if_neg c, qB_f c]; rfl
  have e70x : ∀ l, l ≠ l0 → qfCd σ a l0 70 l = σ 70 l := fun l hl => qfCd_70.2 hl
  refine ⟨qfCd_wf hF (by have := hle.1 a ha; omega) (by have := hle.2 l0; omega), ?_, ?_, ?_, ?_, ?_⟩
  · exact ia.of (fun r j hr => e r j (by omega) (by omega)) (fun j _ => ⟨e _ _ (by decide) (by decide), e _ _ (by decide) (by decide)⟩) hF
  · refine ⟨hk1, fun x hx => ?_, fun l hl => ?_, fun l hl => ?_⟩
    · rw [e 0 2 (by decide) (by decide)] at hx
      rw [e 0 0 (by decide) (by decide)]
      by_cases c : x = a
      · subst c
        rw [e132, ig.2.1 x hx]
        have := qsum_upd (f := κ x) (g := κ2 x) (l0 := l0) (fun l hl => h1 x l (fun z => hl z.2)) (σ 0 0) hl0
        rw [h0, h2] at this
        omega
      · rw [e132x x c, ig.2.1 x hx]
        exact (qsum_congr _ (fun l _ => h1 x l (fun z => c z.1))).symm
    · rw [e 0 0 (by decide) (by decide)] at hl
      rw [e 0 2 (by decide) (by decide), e 0 3 (by decide) (by decide), show qsum (fun f => qB (qfCd σ a l0 (1000 + f) l = 1)) (σ 0 3) = qsum (fun f => qB (σ (1000 + f) l = 1)) (σ 0 3) from qsum_congr _ (fun f _ => by rw [e (1000 + f) l (by omega) (by omega)])]
      by_cases c : l = l0
      · subst c
        rw [e70, ig.2.2.1 l hl]
        have := qsum_upd (f := fun x => κ x l) (g := fun x => κ2 x l) (l0 := a) (fun x hx => h1 x l (fun z => hx z.1)) (σ 0 2) ha
        simp only [h0, h2] at this
        omega
      · rw [e70x l c, ig.2.2.1 l hl]
        congr 1
        exact (qsum_congr _ (fun x _ => h1 x l (fun z => c z.2))).symm
    · rw [e 0 0 (by decide) (by decide)] at hl
      rw [e70x l (by omega)]; exact ig.2.2.2 l hl
  · exact iff_.of (fun r j hr => e r j (by omega) (by omega))
  · exact ip.of (fun r j hr => e r j (by omega) (by omega))
  · refine io.of (fun r j hr => e r j (by omega) (by omega)) (fun l hl hd h70 => ?_) (fun j hj => by rw [e 16 j (by decide) (by decide), e 0 j (by decide) (by decide)]; exact io.2.2.2.2.1 j hj)
    by_cases c : l = l0
    · subst c; rw [e70, h70, qB_f (fun z => z.1 hd)]
    · rw [e70x l c]; exact h70
theorem zRel.cd {σ ρ : QSt} (h : zRel σ ρ) (a l0 : Nat) : zRel (qfCd σ a l0) ρ := h.gd (fun r j _ _ q1 q2 _ => qfCd_r q2 q1)
/-- what is asked where an alert is looked at -/
theorem zIw.ok {σ : QSt} {κ : Nat → Nat → Nat} (h : zIw σ κ) {a : Nat} (ha : a < σ 0 2) (hn : σ 0 3 < 1300) : qOk σ a := by
  obtain ⟨hF, ia, ig, iff_, ip, io⟩ := id h
  have h70 := (ig.le hF).2
  have h16 := io.2.2.2.2.1 3 (by decide)
  refine ⟨hF, ha, io.1, fun l0 => by have := h70 l0; omega, fun z => ⟨(ia a ha).2.2.2.2.2.2.2.2.1 z, ?_⟩, hn, by omega⟩
  have := hF.fir ha
  have := iff_.le hF (f := σ 134 a - 1) (by omega)
  omega
