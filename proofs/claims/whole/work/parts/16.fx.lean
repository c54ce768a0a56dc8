/-! what the store's methods do to its state -/
theorem qWF.up {σ : QSt} (h : qWF σ) (r i v : Nat) (h1 : 64 ≤ r) (hv : v < 1073741824) (hx : r ≠ 64 ∧ r ≠ 67 ∧ r ≠ 80 ∧ r ≠ 81 ∧ r ≠ 82 ∧ r ≠ 146 ∧ r ≠ 160) (h68 : r = 68 → v < σ 0 1) (h69 : r = 69 → v < 128) (h131 : r = 131 → v < 128) (h134 : r = 134 → v ≤ σ 0 3) : qWF (qup σ r i v) := by
  obtain ⟨g1, g2, g3, g4, g5, g6, g7, g8, g9⟩ := h
  have e0 : ∀ j, qup σ r i v 0 j = σ 0 j := fun j => qup_k (by omega)
  have e1 : ∀ j, qup σ r i v 1 j = σ 1 j := fun j => qup_k (by omega)
  have e32 : ∀ j, qup σ r i v 32 j = σ 32 j := fun j => qup_k (by omega)
  have ex : ∀ q j, q ≠ r → qup σ r i v q j = σ q j := fun q j hq => qup_k hq
  refine ⟨fun q j => ?_, by rw [e0, e0, e0, e0, e0]; exact g2, fun j => by rw [e0, e32]; exact g3 j, fun j hj => ?_, fun f hf => ?_, fun a ha => ?_, fun j hj => ?_, fun a ha => ?_, fun j => by rw [e0, e32]; exact g9 j⟩
  · unfold qup; split
    · exact hv
    · exact g1 q j
  · rw [e0] at hj ⊢
    by_cases c : r = 68 ∧ j = i
    · rw [c.1, c.2, qup_s]; exact h68 c.1
    · rw [show qup σ r i v 68 j = σ 68 j from if_neg (fun z => c ⟨z.1.symm, z.2⟩)]; exact g4 j hj
  · rw [e0] at hf ⊢; rw [ex 160 f (by omega)]; exact g5 f hf
  · rw [e0] at ha ⊢
    by_cases c : r = 134 ∧ a = i
    · rw [c.1, c.2, qup_s]; exact h134 c.1
    · rw [show qup σ r i v 134 a = σ 134 a from if_neg (fun z => c ⟨z.1.symm, z.2⟩)]; exact g6 a ha
  · rw [e0] at hj
    rw [ex 67 j (by omega), e1, ex 64 j (by omega), ex 80 j (by omega), ex 81 j (by omega), ex 82 j (by omega)]
    have g := g7 j hj
    refine ⟨g.1, g.2.1, g.2.2.1, g.2.2.2.1, g.2.2.2.2.1, ?_⟩
    by_cases c : r = 69 ∧ j = i
    · rw [c.1, c.2, qup_s]; exact h69 c.1
    · rw [show qup σ r i v 69 j = σ 69 j from if_neg (fun z => c ⟨z.1.symm, z.2⟩)]; exact g.2.2.2.2.2
  · rw [e0] at ha
    rw [ex 146 a (by omega)]
    refine ⟨(g8 a ha).1, ?_⟩
    by_cases c : r = 131 ∧ a = i
    · rw [c.1, c.2, qup_s]; exact h131 c.1
    · rw [show qup σ r i v 131 a = σ 131 a from if_neg (fun z => c ⟨z.1.symm, z.2⟩)]; exact (g8 a ha).2
theorem qup_qup (f : QSt) (k j v w : Nat) : qup (qup f k j v) k j w = qup f k j w := by
  funext a b
  unfold qup
  split <;> rfl
/-- countIfDue -/
def qfCd (σ : QSt) (a l0 : Nat) : QSt := if qcn σ a l0 then qup (qup σ 132 a (σ 132 a + 1)) 70 l0 (σ 70 l0 + 1) else σ
/-- shortenHold -/
def qfSh (σ : QSt) (a : Nat) : QSt := if σ 131 a = 104 then (if 1 < σ 133 a then qup σ 133 a (σ 133 a - 1) else qup (qup σ 133 a 0) 131 a 113) else σ
