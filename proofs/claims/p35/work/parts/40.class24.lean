section QUF
variable {p : Program} {l : Launch} {e : Env} {R : Room} {s : State} {m : MethodId} {args : Array Value} {below : List Frame} {meth : Method} {c : Code} {H : Heap} {locs : List Loc} {Q : State → Prop} {pc : Nat} {ls : Array Slot}
/-- a loop upward whose room is told by functions of the turn -/
theorem q_upF (N : Nat) (K T : Nat → Nat) (I : Nat → Heap → List Loc → Array Slot → Prop) (ex : ∀ (H : Heap) (locs : List Loc) (ls : Array Slot), I N H locs ls → W p l e R s m args below meth c H locs (K N) (T N) Q (F0 m pc ls []))
    (bd : ∀ (i : Nat) (H : Heap) (locs : List Loc) (ls : Array Slot), i < N → I i H locs ls → (∀ (H' : Heap) (locs' : List Loc) (ls' : Array Slot), I (i + 1) H' locs' ls' → W p l e R s m args below meth c H' locs' (K (i + 1)) (T (i + 1)) Q (F0 m pc ls' [])) → W p l e R s m args below meth c H locs (K i) (T i) Q (F0 m pc ls [])) {i0 : Nat} (h0 : i0 ≤ N) (hI : I i0 H locs ls) : W p l e R s m args below meth c H locs (K i0) (T i0) Q (F0 m pc ls []) := by
  obtain ⟨n, hn⟩ : ∃ n, i0 + n = N := ⟨N - i0, by omega⟩
  induction n generalizing i0 H locs ls with
  | zero =>
    have : i0 = N := by omega
    subst this
    exact ex H locs ls hI
  | succ n ih => exact bd i0 H locs ls (by omega) hI (fun H' locs' ls' h' => ih (by omega) h' (by omega))
end QUF
/-- looking at an alert, whichever way -/
abbrev qNew (σ : QSt) (a : Nat) : Prop := σ 128 a ≤ σ 132 a ∧ (σ 131 a = 113 ∨ σ 134 a = 0)
def qLook (σ : QSt) (a : Nat) : QSt := if qNew σ a then qfLn σ a else qfLk σ a
theorem qLook_t {σ : QSt} {a : Nat} (h : qNew σ a) : qLook σ a = qfLn σ a := if_pos h
theorem qLook_f {σ : QSt} {a : Nat} (h : ¬ qNew σ a) : qLook σ a = qfLk σ a := if_neg h
def qOk (σ : QSt) (a : Nat) : Prop := qWF σ ∧ a < σ 0 2 ∧ (∀ i j, i ≤ j → j < σ 0 0 → σ 67 i ≤ σ 67 j) ∧ (∀ l0, σ 70 l0 ≤ 1000000) ∧ (σ 134 a ≠ 0 → σ 160 (σ 134 a - 1) = a ∧ σ 163 (σ 134 a - 1) ≤ 1000000) ∧ σ 0 3 < 1300 ∧ σ 16 3 + 1 < 1073741824
/-- what a list's growing costs -/
def qgc (σ : QSt) : Nat := if σ 0 3 < σ 32 3 then 0 else qcap (σ 0 3) (σ 32 3)
theorem qgc_ok (σ : QSt) : σ 0 3 < σ 32 3 ∨ qcap (σ 0 3) (σ 32 3) ≤ qgc σ := by
  unfold qgc
  by_cases h : σ 0 3 < σ 32 3
  · exact Or.inl h
  · rw [if_neg h]; exact Or.inr (Nat.le_refl _)
theorem qgc_le {σ : QSt} (h : qWF σ) : σ 32 3 ≤ qcap (σ 0 3) (σ 32 3) ∧ 9 + qgc σ ≤ 10 + 3 * (qcap (σ 0 3) (σ 32 3) - σ 32 3) := by
  have h1 := h.cap 3
  have h2 := h.c 3
  unfold qgc qcap
  by_cases c : σ 0 3 < σ 32 3
  · rw [if_pos c, if_pos c]; omega
  · rw [if_neg c, if_neg c]
    by_cases c2 : σ 32 3 = 0
    · rw [if_pos c2]; omega
    · rw [if_neg c2]; omega
theorem qfSt_lo {σ : QSt} {a f r j : Nat} (h : r < 1000) (h1 : r ≠ 70) (h2 : r ≠ 163) : qfSt σ a f r j = σ r j := by
  unfold qfSt
  exact qfStS_r σ a f _ j h1 h2 (by omega)
theorem qfLn_lo {σ : QSt} {a r j : Nat} (h : r < 1000) (h1 : r ≠ 70) (h2 : r ≠ 163) (h3 : r ≠ 131) (h4 : r ≠ 133) : qfLn σ a r j = qfNf σ a r j := by
  unfold qfLn
  rw [qfSt_lo h h1 h2, qup_k h4, qup_k h3]
theorem qfLk_lo {σ : QSt} {a r j : Nat} (h : r < 1000) (h1 : r ≠ 70) (h2 : r ≠ 163) (h3 : r ≠ 131) (h4 : r ≠ 133) : qfLk σ a r j = σ r j := by
  unfold qfLk
  split
  · rw [qfSt_lo h h1 h2, qup_k h4, qup_k h3]
  · split
    · rw [qup_k h4, qup_k h3]
    · rfl
theorem qLook_0 {σ : QSt} {a j : Nat} (h : j ≠ 3) : qLook σ a 0 j = σ 0 j := by
  by_cases c : qNew σ a
  · rw [qLook_t c, qfLn_lo (by decide) (by decide) (by decide) (by decide) (by decide), qfNf_r (by omega) (by omega) (by omega) (by omega)]
  · rw [qLook_f c, qfLk_lo (by decide) (by decide) (by decide) (by decide) (by decide)]
theorem qLook_03 {σ : QSt} {a : Nat} : qLook σ a 0 3 = σ 0 3 + qB (qNew σ a) := by
  by_cases c : qNew σ a
  · rw [qLook_t c, qfLn_lo (by decide) (by decide) (by decide) (by decide) (by decide), qfNf_03, qB_t c]
  · rw [qLook_f c, qfLk_lo (by decide) (by decide) (by decide) (by decide) (by decide), qB_f c]; rfl
theorem qLook_32 {σ : QSt} {a : Nat} : qLook σ a 32 3 = (if qB (qNew σ a) = 1 then qcap (σ 0 3) (σ 32 3) else σ 32 3) := by
  by_cases c : qNew σ a
  · rw [qLook_t c, qfLn_lo (by decide) (by decide) (by decide) (by decide) (by decide), if_pos (qB_t c)]; exact (qfNf_lo (by decide) (by omega)).trans (qad_32 qfNf_ha)
  · rw [qLook_f c, qfLk_lo (by decide) (by decide) (by decide) (by decide) (by decide), if_neg (by rw [qB_f c]; decide)]
/-- the cost of a look, told by the counts -/
theorem qLook_cost {σ : QSt} (h : qWF σ) (a : Nat) : σ 0 3 ≤ qLook σ a 0 3 ∧ σ 32 3 ≤ qLook σ a 32 3 ∧ (qNew σ a → 3 ≤ 3 * (qLook σ a 0 3 - σ 0 3) ∧ 9 + qgc σ ≤ 10 * (qLook σ a 0 3 - σ 0 3) + 3 * (qLook σ a 32 3 - σ 32 3)) := by
  have h1 := qgc_le h
  rw [qLook_03, qLook_32]
  by_cases c : qNew σ a
  · rw [qB_t c, if_pos rfl]
    exact ⟨by omega, h1.1, fun _ => ⟨by omega, by omega⟩⟩
  · rw [qB_f c, if_neg (by decide)]
    exact ⟨by omega, Nat.le_refl _, fun z => absurd z c⟩
/-- showing a line to the alerts -/
def qfSa (σ : QSt) (l0 : Nat) : Nat → QSt
  | 0 => σ
  | i + 1 => qLook (qfCd (qfSa σ l0 i) i l0) i
theorem qfCd_0 {σ : QSt} {a l0 r j : Nat} (h : r < 64) : qfCd σ a l0 r j = σ r j := qfCd_r (by omega) (by omega)
theorem qfSa_ok {σ : QSt} {l0 : Nat} (hT : ∀ i, i < σ 0 2 → qWF (qfCd (qfSa σ l0 i) i l0)) : ∀ i, i ≤ σ 0 2 → (∀ j, j ≠ 3 → qfSa σ l0 i 0 j = σ 0 j) ∧ σ 0 3 ≤ qfSa σ l0 i 0 3 ∧ σ 32 3 ≤ qfSa σ l0 i 32 3
  | 0, _ => ⟨fun _ _ => rfl, Nat.le_refl _, Nat.le_refl _⟩
  | i + 1, hi => by
    obtain ⟨g1, g2, g3⟩ := qfSa_ok hT i (by omega)
    have hc := qLook_cost (hT i (by omega)) i
    rw [qfCd_0 (r := 0) (j := 3) (by decide), qfCd_0 (r := 32) (j := 3) (by decide)] at hc
    refine ⟨fun j hj => ?_, Nat.le_trans g2 hc.1, Nat.le_trans g3 hc.2.1⟩
    show qLook (qfCd (qfSa σ l0 i) i l0) i 0 j = σ 0 j
    rw [qLook_0 hj, qfCd_0 (by decide), g1 j hj]
