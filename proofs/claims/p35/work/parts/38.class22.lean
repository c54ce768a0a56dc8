def qfAl (σ : QSt) (s0 r0 P w0 g0 n0 h0 : Nat) : QSt := qad σ 2 [(128, g0), (129, n0), (130, h0), (131, 113), (132, 0), (133, 0), (134, 0), (144, s0), (145, r0), (146, P), (147, w0)]
theorem qfAl_ha {s0 r0 P w0 g0 n0 h0 : Nat} : (List.all [(128, g0), (129, n0), (130, h0), (131, 113), (132, 0), (133, 0), (134, 0), (144, s0), (145, r0), (146, P), (147, w0)] (fun x => decide (64 + 32 * 2 ≤ x.1) && decide (x.1 < 96 + 32 * 2))) = true := rfl
theorem qfAl_r {σ : QSt} {s0 r0 P w0 g0 n0 h0 r j : Nat} (h1 : ¬ (128 ≤ r ∧ r < 160 ∧ j = σ 0 2)) (h2 : ¬ ((r = 0 ∨ r = 16 ∨ r = 32) ∧ j = 2)) : qfAl σ s0 r0 P w0 g0 n0 h0 r j = σ r j := qad_r qfAl_ha h1 h2
theorem qfAl_02 {σ : QSt} {s0 r0 P w0 g0 n0 h0 : Nat} : qfAl σ s0 r0 P w0 g0 n0 h0 0 2 = σ 0 2 + 1 := qad_0 qfAl_ha
theorem qfAl_wf {σ : QSt} (h : qWF σ) {s0 r0 P w0 g0 n0 h0 : Nat} (hn : σ 0 2 < 6) (h16 : σ 16 2 + 1 < 1073741824) (hP : P ≤ 3) (hv : s0 < 4 ∧ r0 < 5 ∧ w0 < 100 ∧ g0 < 10 ∧ n0 ≤ 50 ∧ h0 ≤ 20) : qWF (qfAl σ s0 r0 P w0 g0 n0 h0) := by
  have hn2 := h.n
  have hz : ∀ j, j ≠ 2 → qfAl σ s0 r0 P w0 g0 n0 h0 0 j = σ 0 j := fun j hj => qfAl_r (by omega) (by omega)
  refine h.grow (J := 2) (by decide) (qad_b h qfAl_ha (fun x hx => ?_) h16) ?_ qfAl_02 (qad_32 qfAl_ha) (fun r j _ g2 g3 => qad_r qfAl_ha g2 g3) (fun j => ?_) (fun y => absurd y (by decide)) (fun _ => ?_) (fun y => absurd y (by decide))
  · simp only [List.mem_cons, List.not_mem_nil, or_false] at hx
    rcases hx with rfl | rfl | rfl | rfl | rfl | rfl | rfl | rfl | rfl | rfl | rfl <;> simp only <;> omega
  · rw [hz 0 (by decide), hz 1 (by decide), hz 3 (by decide), hz 4 (by decide), qfAl_02]; omega
  · by_cases c : j = 2
    · rw [c, qfAl_02]; omega
    · rw [hz j c]; exact (h.cap j).2.2
  · refine ⟨?_, ?_, ?_⟩
    · rw [show qfAl σ s0 r0 P w0 g0 n0 h0 134 (σ 0 2) = 0 from qad_in rfl (by decide)]; exact Nat.zero_le _
    · rw [show qfAl σ s0 r0 P w0 g0 n0 h0 146 (σ 0 2) = P from qad_in rfl (by decide)]; exact hP
    · rw [show qfAl σ s0 r0 P w0 g0 n0 h0 131 (σ 0 2) = 113 from qad_in rfl (by decide)]; decide
/-- all lines are counted -/
def qfCa (σ : QSt) (a : Nat) : Nat → QSt
  | 0 => σ
  | i + 1 => qfCd (qfCa σ a i) a i
theorem qfCd_r {σ : QSt} {a l r j : Nat} (h1 : r ≠ 132) (h2 : r ≠ 70) : qfCd σ a l r j = σ r j := by
  unfold qfCd
  split
  · rw [qup_k h2, qup_k h1]
  · rfl
theorem qfCd_70 {σ : QSt} {a l j : Nat} : qfCd σ a l 70 j ≤ σ 70 j + 1 ∧ (j ≠ l → qfCd σ a l 70 j = σ 70 j) := by
  unfold qfCd
  split
  · by_cases c : j = l
    · subst c
      rw [qup_s]
      exact ⟨Nat.le_refl _, fun z => absurd rfl z⟩
    · rw [qup_j c, qup_k (by decide)]
      exact ⟨Nat.le_succ _, fun _ => rfl⟩
  · exact ⟨Nat.le_succ _, fun _ => rfl⟩
theorem qfCd_132 {σ : QSt} {a l j : Nat} : qfCd σ a l 132 j ≤ σ 132 j + 1 := by
  unfold qfCd
  split
  · rw [qup_k (by decide)]
    by_cases c : j = a
    · subst c; rw [qup_s]; exact Nat.le_refl _
    · rw [qup_j c]; exact Nat.le_succ _
  · exact Nat.le_succ _
theorem qfCd_wf {σ : QSt} (h : qWF σ) {a l : Nat} (h1 : σ 132 a + 1 < 1073741824) (h2 : σ 70 l + 1 < 1073741824) : qWF (qfCd σ a l) := by
  unfold qfCd
  split
  · exact (h.up 132 a _ (by decide) h1 (by decide) (fun z => absurd z (by decide)) (fun z => absurd z (by decide)) (fun z => absurd z (by decide)) (fun z => absurd z (by decide))).up 70 l _ (by decide) (by exact h2) (by decide) (fun z => absurd z (by decide)) (fun z => absurd z (by decide)) (fun z => absurd z (by decide)) (fun z => absurd z (by decide))
  · exact h
theorem qfCa_ok {σ : QSt} (h : qWF σ) {a : Nat} (h1 : σ 132 a ≤ 999000) (h2 : ∀ l0, σ 70 l0 ≤ 999999) : ∀ i, i ≤ 200 → qWF (qfCa σ a i) ∧ (∀ r j, r ≠ 132 → r ≠ 70 → qfCa σ a i r j = σ r j) ∧ (∀ l0, qfCa σ a i 70 l0 ≤ σ 70 l0 + (if l0 < i then 1 else 0)) ∧ qfCa σ a i 132 a ≤ σ 132 a + i
  | 0, _ => ⟨h, fun _ _ _ _ => rfl, fun _ => Nat.le_add_right _ _, Nat.le_refl _⟩
  | i + 1, hi => by
    obtain ⟨g1, g2, g3, g4⟩ := qfCa_ok h h1 h2 i (by omega)
    have g5 := g3 i
    rw [if_neg (Nat.lt_irrefl i)] at g5
    have g6 := h2 i
    refine ⟨qfCd_wf g1 (by omega) (by omega), fun r j n1 n2 => (qfCd_r n1 n2).trans (g2 r j n1 n2), fun l0 => ?_, ?_⟩
    · show qfCd (qfCa σ a i) a i 70 l0 ≤ _
      have k1 := qfCd_70 (σ := qfCa σ a i) (a := a) (l := i) (j := l0)
      have k2 := g3 l0
      by_cases c : l0 = i
      · subst c
        rw [if_neg (Nat.lt_irrefl _)] at k2
        rw [if_pos (Nat.lt_succ_self _)]
        omega
      · rw [k1.2 c]
        by_cases c2 : l0 < i
        · rw [if_pos c2] at k2; rw [if_pos (by omega)]; exact k2
        · rw [if_neg c2] at k2; omega
    · show qfCd (qfCa σ a i) a i 132 a ≤ _
      have k1 := qfCd_132 (σ := qfCa σ a i) (a := a) (l := i) (j := a)
      omega
def qfAc (σ : QSt) (s0 r0 P w0 g0 n0 h0 : Nat) : QSt := qfCa (qfAl σ s0 r0 P w0 g0 n0 h0) (σ 0 2) (σ 0 0)
def qfAa (σ : QSt) (s0 r0 P w0 g0 n0 h0 : Nat) : QSt := if g0 ≤ qfAc σ s0 r0 P w0 g0 n0 h0 132 (σ 0 2) then qfLn (qfAc σ s0 r0 P w0 g0 n0 h0) (σ 0 2) else qfAc σ s0 r0 P w0 g0 n0 h0

