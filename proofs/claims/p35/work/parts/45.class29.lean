/-! a line more -/
def qfLi (σ : QSt) (s0 r0 x1 x2 x3 b0 p0 : Nat) : QSt := qad σ 0 [(64, s0), (65, r0), (66, b0), (67, σ 1 0), (68, p0), (69, 107), (70, 0), (80, x1), (81, x2), (82, x3)]
theorem qfLi_ha {s0 r0 x1 x2 x3 b0 p0 t0 : Nat} : (List.all [(64, s0), (65, r0), (66, b0), (67, t0), (68, p0), (69, 107), (70, 0), (80, x1), (81, x2), (82, x3)] (fun x => decide (64 + 32 * 0 ≤ x.1) && decide (x.1 < 96 + 32 * 0))) = true := rfl
theorem qfLi_r {σ : QSt} {s0 r0 x1 x2 x3 b0 p0 r j : Nat} (h1 : ¬ (64 ≤ r ∧ r < 96 ∧ j = σ 0 0)) (h2 : ¬ ((r = 0 ∨ r = 16 ∨ r = 32) ∧ j = 0)) : qfLi σ s0 r0 x1 x2 x3 b0 p0 r j = σ r j := qad_r qfLi_ha h1 h2
theorem qfLi_00 {σ : QSt} {s0 r0 x1 x2 x3 b0 p0 : Nat} : qfLi σ s0 r0 x1 x2 x3 b0 p0 0 0 = σ 0 0 + 1 := qad_0 qfLi_ha
theorem qfLi_wf {σ : QSt} (h : qWF σ) {s0 r0 x1 x2 x3 b0 p0 : Nat} (hn : σ 0 0 < 200) (h16 : σ 16 0 + 1 < 1073741824) (hp : p0 < σ 0 1) (hv : s0 < 4 ∧ r0 < 5 ∧ x1 < 100 ∧ x2 < 100 ∧ x3 < 100 ∧ b0 < 100) : qWF (qfLi σ s0 r0 x1 x2 x3 b0 p0) := by
  have hn2 := h.n
  have hnow := h.1 1 0
  have hz : ∀ j, j ≠ 0 → qfLi σ s0 r0 x1 x2 x3 b0 p0 0 j = σ 0 j := fun j hj => qfLi_r (by omega) (by omega)
  have hi : ∀ r v, ([(64, s0), (65, r0), (66, b0), (67, σ 1 0), (68, p0), (69, 107), (70, 0), (80, x1), (81, x2), (82, x3)]).find? (fun x => x.1 == r) = some (r, v) → 64 ≤ r → qfLi σ s0 r0 x1 x2 x3 b0 p0 r (σ 0 0) = v := fun r v g1 g2 => qad_in g1 g2
  refine h.grow (J := 0) (by decide) (qad_b h qfLi_ha (fun x hx => ?_) h16) ?_ qfLi_00 (qad_32 qfLi_ha) (fun r j _ g2 g3 => qad_r qfLi_ha g2 g3) (fun j => ?_) (fun _ => ?_) (fun y => absurd y (by decide)) (fun y => absurd y (by decide))
  · simp only [List.mem_cons, List.not_mem_nil, or_false] at hx
    rcases hx with rfl | rfl | rfl | rfl | rfl | rfl | rfl | rfl | rfl | rfl <;> simp only <;> omega
  · rw [hz 1 (by decide), hz 2 (by decide), hz 3 (by decide), hz 4 (by decide), qfLi_00]; omega
  · by_cases c : j = 0
    · rw [c, qfLi_00]; omega
    · rw [hz j c]; exact (h.cap j).2.2
  · rw [hi 68 p0 rfl (by decide), hi 67 _ rfl (by decide), hi 64 _ rfl (by decide), hi 80 _ rfl (by decide), hi 81 _ rfl (by decide), hi 82 _ rfl (by decide), hi 69 _ rfl (by decide), hi 66 _ rfl (by decide), hz 1 (by decide), qfLi_r (r := 1) (j := 0) (by omega) (by omega)]
    exact ⟨hp, Nat.le_refl _, hv.1, hv.2.2.1, hv.2.2.2.1, hv.2.2.2.2.1, by decide, hv.2.2.2.2.2⟩
theorem qfLe_ha {s0 x1 x2 x3 : Nat} : (List.all [(96, s0), (97, 0), (112, x1 + 1), (113, x2 + 1), (114, x3 + 1)] (fun x => decide (64 + 32 * 1 ≤ x.1) && decide (x.1 < 96 + 32 * 1))) = true := rfl
theorem qfLe_r {σ : QSt} {s0 x1 x2 x3 r j : Nat} (h1 : ¬ (96 ≤ r ∧ r < 128 ∧ j = σ 0 1)) (h2 : ¬ ((r = 0 ∨ r = 16 ∨ r = 32) ∧ j = 1)) : qfLe σ s0 x1 x2 x3 r j = σ r j := qad_r qfLe_ha h1 h2
theorem qfLe_01 {σ : QSt} {s0 x1 x2 x3 : Nat} : qfLe σ s0 x1 x2 x3 0 1 = σ 0 1 + 1 := qad_0 qfLe_ha
theorem qfLe_wf {σ : QSt} (h : qWF σ) {s0 x1 x2 x3 : Nat} (hn : σ 0 1 < 200) (h16 : σ 16 1 + 1 < 1073741824) (hv : s0 < 4 ∧ x1 < 100 ∧ x2 < 100 ∧ x3 < 100) : qWF (qfLe σ s0 x1 x2 x3) := by
  have hn2 := h.n
  have hz : ∀ j, j ≠ 1 → qfLe σ s0 x1 x2 x3 0 j = σ 0 j := fun j hj => qfLe_r (by omega) (by omega)
  refine h.grow (J := 1) (by decide) (qad_b h qfLe_ha (fun x hx => ?_) h16) ?_ qfLe_01 (qad_32 qfLe_ha) (fun r j _ g2 g3 => qad_r qfLe_ha g2 g3) (fun j => ?_) (fun y => absurd y (by decide)) (fun y => absurd y (by decide)) (fun y => absurd y (by decide))
  · simp only [List.mem_cons, List.not_mem_nil, or_false] at hx
    rcases hx with rfl | rfl | rfl | rfl | rfl <;> simp only <;> omega
  · rw [hz 0 (by decide), hz 2 (by decide), hz 3 (by decide), hz 4 (by decide), qfLe_01]; omega
  · by_cases c : j = 1
    · rw [c, qfLe_01]; omega
    · rw [hz j c]; exact (h.cap j).2.2
