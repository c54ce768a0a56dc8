/-! the states at the start -/
def qs0 : QSt := fun r j => if r = 48 ∧ j < 4 then 9999 else 0
def rs0 : QSt := fun r j => if r = 48 ∧ j < 4 then 9999 else if r = 112 ∨ r = 113 ∨ r = 114 ∨ r = 146 ∨ r = 195 then 1 else 0
theorem q_bud0 : (fun i => nI (if 48 = 48 ∧ i < 4 then 9999 else 0)) = upd (upd (upd (upd (fun _ => 0) 0 (nI 9999)) 1 (nI 9999)) 2 (nI 9999)) 3 (nI 9999) := by
  funext i
  unfold upd
  by_cases h3 : i = 3
  · subst h3; rfl
  · by_cases h2 : i = 2
    · subst h2; rfl
    · by_cases h1 : i = 1
      · subst h1; rfl
      · by_cases h0 : i = 0
        · subst h0; rfl
        · rw [if_neg h3, if_neg h2, if_neg h1, if_neg h0, if_neg (by omega)]; exact nI_0
theorem nI_11 : nI 1 - 1 = 0 := by decide +kernel

def sad0 (a q0 q1 q2 q3 q4 q5 : Nat) : QSt := fun k j => if k = 0 then a else if k = 1 then [q0, q1, q2, q3, q4].getD j 0 else q5
theorem qLV_0 {G : QG} {es : Nat} {ad : QSt} {k j : Nat} {e : va_E} (hv : qLV G es qs0 ad k j = some e) : (k = 0 ∧ j = 0) ∨ (k = 1 ∧ j < 5) ∨ (k = 3 ∧ j = 0) := by
  have z : ∀ i, qs0 0 i = 0 := fun _ => rfl
  have z2 : ∀ i, qs0 32 i = 0 := fun _ => rfl
  match k with
  | 0 => refine Or.inl ⟨rfl, ?_⟩; by_cases c : j = 0; exact c; simp [qLV, c] at hv
  | 1 => refine Or.inr (Or.inl ⟨rfl, ?_⟩); by_cases c : j < 5; exact c; simp [qLV, c] at hv
  | 3 => refine Or.inr (Or.inr ⟨rfl, ?_⟩); by_cases c : j = 0; exact c; simp [qLV, c] at hv
  | 2 => simp [qLV, z2] at hv
  | 4 => simp [qLV, z] at hv
  | 5 => simp [qLV, z] at hv
  | 6 => simp [qLV, z] at hv
  | 7 => simp [qLV, z] at hv
  | 8 => simp [qLV, z] at hv
  | 9 => simp [qLV, z] at hv
  | 10 => simp [qLV, z] at hv
  | 11 => simp [qLV, z] at hv
  | 12 => simp [qLV, z] at hv
  | 13 => simp [qLV, z] at hv
  | k + 14 => simp [qLV] at hv
/-- the place of a cell in the list -/
def sIx (k j : Nat) : Nat := if k = 0 then 0 else if k = 1 then 1 + j else 6
theorem qLW_0 {G : QG} {es : Nat} {A : Nat → Prop} {H : Heap} {a q0 q1 q2 q3 q4 q5 : Nat} (h1 : va_P G.1 vwCl [(a, .inr (10, [.ref (q0), .ref (q1), .ref (q2), .ref (q3), .ref (q4), .ref (q5), .int (nI 0)])), (q0, .inr (2, [.int (nI 0), .ref es, .int (nI 0)])), (q1, .inr (2, [.int (nI 0), .ref es, .int (nI 0)])), (q2, .inr (2, [.int (nI 0), .ref es, .int (nI 0)])), (q3, .inr (2, [.int (nI 0), .ref es, .int (nI 0)])), (q4, .inr (2, [.int (nI 0), .ref es, .int (nI 0)])), (q5, .inl (G.2 1, 4, .inl (upd (upd (upd (upd (fun _ => 0) 0 (nI 9999)) 1 (nI 9999)) 2 (nI 9999)) 3 (nI 9999))))] H) (h2 : va_D A [(a, .inr (10, [.ref (q0), .ref (q1), .ref (q2), .ref (q3), .ref (q4), .ref (q5), .int (nI 0)])), (q0, .inr (2, [.int (nI 0), .ref es, .int (nI 0)])), (q1, .inr (2, [.int (nI 0), .ref es, .int (nI 0)])), (q2, .inr (2, [.int (nI 0), .ref es, .int (nI 0)])), (q3, .inr (2, [.int (nI 0), .ref es, .int (nI 0)])), (q4, .inr (2, [.int (nI 0), .ref es, .int (nI 0)])), (q5, .inl (G.2 1, 4, .inl (upd (upd (upd (upd (fun _ => 0) 0 (nI 9999)) 1 (nI 9999)) 2 (nI 9999)) 3 (nI 9999))))]) : qLW G es A qs0 (sad0 a q0 q1 q2 q3 q4 q5) H := by
  have key : ∀ k j e, qLV G es qs0 (sad0 a q0 q1 q2 q3 q4 q5) k j = some e → [(a, .inr (10, [.ref (q0), .ref (q1), .ref (q2), .ref (q3), .ref (q4), .ref (q5), .int (nI 0)])), (q0, .inr (2, [.int (nI 0), .ref es, .int (nI 0)])), (q1, .inr (2, [.int (nI 0), .ref es, .int (nI 0)])), (q2, .inr (2, [.int (nI 0), .ref es, .int (nI 0)])), (q3, .inr (2, [.int (nI 0), .ref es, .int (nI 0)])), (q4, .inr (2, [.int (nI 0), .ref es, .int (nI 0)])), (q5, .inl (G.2 1, 4, .inl (upd (upd (upd (upd (fun _ => 0) 0 (nI 9999)) 1 (nI 9999)) 2 (nI 9999)) 3 (nI 9999))))][sIx k j]? = some (sad0 a q0 q1 q2 q3 q4 q5 k j, e) := by
    intro k j e hv
    rcases qLV_0 hv with ⟨rfl, rfl⟩ | ⟨rfl, hj⟩ | ⟨rfl, rfl⟩
    · rw [qLV0] at hv; cases hv; rfl
    · rw [qLV1 hj] at hv; cases hv
      rcases (show j = 0 ∨ j = 1 ∨ j = 2 ∨ j = 3 ∨ j = 4 by omega) with rfl | rfl | rfl | rfl | rfl <;> rfl
    · rw [qLV3] at hv; cases hv
      exact congrArg some (Prod.ext rfl (by rw [show (fun i => nI (qs0 48 i)) = _ from q_bud0]))
  refine ⟨fun k j e hv => ⟨h1 _ _ (key k j e hv), h2.2 _ _ (key k j e hv)⟩, fun k j k' j' e e' hv hv' hq => ?_⟩
  have hi := h2.1 _ _ _ _ (key k j e hv) (key k' j' e' hv') hq
  unfold sIx at hi
  rcases qLV_0 hv with ⟨rfl, rfl⟩ | ⟨rfl, hj⟩ | ⟨rfl, rfl⟩ <;> rcases qLV_0 hv' with ⟨rfl, rfl⟩ | ⟨rfl, hj'⟩ | ⟨rfl, rfl⟩ <;> simp at hi ⊢ <;> omega
theorem qs0_wf : qWF qs0 := by
  refine ⟨fun r i => ?_, ⟨by decide, by decide, by decide, by decide, by decide⟩, fun j => Nat.le_refl 0, fun i hi => absurd hi (Nat.not_lt_zero _), fun i hi => absurd hi (Nat.not_lt_zero _), fun i hi => absurd hi (Nat.not_lt_zero _), fun i hi => absurd hi (Nat.not_lt_zero _), fun i hi => absurd hi (Nat.not_lt_zero _), fun j => ⟨Nat.zero_le _, Or.inl rfl, Nat.zero_le _⟩⟩
  show (if r = 48 ∧ i < 4 then 9999 else 0) < _
  split <;> decide
theorem zRel_0 : zRel qs0 rs0 := by
  have z : ∀ i, qs0 0 i = 0 := fun _ => rfl
  refine ⟨fun r j hd => ?_, fun a ha => absurd ha (Nat.not_lt_zero _), fun a ha => absurd ha (Nat.not_lt_zero _), fun a ha => absurd ha (Nat.not_lt_zero _), fun p _ => rfl, fun p _ => rfl, fun f _ => ⟨rfl, fun l => ?_⟩⟩
  · unfold zD at hd
    rw [z, z, z, z, z] at hd
    rcases hd with ⟨rfl, _⟩ | ⟨rfl, _⟩ | ⟨rfl, h⟩ | ⟨_, h⟩ | ⟨_, h⟩ | ⟨_, h⟩ | ⟨_, h⟩ | ⟨_, h⟩
    · rfl
    · rfl
    · show (if 48 = 48 ∧ j < 4 then 9999 else if _ then 1 else 0) = (if 48 = 48 ∧ j < 4 then 9999 else 0)
      rw [if_pos ⟨rfl, h⟩, if_pos ⟨rfl, h⟩]
    all_goals exact absurd h (Nat.not_lt_zero _)
  · show (if 1000 + f = 48 ∧ l < 4 then 9999 else if 1000 + f = 112 ∨ 1000 + f = 113 ∨ 1000 + f = 114 ∨ 1000 + f = 146 ∨ 1000 + f = 195 then 1 else 0) ≠ 1
    rw [if_neg (by omega), if_neg (by omega)]; decide
theorem zIv_0 : zIv qs0 := by
  have nz : ∀ {x : Nat} {q : Prop}, x < qs0 0 0 → q := fun h => absurd h (Nat.not_lt_zero _)
  refine ⟨⟨qs0_wf, fun a ha => absurd ha (Nat.not_lt_zero _), ⟨fun a l => qB_le, fun a ha => absurd ha (Nat.not_lt_zero _), fun l hl => absurd hl (Nat.not_lt_zero _), fun l _ => rfl⟩, fun f hf => absurd hf (Nat.not_lt_zero _), ⟨Nat.le_refl 0, fun l hl => absurd hl (Nat.not_lt_zero _), fun p q _ hq => absurd hq (Nat.not_lt_zero _), fun p hp => absurd hp (Nat.not_lt_zero _)⟩, ⟨fun i j _ hj => absurd hj (Nat.not_lt_zero _), fun l hl => absurd hl (Nat.not_lt_zero _), fun l hl => absurd hl (Nat.not_lt_zero _), fun l hl => absurd hl (Nat.not_lt_zero _), fun j _ => rfl, by decide⟩⟩, fun a ha => absurd ha (Nat.not_lt_zero _), by decide, fun x hx => absurd hx (Nat.not_lt_zero _)⟩
