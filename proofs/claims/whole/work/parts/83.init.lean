/-! the states at the start -/
def qs0 : QSt := fun r j => if r = 48 ∧ j < 4 then 9999 else 0
def rs0 : QSt := fun r j => if r = 48 ∧ j < 4 then 9999 else if r = 112 ∨ r = 113 ∨ r = 114 ∨ r = 146 ∨ r = 195 then 1 else 0
theorem q_bud0 : (fun i => nI (if 48 = 48 ∧ i < 4 then 9999 else 0)) = upd (upd (upd (upd (fun _ => 0) 0 (nI 9999)) 1 (nI 9999)) 2 (nI 9999)) 3 (nI 9999) := by
  funext i
  unfold upd
  by_cases h3 : i = 3
  · subst h3; rfl
  · by_cases h2 : i = 2
    · subst h2; rfl
    · by_cases h1 : i = 1
      · subst h1; rfl
      · by_cases h0 : i = 0
        · subst h0; rfl
        · rw [if_neg h3, if_neg h2, if_neg h1, if_neg h0, if_neg (by omega)]; exact nI_0
theorem rW_of {G : QG} {A : Nat → Prop} {ρ bd : QSt} {H : Heap} {ws : va_W} (h1 : va_P G.1 vwCl ws H) (h2 : va_D A ws) (hk : ∀ k e, rLV G ρ bd k 0 = some e → ws[k]? = some (bd k 0, e)) : rW G A ρ bd H := by
  refine ⟨fun k j e hv => ?_, fun k j k' j' e e' hv hv' hq => ?_⟩
  · by_cases hj : j = 0
    · subst hj
      exact ⟨h1 _ _ (hk k e hv), h2.2 _ _ (hk k e hv)⟩
    · rw [rLV_j hj] at hv; cases hv
  · by_cases hj : j = 0
    · by_cases hj' : j' = 0
      · subst hj; subst hj'
        exact ⟨h2.1 _ _ _ _ (hk k e hv) (hk k' e' hv') hq, rfl⟩
      · rw [rLV_j hj'] at hv'; cases hv'
    · rw [rLV_j hj] at hv; cases hv
theorem rs0_b (w : Nat) (k : Nat) : qbits (rs0 (1000 + w)) 50 k = 0 := by
  unfold qbits
  rw [qbv_zero _ _ _ (fun b _ => by
    show (if 1000 + w = 48 ∧ _ then 9999 else if 1000 + w = 112 ∨ 1000 + w = 113 ∨ 1000 + w = 114 ∨ 1000 + w = 146 ∨ 1000 + w = 195 then 1 else 0) ≠ 1
    rw [if_neg (by omega), if_neg (by omega)]; decide)]
  rfl
theorem rs0_3 (i : Nat) : rs0 (80 + i % 3) (i / 3) = 0 := by
  rcases (show i % 3 = 0 ∨ i % 3 = 1 ∨ i % 3 = 2 by omega) with z | z | z <;> rw [z] <;> rfl
theorem rs0_9 (i : Nat) : rs0 (112 + i % 3) (i / 3) = 1 := by
  rcases (show i % 3 = 0 ∨ i % 3 = 1 ∨ i % 3 = 2 by omega) with z | z | z <;> rw [z] <;> rfl
theorem nI_11 : nI 1 - 1 = 0 := by decide +kernel

def rbd0 (xs : List Nat) : QSt := fun k _ => xs.getD k 0
set_option maxRecDepth 20000 in
theorem rW_0 {G : QG} {A : Nat → Prop} {H : Heap} {a q0 q1 q2 q3 q4 q5 q6 q7 q8 q9 q10 q11 q12 q13 q14 q15 q16 q17 q18 q19 q20 q21 q22 q23 q24 q25 q26 q27 q28 : Nat} (h1 : va_P G.1 vwCl [(a, .inr (11, [.int (nI 0), .int (nI 0), .int (nI 0), .ref (q0), .ref (q1), .ref (q2), .ref (q3), .ref (q4), .ref (q5), .ref (q6), .int (nI 0), .ref (q7), .ref (q8), .ref (q9), .int (nI 0), .ref (q10), .ref (q11), .ref (q12), .ref (q13), .ref (q14), .ref (q15), .ref (q16), .ref (q17), .ref (q18), .ref (q19), .int (nI 0), .ref (q20), .ref (q21), .ref (q22), .ref (q23), .ref (q24), .int (nI 0), .ref (q25), .ref (q26), .ref (q27), .ref (q28)])), (q0, .inl (G.2 1, 200, .inl (fun _ => 0))), (q1, .inl (G.2 1, 200, .inl (fun _ => 0))), (q2, .inl (G.2 1, 600, .inl (fun _ => 0))), (q3, .inl (G.2 1, 200, .inl (fun _ => 0))), (q4, .inl (G.2 1, 200, .inl (fun _ => 0))), (q5, .inl (G.2 3, 200, .inl (fun _ => 0))), (q6, .inl (G.2 1, 200, .inl (fun _ => 0))), (q7, .inl (G.2 1, 200, .inl (fun _ => 0))), (q8, .inl (G.2 1, 600, .inl (fun _ => 0))), (q9, .inl (G.2 4, 200, .inl (fun _ => 0))), (q10, .inl (G.2 1, 6, .inl (fun _ => 0))), (q11, .inl (G.2 1, 6, .inl (fun _ => 0))), (q12, .inl (G.2 1, 6, .inl (fun _ => 0))), (q13, .inl (G.2 1, 6, .inl (fun _ => 0))), (q14, .inl (G.2 1, 6, .inl (fun _ => 0))), (q15, .inl (G.2 1, 6, .inl (fun _ => 0))), (q16, .inl (G.2 1, 6, .inl (fun _ => 0))), (q17, .inl (G.2 3, 6, .inl (fun _ => 0))), (q18, .inl (G.2 1, 6, .inl (fun _ => 0))), (q19, .inl (G.2 1, 6, .inl (fun _ => 0))), (q20, .inl (G.2 1, 1300, .inl (fun _ => 0))), (q21, .inl (G.2 1, 1300, .inl (fun _ => 0))), (q22, .inl (G.2 4, 1300, .inl (fun _ => 0))), (q23, .inl (G.2 2, 5200, .inr (.inl (fun _ => 0)))), (q24, .inl (G.2 1, 4, .inl (upd (upd (upd (upd (fun _ => 0) 0 (nI 9999)) 1 (nI 9999)) 2 (nI 9999)) 3 (nI 9999)))), (q25, .inl (G.2 1, 20, .inl (fun _ => 0))), (q26, .inl (G.2 1, 20, .inl (fun _ => 0))), (q27, .inl (G.2 1, 20, .inl (fun _ => 0))), (q28, .inl (G.2 1, 20, .inl (fun _ => 0)))] H) (h2 : va_D A [(a, .inr (11, [.int (nI 0), .int (nI 0), .int (nI 0), .ref (q0), .ref (q1), .ref (q2), .ref (q3), .ref (q4), .ref (q5), .ref (q6), .int (nI 0), .ref (q7), .ref (q8), .ref (q9), .int (nI 0), .ref (q10), .ref (q11), .ref (q12), .ref (q13), .ref (q14), .ref (q15), .ref (q16), .ref (q17), .ref (q18), .ref (q19), .int (nI 0), .ref (q20), .ref (q21), .ref (q22), .ref (q23), .ref (q24), .int (nI 0), .ref (q25), .ref (q26), .ref (q27), .ref (q28)])), (q0, .inl (G.2 1, 200, .inl (fun _ => 0))), (q1, .inl (G.2 1, 200, .inl (fun _ => 0))), (q2, .inl (G.2 1, 600, .inl (fun _ => 0))), (q3, .inl (G.2 1, 200, .inl (fun _ => 0))), (q4, .inl (G.2 1, 200, .inl (fun _ => 0))), (q5, .inl (G.2 3, 200, .inl (fun _ => 0))), (q6, .inl (G.2 1, 200, .inl (fun _ => 0))), (q7, .inl (G.2 1, 200, .inl (fun _ => 0))), (q8, .inl (G.2 1, 600, .inl (fun _ => 0))), (q9, .inl (G.2 4, 200, .inl (fun _ => 0))), (q10, .inl (G.2 1, 6, .inl (fun _ => 0))), (q11, .inl (G.2 1, 6, .inl (fun _ => 0))), (q12, .inl (G.2 1, 6, .inl (fun _ => 0))), (q13, .inl (G.2 1, 6, .inl (fun _ => 0))), (q14, .inl (G.2 1, 6, .inl (fun _ => 0))), (q15, .inl (G.2 1, 6, .inl (fun _ => 0))), (q16, .inl (G.2 1, 6, .inl (fun _ => 0))), (q17, .inl (G.2 3, 6, .inl (fun _ => 0))), (q18, .inl (G.2 1, 6, .inl (fun _ => 0))), (q19, .inl (G.2 1, 6, .inl (fun _ => 0))), (q20, .inl (G.2 1, 1300, .inl (fun _ => 0))), (q21, .inl (G.2 1, 1300, .inl (fun _ => 0))), (q22, .inl (G.2 4, 1300, .inl (fun _ => 0))), (q23, .inl (G.2 2, 5200, .inr (.inl (fun _ => 0)))), (q24, .inl (G.2 1, 4, .inl (upd (upd (upd (upd (fun _ => 0) 0 (nI 9999)) 1 (nI 9999)) 2 (nI 9999)) 3 (nI 9999)))), (q25, .inl (G.2 1, 20, .inl (fun _ => 0))), (q26, .inl (G.2 1, 20, .inl (fun _ => 0))), (q27, .inl (G.2 1, 20, .inl (fun _ => 0))), (q28, .inl (G.2 1, 20, .inl (fun _ => 0)))]) : rW G A rs0 (rbd0 [a, q0, q1, q2, q3, q4, q5, q6, q7, q8, q9, q10, q11, q12, q13, q14, q15, q16, q17, q18, q19, q20, q21, q22, q23, q24, q25, q26, q27, q28]) H := by
  refine rW_of h1 h2 (fun k e hv => ?_)
  match k with
  | 0 => rw [rLV0] at hv; cases hv; exact congrArg some (Prod.ext rfl (rfl))
  | 1 => rw [rLV1] at hv; cases hv; exact congrArg some (Prod.ext rfl (by rw [show (fun i => nI (rs0 64 i)) = (fun _ => (0 : Int32)) from funext fun i => nI_0]))
  | 2 => rw [rLV2] at hv; cases hv; exact congrArg some (Prod.ext rfl (by rw [show (fun i => nI (rs0 65 i)) = (fun _ => (0 : Int32)) from funext fun i => nI_0]))
  | 3 => rw [rLV3] at hv; cases hv; exact congrArg some (Prod.ext rfl (by rw [show (fun i => nI (rs0 (80 + i % 3) (i / 3))) = (fun _ => (0 : Int32)) from funext fun i => by rw [rs0_3]; exact nI_0]))
  | 4 => rw [rLV4] at hv; cases hv; exact congrArg some (Prod.ext rfl (by rw [show (fun i => nI (rs0 66 i)) = (fun _ => (0 : Int32)) from funext fun i => nI_0]))
  | 5 => rw [rLV5] at hv; cases hv; exact congrArg some (Prod.ext rfl (by rw [show (fun i => nI (rs0 67 i)) = (fun _ => (0 : Int32)) from funext fun i => nI_0]))
  | 6 => rw [rLV6] at hv; cases hv; exact congrArg some (Prod.ext rfl (by rw [show (fun i => nI (rs0 69 i)) = (fun _ => (0 : Int32)) from funext fun i => nI_0]))
  | 7 => rw [rLV7] at hv; cases hv; exact congrArg some (Prod.ext rfl (by rw [show (fun i => nI (rs0 68 i)) = (fun _ => (0 : Int32)) from funext fun i => nI_0]))
  | 8 => rw [rLV8] at hv; cases hv; exact congrArg some (Prod.ext rfl (by rw [show (fun i => nI (rs0 96 i)) = (fun _ => (0 : Int32)) from funext fun i => nI_0]))
  | 9 => rw [rLV9] at hv; cases hv; exact congrArg some (Prod.ext rfl (by rw [show (fun i => nI (rs0 (112 + i % 3) (i / 3)) - 1) = (fun _ => (0 : Int32)) from funext fun i => by rw [rs0_9]; exact nI_11]))
  | 10 => rw [rLV10] at hv; cases hv; exact congrArg some (Prod.ext rfl (by rw [show (fun i => nI (rs0 97 i)) = (fun _ => (0 : Int32)) from funext fun i => nI_0]))
  | 11 => rw [rLV11] at hv; cases hv; exact congrArg some (Prod.ext rfl (by rw [show (fun i => nI (rs0 144 i)) = (fun _ => (0 : Int32)) from funext fun i => nI_0]))
  | 12 => rw [rLV12] at hv; cases hv; exact congrArg some (Prod.ext rfl (by rw [show (fun i => nI (rs0 145 i)) = (fun _ => (0 : Int32)) from funext fun i => nI_0]))
  | 13 => rw [rLV13] at hv; cases hv; exact congrArg some (Prod.ext rfl (by rw [show (fun i => nI (rs0 146 i) - 1) = (fun _ => (0 : Int32)) from funext fun i => nI_11]))
  | 14 => rw [rLV14] at hv; cases hv; exact congrArg some (Prod.ext rfl (by rw [show (fun i => nI (rs0 147 i)) = (fun _ => (0 : Int32)) from funext fun i => nI_0]))
  | 15 => rw [rLV15] at hv; cases hv; exact congrArg some (Prod.ext rfl (by rw [show (fun i => nI (rs0 128 i)) = (fun _ => (0 : Int32)) from funext fun i => nI_0]))
  | 16 => rw [rLV16] at hv; cases hv; exact congrArg some (Prod.ext rfl (by rw [show (fun i => nI (rs0 129 i)) = (fun _ => (0 : Int32)) from funext fun i => nI_0]))
  | 17 => rw [rLV17] at hv; cases hv; exact congrArg some (Prod.ext rfl (by rw [show (fun i => nI (rs0 130 i)) = (fun _ => (0 : Int32)) from funext fun i => nI_0]))
  | 18 => rw [rLV18] at hv; cases hv; exact congrArg some (Prod.ext rfl (by rw [show (fun i => nI (rs0 131 i)) = (fun _ => (0 : Int32)) from funext fun i => nI_0]))
  | 19 => rw [rLV19] at hv; cases hv; exact congrArg some (Prod.ext rfl (by rw [show (fun i => nI (rs0 133 i)) = (fun _ => (0 : Int32)) from funext fun i => nI_0]))
  | 20 => rw [rLV20] at hv; cases hv; exact congrArg some (Prod.ext rfl (by rw [show (fun i => nI (rs0 135 i)) = (fun _ => (0 : Int32)) from funext fun i => nI_0]))
  | 21 => rw [rLV21] at hv; cases hv; exact congrArg some (Prod.ext rfl (by rw [show (fun i => nI (rs0 160 i)) = (fun _ => (0 : Int32)) from funext fun i => nI_0]))
  | 22 => rw [rLV22] at hv; cases hv; exact congrArg some (Prod.ext rfl (by rw [show (fun i => nI (rs0 161 i)) = (fun _ => (0 : Int32)) from funext fun i => nI_0]))
  | 23 => rw [rLV23] at hv; cases hv; exact congrArg some (Prod.ext rfl (by rw [show (fun i => nI (rs0 162 i)) = (fun _ => (0 : Int32)) from funext fun i => nI_0]))
  | 24 => rw [rLV24] at hv; cases hv; exact congrArg some (Prod.ext rfl (by rw [show (fun i => qbits (rs0 (1000 + i / 4)) 50 (i % 4)) = (fun _ => (0 : Int64)) from funext fun i => rs0_b _ _]))
  | 25 => rw [rLV25] at hv; cases hv; exact congrArg some (Prod.ext rfl (by rw [show (fun i => nI (rs0 48 i)) = _ from (funext fun i => by show nI (if 48 = 48 ∧ i < 4 then 9999 else if _ then 1 else 0) = _; congr 1 : (fun i => nI (rs0 48 i)) = (fun i => nI (if 48 = 48 ∧ i < 4 then 9999 else 0))).trans q_bud0]))
  | 26 => rw [rLV26] at hv; cases hv; exact congrArg some (Prod.ext rfl (by rw [show (fun i => nI (rs0 208 i)) = (fun _ => (0 : Int32)) from funext fun i => nI_0]))
  | 27 => rw [rLV27] at hv; cases hv; exact congrArg some (Prod.ext rfl (by rw [show (fun i => nI (rs0 209 i)) = (fun _ => (0 : Int32)) from funext fun i => nI_0]))
  | 28 => rw [rLV28] at hv; cases hv; exact congrArg some (Prod.ext rfl (by rw [show (fun i => nI (rs0 192 i)) = (fun _ => (0 : Int32)) from funext fun i => nI_0]))
  | 29 => rw [rLV29] at hv; cases hv; exact congrArg some (Prod.ext rfl (by rw [show (fun i => nI (rs0 195 i) - 1) = (fun _ => (0 : Int32)) from funext fun i => nI_11]))
  | k + 30 => cases hv
def sad0 (a q0 q1 q2 q3 q4 q5 : Nat) : QSt := fun k j => if k = 0 then a else if k = 1 then [q0, q1, q2, q3, q4].getD j 0 else q5
theorem qLV_0 {G : QG} {es : Nat} {ad : QSt} {k j : Nat} {e : va_E} (hv : qLV G es qs0 ad k j = some e) : (k = 0 ∧ j = 0) ∨ (k = 1 ∧ j < 5) ∨ (k = 3 ∧ j = 0) := by
  have z : ∀ i, qs0 0 i = 0 := fun _ => rfl
  have z2 : ∀ i, qs0 32 i = 0 := fun _ => rfl
  match k with
  | 0 => refine Or.inl ⟨rfl, ?_⟩; by_cases c : j = 0; exact c; simp [qLV, c] at hv
  | 1 => refine Or.inr (Or.inl ⟨rfl, ?_⟩); by_cases c : j < 5; exact c; simp [qLV, c] at hv
  | 3 => refine Or.inr (Or.inr ⟨rfl, ?_⟩); by_cases c : j = 0; exact c; simp [qLV, c] at hv
  | 2 => simp [qLV, z2] at hv
  | 4 => simp [qLV, z] at hv
  | 5 => simp [qLV, z] at hv
  | 6 => simp [qLV, z] at hv
  | 7 => simp [qLV, z] at hv
  | 8 => simp [qLV, z] at hv
  | 9 => simp [qLV, z] at hv
  | 10 => simp [qLV, z] at hv
  | 11 => simp [qLV, z] at hv
  | 12 => simp [qLV, z] at hv
  | 13 => simp [qLV, z] at hv
  | k + 14 => simp [qLV] at hv
/-- the place of a cell in the list -/
def sIx (k j : Nat) : Nat := if k = 0 then 0 else if k = 1 then 1 + j else 6
theorem qLW_0 {G : QG} {es : Nat} {A : Nat → Prop} {H : Heap} {a q0 q1 q2 q3 q4 q5 : Nat} (h1 : va_P G.1 vwCl [(a, .inr (10, [.ref (q0), .ref (q1), .ref (q2), .ref (q3), .ref (q4), .ref (q5), .int (nI 0)])), (q0, .inr (2, [.int (nI 0), .ref es, .int (nI 0)])), (q1, .inr (2, [.int (nI 0), .ref es, .int (nI 0)])), (q2, .inr (2, [.int (nI 0), .ref es, .int (nI 0)])), (q3, .inr (2, [.int (nI 0), .ref es, .int (nI 0)])), (q4, .inr (2, [.int (nI 0), .ref es, .int (nI 0)])), (q5, .inl (G.2 1, 4, .inl (upd (upd (upd (upd (fun _ => 0) 0 (nI 9999)) 1 (nI 9999)) 2 (nI 9999)) 3 (nI 9999))))] H) (h2 : va_D A [(a, .inr (10, [.ref (q0), .ref (q1), .ref (q2), .ref (q3), .ref (q4), .ref (q5), .int (nI 0)])), (q0, .inr (2, [.int (nI 0), .ref es, .int (nI 0)])), (q1, .inr (2, [.int (nI 0), .ref es, .int (nI 0)])), (q2, .inr (2, [.int (nI 0), .ref es, .int (nI 0)])), (q3, .inr (2, [.int (nI 0), .ref es, .int (nI 0)])), (q4, .inr (2, [.int (nI 0), .ref es, .int (nI 0)])), (q5, .inl (G.2 1, 4, .inl (upd (upd (upd (upd (fun _ => 0) 0 (nI 9999)) 1 (nI 9999)) 2 (nI 9999)) 3 (nI 9999))))]) : qLW G es A qs0 (sad0 a q0 q1 q2 q3 q4 q5) H := by
  have key : ∀ k j e, qLV G es qs0 (sad0 a q0 q1 q2 q3 q4 q5) k j = some e → [(a, .inr (10, [.ref (q0), .ref (q1), .ref (q2), .ref (q3), .ref (q4), .ref (q5), .int (nI 0)])), (q0, .inr (2, [.int (nI 0), .ref es, .int (nI 0)])), (q1, .inr (2, [.int (nI 0), .ref es, .int (nI 0)])), (q2, .inr (2, [.int (nI 0), .ref es, .int (nI 0)])), (q3, .inr (2, [.int (nI 0), .ref es, .int (nI 0)])), (q4, .inr (2, [.int (nI 0), .ref es, .int (nI 0)])), (q5, .inl (G.2 1, 4, .inl (upd (upd (upd (upd (fun _ => 0) 0 (nI 9999)) 1 (nI 9999)) 2 (nI 9999)) 3 (nI 9999))))][sIx k j]? = some (sad0 a q0 q1 q2 q3 q4 q5 k j, e) := by
    intro k j e hv
    rcases qLV_0 hv with ⟨rfl, rfl⟩ | ⟨rfl, hj⟩ | ⟨rfl, rfl⟩
    · rw [qLV0] at hv; cases hv; rfl
    · rw [qLV1 hj] at hv; cases hv
      rcases (show j = 0 ∨ j = 1 ∨ j = 2 ∨ j = 3 ∨ j = 4 by omega) with rfl | rfl | rfl | rfl | rfl <;> rfl
    · rw [qLV3] at hv; cases hv
      exact congrArg some (Prod.ext rfl (by rw [show (fun i => nI (qs0 48 i)) = _ from q_bud0]))
  refine ⟨fun k j e hv => ⟨h1 _ _ (key k j e hv), h2.2 _ _ (key k j e hv)⟩, fun k j k' j' e e' hv hv' hq => ?_⟩
  have hi := h2.1 _ _ _ _ (key k j e hv) (key k' j' e' hv') hq
  unfold sIx at hi
  rcases qLV_0 hv with ⟨rfl, rfl⟩ | ⟨rfl, hj⟩ | ⟨rfl, rfl⟩ <;> rcases qLV_0 hv' with ⟨rfl, rfl⟩ | ⟨rfl, hj'⟩ | ⟨rfl, rfl⟩ <;> simp at hi ⊢ <;> omega
theorem qs0_wf : qWF qs0 := by
  refine ⟨fun r i => ?_, ⟨by decide, by decide, by decide, by decide, by decide⟩, fun j => Nat.le_refl 0, fun i hi => absurd hi (Nat.not_lt_zero _), fun i hi => absurd hi (Nat.not_lt_zero _), fun i hi => absurd hi (Nat.not_lt_zero _), fun i hi => absurd hi (Nat.not_lt_zero _), fun i hi => absurd hi (Nat.not_lt_zero _), fun j => ⟨Nat.zero_le _, Or.inl rfl, Nat.zero_le _⟩⟩
  show (if r = 48 ∧ i < 4 then 9999 else 0) < _
  split <;> decide
theorem rs0_wf : rWF rs0 := by
  refine ⟨fun r i => ?_, ⟨by decide, by decide, by decide, by decide, by decide⟩, fun i hi => absurd hi (Nat.not_lt_zero _), fun i hi => absurd hi (Nat.not_lt_zero _), fun i hi => absurd hi (Nat.not_lt_zero _)⟩
  show (if r = 48 ∧ i < 4 then 9999 else if _ then 1 else 0) < _
  split
  · decide
  · split <;> decide
theorem zRel_0 : zRel qs0 rs0 := by
  have z : ∀ i, qs0 0 i = 0 := fun _ => rfl
  refine ⟨fun r j hd => ?_, fun a ha => absurd ha (Nat.not_lt_zero _), fun a ha => absurd ha (Nat.not_lt_zero _), fun a ha => absurd ha (Nat.not_lt_zero _), fun p _ => rfl, fun p _ => rfl, fun f _ => ⟨rfl, fun l => ?_⟩⟩
  · unfold zD at hd
    rw [z, z, z, z, z] at hd
    rcases hd with ⟨rfl, _⟩ | ⟨rfl, _⟩ | ⟨rfl, h⟩ | ⟨_, h⟩ | ⟨_, h⟩ | ⟨_, h⟩ | ⟨_, h⟩ | ⟨_, h⟩
    · rfl
    · rfl
    · show (if 48 = 48 ∧ j < 4 then 9999 else if _ then 1 else 0) = (if 48 = 48 ∧ j < 4 then 9999 else 0)
      rw [if_pos ⟨rfl, h⟩, if_pos ⟨rfl, h⟩]
    all_goals exact absurd h (Nat.not_lt_zero _)
  · show (if 1000 + f = 48 ∧ l < 4 then 9999 else if 1000 + f = 112 ∨ 1000 + f = 113 ∨ 1000 + f = 114 ∨ 1000 + f = 146 ∨ 1000 + f = 195 then 1 else 0) ≠ 1
    rw [if_neg (by omega), if_neg (by omega)]; decide
theorem zIv_0 : zIv qs0 := by
  have nz : ∀ {x : Nat} {q : Prop}, x < qs0 0 0 → q := fun h => absurd h (Nat.not_lt_zero _)
  refine ⟨⟨qs0_wf, fun a ha => absurd ha (Nat.not_lt_zero _), ⟨fun a l => qB_le, fun a ha => absurd ha (Nat.not_lt_zero _), fun l hl => absurd hl (Nat.not_lt_zero _), fun l _ => rfl⟩, fun f hf => absurd hf (Nat.not_lt_zero _), ⟨Nat.le_refl 0, fun l hl => absurd hl (Nat.not_lt_zero _), fun p q _ hq => absurd hq (Nat.not_lt_zero _), fun p hp => absurd hp (Nat.not_lt_zero _)⟩, ⟨fun i j _ hj => absurd hj (Nat.not_lt_zero _), fun l hl => absurd hl (Nat.not_lt_zero _), fun l hl => absurd hl (Nat.not_lt_zero _), fun l hl => absurd hl (Nat.not_lt_zero _), fun j _ => rfl, by decide⟩⟩, fun a ha => absurd ha (Nat.not_lt_zero _), by decide, fun x hx => absurd hx (Nat.not_lt_zero _)⟩

