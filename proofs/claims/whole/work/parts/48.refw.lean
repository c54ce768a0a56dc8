/-! the reference: one object and its 29 rows; its state in the same words as the store's; rows of its own: 2 thrown, 135 the firing of an alert, 195 answer and one -/
def rLV (G : QG) (ρ bd : QSt) (k j : Nat) : Option va_E :=
  match k with
  | 0 => if j = 0 then some (.inr (11, [.int (nI (ρ 2 0)), .int (nI (ρ 1 0)), .int (nI (ρ 0 0)), .ref (bd 1 0), .ref (bd 2 0), .ref (bd 3 0), .ref (bd 4 0), .ref (bd 5 0), .ref (bd 6 0), .ref (bd 7 0), .int (nI (ρ 0 1)), .ref (bd 8 0), .ref (bd 9 0), .ref (bd 10 0), .int (nI (ρ 0 2)), .ref (bd 11 0), .ref (bd 12 0), .ref (bd 13 0), .ref (bd 14 0), .ref (bd 15 0), .ref (bd 16 0), .ref (bd 17 0), .ref (bd 18 0), .ref (bd 19 0), .ref (bd 20 0), .int (nI (ρ 0 3)), .ref (bd 21 0), .ref (bd 22 0), .ref (bd 23 0), .ref (bd 24 0), .ref (bd 25 0), .int (nI (ρ 0 4)), .ref (bd 26 0), .ref (bd 27 0), .ref (bd 28 0), .ref (bd 29 0)])) else none
  | 1 => if j = 0 then some (.inl (G.2 1, 200, .inl (fun i => nI (ρ 64 i)))) else none
  | 2 => if j = 0 then some (.inl (G.2 1, 200, .inl (fun i => nI (ρ 65 i)))) else none
  | 3 => if j = 0 then some (.inl (G.2 1, 600, .inl (fun i => nI (ρ (80 + i % 3) (i / 3))))) else none
  | 4 => if j = 0 then some (.inl (G.2 1, 200, .inl (fun i => nI (ρ 66 i)))) else none
  | 5 => if j = 0 then some (.inl (G.2 1, 200, .inl (fun i => nI (ρ 67 i)))) else none
  | 6 => if j = 0 then some (.inl (G.2 3, 200, .inl (fun i => nI (ρ 69 i)))) else none
  | 7 => if j = 0 then some (.inl (G.2 1, 200, .inl (fun i => nI (ρ 68 i)))) else none
  | 8 => if j = 0 then some (.inl (G.2 1, 200, .inl (fun i => nI (ρ 96 i)))) else none
  | 9 => if j = 0 then some (.inl (G.2 1, 600, .inl (fun i => nI (ρ (112 + i % 3) (i / 3)) - 1))) else none
  | 10 => if j = 0 then some (.inl (G.2 4, 200, .inl (fun i => nI (ρ 97 i)))) else none
  | 11 => if j = 0 then some (.inl (G.2 1, 6, .inl (fun i => nI (ρ 144 i)))) else none
  | 12 => if j = 0 then some (.inl (G.2 1, 6, .inl (fun i => nI (ρ 145 i)))) else none
  | 13 => if j = 0 then some (.inl (G.2 1, 6, .inl (fun i => nI (ρ 146 i) - 1))) else none
  | 14 => if j = 0 then some (.inl (G.2 1, 6, .inl (fun i => nI (ρ 147 i)))) else none
  | 15 => if j = 0 then some (.inl (G.2 1, 6, .inl (fun i => nI (ρ 128 i)))) else none
  | 16 => if j = 0 then some (.inl (G.2 1, 6, .inl (fun i => nI (ρ 129 i)))) else none
  | 17 => if j = 0 then some (.inl (G.2 1, 6, .inl (fun i => nI (ρ 130 i)))) else none
  | 18 => if j = 0 then some (.inl (G.2 3, 6, .inl (fun i => nI (ρ 131 i)))) else none
  | 19 => if j = 0 then some (.inl (G.2 1, 6, .inl (fun i => nI (ρ 133 i)))) else none
  | 20 => if j = 0 then some (.inl (G.2 1, 6, .inl (fun i => nI (ρ 135 i)))) else none
  | 21 => if j = 0 then some (.inl (G.2 1, 1300, .inl (fun i => nI (ρ 160 i)))) else none
  | 22 => if j = 0 then some (.inl (G.2 1, 1300, .inl (fun i => nI (ρ 161 i)))) else none
  | 23 => if j = 0 then some (.inl (G.2 4, 1300, .inl (fun i => nI (ρ 162 i)))) else none
  | 24 => if j = 0 then some (.inl (G.2 2, 5200, .inr (.inl (fun i => qbits (ρ (1000 + i / 4)) 50 (i % 4))))) else none
  | 25 => if j = 0 then some (.inl (G.2 1, 4, .inl (fun i => nI (ρ 48 i)))) else none
  | 26 => if j = 0 then some (.inl (G.2 1, 20, .inl (fun i => nI (ρ 208 i)))) else none
  | 27 => if j = 0 then some (.inl (G.2 1, 20, .inl (fun i => nI (ρ 209 i)))) else none
  | 28 => if j = 0 then some (.inl (G.2 1, 20, .inl (fun i => nI (ρ 192 i)))) else none
  | 29 => if j = 0 then some (.inl (G.2 1, 20, .inl (fun i => nI (ρ 195 i) - 1))) else none
  | _ => none
theorem rLV0 {G : QG} {ρ bd : QSt} : rLV G ρ bd 0 0 = some (.inr (11, [.int (nI (ρ 2 0)), .int (nI (ρ 1 0)), .int (nI (ρ 0 0)), .ref (bd 1 0), .ref (bd 2 0), .ref (bd 3 0), .ref (bd 4 0), .ref (bd 5 0), .ref (bd 6 0), .ref (bd 7 0), .int (nI (ρ 0 1)), .ref (bd 8 0), .ref (bd 9 0), .ref (bd 10 0), .int (nI (ρ 0 2)), .ref (bd 11 0), .ref (bd 12 0), .ref (bd 13 0), .ref (bd 14 0), .ref (bd 15 0), .ref (bd 16 0), .ref (bd 17 0), .ref (bd 18 0), .ref (bd 19 0), .ref (bd 20 0), .int (nI (ρ 0 3)), .ref (bd 21 0), .ref (bd 22 0), .ref (bd 23 0), .ref (bd 24 0), .ref (bd 25 0), .int (nI (ρ 0 4)), .ref (bd 26 0), .ref (bd 27 0), .ref (bd 28 0), .ref (bd 29 0)])) := rfl
theorem rLV1 {G : QG} {ρ bd : QSt} : rLV G ρ bd 1 0 = some (.inl (G.2 1, 200, .inl (fun i => nI (ρ 64 i)))) := rfl
theorem rLV2 {G : QG} {ρ bd : QSt} : rLV G ρ bd 2 0 = some (.inl (G.2 1, 200, .inl (fun i => nI (ρ 65 i)))) := rfl
theorem rLV3 {G : QG} {ρ bd : QSt} : rLV G ρ bd 3 0 = some (.inl (G.2 1, 600, .inl (fun i => nI (ρ (80 + i % 3) (i / 3))))) := rfl
theorem rLV4 {G : QG} {ρ bd : QSt} : rLV G ρ bd 4 0 = some (.inl (G.2 1, 200, .inl (fun i => nI (ρ 66 i)))) := rfl
theorem rLV5 {G : QG} {ρ bd : QSt} : rLV G ρ bd 5 0 = some (.inl (G.2 1, 200, .inl (fun i => nI (ρ 67 i)))) := rfl
theorem rLV6 {G : QG} {ρ bd : QSt} : rLV G ρ bd 6 0 = some (.inl (G.2 3, 200, .inl (fun i => nI (ρ 69 i)))) := rfl
theorem rLV7 {G : QG} {ρ bd : QSt} : rLV G ρ bd 7 0 = some (.inl (G.2 1, 200, .inl (fun i => nI (ρ 68 i)))) := rfl
theorem rLV8 {G : QG} {ρ bd : QSt} : rLV G ρ bd 8 0 = some (.inl (G.2 1, 200, .inl (fun i => nI (ρ 96 i)))) := rfl
theorem rLV9 {G : QG} {ρ bd : QSt} : rLV G ρ bd 9 0 = some (.inl (G.2 1, 600, .inl (fun i => nI (ρ (112 + i % 3) (i / 3)) - 1))) := rfl
theorem rLV10 {G : QG} {ρ bd : QSt} : rLV G ρ bd 10 0 = some (.inl (G.2 4, 200, .inl (fun i => nI (ρ 97 i)))) := rfl
theorem rLV11 {G : QG} {ρ bd : QSt} : rLV G ρ bd 11 0 = some (.inl (G.2 1, 6, .inl (fun i => nI (ρ 144 i)))) := rfl
theorem rLV12 {G : QG} {ρ bd : QSt} : rLV G ρ bd 12 0 = some (.inl (G.2 1, 6, .inl (fun i => nI (ρ 145 i)))) := rfl
theorem rLV13 {G : QG} {ρ bd : QSt} : rLV G ρ bd 13 0 = some (.inl (G.2 1, 6, .inl (fun i => nI (ρ 146 i) - 1))) := rfl
theorem rLV14 {G : QG} {ρ bd : QSt} : rLV G ρ bd 14 0 = some (.inl (G.2 1, 6, .inl (fun i => nI (ρ 147 i)))) := rfl
theorem rLV15 {G : QG} {ρ bd : QSt} : rLV G ρ bd 15 0 = some (.inl (G.2 1, 6, .inl (fun i => nI (ρ 128 i)))) := rfl
theorem rLV16 {G : QG} {ρ bd : QSt} : rLV G ρ bd 16 0 = some (.inl (G.2 1, 6, .inl (fun i => nI (ρ 129 i)))) := rfl
theorem rLV17 {G : QG} {ρ bd : QSt} : rLV G ρ bd 17 0 = some (.inl (G.2 1, 6, .inl (fun i => nI (ρ 130 i)))) := rfl
theorem rLV18 {G : QG} {ρ bd : QSt} : rLV G ρ bd 18 0 = some (.inl (G.2 3, 6, .inl (fun i => nI (ρ 131 i)))) := rfl
theorem rLV19 {G : QG} {ρ bd : QSt} : rLV G ρ bd 19 0 = some (.inl (G.2 1, 6, .inl (fun i => nI (ρ 133 i)))) := rfl
theorem rLV20 {G : QG} {ρ bd : QSt} : rLV G ρ bd 20 0 = some (.inl (G.2 1, 6, .inl (fun i => nI (ρ 135 i)))) := rfl
theorem rLV21 {G : QG} {ρ bd : QSt} : rLV G ρ bd 21 0 = some (.inl (G.2 1, 1300, .inl (fun i => nI (ρ 160 i)))) := rfl
theorem rLV22 {G : QG} {ρ bd : QSt} : rLV G ρ bd 22 0 = some (.inl (G.2 1, 1300, .inl (fun i => nI (ρ 161 i)))) := rfl
theorem rLV23 {G : QG} {ρ bd : QSt} : rLV G ρ bd 23 0 = some (.inl (G.2 4, 1300, .inl (fun i => nI (ρ 162 i)))) := rfl
theorem rLV24 {G : QG} {ρ bd : QSt} : rLV G ρ bd 24 0 = some (.inl (G.2 2, 5200, .inr (.inl (fun i => qbits (ρ (1000 + i / 4)) 50 (i % 4))))) := rfl
theorem rLV25 {G : QG} {ρ bd : QSt} : rLV G ρ bd 25 0 = some (.inl (G.2 1, 4, .inl (fun i => nI (ρ 48 i)))) := rfl
theorem rLV26 {G : QG} {ρ bd : QSt} : rLV G ρ bd 26 0 = some (.inl (G.2 1, 20, .inl (fun i => nI (ρ 208 i)))) := rfl
theorem rLV27 {G : QG} {ρ bd : QSt} : rLV G ρ bd 27 0 = some (.inl (G.2 1, 20, .inl (fun i => nI (ρ 209 i)))) := rfl
theorem rLV28 {G : QG} {ρ bd : QSt} : rLV G ρ bd 28 0 = some (.inl (G.2 1, 20, .inl (fun i => nI (ρ 192 i)))) := rfl
theorem rLV29 {G : QG} {ρ bd : QSt} : rLV G ρ bd 29 0 = some (.inl (G.2 1, 20, .inl (fun i => nI (ρ 195 i) - 1))) := rfl
/-- which cell a row of the state lies in; 99: none -/
def rKd (r : Nat) : Nat := if 1000 ≤ r then 24 else match r with
  | 0 => 0
  | 1 => 0
  | 2 => 0
  | 64 => 1
  | 65 => 2
  | 80 => 3
  | 81 => 3
  | 82 => 3
  | 66 => 4
  | 67 => 5
  | 69 => 6
  | 68 => 7
  | 96 => 8
  | 112 => 9
  | 113 => 9
  | 114 => 9
  | 97 => 10
  | 144 => 11
  | 145 => 12
  | 146 => 13
  | 147 => 14
  | 128 => 15
  | 129 => 16
  | 130 => 17
  | 131 => 18
  | 133 => 19
  | 135 => 20
  | 160 => 21
  | 161 => 22
  | 162 => 23
  | 48 => 25
  | 208 => 26
  | 209 => 27
  | 192 => 28
  | 195 => 29
  | _ => 99
theorem rKd_bits (x : Nat) : rKd (1000 + x) = 24 := if_pos (Nat.le_add_right _ _)
theorem rLV_row {G : QG} {ρ ρ2 bd : QSt} {k j : Nat} (h : ∀ r, rKd r = k → ∀ i, ρ2 r i = ρ r i) : rLV G ρ2 bd k j = rLV G ρ bd k j := by
  match k with
  | 0 => simp only [rLV]; rw [h 2 rfl, h 1 rfl, h 0 rfl, h 0 rfl, h 0 rfl, h 0 rfl, h 0 rfl]
  | 1 => simp only [rLV]; rw [show (fun i => nI (ρ2 64 i)) = (fun i => nI (ρ 64 i)) from funext fun i => by rw [h 64 rfl i]]
  | 2 => simp only [rLV]; rw [show (fun i => nI (ρ2 65 i)) = (fun i => nI (ρ 65 i)) from funext fun i => by rw [h 65 rfl i]]
  | 3 => simp only [rLV]; rw [show (fun i => nI (ρ2 (80 + i % 3) (i / 3))) = (fun i => nI (ρ (80 + i % 3) (i / 3))) from funext fun i => by rw [show ρ2 (80 + i % 3) (i / 3) = ρ (80 + i % 3) (i / 3) from by rcases (show i % 3 = 0 ∨ i % 3 = 1 ∨ i % 3 = 2 by omega) with z | z | z <;> rw [z] <;> exact h _ rfl _]]
  | 4 => simp only [rLV]; rw [show (fun i => nI (ρ2 66 i)) = (fun i => nI (ρ 66 i)) from funext fun i => by rw [h 66 rfl i]]
  | 5 => simp only [rLV]; rw [show (fun i => nI (ρ2 67 i)) = (fun i => nI (ρ 67 i)) from funext fun i => by rw [h 67 rfl i]]
  | 6 => simp only [rLV]; rw [show (fun i => nI (ρ2 69 i)) = (fun i => nI (ρ 69 i)) from funext fun i => by rw [h 69 rfl i]]
  | 7 => simp only [rLV]; rw [show (fun i => nI (ρ2 68 i)) = (fun i => nI (ρ 68 i)) from funext fun i => by rw [h 68 rfl i]]
  | 8 => simp only [rLV]; rw [show (fun i => nI (ρ2 96 i)) = (fun i => nI (ρ 96 i)) from funext fun i => by rw [h 96 rfl i]]
  | 9 => simp only [rLV]; rw [show (fun i => nI (ρ2 (112 + i % 3) (i / 3)) - 1) = (fun i => nI (ρ (112 + i % 3) (i / 3)) - 1) from funext fun i => by rw [show ρ2 (112 + i % 3) (i / 3) = ρ (112 + i % 3) (i / 3) from by rcases (show i % 3 = 0 ∨ i % 3 = 1 ∨ i % 3 = 2 by omega) with z | z | z <;> rw [z] <;> exact h _ rfl _]]
  | 10 => simp only [rLV]; rw [show (fun i => nI (ρ2 97 i)) = (fun i => nI (ρ 97 i)) from funext fun i => by rw [h 97 rfl i]]
  | 11 => simp only [rLV]; rw [show (fun i => nI (ρ2 144 i)) = (fun i => nI (ρ 144 i)) from funext fun i => by rw [h 144 rfl i]]
  | 12 => simp only [rLV]; rw [show (fun i => nI (ρ2 145 i)) = (fun i => nI (ρ 145 i)) from funext fun i => by rw [h 145 rfl i]]
  | 13 => simp only [rLV]; rw [show (fun i => nI (ρ2 146 i) - 1) = (fun i => nI (ρ 146 i) - 1) from funext fun i => by rw [h 146 rfl i]]
  | 14 => simp only [rLV]; rw [show (fun i => nI (ρ2 147 i)) = (fun i => nI (ρ 147 i)) from funext fun i => by rw [h 147 rfl i]]
  | 15 => simp only [rLV]; rw [show (fun i => nI (ρ2 128 i)) = (fun i => nI (ρ 128 i)) from funext fun i => by rw [h 128 rfl i]]
  | 16 => simp only [rLV]; rw [show (fun i => nI (ρ2 129 i)) = (fun i => nI (ρ 129 i)) from funext fun i => by rw [h 129 rfl i]]
  | 17 => simp only [rLV]; rw [show (fun i => nI (ρ2 130 i)) = (fun i => nI (ρ 130 i)) from funext fun i => by rw [h 130 rfl i]]
  | 18 => simp only [rLV]; rw [show (fun i => nI (ρ2 131 i)) = (fun i => nI (ρ 131 i)) from funext fun i => by rw [h 131 rfl i]]
  | 19 => simp only [rLV]; rw [show (fun i => nI (ρ2 133 i)) = (fun i => nI (ρ 133 i)) from funext fun i => by rw [h 133 rfl i]]
  | 20 => simp only [rLV]; rw [show (fun i => nI (ρ2 135 i)) = (fun i => nI (ρ 135 i)) from funext fun i => by rw [h 135 rfl i]]
  | 21 => simp only [rLV]; rw [show (fun i => nI (ρ2 160 i)) = (fun i => nI (ρ 160 i)) from funext fun i => by rw [h 160 rfl i]]
  | 22 => simp only [rLV]; rw [show (fun i => nI (ρ2 161 i)) = (fun i => nI (ρ 161 i)) from funext fun i => by rw [h 161 rfl i]]
  | 23 => simp only [rLV]; rw [show (fun i => nI (ρ2 162 i)) = (fun i => nI (ρ 162 i)) from funext fun i => by rw [h 162 rfl i]]
  | 24 => simp only [rLV]; rw [show (fun i => qbits (ρ2 (1000 + i / 4)) 50 (i % 4)) = (fun i => qbits (ρ (1000 + i / 4)) 50 (i % 4)) from funext fun i => by show qbits (ρ2 (1000 + i / 4)) 50 (i % 4) = qbits (ρ (1000 + i / 4)) 50 (i % 4); rw [show ρ2 (1000 + i / 4) = ρ (1000 + i / 4) from funext (h _ (rKd_bits _))]]
  | 25 => simp only [rLV]; rw [show (fun i => nI (ρ2 48 i)) = (fun i => nI (ρ 48 i)) from funext fun i => by rw [h 48 rfl i]]
  | 26 => simp only [rLV]; rw [show (fun i => nI (ρ2 208 i)) = (fun i => nI (ρ 208 i)) from funext fun i => by rw [h 208 rfl i]]
  | 27 => simp only [rLV]; rw [show (fun i => nI (ρ2 209 i)) = (fun i => nI (ρ 209 i)) from funext fun i => by rw [h 209 rfl i]]
  | 28 => simp only [rLV]; rw [show (fun i => nI (ρ2 192 i)) = (fun i => nI (ρ 192 i)) from funext fun i => by rw [h 192 rfl i]]
  | 29 => simp only [rLV]; rw [show (fun i => nI (ρ2 195 i) - 1) = (fun i => nI (ρ 195 i) - 1) from funext fun i => by rw [h 195 rfl i]]
  | k + 30 => rfl
def rW (G : QG) (A : Nat → Prop) (ρ bd : QSt) (H : Heap) : Prop := qPW G.1 A (rLV G ρ bd) bd H
theorem rW.to {G : QG} {A : Nat → Prop} {ρ bd : QSt} {H : Heap} (h : rW G A ρ bd H) {k j : Nat} {e : va_E} (hv : rLV G ρ bd k j = some e) : va_at G.1 vwCl (bd k j, e) H := (h.1 k j e hv).1
theorem rW.in {G : QG} {A : Nat → Prop} {ρ bd : QSt} {H : Heap} (h : rW G A ρ bd H) {k j : Nat} {e : va_E} (hv : rLV G ρ bd k j = some e) : A (bd k j) := (h.1 k j e hv).2
theorem rLV_j {G : QG} {ρ bd : QSt} {k j : Nat} (hj : j ≠ 0) : rLV G ρ bd k j = none := by
  match k with
  | 0 => exact if_neg hj
  | 1 => exact if_neg hj
  | 2 => exact if_neg hj
  | 3 => exact if_neg hj
  | 4 => exact if_neg hj
  | 5 => exact if_neg hj
  | 6 => exact if_neg hj
  | 7 => exact if_neg hj
  | 8 => exact if_neg hj
  | 9 => exact if_neg hj
  | 10 => exact if_neg hj
  | 11 => exact if_neg hj
  | 12 => exact if_neg hj
  | 13 => exact if_neg hj
  | 14 => exact if_neg hj
  | 15 => exact if_neg hj
  | 16 => exact if_neg hj
  | 17 => exact if_neg hj
  | 18 => exact if_neg hj
  | 19 => exact if_neg hj
  | 20 => exact if_neg hj
  | 21 => exact if_neg hj
  | 22 => exact if_neg hj
  | 23 => exact if_neg hj
  | 24 => exact if_neg hj
  | 25 => exact if_neg hj
  | 26 => exact if_neg hj
  | 27 => exact if_neg hj
  | 28 => exact if_neg hj
  | 29 => exact if_neg hj
  | k + 30 => rfl
theorem rW.up {G : QG} {A : Nat → Prop} {ρ ρ2 bd : QSt} {H H1 : Heap} (h : rW G A ρ bd H) (k : Nat) (hr : ∀ r, rKd r ≠ k → ∀ i, ρ2 r i = ρ r i) {e0 e1 : va_E} (hv : rLV G ρ bd k 0 = some e0) (hs : rLV G ρ2 bd k 0 = some e1) (he : va_at G.1 vwCl (bd k 0, e1) H1) (oq : ∀ q, q ≠ bd k 0 → H1[q]? = H[q]?) : rW G A ρ2 bd H1 :=
  qPW.put h hv he oq hs (fun k2 j2 hne => by
    by_cases hj : j2 = 0
    · exact rLV_row (fun r h2 => hr r (fun z => hne ⟨h2.symm.trans z, hj⟩))
    · rw [rLV_j hj, rLV_j hj])
theorem rW.upR {G : QG} {A : Nat → Prop} {ρ bd : QSt} {H H1 : Heap} (h : rW G A ρ bd H) (r i v : Nat) {k : Nat} (hk : rKd r = k) {e0 e1 : va_E} (hv : rLV G ρ bd k 0 = some e0) (hs : rLV G (qup ρ r i v) bd k 0 = some e1) (he : va_at G.1 vwCl (bd k 0, e1) H1) (oq : ∀ q, q ≠ bd k 0 → H1[q]? = H[q]?) : rW G A (qup ρ r i v) bd H1 :=
  h.up k (fun r2 h2 _ => qup_k (fun z => h2 (by rw [z]; exact hk))) hv hs he oq
/-- rows that lie in no cell may be changed -/
theorem rW.ghost {G : QG} {A : Nat → Prop} {ρ ρ2 bd : QSt} {H : Heap} (h : rW G A ρ bd H) (hr : ∀ r, rKd r ≠ 99 → ∀ i, ρ2 r i = ρ r i) : rW G A ρ2 bd H := by
  have e : ∀ k j, rLV G ρ2 bd k j = rLV G ρ bd k j := fun k j => by
    by_cases c : k = 99
    · subst c; rfl
    · exact rLV_row (fun r h2 => hr r (by rw [h2]; exact c))
  exact ⟨fun k j x hx => h.1 k j x ((e k j).symm.trans hx), fun k j k2 j2 x y hx hy => h.2 k j k2 j2 x y ((e k j).symm.trans hx) ((e k2 j2).symm.trans hy)⟩
def rR (G : QG) (A : Nat → Prop) (ρ bd : QSt) (av : List Value) : Array Value → State → Prop := va_Pc av (fun U => qCX G U ∧ rW G A ρ bd U.heap)
theorem rR.blind {G : QG} {A : Nat → Prop} {ρ bd : QSt} {av : List Value} : FrameBlind (rR G A ρ bd av) := fun _ _ _ _ q => ⟨q.1, q.2.1.blind, q.2.2⟩
theorem rR.pre {G : QG} {A : Nat → Prop} {ρ bd : QSt} {av : List Value} {s : State} {H : Heap} (hC : qCX G s) (hW : rW G A ρ bd H) : ∀ U : State, U.heap = H → s.WarmedH U.vm → rR G A ρ bd av av.toArray U := fun U hU hW2 => ⟨rfl, hC.warm hW2, by rw [hU]; exact hW⟩
/-! what a row holds behind a store -/
theorem r_upd (ρ : QSt) (r i v : Nat) : upd (fun j => nI (ρ r j)) i (nI v) = fun j => nI (qup ρ r i v r j) := by
  funext j
  by_cases c : j = i
  · subst c; simp [upd, qup_s]
  · simp [upd, c, qup_j c]
theorem r_updm (ρ : QSt) (r i v : Nat) : upd (fun j => nI (ρ r j) - 1) i (nI v - 1) = fun j => nI (qup ρ r i v r j) - 1 := by
  funext j
  by_cases c : j = i
  · subst c; simp [upd, qup_s]
  · simp [upd, c, qup_j c]
theorem r_upd3 (ρ : QSt) (r l k v : Nat) (hk : k < 3) : upd (fun j => nI (ρ (r + j % 3) (j / 3))) (3 * l + k) (nI v) = fun j => nI (qup ρ (r + k) l v (r + j % 3) (j / 3)) := by
  funext j
  by_cases c : j = 3 * l + k
  · subst c
    rw [show (3 * l + k) % 3 = k by omega, show (3 * l + k) / 3 = l by omega, qup_s]
    simp [upd]
  · have e : qup ρ (r + k) l v (r + j % 3) (j / 3) = ρ (r + j % 3) (j / 3) := if_neg (fun z => c (by omega))
    rw [e]
    simp [upd, c]
theorem r_upd3m (ρ : QSt) (r l k v : Nat) (hk : k < 3) : upd (fun j => nI (ρ (r + j % 3) (j / 3)) - 1) (3 * l + k) (nI v - 1) = fun j => nI (qup ρ (r + k) l v (r + j % 3) (j / 3)) - 1 := by
  funext j
  by_cases c : j = 3 * l + k
  · subst c
    rw [show (3 * l + k) % 3 = k by omega, show (3 * l + k) / 3 = l by omega, qup_s]
    simp [upd]
  · have e : qup ρ (r + k) l v (r + j % 3) (j / 3) = ρ (r + j % 3) (j / 3) := if_neg (fun z => c (by omega))
    rw [e]
    simp [upd, c]
theorem r_m1 : (-1 : Int32) = nI 0 - 1 := by decide
section RR
variable {p : Program} {l : Launch} {e : Env} {R : Room} {s : State} {m : MethodId} {args : Array Value} {below : List Frame} {meth : Method} {c : Code} {H : Heap} {locs : List Loc} {cells slots : Nat} {Q : State → Prop}
variable {cc : ByteArray} {pc : Nat} {ls : Array Slot} {rest : List Value} {D : va_G} {cl : List vw_C} {a : Nat} {tys : List (ClassId × FieldType)}
/-- compares whose meaning is told -/
theorem q_eqP (hexec : p.tables.exec = Jvm.exec) (hb : c.code = cc) {x y : Int32} {P : Prop} (hP : x = y ↔ P) {off : Int} {tgt : Nat} (hdg : decode cc pc = .ok (.if_icmp .eq off, 3)) (ht : (pc : Int) + off = (tgt : Int))
    (kt : P → W p l e R s m args below meth c H locs cells slots Q (F0 m tgt ls rest)) (kf : ¬ P → W p l e R s m args below meth c H locs cells slots Q (F0 m (pc + 3) ls rest)) : W p l e R s m args below meth c H locs cells slots Q (F0 m pc ls (.int y :: .int x :: rest)) :=
  lv_icmp_eq hexec hb hdg ht (fun z => kt (hP.mp z)) (fun z => kf (fun h => z (hP.mpr h)))
theorem q_neP (hexec : p.tables.exec = Jvm.exec) (hb : c.code = cc) {x y : Int32} {P : Prop} (hP : x = y ↔ P) {off : Int} {tgt : Nat} (hdg : decode cc pc = .ok (.if_icmp .ne off, 3)) (ht : (pc : Int) + off = (tgt : Int))
    (kt : ¬ P → W p l e R s m args below meth c H locs cells slots Q (F0 m tgt ls rest)) (kf : P → W p l e R s m args below meth c H locs cells slots Q (F0 m (pc + 3) ls rest)) : W p l e R s m args below meth c H locs cells slots Q (F0 m pc ls (.int y :: .int x :: rest)) :=
  lv_icmp_ne hexec hb hdg ht (fun z => kt (fun h => z (hP.mpr h))) (fun z => kf (hP.mp z))
/-- loads of a row's place, the number told -/
theorem r_iald (hexec : p.tables.exec = Jvm.exec) (hb : c.code = cc) (hK : va_K D cl tys s) {cA : ClassId} {n : Nat} {f : Nat → Int32} (hat : va_at D cl (a, .inl (cA, n, .inl f)) H) (t0 : Nat) (ht : tys[t0]? = some (cA, .int)) {i : Nat} (hi : i < n) (hn : n < 2 ^ 31) {v : Int32} (hv : f i = v) (hdg : decode cc pc = .ok (.iaload, 1))
    (kk : W p l e R s m args below meth c H locs cells slots Q (F0 m (pc + 1) ls (.int v :: rest))) : W p l e R s m args below meth c H locs cells slots Q (F0 m pc ls (.int (nI i) :: .ref a :: rest)) :=
  va_iald hexec hb hK (va_P1 hat) 0 t0 rfl ht (vp_in_nI hi hn) hdg (q_ti (y := v) (by rw [nI_clamp (by omega)]; exact hv) kk)
theorem r_cald (hexec : p.tables.exec = Jvm.exec) (hb : c.code = cc) (hK : va_K D cl tys s) {cA : ClassId} {n : Nat} {f : Nat → Int32} (hat : va_at D cl (a, .inl (cA, n, .inl f)) H) (t0 : Nat) (ht : tys[t0]? = some (cA, .char)) {i : Nat} (hi : i < n) (hn : n < 2 ^ 31) {v : Int32} (hv : f i = v) (hdg : decode cc pc = .ok (.caload, 1))
    (kk : W p l e R s m args below meth c H locs cells slots Q (F0 m (pc + 1) ls (.int v :: rest))) : W p l e R s m args below meth c H locs cells slots Q (F0 m pc ls (.int (nI i) :: .ref a :: rest)) :=
  va_cald hexec hb hK (va_P1 hat) 0 t0 rfl ht (vp_in_nI hi hn) hdg (q_ti (y := v) (by rw [nI_clamp (by omega)]; exact hv) kk)
theorem r_zald (hexec : p.tables.exec = Jvm.exec) (hb : c.code = cc) (hK : va_K D cl tys s) {cA : ClassId} {n : Nat} {f : Nat → Int32} (hat : va_at D cl (a, .inl (cA, n, .inl f)) H) (t0 : Nat) (ht : tys[t0]? = some (cA, .boolean)) {i : Nat} (hi : i < n) (hn : n < 2 ^ 31) {v : Int32} (hv : f i = v) (hdg : decode cc pc = .ok (.baload, 1))
    (kk : W p l e R s m args below meth c H locs cells slots Q (F0 m (pc + 1) ls (.int v :: rest))) : W p l e R s m args below meth c H locs cells slots Q (F0 m pc ls (.int (nI i) :: .ref a :: rest)) :=
  va_zald hexec hb hK (va_P1 hat) 0 t0 rfl ht (vp_in_nI hi hn) hdg (q_ti (y := v) (by rw [nI_clamp (by omega)]; exact hv) kk)
theorem r_lald (hexec : p.tables.exec = Jvm.exec) (hb : c.code = cc) (hK : va_K D cl tys s) {cA : ClassId} {n : Nat} {f : Nat → Int64} (hat : va_at D cl (a, .inl (cA, n, .inr (.inl f))) H) (t0 : Nat) (ht : tys[t0]? = some (cA, .long)) {i : Nat} (hi : i < n) (hn : n < 2 ^ 31) {v : Int64} (hv : f i = v) (hdg : decode cc pc = .ok (.laload, 1))
    (kk : W p l e R s m args below meth c H locs cells slots Q (F0 m (pc + 1) ls (.long v :: rest))) : W p l e R s m args below meth c H locs cells slots Q (F0 m pc ls (.int (nI i) :: .ref a :: rest)) :=
  va_lald hexec hb hK (va_P1 hat) 0 t0 rfl ht (vp_in_nI hi hn) hdg (q_tl (y := v) (by rw [nI_clamp (by omega)]; exact hv) kk)
end RR
/-- bounds of the reference's state -/
def rWF (ρ : QSt) : Prop := (∀ r i, ρ r i < 1073741824) ∧ (ρ 0 0 ≤ 200 ∧ ρ 0 1 ≤ 200 ∧ ρ 0 2 ≤ 6 ∧ ρ 0 3 ≤ 1300 ∧ ρ 0 4 ≤ 20) ∧ (∀ j, j < ρ 0 0 → ρ 67 j ≤ ρ 1 0 ∧ ρ 66 j ≤ 99) ∧ (∀ a, a < ρ 0 2 → ρ 146 a ≤ 3 ∧ (ρ 131 a ≠ 113 → ρ 135 a < ρ 0 3) ∧ (ρ 131 a = 104 → 1 ≤ ρ 133 a)) ∧ (∀ f, f < ρ 0 3 → ρ 160 f < ρ 0 2)
theorem rWF.b {ρ : QSt} (h : rWF ρ) (r i : Nat) : ρ r i < 1073741824 := h.1 r i
theorem rWF.n {ρ : QSt} (h : rWF ρ) : ρ 0 0 ≤ 200 ∧ ρ 0 1 ≤ 200 ∧ ρ 0 2 ≤ 6 ∧ ρ 0 3 ≤ 1300 ∧ ρ 0 4 ≤ 20 := h.2.1
theorem rWF.lin {ρ : QSt} (h : rWF ρ) {j : Nat} (hj : j < ρ 0 0) : ρ 67 j ≤ ρ 1 0 ∧ ρ 66 j ≤ 99 := h.2.2.1 j hj
theorem rWF.al {ρ : QSt} (h : rWF ρ) {a : Nat} (ha : a < ρ 0 2) : ρ 146 a ≤ 3 ∧ (ρ 131 a ≠ 113 → ρ 135 a < ρ 0 3) ∧ (ρ 131 a = 104 → 1 ≤ ρ 133 a) := h.2.2.2.1 a ha
theorem rWF.fir {ρ : QSt} (h : rWF ρ) {f : Nat} (hf : f < ρ 0 3) : ρ 160 f < ρ 0 2 := h.2.2.2.2 f hf

