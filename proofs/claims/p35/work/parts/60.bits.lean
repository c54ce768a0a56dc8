/-! the number of bits of a long -/
theorem bb_and {a b c d : Nat} (ha : a < 256) (hc : c < 256) : (a + 256 * b) &&& (c + 256 * d) = (a &&& c) + 256 * (b &&& d) := by
  have hac : a &&& c < 2 ^ 8 := Nat.lt_of_le_of_lt Nat.and_le_left ha
  apply Nat.eq_of_testBit_eq
  intro i
  rw [Nat.testBit_and, show a + 256 * b = 2 ^ 8 * b + a by omega, show c + 256 * d = 2 ^ 8 * d + c by omega, show (a &&& c) + 256 * (b &&& d) = 2 ^ 8 * (b &&& d) + (a &&& c) by omega, Nat.testBit_two_pow_mul_add _ ha, Nat.testBit_two_pow_mul_add _ hc, Nat.testBit_two_pow_mul_add _ hac]
  by_cases h : i < 8
  · rw [if_pos h, if_pos h, if_pos h, Nat.testBit_and]
  · rw [if_neg h, if_neg h, if_neg h, Nat.testBit_and]
/-- a number of as many bytes m each -/
def bbM (m : Nat) : Nat → Nat
  | 0 => 0
  | n + 1 => m + 256 * bbM m n
/-- a function of each byte -/
def bbd (f : Nat → Nat) : Nat → Nat → Nat
  | 0, _ => 0
  | n + 1, x => f (x % 256) + 256 * bbd f n (x / 256)
theorem bb_c1 : ∀ b, b < 256 → ∀ t, t < 2 → ((b / 2 + 128 * t) &&& 85 = b / 2 &&& 85) ∧ b / 2 &&& 85 ≤ b := by decide +kernel
theorem bb_c2 : ∀ y, y < 256 → ∀ t, t < 4 → (y / 4 + 64 * t) &&& 51 = y / 4 &&& 51 := by decide +kernel
def bb1 (b : Nat) : Nat := b - (b / 2 &&& 85)
def bb2 (b : Nat) : Nat := (bb1 b &&& 51) + (bb1 b / 4 &&& 51)
def bb3 (b : Nat) : Nat := (bb2 b + bb2 b / 16) &&& 15
theorem bb_b1 : ∀ b, b < 256 → bb1 b < 256 ∧ bb2 b ≤ 68 ∧ bb2 b % 16 ≤ 4 := by decide +kernel
theorem bb_c3 : ∀ z, z < 69 → ∀ t, t < 5 → (z + z / 16 + 16 * t) &&& 15 = (z + z / 16) &&& 15 := by decide +kernel
theorem bbd_lt {f : Nat → Nat} (hf : ∀ b, b < 256 → f b < 256) : ∀ n x, bbd f n x < 256 ^ n
  | 0, _ => by simp [bbd]
  | n + 1, x => by
    have h1 := bbd_lt hf n (x / 256)
    have h2 := hf (x % 256) (Nat.mod_lt _ (by decide))
    show f (x % 256) + 256 * bbd f n (x / 256) < 256 ^ (n + 1)
    rw [Nat.pow_succ]
    omega
theorem bbd_lt2 {f : Nat → Nat} (hf : ∀ b, b < 256 → f b ≤ 127) : ∀ n x, 2 * bbd f n x < 256 ^ n
  | 0, _ => by simp [bbd]
  | n + 1, x => by
    have h1 := bbd_lt2 hf n (x / 256)
    have h2 := hf (x % 256) (Nat.mod_lt _ (by decide))
    show 2 * (f (x % 256) + 256 * bbd f n (x / 256)) < 256 ^ (n + 1)
    rw [Nat.pow_succ]
    omega
theorem bb_s1 : ∀ n x, x < 256 ^ n → x / 2 &&& bbM 85 n ≤ x ∧ x - (x / 2 &&& bbM 85 n) = bbd bb1 n x
  | 0, x, h => by
    have : x = 0 := by simpa using h
    subst this
    exact ⟨Nat.le_refl 0, rfl⟩
  | n + 1, x, h => by
    have hb : x % 256 < 256 := Nat.mod_lt _ (by decide)
    have ht : x / 256 % 2 < 2 := Nat.mod_lt _ (by decide)
    obtain ⟨i1, i2⟩ := bb_s1 n (x / 256) (by rw [Nat.pow_succ] at h; omega)
    obtain ⟨c1, c2⟩ := bb_c1 (x % 256) hb (x / 256 % 2) ht
    have e1 : x / 2 = (x % 256 / 2 + 128 * (x / 256 % 2)) + 256 * (x / 256 / 2) := by omega
    have e2 : x / 2 &&& bbM 85 (n + 1) = (x % 256 / 2 &&& 85) + 256 * (x / 256 / 2 &&& bbM 85 n) := by
      rw [e1]
      show _ &&& (85 + 256 * bbM 85 n) = _
      rw [bb_and (by omega) (by decide), c1]
    rw [e2]
    show _ ∧ _ = bb1 (x % 256) + 256 * bbd bb1 n (x / 256)
    rw [← i2]
    unfold bb1
    omega
theorem bb_s2 : ∀ n x, (bbd bb1 n x &&& bbM 51 n) + (bbd bb1 n x / 4 &&& bbM 51 n) = bbd bb2 n x
  | 0, x => by show (0 &&& 0) + (0 / 4 &&& 0) = 0; decide
  | n + 1, x => by
    have hb := (bb_b1 (x % 256) (Nat.mod_lt _ (by decide))).1
    have ih := bb_s2 n (x / 256)
    show ((bb1 (x % 256) + 256 * bbd bb1 n (x / 256)) &&& (51 + 256 * bbM 51 n)) + ((bb1 (x % 256) + 256 * bbd bb1 n (x / 256)) / 4 &&& (51 + 256 * bbM 51 n)) = bb2 (x % 256) + 256 * bbd bb2 n (x / 256)
    have e1 : (bb1 (x % 256) + 256 * bbd bb1 n (x / 256)) / 4 = (bb1 (x % 256) / 4 + 64 * (bbd bb1 n (x / 256) % 4)) + 256 * (bbd bb1 n (x / 256) / 4) := by omega
    rw [e1, bb_and hb (by decide), bb_and (by omega) (by decide), bb_c2 _ hb _ (Nat.mod_lt _ (by decide)), ← ih]
    unfold bb2
    omega
theorem bb_mod {n x : Nat} : bbd bb2 n x % 16 ≤ 4 := by
  cases n with
  | zero => exact Nat.zero_le _
  | succ n =>
    have h := (bb_b1 (x % 256) (Nat.mod_lt _ (by decide))).2.2
    show (bb2 (x % 256) + 256 * bbd bb2 n (x / 256)) % 16 ≤ 4
    omega
theorem bb_s3 : ∀ n x, (bbd bb2 n x + bbd bb2 n x / 16) &&& bbM 15 n = bbd bb3 n x
  | 0, x => by show (0 + 0 / 16) &&& 0 = 0; decide
  | n + 1, x => by
    have hb := (bb_b1 (x % 256) (Nat.mod_lt _ (by decide))).2.1
    have ih := bb_s3 n (x / 256)
    have hm := bb_mod (n := n) (x := x / 256)
    show ((bb2 (x % 256) + 256 * bbd bb2 n (x / 256)) + (bb2 (x % 256) + 256 * bbd bb2 n (x / 256)) / 16) &&& (15 + 256 * bbM 15 n) = bb3 (x % 256) + 256 * bbd bb3 n (x / 256)
    have e1 : (bb2 (x % 256) + 256 * bbd bb2 n (x / 256)) + (bb2 (x % 256) + 256 * bbd bb2 n (x / 256)) / 16 = (bb2 (x % 256) + bb2 (x % 256) / 16 + 16 * (bbd bb2 n (x / 256) % 16)) + 256 * (bbd bb2 n (x / 256) + bbd bb2 n (x / 256) / 16) := by omega
    rw [e1, bb_and (by omega) (by decide), bb_c3 _ (by omega) _ (by omega), ← ih]
    rfl
/-- the steps that the machine takes, in numbers -/
def bbA1 (x : Nat) : Nat := x - (x / 2 &&& 6148914691236517205)
def bbA2 (x : Nat) : Nat := (bbA1 x &&& 3689348814741910323) + (bbA1 x / 4 &&& 3689348814741910323)
def bbA3 (x : Nat) : Nat := (bbA2 x + bbA2 x / 16) &&& 1085102592571150095
def bbA4 (x : Nat) : Nat := bbA3 x + bbA3 x / 256
def bbA5 (x : Nat) : Nat := bbA4 x + bbA4 x / 65536
def bbA6 (x : Nat) : Nat := bbA5 x + bbA5 x / 4294967296
theorem bbM_85 : bbM 85 8 = 6148914691236517205 := by decide
theorem bbM_51 : bbM 51 8 = 3689348814741910323 := by decide
theorem bbM_15 : bbM 15 8 = 1085102592571150095 := by decide
theorem bb_256 : 256 ^ 8 = 18446744073709551616 := by decide
theorem bb_A1 {x : Nat} (h : x < 18446744073709551616) : x / 2 &&& 6148914691236517205 ≤ x ∧ bbA1 x = bbd bb1 8 x := by
  have := bb_s1 8 x (by rw [bb_256]; exact h)
  rw [bbM_85] at this
  unfold bbA1
  exact this
theorem bb_A2 {x : Nat} (h : x < 18446744073709551616) : bbA2 x = bbd bb2 8 x := by
  unfold bbA2
  rw [(bb_A1 h).2]
  have := bb_s2 8 x
  rw [bbM_51] at this
  exact this
theorem bb_A3 {x : Nat} (h : x < 18446744073709551616) : bbA3 x = bbd bb3 8 x := by
  unfold bbA3
  rw [bb_A2 h]
  have := bb_s3 8 x
  rw [bbM_15] at this
  exact this
theorem bb_lt {x : Nat} (h : x < 18446744073709551616) : bbA1 x < 18446744073709551616 ∧ bbA2 x < 9223372036854775808 ∧ bbA2 x + bbA2 x / 16 < 18446744073709551616 := by
  have h1 : bbd bb1 8 x < 256 ^ 8 := bbd_lt (fun b hb => (bb_b1 b hb).1) 8 x
  have h2 : bbd bb2 8 x < 256 ^ 8 := bbd_lt (fun b hb => Nat.lt_of_le_of_lt (bb_b1 b hb).2.1 (by decide)) 8 x
  have h3 : bbd bb2 8 x < 9223372036854775808 := by
    have := bbd_lt2 (f := bb2) (fun b hb => Nat.le_trans (bb_b1 b hb).2.1 (by decide)) 8 x
    have e : 256 ^ 8 = 2 * 9223372036854775808 := by decide
    rw [e] at this
    exact Nat.lt_of_mul_lt_mul_left this
  rw [(bb_A1 h).2, bb_A2 h]
  exact ⟨h1, h3, by omega⟩
theorem bb_d1 {a w : Nat} (h : a < 256) : (a + 256 * w) / 256 = w := by omega
theorem bb_d2 {a w : Nat} (h : a < 65536) : (a + 65536 * w) / 65536 = w := by omega
theorem bb_d3 {a w : Nat} (h : a < 4294967296) : (a + 4294967296 * w) / 4294967296 = w := by omega
theorem bb_e2 (a b c d e f g k : Nat) : (a + 256 * (b + 256 * (c + 256 * (d + 256 * (e + 256 * (f + 256 * (g + 256 * k))))))) + (b + 256 * (c + 256 * (d + 256 * (e + 256 * (f + 256 * (g + 256 * k)))))) = ((a + b) + 256 * (b + c)) + 65536 * ((c + d) + 256 * ((d + e) + 256 * ((e + f) + 256 * ((f + g) + 256 * ((g + k) + 256 * k))))) := by omega
theorem bb_e4 (a b c d e f g k : Nat) : ((a + b) + 256 * (b + c)) + 65536 * ((c + d) + 256 * ((d + e) + 256 * ((e + f) + 256 * ((f + g) + 256 * ((g + k) + 256 * k))))) + ((c + d) + 256 * ((d + e) + 256 * ((e + f) + 256 * ((f + g) + 256 * ((g + k) + 256 * k))))) = ((a + b + c + d) + 256 * ((b + c + d + e) + 256 * ((c + d + e + f) + 256 * (d + e + f + g)))) + 4294967296 * ((e + f + g + k) + 256 * ((f + g + k) + 256 * ((g + k) + 256 * k))) := by omega
theorem bb_e6 (a b c d e f g k : Nat) : ((a + b + c + d) + 256 * ((b + c + d + e) + 256 * ((c + d + e + f) + 256 * (d + e + f + g)))) + 4294967296 * ((e + f + g + k) + 256 * ((f + g + k) + 256 * ((g + k) + 256 * k))) + ((e + f + g + k) + 256 * ((f + g + k) + 256 * ((g + k) + 256 * k))) = (a + b + c + d + e + f + g + k) + 128 * (2 * ((b + c + d + e) + 256 * ((c + d + e + f) + 256 * (d + e + f + g))) + 33554432 * ((e + f + g + k) + 256 * ((f + g + k) + 256 * ((g + k) + 256 * k))) + 2 * ((f + g + k) + 256 * ((g + k) + 256 * k))) := by omega
theorem bb_end {a b c d e f g k : Nat} (ha : a ≤ 8) (hb : b ≤ 8) (hc : c ≤ 8) (hd : d ≤ 8) (he : e ≤ 8) (hf : f ≤ 8) (hg : g ≤ 8) (hk : k ≤ 8) : ∀ w, w = a + 256 * (b + 256 * (c + 256 * (d + 256 * (e + 256 * (f + 256 * (g + 256 * k)))))) → ∀ v, v = w + w / 256 → ∀ u, u = v + v / 65536 → (u + u / 4294967296) % 128 = a + b + c + d + e + f + g + k := by
  have m1 : a + b + c + d + e + f + g + k < 128 := by omega
  have m2 : (a + b) + 256 * (b + c) < 65536 := by omega
  have m3 : (a + b + c + d) + 256 * ((b + c + d + e) + 256 * ((c + d + e + f) + 256 * (d + e + f + g))) < 4294967296 := by omega
  have m4 : a < 256 := by omega
  clear ha hb hc hd he hf hg hk
  intro w hw v hv u hu
  subst hw
  rw [bb_d1 m4, bb_e2] at hv
  subst hv
  rw [bb_d2 m2, bb_e4] at hu
  subst hu
  rw [bb_d3 m3, bb_e6, Nat.add_mul_mod_self_left]
  exact Nat.mod_eq_of_lt m1
theorem bb3_le : ∀ b, b < 256 → bb3 b ≤ 8 := by decide +kernel
theorem bb_all {x : Nat} (h : x < 18446744073709551616) : bbA6 x % 128 = bb3 (x % 256) + bb3 (x / 256 % 256) + bb3 (x / 256 / 256 % 256) + bb3 (x / 256 / 256 / 256 % 256) + bb3 (x / 256 / 256 / 256 / 256 % 256) + bb3 (x / 256 / 256 / 256 / 256 / 256 % 256) + bb3 (x / 256 / 256 / 256 / 256 / 256 / 256 % 256) + bb3 (x / 256 / 256 / 256 / 256 / 256 / 256 / 256 % 256) := by
  have hd := fun y => bb3_le (y % 256) (Nat.mod_lt _ (by decide))
  exact bb_end (hd x) (hd _) (hd _) (hd _) (hd _) (hd _) (hd _) (hd _) (bbA3 x) (bb_A3 h) (bbA4 x) rfl (bbA5 x) rfl
theorem bb_by0 : ∀ b, b < 256 → bb3 b = qsum (fun j => b / 2 ^ j % 2) 8 := by decide +kernel
theorem bb_byte (y : Nat) : bb3 (y % 256) = qsum (fun j => y / 2 ^ j % 2) 8 := by
  rw [bb_by0 (y % 256) (Nat.mod_lt _ (by decide))]
  refine qsum_congr _ (fun j hj => ?_)
  have e : ∀ z, z / 2 ^ j % 2 = (z.testBit j).toNat := fun z => by rw [Nat.testBit_eq_decide_div_mod_eq]; rcases Nat.mod_two_eq_zero_or_one (z / 2 ^ j) with h | h <;> rw [h] <;> rfl
  have := Nat.testBit_mod_two_pow y 8 j
  rw [decide_eq_true hj, Bool.true_and] at this
  rw [e, e]
  show ((y % 2 ^ 8).testBit j).toNat = _
  rw [this]
theorem qsum_split (f : Nat → Nat) (m : Nat) : ∀ n, qsum f (m + n) = qsum f m + qsum (fun k => f (m + k)) n
  | 0 => rfl
  | n + 1 => by
    show qsum f (m + n) + f (m + n) = qsum f m + (qsum (fun k => f (m + k)) n + f (m + n))
    rw [qsum_split f m n, Nat.add_assoc]
theorem bb_byte2 (x m : Nat) : bb3 (x / 2 ^ m % 256) = qsum (fun j => x / 2 ^ (m + j) % 2) 8 := by
  rw [bb_byte]
  refine qsum_congr _ (fun j _ => ?_)
  rw [Nat.div_div_eq_div_mul, ← Nat.pow_add]
theorem bb_sum {x : Nat} (h : x < 18446744073709551616) : bbA6 x % 128 = qsum (fun i => x / 2 ^ i % 2) 64 := by
  rw [bb_all h]
  have s1 := qsum_split (fun i => x / 2 ^ i % 2) 56 8
  have s2 := qsum_split (fun i => x / 2 ^ i % 2) 48 8
  have s3 := qsum_split (fun i => x / 2 ^ i % 2) 40 8
  have s4 := qsum_split (fun i => x / 2 ^ i % 2) 32 8
  have s5 := qsum_split (fun i => x / 2 ^ i % 2) 24 8
  have s6 := qsum_split (fun i => x / 2 ^ i % 2) 16 8
  have s7 := qsum_split (fun i => x / 2 ^ i % 2) 8 8
  have b0 : bb3 (x % 256) = qsum (fun i => x / 2 ^ i % 2) 8 := bb_byte x
  have d2 : x / 256 / 256 = x / 65536 := Nat.div_div_eq_div_mul x 256 256
  have d3 : x / 65536 / 256 = x / 16777216 := Nat.div_div_eq_div_mul x 65536 256
  have d4 : x / 16777216 / 256 = x / 4294967296 := Nat.div_div_eq_div_mul x 16777216 256
  have d5 : x / 4294967296 / 256 = x / 1099511627776 := Nat.div_div_eq_div_mul x 4294967296 256
  have d6 : x / 1099511627776 / 256 = x / 281474976710656 := Nat.div_div_eq_div_mul x 1099511627776 256
  have d7 : x / 281474976710656 / 256 = x / 72057594037927936 := Nat.div_div_eq_div_mul x 281474976710656 256
  have b1 : bb3 (x / 256 % 256) = _ := bb_byte2 x 8
  have b2 : bb3 (x / 65536 % 256) = _ := bb_byte2 x 16
  have b3 : bb3 (x / 16777216 % 256) = _ := bb_byte2 x 24
  have b4 : bb3 (x / 4294967296 % 256) = _ := bb_byte2 x 32
  have b5 : bb3 (x / 1099511627776 % 256) = _ := bb_byte2 x 40
  have b6 : bb3 (x / 281474976710656 % 256) = _ := bb_byte2 x 48
  have b7 : bb3 (x / 72057594037927936 % 256) = _ := bb_byte2 x 56
  rw [d2, d3, d4, d5, d6, d7, b0, b1, b2, b3, b4, b5, b6, b7]
  exact (s1.trans (by rw [s2, s3, s4, s5, s6, s7])).symm
/-- the bits of a row of marks -/
theorem bb_marks (F : Nat → Nat) (w : Nat) : bbA6 (qbits F 64 w).toBitVec.toNat % 128 = qsum (fun i => qB (F (64 * w + i) = 1)) 64 := by
  have hx : (qbits F 64 w).toBitVec.toNat < 18446744073709551616 := (qbits F 64 w).toBitVec.isLt
  rw [bb_sum hx]
  refine qsum_congr _ (fun i hi => ?_)
  have h1 := qbits_get F 64 w i (Nat.le_refl _)
  rw [BitVec.getLsbD] at h1
  have h2 : (qbits F 64 w).toBitVec.toNat.testBit i = decide ((qbits F 64 w).toBitVec.toNat / 2 ^ i % 2 = 1) := Nat.testBit_eq_decide_div_mod_eq
  rw [h2] at h1
  have h3 : (qbits F 64 w).toBitVec.toNat / 2 ^ i % 2 < 2 := Nat.mod_lt _ (by decide)
  by_cases c : F (64 * w + i) = 1
  · rw [qB_t c]
    have : decide ((qbits F 64 w).toBitVec.toNat / 2 ^ i % 2 = 1) = true := by rw [h1]; simp [hi, c]
    exact of_decide_eq_true this
  · rw [qB_f c]
    have : decide ((qbits F 64 w).toBitVec.toNat / 2 ^ i % 2 = 1) = false := by rw [h1]; simp [c]
    have := of_decide_eq_false this
    omega
