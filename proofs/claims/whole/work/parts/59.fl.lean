theorem rfl_test (a b : UInt64) (ha : Jvm.FP.Core.dIsNaN a = false) (hb : Jvm.FP.Core.DFin b) (hz : ¬ Jvm.FP.Core.DZero b) : vf_n64 (Jvm.FP.ddiv a b) := by
  have h := Jvm.FP.Core.ddiv_out ha hb hz
  unfold vf_n64
  rw [UInt64.le_iff_toNat_le, UInt64.toNat_and]
  have h1 : (0x7fffffffffffffff : UInt64).toNat = 2 ^ 63 - 1 := by decide
  have h2 : (0x7ff0000000000000 : UInt64).toNat = 9218868437227405312 := by decide
  rw [h1, h2, Nat.and_two_pow_sub_one_eq_mod]
  have h3 := Jvm.FP.Core.isNaN_bits (Jvm.FP.ddiv a b)
  rw [show Jvm.FP.Core.dIsNaN (Jvm.FP.ddiv a b) = false from h] at h3
  have h4 : ¬ (9218868437227405312 < (Jvm.FP.ddiv a b).toNat % 2 ^ 63) := fun z => absurd (h3.mpr z) (by decide)
  exact Nat.le_of_not_lt h4
