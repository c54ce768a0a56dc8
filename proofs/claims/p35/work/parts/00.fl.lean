/-! numbers that are no NaN (names of the whole library: this part sends a round over all of it) -/
theorem rfl_64 {x : UInt64} : vf_n64 x ↔ Jvm.FP.Core.dIsNaN x = false := by
  unfold vf_n64
  rw [UInt64.le_iff_toNat_le, UInt64.toNat_and]
  have h1 : (0x7fffffffffffffff : UInt64).toNat = 2 ^ 63 - 1 := by decide
  have h2 : (0x7ff0000000000000 : UInt64).toNat = 9218868437227405312 := by decide
  rw [h1, h2, Nat.and_two_pow_sub_one_eq_mod, ← Bool.not_eq_true, Jvm.FP.Core.isNaN_bits]
  exact Nat.not_lt.symm
theorem rfl_32 {x : UInt32} : vf_n32 x ↔ Jvm.FP.Core.fIsNaN x = false := by
  unfold vf_n32
  rw [UInt32.le_iff_toNat_le, UInt32.toNat_and]
  have h1 : (0x7fffffff : UInt32).toNat = 2 ^ 31 - 1 := by decide
  have h2 : (0x7f800000 : UInt32).toNat = 2139095040 := by decide
  rw [h1, h2, Nat.and_two_pow_sub_one_eq_mod, ← Bool.not_eq_true, Jvm.FP.Core.isNaN_bits32]
  exact Nat.not_lt.symm
theorem rfl_ddiv (a : Int32) {b : Int32} (hb : b ≠ 0) : vf_n64 (Jvm.FP.ddiv (Jvm.FP.i2d a) (Jvm.FP.i2d b)) :=
  rfl_64.mpr (Jvm.FP.Core.ddiv_out (Jvm.FP.Core.i2d_fin a).notNaN (Jvm.FP.Core.i2d_fin b) (fun z => Jvm.FP.Core.i2d_ne_zero hb ((Jvm.FP.Core.zero_bits2 _).mp z)))
theorem rfl_fdiv (a : Int32) {b : Int32} (hb : b ≠ 0) : vf_n32 (Jvm.FP.fdiv (Jvm.FP.i2f a) (Jvm.FP.i2f b)) :=
  rfl_32.mpr (Jvm.FP.Core.fdiv_out (Jvm.FP.Core.i2f_fin a).notNaN (Jvm.FP.Core.i2f_fin b) (fun z => Jvm.FP.Core.i2f_ne_zero hb ((Jvm.FP.Core.zero_bits232 _).mp z)))
theorem rfl_f2d {x : UInt32} (h : vf_n32 x) : vf_n64 (Jvm.FP.f2d x) := rfl_64.mpr ((Jvm.FP.f2d_nan x).trans (rfl_32.mp h))
theorem rfl_cmp {x : UInt64} (h : vf_n64 x) (op : CmpOp) : Op.cmpValue (Jvm.FP.dcmp x x) op = 0 := by
  have h1 : Jvm.FP.dcmp x x = some .eq := Jvm.FP.Core.dcmp_self ((Jvm.FP.Core.notNaN_iff x).mp (rfl_64.mp h))
  rw [h1]
  cases op <;> rfl
theorem rfl_cmp32 {x : UInt32} (h : vf_n32 x) (op : CmpOp) : Op.cmpValue (Jvm.FP.fcmp x x) op = 0 := by
  have h1 : Jvm.FP.fcmp x x = some .eq := Jvm.FP.Core.fcmp_self ((Jvm.FP.Core.notNaN_iff32 x).mp (rfl_32.mp h))
  rw [h1]
  cases op <;> rfl
