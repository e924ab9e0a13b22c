/-! quotients of sums are numbers -/
theorem fp_n64 {x : UInt64} (h : Jvm.FP.Core.dIsNaN x = false) : vf_n64 x := by
  have h2 : ¬ Jvm.FP.Core.dIsNaN x = true := by rw [h]; decide
  have h3 : ¬ 9218868437227405312 < x.toNat % 2 ^ 63 := fun q => h2 ((Jvm.FP.Core.isNaN_bits x).mpr q)
  unfold vf_n64
  rw [UInt64.le_iff_toNat_le, UInt64.toNat_and, show (0x7fffffffffffffff : UInt64).toNat = 2 ^ 63 - 1 by decide, show (0x7ff0000000000000 : UInt64).toNat = 9218868437227405312 by decide, Nat.and_two_pow_sub_one_eq_mod]
  exact Nat.le_of_not_lt h3
theorem fp_div {a b : Int64} (hb : b ≠ 0) : vf_n64 (FP.ddiv (FP.l2d a) (FP.l2d b)) :=
  fp_n64 (Jvm.FP.Core.ddiv_out (Jvm.FP.Core.l2d_notNaN a) (Jvm.FP.Core.l2d_fin b) (fun h => Jvm.FP.Core.l2d_ne_zero hb ((Jvm.FP.Core.zero_bits2 _).mp h)))
theorem fp_il (x : Int32) : FP.i2d x = FP.l2d x.toInt64 := Jvm.FP.Core.i2d_l2d x
