/-! the two quotients: they are numbers -/
section FLTQ
theorem i32_0 {x : Int} (h : 0 < x ∧ x ≤ 2147483647) : (Int32.ofInt x) ≠ 0 := by
  intro e
  have h1 := congrArg Int32.toInt e
  rw [Int32.toInt_ofInt_of_le (by omega) (by omega)] at h1
  have h0 : (0 : Int32).toInt = 0 := by decide
  omega
theorem fq_n {a b : Int} (hb : 0 < b ∧ b ≤ 2147483647) : FP.fIsNaN (FP.fdiv (FP.i2f (Int32.ofInt a)) (FP.i2f (Int32.ofInt b))) = false := by
  refine FP.fdiv_out (FP.FFin.notNaN (FP.i2f_fin _)) (FP.i2f_fin _) (fun hz => ?_)
  exact FP.i2f_ne_zero (i32_0 hb) ((FP.zero_bits232 _).mp hz)
theorem dq_n {a b : Int} (hb : 0 < b ∧ b ≤ 2147483647) : FP.dIsNaN (FP.ddiv (FP.i2d (Int32.ofInt a)) (FP.i2d (Int32.ofInt b))) = false := by
  refine FP.ddiv_out (FP.DFin.notNaN (FP.i2d_fin _)) (FP.i2d_fin _) (fun hz => ?_)
  exact FP.i2d_ne_zero (i32_0 hb) ((FP.zero_bits2 _).mp hz)
theorem n32_of {r : UInt32} (h : FP.fIsNaN r = false) : vf_n32 r := by
  have h1 : ¬ (2139095040 < r.toNat % 2 ^ 31) := fun q => by rw [(FP.isNaN_bits32 r).mpr q] at h; cases h
  unfold vf_n32
  rw [UInt32.le_iff_toNat_le, UInt32.toNat_and, show (0x7fffffff : UInt32).toNat = 2 ^ 31 - 1 from rfl, Nat.and_two_pow_sub_one_eq_mod]
  show _ ≤ 2139095040
  omega
theorem n64_of {r : UInt64} (h : FP.dIsNaN r = false) : vf_n64 r := by
  have h1 : ¬ (9218868437227405312 < r.toNat % 2 ^ 63) := fun q => by rw [(FP.isNaN_bits r).mpr q] at h; cases h
  unfold vf_n64
  rw [UInt64.le_iff_toNat_le, UInt64.toNat_and, show (0x7fffffffffffffff : UInt64).toNat = 2 ^ 63 - 1 from rfl, Nat.and_two_pow_sub_one_eq_mod]
  show _ ≤ 9218868437227405312
  omega
end FLTQ
