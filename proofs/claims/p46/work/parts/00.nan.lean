section NAN
theorem lf_n32 {r : UInt32} (h : r &&& 0x7fffffff ≤ 0x7f800000) : FP.fIsNaN r = false := by
  cases hn : FP.fIsNaN r with
  | false => rfl
  | true =>
    have h1 := (FP.Core.isNaN_bits32 r).mp hn
    have h2 := UInt32.le_iff_toNat_le.mp h
    rw [UInt32.toNat_and, show (0x7fffffff : UInt32).toNat = 2 ^ 31 - 1 by decide, Nat.and_two_pow_sub_one_eq_mod, show (0x7f800000 : UInt32).toNat = 2139095040 by decide] at h2
    omega
theorem lf_n64 {r : UInt64} (h : FP.dIsNaN r = false) : vf_n64 r := by
  unfold vf_n64
  rw [UInt64.le_iff_toNat_le, UInt64.toNat_and, show (0x7fffffffffffffff : UInt64).toNat = 2 ^ 63 - 1 by decide, Nat.and_two_pow_sub_one_eq_mod, show (0x7ff0000000000000 : UInt64).toNat = 9218868437227405312 by decide]
  refine Nat.not_lt.mp (fun z => ?_)
  have h1 := (FP.Core.isNaN_bits r).mpr z
  rw [show FP.Core.dIsNaN r = FP.dIsNaN r from rfl, h] at h1
  cases h1
theorem lf_f2d {v : UInt32} (h : v &&& 0x7fffffff ≤ 0x7f800000) : vf_n64 (FP.f2d v) := lf_n64 ((FP.f2d_nan v).trans (lf_n32 h))
theorem lf_dcmp {v : UInt32} (h : v &&& 0x7fffffff ≤ 0x7f800000) : FP.dcmp (FP.f2d v) (FP.f2d v) = some .eq :=
  FP.Core.dcmp_self ((FP.Core.notNaN_iff _).mp ((FP.f2d_nan v).trans (lf_n32 h)))
theorem lf_cmp {v : UInt32} {op : CmpOp} (h : v &&& 0x7fffffff ≤ 0x7f800000) : Op.cmpValue (FP.dcmp (FP.f2d v) (FP.f2d v)) op = 0 := by
  rw [lf_dcmp h]
  cases op <;> rfl
end NAN
