/-! FLOATS: an int over an int that isn't 0 is no NaN -/
theorem fl_n32 {r : UInt32} (h : FP.Core.fIsNaN r = false) : vf_n32 r := by
  have h1 : ¬ 2139095040 < r.toNat % 2 ^ 31 := fun q => by
    rw [(FP.Core.isNaN_bits32 r).mpr q] at h
    cases h
  unfold vf_n32
  rw [UInt32.le_iff_toNat_le, UInt32.toNat_and]
  show r.toNat &&& (2 ^ 31 - 1) ≤ 2139095040
  rw [Nat.and_two_pow_sub_one_eq_mod]
  omega
theorem fl_n64 {r : UInt64} (h : FP.Core.dIsNaN r = false) : vf_n64 r := by
  have h1 : ¬ 9218868437227405312 < r.toNat % 2 ^ 63 := fun q => by
    rw [(FP.Core.isNaN_bits r).mpr q] at h
    cases h
  unfold vf_n64
  rw [UInt64.le_iff_toNat_le, UInt64.toNat_and]
  show r.toNat &&& (2 ^ 63 - 1) ≤ 9218868437227405312
  rw [Nat.and_two_pow_sub_one_eq_mod]
  omega
theorem fl_32 (a : Int32) {b : Int32} (hb : b ≠ 0) : vf_n32 (FP.fdiv (FP.i2f a) (FP.i2f b)) :=
  fl_n32 (FP.Core.fdiv_out (FP.Core.FFin.notNaN (FP.Core.i2f_fin a)) (FP.Core.i2f_fin b) (fun z => FP.Core.i2f_ne_zero hb ((FP.Core.zero_bits232 _).mp z)))
theorem fl_64 (a : Int32) {b : Int32} (hb : b ≠ 0) : vf_n64 (FP.ddiv (FP.i2d a) (FP.i2d b)) :=
  fl_n64 (FP.Core.ddiv_out (FP.Core.DFin.notNaN (FP.Core.i2d_fin a)) (FP.Core.i2d_fin b) (fun z => FP.Core.i2d_ne_zero hb ((FP.Core.zero_bits2 _).mp z)))
theorem fl_f2d (r : UInt32) (h : vf_n32 r) : vf_n64 (FP.f2d r) := by
  have h1 : FP.Core.fIsNaN r = false := by
    cases h1 : FP.Core.fIsNaN r
    · rfl
    · have h2 := (FP.Core.isNaN_bits32 r).mp h1
      unfold vf_n32 at h
      rw [UInt32.le_iff_toNat_le, UInt32.toNat_and] at h
      have h3 : r.toNat &&& (2 ^ 31 - 1) ≤ 2139095040 := h
      rw [Nat.and_two_pow_sub_one_eq_mod] at h3
      omega
  have e : FP.f2d r = FP.Core.f2d r := by
    show (if FP.Core.fIsNaN r then _ else _) = _
    rw [if_neg (by rw [h1]; decide)]
  rw [e]
  exact fl_n64 (FP.Core.f2d_out h1)
