/-! What is taken of the library's floats and tables. -/
theorem fok_32 {r : UInt32} (h : Jvm.FP.Core.fIsNaN r = false) : vf_n32 r := by
  have h1 : ¬ 2139095040 < r.toNat % 2 ^ 31 := fun q => by rw [(Jvm.FP.Core.isNaN_bits32 r).mpr q] at h; cases h
  unfold vf_n32
  rw [UInt32.le_iff_toNat_le, UInt32.toNat_and, show (0x7fffffff : UInt32).toNat = 2 ^ 31 - 1 from rfl, Nat.and_two_pow_sub_one_eq_mod]
  show r.toNat % 2 ^ 31 ≤ 2139095040
  omega
theorem fok_64 {r : UInt64} (h : Jvm.FP.Core.dIsNaN r = false) : vf_n64 r := by
  have h1 : ¬ 9218868437227405312 < r.toNat % 2 ^ 63 := fun q => by rw [(Jvm.FP.Core.isNaN_bits r).mpr q] at h; cases h
  unfold vf_n64
  rw [UInt64.le_iff_toNat_le, UInt64.toNat_and, show (0x7fffffffffffffff : UInt64).toNat = 2 ^ 63 - 1 from rfl, Nat.and_two_pow_sub_one_eq_mod]
  show r.toNat % 2 ^ 63 ≤ 9218868437227405312
  omega
theorem fdv_nan (c : Int32) {g : Int32} (hg : ¬ g = 0) : Jvm.FP.Core.fIsNaN (FP.fdiv (FP.i2f c) (FP.i2f g)) = false :=
  Jvm.FP.Core.fdiv_out (Jvm.FP.Core.FFin.notNaN (Jvm.FP.Core.i2f_fin c)) (Jvm.FP.Core.i2f_fin g) (fun h => Jvm.FP.Core.i2f_ne_zero hg ((Jvm.FP.Core.zero_bits232 _).mp h))
theorem fdv_ok (c : Int32) {g : Int32} (hg : ¬ g = 0) : vf_n32 (FP.fdiv (FP.i2f c) (FP.i2f g)) := fok_32 (fdv_nan c hg)
theorem f2d_c {r : UInt32} (h : Jvm.FP.Core.fIsNaN r = false) : FP.f2d r = Jvm.FP.Core.f2d r := by unfold FP.f2d; rw [h]; rfl
theorem f2d_ok {r : UInt32} (h : Jvm.FP.Core.fIsNaN r = false) : vf_n64 (FP.f2d r) := by rw [f2d_c h]; exact fok_64 (Jvm.FP.Core.f2d_out h)
theorem f2d_cmp {r : UInt32} (h : Jvm.FP.Core.fIsNaN r = false) : FP.dcmp (FP.f2d r) (FP.f2d r) = some .eq := by rw [f2d_c h]; exact Jvm.FP.Core.dcmp_refl (Jvm.FP.Core.f2d_out h)
def strF (s c g : Int32) : UInt32 := if s = 0 then 3212836864 else if g = -1 then 3212836864 else if g = 0 then FP.fconst0 else FP.fdiv (FP.i2f c) (FP.i2f g)
theorem strF_nan (s c g : Int32) : Jvm.FP.Core.fIsNaN (strF s c g) = false := by
  unfold strF
  split
  · decide +kernel
  · split
    · decide +kernel
    · split
      · decide +kernel
      · exact fdv_nan c (by assumption)
theorem arr_at {args : Array Value} {s : State} {ty : FieldType} (h : (Cond.arrayClass ty).before args s = true) (hp : ∀ C : String, ty ≠ .object C) : ∃ cA : ClassId, ArrOfT s cA ty ∧ va_RA s cA ty := by
  obtain ⟨cA, kA, comp, h1, h2, h3⟩ := Cond.arrayClass_spec (args := args) (first := s) (o := none) (s := s) (idx := []) h
  refine ⟨cA, fun n z => ⟨fun k h => (by cases h), kA, h2, comp, h3⟩, ?_⟩
  cases ty <;> first | exact h1 | exact absurd rfl (hp _)
