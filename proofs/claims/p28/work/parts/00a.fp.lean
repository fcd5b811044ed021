/-! doubles -/
theorem fp_n64 {r : UInt64} (h : r.toNat % 2 ^ 63 ≤ 9218868437227405312) : vf_n64 r := by
  unfold vf_n64
  rw [UInt64.le_iff_toNat_le, UInt64.toNat_and, show (0x7fffffffffffffff : UInt64).toNat = 2 ^ 63 - 1 by decide, Nat.and_two_pow_sub_one_eq_mod, show (0x7ff0000000000000 : UInt64).toNat = 9218868437227405312 by decide]
  exact h
theorem fp_mul1 (x : Int32) : FP.dmul FP.dconst1 (FP.i2d x) = FP.i2d x := by
  show Jvm.FP.Core.dmul Jvm.FP.Core.dconst1 (Jvm.FP.Core.i2d x) = Jvm.FP.Core.i2d x
  rw [Jvm.FP.Core.dmul_comm]
  exact Jvm.FP.Core.dmul_one ((Jvm.FP.Core.ne_nan _).mpr (by have h := Jvm.FP.Core.i2d_mag x; omega))
theorem fp_nn (x : Int32) : vf_n64 (FP.i2d x) := fp_n64 (by
  have h := Jvm.FP.Core.i2d_mag x
  show (Jvm.FP.Core.i2d x).toNat % 2 ^ 63 ≤ 9218868437227405312
  omega)
theorem fp_nn_div (x : Int32) {y : Int32} (h : ¬ y = 0) : vf_n64 (FP.ddiv (FP.i2d x) (FP.i2d y)) := fp_n64 (by
  have h1 := Jvm.FP.Core.i2d_mag x
  obtain ⟨h2, h3⟩ := Jvm.FP.Core.i2d_big (v := y) (fun q => h (Int32.toInt_inj.mp (q.trans (by decide))))
  have h4 := Jvm.FP.Core.ddiv_mag (a := Jvm.FP.Core.i2d x) (b := Jvm.FP.Core.i2d y) (K := 1056) (L := 1023) h1 h2 h3 (by omega) (by omega)
  show (Jvm.FP.Core.ddiv (Jvm.FP.Core.i2d x) (Jvm.FP.Core.i2d y)).toNat % 2 ^ 63 ≤ 9218868437227405312
  omega)
theorem fp_div_mag (x : Int32) {y : Int32} (h : ¬ y = 0) : (FP.ddiv (FP.i2d x) (FP.i2d y)).toNat % 2 ^ 63 ≤ 9218868437227405312 := by
  have h1 := Jvm.FP.Core.i2d_mag x
  obtain ⟨h2, h3⟩ := Jvm.FP.Core.i2d_big (v := y) (fun q => h (Int32.toInt_inj.mp (q.trans (by decide))))
  have h4 := Jvm.FP.Core.ddiv_mag (a := Jvm.FP.Core.i2d x) (b := Jvm.FP.Core.i2d y) (K := 1056) (L := 1023) h1 h2 h3 (by omega) (by omega)
  show (Jvm.FP.Core.ddiv (Jvm.FP.Core.i2d x) (Jvm.FP.Core.i2d y)).toNat % 2 ^ 63 ≤ 9218868437227405312
  omega
/-- a number that is one, against itself -/
theorem fp_cmp {r : UInt64} (h : r.toNat % 2 ^ 63 ≤ 9218868437227405312) : Op.cmpValue (FP.dcmp r r) CmpOp.l = 0 := by
  show Op.cmpValue (Jvm.FP.Core.dcmp r r) CmpOp.l = 0
  rw [Jvm.FP.Core.dcmp_self ((Jvm.FP.Core.ne_nan r).mpr h)]
  rfl
theorem fp_cmp0 : Op.cmpValue (FP.dcmp FP.dconst0 FP.dconst0) CmpOp.l = 0 := fp_cmp (by decide)
