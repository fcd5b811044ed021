/-! the bits of a mean -/
def bX (E T : Nat) : UInt64 := UInt64.ofNat (E * 2 ^ 52 + T)
theorem bX_nat {E T : Nat} (hE : E ≤ 2046) (hT : T < 2 ^ 52) : (bX E T).toNat = E * 2 ^ 52 + T := by
  unfold bX
  rw [UInt64.toNat_ofNat']
  omega
theorem bX_val {E T : Nat} (h1 : 1 ≤ E) (hE : E ≤ 2046) (hT : T < 2 ^ 52) : Jvm.FP.Core.val64 (bX E T) = .fin false (2 ^ 52 + T) (-1075 + (E : Int)) := by
  unfold Jvm.FP.Core.val64
  rw [bX_nat hE hT, show E * 2 ^ 52 + T = Jvm.FP.Core.assemble Jvm.FP.Core.b64 false E T by unfold Jvm.FP.Core.assemble; rw [Jvm.FP.Core.tails_b64]; simp]
  have he : Jvm.FP.Core.b64.exps = 2048 := by decide
  rw [Jvm.FP.Core.decode_assemble _ _ _ _ (by omega) (by rw [Jvm.FP.Core.tails_b64]; exact hT)]
  rw [if_neg (by omega), if_neg (by omega), Jvm.FP.Core.tails_b64, Jvm.FP.Core.qmin_b64]
  congr 1
  omega
theorem bX_fits {E T : Nat} (h1 : 1 ≤ E) (hE : E ≤ 2046) (hT : T < 2 ^ 52) : Jvm.FP.Core.fits Jvm.FP.Core.b64 (.fin false (2 ^ 52 + T) (-1075 + (E : Int))) := by
  rw [← bX_val h1 hE hT]
  exact Jvm.FP.Core.val64_fits _
theorem bX_two : Jvm.FP.Core.val64 4611686018427387904 = .fin false (2 ^ 52) (-51) := by decide +kernel
theorem bX_big : Jvm.FP.Core.val64 4841369599423283200 = .fin false (2 ^ 52) 0 := by decide +kernel
theorem bX_half {E T : Nat} (h1 : 1 ≤ E) (hE : E ≤ 2045) (hT : T < 2 ^ 52) : Jvm.FP.Core.ddiv (bX (E + 1) T) 4611686018427387904 = bX E T := by
  have hv := bX_val h1 (by omega) hT
  refine (Jvm.FP.Core.val64_inj (by rw [hv]; intro h; cases h) ?_).symm
  rw [Jvm.FP.Core.val64_ddiv, bX_val (E := E + 1) (by omega) (by omega) hT, bX_two, hv]
  symm
  show (if 2 ^ 52 = 0 then (if 2 ^ 52 + T = 0 then Jvm.FP.Core.Datum.nan else Jvm.FP.Core.Datum.inf (false != false)) else Jvm.FP.Core.roundRatio Jvm.FP.Core.b64 false (2 ^ 52 + T) (2 ^ 52) (-1075 + ((E + 1 : Nat) : Int) - -51)) = _
  rw [if_neg (by decide)]
  refine Jvm.FP.Core.roundRatio_exact Jvm.FP.Core.good_b64 (by decide) (bX_fits h1 (by omega) hT) ?_
  rw [show (-1075 + ((E + 1 : Nat) : Int) - -51 - (-1075 + (E : Int))).toNat = 52 by omega, show (-1075 + (E : Int) - (-1075 + ((E + 1 : Nat) : Int) - -51)).toNat = 0 by omega, Nat.pow_zero, Nat.mul_one]
theorem bX_dbl {E T : Nat} (h1 : 1 ≤ E) (hE : E ≤ 2045) (hT : T < 2 ^ 52) : Jvm.FP.Core.dmul (bX E T) 4611686018427387904 = bX (E + 1) T := by
  have hv := bX_val (E := E + 1) (by omega) (by omega) hT
  refine (Jvm.FP.Core.val64_inj (by rw [hv]; intro h; cases h) ?_).symm
  rw [Jvm.FP.Core.val64_dmul, bX_val (E := E) (by omega) (by omega) hT, bX_two, hv]
  symm
  show Jvm.FP.Core.roundRatio Jvm.FP.Core.b64 false ((2 ^ 52 + T) * 2 ^ 52) 1 (-1075 + (E : Int) + -51) = _
  refine Jvm.FP.Core.roundRatio_exact Jvm.FP.Core.good_b64 (by decide) (bX_fits (by omega) (by omega) hT) ?_
  rw [show (-1075 + (E : Int) + -51 - (-1075 + ((E + 1 : Nat) : Int))).toNat = 0 by omega, show (-1075 + ((E + 1 : Nat) : Int) - (-1075 + (E : Int) + -51)).toNat = 52 by omega, Nat.pow_zero, Nat.mul_one, Nat.mul_one]
theorem bX_key {E T : Nat} (hE : E ≤ 2046) (hT : T < 2 ^ 52) : Jvm.FP.Core.dkey (bX E T) = ((E * 2 ^ 52 + T : Nat) : Int) := by
  unfold Jvm.FP.Core.dkey
  rw [bX_nat hE hT, if_neg (by omega)]
theorem bX_nn {E T : Nat} (hE : E ≤ 2046) (hT : T < 2 ^ 52) : Jvm.FP.Core.val64 (bX E T) ≠ .nan := by
  rw [Jvm.FP.Core.ne_nan, bX_nat hE hT]
  omega
theorem bX_lt {E T : Nat} {c : UInt64} {C : Nat} (hE : E ≤ 2046) (hT : T < 2 ^ 52) (hc : c.toNat = C) (hC : C ≤ 2046 * 2 ^ 52) (h : E * 2 ^ 52 + T < C) : Jvm.FP.Core.dcmp (bX E T) c = some .lt := by
  rw [Jvm.FP.Core.dcmp_lt_key (bX_nn hE hT) (by rw [Jvm.FP.Core.ne_nan]; omega), bX_key hE hT]
  unfold Jvm.FP.Core.dkey
  rw [if_neg (by omega)]
  omega
theorem bX_ge {E T : Nat} {c : UInt64} {C : Nat} (hE : E ≤ 2046) (hT : T < 2 ^ 52) (hc : c.toNat = C) (hC : C ≤ 2046 * 2 ^ 52) (h : C < E * 2 ^ 52 + T) : Jvm.FP.Core.dcmp (bX E T) c = some .gt := by
  rw [Jvm.FP.Core.dcmp_gt_key (bX_nn hE hT) (by rw [Jvm.FP.Core.ne_nan]; omega), bX_key hE hT]
  unfold Jvm.FP.Core.dkey
  rw [if_neg (by omega)]
  omega
theorem bX_ge2 {E T : Nat} {c : UInt64} {C : Nat} (hE : E ≤ 2046) (hT : T < 2 ^ 52) (hc : c.toNat = C) (hC : C ≤ 2046 * 2 ^ 52) (h : C ≤ E * 2 ^ 52 + T) : Jvm.FP.Core.dcmp (bX E T) c = some .gt ∨ Jvm.FP.Core.dcmp (bX E T) c = some .eq := by
  by_cases h2 : C = E * 2 ^ 52 + T
  · right
    rw [Jvm.FP.Core.dcmp_eq_key (bX_nn hE hT) (by rw [Jvm.FP.Core.ne_nan]; omega), bX_key hE hT]
    unfold Jvm.FP.Core.dkey
    rw [if_neg (by omega)]
    omega
  · exact Or.inl (bX_ge hE hT hc hC (by omega))
theorem bX_of {x : UInt64} (h : x.toNat < 2047 * 2 ^ 52) : x = bX (x.toNat / 2 ^ 52) (x.toNat % 2 ^ 52) := by
  apply UInt64.toNat_inj.mp
  rw [bX_nat (by omega) (by omega)]
  omega
theorem bX_sub {T K : Nat} (hT : T < 2 ^ 52) (hK : K = 1022) : ∃ c q, Jvm.FP.Core.val64 (Jvm.FP.Core.dsub (bX 1023 T) Jvm.FP.Core.dconst1) = .fin false c q ∧ -1074 ≤ q ∧ c * 2 ^ (q - (-1074)).toNat = T * 2 ^ K := by
  rw [Jvm.FP.Core.val64_dsub, bX_val (by omega) (by omega) hT, Jvm.FP.Core.val64_dconst1]
  have hs : Jvm.FP.Core.exactSum (.fin false (2 ^ 52 + T) (-1075 + ((1023 : Nat) : Int))) (Jvm.FP.Core.negate (.fin false (2 ^ 52) (-52))) = .fin false T (-52) := by
    show Jvm.FP.Core.Datum.fin (Jvm.FP.Core.sumSign false true (Jvm.FP.Core.sumUnits false (2 ^ 52 + T) (-52) true (2 ^ 52) (-52) (min (-52) (-52)))) (Jvm.FP.Core.sumUnits false (2 ^ 52 + T) (-52) true (2 ^ 52) (-52) (min (-52) (-52))).natAbs (min (-52) (-52)) = _
    have hu : Jvm.FP.Core.sumUnits false (2 ^ 52 + T) (-52) true (2 ^ 52) (-52) (min (-52) (-52)) = (T : Int) := by
      show (((2 ^ 52 + T) * 1 : Nat) : Int) + -((2 ^ 52 * 1 : Nat) : Int) = _
      omega
    rw [hu]
    have hsg : Jvm.FP.Core.sumSign false true (T : Int) = false := by
      unfold Jvm.FP.Core.sumSign
      split
      · rfl
      · exact decide_eq_false (by omega)
    rw [hsg]
    rfl
  rw [hs]
  obtain ⟨c, q, e1, e2⟩ := Jvm.FP.Core.round_exact Jvm.FP.Core.good_b64 false (c := T) (q := -52) (Nat.lt_trans hT (by decide)) (by decide) (by decide)
  have hf := Jvm.FP.Core.round_fits Jvm.FP.Core.good_b64 (.fin false T (-52))
  rw [e1] at hf
  refine ⟨c, q, e1, ?_, ?_⟩
  · have := hf.2.1
    rw [Jvm.FP.Core.qmin_b64] at this
    exact this
  · unfold Jvm.FP.Core.inUnits at e2
    rw [Jvm.FP.Core.qmin_b64, show (-52 - (-1074) : Int).toNat = K by omega] at e2
    exact e2
theorem bX_end1 {T K : Nat} (hT : T < 2 ^ 52) (hK : K = 1022) : Jvm.FP.Core.DInt (T : Int) (Jvm.FP.Core.dmul (Jvm.FP.Core.dsub (bX 1023 T) Jvm.FP.Core.dconst1) 4841369599423283200) := by
  obtain ⟨c, q, e1, e2, e3⟩ := bX_sub hT hK
  unfold Jvm.FP.Core.DInt
  rw [Jvm.FP.Core.val64_dmul, e1, bX_big]
  refine Jvm.FP.Core.whole_round Jvm.FP.Core.good_b64 Jvm.FP.Core.wide_b64 (d := .fin false (c * 2 ^ 52) (q + 0)) (by rw [Int.natAbs_natCast]; exact Nat.le_of_lt (Nat.lt_trans hT (by decide))) ?_
  show Jvm.FP.Core.signed false (c * 2 ^ 52 * 2 ^ (q + 0).toNat) = (T : Int) * ((2 ^ (-(q + 0)).toNat : Nat) : Int)
  show ((c * 2 ^ 52 * 2 ^ (q + 0).toNat : Nat) : Int) = (T : Int) * ((2 ^ (-(q + 0)).toNat : Nat) : Int)
  rw [← Int.natCast_mul]
  congr 1
  have e4 : c * 2 ^ 52 * 2 ^ (q + 0).toNat * 2 ^ K = T * 2 ^ (-(q + 0)).toNat * 2 ^ K := by
    rw [show T * 2 ^ (-(q + 0)).toNat * 2 ^ K = T * 2 ^ K * 2 ^ (-(q + 0)).toNat by rw [Nat.mul_right_comm], ← e3]
    rw [Nat.mul_assoc c, Nat.mul_assoc c, Nat.mul_assoc c, ← Nat.pow_add, ← Nat.pow_add, ← Nat.pow_add]
    congr 2
    omega
  exact Nat.eq_of_mul_eq_mul_right (Nat.two_pow_pos K) e4
theorem bX_end {T : Nat} (hT : T < 2 ^ 52) : Jvm.FP.Core.DInt (T : Int) (Jvm.FP.Core.dmul (Jvm.FP.Core.dsub (bX 1023 T) Jvm.FP.Core.dconst1) 4841369599423283200) := bX_end1 hT rfl
theorem bX_endN {T : Nat} (hT : T < 2 ^ 52) : Jvm.FP.Core.val64 (Jvm.FP.Core.dsub (bX 1023 T) Jvm.FP.Core.dconst1) ≠ .nan ∧ Jvm.FP.Core.val64 (Jvm.FP.Core.dmul (Jvm.FP.Core.dsub (bX 1023 T) Jvm.FP.Core.dconst1) 4841369599423283200) ≠ .nan := by
  refine ⟨?_, Jvm.FP.Core.Whole.ne_nan (bX_end hT)⟩
  obtain ⟨c, q, e1, _⟩ := bX_sub hT rfl
  rw [e1]
  intro h
  cases h
theorem bX_d2l {T : Nat} (hT : T < 2 ^ 52) : Jvm.FP.Core.d2l (Jvm.FP.Core.dmul (Jvm.FP.Core.dsub (bX 1023 T) Jvm.FP.Core.dconst1) 4841369599423283200) = Int64.ofNat T := by
  apply Jvm.FP.Core.d2l_int
  have h : (Int64.ofNat T).toInt = (T : Int) := Int64.toInt_ofNat_of_lt (by omega)
  rw [h]
  exact bX_end hT
theorem bX_shl : ∀ E : Nat, E < 1060 → Int64.ofNat E <<< ((Int64.ofInt 52) &&& 63) = Int64.ofNat (E * 2 ^ 52) := by
  decide +kernel
theorem bX_bits {E T : Nat} : Int64.ofNat (E * 2 ^ 52) + Int64.ofNat T = (bX E T).toInt64 := by
  rw [← Int64.ofNat_add]
  rfl
theorem bX_aux {P A B C Q za zd : Nat} (h1 : za < 2 ^ P * 2 ^ A) (h2 : 2 ^ P * 2 ^ B ≤ zd) (h : P + C + (P + A) ≤ P + B + Q) : 2 ^ P * 2 ^ C * za ≤ zd * 2 ^ Q :=
  calc 2 ^ P * 2 ^ C * za ≤ 2 ^ P * 2 ^ C * (2 ^ P * 2 ^ A) := Nat.mul_le_mul_left _ (Nat.le_of_lt h1)
    _ = 2 ^ (P + C + (P + A)) := by rw [Nat.pow_add, Nat.pow_add, Nat.pow_add]
    _ ≤ 2 ^ (P + B + Q) := Nat.pow_le_pow_right (by decide) h
    _ = 2 ^ P * 2 ^ B * 2 ^ Q := by rw [Nat.pow_add, Nat.pow_add]
    _ ≤ zd * 2 ^ Q := Nat.mul_le_mul_right _ h2
/-- the mean of a jar, as a number with its exponent and its tail -/
theorem bX_mean {d a : Int32} (ha : 0 < a.toInt) (hd : 0 < d.toInt) : ∃ E T, Jvm.FP.Core.ddiv (Jvm.FP.Core.i2d d) (Jvm.FP.Core.i2d a) = bX E T ∧ 980 ≤ E ∧ E ≤ 1059 ∧ T < 2 ^ 52 := by
  have hna : a.toInt ≠ 0 := by omega
  have hnd : d.toInt ≠ 0 := by omega
  have hm := Jvm.FP.Core.i2d_mag d
  obtain ⟨hb1, hb2⟩ := Jvm.FP.Core.i2d_big hna
  obtain ⟨hb3, hb4⟩ := Jvm.FP.Core.i2d_big hnd
  have hma := Jvm.FP.Core.i2d_mag a
  have hup := Jvm.FP.Core.ddiv_mag (K := 1056) (L := 1023) hm hb1 hb2 (by omega) (by omega)
  have hq := Jvm.FP.Core.val64_ddiv (Jvm.FP.Core.i2d d) (Jvm.FP.Core.i2d a)
  have wd := Jvm.FP.Core.i2d_int d
  have wa := Jvm.FP.Core.i2d_int a
  obtain ⟨sd, cd, qd, ed⟩ : Jvm.FP.Core.DFin (Jvm.FP.Core.i2d d) := Jvm.FP.Core.fin_of_lt hb4 (by omega)
  obtain ⟨sa, ca, qa, ea⟩ : Jvm.FP.Core.DFin (Jvm.FP.Core.i2d a) := Jvm.FP.Core.fin_of_lt hb2 (by omega)
  unfold Jvm.FP.Core.DInt at wd wa
  rw [ed] at wd
  rw [ea] at wa
  have sd0 := Jvm.FP.Core.whole_sign wd hnd
  have sa0 := Jvm.FP.Core.whole_sign wa hna
  rw [ed, ea] at hq
  have ca0 : ca ≠ 0 := fun h => hna ((Jvm.FP.Core.whole_zero wa).mp h)
  have hr : Jvm.FP.Core.val64 (Jvm.FP.Core.ddiv (Jvm.FP.Core.i2d d) (Jvm.FP.Core.i2d a)) = Jvm.FP.Core.roundRatio Jvm.FP.Core.b64 (sd != sa) cd ca (qd - qa) := by
    rw [hq]
    show (if ca = 0 then (if cd = 0 then Jvm.FP.Core.Datum.nan else Jvm.FP.Core.Datum.inf (sd != sa)) else Jvm.FP.Core.roundRatio Jvm.FP.Core.b64 (sd != sa) cd ca (qd - qa)) = _
    rw [if_neg ca0]
  have fd := Jvm.FP.Core.val64_fits (Jvm.FP.Core.i2d d)
  have fa := Jvm.FP.Core.val64_fits (Jvm.FP.Core.i2d a)
  rw [ed] at fd
  rw [ea] at fa
  have hq1 := fd.2.1
  have hq2 := fa.2.1
  rw [Jvm.FP.Core.qmin_b64] at hq1 hq2
  have hsg : (Jvm.FP.Core.ddiv (Jvm.FP.Core.i2d d) (Jvm.FP.Core.i2d a)).toNat < 2 ^ 63 := by
    have h := Jvm.FP.Core.sgn_bits (a := Jvm.FP.Core.ddiv (Jvm.FP.Core.i2d d) (Jvm.FP.Core.i2d a)) (by rw [hr]; exact Jvm.FP.Core.roundRatio_ne_nan _ _ _ _ _)
    rw [hr, Jvm.FP.Core.sgn_roundRatio, sd0, sa0, decide_eq_false (by omega : ¬ d.toInt < 0), decide_eq_false (by omega : ¬ a.toInt < 0)] at h
    have := of_decide_eq_false h.symm
    omega
  have zd := Jvm.FP.Core.zmag_bits (a := Jvm.FP.Core.i2d d) (by rw [ed]; exact Jvm.FP.Core.Datum.noConfusion)
  have za := Jvm.FP.Core.zmag_bits (a := Jvm.FP.Core.i2d a) (by rw [ea]; exact Jvm.FP.Core.Datum.noConfusion)
  rw [ed] at zd
  rw [ea] at za
  obtain ⟨K, hK⟩ : ∃ K, K = 1023 := ⟨_, rfl⟩
  have zd2 : 2 ^ 52 * 2 ^ (K - 1) ≤ Jvm.FP.Core.zmag Jvm.FP.Core.b64 (.fin sd cd qd) := by
    rw [zd, ← Jvm.FP.Core.tails_b64, ← Jvm.FP.Core.unitsOf_start (by omega)]
    exact Jvm.FP.Core.unitsOf_le_iff.mpr (by rw [Jvm.FP.Core.tails_b64, hK]; exact hb3)
  obtain ⟨K2, hK2⟩ : ∃ K, K = 1056 := ⟨_, rfl⟩
  have za2 : Jvm.FP.Core.zmag Jvm.FP.Core.b64 (.fin sa ca qa) < 2 ^ 52 * 2 ^ (K2 - 1) := by
    rw [za, ← Jvm.FP.Core.tails_b64, ← Jvm.FP.Core.unitsOf_start (by omega)]
    exact Jvm.FP.Core.unitsOf_lt (by rw [Jvm.FP.Core.tails_b64, hK2]; exact hma)
  obtain ⟨L, hL⟩ : ∃ L, L = 980 := ⟨_, rfl⟩
  have hlo : L * Jvm.FP.Core.b64.tails ≤ Jvm.FP.Core.mag Jvm.FP.Core.b64 (Jvm.FP.Core.ddiv (Jvm.FP.Core.i2d d) (Jvm.FP.Core.i2d a)).toNat := by
    refine Jvm.FP.Core.mag_ge Jvm.FP.Core.good_b64 hr (by omega) (e0 := 2 * (-1074) - qa) (by rw [Jvm.FP.Core.qmin_b64]; omega) (by omega) (by rw [hL, Jvm.FP.Core.tails_b64, Jvm.FP.Core.infBits_b64]; decide) ?_
    obtain ⟨K3, hK3⟩ : ∃ K, K = 1074 := ⟨_, rfl⟩
    have e1 : Jvm.FP.Core.inUnits cd (qd - qa) (2 * (-1074) - qa) = Jvm.FP.Core.zmag Jvm.FP.Core.b64 (.fin sd cd qd) * 2 ^ K3 := by
      show cd * _ = cd * 2 ^ (qd - Jvm.FP.Core.b64.qmin).toNat * _
      rw [Nat.mul_assoc, ← Nat.pow_add, Jvm.FP.Core.qmin_b64]
      congr 2
      omega
    have e2 : 2 ^ (Jvm.FP.Core.b64.qmin - (2 * (-1074) - qa)).toNat * ca = Jvm.FP.Core.zmag Jvm.FP.Core.b64 (.fin sa ca qa) := by
      show _ = ca * 2 ^ (qa - Jvm.FP.Core.b64.qmin).toNat
      rw [Nat.mul_comm, Jvm.FP.Core.qmin_b64]
      congr 2
      omega
    rw [e1, Nat.mul_assoc, e2, Jvm.FP.Core.unitsOf_start (by omega), Jvm.FP.Core.tails_b64]
    exact bX_aux za2 zd2 (by omega)
  rw [Jvm.FP.Core.mag_toNat64, Jvm.FP.Core.tails_b64] at hlo
  generalize Jvm.FP.Core.ddiv (Jvm.FP.Core.i2d d) (Jvm.FP.Core.i2d a) = x at hlo hsg hup
  refine ⟨x.toNat / 2 ^ 52, x.toNat % 2 ^ 52, bX_of (by omega), by omega, by omega, by omega⟩
theorem bX_zero {a : Int32} (ha : 0 < a.toInt) : Jvm.FP.Core.ddiv (Jvm.FP.Core.i2d 0) (Jvm.FP.Core.i2d a) = Jvm.FP.Core.dconst0 := by
  have hna : a.toInt ≠ 0 := by omega
  obtain ⟨hb1, hb2⟩ := Jvm.FP.Core.i2d_big hna
  have wa := Jvm.FP.Core.i2d_int a
  obtain ⟨sa, ca, qa, ea⟩ : Jvm.FP.Core.DFin (Jvm.FP.Core.i2d a) := Jvm.FP.Core.fin_of_lt hb2 (by omega)
  unfold Jvm.FP.Core.DInt at wa
  rw [ea] at wa
  have sa0 := Jvm.FP.Core.whole_sign wa hna
  have ca0 : ca ≠ 0 := fun h => hna ((Jvm.FP.Core.whole_zero wa).mp h)
  have h0 : Jvm.FP.Core.val64 (Jvm.FP.Core.i2d 0) = .fin false 0 Jvm.FP.Core.b64.qmin := by decide +kernel
  refine (Jvm.FP.Core.val64_inj (by rw [Jvm.FP.Core.val64_dconst0]; exact Jvm.FP.Core.Datum.noConfusion) ?_).symm
  rw [Jvm.FP.Core.val64_ddiv, h0, ea, Jvm.FP.Core.val64_dconst0, sa0, decide_eq_false (by omega : ¬ a.toInt < 0)]
  show _ = (if ca = 0 then (if 0 = 0 then Jvm.FP.Core.Datum.nan else Jvm.FP.Core.Datum.inf (false != false)) else Jvm.FP.Core.roundRatio Jvm.FP.Core.b64 (false != false) 0 ca (Jvm.FP.Core.b64.qmin - qa))
  rw [if_neg ca0]
  rfl

theorem bY_lt {E T : Nat} {c : UInt64} {C : Nat} {op : CmpOp} (hE : E ≤ 2046) (hT : T < 2 ^ 52) (hc : c.toNat = C) (hC : C ≤ 2046 * 2 ^ 52) (h : E * 2 ^ 52 + T < C) : Op.cmpValue (FP.dcmp (bX E T) c) op < 0 := by
  show Op.cmpValue (Jvm.FP.Core.dcmp (bX E T) c) op < 0
  rw [bX_lt hE hT hc hC h]
  exact (by decide : (-1 : Int32) < 0)
theorem bY_gt {E T : Nat} {c : UInt64} {C : Nat} {op : CmpOp} (hE : E ≤ 2046) (hT : T < 2 ^ 52) (hc : c.toNat = C) (hC : C ≤ 2046 * 2 ^ 52) (h : C < E * 2 ^ 52 + T) : 0 < Op.cmpValue (FP.dcmp (bX E T) c) op := by
  show 0 < Op.cmpValue (Jvm.FP.Core.dcmp (bX E T) c) op
  rw [bX_ge hE hT hc hC h]
  exact (by decide : (0 : Int32) < 1)
theorem bY_ge {E T : Nat} {c : UInt64} {C : Nat} {op : CmpOp} (hE : E ≤ 2046) (hT : T < 2 ^ 52) (hc : c.toNat = C) (hC : C ≤ 2046 * 2 ^ 52) (h : C ≤ E * 2 ^ 52 + T) : ¬ Op.cmpValue (FP.dcmp (bX E T) c) op < 0 ∧ 0 ≤ Op.cmpValue (FP.dcmp (bX E T) c) op := by
  show ¬ Op.cmpValue (Jvm.FP.Core.dcmp (bX E T) c) op < 0 ∧ 0 ≤ Op.cmpValue (Jvm.FP.Core.dcmp (bX E T) c) op
  rcases bX_ge2 hE hT hc hC h with h | h
  · rw [h]
    exact (by decide : ¬ (1 : Int32) < 0 ∧ (0 : Int32) ≤ 1)
  · rw [h]
    exact (by decide : ¬ (0 : Int32) < 0 ∧ (0 : Int32) ≤ 0)
theorem bY_n64 {x : UInt64} (h : Jvm.FP.Core.val64 x ≠ .nan) : vf_n64 x := fp_n64 ((Jvm.FP.Core.ne_nan x).mp h)
theorem bY_half {E T : Nat} (h1 : 1 ≤ E) (hE : E ≤ 2045) (hT : T < 2 ^ 52) : FP.ddiv (bX (E + 1) T) 4611686018427387904 = bX E T := bX_half h1 hE hT
theorem bY_dbl {E T : Nat} (h1 : 1 ≤ E) (hE : E ≤ 2045) (hT : T < 2 ^ 52) : FP.dmul (bX E T) 4611686018427387904 = bX (E + 1) T := bX_dbl h1 hE hT
theorem bY_cases {g : Nat → Int32} (h : qBitOk g) : qMean g = FP.dconst0 ∨ ∃ E T, qMean g = bX E T ∧ 980 ≤ E ∧ E ≤ 1059 ∧ T < 2 ^ 52 := by
  unfold qMean
  rcases h with h | ⟨a, d, ha, hd, h0, h1, h2⟩
  · exact .inl (if_pos h)
  · have ai : (nI a).toInt = (a : Int) := nI_toInt (by omega)
    have di : (nI d).toInt = (d : Int) := nI_toInt (by omega)
    have hne : ¬ nI a = 0 := by
      intro q
      rw [q] at ai
      have : (0 : Int32).toInt = 0 := by decide
      omega
    rw [ha, hd, if_neg hne]
    by_cases hz : d = 0
    · subst hz
      exact .inl (bX_zero (a := nI a) (by omega))
    · exact .inr (bX_mean (d := nI d) (a := nI a) (by omega) (by omega))
theorem bY_add (n : Nat) : Int64.ofNat n + 1 = Int64.ofNat (n + 1) := (Int64.ofNat_add n 1).symm
theorem bY_sub (n : Nat) : Int64.ofNat (n + 1) - 1 = Int64.ofNat n := by
  rw [← bY_add]
  exact Int64.add_sub_cancel _ _
theorem bY_fin {E T : Nat} (hT : T < 2 ^ 52) : Int64.ofNat (E * 2 ^ 52) + FP.d2l (FP.dmul (FP.dsub (bX 1023 T) FP.dconst1) 4841369599423283200) = qBits (bX E T) := by
  show Int64.ofNat (E * 2 ^ 52) + Jvm.FP.Core.d2l (Jvm.FP.Core.dmul (Jvm.FP.Core.dsub (bX 1023 T) Jvm.FP.Core.dconst1) 4841369599423283200) = _
  rw [bX_d2l hT, bX_bits]
  rfl

set_option maxRecDepth 100000 in
set_option maxHeartbeats 4000000 in
theorem metX5_bitsOf (l : Launch) (D : va_G) (ac : Nat → ClassId) (g : Nat → Int32) (hbo : qBitOk g) : Met l yX5_bitsOf wsX5_bitsOf ({ frames := 0, cells := 0, slots := 0, locals := 0 } : Room) (va_Pc [.double (qMean g)] (zW D ac [])) (zRl (qBits (qMean g))) 0 0 (fun _ => False) := by
  rcases bY_cases hbo with h0 | ⟨E, T, h0, hE1, hE2, hT⟩
  · rw [h0]
    refine z_ro (cc := cX5_bitsOf) (maxL := 7) (ret := (some .long)) (lv := [(0, .double (FP.dconst0))]) (by decide) rfl (Nat.le_of_ble_eq_true rfl) rfl ?_
    intro p e s m args below meth c ls hx hb hr hml hown hts hlocks hl hK hP
    refine lv_dload_n hx hb dX5_bitsOf_0 rfl (lv_at hl 0 rfl) ?_
    refine lv_dconst0 hx hb dX5_bitsOf_1 ?_
    refine lv_dcmp hx hb dX5_bitsOf_2 ?_
    refine lv_if_gt (tgt := 8) hx hb dX5_bitsOf_3 (by decide) (fun c_3 => absurd c_3 (by rw [fp_cmp0]; decide)) (fun c_3 => ?_)
    refine lv_lconst (v := 0) hx hb dX5_bitsOf_6 rfl ?_
    exact z_lret hx hb hr hlocks rfl dX5_bitsOf_7
  · rw [h0]
    refine z_ro (cc := cX5_bitsOf) (maxL := 7) (ret := (some .long)) (lv := [(0, .double (bX E T))]) (by decide) rfl (Nat.le_of_ble_eq_true rfl) rfl ?_
    intro p e s m args below meth c ls hx hb hr hml hown hts hlocks hl hK hP
    have hEnd : ∀ (i : Nat) (ls : Array Slot), lv_has ls 7 [(6, .int (nI i)), (4, .long (Int64.ofNat E)), (2, .double (bX 1023 T)), (0, .double (bX E T))] → W p l e ({ frames := 0, cells := 0, slots := 0, locals := 0 } : Room) s m args below meth c s.heap [] 0 0 (MQ below (zRl (qBits (bX E T))) args s 0 0 (fun _ => False)) (F0 m 85 ls []) := by
      intro i ls hl
      refine lv_lload hx hb dX5_bitsOf_85 (lv_at hl 1 rfl) ?_
      refine lv_bipush (v := 52) hx hb dX5_bitsOf_87 (by decide) ?_
      refine lv_lshl (v := Int64.ofNat (E * 2 ^ 52)) hx hb dX5_bitsOf_89 (bX_shl E (by omega)) ?_
      refine lv_dload_n hx hb dX5_bitsOf_90 rfl (lv_at hl 2 rfl) ?_
      refine lv_dconst1 hx hb dX5_bitsOf_91 ?_
      refine lv_dsub hx hb dX5_bitsOf_92 (bY_n64 (bX_endN hT).1) ?_
      refine lv_ldc2d (own := RX5) (v := 4841369599423283200) hx hb hown (hts (.constantDouble RX5 251 (4841369599423283200)) (by decide +kernel)) dX5_bitsOf_93 ?_
      refine lv_dmul hx hb dX5_bitsOf_96 (bY_n64 (bX_endN hT).2) ?_
      refine lv_d2l hx hb dX5_bitsOf_97 ?_
      refine lv_ladd hx hb dX5_bitsOf_98 ?_
      exact z_lret hx hb hr hlocks (bY_fin hT) dX5_bitsOf_99
    have hL_54 : ∀ (n F i : Nat), F + n = 1023 → i + n ≤ 63 → 980 ≤ F → ∀ (ls : Array Slot), lv_has ls 7 [(6, .int (nI i)), (4, .long (Int64.ofNat (E + n))), (2, .double (bX F T)), (0, .double (bX E T))] → W p l e ({ frames := 0, cells := 0, slots := 0, locals := 0 } : Room) s m args below meth c s.heap [] 0 0 (MQ below (zRl (qBits (bX E T))) args s 0 0 (fun _ => False)) (F0 m 54 ls []) := by
      intro n
      induction n with
      | zero =>
        intro F i hF hi hF2 ls hl
        have e_F : F = 1023 := by omega
        subst e_F
        refine lv_iload hx hb dX5_bitsOf_54 (lv_at hl 0 rfl) ?_
        refine lv_bipush (v := 64) hx hb dX5_bitsOf_56 (by decide) ?_
        refine z_icmp_ge (tgt := 85) hx hb i (64) dX5_bitsOf_58 (by decide) (by omega) (by omega) rfl rfl (fun c_58 => absurd c_58 (by omega)) (fun c_58 => ?_)
        refine lv_dload_n hx hb dX5_bitsOf_61 rfl (lv_at hl 2 rfl) ?_
        refine lv_dconst1 hx hb dX5_bitsOf_62 ?_
        refine lv_dcmp hx hb dX5_bitsOf_63 ?_
        refine lv_if_ge (tgt := 85) hx hb dX5_bitsOf_64 (by decide) (fun c_64 => ?_) (fun c_64 => absurd (bY_ge (C := 1023 * 2 ^ 52) (by omega) hT (by decide) (by decide) (by omega)).2 c_64)
        exact hEnd i ls hl
      | succ n ih =>
        intro F i hF hi hF2 ls hl
        refine lv_iload hx hb dX5_bitsOf_54 (lv_at hl 0 rfl) ?_
        refine lv_bipush (v := 64) hx hb dX5_bitsOf_56 (by decide) ?_
        refine z_icmp_ge (tgt := 85) hx hb i (64) dX5_bitsOf_58 (by decide) (by omega) (by omega) rfl rfl (fun c_58 => absurd c_58 (by omega)) (fun c_58 => ?_)
        refine lv_dload_n hx hb dX5_bitsOf_61 rfl (lv_at hl 2 rfl) ?_
        refine lv_dconst1 hx hb dX5_bitsOf_62 ?_
        refine lv_dcmp hx hb dX5_bitsOf_63 ?_
        refine lv_if_ge (tgt := 85) hx hb dX5_bitsOf_64 (by decide) (fun c_64 => absurd c_64 (Int32.not_le.mpr (bY_lt (C := 1023 * 2 ^ 52) (by omega) hT (by decide) (by decide) (by omega)))) (fun c_64 => ?_)
        refine lv_dload_n hx hb dX5_bitsOf_67 rfl (lv_at hl 2 rfl) ?_
        refine lv_ldc2d (own := RX5) (v := 4611686018427387904) hx hb hown (hts (.constantDouble RX5 249 (4611686018427387904)) (by decide +kernel)) dX5_bitsOf_68 ?_
        refine lv_dmul hx hb dX5_bitsOf_71 (by rw [bY_dbl (by omega) (by omega) hT]; exact bY_n64 (bX_nn (by omega) hT)) ?_
        rw [bY_dbl (by omega) (by omega) hT]
        refine lv_dstore_n (lv' := [(2, .double (bX (F + 1) T)), (6, .int (nI i)), (4, .long (Int64.ofNat (E + (n + 1)))), (0, .double (bX E T))]) hx hb dX5_bitsOf_72 rfl hl (by decide) rfl (fun ls hl => ?_)
        refine lv_lload hx hb dX5_bitsOf_73 (lv_at hl 2 rfl) ?_
        refine lv_lconst (v := 1) hx hb dX5_bitsOf_75 rfl ?_
        refine lv_lsub hx hb dX5_bitsOf_76 ?_
        rw [show Int64.ofNat (E + (n + 1)) - 1 = Int64.ofNat (E + n) from bY_sub (E + n)]
        refine lv_lstore (lv' := [(4, .long (Int64.ofNat (E + n))), (2, .double (bX (F + 1) T)), (6, .int (nI i)), (0, .double (bX E T))]) hx hb dX5_bitsOf_77 hl (by decide) rfl (fun ls hl => ?_)
        refine lv_iinc (v := nI ((i) + 1)) (lv' := [(6, .int (nI ((i) + 1))), (4, .long (Int64.ofNat (E + n))), (2, .double (bX (F + 1) T)), (0, .double (bX E T))]) hx hb dX5_bitsOf_79 hl (k := 2) rfl (show nI (i) + Int32.ofInt 1 = _ from nI_add (i) 1) (by decide) rfl (fun ls hl => ?_)
        refine lv_goto (tgt := 54) hx hb dX5_bitsOf_82 (by decide) ?_
        exact ih (F + 1) (i + 1) (by omega) (by omega) (by omega) ls hl
    have hL_18 : ∀ (n F k i : Nat), F ≤ 1023 + n → (n ≠ 0 → F = 1023 + n) → E + 1023 = k + F → i + n ≤ 63 → 980 ≤ F → ∀ (ls : Array Slot), lv_has ls 7 [(6, .int (nI i)), (4, .long (Int64.ofNat k)), (2, .double (bX F T)), (0, .double (bX E T))] → W p l e ({ frames := 0, cells := 0, slots := 0, locals := 0 } : Room) s m args below meth c s.heap [] 0 0 (MQ below (zRl (qBits (bX E T))) args s 0 0 (fun _ => False)) (F0 m 18 ls []) := by
      intro n
      induction n with
      | zero =>
        intro F k i hF hFn hk hi hF2 ls hl
        refine lv_iload hx hb dX5_bitsOf_18 (lv_at hl 0 rfl) ?_
        refine lv_bipush (v := 64) hx hb dX5_bitsOf_20 (by decide) ?_
        refine z_icmp_ge (tgt := 51) hx hb i (64) dX5_bitsOf_22 (by decide) (by omega) (by omega) rfl rfl (fun c_22 => absurd c_22 (by omega)) (fun c_22 => ?_)
        refine lv_dload_n hx hb dX5_bitsOf_25 rfl (lv_at hl 2 rfl) ?_
        refine lv_ldc2d (own := RX5) (v := 4611686018427387904) hx hb hown (hts (.constantDouble RX5 249 (4611686018427387904)) (by decide +kernel)) dX5_bitsOf_26 ?_
        refine lv_dcmp hx hb dX5_bitsOf_29 ?_
        refine lv_if_lt (tgt := 51) hx hb dX5_bitsOf_30 (by decide) (fun c_30 => ?_) (fun c_30 => absurd (bY_lt (C := 1024 * 2 ^ 52) (by omega) hT (by decide) (by decide) (by omega)) c_30)
        refine lv_iconst (v := 0) hx hb dX5_bitsOf_51 (by decide) ?_
        refine lv_istore (lv' := [(6, .int (0)), (4, .long (Int64.ofNat k)), (2, .double (bX F T)), (0, .double (bX E T))]) hx hb dX5_bitsOf_52 hl (by decide) rfl (fun ls hl => ?_)
        have e_k : k = E + (1023 - F) := by omega
        subst e_k
        exact hL_54 (1023 - F) F 0 (by omega) (by omega) (by omega) ls hl
      | succ n ih =>
        intro F k i hF hFn hk hi hF2 ls hl
        have e_F : F = (1023 + n) + 1 := hFn (by omega)
        subst e_F
        refine lv_iload hx hb dX5_bitsOf_18 (lv_at hl 0 rfl) ?_
        refine lv_bipush (v := 64) hx hb dX5_bitsOf_20 (by decide) ?_
        refine z_icmp_ge (tgt := 51) hx hb i (64) dX5_bitsOf_22 (by decide) (by omega) (by omega) rfl rfl (fun c_22 => absurd c_22 (by omega)) (fun c_22 => ?_)
        refine lv_dload_n hx hb dX5_bitsOf_25 rfl (lv_at hl 2 rfl) ?_
        refine lv_ldc2d (own := RX5) (v := 4611686018427387904) hx hb hown (hts (.constantDouble RX5 249 (4611686018427387904)) (by decide +kernel)) dX5_bitsOf_26 ?_
        refine lv_dcmp hx hb dX5_bitsOf_29 ?_
        refine lv_if_lt (tgt := 51) hx hb dX5_bitsOf_30 (by decide) (fun c_30 => absurd c_30 (bY_ge (C := 1024 * 2 ^ 52) (by omega) hT (by decide) (by decide) (by omega)).1) (fun c_30 => ?_)
        refine lv_dload_n hx hb dX5_bitsOf_33 rfl (lv_at hl 2 rfl) ?_
        refine lv_ldc2d (own := RX5) (v := 4611686018427387904) hx hb hown (hts (.constantDouble RX5 249 (4611686018427387904)) (by decide +kernel)) dX5_bitsOf_34 ?_
        refine lv_ddiv hx hb dX5_bitsOf_37 (by rw [bY_half (by omega) (by omega) hT]; exact bY_n64 (bX_nn (by omega) hT)) ?_
        rw [bY_half (by omega) (by omega) hT]
        refine lv_dstore_n (lv' := [(2, .double (bX (1023 + n) T)), (6, .int (nI i)), (4, .long (Int64.ofNat k)), (0, .double (bX E T))]) hx hb dX5_bitsOf_38 rfl hl (by decide) rfl (fun ls hl => ?_)
        refine lv_lload hx hb dX5_bitsOf_39 (lv_at hl 2 rfl) ?_
        refine lv_lconst (v := 1) hx hb dX5_bitsOf_41 rfl ?_
        refine lv_ladd hx hb dX5_bitsOf_42 ?_
        rw [show Int64.ofNat k + 1 = Int64.ofNat (k + 1) from bY_add k]
        refine lv_lstore (lv' := [(4, .long (Int64.ofNat (k + 1))), (2, .double (bX (1023 + n) T)), (6, .int (nI i)), (0, .double (bX E T))]) hx hb dX5_bitsOf_43 hl (by decide) rfl (fun ls hl => ?_)
        refine lv_iinc (v := nI ((i) + 1)) (lv' := [(6, .int (nI ((i) + 1))), (4, .long (Int64.ofNat (k + 1))), (2, .double (bX (1023 + n) T)), (0, .double (bX E T))]) hx hb dX5_bitsOf_45 hl (k := 2) rfl (show nI (i) + Int32.ofInt 1 = _ from nI_add (i) 1) (by decide) rfl (fun ls hl => ?_)
        refine lv_goto (tgt := 18) hx hb dX5_bitsOf_48 (by decide) ?_
        exact ih (1023 + n) (k + 1) (i + 1) (by omega) (fun _ => rfl) (by omega) (by omega) (by omega) ls hl
    refine lv_dload_n hx hb dX5_bitsOf_0 rfl (lv_at hl 0 rfl) ?_
    refine lv_dconst0 hx hb dX5_bitsOf_1 ?_
    refine lv_dcmp hx hb dX5_bitsOf_2 ?_
    refine lv_if_gt (tgt := 8) hx hb dX5_bitsOf_3 (by decide) (fun c_3 => ?_) (fun c_3 => absurd (bY_gt (C := 0) (by omega) hT (by decide) (by decide) (by omega)) c_3)
    refine lv_dload_n hx hb dX5_bitsOf_8 rfl (lv_at hl 0 rfl) ?_
    refine lv_dstore_n (lv' := [(2, .double (bX E T)), (0, .double (bX E T))]) hx hb dX5_bitsOf_9 rfl hl (by decide) rfl (fun ls hl => ?_)
    refine lv_ldc2 (own := RX5) (v := 1023) hx hb hown (hts (.constantLong RX5 247 (1023)) (by decide +kernel)) dX5_bitsOf_10 ?_
    refine lv_lstore (lv' := [(4, .long (Int64.ofNat 1023)), (2, .double (bX E T)), (0, .double (bX E T))]) hx hb dX5_bitsOf_13 hl (by decide) rfl (fun ls hl => ?_)
    refine lv_iconst (v := 0) hx hb dX5_bitsOf_15 (by decide) ?_
    refine lv_istore (lv' := [(6, .int (0)), (4, .long (Int64.ofNat 1023)), (2, .double (bX E T)), (0, .double (bX E T))]) hx hb dX5_bitsOf_16 hl (by decide) rfl (fun ls hl => ?_)
    exact hL_18 (E - 1023) E 1023 0 (by omega) (by omega) (by omega) (by omega) (by omega) ls hl
