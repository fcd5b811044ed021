/-! a mean depth against itself -/
theorem e_nz (g : Nat → Int32) : Op.cmpValue (FP.dcmp (qMean g) (qMean g)) CmpOp.l = 0 := by
  unfold qMean
  by_cases h : qAll g = 0
  · rw [if_pos h]
    exact fp_cmp0
  · rw [if_neg h]
    exact fp_cmp (fp_div_mag _ h)
