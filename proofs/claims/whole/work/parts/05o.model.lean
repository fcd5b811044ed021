set_option maxRecDepth 100000 in
set_option maxHeartbeats 4000000 in
theorem metX6_takesLetter (l : Launch) (D : va_G) (ac : Nat → ClassId) (sz : Nat) (m0 : Nat) (z0 : Nat) (sd0 : Nat) (tx0 : Nat) (as0 : Nat) (rd0 : Nat) (th : Int32) (sv : Nat) (ln : Nat) (stp : Nat) (po : Nat) (tl : Int32) (hh : Int64) (z : Nat → Int32) (sd : Nat → Int32) (tx : Nat → Int32) (az : Nat → Int32) (rd : Nat → Int32) (x : Int32) (hpo : po ≤ 19) : Met l yX6_takesLetter wsX6_takesLetter ({ frames := 1, cells := 0, slots := 0, locals := 22 } : Room) (va_Pc [.ref (m0), .int (x)] (zS D ac [(m0, .inr (6, [.int (th), .ref (z0), .int (nI (sv)), .ref (sd0), .int (nI (ln)), .ref (tx0), .ref (as0), .int (nI (stp)), .int (nI (po)), .int (tl), .ref (rd0), .long (hh)])), (z0, .inl (ac 0, 162, .inl (z))), (sd0, .inl (ac 0, 972, .inl (sd))), (tx0, .inl (ac 0, 60, .inl (tx))), (as0, .inl (ac 0, 162, .inl (az))), (rd0, .inl (ac 0, 63, .inl (rd)))] sz)) (zQi D ac [(m0, .inr (6, [.int (th), .ref (z0), .int (nI (sv)), .ref (sd0), .int (nI (ln)), .ref (tx0), .ref (as0), .int (nI (stp)), .int (nI (po)), .int (tl), .ref (rd0), .long (hh)])), (z0, .inl (ac 0, 162, .inl (z))), (sd0, .inl (ac 0, 972, .inl (sd))), (tx0, .inl (ac 0, 60, .inl (tx))), (as0, .inl (ac 0, 162, .inl (az))), (rd0, .inl (ac 0, 63, .inl (rd)))] [(m0, .inr (6, [.int (th), .ref (z0), .int (nI (sv)), .ref (sd0), .int (nI (ln)), .ref (tx0), .ref (as0), .int (nI ((mLet (stp, po, tl, rd) x).2.1)), .int (nI ((mLet (stp, po, tl, rd) x).2.2.1)), .int ((mLet (stp, po, tl, rd) x).2.2.2.1), .ref (rd0), .long (hh)])), (z0, .inl (ac 0, 162, .inl (z))), (sd0, .inl (ac 0, 972, .inl (sd))), (tx0, .inl (ac 0, 60, .inl (tx))), (as0, .inl (ac 0, 162, .inl (az))), (rd0, .inl (ac 0, 63, .inl ((mLet (stp, po, tl, rd) x).2.2.2.2)))] sz (if (mLet (stp, po, tl, rd) x).1 = true then 1 else 0)) 0 0 (va_A [(m0, .inr (6, [.int (th), .ref (z0), .int (nI (sv)), .ref (sd0), .int (nI (ln)), .ref (tx0), .ref (as0), .int (nI (stp)), .int (nI (po)), .int (tl), .ref (rd0), .long (hh)])), (z0, .inl (ac 0, 162, .inl (z))), (sd0, .inl (ac 0, 972, .inl (sd))), (tx0, .inl (ac 0, 60, .inl (tx))), (as0, .inl (ac 0, 162, .inl (az))), (rd0, .inl (ac 0, 63, .inl (rd)))] sz) := by
  refine z_rw (cc := cX6_takesLetter) (maxL := 2) (ret := (some .boolean)) (lv := [(0, .ref (m0)), (1, .int (x))]) (by decide) rfl (Nat.le_of_ble_eq_true rfl) rfl ?_
  intro p e s m args below meth c ls A hx hb hr hml hown hts hlocks hl hK hP hsz hAe hA hD hS
  refine lv_aload_n hx hb dX6_takesLetter_0 rfl (lv_at hl 0 rfl) ?_
  refine va_get (ci := 6) (v := .ref (rd0)) (C := RX6) (T := TX6) (N := 12) hx hb hts (by decide +kernel) hown hK hP 0 rfl rfl 10 (by decide) (hts (.fieldLink RX6 22 "SettlingJarsModel" "read" "[I") (by decide +kernel)) (fun _ h9 => h9) rfl dX6_takesLetter_1 ?_
  refine lv_iconst (v := 3) hx hb dX6_takesLetter_4 (by decide) ?_
  refine lv_aload_n hx hb dX6_takesLetter_5 rfl (lv_at hl 0 rfl) ?_
  refine va_get (ci := 6) (v := .int (nI (po))) (C := RX6) (T := TX6) (N := 12) hx hb hts (by decide +kernel) hown hK hP 0 rfl rfl 8 (by decide) (hts (.fieldLink RX6 123 "SettlingJarsModel" "portions" "I") (by decide +kernel)) (fun _ h9 => h9) rfl dX6_takesLetter_6 ?_
  refine lv_imul hx hb dX6_takesLetter_9 ?_
  refine z_top (y := nI ((3) * (po))) (pk_mul (3) (po)) ?_
  refine lv_iconst (v := 1) hx hb dX6_takesLetter_10 (by decide) ?_
  refine lv_iadd hx hb dX6_takesLetter_11 ?_
  refine z_top (y := nI (((3) * (po)) + (1))) (nI_add ((3) * (po)) (1)) ?_
  refine lv_iload_n hx hb dX6_takesLetter_12 rfl (lv_at hl 1 rfl) ?_
  refine lv_bipush (v := 97) hx hb dX6_takesLetter_13 (by decide) ?_
  refine lv_isub hx hb dX6_takesLetter_15 ?_
  refine z_iast hx hb hK hP hD hS 5 rfl (3 * po + 1) (congrArg nI (by omega)) (by omega) (by decide) dX6_takesLetter_16 (fun H locs hP hD hS => ?_)
  have hP : va_P D vwCl [(m0, .inr (6, [.int (th), .ref (z0), .int (nI (sv)), .ref (sd0), .int (nI (ln)), .ref (tx0), .ref (as0), .int (nI (stp)), .int (nI (po)), .int (tl), .ref (rd0), .long (hh)])), (z0, .inl (ac 0, 162, .inl (z))), (sd0, .inl (ac 0, 972, .inl (sd))), (tx0, .inl (ac 0, 60, .inl (tx))), (as0, .inl (ac 0, 162, .inl (az))), (rd0, .inl (ac 0, 63, .inl (upd (rd) (3 * po + 1) ((x) - (97)))))] H := hP
  have hD : va_D A [(m0, .inr (6, [.int (th), .ref (z0), .int (nI (sv)), .ref (sd0), .int (nI (ln)), .ref (tx0), .ref (as0), .int (nI (stp)), .int (nI (po)), .int (tl), .ref (rd0), .long (hh)])), (z0, .inl (ac 0, 162, .inl (z))), (sd0, .inl (ac 0, 972, .inl (sd))), (tx0, .inl (ac 0, 60, .inl (tx))), (as0, .inl (ac 0, 162, .inl (az))), (rd0, .inl (ac 0, 63, .inl (upd (rd) (3 * po + 1) ((x) - (97)))))] := hD
  by_cases hc9 : 97 ≤ x ∧ x ≤ 100
  · refine lv_aload_n hx hb dX6_takesLetter_17 rfl (lv_at hl 0 rfl) ?_
    refine lv_iload_n hx hb dX6_takesLetter_18 rfl (lv_at hl 1 rfl) ?_
    refine lv_bipush (v := 97) hx hb dX6_takesLetter_19 (by decide) ?_
    refine lv_bipush (v := 100) hx hb dX6_takesLetter_21 (by decide) ?_
    refine z_ci (z_srun (rest := [.ref (m0)]) (own := RX6) (As := [.int (x), .int (97), .int (100)]) hx hb hml hown hts hl.1 hK hP [] rfl (metX6_within l D ac x 97 100 ) gX6_takesLetter_X6_within rfl 3 (by decide +kernel) ⟨rfl, rfl, Nat.le_of_ble_eq_true rfl, Nat.le_of_ble_eq_true rfl⟩ rfl rfl (Nat.le_of_ble_eq_true rfl) dX6_takesLetter_23 ⟨Nat.zero_le _, Nat.zero_le _⟩) ?_
    refine z_top (y := 1) (if_pos hc9) ?_
    refine lv_iconst (v := 2) hx hb dX6_takesLetter_26 (by decide) ?_
    refine z_ciW [(m0, .inr (6, [.int (th), .ref (z0), .int (nI (sv)), .ref (sd0), .int (nI (ln)), .ref (tx0), .ref (as0), .int (nI (2)), .int (nI (po)), .int (tl), .ref (rd0), .long (hh)])), (z0, .inl (ac 0, 162, .inl (z))), (sd0, .inl (ac 0, 972, .inl (sd))), (tx0, .inl (ac 0, 60, .inl (tx))), (as0, .inl (ac 0, 162, .inl (az))), (rd0, .inl (ac 0, 63, .inl ((upd (rd) (3 * po + 1) ((x) - (97))))))] (z_vrunW (rest := []) (own := RX6) (As := [.int (1), .int (2)]) hx hb hml hown hts hl.1 hK hP hD [0, 1, 2, 3, 4, 5] rfl (by decide) rfl (metX6_goes_t l D ac _ m0 z0 sd0 tx0 as0 rd0 th sv ln stp po tl hh z sd tx az (upd (rd) (3 * po + 1) ((x) - (97))) 2 ) gX6_takesLetter_X6_goes rfl 2 (by decide +kernel) ⟨rfl, rfl, Nat.le_of_ble_eq_true rfl, Nat.le_of_ble_eq_true rfl⟩ 0 6 rfl rfl rfl rfl rfl (Nat.le_of_ble_eq_true rfl) dX6_takesLetter_27 ⟨Nat.zero_le _, Nat.zero_le _⟩) hP hD hS hA [0, 1, 2, 3, 4, 5] [] [0, 1, 2, 3, 4, 5] rfl rfl (by decide) (by decide) (by decide) rfl (fun H locs hP hD hS => ?_)
    have e1 : mLet (stp, po, tl, rd) x = (true, 2, po, tl, upd rd (3 * po + 1) (x - 97)) := if_pos hc9
    have hP : va_P D vwCl [(m0, .inr (6, [.int (th), .ref (z0), .int (nI (sv)), .ref (sd0), .int (nI (ln)), .ref (tx0), .ref (as0), .int (nI ((mLet (stp, po, tl, rd) x).2.1)), .int (nI ((mLet (stp, po, tl, rd) x).2.2.1)), .int ((mLet (stp, po, tl, rd) x).2.2.2.1), .ref (rd0), .long (hh)])), (z0, .inl (ac 0, 162, .inl (z))), (sd0, .inl (ac 0, 972, .inl (sd))), (tx0, .inl (ac 0, 60, .inl (tx))), (as0, .inl (ac 0, 162, .inl (az))), (rd0, .inl (ac 0, 63, .inl ((mLet (stp, po, tl, rd) x).2.2.2.2)))] H := by rw [e1]; exact hP
    have hD : va_D A [(m0, .inr (6, [.int (th), .ref (z0), .int (nI (sv)), .ref (sd0), .int (nI (ln)), .ref (tx0), .ref (as0), .int (nI ((mLet (stp, po, tl, rd) x).2.1)), .int (nI ((mLet (stp, po, tl, rd) x).2.2.1)), .int ((mLet (stp, po, tl, rd) x).2.2.2.1), .ref (rd0), .long (hh)])), (z0, .inl (ac 0, 162, .inl (z))), (sd0, .inl (ac 0, 972, .inl (sd))), (tx0, .inl (ac 0, 60, .inl (tx))), (as0, .inl (ac 0, 162, .inl (az))), (rd0, .inl (ac 0, 63, .inl ((mLet (stp, po, tl, rd) x).2.2.2.2)))] := by rw [e1]; exact hD
    exact z_zretW hx hb hr hlocks hK hP hD hS hAe (rfl) (by rw [e1]; rfl) dX6_takesLetter_30
  · refine lv_aload_n hx hb dX6_takesLetter_17 rfl (lv_at hl 0 rfl) ?_
    refine lv_iload_n hx hb dX6_takesLetter_18 rfl (lv_at hl 1 rfl) ?_
    refine lv_bipush (v := 97) hx hb dX6_takesLetter_19 (by decide) ?_
    refine lv_bipush (v := 100) hx hb dX6_takesLetter_21 (by decide) ?_
    refine z_ci (z_srun (rest := [.ref (m0)]) (own := RX6) (As := [.int (x), .int (97), .int (100)]) hx hb hml hown hts hl.1 hK hP [] rfl (metX6_within l D ac x 97 100 ) gX6_takesLetter_X6_within rfl 3 (by decide +kernel) ⟨rfl, rfl, Nat.le_of_ble_eq_true rfl, Nat.le_of_ble_eq_true rfl⟩ rfl rfl (Nat.le_of_ble_eq_true rfl) dX6_takesLetter_23 ⟨Nat.zero_le _, Nat.zero_le _⟩) ?_
    refine z_top (y := 0) (if_neg hc9) ?_
    refine lv_iconst (v := 2) hx hb dX6_takesLetter_26 (by decide) ?_
    refine z_ciW [(m0, .inr (6, [.int (th), .ref (z0), .int (nI (sv)), .ref (sd0), .int (nI (ln)), .ref (tx0), .ref (as0), .int (nI (stp)), .int (nI (po)), .int (tl), .ref (rd0), .long (hh)])), (z0, .inl (ac 0, 162, .inl (z))), (sd0, .inl (ac 0, 972, .inl (sd))), (tx0, .inl (ac 0, 60, .inl (tx))), (as0, .inl (ac 0, 162, .inl (az))), (rd0, .inl (ac 0, 63, .inl ((upd (rd) (3 * po + 1) ((x) - (97))))))] (z_vrunW (rest := []) (own := RX6) (As := [.int (0), .int (2)]) hx hb hml hown hts hl.1 hK hP hD [0, 1, 2, 3, 4, 5] rfl (by decide) rfl (metX6_goes_f l D ac _ m0 z0 sd0 tx0 as0 rd0 th sv ln stp po tl hh z sd tx az (upd (rd) (3 * po + 1) ((x) - (97))) 2 ) gX6_takesLetter_X6_goes rfl 2 (by decide +kernel) ⟨rfl, rfl, Nat.le_of_ble_eq_true rfl, Nat.le_of_ble_eq_true rfl⟩ 0 6 rfl rfl rfl rfl rfl (Nat.le_of_ble_eq_true rfl) dX6_takesLetter_27 ⟨Nat.zero_le _, Nat.zero_le _⟩) hP hD hS hA [0, 1, 2, 3, 4, 5] [] [0, 1, 2, 3, 4, 5] rfl rfl (by decide) (by decide) (by decide) rfl (fun H locs hP hD hS => ?_)
    have e1 : mLet (stp, po, tl, rd) x = (false, stp, po, tl, upd rd (3 * po + 1) (x - 97)) := if_neg hc9
    have hP : va_P D vwCl [(m0, .inr (6, [.int (th), .ref (z0), .int (nI (sv)), .ref (sd0), .int (nI (ln)), .ref (tx0), .ref (as0), .int (nI ((mLet (stp, po, tl, rd) x).2.1)), .int (nI ((mLet (stp, po, tl, rd) x).2.2.1)), .int ((mLet (stp, po, tl, rd) x).2.2.2.1), .ref (rd0), .long (hh)])), (z0, .inl (ac 0, 162, .inl (z))), (sd0, .inl (ac 0, 972, .inl (sd))), (tx0, .inl (ac 0, 60, .inl (tx))), (as0, .inl (ac 0, 162, .inl (az))), (rd0, .inl (ac 0, 63, .inl ((mLet (stp, po, tl, rd) x).2.2.2.2)))] H := by rw [e1]; exact hP
    have hD : va_D A [(m0, .inr (6, [.int (th), .ref (z0), .int (nI (sv)), .ref (sd0), .int (nI (ln)), .ref (tx0), .ref (as0), .int (nI ((mLet (stp, po, tl, rd) x).2.1)), .int (nI ((mLet (stp, po, tl, rd) x).2.2.1)), .int ((mLet (stp, po, tl, rd) x).2.2.2.1), .ref (rd0), .long (hh)])), (z0, .inl (ac 0, 162, .inl (z))), (sd0, .inl (ac 0, 972, .inl (sd))), (tx0, .inl (ac 0, 60, .inl (tx))), (as0, .inl (ac 0, 162, .inl (az))), (rd0, .inl (ac 0, 63, .inl ((mLet (stp, po, tl, rd) x).2.2.2.2)))] := by rw [e1]; exact hD
    exact z_zretW hx hb hr hlocks hK hP hD hS hAe (rfl) (by rw [e1]; rfl) dX6_takesLetter_30

set_option maxRecDepth 100000 in
set_option maxHeartbeats 4000000 in
theorem metX6_takesPlus (l : Launch) (D : va_G) (ac : Nat → ClassId) (sz : Nat) (m0 : Nat) (z0 : Nat) (sd0 : Nat) (tx0 : Nat) (as0 : Nat) (rd0 : Nat) (th : Int32) (sv : Nat) (ln : Nat) (stp : Nat) (po : Nat) (tl : Int32) (hh : Int64) (z : Nat → Int32) (sd : Nat → Int32) (tx : Nat → Int32) (az : Nat → Int32) (rd : Nat → Int32) (x : Int32) (hpo : po ≤ 19) : Met l yX6_takesPlus wsX6_takesPlus ({ frames := 1, cells := 0, slots := 0, locals := 22 } : Room) (va_Pc [.ref (m0), .int (x)] (zS D ac [(m0, .inr (6, [.int (th), .ref (z0), .int (nI (sv)), .ref (sd0), .int (nI (ln)), .ref (tx0), .ref (as0), .int (nI (stp)), .int (nI (po)), .int (tl), .ref (rd0), .long (hh)])), (z0, .inl (ac 0, 162, .inl (z))), (sd0, .inl (ac 0, 972, .inl (sd))), (tx0, .inl (ac 0, 60, .inl (tx))), (as0, .inl (ac 0, 162, .inl (az))), (rd0, .inl (ac 0, 63, .inl (rd)))] sz)) (zQi D ac [(m0, .inr (6, [.int (th), .ref (z0), .int (nI (sv)), .ref (sd0), .int (nI (ln)), .ref (tx0), .ref (as0), .int (nI (stp)), .int (nI (po)), .int (tl), .ref (rd0), .long (hh)])), (z0, .inl (ac 0, 162, .inl (z))), (sd0, .inl (ac 0, 972, .inl (sd))), (tx0, .inl (ac 0, 60, .inl (tx))), (as0, .inl (ac 0, 162, .inl (az))), (rd0, .inl (ac 0, 63, .inl (rd)))] [(m0, .inr (6, [.int (th), .ref (z0), .int (nI (sv)), .ref (sd0), .int (nI (ln)), .ref (tx0), .ref (as0), .int (nI ((mPls (stp, po, tl, rd) x).2.1)), .int (nI ((mPls (stp, po, tl, rd) x).2.2.1)), .int ((mPls (stp, po, tl, rd) x).2.2.2.1), .ref (rd0), .long (hh)])), (z0, .inl (ac 0, 162, .inl (z))), (sd0, .inl (ac 0, 972, .inl (sd))), (tx0, .inl (ac 0, 60, .inl (tx))), (as0, .inl (ac 0, 162, .inl (az))), (rd0, .inl (ac 0, 63, .inl ((mPls (stp, po, tl, rd) x).2.2.2.2)))] sz (if (mPls (stp, po, tl, rd) x).1 = true then 1 else 0)) 0 0 (va_A [(m0, .inr (6, [.int (th), .ref (z0), .int (nI (sv)), .ref (sd0), .int (nI (ln)), .ref (tx0), .ref (as0), .int (nI (stp)), .int (nI (po)), .int (tl), .ref (rd0), .long (hh)])), (z0, .inl (ac 0, 162, .inl (z))), (sd0, .inl (ac 0, 972, .inl (sd))), (tx0, .inl (ac 0, 60, .inl (tx))), (as0, .inl (ac 0, 162, .inl (az))), (rd0, .inl (ac 0, 63, .inl (rd)))] sz) := by
  refine z_rw (cc := cX6_takesPlus) (maxL := 2) (ret := (some .boolean)) (lv := [(0, .ref (m0)), (1, .int (x))]) (by decide) rfl (Nat.le_of_ble_eq_true rfl) rfl ?_
  intro p e s m args below meth c ls A hx hb hr hml hown hts hlocks hl hK hP hsz hAe hA hD hS
  refine lv_iload_n hx hb dX6_takesPlus_0 rfl (lv_at hl 1 rfl) ?_
  refine lv_bipush (v := 43) hx hb dX6_takesPlus_1 (by decide) ?_
  refine lv_icmp_ne (tgt := 10) hx hb dX6_takesPlus_3 (by decide) (fun c_3 => ?_) (fun c_3 => ?_)
  · refine lv_aload_n hx hb dX6_takesPlus_10 rfl (lv_at hl 0 rfl) ?_
    refine lv_iload_n hx hb dX6_takesPlus_11 rfl (lv_at hl 1 rfl) ?_
    refine lv_bipush (v := 43) hx hb dX6_takesPlus_12 (by decide) ?_
    refine lv_icmp_ne (tgt := 21) hx hb dX6_takesPlus_14 (by decide) (fun c_14 => ?_) (fun c_14 => absurd c_14 (c_3))
    refine lv_iconst (v := 0) hx hb dX6_takesPlus_21 (by decide) ?_
    refine lv_iconst (v := 0) hx hb dX6_takesPlus_22 (by decide) ?_
    refine z_ciW [(m0, .inr (6, [.int (th), .ref (z0), .int (nI (sv)), .ref (sd0), .int (nI (ln)), .ref (tx0), .ref (as0), .int (nI (stp)), .int (nI (po)), .int (tl), .ref (rd0), .long (hh)])), (z0, .inl (ac 0, 162, .inl (z))), (sd0, .inl (ac 0, 972, .inl (sd))), (tx0, .inl (ac 0, 60, .inl (tx))), (as0, .inl (ac 0, 162, .inl (az))), (rd0, .inl (ac 0, 63, .inl (rd)))] (z_vrunW (rest := []) (own := RX6) (As := [.int (0), .int (0)]) hx hb hml hown hts hl.1 hK hP hD [0, 1, 2, 3, 4, 5] rfl (by decide) rfl (metX6_goes_f l D ac _ m0 z0 sd0 tx0 as0 rd0 th sv ln stp po tl hh z sd tx az rd 0 ) gX6_takesPlus_X6_goes rfl 2 (by decide +kernel) ⟨rfl, rfl, Nat.le_of_ble_eq_true rfl, Nat.le_of_ble_eq_true rfl⟩ 0 6 rfl rfl rfl rfl rfl (Nat.le_of_ble_eq_true rfl) dX6_takesPlus_23 ⟨Nat.zero_le _, Nat.zero_le _⟩) hP hD hS hA [0, 1, 2, 3, 4, 5] [] [0, 1, 2, 3, 4, 5] rfl rfl (by decide) (by decide) (by decide) rfl (fun H locs hP hD hS => ?_)
    have e1 : mPls (stp, po, tl, rd) x = (false, (stp, po, tl, rd)) := if_neg c_3
    have hP : va_P D vwCl [(m0, .inr (6, [.int (th), .ref (z0), .int (nI (sv)), .ref (sd0), .int (nI (ln)), .ref (tx0), .ref (as0), .int (nI ((mPls (stp, po, tl, rd) x).2.1)), .int (nI ((mPls (stp, po, tl, rd) x).2.2.1)), .int ((mPls (stp, po, tl, rd) x).2.2.2.1), .ref (rd0), .long (hh)])), (z0, .inl (ac 0, 162, .inl (z))), (sd0, .inl (ac 0, 972, .inl (sd))), (tx0, .inl (ac 0, 60, .inl (tx))), (as0, .inl (ac 0, 162, .inl (az))), (rd0, .inl (ac 0, 63, .inl ((mPls (stp, po, tl, rd) x).2.2.2.2)))] H := by rw [e1]; exact hP
    have hD : va_D A [(m0, .inr (6, [.int (th), .ref (z0), .int (nI (sv)), .ref (sd0), .int (nI (ln)), .ref (tx0), .ref (as0), .int (nI ((mPls (stp, po, tl, rd) x).2.1)), .int (nI ((mPls (stp, po, tl, rd) x).2.2.1)), .int ((mPls (stp, po, tl, rd) x).2.2.2.1), .ref (rd0), .long (hh)])), (z0, .inl (ac 0, 162, .inl (z))), (sd0, .inl (ac 0, 972, .inl (sd))), (tx0, .inl (ac 0, 60, .inl (tx))), (as0, .inl (ac 0, 162, .inl (az))), (rd0, .inl (ac 0, 63, .inl ((mPls (stp, po, tl, rd) x).2.2.2.2)))] := by rw [e1]; exact hD
    exact z_zretW hx hb hr hlocks hK hP hD hS hAe (rfl) (by rw [e1]; rfl) dX6_takesPlus_26
  · refine lv_aload_n hx hb dX6_takesPlus_6 rfl (lv_at hl 0 rfl) ?_
    refine z_cvW [(m0, .inr (6, [.int (th), .ref (z0), .int (nI (sv)), .ref (sd0), .int (nI (ln)), .ref (tx0), .ref (as0), .int (nI (stp)), .int (nI (po + 1)), .int (tl + rd (3 * po)), .ref (rd0), .long (hh)])), (z0, .inl (ac 0, 162, .inl (z))), (sd0, .inl (ac 0, 972, .inl (sd))), (tx0, .inl (ac 0, 60, .inl (tx))), (as0, .inl (ac 0, 162, .inl (az))), (rd0, .inl (ac 0, 63, .inl (upd (upd rd (3 * (po + 1)) 0) (3 * (po + 1) + 2) 0)))] (z_vrunW (rest := []) (own := RX6) (As := []) hx hb hml hown hts hl.1 hK hP hD [0, 1, 2, 3, 4, 5] rfl (by decide) rfl (metX6_endPortion l D ac _ m0 z0 sd0 tx0 as0 rd0 th sv ln stp po tl hh z sd tx az rd (by omega)) gX6_takesPlus_X6_endPortion rfl 0 (by decide +kernel) ⟨rfl, rfl, Nat.le_of_ble_eq_true rfl, Nat.le_of_ble_eq_true rfl⟩ 0 6 rfl rfl rfl rfl rfl (Nat.le_of_ble_eq_true rfl) dX6_takesPlus_7 ⟨Nat.zero_le _, Nat.zero_le _⟩) hP hD hS hA [0, 1, 2, 3, 4, 5] [] [0, 1, 2, 3, 4, 5] rfl rfl (by decide) (by decide) (by decide) rfl (fun H locs hP hD hS => ?_)
    refine lv_aload_n hx hb dX6_takesPlus_10 rfl (lv_at hl 0 rfl) ?_
    refine lv_iload_n hx hb dX6_takesPlus_11 rfl (lv_at hl 1 rfl) ?_
    refine lv_bipush (v := 43) hx hb dX6_takesPlus_12 (by decide) ?_
    refine lv_icmp_ne (tgt := 21) hx hb dX6_takesPlus_14 (by decide) (fun c_14 => absurd c_14 (fun q => q c_3)) (fun c_14 => ?_)
    refine lv_iconst (v := 1) hx hb dX6_takesPlus_17 (by decide) ?_
    refine lv_goto (tgt := 22) hx hb dX6_takesPlus_18 (by decide) ?_
    refine lv_iconst (v := 0) hx hb dX6_takesPlus_22 (by decide) ?_
    refine z_ciW [(m0, .inr (6, [.int (th), .ref (z0), .int (nI (sv)), .ref (sd0), .int (nI (ln)), .ref (tx0), .ref (as0), .int (nI (0)), .int (nI ((po + 1))), .int ((tl + rd (3 * po))), .ref (rd0), .long (hh)])), (z0, .inl (ac 0, 162, .inl (z))), (sd0, .inl (ac 0, 972, .inl (sd))), (tx0, .inl (ac 0, 60, .inl (tx))), (as0, .inl (ac 0, 162, .inl (az))), (rd0, .inl (ac 0, 63, .inl ((upd (upd rd (3 * (po + 1)) 0) (3 * (po + 1) + 2) 0))))] (z_vrunW (rest := []) (own := RX6) (As := [.int (1), .int (0)]) hx hb hml hown hts hl.1 hK hP hD [0, 1, 2, 3, 4, 5] rfl (by decide) rfl (metX6_goes_t l D ac _ m0 z0 sd0 tx0 as0 rd0 th sv ln stp (po + 1) (tl + rd (3 * po)) hh z sd tx az (upd (upd rd (3 * (po + 1)) 0) (3 * (po + 1) + 2) 0) 0 ) gX6_takesPlus_X6_goes rfl 2 (by decide +kernel) ⟨rfl, rfl, Nat.le_of_ble_eq_true rfl, Nat.le_of_ble_eq_true rfl⟩ 0 6 rfl rfl rfl rfl rfl (Nat.le_of_ble_eq_true rfl) dX6_takesPlus_23 ⟨Nat.zero_le _, Nat.zero_le _⟩) hP hD hS hA [0, 1, 2, 3, 4, 5] [] [0, 1, 2, 3, 4, 5] rfl rfl (by decide) (by decide) (by decide) rfl (fun H locs hP hD hS => ?_)
    have e1 : mPls (stp, po, tl, rd) x = (true, 0, (mEnd (stp, po, tl, rd)).2) := if_pos c_3
    have hP : va_P D vwCl [(m0, .inr (6, [.int (th), .ref (z0), .int (nI (sv)), .ref (sd0), .int (nI (ln)), .ref (tx0), .ref (as0), .int (nI ((mPls (stp, po, tl, rd) x).2.1)), .int (nI ((mPls (stp, po, tl, rd) x).2.2.1)), .int ((mPls (stp, po, tl, rd) x).2.2.2.1), .ref (rd0), .long (hh)])), (z0, .inl (ac 0, 162, .inl (z))), (sd0, .inl (ac 0, 972, .inl (sd))), (tx0, .inl (ac 0, 60, .inl (tx))), (as0, .inl (ac 0, 162, .inl (az))), (rd0, .inl (ac 0, 63, .inl ((mPls (stp, po, tl, rd) x).2.2.2.2)))] H := by rw [e1]; exact hP
    have hD : va_D A [(m0, .inr (6, [.int (th), .ref (z0), .int (nI (sv)), .ref (sd0), .int (nI (ln)), .ref (tx0), .ref (as0), .int (nI ((mPls (stp, po, tl, rd) x).2.1)), .int (nI ((mPls (stp, po, tl, rd) x).2.2.1)), .int ((mPls (stp, po, tl, rd) x).2.2.2.1), .ref (rd0), .long (hh)])), (z0, .inl (ac 0, 162, .inl (z))), (sd0, .inl (ac 0, 972, .inl (sd))), (tx0, .inl (ac 0, 60, .inl (tx))), (as0, .inl (ac 0, 162, .inl (az))), (rd0, .inl (ac 0, 63, .inl ((mPls (stp, po, tl, rd) x).2.2.2.2)))] := by rw [e1]; exact hD
    exact z_zretW hx hb hr hlocks hK hP hD hS hAe (rfl) (by rw [e1]; rfl) dX6_takesPlus_26

set_option maxRecDepth 100000 in
set_option maxHeartbeats 4000000 in
theorem metX6_takesSlice (l : Launch) (D : va_G) (ac : Nat → ClassId) (sz : Nat) (m0 : Nat) (z0 : Nat) (sd0 : Nat) (tx0 : Nat) (as0 : Nat) (rd0 : Nat) (th : Int32) (sv : Nat) (ln : Nat) (stp : Nat) (po : Nat) (tl : Int32) (hh : Int64) (z : Nat → Int32) (sd : Nat → Int32) (tx : Nat → Int32) (az : Nat → Int32) (rd : Nat → Int32) (x : Int32) (hpo : po ≤ 19) (hst : stp < 5) : Met l yX6_takesSlice wsX6_takesSlice ({ frames := 1, cells := 0, slots := 0, locals := 22 } : Room) (va_Pc [.ref (m0), .int (x)] (zS D ac [(m0, .inr (6, [.int (th), .ref (z0), .int (nI (sv)), .ref (sd0), .int (nI (ln)), .ref (tx0), .ref (as0), .int (nI (stp)), .int (nI (po)), .int (tl), .ref (rd0), .long (hh)])), (z0, .inl (ac 0, 162, .inl (z))), (sd0, .inl (ac 0, 972, .inl (sd))), (tx0, .inl (ac 0, 60, .inl (tx))), (as0, .inl (ac 0, 162, .inl (az))), (rd0, .inl (ac 0, 63, .inl (rd)))] sz)) (zQi D ac [(m0, .inr (6, [.int (th), .ref (z0), .int (nI (sv)), .ref (sd0), .int (nI (ln)), .ref (tx0), .ref (as0), .int (nI (stp)), .int (nI (po)), .int (tl), .ref (rd0), .long (hh)])), (z0, .inl (ac 0, 162, .inl (z))), (sd0, .inl (ac 0, 972, .inl (sd))), (tx0, .inl (ac 0, 60, .inl (tx))), (as0, .inl (ac 0, 162, .inl (az))), (rd0, .inl (ac 0, 63, .inl (rd)))] [(m0, .inr (6, [.int (th), .ref (z0), .int (nI (sv)), .ref (sd0), .int (nI (ln)), .ref (tx0), .ref (as0), .int (nI ((mSli (stp, po, tl, rd) x).2.1)), .int (nI ((mSli (stp, po, tl, rd) x).2.2.1)), .int ((mSli (stp, po, tl, rd) x).2.2.2.1), .ref (rd0), .long (hh)])), (z0, .inl (ac 0, 162, .inl (z))), (sd0, .inl (ac 0, 972, .inl (sd))), (tx0, .inl (ac 0, 60, .inl (tx))), (as0, .inl (ac 0, 162, .inl (az))), (rd0, .inl (ac 0, 63, .inl ((mSli (stp, po, tl, rd) x).2.2.2.2)))] sz (if (mSli (stp, po, tl, rd) x).1 = true then 1 else 0)) 0 0 (va_A [(m0, .inr (6, [.int (th), .ref (z0), .int (nI (sv)), .ref (sd0), .int (nI (ln)), .ref (tx0), .ref (as0), .int (nI (stp)), .int (nI (po)), .int (tl), .ref (rd0), .long (hh)])), (z0, .inl (ac 0, 162, .inl (z))), (sd0, .inl (ac 0, 972, .inl (sd))), (tx0, .inl (ac 0, 60, .inl (tx))), (as0, .inl (ac 0, 162, .inl (az))), (rd0, .inl (ac 0, 63, .inl (rd)))] sz) := by
  refine z_rw (cc := cX6_takesSlice) (maxL := 4) (ret := (some .boolean)) (lv := [(0, .ref (m0)), (1, .int (x))]) (by decide) rfl (Nat.le_of_ble_eq_true rfl) rfl ?_
  intro p e s m args below meth c ls A hx hb hr hml hown hts hlocks hl hK hP hsz hAe hA hD hS
  refine lv_bipush (v := 10) hx hb dX6_takesSlice_0 (by decide) ?_
  refine lv_aload_n hx hb dX6_takesSlice_2 rfl (lv_at hl 0 rfl) ?_
  refine va_get (ci := 6) (v := .ref (rd0)) (C := RX6) (T := TX6) (N := 12) hx hb hts (by decide +kernel) hown hK hP 0 rfl rfl 10 (by decide) (hts (.fieldLink RX6 22 "SettlingJarsModel" "read" "[I") (by decide +kernel)) (fun _ h9 => h9) rfl dX6_takesSlice_3 ?_
  refine lv_iconst (v := 3) hx hb dX6_takesSlice_6 (by decide) ?_
  refine lv_aload_n hx hb dX6_takesSlice_7 rfl (lv_at hl 0 rfl) ?_
  refine va_get (ci := 6) (v := .int (nI (po))) (C := RX6) (T := TX6) (N := 12) hx hb hts (by decide +kernel) hown hK hP 0 rfl rfl 8 (by decide) (hts (.fieldLink RX6 123 "SettlingJarsModel" "portions" "I") (by decide +kernel)) (fun _ h9 => h9) rfl dX6_takesSlice_8 ?_
  refine lv_imul hx hb dX6_takesSlice_11 ?_
  refine z_top (y := nI ((3) * (po))) (pk_mul (3) (po)) ?_
  refine lv_iconst (v := 2) hx hb dX6_takesSlice_12 (by decide) ?_
  refine lv_iadd hx hb dX6_takesSlice_13 ?_
  refine z_top (y := nI (((3) * (po)) + (2))) (nI_add ((3) * (po)) (2)) ?_
  refine z_iald hx hb hK hP 5 rfl (3 * po + 2) (congrArg nI (by omega)) (by omega) (by decide) dX6_takesSlice_14 ?_
  refine lv_imul hx hb dX6_takesSlice_15 ?_
  refine lv_iload_n hx hb dX6_takesSlice_16 rfl (lv_at hl 1 rfl) ?_
  refine lv_iadd hx hb dX6_takesSlice_17 ?_
  refine lv_bipush (v := 48) hx hb dX6_takesSlice_18 (by decide) ?_
  refine lv_isub hx hb dX6_takesSlice_20 ?_
  refine z_top (y := mSx (stp, po, tl, rd) x) (rfl) ?_
  refine lv_istore_n (lv' := [(2, .int (mSx (stp, po, tl, rd) x)), (0, .ref (m0)), (1, .int (x))]) hx hb dX6_takesSlice_21 rfl hl (by decide) rfl (fun ls hl => ?_)
  refine lv_iload_n hx hb dX6_takesSlice_22 rfl (lv_at hl 2 rfl) ?_
  refine lv_bipush (v := 48) hx hb dX6_takesSlice_23 (by decide) ?_
  refine lv_bipush (v := 57) hx hb dX6_takesSlice_25 (by decide) ?_
  refine z_ci (z_srun (rest := []) (own := RX6) (As := [.int (x), .int (48), .int (57)]) hx hb hml hown hts hl.1 hK hP [] rfl (metX6_within l D ac x 48 57 ) gX6_takesSlice_X6_within rfl 3 (by decide +kernel) ⟨rfl, rfl, Nat.le_of_ble_eq_true rfl, Nat.le_of_ble_eq_true rfl⟩ rfl rfl (Nat.le_of_ble_eq_true rfl) dX6_takesSlice_27 ⟨Nat.zero_le _, Nat.zero_le _⟩) ?_
  refine z_if_eq (C := 48 ≤ x ∧ x ≤ 57) (tgt := 68) hx hb dX6_takesSlice_30 (by decide) (fun c_30 => ?_) (fun c_30 => ?_)
  · refine lv_iconst (v := 0) hx hb dX6_takesSlice_68 (by decide) ?_
    refine lv_istore_n (lv' := [(3, .int (0)), (2, .int (mSx (stp, po, tl, rd) x)), (0, .ref (m0)), (1, .int (x))]) hx hb dX6_takesSlice_69 rfl hl (by decide) rfl (fun ls hl => ?_)
    refine lv_aload_n hx hb dX6_takesSlice_70 rfl (lv_at hl 2 rfl) ?_
    refine va_get (ci := 6) (v := .ref (rd0)) (C := RX6) (T := TX6) (N := 12) hx hb hts (by decide +kernel) hown hK hP 0 rfl rfl 10 (by decide) (hts (.fieldLink RX6 22 "SettlingJarsModel" "read" "[I") (by decide +kernel)) (fun _ h9 => h9) rfl dX6_takesSlice_71 ?_
    refine lv_iconst (v := 3) hx hb dX6_takesSlice_74 (by decide) ?_
    refine lv_aload_n hx hb dX6_takesSlice_75 rfl (lv_at hl 2 rfl) ?_
    refine va_get (ci := 6) (v := .int (nI (po))) (C := RX6) (T := TX6) (N := 12) hx hb hts (by decide +kernel) hown hK hP 0 rfl rfl 8 (by decide) (hts (.fieldLink RX6 123 "SettlingJarsModel" "portions" "I") (by decide +kernel)) (fun _ h9 => h9) rfl dX6_takesSlice_76 ?_
    refine lv_imul hx hb dX6_takesSlice_79 ?_
    refine z_top (y := nI ((3) * (po))) (pk_mul (3) (po)) ?_
    refine lv_iconst (v := 2) hx hb dX6_takesSlice_80 (by decide) ?_
    refine lv_iadd hx hb dX6_takesSlice_81 ?_
    refine z_top (y := nI (((3) * (po)) + (2))) (nI_add ((3) * (po)) (2)) ?_
    refine lv_iload_n hx hb dX6_takesSlice_82 rfl (lv_at hl 0 rfl) ?_
    refine lv_if_eq (tgt := 90) hx hb dX6_takesSlice_83 (by decide) (fun _ => ?_) (fun c_ => absurd (by decide) c_)
    refine lv_aload_n hx hb dX6_takesSlice_90 rfl (lv_at hl 2 rfl) ?_
    refine va_get (ci := 6) (v := .ref (rd0)) (C := RX6) (T := TX6) (N := 12) hx hb hts (by decide +kernel) hown hK hP 0 rfl rfl 10 (by decide) (hts (.fieldLink RX6 22 "SettlingJarsModel" "read" "[I") (by decide +kernel)) (fun _ h9 => h9) rfl dX6_takesSlice_91 ?_
    refine lv_iconst (v := 3) hx hb dX6_takesSlice_94 (by decide) ?_
    refine lv_aload_n hx hb dX6_takesSlice_95 rfl (lv_at hl 2 rfl) ?_
    refine va_get (ci := 6) (v := .int (nI (po))) (C := RX6) (T := TX6) (N := 12) hx hb hts (by decide +kernel) hown hK hP 0 rfl rfl 8 (by decide) (hts (.fieldLink RX6 123 "SettlingJarsModel" "portions" "I") (by decide +kernel)) (fun _ h9 => h9) rfl dX6_takesSlice_96 ?_
    refine lv_imul hx hb dX6_takesSlice_99 ?_
    refine z_top (y := nI ((3) * (po))) (pk_mul (3) (po)) ?_
    refine lv_iconst (v := 2) hx hb dX6_takesSlice_100 (by decide) ?_
    refine lv_iadd hx hb dX6_takesSlice_101 ?_
    refine z_top (y := nI (((3) * (po)) + (2))) (nI_add ((3) * (po)) (2)) ?_
    refine z_iald hx hb hK hP 5 rfl (3 * po + 2) (congrArg nI (by omega)) (by omega) (by decide) dX6_takesSlice_102 ?_
    refine z_iast hx hb hK hP hD hS 5 rfl (3 * po + 2) (congrArg nI (by omega)) (by omega) (by decide) dX6_takesSlice_103 (fun H locs hP hD hS => ?_)
    have hP : va_P D vwCl [(m0, .inr (6, [.int (th), .ref (z0), .int (nI (sv)), .ref (sd0), .int (nI (ln)), .ref (tx0), .ref (as0), .int (nI (stp)), .int (nI (po)), .int (tl), .ref (rd0), .long (hh)])), (z0, .inl (ac 0, 162, .inl (z))), (sd0, .inl (ac 0, 972, .inl (sd))), (tx0, .inl (ac 0, 60, .inl (tx))), (as0, .inl (ac 0, 162, .inl (az))), (rd0, .inl (ac 0, 63, .inl (upd (rd) (3 * po + 2) (rd (3 * po + 2)))))] H := hP
    have hD : va_D A [(m0, .inr (6, [.int (th), .ref (z0), .int (nI (sv)), .ref (sd0), .int (nI (ln)), .ref (tx0), .ref (as0), .int (nI (stp)), .int (nI (po)), .int (tl), .ref (rd0), .long (hh)])), (z0, .inl (ac 0, 162, .inl (z))), (sd0, .inl (ac 0, 972, .inl (sd))), (tx0, .inl (ac 0, 60, .inl (tx))), (as0, .inl (ac 0, 162, .inl (az))), (rd0, .inl (ac 0, 63, .inl (upd (rd) (3 * po + 2) (rd (3 * po + 2)))))] := hD
    refine lv_aload_n hx hb dX6_takesSlice_104 rfl (lv_at hl 2 rfl) ?_
    refine lv_iload_n hx hb dX6_takesSlice_105 rfl (lv_at hl 0 rfl) ?_
    refine lv_iconst (v := 4) hx hb dX6_takesSlice_106 (by decide) ?_
    refine z_ciW [(m0, .inr (6, [.int (th), .ref (z0), .int (nI (sv)), .ref (sd0), .int (nI (ln)), .ref (tx0), .ref (as0), .int (nI (stp)), .int (nI (po)), .int (tl), .ref (rd0), .long (hh)])), (z0, .inl (ac 0, 162, .inl (z))), (sd0, .inl (ac 0, 972, .inl (sd))), (tx0, .inl (ac 0, 60, .inl (tx))), (as0, .inl (ac 0, 162, .inl (az))), (rd0, .inl (ac 0, 63, .inl ((upd (rd) (3 * po + 2) (rd (3 * po + 2))))))] (z_vrunW (rest := []) (own := RX6) (As := [.int (0), .int (4)]) hx hb hml hown hts hl.1 hK hP hD [0, 1, 2, 3, 4, 5] rfl (by decide) rfl (metX6_goes_f l D ac _ m0 z0 sd0 tx0 as0 rd0 th sv ln stp po tl hh z sd tx az (upd (rd) (3 * po + 2) (rd (3 * po + 2))) 4 ) gX6_takesSlice_X6_goes rfl 2 (by decide +kernel) ⟨rfl, rfl, Nat.le_of_ble_eq_true rfl, Nat.le_of_ble_eq_true rfl⟩ 0 6 rfl rfl rfl rfl rfl (Nat.le_of_ble_eq_true rfl) dX6_takesSlice_107 ⟨Nat.zero_le _, Nat.zero_le _⟩) hP hD hS hA [0, 1, 2, 3, 4, 5] [] [0, 1, 2, 3, 4, 5] rfl rfl (by decide) (by decide) (by decide) rfl (fun H locs hP hD hS => ?_)
    have e1 : mSli (stp, po, tl, rd) x = (false, stp, po, tl, upd rd (3 * po + 2) (rd (3 * po + 2))) := if_neg (fun q => c_30 q.1)
    have hP : va_P D vwCl [(m0, .inr (6, [.int (th), .ref (z0), .int (nI (sv)), .ref (sd0), .int (nI (ln)), .ref (tx0), .ref (as0), .int (nI ((mSli (stp, po, tl, rd) x).2.1)), .int (nI ((mSli (stp, po, tl, rd) x).2.2.1)), .int ((mSli (stp, po, tl, rd) x).2.2.2.1), .ref (rd0), .long (hh)])), (z0, .inl (ac 0, 162, .inl (z))), (sd0, .inl (ac 0, 972, .inl (sd))), (tx0, .inl (ac 0, 60, .inl (tx))), (as0, .inl (ac 0, 162, .inl (az))), (rd0, .inl (ac 0, 63, .inl ((mSli (stp, po, tl, rd) x).2.2.2.2)))] H := by rw [e1]; exact hP
    have hD : va_D A [(m0, .inr (6, [.int (th), .ref (z0), .int (nI (sv)), .ref (sd0), .int (nI (ln)), .ref (tx0), .ref (as0), .int (nI ((mSli (stp, po, tl, rd) x).2.1)), .int (nI ((mSli (stp, po, tl, rd) x).2.2.1)), .int ((mSli (stp, po, tl, rd) x).2.2.2.1), .ref (rd0), .long (hh)])), (z0, .inl (ac 0, 162, .inl (z))), (sd0, .inl (ac 0, 972, .inl (sd))), (tx0, .inl (ac 0, 60, .inl (tx))), (as0, .inl (ac 0, 162, .inl (az))), (rd0, .inl (ac 0, 63, .inl ((mSli (stp, po, tl, rd) x).2.2.2.2)))] := by rw [e1]; exact hD
    exact z_zretW hx hb hr hlocks hK hP hD hS hAe (rfl) (by rw [e1]; rfl) dX6_takesSlice_110
  · refine lv_iload_n hx hb dX6_takesSlice_33 rfl (lv_at hl 0 rfl) ?_
    refine lv_bipush (v := 12) hx hb dX6_takesSlice_34 (by decide) ?_
    refine lv_icmp_ge (tgt := 68) hx hb dX6_takesSlice_36 (by decide) (fun c_36 => ?_) (fun c_36 => ?_)
    · refine lv_iconst (v := 0) hx hb dX6_takesSlice_68 (by decide) ?_
      refine lv_istore_n (lv' := [(3, .int (0)), (2, .int (mSx (stp, po, tl, rd) x)), (0, .ref (m0)), (1, .int (x))]) hx hb dX6_takesSlice_69 rfl hl (by decide) rfl (fun ls hl => ?_)
      refine lv_aload_n hx hb dX6_takesSlice_70 rfl (lv_at hl 2 rfl) ?_
      refine va_get (ci := 6) (v := .ref (rd0)) (C := RX6) (T := TX6) (N := 12) hx hb hts (by decide +kernel) hown hK hP 0 rfl rfl 10 (by decide) (hts (.fieldLink RX6 22 "SettlingJarsModel" "read" "[I") (by decide +kernel)) (fun _ h9 => h9) rfl dX6_takesSlice_71 ?_
      refine lv_iconst (v := 3) hx hb dX6_takesSlice_74 (by decide) ?_
      refine lv_aload_n hx hb dX6_takesSlice_75 rfl (lv_at hl 2 rfl) ?_
      refine va_get (ci := 6) (v := .int (nI (po))) (C := RX6) (T := TX6) (N := 12) hx hb hts (by decide +kernel) hown hK hP 0 rfl rfl 8 (by decide) (hts (.fieldLink RX6 123 "SettlingJarsModel" "portions" "I") (by decide +kernel)) (fun _ h9 => h9) rfl dX6_takesSlice_76 ?_
      refine lv_imul hx hb dX6_takesSlice_79 ?_
      refine z_top (y := nI ((3) * (po))) (pk_mul (3) (po)) ?_
      refine lv_iconst (v := 2) hx hb dX6_takesSlice_80 (by decide) ?_
      refine lv_iadd hx hb dX6_takesSlice_81 ?_
      refine z_top (y := nI (((3) * (po)) + (2))) (nI_add ((3) * (po)) (2)) ?_
      refine lv_iload_n hx hb dX6_takesSlice_82 rfl (lv_at hl 0 rfl) ?_
      refine lv_if_eq (tgt := 90) hx hb dX6_takesSlice_83 (by decide) (fun _ => ?_) (fun c_ => absurd (by decide) c_)
      refine lv_aload_n hx hb dX6_takesSlice_90 rfl (lv_at hl 2 rfl) ?_
      refine va_get (ci := 6) (v := .ref (rd0)) (C := RX6) (T := TX6) (N := 12) hx hb hts (by decide +kernel) hown hK hP 0 rfl rfl 10 (by decide) (hts (.fieldLink RX6 22 "SettlingJarsModel" "read" "[I") (by decide +kernel)) (fun _ h9 => h9) rfl dX6_takesSlice_91 ?_
      refine lv_iconst (v := 3) hx hb dX6_takesSlice_94 (by decide) ?_
      refine lv_aload_n hx hb dX6_takesSlice_95 rfl (lv_at hl 2 rfl) ?_
      refine va_get (ci := 6) (v := .int (nI (po))) (C := RX6) (T := TX6) (N := 12) hx hb hts (by decide +kernel) hown hK hP 0 rfl rfl 8 (by decide) (hts (.fieldLink RX6 123 "SettlingJarsModel" "portions" "I") (by decide +kernel)) (fun _ h9 => h9) rfl dX6_takesSlice_96 ?_
      refine lv_imul hx hb dX6_takesSlice_99 ?_
      refine z_top (y := nI ((3) * (po))) (pk_mul (3) (po)) ?_
      refine lv_iconst (v := 2) hx hb dX6_takesSlice_100 (by decide) ?_
      refine lv_iadd hx hb dX6_takesSlice_101 ?_
      refine z_top (y := nI (((3) * (po)) + (2))) (nI_add ((3) * (po)) (2)) ?_
      refine z_iald hx hb hK hP 5 rfl (3 * po + 2) (congrArg nI (by omega)) (by omega) (by decide) dX6_takesSlice_102 ?_
      refine z_iast hx hb hK hP hD hS 5 rfl (3 * po + 2) (congrArg nI (by omega)) (by omega) (by decide) dX6_takesSlice_103 (fun H locs hP hD hS => ?_)
      have hP : va_P D vwCl [(m0, .inr (6, [.int (th), .ref (z0), .int (nI (sv)), .ref (sd0), .int (nI (ln)), .ref (tx0), .ref (as0), .int (nI (stp)), .int (nI (po)), .int (tl), .ref (rd0), .long (hh)])), (z0, .inl (ac 0, 162, .inl (z))), (sd0, .inl (ac 0, 972, .inl (sd))), (tx0, .inl (ac 0, 60, .inl (tx))), (as0, .inl (ac 0, 162, .inl (az))), (rd0, .inl (ac 0, 63, .inl (upd (rd) (3 * po + 2) (rd (3 * po + 2)))))] H := hP
      have hD : va_D A [(m0, .inr (6, [.int (th), .ref (z0), .int (nI (sv)), .ref (sd0), .int (nI (ln)), .ref (tx0), .ref (as0), .int (nI (stp)), .int (nI (po)), .int (tl), .ref (rd0), .long (hh)])), (z0, .inl (ac 0, 162, .inl (z))), (sd0, .inl (ac 0, 972, .inl (sd))), (tx0, .inl (ac 0, 60, .inl (tx))), (as0, .inl (ac 0, 162, .inl (az))), (rd0, .inl (ac 0, 63, .inl (upd (rd) (3 * po + 2) (rd (3 * po + 2)))))] := hD
      refine lv_aload_n hx hb dX6_takesSlice_104 rfl (lv_at hl 2 rfl) ?_
      refine lv_iload_n hx hb dX6_takesSlice_105 rfl (lv_at hl 0 rfl) ?_
      refine lv_iconst (v := 4) hx hb dX6_takesSlice_106 (by decide) ?_
      refine z_ciW [(m0, .inr (6, [.int (th), .ref (z0), .int (nI (sv)), .ref (sd0), .int (nI (ln)), .ref (tx0), .ref (as0), .int (nI (stp)), .int (nI (po)), .int (tl), .ref (rd0), .long (hh)])), (z0, .inl (ac 0, 162, .inl (z))), (sd0, .inl (ac 0, 972, .inl (sd))), (tx0, .inl (ac 0, 60, .inl (tx))), (as0, .inl (ac 0, 162, .inl (az))), (rd0, .inl (ac 0, 63, .inl ((upd (rd) (3 * po + 2) (rd (3 * po + 2))))))] (z_vrunW (rest := []) (own := RX6) (As := [.int (0), .int (4)]) hx hb hml hown hts hl.1 hK hP hD [0, 1, 2, 3, 4, 5] rfl (by decide) rfl (metX6_goes_f l D ac _ m0 z0 sd0 tx0 as0 rd0 th sv ln stp po tl hh z sd tx az (upd (rd) (3 * po + 2) (rd (3 * po + 2))) 4 ) gX6_takesSlice_X6_goes rfl 2 (by decide +kernel) ⟨rfl, rfl, Nat.le_of_ble_eq_true rfl, Nat.le_of_ble_eq_true rfl⟩ 0 6 rfl rfl rfl rfl rfl (Nat.le_of_ble_eq_true rfl) dX6_takesSlice_107 ⟨Nat.zero_le _, Nat.zero_le _⟩) hP hD hS hA [0, 1, 2, 3, 4, 5] [] [0, 1, 2, 3, 4, 5] rfl rfl (by decide) (by decide) (by decide) rfl (fun H locs hP hD hS => ?_)
      have e1 : mSli (stp, po, tl, rd) x = (false, stp, po, tl, upd rd (3 * po + 2) (rd (3 * po + 2))) := if_neg (fun q => absurd c_36 (Int32.not_le.mpr q.2.1))
      have hP : va_P D vwCl [(m0, .inr (6, [.int (th), .ref (z0), .int (nI (sv)), .ref (sd0), .int (nI (ln)), .ref (tx0), .ref (as0), .int (nI ((mSli (stp, po, tl, rd) x).2.1)), .int (nI ((mSli (stp, po, tl, rd) x).2.2.1)), .int ((mSli (stp, po, tl, rd) x).2.2.2.1), .ref (rd0), .long (hh)])), (z0, .inl (ac 0, 162, .inl (z))), (sd0, .inl (ac 0, 972, .inl (sd))), (tx0, .inl (ac 0, 60, .inl (tx))), (as0, .inl (ac 0, 162, .inl (az))), (rd0, .inl (ac 0, 63, .inl ((mSli (stp, po, tl, rd) x).2.2.2.2)))] H := by rw [e1]; exact hP
      have hD : va_D A [(m0, .inr (6, [.int (th), .ref (z0), .int (nI (sv)), .ref (sd0), .int (nI (ln)), .ref (tx0), .ref (as0), .int (nI ((mSli (stp, po, tl, rd) x).2.1)), .int (nI ((mSli (stp, po, tl, rd) x).2.2.1)), .int ((mSli (stp, po, tl, rd) x).2.2.2.1), .ref (rd0), .long (hh)])), (z0, .inl (ac 0, 162, .inl (z))), (sd0, .inl (ac 0, 972, .inl (sd))), (tx0, .inl (ac 0, 60, .inl (tx))), (as0, .inl (ac 0, 162, .inl (az))), (rd0, .inl (ac 0, 63, .inl ((mSli (stp, po, tl, rd) x).2.2.2.2)))] := by rw [e1]; exact hD
      exact z_zretW hx hb hr hlocks hK hP hD hS hAe (rfl) (by rw [e1]; rfl) dX6_takesSlice_110
    · refine lv_aload_n hx hb dX6_takesSlice_39 rfl (lv_at hl 1 rfl) ?_
      refine va_get (ci := 6) (v := .int (nI (stp))) (C := RX6) (T := TX6) (N := 12) hx hb hts (by decide +kernel) hown hK hP 0 rfl rfl 7 (by decide) (hts (.fieldLink RX6 117 "SettlingJarsModel" "step" "I") (by decide +kernel)) (fun _ h9 => h9) rfl dX6_takesSlice_40 ?_
      refine lv_iconst (v := 3) hx hb dX6_takesSlice_43 (by decide) ?_
      refine z_icmp_eq (tgt := 64) hx hb (stp) (3) dX6_takesSlice_44 (by decide) (by omega) (by omega) rfl rfl (fun c_44 => ?_) (fun c_44 => ?_)
      · refine lv_iconst (v := 1) hx hb dX6_takesSlice_64 (by decide) ?_
        refine lv_goto (tgt := 69) hx hb dX6_takesSlice_65 (by decide) ?_
        refine lv_istore_n (lv' := [(3, .int (1)), (2, .int (mSx (stp, po, tl, rd) x)), (0, .ref (m0)), (1, .int (x))]) hx hb dX6_takesSlice_69 rfl hl (by decide) rfl (fun ls hl => ?_)
        refine lv_aload_n hx hb dX6_takesSlice_70 rfl (lv_at hl 2 rfl) ?_
        refine va_get (ci := 6) (v := .ref (rd0)) (C := RX6) (T := TX6) (N := 12) hx hb hts (by decide +kernel) hown hK hP 0 rfl rfl 10 (by decide) (hts (.fieldLink RX6 22 "SettlingJarsModel" "read" "[I") (by decide +kernel)) (fun _ h9 => h9) rfl dX6_takesSlice_71 ?_
        refine lv_iconst (v := 3) hx hb dX6_takesSlice_74 (by decide) ?_
        refine lv_aload_n hx hb dX6_takesSlice_75 rfl (lv_at hl 2 rfl) ?_
        refine va_get (ci := 6) (v := .int (nI (po))) (C := RX6) (T := TX6) (N := 12) hx hb hts (by decide +kernel) hown hK hP 0 rfl rfl 8 (by decide) (hts (.fieldLink RX6 123 "SettlingJarsModel" "portions" "I") (by decide +kernel)) (fun _ h9 => h9) rfl dX6_takesSlice_76 ?_
        refine lv_imul hx hb dX6_takesSlice_79 ?_
        refine z_top (y := nI ((3) * (po))) (pk_mul (3) (po)) ?_
        refine lv_iconst (v := 2) hx hb dX6_takesSlice_80 (by decide) ?_
        refine lv_iadd hx hb dX6_takesSlice_81 ?_
        refine z_top (y := nI (((3) * (po)) + (2))) (nI_add ((3) * (po)) (2)) ?_
        refine lv_iload_n hx hb dX6_takesSlice_82 rfl (lv_at hl 0 rfl) ?_
        refine lv_if_eq (tgt := 90) hx hb dX6_takesSlice_83 (by decide) (fun c_ => absurd c_ (by decide)) (fun _ => ?_)
        refine lv_iload_n hx hb dX6_takesSlice_86 rfl (lv_at hl 1 rfl) ?_
        refine lv_goto (tgt := 103) hx hb dX6_takesSlice_87 (by decide) ?_
        refine z_iast hx hb hK hP hD hS 5 rfl (3 * po + 2) (congrArg nI (by omega)) (by omega) (by decide) dX6_takesSlice_103 (fun H locs hP hD hS => ?_)
        have hP : va_P D vwCl [(m0, .inr (6, [.int (th), .ref (z0), .int (nI (sv)), .ref (sd0), .int (nI (ln)), .ref (tx0), .ref (as0), .int (nI (stp)), .int (nI (po)), .int (tl), .ref (rd0), .long (hh)])), (z0, .inl (ac 0, 162, .inl (z))), (sd0, .inl (ac 0, 972, .inl (sd))), (tx0, .inl (ac 0, 60, .inl (tx))), (as0, .inl (ac 0, 162, .inl (az))), (rd0, .inl (ac 0, 63, .inl (upd (rd) (3 * po + 2) (mSx (stp, po, tl, rd) x))))] H := hP
        have hD : va_D A [(m0, .inr (6, [.int (th), .ref (z0), .int (nI (sv)), .ref (sd0), .int (nI (ln)), .ref (tx0), .ref (as0), .int (nI (stp)), .int (nI (po)), .int (tl), .ref (rd0), .long (hh)])), (z0, .inl (ac 0, 162, .inl (z))), (sd0, .inl (ac 0, 972, .inl (sd))), (tx0, .inl (ac 0, 60, .inl (tx))), (as0, .inl (ac 0, 162, .inl (az))), (rd0, .inl (ac 0, 63, .inl (upd (rd) (3 * po + 2) (mSx (stp, po, tl, rd) x))))] := hD
        refine lv_aload_n hx hb dX6_takesSlice_104 rfl (lv_at hl 2 rfl) ?_
        refine lv_iload_n hx hb dX6_takesSlice_105 rfl (lv_at hl 0 rfl) ?_
        refine lv_iconst (v := 4) hx hb dX6_takesSlice_106 (by decide) ?_
        refine z_ciW [(m0, .inr (6, [.int (th), .ref (z0), .int (nI (sv)), .ref (sd0), .int (nI (ln)), .ref (tx0), .ref (as0), .int (nI (4)), .int (nI (po)), .int (tl), .ref (rd0), .long (hh)])), (z0, .inl (ac 0, 162, .inl (z))), (sd0, .inl (ac 0, 972, .inl (sd))), (tx0, .inl (ac 0, 60, .inl (tx))), (as0, .inl (ac 0, 162, .inl (az))), (rd0, .inl (ac 0, 63, .inl ((upd (rd) (3 * po + 2) (mSx (stp, po, tl, rd) x)))))] (z_vrunW (rest := []) (own := RX6) (As := [.int (1), .int (4)]) hx hb hml hown hts hl.1 hK hP hD [0, 1, 2, 3, 4, 5] rfl (by decide) rfl (metX6_goes_t l D ac _ m0 z0 sd0 tx0 as0 rd0 th sv ln stp po tl hh z sd tx az (upd (rd) (3 * po + 2) (mSx (stp, po, tl, rd) x)) 4 ) gX6_takesSlice_X6_goes rfl 2 (by decide +kernel) ⟨rfl, rfl, Nat.le_of_ble_eq_true rfl, Nat.le_of_ble_eq_true rfl⟩ 0 6 rfl rfl rfl rfl rfl (Nat.le_of_ble_eq_true rfl) dX6_takesSlice_107 ⟨Nat.zero_le _, Nat.zero_le _⟩) hP hD hS hA [0, 1, 2, 3, 4, 5] [] [0, 1, 2, 3, 4, 5] rfl rfl (by decide) (by decide) (by decide) rfl (fun H locs hP hD hS => ?_)
        have e1 : mSli (stp, po, tl, rd) x = (true, 4, po, tl, upd rd (3 * po + 2) (mSx (stp, po, tl, rd) x)) := if_pos ⟨c_30, Int32.not_le.mp c_36, Or.inl c_44⟩
        have hP : va_P D vwCl [(m0, .inr (6, [.int (th), .ref (z0), .int (nI (sv)), .ref (sd0), .int (nI (ln)), .ref (tx0), .ref (as0), .int (nI ((mSli (stp, po, tl, rd) x).2.1)), .int (nI ((mSli (stp, po, tl, rd) x).2.2.1)), .int ((mSli (stp, po, tl, rd) x).2.2.2.1), .ref (rd0), .long (hh)])), (z0, .inl (ac 0, 162, .inl (z))), (sd0, .inl (ac 0, 972, .inl (sd))), (tx0, .inl (ac 0, 60, .inl (tx))), (as0, .inl (ac 0, 162, .inl (az))), (rd0, .inl (ac 0, 63, .inl ((mSli (stp, po, tl, rd) x).2.2.2.2)))] H := by rw [e1]; exact hP
        have hD : va_D A [(m0, .inr (6, [.int (th), .ref (z0), .int (nI (sv)), .ref (sd0), .int (nI (ln)), .ref (tx0), .ref (as0), .int (nI ((mSli (stp, po, tl, rd) x).2.1)), .int (nI ((mSli (stp, po, tl, rd) x).2.2.1)), .int ((mSli (stp, po, tl, rd) x).2.2.2.1), .ref (rd0), .long (hh)])), (z0, .inl (ac 0, 162, .inl (z))), (sd0, .inl (ac 0, 972, .inl (sd))), (tx0, .inl (ac 0, 60, .inl (tx))), (as0, .inl (ac 0, 162, .inl (az))), (rd0, .inl (ac 0, 63, .inl ((mSli (stp, po, tl, rd) x).2.2.2.2)))] := by rw [e1]; exact hD
        exact z_zretW hx hb hr hlocks hK hP hD hS hAe (rfl) (by rw [e1]; rfl) dX6_takesSlice_110
      · refine lv_aload_n hx hb dX6_takesSlice_47 rfl (lv_at hl 1 rfl) ?_
        refine va_get (ci := 6) (v := .ref (rd0)) (C := RX6) (T := TX6) (N := 12) hx hb hts (by decide +kernel) hown hK hP 0 rfl rfl 10 (by decide) (hts (.fieldLink RX6 22 "SettlingJarsModel" "read" "[I") (by decide +kernel)) (fun _ h9 => h9) rfl dX6_takesSlice_48 ?_
        refine lv_iconst (v := 3) hx hb dX6_takesSlice_51 (by decide) ?_
        refine lv_aload_n hx hb dX6_takesSlice_52 rfl (lv_at hl 1 rfl) ?_
        refine va_get (ci := 6) (v := .int (nI (po))) (C := RX6) (T := TX6) (N := 12) hx hb hts (by decide +kernel) hown hK hP 0 rfl rfl 8 (by decide) (hts (.fieldLink RX6 123 "SettlingJarsModel" "portions" "I") (by decide +kernel)) (fun _ h9 => h9) rfl dX6_takesSlice_53 ?_
        refine lv_imul hx hb dX6_takesSlice_56 ?_
        refine z_top (y := nI ((3) * (po))) (pk_mul (3) (po)) ?_
        refine lv_iconst (v := 2) hx hb dX6_takesSlice_57 (by decide) ?_
        refine lv_iadd hx hb dX6_takesSlice_58 ?_
        refine z_top (y := nI (((3) * (po)) + (2))) (nI_add ((3) * (po)) (2)) ?_
        refine z_iald hx hb hK hP 5 rfl (3 * po + 2) (congrArg nI (by omega)) (by omega) (by decide) dX6_takesSlice_59 ?_
        refine lv_iconst (v := 1) hx hb dX6_takesSlice_60 (by decide) ?_
        refine lv_icmp_ne (tgt := 68) hx hb dX6_takesSlice_61 (by decide) (fun c_61 => ?_) (fun c_61 => ?_)
        · refine lv_iconst (v := 0) hx hb dX6_takesSlice_68 (by decide) ?_
          refine lv_istore_n (lv' := [(3, .int (0)), (2, .int (mSx (stp, po, tl, rd) x)), (0, .ref (m0)), (1, .int (x))]) hx hb dX6_takesSlice_69 rfl hl (by decide) rfl (fun ls hl => ?_)
          refine lv_aload_n hx hb dX6_takesSlice_70 rfl (lv_at hl 2 rfl) ?_
          refine va_get (ci := 6) (v := .ref (rd0)) (C := RX6) (T := TX6) (N := 12) hx hb hts (by decide +kernel) hown hK hP 0 rfl rfl 10 (by decide) (hts (.fieldLink RX6 22 "SettlingJarsModel" "read" "[I") (by decide +kernel)) (fun _ h9 => h9) rfl dX6_takesSlice_71 ?_
          refine lv_iconst (v := 3) hx hb dX6_takesSlice_74 (by decide) ?_
          refine lv_aload_n hx hb dX6_takesSlice_75 rfl (lv_at hl 2 rfl) ?_
          refine va_get (ci := 6) (v := .int (nI (po))) (C := RX6) (T := TX6) (N := 12) hx hb hts (by decide +kernel) hown hK hP 0 rfl rfl 8 (by decide) (hts (.fieldLink RX6 123 "SettlingJarsModel" "portions" "I") (by decide +kernel)) (fun _ h9 => h9) rfl dX6_takesSlice_76 ?_
          refine lv_imul hx hb dX6_takesSlice_79 ?_
          refine z_top (y := nI ((3) * (po))) (pk_mul (3) (po)) ?_
          refine lv_iconst (v := 2) hx hb dX6_takesSlice_80 (by decide) ?_
          refine lv_iadd hx hb dX6_takesSlice_81 ?_
          refine z_top (y := nI (((3) * (po)) + (2))) (nI_add ((3) * (po)) (2)) ?_
          refine lv_iload_n hx hb dX6_takesSlice_82 rfl (lv_at hl 0 rfl) ?_
          refine lv_if_eq (tgt := 90) hx hb dX6_takesSlice_83 (by decide) (fun _ => ?_) (fun c_ => absurd (by decide) c_)
          refine lv_aload_n hx hb dX6_takesSlice_90 rfl (lv_at hl 2 rfl) ?_
          refine va_get (ci := 6) (v := .ref (rd0)) (C := RX6) (T := TX6) (N := 12) hx hb hts (by decide +kernel) hown hK hP 0 rfl rfl 10 (by decide) (hts (.fieldLink RX6 22 "SettlingJarsModel" "read" "[I") (by decide +kernel)) (fun _ h9 => h9) rfl dX6_takesSlice_91 ?_
          refine lv_iconst (v := 3) hx hb dX6_takesSlice_94 (by decide) ?_
          refine lv_aload_n hx hb dX6_takesSlice_95 rfl (lv_at hl 2 rfl) ?_
          refine va_get (ci := 6) (v := .int (nI (po))) (C := RX6) (T := TX6) (N := 12) hx hb hts (by decide +kernel) hown hK hP 0 rfl rfl 8 (by decide) (hts (.fieldLink RX6 123 "SettlingJarsModel" "portions" "I") (by decide +kernel)) (fun _ h9 => h9) rfl dX6_takesSlice_96 ?_
          refine lv_imul hx hb dX6_takesSlice_99 ?_
          refine z_top (y := nI ((3) * (po))) (pk_mul (3) (po)) ?_
          refine lv_iconst (v := 2) hx hb dX6_takesSlice_100 (by decide) ?_
          refine lv_iadd hx hb dX6_takesSlice_101 ?_
          refine z_top (y := nI (((3) * (po)) + (2))) (nI_add ((3) * (po)) (2)) ?_
          refine z_iald hx hb hK hP 5 rfl (3 * po + 2) (congrArg nI (by omega)) (by omega) (by decide) dX6_takesSlice_102 ?_
          refine z_iast hx hb hK hP hD hS 5 rfl (3 * po + 2) (congrArg nI (by omega)) (by omega) (by decide) dX6_takesSlice_103 (fun H locs hP hD hS => ?_)
          have hP : va_P D vwCl [(m0, .inr (6, [.int (th), .ref (z0), .int (nI (sv)), .ref (sd0), .int (nI (ln)), .ref (tx0), .ref (as0), .int (nI (stp)), .int (nI (po)), .int (tl), .ref (rd0), .long (hh)])), (z0, .inl (ac 0, 162, .inl (z))), (sd0, .inl (ac 0, 972, .inl (sd))), (tx0, .inl (ac 0, 60, .inl (tx))), (as0, .inl (ac 0, 162, .inl (az))), (rd0, .inl (ac 0, 63, .inl (upd (rd) (3 * po + 2) (rd (3 * po + 2)))))] H := hP
          have hD : va_D A [(m0, .inr (6, [.int (th), .ref (z0), .int (nI (sv)), .ref (sd0), .int (nI (ln)), .ref (tx0), .ref (as0), .int (nI (stp)), .int (nI (po)), .int (tl), .ref (rd0), .long (hh)])), (z0, .inl (ac 0, 162, .inl (z))), (sd0, .inl (ac 0, 972, .inl (sd))), (tx0, .inl (ac 0, 60, .inl (tx))), (as0, .inl (ac 0, 162, .inl (az))), (rd0, .inl (ac 0, 63, .inl (upd (rd) (3 * po + 2) (rd (3 * po + 2)))))] := hD
          refine lv_aload_n hx hb dX6_takesSlice_104 rfl (lv_at hl 2 rfl) ?_
          refine lv_iload_n hx hb dX6_takesSlice_105 rfl (lv_at hl 0 rfl) ?_
          refine lv_iconst (v := 4) hx hb dX6_takesSlice_106 (by decide) ?_
          refine z_ciW [(m0, .inr (6, [.int (th), .ref (z0), .int (nI (sv)), .ref (sd0), .int (nI (ln)), .ref (tx0), .ref (as0), .int (nI (stp)), .int (nI (po)), .int (tl), .ref (rd0), .long (hh)])), (z0, .inl (ac 0, 162, .inl (z))), (sd0, .inl (ac 0, 972, .inl (sd))), (tx0, .inl (ac 0, 60, .inl (tx))), (as0, .inl (ac 0, 162, .inl (az))), (rd0, .inl (ac 0, 63, .inl ((upd (rd) (3 * po + 2) (rd (3 * po + 2))))))] (z_vrunW (rest := []) (own := RX6) (As := [.int (0), .int (4)]) hx hb hml hown hts hl.1 hK hP hD [0, 1, 2, 3, 4, 5] rfl (by decide) rfl (metX6_goes_f l D ac _ m0 z0 sd0 tx0 as0 rd0 th sv ln stp po tl hh z sd tx az (upd (rd) (3 * po + 2) (rd (3 * po + 2))) 4 ) gX6_takesSlice_X6_goes rfl 2 (by decide +kernel) ⟨rfl, rfl, Nat.le_of_ble_eq_true rfl, Nat.le_of_ble_eq_true rfl⟩ 0 6 rfl rfl rfl rfl rfl (Nat.le_of_ble_eq_true rfl) dX6_takesSlice_107 ⟨Nat.zero_le _, Nat.zero_le _⟩) hP hD hS hA [0, 1, 2, 3, 4, 5] [] [0, 1, 2, 3, 4, 5] rfl rfl (by decide) (by decide) (by decide) rfl (fun H locs hP hD hS => ?_)
          have e1 : mSli (stp, po, tl, rd) x = (false, stp, po, tl, upd rd (3 * po + 2) (rd (3 * po + 2))) := if_neg (fun q => q.2.2.elim c_44 c_61)
          have hP : va_P D vwCl [(m0, .inr (6, [.int (th), .ref (z0), .int (nI (sv)), .ref (sd0), .int (nI (ln)), .ref (tx0), .ref (as0), .int (nI ((mSli (stp, po, tl, rd) x).2.1)), .int (nI ((mSli (stp, po, tl, rd) x).2.2.1)), .int ((mSli (stp, po, tl, rd) x).2.2.2.1), .ref (rd0), .long (hh)])), (z0, .inl (ac 0, 162, .inl (z))), (sd0, .inl (ac 0, 972, .inl (sd))), (tx0, .inl (ac 0, 60, .inl (tx))), (as0, .inl (ac 0, 162, .inl (az))), (rd0, .inl (ac 0, 63, .inl ((mSli (stp, po, tl, rd) x).2.2.2.2)))] H := by rw [e1]; exact hP
          have hD : va_D A [(m0, .inr (6, [.int (th), .ref (z0), .int (nI (sv)), .ref (sd0), .int (nI (ln)), .ref (tx0), .ref (as0), .int (nI ((mSli (stp, po, tl, rd) x).2.1)), .int (nI ((mSli (stp, po, tl, rd) x).2.2.1)), .int ((mSli (stp, po, tl, rd) x).2.2.2.1), .ref (rd0), .long (hh)])), (z0, .inl (ac 0, 162, .inl (z))), (sd0, .inl (ac 0, 972, .inl (sd))), (tx0, .inl (ac 0, 60, .inl (tx))), (as0, .inl (ac 0, 162, .inl (az))), (rd0, .inl (ac 0, 63, .inl ((mSli (stp, po, tl, rd) x).2.2.2.2)))] := by rw [e1]; exact hD
          exact z_zretW hx hb hr hlocks hK hP hD hS hAe (rfl) (by rw [e1]; rfl) dX6_takesSlice_110
        · refine lv_iconst (v := 1) hx hb dX6_takesSlice_64 (by decide) ?_
          refine lv_goto (tgt := 69) hx hb dX6_takesSlice_65 (by decide) ?_
          refine lv_istore_n (lv' := [(3, .int (1)), (2, .int (mSx (stp, po, tl, rd) x)), (0, .ref (m0)), (1, .int (x))]) hx hb dX6_takesSlice_69 rfl hl (by decide) rfl (fun ls hl => ?_)
          refine lv_aload_n hx hb dX6_takesSlice_70 rfl (lv_at hl 2 rfl) ?_
          refine va_get (ci := 6) (v := .ref (rd0)) (C := RX6) (T := TX6) (N := 12) hx hb hts (by decide +kernel) hown hK hP 0 rfl rfl 10 (by decide) (hts (.fieldLink RX6 22 "SettlingJarsModel" "read" "[I") (by decide +kernel)) (fun _ h9 => h9) rfl dX6_takesSlice_71 ?_
          refine lv_iconst (v := 3) hx hb dX6_takesSlice_74 (by decide) ?_
          refine lv_aload_n hx hb dX6_takesSlice_75 rfl (lv_at hl 2 rfl) ?_
          refine va_get (ci := 6) (v := .int (nI (po))) (C := RX6) (T := TX6) (N := 12) hx hb hts (by decide +kernel) hown hK hP 0 rfl rfl 8 (by decide) (hts (.fieldLink RX6 123 "SettlingJarsModel" "portions" "I") (by decide +kernel)) (fun _ h9 => h9) rfl dX6_takesSlice_76 ?_
          refine lv_imul hx hb dX6_takesSlice_79 ?_
          refine z_top (y := nI ((3) * (po))) (pk_mul (3) (po)) ?_
          refine lv_iconst (v := 2) hx hb dX6_takesSlice_80 (by decide) ?_
          refine lv_iadd hx hb dX6_takesSlice_81 ?_
          refine z_top (y := nI (((3) * (po)) + (2))) (nI_add ((3) * (po)) (2)) ?_
          refine lv_iload_n hx hb dX6_takesSlice_82 rfl (lv_at hl 0 rfl) ?_
          refine lv_if_eq (tgt := 90) hx hb dX6_takesSlice_83 (by decide) (fun c_ => absurd c_ (by decide)) (fun _ => ?_)
          refine lv_iload_n hx hb dX6_takesSlice_86 rfl (lv_at hl 1 rfl) ?_
          refine lv_goto (tgt := 103) hx hb dX6_takesSlice_87 (by decide) ?_
          refine z_iast hx hb hK hP hD hS 5 rfl (3 * po + 2) (congrArg nI (by omega)) (by omega) (by decide) dX6_takesSlice_103 (fun H locs hP hD hS => ?_)
          have hP : va_P D vwCl [(m0, .inr (6, [.int (th), .ref (z0), .int (nI (sv)), .ref (sd0), .int (nI (ln)), .ref (tx0), .ref (as0), .int (nI (stp)), .int (nI (po)), .int (tl), .ref (rd0), .long (hh)])), (z0, .inl (ac 0, 162, .inl (z))), (sd0, .inl (ac 0, 972, .inl (sd))), (tx0, .inl (ac 0, 60, .inl (tx))), (as0, .inl (ac 0, 162, .inl (az))), (rd0, .inl (ac 0, 63, .inl (upd (rd) (3 * po + 2) (mSx (stp, po, tl, rd) x))))] H := hP
          have hD : va_D A [(m0, .inr (6, [.int (th), .ref (z0), .int (nI (sv)), .ref (sd0), .int (nI (ln)), .ref (tx0), .ref (as0), .int (nI (stp)), .int (nI (po)), .int (tl), .ref (rd0), .long (hh)])), (z0, .inl (ac 0, 162, .inl (z))), (sd0, .inl (ac 0, 972, .inl (sd))), (tx0, .inl (ac 0, 60, .inl (tx))), (as0, .inl (ac 0, 162, .inl (az))), (rd0, .inl (ac 0, 63, .inl (upd (rd) (3 * po + 2) (mSx (stp, po, tl, rd) x))))] := hD
          refine lv_aload_n hx hb dX6_takesSlice_104 rfl (lv_at hl 2 rfl) ?_
          refine lv_iload_n hx hb dX6_takesSlice_105 rfl (lv_at hl 0 rfl) ?_
          refine lv_iconst (v := 4) hx hb dX6_takesSlice_106 (by decide) ?_
          refine z_ciW [(m0, .inr (6, [.int (th), .ref (z0), .int (nI (sv)), .ref (sd0), .int (nI (ln)), .ref (tx0), .ref (as0), .int (nI (4)), .int (nI (po)), .int (tl), .ref (rd0), .long (hh)])), (z0, .inl (ac 0, 162, .inl (z))), (sd0, .inl (ac 0, 972, .inl (sd))), (tx0, .inl (ac 0, 60, .inl (tx))), (as0, .inl (ac 0, 162, .inl (az))), (rd0, .inl (ac 0, 63, .inl ((upd (rd) (3 * po + 2) (mSx (stp, po, tl, rd) x)))))] (z_vrunW (rest := []) (own := RX6) (As := [.int (1), .int (4)]) hx hb hml hown hts hl.1 hK hP hD [0, 1, 2, 3, 4, 5] rfl (by decide) rfl (metX6_goes_t l D ac _ m0 z0 sd0 tx0 as0 rd0 th sv ln stp po tl hh z sd tx az (upd (rd) (3 * po + 2) (mSx (stp, po, tl, rd) x)) 4 ) gX6_takesSlice_X6_goes rfl 2 (by decide +kernel) ⟨rfl, rfl, Nat.le_of_ble_eq_true rfl, Nat.le_of_ble_eq_true rfl⟩ 0 6 rfl rfl rfl rfl rfl (Nat.le_of_ble_eq_true rfl) dX6_takesSlice_107 ⟨Nat.zero_le _, Nat.zero_le _⟩) hP hD hS hA [0, 1, 2, 3, 4, 5] [] [0, 1, 2, 3, 4, 5] rfl rfl (by decide) (by decide) (by decide) rfl (fun H locs hP hD hS => ?_)
          have e1 : mSli (stp, po, tl, rd) x = (true, 4, po, tl, upd rd (3 * po + 2) (mSx (stp, po, tl, rd) x)) := if_pos ⟨c_30, Int32.not_le.mp c_36, Or.inr c_61⟩
          have hP : va_P D vwCl [(m0, .inr (6, [.int (th), .ref (z0), .int (nI (sv)), .ref (sd0), .int (nI (ln)), .ref (tx0), .ref (as0), .int (nI ((mSli (stp, po, tl, rd) x).2.1)), .int (nI ((mSli (stp, po, tl, rd) x).2.2.1)), .int ((mSli (stp, po, tl, rd) x).2.2.2.1), .ref (rd0), .long (hh)])), (z0, .inl (ac 0, 162, .inl (z))), (sd0, .inl (ac 0, 972, .inl (sd))), (tx0, .inl (ac 0, 60, .inl (tx))), (as0, .inl (ac 0, 162, .inl (az))), (rd0, .inl (ac 0, 63, .inl ((mSli (stp, po, tl, rd) x).2.2.2.2)))] H := by rw [e1]; exact hP
          have hD : va_D A [(m0, .inr (6, [.int (th), .ref (z0), .int (nI (sv)), .ref (sd0), .int (nI (ln)), .ref (tx0), .ref (as0), .int (nI ((mSli (stp, po, tl, rd) x).2.1)), .int (nI ((mSli (stp, po, tl, rd) x).2.2.1)), .int ((mSli (stp, po, tl, rd) x).2.2.2.1), .ref (rd0), .long (hh)])), (z0, .inl (ac 0, 162, .inl (z))), (sd0, .inl (ac 0, 972, .inl (sd))), (tx0, .inl (ac 0, 60, .inl (tx))), (as0, .inl (ac 0, 162, .inl (az))), (rd0, .inl (ac 0, 63, .inl ((mSli (stp, po, tl, rd) x).2.2.2.2)))] := by rw [e1]; exact hD
          exact z_zretW hx hb hr hlocks hK hP hD hS hAe (rfl) (by rw [e1]; rfl) dX6_takesSlice_110

