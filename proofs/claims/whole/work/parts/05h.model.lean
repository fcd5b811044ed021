set_option maxRecDepth 100000 in
set_option maxHeartbeats 4000000 in
theorem metX6_draw_2 (l : Launch) (D : va_G) (ac : Nat → ClassId) (sz : Nat) (m0 : Nat) (z0 : Nat) (sd0 : Nat) (tx0 : Nat) (as0 : Nat) (rd0 : Nat) (th : Int32) (sv : Nat) (ln : Nat) (stp : Nat) (po : Nat) (tl : Int32) (hh : Int64) (z : Nat → Int32) (sd : Nat → Int32) (tx : Nat → Int32) (az : Nat → Int32) (rd : Nat → Int32) (j1 : Nat) (s1 : Nat) (x3 : Int32) (hj : j1 < 3) (hs : s1 < 12) (h2 : ¬ (1 ≤ x3 ∧ x3 ≤ 100)) : Met l yX6_draw wsX6_draw ({ frames := 2, cells := 0, slots := 0, locals := 42 } : Room) (va_Pc [.ref (m0), .int (nI (j1)), .int (nI (s1)), .int (x3)] (zS D ac [(m0, .inr (6, [.int (th), .ref (z0), .int (nI (sv)), .ref (sd0), .int (nI (ln)), .ref (tx0), .ref (as0), .int (nI (stp)), .int (nI (po)), .int (tl), .ref (rd0), .long (hh)])), (z0, .inl (ac 0, 162, .inl (z))), (sd0, .inl (ac 0, 972, .inl (sd))), (tx0, .inl (ac 0, 60, .inl (tx))), (as0, .inl (ac 0, 162, .inl (az))), (rd0, .inl (ac 0, 63, .inl (rd)))] sz)) (zQi D ac [(m0, .inr (6, [.int (th), .ref (z0), .int (nI (sv)), .ref (sd0), .int (nI (ln)), .ref (tx0), .ref (as0), .int (nI (stp)), .int (nI (po)), .int (tl), .ref (rd0), .long (hh)])), (z0, .inl (ac 0, 162, .inl (z))), (sd0, .inl (ac 0, 972, .inl (sd))), (tx0, .inl (ac 0, 60, .inl (tx))), (as0, .inl (ac 0, 162, .inl (az))), (rd0, .inl (ac 0, 63, .inl (rd)))] [(m0, .inr (6, [.int (2), .ref (z0), .int (nI (sv)), .ref (sd0), .int (nI (ln)), .ref (tx0), .ref (as0), .int (nI (stp)), .int (nI (po)), .int (tl), .ref (rd0), .long (hh)])), (z0, .inl (ac 0, 162, .inl (z))), (sd0, .inl (ac 0, 972, .inl (sd))), (tx0, .inl (ac 0, 60, .inl (tx))), (as0, .inl (ac 0, 162, .inl (az))), (rd0, .inl (ac 0, 63, .inl (rd)))] sz (0)) 0 0 (va_A [(m0, .inr (6, [.int (th), .ref (z0), .int (nI (sv)), .ref (sd0), .int (nI (ln)), .ref (tx0), .ref (as0), .int (nI (stp)), .int (nI (po)), .int (tl), .ref (rd0), .long (hh)])), (z0, .inl (ac 0, 162, .inl (z))), (sd0, .inl (ac 0, 972, .inl (sd))), (tx0, .inl (ac 0, 60, .inl (tx))), (as0, .inl (ac 0, 162, .inl (az))), (rd0, .inl (ac 0, 63, .inl (rd)))] sz) := by
  refine z_rw (cc := cX6_draw) (maxL := 8) (ret := (some .int)) (lv := [(0, .ref (m0)), (1, .int (nI (j1))), (2, .int (nI (s1))), (3, .int (x3))]) (by decide) rfl (Nat.le_of_ble_eq_true rfl) rfl ?_
  intro p e s m args below meth c ls A hx hb hr hml hown hts hlocks hl hK hP hsz hAe hA hD hS
  refine lv_iload_n hx hb dX6_draw_0 rfl (lv_at hl 1 rfl) ?_
  refine z_ci (z_srun (rest := []) (own := RX6) (As := [.int (nI (j1))]) hx hb hml hown hts hl.1 hK hP [] rfl (metX6_isJar l D ac (nI (j1)) ) gX6_draw_X6_isJar rfl 1 (by decide +kernel) ⟨rfl, rfl, Nat.le_of_ble_eq_true rfl, Nat.le_of_ble_eq_true rfl⟩ rfl rfl (Nat.le_of_ble_eq_true rfl) dX6_draw_1 ⟨Nat.zero_le _, Nat.zero_le _⟩) ?_
  refine z_if_eq (C := 0 ≤ (nI (j1)) ∧ (nI (j1)) ≤ 2) (tgt := 18) hx hb dX6_draw_4 (by decide) (fun c_4 => absurd c_4 (fun q => q (z_in (n := 2) (by omega)))) (fun c_4 => ?_)
  refine lv_iload_n hx hb dX6_draw_7 rfl (lv_at hl 2 rfl) ?_
  refine z_ci (z_srun (rest := []) (own := RX6) (As := [.int (nI (s1))]) hx hb hml hown hts hl.1 hK hP [] rfl (metX6_isSlice l D ac (nI (s1)) ) gX6_draw_X6_isSlice rfl 1 (by decide +kernel) ⟨rfl, rfl, Nat.le_of_ble_eq_true rfl, Nat.le_of_ble_eq_true rfl⟩ rfl rfl (Nat.le_of_ble_eq_true rfl) dX6_draw_8 ⟨Nat.zero_le _, Nat.zero_le _⟩) ?_
  refine z_if_eq (C := 0 ≤ (nI (s1)) ∧ (nI (s1)) ≤ 11) (tgt := 18) hx hb dX6_draw_11 (by decide) (fun c_11 => absurd c_11 (fun q => q (z_in (n := 11) (by omega)))) (fun c_11 => ?_)
  refine lv_iconst (v := 1) hx hb dX6_draw_14 (by decide) ?_
  refine lv_goto (tgt := 19) hx hb dX6_draw_15 (by decide) ?_
  refine lv_istore (lv' := [(4, .int (1)), (0, .ref (m0)), (1, .int (nI (j1))), (2, .int (nI (s1))), (3, .int (x3))]) hx hb dX6_draw_19 hl (by decide) rfl (fun ls hl => ?_)
  refine lv_aload_n hx hb dX6_draw_21 rfl (lv_at hl 1 rfl) ?_
  refine lv_iload hx hb dX6_draw_22 (lv_at hl 0 rfl) ?_
  refine lv_if_ne (tgt := 31) hx hb dX6_draw_24 (by decide) (fun _ => ?_) (fun c_ => absurd c_ (by decide))
  refine lv_iload_n hx hb dX6_draw_31 rfl (lv_at hl 4 rfl) ?_
  refine lv_iconst (v := 1) hx hb dX6_draw_32 (by decide) ?_
  refine lv_bipush (v := 100) hx hb dX6_draw_33 (by decide) ?_
  refine z_ci (z_srun (rest := [.ref (m0)]) (own := RX6) (As := [.int (x3), .int (1), .int (100)]) hx hb hml hown hts hl.1 hK hP [] rfl (metX6_within l D ac x3 1 100 ) gX6_draw_X6_within rfl 3 (by decide +kernel) ⟨rfl, rfl, Nat.le_of_ble_eq_true rfl, Nat.le_of_ble_eq_true rfl⟩ rfl rfl (Nat.le_of_ble_eq_true rfl) dX6_draw_35 ⟨Nat.zero_le _, Nat.zero_le _⟩) ?_
  refine z_if_eq (C := 1 ≤ x3 ∧ x3 ≤ 100) (tgt := 45) hx hb dX6_draw_38 (by decide) (fun c_38 => ?_) (fun c_38 => absurd c_38 (h2))
  refine lv_iconst (v := 2) hx hb dX6_draw_45 (by decide) ?_
  refine va_put (ci := 6) (v := .int (2)) (ty := .int) (C := RX6) (T := TX6) (N := 12) hx hb hts (by decide +kernel) tyX6 tyX6_ok nmX6 hown hK hP hD hS 0 rfl rfl 0 (by decide) (hts (.fieldLink RX6 25 "SettlingJarsModel" "thrown" "I") (by decide +kernel)) (fun _ h9 => h9) rfl (by decide +kernel) rfl rfl (Nat.le_of_ble_eq_true rfl) dX6_draw_46 (fun H locs hP hD hS => ?_)
  have hP : va_P D vwCl [(m0, .inr (6, [.int (2), .ref (z0), .int (nI (sv)), .ref (sd0), .int (nI (ln)), .ref (tx0), .ref (as0), .int (nI (stp)), .int (nI (po)), .int (tl), .ref (rd0), .long (hh)])), (z0, .inl (ac 0, 162, .inl (z))), (sd0, .inl (ac 0, 972, .inl (sd))), (tx0, .inl (ac 0, 60, .inl (tx))), (as0, .inl (ac 0, 162, .inl (az))), (rd0, .inl (ac 0, 63, .inl (rd)))] H := hP
  have hD : va_D A [(m0, .inr (6, [.int (2), .ref (z0), .int (nI (sv)), .ref (sd0), .int (nI (ln)), .ref (tx0), .ref (as0), .int (nI (stp)), .int (nI (po)), .int (tl), .ref (rd0), .long (hh)])), (z0, .inl (ac 0, 162, .inl (z))), (sd0, .inl (ac 0, 972, .inl (sd))), (tx0, .inl (ac 0, 60, .inl (tx))), (as0, .inl (ac 0, 162, .inl (az))), (rd0, .inl (ac 0, 63, .inl (rd)))] := hD
  refine lv_aload_n hx hb dX6_draw_49 rfl (lv_at hl 1 rfl) ?_
  refine va_get (ci := 6) (v := .int (2)) (C := RX6) (T := TX6) (N := 12) hx hb hts (by decide +kernel) hown hK hP 0 rfl rfl 0 (by decide) (hts (.fieldLink RX6 25 "SettlingJarsModel" "thrown" "I") (by decide +kernel)) (fun _ h9 => h9) rfl dX6_draw_50 ?_
  refine lv_if_le (tgt := 58) hx hb dX6_draw_53 (by decide) (fun c_ => absurd c_ (by decide)) (fun _ => ?_)
  refine lv_iconst (v := 0) hx hb dX6_draw_56 (by decide) ?_
  exact z_iretW hx hb hr hlocks hK hP hD hS hAe (rfl) dX6_draw_57

set_option maxRecDepth 100000 in
set_option maxHeartbeats 4000000 in
theorem metX6_draw_0 (l : Launch) (D : va_G) (ac : Nat → ClassId) (sz : Nat) (m0 : Nat) (z0 : Nat) (sd0 : Nat) (tx0 : Nat) (as0 : Nat) (rd0 : Nat) (th : Int32) (sv : Nat) (ln : Nat) (stp : Nat) (po : Nat) (tl : Int32) (hh : Int64) (z : Nat → Int32) (sd : Nat → Int32) (tx : Nat → Int32) (az : Nat → Int32) (rd : Nat → Int32) (j1 : Nat) (s1 : Nat) (x3 : Int32) (hj : j1 < 3) (hs : s1 < 12) (h2 : 1 ≤ x3 ∧ x3 ≤ 100) (hsv : sv ≤ 6) : Met l yX6_draw wsX6_draw ({ frames := 2, cells := 0, slots := 0, locals := 42 } : Room) (va_Pc [.ref (m0), .int (nI (j1)), .int (nI (s1)), .int (x3)] (zS D ac [(m0, .inr (6, [.int (th), .ref (z0), .int (nI (sv)), .ref (sd0), .int (nI (ln)), .ref (tx0), .ref (as0), .int (nI (stp)), .int (nI (po)), .int (tl), .ref (rd0), .long (hh)])), (z0, .inl (ac 0, 162, .inl (z))), (sd0, .inl (ac 0, 972, .inl (sd))), (tx0, .inl (ac 0, 60, .inl (tx))), (as0, .inl (ac 0, 162, .inl (az))), (rd0, .inl (ac 0, 63, .inl (rd)))] sz)) (zQi D ac [(m0, .inr (6, [.int (th), .ref (z0), .int (nI (sv)), .ref (sd0), .int (nI (ln)), .ref (tx0), .ref (as0), .int (nI (stp)), .int (nI (po)), .int (tl), .ref (rd0), .long (hh)])), (z0, .inl (ac 0, 162, .inl (z))), (sd0, .inl (ac 0, 972, .inl (sd))), (tx0, .inl (ac 0, 60, .inl (tx))), (as0, .inl (ac 0, 162, .inl (az))), (rd0, .inl (ac 0, 63, .inl (rd)))] [(m0, .inr (6, [.int (0), .ref (z0), .int (nI (mSv sv + 1)), .ref (sd0), .int (nI (ln)), .ref (tx0), .ref (as0), .int (nI (stp)), .int (nI (po)), .int (tl), .ref (rd0), .long (hh)])), (z0, .inl (ac 0, 162, .inl ((mDraw z j1 s1 x3 4).1))), (sd0, .inl (ac 0, 972, .inl (mSave sd z sv))), (tx0, .inl (ac 0, 60, .inl (tx))), (as0, .inl (ac 0, 162, .inl (az))), (rd0, .inl (ac 0, 63, .inl (rd)))] sz ((mDraw z j1 s1 x3 4).2)) 0 0 (va_A [(m0, .inr (6, [.int (th), .ref (z0), .int (nI (sv)), .ref (sd0), .int (nI (ln)), .ref (tx0), .ref (as0), .int (nI (stp)), .int (nI (po)), .int (tl), .ref (rd0), .long (hh)])), (z0, .inl (ac 0, 162, .inl (z))), (sd0, .inl (ac 0, 972, .inl (sd))), (tx0, .inl (ac 0, 60, .inl (tx))), (as0, .inl (ac 0, 162, .inl (az))), (rd0, .inl (ac 0, 63, .inl (rd)))] sz) := by
  refine z_rw (cc := cX6_draw) (maxL := 8) (ret := (some .int)) (lv := [(0, .ref (m0)), (1, .int (nI (j1))), (2, .int (nI (s1))), (3, .int (x3))]) (by decide) rfl (Nat.le_of_ble_eq_true rfl) rfl ?_
  intro p e s m args below meth c ls A hx hb hr hml hown hts hlocks hl hK hP hsz hAe hA hD hS
  refine lv_iload_n hx hb dX6_draw_0 rfl (lv_at hl 1 rfl) ?_
  refine z_ci (z_srun (rest := []) (own := RX6) (As := [.int (nI (j1))]) hx hb hml hown hts hl.1 hK hP [] rfl (metX6_isJar l D ac (nI (j1)) ) gX6_draw_X6_isJar rfl 1 (by decide +kernel) ⟨rfl, rfl, Nat.le_of_ble_eq_true rfl, Nat.le_of_ble_eq_true rfl⟩ rfl rfl (Nat.le_of_ble_eq_true rfl) dX6_draw_1 ⟨Nat.zero_le _, Nat.zero_le _⟩) ?_
  refine z_if_eq (C := 0 ≤ (nI (j1)) ∧ (nI (j1)) ≤ 2) (tgt := 18) hx hb dX6_draw_4 (by decide) (fun c_4 => absurd c_4 (fun q => q (z_in (n := 2) (by omega)))) (fun c_4 => ?_)
  refine lv_iload_n hx hb dX6_draw_7 rfl (lv_at hl 2 rfl) ?_
  refine z_ci (z_srun (rest := []) (own := RX6) (As := [.int (nI (s1))]) hx hb hml hown hts hl.1 hK hP [] rfl (metX6_isSlice l D ac (nI (s1)) ) gX6_draw_X6_isSlice rfl 1 (by decide +kernel) ⟨rfl, rfl, Nat.le_of_ble_eq_true rfl, Nat.le_of_ble_eq_true rfl⟩ rfl rfl (Nat.le_of_ble_eq_true rfl) dX6_draw_8 ⟨Nat.zero_le _, Nat.zero_le _⟩) ?_
  refine z_if_eq (C := 0 ≤ (nI (s1)) ∧ (nI (s1)) ≤ 11) (tgt := 18) hx hb dX6_draw_11 (by decide) (fun c_11 => absurd c_11 (fun q => q (z_in (n := 11) (by omega)))) (fun c_11 => ?_)
  refine lv_iconst (v := 1) hx hb dX6_draw_14 (by decide) ?_
  refine lv_goto (tgt := 19) hx hb dX6_draw_15 (by decide) ?_
  refine lv_istore (lv' := [(4, .int (1)), (0, .ref (m0)), (1, .int (nI (j1))), (2, .int (nI (s1))), (3, .int (x3))]) hx hb dX6_draw_19 hl (by decide) rfl (fun ls hl => ?_)
  refine lv_aload_n hx hb dX6_draw_21 rfl (lv_at hl 1 rfl) ?_
  refine lv_iload hx hb dX6_draw_22 (lv_at hl 0 rfl) ?_
  refine lv_if_ne (tgt := 31) hx hb dX6_draw_24 (by decide) (fun _ => ?_) (fun c_ => absurd c_ (by decide))
  refine lv_iload_n hx hb dX6_draw_31 rfl (lv_at hl 4 rfl) ?_
  refine lv_iconst (v := 1) hx hb dX6_draw_32 (by decide) ?_
  refine lv_bipush (v := 100) hx hb dX6_draw_33 (by decide) ?_
  refine z_ci (z_srun (rest := [.ref (m0)]) (own := RX6) (As := [.int (x3), .int (1), .int (100)]) hx hb hml hown hts hl.1 hK hP [] rfl (metX6_within l D ac x3 1 100 ) gX6_draw_X6_within rfl 3 (by decide +kernel) ⟨rfl, rfl, Nat.le_of_ble_eq_true rfl, Nat.le_of_ble_eq_true rfl⟩ rfl rfl (Nat.le_of_ble_eq_true rfl) dX6_draw_35 ⟨Nat.zero_le _, Nat.zero_le _⟩) ?_
  refine z_if_eq (C := 1 ≤ x3 ∧ x3 ≤ 100) (tgt := 45) hx hb dX6_draw_38 (by decide) (fun c_38 => absurd c_38 (fun q => q (h2))) (fun c_38 => ?_)
  refine lv_iconst (v := 0) hx hb dX6_draw_41 (by decide) ?_
  refine lv_goto (tgt := 46) hx hb dX6_draw_42 (by decide) ?_
  refine va_put (ci := 6) (v := .int (0)) (ty := .int) (C := RX6) (T := TX6) (N := 12) hx hb hts (by decide +kernel) tyX6 tyX6_ok nmX6 hown hK hP hD hS 0 rfl rfl 0 (by decide) (hts (.fieldLink RX6 25 "SettlingJarsModel" "thrown" "I") (by decide +kernel)) (fun _ h9 => h9) rfl (by decide +kernel) rfl rfl (Nat.le_of_ble_eq_true rfl) dX6_draw_46 (fun H locs hP hD hS => ?_)
  have hP : va_P D vwCl [(m0, .inr (6, [.int (0), .ref (z0), .int (nI (sv)), .ref (sd0), .int (nI (ln)), .ref (tx0), .ref (as0), .int (nI (stp)), .int (nI (po)), .int (tl), .ref (rd0), .long (hh)])), (z0, .inl (ac 0, 162, .inl (z))), (sd0, .inl (ac 0, 972, .inl (sd))), (tx0, .inl (ac 0, 60, .inl (tx))), (as0, .inl (ac 0, 162, .inl (az))), (rd0, .inl (ac 0, 63, .inl (rd)))] H := hP
  have hD : va_D A [(m0, .inr (6, [.int (0), .ref (z0), .int (nI (sv)), .ref (sd0), .int (nI (ln)), .ref (tx0), .ref (as0), .int (nI (stp)), .int (nI (po)), .int (tl), .ref (rd0), .long (hh)])), (z0, .inl (ac 0, 162, .inl (z))), (sd0, .inl (ac 0, 972, .inl (sd))), (tx0, .inl (ac 0, 60, .inl (tx))), (as0, .inl (ac 0, 162, .inl (az))), (rd0, .inl (ac 0, 63, .inl (rd)))] := hD
  refine lv_aload_n hx hb dX6_draw_49 rfl (lv_at hl 1 rfl) ?_
  refine va_get (ci := 6) (v := .int (0)) (C := RX6) (T := TX6) (N := 12) hx hb hts (by decide +kernel) hown hK hP 0 rfl rfl 0 (by decide) (hts (.fieldLink RX6 25 "SettlingJarsModel" "thrown" "I") (by decide +kernel)) (fun _ h9 => h9) rfl dX6_draw_50 ?_
  refine lv_if_le (tgt := 58) hx hb dX6_draw_53 (by decide) (fun _ => ?_) (fun c_ => absurd (by decide) c_)
  refine lv_aload_n hx hb dX6_draw_58 rfl (lv_at hl 1 rfl) ?_
  refine z_cvW [(m0, .inr (6, [.int (0), .ref (z0), .int (nI (mSv sv + 1)), .ref (sd0), .int (nI (ln)), .ref (tx0), .ref (as0), .int (nI (stp)), .int (nI (po)), .int (tl), .ref (rd0), .long (hh)])), (z0, .inl (ac 0, 162, .inl (z))), (sd0, .inl (ac 0, 972, .inl (mSave sd z sv))), (tx0, .inl (ac 0, 60, .inl (tx))), (as0, .inl (ac 0, 162, .inl (az))), (rd0, .inl (ac 0, 63, .inl (rd)))] (z_vrunW (rest := []) (own := RX6) (As := []) hx hb hml hown hts hl.1 hK hP hD [0, 1, 2, 3, 4, 5] rfl (by decide) rfl (metX6_save l D ac _ m0 z0 sd0 tx0 as0 rd0 0 sv ln stp po tl hh z sd tx az rd (by omega)) gX6_draw_X6_save rfl 0 (by decide +kernel) ⟨rfl, rfl, Nat.le_of_ble_eq_true rfl, Nat.le_of_ble_eq_true rfl⟩ 0 6 rfl rfl rfl rfl rfl (Nat.le_of_ble_eq_true rfl) dX6_draw_59 ⟨Nat.zero_le _, Nat.zero_le _⟩) hP hD hS hA [0, 1, 2, 3, 4, 5] [] [0, 1, 2, 3, 4, 5] rfl rfl (by decide) (by decide) (by decide) rfl (fun H locs hP hD hS => ?_)
  refine lv_iconst (v := 0) hx hb dX6_draw_62 (by decide) ?_
  refine lv_istore (lv' := [(5, .int (0)), (4, .int (1)), (0, .ref (m0)), (1, .int (nI (j1))), (2, .int (nI (s1))), (3, .int (x3))]) hx hb dX6_draw_63 hl (by decide) rfl (fun ls hl => ?_)
  refine lv_iconst (v := 0) hx hb dX6_draw_65 (by decide) ?_
  refine lv_istore (lv' := [(6, .int (0)), (5, .int (0)), (4, .int (1)), (0, .ref (m0)), (1, .int (nI (j1))), (2, .int (nI (s1))), (3, .int (x3))]) hx hb dX6_draw_66 hl (by decide) rfl (fun ls hl => ?_)
  have hL_68 : ∀ (n : Nat) (i : Nat), (i + n = 4) → ∀ (H : Heap) (locs : List Loc), va_P D vwCl [(m0, .inr (6, [.int (0), .ref (z0), .int (nI (mSv sv + 1)), .ref (sd0), .int (nI (ln)), .ref (tx0), .ref (as0), .int (nI (stp)), .int (nI (po)), .int (tl), .ref (rd0), .long (hh)])), (z0, .inl (ac 0, 162, .inl ((mDraw z j1 s1 x3 i).1))), (sd0, .inl (ac 0, 972, .inl (mSave sd z sv))), (tx0, .inl (ac 0, 60, .inl (tx))), (as0, .inl (ac 0, 162, .inl (az))), (rd0, .inl (ac 0, 63, .inl (rd)))] H → va_D A [(m0, .inr (6, [.int (0), .ref (z0), .int (nI (mSv sv + 1)), .ref (sd0), .int (nI (ln)), .ref (tx0), .ref (as0), .int (nI (stp)), .int (nI (po)), .int (tl), .ref (rd0), .long (hh)])), (z0, .inl (ac 0, 162, .inl ((mDraw z j1 s1 x3 i).1))), (sd0, .inl (ac 0, 972, .inl (mSave sd z sv))), (tx0, .inl (ac 0, 60, .inl (tx))), (as0, .inl (ac 0, 162, .inl (az))), (rd0, .inl (ac 0, 63, .inl (rd)))] → va_S A s.heap H locs → ∀ (ls : Array Slot), lv_has ls 8 [(6, .int (nI (i))), (5, .int ((mDraw z j1 s1 x3 i).2)), (4, .int (1)), (0, .ref (m0)), (1, .int (nI (j1))), (2, .int (nI (s1))), (3, .int (x3))] → W p l e ({ frames := 2, cells := 0, slots := 0, locals := 42 } : Room) s m args below meth c H locs 0 0 (MQ below (zQi D ac [(m0, .inr (6, [.int (th), .ref (z0), .int (nI (sv)), .ref (sd0), .int (nI (ln)), .ref (tx0), .ref (as0), .int (nI (stp)), .int (nI (po)), .int (tl), .ref (rd0), .long (hh)])), (z0, .inl (ac 0, 162, .inl (z))), (sd0, .inl (ac 0, 972, .inl (sd))), (tx0, .inl (ac 0, 60, .inl (tx))), (as0, .inl (ac 0, 162, .inl (az))), (rd0, .inl (ac 0, 63, .inl (rd)))] [(m0, .inr (6, [.int (0), .ref (z0), .int (nI (mSv sv + 1)), .ref (sd0), .int (nI (ln)), .ref (tx0), .ref (as0), .int (nI (stp)), .int (nI (po)), .int (tl), .ref (rd0), .long (hh)])), (z0, .inl (ac 0, 162, .inl ((mDraw z j1 s1 x3 4).1))), (sd0, .inl (ac 0, 972, .inl (mSave sd z sv))), (tx0, .inl (ac 0, 60, .inl (tx))), (as0, .inl (ac 0, 162, .inl (az))), (rd0, .inl (ac 0, 63, .inl (rd)))] sz ((mDraw z j1 s1 x3 4).2)) args s 0 0 A) (F0 m 68 ls []) := by
    intro n
    induction n with
    | zero =>
      intro i hi H locs hP hD hS ls hl
      have e_i : 4 = i := by omega
      subst e_i
      refine lv_iload hx hb dX6_draw_68 (lv_at hl 0 rfl) ?_
      refine lv_iconst (v := 4) hx hb dX6_draw_70 (by decide) ?_
      refine z_icmp_ge (tgt := 139) hx hb (4) (4) dX6_draw_71 (by decide) (by omega) (by omega) rfl rfl (fun c_71 => ?_) (fun c_71 => absurd c_71 (by omega))
      refine lv_iload hx hb dX6_draw_139 (lv_at hl 1 rfl) ?_
      exact z_iretW hx hb hr hlocks hK hP hD hS hAe (rfl) dX6_draw_141
    | succ n ih =>
      intro i hi H locs hP hD hS ls hl
      refine lv_iload hx hb dX6_draw_68 (lv_at hl 0 rfl) ?_
      refine lv_iconst (v := 4) hx hb dX6_draw_70 (by decide) ?_
      refine z_icmp_ge (tgt := 139) hx hb (i) (4) dX6_draw_71 (by decide) (by omega) (by omega) rfl rfl (fun c_71 => absurd c_71 (by omega)) (fun c_71 => ?_)
      refine lv_aload_n hx hb dX6_draw_74 rfl (lv_at hl 3 rfl) ?_
      refine va_get (ci := 6) (v := .ref (z0)) (C := RX6) (T := TX6) (N := 12) hx hb hts (by decide +kernel) hown hK hP 0 rfl rfl 1 (by decide) (hts (.fieldLink RX6 7 "SettlingJarsModel" "z" "[I") (by decide +kernel)) (fun _ h9 => h9) rfl dX6_draw_75 ?_
      refine lv_iload_n hx hb dX6_draw_78 rfl (lv_at hl 4 rfl) ?_
      refine lv_iload_n hx hb dX6_draw_79 rfl (lv_at hl 5 rfl) ?_
      refine lv_iload hx hb dX6_draw_80 (lv_at hl 0 rfl) ?_
      refine z_ci (z_srun (rest := [.ref (z0)]) (own := RX6) (As := [.int (nI (j1)), .int (nI (s1)), .int (nI (i))]) hx hb hml hown hts hl.1 hK hP [] rfl (metX6_place l D ac j1 s1 i ) gX6_draw_X6_place rfl 3 (by decide +kernel) ⟨rfl, rfl, Nat.le_of_ble_eq_true rfl, Nat.le_of_ble_eq_true rfl⟩ rfl rfl (Nat.le_of_ble_eq_true rfl) dX6_draw_82 ⟨Nat.zero_le _, Nat.zero_le _⟩) ?_
      refine z_iald hx hb hK hP 1 rfl (48 * j1 + (4 * (s1) + i)) (congrArg nI (by omega)) (by omega) (by decide) dX6_draw_85 ?_
      refine lv_iload_n hx hb dX6_draw_86 rfl (lv_at hl 6 rfl) ?_
      refine lv_imul hx hb dX6_draw_87 ?_
      refine lv_bipush (v := 100) hx hb dX6_draw_88 (by decide) ?_
      refine lv_idiv hx hb dX6_draw_90 (by decide) ?_
      refine lv_istore (lv' := [(7, .int (((((mDraw z j1 s1 x3 i).1) (48 * j1 + (4 * (s1) + i))) * (x3)) / (100))), (6, .int (nI (i))), (5, .int ((mDraw z j1 s1 x3 i).2)), (4, .int (1)), (0, .ref (m0)), (1, .int (nI (j1))), (2, .int (nI (s1))), (3, .int (x3))]) hx hb dX6_draw_91 hl (by decide) rfl (fun ls hl => ?_)
      refine lv_aload_n hx hb dX6_draw_93 rfl (lv_at hl 4 rfl) ?_
      refine va_get (ci := 6) (v := .ref (z0)) (C := RX6) (T := TX6) (N := 12) hx hb hts (by decide +kernel) hown hK hP 0 rfl rfl 1 (by decide) (hts (.fieldLink RX6 7 "SettlingJarsModel" "z" "[I") (by decide +kernel)) (fun _ h9 => h9) rfl dX6_draw_94 ?_
      refine lv_iload_n hx hb dX6_draw_97 rfl (lv_at hl 5 rfl) ?_
      refine lv_iload_n hx hb dX6_draw_98 rfl (lv_at hl 6 rfl) ?_
      refine lv_iload hx hb dX6_draw_99 (lv_at hl 1 rfl) ?_
      refine z_ci (z_srun (rest := [.ref (z0)]) (own := RX6) (As := [.int (nI (j1)), .int (nI (s1)), .int (nI (i))]) hx hb hml hown hts hl.1 hK hP [] rfl (metX6_place l D ac j1 s1 i ) gX6_draw_X6_place rfl 3 (by decide +kernel) ⟨rfl, rfl, Nat.le_of_ble_eq_true rfl, Nat.le_of_ble_eq_true rfl⟩ rfl rfl (Nat.le_of_ble_eq_true rfl) dX6_draw_101 ⟨Nat.zero_le _, Nat.zero_le _⟩) ?_
      refine lv_dup2_11 hx hb dX6_draw_104 rfl rfl ?_
      refine z_iald hx hb hK hP 1 rfl (48 * j1 + (4 * (s1) + i)) (congrArg nI (by omega)) (by omega) (by decide) dX6_draw_105 ?_
      refine lv_iload hx hb dX6_draw_106 (lv_at hl 0 rfl) ?_
      refine lv_isub hx hb dX6_draw_108 ?_
      refine z_iast hx hb hK hP hD hS 1 rfl (48 * j1 + (4 * (s1) + i)) (congrArg nI (by omega)) (by omega) (by decide) dX6_draw_109 (fun H locs hP hD hS => ?_)
      have hP : va_P D vwCl [(m0, .inr (6, [.int (0), .ref (z0), .int (nI (mSv sv + 1)), .ref (sd0), .int (nI (ln)), .ref (tx0), .ref (as0), .int (nI (stp)), .int (nI (po)), .int (tl), .ref (rd0), .long (hh)])), (z0, .inl (ac 0, 162, .inl (upd ((mDraw z j1 s1 x3 i).1) (48 * j1 + (4 * (s1) + i)) ((((mDraw z j1 s1 x3 i).1) (48 * j1 + (4 * (s1) + i))) - (((((mDraw z j1 s1 x3 i).1) (48 * j1 + (4 * (s1) + i))) * (x3)) / (100)))))), (sd0, .inl (ac 0, 972, .inl (mSave sd z sv))), (tx0, .inl (ac 0, 60, .inl (tx))), (as0, .inl (ac 0, 162, .inl (az))), (rd0, .inl (ac 0, 63, .inl (rd)))] H := hP
      have hD : va_D A [(m0, .inr (6, [.int (0), .ref (z0), .int (nI (mSv sv + 1)), .ref (sd0), .int (nI (ln)), .ref (tx0), .ref (as0), .int (nI (stp)), .int (nI (po)), .int (tl), .ref (rd0), .long (hh)])), (z0, .inl (ac 0, 162, .inl (upd ((mDraw z j1 s1 x3 i).1) (48 * j1 + (4 * (s1) + i)) ((((mDraw z j1 s1 x3 i).1) (48 * j1 + (4 * (s1) + i))) - (((((mDraw z j1 s1 x3 i).1) (48 * j1 + (4 * (s1) + i))) * (x3)) / (100)))))), (sd0, .inl (ac 0, 972, .inl (mSave sd z sv))), (tx0, .inl (ac 0, 60, .inl (tx))), (as0, .inl (ac 0, 162, .inl (az))), (rd0, .inl (ac 0, 63, .inl (rd)))] := hD
      refine lv_aload_n hx hb dX6_draw_110 rfl (lv_at hl 4 rfl) ?_
      refine va_get (ci := 6) (v := .ref (z0)) (C := RX6) (T := TX6) (N := 12) hx hb hts (by decide +kernel) hown hK hP 0 rfl rfl 1 (by decide) (hts (.fieldLink RX6 7 "SettlingJarsModel" "z" "[I") (by decide +kernel)) (fun _ h9 => h9) rfl dX6_draw_111 ?_
      refine lv_sipush (v := 156) hx hb dX6_draw_114 (by decide) ?_
      refine lv_iload hx hb dX6_draw_117 (lv_at hl 1 rfl) ?_
      refine lv_iadd hx hb dX6_draw_119 ?_
      refine z_top (y := nI ((156) + (i))) (nI_add (156) (i)) ?_
      refine lv_dup2_11 hx hb dX6_draw_120 rfl rfl ?_
      refine z_iald hx hb hK hP 1 rfl (156 + i) (congrArg nI (by omega)) (by omega) (by decide) dX6_draw_121 ?_
      refine lv_iload hx hb dX6_draw_122 (lv_at hl 0 rfl) ?_
      refine lv_iadd hx hb dX6_draw_124 ?_
      refine z_iast hx hb hK hP hD hS 1 rfl (156 + i) (congrArg nI (by omega)) (by omega) (by decide) dX6_draw_125 (fun H locs hP hD hS => ?_)
      have hP : va_P D vwCl [(m0, .inr (6, [.int (0), .ref (z0), .int (nI (mSv sv + 1)), .ref (sd0), .int (nI (ln)), .ref (tx0), .ref (as0), .int (nI (stp)), .int (nI (po)), .int (tl), .ref (rd0), .long (hh)])), (z0, .inl (ac 0, 162, .inl (upd (upd ((mDraw z j1 s1 x3 i).1) (48 * j1 + (4 * (s1) + i)) ((((mDraw z j1 s1 x3 i).1) (48 * j1 + (4 * (s1) + i))) - (((((mDraw z j1 s1 x3 i).1) (48 * j1 + (4 * (s1) + i))) * (x3)) / (100)))) (156 + i) (((upd ((mDraw z j1 s1 x3 i).1) (48 * j1 + (4 * (s1) + i)) ((((mDraw z j1 s1 x3 i).1) (48 * j1 + (4 * (s1) + i))) - (((((mDraw z j1 s1 x3 i).1) (48 * j1 + (4 * (s1) + i))) * (x3)) / (100)))) (156 + i)) + (((((mDraw z j1 s1 x3 i).1) (48 * j1 + (4 * (s1) + i))) * (x3)) / (100)))))), (sd0, .inl (ac 0, 972, .inl (mSave sd z sv))), (tx0, .inl (ac 0, 60, .inl (tx))), (as0, .inl (ac 0, 162, .inl (az))), (rd0, .inl (ac 0, 63, .inl (rd)))] H := hP
      have hD : va_D A [(m0, .inr (6, [.int (0), .ref (z0), .int (nI (mSv sv + 1)), .ref (sd0), .int (nI (ln)), .ref (tx0), .ref (as0), .int (nI (stp)), .int (nI (po)), .int (tl), .ref (rd0), .long (hh)])), (z0, .inl (ac 0, 162, .inl (upd (upd ((mDraw z j1 s1 x3 i).1) (48 * j1 + (4 * (s1) + i)) ((((mDraw z j1 s1 x3 i).1) (48 * j1 + (4 * (s1) + i))) - (((((mDraw z j1 s1 x3 i).1) (48 * j1 + (4 * (s1) + i))) * (x3)) / (100)))) (156 + i) (((upd ((mDraw z j1 s1 x3 i).1) (48 * j1 + (4 * (s1) + i)) ((((mDraw z j1 s1 x3 i).1) (48 * j1 + (4 * (s1) + i))) - (((((mDraw z j1 s1 x3 i).1) (48 * j1 + (4 * (s1) + i))) * (x3)) / (100)))) (156 + i)) + (((((mDraw z j1 s1 x3 i).1) (48 * j1 + (4 * (s1) + i))) * (x3)) / (100)))))), (sd0, .inl (ac 0, 972, .inl (mSave sd z sv))), (tx0, .inl (ac 0, 60, .inl (tx))), (as0, .inl (ac 0, 162, .inl (az))), (rd0, .inl (ac 0, 63, .inl (rd)))] := hD
      refine lv_iload hx hb dX6_draw_126 (lv_at hl 2 rfl) ?_
      refine lv_iload hx hb dX6_draw_128 (lv_at hl 0 rfl) ?_
      refine lv_iadd hx hb dX6_draw_130 ?_
      refine lv_istore (lv' := [(5, .int (((mDraw z j1 s1 x3 i).2) + (((((mDraw z j1 s1 x3 i).1) (48 * j1 + (4 * (s1) + i))) * (x3)) / (100)))), (7, .int (((((mDraw z j1 s1 x3 i).1) (48 * j1 + (4 * (s1) + i))) * (x3)) / (100))), (6, .int (nI (i))), (4, .int (1)), (0, .ref (m0)), (1, .int (nI (j1))), (2, .int (nI (s1))), (3, .int (x3))]) hx hb dX6_draw_131 hl (by decide) rfl (fun ls hl => ?_)
      refine lv_iinc (v := nI ((i) + 1)) (lv' := [(6, .int (nI ((i) + 1))), (5, .int (((mDraw z j1 s1 x3 i).2) + (((((mDraw z j1 s1 x3 i).1) (48 * j1 + (4 * (s1) + i))) * (x3)) / (100)))), (7, .int (((((mDraw z j1 s1 x3 i).1) (48 * j1 + (4 * (s1) + i))) * (x3)) / (100))), (4, .int (1)), (0, .ref (m0)), (1, .int (nI (j1))), (2, .int (nI (s1))), (3, .int (x3))]) hx hb dX6_draw_133 hl (k := 2) rfl (show nI (i) + Int32.ofInt 1 = _ from nI_add (i) 1) (by decide) rfl (fun ls hl => ?_)
      refine lv_goto (tgt := 68) hx hb dX6_draw_136 (by decide) ?_
      exact ih (i + 1) (by omega) _ _ hP hD hS ls (lv_sub hl [0, 1, 3, 4, 5, 6, 7] rfl)
  exact hL_68 (4) (0) (by omega) _ _ hP hD hS ls (lv_sub hl [0, 1, 2, 3, 4, 5, 6] rfl)

set_option maxRecDepth 100000 in
set_option maxHeartbeats 4000000 in
theorem metX6_decant_1 (l : Launch) (D : va_G) (ac : Nat → ClassId) (sz : Nat) (m0 : Nat) (z0 : Nat) (sd0 : Nat) (tx0 : Nat) (as0 : Nat) (rd0 : Nat) (th : Int32) (sv : Nat) (ln : Nat) (stp : Nat) (po : Nat) (tl : Int32) (hh : Int64) (z : Nat → Int32) (sd : Nat → Int32) (tx : Nat → Int32) (az : Nat → Int32) (rd : Nat → Int32) (x1 : Int32) (x2 : Int32) (x3 : Int32) (h1 : ¬ ((0 ≤ x1 ∧ x1 ≤ 2) ∧ (0 ≤ x2 ∧ x2 ≤ 2) ∧ (0 ≤ x3 ∧ x3 ≤ 11))) : Met l yX6_decant wsX6_decant ({ frames := 2, cells := 0, slots := 0, locals := 42 } : Room) (va_Pc [.ref (m0), .int (x1), .int (x2), .int (x3)] (zS D ac [(m0, .inr (6, [.int (th), .ref (z0), .int (nI (sv)), .ref (sd0), .int (nI (ln)), .ref (tx0), .ref (as0), .int (nI (stp)), .int (nI (po)), .int (tl), .ref (rd0), .long (hh)])), (z0, .inl (ac 0, 162, .inl (z))), (sd0, .inl (ac 0, 972, .inl (sd))), (tx0, .inl (ac 0, 60, .inl (tx))), (as0, .inl (ac 0, 162, .inl (az))), (rd0, .inl (ac 0, 63, .inl (rd)))] sz)) (zQi D ac [(m0, .inr (6, [.int (th), .ref (z0), .int (nI (sv)), .ref (sd0), .int (nI (ln)), .ref (tx0), .ref (as0), .int (nI (stp)), .int (nI (po)), .int (tl), .ref (rd0), .long (hh)])), (z0, .inl (ac 0, 162, .inl (z))), (sd0, .inl (ac 0, 972, .inl (sd))), (tx0, .inl (ac 0, 60, .inl (tx))), (as0, .inl (ac 0, 162, .inl (az))), (rd0, .inl (ac 0, 63, .inl (rd)))] [(m0, .inr (6, [.int (1), .ref (z0), .int (nI (sv)), .ref (sd0), .int (nI (ln)), .ref (tx0), .ref (as0), .int (nI (stp)), .int (nI (po)), .int (tl), .ref (rd0), .long (hh)])), (z0, .inl (ac 0, 162, .inl (z))), (sd0, .inl (ac 0, 972, .inl (sd))), (tx0, .inl (ac 0, 60, .inl (tx))), (as0, .inl (ac 0, 162, .inl (az))), (rd0, .inl (ac 0, 63, .inl (rd)))] sz (0)) 0 0 (va_A [(m0, .inr (6, [.int (th), .ref (z0), .int (nI (sv)), .ref (sd0), .int (nI (ln)), .ref (tx0), .ref (as0), .int (nI (stp)), .int (nI (po)), .int (tl), .ref (rd0), .long (hh)])), (z0, .inl (ac 0, 162, .inl (z))), (sd0, .inl (ac 0, 972, .inl (sd))), (tx0, .inl (ac 0, 60, .inl (tx))), (as0, .inl (ac 0, 162, .inl (az))), (rd0, .inl (ac 0, 63, .inl (rd)))] sz) := by
  refine z_rw (cc := cX6_decant) (maxL := 7) (ret := (some .int)) (lv := [(0, .ref (m0)), (1, .int (x1)), (2, .int (x2)), (3, .int (x3))]) (by decide) rfl (Nat.le_of_ble_eq_true rfl) rfl ?_
  intro p e s m args below meth c ls A hx hb hr hml hown hts hlocks hl hK hP hsz hAe hA hD hS
  refine lv_iload_n hx hb dX6_decant_0 rfl (lv_at hl 1 rfl) ?_
  refine z_ci (z_srun (rest := []) (own := RX6) (As := [.int (x1)]) hx hb hml hown hts hl.1 hK hP [] rfl (metX6_isJar l D ac x1 ) gX6_decant_X6_isJar rfl 1 (by decide +kernel) ⟨rfl, rfl, Nat.le_of_ble_eq_true rfl, Nat.le_of_ble_eq_true rfl⟩ rfl rfl (Nat.le_of_ble_eq_true rfl) dX6_decant_1 ⟨Nat.zero_le _, Nat.zero_le _⟩) ?_
  refine z_if_eq (C := 0 ≤ x1 ∧ x1 ≤ 2) (tgt := 25) hx hb dX6_decant_4 (by decide) (fun c_4 => ?_) (fun c_4 => ?_)
  · refine lv_iconst (v := 0) hx hb dX6_decant_25 (by decide) ?_
    refine lv_istore (lv' := [(4, .int (0)), (0, .ref (m0)), (1, .int (x1)), (2, .int (x2)), (3, .int (x3))]) hx hb dX6_decant_26 hl (by decide) rfl (fun ls hl => ?_)
    refine lv_iload hx hb dX6_decant_28 (lv_at hl 0 rfl) ?_
    refine lv_if_ne (tgt := 40) hx hb dX6_decant_30 (by decide) (fun c_ => absurd (by decide) c_) (fun _ => ?_)
    refine lv_aload_n hx hb dX6_decant_33 rfl (lv_at hl 1 rfl) ?_
    refine lv_iconst (v := 1) hx hb dX6_decant_34 (by decide) ?_
    refine va_put (ci := 6) (v := .int (1)) (ty := .int) (C := RX6) (T := TX6) (N := 12) hx hb hts (by decide +kernel) tyX6 tyX6_ok nmX6 hown hK hP hD hS 0 rfl rfl 0 (by decide) (hts (.fieldLink RX6 25 "SettlingJarsModel" "thrown" "I") (by decide +kernel)) (fun _ h9 => h9) rfl (by decide +kernel) rfl rfl (Nat.le_of_ble_eq_true rfl) dX6_decant_35 (fun H locs hP hD hS => ?_)
    have hP : va_P D vwCl [(m0, .inr (6, [.int (1), .ref (z0), .int (nI (sv)), .ref (sd0), .int (nI (ln)), .ref (tx0), .ref (as0), .int (nI (stp)), .int (nI (po)), .int (tl), .ref (rd0), .long (hh)])), (z0, .inl (ac 0, 162, .inl (z))), (sd0, .inl (ac 0, 972, .inl (sd))), (tx0, .inl (ac 0, 60, .inl (tx))), (as0, .inl (ac 0, 162, .inl (az))), (rd0, .inl (ac 0, 63, .inl (rd)))] H := hP
    have hD : va_D A [(m0, .inr (6, [.int (1), .ref (z0), .int (nI (sv)), .ref (sd0), .int (nI (ln)), .ref (tx0), .ref (as0), .int (nI (stp)), .int (nI (po)), .int (tl), .ref (rd0), .long (hh)])), (z0, .inl (ac 0, 162, .inl (z))), (sd0, .inl (ac 0, 972, .inl (sd))), (tx0, .inl (ac 0, 60, .inl (tx))), (as0, .inl (ac 0, 162, .inl (az))), (rd0, .inl (ac 0, 63, .inl (rd)))] := hD
    refine lv_iconst (v := 0) hx hb dX6_decant_38 (by decide) ?_
    exact z_iretW hx hb hr hlocks hK hP hD hS hAe (rfl) dX6_decant_39
  · refine lv_iload_n hx hb dX6_decant_7 rfl (lv_at hl 2 rfl) ?_
    refine z_ci (z_srun (rest := []) (own := RX6) (As := [.int (x2)]) hx hb hml hown hts hl.1 hK hP [] rfl (metX6_isJar l D ac x2 ) gX6_decant_X6_isJar rfl 1 (by decide +kernel) ⟨rfl, rfl, Nat.le_of_ble_eq_true rfl, Nat.le_of_ble_eq_true rfl⟩ rfl rfl (Nat.le_of_ble_eq_true rfl) dX6_decant_8 ⟨Nat.zero_le _, Nat.zero_le _⟩) ?_
    refine z_if_eq (C := 0 ≤ x2 ∧ x2 ≤ 2) (tgt := 25) hx hb dX6_decant_11 (by decide) (fun c_11 => ?_) (fun c_11 => ?_)
    · refine lv_iconst (v := 0) hx hb dX6_decant_25 (by decide) ?_
      refine lv_istore (lv' := [(4, .int (0)), (0, .ref (m0)), (1, .int (x1)), (2, .int (x2)), (3, .int (x3))]) hx hb dX6_decant_26 hl (by decide) rfl (fun ls hl => ?_)
      refine lv_iload hx hb dX6_decant_28 (lv_at hl 0 rfl) ?_
      refine lv_if_ne (tgt := 40) hx hb dX6_decant_30 (by decide) (fun c_ => absurd (by decide) c_) (fun _ => ?_)
      refine lv_aload_n hx hb dX6_decant_33 rfl (lv_at hl 1 rfl) ?_
      refine lv_iconst (v := 1) hx hb dX6_decant_34 (by decide) ?_
      refine va_put (ci := 6) (v := .int (1)) (ty := .int) (C := RX6) (T := TX6) (N := 12) hx hb hts (by decide +kernel) tyX6 tyX6_ok nmX6 hown hK hP hD hS 0 rfl rfl 0 (by decide) (hts (.fieldLink RX6 25 "SettlingJarsModel" "thrown" "I") (by decide +kernel)) (fun _ h9 => h9) rfl (by decide +kernel) rfl rfl (Nat.le_of_ble_eq_true rfl) dX6_decant_35 (fun H locs hP hD hS => ?_)
      have hP : va_P D vwCl [(m0, .inr (6, [.int (1), .ref (z0), .int (nI (sv)), .ref (sd0), .int (nI (ln)), .ref (tx0), .ref (as0), .int (nI (stp)), .int (nI (po)), .int (tl), .ref (rd0), .long (hh)])), (z0, .inl (ac 0, 162, .inl (z))), (sd0, .inl (ac 0, 972, .inl (sd))), (tx0, .inl (ac 0, 60, .inl (tx))), (as0, .inl (ac 0, 162, .inl (az))), (rd0, .inl (ac 0, 63, .inl (rd)))] H := hP
      have hD : va_D A [(m0, .inr (6, [.int (1), .ref (z0), .int (nI (sv)), .ref (sd0), .int (nI (ln)), .ref (tx0), .ref (as0), .int (nI (stp)), .int (nI (po)), .int (tl), .ref (rd0), .long (hh)])), (z0, .inl (ac 0, 162, .inl (z))), (sd0, .inl (ac 0, 972, .inl (sd))), (tx0, .inl (ac 0, 60, .inl (tx))), (as0, .inl (ac 0, 162, .inl (az))), (rd0, .inl (ac 0, 63, .inl (rd)))] := hD
      refine lv_iconst (v := 0) hx hb dX6_decant_38 (by decide) ?_
      exact z_iretW hx hb hr hlocks hK hP hD hS hAe (rfl) dX6_decant_39
    · refine lv_iload_n hx hb dX6_decant_14 rfl (lv_at hl 3 rfl) ?_
      refine z_ci (z_srun (rest := []) (own := RX6) (As := [.int (x3)]) hx hb hml hown hts hl.1 hK hP [] rfl (metX6_isSlice l D ac x3 ) gX6_decant_X6_isSlice rfl 1 (by decide +kernel) ⟨rfl, rfl, Nat.le_of_ble_eq_true rfl, Nat.le_of_ble_eq_true rfl⟩ rfl rfl (Nat.le_of_ble_eq_true rfl) dX6_decant_15 ⟨Nat.zero_le _, Nat.zero_le _⟩) ?_
      refine z_if_eq (C := 0 ≤ x3 ∧ x3 ≤ 11) (tgt := 25) hx hb dX6_decant_18 (by decide) (fun c_18 => ?_) (fun c_18 => absurd c_18 (fun q => h1 ⟨c_4, c_11, q⟩))
      refine lv_iconst (v := 0) hx hb dX6_decant_25 (by decide) ?_
      refine lv_istore (lv' := [(4, .int (0)), (0, .ref (m0)), (1, .int (x1)), (2, .int (x2)), (3, .int (x3))]) hx hb dX6_decant_26 hl (by decide) rfl (fun ls hl => ?_)
      refine lv_iload hx hb dX6_decant_28 (lv_at hl 0 rfl) ?_
      refine lv_if_ne (tgt := 40) hx hb dX6_decant_30 (by decide) (fun c_ => absurd (by decide) c_) (fun _ => ?_)
      refine lv_aload_n hx hb dX6_decant_33 rfl (lv_at hl 1 rfl) ?_
      refine lv_iconst (v := 1) hx hb dX6_decant_34 (by decide) ?_
      refine va_put (ci := 6) (v := .int (1)) (ty := .int) (C := RX6) (T := TX6) (N := 12) hx hb hts (by decide +kernel) tyX6 tyX6_ok nmX6 hown hK hP hD hS 0 rfl rfl 0 (by decide) (hts (.fieldLink RX6 25 "SettlingJarsModel" "thrown" "I") (by decide +kernel)) (fun _ h9 => h9) rfl (by decide +kernel) rfl rfl (Nat.le_of_ble_eq_true rfl) dX6_decant_35 (fun H locs hP hD hS => ?_)
      have hP : va_P D vwCl [(m0, .inr (6, [.int (1), .ref (z0), .int (nI (sv)), .ref (sd0), .int (nI (ln)), .ref (tx0), .ref (as0), .int (nI (stp)), .int (nI (po)), .int (tl), .ref (rd0), .long (hh)])), (z0, .inl (ac 0, 162, .inl (z))), (sd0, .inl (ac 0, 972, .inl (sd))), (tx0, .inl (ac 0, 60, .inl (tx))), (as0, .inl (ac 0, 162, .inl (az))), (rd0, .inl (ac 0, 63, .inl (rd)))] H := hP
      have hD : va_D A [(m0, .inr (6, [.int (1), .ref (z0), .int (nI (sv)), .ref (sd0), .int (nI (ln)), .ref (tx0), .ref (as0), .int (nI (stp)), .int (nI (po)), .int (tl), .ref (rd0), .long (hh)])), (z0, .inl (ac 0, 162, .inl (z))), (sd0, .inl (ac 0, 972, .inl (sd))), (tx0, .inl (ac 0, 60, .inl (tx))), (as0, .inl (ac 0, 162, .inl (az))), (rd0, .inl (ac 0, 63, .inl (rd)))] := hD
      refine lv_iconst (v := 0) hx hb dX6_decant_38 (by decide) ?_
      exact z_iretW hx hb hr hlocks hK hP hD hS hAe (rfl) dX6_decant_39

set_option maxRecDepth 100000 in
set_option maxHeartbeats 4000000 in
theorem metX6_decant_2 (l : Launch) (D : va_G) (ac : Nat → ClassId) (sz : Nat) (m0 : Nat) (z0 : Nat) (sd0 : Nat) (tx0 : Nat) (as0 : Nat) (rd0 : Nat) (th : Int32) (sv : Nat) (ln : Nat) (stp : Nat) (po : Nat) (tl : Int32) (hh : Int64) (z : Nat → Int32) (sd : Nat → Int32) (tx : Nat → Int32) (az : Nat → Int32) (rd : Nat → Int32) (j1 : Nat) (j2 : Nat) (t : Nat) (hj : j1 < 3) (hj2 : j2 < 3) (ht : t < 12) (h2 : j1 = j2) : Met l yX6_decant wsX6_decant ({ frames := 2, cells := 0, slots := 0, locals := 42 } : Room) (va_Pc [.ref (m0), .int (nI (j1)), .int (nI (j2)), .int (nI (t))] (zS D ac [(m0, .inr (6, [.int (th), .ref (z0), .int (nI (sv)), .ref (sd0), .int (nI (ln)), .ref (tx0), .ref (as0), .int (nI (stp)), .int (nI (po)), .int (tl), .ref (rd0), .long (hh)])), (z0, .inl (ac 0, 162, .inl (z))), (sd0, .inl (ac 0, 972, .inl (sd))), (tx0, .inl (ac 0, 60, .inl (tx))), (as0, .inl (ac 0, 162, .inl (az))), (rd0, .inl (ac 0, 63, .inl (rd)))] sz)) (zQi D ac [(m0, .inr (6, [.int (th), .ref (z0), .int (nI (sv)), .ref (sd0), .int (nI (ln)), .ref (tx0), .ref (as0), .int (nI (stp)), .int (nI (po)), .int (tl), .ref (rd0), .long (hh)])), (z0, .inl (ac 0, 162, .inl (z))), (sd0, .inl (ac 0, 972, .inl (sd))), (tx0, .inl (ac 0, 60, .inl (tx))), (as0, .inl (ac 0, 162, .inl (az))), (rd0, .inl (ac 0, 63, .inl (rd)))] [(m0, .inr (6, [.int (2), .ref (z0), .int (nI (sv)), .ref (sd0), .int (nI (ln)), .ref (tx0), .ref (as0), .int (nI (stp)), .int (nI (po)), .int (tl), .ref (rd0), .long (hh)])), (z0, .inl (ac 0, 162, .inl (z))), (sd0, .inl (ac 0, 972, .inl (sd))), (tx0, .inl (ac 0, 60, .inl (tx))), (as0, .inl (ac 0, 162, .inl (az))), (rd0, .inl (ac 0, 63, .inl (rd)))] sz (0)) 0 0 (va_A [(m0, .inr (6, [.int (th), .ref (z0), .int (nI (sv)), .ref (sd0), .int (nI (ln)), .ref (tx0), .ref (as0), .int (nI (stp)), .int (nI (po)), .int (tl), .ref (rd0), .long (hh)])), (z0, .inl (ac 0, 162, .inl (z))), (sd0, .inl (ac 0, 972, .inl (sd))), (tx0, .inl (ac 0, 60, .inl (tx))), (as0, .inl (ac 0, 162, .inl (az))), (rd0, .inl (ac 0, 63, .inl (rd)))] sz) := by
  refine z_rw (cc := cX6_decant) (maxL := 7) (ret := (some .int)) (lv := [(0, .ref (m0)), (1, .int (nI (j1))), (2, .int (nI (j2))), (3, .int (nI (t)))]) (by decide) rfl (Nat.le_of_ble_eq_true rfl) rfl ?_
  intro p e s m args below meth c ls A hx hb hr hml hown hts hlocks hl hK hP hsz hAe hA hD hS
  refine lv_iload_n hx hb dX6_decant_0 rfl (lv_at hl 1 rfl) ?_
  refine z_ci (z_srun (rest := []) (own := RX6) (As := [.int (nI (j1))]) hx hb hml hown hts hl.1 hK hP [] rfl (metX6_isJar l D ac (nI (j1)) ) gX6_decant_X6_isJar rfl 1 (by decide +kernel) ⟨rfl, rfl, Nat.le_of_ble_eq_true rfl, Nat.le_of_ble_eq_true rfl⟩ rfl rfl (Nat.le_of_ble_eq_true rfl) dX6_decant_1 ⟨Nat.zero_le _, Nat.zero_le _⟩) ?_
  refine z_if_eq (C := 0 ≤ (nI (j1)) ∧ (nI (j1)) ≤ 2) (tgt := 25) hx hb dX6_decant_4 (by decide) (fun c_4 => absurd c_4 (fun q => q (z_in (n := 2) (by omega)))) (fun c_4 => ?_)
  refine lv_iload_n hx hb dX6_decant_7 rfl (lv_at hl 2 rfl) ?_
  refine z_ci (z_srun (rest := []) (own := RX6) (As := [.int (nI (j2))]) hx hb hml hown hts hl.1 hK hP [] rfl (metX6_isJar l D ac (nI (j2)) ) gX6_decant_X6_isJar rfl 1 (by decide +kernel) ⟨rfl, rfl, Nat.le_of_ble_eq_true rfl, Nat.le_of_ble_eq_true rfl⟩ rfl rfl (Nat.le_of_ble_eq_true rfl) dX6_decant_8 ⟨Nat.zero_le _, Nat.zero_le _⟩) ?_
  refine z_if_eq (C := 0 ≤ (nI (j2)) ∧ (nI (j2)) ≤ 2) (tgt := 25) hx hb dX6_decant_11 (by decide) (fun c_11 => absurd c_11 (fun q => q (z_in (n := 2) (by omega)))) (fun c_11 => ?_)
  refine lv_iload_n hx hb dX6_decant_14 rfl (lv_at hl 3 rfl) ?_
  refine z_ci (z_srun (rest := []) (own := RX6) (As := [.int (nI (t))]) hx hb hml hown hts hl.1 hK hP [] rfl (metX6_isSlice l D ac (nI (t)) ) gX6_decant_X6_isSlice rfl 1 (by decide +kernel) ⟨rfl, rfl, Nat.le_of_ble_eq_true rfl, Nat.le_of_ble_eq_true rfl⟩ rfl rfl (Nat.le_of_ble_eq_true rfl) dX6_decant_15 ⟨Nat.zero_le _, Nat.zero_le _⟩) ?_
  refine z_if_eq (C := 0 ≤ (nI (t)) ∧ (nI (t)) ≤ 11) (tgt := 25) hx hb dX6_decant_18 (by decide) (fun c_18 => absurd c_18 (fun q => q (z_in (n := 11) (by omega)))) (fun c_18 => ?_)
  refine lv_iconst (v := 1) hx hb dX6_decant_21 (by decide) ?_
  refine lv_goto (tgt := 26) hx hb dX6_decant_22 (by decide) ?_
  refine lv_istore (lv' := [(4, .int (1)), (0, .ref (m0)), (1, .int (nI (j1))), (2, .int (nI (j2))), (3, .int (nI (t)))]) hx hb dX6_decant_26 hl (by decide) rfl (fun ls hl => ?_)
  refine lv_iload hx hb dX6_decant_28 (lv_at hl 0 rfl) ?_
  refine lv_if_ne (tgt := 40) hx hb dX6_decant_30 (by decide) (fun _ => ?_) (fun c_ => absurd c_ (by decide))
  refine lv_aload_n hx hb dX6_decant_40 rfl (lv_at hl 1 rfl) ?_
  refine lv_iload_n hx hb dX6_decant_41 rfl (lv_at hl 2 rfl) ?_
  refine lv_iload_n hx hb dX6_decant_42 rfl (lv_at hl 3 rfl) ?_
  refine z_icmp_ne (tgt := 50) hx hb (j1) (j2) dX6_decant_43 (by decide) (by omega) (by omega) rfl rfl (fun c_43 => absurd c_43 (by omega)) (fun c_43 => ?_)
  refine lv_iconst (v := 2) hx hb dX6_decant_46 (by decide) ?_
  refine lv_goto (tgt := 73) hx hb dX6_decant_47 (by decide) ?_
  refine va_put (ci := 6) (v := .int (2)) (ty := .int) (C := RX6) (T := TX6) (N := 12) hx hb hts (by decide +kernel) tyX6 tyX6_ok nmX6 hown hK hP hD hS 0 rfl rfl 0 (by decide) (hts (.fieldLink RX6 25 "SettlingJarsModel" "thrown" "I") (by decide +kernel)) (fun _ h9 => h9) rfl (by decide +kernel) rfl rfl (Nat.le_of_ble_eq_true rfl) dX6_decant_73 (fun H locs hP hD hS => ?_)
  have hP : va_P D vwCl [(m0, .inr (6, [.int (2), .ref (z0), .int (nI (sv)), .ref (sd0), .int (nI (ln)), .ref (tx0), .ref (as0), .int (nI (stp)), .int (nI (po)), .int (tl), .ref (rd0), .long (hh)])), (z0, .inl (ac 0, 162, .inl (z))), (sd0, .inl (ac 0, 972, .inl (sd))), (tx0, .inl (ac 0, 60, .inl (tx))), (as0, .inl (ac 0, 162, .inl (az))), (rd0, .inl (ac 0, 63, .inl (rd)))] H := hP
  have hD : va_D A [(m0, .inr (6, [.int (2), .ref (z0), .int (nI (sv)), .ref (sd0), .int (nI (ln)), .ref (tx0), .ref (as0), .int (nI (stp)), .int (nI (po)), .int (tl), .ref (rd0), .long (hh)])), (z0, .inl (ac 0, 162, .inl (z))), (sd0, .inl (ac 0, 972, .inl (sd))), (tx0, .inl (ac 0, 60, .inl (tx))), (as0, .inl (ac 0, 162, .inl (az))), (rd0, .inl (ac 0, 63, .inl (rd)))] := hD
  refine lv_aload_n hx hb dX6_decant_76 rfl (lv_at hl 1 rfl) ?_
  refine va_get (ci := 6) (v := .int (2)) (C := RX6) (T := TX6) (N := 12) hx hb hts (by decide +kernel) hown hK hP 0 rfl rfl 0 (by decide) (hts (.fieldLink RX6 25 "SettlingJarsModel" "thrown" "I") (by decide +kernel)) (fun _ h9 => h9) rfl dX6_decant_77 ?_
  refine lv_if_le (tgt := 85) hx hb dX6_decant_80 (by decide) (fun c_ => absurd c_ (by decide)) (fun _ => ?_)
  refine lv_iconst (v := 0) hx hb dX6_decant_83 (by decide) ?_
  exact z_iretW hx hb hr hlocks hK hP hD hS hAe (rfl) dX6_decant_84

set_option maxRecDepth 100000 in
set_option maxHeartbeats 4000000 in
theorem metX6_decant_3 (l : Launch) (D : va_G) (ac : Nat → ClassId) (sz : Nat) (m0 : Nat) (z0 : Nat) (sd0 : Nat) (tx0 : Nat) (as0 : Nat) (rd0 : Nat) (th : Int32) (sv : Nat) (ln : Nat) (stp : Nat) (po : Nat) (tl : Int32) (hh : Int64) (z : Nat → Int32) (sd : Nat → Int32) (tx : Nat → Int32) (az : Nat → Int32) (rd : Nat → Int32) (j1 : Nat) (j2 : Nat) (t : Nat) (hj : j1 < 3) (hj2 : j2 < 3) (ht : t < 12) (h2 : ¬ j1 = j2) (h3 : 5000 < qAll (qV z j2) + qTo (qV z j1) (t + 1)) : Met l yX6_decant wsX6_decant ({ frames := 3, cells := 0, slots := 0, locals := 70 } : Room) (va_Pc [.ref (m0), .int (nI (j1)), .int (nI (j2)), .int (nI (t))] (zS D ac [(m0, .inr (6, [.int (th), .ref (z0), .int (nI (sv)), .ref (sd0), .int (nI (ln)), .ref (tx0), .ref (as0), .int (nI (stp)), .int (nI (po)), .int (tl), .ref (rd0), .long (hh)])), (z0, .inl (ac 0, 162, .inl (z))), (sd0, .inl (ac 0, 972, .inl (sd))), (tx0, .inl (ac 0, 60, .inl (tx))), (as0, .inl (ac 0, 162, .inl (az))), (rd0, .inl (ac 0, 63, .inl (rd)))] sz)) (zQi D ac [(m0, .inr (6, [.int (th), .ref (z0), .int (nI (sv)), .ref (sd0), .int (nI (ln)), .ref (tx0), .ref (as0), .int (nI (stp)), .int (nI (po)), .int (tl), .ref (rd0), .long (hh)])), (z0, .inl (ac 0, 162, .inl (z))), (sd0, .inl (ac 0, 972, .inl (sd))), (tx0, .inl (ac 0, 60, .inl (tx))), (as0, .inl (ac 0, 162, .inl (az))), (rd0, .inl (ac 0, 63, .inl (rd)))] [(m0, .inr (6, [.int (3), .ref (z0), .int (nI (sv)), .ref (sd0), .int (nI (ln)), .ref (tx0), .ref (as0), .int (nI (stp)), .int (nI (po)), .int (tl), .ref (rd0), .long (hh)])), (z0, .inl (ac 0, 162, .inl (z))), (sd0, .inl (ac 0, 972, .inl (sd))), (tx0, .inl (ac 0, 60, .inl (tx))), (as0, .inl (ac 0, 162, .inl (az))), (rd0, .inl (ac 0, 63, .inl (rd)))] sz (0)) 0 0 (va_A [(m0, .inr (6, [.int (th), .ref (z0), .int (nI (sv)), .ref (sd0), .int (nI (ln)), .ref (tx0), .ref (as0), .int (nI (stp)), .int (nI (po)), .int (tl), .ref (rd0), .long (hh)])), (z0, .inl (ac 0, 162, .inl (z))), (sd0, .inl (ac 0, 972, .inl (sd))), (tx0, .inl (ac 0, 60, .inl (tx))), (as0, .inl (ac 0, 162, .inl (az))), (rd0, .inl (ac 0, 63, .inl (rd)))] sz) := by
  refine z_rw (cc := cX6_decant) (maxL := 7) (ret := (some .int)) (lv := [(0, .ref (m0)), (1, .int (nI (j1))), (2, .int (nI (j2))), (3, .int (nI (t)))]) (by decide) rfl (Nat.le_of_ble_eq_true rfl) rfl ?_
  intro p e s m args below meth c ls A hx hb hr hml hown hts hlocks hl hK hP hsz hAe hA hD hS
  refine lv_iload_n hx hb dX6_decant_0 rfl (lv_at hl 1 rfl) ?_
  refine z_ci (z_srun (rest := []) (own := RX6) (As := [.int (nI (j1))]) hx hb hml hown hts hl.1 hK hP [] rfl (metX6_isJar l D ac (nI (j1)) ) gX6_decant_X6_isJar rfl 1 (by decide +kernel) ⟨rfl, rfl, Nat.le_of_ble_eq_true rfl, Nat.le_of_ble_eq_true rfl⟩ rfl rfl (Nat.le_of_ble_eq_true rfl) dX6_decant_1 ⟨Nat.zero_le _, Nat.zero_le _⟩) ?_
  refine z_if_eq (C := 0 ≤ (nI (j1)) ∧ (nI (j1)) ≤ 2) (tgt := 25) hx hb dX6_decant_4 (by decide) (fun c_4 => absurd c_4 (fun q => q (z_in (n := 2) (by omega)))) (fun c_4 => ?_)
  refine lv_iload_n hx hb dX6_decant_7 rfl (lv_at hl 2 rfl) ?_
  refine z_ci (z_srun (rest := []) (own := RX6) (As := [.int (nI (j2))]) hx hb hml hown hts hl.1 hK hP [] rfl (metX6_isJar l D ac (nI (j2)) ) gX6_decant_X6_isJar rfl 1 (by decide +kernel) ⟨rfl, rfl, Nat.le_of_ble_eq_true rfl, Nat.le_of_ble_eq_true rfl⟩ rfl rfl (Nat.le_of_ble_eq_true rfl) dX6_decant_8 ⟨Nat.zero_le _, Nat.zero_le _⟩) ?_
  refine z_if_eq (C := 0 ≤ (nI (j2)) ∧ (nI (j2)) ≤ 2) (tgt := 25) hx hb dX6_decant_11 (by decide) (fun c_11 => absurd c_11 (fun q => q (z_in (n := 2) (by omega)))) (fun c_11 => ?_)
  refine lv_iload_n hx hb dX6_decant_14 rfl (lv_at hl 3 rfl) ?_
  refine z_ci (z_srun (rest := []) (own := RX6) (As := [.int (nI (t))]) hx hb hml hown hts hl.1 hK hP [] rfl (metX6_isSlice l D ac (nI (t)) ) gX6_decant_X6_isSlice rfl 1 (by decide +kernel) ⟨rfl, rfl, Nat.le_of_ble_eq_true rfl, Nat.le_of_ble_eq_true rfl⟩ rfl rfl (Nat.le_of_ble_eq_true rfl) dX6_decant_15 ⟨Nat.zero_le _, Nat.zero_le _⟩) ?_
  refine z_if_eq (C := 0 ≤ (nI (t)) ∧ (nI (t)) ≤ 11) (tgt := 25) hx hb dX6_decant_18 (by decide) (fun c_18 => absurd c_18 (fun q => q (z_in (n := 11) (by omega)))) (fun c_18 => ?_)
  refine lv_iconst (v := 1) hx hb dX6_decant_21 (by decide) ?_
  refine lv_goto (tgt := 26) hx hb dX6_decant_22 (by decide) ?_
  refine lv_istore (lv' := [(4, .int (1)), (0, .ref (m0)), (1, .int (nI (j1))), (2, .int (nI (j2))), (3, .int (nI (t)))]) hx hb dX6_decant_26 hl (by decide) rfl (fun ls hl => ?_)
  refine lv_iload hx hb dX6_decant_28 (lv_at hl 0 rfl) ?_
  refine lv_if_ne (tgt := 40) hx hb dX6_decant_30 (by decide) (fun _ => ?_) (fun c_ => absurd c_ (by decide))
  refine lv_aload_n hx hb dX6_decant_40 rfl (lv_at hl 1 rfl) ?_
  refine lv_iload_n hx hb dX6_decant_41 rfl (lv_at hl 2 rfl) ?_
  refine lv_iload_n hx hb dX6_decant_42 rfl (lv_at hl 3 rfl) ?_
  refine z_icmp_ne (tgt := 50) hx hb (j1) (j2) dX6_decant_43 (by decide) (by omega) (by omega) rfl rfl (fun c_43 => ?_) (fun c_43 => absurd c_43 (by omega))
  refine lv_aload_n hx hb dX6_decant_50 rfl (lv_at hl 1 rfl) ?_
  refine lv_iload_n hx hb dX6_decant_51 rfl (lv_at hl 3 rfl) ?_
  refine z_ci (z_vrun (rest := [.ref (m0)]) (own := RX6) (As := [.int (nI (j2))]) hx hb hml hown hts hl.1 hK hP [0, 1] rfl (metX6_inJar l D ac m0 z0 sd0 tx0 as0 rd0 th sv ln stp po tl hh z j2 (by omega)) gX6_decant_X6_inJar rfl 1 (by decide +kernel) ⟨rfl, rfl, Nat.le_of_ble_eq_true rfl, Nat.le_of_ble_eq_true rfl⟩ 0 6 rfl rfl rfl rfl rfl (Nat.le_of_ble_eq_true rfl) dX6_decant_52 ⟨Nat.zero_le _, Nat.zero_le _⟩) ?_
  refine lv_aload_n hx hb dX6_decant_55 rfl (lv_at hl 1 rfl) ?_
  refine lv_iload_n hx hb dX6_decant_56 rfl (lv_at hl 2 rfl) ?_
  refine lv_iload_n hx hb dX6_decant_57 rfl (lv_at hl 4 rfl) ?_
  refine z_ci (z_vrun (rest := [.int (qAll (qV z j2)), .ref (m0)]) (own := RX6) (As := [.int (nI (j1)), .int (nI (t))]) hx hb hml hown hts hl.1 hK hP [0, 1] rfl (metX6_upTo l D ac m0 z0 sd0 tx0 as0 rd0 th sv ln stp po tl hh z j1 t (by omega) (by omega)) gX6_decant_X6_upTo rfl 2 (by decide +kernel) ⟨rfl, rfl, Nat.le_of_ble_eq_true rfl, Nat.le_of_ble_eq_true rfl⟩ 0 6 rfl rfl rfl rfl rfl (Nat.le_of_ble_eq_true rfl) dX6_decant_58 ⟨Nat.zero_le _, Nat.zero_le _⟩) ?_
  refine lv_iadd hx hb dX6_decant_61 ?_
  refine lv_sipush (v := 5000) hx hb dX6_decant_62 (by decide) ?_
  refine lv_icmp_le (tgt := 72) hx hb dX6_decant_65 (by decide) (fun c_65 => absurd c_65 (Int32.not_le.mpr h3)) (fun c_65 => ?_)
  refine lv_iconst (v := 3) hx hb dX6_decant_68 (by decide) ?_
  refine lv_goto (tgt := 73) hx hb dX6_decant_69 (by decide) ?_
  refine va_put (ci := 6) (v := .int (3)) (ty := .int) (C := RX6) (T := TX6) (N := 12) hx hb hts (by decide +kernel) tyX6 tyX6_ok nmX6 hown hK hP hD hS 0 rfl rfl 0 (by decide) (hts (.fieldLink RX6 25 "SettlingJarsModel" "thrown" "I") (by decide +kernel)) (fun _ h9 => h9) rfl (by decide +kernel) rfl rfl (Nat.le_of_ble_eq_true rfl) dX6_decant_73 (fun H locs hP hD hS => ?_)
  have hP : va_P D vwCl [(m0, .inr (6, [.int (3), .ref (z0), .int (nI (sv)), .ref (sd0), .int (nI (ln)), .ref (tx0), .ref (as0), .int (nI (stp)), .int (nI (po)), .int (tl), .ref (rd0), .long (hh)])), (z0, .inl (ac 0, 162, .inl (z))), (sd0, .inl (ac 0, 972, .inl (sd))), (tx0, .inl (ac 0, 60, .inl (tx))), (as0, .inl (ac 0, 162, .inl (az))), (rd0, .inl (ac 0, 63, .inl (rd)))] H := hP
  have hD : va_D A [(m0, .inr (6, [.int (3), .ref (z0), .int (nI (sv)), .ref (sd0), .int (nI (ln)), .ref (tx0), .ref (as0), .int (nI (stp)), .int (nI (po)), .int (tl), .ref (rd0), .long (hh)])), (z0, .inl (ac 0, 162, .inl (z))), (sd0, .inl (ac 0, 972, .inl (sd))), (tx0, .inl (ac 0, 60, .inl (tx))), (as0, .inl (ac 0, 162, .inl (az))), (rd0, .inl (ac 0, 63, .inl (rd)))] := hD
  refine lv_aload_n hx hb dX6_decant_76 rfl (lv_at hl 1 rfl) ?_
  refine va_get (ci := 6) (v := .int (3)) (C := RX6) (T := TX6) (N := 12) hx hb hts (by decide +kernel) hown hK hP 0 rfl rfl 0 (by decide) (hts (.fieldLink RX6 25 "SettlingJarsModel" "thrown" "I") (by decide +kernel)) (fun _ h9 => h9) rfl dX6_decant_77 ?_
  refine lv_if_le (tgt := 85) hx hb dX6_decant_80 (by decide) (fun c_ => absurd c_ (by decide)) (fun _ => ?_)
  refine lv_iconst (v := 0) hx hb dX6_decant_83 (by decide) ?_
  exact z_iretW hx hb hr hlocks hK hP hD hS hAe (rfl) dX6_decant_84

