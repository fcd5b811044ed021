set_option maxRecDepth 100000 in
set_option maxHeartbeats 4000000 in
theorem metX6_stir_1 (l : Launch) (D : va_G) (ac : Nat → ClassId) (sz : Nat) (m0 : Nat) (z0 : Nat) (sd0 : Nat) (tx0 : Nat) (as0 : Nat) (rd0 : Nat) (th : Int32) (sv : Nat) (ln : Nat) (stp : Nat) (po : Nat) (tl : Int32) (hh : Int64) (z : Nat → Int32) (sd : Nat → Int32) (tx : Nat → Int32) (az : Nat → Int32) (rd : Nat → Int32) (x1 : Int32) (x2 : Int32) (x3 : Int32) (h1 : ¬ ((0 ≤ x1 ∧ x1 ≤ 2) ∧ (0 ≤ x2 ∧ x2 ≤ 11) ∧ (0 ≤ x3 ∧ x3 ≤ 11))) : Met l yX6_stir wsX6_stir ({ frames := 2, cells := 0, slots := 0, locals := 42 } : Room) (va_Pc [.ref (m0), .int (x1), .int (x2), .int (x3)] (zS D ac [(m0, .inr (6, [.int (th), .ref (z0), .int (nI (sv)), .ref (sd0), .int (nI (ln)), .ref (tx0), .ref (as0), .int (nI (stp)), .int (nI (po)), .int (tl), .ref (rd0), .long (hh)])), (z0, .inl (ac 0, 162, .inl (z))), (sd0, .inl (ac 0, 972, .inl (sd))), (tx0, .inl (ac 0, 60, .inl (tx))), (as0, .inl (ac 0, 162, .inl (az))), (rd0, .inl (ac 0, 63, .inl (rd)))] sz)) (zQi D ac [(m0, .inr (6, [.int (th), .ref (z0), .int (nI (sv)), .ref (sd0), .int (nI (ln)), .ref (tx0), .ref (as0), .int (nI (stp)), .int (nI (po)), .int (tl), .ref (rd0), .long (hh)])), (z0, .inl (ac 0, 162, .inl (z))), (sd0, .inl (ac 0, 972, .inl (sd))), (tx0, .inl (ac 0, 60, .inl (tx))), (as0, .inl (ac 0, 162, .inl (az))), (rd0, .inl (ac 0, 63, .inl (rd)))] [(m0, .inr (6, [.int (1), .ref (z0), .int (nI (sv)), .ref (sd0), .int (nI (ln)), .ref (tx0), .ref (as0), .int (nI (stp)), .int (nI (po)), .int (tl), .ref (rd0), .long (hh)])), (z0, .inl (ac 0, 162, .inl (z))), (sd0, .inl (ac 0, 972, .inl (sd))), (tx0, .inl (ac 0, 60, .inl (tx))), (as0, .inl (ac 0, 162, .inl (az))), (rd0, .inl (ac 0, 63, .inl (rd)))] sz (0)) 0 0 (va_A [(m0, .inr (6, [.int (th), .ref (z0), .int (nI (sv)), .ref (sd0), .int (nI (ln)), .ref (tx0), .ref (as0), .int (nI (stp)), .int (nI (po)), .int (tl), .ref (rd0), .long (hh)])), (z0, .inl (ac 0, 162, .inl (z))), (sd0, .inl (ac 0, 972, .inl (sd))), (tx0, .inl (ac 0, 60, .inl (tx))), (as0, .inl (ac 0, 162, .inl (az))), (rd0, .inl (ac 0, 63, .inl (rd)))] sz) := by
  refine z_rw (cc := cX6_stir) (maxL := 10) (ret := (some .int)) (lv := [(0, .ref (m0)), (1, .int (x1)), (2, .int (x2)), (3, .int (x3))]) (by decide) rfl (Nat.le_of_ble_eq_true rfl) rfl ?_
  intro p e s m args below meth c ls A hx hb hr hml hown hts hlocks hl hK hP hsz hAe hA hD hS
  refine lv_iload_n hx hb dX6_stir_0 rfl (lv_at hl 1 rfl) ?_
  refine z_ci (z_srun (rest := []) (own := RX6) (As := [.int (x1)]) hx hb hml hown hts hl.1 hK hP [] rfl (metX6_isJar l D ac x1 ) gX6_stir_X6_isJar rfl 1 (by decide +kernel) ⟨rfl, rfl, Nat.le_of_ble_eq_true rfl, Nat.le_of_ble_eq_true rfl⟩ rfl rfl (Nat.le_of_ble_eq_true rfl) dX6_stir_1 ⟨Nat.zero_le _, Nat.zero_le _⟩) ?_
  refine z_if_eq (C := 0 ≤ x1 ∧ x1 ≤ 2) (tgt := 25) hx hb dX6_stir_4 (by decide) (fun c_4 => ?_) (fun c_4 => ?_)
  · refine lv_iconst (v := 0) hx hb dX6_stir_25 (by decide) ?_
    refine lv_istore (lv' := [(4, .int (0)), (0, .ref (m0)), (1, .int (x1)), (2, .int (x2)), (3, .int (x3))]) hx hb dX6_stir_26 hl (by decide) rfl (fun ls hl => ?_)
    refine lv_aload_n hx hb dX6_stir_28 rfl (lv_at hl 1 rfl) ?_
    refine lv_iload hx hb dX6_stir_29 (lv_at hl 0 rfl) ?_
    refine lv_if_ne (tgt := 38) hx hb dX6_stir_31 (by decide) (fun c_ => absurd (by decide) c_) (fun _ => ?_)
    refine lv_iconst (v := 1) hx hb dX6_stir_34 (by decide) ?_
    refine lv_goto (tgt := 48) hx hb dX6_stir_35 (by decide) ?_
    refine va_put (ci := 6) (v := .int (1)) (ty := .int) (C := RX6) (T := TX6) (N := 12) hx hb hts (by decide +kernel) tyX6 tyX6_ok nmX6 hown hK hP hD hS 0 rfl rfl 0 (by decide) (hts (.fieldLink RX6 25 "SettlingJarsModel" "thrown" "I") (by decide +kernel)) (fun _ h9 => h9) rfl (by decide +kernel) rfl rfl (Nat.le_of_ble_eq_true rfl) dX6_stir_48 (fun H locs hP hD hS => ?_)
    have hP : va_P D vwCl [(m0, .inr (6, [.int (1), .ref (z0), .int (nI (sv)), .ref (sd0), .int (nI (ln)), .ref (tx0), .ref (as0), .int (nI (stp)), .int (nI (po)), .int (tl), .ref (rd0), .long (hh)])), (z0, .inl (ac 0, 162, .inl (z))), (sd0, .inl (ac 0, 972, .inl (sd))), (tx0, .inl (ac 0, 60, .inl (tx))), (as0, .inl (ac 0, 162, .inl (az))), (rd0, .inl (ac 0, 63, .inl (rd)))] H := hP
    have hD : va_D A [(m0, .inr (6, [.int (1), .ref (z0), .int (nI (sv)), .ref (sd0), .int (nI (ln)), .ref (tx0), .ref (as0), .int (nI (stp)), .int (nI (po)), .int (tl), .ref (rd0), .long (hh)])), (z0, .inl (ac 0, 162, .inl (z))), (sd0, .inl (ac 0, 972, .inl (sd))), (tx0, .inl (ac 0, 60, .inl (tx))), (as0, .inl (ac 0, 162, .inl (az))), (rd0, .inl (ac 0, 63, .inl (rd)))] := hD
    refine lv_aload_n hx hb dX6_stir_51 rfl (lv_at hl 1 rfl) ?_
    refine va_get (ci := 6) (v := .int (1)) (C := RX6) (T := TX6) (N := 12) hx hb hts (by decide +kernel) hown hK hP 0 rfl rfl 0 (by decide) (hts (.fieldLink RX6 25 "SettlingJarsModel" "thrown" "I") (by decide +kernel)) (fun _ h9 => h9) rfl dX6_stir_52 ?_
    refine lv_if_le (tgt := 60) hx hb dX6_stir_55 (by decide) (fun c_ => absurd c_ (by decide)) (fun _ => ?_)
    refine lv_iconst (v := 0) hx hb dX6_stir_58 (by decide) ?_
    exact z_iretW hx hb hr hlocks hK hP hD hS hAe (rfl) dX6_stir_59
  · refine lv_iload_n hx hb dX6_stir_7 rfl (lv_at hl 2 rfl) ?_
    refine z_ci (z_srun (rest := []) (own := RX6) (As := [.int (x2)]) hx hb hml hown hts hl.1 hK hP [] rfl (metX6_isSlice l D ac x2 ) gX6_stir_X6_isSlice rfl 1 (by decide +kernel) ⟨rfl, rfl, Nat.le_of_ble_eq_true rfl, Nat.le_of_ble_eq_true rfl⟩ rfl rfl (Nat.le_of_ble_eq_true rfl) dX6_stir_8 ⟨Nat.zero_le _, Nat.zero_le _⟩) ?_
    refine z_if_eq (C := 0 ≤ x2 ∧ x2 ≤ 11) (tgt := 25) hx hb dX6_stir_11 (by decide) (fun c_11 => ?_) (fun c_11 => ?_)
    · refine lv_iconst (v := 0) hx hb dX6_stir_25 (by decide) ?_
      refine lv_istore (lv' := [(4, .int (0)), (0, .ref (m0)), (1, .int (x1)), (2, .int (x2)), (3, .int (x3))]) hx hb dX6_stir_26 hl (by decide) rfl (fun ls hl => ?_)
      refine lv_aload_n hx hb dX6_stir_28 rfl (lv_at hl 1 rfl) ?_
      refine lv_iload hx hb dX6_stir_29 (lv_at hl 0 rfl) ?_
      refine lv_if_ne (tgt := 38) hx hb dX6_stir_31 (by decide) (fun c_ => absurd (by decide) c_) (fun _ => ?_)
      refine lv_iconst (v := 1) hx hb dX6_stir_34 (by decide) ?_
      refine lv_goto (tgt := 48) hx hb dX6_stir_35 (by decide) ?_
      refine va_put (ci := 6) (v := .int (1)) (ty := .int) (C := RX6) (T := TX6) (N := 12) hx hb hts (by decide +kernel) tyX6 tyX6_ok nmX6 hown hK hP hD hS 0 rfl rfl 0 (by decide) (hts (.fieldLink RX6 25 "SettlingJarsModel" "thrown" "I") (by decide +kernel)) (fun _ h9 => h9) rfl (by decide +kernel) rfl rfl (Nat.le_of_ble_eq_true rfl) dX6_stir_48 (fun H locs hP hD hS => ?_)
      have hP : va_P D vwCl [(m0, .inr (6, [.int (1), .ref (z0), .int (nI (sv)), .ref (sd0), .int (nI (ln)), .ref (tx0), .ref (as0), .int (nI (stp)), .int (nI (po)), .int (tl), .ref (rd0), .long (hh)])), (z0, .inl (ac 0, 162, .inl (z))), (sd0, .inl (ac 0, 972, .inl (sd))), (tx0, .inl (ac 0, 60, .inl (tx))), (as0, .inl (ac 0, 162, .inl (az))), (rd0, .inl (ac 0, 63, .inl (rd)))] H := hP
      have hD : va_D A [(m0, .inr (6, [.int (1), .ref (z0), .int (nI (sv)), .ref (sd0), .int (nI (ln)), .ref (tx0), .ref (as0), .int (nI (stp)), .int (nI (po)), .int (tl), .ref (rd0), .long (hh)])), (z0, .inl (ac 0, 162, .inl (z))), (sd0, .inl (ac 0, 972, .inl (sd))), (tx0, .inl (ac 0, 60, .inl (tx))), (as0, .inl (ac 0, 162, .inl (az))), (rd0, .inl (ac 0, 63, .inl (rd)))] := hD
      refine lv_aload_n hx hb dX6_stir_51 rfl (lv_at hl 1 rfl) ?_
      refine va_get (ci := 6) (v := .int (1)) (C := RX6) (T := TX6) (N := 12) hx hb hts (by decide +kernel) hown hK hP 0 rfl rfl 0 (by decide) (hts (.fieldLink RX6 25 "SettlingJarsModel" "thrown" "I") (by decide +kernel)) (fun _ h9 => h9) rfl dX6_stir_52 ?_
      refine lv_if_le (tgt := 60) hx hb dX6_stir_55 (by decide) (fun c_ => absurd c_ (by decide)) (fun _ => ?_)
      refine lv_iconst (v := 0) hx hb dX6_stir_58 (by decide) ?_
      exact z_iretW hx hb hr hlocks hK hP hD hS hAe (rfl) dX6_stir_59
    · refine lv_iload_n hx hb dX6_stir_14 rfl (lv_at hl 3 rfl) ?_
      refine z_ci (z_srun (rest := []) (own := RX6) (As := [.int (x3)]) hx hb hml hown hts hl.1 hK hP [] rfl (metX6_isSlice l D ac x3 ) gX6_stir_X6_isSlice rfl 1 (by decide +kernel) ⟨rfl, rfl, Nat.le_of_ble_eq_true rfl, Nat.le_of_ble_eq_true rfl⟩ rfl rfl (Nat.le_of_ble_eq_true rfl) dX6_stir_15 ⟨Nat.zero_le _, Nat.zero_le _⟩) ?_
      refine z_if_eq (C := 0 ≤ x3 ∧ x3 ≤ 11) (tgt := 25) hx hb dX6_stir_18 (by decide) (fun c_18 => ?_) (fun c_18 => absurd c_18 (fun q => h1 ⟨c_4, c_11, q⟩))
      refine lv_iconst (v := 0) hx hb dX6_stir_25 (by decide) ?_
      refine lv_istore (lv' := [(4, .int (0)), (0, .ref (m0)), (1, .int (x1)), (2, .int (x2)), (3, .int (x3))]) hx hb dX6_stir_26 hl (by decide) rfl (fun ls hl => ?_)
      refine lv_aload_n hx hb dX6_stir_28 rfl (lv_at hl 1 rfl) ?_
      refine lv_iload hx hb dX6_stir_29 (lv_at hl 0 rfl) ?_
      refine lv_if_ne (tgt := 38) hx hb dX6_stir_31 (by decide) (fun c_ => absurd (by decide) c_) (fun _ => ?_)
      refine lv_iconst (v := 1) hx hb dX6_stir_34 (by decide) ?_
      refine lv_goto (tgt := 48) hx hb dX6_stir_35 (by decide) ?_
      refine va_put (ci := 6) (v := .int (1)) (ty := .int) (C := RX6) (T := TX6) (N := 12) hx hb hts (by decide +kernel) tyX6 tyX6_ok nmX6 hown hK hP hD hS 0 rfl rfl 0 (by decide) (hts (.fieldLink RX6 25 "SettlingJarsModel" "thrown" "I") (by decide +kernel)) (fun _ h9 => h9) rfl (by decide +kernel) rfl rfl (Nat.le_of_ble_eq_true rfl) dX6_stir_48 (fun H locs hP hD hS => ?_)
      have hP : va_P D vwCl [(m0, .inr (6, [.int (1), .ref (z0), .int (nI (sv)), .ref (sd0), .int (nI (ln)), .ref (tx0), .ref (as0), .int (nI (stp)), .int (nI (po)), .int (tl), .ref (rd0), .long (hh)])), (z0, .inl (ac 0, 162, .inl (z))), (sd0, .inl (ac 0, 972, .inl (sd))), (tx0, .inl (ac 0, 60, .inl (tx))), (as0, .inl (ac 0, 162, .inl (az))), (rd0, .inl (ac 0, 63, .inl (rd)))] H := hP
      have hD : va_D A [(m0, .inr (6, [.int (1), .ref (z0), .int (nI (sv)), .ref (sd0), .int (nI (ln)), .ref (tx0), .ref (as0), .int (nI (stp)), .int (nI (po)), .int (tl), .ref (rd0), .long (hh)])), (z0, .inl (ac 0, 162, .inl (z))), (sd0, .inl (ac 0, 972, .inl (sd))), (tx0, .inl (ac 0, 60, .inl (tx))), (as0, .inl (ac 0, 162, .inl (az))), (rd0, .inl (ac 0, 63, .inl (rd)))] := hD
      refine lv_aload_n hx hb dX6_stir_51 rfl (lv_at hl 1 rfl) ?_
      refine va_get (ci := 6) (v := .int (1)) (C := RX6) (T := TX6) (N := 12) hx hb hts (by decide +kernel) hown hK hP 0 rfl rfl 0 (by decide) (hts (.fieldLink RX6 25 "SettlingJarsModel" "thrown" "I") (by decide +kernel)) (fun _ h9 => h9) rfl dX6_stir_52 ?_
      refine lv_if_le (tgt := 60) hx hb dX6_stir_55 (by decide) (fun c_ => absurd c_ (by decide)) (fun _ => ?_)
      refine lv_iconst (v := 0) hx hb dX6_stir_58 (by decide) ?_
      exact z_iretW hx hb hr hlocks hK hP hD hS hAe (rfl) dX6_stir_59

set_option maxRecDepth 100000 in
set_option maxHeartbeats 4000000 in
theorem metX6_stir_2 (l : Launch) (D : va_G) (ac : Nat → ClassId) (sz : Nat) (m0 : Nat) (z0 : Nat) (sd0 : Nat) (tx0 : Nat) (as0 : Nat) (rd0 : Nat) (th : Int32) (sv : Nat) (ln : Nat) (stp : Nat) (po : Nat) (tl : Int32) (hh : Int64) (z : Nat → Int32) (sd : Nat → Int32) (tx : Nat → Int32) (az : Nat → Int32) (rd : Nat → Int32) (j1 : Nat) (a : Nat) (b : Nat) (hj : j1 < 3) (ha : a < 12) (hb1 : b < 12) (h2 : b < a) : Met l yX6_stir wsX6_stir ({ frames := 2, cells := 0, slots := 0, locals := 42 } : Room) (va_Pc [.ref (m0), .int (nI (j1)), .int (nI (a)), .int (nI (b))] (zS D ac [(m0, .inr (6, [.int (th), .ref (z0), .int (nI (sv)), .ref (sd0), .int (nI (ln)), .ref (tx0), .ref (as0), .int (nI (stp)), .int (nI (po)), .int (tl), .ref (rd0), .long (hh)])), (z0, .inl (ac 0, 162, .inl (z))), (sd0, .inl (ac 0, 972, .inl (sd))), (tx0, .inl (ac 0, 60, .inl (tx))), (as0, .inl (ac 0, 162, .inl (az))), (rd0, .inl (ac 0, 63, .inl (rd)))] sz)) (zQi D ac [(m0, .inr (6, [.int (th), .ref (z0), .int (nI (sv)), .ref (sd0), .int (nI (ln)), .ref (tx0), .ref (as0), .int (nI (stp)), .int (nI (po)), .int (tl), .ref (rd0), .long (hh)])), (z0, .inl (ac 0, 162, .inl (z))), (sd0, .inl (ac 0, 972, .inl (sd))), (tx0, .inl (ac 0, 60, .inl (tx))), (as0, .inl (ac 0, 162, .inl (az))), (rd0, .inl (ac 0, 63, .inl (rd)))] [(m0, .inr (6, [.int (2), .ref (z0), .int (nI (sv)), .ref (sd0), .int (nI (ln)), .ref (tx0), .ref (as0), .int (nI (stp)), .int (nI (po)), .int (tl), .ref (rd0), .long (hh)])), (z0, .inl (ac 0, 162, .inl (z))), (sd0, .inl (ac 0, 972, .inl (sd))), (tx0, .inl (ac 0, 60, .inl (tx))), (as0, .inl (ac 0, 162, .inl (az))), (rd0, .inl (ac 0, 63, .inl (rd)))] sz (0)) 0 0 (va_A [(m0, .inr (6, [.int (th), .ref (z0), .int (nI (sv)), .ref (sd0), .int (nI (ln)), .ref (tx0), .ref (as0), .int (nI (stp)), .int (nI (po)), .int (tl), .ref (rd0), .long (hh)])), (z0, .inl (ac 0, 162, .inl (z))), (sd0, .inl (ac 0, 972, .inl (sd))), (tx0, .inl (ac 0, 60, .inl (tx))), (as0, .inl (ac 0, 162, .inl (az))), (rd0, .inl (ac 0, 63, .inl (rd)))] sz) := by
  refine z_rw (cc := cX6_stir) (maxL := 10) (ret := (some .int)) (lv := [(0, .ref (m0)), (1, .int (nI (j1))), (2, .int (nI (a))), (3, .int (nI (b)))]) (by decide) rfl (Nat.le_of_ble_eq_true rfl) rfl ?_
  intro p e s m args below meth c ls A hx hb hr hml hown hts hlocks hl hK hP hsz hAe hA hD hS
  refine lv_iload_n hx hb dX6_stir_0 rfl (lv_at hl 1 rfl) ?_
  refine z_ci (z_srun (rest := []) (own := RX6) (As := [.int (nI (j1))]) hx hb hml hown hts hl.1 hK hP [] rfl (metX6_isJar l D ac (nI (j1)) ) gX6_stir_X6_isJar rfl 1 (by decide +kernel) ⟨rfl, rfl, Nat.le_of_ble_eq_true rfl, Nat.le_of_ble_eq_true rfl⟩ rfl rfl (Nat.le_of_ble_eq_true rfl) dX6_stir_1 ⟨Nat.zero_le _, Nat.zero_le _⟩) ?_
  refine z_if_eq (C := 0 ≤ (nI (j1)) ∧ (nI (j1)) ≤ 2) (tgt := 25) hx hb dX6_stir_4 (by decide) (fun c_4 => absurd c_4 (fun q => q (z_in (n := 2) (by omega)))) (fun c_4 => ?_)
  refine lv_iload_n hx hb dX6_stir_7 rfl (lv_at hl 2 rfl) ?_
  refine z_ci (z_srun (rest := []) (own := RX6) (As := [.int (nI (a))]) hx hb hml hown hts hl.1 hK hP [] rfl (metX6_isSlice l D ac (nI (a)) ) gX6_stir_X6_isSlice rfl 1 (by decide +kernel) ⟨rfl, rfl, Nat.le_of_ble_eq_true rfl, Nat.le_of_ble_eq_true rfl⟩ rfl rfl (Nat.le_of_ble_eq_true rfl) dX6_stir_8 ⟨Nat.zero_le _, Nat.zero_le _⟩) ?_
  refine z_if_eq (C := 0 ≤ (nI (a)) ∧ (nI (a)) ≤ 11) (tgt := 25) hx hb dX6_stir_11 (by decide) (fun c_11 => absurd c_11 (fun q => q (z_in (n := 11) (by omega)))) (fun c_11 => ?_)
  refine lv_iload_n hx hb dX6_stir_14 rfl (lv_at hl 3 rfl) ?_
  refine z_ci (z_srun (rest := []) (own := RX6) (As := [.int (nI (b))]) hx hb hml hown hts hl.1 hK hP [] rfl (metX6_isSlice l D ac (nI (b)) ) gX6_stir_X6_isSlice rfl 1 (by decide +kernel) ⟨rfl, rfl, Nat.le_of_ble_eq_true rfl, Nat.le_of_ble_eq_true rfl⟩ rfl rfl (Nat.le_of_ble_eq_true rfl) dX6_stir_15 ⟨Nat.zero_le _, Nat.zero_le _⟩) ?_
  refine z_if_eq (C := 0 ≤ (nI (b)) ∧ (nI (b)) ≤ 11) (tgt := 25) hx hb dX6_stir_18 (by decide) (fun c_18 => absurd c_18 (fun q => q (z_in (n := 11) (by omega)))) (fun c_18 => ?_)
  refine lv_iconst (v := 1) hx hb dX6_stir_21 (by decide) ?_
  refine lv_goto (tgt := 26) hx hb dX6_stir_22 (by decide) ?_
  refine lv_istore (lv' := [(4, .int (1)), (0, .ref (m0)), (1, .int (nI (j1))), (2, .int (nI (a))), (3, .int (nI (b)))]) hx hb dX6_stir_26 hl (by decide) rfl (fun ls hl => ?_)
  refine lv_aload_n hx hb dX6_stir_28 rfl (lv_at hl 1 rfl) ?_
  refine lv_iload hx hb dX6_stir_29 (lv_at hl 0 rfl) ?_
  refine lv_if_ne (tgt := 38) hx hb dX6_stir_31 (by decide) (fun _ => ?_) (fun c_ => absurd c_ (by decide))
  refine lv_iload_n hx hb dX6_stir_38 rfl (lv_at hl 3 rfl) ?_
  refine lv_iload_n hx hb dX6_stir_39 rfl (lv_at hl 4 rfl) ?_
  refine z_icmp_le (tgt := 47) hx hb (a) (b) dX6_stir_40 (by decide) (by omega) (by omega) rfl rfl (fun c_40 => absurd c_40 (by omega)) (fun c_40 => ?_)
  refine lv_iconst (v := 2) hx hb dX6_stir_43 (by decide) ?_
  refine lv_goto (tgt := 48) hx hb dX6_stir_44 (by decide) ?_
  refine va_put (ci := 6) (v := .int (2)) (ty := .int) (C := RX6) (T := TX6) (N := 12) hx hb hts (by decide +kernel) tyX6 tyX6_ok nmX6 hown hK hP hD hS 0 rfl rfl 0 (by decide) (hts (.fieldLink RX6 25 "SettlingJarsModel" "thrown" "I") (by decide +kernel)) (fun _ h9 => h9) rfl (by decide +kernel) rfl rfl (Nat.le_of_ble_eq_true rfl) dX6_stir_48 (fun H locs hP hD hS => ?_)
  have hP : va_P D vwCl [(m0, .inr (6, [.int (2), .ref (z0), .int (nI (sv)), .ref (sd0), .int (nI (ln)), .ref (tx0), .ref (as0), .int (nI (stp)), .int (nI (po)), .int (tl), .ref (rd0), .long (hh)])), (z0, .inl (ac 0, 162, .inl (z))), (sd0, .inl (ac 0, 972, .inl (sd))), (tx0, .inl (ac 0, 60, .inl (tx))), (as0, .inl (ac 0, 162, .inl (az))), (rd0, .inl (ac 0, 63, .inl (rd)))] H := hP
  have hD : va_D A [(m0, .inr (6, [.int (2), .ref (z0), .int (nI (sv)), .ref (sd0), .int (nI (ln)), .ref (tx0), .ref (as0), .int (nI (stp)), .int (nI (po)), .int (tl), .ref (rd0), .long (hh)])), (z0, .inl (ac 0, 162, .inl (z))), (sd0, .inl (ac 0, 972, .inl (sd))), (tx0, .inl (ac 0, 60, .inl (tx))), (as0, .inl (ac 0, 162, .inl (az))), (rd0, .inl (ac 0, 63, .inl (rd)))] := hD
  refine lv_aload_n hx hb dX6_stir_51 rfl (lv_at hl 1 rfl) ?_
  refine va_get (ci := 6) (v := .int (2)) (C := RX6) (T := TX6) (N := 12) hx hb hts (by decide +kernel) hown hK hP 0 rfl rfl 0 (by decide) (hts (.fieldLink RX6 25 "SettlingJarsModel" "thrown" "I") (by decide +kernel)) (fun _ h9 => h9) rfl dX6_stir_52 ?_
  refine lv_if_le (tgt := 60) hx hb dX6_stir_55 (by decide) (fun c_ => absurd c_ (by decide)) (fun _ => ?_)
  refine lv_iconst (v := 0) hx hb dX6_stir_58 (by decide) ?_
  exact z_iretW hx hb hr hlocks hK hP hD hS hAe (rfl) dX6_stir_59

set_option maxRecDepth 100000 in
set_option maxHeartbeats 4000000 in
theorem metX6_stir_0 (l : Launch) (D : va_G) (ac : Nat → ClassId) (sz : Nat) (m0 : Nat) (z0 : Nat) (sd0 : Nat) (tx0 : Nat) (as0 : Nat) (rd0 : Nat) (th : Int32) (sv : Nat) (ln : Nat) (stp : Nat) (po : Nat) (tl : Int32) (hh : Int64) (z : Nat → Int32) (sd : Nat → Int32) (tx : Nat → Int32) (az : Nat → Int32) (rd : Nat → Int32) (j1 : Nat) (a : Nat) (b : Nat) (hj : j1 < 3) (ha : a < 12) (hb1 : b < 12) (h2 : a ≤ b) (hsv : sv ≤ 6) : Met l yX6_stir wsX6_stir ({ frames := 2, cells := 0, slots := 0, locals := 42 } : Room) (va_Pc [.ref (m0), .int (nI (j1)), .int (nI (a)), .int (nI (b))] (zS D ac [(m0, .inr (6, [.int (th), .ref (z0), .int (nI (sv)), .ref (sd0), .int (nI (ln)), .ref (tx0), .ref (as0), .int (nI (stp)), .int (nI (po)), .int (tl), .ref (rd0), .long (hh)])), (z0, .inl (ac 0, 162, .inl (z))), (sd0, .inl (ac 0, 972, .inl (sd))), (tx0, .inl (ac 0, 60, .inl (tx))), (as0, .inl (ac 0, 162, .inl (az))), (rd0, .inl (ac 0, 63, .inl (rd)))] sz)) (zQi D ac [(m0, .inr (6, [.int (th), .ref (z0), .int (nI (sv)), .ref (sd0), .int (nI (ln)), .ref (tx0), .ref (as0), .int (nI (stp)), .int (nI (po)), .int (tl), .ref (rd0), .long (hh)])), (z0, .inl (ac 0, 162, .inl (z))), (sd0, .inl (ac 0, 972, .inl (sd))), (tx0, .inl (ac 0, 60, .inl (tx))), (as0, .inl (ac 0, 162, .inl (az))), (rd0, .inl (ac 0, 63, .inl (rd)))] [(m0, .inr (6, [.int (0), .ref (z0), .int (nI (mSv sv + 1)), .ref (sd0), .int (nI (ln)), .ref (tx0), .ref (as0), .int (nI (stp)), .int (nI (po)), .int (tl), .ref (rd0), .long (hh)])), (z0, .inl (ac 0, 162, .inl ((mStir z j1 a b 4).1))), (sd0, .inl (ac 0, 972, .inl (mSave sd z sv))), (tx0, .inl (ac 0, 60, .inl (tx))), (as0, .inl (ac 0, 162, .inl (az))), (rd0, .inl (ac 0, 63, .inl (rd)))] sz ((mStir z j1 a b 4).2)) 0 0 (va_A [(m0, .inr (6, [.int (th), .ref (z0), .int (nI (sv)), .ref (sd0), .int (nI (ln)), .ref (tx0), .ref (as0), .int (nI (stp)), .int (nI (po)), .int (tl), .ref (rd0), .long (hh)])), (z0, .inl (ac 0, 162, .inl (z))), (sd0, .inl (ac 0, 972, .inl (sd))), (tx0, .inl (ac 0, 60, .inl (tx))), (as0, .inl (ac 0, 162, .inl (az))), (rd0, .inl (ac 0, 63, .inl (rd)))] sz) := by
  refine z_rw (cc := cX6_stir) (maxL := 10) (ret := (some .int)) (lv := [(0, .ref (m0)), (1, .int (nI (j1))), (2, .int (nI (a))), (3, .int (nI (b)))]) (by decide) rfl (Nat.le_of_ble_eq_true rfl) rfl ?_
  intro p e s m args below meth c ls A hx hb hr hml hown hts hlocks hl hK hP hsz hAe hA hD hS
  refine lv_iload_n hx hb dX6_stir_0 rfl (lv_at hl 1 rfl) ?_
  refine z_ci (z_srun (rest := []) (own := RX6) (As := [.int (nI (j1))]) hx hb hml hown hts hl.1 hK hP [] rfl (metX6_isJar l D ac (nI (j1)) ) gX6_stir_X6_isJar rfl 1 (by decide +kernel) ⟨rfl, rfl, Nat.le_of_ble_eq_true rfl, Nat.le_of_ble_eq_true rfl⟩ rfl rfl (Nat.le_of_ble_eq_true rfl) dX6_stir_1 ⟨Nat.zero_le _, Nat.zero_le _⟩) ?_
  refine z_if_eq (C := 0 ≤ (nI (j1)) ∧ (nI (j1)) ≤ 2) (tgt := 25) hx hb dX6_stir_4 (by decide) (fun c_4 => absurd c_4 (fun q => q (z_in (n := 2) (by omega)))) (fun c_4 => ?_)
  refine lv_iload_n hx hb dX6_stir_7 rfl (lv_at hl 2 rfl) ?_
  refine z_ci (z_srun (rest := []) (own := RX6) (As := [.int (nI (a))]) hx hb hml hown hts hl.1 hK hP [] rfl (metX6_isSlice l D ac (nI (a)) ) gX6_stir_X6_isSlice rfl 1 (by decide +kernel) ⟨rfl, rfl, Nat.le_of_ble_eq_true rfl, Nat.le_of_ble_eq_true rfl⟩ rfl rfl (Nat.le_of_ble_eq_true rfl) dX6_stir_8 ⟨Nat.zero_le _, Nat.zero_le _⟩) ?_
  refine z_if_eq (C := 0 ≤ (nI (a)) ∧ (nI (a)) ≤ 11) (tgt := 25) hx hb dX6_stir_11 (by decide) (fun c_11 => absurd c_11 (fun q => q (z_in (n := 11) (by omega)))) (fun c_11 => ?_)
  refine lv_iload_n hx hb dX6_stir_14 rfl (lv_at hl 3 rfl) ?_
  refine z_ci (z_srun (rest := []) (own := RX6) (As := [.int (nI (b))]) hx hb hml hown hts hl.1 hK hP [] rfl (metX6_isSlice l D ac (nI (b)) ) gX6_stir_X6_isSlice rfl 1 (by decide +kernel) ⟨rfl, rfl, Nat.le_of_ble_eq_true rfl, Nat.le_of_ble_eq_true rfl⟩ rfl rfl (Nat.le_of_ble_eq_true rfl) dX6_stir_15 ⟨Nat.zero_le _, Nat.zero_le _⟩) ?_
  refine z_if_eq (C := 0 ≤ (nI (b)) ∧ (nI (b)) ≤ 11) (tgt := 25) hx hb dX6_stir_18 (by decide) (fun c_18 => absurd c_18 (fun q => q (z_in (n := 11) (by omega)))) (fun c_18 => ?_)
  refine lv_iconst (v := 1) hx hb dX6_stir_21 (by decide) ?_
  refine lv_goto (tgt := 26) hx hb dX6_stir_22 (by decide) ?_
  refine lv_istore (lv' := [(4, .int (1)), (0, .ref (m0)), (1, .int (nI (j1))), (2, .int (nI (a))), (3, .int (nI (b)))]) hx hb dX6_stir_26 hl (by decide) rfl (fun ls hl => ?_)
  refine lv_aload_n hx hb dX6_stir_28 rfl (lv_at hl 1 rfl) ?_
  refine lv_iload hx hb dX6_stir_29 (lv_at hl 0 rfl) ?_
  refine lv_if_ne (tgt := 38) hx hb dX6_stir_31 (by decide) (fun _ => ?_) (fun c_ => absurd c_ (by decide))
  refine lv_iload_n hx hb dX6_stir_38 rfl (lv_at hl 3 rfl) ?_
  refine lv_iload_n hx hb dX6_stir_39 rfl (lv_at hl 4 rfl) ?_
  refine z_icmp_le (tgt := 47) hx hb (a) (b) dX6_stir_40 (by decide) (by omega) (by omega) rfl rfl (fun c_40 => ?_) (fun c_40 => absurd c_40 (by omega))
  refine lv_iconst (v := 0) hx hb dX6_stir_47 (by decide) ?_
  refine va_put (ci := 6) (v := .int (0)) (ty := .int) (C := RX6) (T := TX6) (N := 12) hx hb hts (by decide +kernel) tyX6 tyX6_ok nmX6 hown hK hP hD hS 0 rfl rfl 0 (by decide) (hts (.fieldLink RX6 25 "SettlingJarsModel" "thrown" "I") (by decide +kernel)) (fun _ h9 => h9) rfl (by decide +kernel) rfl rfl (Nat.le_of_ble_eq_true rfl) dX6_stir_48 (fun H locs hP hD hS => ?_)
  have hP : va_P D vwCl [(m0, .inr (6, [.int (0), .ref (z0), .int (nI (sv)), .ref (sd0), .int (nI (ln)), .ref (tx0), .ref (as0), .int (nI (stp)), .int (nI (po)), .int (tl), .ref (rd0), .long (hh)])), (z0, .inl (ac 0, 162, .inl (z))), (sd0, .inl (ac 0, 972, .inl (sd))), (tx0, .inl (ac 0, 60, .inl (tx))), (as0, .inl (ac 0, 162, .inl (az))), (rd0, .inl (ac 0, 63, .inl (rd)))] H := hP
  have hD : va_D A [(m0, .inr (6, [.int (0), .ref (z0), .int (nI (sv)), .ref (sd0), .int (nI (ln)), .ref (tx0), .ref (as0), .int (nI (stp)), .int (nI (po)), .int (tl), .ref (rd0), .long (hh)])), (z0, .inl (ac 0, 162, .inl (z))), (sd0, .inl (ac 0, 972, .inl (sd))), (tx0, .inl (ac 0, 60, .inl (tx))), (as0, .inl (ac 0, 162, .inl (az))), (rd0, .inl (ac 0, 63, .inl (rd)))] := hD
  refine lv_aload_n hx hb dX6_stir_51 rfl (lv_at hl 1 rfl) ?_
  refine va_get (ci := 6) (v := .int (0)) (C := RX6) (T := TX6) (N := 12) hx hb hts (by decide +kernel) hown hK hP 0 rfl rfl 0 (by decide) (hts (.fieldLink RX6 25 "SettlingJarsModel" "thrown" "I") (by decide +kernel)) (fun _ h9 => h9) rfl dX6_stir_52 ?_
  refine lv_if_le (tgt := 60) hx hb dX6_stir_55 (by decide) (fun _ => ?_) (fun c_ => absurd (by decide) c_)
  refine lv_aload_n hx hb dX6_stir_60 rfl (lv_at hl 1 rfl) ?_
  refine z_cvW [(m0, .inr (6, [.int (0), .ref (z0), .int (nI (mSv sv + 1)), .ref (sd0), .int (nI (ln)), .ref (tx0), .ref (as0), .int (nI (stp)), .int (nI (po)), .int (tl), .ref (rd0), .long (hh)])), (z0, .inl (ac 0, 162, .inl (z))), (sd0, .inl (ac 0, 972, .inl (mSave sd z sv))), (tx0, .inl (ac 0, 60, .inl (tx))), (as0, .inl (ac 0, 162, .inl (az))), (rd0, .inl (ac 0, 63, .inl (rd)))] (z_vrunW (rest := []) (own := RX6) (As := []) hx hb hml hown hts hl.1 hK hP hD [0, 1, 2, 3, 4, 5] rfl (by decide) rfl (metX6_save l D ac _ m0 z0 sd0 tx0 as0 rd0 0 sv ln stp po tl hh z sd tx az rd (by omega)) gX6_stir_X6_save rfl 0 (by decide +kernel) ⟨rfl, rfl, Nat.le_of_ble_eq_true rfl, Nat.le_of_ble_eq_true rfl⟩ 0 6 rfl rfl rfl rfl rfl (Nat.le_of_ble_eq_true rfl) dX6_stir_61 ⟨Nat.zero_le _, Nat.zero_le _⟩) hP hD hS hA [0, 1, 2, 3, 4, 5] [] [0, 1, 2, 3, 4, 5] rfl rfl (by decide) (by decide) (by decide) rfl (fun H locs hP hD hS => ?_)
  refine lv_iload_n hx hb dX6_stir_64 rfl (lv_at hl 4 rfl) ?_
  refine lv_iload_n hx hb dX6_stir_65 rfl (lv_at hl 3 rfl) ?_
  refine lv_isub hx hb dX6_stir_66 ?_
  refine z_top (y := nI ((b) - (a))) (pk_sub (a := b) (b := a) (by omega)) ?_
  refine lv_iconst (v := 1) hx hb dX6_stir_67 (by decide) ?_
  refine lv_iadd hx hb dX6_stir_68 ?_
  refine z_top (y := nI (((b) - (a)) + (1))) (nI_add ((b) - (a)) (1)) ?_
  refine lv_istore (lv' := [(5, .int (nI (((b) - (a)) + (1)))), (4, .int (1)), (0, .ref (m0)), (1, .int (nI (j1))), (2, .int (nI (a))), (3, .int (nI (b)))]) hx hb dX6_stir_69 hl (by decide) rfl (fun ls hl => ?_)
  refine lv_iconst (v := 0) hx hb dX6_stir_71 (by decide) ?_
  refine lv_istore (lv' := [(6, .int (0)), (5, .int (nI (((b) - (a)) + (1)))), (4, .int (1)), (0, .ref (m0)), (1, .int (nI (j1))), (2, .int (nI (a))), (3, .int (nI (b)))]) hx hb dX6_stir_72 hl (by decide) rfl (fun ls hl => ?_)
  refine lv_iconst (v := 0) hx hb dX6_stir_74 (by decide) ?_
  refine lv_istore (lv' := [(7, .int (0)), (6, .int (0)), (5, .int (nI (((b) - (a)) + (1)))), (4, .int (1)), (0, .ref (m0)), (1, .int (nI (j1))), (2, .int (nI (a))), (3, .int (nI (b)))]) hx hb dX6_stir_75 hl (by decide) rfl (fun ls hl => ?_)
  have hL_77 : ∀ (n : Nat) (i : Nat), (i + n = 4) → ∀ (H : Heap) (locs : List Loc), va_P D vwCl [(m0, .inr (6, [.int (0), .ref (z0), .int (nI (mSv sv + 1)), .ref (sd0), .int (nI (ln)), .ref (tx0), .ref (as0), .int (nI (stp)), .int (nI (po)), .int (tl), .ref (rd0), .long (hh)])), (z0, .inl (ac 0, 162, .inl ((mStir z j1 a b i).1))), (sd0, .inl (ac 0, 972, .inl (mSave sd z sv))), (tx0, .inl (ac 0, 60, .inl (tx))), (as0, .inl (ac 0, 162, .inl (az))), (rd0, .inl (ac 0, 63, .inl (rd)))] H → va_D A [(m0, .inr (6, [.int (0), .ref (z0), .int (nI (mSv sv + 1)), .ref (sd0), .int (nI (ln)), .ref (tx0), .ref (as0), .int (nI (stp)), .int (nI (po)), .int (tl), .ref (rd0), .long (hh)])), (z0, .inl (ac 0, 162, .inl ((mStir z j1 a b i).1))), (sd0, .inl (ac 0, 972, .inl (mSave sd z sv))), (tx0, .inl (ac 0, 60, .inl (tx))), (as0, .inl (ac 0, 162, .inl (az))), (rd0, .inl (ac 0, 63, .inl (rd)))] → va_S A s.heap H locs → ∀ (ls : Array Slot), lv_has ls 10 [(7, .int (nI (i))), (6, .int ((mStir z j1 a b i).2)), (5, .int (nI (((b) - (a)) + (1)))), (4, .int (1)), (0, .ref (m0)), (1, .int (nI (j1))), (2, .int (nI (a))), (3, .int (nI (b)))] → W p l e ({ frames := 2, cells := 0, slots := 0, locals := 42 } : Room) s m args below meth c H locs 0 0 (MQ below (zQi D ac [(m0, .inr (6, [.int (th), .ref (z0), .int (nI (sv)), .ref (sd0), .int (nI (ln)), .ref (tx0), .ref (as0), .int (nI (stp)), .int (nI (po)), .int (tl), .ref (rd0), .long (hh)])), (z0, .inl (ac 0, 162, .inl (z))), (sd0, .inl (ac 0, 972, .inl (sd))), (tx0, .inl (ac 0, 60, .inl (tx))), (as0, .inl (ac 0, 162, .inl (az))), (rd0, .inl (ac 0, 63, .inl (rd)))] [(m0, .inr (6, [.int (0), .ref (z0), .int (nI (mSv sv + 1)), .ref (sd0), .int (nI (ln)), .ref (tx0), .ref (as0), .int (nI (stp)), .int (nI (po)), .int (tl), .ref (rd0), .long (hh)])), (z0, .inl (ac 0, 162, .inl ((mStir z j1 a b 4).1))), (sd0, .inl (ac 0, 972, .inl (mSave sd z sv))), (tx0, .inl (ac 0, 60, .inl (tx))), (as0, .inl (ac 0, 162, .inl (az))), (rd0, .inl (ac 0, 63, .inl (rd)))] sz ((mStir z j1 a b 4).2)) args s 0 0 A) (F0 m 77 ls []) := by
    intro n
    induction n with
    | zero =>
      intro i hi H locs hP hD hS ls hl
      have e_i : 4 = i := by omega
      subst e_i
      refine lv_iload hx hb dX6_stir_77 (lv_at hl 0 rfl) ?_
      refine lv_iconst (v := 4) hx hb dX6_stir_79 (by decide) ?_
      refine z_icmp_ge (tgt := 183) hx hb (4) (4) dX6_stir_80 (by decide) (by omega) (by omega) rfl rfl (fun c_80 => ?_) (fun c_80 => absurd c_80 (by omega))
      refine lv_iload hx hb dX6_stir_183 (lv_at hl 1 rfl) ?_
      exact z_iretW hx hb hr hlocks hK hP hD hS hAe (rfl) dX6_stir_185
    | succ n ih =>
      intro i hi H locs hP hD hS ls hl
      refine lv_iload hx hb dX6_stir_77 (lv_at hl 0 rfl) ?_
      refine lv_iconst (v := 4) hx hb dX6_stir_79 (by decide) ?_
      refine z_icmp_ge (tgt := 183) hx hb (i) (4) dX6_stir_80 (by decide) (by omega) (by omega) rfl rfl (fun c_80 => absurd c_80 (by omega)) (fun c_80 => ?_)
      refine lv_iconst (v := 0) hx hb dX6_stir_83 (by decide) ?_
      refine lv_istore (lv' := [(8, .int (0)), (7, .int (nI (i))), (6, .int ((mStir z j1 a b i).2)), (5, .int (nI (((b) - (a)) + (1)))), (4, .int (1)), (0, .ref (m0)), (1, .int (nI (j1))), (2, .int (nI (a))), (3, .int (nI (b)))]) hx hb dX6_stir_84 hl (by decide) rfl (fun ls hl => ?_)
      refine lv_iload_n hx hb dX6_stir_86 rfl (lv_at hl 7 rfl) ?_
      refine lv_istore (lv' := [(9, .int (nI (a))), (8, .int (0)), (7, .int (nI (i))), (6, .int ((mStir z j1 a b i).2)), (5, .int (nI (((b) - (a)) + (1)))), (4, .int (1)), (0, .ref (m0)), (1, .int (nI (j1))), (2, .int (nI (a))), (3, .int (nI (b)))]) hx hb dX6_stir_87 hl (by decide) rfl (fun ls hl => ?_)
      have hL_89 : ∀ (n2 : Nat) (j : Nat), (j + n2 = b - a + 1) → ∀ (H : Heap) (locs : List Loc), va_P D vwCl [(m0, .inr (6, [.int (0), .ref (z0), .int (nI (mSv sv + 1)), .ref (sd0), .int (nI (ln)), .ref (tx0), .ref (as0), .int (nI (stp)), .int (nI (po)), .int (tl), .ref (rd0), .long (hh)])), (z0, .inl (ac 0, 162, .inl ((mStir z j1 a b i).1))), (sd0, .inl (ac 0, 972, .inl (mSave sd z sv))), (tx0, .inl (ac 0, 60, .inl (tx))), (as0, .inl (ac 0, 162, .inl (az))), (rd0, .inl (ac 0, 63, .inl (rd)))] H → va_D A [(m0, .inr (6, [.int (0), .ref (z0), .int (nI (mSv sv + 1)), .ref (sd0), .int (nI (ln)), .ref (tx0), .ref (as0), .int (nI (stp)), .int (nI (po)), .int (tl), .ref (rd0), .long (hh)])), (z0, .inl (ac 0, 162, .inl ((mStir z j1 a b i).1))), (sd0, .inl (ac 0, 972, .inl (mSave sd z sv))), (tx0, .inl (ac 0, 60, .inl (tx))), (as0, .inl (ac 0, 162, .inl (az))), (rd0, .inl (ac 0, 63, .inl (rd)))] → va_S A s.heap H locs → ∀ (ls : Array Slot), lv_has ls 10 [(9, .int (nI (a + j))), (8, .int (mSum (mStir z j1 a b i).1 j1 a i j)), (7, .int (nI (i))), (6, .int ((mStir z j1 a b i).2)), (5, .int (nI (((b) - (a)) + (1)))), (4, .int (1)), (0, .ref (m0)), (1, .int (nI (j1))), (2, .int (nI (a))), (3, .int (nI (b)))] → W p l e ({ frames := 2, cells := 0, slots := 0, locals := 42 } : Room) s m args below meth c H locs 0 0 (MQ below (zQi D ac [(m0, .inr (6, [.int (th), .ref (z0), .int (nI (sv)), .ref (sd0), .int (nI (ln)), .ref (tx0), .ref (as0), .int (nI (stp)), .int (nI (po)), .int (tl), .ref (rd0), .long (hh)])), (z0, .inl (ac 0, 162, .inl (z))), (sd0, .inl (ac 0, 972, .inl (sd))), (tx0, .inl (ac 0, 60, .inl (tx))), (as0, .inl (ac 0, 162, .inl (az))), (rd0, .inl (ac 0, 63, .inl (rd)))] [(m0, .inr (6, [.int (0), .ref (z0), .int (nI (mSv sv + 1)), .ref (sd0), .int (nI (ln)), .ref (tx0), .ref (as0), .int (nI (stp)), .int (nI (po)), .int (tl), .ref (rd0), .long (hh)])), (z0, .inl (ac 0, 162, .inl ((mStir z j1 a b 4).1))), (sd0, .inl (ac 0, 972, .inl (mSave sd z sv))), (tx0, .inl (ac 0, 60, .inl (tx))), (as0, .inl (ac 0, 162, .inl (az))), (rd0, .inl (ac 0, 63, .inl (rd)))] sz ((mStir z j1 a b 4).2)) args s 0 0 A) (F0 m 89 ls []) := by
        intro n2
        induction n2 with
        | zero =>
          intro j hj H locs hP hD hS ls hl
          have e_j : b - a + 1 = j := by omega
          subst e_j
          refine lv_iload hx hb dX6_stir_89 (lv_at hl 0 rfl) ?_
          refine lv_iload_n hx hb dX6_stir_91 rfl (lv_at hl 9 rfl) ?_
          refine z_icmp_gt (tgt := 119) hx hb (a + (b - a + 1)) (b) dX6_stir_92 (by decide) (by omega) (by omega) rfl rfl (fun c_92 => ?_) (fun c_92 => absurd c_92 (by omega))
          refine lv_iload_n hx hb dX6_stir_119 rfl (lv_at hl 8 rfl) ?_
          refine lv_istore (lv' := [(9, .int (nI (a))), (8, .int (mSum (mStir z j1 a b i).1 j1 a i (b - a + 1))), (7, .int (nI (i))), (6, .int ((mStir z j1 a b i).2)), (5, .int (nI (((b) - (a)) + (1)))), (4, .int (1)), (0, .ref (m0)), (1, .int (nI (j1))), (2, .int (nI (a))), (3, .int (nI (b)))]) hx hb dX6_stir_120 hl (by decide) rfl (fun ls hl => ?_)
          have hL_122 : ∀ (n2 : Nat) (j : Nat), (j + n2 = b - a + 1) → ∀ (H : Heap) (locs : List Loc), va_P D vwCl [(m0, .inr (6, [.int (0), .ref (z0), .int (nI (mSv sv + 1)), .ref (sd0), .int (nI (ln)), .ref (tx0), .ref (as0), .int (nI (stp)), .int (nI (po)), .int (tl), .ref (rd0), .long (hh)])), (z0, .inl (ac 0, 162, .inl (mLay (mStir z j1 a b i).1 j1 a i (mSum (mStir z j1 a b i).1 j1 a i (b - a + 1)) (nI (b - a + 1)) j))), (sd0, .inl (ac 0, 972, .inl (mSave sd z sv))), (tx0, .inl (ac 0, 60, .inl (tx))), (as0, .inl (ac 0, 162, .inl (az))), (rd0, .inl (ac 0, 63, .inl (rd)))] H → va_D A [(m0, .inr (6, [.int (0), .ref (z0), .int (nI (mSv sv + 1)), .ref (sd0), .int (nI (ln)), .ref (tx0), .ref (as0), .int (nI (stp)), .int (nI (po)), .int (tl), .ref (rd0), .long (hh)])), (z0, .inl (ac 0, 162, .inl (mLay (mStir z j1 a b i).1 j1 a i (mSum (mStir z j1 a b i).1 j1 a i (b - a + 1)) (nI (b - a + 1)) j))), (sd0, .inl (ac 0, 972, .inl (mSave sd z sv))), (tx0, .inl (ac 0, 60, .inl (tx))), (as0, .inl (ac 0, 162, .inl (az))), (rd0, .inl (ac 0, 63, .inl (rd)))] → va_S A s.heap H locs → ∀ (ls : Array Slot), lv_has ls 10 [(9, .int (nI (a + j))), (8, .int (mSum (mStir z j1 a b i).1 j1 a i (b - a + 1))), (7, .int (nI (i))), (6, .int ((mStir z j1 a b i).2)), (5, .int (nI (((b) - (a)) + (1)))), (4, .int (1)), (0, .ref (m0)), (1, .int (nI (j1))), (2, .int (nI (a))), (3, .int (nI (b)))] → W p l e ({ frames := 2, cells := 0, slots := 0, locals := 42 } : Room) s m args below meth c H locs 0 0 (MQ below (zQi D ac [(m0, .inr (6, [.int (th), .ref (z0), .int (nI (sv)), .ref (sd0), .int (nI (ln)), .ref (tx0), .ref (as0), .int (nI (stp)), .int (nI (po)), .int (tl), .ref (rd0), .long (hh)])), (z0, .inl (ac 0, 162, .inl (z))), (sd0, .inl (ac 0, 972, .inl (sd))), (tx0, .inl (ac 0, 60, .inl (tx))), (as0, .inl (ac 0, 162, .inl (az))), (rd0, .inl (ac 0, 63, .inl (rd)))] [(m0, .inr (6, [.int (0), .ref (z0), .int (nI (mSv sv + 1)), .ref (sd0), .int (nI (ln)), .ref (tx0), .ref (as0), .int (nI (stp)), .int (nI (po)), .int (tl), .ref (rd0), .long (hh)])), (z0, .inl (ac 0, 162, .inl ((mStir z j1 a b 4).1))), (sd0, .inl (ac 0, 972, .inl (mSave sd z sv))), (tx0, .inl (ac 0, 60, .inl (tx))), (as0, .inl (ac 0, 162, .inl (az))), (rd0, .inl (ac 0, 63, .inl (rd)))] sz ((mStir z j1 a b 4).2)) args s 0 0 A) (F0 m 122 ls []) := by
            intro n2
            induction n2 with
            | zero =>
              intro j hj H locs hP hD hS ls hl
              have e_j : b - a + 1 = j := by omega
              subst e_j
              refine lv_iload hx hb dX6_stir_122 (lv_at hl 0 rfl) ?_
              refine lv_iload_n hx hb dX6_stir_124 rfl (lv_at hl 9 rfl) ?_
              refine z_icmp_gt (tgt := 170) hx hb (a + (b - a + 1)) (b) dX6_stir_125 (by decide) (by omega) (by omega) rfl rfl (fun c_125 => ?_) (fun c_125 => absurd c_125 (by omega))
              refine lv_iload hx hb dX6_stir_170 (lv_at hl 3 rfl) ?_
              refine lv_iload hx hb dX6_stir_172 (lv_at hl 1 rfl) ?_
              refine lv_iadd hx hb dX6_stir_174 ?_
              refine lv_istore (lv' := [(6, .int (((mStir z j1 a b i).2) + (mSum (mStir z j1 a b i).1 j1 a i (b - a + 1)))), (9, .int (nI (a + (b - a + 1)))), (8, .int (mSum (mStir z j1 a b i).1 j1 a i (b - a + 1))), (7, .int (nI (i))), (5, .int (nI (((b) - (a)) + (1)))), (4, .int (1)), (0, .ref (m0)), (1, .int (nI (j1))), (2, .int (nI (a))), (3, .int (nI (b)))]) hx hb dX6_stir_175 hl (by decide) rfl (fun ls hl => ?_)
              refine lv_iinc (v := nI ((i) + 1)) (lv' := [(7, .int (nI ((i) + 1))), (6, .int (((mStir z j1 a b i).2) + (mSum (mStir z j1 a b i).1 j1 a i (b - a + 1)))), (9, .int (nI (a + (b - a + 1)))), (8, .int (mSum (mStir z j1 a b i).1 j1 a i (b - a + 1))), (5, .int (nI (((b) - (a)) + (1)))), (4, .int (1)), (0, .ref (m0)), (1, .int (nI (j1))), (2, .int (nI (a))), (3, .int (nI (b)))]) hx hb dX6_stir_177 hl (k := 3) rfl (show nI (i) + Int32.ofInt 1 = _ from nI_add (i) 1) (by decide) rfl (fun ls hl => ?_)
              refine lv_goto (tgt := 77) hx hb dX6_stir_180 (by decide) ?_
              exact ih (i + 1) (by omega) _ _ hP hD hS ls (lv_sub hl [0, 1, 4, 5, 6, 7, 8, 9] rfl)
            | succ n2 ih =>
              intro j hj H locs hP hD hS ls hl
              refine lv_iload hx hb dX6_stir_122 (lv_at hl 0 rfl) ?_
              refine lv_iload_n hx hb dX6_stir_124 rfl (lv_at hl 9 rfl) ?_
              refine z_icmp_gt (tgt := 170) hx hb (a + j) (b) dX6_stir_125 (by decide) (by omega) (by omega) rfl rfl (fun c_125 => absurd c_125 (by omega)) (fun c_125 => ?_)
              refine lv_aload_n hx hb dX6_stir_128 rfl (lv_at hl 6 rfl) ?_
              refine va_get (ci := 6) (v := .ref (z0)) (C := RX6) (T := TX6) (N := 12) hx hb hts (by decide +kernel) hown hK hP 0 rfl rfl 1 (by decide) (hts (.fieldLink RX6 7 "SettlingJarsModel" "z" "[I") (by decide +kernel)) (fun _ h9 => h9) rfl dX6_stir_129 ?_
              refine lv_iload_n hx hb dX6_stir_132 rfl (lv_at hl 7 rfl) ?_
              refine lv_iload hx hb dX6_stir_133 (lv_at hl 0 rfl) ?_
              refine lv_iload hx hb dX6_stir_135 (lv_at hl 2 rfl) ?_
              refine z_ci (z_srun (rest := [.ref (z0)]) (own := RX6) (As := [.int (nI (j1)), .int (nI (a + j)), .int (nI (i))]) hx hb hml hown hts hl.1 hK hP [] rfl (metX6_place l D ac j1 (a + j) i ) gX6_stir_X6_place rfl 3 (by decide +kernel) ⟨rfl, rfl, Nat.le_of_ble_eq_true rfl, Nat.le_of_ble_eq_true rfl⟩ rfl rfl (Nat.le_of_ble_eq_true rfl) dX6_stir_137 ⟨Nat.zero_le _, Nat.zero_le _⟩) ?_
              refine lv_iload hx hb dX6_stir_140 (lv_at hl 1 rfl) ?_
              refine lv_iload hx hb dX6_stir_142 (lv_at hl 4 rfl) ?_
              refine lv_idiv hx hb dX6_stir_144 (nI_ne0 (by omega) (by omega)) ?_
              refine lv_iload hx hb dX6_stir_145 (lv_at hl 0 rfl) ?_
              refine lv_iload_n hx hb dX6_stir_147 rfl (lv_at hl 8 rfl) ?_
              refine lv_isub hx hb dX6_stir_148 ?_
              refine z_top (y := nI ((a + j) - (a))) (pk_sub (a := a + j) (b := a) (by omega)) ?_
              refine z_top (y := nI (j)) (congrArg nI (by omega)) ?_
              refine lv_iload hx hb dX6_stir_149 (lv_at hl 1 rfl) ?_
              refine lv_iload hx hb dX6_stir_151 (lv_at hl 4 rfl) ?_
              refine lv_irem hx hb dX6_stir_153 (nI_ne0 (by omega) (by omega)) ?_
              refine lv_icmp_ge (tgt := 161) hx hb dX6_stir_154 (by decide) (fun c_154 => ?_) (fun c_154 => ?_)
              · refine lv_iconst (v := 0) hx hb dX6_stir_161 (by decide) ?_
                refine lv_iadd hx hb dX6_stir_162 ?_
                refine z_iast hx hb hK hP hD hS 1 rfl (48 * j1 + (4 * (a + j) + i)) (congrArg nI (by omega)) (by omega) (by decide) dX6_stir_163 (fun H locs hP hD hS => ?_)
                have hP : va_P D vwCl [(m0, .inr (6, [.int (0), .ref (z0), .int (nI (mSv sv + 1)), .ref (sd0), .int (nI (ln)), .ref (tx0), .ref (as0), .int (nI (stp)), .int (nI (po)), .int (tl), .ref (rd0), .long (hh)])), (z0, .inl (ac 0, 162, .inl (upd (mLay (mStir z j1 a b i).1 j1 a i (mSum (mStir z j1 a b i).1 j1 a i (b - a + 1)) (nI (b - a + 1)) j) (48 * j1 + (4 * (a + j) + i)) (((mSum (mStir z j1 a b i).1 j1 a i (b - a + 1)) / (nI (((b) - (a)) + (1)))) + (0))))), (sd0, .inl (ac 0, 972, .inl (mSave sd z sv))), (tx0, .inl (ac 0, 60, .inl (tx))), (as0, .inl (ac 0, 162, .inl (az))), (rd0, .inl (ac 0, 63, .inl (rd)))] H := hP
                have hD : va_D A [(m0, .inr (6, [.int (0), .ref (z0), .int (nI (mSv sv + 1)), .ref (sd0), .int (nI (ln)), .ref (tx0), .ref (as0), .int (nI (stp)), .int (nI (po)), .int (tl), .ref (rd0), .long (hh)])), (z0, .inl (ac 0, 162, .inl (upd (mLay (mStir z j1 a b i).1 j1 a i (mSum (mStir z j1 a b i).1 j1 a i (b - a + 1)) (nI (b - a + 1)) j) (48 * j1 + (4 * (a + j) + i)) (((mSum (mStir z j1 a b i).1 j1 a i (b - a + 1)) / (nI (((b) - (a)) + (1)))) + (0))))), (sd0, .inl (ac 0, 972, .inl (mSave sd z sv))), (tx0, .inl (ac 0, 60, .inl (tx))), (as0, .inl (ac 0, 162, .inl (az))), (rd0, .inl (ac 0, 63, .inl (rd)))] := hD
                refine lv_iinc (v := nI ((a + j) + 1)) (lv' := [(9, .int (nI ((a + j) + 1))), (8, .int (mSum (mStir z j1 a b i).1 j1 a i (b - a + 1))), (7, .int (nI (i))), (6, .int ((mStir z j1 a b i).2)), (5, .int (nI (((b) - (a)) + (1)))), (4, .int (1)), (0, .ref (m0)), (1, .int (nI (j1))), (2, .int (nI (a))), (3, .int (nI (b)))]) hx hb dX6_stir_164 hl (k := 0) rfl (show nI (a + j) + Int32.ofInt 1 = _ from nI_add (a + j) 1) (by decide) rfl (fun ls hl => ?_)
                refine lv_goto (tgt := 122) hx hb dX6_stir_167 (by decide) ?_
                have e1 : mLay (mStir z j1 a b i).1 j1 a i (mSum (mStir z j1 a b i).1 j1 a i (b - a + 1)) (nI (b - a + 1)) (j + 1) = upd (mLay (mStir z j1 a b i).1 j1 a i (mSum (mStir z j1 a b i).1 j1 a i (b - a + 1)) (nI (b - a + 1)) j) (48 * j1 + (4 * (a + j) + i)) (mSum (mStir z j1 a b i).1 j1 a i (b - a + 1) / nI (b - a + 1) + 0) := congrArg (fun x => upd (mLay (mStir z j1 a b i).1 j1 a i (mSum (mStir z j1 a b i).1 j1 a i (b - a + 1)) (nI (b - a + 1)) j) (48 * j1 + (4 * (a + j) + i)) (mSum (mStir z j1 a b i).1 j1 a i (b - a + 1) / nI (b - a + 1) + x)) (if_neg (Int32.not_lt.mpr c_154))
                exact ih (j + 1) (by omega) _ _ (by first | (rw [e1]; exact hP) | exact hP) (by first | (rw [e1]; exact hD) | exact hD) hS ls (by first | (rw [e1]; exact lv_sub hl [0, 1, 2, 3, 4, 5, 6, 7, 8, 9] rfl) | exact lv_sub hl [0, 1, 2, 3, 4, 5, 6, 7, 8, 9] rfl)
              · refine lv_iconst (v := 1) hx hb dX6_stir_157 (by decide) ?_
                refine lv_goto (tgt := 162) hx hb dX6_stir_158 (by decide) ?_
                refine lv_iadd hx hb dX6_stir_162 ?_
                refine z_iast hx hb hK hP hD hS 1 rfl (48 * j1 + (4 * (a + j) + i)) (congrArg nI (by omega)) (by omega) (by decide) dX6_stir_163 (fun H locs hP hD hS => ?_)
                have hP : va_P D vwCl [(m0, .inr (6, [.int (0), .ref (z0), .int (nI (mSv sv + 1)), .ref (sd0), .int (nI (ln)), .ref (tx0), .ref (as0), .int (nI (stp)), .int (nI (po)), .int (tl), .ref (rd0), .long (hh)])), (z0, .inl (ac 0, 162, .inl (upd (mLay (mStir z j1 a b i).1 j1 a i (mSum (mStir z j1 a b i).1 j1 a i (b - a + 1)) (nI (b - a + 1)) j) (48 * j1 + (4 * (a + j) + i)) (((mSum (mStir z j1 a b i).1 j1 a i (b - a + 1)) / (nI (((b) - (a)) + (1)))) + (1))))), (sd0, .inl (ac 0, 972, .inl (mSave sd z sv))), (tx0, .inl (ac 0, 60, .inl (tx))), (as0, .inl (ac 0, 162, .inl (az))), (rd0, .inl (ac 0, 63, .inl (rd)))] H := hP
                have hD : va_D A [(m0, .inr (6, [.int (0), .ref (z0), .int (nI (mSv sv + 1)), .ref (sd0), .int (nI (ln)), .ref (tx0), .ref (as0), .int (nI (stp)), .int (nI (po)), .int (tl), .ref (rd0), .long (hh)])), (z0, .inl (ac 0, 162, .inl (upd (mLay (mStir z j1 a b i).1 j1 a i (mSum (mStir z j1 a b i).1 j1 a i (b - a + 1)) (nI (b - a + 1)) j) (48 * j1 + (4 * (a + j) + i)) (((mSum (mStir z j1 a b i).1 j1 a i (b - a + 1)) / (nI (((b) - (a)) + (1)))) + (1))))), (sd0, .inl (ac 0, 972, .inl (mSave sd z sv))), (tx0, .inl (ac 0, 60, .inl (tx))), (as0, .inl (ac 0, 162, .inl (az))), (rd0, .inl (ac 0, 63, .inl (rd)))] := hD
                refine lv_iinc (v := nI ((a + j) + 1)) (lv' := [(9, .int (nI ((a + j) + 1))), (8, .int (mSum (mStir z j1 a b i).1 j1 a i (b - a + 1))), (7, .int (nI (i))), (6, .int ((mStir z j1 a b i).2)), (5, .int (nI (((b) - (a)) + (1)))), (4, .int (1)), (0, .ref (m0)), (1, .int (nI (j1))), (2, .int (nI (a))), (3, .int (nI (b)))]) hx hb dX6_stir_164 hl (k := 0) rfl (show nI (a + j) + Int32.ofInt 1 = _ from nI_add (a + j) 1) (by decide) rfl (fun ls hl => ?_)
                refine lv_goto (tgt := 122) hx hb dX6_stir_167 (by decide) ?_
                have e1 : mLay (mStir z j1 a b i).1 j1 a i (mSum (mStir z j1 a b i).1 j1 a i (b - a + 1)) (nI (b - a + 1)) (j + 1) = upd (mLay (mStir z j1 a b i).1 j1 a i (mSum (mStir z j1 a b i).1 j1 a i (b - a + 1)) (nI (b - a + 1)) j) (48 * j1 + (4 * (a + j) + i)) (mSum (mStir z j1 a b i).1 j1 a i (b - a + 1) / nI (b - a + 1) + 1) := congrArg (fun x => upd (mLay (mStir z j1 a b i).1 j1 a i (mSum (mStir z j1 a b i).1 j1 a i (b - a + 1)) (nI (b - a + 1)) j) (48 * j1 + (4 * (a + j) + i)) (mSum (mStir z j1 a b i).1 j1 a i (b - a + 1) / nI (b - a + 1) + x)) (if_pos (Int32.not_le.mp c_154))
                exact ih (j + 1) (by omega) _ _ (by first | (rw [e1]; exact hP) | exact hP) (by first | (rw [e1]; exact hD) | exact hD) hS ls (by first | (rw [e1]; exact lv_sub hl [0, 1, 2, 3, 4, 5, 6, 7, 8, 9] rfl) | exact lv_sub hl [0, 1, 2, 3, 4, 5, 6, 7, 8, 9] rfl)
          exact hL_122 (b - a + 1) (0) (by omega) _ _ hP hD hS ls (lv_sub hl [0, 1, 2, 3, 4, 5, 6, 7, 8, 9] rfl)
        | succ n2 ih =>
          intro j hj H locs hP hD hS ls hl
          refine lv_iload hx hb dX6_stir_89 (lv_at hl 0 rfl) ?_
          refine lv_iload_n hx hb dX6_stir_91 rfl (lv_at hl 9 rfl) ?_
          refine z_icmp_gt (tgt := 119) hx hb (a + j) (b) dX6_stir_92 (by decide) (by omega) (by omega) rfl rfl (fun c_92 => absurd c_92 (by omega)) (fun c_92 => ?_)
          refine lv_iload hx hb dX6_stir_95 (lv_at hl 1 rfl) ?_
          refine lv_aload_n hx hb dX6_stir_97 rfl (lv_at hl 6 rfl) ?_
          refine va_get (ci := 6) (v := .ref (z0)) (C := RX6) (T := TX6) (N := 12) hx hb hts (by decide +kernel) hown hK hP 0 rfl rfl 1 (by decide) (hts (.fieldLink RX6 7 "SettlingJarsModel" "z" "[I") (by decide +kernel)) (fun _ h9 => h9) rfl dX6_stir_98 ?_
          refine lv_iload_n hx hb dX6_stir_101 rfl (lv_at hl 7 rfl) ?_
          refine lv_iload hx hb dX6_stir_102 (lv_at hl 0 rfl) ?_
          refine lv_iload hx hb dX6_stir_104 (lv_at hl 2 rfl) ?_
          refine z_ci (z_srun (rest := [.ref (z0), .int (mSum (mStir z j1 a b i).1 j1 a i j)]) (own := RX6) (As := [.int (nI (j1)), .int (nI (a + j)), .int (nI (i))]) hx hb hml hown hts hl.1 hK hP [] rfl (metX6_place l D ac j1 (a + j) i ) gX6_stir_X6_place rfl 3 (by decide +kernel) ⟨rfl, rfl, Nat.le_of_ble_eq_true rfl, Nat.le_of_ble_eq_true rfl⟩ rfl rfl (Nat.le_of_ble_eq_true rfl) dX6_stir_106 ⟨Nat.zero_le _, Nat.zero_le _⟩) ?_
          refine z_iald hx hb hK hP 1 rfl (48 * j1 + (4 * (a + j) + i)) (congrArg nI (by omega)) (by omega) (by decide) dX6_stir_109 ?_
          refine lv_iadd hx hb dX6_stir_110 ?_
          refine lv_istore (lv' := [(8, .int ((mSum (mStir z j1 a b i).1 j1 a i j) + (((mStir z j1 a b i).1) (48 * j1 + (4 * (a + j) + i))))), (9, .int (nI (a + j))), (7, .int (nI (i))), (6, .int ((mStir z j1 a b i).2)), (5, .int (nI (((b) - (a)) + (1)))), (4, .int (1)), (0, .ref (m0)), (1, .int (nI (j1))), (2, .int (nI (a))), (3, .int (nI (b)))]) hx hb dX6_stir_111 hl (by decide) rfl (fun ls hl => ?_)
          refine lv_iinc (v := nI ((a + j) + 1)) (lv' := [(9, .int (nI ((a + j) + 1))), (8, .int ((mSum (mStir z j1 a b i).1 j1 a i j) + (((mStir z j1 a b i).1) (48 * j1 + (4 * (a + j) + i))))), (7, .int (nI (i))), (6, .int ((mStir z j1 a b i).2)), (5, .int (nI (((b) - (a)) + (1)))), (4, .int (1)), (0, .ref (m0)), (1, .int (nI (j1))), (2, .int (nI (a))), (3, .int (nI (b)))]) hx hb dX6_stir_113 hl (k := 1) rfl (show nI (a + j) + Int32.ofInt 1 = _ from nI_add (a + j) 1) (by decide) rfl (fun ls hl => ?_)
          refine lv_goto (tgt := 89) hx hb dX6_stir_116 (by decide) ?_
          exact ih (j + 1) (by omega) _ _ hP hD hS ls (lv_sub hl [0, 1, 2, 3, 4, 5, 6, 7, 8, 9] rfl)
      exact hL_89 (b - a + 1) (0) (by omega) _ _ hP hD hS ls (lv_sub hl [0, 1, 2, 3, 4, 5, 6, 7, 8, 9] rfl)
  exact hL_77 (4) (0) (by omega) _ _ hP hD hS ls (lv_sub hl [0, 1, 2, 3, 4, 5, 6, 7] rfl)

set_option maxRecDepth 100000 in
set_option maxHeartbeats 4000000 in
theorem metX6_draw_1 (l : Launch) (D : va_G) (ac : Nat → ClassId) (sz : Nat) (m0 : Nat) (z0 : Nat) (sd0 : Nat) (tx0 : Nat) (as0 : Nat) (rd0 : Nat) (th : Int32) (sv : Nat) (ln : Nat) (stp : Nat) (po : Nat) (tl : Int32) (hh : Int64) (z : Nat → Int32) (sd : Nat → Int32) (tx : Nat → Int32) (az : Nat → Int32) (rd : Nat → Int32) (x1 : Int32) (x2 : Int32) (x3 : Int32) (h1 : ¬ ((0 ≤ x1 ∧ x1 ≤ 2) ∧ (0 ≤ x2 ∧ x2 ≤ 11))) : Met l yX6_draw wsX6_draw ({ frames := 2, cells := 0, slots := 0, locals := 42 } : Room) (va_Pc [.ref (m0), .int (x1), .int (x2), .int (x3)] (zS D ac [(m0, .inr (6, [.int (th), .ref (z0), .int (nI (sv)), .ref (sd0), .int (nI (ln)), .ref (tx0), .ref (as0), .int (nI (stp)), .int (nI (po)), .int (tl), .ref (rd0), .long (hh)])), (z0, .inl (ac 0, 162, .inl (z))), (sd0, .inl (ac 0, 972, .inl (sd))), (tx0, .inl (ac 0, 60, .inl (tx))), (as0, .inl (ac 0, 162, .inl (az))), (rd0, .inl (ac 0, 63, .inl (rd)))] sz)) (zQi D ac [(m0, .inr (6, [.int (th), .ref (z0), .int (nI (sv)), .ref (sd0), .int (nI (ln)), .ref (tx0), .ref (as0), .int (nI (stp)), .int (nI (po)), .int (tl), .ref (rd0), .long (hh)])), (z0, .inl (ac 0, 162, .inl (z))), (sd0, .inl (ac 0, 972, .inl (sd))), (tx0, .inl (ac 0, 60, .inl (tx))), (as0, .inl (ac 0, 162, .inl (az))), (rd0, .inl (ac 0, 63, .inl (rd)))] [(m0, .inr (6, [.int (1), .ref (z0), .int (nI (sv)), .ref (sd0), .int (nI (ln)), .ref (tx0), .ref (as0), .int (nI (stp)), .int (nI (po)), .int (tl), .ref (rd0), .long (hh)])), (z0, .inl (ac 0, 162, .inl (z))), (sd0, .inl (ac 0, 972, .inl (sd))), (tx0, .inl (ac 0, 60, .inl (tx))), (as0, .inl (ac 0, 162, .inl (az))), (rd0, .inl (ac 0, 63, .inl (rd)))] sz (0)) 0 0 (va_A [(m0, .inr (6, [.int (th), .ref (z0), .int (nI (sv)), .ref (sd0), .int (nI (ln)), .ref (tx0), .ref (as0), .int (nI (stp)), .int (nI (po)), .int (tl), .ref (rd0), .long (hh)])), (z0, .inl (ac 0, 162, .inl (z))), (sd0, .inl (ac 0, 972, .inl (sd))), (tx0, .inl (ac 0, 60, .inl (tx))), (as0, .inl (ac 0, 162, .inl (az))), (rd0, .inl (ac 0, 63, .inl (rd)))] sz) := by
  refine z_rw (cc := cX6_draw) (maxL := 8) (ret := (some .int)) (lv := [(0, .ref (m0)), (1, .int (x1)), (2, .int (x2)), (3, .int (x3))]) (by decide) rfl (Nat.le_of_ble_eq_true rfl) rfl ?_
  intro p e s m args below meth c ls A hx hb hr hml hown hts hlocks hl hK hP hsz hAe hA hD hS
  refine lv_iload_n hx hb dX6_draw_0 rfl (lv_at hl 1 rfl) ?_
  refine z_ci (z_srun (rest := []) (own := RX6) (As := [.int (x1)]) hx hb hml hown hts hl.1 hK hP [] rfl (metX6_isJar l D ac x1 ) gX6_draw_X6_isJar rfl 1 (by decide +kernel) ⟨rfl, rfl, Nat.le_of_ble_eq_true rfl, Nat.le_of_ble_eq_true rfl⟩ rfl rfl (Nat.le_of_ble_eq_true rfl) dX6_draw_1 ⟨Nat.zero_le _, Nat.zero_le _⟩) ?_
  refine z_if_eq (C := 0 ≤ x1 ∧ x1 ≤ 2) (tgt := 18) hx hb dX6_draw_4 (by decide) (fun c_4 => ?_) (fun c_4 => ?_)
  · refine lv_iconst (v := 0) hx hb dX6_draw_18 (by decide) ?_
    refine lv_istore (lv' := [(4, .int (0)), (0, .ref (m0)), (1, .int (x1)), (2, .int (x2)), (3, .int (x3))]) hx hb dX6_draw_19 hl (by decide) rfl (fun ls hl => ?_)
    refine lv_aload_n hx hb dX6_draw_21 rfl (lv_at hl 1 rfl) ?_
    refine lv_iload hx hb dX6_draw_22 (lv_at hl 0 rfl) ?_
    refine lv_if_ne (tgt := 31) hx hb dX6_draw_24 (by decide) (fun c_ => absurd (by decide) c_) (fun _ => ?_)
    refine lv_iconst (v := 1) hx hb dX6_draw_27 (by decide) ?_
    refine lv_goto (tgt := 46) hx hb dX6_draw_28 (by decide) ?_
    refine va_put (ci := 6) (v := .int (1)) (ty := .int) (C := RX6) (T := TX6) (N := 12) hx hb hts (by decide +kernel) tyX6 tyX6_ok nmX6 hown hK hP hD hS 0 rfl rfl 0 (by decide) (hts (.fieldLink RX6 25 "SettlingJarsModel" "thrown" "I") (by decide +kernel)) (fun _ h9 => h9) rfl (by decide +kernel) rfl rfl (Nat.le_of_ble_eq_true rfl) dX6_draw_46 (fun H locs hP hD hS => ?_)
    have hP : va_P D vwCl [(m0, .inr (6, [.int (1), .ref (z0), .int (nI (sv)), .ref (sd0), .int (nI (ln)), .ref (tx0), .ref (as0), .int (nI (stp)), .int (nI (po)), .int (tl), .ref (rd0), .long (hh)])), (z0, .inl (ac 0, 162, .inl (z))), (sd0, .inl (ac 0, 972, .inl (sd))), (tx0, .inl (ac 0, 60, .inl (tx))), (as0, .inl (ac 0, 162, .inl (az))), (rd0, .inl (ac 0, 63, .inl (rd)))] H := hP
    have hD : va_D A [(m0, .inr (6, [.int (1), .ref (z0), .int (nI (sv)), .ref (sd0), .int (nI (ln)), .ref (tx0), .ref (as0), .int (nI (stp)), .int (nI (po)), .int (tl), .ref (rd0), .long (hh)])), (z0, .inl (ac 0, 162, .inl (z))), (sd0, .inl (ac 0, 972, .inl (sd))), (tx0, .inl (ac 0, 60, .inl (tx))), (as0, .inl (ac 0, 162, .inl (az))), (rd0, .inl (ac 0, 63, .inl (rd)))] := hD
    refine lv_aload_n hx hb dX6_draw_49 rfl (lv_at hl 1 rfl) ?_
    refine va_get (ci := 6) (v := .int (1)) (C := RX6) (T := TX6) (N := 12) hx hb hts (by decide +kernel) hown hK hP 0 rfl rfl 0 (by decide) (hts (.fieldLink RX6 25 "SettlingJarsModel" "thrown" "I") (by decide +kernel)) (fun _ h9 => h9) rfl dX6_draw_50 ?_
    refine lv_if_le (tgt := 58) hx hb dX6_draw_53 (by decide) (fun c_ => absurd c_ (by decide)) (fun _ => ?_)
    refine lv_iconst (v := 0) hx hb dX6_draw_56 (by decide) ?_
    exact z_iretW hx hb hr hlocks hK hP hD hS hAe (rfl) dX6_draw_57
  · refine lv_iload_n hx hb dX6_draw_7 rfl (lv_at hl 2 rfl) ?_
    refine z_ci (z_srun (rest := []) (own := RX6) (As := [.int (x2)]) hx hb hml hown hts hl.1 hK hP [] rfl (metX6_isSlice l D ac x2 ) gX6_draw_X6_isSlice rfl 1 (by decide +kernel) ⟨rfl, rfl, Nat.le_of_ble_eq_true rfl, Nat.le_of_ble_eq_true rfl⟩ rfl rfl (Nat.le_of_ble_eq_true rfl) dX6_draw_8 ⟨Nat.zero_le _, Nat.zero_le _⟩) ?_
    refine z_if_eq (C := 0 ≤ x2 ∧ x2 ≤ 11) (tgt := 18) hx hb dX6_draw_11 (by decide) (fun c_11 => ?_) (fun c_11 => absurd c_11 (fun q => h1 ⟨c_4, q⟩))
    refine lv_iconst (v := 0) hx hb dX6_draw_18 (by decide) ?_
    refine lv_istore (lv' := [(4, .int (0)), (0, .ref (m0)), (1, .int (x1)), (2, .int (x2)), (3, .int (x3))]) hx hb dX6_draw_19 hl (by decide) rfl (fun ls hl => ?_)
    refine lv_aload_n hx hb dX6_draw_21 rfl (lv_at hl 1 rfl) ?_
    refine lv_iload hx hb dX6_draw_22 (lv_at hl 0 rfl) ?_
    refine lv_if_ne (tgt := 31) hx hb dX6_draw_24 (by decide) (fun c_ => absurd (by decide) c_) (fun _ => ?_)
    refine lv_iconst (v := 1) hx hb dX6_draw_27 (by decide) ?_
    refine lv_goto (tgt := 46) hx hb dX6_draw_28 (by decide) ?_
    refine va_put (ci := 6) (v := .int (1)) (ty := .int) (C := RX6) (T := TX6) (N := 12) hx hb hts (by decide +kernel) tyX6 tyX6_ok nmX6 hown hK hP hD hS 0 rfl rfl 0 (by decide) (hts (.fieldLink RX6 25 "SettlingJarsModel" "thrown" "I") (by decide +kernel)) (fun _ h9 => h9) rfl (by decide +kernel) rfl rfl (Nat.le_of_ble_eq_true rfl) dX6_draw_46 (fun H locs hP hD hS => ?_)
    have hP : va_P D vwCl [(m0, .inr (6, [.int (1), .ref (z0), .int (nI (sv)), .ref (sd0), .int (nI (ln)), .ref (tx0), .ref (as0), .int (nI (stp)), .int (nI (po)), .int (tl), .ref (rd0), .long (hh)])), (z0, .inl (ac 0, 162, .inl (z))), (sd0, .inl (ac 0, 972, .inl (sd))), (tx0, .inl (ac 0, 60, .inl (tx))), (as0, .inl (ac 0, 162, .inl (az))), (rd0, .inl (ac 0, 63, .inl (rd)))] H := hP
    have hD : va_D A [(m0, .inr (6, [.int (1), .ref (z0), .int (nI (sv)), .ref (sd0), .int (nI (ln)), .ref (tx0), .ref (as0), .int (nI (stp)), .int (nI (po)), .int (tl), .ref (rd0), .long (hh)])), (z0, .inl (ac 0, 162, .inl (z))), (sd0, .inl (ac 0, 972, .inl (sd))), (tx0, .inl (ac 0, 60, .inl (tx))), (as0, .inl (ac 0, 162, .inl (az))), (rd0, .inl (ac 0, 63, .inl (rd)))] := hD
    refine lv_aload_n hx hb dX6_draw_49 rfl (lv_at hl 1 rfl) ?_
    refine va_get (ci := 6) (v := .int (1)) (C := RX6) (T := TX6) (N := 12) hx hb hts (by decide +kernel) hown hK hP 0 rfl rfl 0 (by decide) (hts (.fieldLink RX6 25 "SettlingJarsModel" "thrown" "I") (by decide +kernel)) (fun _ h9 => h9) rfl dX6_draw_50 ?_
    refine lv_if_le (tgt := 58) hx hb dX6_draw_53 (by decide) (fun c_ => absurd c_ (by decide)) (fun _ => ?_)
    refine lv_iconst (v := 0) hx hb dX6_draw_56 (by decide) ?_
    exact z_iretW hx hb hr hlocks hK hP hD hS hAe (rfl) dX6_draw_57

