set_option maxRecDepth 100000 in
set_option maxHeartbeats 4000000 in
theorem metX0_init (l : Launch) (D : va_G) (ac : Nat → ClassId) (sz : Nat) (h0 : Nat)  : Met l yX0_init wsX0_init ({ frames := 1, cells := 1, slots := 60, locals := 12 } : Room) (va_Pc [.ref (h0)] (zS D ac [(h0, .inr (0, [.null, .int (0)]))] sz)) (zQc D ac [(h0, .inr (0, [.null, .int (0)]))] (fun u => [(h0, .inr (0, [.ref (u 0), .int (0)])), (u 0, .inl (ac 1, 60, .inl (fun _ => 0)))]) sz) 1 60 (va_A [(h0, .inr (0, [.null, .int (0)]))] sz) := by
  refine z_rwI (cc := cX0_init) (maxL := 1) (ret := none) (lv := [(0, .ref (h0))]) (by decide) rfl (Nat.le_of_ble_eq_true rfl) rfl ?_
  intro p e s m args below meth c ls A hx hb hr hml hown hts hlocks hl hK hP hsz hAe hA hD hS hnm
  refine lv_aload_n hx hb dX0_init_0 rfl (lv_at hl 0 rfl) ?_
  refine z_obj (own := RX0) hx hb hown (hts (.methodLink RX0 3 objectInit) (by decide +kernel)) (hts (.instanceMethod objectInit) (by decide +kernel)) (hts (.code objectInit ⟨#[0xb1]⟩ 1 none) (by decide +kernel)) (hl.1.trans hml.symm) dX0_init_1 (Nat.le_of_ble_eq_true rfl) (Nat.le_of_ble_eq_true rfl) ?_
  refine lv_aload_n hx hb dX0_init_4 rfl (lv_at hl 0 rfl) ?_
  refine lv_bipush (v := 60) hx hb dX0_init_5 (by decide) ?_
  refine z_newC hx hb (hts (.arrayClass .char) (by decide +kernel)) hK hP hD hS hA (N := 60) rfl (by decide) (Nat.le_of_ble_eq_true rfl) (Nat.le_of_ble_eq_true rfl) dX0_init_7 (fun r1 H hP hD hS => ?_)
  have hP : va_P D vwCl [(h0, .inr (0, [.null, .int (0)])), (r1, .inl (ac 1, 60, .inl (fun _ => 0)))] H := hP
  have hD : va_D A [(h0, .inr (0, [.null, .int (0)])), (r1, .inl (ac 1, 60, .inl (fun _ => 0)))] := hD
  refine va_putF (ci := 0) (v := .ref (r1)) (ty := tyX0 0) (C := RX0) (T := TX0) (N := 2) hx hb hts (by decide +kernel) tyX0 tyX0_ok nmX0 hown hK hP hD hS 0 rfl rfl 0 (by decide) (hts (.fieldLink RX0 11 "SettlingJars$Charge" "signs" "[C") (by decide +kernel)) (fun _ h9 => h9) rfl hnm rfl (tyX0_ok 0 (by decide)) rfl rfl (Nat.le_of_ble_eq_true rfl) dX0_init_9 (fun H locs hP hD hS => ?_)
  have hP : va_P D vwCl [(h0, .inr (0, [.ref (r1), .int (0)])), (r1, .inl (ac 1, 60, .inl (fun _ => 0)))] H := hP
  have hD : va_D A [(h0, .inr (0, [.ref (r1), .int (0)])), (r1, .inl (ac 1, 60, .inl (fun _ => 0)))] := hD
  exact z_vretC (fun i => r1) hx hb hr hlocks hK hP hD hS hAe dX0_init_12

set_option maxRecDepth 100000 in
set_option maxHeartbeats 4000000 in
theorem metX2_init (l : Launch) (D : va_G) (ac : Nat → ClassId) (sz : Nat) (h0 : Nat)  : Met l yX2_init wsX2_init ({ frames := 1, cells := 1, slots := 48, locals := 12 } : Room) (va_Pc [.ref (h0)] (zS D ac [(h0, .inr (2, [.null]))] sz)) (zQc D ac [(h0, .inr (2, [.null]))] (fun u => [(h0, .inr (2, [.ref (u 0)])), (u 0, .inl (ac 0, 48, .inl (fun _ => 0)))]) sz) 1 48 (va_A [(h0, .inr (2, [.null]))] sz) := by
  refine z_rwI (cc := cX2_init) (maxL := 1) (ret := none) (lv := [(0, .ref (h0))]) (by decide) rfl (Nat.le_of_ble_eq_true rfl) rfl ?_
  intro p e s m args below meth c ls A hx hb hr hml hown hts hlocks hl hK hP hsz hAe hA hD hS hnm
  refine lv_aload_n hx hb dX2_init_0 rfl (lv_at hl 0 rfl) ?_
  refine z_obj (own := RX2) hx hb hown (hts (.methodLink RX2 3 objectInit) (by decide +kernel)) (hts (.instanceMethod objectInit) (by decide +kernel)) (hts (.code objectInit ⟨#[0xb1]⟩ 1 none) (by decide +kernel)) (hl.1.trans hml.symm) dX2_init_1 (Nat.le_of_ble_eq_true rfl) (Nat.le_of_ble_eq_true rfl) ?_
  refine lv_aload_n hx hb dX2_init_4 rfl (lv_at hl 0 rfl) ?_
  refine lv_bipush (v := 48) hx hb dX2_init_5 (by decide) ?_
  refine z_newI hx hb (hts (.arrayClass .int) (by decide +kernel)) hK hP hD hS hA (N := 48) rfl (by decide) (Nat.le_of_ble_eq_true rfl) (Nat.le_of_ble_eq_true rfl) dX2_init_7 (fun r1 H hP hD hS => ?_)
  have hP : va_P D vwCl [(h0, .inr (2, [.null])), (r1, .inl (ac 0, 48, .inl (fun _ => 0)))] H := hP
  have hD : va_D A [(h0, .inr (2, [.null])), (r1, .inl (ac 0, 48, .inl (fun _ => 0)))] := hD
  refine va_putF (ci := 2) (v := .ref (r1)) (ty := tyX2 0) (C := RX2) (T := TX2) (N := 1) hx hb hts (by decide +kernel) tyX2 tyX2_ok nmX2 hown hK hP hD hS 0 rfl rfl 0 (by decide) (hts (.fieldLink RX2 9 "SettlingJars$Jar" "grains" "[I") (by decide +kernel)) (fun _ h9 => h9) rfl hnm rfl (tyX2_ok 0 (by decide)) rfl rfl (Nat.le_of_ble_eq_true rfl) dX2_init_9 (fun H locs hP hD hS => ?_)
  have hP : va_P D vwCl [(h0, .inr (2, [.ref (r1)])), (r1, .inl (ac 0, 48, .inl (fun _ => 0)))] H := hP
  have hD : va_D A [(h0, .inr (2, [.ref (r1)])), (r1, .inl (ac 0, 48, .inl (fun _ => 0)))] := hD
  exact z_vretC (fun i => r1) hx hb hr hlocks hK hP hD hS hAe dX2_init_12

set_option maxRecDepth 100000 in
set_option maxHeartbeats 4000000 in
theorem metX3_init (l : Launch) (D : va_G) (ac : Nat → ClassId) (sz : Nat) (h0 : Nat)  : Met l yX3_init wsX3_init ({ frames := 1, cells := 2, slots := 8, locals := 12 } : Room) (va_Pc [.ref (h0)] (zS D ac [(h0, .inr (3, [.null, .null]))] sz)) (zQc D ac [(h0, .inr (3, [.null, .null]))] (fun u => [(h0, .inr (3, [.ref (u 0), .ref (u 1)])), (u 0, .inl (ac 0, 4, .inl (upd (upd (upd (upd (fun _ => 0) 0 100) 1 200) 2 3) 3 0))), (u 1, .inl (ac 0, 4, .inl (upd (upd (upd (upd (fun _ => 0) 0 40) 1 20) 2 10) 3 5)))]) sz) 2 8 (va_A [(h0, .inr (3, [.null, .null]))] sz) := by
  refine z_rwI (cc := cX3_init) (maxL := 1) (ret := none) (lv := [(0, .ref (h0))]) (by decide) rfl (Nat.le_of_ble_eq_true rfl) rfl ?_
  intro p e s m args below meth c ls A hx hb hr hml hown hts hlocks hl hK hP hsz hAe hA hD hS hnm
  refine lv_aload_n hx hb dX3_init_0 rfl (lv_at hl 0 rfl) ?_
  refine z_obj (own := RX3) hx hb hown (hts (.methodLink RX3 3 objectInit) (by decide +kernel)) (hts (.instanceMethod objectInit) (by decide +kernel)) (hts (.code objectInit ⟨#[0xb1]⟩ 1 none) (by decide +kernel)) (hl.1.trans hml.symm) dX3_init_1 (Nat.le_of_ble_eq_true rfl) (Nat.le_of_ble_eq_true rfl) ?_
  refine lv_aload_n hx hb dX3_init_4 rfl (lv_at hl 0 rfl) ?_
  refine lv_iconst (v := 4) hx hb dX3_init_5 (by decide) ?_
  refine z_newI hx hb (hts (.arrayClass .int) (by decide +kernel)) hK hP hD hS hA (N := 4) rfl (by decide) (Nat.le_of_ble_eq_true rfl) (Nat.le_of_ble_eq_true rfl) dX3_init_6 (fun r1 H hP hD hS => ?_)
  have hP : va_P D vwCl [(h0, .inr (3, [.null, .null])), (r1, .inl (ac 0, 4, .inl (fun _ => 0)))] H := hP
  have hD : va_D A [(h0, .inr (3, [.null, .null])), (r1, .inl (ac 0, 4, .inl (fun _ => 0)))] := hD
  refine lv_dup hx hb dX3_init_8 rfl ?_
  refine lv_iconst (v := 0) hx hb dX3_init_9 (by decide) ?_
  refine lv_bipush (v := 100) hx hb dX3_init_10 (by decide) ?_
  refine z_iast hx hb hK hP hD hS 1 rfl (0) (rfl) (by omega) (by decide) dX3_init_12 (fun H locs hP hD hS => ?_)
  have hP : va_P D vwCl [(h0, .inr (3, [.null, .null])), (r1, .inl (ac 0, 4, .inl (upd (fun _ => 0) (0) (100))))] H := hP
  have hD : va_D A [(h0, .inr (3, [.null, .null])), (r1, .inl (ac 0, 4, .inl (upd (fun _ => 0) (0) (100))))] := hD
  refine lv_dup hx hb dX3_init_13 rfl ?_
  refine lv_iconst (v := 1) hx hb dX3_init_14 (by decide) ?_
  refine lv_sipush (v := 200) hx hb dX3_init_15 (by decide) ?_
  refine z_iast hx hb hK hP hD hS 1 rfl (1) (rfl) (by omega) (by decide) dX3_init_18 (fun H locs hP hD hS => ?_)
  have hP : va_P D vwCl [(h0, .inr (3, [.null, .null])), (r1, .inl (ac 0, 4, .inl (upd (upd (fun _ => 0) (0) (100)) (1) (200))))] H := hP
  have hD : va_D A [(h0, .inr (3, [.null, .null])), (r1, .inl (ac 0, 4, .inl (upd (upd (fun _ => 0) (0) (100)) (1) (200))))] := hD
  refine lv_dup hx hb dX3_init_19 rfl ?_
  refine lv_iconst (v := 2) hx hb dX3_init_20 (by decide) ?_
  refine lv_iconst (v := 3) hx hb dX3_init_21 (by decide) ?_
  refine z_iast hx hb hK hP hD hS 1 rfl (2) (rfl) (by omega) (by decide) dX3_init_22 (fun H locs hP hD hS => ?_)
  have hP : va_P D vwCl [(h0, .inr (3, [.null, .null])), (r1, .inl (ac 0, 4, .inl (upd (upd (upd (fun _ => 0) (0) (100)) (1) (200)) (2) (3))))] H := hP
  have hD : va_D A [(h0, .inr (3, [.null, .null])), (r1, .inl (ac 0, 4, .inl (upd (upd (upd (fun _ => 0) (0) (100)) (1) (200)) (2) (3))))] := hD
  refine lv_dup hx hb dX3_init_23 rfl ?_
  refine lv_iconst (v := 3) hx hb dX3_init_24 (by decide) ?_
  refine lv_iconst (v := 0) hx hb dX3_init_25 (by decide) ?_
  refine z_iast hx hb hK hP hD hS 1 rfl (3) (rfl) (by omega) (by decide) dX3_init_26 (fun H locs hP hD hS => ?_)
  have hP : va_P D vwCl [(h0, .inr (3, [.null, .null])), (r1, .inl (ac 0, 4, .inl (upd (upd (upd (upd (fun _ => 0) (0) (100)) (1) (200)) (2) (3)) (3) (0))))] H := hP
  have hD : va_D A [(h0, .inr (3, [.null, .null])), (r1, .inl (ac 0, 4, .inl (upd (upd (upd (upd (fun _ => 0) (0) (100)) (1) (200)) (2) (3)) (3) (0))))] := hD
  refine va_putF (ci := 3) (v := .ref (r1)) (ty := tyX3 0) (C := RX3) (T := TX3) (N := 2) hx hb hts (by decide +kernel) tyX3 tyX3_ok nmX3 hown hK hP hD hS 0 rfl rfl 0 (by decide) (hts (.fieldLink RX3 9 "SettlingJars$Settings" "values" "[I") (by decide +kernel)) (fun _ h9 => h9) rfl hnm rfl (tyX3_ok 0 (by decide)) rfl rfl (Nat.le_of_ble_eq_true rfl) dX3_init_27 (fun H locs hP hD hS => ?_)
  have hP : va_P D vwCl [(h0, .inr (3, [.ref (r1), .null])), (r1, .inl (ac 0, 4, .inl (upd (upd (upd (upd (fun _ => 0) (0) (100)) (1) (200)) (2) (3)) (3) (0))))] H := hP
  have hD : va_D A [(h0, .inr (3, [.ref (r1), .null])), (r1, .inl (ac 0, 4, .inl (upd (upd (upd (upd (fun _ => 0) (0) (100)) (1) (200)) (2) (3)) (3) (0))))] := hD
  refine lv_aload_n hx hb dX3_init_30 rfl (lv_at hl 0 rfl) ?_
  refine lv_iconst (v := 4) hx hb dX3_init_31 (by decide) ?_
  refine z_newI hx hb (hts (.arrayClass .int) (by decide +kernel)) hK hP hD hS hA (N := 4) rfl (by decide) (Nat.le_of_ble_eq_true rfl) (Nat.le_of_ble_eq_true rfl) dX3_init_32 (fun r2 H hP hD hS => ?_)
  have hP : va_P D vwCl [(h0, .inr (3, [.ref (r1), .null])), (r1, .inl (ac 0, 4, .inl (upd (upd (upd (upd (fun _ => 0) (0) (100)) (1) (200)) (2) (3)) (3) (0)))), (r2, .inl (ac 0, 4, .inl (fun _ => 0)))] H := hP
  have hD : va_D A [(h0, .inr (3, [.ref (r1), .null])), (r1, .inl (ac 0, 4, .inl (upd (upd (upd (upd (fun _ => 0) (0) (100)) (1) (200)) (2) (3)) (3) (0)))), (r2, .inl (ac 0, 4, .inl (fun _ => 0)))] := hD
  refine lv_dup hx hb dX3_init_34 rfl ?_
  refine lv_iconst (v := 0) hx hb dX3_init_35 (by decide) ?_
  refine lv_bipush (v := 40) hx hb dX3_init_36 (by decide) ?_
  refine z_iast hx hb hK hP hD hS 2 rfl (0) (rfl) (by omega) (by decide) dX3_init_38 (fun H locs hP hD hS => ?_)
  have hP : va_P D vwCl [(h0, .inr (3, [.ref (r1), .null])), (r1, .inl (ac 0, 4, .inl (upd (upd (upd (upd (fun _ => 0) (0) (100)) (1) (200)) (2) (3)) (3) (0)))), (r2, .inl (ac 0, 4, .inl (upd (fun _ => 0) (0) (40))))] H := hP
  have hD : va_D A [(h0, .inr (3, [.ref (r1), .null])), (r1, .inl (ac 0, 4, .inl (upd (upd (upd (upd (fun _ => 0) (0) (100)) (1) (200)) (2) (3)) (3) (0)))), (r2, .inl (ac 0, 4, .inl (upd (fun _ => 0) (0) (40))))] := hD
  refine lv_dup hx hb dX3_init_39 rfl ?_
  refine lv_iconst (v := 1) hx hb dX3_init_40 (by decide) ?_
  refine lv_bipush (v := 20) hx hb dX3_init_41 (by decide) ?_
  refine z_iast hx hb hK hP hD hS 2 rfl (1) (rfl) (by omega) (by decide) dX3_init_43 (fun H locs hP hD hS => ?_)
  have hP : va_P D vwCl [(h0, .inr (3, [.ref (r1), .null])), (r1, .inl (ac 0, 4, .inl (upd (upd (upd (upd (fun _ => 0) (0) (100)) (1) (200)) (2) (3)) (3) (0)))), (r2, .inl (ac 0, 4, .inl (upd (upd (fun _ => 0) (0) (40)) (1) (20))))] H := hP
  have hD : va_D A [(h0, .inr (3, [.ref (r1), .null])), (r1, .inl (ac 0, 4, .inl (upd (upd (upd (upd (fun _ => 0) (0) (100)) (1) (200)) (2) (3)) (3) (0)))), (r2, .inl (ac 0, 4, .inl (upd (upd (fun _ => 0) (0) (40)) (1) (20))))] := hD
  refine lv_dup hx hb dX3_init_44 rfl ?_
  refine lv_iconst (v := 2) hx hb dX3_init_45 (by decide) ?_
  refine lv_bipush (v := 10) hx hb dX3_init_46 (by decide) ?_
  refine z_iast hx hb hK hP hD hS 2 rfl (2) (rfl) (by omega) (by decide) dX3_init_48 (fun H locs hP hD hS => ?_)
  have hP : va_P D vwCl [(h0, .inr (3, [.ref (r1), .null])), (r1, .inl (ac 0, 4, .inl (upd (upd (upd (upd (fun _ => 0) (0) (100)) (1) (200)) (2) (3)) (3) (0)))), (r2, .inl (ac 0, 4, .inl (upd (upd (upd (fun _ => 0) (0) (40)) (1) (20)) (2) (10))))] H := hP
  have hD : va_D A [(h0, .inr (3, [.ref (r1), .null])), (r1, .inl (ac 0, 4, .inl (upd (upd (upd (upd (fun _ => 0) (0) (100)) (1) (200)) (2) (3)) (3) (0)))), (r2, .inl (ac 0, 4, .inl (upd (upd (upd (fun _ => 0) (0) (40)) (1) (20)) (2) (10))))] := hD
  refine lv_dup hx hb dX3_init_49 rfl ?_
  refine lv_iconst (v := 3) hx hb dX3_init_50 (by decide) ?_
  refine lv_iconst (v := 5) hx hb dX3_init_51 (by decide) ?_
  refine z_iast hx hb hK hP hD hS 2 rfl (3) (rfl) (by omega) (by decide) dX3_init_52 (fun H locs hP hD hS => ?_)
  have hP : va_P D vwCl [(h0, .inr (3, [.ref (r1), .null])), (r1, .inl (ac 0, 4, .inl (upd (upd (upd (upd (fun _ => 0) (0) (100)) (1) (200)) (2) (3)) (3) (0)))), (r2, .inl (ac 0, 4, .inl (upd (upd (upd (upd (fun _ => 0) (0) (40)) (1) (20)) (2) (10)) (3) (5))))] H := hP
  have hD : va_D A [(h0, .inr (3, [.ref (r1), .null])), (r1, .inl (ac 0, 4, .inl (upd (upd (upd (upd (fun _ => 0) (0) (100)) (1) (200)) (2) (3)) (3) (0)))), (r2, .inl (ac 0, 4, .inl (upd (upd (upd (upd (fun _ => 0) (0) (40)) (1) (20)) (2) (10)) (3) (5))))] := hD
  refine va_putF (ci := 3) (v := .ref (r2)) (ty := tyX3 1) (C := RX3) (T := TX3) (N := 2) hx hb hts (by decide +kernel) tyX3 tyX3_ok nmX3 hown hK hP hD hS 0 rfl rfl 1 (by decide) (hts (.fieldLink RX3 15 "SettlingJars$Settings" "speeds" "[I") (by decide +kernel)) (fun _ h9 => h9) rfl hnm rfl (tyX3_ok 1 (by decide)) rfl rfl (Nat.le_of_ble_eq_true rfl) dX3_init_53 (fun H locs hP hD hS => ?_)
  have hP : va_P D vwCl [(h0, .inr (3, [.ref (r1), .ref (r2)])), (r1, .inl (ac 0, 4, .inl (upd (upd (upd (upd (fun _ => 0) (0) (100)) (1) (200)) (2) (3)) (3) (0)))), (r2, .inl (ac 0, 4, .inl (upd (upd (upd (upd (fun _ => 0) (0) (40)) (1) (20)) (2) (10)) (3) (5))))] H := hP
  have hD : va_D A [(h0, .inr (3, [.ref (r1), .ref (r2)])), (r1, .inl (ac 0, 4, .inl (upd (upd (upd (upd (fun _ => 0) (0) (100)) (1) (200)) (2) (3)) (3) (0)))), (r2, .inl (ac 0, 4, .inl (upd (upd (upd (upd (fun _ => 0) (0) (40)) (1) (20)) (2) (10)) (3) (5))))] := hD
  exact z_vretC (fun i => if i = 0 then r1 else r2) hx hb hr hlocks hK hP hD hS hAe dX3_init_56

