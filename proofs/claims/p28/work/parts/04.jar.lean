set_option maxRecDepth 100000 in
set_option maxHeartbeats 4000000 in
theorem metX3_factorOf (l : Launch) (D : va_G) (ac : Nat → ClassId) (h1 : Nat) (v0 : Nat) (w0 : Nat) (v : Nat → Int32) (w : Nat → Int32) (a : Int32)  : Met l yX3_factorOf wsX3_factorOf ({ frames := 1, cells := 0, slots := 0, locals := 14 } : Room) (va_Pc [.ref (h1), .int (a)] (zW D ac [(h1, .inr (3, [.ref (v0), .ref (w0)])), (v0, .inl (ac 0, 4, .inl (v))), (w0, .inl (ac 0, 4, .inl (w)))])) (zRi (qFac (v 0) a)) 0 0 (fun _ => False) := by
  refine z_ro (cc := cX3_factorOf) (maxL := 2) (ret := (some .int)) (lv := [(0, .ref (h1)), (1, .int (a))]) (by decide) rfl (Nat.le_of_ble_eq_true rfl) rfl ?_
  intro p e s m args below meth c ls hx hb hr hml hown hts hlocks hl hK hP
  refine lv_ldc (own := RX3) hx hb hown (hts (.constant RX3 24 (1000000)) (by decide +kernel)) dX3_factorOf_0 ?_
  refine lv_iconst (v := 1) hx hb dX3_factorOf_2 (by decide) ?_
  refine lv_sipush (v := 1000) hx hb dX3_factorOf_3 (by decide) ?_
  refine lv_iload_n hx hb dX3_factorOf_6 rfl (lv_at hl 1 rfl) ?_
  refine lv_aload_n hx hb dX3_factorOf_7 rfl (lv_at hl 0 rfl) ?_
  refine va_get (ci := 3) (v := .ref (v0)) (C := RX3) (T := TX3) (N := 2) hx hb hts (by decide +kernel) hown hK hP 0 rfl rfl 0 (by decide) (hts (.fieldLink RX3 9 "SettlingJars$Settings" "values" "[I") (by decide +kernel)) (fun _ h9 => h9) rfl dX3_factorOf_8 ?_
  refine lv_iconst (v := 0) hx hb dX3_factorOf_11 (by decide) ?_
  refine z_iald hx hb hK hP 1 rfl (0) (rfl) (by omega) (by decide) dX3_factorOf_12 ?_
  refine lv_imul hx hb dX3_factorOf_13 ?_
  refine lv_bipush (v := 10) hx hb dX3_factorOf_14 (by decide) ?_
  refine lv_idiv hx hb dX3_factorOf_16 (by decide) ?_
  refine lv_iadd hx hb dX3_factorOf_17 ?_
  refine va_mmax hx hb (by rw [hml]; exact hl.1.symm) hown (hts (.methodLink RX3 25 Lib.Math.max.name) (by decide +kernel)) (hts (.static Lib.Math.max.name) (by decide +kernel)) (hts (.initialized "java/lang/Math") (by decide +kernel)) (hts (.code Lib.Math.max.name Lib.Math.max.code 2 (some .int)) (by decide +kernel)) (Nat.le_of_ble_eq_true rfl) (Nat.le_of_ble_eq_true rfl) (Nat.zero_le _) (Nat.zero_le _) dX3_factorOf_18 ?_
  refine lv_idiv hx hb dX3_factorOf_21 (z_fac_ne _) ?_
  exact z_iret hx hb hr hlocks (rfl) dX3_factorOf_22

set_option maxRecDepth 100000 in
set_option maxHeartbeats 4000000 in
theorem metX3_roomOver (l : Launch) (D : va_G) (ac : Nat → ClassId) (h1 : Nat) (v0 : Nat) (w0 : Nat) (v : Nat → Int32) (w : Nat → Int32) (a : Int32)  : Met l yX3_roomOver wsX3_roomOver ({ frames := 1, cells := 0, slots := 0, locals := 13 } : Room) (va_Pc [.ref (h1), .int (a)] (zW D ac [(h1, .inr (3, [.ref (v0), .ref (w0)])), (v0, .inl (ac 0, 4, .inl (v))), (w0, .inl (ac 0, 4, .inl (w)))])) (zRi (qRoom (v 1) a)) 0 0 (fun _ => False) := by
  refine z_ro (cc := cX3_roomOver) (maxL := 2) (ret := (some .int)) (lv := [(0, .ref (h1)), (1, .int (a))]) (by decide) rfl (Nat.le_of_ble_eq_true rfl) rfl ?_
  intro p e s m args below meth c ls hx hb hr hml hown hts hlocks hl hK hP
  refine lv_iconst (v := 0) hx hb dX3_roomOver_0 (by decide) ?_
  refine lv_aload_n hx hb dX3_roomOver_1 rfl (lv_at hl 0 rfl) ?_
  refine va_get (ci := 3) (v := .ref (v0)) (C := RX3) (T := TX3) (N := 2) hx hb hts (by decide +kernel) hown hK hP 0 rfl rfl 0 (by decide) (hts (.fieldLink RX3 9 "SettlingJars$Settings" "values" "[I") (by decide +kernel)) (fun _ h9 => h9) rfl dX3_roomOver_2 ?_
  refine lv_iconst (v := 1) hx hb dX3_roomOver_5 (by decide) ?_
  refine z_iald hx hb hK hP 1 rfl (1) (rfl) (by omega) (by decide) dX3_roomOver_6 ?_
  refine lv_iload_n hx hb dX3_roomOver_7 rfl (lv_at hl 1 rfl) ?_
  refine lv_isub hx hb dX3_roomOver_8 ?_
  refine va_mmax hx hb (by rw [hml]; exact hl.1.symm) hown (hts (.methodLink RX3 25 Lib.Math.max.name) (by decide +kernel)) (hts (.static Lib.Math.max.name) (by decide +kernel)) (hts (.initialized "java/lang/Math") (by decide +kernel)) (hts (.code Lib.Math.max.name Lib.Math.max.code 2 (some .int)) (by decide +kernel)) (Nat.le_of_ble_eq_true rfl) (Nat.le_of_ble_eq_true rfl) (Nat.zero_le _) (Nat.zero_le _) dX3_roomOver_9 ?_
  exact z_iret hx hb hr hlocks (rfl) dX3_roomOver_12

set_option maxRecDepth 100000 in
set_option maxHeartbeats 4000000 in
theorem metX3_isPacked (l : Launch) (D : va_G) (ac : Nat → ClassId) (h1 : Nat) (v0 : Nat) (w0 : Nat) (v : Nat → Int32) (w : Nat → Int32) (a : Int32)  : Met l yX3_isPacked wsX3_isPacked ({ frames := 0, cells := 0, slots := 0, locals := 0 } : Room) (va_Pc [.ref (h1), .int (a)] (zW D ac [(h1, .inr (3, [.ref (v0), .ref (w0)])), (v0, .inl (ac 0, 4, .inl (v))), (w0, .inl (ac 0, 4, .inl (w)))])) (zRi (if v 1 ≤ a then 1 else 0)) 0 0 (fun _ => False) := by
  refine z_ro (cc := cX3_isPacked) (maxL := 2) (ret := (some .boolean)) (lv := [(0, .ref (h1)), (1, .int (a))]) (by decide) rfl (Nat.le_of_ble_eq_true rfl) rfl ?_
  intro p e s m args below meth c ls hx hb hr hml hown hts hlocks hl hK hP
  refine lv_iload_n hx hb dX3_isPacked_0 rfl (lv_at hl 1 rfl) ?_
  refine lv_aload_n hx hb dX3_isPacked_1 rfl (lv_at hl 0 rfl) ?_
  refine va_get (ci := 3) (v := .ref (v0)) (C := RX3) (T := TX3) (N := 2) hx hb hts (by decide +kernel) hown hK hP 0 rfl rfl 0 (by decide) (hts (.fieldLink RX3 9 "SettlingJars$Settings" "values" "[I") (by decide +kernel)) (fun _ h9 => h9) rfl dX3_isPacked_2 ?_
  refine lv_iconst (v := 1) hx hb dX3_isPacked_5 (by decide) ?_
  refine z_iald hx hb hK hP 1 rfl (1) (rfl) (by omega) (by decide) dX3_isPacked_6 ?_
  refine lv_icmp_lt (tgt := 14) hx hb dX3_isPacked_7 (by decide) (fun c_7 => ?_) (fun c_7 => ?_)
  · refine lv_iconst (v := 0) hx hb dX3_isPacked_14 (by decide) ?_
    exact z_zret hx hb hr hlocks (rfl) ((if_neg (fun q => absurd c_7 (Int32.not_lt.mpr q))).symm) dX3_isPacked_15
  · refine lv_iconst (v := 1) hx hb dX3_isPacked_10 (by decide) ?_
    refine lv_goto (tgt := 15) hx hb dX3_isPacked_11 (by decide) ?_
    exact z_zret hx hb hr hlocks (rfl) ((if_pos (Int32.not_lt.mp c_7)).symm) dX3_isPacked_15

set_option maxRecDepth 100000 in
set_option maxHeartbeats 4000000 in
theorem metX3_isClear (l : Launch) (D : va_G) (ac : Nat → ClassId) (h1 : Nat) (v0 : Nat) (w0 : Nat) (v : Nat → Int32) (w : Nat → Int32) (a : Int32)  : Met l yX3_isClear wsX3_isClear ({ frames := 0, cells := 0, slots := 0, locals := 0 } : Room) (va_Pc [.ref (h1), .int (a)] (zW D ac [(h1, .inr (3, [.ref (v0), .ref (w0)])), (v0, .inl (ac 0, 4, .inl (v))), (w0, .inl (ac 0, 4, .inl (w)))])) (zRi (if a ≤ v 2 then 1 else 0)) 0 0 (fun _ => False) := by
  refine z_ro (cc := cX3_isClear) (maxL := 2) (ret := (some .boolean)) (lv := [(0, .ref (h1)), (1, .int (a))]) (by decide) rfl (Nat.le_of_ble_eq_true rfl) rfl ?_
  intro p e s m args below meth c ls hx hb hr hml hown hts hlocks hl hK hP
  refine lv_iload_n hx hb dX3_isClear_0 rfl (lv_at hl 1 rfl) ?_
  refine lv_aload_n hx hb dX3_isClear_1 rfl (lv_at hl 0 rfl) ?_
  refine va_get (ci := 3) (v := .ref (v0)) (C := RX3) (T := TX3) (N := 2) hx hb hts (by decide +kernel) hown hK hP 0 rfl rfl 0 (by decide) (hts (.fieldLink RX3 9 "SettlingJars$Settings" "values" "[I") (by decide +kernel)) (fun _ h9 => h9) rfl dX3_isClear_2 ?_
  refine lv_iconst (v := 2) hx hb dX3_isClear_5 (by decide) ?_
  refine z_iald hx hb hK hP 1 rfl (2) (rfl) (by omega) (by decide) dX3_isClear_6 ?_
  refine lv_icmp_gt (tgt := 14) hx hb dX3_isClear_7 (by decide) (fun c_7 => ?_) (fun c_7 => ?_)
  · refine lv_iconst (v := 0) hx hb dX3_isClear_14 (by decide) ?_
    exact z_zret hx hb hr hlocks (rfl) ((if_neg (fun q => absurd c_7 (Int32.not_lt.mpr q))).symm) dX3_isClear_15
  · refine lv_iconst (v := 1) hx hb dX3_isClear_10 (by decide) ?_
    refine lv_goto (tgt := 15) hx hb dX3_isClear_11 (by decide) ?_
    exact z_zret hx hb hr hlocks (rfl) ((if_pos (Int32.not_lt.mp c_7)).symm) dX3_isClear_15

set_option maxRecDepth 100000 in
set_option maxHeartbeats 4000000 in
theorem metX3_wantingToFall (l : Launch) (D : va_G) (ac : Nat → ClassId) (h1 : Nat) (v0 : Nat) (w0 : Nat) (v : Nat → Int32) (w : Nat → Int32) (k1 : Nat) (a : Int32) (f : Int32) (hk : k1 < 4) : Met l yX3_wantingToFall wsX3_wantingToFall ({ frames := 1, cells := 0, slots := 0, locals := 13 } : Room) (va_Pc [.ref (h1), .int (nI (k1)), .int (a), .int (f)] (zW D ac [(h1, .inr (3, [.ref (v0), .ref (w0)])), (v0, .inl (ac 0, 4, .inl (v))), (w0, .inl (ac 0, 4, .inl (w)))])) (zRi (qWant (w k1) (v 3) a f)) 0 0 (fun _ => False) := by
  refine z_ro (cc := cX3_wantingToFall) (maxL := 5) (ret := (some .int)) (lv := [(0, .ref (h1)), (1, .int (nI (k1))), (2, .int (a)), (3, .int (f))]) (by decide) rfl (Nat.le_of_ble_eq_true rfl) rfl ?_
  intro p e s m args below meth c ls hx hb hr hml hown hts hlocks hl hK hP
  refine lv_iload_n hx hb dX3_wantingToFall_0 rfl (lv_at hl 2 rfl) ?_
  refine lv_aload_n hx hb dX3_wantingToFall_1 rfl (lv_at hl 0 rfl) ?_
  refine va_get (ci := 3) (v := .ref (w0)) (C := RX3) (T := TX3) (N := 2) hx hb hts (by decide +kernel) hown hK hP 0 rfl rfl 1 (by decide) (hts (.fieldLink RX3 15 "SettlingJars$Settings" "speeds" "[I") (by decide +kernel)) (fun _ h9 => h9) rfl dX3_wantingToFall_2 ?_
  refine lv_iload_n hx hb dX3_wantingToFall_5 rfl (lv_at hl 1 rfl) ?_
  refine z_iald hx hb hK hP 2 rfl (k1) (rfl) (by omega) (by decide) dX3_wantingToFall_6 ?_
  refine lv_imul hx hb dX3_wantingToFall_7 ?_
  refine lv_iload_n hx hb dX3_wantingToFall_8 rfl (lv_at hl 3 rfl) ?_
  refine lv_imul hx hb dX3_wantingToFall_9 ?_
  refine lv_ldc (own := RX3) hx hb hown (hts (.constant RX3 31 (100000)) (by decide +kernel)) dX3_wantingToFall_10 ?_
  refine lv_idiv hx hb dX3_wantingToFall_12 (by decide) ?_
  refine lv_istore (lv' := [(4, .int ((((a) * (w k1)) * (f)) / (100000))), (0, .ref (h1)), (1, .int (nI (k1))), (2, .int (a)), (3, .int (f))]) hx hb dX3_wantingToFall_13 hl (by decide) rfl (fun ls hl => ?_)
  refine lv_iload hx hb dX3_wantingToFall_15 (lv_at hl 0 rfl) ?_
  refine lv_if_ne (tgt := 32) hx hb dX3_wantingToFall_17 (by decide) (fun c_17 => ?_) (fun c_17 => ?_)
  · refine lv_iload hx hb dX3_wantingToFall_32 (lv_at hl 0 rfl) ?_
    refine lv_iload_n hx hb dX3_wantingToFall_34 rfl (lv_at hl 3 rfl) ?_
    refine va_mmin hx hb (by rw [hml]; exact hl.1.symm) hown (hts (.methodLink RX3 32 Lib.Math.min.name) (by decide +kernel)) (hts (.static Lib.Math.min.name) (by decide +kernel)) (hts (.initialized "java/lang/Math") (by decide +kernel)) (hts (.code Lib.Math.min.name Lib.Math.min.code 2 (some .int)) (by decide +kernel)) (Nat.le_of_ble_eq_true rfl) (Nat.le_of_ble_eq_true rfl) (Nat.zero_le _) (Nat.zero_le _) dX3_wantingToFall_35 ?_
    exact z_iret hx hb hr hlocks ((if_neg (fun q => c_17 q.1)).symm) dX3_wantingToFall_38
  · refine lv_iload_n hx hb dX3_wantingToFall_20 rfl (lv_at hl 3 rfl) ?_
    refine lv_aload_n hx hb dX3_wantingToFall_21 rfl (lv_at hl 1 rfl) ?_
    refine va_get (ci := 3) (v := .ref (v0)) (C := RX3) (T := TX3) (N := 2) hx hb hts (by decide +kernel) hown hK hP 0 rfl rfl 0 (by decide) (hts (.fieldLink RX3 9 "SettlingJars$Settings" "values" "[I") (by decide +kernel)) (fun _ h9 => h9) rfl dX3_wantingToFall_22 ?_
    refine lv_iconst (v := 3) hx hb dX3_wantingToFall_25 (by decide) ?_
    refine z_iald hx hb hK hP 1 rfl (3) (rfl) (by omega) (by decide) dX3_wantingToFall_26 ?_
    refine lv_icmp_le (tgt := 32) hx hb dX3_wantingToFall_27 (by decide) (fun c_27 => ?_) (fun c_27 => ?_)
    · refine lv_iload hx hb dX3_wantingToFall_32 (lv_at hl 0 rfl) ?_
      refine lv_iload_n hx hb dX3_wantingToFall_34 rfl (lv_at hl 3 rfl) ?_
      refine va_mmin hx hb (by rw [hml]; exact hl.1.symm) hown (hts (.methodLink RX3 32 Lib.Math.min.name) (by decide +kernel)) (hts (.static Lib.Math.min.name) (by decide +kernel)) (hts (.initialized "java/lang/Math") (by decide +kernel)) (hts (.code Lib.Math.min.name Lib.Math.min.code 2 (some .int)) (by decide +kernel)) (Nat.le_of_ble_eq_true rfl) (Nat.le_of_ble_eq_true rfl) (Nat.zero_le _) (Nat.zero_le _) dX3_wantingToFall_35 ?_
      exact z_iret hx hb hr hlocks ((if_neg (fun q => absurd c_27 (Int32.not_le.mpr q.2))).symm) dX3_wantingToFall_38
    · refine lv_iconst (v := 1) hx hb dX3_wantingToFall_30 (by decide) ?_
      exact z_iret hx hb hr hlocks ((if_pos ⟨c_17, Int32.not_le.mp c_27⟩).symm) dX3_wantingToFall_31

set_option maxRecDepth 100000 in
set_option maxHeartbeats 4000000 in
theorem metX3_copyFrom (l : Launch) (D : va_G) (ac : Nat → ClassId) (sz : Nat) (h1 : Nat) (v0 : Nat) (w0 : Nat) (v : Nat → Int32) (w : Nat → Int32) (h2 : Nat) (o0 : Nat) (p0 : Nat) (vo : Nat → Int32) (wo : Nat → Int32)  : Met l yX3_copyFrom wsX3_copyFrom ({ frames := 1, cells := 0, slots := 0, locals := 40 } : Room) (va_Pc [.ref (h1), .ref (h2)] (zS D ac [(h1, .inr (3, [.ref (v0), .ref (w0)])), (v0, .inl (ac 0, 4, .inl (v))), (w0, .inl (ac 0, 4, .inl (w))), (h2, .inr (3, [.ref (o0), .ref (p0)])), (o0, .inl (ac 0, 4, .inl (vo))), (p0, .inl (ac 0, 4, .inl (wo)))] sz)) (zQv D ac [(h1, .inr (3, [.ref (v0), .ref (w0)])), (v0, .inl (ac 0, 4, .inl (v))), (w0, .inl (ac 0, 4, .inl (w))), (h2, .inr (3, [.ref (o0), .ref (p0)])), (o0, .inl (ac 0, 4, .inl (vo))), (p0, .inl (ac 0, 4, .inl (wo)))] [(h1, .inr (3, [.ref (v0), .ref (w0)])), (v0, .inl (ac 0, 4, .inl (vo))), (w0, .inl (ac 0, 4, .inl (wo))), (h2, .inr (3, [.ref (o0), .ref (p0)])), (o0, .inl (ac 0, 4, .inl (vo))), (p0, .inl (ac 0, 4, .inl (wo)))] sz) 0 0 (va_A [(h1, .inr (3, [.ref (v0), .ref (w0)])), (v0, .inl (ac 0, 4, .inl (v))), (w0, .inl (ac 0, 4, .inl (w))), (h2, .inr (3, [.ref (o0), .ref (p0)])), (o0, .inl (ac 0, 4, .inl (vo))), (p0, .inl (ac 0, 4, .inl (wo)))] sz) := by
  refine z_rw (cc := cX3_copyFrom) (maxL := 2) (ret := none) (lv := [(0, .ref (h1)), (1, .ref (h2))]) (by decide) rfl (Nat.le_of_ble_eq_true rfl) rfl ?_
  intro p e s m args below meth c ls A hx hb hr hml hown hts hlocks hl hK hP hsz hAe hA hD hS
  refine lv_aload_n hx hb dX3_copyFrom_0 rfl (lv_at hl 1 rfl) ?_
  refine va_get (ci := 3) (v := .ref (o0)) (C := RX3) (T := TX3) (N := 2) hx hb hts (by decide +kernel) hown hK hP 3 rfl rfl 0 (by decide) (hts (.fieldLink RX3 9 "SettlingJars$Settings" "values" "[I") (by decide +kernel)) (fun _ h9 => h9) rfl dX3_copyFrom_1 ?_
  refine lv_iconst (v := 0) hx hb dX3_copyFrom_4 (by decide) ?_
  refine lv_aload_n hx hb dX3_copyFrom_5 rfl (lv_at hl 0 rfl) ?_
  refine va_get (ci := 3) (v := .ref (v0)) (C := RX3) (T := TX3) (N := 2) hx hb hts (by decide +kernel) hown hK hP 0 rfl rfl 0 (by decide) (hts (.fieldLink RX3 9 "SettlingJars$Settings" "values" "[I") (by decide +kernel)) (fun _ h9 => h9) rfl dX3_copyFrom_6 ?_
  refine lv_iconst (v := 0) hx hb dX3_copyFrom_9 (by decide) ?_
  refine lv_iconst (v := 4) hx hb dX3_copyFrom_10 (by decide) ?_
  refine z_copy (n := 4) hx hb (by rw [hml]; exact hl.1.symm) hown (hts (.methodLink RX3 18 arraycopyName) (by decide +kernel)) (hts (.native arraycopyName) (by decide +kernel)) (hts (.static arraycopyName) (by decide +kernel)) (hts (.initialized "java/lang/System") (by decide +kernel)) hK hP hD hS 4 1 rfl rfl (Nat.le_of_ble_eq_true rfl) (by decide) (Nat.le_of_ble_eq_true rfl) dX3_copyFrom_11 (fun H locs hP hD hS => ?_)
  have hP : va_P D vwCl [(h1, .inr (3, [.ref (v0), .ref (w0)])), (v0, .inl (ac 0, 4, .inl (vo))), (w0, .inl (ac 0, 4, .inl (w))), (h2, .inr (3, [.ref (o0), .ref (p0)])), (o0, .inl (ac 0, 4, .inl (vo))), (p0, .inl (ac 0, 4, .inl (wo)))] H := hP
  have hD : va_D A [(h1, .inr (3, [.ref (v0), .ref (w0)])), (v0, .inl (ac 0, 4, .inl (vo))), (w0, .inl (ac 0, 4, .inl (w))), (h2, .inr (3, [.ref (o0), .ref (p0)])), (o0, .inl (ac 0, 4, .inl (vo))), (p0, .inl (ac 0, 4, .inl (wo)))] := hD
  refine lv_aload_n hx hb dX3_copyFrom_14 rfl (lv_at hl 1 rfl) ?_
  refine va_get (ci := 3) (v := .ref (p0)) (C := RX3) (T := TX3) (N := 2) hx hb hts (by decide +kernel) hown hK hP 3 rfl rfl 1 (by decide) (hts (.fieldLink RX3 15 "SettlingJars$Settings" "speeds" "[I") (by decide +kernel)) (fun _ h9 => h9) rfl dX3_copyFrom_15 ?_
  refine lv_iconst (v := 0) hx hb dX3_copyFrom_18 (by decide) ?_
  refine lv_aload_n hx hb dX3_copyFrom_19 rfl (lv_at hl 0 rfl) ?_
  refine va_get (ci := 3) (v := .ref (w0)) (C := RX3) (T := TX3) (N := 2) hx hb hts (by decide +kernel) hown hK hP 0 rfl rfl 1 (by decide) (hts (.fieldLink RX3 15 "SettlingJars$Settings" "speeds" "[I") (by decide +kernel)) (fun _ h9 => h9) rfl dX3_copyFrom_20 ?_
  refine lv_iconst (v := 0) hx hb dX3_copyFrom_23 (by decide) ?_
  refine lv_iconst (v := 4) hx hb dX3_copyFrom_24 (by decide) ?_
  refine z_copy (n := 4) hx hb (by rw [hml]; exact hl.1.symm) hown (hts (.methodLink RX3 18 arraycopyName) (by decide +kernel)) (hts (.native arraycopyName) (by decide +kernel)) (hts (.static arraycopyName) (by decide +kernel)) (hts (.initialized "java/lang/System") (by decide +kernel)) hK hP hD hS 5 2 rfl rfl (Nat.le_of_ble_eq_true rfl) (by decide) (Nat.le_of_ble_eq_true rfl) dX3_copyFrom_25 (fun H locs hP hD hS => ?_)
  have hP : va_P D vwCl [(h1, .inr (3, [.ref (v0), .ref (w0)])), (v0, .inl (ac 0, 4, .inl (vo))), (w0, .inl (ac 0, 4, .inl (wo))), (h2, .inr (3, [.ref (o0), .ref (p0)])), (o0, .inl (ac 0, 4, .inl (vo))), (p0, .inl (ac 0, 4, .inl (wo)))] H := hP
  have hD : va_D A [(h1, .inr (3, [.ref (v0), .ref (w0)])), (v0, .inl (ac 0, 4, .inl (vo))), (w0, .inl (ac 0, 4, .inl (wo))), (h2, .inr (3, [.ref (o0), .ref (p0)])), (o0, .inl (ac 0, 4, .inl (vo))), (p0, .inl (ac 0, 4, .inl (wo)))] := hD
  exact z_vretW hx hb hr hlocks hK hP hD hS hAe dX3_copyFrom_28

set_option maxRecDepth 100000 in
set_option maxHeartbeats 4000000 in
theorem metX2_many (l : Launch) (D : va_G) (ac : Nat → ClassId) (h0 : Nat) (g0 : Nat) (g : Nat → Int32) (s1 : Nat) (k1 : Nat) (hs : s1 < 12) (hk : k1 < 4) : Met l yX2_many wsX2_many ({ frames := 0, cells := 0, slots := 0, locals := 0 } : Room) (va_Pc [.ref (h0), .int (nI (s1)), .int (nI (k1))] (zW D ac [(h0, .inr (2, [.ref (g0)])), (g0, .inl (ac 0, 48, .inl (g)))])) (zRi (g (4 * s1 + k1))) 0 0 (fun _ => False) := by
  refine z_ro (cc := cX2_many) (maxL := 3) (ret := (some .int)) (lv := [(0, .ref (h0)), (1, .int (nI (s1))), (2, .int (nI (k1)))]) (by decide) rfl (Nat.le_of_ble_eq_true rfl) rfl ?_
  intro p e s m args below meth c ls hx hb hr hml hown hts hlocks hl hK hP
  refine lv_aload_n hx hb dX2_many_0 rfl (lv_at hl 0 rfl) ?_
  refine va_get (ci := 2) (v := .ref (g0)) (C := RX2) (T := TX2) (N := 1) hx hb hts (by decide +kernel) hown hK hP 0 rfl rfl 0 (by decide) (hts (.fieldLink RX2 9 "SettlingJars$Jar" "grains" "[I") (by decide +kernel)) (fun _ h9 => h9) rfl dX2_many_1 ?_
  refine lv_iload_n hx hb dX2_many_4 rfl (lv_at hl 1 rfl) ?_
  refine lv_iconst (v := 4) hx hb dX2_many_5 (by decide) ?_
  refine lv_imul hx hb dX2_many_6 ?_
  refine z_top (y := nI ((s1) * (4))) (pk_mul (s1) (4)) ?_
  refine lv_iload_n hx hb dX2_many_7 rfl (lv_at hl 2 rfl) ?_
  refine lv_iadd hx hb dX2_many_8 ?_
  refine z_top (y := nI (((s1) * (4)) + (k1))) (nI_add ((s1) * (4)) (k1)) ?_
  refine z_iald hx hb hK hP 1 rfl (4 * s1 + k1) (congrArg nI (by omega)) (by omega) (by decide) dX2_many_9 ?_
  exact z_iret hx hb hr hlocks (rfl) dX2_many_10

set_option maxRecDepth 100000 in
set_option maxHeartbeats 4000000 in
theorem metX2_allIn (l : Launch) (D : va_G) (ac : Nat → ClassId) (h0 : Nat) (g0 : Nat) (g : Nat → Int32) (s1 : Nat) (hs : s1 < 12) : Met l yX2_allIn wsX2_allIn ({ frames := 1, cells := 0, slots := 0, locals := 22 } : Room) (va_Pc [.ref (h0), .int (nI (s1))] (zW D ac [(h0, .inr (2, [.ref (g0)])), (g0, .inl (ac 0, 48, .inl (g)))])) (zRi (qIn g s1)) 0 0 (fun _ => False) := by
  refine z_ro (cc := cX2_allIn) (maxL := 4) (ret := (some .int)) (lv := [(0, .ref (h0)), (1, .int (nI (s1)))]) (by decide) rfl (Nat.le_of_ble_eq_true rfl) rfl ?_
  intro p e s m args below meth c ls hx hb hr hml hown hts hlocks hl hK hP
  refine lv_iconst (v := 0) hx hb dX2_allIn_0 (by decide) ?_
  refine lv_istore_n (lv' := [(2, .int (0)), (0, .ref (h0)), (1, .int (nI (s1)))]) hx hb dX2_allIn_1 rfl hl (by decide) rfl (fun ls hl => ?_)
  refine lv_iconst (v := 0) hx hb dX2_allIn_2 (by decide) ?_
  refine lv_istore_n (lv' := [(3, .int (0)), (2, .int (0)), (0, .ref (h0)), (1, .int (nI (s1)))]) hx hb dX2_allIn_3 rfl hl (by decide) rfl (fun ls hl => ?_)
  have hL_4 : ∀ (n : Nat) (i : Nat), (i + n = 4) → ∀ (ls : Array Slot), lv_has ls 4 [(3, .int (nI (i))), (2, .int (qS (fun c => g (4 * s1 + c)) i)), (0, .ref (h0)), (1, .int (nI (s1)))] → W p l e ({ frames := 1, cells := 0, slots := 0, locals := 22 } : Room) s m args below meth c s.heap [] 0 0 (MQ below (zRi (qIn g s1)) args s 0 0 (fun _ => False)) (F0 m 4 ls []) := by
    intro n
    induction n with
    | zero =>
      intro i hi ls hl
      have e_i : 4 = i := by omega
      subst e_i
      refine lv_iload_n hx hb dX2_allIn_4 rfl (lv_at hl 0 rfl) ?_
      refine lv_iconst (v := 4) hx hb dX2_allIn_5 (by decide) ?_
      refine z_icmp_ge (tgt := 24) hx hb (4) (4) dX2_allIn_6 (by decide) (by omega) (by omega) rfl rfl (fun c_6 => ?_) (fun c_6 => absurd c_6 (by omega))
      refine lv_iload_n hx hb dX2_allIn_24 rfl (lv_at hl 1 rfl) ?_
      exact z_iret hx hb hr hlocks (rfl) dX2_allIn_25
    | succ n ih =>
      intro i hi ls hl
      refine lv_iload_n hx hb dX2_allIn_4 rfl (lv_at hl 0 rfl) ?_
      refine lv_iconst (v := 4) hx hb dX2_allIn_5 (by decide) ?_
      refine z_icmp_ge (tgt := 24) hx hb (i) (4) dX2_allIn_6 (by decide) (by omega) (by omega) rfl rfl (fun c_6 => absurd c_6 (by omega)) (fun c_6 => ?_)
      refine lv_iload_n hx hb dX2_allIn_9 rfl (lv_at hl 1 rfl) ?_
      refine lv_aload_n hx hb dX2_allIn_10 rfl (lv_at hl 2 rfl) ?_
      refine lv_iload_n hx hb dX2_allIn_11 rfl (lv_at hl 3 rfl) ?_
      refine lv_iload_n hx hb dX2_allIn_12 rfl (lv_at hl 0 rfl) ?_
      refine z_ci (z_vrun (rest := [.int (qS (fun c => g (4 * s1 + c)) i)]) (own := RX2) (As := [.int (nI (s1)), .int (nI (i))]) hx hb hml hown hts hl.1 hK hP [0, 1] rfl (metX2_many l D ac h0 g0 g s1 i (by omega) (by omega)) gX2_allIn_X2_many rfl 2 (by decide +kernel) ⟨rfl, rfl, Nat.le_of_ble_eq_true rfl, Nat.le_of_ble_eq_true rfl⟩ 0 2 rfl rfl rfl rfl rfl (Nat.le_of_ble_eq_true rfl) dX2_allIn_13 ⟨Nat.zero_le _, Nat.zero_le _⟩) ?_
      refine lv_iadd hx hb dX2_allIn_16 ?_
      refine lv_istore_n (lv' := [(2, .int ((qS (fun c => g (4 * s1 + c)) i) + (g (4 * s1 + i)))), (3, .int (nI (i))), (0, .ref (h0)), (1, .int (nI (s1)))]) hx hb dX2_allIn_17 rfl hl (by decide) rfl (fun ls hl => ?_)
      refine lv_iinc (v := nI ((i) + 1)) (lv' := [(3, .int (nI ((i) + 1))), (2, .int ((qS (fun c => g (4 * s1 + c)) i) + (g (4 * s1 + i)))), (0, .ref (h0)), (1, .int (nI (s1)))]) hx hb dX2_allIn_18 hl (k := 1) rfl (show nI (i) + Int32.ofInt 1 = _ from nI_add (i) 1) (by decide) rfl (fun ls hl => ?_)
      refine lv_goto (tgt := 4) hx hb dX2_allIn_21 (by decide) ?_
      exact ih (i + 1) (by omega) ls (lv_sub hl [0, 1, 2, 3] rfl)
  exact hL_4 (4) (0) (by omega) ls (lv_sub hl [0, 1, 2, 3] rfl)

set_option maxRecDepth 100000 in
set_option maxHeartbeats 4000000 in
theorem metX2_allOf (l : Launch) (D : va_G) (ac : Nat → ClassId) (h0 : Nat) (g0 : Nat) (g : Nat → Int32) (k1 : Nat) (hk : k1 < 4) : Met l yX2_allOf wsX2_allOf ({ frames := 1, cells := 0, slots := 0, locals := 22 } : Room) (va_Pc [.ref (h0), .int (nI (k1))] (zW D ac [(h0, .inr (2, [.ref (g0)])), (g0, .inl (ac 0, 48, .inl (g)))])) (zRi (qOf g k1)) 0 0 (fun _ => False) := by
  refine z_ro (cc := cX2_allOf) (maxL := 4) (ret := (some .int)) (lv := [(0, .ref (h0)), (1, .int (nI (k1)))]) (by decide) rfl (Nat.le_of_ble_eq_true rfl) rfl ?_
  intro p e s m args below meth c ls hx hb hr hml hown hts hlocks hl hK hP
  refine lv_iconst (v := 0) hx hb dX2_allOf_0 (by decide) ?_
  refine lv_istore_n (lv' := [(2, .int (0)), (0, .ref (h0)), (1, .int (nI (k1)))]) hx hb dX2_allOf_1 rfl hl (by decide) rfl (fun ls hl => ?_)
  refine lv_iconst (v := 0) hx hb dX2_allOf_2 (by decide) ?_
  refine lv_istore_n (lv' := [(3, .int (0)), (2, .int (0)), (0, .ref (h0)), (1, .int (nI (k1)))]) hx hb dX2_allOf_3 rfl hl (by decide) rfl (fun ls hl => ?_)
  have hL_4 : ∀ (n : Nat) (i : Nat), (i + n = 12) → ∀ (ls : Array Slot), lv_has ls 4 [(3, .int (nI (i))), (2, .int (qS (fun s => g (4 * s + k1)) i)), (0, .ref (h0)), (1, .int (nI (k1)))] → W p l e ({ frames := 1, cells := 0, slots := 0, locals := 22 } : Room) s m args below meth c s.heap [] 0 0 (MQ below (zRi (qOf g k1)) args s 0 0 (fun _ => False)) (F0 m 4 ls []) := by
    intro n
    induction n with
    | zero =>
      intro i hi ls hl
      have e_i : 12 = i := by omega
      subst e_i
      refine lv_iload_n hx hb dX2_allOf_4 rfl (lv_at hl 0 rfl) ?_
      refine lv_bipush (v := 12) hx hb dX2_allOf_5 (by decide) ?_
      refine z_icmp_ge (tgt := 25) hx hb (12) (12) dX2_allOf_7 (by decide) (by omega) (by omega) rfl rfl (fun c_7 => ?_) (fun c_7 => absurd c_7 (by omega))
      refine lv_iload_n hx hb dX2_allOf_25 rfl (lv_at hl 1 rfl) ?_
      exact z_iret hx hb hr hlocks (rfl) dX2_allOf_26
    | succ n ih =>
      intro i hi ls hl
      refine lv_iload_n hx hb dX2_allOf_4 rfl (lv_at hl 0 rfl) ?_
      refine lv_bipush (v := 12) hx hb dX2_allOf_5 (by decide) ?_
      refine z_icmp_ge (tgt := 25) hx hb (i) (12) dX2_allOf_7 (by decide) (by omega) (by omega) rfl rfl (fun c_7 => absurd c_7 (by omega)) (fun c_7 => ?_)
      refine lv_iload_n hx hb dX2_allOf_10 rfl (lv_at hl 1 rfl) ?_
      refine lv_aload_n hx hb dX2_allOf_11 rfl (lv_at hl 2 rfl) ?_
      refine lv_iload_n hx hb dX2_allOf_12 rfl (lv_at hl 0 rfl) ?_
      refine lv_iload_n hx hb dX2_allOf_13 rfl (lv_at hl 3 rfl) ?_
      refine z_ci (z_vrun (rest := [.int (qS (fun s => g (4 * s + k1)) i)]) (own := RX2) (As := [.int (nI (i)), .int (nI (k1))]) hx hb hml hown hts hl.1 hK hP [0, 1] rfl (metX2_many l D ac h0 g0 g i k1 (by omega) (by omega)) gX2_allOf_X2_many rfl 2 (by decide +kernel) ⟨rfl, rfl, Nat.le_of_ble_eq_true rfl, Nat.le_of_ble_eq_true rfl⟩ 0 2 rfl rfl rfl rfl rfl (Nat.le_of_ble_eq_true rfl) dX2_allOf_14 ⟨Nat.zero_le _, Nat.zero_le _⟩) ?_
      refine lv_iadd hx hb dX2_allOf_17 ?_
      refine lv_istore_n (lv' := [(2, .int ((qS (fun s => g (4 * s + k1)) i) + (g (4 * i + k1)))), (3, .int (nI (i))), (0, .ref (h0)), (1, .int (nI (k1)))]) hx hb dX2_allOf_18 rfl hl (by decide) rfl (fun ls hl => ?_)
      refine lv_iinc (v := nI ((i) + 1)) (lv' := [(3, .int (nI ((i) + 1))), (2, .int ((qS (fun s => g (4 * s + k1)) i) + (g (4 * i + k1)))), (0, .ref (h0)), (1, .int (nI (k1)))]) hx hb dX2_allOf_19 hl (k := 1) rfl (show nI (i) + Int32.ofInt 1 = _ from nI_add (i) 1) (by decide) rfl (fun ls hl => ?_)
      refine lv_goto (tgt := 4) hx hb dX2_allOf_22 (by decide) ?_
      exact ih (i + 1) (by omega) ls (lv_sub hl [0, 1, 2, 3] rfl)
  exact hL_4 (12) (0) (by omega) ls (lv_sub hl [0, 1, 2, 3] rfl)

set_option maxRecDepth 100000 in
set_option maxHeartbeats 4000000 in
theorem metX2_allDownTo (l : Launch) (D : va_G) (ac : Nat → ClassId) (h0 : Nat) (g0 : Nat) (g : Nat → Int32) (x : Int32) (t : Nat) (hx1 : x = nI t - 1) (ht : t ≤ 12) : Met l yX2_allDownTo wsX2_allDownTo ({ frames := 2, cells := 0, slots := 0, locals := 45 } : Room) (va_Pc [.ref (h0), .int (x)] (zW D ac [(h0, .inr (2, [.ref (g0)])), (g0, .inl (ac 0, 48, .inl (g)))])) (zRi (qTo g t)) 0 0 (fun _ => False) := by
  refine z_ro (cc := cX2_allDownTo) (maxL := 4) (ret := (some .int)) (lv := [(0, .ref (h0)), (1, .int (x))]) (by decide) rfl (Nat.le_of_ble_eq_true rfl) rfl ?_
  intro p e s m args below meth c ls hx hb hr hml hown hts hlocks hl hK hP
  refine lv_iconst (v := 0) hx hb dX2_allDownTo_0 (by decide) ?_
  refine lv_istore_n (lv' := [(2, .int (0)), (0, .ref (h0)), (1, .int (x))]) hx hb dX2_allDownTo_1 rfl hl (by decide) rfl (fun ls hl => ?_)
  refine lv_iconst (v := 0) hx hb dX2_allDownTo_2 (by decide) ?_
  refine lv_istore_n (lv' := [(3, .int (0)), (2, .int (0)), (0, .ref (h0)), (1, .int (x))]) hx hb dX2_allDownTo_3 rfl hl (by decide) rfl (fun ls hl => ?_)
  have hL_4 : ∀ (n : Nat) (i : Nat), (i + n = t) → ∀ (ls : Array Slot), lv_has ls 4 [(3, .int (nI (i))), (2, .int (qTo g i)), (0, .ref (h0)), (1, .int (x))] → W p l e ({ frames := 2, cells := 0, slots := 0, locals := 45 } : Room) s m args below meth c s.heap [] 0 0 (MQ below (zRi (qTo g t)) args s 0 0 (fun _ => False)) (F0 m 4 ls []) := by
    intro n
    induction n with
    | zero =>
      intro i hi ls hl
      have e_i : t = i := by omega
      subst e_i
      refine lv_iload_n hx hb dX2_allDownTo_4 rfl (lv_at hl 0 rfl) ?_
      refine lv_iload_n hx hb dX2_allDownTo_5 rfl (lv_at hl 3 rfl) ?_
      refine lv_icmp_gt (tgt := 23) hx hb dX2_allDownTo_6 (by decide) (fun c_6 => ?_) (fun c_6 => absurd c_6 (fun q => q (by rw [hx1]; exact (z_ltm1 (by omega) (by omega)).mpr (by omega))))
      refine lv_iload_n hx hb dX2_allDownTo_23 rfl (lv_at hl 1 rfl) ?_
      exact z_iret hx hb hr hlocks (rfl) dX2_allDownTo_24
    | succ n ih =>
      intro i hi ls hl
      refine lv_iload_n hx hb dX2_allDownTo_4 rfl (lv_at hl 0 rfl) ?_
      refine lv_iload_n hx hb dX2_allDownTo_5 rfl (lv_at hl 3 rfl) ?_
      refine lv_icmp_gt (tgt := 23) hx hb dX2_allDownTo_6 (by decide) (fun c_6 => absurd c_6 (by rw [hx1]; exact fun q => absurd ((z_ltm1 (by omega) (by omega)).mp q) (by omega))) (fun c_6 => ?_)
      refine lv_iload_n hx hb dX2_allDownTo_9 rfl (lv_at hl 1 rfl) ?_
      refine lv_aload_n hx hb dX2_allDownTo_10 rfl (lv_at hl 2 rfl) ?_
      refine lv_iload_n hx hb dX2_allDownTo_11 rfl (lv_at hl 0 rfl) ?_
      refine z_ci (z_vrun (rest := [.int (qTo g i)]) (own := RX2) (As := [.int (nI (i))]) hx hb hml hown hts hl.1 hK hP [0, 1] rfl (metX2_allIn l D ac h0 g0 g i (by omega)) gX2_allDownTo_X2_allIn rfl 1 (by decide +kernel) ⟨rfl, rfl, Nat.le_of_ble_eq_true rfl, Nat.le_of_ble_eq_true rfl⟩ 0 2 rfl rfl rfl rfl rfl (Nat.le_of_ble_eq_true rfl) dX2_allDownTo_12 ⟨Nat.zero_le _, Nat.zero_le _⟩) ?_
      refine lv_iadd hx hb dX2_allDownTo_15 ?_
      refine lv_istore_n (lv' := [(2, .int ((qTo g i) + (qIn g i))), (3, .int (nI (i))), (0, .ref (h0)), (1, .int (x))]) hx hb dX2_allDownTo_16 rfl hl (by decide) rfl (fun ls hl => ?_)
      refine lv_iinc (v := nI ((i) + 1)) (lv' := [(3, .int (nI ((i) + 1))), (2, .int ((qTo g i) + (qIn g i))), (0, .ref (h0)), (1, .int (x))]) hx hb dX2_allDownTo_17 hl (k := 1) rfl (show nI (i) + Int32.ofInt 1 = _ from nI_add (i) 1) (by decide) rfl (fun ls hl => ?_)
      refine lv_goto (tgt := 4) hx hb dX2_allDownTo_20 (by decide) ?_
      exact ih (i + 1) (by omega) ls (lv_sub hl [0, 1, 2, 3] rfl)
  exact hL_4 (t) (0) (by omega) ls (lv_sub hl [0, 1, 2, 3] rfl)

set_option maxRecDepth 100000 in
set_option maxHeartbeats 4000000 in
theorem metX2_all (l : Launch) (D : va_G) (ac : Nat → ClassId) (h0 : Nat) (g0 : Nat) (g : Nat → Int32)  : Met l yX2_all wsX2_all ({ frames := 3, cells := 0, slots := 0, locals := 68 } : Room) (va_Pc [.ref (h0)] (zW D ac [(h0, .inr (2, [.ref (g0)])), (g0, .inl (ac 0, 48, .inl (g)))])) (zRi (qAll g)) 0 0 (fun _ => False) := by
  refine z_ro (cc := cX2_all) (maxL := 1) (ret := (some .int)) (lv := [(0, .ref (h0))]) (by decide) rfl (Nat.le_of_ble_eq_true rfl) rfl ?_
  intro p e s m args below meth c ls hx hb hr hml hown hts hlocks hl hK hP
  refine lv_aload_n hx hb dX2_all_0 rfl (lv_at hl 0 rfl) ?_
  refine lv_bipush (v := 11) hx hb dX2_all_1 (by decide) ?_
  refine z_ci (z_vrun (rest := []) (own := RX2) (As := [.int (11)]) hx hb hml hown hts hl.1 hK hP [0, 1] rfl (metX2_allDownTo l D ac h0 g0 g 11 12 (by decide) (by omega)) gX2_all_X2_allDownTo rfl 1 (by decide +kernel) ⟨rfl, rfl, Nat.le_of_ble_eq_true rfl, Nat.le_of_ble_eq_true rfl⟩ 0 2 rfl rfl rfl rfl rfl (Nat.le_of_ble_eq_true rfl) dX2_all_3 ⟨Nat.zero_le _, Nat.zero_le _⟩) ?_
  exact z_iret hx hb hr hlocks (rfl) dX2_all_6

set_option maxRecDepth 100000 in
set_option maxHeartbeats 4000000 in
theorem metX2_sumOfDepths (l : Launch) (D : va_G) (ac : Nat → ClassId) (h0 : Nat) (g0 : Nat) (g : Nat → Int32)  : Met l yX2_sumOfDepths wsX2_sumOfDepths ({ frames := 2, cells := 0, slots := 0, locals := 45 } : Room) (va_Pc [.ref (h0)] (zW D ac [(h0, .inr (2, [.ref (g0)])), (g0, .inl (ac 0, 48, .inl (g)))])) (zRi (qDep g)) 0 0 (fun _ => False) := by
  refine z_ro (cc := cX2_sumOfDepths) (maxL := 3) (ret := (some .int)) (lv := [(0, .ref (h0))]) (by decide) rfl (Nat.le_of_ble_eq_true rfl) rfl ?_
  intro p e s m args below meth c ls hx hb hr hml hown hts hlocks hl hK hP
  refine lv_iconst (v := 0) hx hb dX2_sumOfDepths_0 (by decide) ?_
  refine lv_istore_n (lv' := [(1, .int (0)), (0, .ref (h0))]) hx hb dX2_sumOfDepths_1 rfl hl (by decide) rfl (fun ls hl => ?_)
  refine lv_iconst (v := 0) hx hb dX2_sumOfDepths_2 (by decide) ?_
  refine lv_istore_n (lv' := [(2, .int (0)), (1, .int (0)), (0, .ref (h0))]) hx hb dX2_sumOfDepths_3 rfl hl (by decide) rfl (fun ls hl => ?_)
  have hL_4 : ∀ (n : Nat) (i : Nat), (i + n = 12) → ∀ (ls : Array Slot), lv_has ls 3 [(2, .int (nI (i))), (1, .int (qS (fun s => nI s * qIn g s) i)), (0, .ref (h0))] → W p l e ({ frames := 2, cells := 0, slots := 0, locals := 45 } : Room) s m args below meth c s.heap [] 0 0 (MQ below (zRi (qDep g)) args s 0 0 (fun _ => False)) (F0 m 4 ls []) := by
    intro n
    induction n with
    | zero =>
      intro i hi ls hl
      have e_i : 12 = i := by omega
      subst e_i
      refine lv_iload_n hx hb dX2_sumOfDepths_4 rfl (lv_at hl 0 rfl) ?_
      refine lv_bipush (v := 12) hx hb dX2_sumOfDepths_5 (by decide) ?_
      refine z_icmp_ge (tgt := 26) hx hb (12) (12) dX2_sumOfDepths_7 (by decide) (by omega) (by omega) rfl rfl (fun c_7 => ?_) (fun c_7 => absurd c_7 (by omega))
      refine lv_iload_n hx hb dX2_sumOfDepths_26 rfl (lv_at hl 1 rfl) ?_
      exact z_iret hx hb hr hlocks (rfl) dX2_sumOfDepths_27
    | succ n ih =>
      intro i hi ls hl
      refine lv_iload_n hx hb dX2_sumOfDepths_4 rfl (lv_at hl 0 rfl) ?_
      refine lv_bipush (v := 12) hx hb dX2_sumOfDepths_5 (by decide) ?_
      refine z_icmp_ge (tgt := 26) hx hb (i) (12) dX2_sumOfDepths_7 (by decide) (by omega) (by omega) rfl rfl (fun c_7 => absurd c_7 (by omega)) (fun c_7 => ?_)
      refine lv_iload_n hx hb dX2_sumOfDepths_10 rfl (lv_at hl 1 rfl) ?_
      refine lv_iload_n hx hb dX2_sumOfDepths_11 rfl (lv_at hl 0 rfl) ?_
      refine lv_aload_n hx hb dX2_sumOfDepths_12 rfl (lv_at hl 2 rfl) ?_
      refine lv_iload_n hx hb dX2_sumOfDepths_13 rfl (lv_at hl 0 rfl) ?_
      refine z_ci (z_vrun (rest := [.int (nI (i)), .int (qS (fun s => nI s * qIn g s) i)]) (own := RX2) (As := [.int (nI (i))]) hx hb hml hown hts hl.1 hK hP [0, 1] rfl (metX2_allIn l D ac h0 g0 g i (by omega)) gX2_sumOfDepths_X2_allIn rfl 1 (by decide +kernel) ⟨rfl, rfl, Nat.le_of_ble_eq_true rfl, Nat.le_of_ble_eq_true rfl⟩ 0 2 rfl rfl rfl rfl rfl (Nat.le_of_ble_eq_true rfl) dX2_sumOfDepths_14 ⟨Nat.zero_le _, Nat.zero_le _⟩) ?_
      refine lv_imul hx hb dX2_sumOfDepths_17 ?_
      refine lv_iadd hx hb dX2_sumOfDepths_18 ?_
      refine lv_istore_n (lv' := [(1, .int ((qS (fun s => nI s * qIn g s) i) + ((nI (i)) * (qIn g i)))), (2, .int (nI (i))), (0, .ref (h0))]) hx hb dX2_sumOfDepths_19 rfl hl (by decide) rfl (fun ls hl => ?_)
      refine lv_iinc (v := nI ((i) + 1)) (lv' := [(2, .int (nI ((i) + 1))), (1, .int ((qS (fun s => nI s * qIn g s) i) + ((nI (i)) * (qIn g i)))), (0, .ref (h0))]) hx hb dX2_sumOfDepths_20 hl (k := 1) rfl (show nI (i) + Int32.ofInt 1 = _ from nI_add (i) 1) (by decide) rfl (fun ls hl => ?_)
      refine lv_goto (tgt := 4) hx hb dX2_sumOfDepths_23 (by decide) ?_
      exact ih (i + 1) (by omega) ls (lv_sub hl [0, 1, 2] rfl)
  exact hL_4 (12) (0) (by omega) ls (lv_sub hl [0, 1, 2] rfl)

set_option maxRecDepth 100000 in
set_option maxHeartbeats 4000000 in
theorem metX2_leadingClass (l : Launch) (D : va_G) (ac : Nat → ClassId) (h0 : Nat) (g0 : Nat) (g : Nat → Int32) (s1 : Nat) (hs : s1 < 12) : Met l yX2_leadingClass wsX2_leadingClass ({ frames := 1, cells := 0, slots := 0, locals := 22 } : Room) (va_Pc [.ref (h0), .int (nI (s1))] (zW D ac [(h0, .inr (2, [.ref (g0)])), (g0, .inl (ac 0, 48, .inl (g)))])) (zRi (qLead g s1)) 0 0 (fun _ => False) := by
  refine z_ro (cc := cX2_leadingClass) (maxL := 5) (ret := (some .int)) (lv := [(0, .ref (h0)), (1, .int (nI (s1)))]) (by decide) rfl (Nat.le_of_ble_eq_true rfl) rfl ?_
  intro p e s m args below meth c ls hx hb hr hml hown hts hlocks hl hK hP
  refine lv_iconst (v := (-1)) hx hb dX2_leadingClass_0 (by decide) ?_
  refine lv_istore_n (lv' := [(2, .int ((-1))), (0, .ref (h0)), (1, .int (nI (s1)))]) hx hb dX2_leadingClass_1 rfl hl (by decide) rfl (fun ls hl => ?_)
  refine lv_iconst (v := 0) hx hb dX2_leadingClass_2 (by decide) ?_
  refine lv_istore_n (lv' := [(3, .int (0)), (2, .int ((-1))), (0, .ref (h0)), (1, .int (nI (s1)))]) hx hb dX2_leadingClass_3 rfl hl (by decide) rfl (fun ls hl => ?_)
  refine lv_iconst (v := 0) hx hb dX2_leadingClass_4 (by decide) ?_
  refine lv_istore (lv' := [(4, .int (0)), (3, .int (0)), (2, .int ((-1))), (0, .ref (h0)), (1, .int (nI (s1)))]) hx hb dX2_leadingClass_5 hl (by decide) rfl (fun ls hl => ?_)
  have hL_7 : ∀ (n : Nat) (i : Nat), (i + n = 4) → ∀ (ls : Array Slot), lv_has ls 5 [(4, .int (nI (i))), (3, .int ((qLd (fun c => g (4 * s1 + c)) i).2)), (2, .int ((qLd (fun c => g (4 * s1 + c)) i).1)), (0, .ref (h0)), (1, .int (nI (s1)))] → W p l e ({ frames := 1, cells := 0, slots := 0, locals := 22 } : Room) s m args below meth c s.heap [] 0 0 (MQ below (zRi (qLead g s1)) args s 0 0 (fun _ => False)) (F0 m 7 ls []) := by
    intro n
    induction n with
    | zero =>
      intro i hi ls hl
      have e_i : 4 = i := by omega
      subst e_i
      refine lv_iload hx hb dX2_leadingClass_7 (lv_at hl 0 rfl) ?_
      refine lv_iconst (v := 4) hx hb dX2_leadingClass_9 (by decide) ?_
      refine z_icmp_ge (tgt := 41) hx hb (4) (4) dX2_leadingClass_10 (by decide) (by omega) (by omega) rfl rfl (fun c_10 => ?_) (fun c_10 => absurd c_10 (by omega))
      refine lv_iload_n hx hb dX2_leadingClass_41 rfl (lv_at hl 2 rfl) ?_
      exact z_iret hx hb hr hlocks (rfl) dX2_leadingClass_42
    | succ n ih =>
      intro i hi ls hl
      refine lv_iload hx hb dX2_leadingClass_7 (lv_at hl 0 rfl) ?_
      refine lv_iconst (v := 4) hx hb dX2_leadingClass_9 (by decide) ?_
      refine z_icmp_ge (tgt := 41) hx hb (i) (4) dX2_leadingClass_10 (by decide) (by omega) (by omega) rfl rfl (fun c_10 => absurd c_10 (by omega)) (fun c_10 => ?_)
      refine lv_aload_n hx hb dX2_leadingClass_13 rfl (lv_at hl 3 rfl) ?_
      refine lv_iload_n hx hb dX2_leadingClass_14 rfl (lv_at hl 4 rfl) ?_
      refine lv_iload hx hb dX2_leadingClass_15 (lv_at hl 0 rfl) ?_
      refine z_ci (z_vrun (rest := []) (own := RX2) (As := [.int (nI (s1)), .int (nI (i))]) hx hb hml hown hts hl.1 hK hP [0, 1] rfl (metX2_many l D ac h0 g0 g s1 i (by omega) (by omega)) gX2_leadingClass_X2_many rfl 2 (by decide +kernel) ⟨rfl, rfl, Nat.le_of_ble_eq_true rfl, Nat.le_of_ble_eq_true rfl⟩ 0 2 rfl rfl rfl rfl rfl (Nat.le_of_ble_eq_true rfl) dX2_leadingClass_17 ⟨Nat.zero_le _, Nat.zero_le _⟩) ?_
      refine lv_iload_n hx hb dX2_leadingClass_20 rfl (lv_at hl 1 rfl) ?_
      refine lv_icmp_le (tgt := 35) hx hb dX2_leadingClass_21 (by decide) (fun c_21 => ?_) (fun c_21 => ?_)
      · refine lv_iinc (v := nI ((i) + 1)) (lv' := [(4, .int (nI ((i) + 1))), (3, .int ((qLd (fun c => g (4 * s1 + c)) i).2)), (2, .int ((qLd (fun c => g (4 * s1 + c)) i).1)), (0, .ref (h0)), (1, .int (nI (s1)))]) hx hb dX2_leadingClass_35 hl (k := 0) rfl (show nI (i) + Int32.ofInt 1 = _ from nI_add (i) 1) (by decide) rfl (fun ls hl => ?_)
        refine lv_goto (tgt := 7) hx hb dX2_leadingClass_38 (by decide) ?_
        have e1 : qLd (fun c => g (4 * s1 + c)) (i + 1) = qLd (fun c => g (4 * s1 + c)) i := if_neg (Int32.not_lt.mpr c_21)
        exact ih (i + 1) (by omega) ls (by rw [e1]; exact lv_sub hl [0, 1, 2, 3, 4] rfl)
      · refine lv_iload hx hb dX2_leadingClass_24 (lv_at hl 0 rfl) ?_
        refine lv_istore_n (lv' := [(2, .int (nI (i))), (4, .int (nI (i))), (3, .int ((qLd (fun c => g (4 * s1 + c)) i).2)), (0, .ref (h0)), (1, .int (nI (s1)))]) hx hb dX2_leadingClass_26 rfl hl (by decide) rfl (fun ls hl => ?_)
        refine lv_aload_n hx hb dX2_leadingClass_27 rfl (lv_at hl 3 rfl) ?_
        refine lv_iload_n hx hb dX2_leadingClass_28 rfl (lv_at hl 4 rfl) ?_
        refine lv_iload hx hb dX2_leadingClass_29 (lv_at hl 1 rfl) ?_
        refine z_ci (z_vrun (rest := []) (own := RX2) (As := [.int (nI (s1)), .int (nI (i))]) hx hb hml hown hts hl.1 hK hP [0, 1] rfl (metX2_many l D ac h0 g0 g s1 i (by omega) (by omega)) gX2_leadingClass_X2_many rfl 2 (by decide +kernel) ⟨rfl, rfl, Nat.le_of_ble_eq_true rfl, Nat.le_of_ble_eq_true rfl⟩ 0 2 rfl rfl rfl rfl rfl (Nat.le_of_ble_eq_true rfl) dX2_leadingClass_31 ⟨Nat.zero_le _, Nat.zero_le _⟩) ?_
        refine lv_istore_n (lv' := [(3, .int (g (4 * s1 + i))), (2, .int (nI (i))), (4, .int (nI (i))), (0, .ref (h0)), (1, .int (nI (s1)))]) hx hb dX2_leadingClass_34 rfl hl (by decide) rfl (fun ls hl => ?_)
        refine lv_iinc (v := nI ((i) + 1)) (lv' := [(4, .int (nI ((i) + 1))), (3, .int (g (4 * s1 + i))), (2, .int (nI (i))), (0, .ref (h0)), (1, .int (nI (s1)))]) hx hb dX2_leadingClass_35 hl (k := 2) rfl (show nI (i) + Int32.ofInt 1 = _ from nI_add (i) 1) (by decide) rfl (fun ls hl => ?_)
        refine lv_goto (tgt := 7) hx hb dX2_leadingClass_38 (by decide) ?_
        have e1 : qLd (fun c => g (4 * s1 + c)) (i + 1) = (nI i, g (4 * s1 + i)) := if_pos (Int32.not_le.mp c_21)
        exact ih (i + 1) (by omega) ls (by rw [e1]; exact lv_sub hl [0, 1, 2, 3, 4] rfl)
  exact hL_7 (4) (0) (by omega) ls (lv_sub hl [0, 1, 2, 3, 4] rfl)

set_option maxRecDepth 100000 in
set_option maxHeartbeats 4000000 in
theorem metX2_changesOfLeader (l : Launch) (D : va_G) (ac : Nat → ClassId) (h0 : Nat) (g0 : Nat) (g : Nat → Int32)  : Met l yX2_changesOfLeader wsX2_changesOfLeader ({ frames := 2, cells := 0, slots := 0, locals := 46 } : Room) (va_Pc [.ref (h0)] (zW D ac [(h0, .inr (2, [.ref (g0)])), (g0, .inl (ac 0, 48, .inl (g)))])) (zRi (qChg g)) 0 0 (fun _ => False) := by
  refine z_ro (cc := cX2_changesOfLeader) (maxL := 5) (ret := (some .int)) (lv := [(0, .ref (h0))]) (by decide) rfl (Nat.le_of_ble_eq_true rfl) rfl ?_
  intro p e s m args below meth c ls hx hb hr hml hown hts hlocks hl hK hP
  refine lv_iconst (v := 0) hx hb dX2_changesOfLeader_0 (by decide) ?_
  refine lv_istore_n (lv' := [(1, .int (0)), (0, .ref (h0))]) hx hb dX2_changesOfLeader_1 rfl hl (by decide) rfl (fun ls hl => ?_)
  refine lv_iconst (v := (-1)) hx hb dX2_changesOfLeader_2 (by decide) ?_
  refine lv_istore_n (lv' := [(2, .int ((-1))), (1, .int (0)), (0, .ref (h0))]) hx hb dX2_changesOfLeader_3 rfl hl (by decide) rfl (fun ls hl => ?_)
  refine lv_iconst (v := 0) hx hb dX2_changesOfLeader_4 (by decide) ?_
  refine lv_istore_n (lv' := [(3, .int (0)), (2, .int ((-1))), (1, .int (0)), (0, .ref (h0))]) hx hb dX2_changesOfLeader_5 rfl hl (by decide) rfl (fun ls hl => ?_)
  have hL_6 : ∀ (n : Nat) (i : Nat), (i + n = 12) → ∀ (ls : Array Slot), lv_has ls 5 [(3, .int (nI (i))), (2, .int ((qCh (qLead g) i).2)), (1, .int ((qCh (qLead g) i).1)), (0, .ref (h0))] → W p l e ({ frames := 2, cells := 0, slots := 0, locals := 46 } : Room) s m args below meth c s.heap [] 0 0 (MQ below (zRi (qChg g)) args s 0 0 (fun _ => False)) (F0 m 6 ls []) := by
    intro n
    induction n with
    | zero =>
      intro i hi ls hl
      have e_i : 12 = i := by omega
      subst e_i
      refine lv_iload_n hx hb dX2_changesOfLeader_6 rfl (lv_at hl 0 rfl) ?_
      refine lv_bipush (v := 12) hx hb dX2_changesOfLeader_7 (by decide) ?_
      refine z_icmp_ge (tgt := 54) hx hb (12) (12) dX2_changesOfLeader_9 (by decide) (by omega) (by omega) rfl rfl (fun c_9 => ?_) (fun c_9 => absurd c_9 (by omega))
      refine lv_iload_n hx hb dX2_changesOfLeader_54 rfl (lv_at hl 2 rfl) ?_
      exact z_iret hx hb hr hlocks (rfl) dX2_changesOfLeader_55
    | succ n ih =>
      intro i hi ls hl
      refine lv_iload_n hx hb dX2_changesOfLeader_6 rfl (lv_at hl 0 rfl) ?_
      refine lv_bipush (v := 12) hx hb dX2_changesOfLeader_7 (by decide) ?_
      refine z_icmp_ge (tgt := 54) hx hb (i) (12) dX2_changesOfLeader_9 (by decide) (by omega) (by omega) rfl rfl (fun c_9 => absurd c_9 (by omega)) (fun c_9 => ?_)
      refine lv_aload_n hx hb dX2_changesOfLeader_12 rfl (lv_at hl 3 rfl) ?_
      refine lv_iload_n hx hb dX2_changesOfLeader_13 rfl (lv_at hl 0 rfl) ?_
      refine z_ci (z_vrun (rest := []) (own := RX2) (As := [.int (nI (i))]) hx hb hml hown hts hl.1 hK hP [0, 1] rfl (metX2_leadingClass l D ac h0 g0 g i (by omega)) gX2_changesOfLeader_X2_leadingClass rfl 1 (by decide +kernel) ⟨rfl, rfl, Nat.le_of_ble_eq_true rfl, Nat.le_of_ble_eq_true rfl⟩ 0 2 rfl rfl rfl rfl rfl (Nat.le_of_ble_eq_true rfl) dX2_changesOfLeader_14 ⟨Nat.zero_le _, Nat.zero_le _⟩) ?_
      refine lv_istore (lv' := [(4, .int (qLead g i)), (3, .int (nI (i))), (2, .int ((qCh (qLead g) i).2)), (1, .int ((qCh (qLead g) i).1)), (0, .ref (h0))]) hx hb dX2_changesOfLeader_17 hl (by decide) rfl (fun ls hl => ?_)
      refine lv_iload hx hb dX2_changesOfLeader_19 (lv_at hl 0 rfl) ?_
      refine lv_iconst (v := (-1)) hx hb dX2_changesOfLeader_21 (by decide) ?_
      refine lv_icmp_eq (tgt := 39) hx hb dX2_changesOfLeader_22 (by decide) (fun c_22 => ?_) (fun c_22 => ?_)
      · refine lv_iload hx hb dX2_changesOfLeader_39 (lv_at hl 0 rfl) ?_
        refine lv_iconst (v := (-1)) hx hb dX2_changesOfLeader_41 (by decide) ?_
        refine lv_icmp_eq (tgt := 48) hx hb dX2_changesOfLeader_42 (by decide) (fun c_42 => ?_) (fun c_42 => absurd c_42 (fun q => q c_22))
        refine lv_iinc (v := nI ((i) + 1)) (lv' := [(3, .int (nI ((i) + 1))), (4, .int (qLead g i)), (2, .int ((qCh (qLead g) i).2)), (1, .int ((qCh (qLead g) i).1)), (0, .ref (h0))]) hx hb dX2_changesOfLeader_48 hl (k := 1) rfl (show nI (i) + Int32.ofInt 1 = _ from nI_add (i) 1) (by decide) rfl (fun ls hl => ?_)
        refine lv_goto (tgt := 6) hx hb dX2_changesOfLeader_51 (by decide) ?_
        have e1 : qCh (qLead g) (i + 1) = ((qCh (qLead g) i).1, (qCh (qLead g) i).2) := by rw [qCh, if_neg (fun q => q.1 c_22), if_neg (fun q => q c_22)]
        exact ih (i + 1) (by omega) ls (by rw [e1]; exact lv_sub hl [0, 2, 3, 4] rfl)
      · refine lv_iload_n hx hb dX2_changesOfLeader_25 rfl (lv_at hl 2 rfl) ?_
        refine lv_iconst (v := (-1)) hx hb dX2_changesOfLeader_26 (by decide) ?_
        refine lv_icmp_eq (tgt := 39) hx hb dX2_changesOfLeader_27 (by decide) (fun c_27 => ?_) (fun c_27 => ?_)
        · refine lv_iload hx hb dX2_changesOfLeader_39 (lv_at hl 0 rfl) ?_
          refine lv_iconst (v := (-1)) hx hb dX2_changesOfLeader_41 (by decide) ?_
          refine lv_icmp_eq (tgt := 48) hx hb dX2_changesOfLeader_42 (by decide) (fun c_42 => absurd c_42 (c_22)) (fun c_42 => ?_)
          refine lv_iload hx hb dX2_changesOfLeader_45 (lv_at hl 0 rfl) ?_
          refine lv_istore_n (lv' := [(2, .int (qLead g i)), (4, .int (qLead g i)), (3, .int (nI (i))), (1, .int ((qCh (qLead g) i).1)), (0, .ref (h0))]) hx hb dX2_changesOfLeader_47 rfl hl (by decide) rfl (fun ls hl => ?_)
          refine lv_iinc (v := nI ((i) + 1)) (lv' := [(3, .int (nI ((i) + 1))), (2, .int (qLead g i)), (4, .int (qLead g i)), (1, .int ((qCh (qLead g) i).1)), (0, .ref (h0))]) hx hb dX2_changesOfLeader_48 hl (k := 2) rfl (show nI (i) + Int32.ofInt 1 = _ from nI_add (i) 1) (by decide) rfl (fun ls hl => ?_)
          refine lv_goto (tgt := 6) hx hb dX2_changesOfLeader_51 (by decide) ?_
          have e1 : qCh (qLead g) (i + 1) = ((qCh (qLead g) i).1, qLead g i) := by rw [qCh, if_neg (fun q => q.2.1 c_27), if_pos c_22]
          exact ih (i + 1) (by omega) ls (by rw [e1]; exact lv_sub hl [0, 1, 3, 4] rfl)
        · refine lv_iload hx hb dX2_changesOfLeader_30 (lv_at hl 0 rfl) ?_
          refine lv_iload_n hx hb dX2_changesOfLeader_32 rfl (lv_at hl 2 rfl) ?_
          refine lv_icmp_eq (tgt := 39) hx hb dX2_changesOfLeader_33 (by decide) (fun c_33 => ?_) (fun c_33 => ?_)
          · refine lv_iload hx hb dX2_changesOfLeader_39 (lv_at hl 0 rfl) ?_
            refine lv_iconst (v := (-1)) hx hb dX2_changesOfLeader_41 (by decide) ?_
            refine lv_icmp_eq (tgt := 48) hx hb dX2_changesOfLeader_42 (by decide) (fun c_42 => absurd c_42 (c_22)) (fun c_42 => ?_)
            refine lv_iload hx hb dX2_changesOfLeader_45 (lv_at hl 0 rfl) ?_
            refine lv_istore_n (lv' := [(2, .int (qLead g i)), (4, .int (qLead g i)), (3, .int (nI (i))), (1, .int ((qCh (qLead g) i).1)), (0, .ref (h0))]) hx hb dX2_changesOfLeader_47 rfl hl (by decide) rfl (fun ls hl => ?_)
            refine lv_iinc (v := nI ((i) + 1)) (lv' := [(3, .int (nI ((i) + 1))), (2, .int (qLead g i)), (4, .int (qLead g i)), (1, .int ((qCh (qLead g) i).1)), (0, .ref (h0))]) hx hb dX2_changesOfLeader_48 hl (k := 2) rfl (show nI (i) + Int32.ofInt 1 = _ from nI_add (i) 1) (by decide) rfl (fun ls hl => ?_)
            refine lv_goto (tgt := 6) hx hb dX2_changesOfLeader_51 (by decide) ?_
            have e1 : qCh (qLead g) (i + 1) = ((qCh (qLead g) i).1, qLead g i) := by rw [qCh, if_neg (fun q => q.2.2 c_33), if_pos c_22]
            exact ih (i + 1) (by omega) ls (by rw [e1]; exact lv_sub hl [0, 1, 3, 4] rfl)
          · refine lv_iinc (v := ((qCh (qLead g) i).1) + (1)) (lv' := [(1, .int (((qCh (qLead g) i).1) + (1))), (4, .int (qLead g i)), (3, .int (nI (i))), (2, .int ((qCh (qLead g) i).2)), (0, .ref (h0))]) hx hb dX2_changesOfLeader_36 hl (k := 3) rfl rfl (by decide) rfl (fun ls hl => ?_)
            refine lv_iload hx hb dX2_changesOfLeader_39 (lv_at hl 1 rfl) ?_
            refine lv_iconst (v := (-1)) hx hb dX2_changesOfLeader_41 (by decide) ?_
            refine lv_icmp_eq (tgt := 48) hx hb dX2_changesOfLeader_42 (by decide) (fun c_42 => absurd c_42 (c_22)) (fun c_42 => ?_)
            refine lv_iload hx hb dX2_changesOfLeader_45 (lv_at hl 1 rfl) ?_
            refine lv_istore_n (lv' := [(2, .int (qLead g i)), (1, .int (((qCh (qLead g) i).1) + (1))), (4, .int (qLead g i)), (3, .int (nI (i))), (0, .ref (h0))]) hx hb dX2_changesOfLeader_47 rfl hl (by decide) rfl (fun ls hl => ?_)
            refine lv_iinc (v := nI ((i) + 1)) (lv' := [(3, .int (nI ((i) + 1))), (2, .int (qLead g i)), (1, .int (((qCh (qLead g) i).1) + (1))), (4, .int (qLead g i)), (0, .ref (h0))]) hx hb dX2_changesOfLeader_48 hl (k := 3) rfl (show nI (i) + Int32.ofInt 1 = _ from nI_add (i) 1) (by decide) rfl (fun ls hl => ?_)
            refine lv_goto (tgt := 6) hx hb dX2_changesOfLeader_51 (by decide) ?_
            have e1 : qCh (qLead g) (i + 1) = ((qCh (qLead g) i).1 + 1, qLead g i) := by rw [qCh, if_pos ⟨c_22, c_27, c_33⟩, if_pos c_22]
            exact ih (i + 1) (by omega) ls (by rw [e1]; exact lv_sub hl [0, 1, 2, 4] rfl)
  exact hL_6 (12) (0) (by omega) ls (lv_sub hl [0, 1, 2, 3] rfl)

set_option maxRecDepth 100000 in
set_option maxHeartbeats 4000000 in
theorem metX2_purestSlice (l : Launch) (D : va_G) (ac : Nat → ClassId) (h0 : Nat) (g0 : Nat) (g : Nat → Int32) (k1 : Nat) (hk : k1 < 4) : Met l yX2_purestSlice wsX2_purestSlice ({ frames := 2, cells := 0, slots := 0, locals := 45 } : Room) (va_Pc [.ref (h0), .int (nI (k1))] (zW D ac [(h0, .inr (2, [.ref (g0)])), (g0, .inl (ac 0, 48, .inl (g)))])) (zRi ((qPu g k1 12).1)) 0 0 (fun _ => False) := by
  refine z_ro (cc := cX2_purestSlice) (maxL := 8) (ret := (some .int)) (lv := [(0, .ref (h0)), (1, .int (nI (k1)))]) (by decide) rfl (Nat.le_of_ble_eq_true rfl) rfl ?_
  intro p e s m args below meth c ls hx hb hr hml hown hts hlocks hl hK hP
  refine lv_iconst (v := (-1)) hx hb dX2_purestSlice_0 (by decide) ?_
  refine lv_istore_n (lv' := [(2, .int ((-1))), (0, .ref (h0)), (1, .int (nI (k1)))]) hx hb dX2_purestSlice_1 rfl hl (by decide) rfl (fun ls hl => ?_)
  refine lv_iconst (v := 0) hx hb dX2_purestSlice_2 (by decide) ?_
  refine lv_istore_n (lv' := [(3, .int (0)), (2, .int ((-1))), (0, .ref (h0)), (1, .int (nI (k1)))]) hx hb dX2_purestSlice_3 rfl hl (by decide) rfl (fun ls hl => ?_)
  refine lv_iconst (v := 1) hx hb dX2_purestSlice_4 (by decide) ?_
  refine lv_istore (lv' := [(4, .int (1)), (3, .int (0)), (2, .int ((-1))), (0, .ref (h0)), (1, .int (nI (k1)))]) hx hb dX2_purestSlice_5 hl (by decide) rfl (fun ls hl => ?_)
  refine lv_iconst (v := 0) hx hb dX2_purestSlice_7 (by decide) ?_
  refine lv_istore (lv' := [(5, .int (0)), (4, .int (1)), (3, .int (0)), (2, .int ((-1))), (0, .ref (h0)), (1, .int (nI (k1)))]) hx hb dX2_purestSlice_8 hl (by decide) rfl (fun ls hl => ?_)
  have hL_10 : ∀ (n : Nat) (i : Nat), (i + n = 12) → ∀ (ls : Array Slot), lv_has ls 8 [(5, .int (nI (i))), (4, .int ((qPu g k1 i).2.2)), (3, .int ((qPu g k1 i).2.1)), (2, .int ((qPu g k1 i).1)), (0, .ref (h0)), (1, .int (nI (k1)))] → W p l e ({ frames := 2, cells := 0, slots := 0, locals := 45 } : Room) s m args below meth c s.heap [] 0 0 (MQ below (zRi ((qPu g k1 12).1)) args s 0 0 (fun _ => False)) (F0 m 10 ls []) := by
    intro n
    induction n with
    | zero =>
      intro i hi ls hl
      have e_i : 12 = i := by omega
      subst e_i
      refine lv_iload hx hb dX2_purestSlice_10 (lv_at hl 0 rfl) ?_
      refine lv_bipush (v := 12) hx hb dX2_purestSlice_12 (by decide) ?_
      refine z_icmp_ge (tgt := 62) hx hb (12) (12) dX2_purestSlice_14 (by decide) (by omega) (by omega) rfl rfl (fun c_14 => ?_) (fun c_14 => absurd c_14 (by omega))
      refine lv_iload_n hx hb dX2_purestSlice_62 rfl (lv_at hl 3 rfl) ?_
      exact z_iret hx hb hr hlocks (rfl) dX2_purestSlice_63
    | succ n ih =>
      intro i hi ls hl
      refine lv_iload hx hb dX2_purestSlice_10 (lv_at hl 0 rfl) ?_
      refine lv_bipush (v := 12) hx hb dX2_purestSlice_12 (by decide) ?_
      refine z_icmp_ge (tgt := 62) hx hb (i) (12) dX2_purestSlice_14 (by decide) (by omega) (by omega) rfl rfl (fun c_14 => absurd c_14 (by omega)) (fun c_14 => ?_)
      refine lv_aload_n hx hb dX2_purestSlice_17 rfl (lv_at hl 4 rfl) ?_
      refine lv_iload hx hb dX2_purestSlice_18 (lv_at hl 0 rfl) ?_
      refine lv_iload_n hx hb dX2_purestSlice_20 rfl (lv_at hl 5 rfl) ?_
      refine z_ci (z_vrun (rest := []) (own := RX2) (As := [.int (nI (i)), .int (nI (k1))]) hx hb hml hown hts hl.1 hK hP [0, 1] rfl (metX2_many l D ac h0 g0 g i k1 (by omega) (by omega)) gX2_purestSlice_X2_many rfl 2 (by decide +kernel) ⟨rfl, rfl, Nat.le_of_ble_eq_true rfl, Nat.le_of_ble_eq_true rfl⟩ 0 2 rfl rfl rfl rfl rfl (Nat.le_of_ble_eq_true rfl) dX2_purestSlice_21 ⟨Nat.zero_le _, Nat.zero_le _⟩) ?_
      refine lv_istore (lv' := [(6, .int (g (4 * i + k1))), (5, .int (nI (i))), (4, .int ((qPu g k1 i).2.2)), (3, .int ((qPu g k1 i).2.1)), (2, .int ((qPu g k1 i).1)), (0, .ref (h0)), (1, .int (nI (k1)))]) hx hb dX2_purestSlice_24 hl (by decide) rfl (fun ls hl => ?_)
      refine lv_aload_n hx hb dX2_purestSlice_26 rfl (lv_at hl 5 rfl) ?_
      refine lv_iload hx hb dX2_purestSlice_27 (lv_at hl 1 rfl) ?_
      refine z_ci (z_vrun (rest := []) (own := RX2) (As := [.int (nI (i))]) hx hb hml hown hts hl.1 hK hP [0, 1] rfl (metX2_allIn l D ac h0 g0 g i (by omega)) gX2_purestSlice_X2_allIn rfl 1 (by decide +kernel) ⟨rfl, rfl, Nat.le_of_ble_eq_true rfl, Nat.le_of_ble_eq_true rfl⟩ 0 2 rfl rfl rfl rfl rfl (Nat.le_of_ble_eq_true rfl) dX2_purestSlice_29 ⟨Nat.zero_le _, Nat.zero_le _⟩) ?_
      refine lv_istore (lv' := [(7, .int (qIn g i)), (6, .int (g (4 * i + k1))), (5, .int (nI (i))), (4, .int ((qPu g k1 i).2.2)), (3, .int ((qPu g k1 i).2.1)), (2, .int ((qPu g k1 i).1)), (0, .ref (h0)), (1, .int (nI (k1)))]) hx hb dX2_purestSlice_32 hl (by decide) rfl (fun ls hl => ?_)
      refine lv_iload hx hb dX2_purestSlice_34 (lv_at hl 1 rfl) ?_
      refine lv_iload hx hb dX2_purestSlice_36 (lv_at hl 3 rfl) ?_
      refine lv_imul hx hb dX2_purestSlice_38 ?_
      refine lv_iload_n hx hb dX2_purestSlice_39 rfl (lv_at hl 4 rfl) ?_
      refine lv_iload hx hb dX2_purestSlice_40 (lv_at hl 0 rfl) ?_
      refine lv_imul hx hb dX2_purestSlice_42 ?_
      refine lv_icmp_le (tgt := 56) hx hb dX2_purestSlice_43 (by decide) (fun c_43 => ?_) (fun c_43 => ?_)
      · refine lv_iinc (v := nI ((i) + 1)) (lv' := [(5, .int (nI ((i) + 1))), (7, .int (qIn g i)), (6, .int (g (4 * i + k1))), (4, .int ((qPu g k1 i).2.2)), (3, .int ((qPu g k1 i).2.1)), (2, .int ((qPu g k1 i).1)), (0, .ref (h0)), (1, .int (nI (k1)))]) hx hb dX2_purestSlice_56 hl (k := 2) rfl (show nI (i) + Int32.ofInt 1 = _ from nI_add (i) 1) (by decide) rfl (fun ls hl => ?_)
        refine lv_goto (tgt := 10) hx hb dX2_purestSlice_59 (by decide) ?_
        have e1 : qPu g k1 (i + 1) = qPu g k1 i := if_neg (Int32.not_lt.mpr c_43)
        exact ih (i + 1) (by omega) ls (by rw [e1]; exact lv_sub hl [0, 3, 4, 5, 6, 7] rfl)
      · refine lv_iload hx hb dX2_purestSlice_46 (lv_at hl 2 rfl) ?_
        refine lv_istore_n (lv' := [(2, .int (nI (i))), (7, .int (qIn g i)), (6, .int (g (4 * i + k1))), (5, .int (nI (i))), (4, .int ((qPu g k1 i).2.2)), (3, .int ((qPu g k1 i).2.1)), (0, .ref (h0)), (1, .int (nI (k1)))]) hx hb dX2_purestSlice_48 rfl hl (by decide) rfl (fun ls hl => ?_)
        refine lv_iload hx hb dX2_purestSlice_49 (lv_at hl 2 rfl) ?_
        refine lv_istore_n (lv' := [(3, .int (g (4 * i + k1))), (2, .int (nI (i))), (7, .int (qIn g i)), (6, .int (g (4 * i + k1))), (5, .int (nI (i))), (4, .int ((qPu g k1 i).2.2)), (0, .ref (h0)), (1, .int (nI (k1)))]) hx hb dX2_purestSlice_51 rfl hl (by decide) rfl (fun ls hl => ?_)
        refine lv_iload hx hb dX2_purestSlice_52 (lv_at hl 2 rfl) ?_
        refine lv_istore (lv' := [(4, .int (qIn g i)), (3, .int (g (4 * i + k1))), (2, .int (nI (i))), (7, .int (qIn g i)), (6, .int (g (4 * i + k1))), (5, .int (nI (i))), (0, .ref (h0)), (1, .int (nI (k1)))]) hx hb dX2_purestSlice_54 hl (by decide) rfl (fun ls hl => ?_)
        refine lv_iinc (v := nI ((i) + 1)) (lv' := [(5, .int (nI ((i) + 1))), (4, .int (qIn g i)), (3, .int (g (4 * i + k1))), (2, .int (nI (i))), (7, .int (qIn g i)), (6, .int (g (4 * i + k1))), (0, .ref (h0)), (1, .int (nI (k1)))]) hx hb dX2_purestSlice_56 hl (k := 5) rfl (show nI (i) + Int32.ofInt 1 = _ from nI_add (i) 1) (by decide) rfl (fun ls hl => ?_)
        refine lv_goto (tgt := 10) hx hb dX2_purestSlice_59 (by decide) ?_
        have e1 : qPu g k1 (i + 1) = (nI i, g (4 * i + k1), qIn g i) := if_pos (Int32.not_le.mp c_43)
        exact ih (i + 1) (by omega) ls (by rw [e1]; exact lv_sub hl [0, 1, 2, 3, 6, 7] rfl)
  exact hL_10 (12) (0) (by omega) ls (lv_sub hl [0, 1, 2, 3, 4, 5] rfl)

set_option maxRecDepth 100000 in
set_option maxHeartbeats 4000000 in
theorem metX2_bedSlices (l : Launch) (D : va_G) (ac : Nat → ClassId) (h0 : Nat) (g0 : Nat) (g : Nat → Int32) (h1 : Nat) (v0 : Nat) (w0 : Nat) (v : Nat → Int32) (w : Nat → Int32)  : Met l yX2_bedSlices wsX2_bedSlices ({ frames := 2, cells := 0, slots := 0, locals := 45 } : Room) (va_Pc [.ref (h0), .ref (h1)] (zW D ac [(h0, .inr (2, [.ref (g0)])), (g0, .inl (ac 0, 48, .inl (g))), (h1, .inr (3, [.ref (v0), .ref (w0)])), (v0, .inl (ac 0, 4, .inl (v))), (w0, .inl (ac 0, 4, .inl (w)))])) (zRi (nI (qBed g (v 1)))) 0 0 (fun _ => False) := by
  refine z_ro (cc := cX2_bedSlices) (maxL := 3) (ret := (some .int)) (lv := [(0, .ref (h0)), (1, .ref (h1))]) (by decide) rfl (Nat.le_of_ble_eq_true rfl) rfl ?_
  intro p e s m args below meth c ls hx hb hr hml hown hts hlocks hl hK hP
  refine lv_iconst (v := 0) hx hb dX2_bedSlices_0 (by decide) ?_
  refine lv_istore_n (lv' := [(2, .int (0)), (0, .ref (h0)), (1, .ref (h1))]) hx hb dX2_bedSlices_1 rfl hl (by decide) rfl (fun ls hl => ?_)
  have hL_2 : ∀ (n : Nat) (i : Nat), (i + n = 12) → (qBed g (v 1) = qRun (fun i => decide (v 1 ≤ qIn g (11 - i))) n i) → ∀ (ls : Array Slot), lv_has ls 3 [(2, .int (nI (i))), (0, .ref (h0)), (1, .ref (h1))] → W p l e ({ frames := 2, cells := 0, slots := 0, locals := 45 } : Room) s m args below meth c s.heap [] 0 0 (MQ below (zRi (nI (qBed g (v 1)))) args s 0 0 (fun _ => False)) (F0 m 2 ls []) := by
    intro n
    induction n with
    | zero =>
      intro i hi hR ls hl
      have e_i : 12 = i := by omega
      subst e_i
      refine lv_iload_n hx hb dX2_bedSlices_2 rfl (lv_at hl 0 rfl) ?_
      refine lv_bipush (v := 12) hx hb dX2_bedSlices_3 (by decide) ?_
      refine z_icmp_ge (tgt := 29) hx hb (12) (12) dX2_bedSlices_5 (by decide) (by omega) (by omega) rfl rfl (fun c_5 => ?_) (fun c_5 => absurd c_5 (by omega))
      refine lv_iload_n hx hb dX2_bedSlices_29 rfl (lv_at hl 0 rfl) ?_
      exact z_iret hx hb hr hlocks (congrArg nI hR.symm) dX2_bedSlices_30
    | succ n ih =>
      intro i hi hR ls hl
      refine lv_iload_n hx hb dX2_bedSlices_2 rfl (lv_at hl 0 rfl) ?_
      refine lv_bipush (v := 12) hx hb dX2_bedSlices_3 (by decide) ?_
      refine z_icmp_ge (tgt := 29) hx hb (i) (12) dX2_bedSlices_5 (by decide) (by omega) (by omega) rfl rfl (fun c_5 => absurd c_5 (by omega)) (fun c_5 => ?_)
      refine lv_aload_n hx hb dX2_bedSlices_8 rfl (lv_at hl 2 rfl) ?_
      refine lv_aload_n hx hb dX2_bedSlices_9 rfl (lv_at hl 1 rfl) ?_
      refine lv_bipush (v := 11) hx hb dX2_bedSlices_10 (by decide) ?_
      refine lv_iload_n hx hb dX2_bedSlices_12 rfl (lv_at hl 0 rfl) ?_
      refine lv_isub hx hb dX2_bedSlices_13 ?_
      refine z_top (y := nI ((11) - (i))) (pk_sub (a := 11) (b := i) (by omega)) ?_
      refine z_ci (z_vrun (rest := [.ref (h1)]) (own := RX2) (As := [.int (nI ((11) - (i)))]) hx hb hml hown hts hl.1 hK hP [0, 1] rfl (metX2_allIn l D ac h0 g0 g ((11) - (i)) (by omega)) gX2_bedSlices_X2_allIn rfl 1 (by decide +kernel) ⟨rfl, rfl, Nat.le_of_ble_eq_true rfl, Nat.le_of_ble_eq_true rfl⟩ 0 2 rfl rfl rfl rfl rfl (Nat.le_of_ble_eq_true rfl) dX2_bedSlices_14 ⟨Nat.zero_le _, Nat.zero_le _⟩) ?_
      refine z_ci (z_vrun (rest := []) (own := RX2) (As := [.int (qIn g ((11) - (i)))]) hx hb hml hown hts hl.1 hK hP [2, 3, 4] rfl (metX3_isPacked l D ac h1 v0 w0 v w (qIn g ((11) - (i))) ) gX2_bedSlices_X3_isPacked rfl 1 (by decide +kernel) ⟨rfl, rfl, Nat.le_of_ble_eq_true rfl, Nat.le_of_ble_eq_true rfl⟩ 2 3 rfl rfl rfl rfl rfl (Nat.le_of_ble_eq_true rfl) dX2_bedSlices_17 ⟨Nat.zero_le _, Nat.zero_le _⟩) ?_
      refine z_if_eq (C := v 1 ≤ (qIn g ((11) - (i)))) (tgt := 29) hx hb dX2_bedSlices_20 (by decide) (fun c_20 => ?_) (fun c_20 => ?_)
      · refine lv_iload_n hx hb dX2_bedSlices_29 rfl (lv_at hl 0 rfl) ?_
        exact z_iret hx hb hr hlocks (congrArg nI (hR.trans (if_neg (fun q => c_20 (of_decide_eq_true q)))).symm) dX2_bedSlices_30
      · refine lv_iinc (v := nI ((i) + 1)) (lv' := [(2, .int (nI ((i) + 1))), (0, .ref (h0)), (1, .ref (h1))]) hx hb dX2_bedSlices_23 hl (k := 0) rfl (show nI (i) + Int32.ofInt 1 = _ from nI_add (i) 1) (by decide) rfl (fun ls hl => ?_)
        refine lv_goto (tgt := 2) hx hb dX2_bedSlices_26 (by decide) ?_
        exact ih (i + 1) (by omega) (hR.trans (if_pos (decide_eq_true c_20))) ls (lv_sub hl [0, 1, 2] rfl)
  exact hL_2 (12) (0) (by omega) (rfl) ls (lv_sub hl [0, 1, 2] rfl)

set_option maxRecDepth 100000 in
set_option maxHeartbeats 4000000 in
theorem metX2_clearWater (l : Launch) (D : va_G) (ac : Nat → ClassId) (h0 : Nat) (g0 : Nat) (g : Nat → Int32) (h1 : Nat) (v0 : Nat) (w0 : Nat) (v : Nat → Int32) (w : Nat → Int32)  : Met l yX2_clearWater wsX2_clearWater ({ frames := 2, cells := 0, slots := 0, locals := 45 } : Room) (va_Pc [.ref (h0), .ref (h1)] (zW D ac [(h0, .inr (2, [.ref (g0)])), (g0, .inl (ac 0, 48, .inl (g))), (h1, .inr (3, [.ref (v0), .ref (w0)])), (v0, .inl (ac 0, 4, .inl (v))), (w0, .inl (ac 0, 4, .inl (w)))])) (zRi (nI (qClr g (v 2)))) 0 0 (fun _ => False) := by
  refine z_ro (cc := cX2_clearWater) (maxL := 3) (ret := (some .int)) (lv := [(0, .ref (h0)), (1, .ref (h1))]) (by decide) rfl (Nat.le_of_ble_eq_true rfl) rfl ?_
  intro p e s m args below meth c ls hx hb hr hml hown hts hlocks hl hK hP
  refine lv_iconst (v := 0) hx hb dX2_clearWater_0 (by decide) ?_
  refine lv_istore_n (lv' := [(2, .int (0)), (0, .ref (h0)), (1, .ref (h1))]) hx hb dX2_clearWater_1 rfl hl (by decide) rfl (fun ls hl => ?_)
  have hL_2 : ∀ (n : Nat) (i : Nat), (i + n = 12) → (qClr g (v 2) = qRun (fun i => decide (qIn g i ≤ v 2)) n i) → ∀ (ls : Array Slot), lv_has ls 3 [(2, .int (nI (i))), (0, .ref (h0)), (1, .ref (h1))] → W p l e ({ frames := 2, cells := 0, slots := 0, locals := 45 } : Room) s m args below meth c s.heap [] 0 0 (MQ below (zRi (nI (qClr g (v 2)))) args s 0 0 (fun _ => False)) (F0 m 2 ls []) := by
    intro n
    induction n with
    | zero =>
      intro i hi hR ls hl
      have e_i : 12 = i := by omega
      subst e_i
      refine lv_iload_n hx hb dX2_clearWater_2 rfl (lv_at hl 0 rfl) ?_
      refine lv_bipush (v := 12) hx hb dX2_clearWater_3 (by decide) ?_
      refine z_icmp_ge (tgt := 26) hx hb (12) (12) dX2_clearWater_5 (by decide) (by omega) (by omega) rfl rfl (fun c_5 => ?_) (fun c_5 => absurd c_5 (by omega))
      refine lv_iload_n hx hb dX2_clearWater_26 rfl (lv_at hl 0 rfl) ?_
      exact z_iret hx hb hr hlocks (congrArg nI hR.symm) dX2_clearWater_27
    | succ n ih =>
      intro i hi hR ls hl
      refine lv_iload_n hx hb dX2_clearWater_2 rfl (lv_at hl 0 rfl) ?_
      refine lv_bipush (v := 12) hx hb dX2_clearWater_3 (by decide) ?_
      refine z_icmp_ge (tgt := 26) hx hb (i) (12) dX2_clearWater_5 (by decide) (by omega) (by omega) rfl rfl (fun c_5 => absurd c_5 (by omega)) (fun c_5 => ?_)
      refine lv_aload_n hx hb dX2_clearWater_8 rfl (lv_at hl 2 rfl) ?_
      refine lv_aload_n hx hb dX2_clearWater_9 rfl (lv_at hl 1 rfl) ?_
      refine lv_iload_n hx hb dX2_clearWater_10 rfl (lv_at hl 0 rfl) ?_
      refine z_ci (z_vrun (rest := [.ref (h1)]) (own := RX2) (As := [.int (nI (i))]) hx hb hml hown hts hl.1 hK hP [0, 1] rfl (metX2_allIn l D ac h0 g0 g i (by omega)) gX2_clearWater_X2_allIn rfl 1 (by decide +kernel) ⟨rfl, rfl, Nat.le_of_ble_eq_true rfl, Nat.le_of_ble_eq_true rfl⟩ 0 2 rfl rfl rfl rfl rfl (Nat.le_of_ble_eq_true rfl) dX2_clearWater_11 ⟨Nat.zero_le _, Nat.zero_le _⟩) ?_
      refine z_ci (z_vrun (rest := []) (own := RX2) (As := [.int (qIn g i)]) hx hb hml hown hts hl.1 hK hP [2, 3, 4] rfl (metX3_isClear l D ac h1 v0 w0 v w (qIn g i) ) gX2_clearWater_X3_isClear rfl 1 (by decide +kernel) ⟨rfl, rfl, Nat.le_of_ble_eq_true rfl, Nat.le_of_ble_eq_true rfl⟩ 2 3 rfl rfl rfl rfl rfl (Nat.le_of_ble_eq_true rfl) dX2_clearWater_14 ⟨Nat.zero_le _, Nat.zero_le _⟩) ?_
      refine z_if_eq (C := (qIn g i) ≤ v 2) (tgt := 26) hx hb dX2_clearWater_17 (by decide) (fun c_17 => ?_) (fun c_17 => ?_)
      · refine lv_iload_n hx hb dX2_clearWater_26 rfl (lv_at hl 0 rfl) ?_
        exact z_iret hx hb hr hlocks (congrArg nI (hR.trans (if_neg (fun q => c_17 (of_decide_eq_true q)))).symm) dX2_clearWater_27
      · refine lv_iinc (v := nI ((i) + 1)) (lv' := [(2, .int (nI ((i) + 1))), (0, .ref (h0)), (1, .ref (h1))]) hx hb dX2_clearWater_20 hl (k := 0) rfl (show nI (i) + Int32.ofInt 1 = _ from nI_add (i) 1) (by decide) rfl (fun ls hl => ?_)
        refine lv_goto (tgt := 2) hx hb dX2_clearWater_23 (by decide) ?_
        exact ih (i + 1) (by omega) (hR.trans (if_pos (decide_eq_true c_17))) ls (lv_sub hl [0, 1, 2] rfl)
  exact hL_2 (12) (0) (by omega) (rfl) ls (lv_sub hl [0, 1, 2] rfl)

set_option maxRecDepth 100000 in
set_option maxHeartbeats 4000000 in
theorem metX2_packedSlices (l : Launch) (D : va_G) (ac : Nat → ClassId) (h0 : Nat) (g0 : Nat) (g : Nat → Int32) (h1 : Nat) (v0 : Nat) (w0 : Nat) (v : Nat → Int32) (w : Nat → Int32)  : Met l yX2_packedSlices wsX2_packedSlices ({ frames := 2, cells := 0, slots := 0, locals := 45 } : Room) (va_Pc [.ref (h0), .ref (h1)] (zW D ac [(h0, .inr (2, [.ref (g0)])), (g0, .inl (ac 0, 48, .inl (g))), (h1, .inr (3, [.ref (v0), .ref (w0)])), (v0, .inl (ac 0, 4, .inl (v))), (w0, .inl (ac 0, 4, .inl (w)))])) (zRi (qPkd g (v 1) 12)) 0 0 (fun _ => False) := by
  refine z_ro (cc := cX2_packedSlices) (maxL := 4) (ret := (some .int)) (lv := [(0, .ref (h0)), (1, .ref (h1))]) (by decide) rfl (Nat.le_of_ble_eq_true rfl) rfl ?_
  intro p e s m args below meth c ls hx hb hr hml hown hts hlocks hl hK hP
  refine lv_iconst (v := 0) hx hb dX2_packedSlices_0 (by decide) ?_
  refine lv_istore_n (lv' := [(2, .int (0)), (0, .ref (h0)), (1, .ref (h1))]) hx hb dX2_packedSlices_1 rfl hl (by decide) rfl (fun ls hl => ?_)
  refine lv_iconst (v := 0) hx hb dX2_packedSlices_2 (by decide) ?_
  refine lv_istore_n (lv' := [(3, .int (0)), (2, .int (0)), (0, .ref (h0)), (1, .ref (h1))]) hx hb dX2_packedSlices_3 rfl hl (by decide) rfl (fun ls hl => ?_)
  have hL_4 : ∀ (n : Nat) (i : Nat), (i + n = 12) → ∀ (ls : Array Slot), lv_has ls 4 [(3, .int (nI (i))), (2, .int (qPkd g (v 1) i)), (0, .ref (h0)), (1, .ref (h1))] → W p l e ({ frames := 2, cells := 0, slots := 0, locals := 45 } : Room) s m args below meth c s.heap [] 0 0 (MQ below (zRi (qPkd g (v 1) 12)) args s 0 0 (fun _ => False)) (F0 m 4 ls []) := by
    intro n
    induction n with
    | zero =>
      intro i hi ls hl
      have e_i : 12 = i := by omega
      subst e_i
      refine lv_iload_n hx hb dX2_packedSlices_4 rfl (lv_at hl 0 rfl) ?_
      refine lv_bipush (v := 12) hx hb dX2_packedSlices_5 (by decide) ?_
      refine z_icmp_ge (tgt := 31) hx hb (12) (12) dX2_packedSlices_7 (by decide) (by omega) (by omega) rfl rfl (fun c_7 => ?_) (fun c_7 => absurd c_7 (by omega))
      refine lv_iload_n hx hb dX2_packedSlices_31 rfl (lv_at hl 1 rfl) ?_
      exact z_iret hx hb hr hlocks (rfl) dX2_packedSlices_32
    | succ n ih =>
      intro i hi ls hl
      refine lv_iload_n hx hb dX2_packedSlices_4 rfl (lv_at hl 0 rfl) ?_
      refine lv_bipush (v := 12) hx hb dX2_packedSlices_5 (by decide) ?_
      refine z_icmp_ge (tgt := 31) hx hb (i) (12) dX2_packedSlices_7 (by decide) (by omega) (by omega) rfl rfl (fun c_7 => absurd c_7 (by omega)) (fun c_7 => ?_)
      refine lv_aload_n hx hb dX2_packedSlices_10 rfl (lv_at hl 3 rfl) ?_
      refine lv_aload_n hx hb dX2_packedSlices_11 rfl (lv_at hl 2 rfl) ?_
      refine lv_iload_n hx hb dX2_packedSlices_12 rfl (lv_at hl 0 rfl) ?_
      refine z_ci (z_vrun (rest := [.ref (h1)]) (own := RX2) (As := [.int (nI (i))]) hx hb hml hown hts hl.1 hK hP [0, 1] rfl (metX2_allIn l D ac h0 g0 g i (by omega)) gX2_packedSlices_X2_allIn rfl 1 (by decide +kernel) ⟨rfl, rfl, Nat.le_of_ble_eq_true rfl, Nat.le_of_ble_eq_true rfl⟩ 0 2 rfl rfl rfl rfl rfl (Nat.le_of_ble_eq_true rfl) dX2_packedSlices_13 ⟨Nat.zero_le _, Nat.zero_le _⟩) ?_
      refine z_ci (z_vrun (rest := []) (own := RX2) (As := [.int (qIn g i)]) hx hb hml hown hts hl.1 hK hP [2, 3, 4] rfl (metX3_isPacked l D ac h1 v0 w0 v w (qIn g i) ) gX2_packedSlices_X3_isPacked rfl 1 (by decide +kernel) ⟨rfl, rfl, Nat.le_of_ble_eq_true rfl, Nat.le_of_ble_eq_true rfl⟩ 2 3 rfl rfl rfl rfl rfl (Nat.le_of_ble_eq_true rfl) dX2_packedSlices_16 ⟨Nat.zero_le _, Nat.zero_le _⟩) ?_
      refine z_if_eq (C := v 1 ≤ (qIn g i)) (tgt := 25) hx hb dX2_packedSlices_19 (by decide) (fun c_19 => ?_) (fun c_19 => ?_)
      · refine lv_iinc (v := nI ((i) + 1)) (lv' := [(3, .int (nI ((i) + 1))), (2, .int (qPkd g (v 1) i)), (0, .ref (h0)), (1, .ref (h1))]) hx hb dX2_packedSlices_25 hl (k := 0) rfl (show nI (i) + Int32.ofInt 1 = _ from nI_add (i) 1) (by decide) rfl (fun ls hl => ?_)
        refine lv_goto (tgt := 4) hx hb dX2_packedSlices_28 (by decide) ?_
        have e1 : qPkd g (v 1) (i + 1) = qPkd g (v 1) i := (congrArg (fun x => qPkd g (v 1) i + x) (if_neg c_19)).trans (Int32.add_zero _)
        exact ih (i + 1) (by omega) ls (by rw [e1]; exact lv_sub hl [0, 1, 2, 3] rfl)
      · refine lv_iinc (v := (qPkd g (v 1) i) + (1)) (lv' := [(2, .int ((qPkd g (v 1) i) + (1))), (3, .int (nI (i))), (0, .ref (h0)), (1, .ref (h1))]) hx hb dX2_packedSlices_22 hl (k := 1) rfl rfl (by decide) rfl (fun ls hl => ?_)
        refine lv_iinc (v := nI ((i) + 1)) (lv' := [(3, .int (nI ((i) + 1))), (2, .int ((qPkd g (v 1) i) + (1))), (0, .ref (h0)), (1, .ref (h1))]) hx hb dX2_packedSlices_25 hl (k := 1) rfl (show nI (i) + Int32.ofInt 1 = _ from nI_add (i) 1) (by decide) rfl (fun ls hl => ?_)
        refine lv_goto (tgt := 4) hx hb dX2_packedSlices_28 (by decide) ?_
        have e1 : qPkd g (v 1) (i + 1) = qPkd g (v 1) i + 1 := (congrArg (fun x => qPkd g (v 1) i + x) (if_pos c_19))
        exact ih (i + 1) (by omega) ls (by rw [e1]; exact lv_sub hl [0, 1, 2, 3] rfl)
  exact hL_4 (12) (0) (by omega) ls (lv_sub hl [0, 1, 2, 3] rfl)

set_option maxRecDepth 100000 in
set_option maxHeartbeats 4000000 in
theorem metX2_clearSlices (l : Launch) (D : va_G) (ac : Nat → ClassId) (h0 : Nat) (g0 : Nat) (g : Nat → Int32) (h1 : Nat) (v0 : Nat) (w0 : Nat) (v : Nat → Int32) (w : Nat → Int32)  : Met l yX2_clearSlices wsX2_clearSlices ({ frames := 2, cells := 0, slots := 0, locals := 45 } : Room) (va_Pc [.ref (h0), .ref (h1)] (zW D ac [(h0, .inr (2, [.ref (g0)])), (g0, .inl (ac 0, 48, .inl (g))), (h1, .inr (3, [.ref (v0), .ref (w0)])), (v0, .inl (ac 0, 4, .inl (v))), (w0, .inl (ac 0, 4, .inl (w)))])) (zRi (qClrs g (v 2) 12)) 0 0 (fun _ => False) := by
  refine z_ro (cc := cX2_clearSlices) (maxL := 4) (ret := (some .int)) (lv := [(0, .ref (h0)), (1, .ref (h1))]) (by decide) rfl (Nat.le_of_ble_eq_true rfl) rfl ?_
  intro p e s m args below meth c ls hx hb hr hml hown hts hlocks hl hK hP
  refine lv_iconst (v := 0) hx hb dX2_clearSlices_0 (by decide) ?_
  refine lv_istore_n (lv' := [(2, .int (0)), (0, .ref (h0)), (1, .ref (h1))]) hx hb dX2_clearSlices_1 rfl hl (by decide) rfl (fun ls hl => ?_)
  refine lv_iconst (v := 0) hx hb dX2_clearSlices_2 (by decide) ?_
  refine lv_istore_n (lv' := [(3, .int (0)), (2, .int (0)), (0, .ref (h0)), (1, .ref (h1))]) hx hb dX2_clearSlices_3 rfl hl (by decide) rfl (fun ls hl => ?_)
  have hL_4 : ∀ (n : Nat) (i : Nat), (i + n = 12) → ∀ (ls : Array Slot), lv_has ls 4 [(3, .int (nI (i))), (2, .int (qClrs g (v 2) i)), (0, .ref (h0)), (1, .ref (h1))] → W p l e ({ frames := 2, cells := 0, slots := 0, locals := 45 } : Room) s m args below meth c s.heap [] 0 0 (MQ below (zRi (qClrs g (v 2) 12)) args s 0 0 (fun _ => False)) (F0 m 4 ls []) := by
    intro n
    induction n with
    | zero =>
      intro i hi ls hl
      have e_i : 12 = i := by omega
      subst e_i
      refine lv_iload_n hx hb dX2_clearSlices_4 rfl (lv_at hl 0 rfl) ?_
      refine lv_bipush (v := 12) hx hb dX2_clearSlices_5 (by decide) ?_
      refine z_icmp_ge (tgt := 31) hx hb (12) (12) dX2_clearSlices_7 (by decide) (by omega) (by omega) rfl rfl (fun c_7 => ?_) (fun c_7 => absurd c_7 (by omega))
      refine lv_iload_n hx hb dX2_clearSlices_31 rfl (lv_at hl 1 rfl) ?_
      exact z_iret hx hb hr hlocks (rfl) dX2_clearSlices_32
    | succ n ih =>
      intro i hi ls hl
      refine lv_iload_n hx hb dX2_clearSlices_4 rfl (lv_at hl 0 rfl) ?_
      refine lv_bipush (v := 12) hx hb dX2_clearSlices_5 (by decide) ?_
      refine z_icmp_ge (tgt := 31) hx hb (i) (12) dX2_clearSlices_7 (by decide) (by omega) (by omega) rfl rfl (fun c_7 => absurd c_7 (by omega)) (fun c_7 => ?_)
      refine lv_aload_n hx hb dX2_clearSlices_10 rfl (lv_at hl 3 rfl) ?_
      refine lv_aload_n hx hb dX2_clearSlices_11 rfl (lv_at hl 2 rfl) ?_
      refine lv_iload_n hx hb dX2_clearSlices_12 rfl (lv_at hl 0 rfl) ?_
      refine z_ci (z_vrun (rest := [.ref (h1)]) (own := RX2) (As := [.int (nI (i))]) hx hb hml hown hts hl.1 hK hP [0, 1] rfl (metX2_allIn l D ac h0 g0 g i (by omega)) gX2_clearSlices_X2_allIn rfl 1 (by decide +kernel) ⟨rfl, rfl, Nat.le_of_ble_eq_true rfl, Nat.le_of_ble_eq_true rfl⟩ 0 2 rfl rfl rfl rfl rfl (Nat.le_of_ble_eq_true rfl) dX2_clearSlices_13 ⟨Nat.zero_le _, Nat.zero_le _⟩) ?_
      refine z_ci (z_vrun (rest := []) (own := RX2) (As := [.int (qIn g i)]) hx hb hml hown hts hl.1 hK hP [2, 3, 4] rfl (metX3_isClear l D ac h1 v0 w0 v w (qIn g i) ) gX2_clearSlices_X3_isClear rfl 1 (by decide +kernel) ⟨rfl, rfl, Nat.le_of_ble_eq_true rfl, Nat.le_of_ble_eq_true rfl⟩ 2 3 rfl rfl rfl rfl rfl (Nat.le_of_ble_eq_true rfl) dX2_clearSlices_16 ⟨Nat.zero_le _, Nat.zero_le _⟩) ?_
      refine z_if_eq (C := (qIn g i) ≤ v 2) (tgt := 25) hx hb dX2_clearSlices_19 (by decide) (fun c_19 => ?_) (fun c_19 => ?_)
      · refine lv_iinc (v := nI ((i) + 1)) (lv' := [(3, .int (nI ((i) + 1))), (2, .int (qClrs g (v 2) i)), (0, .ref (h0)), (1, .ref (h1))]) hx hb dX2_clearSlices_25 hl (k := 0) rfl (show nI (i) + Int32.ofInt 1 = _ from nI_add (i) 1) (by decide) rfl (fun ls hl => ?_)
        refine lv_goto (tgt := 4) hx hb dX2_clearSlices_28 (by decide) ?_
        have e1 : qClrs g (v 2) (i + 1) = qClrs g (v 2) i := (congrArg (fun x => qClrs g (v 2) i + x) (if_neg c_19)).trans (Int32.add_zero _)
        exact ih (i + 1) (by omega) ls (by rw [e1]; exact lv_sub hl [0, 1, 2, 3] rfl)
      · refine lv_iinc (v := (qClrs g (v 2) i) + (1)) (lv' := [(2, .int ((qClrs g (v 2) i) + (1))), (3, .int (nI (i))), (0, .ref (h0)), (1, .ref (h1))]) hx hb dX2_clearSlices_22 hl (k := 1) rfl rfl (by decide) rfl (fun ls hl => ?_)
        refine lv_iinc (v := nI ((i) + 1)) (lv' := [(3, .int (nI ((i) + 1))), (2, .int ((qClrs g (v 2) i) + (1))), (0, .ref (h0)), (1, .ref (h1))]) hx hb dX2_clearSlices_25 hl (k := 1) rfl (show nI (i) + Int32.ofInt 1 = _ from nI_add (i) 1) (by decide) rfl (fun ls hl => ?_)
        refine lv_goto (tgt := 4) hx hb dX2_clearSlices_28 (by decide) ?_
        have e1 : qClrs g (v 2) (i + 1) = qClrs g (v 2) i + 1 := (congrArg (fun x => qClrs g (v 2) i + x) (if_pos c_19))
        exact ih (i + 1) (by omega) ls (by rw [e1]; exact lv_sub hl [0, 1, 2, 3] rfl)
  exact hL_4 (12) (0) (by omega) ls (lv_sub hl [0, 1, 2, 3] rfl)

set_option maxRecDepth 100000 in
set_option maxHeartbeats 4000000 in
theorem metX2_reasonToStay (l : Launch) (D : va_G) (ac : Nat → ClassId) (h0 : Nat) (g0 : Nat) (g : Nat → Int32) (h1 : Nat) (v0 : Nat) (w0 : Nat) (v : Nat → Int32) (w : Nat → Int32) (s1 : Nat) (k1 : Nat) (hs : s1 < 12) (hk : k1 < 4) : Met l yX2_reasonToStay wsX2_reasonToStay ({ frames := 2, cells := 0, slots := 0, locals := 45 } : Room) (va_Pc [.ref (h0), .int (nI (s1)), .int (nI (k1)), .ref (h1)] (zW D ac [(h0, .inr (2, [.ref (g0)])), (g0, .inl (ac 0, 48, .inl (g))), (h1, .inr (3, [.ref (v0), .ref (w0)])), (v0, .inl (ac 0, 4, .inl (v))), (w0, .inl (ac 0, 4, .inl (w)))])) (zRi (qWhy g v w s1 k1)) 0 0 (fun _ => False) := by
  refine z_ro (cc := cX2_reasonToStay) (maxL := 6) (ret := (some .int)) (lv := [(0, .ref (h0)), (1, .int (nI (s1))), (2, .int (nI (k1))), (3, .ref (h1))]) (by decide) rfl (Nat.le_of_ble_eq_true rfl) rfl ?_
  intro p e s m args below meth c ls hx hb hr hml hown hts hlocks hl hK hP
  refine lv_iload_n hx hb dX2_reasonToStay_0 rfl (lv_at hl 1 rfl) ?_
  refine lv_bipush (v := 11) hx hb dX2_reasonToStay_1 (by decide) ?_
  refine z_icmp_ne (tgt := 8) hx hb (s1) (11) dX2_reasonToStay_3 (by decide) (by omega) (by omega) rfl rfl (fun c_3 => ?_) (fun c_3 => ?_)
  · refine lv_aload_n hx hb dX2_reasonToStay_8 rfl (lv_at hl 0 rfl) ?_
    refine lv_iload_n hx hb dX2_reasonToStay_9 rfl (lv_at hl 1 rfl) ?_
    refine lv_iload_n hx hb dX2_reasonToStay_10 rfl (lv_at hl 2 rfl) ?_
    refine z_ci (z_vrun (rest := []) (own := RX2) (As := [.int (nI (s1)), .int (nI (k1))]) hx hb hml hown hts hl.1 hK hP [0, 1] rfl (metX2_many l D ac h0 g0 g s1 k1 (by omega) (by omega)) gX2_reasonToStay_X2_many rfl 2 (by decide +kernel) ⟨rfl, rfl, Nat.le_of_ble_eq_true rfl, Nat.le_of_ble_eq_true rfl⟩ 0 2 rfl rfl rfl rfl rfl (Nat.le_of_ble_eq_true rfl) dX2_reasonToStay_11 ⟨Nat.zero_le _, Nat.zero_le _⟩) ?_
    refine lv_istore (lv' := [(4, .int (g (4 * s1 + k1))), (0, .ref (h0)), (1, .int (nI (s1))), (2, .int (nI (k1))), (3, .ref (h1))]) hx hb dX2_reasonToStay_14 hl (by decide) rfl (fun ls hl => ?_)
    refine lv_iload hx hb dX2_reasonToStay_16 (lv_at hl 0 rfl) ?_
    refine lv_if_ne (tgt := 23) hx hb dX2_reasonToStay_18 (by decide) (fun c_18 => ?_) (fun c_18 => ?_)
    · refine lv_aload_n hx hb dX2_reasonToStay_23 rfl (lv_at hl 4 rfl) ?_
      refine lv_aload_n hx hb dX2_reasonToStay_24 rfl (lv_at hl 1 rfl) ?_
      refine lv_iload_n hx hb dX2_reasonToStay_25 rfl (lv_at hl 2 rfl) ?_
      refine lv_iconst (v := 1) hx hb dX2_reasonToStay_26 (by decide) ?_
      refine lv_iadd hx hb dX2_reasonToStay_27 ?_
      refine z_top (y := nI ((s1) + (1))) (nI_add (s1) (1)) ?_
      refine z_ci (z_vrun (rest := [.ref (h1)]) (own := RX2) (As := [.int (nI ((s1) + (1)))]) hx hb hml hown hts hl.1 hK hP [0, 1] rfl (metX2_allIn l D ac h0 g0 g ((s1) + (1)) (by omega)) gX2_reasonToStay_X2_allIn rfl 1 (by decide +kernel) ⟨rfl, rfl, Nat.le_of_ble_eq_true rfl, Nat.le_of_ble_eq_true rfl⟩ 0 2 rfl rfl rfl rfl rfl (Nat.le_of_ble_eq_true rfl) dX2_reasonToStay_28 ⟨Nat.zero_le _, Nat.zero_le _⟩) ?_
      refine z_ci (z_vrun (rest := []) (own := RX2) (As := [.int (qIn g ((s1) + (1)))]) hx hb hml hown hts hl.1 hK hP [2, 3, 4] rfl (metX3_roomOver l D ac h1 v0 w0 v w (qIn g ((s1) + (1))) ) gX2_reasonToStay_X3_roomOver rfl 1 (by decide +kernel) ⟨rfl, rfl, Nat.le_of_ble_eq_true rfl, Nat.le_of_ble_eq_true rfl⟩ 2 3 rfl rfl rfl rfl rfl (Nat.le_of_ble_eq_true rfl) dX2_reasonToStay_31 ⟨Nat.zero_le _, Nat.zero_le _⟩) ?_
      refine lv_if_ne (tgt := 39) hx hb dX2_reasonToStay_34 (by decide) (fun c_34 => ?_) (fun c_34 => ?_)
      · refine lv_aload_n hx hb dX2_reasonToStay_39 rfl (lv_at hl 4 rfl) ?_
        refine lv_aload_n hx hb dX2_reasonToStay_40 rfl (lv_at hl 1 rfl) ?_
        refine lv_iload_n hx hb dX2_reasonToStay_41 rfl (lv_at hl 2 rfl) ?_
        refine z_ci (z_vrun (rest := [.ref (h1)]) (own := RX2) (As := [.int (nI (s1))]) hx hb hml hown hts hl.1 hK hP [0, 1] rfl (metX2_allIn l D ac h0 g0 g s1 (by omega)) gX2_reasonToStay_X2_allIn rfl 1 (by decide +kernel) ⟨rfl, rfl, Nat.le_of_ble_eq_true rfl, Nat.le_of_ble_eq_true rfl⟩ 0 2 rfl rfl rfl rfl rfl (Nat.le_of_ble_eq_true rfl) dX2_reasonToStay_42 ⟨Nat.zero_le _, Nat.zero_le _⟩) ?_
        refine z_ci (z_vrun (rest := []) (own := RX2) (As := [.int (qIn g s1)]) hx hb hml hown hts hl.1 hK hP [2, 3, 4] rfl (metX3_factorOf l D ac h1 v0 w0 v w (qIn g s1) ) gX2_reasonToStay_X3_factorOf rfl 1 (by decide +kernel) ⟨rfl, rfl, Nat.le_of_ble_eq_true rfl, Nat.le_of_ble_eq_true rfl⟩ 2 3 rfl rfl rfl rfl rfl (Nat.le_of_ble_eq_true rfl) dX2_reasonToStay_45 ⟨Nat.zero_le _, Nat.zero_le _⟩) ?_
        refine lv_istore (lv' := [(5, .int (qFac (v 0) (qIn g s1))), (4, .int (g (4 * s1 + k1))), (0, .ref (h0)), (1, .int (nI (s1))), (2, .int (nI (k1))), (3, .ref (h1))]) hx hb dX2_reasonToStay_48 hl (by decide) rfl (fun ls hl => ?_)
        refine lv_aload_n hx hb dX2_reasonToStay_50 rfl (lv_at hl 5 rfl) ?_
        refine lv_iload_n hx hb dX2_reasonToStay_51 rfl (lv_at hl 4 rfl) ?_
        refine lv_iload hx hb dX2_reasonToStay_52 (lv_at hl 1 rfl) ?_
        refine lv_iload hx hb dX2_reasonToStay_54 (lv_at hl 0 rfl) ?_
        refine z_ci (z_vrun (rest := []) (own := RX2) (As := [.int (nI (k1)), .int (g (4 * s1 + k1)), .int (qFac (v 0) (qIn g s1))]) hx hb hml hown hts hl.1 hK hP [2, 3, 4] rfl (metX3_wantingToFall l D ac h1 v0 w0 v w k1 (g (4 * s1 + k1)) (qFac (v 0) (qIn g s1)) (by omega)) gX2_reasonToStay_X3_wantingToFall rfl 3 (by decide +kernel) ⟨rfl, rfl, Nat.le_of_ble_eq_true rfl, Nat.le_of_ble_eq_true rfl⟩ 2 3 rfl rfl rfl rfl rfl (Nat.le_of_ble_eq_true rfl) dX2_reasonToStay_56 ⟨Nat.zero_le _, Nat.zero_le _⟩) ?_
        refine lv_if_ne (tgt := 66) hx hb dX2_reasonToStay_59 (by decide) (fun c_59 => ?_) (fun c_59 => ?_)
        · refine lv_iconst (v := 0) hx hb dX2_reasonToStay_66 (by decide) ?_
          exact z_iret hx hb hr hlocks ((by rw [qWhy, if_neg c_3, if_neg c_18, if_neg c_34, if_neg c_59])) dX2_reasonToStay_67
        · refine lv_iconst (v := 4) hx hb dX2_reasonToStay_62 (by decide) ?_
          refine lv_goto (tgt := 67) hx hb dX2_reasonToStay_63 (by decide) ?_
          exact z_iret hx hb hr hlocks ((by rw [qWhy, if_neg c_3, if_neg c_18, if_neg c_34, if_pos c_59])) dX2_reasonToStay_67
      · refine lv_iconst (v := 3) hx hb dX2_reasonToStay_37 (by decide) ?_
        exact z_iret hx hb hr hlocks ((by rw [qWhy, if_neg c_3, if_neg c_18, if_pos c_34])) dX2_reasonToStay_38
    · refine lv_iconst (v := 2) hx hb dX2_reasonToStay_21 (by decide) ?_
      exact z_iret hx hb hr hlocks ((by rw [qWhy, if_neg c_3, if_pos c_18])) dX2_reasonToStay_22
  · refine lv_iconst (v := 1) hx hb dX2_reasonToStay_6 (by decide) ?_
    exact z_iret hx hb hr hlocks ((if_pos c_3).symm) dX2_reasonToStay_7

set_option maxRecDepth 100000 in
set_option maxHeartbeats 4000000 in
theorem metX2_isAtRest (l : Launch) (D : va_G) (ac : Nat → ClassId) (h0 : Nat) (g0 : Nat) (g : Nat → Int32) (h1 : Nat) (v0 : Nat) (w0 : Nat) (v : Nat → Int32) (w : Nat → Int32)  : Met l yX2_isAtRest wsX2_isAtRest ({ frames := 3, cells := 0, slots := 0, locals := 70 } : Room) (va_Pc [.ref (h0), .ref (h1)] (zW D ac [(h0, .inr (2, [.ref (g0)])), (g0, .inl (ac 0, 48, .inl (g))), (h1, .inr (3, [.ref (v0), .ref (w0)])), (v0, .inl (ac 0, 4, .inl (v))), (w0, .inl (ac 0, 4, .inl (w)))])) (zRi (if qRest g v w = true then 1 else 0)) 0 0 (fun _ => False) := by
  refine z_ro (cc := cX2_isAtRest) (maxL := 4) (ret := (some .boolean)) (lv := [(0, .ref (h0)), (1, .ref (h1))]) (by decide) rfl (Nat.le_of_ble_eq_true rfl) rfl ?_
  intro p e s m args below meth c ls hx hb hr hml hown hts hlocks hl hK hP
  refine lv_iconst (v := 0) hx hb dX2_isAtRest_0 (by decide) ?_
  refine lv_istore_n (lv' := [(2, .int (0)), (0, .ref (h0)), (1, .ref (h1))]) hx hb dX2_isAtRest_1 rfl hl (by decide) rfl (fun ls hl => ?_)
  have hL_2 : ∀ (n : Nat) (i : Nat), (i + n = 11) → (qAllB (fun s => qAllB (fun c => !decide (qWhy g v w s c = 0)) 4) i = true) → ∀ (ls : Array Slot), lv_has ls 4 [(2, .int (nI (i))), (0, .ref (h0)), (1, .ref (h1))] → W p l e ({ frames := 3, cells := 0, slots := 0, locals := 70 } : Room) s m args below meth c s.heap [] 0 0 (MQ below (zRi (if qRest g v w = true then 1 else 0)) args s 0 0 (fun _ => False)) (F0 m 2 ls []) := by
    intro n
    induction n with
    | zero =>
      intro i hi hq ls hl
      have e_i : 11 = i := by omega
      subst e_i
      refine lv_iload_n hx hb dX2_isAtRest_2 rfl (lv_at hl 0 rfl) ?_
      refine lv_bipush (v := 11) hx hb dX2_isAtRest_3 (by decide) ?_
      refine z_icmp_ge (tgt := 39) hx hb (11) (11) dX2_isAtRest_5 (by decide) (by omega) (by omega) rfl rfl (fun c_5 => ?_) (fun c_5 => absurd c_5 (by omega))
      refine lv_iconst (v := 1) hx hb dX2_isAtRest_39 (by decide) ?_
      exact z_zret hx hb hr hlocks (rfl) ((if_pos hq).symm) dX2_isAtRest_40
    | succ n ih =>
      intro i hi hq ls hl
      refine lv_iload_n hx hb dX2_isAtRest_2 rfl (lv_at hl 0 rfl) ?_
      refine lv_bipush (v := 11) hx hb dX2_isAtRest_3 (by decide) ?_
      refine z_icmp_ge (tgt := 39) hx hb (i) (11) dX2_isAtRest_5 (by decide) (by omega) (by omega) rfl rfl (fun c_5 => absurd c_5 (by omega)) (fun c_5 => ?_)
      refine lv_iconst (v := 0) hx hb dX2_isAtRest_8 (by decide) ?_
      refine lv_istore_n (lv' := [(3, .int (0)), (2, .int (nI (i))), (0, .ref (h0)), (1, .ref (h1))]) hx hb dX2_isAtRest_9 rfl hl (by decide) rfl (fun ls hl => ?_)
      have hL_10 : ∀ (n2 : Nat) (j : Nat), (j + n2 = 4) → (qAllB (fun c => !decide (qWhy g v w i c = 0)) j = true) → ∀ (ls : Array Slot), lv_has ls 4 [(3, .int (nI (j))), (2, .int (nI (i))), (0, .ref (h0)), (1, .ref (h1))] → W p l e ({ frames := 3, cells := 0, slots := 0, locals := 70 } : Room) s m args below meth c s.heap [] 0 0 (MQ below (zRi (if qRest g v w = true then 1 else 0)) args s 0 0 (fun _ => False)) (F0 m 10 ls []) := by
        intro n2
        induction n2 with
        | zero =>
          intro j hj hq2 ls hl
          have e_j : 4 = j := by omega
          subst e_j
          refine lv_iload_n hx hb dX2_isAtRest_10 rfl (lv_at hl 0 rfl) ?_
          refine lv_iconst (v := 4) hx hb dX2_isAtRest_11 (by decide) ?_
          refine z_icmp_ge (tgt := 33) hx hb (4) (4) dX2_isAtRest_12 (by decide) (by omega) (by omega) rfl rfl (fun c_12 => ?_) (fun c_12 => absurd c_12 (by omega))
          refine lv_iinc (v := nI ((i) + 1)) (lv' := [(2, .int (nI ((i) + 1))), (3, .int (nI (4))), (0, .ref (h0)), (1, .ref (h1))]) hx hb dX2_isAtRest_33 hl (k := 1) rfl (show nI (i) + Int32.ofInt 1 = _ from nI_add (i) 1) (by decide) rfl (fun ls hl => ?_)
          refine lv_goto (tgt := 2) hx hb dX2_isAtRest_36 (by decide) ?_
          exact ih (i + 1) (by omega) ((show (qAllB (fun s => qAllB (fun c => !decide (qWhy g v w s c = 0)) 4) i && qAllB (fun c => !decide (qWhy g v w i c = 0)) 4) = true from Bool.and_eq_true_iff.mpr ⟨hq, hq2⟩)) ls (lv_sub hl [0, 2, 3] rfl)
        | succ n2 ih =>
          intro j hj hq2 ls hl
          refine lv_iload_n hx hb dX2_isAtRest_10 rfl (lv_at hl 0 rfl) ?_
          refine lv_iconst (v := 4) hx hb dX2_isAtRest_11 (by decide) ?_
          refine z_icmp_ge (tgt := 33) hx hb (j) (4) dX2_isAtRest_12 (by decide) (by omega) (by omega) rfl rfl (fun c_12 => absurd c_12 (by omega)) (fun c_12 => ?_)
          refine lv_aload_n hx hb dX2_isAtRest_15 rfl (lv_at hl 2 rfl) ?_
          refine lv_iload_n hx hb dX2_isAtRest_16 rfl (lv_at hl 1 rfl) ?_
          refine lv_iload_n hx hb dX2_isAtRest_17 rfl (lv_at hl 0 rfl) ?_
          refine lv_aload_n hx hb dX2_isAtRest_18 rfl (lv_at hl 3 rfl) ?_
          refine z_ci (z_vrun (rest := []) (own := RX2) (As := [.int (nI (i)), .int (nI (j)), .ref (h1)]) hx hb hml hown hts hl.1 hK hP [0, 1, 2, 3, 4] rfl (metX2_reasonToStay l D ac h0 g0 g h1 v0 w0 v w i j (by omega) (by omega)) gX2_isAtRest_X2_reasonToStay rfl 3 (by decide +kernel) ⟨rfl, rfl, Nat.le_of_ble_eq_true rfl, Nat.le_of_ble_eq_true rfl⟩ 0 2 rfl rfl rfl rfl rfl (Nat.le_of_ble_eq_true rfl) dX2_isAtRest_19 ⟨Nat.zero_le _, Nat.zero_le _⟩) ?_
          refine lv_if_ne (tgt := 27) hx hb dX2_isAtRest_22 (by decide) (fun c_22 => ?_) (fun c_22 => ?_)
          · refine lv_iinc (v := nI ((j) + 1)) (lv' := [(3, .int (nI ((j) + 1))), (2, .int (nI (i))), (0, .ref (h0)), (1, .ref (h1))]) hx hb dX2_isAtRest_27 hl (k := 0) rfl (show nI (j) + Int32.ofInt 1 = _ from nI_add (j) 1) (by decide) rfl (fun ls hl => ?_)
            refine lv_goto (tgt := 10) hx hb dX2_isAtRest_30 (by decide) ?_
            exact ih (j + 1) (by omega) ((show (qAllB (fun c => !decide (qWhy g v w i c = 0)) j && !decide (qWhy g v w i j = 0)) = true from Bool.and_eq_true_iff.mpr ⟨hq2, z_ndec2 c_22⟩)) ls (lv_sub hl [0, 1, 2, 3] rfl)
          · refine lv_iconst (v := 0) hx hb dX2_isAtRest_25 (by decide) ?_
            exact z_zret hx hb hr hlocks (rfl) ((if_neg (q_rest_no (by omega) (by omega) c_22)).symm) dX2_isAtRest_26
      exact hL_10 (4) (0) (by omega) (rfl) ls (lv_sub hl [0, 1, 2, 3] rfl)
  exact hL_2 (11) (0) (by omega) (rfl) ls (lv_sub hl [0, 1, 2] rfl)

set_option maxRecDepth 100000 in
set_option maxHeartbeats 4000000 in
theorem metX2_put (l : Launch) (D : va_G) (ac : Nat → ClassId) (sz : Nat) (h0 : Nat) (g0 : Nat) (g : Nat → Int32) (s1 : Nat) (k1 : Nat) (x : Int32) (hs : s1 < 12) (hk : k1 < 4) : Met l yX2_put wsX2_put ({ frames := 0, cells := 0, slots := 0, locals := 0 } : Room) (va_Pc [.ref (h0), .int (nI (s1)), .int (nI (k1)), .int (x)] (zS D ac [(h0, .inr (2, [.ref (g0)])), (g0, .inl (ac 0, 48, .inl (g)))] sz)) (zQv D ac [(h0, .inr (2, [.ref (g0)])), (g0, .inl (ac 0, 48, .inl (g)))] [(h0, .inr (2, [.ref (g0)])), (g0, .inl (ac 0, 48, .inl (qPut g s1 k1 x)))] sz) 0 0 (va_A [(h0, .inr (2, [.ref (g0)])), (g0, .inl (ac 0, 48, .inl (g)))] sz) := by
  refine z_rw (cc := cX2_put) (maxL := 4) (ret := none) (lv := [(0, .ref (h0)), (1, .int (nI (s1))), (2, .int (nI (k1))), (3, .int (x))]) (by decide) rfl (Nat.le_of_ble_eq_true rfl) rfl ?_
  intro p e s m args below meth c ls A hx hb hr hml hown hts hlocks hl hK hP hsz hAe hA hD hS
  refine lv_aload_n hx hb dX2_put_0 rfl (lv_at hl 0 rfl) ?_
  refine va_get (ci := 2) (v := .ref (g0)) (C := RX2) (T := TX2) (N := 1) hx hb hts (by decide +kernel) hown hK hP 0 rfl rfl 0 (by decide) (hts (.fieldLink RX2 9 "SettlingJars$Jar" "grains" "[I") (by decide +kernel)) (fun _ h9 => h9) rfl dX2_put_1 ?_
  refine lv_iload_n hx hb dX2_put_4 rfl (lv_at hl 1 rfl) ?_
  refine lv_iconst (v := 4) hx hb dX2_put_5 (by decide) ?_
  refine lv_imul hx hb dX2_put_6 ?_
  refine z_top (y := nI ((s1) * (4))) (pk_mul (s1) (4)) ?_
  refine lv_iload_n hx hb dX2_put_7 rfl (lv_at hl 2 rfl) ?_
  refine lv_iadd hx hb dX2_put_8 ?_
  refine z_top (y := nI (((s1) * (4)) + (k1))) (nI_add ((s1) * (4)) (k1)) ?_
  refine lv_dup2_11 hx hb dX2_put_9 rfl rfl ?_
  refine z_iald hx hb hK hP 1 rfl (4 * s1 + k1) (congrArg nI (by omega)) (by omega) (by decide) dX2_put_10 ?_
  refine lv_iload_n hx hb dX2_put_11 rfl (lv_at hl 3 rfl) ?_
  refine lv_iadd hx hb dX2_put_12 ?_
  refine z_iast hx hb hK hP hD hS 1 rfl (4 * s1 + k1) (congrArg nI (by omega)) (by omega) (by decide) dX2_put_13 (fun H locs hP hD hS => ?_)
  have hP : va_P D vwCl [(h0, .inr (2, [.ref (g0)])), (g0, .inl (ac 0, 48, .inl (upd (g) (4 * s1 + k1) ((g (4 * s1 + k1)) + (x)))))] H := hP
  have hD : va_D A [(h0, .inr (2, [.ref (g0)])), (g0, .inl (ac 0, 48, .inl (upd (g) (4 * s1 + k1) ((g (4 * s1 + k1)) + (x)))))] := hD
  exact z_vretW hx hb hr hlocks hK hP hD hS hAe dX2_put_14

set_option maxRecDepth 100000 in
set_option maxHeartbeats 4000000 in
theorem metX2_spread (l : Launch) (D : va_G) (ac : Nat → ClassId) (sz : Nat) (h0 : Nat) (g0 : Nat) (g : Nat → Int32) (a : Nat) (b : Nat) (k1 : Nat) (ha : a ≤ b) (hb1 : b < 12) (hk : k1 < 4) : Met l yX2_spread wsX2_spread ({ frames := 1, cells := 0, slots := 0, locals := 23 } : Room) (va_Pc [.ref (h0), .int (nI (a)), .int (nI (b)), .int (nI (k1))] (zS D ac [(h0, .inr (2, [.ref (g0)])), (g0, .inl (ac 0, 48, .inl (g)))] sz)) (zQi D ac [(h0, .inr (2, [.ref (g0)])), (g0, .inl (ac 0, 48, .inl (g)))] [(h0, .inr (2, [.ref (g0)])), (g0, .inl (ac 0, 48, .inl ((qSp g a b k1 (qSum g a k1 (b + 1 - a)) (b + 1 - a)).1)))] sz (qSum g a k1 (b + 1 - a))) 0 0 (va_A [(h0, .inr (2, [.ref (g0)])), (g0, .inl (ac 0, 48, .inl (g)))] sz) := by
  refine z_rw (cc := cX2_spread) (maxL := 9) (ret := (some .int)) (lv := [(0, .ref (h0)), (1, .int (nI (a))), (2, .int (nI (b))), (3, .int (nI (k1)))]) (by decide) rfl (Nat.le_of_ble_eq_true rfl) rfl ?_
  intro p e s m args below meth c ls A hx hb hr hml hown hts hlocks hl hK hP hsz hAe hA hD hS
  refine lv_iconst (v := 0) hx hb dX2_spread_0 (by decide) ?_
  refine lv_istore (lv' := [(4, .int (0)), (0, .ref (h0)), (1, .int (nI (a))), (2, .int (nI (b))), (3, .int (nI (k1)))]) hx hb dX2_spread_1 hl (by decide) rfl (fun ls hl => ?_)
  refine lv_iload_n hx hb dX2_spread_3 rfl (lv_at hl 2 rfl) ?_
  refine lv_istore (lv' := [(5, .int (nI (a))), (4, .int (0)), (0, .ref (h0)), (1, .int (nI (a))), (2, .int (nI (b))), (3, .int (nI (k1)))]) hx hb dX2_spread_4 hl (by decide) rfl (fun ls hl => ?_)
  have hL_6 : ∀ (n : Nat) (i : Nat), (i + n = b + 1 - a) → ∀ (H : Heap) (locs : List Loc), va_P D vwCl [(h0, .inr (2, [.ref (g0)])), (g0, .inl (ac 0, 48, .inl (g)))] H → va_D A [(h0, .inr (2, [.ref (g0)])), (g0, .inl (ac 0, 48, .inl (g)))] → va_S A s.heap H locs → ∀ (ls : Array Slot), lv_has ls 9 [(5, .int (nI (a + i))), (4, .int (qSum g a k1 i)), (0, .ref (h0)), (1, .int (nI (a))), (2, .int (nI (b))), (3, .int (nI (k1)))] → W p l e ({ frames := 1, cells := 0, slots := 0, locals := 23 } : Room) s m args below meth c H locs 0 0 (MQ below (zQi D ac [(h0, .inr (2, [.ref (g0)])), (g0, .inl (ac 0, 48, .inl (g)))] [(h0, .inr (2, [.ref (g0)])), (g0, .inl (ac 0, 48, .inl ((qSp g a b k1 (qSum g a k1 (b + 1 - a)) (b + 1 - a)).1)))] sz (qSum g a k1 (b + 1 - a))) args s 0 0 A) (F0 m 6 ls []) := by
    intro n
    induction n with
    | zero =>
      intro i hi H locs hP hD hS ls hl
      have e_i : b + 1 - a = i := by omega
      subst e_i
      refine lv_iload hx hb dX2_spread_6 (lv_at hl 0 rfl) ?_
      refine lv_iload_n hx hb dX2_spread_8 rfl (lv_at hl 4 rfl) ?_
      refine z_icmp_gt (tgt := 30) hx hb (a + (b + 1 - a)) (b) dX2_spread_9 (by decide) (by omega) (by omega) rfl rfl (fun c_9 => ?_) (fun c_9 => absurd c_9 (by omega))
      refine lv_iload hx hb dX2_spread_30 (lv_at hl 1 rfl) ?_
      refine lv_istore (lv' := [(5, .int (qSum g a k1 (b + 1 - a))), (4, .int (qSum g a k1 (b + 1 - a))), (0, .ref (h0)), (1, .int (nI (a))), (2, .int (nI (b))), (3, .int (nI (k1)))]) hx hb dX2_spread_32 hl (by decide) rfl (fun ls hl => ?_)
      refine lv_iload_n hx hb dX2_spread_34 rfl (lv_at hl 3 rfl) ?_
      refine lv_istore (lv' := [(6, .int (nI (a))), (5, .int (qSum g a k1 (b + 1 - a))), (4, .int (qSum g a k1 (b + 1 - a))), (0, .ref (h0)), (1, .int (nI (a))), (2, .int (nI (b))), (3, .int (nI (k1)))]) hx hb dX2_spread_35 hl (by decide) rfl (fun ls hl => ?_)
      have hL_37 : ∀ (n : Nat) (i : Nat), (i + n = b + 1 - a) → ∀ (H : Heap) (locs : List Loc), va_P D vwCl [(h0, .inr (2, [.ref (g0)])), (g0, .inl (ac 0, 48, .inl ((qSp g a b k1 (qSum g a k1 (b + 1 - a)) i).1)))] H → va_D A [(h0, .inr (2, [.ref (g0)])), (g0, .inl (ac 0, 48, .inl ((qSp g a b k1 (qSum g a k1 (b + 1 - a)) i).1)))] → va_S A s.heap H locs → ∀ (ls : Array Slot), lv_has ls 9 [(6, .int (nI (a + i))), (5, .int ((qSp g a b k1 (qSum g a k1 (b + 1 - a)) i).2)), (4, .int (qSum g a k1 (b + 1 - a))), (0, .ref (h0)), (1, .int (nI (a))), (2, .int (nI (b))), (3, .int (nI (k1)))] → W p l e ({ frames := 1, cells := 0, slots := 0, locals := 23 } : Room) s m args below meth c H locs 0 0 (MQ below (zQi D ac [(h0, .inr (2, [.ref (g0)])), (g0, .inl (ac 0, 48, .inl (g)))] [(h0, .inr (2, [.ref (g0)])), (g0, .inl (ac 0, 48, .inl ((qSp g a b k1 (qSum g a k1 (b + 1 - a)) (b + 1 - a)).1)))] sz (qSum g a k1 (b + 1 - a))) args s 0 0 A) (F0 m 37 ls []) := by
        intro n
        induction n with
        | zero =>
          intro i hi H locs hP hD hS ls hl
          have e_i : b + 1 - a = i := by omega
          subst e_i
          refine lv_iload hx hb dX2_spread_37 (lv_at hl 0 rfl) ?_
          refine lv_iload_n hx hb dX2_spread_39 rfl (lv_at hl 5 rfl) ?_
          refine z_icmp_gt (tgt := 91) hx hb (a + (b + 1 - a)) (b) dX2_spread_40 (by decide) (by omega) (by omega) rfl rfl (fun c_40 => ?_) (fun c_40 => absurd c_40 (by omega))
          refine lv_iload hx hb dX2_spread_91 (lv_at hl 2 rfl) ?_
          exact z_iretW hx hb hr hlocks hK hP hD hS hAe (rfl) dX2_spread_93
        | succ n ih =>
          intro i hi H locs hP hD hS ls hl
          refine lv_iload hx hb dX2_spread_37 (lv_at hl 0 rfl) ?_
          refine lv_iload_n hx hb dX2_spread_39 rfl (lv_at hl 5 rfl) ?_
          refine z_icmp_gt (tgt := 91) hx hb (a + i) (b) dX2_spread_40 (by decide) (by omega) (by omega) rfl rfl (fun c_40 => absurd c_40 (by omega)) (fun c_40 => ?_)
          refine lv_iload_n hx hb dX2_spread_43 rfl (lv_at hl 5 rfl) ?_
          refine lv_iload hx hb dX2_spread_44 (lv_at hl 0 rfl) ?_
          refine lv_isub hx hb dX2_spread_46 ?_
          refine z_top (y := nI ((b) - (a + i))) (pk_sub (a := b) (b := a + i) (by omega)) ?_
          refine z_top (y := nI (b - (a + i))) (rfl) ?_
          refine lv_istore (lv' := [(7, .int (nI (b - (a + i)))), (6, .int (nI (a + i))), (5, .int ((qSp g a b k1 (qSum g a k1 (b + 1 - a)) i).2)), (4, .int (qSum g a k1 (b + 1 - a))), (0, .ref (h0)), (1, .int (nI (a))), (2, .int (nI (b))), (3, .int (nI (k1)))]) hx hb dX2_spread_47 hl (by decide) rfl (fun ls hl => ?_)
          refine lv_iload hx hb dX2_spread_49 (lv_at hl 2 rfl) ?_
          refine lv_iload hx hb dX2_spread_51 (lv_at hl 0 rfl) ?_
          refine lv_iadd hx hb dX2_spread_53 ?_
          refine lv_iload hx hb dX2_spread_54 (lv_at hl 0 rfl) ?_
          refine lv_iconst (v := 1) hx hb dX2_spread_56 (by decide) ?_
          refine lv_iadd hx hb dX2_spread_57 ?_
          refine z_top (y := nI ((b - (a + i)) + (1))) (nI_add (b - (a + i)) (1)) ?_
          refine lv_idiv hx hb dX2_spread_58 (nI_ne0 (by omega) (by omega)) ?_
          refine lv_istore (lv' := [(8, .int ((((qSp g a b k1 (qSum g a k1 (b + 1 - a)) i).2) + (nI (b - (a + i)))) / (nI ((b - (a + i)) + (1))))), (7, .int (nI (b - (a + i)))), (6, .int (nI (a + i))), (5, .int ((qSp g a b k1 (qSum g a k1 (b + 1 - a)) i).2)), (4, .int (qSum g a k1 (b + 1 - a))), (0, .ref (h0)), (1, .int (nI (a))), (2, .int (nI (b))), (3, .int (nI (k1)))]) hx hb dX2_spread_59 hl (by decide) rfl (fun ls hl => ?_)
          refine lv_aload_n hx hb dX2_spread_61 rfl (lv_at hl 5 rfl) ?_
          refine lv_iload hx hb dX2_spread_62 (lv_at hl 2 rfl) ?_
          refine lv_iload_n hx hb dX2_spread_64 rfl (lv_at hl 8 rfl) ?_
          refine lv_iload hx hb dX2_spread_65 (lv_at hl 0 rfl) ?_
          refine lv_aload_n hx hb dX2_spread_67 rfl (lv_at hl 5 rfl) ?_
          refine lv_iload hx hb dX2_spread_68 (lv_at hl 2 rfl) ?_
          refine lv_iload_n hx hb dX2_spread_70 rfl (lv_at hl 8 rfl) ?_
          refine z_ci (z_vrun (rest := [.int ((((qSp g a b k1 (qSum g a k1 (b + 1 - a)) i).2) + (nI (b - (a + i)))) / (nI ((b - (a + i)) + (1)))), .int (nI (k1)), .int (nI (a + i)), .ref (h0)]) (own := RX2) (As := [.int (nI (a + i)), .int (nI (k1))]) hx hb hml hown hts hl.1 hK hP [0, 1] rfl (metX2_many l D ac h0 g0 ((qSp g a b k1 (qSum g a k1 (b + 1 - a)) i).1) (a + i) k1 (by omega) (by omega)) gX2_spread_X2_many rfl 2 (by decide +kernel) ⟨rfl, rfl, Nat.le_of_ble_eq_true rfl, Nat.le_of_ble_eq_true rfl⟩ 0 2 rfl rfl rfl rfl rfl (Nat.le_of_ble_eq_true rfl) dX2_spread_71 ⟨Nat.zero_le _, Nat.zero_le _⟩) ?_
          refine lv_isub hx hb dX2_spread_74 ?_
          refine z_cvW [(h0, .inr (2, [.ref (g0)])), (g0, .inl (ac 0, 48, .inl (qPut ((qSp g a b k1 (qSum g a k1 (b + 1 - a)) i).1) (a + i) k1 (((((qSp g a b k1 (qSum g a k1 (b + 1 - a)) i).2) + (nI (b - (a + i)))) / (nI ((b - (a + i)) + (1)))) - (((qSp g a b k1 (qSum g a k1 (b + 1 - a)) i).1) (4 * (a + i) + k1))))))] (z_vrunW (rest := []) (own := RX2) (As := [.int (nI (a + i)), .int (nI (k1)), .int (((((qSp g a b k1 (qSum g a k1 (b + 1 - a)) i).2) + (nI (b - (a + i)))) / (nI ((b - (a + i)) + (1)))) - (((qSp g a b k1 (qSum g a k1 (b + 1 - a)) i).1) (4 * (a + i) + k1)))]) hx hb hml hown hts hl.1 hK hP hD [0, 1] rfl (by decide) rfl (metX2_put l D ac _ h0 g0 ((qSp g a b k1 (qSum g a k1 (b + 1 - a)) i).1) (a + i) k1 (((((qSp g a b k1 (qSum g a k1 (b + 1 - a)) i).2) + (nI (b - (a + i)))) / (nI ((b - (a + i)) + (1)))) - (((qSp g a b k1 (qSum g a k1 (b + 1 - a)) i).1) (4 * (a + i) + k1))) (by omega) (by omega)) gX2_spread_X2_put rfl 3 (by decide +kernel) ⟨rfl, rfl, Nat.le_of_ble_eq_true rfl, Nat.le_of_ble_eq_true rfl⟩ 0 2 rfl rfl rfl rfl rfl (Nat.le_of_ble_eq_true rfl) dX2_spread_75 ⟨Nat.zero_le _, Nat.zero_le _⟩) hP hD hS hA [0, 1] [] [0, 1] rfl rfl (by decide) (by decide) (by decide) rfl (fun H locs hP hD hS => ?_)
          refine lv_iload hx hb dX2_spread_78 (lv_at hl 3 rfl) ?_
          refine lv_iload hx hb dX2_spread_80 (lv_at hl 0 rfl) ?_
          refine lv_isub hx hb dX2_spread_82 ?_
          refine lv_istore (lv' := [(5, .int (((qSp g a b k1 (qSum g a k1 (b + 1 - a)) i).2) - ((((qSp g a b k1 (qSum g a k1 (b + 1 - a)) i).2) + (nI (b - (a + i)))) / (nI ((b - (a + i)) + (1)))))), (8, .int ((((qSp g a b k1 (qSum g a k1 (b + 1 - a)) i).2) + (nI (b - (a + i)))) / (nI ((b - (a + i)) + (1))))), (7, .int (nI (b - (a + i)))), (6, .int (nI (a + i))), (4, .int (qSum g a k1 (b + 1 - a))), (0, .ref (h0)), (1, .int (nI (a))), (2, .int (nI (b))), (3, .int (nI (k1)))]) hx hb dX2_spread_83 hl (by decide) rfl (fun ls hl => ?_)
          refine lv_iinc (v := nI ((a + i) + 1)) (lv' := [(6, .int (nI ((a + i) + 1))), (5, .int (((qSp g a b k1 (qSum g a k1 (b + 1 - a)) i).2) - ((((qSp g a b k1 (qSum g a k1 (b + 1 - a)) i).2) + (nI (b - (a + i)))) / (nI ((b - (a + i)) + (1)))))), (8, .int ((((qSp g a b k1 (qSum g a k1 (b + 1 - a)) i).2) + (nI (b - (a + i)))) / (nI ((b - (a + i)) + (1))))), (7, .int (nI (b - (a + i)))), (4, .int (qSum g a k1 (b + 1 - a))), (0, .ref (h0)), (1, .int (nI (a))), (2, .int (nI (b))), (3, .int (nI (k1)))]) hx hb dX2_spread_85 hl (k := 3) rfl (show nI (a + i) + Int32.ofInt 1 = _ from nI_add (a + i) 1) (by decide) rfl (fun ls hl => ?_)
          refine lv_goto (tgt := 37) hx hb dX2_spread_88 (by decide) ?_
          exact ih (i + 1) (by omega) _ _ hP hD hS ls (lv_sub hl [0, 1, 4, 5, 6, 7, 8] rfl)
      exact hL_37 (b + 1 - a) (0) (by omega) _ _ hP hD hS ls (lv_sub hl [0, 1, 2, 3, 4, 5, 6] rfl)
    | succ n ih =>
      intro i hi H locs hP hD hS ls hl
      refine lv_iload hx hb dX2_spread_6 (lv_at hl 0 rfl) ?_
      refine lv_iload_n hx hb dX2_spread_8 rfl (lv_at hl 4 rfl) ?_
      refine z_icmp_gt (tgt := 30) hx hb (a + i) (b) dX2_spread_9 (by decide) (by omega) (by omega) rfl rfl (fun c_9 => absurd c_9 (by omega)) (fun c_9 => ?_)
      refine lv_iload hx hb dX2_spread_12 (lv_at hl 1 rfl) ?_
      refine lv_aload_n hx hb dX2_spread_14 rfl (lv_at hl 2 rfl) ?_
      refine lv_iload hx hb dX2_spread_15 (lv_at hl 0 rfl) ?_
      refine lv_iload_n hx hb dX2_spread_17 rfl (lv_at hl 5 rfl) ?_
      refine z_ci (z_vrun (rest := [.int (qSum g a k1 i)]) (own := RX2) (As := [.int (nI (a + i)), .int (nI (k1))]) hx hb hml hown hts hl.1 hK hP [0, 1] rfl (metX2_many l D ac h0 g0 g (a + i) k1 (by omega) (by omega)) gX2_spread_X2_many rfl 2 (by decide +kernel) ⟨rfl, rfl, Nat.le_of_ble_eq_true rfl, Nat.le_of_ble_eq_true rfl⟩ 0 2 rfl rfl rfl rfl rfl (Nat.le_of_ble_eq_true rfl) dX2_spread_18 ⟨Nat.zero_le _, Nat.zero_le _⟩) ?_
      refine lv_iadd hx hb dX2_spread_21 ?_
      refine lv_istore (lv' := [(4, .int ((qSum g a k1 i) + (g (4 * (a + i) + k1)))), (5, .int (nI (a + i))), (0, .ref (h0)), (1, .int (nI (a))), (2, .int (nI (b))), (3, .int (nI (k1)))]) hx hb dX2_spread_22 hl (by decide) rfl (fun ls hl => ?_)
      refine lv_iinc (v := nI ((a + i) + 1)) (lv' := [(5, .int (nI ((a + i) + 1))), (4, .int ((qSum g a k1 i) + (g (4 * (a + i) + k1)))), (0, .ref (h0)), (1, .int (nI (a))), (2, .int (nI (b))), (3, .int (nI (k1)))]) hx hb dX2_spread_24 hl (k := 1) rfl (show nI (a + i) + Int32.ofInt 1 = _ from nI_add (a + i) 1) (by decide) rfl (fun ls hl => ?_)
      refine lv_goto (tgt := 6) hx hb dX2_spread_27 (by decide) ?_
      exact ih (i + 1) (by omega) _ _ hP hD hS ls (lv_sub hl [0, 1, 2, 3, 4, 5] rfl)
  exact hL_6 (b + 1 - a) (0) (by omega) _ _ hP hD hS ls (lv_sub hl [0, 1, 2, 3, 4, 5] rfl)

set_option maxRecDepth 100000 in
set_option maxHeartbeats 4000000 in
theorem metX2_pourInto (l : Launch) (D : va_G) (ac : Nat → ClassId) (sz : Nat) (h0 : Nat) (g0 : Nat) (g : Nat → Int32) (h2 : Nat) (o0 : Nat) (o : Nat → Int32) (x : Int32) (t : Nat) (hx1 : x = nI t - 1) (ht : t ≤ 12) : Met l yX2_pourInto wsX2_pourInto ({ frames := 1, cells := 0, slots := 0, locals := 23 } : Room) (va_Pc [.ref (h0), .ref (h2), .int (x)] (zS D ac [(h0, .inr (2, [.ref (g0)])), (g0, .inl (ac 0, 48, .inl (g))), (h2, .inr (2, [.ref (o0)])), (o0, .inl (ac 0, 48, .inl (o)))] sz)) (zQv D ac [(h0, .inr (2, [.ref (g0)])), (g0, .inl (ac 0, 48, .inl (g))), (h2, .inr (2, [.ref (o0)])), (o0, .inl (ac 0, 48, .inl (o)))] [(h0, .inr (2, [.ref (g0)])), (g0, .inl (ac 0, 48, .inl ((qOver g o t).1))), (h2, .inr (2, [.ref (o0)])), (o0, .inl (ac 0, 48, .inl ((qOver g o t).2)))] sz) 0 0 (va_A [(h0, .inr (2, [.ref (g0)])), (g0, .inl (ac 0, 48, .inl (g))), (h2, .inr (2, [.ref (o0)])), (o0, .inl (ac 0, 48, .inl (o)))] sz) := by
  refine z_rw (cc := cX2_pourInto) (maxL := 6) (ret := none) (lv := [(0, .ref (h0)), (1, .ref (h2)), (2, .int (x))]) (by decide) rfl (Nat.le_of_ble_eq_true rfl) rfl ?_
  intro p e s m args below meth c ls A hx hb hr hml hown hts hlocks hl hK hP hsz hAe hA hD hS
  refine lv_iconst (v := 0) hx hb dX2_pourInto_0 (by decide) ?_
  refine lv_istore_n (lv' := [(3, .int (0)), (0, .ref (h0)), (1, .ref (h2)), (2, .int (x))]) hx hb dX2_pourInto_1 rfl hl (by decide) rfl (fun ls hl => ?_)
  have hL_2 : ∀ (n : Nat) (i : Nat), (i + n = t) → ∀ (H : Heap) (locs : List Loc), va_P D vwCl [(h0, .inr (2, [.ref (g0)])), (g0, .inl (ac 0, 48, .inl ((qOver g o i).1))), (h2, .inr (2, [.ref (o0)])), (o0, .inl (ac 0, 48, .inl ((qOver g o i).2)))] H → va_D A [(h0, .inr (2, [.ref (g0)])), (g0, .inl (ac 0, 48, .inl ((qOver g o i).1))), (h2, .inr (2, [.ref (o0)])), (o0, .inl (ac 0, 48, .inl ((qOver g o i).2)))] → va_S A s.heap H locs → ∀ (ls : Array Slot), lv_has ls 6 [(3, .int (nI (i))), (0, .ref (h0)), (1, .ref (h2)), (2, .int (x))] → W p l e ({ frames := 1, cells := 0, slots := 0, locals := 23 } : Room) s m args below meth c H locs 0 0 (MQ below (zQv D ac [(h0, .inr (2, [.ref (g0)])), (g0, .inl (ac 0, 48, .inl (g))), (h2, .inr (2, [.ref (o0)])), (o0, .inl (ac 0, 48, .inl (o)))] [(h0, .inr (2, [.ref (g0)])), (g0, .inl (ac 0, 48, .inl ((qOver g o t).1))), (h2, .inr (2, [.ref (o0)])), (o0, .inl (ac 0, 48, .inl ((qOver g o t).2)))] sz) args s 0 0 A) (F0 m 2 ls []) := by
    intro n
    induction n with
    | zero =>
      intro i hi H locs hP hD hS ls hl
      have e_i : t = i := by omega
      subst e_i
      refine lv_iload_n hx hb dX2_pourInto_2 rfl (lv_at hl 0 rfl) ?_
      refine lv_iload_n hx hb dX2_pourInto_3 rfl (lv_at hl 3 rfl) ?_
      refine lv_icmp_gt (tgt := 56) hx hb dX2_pourInto_4 (by decide) (fun c_4 => ?_) (fun c_4 => absurd c_4 (fun q => q (by rw [hx1]; exact (z_ltm1 (by omega) (by omega)).mpr (by omega))))
      exact z_vretW hx hb hr hlocks hK hP hD hS hAe dX2_pourInto_56
    | succ n ih =>
      intro i hi H locs hP hD hS ls hl
      refine lv_iload_n hx hb dX2_pourInto_2 rfl (lv_at hl 0 rfl) ?_
      refine lv_iload_n hx hb dX2_pourInto_3 rfl (lv_at hl 3 rfl) ?_
      refine lv_icmp_gt (tgt := 56) hx hb dX2_pourInto_4 (by decide) (fun c_4 => absurd c_4 (by rw [hx1]; exact fun q => absurd ((z_ltm1 (by omega) (by omega)).mp q) (by omega))) (fun c_4 => ?_)
      refine lv_iconst (v := 0) hx hb dX2_pourInto_7 (by decide) ?_
      refine lv_istore (lv' := [(4, .int (0)), (3, .int (nI (i))), (0, .ref (h0)), (1, .ref (h2)), (2, .int (x))]) hx hb dX2_pourInto_8 hl (by decide) rfl (fun ls hl => ?_)
      have hL_10 : ∀ (n2 : Nat) (j : Nat), (j + n2 = 4) → ∀ (H : Heap) (locs : List Loc), va_P D vwCl [(h0, .inr (2, [.ref (g0)])), (g0, .inl (ac 0, 48, .inl ((qOv (qOver g o i).1 (qOver g o i).2 i j).1))), (h2, .inr (2, [.ref (o0)])), (o0, .inl (ac 0, 48, .inl ((qOv (qOver g o i).1 (qOver g o i).2 i j).2)))] H → va_D A [(h0, .inr (2, [.ref (g0)])), (g0, .inl (ac 0, 48, .inl ((qOv (qOver g o i).1 (qOver g o i).2 i j).1))), (h2, .inr (2, [.ref (o0)])), (o0, .inl (ac 0, 48, .inl ((qOv (qOver g o i).1 (qOver g o i).2 i j).2)))] → va_S A s.heap H locs → ∀ (ls : Array Slot), lv_has ls 6 [(4, .int (nI (j))), (3, .int (nI (i))), (0, .ref (h0)), (1, .ref (h2)), (2, .int (x))] → W p l e ({ frames := 1, cells := 0, slots := 0, locals := 23 } : Room) s m args below meth c H locs 0 0 (MQ below (zQv D ac [(h0, .inr (2, [.ref (g0)])), (g0, .inl (ac 0, 48, .inl (g))), (h2, .inr (2, [.ref (o0)])), (o0, .inl (ac 0, 48, .inl (o)))] [(h0, .inr (2, [.ref (g0)])), (g0, .inl (ac 0, 48, .inl ((qOver g o t).1))), (h2, .inr (2, [.ref (o0)])), (o0, .inl (ac 0, 48, .inl ((qOver g o t).2)))] sz) args s 0 0 A) (F0 m 10 ls []) := by
        intro n2
        induction n2 with
        | zero =>
          intro j hj H locs hP hD hS ls hl
          have e_j : 4 = j := by omega
          subst e_j
          refine lv_iload hx hb dX2_pourInto_10 (lv_at hl 0 rfl) ?_
          refine lv_iconst (v := 4) hx hb dX2_pourInto_12 (by decide) ?_
          refine z_icmp_ge (tgt := 50) hx hb (4) (4) dX2_pourInto_13 (by decide) (by omega) (by omega) rfl rfl (fun c_13 => ?_) (fun c_13 => absurd c_13 (by omega))
          refine lv_iinc (v := nI ((i) + 1)) (lv' := [(3, .int (nI ((i) + 1))), (4, .int (nI (4))), (0, .ref (h0)), (1, .ref (h2)), (2, .int (x))]) hx hb dX2_pourInto_50 hl (k := 1) rfl (show nI (i) + Int32.ofInt 1 = _ from nI_add (i) 1) (by decide) rfl (fun ls hl => ?_)
          refine lv_goto (tgt := 2) hx hb dX2_pourInto_53 (by decide) ?_
          exact ih (i + 1) (by omega) _ _ hP hD hS ls (lv_sub hl [0, 2, 3, 4] rfl)
        | succ n2 ih =>
          intro j hj H locs hP hD hS ls hl
          refine lv_iload hx hb dX2_pourInto_10 (lv_at hl 0 rfl) ?_
          refine lv_iconst (v := 4) hx hb dX2_pourInto_12 (by decide) ?_
          refine z_icmp_ge (tgt := 50) hx hb (j) (4) dX2_pourInto_13 (by decide) (by omega) (by omega) rfl rfl (fun c_13 => absurd c_13 (by omega)) (fun c_13 => ?_)
          refine lv_aload_n hx hb dX2_pourInto_16 rfl (lv_at hl 2 rfl) ?_
          refine lv_iload_n hx hb dX2_pourInto_17 rfl (lv_at hl 1 rfl) ?_
          refine lv_iload hx hb dX2_pourInto_18 (lv_at hl 0 rfl) ?_
          refine z_ci (z_vrun (rest := []) (own := RX2) (As := [.int (nI (i)), .int (nI (j))]) hx hb hml hown hts hl.1 hK hP [0, 1] rfl (metX2_many l D ac h0 g0 ((qOv (qOver g o i).1 (qOver g o i).2 i j).1) i j (by omega) (by omega)) gX2_pourInto_X2_many rfl 2 (by decide +kernel) ⟨rfl, rfl, Nat.le_of_ble_eq_true rfl, Nat.le_of_ble_eq_true rfl⟩ 0 2 rfl rfl rfl rfl rfl (Nat.le_of_ble_eq_true rfl) dX2_pourInto_20 ⟨Nat.zero_le _, Nat.zero_le _⟩) ?_
          refine lv_istore (lv' := [(5, .int (((qOv (qOver g o i).1 (qOver g o i).2 i j).1) (4 * i + j))), (4, .int (nI (j))), (3, .int (nI (i))), (0, .ref (h0)), (1, .ref (h2)), (2, .int (x))]) hx hb dX2_pourInto_23 hl (by decide) rfl (fun ls hl => ?_)
          refine lv_aload_n hx hb dX2_pourInto_25 rfl (lv_at hl 4 rfl) ?_
          refine lv_iload_n hx hb dX2_pourInto_26 rfl (lv_at hl 2 rfl) ?_
          refine lv_iload hx hb dX2_pourInto_27 (lv_at hl 1 rfl) ?_
          refine lv_iload hx hb dX2_pourInto_29 (lv_at hl 0 rfl) ?_
          refine z_cvW [(h0, .inr (2, [.ref (g0)])), (g0, .inl (ac 0, 48, .inl ((qOv (qOver g o i).1 (qOver g o i).2 i j).1))), (h2, .inr (2, [.ref (o0)])), (o0, .inl (ac 0, 48, .inl (qPut ((qOv (qOver g o i).1 (qOver g o i).2 i j).2) i j (((qOv (qOver g o i).1 (qOver g o i).2 i j).1) (4 * i + j)))))] (z_vrunW (rest := []) (own := RX2) (As := [.int (nI (i)), .int (nI (j)), .int (((qOv (qOver g o i).1 (qOver g o i).2 i j).1) (4 * i + j))]) hx hb hml hown hts hl.1 hK hP hD [2, 3] rfl (by decide) rfl (metX2_put l D ac _ h2 o0 ((qOv (qOver g o i).1 (qOver g o i).2 i j).2) i j (((qOv (qOver g o i).1 (qOver g o i).2 i j).1) (4 * i + j)) (by omega) (by omega)) gX2_pourInto_X2_put rfl 3 (by decide +kernel) ⟨rfl, rfl, Nat.le_of_ble_eq_true rfl, Nat.le_of_ble_eq_true rfl⟩ 2 2 rfl rfl rfl rfl rfl (Nat.le_of_ble_eq_true rfl) dX2_pourInto_31 ⟨Nat.zero_le _, Nat.zero_le _⟩) hP hD hS hA [2, 3] [0, 1] [0, 1, 2, 3] rfl rfl (by decide) (by decide) (by decide) rfl (fun H locs hP hD hS => ?_)
          refine lv_aload_n hx hb dX2_pourInto_34 rfl (lv_at hl 3 rfl) ?_
          refine lv_iload_n hx hb dX2_pourInto_35 rfl (lv_at hl 2 rfl) ?_
          refine lv_iload hx hb dX2_pourInto_36 (lv_at hl 1 rfl) ?_
          refine lv_iload hx hb dX2_pourInto_38 (lv_at hl 0 rfl) ?_
          refine lv_ineg hx hb dX2_pourInto_40 ?_
          refine z_cvW [(h0, .inr (2, [.ref (g0)])), (g0, .inl (ac 0, 48, .inl (qPut ((qOv (qOver g o i).1 (qOver g o i).2 i j).1) i j (-(((qOv (qOver g o i).1 (qOver g o i).2 i j).1) (4 * i + j)))))), (h2, .inr (2, [.ref (o0)])), (o0, .inl (ac 0, 48, .inl (qPut ((qOv (qOver g o i).1 (qOver g o i).2 i j).2) i j (((qOv (qOver g o i).1 (qOver g o i).2 i j).1) (4 * i + j)))))] (z_vrunW (rest := []) (own := RX2) (As := [.int (nI (i)), .int (nI (j)), .int (-(((qOv (qOver g o i).1 (qOver g o i).2 i j).1) (4 * i + j)))]) hx hb hml hown hts hl.1 hK hP hD [0, 1] rfl (by decide) rfl (metX2_put l D ac _ h0 g0 ((qOv (qOver g o i).1 (qOver g o i).2 i j).1) i j (-(((qOv (qOver g o i).1 (qOver g o i).2 i j).1) (4 * i + j))) (by omega) (by omega)) gX2_pourInto_X2_put rfl 3 (by decide +kernel) ⟨rfl, rfl, Nat.le_of_ble_eq_true rfl, Nat.le_of_ble_eq_true rfl⟩ 0 2 rfl rfl rfl rfl rfl (Nat.le_of_ble_eq_true rfl) dX2_pourInto_41 ⟨Nat.zero_le _, Nat.zero_le _⟩) hP hD hS hA [0, 1] [2, 3] [2, 3, 0, 1] rfl rfl (by decide) (by decide) (by decide) rfl (fun H locs hP hD hS => ?_)
          refine lv_iinc (v := nI ((j) + 1)) (lv' := [(4, .int (nI ((j) + 1))), (5, .int (((qOv (qOver g o i).1 (qOver g o i).2 i j).1) (4 * i + j))), (3, .int (nI (i))), (0, .ref (h0)), (1, .ref (h2)), (2, .int (x))]) hx hb dX2_pourInto_44 hl (k := 1) rfl (show nI (j) + Int32.ofInt 1 = _ from nI_add (j) 1) (by decide) rfl (fun ls hl => ?_)
          refine lv_goto (tgt := 10) hx hb dX2_pourInto_47 (by decide) ?_
          exact ih (j + 1) (by omega) _ _ hP hD hS ls (lv_sub hl [0, 2, 3, 4, 5] rfl)
      exact hL_10 (4) (0) (by omega) _ _ hP hD hS ls (lv_sub hl [0, 1, 2, 3, 4] rfl)
  exact hL_2 (t) (0) (by omega) _ _ hP hD hS ls (lv_sub hl [0, 1, 2, 3] rfl)

set_option maxRecDepth 100000 in
set_option maxHeartbeats 4000000 in
theorem metX2_turnOver (l : Launch) (D : va_G) (ac : Nat → ClassId) (sz : Nat) (h0 : Nat) (g0 : Nat) (g : Nat → Int32)  : Met l yX2_turnOver wsX2_turnOver ({ frames := 1, cells := 0, slots := 0, locals := 23 } : Room) (va_Pc [.ref (h0)] (zS D ac [(h0, .inr (2, [.ref (g0)])), (g0, .inl (ac 0, 48, .inl (g)))] sz)) (zQv D ac [(h0, .inr (2, [.ref (g0)])), (g0, .inl (ac 0, 48, .inl (g)))] [(h0, .inr (2, [.ref (g0)])), (g0, .inl (ac 0, 48, .inl (qTurn g 6)))] sz) 0 0 (va_A [(h0, .inr (2, [.ref (g0)])), (g0, .inl (ac 0, 48, .inl (g)))] sz) := by
  refine z_rw (cc := cX2_turnOver) (maxL := 4) (ret := none) (lv := [(0, .ref (h0))]) (by decide) rfl (Nat.le_of_ble_eq_true rfl) rfl ?_
  intro p e s m args below meth c ls A hx hb hr hml hown hts hlocks hl hK hP hsz hAe hA hD hS
  refine lv_iconst (v := 0) hx hb dX2_turnOver_0 (by decide) ?_
  refine lv_istore_n (lv' := [(1, .int (0)), (0, .ref (h0))]) hx hb dX2_turnOver_1 rfl hl (by decide) rfl (fun ls hl => ?_)
  have hL_2 : ∀ (n : Nat) (i : Nat), (i + n = 6) → ∀ (H : Heap) (locs : List Loc), va_P D vwCl [(h0, .inr (2, [.ref (g0)])), (g0, .inl (ac 0, 48, .inl (qTurn g i)))] H → va_D A [(h0, .inr (2, [.ref (g0)])), (g0, .inl (ac 0, 48, .inl (qTurn g i)))] → va_S A s.heap H locs → ∀ (ls : Array Slot), lv_has ls 4 [(1, .int (nI (i))), (0, .ref (h0))] → W p l e ({ frames := 1, cells := 0, slots := 0, locals := 23 } : Room) s m args below meth c H locs 0 0 (MQ below (zQv D ac [(h0, .inr (2, [.ref (g0)])), (g0, .inl (ac 0, 48, .inl (g)))] [(h0, .inr (2, [.ref (g0)])), (g0, .inl (ac 0, 48, .inl (qTurn g 6)))] sz) args s 0 0 A) (F0 m 2 ls []) := by
    intro n
    induction n with
    | zero =>
      intro i hi H locs hP hD hS ls hl
      have e_i : 6 = i := by omega
      subst e_i
      refine lv_iload_n hx hb dX2_turnOver_2 rfl (lv_at hl 0 rfl) ?_
      refine lv_bipush (v := 11) hx hb dX2_turnOver_3 (by decide) ?_
      refine lv_iload_n hx hb dX2_turnOver_5 rfl (lv_at hl 0 rfl) ?_
      refine lv_isub hx hb dX2_turnOver_6 ?_
      refine z_top (y := nI (5)) (pk_sub (a := 11) (b := 6) (by omega)) ?_
      refine z_icmp_ge (tgt := 64) hx hb (6) (5) dX2_turnOver_7 (by decide) (by omega) (by omega) rfl rfl (fun c_7 => ?_) (fun c_7 => absurd c_7 (by omega))
      exact z_vretW hx hb hr hlocks hK hP hD hS hAe dX2_turnOver_64
    | succ n ih =>
      intro i hi H locs hP hD hS ls hl
      refine lv_iload_n hx hb dX2_turnOver_2 rfl (lv_at hl 0 rfl) ?_
      refine lv_bipush (v := 11) hx hb dX2_turnOver_3 (by decide) ?_
      refine lv_iload_n hx hb dX2_turnOver_5 rfl (lv_at hl 0 rfl) ?_
      refine lv_isub hx hb dX2_turnOver_6 ?_
      refine z_top (y := nI ((11) - (i))) (pk_sub (a := 11) (b := i) (by omega)) ?_
      refine z_icmp_ge (tgt := 64) hx hb (i) ((11) - (i)) dX2_turnOver_7 (by decide) (by omega) (by omega) rfl rfl (fun c_7 => absurd c_7 (by omega)) (fun c_7 => ?_)
      refine lv_iconst (v := 0) hx hb dX2_turnOver_10 (by decide) ?_
      refine lv_istore_n (lv' := [(2, .int (0)), (1, .int (nI (i))), (0, .ref (h0))]) hx hb dX2_turnOver_11 rfl hl (by decide) rfl (fun ls hl => ?_)
      have hL_12 : ∀ (n2 : Nat) (j : Nat), (j + n2 = 4) → ∀ (H : Heap) (locs : List Loc), va_P D vwCl [(h0, .inr (2, [.ref (g0)])), (g0, .inl (ac 0, 48, .inl (qTn (qTurn g i) i j)))] H → va_D A [(h0, .inr (2, [.ref (g0)])), (g0, .inl (ac 0, 48, .inl (qTn (qTurn g i) i j)))] → va_S A s.heap H locs → ∀ (ls : Array Slot), lv_has ls 4 [(2, .int (nI (j))), (1, .int (nI (i))), (0, .ref (h0))] → W p l e ({ frames := 1, cells := 0, slots := 0, locals := 23 } : Room) s m args below meth c H locs 0 0 (MQ below (zQv D ac [(h0, .inr (2, [.ref (g0)])), (g0, .inl (ac 0, 48, .inl (g)))] [(h0, .inr (2, [.ref (g0)])), (g0, .inl (ac 0, 48, .inl (qTurn g 6)))] sz) args s 0 0 A) (F0 m 12 ls []) := by
        intro n2
        induction n2 with
        | zero =>
          intro j hj H locs hP hD hS ls hl
          have e_j : 4 = j := by omega
          subst e_j
          refine lv_iload_n hx hb dX2_turnOver_12 rfl (lv_at hl 0 rfl) ?_
          refine lv_iconst (v := 4) hx hb dX2_turnOver_13 (by decide) ?_
          refine z_icmp_ge (tgt := 58) hx hb (4) (4) dX2_turnOver_14 (by decide) (by omega) (by omega) rfl rfl (fun c_14 => ?_) (fun c_14 => absurd c_14 (by omega))
          refine lv_iinc (v := nI ((i) + 1)) (lv' := [(1, .int (nI ((i) + 1))), (2, .int (nI (4))), (0, .ref (h0))]) hx hb dX2_turnOver_58 hl (k := 1) rfl (show nI (i) + Int32.ofInt 1 = _ from nI_add (i) 1) (by decide) rfl (fun ls hl => ?_)
          refine lv_goto (tgt := 2) hx hb dX2_turnOver_61 (by decide) ?_
          exact ih (i + 1) (by omega) _ _ hP hD hS ls (lv_sub hl [0, 2] rfl)
        | succ n2 ih =>
          intro j hj H locs hP hD hS ls hl
          refine lv_iload_n hx hb dX2_turnOver_12 rfl (lv_at hl 0 rfl) ?_
          refine lv_iconst (v := 4) hx hb dX2_turnOver_13 (by decide) ?_
          refine z_icmp_ge (tgt := 58) hx hb (j) (4) dX2_turnOver_14 (by decide) (by omega) (by omega) rfl rfl (fun c_14 => absurd c_14 (by omega)) (fun c_14 => ?_)
          refine lv_aload_n hx hb dX2_turnOver_17 rfl (lv_at hl 2 rfl) ?_
          refine lv_bipush (v := 11) hx hb dX2_turnOver_18 (by decide) ?_
          refine lv_iload_n hx hb dX2_turnOver_20 rfl (lv_at hl 1 rfl) ?_
          refine lv_isub hx hb dX2_turnOver_21 ?_
          refine z_top (y := nI ((11) - (i))) (pk_sub (a := 11) (b := i) (by omega)) ?_
          refine lv_iload_n hx hb dX2_turnOver_22 rfl (lv_at hl 0 rfl) ?_
          refine z_ci (z_vrun (rest := []) (own := RX2) (As := [.int (nI ((11) - (i))), .int (nI (j))]) hx hb hml hown hts hl.1 hK hP [0, 1] rfl (metX2_many l D ac h0 g0 (qTn (qTurn g i) i j) ((11) - (i)) j (by omega) (by omega)) gX2_turnOver_X2_many rfl 2 (by decide +kernel) ⟨rfl, rfl, Nat.le_of_ble_eq_true rfl, Nat.le_of_ble_eq_true rfl⟩ 0 2 rfl rfl rfl rfl rfl (Nat.le_of_ble_eq_true rfl) dX2_turnOver_23 ⟨Nat.zero_le _, Nat.zero_le _⟩) ?_
          refine lv_aload_n hx hb dX2_turnOver_26 rfl (lv_at hl 2 rfl) ?_
          refine lv_iload_n hx hb dX2_turnOver_27 rfl (lv_at hl 1 rfl) ?_
          refine lv_iload_n hx hb dX2_turnOver_28 rfl (lv_at hl 0 rfl) ?_
          refine z_ci (z_vrun (rest := [.int ((qTn (qTurn g i) i j) (4 * ((11) - (i)) + j))]) (own := RX2) (As := [.int (nI (i)), .int (nI (j))]) hx hb hml hown hts hl.1 hK hP [0, 1] rfl (metX2_many l D ac h0 g0 (qTn (qTurn g i) i j) i j (by omega) (by omega)) gX2_turnOver_X2_many rfl 2 (by decide +kernel) ⟨rfl, rfl, Nat.le_of_ble_eq_true rfl, Nat.le_of_ble_eq_true rfl⟩ 0 2 rfl rfl rfl rfl rfl (Nat.le_of_ble_eq_true rfl) dX2_turnOver_29 ⟨Nat.zero_le _, Nat.zero_le _⟩) ?_
          refine lv_isub hx hb dX2_turnOver_32 ?_
          refine lv_istore_n (lv' := [(3, .int (((qTn (qTurn g i) i j) (4 * ((11) - (i)) + j)) - ((qTn (qTurn g i) i j) (4 * i + j)))), (2, .int (nI (j))), (1, .int (nI (i))), (0, .ref (h0))]) hx hb dX2_turnOver_33 rfl hl (by decide) rfl (fun ls hl => ?_)
          refine lv_aload_n hx hb dX2_turnOver_34 rfl (lv_at hl 3 rfl) ?_
          refine lv_iload_n hx hb dX2_turnOver_35 rfl (lv_at hl 2 rfl) ?_
          refine lv_iload_n hx hb dX2_turnOver_36 rfl (lv_at hl 1 rfl) ?_
          refine lv_iload_n hx hb dX2_turnOver_37 rfl (lv_at hl 0 rfl) ?_
          refine z_cvW [(h0, .inr (2, [.ref (g0)])), (g0, .inl (ac 0, 48, .inl (qPut (qTn (qTurn g i) i j) i j (((qTn (qTurn g i) i j) (4 * ((11) - (i)) + j)) - ((qTn (qTurn g i) i j) (4 * i + j))))))] (z_vrunW (rest := []) (own := RX2) (As := [.int (nI (i)), .int (nI (j)), .int (((qTn (qTurn g i) i j) (4 * ((11) - (i)) + j)) - ((qTn (qTurn g i) i j) (4 * i + j)))]) hx hb hml hown hts hl.1 hK hP hD [0, 1] rfl (by decide) rfl (metX2_put l D ac _ h0 g0 (qTn (qTurn g i) i j) i j (((qTn (qTurn g i) i j) (4 * ((11) - (i)) + j)) - ((qTn (qTurn g i) i j) (4 * i + j))) (by omega) (by omega)) gX2_turnOver_X2_put rfl 3 (by decide +kernel) ⟨rfl, rfl, Nat.le_of_ble_eq_true rfl, Nat.le_of_ble_eq_true rfl⟩ 0 2 rfl rfl rfl rfl rfl (Nat.le_of_ble_eq_true rfl) dX2_turnOver_38 ⟨Nat.zero_le _, Nat.zero_le _⟩) hP hD hS hA [0, 1] [] [0, 1] rfl rfl (by decide) (by decide) (by decide) rfl (fun H locs hP hD hS => ?_)
          refine lv_aload_n hx hb dX2_turnOver_41 rfl (lv_at hl 3 rfl) ?_
          refine lv_bipush (v := 11) hx hb dX2_turnOver_42 (by decide) ?_
          refine lv_iload_n hx hb dX2_turnOver_44 rfl (lv_at hl 2 rfl) ?_
          refine lv_isub hx hb dX2_turnOver_45 ?_
          refine z_top (y := nI ((11) - (i))) (pk_sub (a := 11) (b := i) (by omega)) ?_
          refine lv_iload_n hx hb dX2_turnOver_46 rfl (lv_at hl 1 rfl) ?_
          refine lv_iload_n hx hb dX2_turnOver_47 rfl (lv_at hl 0 rfl) ?_
          refine lv_ineg hx hb dX2_turnOver_48 ?_
          refine z_cvW [(h0, .inr (2, [.ref (g0)])), (g0, .inl (ac 0, 48, .inl (qPut (qPut (qTn (qTurn g i) i j) i j (((qTn (qTurn g i) i j) (4 * ((11) - (i)) + j)) - ((qTn (qTurn g i) i j) (4 * i + j)))) ((11) - (i)) j (-(((qTn (qTurn g i) i j) (4 * ((11) - (i)) + j)) - ((qTn (qTurn g i) i j) (4 * i + j)))))))] (z_vrunW (rest := []) (own := RX2) (As := [.int (nI ((11) - (i))), .int (nI (j)), .int (-(((qTn (qTurn g i) i j) (4 * ((11) - (i)) + j)) - ((qTn (qTurn g i) i j) (4 * i + j))))]) hx hb hml hown hts hl.1 hK hP hD [0, 1] rfl (by decide) rfl (metX2_put l D ac _ h0 g0 (qPut (qTn (qTurn g i) i j) i j (((qTn (qTurn g i) i j) (4 * ((11) - (i)) + j)) - ((qTn (qTurn g i) i j) (4 * i + j)))) ((11) - (i)) j (-(((qTn (qTurn g i) i j) (4 * ((11) - (i)) + j)) - ((qTn (qTurn g i) i j) (4 * i + j)))) (by omega) (by omega)) gX2_turnOver_X2_put rfl 3 (by decide +kernel) ⟨rfl, rfl, Nat.le_of_ble_eq_true rfl, Nat.le_of_ble_eq_true rfl⟩ 0 2 rfl rfl rfl rfl rfl (Nat.le_of_ble_eq_true rfl) dX2_turnOver_49 ⟨Nat.zero_le _, Nat.zero_le _⟩) hP hD hS hA [0, 1] [] [0, 1] rfl rfl (by decide) (by decide) (by decide) rfl (fun H locs hP hD hS => ?_)
          refine lv_iinc (v := nI ((j) + 1)) (lv' := [(2, .int (nI ((j) + 1))), (3, .int (((qTn (qTurn g i) i j) (4 * ((11) - (i)) + j)) - ((qTn (qTurn g i) i j) (4 * i + j)))), (1, .int (nI (i))), (0, .ref (h0))]) hx hb dX2_turnOver_52 hl (k := 1) rfl (show nI (j) + Int32.ofInt 1 = _ from nI_add (j) 1) (by decide) rfl (fun ls hl => ?_)
          refine lv_goto (tgt := 12) hx hb dX2_turnOver_55 (by decide) ?_
          exact ih (j + 1) (by omega) _ _ hP hD hS ls (lv_sub hl [0, 2, 3] rfl)
      exact hL_12 (4) (0) (by omega) _ _ hP hD hS ls (lv_sub hl [0, 1, 2] rfl)
  exact hL_2 (6) (0) (by omega) _ _ hP hD hS ls (lv_sub hl [0, 1] rfl)

set_option maxRecDepth 100000 in
set_option maxHeartbeats 4000000 in
theorem metX2_fallFrom (l : Launch) (D : va_G) (ac : Nat → ClassId) (sz : Nat) (h0 : Nat) (g0 : Nat) (g : Nat → Int32) (h1 : Nat) (v0 : Nat) (w0 : Nat) (v : Nat → Int32) (w : Nat → Int32) (s1 : Nat) (hs : s1 < 11) : Met l yX2_fallFrom wsX2_fallFrom ({ frames := 2, cells := 0, slots := 0, locals := 45 } : Room) (va_Pc [.ref (h0), .int (nI (s1)), .ref (h1)] (zS D ac [(h0, .inr (2, [.ref (g0)])), (g0, .inl (ac 0, 48, .inl (g))), (h1, .inr (3, [.ref (v0), .ref (w0)])), (v0, .inl (ac 0, 4, .inl (v))), (w0, .inl (ac 0, 4, .inl (w)))] sz)) (zQi D ac [(h0, .inr (2, [.ref (g0)])), (g0, .inl (ac 0, 48, .inl (g))), (h1, .inr (3, [.ref (v0), .ref (w0)])), (v0, .inl (ac 0, 4, .inl (v))), (w0, .inl (ac 0, 4, .inl (w)))] [(h0, .inr (2, [.ref (g0)])), (g0, .inl (ac 0, 48, .inl ((qFall g v w s1).1))), (h1, .inr (3, [.ref (v0), .ref (w0)])), (v0, .inl (ac 0, 4, .inl (v))), (w0, .inl (ac 0, 4, .inl (w)))] sz ((qFall g v w s1).2)) 0 0 (va_A [(h0, .inr (2, [.ref (g0)])), (g0, .inl (ac 0, 48, .inl (g))), (h1, .inr (3, [.ref (v0), .ref (w0)])), (v0, .inl (ac 0, 4, .inl (v))), (w0, .inl (ac 0, 4, .inl (w)))] sz) := by
  refine z_rw (cc := cX2_fallFrom) (maxL := 9) (ret := (some .int)) (lv := [(0, .ref (h0)), (1, .int (nI (s1))), (2, .ref (h1))]) (by decide) rfl (Nat.le_of_ble_eq_true rfl) rfl ?_
  intro p e s m args below meth c ls A hx hb hr hml hown hts hlocks hl hK hP hsz hAe hA hD hS
  refine lv_aload_n hx hb dX2_fallFrom_0 rfl (lv_at hl 2 rfl) ?_
  refine lv_aload_n hx hb dX2_fallFrom_1 rfl (lv_at hl 0 rfl) ?_
  refine lv_iload_n hx hb dX2_fallFrom_2 rfl (lv_at hl 1 rfl) ?_
  refine z_ci (z_vrun (rest := [.ref (h1)]) (own := RX2) (As := [.int (nI (s1))]) hx hb hml hown hts hl.1 hK hP [0, 1] rfl (metX2_allIn l D ac h0 g0 g s1 (by omega)) gX2_fallFrom_X2_allIn rfl 1 (by decide +kernel) ⟨rfl, rfl, Nat.le_of_ble_eq_true rfl, Nat.le_of_ble_eq_true rfl⟩ 0 2 rfl rfl rfl rfl rfl (Nat.le_of_ble_eq_true rfl) dX2_fallFrom_3 ⟨Nat.zero_le _, Nat.zero_le _⟩) ?_
  refine z_ci (z_vrun (rest := []) (own := RX2) (As := [.int (qIn g s1)]) hx hb hml hown hts hl.1 hK hP [2, 3, 4] rfl (metX3_factorOf l D ac h1 v0 w0 v w (qIn g s1) ) gX2_fallFrom_X3_factorOf rfl 1 (by decide +kernel) ⟨rfl, rfl, Nat.le_of_ble_eq_true rfl, Nat.le_of_ble_eq_true rfl⟩ 2 3 rfl rfl rfl rfl rfl (Nat.le_of_ble_eq_true rfl) dX2_fallFrom_6 ⟨Nat.zero_le _, Nat.zero_le _⟩) ?_
  refine lv_istore_n (lv' := [(3, .int (qFac (v 0) (qIn g s1))), (0, .ref (h0)), (1, .int (nI (s1))), (2, .ref (h1))]) hx hb dX2_fallFrom_9 rfl hl (by decide) rfl (fun ls hl => ?_)
  refine lv_aload_n hx hb dX2_fallFrom_10 rfl (lv_at hl 3 rfl) ?_
  refine lv_aload_n hx hb dX2_fallFrom_11 rfl (lv_at hl 1 rfl) ?_
  refine lv_iload_n hx hb dX2_fallFrom_12 rfl (lv_at hl 2 rfl) ?_
  refine lv_iconst (v := 1) hx hb dX2_fallFrom_13 (by decide) ?_
  refine lv_iadd hx hb dX2_fallFrom_14 ?_
  refine z_top (y := nI ((s1) + (1))) (nI_add (s1) (1)) ?_
  refine z_ci (z_vrun (rest := [.ref (h1)]) (own := RX2) (As := [.int (nI ((s1) + (1)))]) hx hb hml hown hts hl.1 hK hP [0, 1] rfl (metX2_allIn l D ac h0 g0 g ((s1) + (1)) (by omega)) gX2_fallFrom_X2_allIn rfl 1 (by decide +kernel) ⟨rfl, rfl, Nat.le_of_ble_eq_true rfl, Nat.le_of_ble_eq_true rfl⟩ 0 2 rfl rfl rfl rfl rfl (Nat.le_of_ble_eq_true rfl) dX2_fallFrom_15 ⟨Nat.zero_le _, Nat.zero_le _⟩) ?_
  refine z_ci (z_vrun (rest := []) (own := RX2) (As := [.int (qIn g ((s1) + (1)))]) hx hb hml hown hts hl.1 hK hP [2, 3, 4] rfl (metX3_roomOver l D ac h1 v0 w0 v w (qIn g ((s1) + (1))) ) gX2_fallFrom_X3_roomOver rfl 1 (by decide +kernel) ⟨rfl, rfl, Nat.le_of_ble_eq_true rfl, Nat.le_of_ble_eq_true rfl⟩ 2 3 rfl rfl rfl rfl rfl (Nat.le_of_ble_eq_true rfl) dX2_fallFrom_18 ⟨Nat.zero_le _, Nat.zero_le _⟩) ?_
  refine lv_istore (lv' := [(4, .int (qRoom (v 1) (qIn g ((s1) + (1))))), (3, .int (qFac (v 0) (qIn g s1))), (0, .ref (h0)), (1, .int (nI (s1))), (2, .ref (h1))]) hx hb dX2_fallFrom_21 hl (by decide) rfl (fun ls hl => ?_)
  refine lv_iconst (v := 0) hx hb dX2_fallFrom_23 (by decide) ?_
  refine lv_istore (lv' := [(5, .int (0)), (4, .int (qRoom (v 1) (qIn g ((s1) + (1))))), (3, .int (qFac (v 0) (qIn g s1))), (0, .ref (h0)), (1, .int (nI (s1))), (2, .ref (h1))]) hx hb dX2_fallFrom_24 hl (by decide) rfl (fun ls hl => ?_)
  refine lv_iconst (v := 0) hx hb dX2_fallFrom_26 (by decide) ?_
  refine lv_istore (lv' := [(6, .int (0)), (5, .int (0)), (4, .int (qRoom (v 1) (qIn g ((s1) + (1))))), (3, .int (qFac (v 0) (qIn g s1))), (0, .ref (h0)), (1, .int (nI (s1))), (2, .ref (h1))]) hx hb dX2_fallFrom_27 hl (by decide) rfl (fun ls hl => ?_)
  have hL_29 : ∀ (n : Nat) (i : Nat), (i + n = 4) → ∀ (H : Heap) (locs : List Loc), va_P D vwCl [(h0, .inr (2, [.ref (g0)])), (g0, .inl (ac 0, 48, .inl ((qFa g v w s1 i).1))), (h1, .inr (3, [.ref (v0), .ref (w0)])), (v0, .inl (ac 0, 4, .inl (v))), (w0, .inl (ac 0, 4, .inl (w)))] H → va_D A [(h0, .inr (2, [.ref (g0)])), (g0, .inl (ac 0, 48, .inl ((qFa g v w s1 i).1))), (h1, .inr (3, [.ref (v0), .ref (w0)])), (v0, .inl (ac 0, 4, .inl (v))), (w0, .inl (ac 0, 4, .inl (w)))] → va_S A s.heap H locs → ∀ (ls : Array Slot), lv_has ls 9 [(6, .int (nI (i))), (5, .int ((qFa g v w s1 i).2)), (4, .int (qRoom (v 1) (qIn g ((s1) + (1))))), (3, .int (qFac (v 0) (qIn g s1))), (0, .ref (h0)), (1, .int (nI (s1))), (2, .ref (h1))] → W p l e ({ frames := 2, cells := 0, slots := 0, locals := 45 } : Room) s m args below meth c H locs 0 0 (MQ below (zQi D ac [(h0, .inr (2, [.ref (g0)])), (g0, .inl (ac 0, 48, .inl (g))), (h1, .inr (3, [.ref (v0), .ref (w0)])), (v0, .inl (ac 0, 4, .inl (v))), (w0, .inl (ac 0, 4, .inl (w)))] [(h0, .inr (2, [.ref (g0)])), (g0, .inl (ac 0, 48, .inl ((qFall g v w s1).1))), (h1, .inr (3, [.ref (v0), .ref (w0)])), (v0, .inl (ac 0, 4, .inl (v))), (w0, .inl (ac 0, 4, .inl (w)))] sz ((qFall g v w s1).2)) args s 0 0 A) (F0 m 29 ls []) := by
    intro n
    induction n with
    | zero =>
      intro i hi H locs hP hD hS ls hl
      have e_i : 4 = i := by omega
      subst e_i
      refine lv_iload hx hb dX2_fallFrom_29 (lv_at hl 0 rfl) ?_
      refine lv_iconst (v := 4) hx hb dX2_fallFrom_31 (by decide) ?_
      refine z_icmp_ge (tgt := 97) hx hb (4) (4) dX2_fallFrom_32 (by decide) (by omega) (by omega) rfl rfl (fun c_32 => ?_) (fun c_32 => absurd c_32 (by omega))
      refine lv_iload hx hb dX2_fallFrom_97 (lv_at hl 1 rfl) ?_
      exact z_iretW hx hb hr hlocks hK hP hD hS hAe (rfl) dX2_fallFrom_99
    | succ n ih =>
      intro i hi H locs hP hD hS ls hl
      refine lv_iload hx hb dX2_fallFrom_29 (lv_at hl 0 rfl) ?_
      refine lv_iconst (v := 4) hx hb dX2_fallFrom_31 (by decide) ?_
      refine z_icmp_ge (tgt := 97) hx hb (i) (4) dX2_fallFrom_32 (by decide) (by omega) (by omega) rfl rfl (fun c_32 => absurd c_32 (by omega)) (fun c_32 => ?_)
      refine lv_aload_n hx hb dX2_fallFrom_35 rfl (lv_at hl 6 rfl) ?_
      refine lv_iload hx hb dX2_fallFrom_36 (lv_at hl 0 rfl) ?_
      refine lv_aload_n hx hb dX2_fallFrom_38 rfl (lv_at hl 4 rfl) ?_
      refine lv_iload_n hx hb dX2_fallFrom_39 rfl (lv_at hl 5 rfl) ?_
      refine lv_iload hx hb dX2_fallFrom_40 (lv_at hl 0 rfl) ?_
      refine z_ci (z_vrun (rest := [.int (nI (i)), .ref (h1)]) (own := RX2) (As := [.int (nI (s1)), .int (nI (i))]) hx hb hml hown hts hl.1 hK hP [0, 1] rfl (metX2_many l D ac h0 g0 ((qFa g v w s1 i).1) s1 i (by omega) (by omega)) gX2_fallFrom_X2_many rfl 2 (by decide +kernel) ⟨rfl, rfl, Nat.le_of_ble_eq_true rfl, Nat.le_of_ble_eq_true rfl⟩ 0 2 rfl rfl rfl rfl rfl (Nat.le_of_ble_eq_true rfl) dX2_fallFrom_42 ⟨Nat.zero_le _, Nat.zero_le _⟩) ?_
      refine lv_iload_n hx hb dX2_fallFrom_45 rfl (lv_at hl 3 rfl) ?_
      refine z_ci (z_vrun (rest := []) (own := RX2) (As := [.int (nI (i)), .int (((qFa g v w s1 i).1) (4 * s1 + i)), .int (qFac (v 0) (qIn g s1))]) hx hb hml hown hts hl.1 hK hP [2, 3, 4] rfl (metX3_wantingToFall l D ac h1 v0 w0 v w i (((qFa g v w s1 i).1) (4 * s1 + i)) (qFac (v 0) (qIn g s1)) (by omega)) gX2_fallFrom_X3_wantingToFall rfl 3 (by decide +kernel) ⟨rfl, rfl, Nat.le_of_ble_eq_true rfl, Nat.le_of_ble_eq_true rfl⟩ 2 3 rfl rfl rfl rfl rfl (Nat.le_of_ble_eq_true rfl) dX2_fallFrom_46 ⟨Nat.zero_le _, Nat.zero_le _⟩) ?_
      refine lv_istore (lv' := [(7, .int (qWant (w i) (v 3) (((qFa g v w s1 i).1) (4 * s1 + i)) (qFac (v 0) (qIn g s1)))), (6, .int (nI (i))), (5, .int ((qFa g v w s1 i).2)), (4, .int (qRoom (v 1) (qIn g ((s1) + (1))))), (3, .int (qFac (v 0) (qIn g s1))), (0, .ref (h0)), (1, .int (nI (s1))), (2, .ref (h1))]) hx hb dX2_fallFrom_49 hl (by decide) rfl (fun ls hl => ?_)
      refine lv_iload hx hb dX2_fallFrom_51 (lv_at hl 0 rfl) ?_
      refine lv_iload hx hb dX2_fallFrom_53 (lv_at hl 3 rfl) ?_
      refine lv_iload hx hb dX2_fallFrom_55 (lv_at hl 2 rfl) ?_
      refine lv_isub hx hb dX2_fallFrom_57 ?_
      refine va_mmin hx hb (by rw [hml]; exact hl.1.symm) hown (hts (.methodLink RX2 56 Lib.Math.min.name) (by decide +kernel)) (hts (.static Lib.Math.min.name) (by decide +kernel)) (hts (.initialized "java/lang/Math") (by decide +kernel)) (hts (.code Lib.Math.min.name Lib.Math.min.code 2 (some .int)) (by decide +kernel)) (Nat.le_of_ble_eq_true rfl) (Nat.le_of_ble_eq_true rfl) (Nat.zero_le _) (Nat.zero_le _) dX2_fallFrom_58 ?_
      refine lv_istore (lv' := [(8, .int (if ((qRoom (v 1) (qIn g ((s1) + (1)))) - ((qFa g v w s1 i).2)) < (qWant (w i) (v 3) (((qFa g v w s1 i).1) (4 * s1 + i)) (qFac (v 0) (qIn g s1))) then ((qRoom (v 1) (qIn g ((s1) + (1)))) - ((qFa g v w s1 i).2)) else (qWant (w i) (v 3) (((qFa g v w s1 i).1) (4 * s1 + i)) (qFac (v 0) (qIn g s1))))), (7, .int (qWant (w i) (v 3) (((qFa g v w s1 i).1) (4 * s1 + i)) (qFac (v 0) (qIn g s1)))), (6, .int (nI (i))), (5, .int ((qFa g v w s1 i).2)), (4, .int (qRoom (v 1) (qIn g ((s1) + (1))))), (3, .int (qFac (v 0) (qIn g s1))), (0, .ref (h0)), (1, .int (nI (s1))), (2, .ref (h1))]) hx hb dX2_fallFrom_61 hl (by decide) rfl (fun ls hl => ?_)
      refine lv_aload_n hx hb dX2_fallFrom_63 rfl (lv_at hl 6 rfl) ?_
      refine lv_iload_n hx hb dX2_fallFrom_64 rfl (lv_at hl 7 rfl) ?_
      refine lv_iload hx hb dX2_fallFrom_65 (lv_at hl 2 rfl) ?_
      refine lv_iload hx hb dX2_fallFrom_67 (lv_at hl 0 rfl) ?_
      refine lv_ineg hx hb dX2_fallFrom_69 ?_
      refine z_cvW [(h0, .inr (2, [.ref (g0)])), (g0, .inl (ac 0, 48, .inl (qPut ((qFa g v w s1 i).1) s1 i (-(if ((qRoom (v 1) (qIn g ((s1) + (1)))) - ((qFa g v w s1 i).2)) < (qWant (w i) (v 3) (((qFa g v w s1 i).1) (4 * s1 + i)) (qFac (v 0) (qIn g s1))) then ((qRoom (v 1) (qIn g ((s1) + (1)))) - ((qFa g v w s1 i).2)) else (qWant (w i) (v 3) (((qFa g v w s1 i).1) (4 * s1 + i)) (qFac (v 0) (qIn g s1)))))))), (h1, .inr (3, [.ref (v0), .ref (w0)])), (v0, .inl (ac 0, 4, .inl (v))), (w0, .inl (ac 0, 4, .inl (w)))] (z_vrunW (rest := []) (own := RX2) (As := [.int (nI (s1)), .int (nI (i)), .int (-(if ((qRoom (v 1) (qIn g ((s1) + (1)))) - ((qFa g v w s1 i).2)) < (qWant (w i) (v 3) (((qFa g v w s1 i).1) (4 * s1 + i)) (qFac (v 0) (qIn g s1))) then ((qRoom (v 1) (qIn g ((s1) + (1)))) - ((qFa g v w s1 i).2)) else (qWant (w i) (v 3) (((qFa g v w s1 i).1) (4 * s1 + i)) (qFac (v 0) (qIn g s1)))))]) hx hb hml hown hts hl.1 hK hP hD [0, 1] rfl (by decide) rfl (metX2_put l D ac _ h0 g0 ((qFa g v w s1 i).1) s1 i (-(if ((qRoom (v 1) (qIn g ((s1) + (1)))) - ((qFa g v w s1 i).2)) < (qWant (w i) (v 3) (((qFa g v w s1 i).1) (4 * s1 + i)) (qFac (v 0) (qIn g s1))) then ((qRoom (v 1) (qIn g ((s1) + (1)))) - ((qFa g v w s1 i).2)) else (qWant (w i) (v 3) (((qFa g v w s1 i).1) (4 * s1 + i)) (qFac (v 0) (qIn g s1))))) (by omega) (by omega)) gX2_fallFrom_X2_put rfl 3 (by decide +kernel) ⟨rfl, rfl, Nat.le_of_ble_eq_true rfl, Nat.le_of_ble_eq_true rfl⟩ 0 2 rfl rfl rfl rfl rfl (Nat.le_of_ble_eq_true rfl) dX2_fallFrom_70 ⟨Nat.zero_le _, Nat.zero_le _⟩) hP hD hS hA [0, 1] [2, 3, 4] [3, 4, 0, 1, 2] rfl rfl (by decide) (by decide) (by decide) rfl (fun H locs hP hD hS => ?_)
      refine lv_aload_n hx hb dX2_fallFrom_73 rfl (lv_at hl 6 rfl) ?_
      refine lv_iload_n hx hb dX2_fallFrom_74 rfl (lv_at hl 7 rfl) ?_
      refine lv_iconst (v := 1) hx hb dX2_fallFrom_75 (by decide) ?_
      refine lv_iadd hx hb dX2_fallFrom_76 ?_
      refine z_top (y := nI ((s1) + (1))) (nI_add (s1) (1)) ?_
      refine lv_iload hx hb dX2_fallFrom_77 (lv_at hl 2 rfl) ?_
      refine lv_iload hx hb dX2_fallFrom_79 (lv_at hl 0 rfl) ?_
      refine z_cvW [(h0, .inr (2, [.ref (g0)])), (g0, .inl (ac 0, 48, .inl (qPut (qPut ((qFa g v w s1 i).1) s1 i (-(if ((qRoom (v 1) (qIn g ((s1) + (1)))) - ((qFa g v w s1 i).2)) < (qWant (w i) (v 3) (((qFa g v w s1 i).1) (4 * s1 + i)) (qFac (v 0) (qIn g s1))) then ((qRoom (v 1) (qIn g ((s1) + (1)))) - ((qFa g v w s1 i).2)) else (qWant (w i) (v 3) (((qFa g v w s1 i).1) (4 * s1 + i)) (qFac (v 0) (qIn g s1)))))) ((s1) + (1)) i (if ((qRoom (v 1) (qIn g ((s1) + (1)))) - ((qFa g v w s1 i).2)) < (qWant (w i) (v 3) (((qFa g v w s1 i).1) (4 * s1 + i)) (qFac (v 0) (qIn g s1))) then ((qRoom (v 1) (qIn g ((s1) + (1)))) - ((qFa g v w s1 i).2)) else (qWant (w i) (v 3) (((qFa g v w s1 i).1) (4 * s1 + i)) (qFac (v 0) (qIn g s1))))))), (h1, .inr (3, [.ref (v0), .ref (w0)])), (v0, .inl (ac 0, 4, .inl (v))), (w0, .inl (ac 0, 4, .inl (w)))] (z_vrunW (rest := []) (own := RX2) (As := [.int (nI ((s1) + (1))), .int (nI (i)), .int (if ((qRoom (v 1) (qIn g ((s1) + (1)))) - ((qFa g v w s1 i).2)) < (qWant (w i) (v 3) (((qFa g v w s1 i).1) (4 * s1 + i)) (qFac (v 0) (qIn g s1))) then ((qRoom (v 1) (qIn g ((s1) + (1)))) - ((qFa g v w s1 i).2)) else (qWant (w i) (v 3) (((qFa g v w s1 i).1) (4 * s1 + i)) (qFac (v 0) (qIn g s1))))]) hx hb hml hown hts hl.1 hK hP hD [0, 1] rfl (by decide) rfl (metX2_put l D ac _ h0 g0 (qPut ((qFa g v w s1 i).1) s1 i (-(if ((qRoom (v 1) (qIn g ((s1) + (1)))) - ((qFa g v w s1 i).2)) < (qWant (w i) (v 3) (((qFa g v w s1 i).1) (4 * s1 + i)) (qFac (v 0) (qIn g s1))) then ((qRoom (v 1) (qIn g ((s1) + (1)))) - ((qFa g v w s1 i).2)) else (qWant (w i) (v 3) (((qFa g v w s1 i).1) (4 * s1 + i)) (qFac (v 0) (qIn g s1)))))) ((s1) + (1)) i (if ((qRoom (v 1) (qIn g ((s1) + (1)))) - ((qFa g v w s1 i).2)) < (qWant (w i) (v 3) (((qFa g v w s1 i).1) (4 * s1 + i)) (qFac (v 0) (qIn g s1))) then ((qRoom (v 1) (qIn g ((s1) + (1)))) - ((qFa g v w s1 i).2)) else (qWant (w i) (v 3) (((qFa g v w s1 i).1) (4 * s1 + i)) (qFac (v 0) (qIn g s1)))) (by omega) (by omega)) gX2_fallFrom_X2_put rfl 3 (by decide +kernel) ⟨rfl, rfl, Nat.le_of_ble_eq_true rfl, Nat.le_of_ble_eq_true rfl⟩ 0 2 rfl rfl rfl rfl rfl (Nat.le_of_ble_eq_true rfl) dX2_fallFrom_81 ⟨Nat.zero_le _, Nat.zero_le _⟩) hP hD hS hA [0, 1] [2, 3, 4] [3, 4, 0, 1, 2] rfl rfl (by decide) (by decide) (by decide) rfl (fun H locs hP hD hS => ?_)
      refine lv_iload hx hb dX2_fallFrom_84 (lv_at hl 3 rfl) ?_
      refine lv_iload hx hb dX2_fallFrom_86 (lv_at hl 0 rfl) ?_
      refine lv_iadd hx hb dX2_fallFrom_88 ?_
      refine lv_istore (lv' := [(5, .int (((qFa g v w s1 i).2) + (if ((qRoom (v 1) (qIn g ((s1) + (1)))) - ((qFa g v w s1 i).2)) < (qWant (w i) (v 3) (((qFa g v w s1 i).1) (4 * s1 + i)) (qFac (v 0) (qIn g s1))) then ((qRoom (v 1) (qIn g ((s1) + (1)))) - ((qFa g v w s1 i).2)) else (qWant (w i) (v 3) (((qFa g v w s1 i).1) (4 * s1 + i)) (qFac (v 0) (qIn g s1)))))), (8, .int (if ((qRoom (v 1) (qIn g ((s1) + (1)))) - ((qFa g v w s1 i).2)) < (qWant (w i) (v 3) (((qFa g v w s1 i).1) (4 * s1 + i)) (qFac (v 0) (qIn g s1))) then ((qRoom (v 1) (qIn g ((s1) + (1)))) - ((qFa g v w s1 i).2)) else (qWant (w i) (v 3) (((qFa g v w s1 i).1) (4 * s1 + i)) (qFac (v 0) (qIn g s1))))), (7, .int (qWant (w i) (v 3) (((qFa g v w s1 i).1) (4 * s1 + i)) (qFac (v 0) (qIn g s1)))), (6, .int (nI (i))), (4, .int (qRoom (v 1) (qIn g ((s1) + (1))))), (3, .int (qFac (v 0) (qIn g s1))), (0, .ref (h0)), (1, .int (nI (s1))), (2, .ref (h1))]) hx hb dX2_fallFrom_89 hl (by decide) rfl (fun ls hl => ?_)
      refine lv_iinc (v := nI ((i) + 1)) (lv' := [(6, .int (nI ((i) + 1))), (5, .int (((qFa g v w s1 i).2) + (if ((qRoom (v 1) (qIn g ((s1) + (1)))) - ((qFa g v w s1 i).2)) < (qWant (w i) (v 3) (((qFa g v w s1 i).1) (4 * s1 + i)) (qFac (v 0) (qIn g s1))) then ((qRoom (v 1) (qIn g ((s1) + (1)))) - ((qFa g v w s1 i).2)) else (qWant (w i) (v 3) (((qFa g v w s1 i).1) (4 * s1 + i)) (qFac (v 0) (qIn g s1)))))), (8, .int (if ((qRoom (v 1) (qIn g ((s1) + (1)))) - ((qFa g v w s1 i).2)) < (qWant (w i) (v 3) (((qFa g v w s1 i).1) (4 * s1 + i)) (qFac (v 0) (qIn g s1))) then ((qRoom (v 1) (qIn g ((s1) + (1)))) - ((qFa g v w s1 i).2)) else (qWant (w i) (v 3) (((qFa g v w s1 i).1) (4 * s1 + i)) (qFac (v 0) (qIn g s1))))), (7, .int (qWant (w i) (v 3) (((qFa g v w s1 i).1) (4 * s1 + i)) (qFac (v 0) (qIn g s1)))), (4, .int (qRoom (v 1) (qIn g ((s1) + (1))))), (3, .int (qFac (v 0) (qIn g s1))), (0, .ref (h0)), (1, .int (nI (s1))), (2, .ref (h1))]) hx hb dX2_fallFrom_91 hl (k := 3) rfl (show nI (i) + Int32.ofInt 1 = _ from nI_add (i) 1) (by decide) rfl (fun ls hl => ?_)
      refine lv_goto (tgt := 29) hx hb dX2_fallFrom_94 (by decide) ?_
      exact ih (i + 1) (by omega) _ _ hP hD hS ls (lv_sub hl [0, 1, 4, 5, 6, 7, 8] rfl)
  exact hL_29 (4) (0) (by omega) _ _ hP hD hS ls (lv_sub hl [0, 1, 2, 3, 4, 5, 6] rfl)

set_option maxRecDepth 100000 in
set_option maxHeartbeats 4000000 in
theorem metX2_goOneStep (l : Launch) (D : va_G) (ac : Nat → ClassId) (sz : Nat) (h0 : Nat) (g0 : Nat) (g : Nat → Int32) (h1 : Nat) (v0 : Nat) (w0 : Nat) (v : Nat → Int32) (w : Nat → Int32)  : Met l yX2_goOneStep wsX2_goOneStep ({ frames := 3, cells := 0, slots := 0, locals := 73 } : Room) (va_Pc [.ref (h0), .ref (h1)] (zS D ac [(h0, .inr (2, [.ref (g0)])), (g0, .inl (ac 0, 48, .inl (g))), (h1, .inr (3, [.ref (v0), .ref (w0)])), (v0, .inl (ac 0, 4, .inl (v))), (w0, .inl (ac 0, 4, .inl (w)))] sz)) (zQi D ac [(h0, .inr (2, [.ref (g0)])), (g0, .inl (ac 0, 48, .inl (g))), (h1, .inr (3, [.ref (v0), .ref (w0)])), (v0, .inl (ac 0, 4, .inl (v))), (w0, .inl (ac 0, 4, .inl (w)))] [(h0, .inr (2, [.ref (g0)])), (g0, .inl (ac 0, 48, .inl ((qStep g v w).1))), (h1, .inr (3, [.ref (v0), .ref (w0)])), (v0, .inl (ac 0, 4, .inl (v))), (w0, .inl (ac 0, 4, .inl (w)))] sz ((qStep g v w).2)) 0 0 (va_A [(h0, .inr (2, [.ref (g0)])), (g0, .inl (ac 0, 48, .inl (g))), (h1, .inr (3, [.ref (v0), .ref (w0)])), (v0, .inl (ac 0, 4, .inl (v))), (w0, .inl (ac 0, 4, .inl (w)))] sz) := by
  refine z_rw (cc := cX2_goOneStep) (maxL := 4) (ret := (some .int)) (lv := [(0, .ref (h0)), (1, .ref (h1))]) (by decide) rfl (Nat.le_of_ble_eq_true rfl) rfl ?_
  intro p e s m args below meth c ls A hx hb hr hml hown hts hlocks hl hK hP hsz hAe hA hD hS
  refine lv_iconst (v := 0) hx hb dX2_goOneStep_0 (by decide) ?_
  refine lv_istore_n (lv' := [(2, .int (0)), (0, .ref (h0)), (1, .ref (h1))]) hx hb dX2_goOneStep_1 rfl hl (by decide) rfl (fun ls hl => ?_)
  refine lv_bipush (v := 10) hx hb dX2_goOneStep_2 (by decide) ?_
  refine lv_istore_n (lv' := [(3, .int (10)), (2, .int (0)), (0, .ref (h0)), (1, .ref (h1))]) hx hb dX2_goOneStep_4 rfl hl (by decide) rfl (fun ls hl => ?_)
  have hL_5 : ∀ (n : Nat) (i : Nat), (i + n = 11) → ∀ (H : Heap) (locs : List Loc), va_P D vwCl [(h0, .inr (2, [.ref (g0)])), (g0, .inl (ac 0, 48, .inl ((qSt g v w i).1))), (h1, .inr (3, [.ref (v0), .ref (w0)])), (v0, .inl (ac 0, 4, .inl (v))), (w0, .inl (ac 0, 4, .inl (w)))] H → va_D A [(h0, .inr (2, [.ref (g0)])), (g0, .inl (ac 0, 48, .inl ((qSt g v w i).1))), (h1, .inr (3, [.ref (v0), .ref (w0)])), (v0, .inl (ac 0, 4, .inl (v))), (w0, .inl (ac 0, 4, .inl (w)))] → va_S A s.heap H locs → ∀ (ls : Array Slot), lv_has ls 4 [(3, .int (nI n - 1)), (2, .int ((qSt g v w i).2)), (0, .ref (h0)), (1, .ref (h1))] → W p l e ({ frames := 3, cells := 0, slots := 0, locals := 73 } : Room) s m args below meth c H locs 0 0 (MQ below (zQi D ac [(h0, .inr (2, [.ref (g0)])), (g0, .inl (ac 0, 48, .inl (g))), (h1, .inr (3, [.ref (v0), .ref (w0)])), (v0, .inl (ac 0, 4, .inl (v))), (w0, .inl (ac 0, 4, .inl (w)))] [(h0, .inr (2, [.ref (g0)])), (g0, .inl (ac 0, 48, .inl ((qStep g v w).1))), (h1, .inr (3, [.ref (v0), .ref (w0)])), (v0, .inl (ac 0, 4, .inl (v))), (w0, .inl (ac 0, 4, .inl (w)))] sz ((qStep g v w).2)) args s 0 0 A) (F0 m 5 ls []) := by
    intro n
    induction n with
    | zero =>
      intro i hi H locs hP hD hS ls hl
      have e_i : 11 = i := by omega
      subst e_i
      refine lv_iload_n hx hb dX2_goOneStep_5 rfl (lv_at hl 0 rfl) ?_
      refine lv_if_lt (tgt := 24) hx hb dX2_goOneStep_6 (by decide) (fun c_6 => ?_) (fun c_6 => absurd c_6 (fun q => q (by decide)))
      refine lv_iload_n hx hb dX2_goOneStep_24 rfl (lv_at hl 1 rfl) ?_
      exact z_iretW hx hb hr hlocks hK hP hD hS hAe (rfl) dX2_goOneStep_25
    | succ n ih =>
      intro i hi H locs hP hD hS ls hl
      refine lv_iload_n hx hb dX2_goOneStep_5 rfl (lv_at hl 0 rfl) ?_
      refine z_top (y := nI (10 - i)) (by rw [nI_pred]; exact congrArg nI (by omega)) ?_
      refine lv_if_lt (tgt := 24) hx hb dX2_goOneStep_6 (by decide) (fun c_6 => absurd c_6 (nI_pos (by omega))) (fun c_6 => ?_)
      refine lv_iload_n hx hb dX2_goOneStep_9 rfl (lv_at hl 1 rfl) ?_
      refine lv_aload_n hx hb dX2_goOneStep_10 rfl (lv_at hl 2 rfl) ?_
      refine lv_iload_n hx hb dX2_goOneStep_11 rfl (lv_at hl 0 rfl) ?_
      refine z_top (y := nI (10 - i)) (by rw [nI_pred]; exact congrArg nI (by omega)) ?_
      refine lv_aload_n hx hb dX2_goOneStep_12 rfl (lv_at hl 3 rfl) ?_
      refine z_ciW [(h0, .inr (2, [.ref (g0)])), (g0, .inl (ac 0, 48, .inl ((qFall ((qSt g v w i).1) v w (10 - i)).1))), (h1, .inr (3, [.ref (v0), .ref (w0)])), (v0, .inl (ac 0, 4, .inl (v))), (w0, .inl (ac 0, 4, .inl (w)))] (z_vrunW (rest := [.int ((qSt g v w i).2)]) (own := RX2) (As := [.int (nI (10 - i)), .ref (h1)]) hx hb hml hown hts hl.1 hK hP hD [0, 1, 2, 3, 4] rfl (by decide) rfl (metX2_fallFrom l D ac _ h0 g0 ((qSt g v w i).1) h1 v0 w0 v w (10 - i) (by omega)) gX2_goOneStep_X2_fallFrom rfl 2 (by decide +kernel) ⟨rfl, rfl, Nat.le_of_ble_eq_true rfl, Nat.le_of_ble_eq_true rfl⟩ 0 2 rfl rfl rfl rfl rfl (Nat.le_of_ble_eq_true rfl) dX2_goOneStep_13 ⟨Nat.zero_le _, Nat.zero_le _⟩) hP hD hS hA [0, 1, 2, 3, 4] [] [0, 1, 2, 3, 4] rfl rfl (by decide) (by decide) (by decide) rfl (fun H locs hP hD hS => ?_)
      refine lv_iadd hx hb dX2_goOneStep_16 ?_
      refine lv_istore_n (lv' := [(2, .int (((qSt g v w i).2) + ((qFall ((qSt g v w i).1) v w (10 - i)).2))), (3, .int (nI ((n + 1)) - 1)), (0, .ref (h0)), (1, .ref (h1))]) hx hb dX2_goOneStep_17 rfl hl (by decide) rfl (fun ls hl => ?_)
      refine lv_iinc (v := nI n - 1) (lv' := [(3, .int (nI n - 1)), (2, .int (((qSt g v w i).2) + ((qFall ((qSt g v w i).1) v w (10 - i)).2))), (0, .ref (h0)), (1, .ref (h1))]) hx hb dX2_goOneStep_18 hl (k := 1) rfl (by rw [z_addm1, nI_pred]) (by decide) rfl (fun ls hl => ?_)
      refine lv_goto (tgt := 5) hx hb dX2_goOneStep_21 (by decide) ?_
      exact ih (i + 1) (by omega) _ _ hP hD hS ls (lv_sub hl [0, 1, 2, 3] rfl)
  exact hL_5 (11) (0) (by omega) _ _ hP hD hS ls (lv_sub hl [0, 1, 2, 3] rfl)

set_option maxRecDepth 100000 in
set_option maxHeartbeats 4000000 in
theorem metX2_goOn (l : Launch) (D : va_G) (ac : Nat → ClassId) (sz : Nat) (h0 : Nat) (g0 : Nat) (g : Nat → Int32) (h1 : Nat) (v0 : Nat) (w0 : Nat) (v : Nat → Int32) (w : Nat → Int32) (t : Nat) (ht : t < 1000) : Met l yX2_goOn wsX2_goOn ({ frames := 4, cells := 0, slots := 0, locals := 96 } : Room) (va_Pc [.ref (h0), .int (nI (t)), .ref (h1)] (zS D ac [(h0, .inr (2, [.ref (g0)])), (g0, .inl (ac 0, 48, .inl (g))), (h1, .inr (3, [.ref (v0), .ref (w0)])), (v0, .inl (ac 0, 4, .inl (v))), (w0, .inl (ac 0, 4, .inl (w)))] sz)) (zQi D ac [(h0, .inr (2, [.ref (g0)])), (g0, .inl (ac 0, 48, .inl (g))), (h1, .inr (3, [.ref (v0), .ref (w0)])), (v0, .inl (ac 0, 4, .inl (v))), (w0, .inl (ac 0, 4, .inl (w)))] [(h0, .inr (2, [.ref (g0)])), (g0, .inl (ac 0, 48, .inl ((qGo v w t (g, 0)).1))), (h1, .inr (3, [.ref (v0), .ref (w0)])), (v0, .inl (ac 0, 4, .inl (v))), (w0, .inl (ac 0, 4, .inl (w)))] sz ((qGo v w t (g, 0)).2)) 0 0 (va_A [(h0, .inr (2, [.ref (g0)])), (g0, .inl (ac 0, 48, .inl (g))), (h1, .inr (3, [.ref (v0), .ref (w0)])), (v0, .inl (ac 0, 4, .inl (v))), (w0, .inl (ac 0, 4, .inl (w)))] sz) := by
  refine z_rw (cc := cX2_goOn) (maxL := 6) (ret := (some .int)) (lv := [(0, .ref (h0)), (1, .int (nI (t))), (2, .ref (h1))]) (by decide) rfl (Nat.le_of_ble_eq_true rfl) rfl ?_
  intro p e s m args below meth c ls A hx hb hr hml hown hts hlocks hl hK hP hsz hAe hA hD hS
  refine lv_iconst (v := 0) hx hb dX2_goOn_0 (by decide) ?_
  refine lv_istore_n (lv' := [(3, .int (0)), (0, .ref (h0)), (1, .int (nI (t))), (2, .ref (h1))]) hx hb dX2_goOn_1 rfl hl (by decide) rfl (fun ls hl => ?_)
  refine lv_iconst (v := 0) hx hb dX2_goOn_2 (by decide) ?_
  refine lv_istore (lv' := [(4, .int (0)), (3, .int (0)), (0, .ref (h0)), (1, .int (nI (t))), (2, .ref (h1))]) hx hb dX2_goOn_3 hl (by decide) rfl (fun ls hl => ?_)
  have hL_5 : ∀ (n : Nat) (i : Nat) (G : Nat → Int32) (y : Int32), (i + n = t) → (qGo v w t (g, 0) = qGo v w n (G, y)) → ∀ (H : Heap) (locs : List Loc), va_P D vwCl [(h0, .inr (2, [.ref (g0)])), (g0, .inl (ac 0, 48, .inl (G))), (h1, .inr (3, [.ref (v0), .ref (w0)])), (v0, .inl (ac 0, 4, .inl (v))), (w0, .inl (ac 0, 4, .inl (w)))] H → va_D A [(h0, .inr (2, [.ref (g0)])), (g0, .inl (ac 0, 48, .inl (G))), (h1, .inr (3, [.ref (v0), .ref (w0)])), (v0, .inl (ac 0, 4, .inl (v))), (w0, .inl (ac 0, 4, .inl (w)))] → va_S A s.heap H locs → ∀ (ls : Array Slot), lv_has ls 6 [(4, .int (nI (i))), (3, .int (y)), (0, .ref (h0)), (1, .int (nI (t))), (2, .ref (h1))] → W p l e ({ frames := 4, cells := 0, slots := 0, locals := 96 } : Room) s m args below meth c H locs 0 0 (MQ below (zQi D ac [(h0, .inr (2, [.ref (g0)])), (g0, .inl (ac 0, 48, .inl (g))), (h1, .inr (3, [.ref (v0), .ref (w0)])), (v0, .inl (ac 0, 4, .inl (v))), (w0, .inl (ac 0, 4, .inl (w)))] [(h0, .inr (2, [.ref (g0)])), (g0, .inl (ac 0, 48, .inl ((qGo v w t (g, 0)).1))), (h1, .inr (3, [.ref (v0), .ref (w0)])), (v0, .inl (ac 0, 4, .inl (v))), (w0, .inl (ac 0, 4, .inl (w)))] sz ((qGo v w t (g, 0)).2)) args s 0 0 A) (F0 m 5 ls []) := by
    intro n
    induction n with
    | zero =>
      intro i G y hi hR H locs hP hD hS ls hl
      have e_i : t = i := by omega
      subst e_i
      refine lv_iload hx hb dX2_goOn_5 (lv_at hl 0 rfl) ?_
      refine lv_iload_n hx hb dX2_goOn_7 rfl (lv_at hl 3 rfl) ?_
      refine z_icmp_ge (tgt := 36) hx hb (t) (t) dX2_goOn_8 (by decide) (by omega) (by omega) rfl rfl (fun c_8 => ?_) (fun c_8 => absurd c_8 (by omega))
      refine lv_iload_n hx hb dX2_goOn_36 rfl (lv_at hl 1 rfl) ?_
      have e1 : qGo v w t (g, 0) = (G, y) := hR
      rw [show G = (qGo v w t (g, 0)).1 by rw [e1]] at hP hD
      exact z_iretW hx hb hr hlocks hK hP hD hS hAe ((by rw [e1])) dX2_goOn_37
    | succ n ih =>
      intro i G y hi hR H locs hP hD hS ls hl
      refine lv_iload hx hb dX2_goOn_5 (lv_at hl 0 rfl) ?_
      refine lv_iload_n hx hb dX2_goOn_7 rfl (lv_at hl 3 rfl) ?_
      refine z_icmp_ge (tgt := 36) hx hb (i) (t) dX2_goOn_8 (by decide) (by omega) (by omega) rfl rfl (fun c_8 => absurd c_8 (by omega)) (fun c_8 => ?_)
      refine lv_aload_n hx hb dX2_goOn_11 rfl (lv_at hl 2 rfl) ?_
      refine lv_aload_n hx hb dX2_goOn_12 rfl (lv_at hl 4 rfl) ?_
      refine z_ciW [(h0, .inr (2, [.ref (g0)])), (g0, .inl (ac 0, 48, .inl ((qStep G v w).1))), (h1, .inr (3, [.ref (v0), .ref (w0)])), (v0, .inl (ac 0, 4, .inl (v))), (w0, .inl (ac 0, 4, .inl (w)))] (z_vrunW (rest := []) (own := RX2) (As := [.ref (h1)]) hx hb hml hown hts hl.1 hK hP hD [0, 1, 2, 3, 4] rfl (by decide) rfl (metX2_goOneStep l D ac _ h0 g0 G h1 v0 w0 v w ) gX2_goOn_X2_goOneStep rfl 1 (by decide +kernel) ⟨rfl, rfl, Nat.le_of_ble_eq_true rfl, Nat.le_of_ble_eq_true rfl⟩ 0 2 rfl rfl rfl rfl rfl (Nat.le_of_ble_eq_true rfl) dX2_goOn_13 ⟨Nat.zero_le _, Nat.zero_le _⟩) hP hD hS hA [0, 1, 2, 3, 4] [] [0, 1, 2, 3, 4] rfl rfl (by decide) (by decide) (by decide) rfl (fun H locs hP hD hS => ?_)
      refine lv_istore (lv' := [(5, .int ((qStep G v w).2)), (4, .int (nI (i))), (3, .int (y)), (0, .ref (h0)), (1, .int (nI (t))), (2, .ref (h1))]) hx hb dX2_goOn_16 hl (by decide) rfl (fun ls hl => ?_)
      refine lv_iload hx hb dX2_goOn_18 (lv_at hl 0 rfl) ?_
      refine lv_if_ne (tgt := 25) hx hb dX2_goOn_20 (by decide) (fun c_20 => ?_) (fun c_20 => ?_)
      · refine lv_iload_n hx hb dX2_goOn_25 rfl (lv_at hl 2 rfl) ?_
        refine lv_iload hx hb dX2_goOn_26 (lv_at hl 0 rfl) ?_
        refine lv_iadd hx hb dX2_goOn_28 ?_
        refine lv_istore_n (lv' := [(3, .int ((y) + ((qStep G v w).2))), (5, .int ((qStep G v w).2)), (4, .int (nI (i))), (0, .ref (h0)), (1, .int (nI (t))), (2, .ref (h1))]) hx hb dX2_goOn_29 rfl hl (by decide) rfl (fun ls hl => ?_)
        refine lv_iinc (v := nI ((i) + 1)) (lv' := [(4, .int (nI ((i) + 1))), (3, .int ((y) + ((qStep G v w).2))), (5, .int ((qStep G v w).2)), (0, .ref (h0)), (1, .int (nI (t))), (2, .ref (h1))]) hx hb dX2_goOn_30 hl (k := 2) rfl (show nI (i) + Int32.ofInt 1 = _ from nI_add (i) 1) (by decide) rfl (fun ls hl => ?_)
        refine lv_goto (tgt := 5) hx hb dX2_goOn_33 (by decide) ?_
        exact ih (i + 1) ((qStep G v w).1) (y + (qStep G v w).2) (by omega) (hR.trans (if_neg c_20)) _ _ hP hD hS ls (lv_sub hl [0, 1, 3, 4, 5] rfl)
      · refine lv_iload_n hx hb dX2_goOn_23 rfl (lv_at hl 2 rfl) ?_
        have e1 : qGo v w t (g, 0) = ((qStep G v w).1, y) := hR.trans (if_pos c_20)
        rw [show (qStep G v w).1 = (qGo v w t (g, 0)).1 by rw [e1]] at hP hD
        exact z_iretW hx hb hr hlocks hK hP hD hS hAe ((by rw [e1])) dX2_goOn_24
  exact hL_5 (t) (0) (g) (0) (by omega) (rfl) _ _ hP hD hS ls (lv_sub hl [0, 1, 2, 3, 4] rfl)

set_option maxRecDepth 100000 in
set_option maxHeartbeats 4000000 in
theorem metX2_sliceProperty (l : Launch) (D : va_G) (ac : Nat → ClassId) (h0 : Nat) (g0 : Nat) (g : Nat → Int32) (h1 : Nat) (v0 : Nat) (w0 : Nat) (v : Nat → Int32) (w : Nat → Int32) (s1 : Nat) (k1 : Nat) (hs : s1 < 12) (h_k1 : k1 < 10) : Met l yX2_sliceProperty wsX2_sliceProperty ({ frames := 2, cells := 0, slots := 0, locals := 46 } : Room) (va_Pc [.ref (h0), .int (nI (s1)), .int (nI (k1)), .ref (h1)] (zW D ac [(h0, .inr (2, [.ref (g0)])), (g0, .inl (ac 0, 48, .inl (g))), (h1, .inr (3, [.ref (v0), .ref (w0)])), (v0, .inl (ac 0, 4, .inl (v))), (w0, .inl (ac 0, 4, .inl (w)))])) (zRi (qSlice g v w s1 k1)) 0 0 (fun _ => False) := by
  refine z_ro (cc := cX2_sliceProperty) (maxL := 4) (ret := (some .int)) (lv := [(0, .ref (h0)), (1, .int (nI (s1))), (2, .int (nI (k1))), (3, .ref (h1))]) (by decide) rfl (Nat.le_of_ble_eq_true rfl) rfl ?_
  intro p e s m args below meth c ls hx hb hr hml hown hts hlocks hl hK hP
  refine lv_iload_n hx hb dX2_sliceProperty_0 rfl (lv_at hl 2 rfl) ?_
  obtain rfl | rfl | rfl | rfl | rfl | rfl | rfl | rfl | rfl | rfl := z_cases10 h_k1
  · refine lv_tableOut (tgt := 108) hx hb dX2_sliceProperty_1 (by decide) (by decide) ?_
    refine lv_aload_n hx hb dX2_sliceProperty_108 rfl (lv_at hl 0 rfl) ?_
    refine lv_iload_n hx hb dX2_sliceProperty_109 rfl (lv_at hl 1 rfl) ?_
    refine lv_iload_n hx hb dX2_sliceProperty_110 rfl (lv_at hl 2 rfl) ?_
    refine z_ci (z_vrun (rest := []) (own := RX2) (As := [.int (nI (s1)), .int (nI (0))]) hx hb hml hown hts hl.1 hK hP [0, 1] rfl (metX2_many l D ac h0 g0 g s1 0 (by omega) (by omega)) gX2_sliceProperty_X2_many rfl 2 (by decide +kernel) ⟨rfl, rfl, Nat.le_of_ble_eq_true rfl, Nat.le_of_ble_eq_true rfl⟩ 0 2 rfl rfl rfl rfl rfl (Nat.le_of_ble_eq_true rfl) dX2_sliceProperty_111 ⟨Nat.zero_le _, Nat.zero_le _⟩) ?_
    exact z_iret hx hb hr hlocks (rfl) dX2_sliceProperty_114
  · refine lv_tableOut (tgt := 108) hx hb dX2_sliceProperty_1 (by decide) (by decide) ?_
    refine lv_aload_n hx hb dX2_sliceProperty_108 rfl (lv_at hl 0 rfl) ?_
    refine lv_iload_n hx hb dX2_sliceProperty_109 rfl (lv_at hl 1 rfl) ?_
    refine lv_iload_n hx hb dX2_sliceProperty_110 rfl (lv_at hl 2 rfl) ?_
    refine z_ci (z_vrun (rest := []) (own := RX2) (As := [.int (nI (s1)), .int (nI (1))]) hx hb hml hown hts hl.1 hK hP [0, 1] rfl (metX2_many l D ac h0 g0 g s1 1 (by omega) (by omega)) gX2_sliceProperty_X2_many rfl 2 (by decide +kernel) ⟨rfl, rfl, Nat.le_of_ble_eq_true rfl, Nat.le_of_ble_eq_true rfl⟩ 0 2 rfl rfl rfl rfl rfl (Nat.le_of_ble_eq_true rfl) dX2_sliceProperty_111 ⟨Nat.zero_le _, Nat.zero_le _⟩) ?_
    exact z_iret hx hb hr hlocks (rfl) dX2_sliceProperty_114
  · refine lv_tableOut (tgt := 108) hx hb dX2_sliceProperty_1 (by decide) (by decide) ?_
    refine lv_aload_n hx hb dX2_sliceProperty_108 rfl (lv_at hl 0 rfl) ?_
    refine lv_iload_n hx hb dX2_sliceProperty_109 rfl (lv_at hl 1 rfl) ?_
    refine lv_iload_n hx hb dX2_sliceProperty_110 rfl (lv_at hl 2 rfl) ?_
    refine z_ci (z_vrun (rest := []) (own := RX2) (As := [.int (nI (s1)), .int (nI (2))]) hx hb hml hown hts hl.1 hK hP [0, 1] rfl (metX2_many l D ac h0 g0 g s1 2 (by omega) (by omega)) gX2_sliceProperty_X2_many rfl 2 (by decide +kernel) ⟨rfl, rfl, Nat.le_of_ble_eq_true rfl, Nat.le_of_ble_eq_true rfl⟩ 0 2 rfl rfl rfl rfl rfl (Nat.le_of_ble_eq_true rfl) dX2_sliceProperty_111 ⟨Nat.zero_le _, Nat.zero_le _⟩) ?_
    exact z_iret hx hb hr hlocks (rfl) dX2_sliceProperty_114
  · refine lv_tableOut (tgt := 108) hx hb dX2_sliceProperty_1 (by decide) (by decide) ?_
    refine lv_aload_n hx hb dX2_sliceProperty_108 rfl (lv_at hl 0 rfl) ?_
    refine lv_iload_n hx hb dX2_sliceProperty_109 rfl (lv_at hl 1 rfl) ?_
    refine lv_iload_n hx hb dX2_sliceProperty_110 rfl (lv_at hl 2 rfl) ?_
    refine z_ci (z_vrun (rest := []) (own := RX2) (As := [.int (nI (s1)), .int (nI (3))]) hx hb hml hown hts hl.1 hK hP [0, 1] rfl (metX2_many l D ac h0 g0 g s1 3 (by omega) (by omega)) gX2_sliceProperty_X2_many rfl 2 (by decide +kernel) ⟨rfl, rfl, Nat.le_of_ble_eq_true rfl, Nat.le_of_ble_eq_true rfl⟩ 0 2 rfl rfl rfl rfl rfl (Nat.le_of_ble_eq_true rfl) dX2_sliceProperty_111 ⟨Nat.zero_le _, Nat.zero_le _⟩) ?_
    exact z_iret hx hb hr hlocks (rfl) dX2_sliceProperty_114
  · refine lv_tableIn (off := 39) (tgt := 40) hx hb dX2_sliceProperty_1 (by decide) (by decide) (by decide) (by decide) ?_
    refine lv_aload_n hx hb dX2_sliceProperty_40 rfl (lv_at hl 0 rfl) ?_
    refine lv_iload_n hx hb dX2_sliceProperty_41 rfl (lv_at hl 1 rfl) ?_
    refine z_ci (z_vrun (rest := []) (own := RX2) (As := [.int (nI (s1))]) hx hb hml hown hts hl.1 hK hP [0, 1] rfl (metX2_allIn l D ac h0 g0 g s1 (by omega)) gX2_sliceProperty_X2_allIn rfl 1 (by decide +kernel) ⟨rfl, rfl, Nat.le_of_ble_eq_true rfl, Nat.le_of_ble_eq_true rfl⟩ 0 2 rfl rfl rfl rfl rfl (Nat.le_of_ble_eq_true rfl) dX2_sliceProperty_42 ⟨Nat.zero_le _, Nat.zero_le _⟩) ?_
    exact z_iret hx hb hr hlocks (rfl) dX2_sliceProperty_45
  · refine lv_tableIn (off := 45) (tgt := 46) hx hb dX2_sliceProperty_1 (by decide) (by decide) (by decide) (by decide) ?_
    refine lv_aload_n hx hb dX2_sliceProperty_46 rfl (lv_at hl 3 rfl) ?_
    refine lv_aload_n hx hb dX2_sliceProperty_47 rfl (lv_at hl 0 rfl) ?_
    refine lv_iload_n hx hb dX2_sliceProperty_48 rfl (lv_at hl 1 rfl) ?_
    refine z_ci (z_vrun (rest := [.ref (h1)]) (own := RX2) (As := [.int (nI (s1))]) hx hb hml hown hts hl.1 hK hP [0, 1] rfl (metX2_allIn l D ac h0 g0 g s1 (by omega)) gX2_sliceProperty_X2_allIn rfl 1 (by decide +kernel) ⟨rfl, rfl, Nat.le_of_ble_eq_true rfl, Nat.le_of_ble_eq_true rfl⟩ 0 2 rfl rfl rfl rfl rfl (Nat.le_of_ble_eq_true rfl) dX2_sliceProperty_49 ⟨Nat.zero_le _, Nat.zero_le _⟩) ?_
    refine z_ci (z_vrun (rest := []) (own := RX2) (As := [.int (qIn g s1)]) hx hb hml hown hts hl.1 hK hP [2, 3, 4] rfl (metX3_isPacked l D ac h1 v0 w0 v w (qIn g s1) ) gX2_sliceProperty_X3_isPacked rfl 1 (by decide +kernel) ⟨rfl, rfl, Nat.le_of_ble_eq_true rfl, Nat.le_of_ble_eq_true rfl⟩ 2 3 rfl rfl rfl rfl rfl (Nat.le_of_ble_eq_true rfl) dX2_sliceProperty_52 ⟨Nat.zero_le _, Nat.zero_le _⟩) ?_
    refine z_if_eq (C := v 1 ≤ (qIn g s1)) (tgt := 62) hx hb dX2_sliceProperty_55 (by decide) (fun c_55 => ?_) (fun c_55 => ?_)
    · refine lv_iconst (v := 0) hx hb dX2_sliceProperty_62 (by decide) ?_
      exact z_iret hx hb hr hlocks ((if_neg c_55).symm) dX2_sliceProperty_63
    · refine lv_iconst (v := 1) hx hb dX2_sliceProperty_58 (by decide) ?_
      refine lv_goto (tgt := 63) hx hb dX2_sliceProperty_59 (by decide) ?_
      exact z_iret hx hb hr hlocks ((if_pos c_55).symm) dX2_sliceProperty_63
  · refine lv_tableIn (off := 63) (tgt := 64) hx hb dX2_sliceProperty_1 (by decide) (by decide) (by decide) (by decide) ?_
    refine lv_aload_n hx hb dX2_sliceProperty_64 rfl (lv_at hl 3 rfl) ?_
    refine lv_aload_n hx hb dX2_sliceProperty_65 rfl (lv_at hl 0 rfl) ?_
    refine lv_iload_n hx hb dX2_sliceProperty_66 rfl (lv_at hl 1 rfl) ?_
    refine z_ci (z_vrun (rest := [.ref (h1)]) (own := RX2) (As := [.int (nI (s1))]) hx hb hml hown hts hl.1 hK hP [0, 1] rfl (metX2_allIn l D ac h0 g0 g s1 (by omega)) gX2_sliceProperty_X2_allIn rfl 1 (by decide +kernel) ⟨rfl, rfl, Nat.le_of_ble_eq_true rfl, Nat.le_of_ble_eq_true rfl⟩ 0 2 rfl rfl rfl rfl rfl (Nat.le_of_ble_eq_true rfl) dX2_sliceProperty_67 ⟨Nat.zero_le _, Nat.zero_le _⟩) ?_
    refine z_ci (z_vrun (rest := []) (own := RX2) (As := [.int (qIn g s1)]) hx hb hml hown hts hl.1 hK hP [2, 3, 4] rfl (metX3_isClear l D ac h1 v0 w0 v w (qIn g s1) ) gX2_sliceProperty_X3_isClear rfl 1 (by decide +kernel) ⟨rfl, rfl, Nat.le_of_ble_eq_true rfl, Nat.le_of_ble_eq_true rfl⟩ 2 3 rfl rfl rfl rfl rfl (Nat.le_of_ble_eq_true rfl) dX2_sliceProperty_70 ⟨Nat.zero_le _, Nat.zero_le _⟩) ?_
    refine z_if_eq (C := (qIn g s1) ≤ v 2) (tgt := 80) hx hb dX2_sliceProperty_73 (by decide) (fun c_73 => ?_) (fun c_73 => ?_)
    · refine lv_iconst (v := 0) hx hb dX2_sliceProperty_80 (by decide) ?_
      exact z_iret hx hb hr hlocks ((if_neg c_73).symm) dX2_sliceProperty_81
    · refine lv_iconst (v := 1) hx hb dX2_sliceProperty_76 (by decide) ?_
      refine lv_goto (tgt := 81) hx hb dX2_sliceProperty_77 (by decide) ?_
      exact z_iret hx hb hr hlocks ((if_pos c_73).symm) dX2_sliceProperty_81
  · refine lv_tableIn (off := 81) (tgt := 82) hx hb dX2_sliceProperty_1 (by decide) (by decide) (by decide) (by decide) ?_
    refine lv_aload_n hx hb dX2_sliceProperty_82 rfl (lv_at hl 0 rfl) ?_
    refine lv_iload_n hx hb dX2_sliceProperty_83 rfl (lv_at hl 1 rfl) ?_
    refine z_ci (z_vrun (rest := []) (own := RX2) (As := [.int (nI (s1))]) hx hb hml hown hts hl.1 hK hP [0, 1] rfl (metX2_leadingClass l D ac h0 g0 g s1 (by omega)) gX2_sliceProperty_X2_leadingClass rfl 1 (by decide +kernel) ⟨rfl, rfl, Nat.le_of_ble_eq_true rfl, Nat.le_of_ble_eq_true rfl⟩ 0 2 rfl rfl rfl rfl rfl (Nat.le_of_ble_eq_true rfl) dX2_sliceProperty_84 ⟨Nat.zero_le _, Nat.zero_le _⟩) ?_
    exact z_iret hx hb hr hlocks (rfl) dX2_sliceProperty_87
  · refine lv_tableIn (off := 87) (tgt := 88) hx hb dX2_sliceProperty_1 (by decide) (by decide) (by decide) (by decide) ?_
    refine lv_aload_n hx hb dX2_sliceProperty_88 rfl (lv_at hl 3 rfl) ?_
    refine lv_aload_n hx hb dX2_sliceProperty_89 rfl (lv_at hl 0 rfl) ?_
    refine lv_iload_n hx hb dX2_sliceProperty_90 rfl (lv_at hl 1 rfl) ?_
    refine z_ci (z_vrun (rest := [.ref (h1)]) (own := RX2) (As := [.int (nI (s1))]) hx hb hml hown hts hl.1 hK hP [0, 1] rfl (metX2_allIn l D ac h0 g0 g s1 (by omega)) gX2_sliceProperty_X2_allIn rfl 1 (by decide +kernel) ⟨rfl, rfl, Nat.le_of_ble_eq_true rfl, Nat.le_of_ble_eq_true rfl⟩ 0 2 rfl rfl rfl rfl rfl (Nat.le_of_ble_eq_true rfl) dX2_sliceProperty_91 ⟨Nat.zero_le _, Nat.zero_le _⟩) ?_
    refine z_ci (z_vrun (rest := []) (own := RX2) (As := [.int (qIn g s1)]) hx hb hml hown hts hl.1 hK hP [2, 3, 4] rfl (metX3_factorOf l D ac h1 v0 w0 v w (qIn g s1) ) gX2_sliceProperty_X3_factorOf rfl 1 (by decide +kernel) ⟨rfl, rfl, Nat.le_of_ble_eq_true rfl, Nat.le_of_ble_eq_true rfl⟩ 2 3 rfl rfl rfl rfl rfl (Nat.le_of_ble_eq_true rfl) dX2_sliceProperty_94 ⟨Nat.zero_le _, Nat.zero_le _⟩) ?_
    exact z_iret hx hb hr hlocks (rfl) dX2_sliceProperty_97
  · refine lv_tableIn (off := 97) (tgt := 98) hx hb dX2_sliceProperty_1 (by decide) (by decide) (by decide) (by decide) ?_
    refine lv_aload_n hx hb dX2_sliceProperty_98 rfl (lv_at hl 3 rfl) ?_
    refine lv_aload_n hx hb dX2_sliceProperty_99 rfl (lv_at hl 0 rfl) ?_
    refine lv_iload_n hx hb dX2_sliceProperty_100 rfl (lv_at hl 1 rfl) ?_
    refine z_ci (z_vrun (rest := [.ref (h1)]) (own := RX2) (As := [.int (nI (s1))]) hx hb hml hown hts hl.1 hK hP [0, 1] rfl (metX2_allIn l D ac h0 g0 g s1 (by omega)) gX2_sliceProperty_X2_allIn rfl 1 (by decide +kernel) ⟨rfl, rfl, Nat.le_of_ble_eq_true rfl, Nat.le_of_ble_eq_true rfl⟩ 0 2 rfl rfl rfl rfl rfl (Nat.le_of_ble_eq_true rfl) dX2_sliceProperty_101 ⟨Nat.zero_le _, Nat.zero_le _⟩) ?_
    refine z_ci (z_vrun (rest := []) (own := RX2) (As := [.int (qIn g s1)]) hx hb hml hown hts hl.1 hK hP [2, 3, 4] rfl (metX3_roomOver l D ac h1 v0 w0 v w (qIn g s1) ) gX2_sliceProperty_X3_roomOver rfl 1 (by decide +kernel) ⟨rfl, rfl, Nat.le_of_ble_eq_true rfl, Nat.le_of_ble_eq_true rfl⟩ 2 3 rfl rfl rfl rfl rfl (Nat.le_of_ble_eq_true rfl) dX2_sliceProperty_104 ⟨Nat.zero_le _, Nat.zero_le _⟩) ?_
    exact z_iret hx hb hr hlocks (rfl) dX2_sliceProperty_107

set_option maxRecDepth 100000 in
set_option maxHeartbeats 4000000 in
theorem metX2_property (l : Launch) (D : va_G) (ac : Nat → ClassId) (h0 : Nat) (g0 : Nat) (g : Nat → Int32) (h1 : Nat) (v0 : Nat) (w0 : Nat) (v : Nat → Int32) (w : Nat → Int32) (k1 : Nat) (h_k1 : k1 < 10) : Met l yX2_property wsX2_property ({ frames := 4, cells := 0, slots := 0, locals := 93 } : Room) (va_Pc [.ref (h0), .int (nI (k1)), .ref (h1)] (zW D ac [(h0, .inr (2, [.ref (g0)])), (g0, .inl (ac 0, 48, .inl (g))), (h1, .inr (3, [.ref (v0), .ref (w0)])), (v0, .inl (ac 0, 4, .inl (v))), (w0, .inl (ac 0, 4, .inl (w)))])) (zRi (qJar g v w k1)) 0 0 (fun _ => False) := by
  refine z_ro (cc := cX2_property) (maxL := 3) (ret := (some .int)) (lv := [(0, .ref (h0)), (1, .int (nI (k1))), (2, .ref (h1))]) (by decide) rfl (Nat.le_of_ble_eq_true rfl) rfl ?_
  intro p e s m args below meth c ls hx hb hr hml hown hts hlocks hl hK hP
  refine lv_iload_n hx hb dX2_property_0 rfl (lv_at hl 1 rfl) ?_
  obtain rfl | rfl | rfl | rfl | rfl | rfl | rfl | rfl | rfl | rfl := z_cases10 h_k1
  · refine lv_tableIn (off := 55) (tgt := 56) hx hb dX2_property_1 (by decide) (by decide) (by decide) (by decide) ?_
    refine lv_aload_n hx hb dX2_property_56 rfl (lv_at hl 0 rfl) ?_
    refine z_ci (z_vrun (rest := []) (own := RX2) (As := []) hx hb hml hown hts hl.1 hK hP [0, 1] rfl (metX2_all l D ac h0 g0 g ) gX2_property_X2_all rfl 0 (by decide +kernel) ⟨rfl, rfl, Nat.le_of_ble_eq_true rfl, Nat.le_of_ble_eq_true rfl⟩ 0 2 rfl rfl rfl rfl rfl (Nat.le_of_ble_eq_true rfl) dX2_property_57 ⟨Nat.zero_le _, Nat.zero_le _⟩) ?_
    exact z_iret hx hb hr hlocks (rfl) dX2_property_60
  · refine lv_tableIn (off := 109) (tgt := 110) hx hb dX2_property_1 (by decide) (by decide) (by decide) (by decide) ?_
    refine lv_aload_n hx hb dX2_property_110 rfl (lv_at hl 0 rfl) ?_
    refine lv_iload_n hx hb dX2_property_111 rfl (lv_at hl 1 rfl) ?_
    refine lv_iconst (v := 1) hx hb dX2_property_112 (by decide) ?_
    refine lv_isub hx hb dX2_property_113 ?_
    refine z_top (y := nI (0)) (pk_sub (a := 1) (b := 1) (by omega)) ?_
    refine z_top (y := nI (0)) (by decide) ?_
    refine z_ci (z_vrun (rest := []) (own := RX2) (As := [.int (nI (0))]) hx hb hml hown hts hl.1 hK hP [0, 1] rfl (metX2_allOf l D ac h0 g0 g 0 (by omega)) gX2_property_X2_allOf rfl 1 (by decide +kernel) ⟨rfl, rfl, Nat.le_of_ble_eq_true rfl, Nat.le_of_ble_eq_true rfl⟩ 0 2 rfl rfl rfl rfl rfl (Nat.le_of_ble_eq_true rfl) dX2_property_114 ⟨Nat.zero_le _, Nat.zero_le _⟩) ?_
    exact z_iret hx hb hr hlocks (rfl) dX2_property_117
  · refine lv_tableIn (off := 109) (tgt := 110) hx hb dX2_property_1 (by decide) (by decide) (by decide) (by decide) ?_
    refine lv_aload_n hx hb dX2_property_110 rfl (lv_at hl 0 rfl) ?_
    refine lv_iload_n hx hb dX2_property_111 rfl (lv_at hl 1 rfl) ?_
    refine lv_iconst (v := 1) hx hb dX2_property_112 (by decide) ?_
    refine lv_isub hx hb dX2_property_113 ?_
    refine z_top (y := nI (1)) (pk_sub (a := 2) (b := 1) (by omega)) ?_
    refine z_top (y := nI (1)) (by decide) ?_
    refine z_ci (z_vrun (rest := []) (own := RX2) (As := [.int (nI (1))]) hx hb hml hown hts hl.1 hK hP [0, 1] rfl (metX2_allOf l D ac h0 g0 g 1 (by omega)) gX2_property_X2_allOf rfl 1 (by decide +kernel) ⟨rfl, rfl, Nat.le_of_ble_eq_true rfl, Nat.le_of_ble_eq_true rfl⟩ 0 2 rfl rfl rfl rfl rfl (Nat.le_of_ble_eq_true rfl) dX2_property_114 ⟨Nat.zero_le _, Nat.zero_le _⟩) ?_
    exact z_iret hx hb hr hlocks (rfl) dX2_property_117
  · refine lv_tableIn (off := 109) (tgt := 110) hx hb dX2_property_1 (by decide) (by decide) (by decide) (by decide) ?_
    refine lv_aload_n hx hb dX2_property_110 rfl (lv_at hl 0 rfl) ?_
    refine lv_iload_n hx hb dX2_property_111 rfl (lv_at hl 1 rfl) ?_
    refine lv_iconst (v := 1) hx hb dX2_property_112 (by decide) ?_
    refine lv_isub hx hb dX2_property_113 ?_
    refine z_top (y := nI (2)) (pk_sub (a := 3) (b := 1) (by omega)) ?_
    refine z_top (y := nI (2)) (by decide) ?_
    refine z_ci (z_vrun (rest := []) (own := RX2) (As := [.int (nI (2))]) hx hb hml hown hts hl.1 hK hP [0, 1] rfl (metX2_allOf l D ac h0 g0 g 2 (by omega)) gX2_property_X2_allOf rfl 1 (by decide +kernel) ⟨rfl, rfl, Nat.le_of_ble_eq_true rfl, Nat.le_of_ble_eq_true rfl⟩ 0 2 rfl rfl rfl rfl rfl (Nat.le_of_ble_eq_true rfl) dX2_property_114 ⟨Nat.zero_le _, Nat.zero_le _⟩) ?_
    exact z_iret hx hb hr hlocks (rfl) dX2_property_117
  · refine lv_tableIn (off := 109) (tgt := 110) hx hb dX2_property_1 (by decide) (by decide) (by decide) (by decide) ?_
    refine lv_aload_n hx hb dX2_property_110 rfl (lv_at hl 0 rfl) ?_
    refine lv_iload_n hx hb dX2_property_111 rfl (lv_at hl 1 rfl) ?_
    refine lv_iconst (v := 1) hx hb dX2_property_112 (by decide) ?_
    refine lv_isub hx hb dX2_property_113 ?_
    refine z_top (y := nI (3)) (pk_sub (a := 4) (b := 1) (by omega)) ?_
    refine z_top (y := nI (3)) (by decide) ?_
    refine z_ci (z_vrun (rest := []) (own := RX2) (As := [.int (nI (3))]) hx hb hml hown hts hl.1 hK hP [0, 1] rfl (metX2_allOf l D ac h0 g0 g 3 (by omega)) gX2_property_X2_allOf rfl 1 (by decide +kernel) ⟨rfl, rfl, Nat.le_of_ble_eq_true rfl, Nat.le_of_ble_eq_true rfl⟩ 0 2 rfl rfl rfl rfl rfl (Nat.le_of_ble_eq_true rfl) dX2_property_114 ⟨Nat.zero_le _, Nat.zero_le _⟩) ?_
    exact z_iret hx hb hr hlocks (rfl) dX2_property_117
  · refine lv_tableIn (off := 60) (tgt := 61) hx hb dX2_property_1 (by decide) (by decide) (by decide) (by decide) ?_
    refine lv_aload_n hx hb dX2_property_61 rfl (lv_at hl 0 rfl) ?_
    refine lv_aload_n hx hb dX2_property_62 rfl (lv_at hl 2 rfl) ?_
    refine z_ci (z_vrun (rest := []) (own := RX2) (As := [.ref (h1)]) hx hb hml hown hts hl.1 hK hP [0, 1, 2, 3, 4] rfl (metX2_bedSlices l D ac h0 g0 g h1 v0 w0 v w ) gX2_property_X2_bedSlices rfl 1 (by decide +kernel) ⟨rfl, rfl, Nat.le_of_ble_eq_true rfl, Nat.le_of_ble_eq_true rfl⟩ 0 2 rfl rfl rfl rfl rfl (Nat.le_of_ble_eq_true rfl) dX2_property_63 ⟨Nat.zero_le _, Nat.zero_le _⟩) ?_
    exact z_iret hx hb hr hlocks (rfl) dX2_property_66
  · refine lv_tableIn (off := 66) (tgt := 67) hx hb dX2_property_1 (by decide) (by decide) (by decide) (by decide) ?_
    refine lv_aload_n hx hb dX2_property_67 rfl (lv_at hl 0 rfl) ?_
    refine lv_aload_n hx hb dX2_property_68 rfl (lv_at hl 2 rfl) ?_
    refine z_ci (z_vrun (rest := []) (own := RX2) (As := [.ref (h1)]) hx hb hml hown hts hl.1 hK hP [0, 1, 2, 3, 4] rfl (metX2_clearWater l D ac h0 g0 g h1 v0 w0 v w ) gX2_property_X2_clearWater rfl 1 (by decide +kernel) ⟨rfl, rfl, Nat.le_of_ble_eq_true rfl, Nat.le_of_ble_eq_true rfl⟩ 0 2 rfl rfl rfl rfl rfl (Nat.le_of_ble_eq_true rfl) dX2_property_69 ⟨Nat.zero_le _, Nat.zero_le _⟩) ?_
    exact z_iret hx hb hr hlocks (rfl) dX2_property_72
  · refine lv_tableIn (off := 72) (tgt := 73) hx hb dX2_property_1 (by decide) (by decide) (by decide) (by decide) ?_
    refine lv_aload_n hx hb dX2_property_73 rfl (lv_at hl 0 rfl) ?_
    refine z_ci (z_vrun (rest := []) (own := RX2) (As := []) hx hb hml hown hts hl.1 hK hP [0, 1] rfl (metX2_all l D ac h0 g0 g ) gX2_property_X2_all rfl 0 (by decide +kernel) ⟨rfl, rfl, Nat.le_of_ble_eq_true rfl, Nat.le_of_ble_eq_true rfl⟩ 0 2 rfl rfl rfl rfl rfl (Nat.le_of_ble_eq_true rfl) dX2_property_74 ⟨Nat.zero_le _, Nat.zero_le _⟩) ?_
    refine lv_aload_n hx hb dX2_property_77 rfl (lv_at hl 0 rfl) ?_
    refine lv_bipush (v := 11) hx hb dX2_property_78 (by decide) ?_
    refine lv_aload_n hx hb dX2_property_80 rfl (lv_at hl 0 rfl) ?_
    refine lv_aload_n hx hb dX2_property_81 rfl (lv_at hl 2 rfl) ?_
    refine z_ci (z_vrun (rest := [.int (11), .ref (h0), .int (qAll g)]) (own := RX2) (As := [.ref (h1)]) hx hb hml hown hts hl.1 hK hP [0, 1, 2, 3, 4] rfl (metX2_bedSlices l D ac h0 g0 g h1 v0 w0 v w ) gX2_property_X2_bedSlices rfl 1 (by decide +kernel) ⟨rfl, rfl, Nat.le_of_ble_eq_true rfl, Nat.le_of_ble_eq_true rfl⟩ 0 2 rfl rfl rfl rfl rfl (Nat.le_of_ble_eq_true rfl) dX2_property_82 ⟨Nat.zero_le _, Nat.zero_le _⟩) ?_
    refine lv_isub hx hb dX2_property_85 ?_
    refine z_top (y := nI (12 - qBed g (v 1)) - 1) (z_bedm (q_bed_le _ _)) ?_
    refine z_ci (z_vrun (rest := [.int (qAll g)]) (own := RX2) (As := [.int (nI (12 - qBed g (v 1)) - 1)]) hx hb hml hown hts hl.1 hK hP [0, 1] rfl (metX2_allDownTo l D ac h0 g0 g (nI (12 - qBed g (v 1)) - 1) (12 - qBed g (v 1)) (rfl) (by omega)) gX2_property_X2_allDownTo rfl 1 (by decide +kernel) ⟨rfl, rfl, Nat.le_of_ble_eq_true rfl, Nat.le_of_ble_eq_true rfl⟩ 0 2 rfl rfl rfl rfl rfl (Nat.le_of_ble_eq_true rfl) dX2_property_86 ⟨Nat.zero_le _, Nat.zero_le _⟩) ?_
    refine lv_isub hx hb dX2_property_89 ?_
    exact z_iret hx hb hr hlocks (rfl) dX2_property_90
  · refine lv_tableIn (off := 90) (tgt := 91) hx hb dX2_property_1 (by decide) (by decide) (by decide) (by decide) ?_
    refine lv_aload_n hx hb dX2_property_91 rfl (lv_at hl 0 rfl) ?_
    refine z_ci (z_vrun (rest := []) (own := RX2) (As := []) hx hb hml hown hts hl.1 hK hP [0, 1] rfl (metX2_changesOfLeader l D ac h0 g0 g ) gX2_property_X2_changesOfLeader rfl 0 (by decide +kernel) ⟨rfl, rfl, Nat.le_of_ble_eq_true rfl, Nat.le_of_ble_eq_true rfl⟩ 0 2 rfl rfl rfl rfl rfl (Nat.le_of_ble_eq_true rfl) dX2_property_92 ⟨Nat.zero_le _, Nat.zero_le _⟩) ?_
    exact z_iret hx hb hr hlocks (rfl) dX2_property_95
  · refine lv_tableIn (off := 95) (tgt := 96) hx hb dX2_property_1 (by decide) (by decide) (by decide) (by decide) ?_
    refine lv_aload_n hx hb dX2_property_96 rfl (lv_at hl 0 rfl) ?_
    refine lv_aload_n hx hb dX2_property_97 rfl (lv_at hl 2 rfl) ?_
    refine z_ci (z_vrun (rest := []) (own := RX2) (As := [.ref (h1)]) hx hb hml hown hts hl.1 hK hP [0, 1, 2, 3, 4] rfl (metX2_isAtRest l D ac h0 g0 g h1 v0 w0 v w ) gX2_property_X2_isAtRest rfl 1 (by decide +kernel) ⟨rfl, rfl, Nat.le_of_ble_eq_true rfl, Nat.le_of_ble_eq_true rfl⟩ 0 2 rfl rfl rfl rfl rfl (Nat.le_of_ble_eq_true rfl) dX2_property_98 ⟨Nat.zero_le _, Nat.zero_le _⟩) ?_
    refine z_if_eq (C := qRest g v w = true) (tgt := 108) hx hb dX2_property_101 (by decide) (fun c_101 => ?_) (fun c_101 => ?_)
    · refine lv_iconst (v := 0) hx hb dX2_property_108 (by decide) ?_
      exact z_iret hx hb hr hlocks ((if_neg c_101).symm) dX2_property_109
    · refine lv_iconst (v := 1) hx hb dX2_property_104 (by decide) ?_
      refine lv_goto (tgt := 109) hx hb dX2_property_105 (by decide) ?_
      exact z_iret hx hb hr hlocks ((if_pos c_101).symm) dX2_property_109

set_option maxRecDepth 100000 in
set_option maxHeartbeats 4000000 in
theorem metX2_copyFrom (l : Launch) (D : va_G) (ac : Nat → ClassId) (sz : Nat) (h0 : Nat) (g0 : Nat) (g : Nat → Int32) (h2 : Nat) (o0 : Nat) (o : Nat → Int32)  : Met l yX2_copyFrom wsX2_copyFrom ({ frames := 1, cells := 0, slots := 0, locals := 40 } : Room) (va_Pc [.ref (h0), .ref (h2)] (zS D ac [(h0, .inr (2, [.ref (g0)])), (g0, .inl (ac 0, 48, .inl (g))), (h2, .inr (2, [.ref (o0)])), (o0, .inl (ac 0, 48, .inl (o)))] sz)) (zQv D ac [(h0, .inr (2, [.ref (g0)])), (g0, .inl (ac 0, 48, .inl (g))), (h2, .inr (2, [.ref (o0)])), (o0, .inl (ac 0, 48, .inl (o)))] [(h0, .inr (2, [.ref (g0)])), (g0, .inl (ac 0, 48, .inl (o))), (h2, .inr (2, [.ref (o0)])), (o0, .inl (ac 0, 48, .inl (o)))] sz) 0 0 (va_A [(h0, .inr (2, [.ref (g0)])), (g0, .inl (ac 0, 48, .inl (g))), (h2, .inr (2, [.ref (o0)])), (o0, .inl (ac 0, 48, .inl (o)))] sz) := by
  refine z_rw (cc := cX2_copyFrom) (maxL := 2) (ret := none) (lv := [(0, .ref (h0)), (1, .ref (h2))]) (by decide) rfl (Nat.le_of_ble_eq_true rfl) rfl ?_
  intro p e s m args below meth c ls A hx hb hr hml hown hts hlocks hl hK hP hsz hAe hA hD hS
  refine lv_aload_n hx hb dX2_copyFrom_0 rfl (lv_at hl 1 rfl) ?_
  refine va_get (ci := 2) (v := .ref (o0)) (C := RX2) (T := TX2) (N := 1) hx hb hts (by decide +kernel) hown hK hP 2 rfl rfl 0 (by decide) (hts (.fieldLink RX2 9 "SettlingJars$Jar" "grains" "[I") (by decide +kernel)) (fun _ h9 => h9) rfl dX2_copyFrom_1 ?_
  refine lv_iconst (v := 0) hx hb dX2_copyFrom_4 (by decide) ?_
  refine lv_aload_n hx hb dX2_copyFrom_5 rfl (lv_at hl 0 rfl) ?_
  refine va_get (ci := 2) (v := .ref (g0)) (C := RX2) (T := TX2) (N := 1) hx hb hts (by decide +kernel) hown hK hP 0 rfl rfl 0 (by decide) (hts (.fieldLink RX2 9 "SettlingJars$Jar" "grains" "[I") (by decide +kernel)) (fun _ h9 => h9) rfl dX2_copyFrom_6 ?_
  refine lv_iconst (v := 0) hx hb dX2_copyFrom_9 (by decide) ?_
  refine lv_aload_n hx hb dX2_copyFrom_10 rfl (lv_at hl 0 rfl) ?_
  refine va_get (ci := 2) (v := .ref (g0)) (C := RX2) (T := TX2) (N := 1) hx hb hts (by decide +kernel) hown hK hP 0 rfl rfl 0 (by decide) (hts (.fieldLink RX2 9 "SettlingJars$Jar" "grains" "[I") (by decide +kernel)) (fun _ h9 => h9) rfl dX2_copyFrom_11 ?_
  refine va_alen hx hb hK hP 1 0 rfl rfl (v := 48) rfl dX2_copyFrom_14 ?_
  refine z_copy (n := 48) hx hb (by rw [hml]; exact hl.1.symm) hown (hts (.methodLink RX2 15 arraycopyName) (by decide +kernel)) (hts (.native arraycopyName) (by decide +kernel)) (hts (.static arraycopyName) (by decide +kernel)) (hts (.initialized "java/lang/System") (by decide +kernel)) hK hP hD hS 3 1 rfl rfl (Nat.le_of_ble_eq_true rfl) (by decide) (Nat.le_of_ble_eq_true rfl) dX2_copyFrom_15 (fun H locs hP hD hS => ?_)
  have hP : va_P D vwCl [(h0, .inr (2, [.ref (g0)])), (g0, .inl (ac 0, 48, .inl (o))), (h2, .inr (2, [.ref (o0)])), (o0, .inl (ac 0, 48, .inl (o)))] H := hP
  have hD : va_D A [(h0, .inr (2, [.ref (g0)])), (g0, .inl (ac 0, 48, .inl (o))), (h2, .inr (2, [.ref (o0)])), (o0, .inl (ac 0, 48, .inl (o)))] := hD
  exact z_vretW hx hb hr hlocks hK hP hD hS hAe dX2_copyFrom_18

