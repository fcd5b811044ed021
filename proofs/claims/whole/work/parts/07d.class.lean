set_option maxRecDepth 100000 in
set_option maxHeartbeats 4000000 in
theorem metX0_hashWithCodes (l : Launch) (D : va_G) (ac : Nat → ClassId) (ch : Nat) (cs : Nat) (tx : Nat → Int32) (ln : Nat) (hh : Int64) (hln : ln ≤ 60) : Met l yX0_hashWithCodes wsX0_hashWithCodes ({ frames := 0, cells := 0, slots := 0, locals := 0 } : Room) (va_Pc [.ref (ch), .long (hh)] (zW D ac [(ch, .inr (0, [.ref (cs), .int (nI (ln))])), (cs, .inl (ac 1, 60, .inl (tx)))])) (zRl (qMix (31 * hh + (nI ln).toInt64) tx ln)) 0 0 (fun _ => False) := by
  refine z_ro (cc := cX0_hashWithCodes) (maxL := 6) (ret := (some .long)) (lv := [(0, .ref (ch)), (1, .long (hh))]) (by decide) rfl (Nat.le_of_ble_eq_true rfl) rfl ?_
  intro p e s m args below meth c ls hx hb hr hml hown hts hlocks hl hK hP
  refine lv_ldc2 (own := RX0) hx hb hown (hts (.constantLong RX0 37 (31)) (by decide +kernel)) dX0_hashWithCodes_0 ?_
  refine lv_lload_n hx hb dX0_hashWithCodes_3 rfl (lv_at hl 1 rfl) ?_
  refine lv_lmul hx hb dX0_hashWithCodes_4 ?_
  refine lv_aload_n hx hb dX0_hashWithCodes_5 rfl (lv_at hl 0 rfl) ?_
  refine va_get (ci := 0) (v := .int (nI (ln))) (C := RX0) (T := TX0) (N := 2) hx hb hts (by decide +kernel) hown hK hP 0 rfl rfl 1 (by decide) (hts (.fieldLink RX0 15 "SettlingJars$Charge" "length" "I") (by decide +kernel)) (fun _ h9 => h9) rfl dX0_hashWithCodes_6 ?_
  refine lv_i2l (v := (nI (ln)).toInt64) hx hb dX0_hashWithCodes_9 rfl ?_
  refine lv_ladd hx hb dX0_hashWithCodes_10 ?_
  refine lv_lstore_n (lv' := [(3, .long (((31) * (hh)) + ((nI (ln)).toInt64))), (0, .ref (ch)), (1, .long (hh))]) hx hb dX0_hashWithCodes_11 rfl hl (by decide) rfl (fun ls hl => ?_)
  refine lv_iconst (v := 0) hx hb dX0_hashWithCodes_12 (by decide) ?_
  refine lv_istore (lv' := [(5, .int (0)), (3, .long (((31) * (hh)) + ((nI (ln)).toInt64))), (0, .ref (ch)), (1, .long (hh))]) hx hb dX0_hashWithCodes_13 hl (by decide) rfl (fun ls hl => ?_)
  have hL_15 : ∀ (n : Nat) (i : Nat), (i + n = ln) → ∀ (ls : Array Slot), lv_has ls 6 [(5, .int (nI (i))), (3, .long (qMix (31 * hh + (nI ln).toInt64) tx i)), (0, .ref (ch)), (1, .long (hh))] → W p l e ({ frames := 0, cells := 0, slots := 0, locals := 0 } : Room) s m args below meth c s.heap [] 0 0 (MQ below (zRl (qMix (31 * hh + (nI ln).toInt64) tx ln)) args s 0 0 (fun _ => False)) (F0 m 15 ls []) := by
    intro n
    induction n with
    | zero =>
      intro i hi ls hl
      have e_i : ln = i := by omega
      subst e_i
      refine lv_iload hx hb dX0_hashWithCodes_15 (lv_at hl 0 rfl) ?_
      refine lv_aload_n hx hb dX0_hashWithCodes_17 rfl (lv_at hl 2 rfl) ?_
      refine va_get (ci := 0) (v := .int (nI (ln))) (C := RX0) (T := TX0) (N := 2) hx hb hts (by decide +kernel) hown hK hP 0 rfl rfl 1 (by decide) (hts (.fieldLink RX0 15 "SettlingJars$Charge" "length" "I") (by decide +kernel)) (fun _ h9 => h9) rfl dX0_hashWithCodes_18 ?_
      refine z_icmp_ge (tgt := 45) hx hb (ln) (ln) dX0_hashWithCodes_21 (by decide) (by omega) (by omega) rfl rfl (fun c_21 => ?_) (fun c_21 => absurd c_21 (by omega))
      refine lv_lload_n hx hb dX0_hashWithCodes_45 rfl (lv_at hl 1 rfl) ?_
      exact z_lret hx hb hr hlocks (rfl) dX0_hashWithCodes_46
    | succ n ih =>
      intro i hi ls hl
      refine lv_iload hx hb dX0_hashWithCodes_15 (lv_at hl 0 rfl) ?_
      refine lv_aload_n hx hb dX0_hashWithCodes_17 rfl (lv_at hl 2 rfl) ?_
      refine va_get (ci := 0) (v := .int (nI (ln))) (C := RX0) (T := TX0) (N := 2) hx hb hts (by decide +kernel) hown hK hP 0 rfl rfl 1 (by decide) (hts (.fieldLink RX0 15 "SettlingJars$Charge" "length" "I") (by decide +kernel)) (fun _ h9 => h9) rfl dX0_hashWithCodes_18 ?_
      refine z_icmp_ge (tgt := 45) hx hb (i) (ln) dX0_hashWithCodes_21 (by decide) (by omega) (by omega) rfl rfl (fun c_21 => absurd c_21 (by omega)) (fun c_21 => ?_)
      refine lv_ldc2 (own := RX0) hx hb hown (hts (.constantLong RX0 37 (31)) (by decide +kernel)) dX0_hashWithCodes_24 ?_
      refine lv_lload_n hx hb dX0_hashWithCodes_27 rfl (lv_at hl 1 rfl) ?_
      refine lv_lmul hx hb dX0_hashWithCodes_28 ?_
      refine lv_aload_n hx hb dX0_hashWithCodes_29 rfl (lv_at hl 2 rfl) ?_
      refine va_get (ci := 0) (v := .ref (cs)) (C := RX0) (T := TX0) (N := 2) hx hb hts (by decide +kernel) hown hK hP 0 rfl rfl 0 (by decide) (hts (.fieldLink RX0 11 "SettlingJars$Charge" "signs" "[C") (by decide +kernel)) (fun _ h9 => h9) rfl dX0_hashWithCodes_30 ?_
      refine lv_iload hx hb dX0_hashWithCodes_33 (lv_at hl 0 rfl) ?_
      refine z_cald hx hb hK hP 1 rfl (i) (rfl) (by omega) (by decide) dX0_hashWithCodes_35 ?_
      refine lv_i2l (v := (tx i).toInt64) hx hb dX0_hashWithCodes_36 rfl ?_
      refine lv_ladd hx hb dX0_hashWithCodes_37 ?_
      refine lv_lstore_n (lv' := [(3, .long (((31) * (qMix (31 * hh + (nI ln).toInt64) tx i)) + ((tx i).toInt64))), (5, .int (nI (i))), (0, .ref (ch)), (1, .long (hh))]) hx hb dX0_hashWithCodes_38 rfl hl (by decide) rfl (fun ls hl => ?_)
      refine lv_iinc (v := nI ((i) + 1)) (lv' := [(5, .int (nI ((i) + 1))), (3, .long (((31) * (qMix (31 * hh + (nI ln).toInt64) tx i)) + ((tx i).toInt64))), (0, .ref (ch)), (1, .long (hh))]) hx hb dX0_hashWithCodes_39 hl (k := 1) rfl (show nI (i) + Int32.ofInt 1 = _ from nI_add (i) 1) (by decide) rfl (fun ls hl => ?_)
      refine lv_goto (tgt := 15) hx hb dX0_hashWithCodes_42 (by decide) ?_
      exact ih (i + 1) (by omega) ls (lv_sub hl [0, 1, 2, 3] rfl)
  exact hL_15 (ln) (0) (by omega) ls (lv_sub hl [0, 1, 2, 3] rfl)

set_option maxRecDepth 100000 in
set_option maxHeartbeats 4000000 in
theorem metX5_needIndex_0 (l : Launch) (D : va_G) (ac : Nat → ClassId) (i1 : Nat) (n1 : Nat) (hi : i1 < n1) (hn : n1 < 1000) : Met l yX5_needIndex wsX5_needIndex ({ frames := 0, cells := 0, slots := 0, locals := 0 } : Room) (va_Pc [.int (nI (i1)), .int (nI (n1))] (zW D ac [])) (zRv) 0 0 (fun _ => False) := by
  refine z_ro (cc := cX5_needIndex) (maxL := 2) (ret := none) (lv := [(0, .int (nI (i1))), (1, .int (nI (n1)))]) (by decide) rfl (Nat.le_of_ble_eq_true rfl) rfl ?_
  intro p e s m args below meth c ls hx hb hr hml hown hts hlocks hl hK hP
  refine lv_iload_n hx hb dX5_needIndex_0 rfl (lv_at hl 0 rfl) ?_
  refine lv_if_lt (tgt := 9) hx hb dX5_needIndex_1 (by decide) (fun c_1 => absurd c_1 (nI_pos (by omega))) (fun c_1 => ?_)
  refine lv_iload_n hx hb dX5_needIndex_4 rfl (lv_at hl 0 rfl) ?_
  refine lv_iload_n hx hb dX5_needIndex_5 rfl (lv_at hl 1 rfl) ?_
  refine z_icmp_lt (tgt := 19) hx hb (i1) (n1) dX5_needIndex_6 (by decide) (by omega) (by omega) rfl rfl (fun c_6 => ?_) (fun c_6 => absurd c_6 (by omega))
  exact z_vret hx hb hr hlocks dX5_needIndex_19

set_option maxRecDepth 100000 in
set_option maxHeartbeats 4000000 in
theorem metX5_needSlice_0 (l : Launch) (D : va_G) (ac : Nat → ClassId) (j1 : Nat) (s1 : Nat) (hj : j1 < 3) (hs : s1 < 12) : Met l yX5_needSlice wsX5_needSlice ({ frames := 1, cells := 0, slots := 0, locals := 21 } : Room) (va_Pc [.int (nI (j1)), .int (nI (s1))] (zW D ac [])) (zRv) 0 0 (fun _ => False) := by
  refine z_ro (cc := cX5_needSlice) (maxL := 2) (ret := none) (lv := [(0, .int (nI (j1))), (1, .int (nI (s1)))]) (by decide) rfl (Nat.le_of_ble_eq_true rfl) rfl ?_
  intro p e s m args below meth c ls hx hb hr hml hown hts hlocks hl hK hP
  refine lv_iload_n hx hb dX5_needSlice_0 rfl (lv_at hl 0 rfl) ?_
  refine lv_iconst (v := 3) hx hb dX5_needSlice_1 (by decide) ?_
  refine z_cv (z_srun (rest := []) (own := RX5) (As := [.int (nI (j1)), .int (3)]) hx hb hml hown hts hl.1 hK hP [] rfl (metX5_needIndex_0 l D ac j1 3 (by omega) (by omega)) gX5_needSlice_X5_needIndex rfl 2 (by decide +kernel) ⟨rfl, rfl, Nat.le_of_ble_eq_true rfl, Nat.le_of_ble_eq_true rfl⟩ rfl rfl (Nat.le_of_ble_eq_true rfl) dX5_needSlice_2 ⟨Nat.zero_le _, Nat.zero_le _⟩) ?_
  refine lv_iload_n hx hb dX5_needSlice_5 rfl (lv_at hl 1 rfl) ?_
  refine lv_bipush (v := 12) hx hb dX5_needSlice_6 (by decide) ?_
  refine z_cv (z_srun (rest := []) (own := RX5) (As := [.int (nI (s1)), .int (12)]) hx hb hml hown hts hl.1 hK hP [] rfl (metX5_needIndex_0 l D ac s1 12 (by omega) (by omega)) gX5_needSlice_X5_needIndex rfl 2 (by decide +kernel) ⟨rfl, rfl, Nat.le_of_ble_eq_true rfl, Nat.le_of_ble_eq_true rfl⟩ rfl rfl (Nat.le_of_ble_eq_true rfl) dX5_needSlice_8 ⟨Nat.zero_le _, Nat.zero_le _⟩) ?_
  exact z_vret hx hb hr hlocks dX5_needSlice_11

set_option maxRecDepth 100000 in
set_option maxHeartbeats 4000000 in
theorem metX5_needRange_0 (l : Launch) (D : va_G) (ac : Nat → ClassId) (x : Int32) (lo : Int32) (up : Int32) (h2 : lo ≤ x ∧ x ≤ up) : Met l yX5_needRange wsX5_needRange ({ frames := 0, cells := 0, slots := 0, locals := 0 } : Room) (va_Pc [.int (x), .int (lo), .int (up)] (zW D ac [])) (zRv) 0 0 (fun _ => False) := by
  refine z_ro (cc := cX5_needRange) (maxL := 3) (ret := none) (lv := [(0, .int (x)), (1, .int (lo)), (2, .int (up))]) (by decide) rfl (Nat.le_of_ble_eq_true rfl) rfl ?_
  intro p e s m args below meth c ls hx hb hr hml hown hts hlocks hl hK hP
  refine lv_iload_n hx hb dX5_needRange_0 rfl (lv_at hl 0 rfl) ?_
  refine lv_iload_n hx hb dX5_needRange_1 rfl (lv_at hl 1 rfl) ?_
  refine lv_icmp_lt (tgt := 10) hx hb dX5_needRange_2 (by decide) (fun c_2 => absurd c_2 (Int32.not_lt.mpr h2.1)) (fun c_2 => ?_)
  refine lv_iload_n hx hb dX5_needRange_5 rfl (lv_at hl 0 rfl) ?_
  refine lv_iload_n hx hb dX5_needRange_6 rfl (lv_at hl 2 rfl) ?_
  refine lv_icmp_le (tgt := 21) hx hb dX5_needRange_7 (by decide) (fun c_7 => ?_) (fun c_7 => absurd c_7 (fun q => q h2.2))
  exact z_vret hx hb hr hlocks dX5_needRange_21

set_option maxRecDepth 100000 in
set_option maxHeartbeats 4000000 in
theorem metX5_needRoom_0 (l : Launch) (D : va_G) (ac : Nat → ClassId) (h0 : Nat) (g0 : Nat) (g : Nat → Int32) (x : Int32) (h3 : qAll g + x ≤ 5000) : Met l yX5_needRoom wsX5_needRoom ({ frames := 4, cells := 0, slots := 0, locals := 88 } : Room) (va_Pc [.ref (h0), .int (x)] (zW D ac [(h0, .inr (2, [.ref (g0)])), (g0, .inl (ac 0, 48, .inl (g)))])) (zRv) 0 0 (fun _ => False) := by
  refine z_ro (cc := cX5_needRoom) (maxL := 2) (ret := none) (lv := [(0, .ref (h0)), (1, .int (x))]) (by decide) rfl (Nat.le_of_ble_eq_true rfl) rfl ?_
  intro p e s m args below meth c ls hx hb hr hml hown hts hlocks hl hK hP
  refine lv_aload_n hx hb dX5_needRoom_0 rfl (lv_at hl 0 rfl) ?_
  refine z_ci (z_vrun (rest := []) (own := RX5) (As := []) hx hb hml hown hts hl.1 hK hP [0, 1] rfl (metX2_all l D ac h0 g0 g ) gX5_needRoom_X2_all rfl 0 (by decide +kernel) ⟨rfl, rfl, Nat.le_of_ble_eq_true rfl, Nat.le_of_ble_eq_true rfl⟩ 0 2 rfl rfl rfl rfl rfl (Nat.le_of_ble_eq_true rfl) dX5_needRoom_1 ⟨Nat.zero_le _, Nat.zero_le _⟩) ?_
  refine lv_iload_n hx hb dX5_needRoom_4 rfl (lv_at hl 1 rfl) ?_
  refine lv_iadd hx hb dX5_needRoom_5 ?_
  refine lv_sipush (v := 5000) hx hb dX5_needRoom_6 (by decide) ?_
  refine lv_icmp_le (tgt := 23) hx hb dX5_needRoom_9 (by decide) (fun c_9 => ?_) (fun c_9 => absurd c_9 (fun q => q h3))
  exact z_vret hx hb hr hlocks dX5_needRoom_23

set_option maxRecDepth 100000 in
set_option maxHeartbeats 4000000 in
theorem metX5_slice_0 (l : Launch) (D : va_G) (ac : Nat → ClassId) (x0 : Nat) (n0 : Nat) (y0 : Nat) (ch : Nat) (sp0 : Nat) (n1 : Nat) (n2 : Nat) (n3 : Nat) (n4 : Nat) (n11 : Nat) (n12 : Nat) (tp : Int32) (fl : Int32) (v : Nat → Int32) (w : Nat → Int32) (jf : Nat → Option Nat) (h0 : Nat) (g0 : Nat) (g : Nat → Int32) (j1 : Nat) (s1 : Nat) (k1 : Nat) (hj : j1 < 3) (hs : s1 < 12) (hk : k1 < 10) (hjf : jf j1 = some h0) : Met l yX5_slice wsX5_slice ({ frames := 3, cells := 0, slots := 0, locals := 69 } : Room) (va_Pc [.ref (x0), .int (nI (j1)), .int (nI (s1)), .int (nI (k1))] (zW D ac [(x0, .inr (5, [.ref (n0), .ref (y0), .ref (ch), .ref (sp0)])), (n0, .inr (4, [.ref (n1), .ref (n4), .ref (n11), .ref (n12), .int (tp), .int (fl)])), (n1, .inr (3, [.ref (n2), .ref (n3)])), (n2, .inl (ac 0, 4, .inl (v))), (n3, .inl (ac 0, 4, .inl (w))), (n4, .inl (ac 2, 3, .inr (.inr (.inr (.inr (jf)))))), (h0, .inr (2, [.ref (g0)])), (g0, .inl (ac 0, 48, .inl (g)))])) (zRi (qSlice g v w s1 k1)) 0 0 (fun _ => False) := by
  refine z_ro (cc := cX5_slice) (maxL := 4) (ret := (some .int)) (lv := [(0, .ref (x0)), (1, .int (nI (j1))), (2, .int (nI (s1))), (3, .int (nI (k1)))]) (by decide) rfl (Nat.le_of_ble_eq_true rfl) rfl ?_
  intro p e s m args below meth c ls hx hb hr hml hown hts hlocks hl hK hP
  refine lv_iload_n hx hb dX5_slice_0 rfl (lv_at hl 1 rfl) ?_
  refine lv_iload_n hx hb dX5_slice_1 rfl (lv_at hl 2 rfl) ?_
  refine z_cv (z_srun (rest := []) (own := RX5) (As := [.int (nI (j1)), .int (nI (s1))]) hx hb hml hown hts hl.1 hK hP [] rfl (metX5_needSlice_0 l D ac j1 s1 (by omega) (by omega)) gX5_slice_X5_needSlice rfl 2 (by decide +kernel) ⟨rfl, rfl, Nat.le_of_ble_eq_true rfl, Nat.le_of_ble_eq_true rfl⟩ rfl rfl (Nat.le_of_ble_eq_true rfl) dX5_slice_2 ⟨Nat.zero_le _, Nat.zero_le _⟩) ?_
  refine lv_iload_n hx hb dX5_slice_5 rfl (lv_at hl 3 rfl) ?_
  refine lv_iconst (v := 0) hx hb dX5_slice_6 (by decide) ?_
  refine lv_bipush (v := 9) hx hb dX5_slice_7 (by decide) ?_
  refine z_cv (z_srun (rest := []) (own := RX5) (As := [.int (nI (k1)), .int (0), .int (9)]) hx hb hml hown hts hl.1 hK hP [] rfl (metX5_needRange_0 l D ac (nI (k1)) 0 9 (z_in (n := 9) (by omega))) gX5_slice_X5_needRange rfl 3 (by decide +kernel) ⟨rfl, rfl, Nat.le_of_ble_eq_true rfl, Nat.le_of_ble_eq_true rfl⟩ rfl rfl (Nat.le_of_ble_eq_true rfl) dX5_slice_9 ⟨Nat.zero_le _, Nat.zero_le _⟩) ?_
  refine lv_aload_n hx hb dX5_slice_12 rfl (lv_at hl 0 rfl) ?_
  refine va_get (ci := 5) (v := .ref (n0)) (C := RX5) (T := TX5) (N := 4) hx hb hts (by decide +kernel) hown hK hP 0 rfl rfl 0 (by decide) (hts (.fieldLink RX5 12 "SettlingJars" "now" "LSettlingJars$State;") (by decide +kernel)) (fun _ h9 => h9) rfl dX5_slice_13 ?_
  refine va_get (ci := 4) (v := .ref (n4)) (C := RX4) (T := TX4) (N := 6) hx hb hts (by decide +kernel) hown hK hP 1 rfl rfl 1 (by decide) (hts (.fieldLink RX5 71 "SettlingJars$State" "jars" "[LSettlingJars$Jar;") (by decide +kernel)) (fun _ h9 => h9) rfl dX5_slice_16 ?_
  refine lv_iload_n hx hb dX5_slice_19 rfl (lv_at hl 1 rfl) ?_
  refine z_aald hx hb hK hP 5 2 rfl rfl (j1) (congrArg nI (by omega)) (by omega) (by decide) (hjf) dX5_slice_20 ?_
  refine lv_iload_n hx hb dX5_slice_21 rfl (lv_at hl 2 rfl) ?_
  refine lv_iload_n hx hb dX5_slice_22 rfl (lv_at hl 3 rfl) ?_
  refine lv_aload_n hx hb dX5_slice_23 rfl (lv_at hl 0 rfl) ?_
  refine va_get (ci := 5) (v := .ref (n0)) (C := RX5) (T := TX5) (N := 4) hx hb hts (by decide +kernel) hown hK hP 0 rfl rfl 0 (by decide) (hts (.fieldLink RX5 12 "SettlingJars" "now" "LSettlingJars$State;") (by decide +kernel)) (fun _ h9 => h9) rfl dX5_slice_24 ?_
  refine va_get (ci := 4) (v := .ref (n1)) (C := RX4) (T := TX4) (N := 6) hx hb hts (by decide +kernel) hown hK hP 1 rfl rfl 0 (by decide) (hts (.fieldLink RX5 58 "SettlingJars$State" "settings" "LSettlingJars$Settings;") (by decide +kernel)) (fun _ h9 => h9) rfl dX5_slice_27 ?_
  refine z_ci (z_vrun (rest := []) (own := RX5) (As := [.int (nI (s1)), .int (nI (k1)), .ref (n1)]) hx hb hml hown hts hl.1 hK hP [6, 7, 2, 3, 4] rfl (metX2_sliceProperty l D ac h0 g0 g n1 n2 n3 v w s1 k1 (by omega) (by omega)) gX5_slice_X2_sliceProperty rfl 3 (by decide +kernel) ⟨rfl, rfl, Nat.le_of_ble_eq_true rfl, Nat.le_of_ble_eq_true rfl⟩ 6 2 rfl rfl rfl rfl rfl (Nat.le_of_ble_eq_true rfl) dX5_slice_30 ⟨Nat.zero_le _, Nat.zero_le _⟩) ?_
  exact z_iret hx hb hr hlocks (rfl) dX5_slice_33

set_option maxRecDepth 100000 in
set_option maxHeartbeats 4000000 in
theorem metX5_jar_0 (l : Launch) (D : va_G) (ac : Nat → ClassId) (x0 : Nat) (n0 : Nat) (y0 : Nat) (ch : Nat) (sp0 : Nat) (n1 : Nat) (n2 : Nat) (n3 : Nat) (n4 : Nat) (n11 : Nat) (n12 : Nat) (tp : Int32) (fl : Int32) (v : Nat → Int32) (w : Nat → Int32) (jf : Nat → Option Nat) (h0 : Nat) (g0 : Nat) (g : Nat → Int32) (j1 : Nat) (k1 : Nat) (hj : j1 < 3) (hk : k1 < 10) (hjf : jf j1 = some h0) : Met l yX5_jar wsX5_jar ({ frames := 5, cells := 0, slots := 0, locals := 115 } : Room) (va_Pc [.ref (x0), .int (nI (j1)), .int (nI (k1))] (zW D ac [(x0, .inr (5, [.ref (n0), .ref (y0), .ref (ch), .ref (sp0)])), (n0, .inr (4, [.ref (n1), .ref (n4), .ref (n11), .ref (n12), .int (tp), .int (fl)])), (n1, .inr (3, [.ref (n2), .ref (n3)])), (n2, .inl (ac 0, 4, .inl (v))), (n3, .inl (ac 0, 4, .inl (w))), (n4, .inl (ac 2, 3, .inr (.inr (.inr (.inr (jf)))))), (h0, .inr (2, [.ref (g0)])), (g0, .inl (ac 0, 48, .inl (g)))])) (zRi (qJar g v w k1)) 0 0 (fun _ => False) := by
  refine z_ro (cc := cX5_jar) (maxL := 3) (ret := (some .int)) (lv := [(0, .ref (x0)), (1, .int (nI (j1))), (2, .int (nI (k1)))]) (by decide) rfl (Nat.le_of_ble_eq_true rfl) rfl ?_
  intro p e s m args below meth c ls hx hb hr hml hown hts hlocks hl hK hP
  refine lv_iload_n hx hb dX5_jar_0 rfl (lv_at hl 1 rfl) ?_
  refine lv_iconst (v := 3) hx hb dX5_jar_1 (by decide) ?_
  refine z_cv (z_srun (rest := []) (own := RX5) (As := [.int (nI (j1)), .int (3)]) hx hb hml hown hts hl.1 hK hP [] rfl (metX5_needIndex_0 l D ac j1 3 (by omega) (by omega)) gX5_jar_X5_needIndex rfl 2 (by decide +kernel) ⟨rfl, rfl, Nat.le_of_ble_eq_true rfl, Nat.le_of_ble_eq_true rfl⟩ rfl rfl (Nat.le_of_ble_eq_true rfl) dX5_jar_2 ⟨Nat.zero_le _, Nat.zero_le _⟩) ?_
  refine lv_iload_n hx hb dX5_jar_5 rfl (lv_at hl 2 rfl) ?_
  refine lv_iconst (v := 0) hx hb dX5_jar_6 (by decide) ?_
  refine lv_bipush (v := 9) hx hb dX5_jar_7 (by decide) ?_
  refine z_cv (z_srun (rest := []) (own := RX5) (As := [.int (nI (k1)), .int (0), .int (9)]) hx hb hml hown hts hl.1 hK hP [] rfl (metX5_needRange_0 l D ac (nI (k1)) 0 9 (z_in (n := 9) (by omega))) gX5_jar_X5_needRange rfl 3 (by decide +kernel) ⟨rfl, rfl, Nat.le_of_ble_eq_true rfl, Nat.le_of_ble_eq_true rfl⟩ rfl rfl (Nat.le_of_ble_eq_true rfl) dX5_jar_9 ⟨Nat.zero_le _, Nat.zero_le _⟩) ?_
  refine lv_aload_n hx hb dX5_jar_12 rfl (lv_at hl 0 rfl) ?_
  refine va_get (ci := 5) (v := .ref (n0)) (C := RX5) (T := TX5) (N := 4) hx hb hts (by decide +kernel) hown hK hP 0 rfl rfl 0 (by decide) (hts (.fieldLink RX5 12 "SettlingJars" "now" "LSettlingJars$State;") (by decide +kernel)) (fun _ h9 => h9) rfl dX5_jar_13 ?_
  refine va_get (ci := 4) (v := .ref (n4)) (C := RX4) (T := TX4) (N := 6) hx hb hts (by decide +kernel) hown hK hP 1 rfl rfl 1 (by decide) (hts (.fieldLink RX5 71 "SettlingJars$State" "jars" "[LSettlingJars$Jar;") (by decide +kernel)) (fun _ h9 => h9) rfl dX5_jar_16 ?_
  refine lv_iload_n hx hb dX5_jar_19 rfl (lv_at hl 1 rfl) ?_
  refine z_aald hx hb hK hP 5 2 rfl rfl (j1) (congrArg nI (by omega)) (by omega) (by decide) (hjf) dX5_jar_20 ?_
  refine lv_iload_n hx hb dX5_jar_21 rfl (lv_at hl 2 rfl) ?_
  refine lv_aload_n hx hb dX5_jar_22 rfl (lv_at hl 0 rfl) ?_
  refine va_get (ci := 5) (v := .ref (n0)) (C := RX5) (T := TX5) (N := 4) hx hb hts (by decide +kernel) hown hK hP 0 rfl rfl 0 (by decide) (hts (.fieldLink RX5 12 "SettlingJars" "now" "LSettlingJars$State;") (by decide +kernel)) (fun _ h9 => h9) rfl dX5_jar_23 ?_
  refine va_get (ci := 4) (v := .ref (n1)) (C := RX4) (T := TX4) (N := 6) hx hb hts (by decide +kernel) hown hK hP 1 rfl rfl 0 (by decide) (hts (.fieldLink RX5 58 "SettlingJars$State" "settings" "LSettlingJars$Settings;") (by decide +kernel)) (fun _ h9 => h9) rfl dX5_jar_26 ?_
  refine z_ci (z_vrun (rest := []) (own := RX5) (As := [.int (nI (k1)), .ref (n1)]) hx hb hml hown hts hl.1 hK hP [6, 7, 2, 3, 4] rfl (metX2_property l D ac h0 g0 g n1 n2 n3 v w k1 (by omega)) gX5_jar_X2_property rfl 2 (by decide +kernel) ⟨rfl, rfl, Nat.le_of_ble_eq_true rfl, Nat.le_of_ble_eq_true rfl⟩ 6 2 rfl rfl rfl rfl rfl (Nat.le_of_ble_eq_true rfl) dX5_jar_29 ⟨Nat.zero_le _, Nat.zero_le _⟩) ?_
  exact z_iret hx hb hr hlocks (rfl) dX5_jar_32

set_option maxRecDepth 100000 in
set_option maxHeartbeats 4000000 in
theorem metX5_why_0 (l : Launch) (D : va_G) (ac : Nat → ClassId) (x0 : Nat) (n0 : Nat) (y0 : Nat) (ch : Nat) (sp0 : Nat) (n1 : Nat) (n2 : Nat) (n3 : Nat) (n4 : Nat) (n11 : Nat) (n12 : Nat) (tp : Int32) (fl : Int32) (v : Nat → Int32) (w : Nat → Int32) (jf : Nat → Option Nat) (h0 : Nat) (g0 : Nat) (g : Nat → Int32) (j1 : Nat) (s1 : Nat) (k1 : Nat) (hj : j1 < 3) (hs : s1 < 12) (hk : k1 < 4) (hjf : jf j1 = some h0) : Met l yX5_why wsX5_why ({ frames := 3, cells := 0, slots := 0, locals := 70 } : Room) (va_Pc [.ref (x0), .int (nI (j1)), .int (nI (s1)), .int (nI (k1))] (zW D ac [(x0, .inr (5, [.ref (n0), .ref (y0), .ref (ch), .ref (sp0)])), (n0, .inr (4, [.ref (n1), .ref (n4), .ref (n11), .ref (n12), .int (tp), .int (fl)])), (n1, .inr (3, [.ref (n2), .ref (n3)])), (n2, .inl (ac 0, 4, .inl (v))), (n3, .inl (ac 0, 4, .inl (w))), (n4, .inl (ac 2, 3, .inr (.inr (.inr (.inr (jf)))))), (h0, .inr (2, [.ref (g0)])), (g0, .inl (ac 0, 48, .inl (g)))])) (zRi (qWhy g v w s1 k1)) 0 0 (fun _ => False) := by
  refine z_ro (cc := cX5_why) (maxL := 4) (ret := (some .int)) (lv := [(0, .ref (x0)), (1, .int (nI (j1))), (2, .int (nI (s1))), (3, .int (nI (k1)))]) (by decide) rfl (Nat.le_of_ble_eq_true rfl) rfl ?_
  intro p e s m args below meth c ls hx hb hr hml hown hts hlocks hl hK hP
  refine lv_iload_n hx hb dX5_why_0 rfl (lv_at hl 1 rfl) ?_
  refine lv_iload_n hx hb dX5_why_1 rfl (lv_at hl 2 rfl) ?_
  refine z_cv (z_srun (rest := []) (own := RX5) (As := [.int (nI (j1)), .int (nI (s1))]) hx hb hml hown hts hl.1 hK hP [] rfl (metX5_needSlice_0 l D ac j1 s1 (by omega) (by omega)) gX5_why_X5_needSlice rfl 2 (by decide +kernel) ⟨rfl, rfl, Nat.le_of_ble_eq_true rfl, Nat.le_of_ble_eq_true rfl⟩ rfl rfl (Nat.le_of_ble_eq_true rfl) dX5_why_2 ⟨Nat.zero_le _, Nat.zero_le _⟩) ?_
  refine lv_iload_n hx hb dX5_why_5 rfl (lv_at hl 3 rfl) ?_
  refine lv_iconst (v := 4) hx hb dX5_why_6 (by decide) ?_
  refine z_cv (z_srun (rest := []) (own := RX5) (As := [.int (nI (k1)), .int (4)]) hx hb hml hown hts hl.1 hK hP [] rfl (metX5_needIndex_0 l D ac k1 4 (by omega) (by omega)) gX5_why_X5_needIndex rfl 2 (by decide +kernel) ⟨rfl, rfl, Nat.le_of_ble_eq_true rfl, Nat.le_of_ble_eq_true rfl⟩ rfl rfl (Nat.le_of_ble_eq_true rfl) dX5_why_7 ⟨Nat.zero_le _, Nat.zero_le _⟩) ?_
  refine lv_aload_n hx hb dX5_why_10 rfl (lv_at hl 0 rfl) ?_
  refine va_get (ci := 5) (v := .ref (n0)) (C := RX5) (T := TX5) (N := 4) hx hb hts (by decide +kernel) hown hK hP 0 rfl rfl 0 (by decide) (hts (.fieldLink RX5 12 "SettlingJars" "now" "LSettlingJars$State;") (by decide +kernel)) (fun _ h9 => h9) rfl dX5_why_11 ?_
  refine va_get (ci := 4) (v := .ref (n4)) (C := RX4) (T := TX4) (N := 6) hx hb hts (by decide +kernel) hown hK hP 1 rfl rfl 1 (by decide) (hts (.fieldLink RX5 71 "SettlingJars$State" "jars" "[LSettlingJars$Jar;") (by decide +kernel)) (fun _ h9 => h9) rfl dX5_why_14 ?_
  refine lv_iload_n hx hb dX5_why_17 rfl (lv_at hl 1 rfl) ?_
  refine z_aald hx hb hK hP 5 2 rfl rfl (j1) (congrArg nI (by omega)) (by omega) (by decide) (hjf) dX5_why_18 ?_
  refine lv_iload_n hx hb dX5_why_19 rfl (lv_at hl 2 rfl) ?_
  refine lv_iload_n hx hb dX5_why_20 rfl (lv_at hl 3 rfl) ?_
  refine lv_aload_n hx hb dX5_why_21 rfl (lv_at hl 0 rfl) ?_
  refine va_get (ci := 5) (v := .ref (n0)) (C := RX5) (T := TX5) (N := 4) hx hb hts (by decide +kernel) hown hK hP 0 rfl rfl 0 (by decide) (hts (.fieldLink RX5 12 "SettlingJars" "now" "LSettlingJars$State;") (by decide +kernel)) (fun _ h9 => h9) rfl dX5_why_22 ?_
  refine va_get (ci := 4) (v := .ref (n1)) (C := RX4) (T := TX4) (N := 6) hx hb hts (by decide +kernel) hown hK hP 1 rfl rfl 0 (by decide) (hts (.fieldLink RX5 58 "SettlingJars$State" "settings" "LSettlingJars$Settings;") (by decide +kernel)) (fun _ h9 => h9) rfl dX5_why_25 ?_
  refine z_ci (z_vrun (rest := []) (own := RX5) (As := [.int (nI (s1)), .int (nI (k1)), .ref (n1)]) hx hb hml hown hts hl.1 hK hP [6, 7, 2, 3, 4] rfl (metX2_reasonToStay l D ac h0 g0 g n1 n2 n3 v w s1 k1 (by omega) (by omega)) gX5_why_X2_reasonToStay rfl 3 (by decide +kernel) ⟨rfl, rfl, Nat.le_of_ble_eq_true rfl, Nat.le_of_ble_eq_true rfl⟩ 6 2 rfl rfl rfl rfl rfl (Nat.le_of_ble_eq_true rfl) dX5_why_28 ⟨Nat.zero_le _, Nat.zero_le _⟩) ?_
  exact z_iret hx hb hr hlocks (rfl) dX5_why_31

set_option maxRecDepth 100000 in
set_option maxHeartbeats 4000000 in
theorem metX5_purest_0 (l : Launch) (D : va_G) (ac : Nat → ClassId) (x0 : Nat) (n0 : Nat) (y0 : Nat) (ch : Nat) (sp0 : Nat) (n1 : Nat) (n2 : Nat) (n3 : Nat) (n4 : Nat) (n11 : Nat) (n12 : Nat) (tp : Int32) (fl : Int32) (v : Nat → Int32) (w : Nat → Int32) (jf : Nat → Option Nat) (h0 : Nat) (g0 : Nat) (g : Nat → Int32) (j1 : Nat) (k1 : Nat) (hj : j1 < 3) (hk : k1 < 4) (hjf : jf j1 = some h0) : Met l yX5_purest wsX5_purest ({ frames := 3, cells := 0, slots := 0, locals := 72 } : Room) (va_Pc [.ref (x0), .int (nI (j1)), .int (nI (k1))] (zW D ac [(x0, .inr (5, [.ref (n0), .ref (y0), .ref (ch), .ref (sp0)])), (n0, .inr (4, [.ref (n1), .ref (n4), .ref (n11), .ref (n12), .int (tp), .int (fl)])), (n1, .inr (3, [.ref (n2), .ref (n3)])), (n2, .inl (ac 0, 4, .inl (v))), (n3, .inl (ac 0, 4, .inl (w))), (n4, .inl (ac 2, 3, .inr (.inr (.inr (.inr (jf)))))), (h0, .inr (2, [.ref (g0)])), (g0, .inl (ac 0, 48, .inl (g)))])) (zRi ((qPu g k1 12).1)) 0 0 (fun _ => False) := by
  refine z_ro (cc := cX5_purest) (maxL := 3) (ret := (some .int)) (lv := [(0, .ref (x0)), (1, .int (nI (j1))), (2, .int (nI (k1)))]) (by decide) rfl (Nat.le_of_ble_eq_true rfl) rfl ?_
  intro p e s m args below meth c ls hx hb hr hml hown hts hlocks hl hK hP
  refine lv_iload_n hx hb dX5_purest_0 rfl (lv_at hl 1 rfl) ?_
  refine lv_iconst (v := 3) hx hb dX5_purest_1 (by decide) ?_
  refine z_cv (z_srun (rest := []) (own := RX5) (As := [.int (nI (j1)), .int (3)]) hx hb hml hown hts hl.1 hK hP [] rfl (metX5_needIndex_0 l D ac j1 3 (by omega) (by omega)) gX5_purest_X5_needIndex rfl 2 (by decide +kernel) ⟨rfl, rfl, Nat.le_of_ble_eq_true rfl, Nat.le_of_ble_eq_true rfl⟩ rfl rfl (Nat.le_of_ble_eq_true rfl) dX5_purest_2 ⟨Nat.zero_le _, Nat.zero_le _⟩) ?_
  refine lv_iload_n hx hb dX5_purest_5 rfl (lv_at hl 2 rfl) ?_
  refine lv_iconst (v := 4) hx hb dX5_purest_6 (by decide) ?_
  refine z_cv (z_srun (rest := []) (own := RX5) (As := [.int (nI (k1)), .int (4)]) hx hb hml hown hts hl.1 hK hP [] rfl (metX5_needIndex_0 l D ac k1 4 (by omega) (by omega)) gX5_purest_X5_needIndex rfl 2 (by decide +kernel) ⟨rfl, rfl, Nat.le_of_ble_eq_true rfl, Nat.le_of_ble_eq_true rfl⟩ rfl rfl (Nat.le_of_ble_eq_true rfl) dX5_purest_7 ⟨Nat.zero_le _, Nat.zero_le _⟩) ?_
  refine lv_aload_n hx hb dX5_purest_10 rfl (lv_at hl 0 rfl) ?_
  refine va_get (ci := 5) (v := .ref (n0)) (C := RX5) (T := TX5) (N := 4) hx hb hts (by decide +kernel) hown hK hP 0 rfl rfl 0 (by decide) (hts (.fieldLink RX5 12 "SettlingJars" "now" "LSettlingJars$State;") (by decide +kernel)) (fun _ h9 => h9) rfl dX5_purest_11 ?_
  refine va_get (ci := 4) (v := .ref (n4)) (C := RX4) (T := TX4) (N := 6) hx hb hts (by decide +kernel) hown hK hP 1 rfl rfl 1 (by decide) (hts (.fieldLink RX5 71 "SettlingJars$State" "jars" "[LSettlingJars$Jar;") (by decide +kernel)) (fun _ h9 => h9) rfl dX5_purest_14 ?_
  refine lv_iload_n hx hb dX5_purest_17 rfl (lv_at hl 1 rfl) ?_
  refine z_aald hx hb hK hP 5 2 rfl rfl (j1) (congrArg nI (by omega)) (by omega) (by decide) (hjf) dX5_purest_18 ?_
  refine lv_iload_n hx hb dX5_purest_19 rfl (lv_at hl 2 rfl) ?_
  refine z_ci (z_vrun (rest := []) (own := RX5) (As := [.int (nI (k1))]) hx hb hml hown hts hl.1 hK hP [6, 7] rfl (metX2_purestSlice l D ac h0 g0 g k1 (by omega)) gX5_purest_X2_purestSlice rfl 1 (by decide +kernel) ⟨rfl, rfl, Nat.le_of_ble_eq_true rfl, Nat.le_of_ble_eq_true rfl⟩ 6 2 rfl rfl rfl rfl rfl (Nat.le_of_ble_eq_true rfl) dX5_purest_20 ⟨Nat.zero_le _, Nat.zero_le _⟩) ?_
  exact z_iret hx hb hr hlocks (rfl) dX5_purest_23

set_option maxRecDepth 100000 in
set_option maxHeartbeats 4000000 in
theorem metX5_meanDepth_0 (l : Launch) (D : va_G) (ac : Nat → ClassId) (x0 : Nat) (n0 : Nat) (y0 : Nat) (ch : Nat) (sp0 : Nat) (n1 : Nat) (n2 : Nat) (n3 : Nat) (n4 : Nat) (n11 : Nat) (n12 : Nat) (tp : Int32) (fl : Int32) (v : Nat → Int32) (w : Nat → Int32) (jf : Nat → Option Nat) (h0 : Nat) (g0 : Nat) (g : Nat → Int32) (j1 : Nat) (hj : j1 < 3) (hjf : jf j1 = some h0) : Met l yX5_meanDepth wsX5_meanDepth ({ frames := 4, cells := 0, slots := 0, locals := 88 } : Room) (va_Pc [.ref (x0), .int (nI (j1))] (zW D ac [(x0, .inr (5, [.ref (n0), .ref (y0), .ref (ch), .ref (sp0)])), (n0, .inr (4, [.ref (n1), .ref (n4), .ref (n11), .ref (n12), .int (tp), .int (fl)])), (n1, .inr (3, [.ref (n2), .ref (n3)])), (n2, .inl (ac 0, 4, .inl (v))), (n3, .inl (ac 0, 4, .inl (w))), (n4, .inl (ac 2, 3, .inr (.inr (.inr (.inr (jf)))))), (h0, .inr (2, [.ref (g0)])), (g0, .inl (ac 0, 48, .inl (g)))])) (zRd (qMean g)) 0 0 (fun _ => False) := by
  refine z_ro (cc := cX5_meanDepth) (maxL := 3) (ret := (some .double)) (lv := [(0, .ref (x0)), (1, .int (nI (j1)))]) (by decide) rfl (Nat.le_of_ble_eq_true rfl) rfl ?_
  intro p e s m args below meth c ls hx hb hr hml hown hts hlocks hl hK hP
  refine lv_iload_n hx hb dX5_meanDepth_0 rfl (lv_at hl 1 rfl) ?_
  refine lv_iconst (v := 3) hx hb dX5_meanDepth_1 (by decide) ?_
  refine z_cv (z_srun (rest := []) (own := RX5) (As := [.int (nI (j1)), .int (3)]) hx hb hml hown hts hl.1 hK hP [] rfl (metX5_needIndex_0 l D ac j1 3 (by omega) (by omega)) gX5_meanDepth_X5_needIndex rfl 2 (by decide +kernel) ⟨rfl, rfl, Nat.le_of_ble_eq_true rfl, Nat.le_of_ble_eq_true rfl⟩ rfl rfl (Nat.le_of_ble_eq_true rfl) dX5_meanDepth_2 ⟨Nat.zero_le _, Nat.zero_le _⟩) ?_
  refine lv_aload_n hx hb dX5_meanDepth_5 rfl (lv_at hl 0 rfl) ?_
  refine va_get (ci := 5) (v := .ref (n0)) (C := RX5) (T := TX5) (N := 4) hx hb hts (by decide +kernel) hown hK hP 0 rfl rfl 0 (by decide) (hts (.fieldLink RX5 12 "SettlingJars" "now" "LSettlingJars$State;") (by decide +kernel)) (fun _ h9 => h9) rfl dX5_meanDepth_6 ?_
  refine va_get (ci := 4) (v := .ref (n4)) (C := RX4) (T := TX4) (N := 6) hx hb hts (by decide +kernel) hown hK hP 1 rfl rfl 1 (by decide) (hts (.fieldLink RX5 71 "SettlingJars$State" "jars" "[LSettlingJars$Jar;") (by decide +kernel)) (fun _ h9 => h9) rfl dX5_meanDepth_9 ?_
  refine lv_iload_n hx hb dX5_meanDepth_12 rfl (lv_at hl 1 rfl) ?_
  refine z_aald hx hb hK hP 5 2 rfl rfl (j1) (congrArg nI (by omega)) (by omega) (by decide) (hjf) dX5_meanDepth_13 ?_
  refine z_ci (z_vrun (rest := []) (own := RX5) (As := []) hx hb hml hown hts hl.1 hK hP [6, 7] rfl (metX2_all l D ac h0 g0 g ) gX5_meanDepth_X2_all rfl 0 (by decide +kernel) ⟨rfl, rfl, Nat.le_of_ble_eq_true rfl, Nat.le_of_ble_eq_true rfl⟩ 6 2 rfl rfl rfl rfl rfl (Nat.le_of_ble_eq_true rfl) dX5_meanDepth_14 ⟨Nat.zero_le _, Nat.zero_le _⟩) ?_
  refine lv_istore_n (lv' := [(2, .int (qAll g)), (0, .ref (x0)), (1, .int (nI (j1)))]) hx hb dX5_meanDepth_17 rfl hl (by decide) rfl (fun ls hl => ?_)
  refine lv_iload_n hx hb dX5_meanDepth_18 rfl (lv_at hl 0 rfl) ?_
  refine lv_if_ne (tgt := 26) hx hb dX5_meanDepth_19 (by decide) (fun c_19 => ?_) (fun c_19 => ?_)
  · refine lv_aload_n hx hb dX5_meanDepth_26 rfl (lv_at hl 1 rfl) ?_
    refine va_get (ci := 5) (v := .ref (n0)) (C := RX5) (T := TX5) (N := 4) hx hb hts (by decide +kernel) hown hK hP 0 rfl rfl 0 (by decide) (hts (.fieldLink RX5 12 "SettlingJars" "now" "LSettlingJars$State;") (by decide +kernel)) (fun _ h9 => h9) rfl dX5_meanDepth_27 ?_
    refine va_get (ci := 4) (v := .ref (n4)) (C := RX4) (T := TX4) (N := 6) hx hb hts (by decide +kernel) hown hK hP 1 rfl rfl 1 (by decide) (hts (.fieldLink RX5 71 "SettlingJars$State" "jars" "[LSettlingJars$Jar;") (by decide +kernel)) (fun _ h9 => h9) rfl dX5_meanDepth_30 ?_
    refine lv_iload_n hx hb dX5_meanDepth_33 rfl (lv_at hl 2 rfl) ?_
    refine z_aald hx hb hK hP 5 2 rfl rfl (j1) (congrArg nI (by omega)) (by omega) (by decide) (hjf) dX5_meanDepth_34 ?_
    refine z_ci (z_vrun (rest := []) (own := RX5) (As := []) hx hb hml hown hts hl.1 hK hP [6, 7] rfl (metX2_sumOfDepths l D ac h0 g0 g ) gX5_meanDepth_X2_sumOfDepths rfl 0 (by decide +kernel) ⟨rfl, rfl, Nat.le_of_ble_eq_true rfl, Nat.le_of_ble_eq_true rfl⟩ 6 2 rfl rfl rfl rfl rfl (Nat.le_of_ble_eq_true rfl) dX5_meanDepth_35 ⟨Nat.zero_le _, Nat.zero_le _⟩) ?_
    refine lv_i2d hx hb dX5_meanDepth_38 ?_
    refine lv_iload_n hx hb dX5_meanDepth_39 rfl (lv_at hl 0 rfl) ?_
    refine lv_i2d hx hb dX5_meanDepth_40 ?_
    refine lv_ddiv hx hb dX5_meanDepth_41 (fp_nn_div _ c_19) ?_
    exact z_dret hx hb hr hlocks ((if_neg c_19).symm) dX5_meanDepth_42
  · refine lv_dconst0 hx hb dX5_meanDepth_22 ?_
    refine lv_goto (tgt := 42) hx hb dX5_meanDepth_23 (by decide) ?_
    exact z_dret hx hb hr hlocks ((if_pos c_19).symm) dX5_meanDepth_42

set_option maxRecDepth 100000 in
set_option maxHeartbeats 4000000 in
theorem metX5_setting_0 (l : Launch) (D : va_G) (ac : Nat → ClassId) (x0 : Nat) (n0 : Nat) (y0 : Nat) (ch : Nat) (sp0 : Nat) (n1 : Nat) (n2 : Nat) (n3 : Nat) (n4 : Nat) (n5 : Nat) (n6 : Nat) (n7 : Nat) (n8 : Nat) (n9 : Nat) (n10 : Nat) (n11 : Nat) (n12 : Nat) (v : Nat → Int32) (w : Nat → Int32) (ga : Nat → Int32) (gb : Nat → Int32) (gc : Nat → Int32) (pd : Nat → Int32) (dr : Nat → Int32) (tp : Int32) (fl : Int32) (k1 : Nat) (hk : k1 < 4) : Met l yX5_setting wsX5_setting ({ frames := 1, cells := 0, slots := 0, locals := 21 } : Room) (va_Pc [.ref (x0), .int (nI (k1))] (zW D ac [(x0, .inr (5, [.ref (n0), .ref (y0), .ref (ch), .ref (sp0)])), (n0, .inr (4, [.ref (n1), .ref (n4), .ref (n11), .ref (n12), .int (tp), .int (fl)])), (n1, .inr (3, [.ref (n2), .ref (n3)])), (n2, .inl (ac 0, 4, .inl (v))), (n3, .inl (ac 0, 4, .inl (w))), (n4, .inl (ac 2, 3, .inr (.inr (.inr (.inr (zJ3 n5 n6 n7)))))), (n5, .inr (2, [.ref (n8)])), (n8, .inl (ac 0, 48, .inl (ga))), (n6, .inr (2, [.ref (n9)])), (n9, .inl (ac 0, 48, .inl (gb))), (n7, .inr (2, [.ref (n10)])), (n10, .inl (ac 0, 48, .inl (gc))), (n11, .inl (ac 0, 4, .inl (pd))), (n12, .inl (ac 0, 4, .inl (dr)))])) (zRi (v k1)) 0 0 (fun _ => False) := by
  refine z_ro (cc := cX5_setting) (maxL := 2) (ret := (some .int)) (lv := [(0, .ref (x0)), (1, .int (nI (k1)))]) (by decide) rfl (Nat.le_of_ble_eq_true rfl) rfl ?_
  intro p e s m args below meth c ls hx hb hr hml hown hts hlocks hl hK hP
  refine lv_iload_n hx hb dX5_setting_0 rfl (lv_at hl 1 rfl) ?_
  refine lv_iconst (v := 4) hx hb dX5_setting_1 (by decide) ?_
  refine z_cv (z_srun (rest := []) (own := RX5) (As := [.int (nI (k1)), .int (4)]) hx hb hml hown hts hl.1 hK hP [] rfl (metX5_needIndex_0 l D ac k1 4 (by omega) (by omega)) gX5_setting_X5_needIndex rfl 2 (by decide +kernel) ⟨rfl, rfl, Nat.le_of_ble_eq_true rfl, Nat.le_of_ble_eq_true rfl⟩ rfl rfl (Nat.le_of_ble_eq_true rfl) dX5_setting_2 ⟨Nat.zero_le _, Nat.zero_le _⟩) ?_
  refine lv_aload_n hx hb dX5_setting_5 rfl (lv_at hl 0 rfl) ?_
  refine va_get (ci := 5) (v := .ref (n0)) (C := RX5) (T := TX5) (N := 4) hx hb hts (by decide +kernel) hown hK hP 0 rfl rfl 0 (by decide) (hts (.fieldLink RX5 12 "SettlingJars" "now" "LSettlingJars$State;") (by decide +kernel)) (fun _ h9 => h9) rfl dX5_setting_6 ?_
  refine va_get (ci := 4) (v := .ref (n1)) (C := RX4) (T := TX4) (N := 6) hx hb hts (by decide +kernel) hown hK hP 1 rfl rfl 0 (by decide) (hts (.fieldLink RX5 58 "SettlingJars$State" "settings" "LSettlingJars$Settings;") (by decide +kernel)) (fun _ h9 => h9) rfl dX5_setting_9 ?_
  refine va_get (ci := 3) (v := .ref (n2)) (C := RX3) (T := TX3) (N := 2) hx hb hts (by decide +kernel) hown hK hP 2 rfl rfl 0 (by decide) (hts (.fieldLink RX5 62 "SettlingJars$Settings" "values" "[I") (by decide +kernel)) (fun _ h9 => h9) rfl dX5_setting_12 ?_
  refine lv_iload_n hx hb dX5_setting_15 rfl (lv_at hl 1 rfl) ?_
  refine z_iald hx hb hK hP 3 rfl (k1) (rfl) (by omega) (by decide) dX5_setting_16 ?_
  exact z_iret hx hb hr hlocks (rfl) dX5_setting_17

set_option maxRecDepth 100000 in
set_option maxHeartbeats 4000000 in
theorem metX5_grains_0 (l : Launch) (D : va_G) (ac : Nat → ClassId) (x0 : Nat) (n0 : Nat) (y0 : Nat) (ch : Nat) (sp0 : Nat) (n1 : Nat) (n2 : Nat) (n3 : Nat) (n4 : Nat) (n5 : Nat) (n6 : Nat) (n7 : Nat) (n8 : Nat) (n9 : Nat) (n10 : Nat) (n11 : Nat) (n12 : Nat) (v : Nat → Int32) (w : Nat → Int32) (ga : Nat → Int32) (gb : Nat → Int32) (gc : Nat → Int32) (pd : Nat → Int32) (dr : Nat → Int32) (tp : Int32) (fl : Int32) (k1 : Nat) (k2 : Nat) (hk : k1 < 4) (h_k2 : k2 < 4) : Met l yX5_grains wsX5_grains ({ frames := 3, cells := 0, slots := 0, locals := 68 } : Room) (va_Pc [.ref (x0), .int (nI (k1)), .int (nI (k2))] (zW D ac [(x0, .inr (5, [.ref (n0), .ref (y0), .ref (ch), .ref (sp0)])), (n0, .inr (4, [.ref (n1), .ref (n4), .ref (n11), .ref (n12), .int (tp), .int (fl)])), (n1, .inr (3, [.ref (n2), .ref (n3)])), (n2, .inl (ac 0, 4, .inl (v))), (n3, .inl (ac 0, 4, .inl (w))), (n4, .inl (ac 2, 3, .inr (.inr (.inr (.inr (zJ3 n5 n6 n7)))))), (n5, .inr (2, [.ref (n8)])), (n8, .inl (ac 0, 48, .inl (ga))), (n6, .inr (2, [.ref (n9)])), (n9, .inl (ac 0, 48, .inl (gb))), (n7, .inr (2, [.ref (n10)])), (n10, .inl (ac 0, 48, .inl (gc))), (n11, .inl (ac 0, 4, .inl (pd))), (n12, .inl (ac 0, 4, .inl (dr)))])) (zRi (xGr w ga gb gc pd dr k1 k2)) 0 0 (fun _ => False) := by
  refine z_ro (cc := cX5_grains) (maxL := 3) (ret := (some .int)) (lv := [(0, .ref (x0)), (1, .int (nI (k1))), (2, .int (nI (k2)))]) (by decide) rfl (Nat.le_of_ble_eq_true rfl) rfl ?_
  intro p e s m args below meth c ls hx hb hr hml hown hts hlocks hl hK hP
  refine lv_iload_n hx hb dX5_grains_0 rfl (lv_at hl 1 rfl) ?_
  refine lv_iconst (v := 4) hx hb dX5_grains_1 (by decide) ?_
  refine z_cv (z_srun (rest := []) (own := RX5) (As := [.int (nI (k1)), .int (4)]) hx hb hml hown hts hl.1 hK hP [] rfl (metX5_needIndex_0 l D ac k1 4 (by omega) (by omega)) gX5_grains_X5_needIndex rfl 2 (by decide +kernel) ⟨rfl, rfl, Nat.le_of_ble_eq_true rfl, Nat.le_of_ble_eq_true rfl⟩ rfl rfl (Nat.le_of_ble_eq_true rfl) dX5_grains_2 ⟨Nat.zero_le _, Nat.zero_le _⟩) ?_
  refine lv_iload_n hx hb dX5_grains_5 rfl (lv_at hl 2 rfl) ?_
  refine lv_iconst (v := 0) hx hb dX5_grains_6 (by decide) ?_
  refine lv_iconst (v := 3) hx hb dX5_grains_7 (by decide) ?_
  refine z_cv (z_srun (rest := []) (own := RX5) (As := [.int (nI (k2)), .int (0), .int (3)]) hx hb hml hown hts hl.1 hK hP [] rfl (metX5_needRange_0 l D ac (nI (k2)) 0 3 (z_in (n := 3) (by omega))) gX5_grains_X5_needRange rfl 3 (by decide +kernel) ⟨rfl, rfl, Nat.le_of_ble_eq_true rfl, Nat.le_of_ble_eq_true rfl⟩ rfl rfl (Nat.le_of_ble_eq_true rfl) dX5_grains_8 ⟨Nat.zero_le _, Nat.zero_le _⟩) ?_
  refine lv_iload_n hx hb dX5_grains_11 rfl (lv_at hl 2 rfl) ?_
  obtain rfl | rfl | rfl | rfl := z_cases4 h_k2
  · refine lv_tableIn (off := 28) (tgt := 40) hx hb dX5_grains_12 (by decide) (by decide) (by decide) (by decide) ?_
    refine lv_aload_n hx hb dX5_grains_40 rfl (lv_at hl 0 rfl) ?_
    refine va_get (ci := 5) (v := .ref (n0)) (C := RX5) (T := TX5) (N := 4) hx hb hts (by decide +kernel) hown hK hP 0 rfl rfl 0 (by decide) (hts (.fieldLink RX5 12 "SettlingJars" "now" "LSettlingJars$State;") (by decide +kernel)) (fun _ h9 => h9) rfl dX5_grains_41 ?_
    refine va_get (ci := 4) (v := .ref (n11)) (C := RX4) (T := TX4) (N := 6) hx hb hts (by decide +kernel) hown hK hP 1 rfl rfl 2 (by decide) (hts (.fieldLink RX5 82 "SettlingJars$State" "poured" "[I") (by decide +kernel)) (fun _ h9 => h9) rfl dX5_grains_44 ?_
    refine lv_iload_n hx hb dX5_grains_47 rfl (lv_at hl 1 rfl) ?_
    refine z_iald hx hb hK hP 12 rfl (k1) (rfl) (by omega) (by decide) dX5_grains_48 ?_
    exact z_iret hx hb hr hlocks (rfl) dX5_grains_49
  · refine lv_tableIn (off := 38) (tgt := 50) hx hb dX5_grains_12 (by decide) (by decide) (by decide) (by decide) ?_
    refine lv_aload_n hx hb dX5_grains_50 rfl (lv_at hl 0 rfl) ?_
    refine va_get (ci := 5) (v := .ref (n0)) (C := RX5) (T := TX5) (N := 4) hx hb hts (by decide +kernel) hown hK hP 0 rfl rfl 0 (by decide) (hts (.fieldLink RX5 12 "SettlingJars" "now" "LSettlingJars$State;") (by decide +kernel)) (fun _ h9 => h9) rfl dX5_grains_51 ?_
    refine va_get (ci := 4) (v := .ref (n12)) (C := RX4) (T := TX4) (N := 6) hx hb hts (by decide +kernel) hown hK hP 1 rfl rfl 3 (by decide) (hts (.fieldLink RX5 97 "SettlingJars$State" "drawn" "[I") (by decide +kernel)) (fun _ h9 => h9) rfl dX5_grains_54 ?_
    refine lv_iload_n hx hb dX5_grains_57 rfl (lv_at hl 1 rfl) ?_
    refine z_iald hx hb hK hP 13 rfl (k1) (rfl) (by omega) (by decide) dX5_grains_58 ?_
    exact z_iret hx hb hr hlocks (rfl) dX5_grains_59
  · refine lv_tableIn (off := 48) (tgt := 60) hx hb dX5_grains_12 (by decide) (by decide) (by decide) (by decide) ?_
    refine lv_aload_n hx hb dX5_grains_60 rfl (lv_at hl 0 rfl) ?_
    refine va_get (ci := 5) (v := .ref (n0)) (C := RX5) (T := TX5) (N := 4) hx hb hts (by decide +kernel) hown hK hP 0 rfl rfl 0 (by decide) (hts (.fieldLink RX5 12 "SettlingJars" "now" "LSettlingJars$State;") (by decide +kernel)) (fun _ h9 => h9) rfl dX5_grains_61 ?_
    refine lv_iload_n hx hb dX5_grains_64 rfl (lv_at hl 1 rfl) ?_
    refine z_ci (z_vrun (rest := []) (own := RX5) (As := [.int (nI (k1))]) hx hb hml hown hts hl.1 hK hP [1, 2, 3, 4, 5, 6, 7, 8, 9, 10, 11, 12, 13] rfl (metX4_allOf l D ac n0 n1 n2 n3 n4 n5 n6 n7 n8 n9 n10 n11 n12 v w ga gb gc pd dr tp fl k1 (by omega)) gX5_grains_X4_allOf rfl 1 (by decide +kernel) ⟨rfl, rfl, Nat.le_of_ble_eq_true rfl, Nat.le_of_ble_eq_true rfl⟩ 1 4 rfl rfl rfl rfl rfl (Nat.le_of_ble_eq_true rfl) dX5_grains_65 ⟨Nat.zero_le _, Nat.zero_le _⟩) ?_
    exact z_iret hx hb hr hlocks (rfl) dX5_grains_68
  · refine lv_tableOut (tgt := 69) hx hb dX5_grains_12 (by decide) (by decide) ?_
    refine lv_aload_n hx hb dX5_grains_69 rfl (lv_at hl 0 rfl) ?_
    refine va_get (ci := 5) (v := .ref (n0)) (C := RX5) (T := TX5) (N := 4) hx hb hts (by decide +kernel) hown hK hP 0 rfl rfl 0 (by decide) (hts (.fieldLink RX5 12 "SettlingJars" "now" "LSettlingJars$State;") (by decide +kernel)) (fun _ h9 => h9) rfl dX5_grains_70 ?_
    refine va_get (ci := 4) (v := .ref (n1)) (C := RX4) (T := TX4) (N := 6) hx hb hts (by decide +kernel) hown hK hP 1 rfl rfl 0 (by decide) (hts (.fieldLink RX5 58 "SettlingJars$State" "settings" "LSettlingJars$Settings;") (by decide +kernel)) (fun _ h9 => h9) rfl dX5_grains_73 ?_
    refine va_get (ci := 3) (v := .ref (n3)) (C := RX3) (T := TX3) (N := 2) hx hb hts (by decide +kernel) hown hK hP 2 rfl rfl 1 (by decide) (hts (.fieldLink RX5 65 "SettlingJars$Settings" "speeds" "[I") (by decide +kernel)) (fun _ h9 => h9) rfl dX5_grains_76 ?_
    refine lv_iload_n hx hb dX5_grains_79 rfl (lv_at hl 1 rfl) ?_
    refine z_iald hx hb hK hP 4 rfl (k1) (rfl) (by omega) (by decide) dX5_grains_80 ?_
    exact z_iret hx hb hr hlocks (rfl) dX5_grains_81

set_option maxRecDepth 100000 in
set_option maxHeartbeats 4000000 in
theorem metX5_count_0 (l : Launch) (D : va_G) (ac : Nat → ClassId) (x0 : Nat) (n0 : Nat) (y0 : Nat) (ch : Nat) (sp0 : Nat) (n1 : Nat) (n2 : Nat) (n3 : Nat) (n4 : Nat) (n5 : Nat) (n6 : Nat) (n7 : Nat) (n8 : Nat) (n9 : Nat) (n10 : Nat) (n11 : Nat) (n12 : Nat) (v : Nat → Int32) (w : Nat → Int32) (ga : Nat → Int32) (gb : Nat → Int32) (gc : Nat → Int32) (pd : Nat → Int32) (dr : Nat → Int32) (tp : Int32) (fl : Int32) (y1 : Nat) (hf : Nat → Option Nat) (od : Nat) (sz1 : Nat) (k1 : Nat) (h_k1 : k1 < 6) : Met l yX5_count wsX5_count ({ frames := 5, cells := 0, slots := 0, locals := 110 } : Room) (va_Pc [.ref (x0), .int (nI (k1))] (zW D ac [(x0, .inr (5, [.ref (n0), .ref (y0), .ref (ch), .ref (sp0)])), (n0, .inr (4, [.ref (n1), .ref (n4), .ref (n11), .ref (n12), .int (tp), .int (fl)])), (n1, .inr (3, [.ref (n2), .ref (n3)])), (n2, .inl (ac 0, 4, .inl (v))), (n3, .inl (ac 0, 4, .inl (w))), (n4, .inl (ac 2, 3, .inr (.inr (.inr (.inr (zJ3 n5 n6 n7)))))), (n5, .inr (2, [.ref (n8)])), (n8, .inl (ac 0, 48, .inl (ga))), (n6, .inr (2, [.ref (n9)])), (n9, .inl (ac 0, 48, .inl (gb))), (n7, .inr (2, [.ref (n10)])), (n10, .inl (ac 0, 48, .inl (gc))), (n11, .inl (ac 0, 4, .inl (pd))), (n12, .inl (ac 0, 4, .inl (dr))), (y0, .inr (1, [.ref (y1), .int (nI (od)), .int (nI (sz1))])), (y1, .inl (ac 3, 6, .inr (.inr (.inr (.inr (hf))))))])) (zRi (xCnt v ga gb gc tp fl sz1 k1)) 0 0 (fun _ => False) := by
  refine z_ro (cc := cX5_count) (maxL := 2) (ret := (some .int)) (lv := [(0, .ref (x0)), (1, .int (nI (k1)))]) (by decide) rfl (Nat.le_of_ble_eq_true rfl) rfl ?_
  intro p e s m args below meth c ls hx hb hr hml hown hts hlocks hl hK hP
  refine lv_iload_n hx hb dX5_count_0 rfl (lv_at hl 1 rfl) ?_
  refine lv_iconst (v := 0) hx hb dX5_count_1 (by decide) ?_
  refine lv_iconst (v := 5) hx hb dX5_count_2 (by decide) ?_
  refine z_cv (z_srun (rest := []) (own := RX5) (As := [.int (nI (k1)), .int (0), .int (5)]) hx hb hml hown hts hl.1 hK hP [] rfl (metX5_needRange_0 l D ac (nI (k1)) 0 5 (z_in (n := 5) (by omega))) gX5_count_X5_needRange rfl 3 (by decide +kernel) ⟨rfl, rfl, Nat.le_of_ble_eq_true rfl, Nat.le_of_ble_eq_true rfl⟩ rfl rfl (Nat.le_of_ble_eq_true rfl) dX5_count_3 ⟨Nat.zero_le _, Nat.zero_le _⟩) ?_
  refine lv_iload_n hx hb dX5_count_6 rfl (lv_at hl 1 rfl) ?_
  obtain rfl | rfl | rfl | rfl | rfl | rfl := z_cases6 h_k1
  · refine lv_tableIn (off := 33) (tgt := 40) hx hb dX5_count_7 (by decide) (by decide) (by decide) (by decide) ?_
    refine lv_aload_n hx hb dX5_count_40 rfl (lv_at hl 0 rfl) ?_
    refine va_get (ci := 5) (v := .ref (n0)) (C := RX5) (T := TX5) (N := 4) hx hb hts (by decide +kernel) hown hK hP 0 rfl rfl 0 (by decide) (hts (.fieldLink RX5 12 "SettlingJars" "now" "LSettlingJars$State;") (by decide +kernel)) (fun _ h9 => h9) rfl dX5_count_41 ?_
    refine va_get (ci := 4) (v := .int (tp)) (C := RX4) (T := TX4) (N := 6) hx hb hts (by decide +kernel) hown hK hP 1 rfl rfl 4 (by decide) (hts (.fieldLink RX5 120 "SettlingJars$State" "steps" "I") (by decide +kernel)) (fun _ h9 => h9) rfl dX5_count_44 ?_
    exact z_iret hx hb hr hlocks (rfl) dX5_count_47
  · refine lv_tableIn (off := 41) (tgt := 48) hx hb dX5_count_7 (by decide) (by decide) (by decide) (by decide) ?_
    refine lv_aload_n hx hb dX5_count_48 rfl (lv_at hl 0 rfl) ?_
    refine va_get (ci := 5) (v := .ref (n0)) (C := RX5) (T := TX5) (N := 4) hx hb hts (by decide +kernel) hown hK hP 0 rfl rfl 0 (by decide) (hts (.fieldLink RX5 12 "SettlingJars" "now" "LSettlingJars$State;") (by decide +kernel)) (fun _ h9 => h9) rfl dX5_count_49 ?_
    refine z_ci (z_vrun (rest := []) (own := RX5) (As := []) hx hb hml hown hts hl.1 hK hP [1, 2, 3, 4, 5, 6, 7, 8, 9, 10, 11, 12, 13] rfl (metX4_all l D ac n0 n1 n2 n3 n4 n5 n6 n7 n8 n9 n10 n11 n12 v w ga gb gc pd dr tp fl ) gX5_count_X4_all rfl 0 (by decide +kernel) ⟨rfl, rfl, Nat.le_of_ble_eq_true rfl, Nat.le_of_ble_eq_true rfl⟩ 1 4 rfl rfl rfl rfl rfl (Nat.le_of_ble_eq_true rfl) dX5_count_52 ⟨Nat.zero_le _, Nat.zero_le _⟩) ?_
    exact z_iret hx hb hr hlocks (rfl) dX5_count_55
  · refine lv_tableIn (off := 49) (tgt := 56) hx hb dX5_count_7 (by decide) (by decide) (by decide) (by decide) ?_
    refine lv_aload_n hx hb dX5_count_56 rfl (lv_at hl 0 rfl) ?_
    refine va_get (ci := 5) (v := .ref (n0)) (C := RX5) (T := TX5) (N := 4) hx hb hts (by decide +kernel) hown hK hP 0 rfl rfl 0 (by decide) (hts (.fieldLink RX5 12 "SettlingJars" "now" "LSettlingJars$State;") (by decide +kernel)) (fun _ h9 => h9) rfl dX5_count_57 ?_
    refine z_ci (z_vrun (rest := []) (own := RX5) (As := []) hx hb hml hown hts hl.1 hK hP [1, 2, 3, 4, 5, 6, 7, 8, 9, 10, 11, 12, 13] rfl (metX4_packedSlices l D ac n0 n1 n2 n3 n4 n5 n6 n7 n8 n9 n10 n11 n12 v w ga gb gc pd dr tp fl ) gX5_count_X4_packedSlices rfl 0 (by decide +kernel) ⟨rfl, rfl, Nat.le_of_ble_eq_true rfl, Nat.le_of_ble_eq_true rfl⟩ 1 4 rfl rfl rfl rfl rfl (Nat.le_of_ble_eq_true rfl) dX5_count_60 ⟨Nat.zero_le _, Nat.zero_le _⟩) ?_
    exact z_iret hx hb hr hlocks (rfl) dX5_count_63
  · refine lv_tableIn (off := 57) (tgt := 64) hx hb dX5_count_7 (by decide) (by decide) (by decide) (by decide) ?_
    refine lv_aload_n hx hb dX5_count_64 rfl (lv_at hl 0 rfl) ?_
    refine va_get (ci := 5) (v := .ref (n0)) (C := RX5) (T := TX5) (N := 4) hx hb hts (by decide +kernel) hown hK hP 0 rfl rfl 0 (by decide) (hts (.fieldLink RX5 12 "SettlingJars" "now" "LSettlingJars$State;") (by decide +kernel)) (fun _ h9 => h9) rfl dX5_count_65 ?_
    refine z_ci (z_vrun (rest := []) (own := RX5) (As := []) hx hb hml hown hts hl.1 hK hP [1, 2, 3, 4, 5, 6, 7, 8, 9, 10, 11, 12, 13] rfl (metX4_clearSlices l D ac n0 n1 n2 n3 n4 n5 n6 n7 n8 n9 n10 n11 n12 v w ga gb gc pd dr tp fl ) gX5_count_X4_clearSlices rfl 0 (by decide +kernel) ⟨rfl, rfl, Nat.le_of_ble_eq_true rfl, Nat.le_of_ble_eq_true rfl⟩ 1 4 rfl rfl rfl rfl rfl (Nat.le_of_ble_eq_true rfl) dX5_count_68 ⟨Nat.zero_le _, Nat.zero_le _⟩) ?_
    exact z_iret hx hb hr hlocks (rfl) dX5_count_71
  · refine lv_tableIn (off := 65) (tgt := 72) hx hb dX5_count_7 (by decide) (by decide) (by decide) (by decide) ?_
    refine lv_aload_n hx hb dX5_count_72 rfl (lv_at hl 0 rfl) ?_
    refine va_get (ci := 5) (v := .ref (n0)) (C := RX5) (T := TX5) (N := 4) hx hb hts (by decide +kernel) hown hK hP 0 rfl rfl 0 (by decide) (hts (.fieldLink RX5 12 "SettlingJars" "now" "LSettlingJars$State;") (by decide +kernel)) (fun _ h9 => h9) rfl dX5_count_73 ?_
    refine va_get (ci := 4) (v := .int (fl)) (C := RX4) (T := TX4) (N := 6) hx hb hts (by decide +kernel) hown hK hP 1 rfl rfl 5 (by decide) (hts (.fieldLink RX5 133 "SettlingJars$State" "fallen" "I") (by decide +kernel)) (fun _ h9 => h9) rfl dX5_count_76 ?_
    exact z_iret hx hb hr hlocks (rfl) dX5_count_79
  · refine lv_tableOut (tgt := 80) hx hb dX5_count_7 (by decide) (by decide) ?_
    refine lv_aload_n hx hb dX5_count_80 rfl (lv_at hl 0 rfl) ?_
    refine va_get (ci := 5) (v := .ref (y0)) (C := RX5) (T := TX5) (N := 4) hx hb hts (by decide +kernel) hown hK hP 0 rfl rfl 1 (by decide) (hts (.fieldLink RX5 19 "SettlingJars" "history" "LSettlingJars$History;") (by decide +kernel)) (fun _ h9 => h9) rfl dX5_count_81 ?_
    refine z_ci (z_vrun (rest := []) (own := RX5) (As := []) hx hb hml hown hts hl.1 hK hP [14, 15] rfl (metX1_size l D ac y0 y1 hf od sz1 ) gX5_count_X1_size rfl 0 (by decide +kernel) ⟨rfl, rfl, Nat.le_of_ble_eq_true rfl, Nat.le_of_ble_eq_true rfl⟩ 14 1 rfl rfl rfl rfl rfl (Nat.le_of_ble_eq_true rfl) dX5_count_84 ⟨Nat.zero_le _, Nat.zero_le _⟩) ?_
    exact z_iret hx hb hr hlocks (rfl) dX5_count_87

