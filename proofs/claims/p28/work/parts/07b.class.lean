set_option maxRecDepth 100000 in
set_option maxHeartbeats 4000000 in
theorem metX4_clearSlices (l : Launch) (D : va_G) (ac : Nat → ClassId) (n0 : Nat) (n1 : Nat) (n2 : Nat) (n3 : Nat) (n4 : Nat) (n5 : Nat) (n6 : Nat) (n7 : Nat) (n8 : Nat) (n9 : Nat) (n10 : Nat) (n11 : Nat) (n12 : Nat) (v : Nat → Int32) (w : Nat → Int32) (ga : Nat → Int32) (gb : Nat → Int32) (gc : Nat → Int32) (pd : Nat → Int32) (dr : Nat → Int32) (tp : Int32) (fl : Int32)  : Met l yX4_clearSlices wsX4_clearSlices ({ frames := 3, cells := 0, slots := 0, locals := 68 } : Room) (va_Pc [.ref (n0)] (zW D ac [(n0, .inr (4, [.ref (n1), .ref (n4), .ref (n11), .ref (n12), .int (tp), .int (fl)])), (n1, .inr (3, [.ref (n2), .ref (n3)])), (n2, .inl (ac 0, 4, .inl (v))), (n3, .inl (ac 0, 4, .inl (w))), (n4, .inl (ac 2, 3, .inr (.inr (.inr (.inr (zJ3 n5 n6 n7)))))), (n5, .inr (2, [.ref (n8)])), (n8, .inl (ac 0, 48, .inl (ga))), (n6, .inr (2, [.ref (n9)])), (n9, .inl (ac 0, 48, .inl (gb))), (n7, .inr (2, [.ref (n10)])), (n10, .inl (ac 0, 48, .inl (gc))), (n11, .inl (ac 0, 4, .inl (pd))), (n12, .inl (ac 0, 4, .inl (dr)))])) (zRi ((0 : Int32) + qClrs ga (v 2) 12 + qClrs gb (v 2) 12 + qClrs gc (v 2) 12)) 0 0 (fun _ => False) := by
  refine z_ro (cc := cX4_clearSlices) (maxL := 3) (ret := (some .int)) (lv := [(0, .ref (n0))]) (by decide) rfl (Nat.le_of_ble_eq_true rfl) rfl ?_
  intro p e s m args below meth c ls hx hb hr hml hown hts hlocks hl hK hP
  refine lv_iconst (v := 0) hx hb dX4_clearSlices_0 (by decide) ?_
  refine lv_istore_n (lv' := [(1, .int (0)), (0, .ref (n0))]) hx hb dX4_clearSlices_1 rfl hl (by decide) rfl (fun ls hl => ?_)
  refine lv_iconst (v := 0) hx hb dX4_clearSlices_2 (by decide) ?_
  refine lv_istore_n (lv' := [(2, .int (0)), (1, .int (0)), (0, .ref (n0))]) hx hb dX4_clearSlices_3 rfl hl (by decide) rfl (fun ls hl => ?_)
  refine lv_iload_n hx hb dX4_clearSlices_4 rfl (lv_at hl 0 rfl) ?_
  refine lv_iconst (v := 3) hx hb dX4_clearSlices_5 (by decide) ?_
  refine z_icmp_ge (tgt := 31) hx hb (0) (3) dX4_clearSlices_6 (by decide) (by omega) (by omega) rfl rfl (fun c_6 => absurd c_6 (by omega)) (fun c_6 => ?_)
  refine lv_iload_n hx hb dX4_clearSlices_9 rfl (lv_at hl 1 rfl) ?_
  refine lv_aload_n hx hb dX4_clearSlices_10 rfl (lv_at hl 2 rfl) ?_
  refine va_get (ci := 4) (v := .ref (n4)) (C := RX4) (T := TX4) (N := 6) hx hb hts (by decide +kernel) hown hK hP 0 rfl rfl 1 (by decide) (hts (.fieldLink RX4 20 "SettlingJars$State" "jars" "[LSettlingJars$Jar;") (by decide +kernel)) (fun _ h9 => h9) rfl dX4_clearSlices_11 ?_
  refine lv_iload_n hx hb dX4_clearSlices_14 rfl (lv_at hl 0 rfl) ?_
  refine z_aald hx hb hK hP 4 2 rfl rfl (0) (rfl) (by omega) (by decide) (rfl) dX4_clearSlices_15 ?_
  refine lv_aload_n hx hb dX4_clearSlices_16 rfl (lv_at hl 2 rfl) ?_
  refine va_get (ci := 4) (v := .ref (n1)) (C := RX4) (T := TX4) (N := 6) hx hb hts (by decide +kernel) hown hK hP 0 rfl rfl 0 (by decide) (hts (.fieldLink RX4 12 "SettlingJars$State" "settings" "LSettlingJars$Settings;") (by decide +kernel)) (fun _ h9 => h9) rfl dX4_clearSlices_17 ?_
  refine z_ci (z_vrun (rest := [.int (0)]) (own := RX4) (As := [.ref (n1)]) hx hb hml hown hts hl.1 hK hP [5, 6, 1, 2, 3] rfl (metX2_clearSlices l D ac n5 n8 ga n1 n2 n3 v w ) gX4_clearSlices_X2_clearSlices rfl 1 (by decide +kernel) ⟨rfl, rfl, Nat.le_of_ble_eq_true rfl, Nat.le_of_ble_eq_true rfl⟩ 5 2 rfl rfl rfl rfl rfl (Nat.le_of_ble_eq_true rfl) dX4_clearSlices_20 ⟨Nat.zero_le _, Nat.zero_le _⟩) ?_
  refine lv_iadd hx hb dX4_clearSlices_23 ?_
  refine lv_istore_n (lv' := [(1, .int ((0) + (qClrs ga (v 2) 12))), (2, .int (0)), (0, .ref (n0))]) hx hb dX4_clearSlices_24 rfl hl (by decide) rfl (fun ls hl => ?_)
  refine lv_iinc (v := nI (1)) (lv' := [(2, .int (nI (1))), (1, .int ((0) + (qClrs ga (v 2) 12))), (0, .ref (n0))]) hx hb dX4_clearSlices_25 hl (k := 1) rfl (show nI (0) + Int32.ofInt 1 = _ from nI_add (0) 1) (by decide) rfl (fun ls hl => ?_)
  refine lv_goto (tgt := 4) hx hb dX4_clearSlices_28 (by decide) ?_
  refine lv_iload_n hx hb dX4_clearSlices_4 rfl (lv_at hl 0 rfl) ?_
  refine lv_iconst (v := 3) hx hb dX4_clearSlices_5 (by decide) ?_
  refine z_icmp_ge (tgt := 31) hx hb (1) (3) dX4_clearSlices_6 (by decide) (by omega) (by omega) rfl rfl (fun c_6 => absurd c_6 (by omega)) (fun c_6 => ?_)
  refine lv_iload_n hx hb dX4_clearSlices_9 rfl (lv_at hl 1 rfl) ?_
  refine lv_aload_n hx hb dX4_clearSlices_10 rfl (lv_at hl 2 rfl) ?_
  refine va_get (ci := 4) (v := .ref (n4)) (C := RX4) (T := TX4) (N := 6) hx hb hts (by decide +kernel) hown hK hP 0 rfl rfl 1 (by decide) (hts (.fieldLink RX4 20 "SettlingJars$State" "jars" "[LSettlingJars$Jar;") (by decide +kernel)) (fun _ h9 => h9) rfl dX4_clearSlices_11 ?_
  refine lv_iload_n hx hb dX4_clearSlices_14 rfl (lv_at hl 0 rfl) ?_
  refine z_aald hx hb hK hP 4 2 rfl rfl (1) (rfl) (by omega) (by decide) (rfl) dX4_clearSlices_15 ?_
  refine lv_aload_n hx hb dX4_clearSlices_16 rfl (lv_at hl 2 rfl) ?_
  refine va_get (ci := 4) (v := .ref (n1)) (C := RX4) (T := TX4) (N := 6) hx hb hts (by decide +kernel) hown hK hP 0 rfl rfl 0 (by decide) (hts (.fieldLink RX4 12 "SettlingJars$State" "settings" "LSettlingJars$Settings;") (by decide +kernel)) (fun _ h9 => h9) rfl dX4_clearSlices_17 ?_
  refine z_ci (z_vrun (rest := [.int ((0) + (qClrs ga (v 2) 12))]) (own := RX4) (As := [.ref (n1)]) hx hb hml hown hts hl.1 hK hP [7, 8, 1, 2, 3] rfl (metX2_clearSlices l D ac n6 n9 gb n1 n2 n3 v w ) gX4_clearSlices_X2_clearSlices rfl 1 (by decide +kernel) ⟨rfl, rfl, Nat.le_of_ble_eq_true rfl, Nat.le_of_ble_eq_true rfl⟩ 7 2 rfl rfl rfl rfl rfl (Nat.le_of_ble_eq_true rfl) dX4_clearSlices_20 ⟨Nat.zero_le _, Nat.zero_le _⟩) ?_
  refine lv_iadd hx hb dX4_clearSlices_23 ?_
  refine lv_istore_n (lv' := [(1, .int (((0) + (qClrs ga (v 2) 12)) + (qClrs gb (v 2) 12))), (2, .int (nI (1))), (0, .ref (n0))]) hx hb dX4_clearSlices_24 rfl hl (by decide) rfl (fun ls hl => ?_)
  refine lv_iinc (v := nI (2)) (lv' := [(2, .int (nI (2))), (1, .int (((0) + (qClrs ga (v 2) 12)) + (qClrs gb (v 2) 12))), (0, .ref (n0))]) hx hb dX4_clearSlices_25 hl (k := 1) rfl (show nI (1) + Int32.ofInt 1 = _ from nI_add (1) 1) (by decide) rfl (fun ls hl => ?_)
  refine lv_goto (tgt := 4) hx hb dX4_clearSlices_28 (by decide) ?_
  refine lv_iload_n hx hb dX4_clearSlices_4 rfl (lv_at hl 0 rfl) ?_
  refine lv_iconst (v := 3) hx hb dX4_clearSlices_5 (by decide) ?_
  refine z_icmp_ge (tgt := 31) hx hb (2) (3) dX4_clearSlices_6 (by decide) (by omega) (by omega) rfl rfl (fun c_6 => absurd c_6 (by omega)) (fun c_6 => ?_)
  refine lv_iload_n hx hb dX4_clearSlices_9 rfl (lv_at hl 1 rfl) ?_
  refine lv_aload_n hx hb dX4_clearSlices_10 rfl (lv_at hl 2 rfl) ?_
  refine va_get (ci := 4) (v := .ref (n4)) (C := RX4) (T := TX4) (N := 6) hx hb hts (by decide +kernel) hown hK hP 0 rfl rfl 1 (by decide) (hts (.fieldLink RX4 20 "SettlingJars$State" "jars" "[LSettlingJars$Jar;") (by decide +kernel)) (fun _ h9 => h9) rfl dX4_clearSlices_11 ?_
  refine lv_iload_n hx hb dX4_clearSlices_14 rfl (lv_at hl 0 rfl) ?_
  refine z_aald hx hb hK hP 4 2 rfl rfl (2) (rfl) (by omega) (by decide) (rfl) dX4_clearSlices_15 ?_
  refine lv_aload_n hx hb dX4_clearSlices_16 rfl (lv_at hl 2 rfl) ?_
  refine va_get (ci := 4) (v := .ref (n1)) (C := RX4) (T := TX4) (N := 6) hx hb hts (by decide +kernel) hown hK hP 0 rfl rfl 0 (by decide) (hts (.fieldLink RX4 12 "SettlingJars$State" "settings" "LSettlingJars$Settings;") (by decide +kernel)) (fun _ h9 => h9) rfl dX4_clearSlices_17 ?_
  refine z_ci (z_vrun (rest := [.int (((0) + (qClrs ga (v 2) 12)) + (qClrs gb (v 2) 12))]) (own := RX4) (As := [.ref (n1)]) hx hb hml hown hts hl.1 hK hP [9, 10, 1, 2, 3] rfl (metX2_clearSlices l D ac n7 n10 gc n1 n2 n3 v w ) gX4_clearSlices_X2_clearSlices rfl 1 (by decide +kernel) ⟨rfl, rfl, Nat.le_of_ble_eq_true rfl, Nat.le_of_ble_eq_true rfl⟩ 9 2 rfl rfl rfl rfl rfl (Nat.le_of_ble_eq_true rfl) dX4_clearSlices_20 ⟨Nat.zero_le _, Nat.zero_le _⟩) ?_
  refine lv_iadd hx hb dX4_clearSlices_23 ?_
  refine lv_istore_n (lv' := [(1, .int ((((0) + (qClrs ga (v 2) 12)) + (qClrs gb (v 2) 12)) + (qClrs gc (v 2) 12))), (2, .int (nI (2))), (0, .ref (n0))]) hx hb dX4_clearSlices_24 rfl hl (by decide) rfl (fun ls hl => ?_)
  refine lv_iinc (v := nI (3)) (lv' := [(2, .int (nI (3))), (1, .int ((((0) + (qClrs ga (v 2) 12)) + (qClrs gb (v 2) 12)) + (qClrs gc (v 2) 12))), (0, .ref (n0))]) hx hb dX4_clearSlices_25 hl (k := 1) rfl (show nI (2) + Int32.ofInt 1 = _ from nI_add (2) 1) (by decide) rfl (fun ls hl => ?_)
  refine lv_goto (tgt := 4) hx hb dX4_clearSlices_28 (by decide) ?_
  refine lv_iload_n hx hb dX4_clearSlices_4 rfl (lv_at hl 0 rfl) ?_
  refine lv_iconst (v := 3) hx hb dX4_clearSlices_5 (by decide) ?_
  refine z_icmp_ge (tgt := 31) hx hb (3) (3) dX4_clearSlices_6 (by decide) (by omega) (by omega) rfl rfl (fun c_6 => ?_) (fun c_6 => absurd c_6 (by omega))
  refine lv_iload_n hx hb dX4_clearSlices_31 rfl (lv_at hl 1 rfl) ?_
  exact z_iret hx hb hr hlocks (rfl) dX4_clearSlices_32

set_option maxRecDepth 100000 in
set_option maxHeartbeats 4000000 in
theorem metX1_size (l : Launch) (D : va_G) (ac : Nat → ClassId) (y0 : Nat) (y1 : Nat) (hf : Nat → Option Nat) (od : Nat) (sz1 : Nat)  : Met l yX1_size wsX1_size ({ frames := 0, cells := 0, slots := 0, locals := 0 } : Room) (va_Pc [.ref (y0)] (zW D ac [(y0, .inr (1, [.ref (y1), .int (nI (od)), .int (nI (sz1))])), (y1, .inl (ac 3, 6, .inr (.inr (.inr (.inr (hf))))))])) (zRi (nI (sz1))) 0 0 (fun _ => False) := by
  refine z_ro (cc := cX1_size) (maxL := 1) (ret := (some .int)) (lv := [(0, .ref (y0))]) (by decide) rfl (Nat.le_of_ble_eq_true rfl) rfl ?_
  intro p e s m args below meth c ls hx hb hr hml hown hts hlocks hl hK hP
  refine lv_aload_n hx hb dX1_size_0 rfl (lv_at hl 0 rfl) ?_
  refine va_get (ci := 1) (v := .int (nI (sz1))) (C := RX1) (T := TX1) (N := 3) hx hb hts (by decide +kernel) hown hK hP 0 rfl rfl 2 (by decide) (hts (.fieldLink RX1 16 "SettlingJars$History" "size" "I") (by decide +kernel)) (fun _ h9 => h9) rfl dX1_size_1 ?_
  exact z_iret hx hb hr hlocks (rfl) dX1_size_4

set_option maxRecDepth 100000 in
set_option maxHeartbeats 4000000 in
theorem metX1_keep (l : Launch) (D : va_G) (ac : Nat → ClassId) (sz : Nat) (y0 : Nat) (y1 : Nat) (hf : Nat → Option Nat) (od : Nat) (sz1 : Nat) (a0 : Nat) (a1 : Nat) (a2 : Nat) (a3 : Nat) (a4 : Nat) (a5 : Nat) (a6 : Nat) (a7 : Nat) (a8 : Nat) (a9 : Nat) (a10 : Nat) (a11 : Nat) (a12 : Nat) (va : Nat → Int32) (wa : Nat → Int32) (gaa : Nat → Int32) (gba : Nat → Int32) (gca : Nat → Int32) (pda : Nat → Int32) (dra : Nat → Int32) (tpa : Int32) (fla : Int32) (n0 : Nat) (n1 : Nat) (n2 : Nat) (n3 : Nat) (n4 : Nat) (n5 : Nat) (n6 : Nat) (n7 : Nat) (n8 : Nat) (n9 : Nat) (n10 : Nat) (n11 : Nat) (n12 : Nat) (v : Nat → Int32) (w : Nat → Int32) (ga : Nat → Int32) (gb : Nat → Int32) (gc : Nat → Int32) (pd : Nat → Int32) (dr : Nat → Int32) (tp : Int32) (fl : Int32) (hhf : hf ((od + sz1) % 6) = some a0) (hod : od < 6) (hsz : sz1 ≤ 6) : Met l yX1_keep wsX1_keep ({ frames := 3, cells := 0, slots := 0, locals := 83 } : Room) (va_Pc [.ref (y0), .ref (n0)] (zS D ac [(y0, .inr (1, [.ref (y1), .int (nI (od)), .int (nI (sz1))])), (y1, .inl (ac 3, 6, .inr (.inr (.inr (.inr (hf)))))), (a0, .inr (4, [.ref (a1), .ref (a4), .ref (a11), .ref (a12), .int (tpa), .int (fla)])), (a1, .inr (3, [.ref (a2), .ref (a3)])), (a2, .inl (ac 0, 4, .inl (va))), (a3, .inl (ac 0, 4, .inl (wa))), (a4, .inl (ac 2, 3, .inr (.inr (.inr (.inr (zJ3 a5 a6 a7)))))), (a5, .inr (2, [.ref (a8)])), (a8, .inl (ac 0, 48, .inl (gaa))), (a6, .inr (2, [.ref (a9)])), (a9, .inl (ac 0, 48, .inl (gba))), (a7, .inr (2, [.ref (a10)])), (a10, .inl (ac 0, 48, .inl (gca))), (a11, .inl (ac 0, 4, .inl (pda))), (a12, .inl (ac 0, 4, .inl (dra))), (n0, .inr (4, [.ref (n1), .ref (n4), .ref (n11), .ref (n12), .int (tp), .int (fl)])), (n1, .inr (3, [.ref (n2), .ref (n3)])), (n2, .inl (ac 0, 4, .inl (v))), (n3, .inl (ac 0, 4, .inl (w))), (n4, .inl (ac 2, 3, .inr (.inr (.inr (.inr (zJ3 n5 n6 n7)))))), (n5, .inr (2, [.ref (n8)])), (n8, .inl (ac 0, 48, .inl (ga))), (n6, .inr (2, [.ref (n9)])), (n9, .inl (ac 0, 48, .inl (gb))), (n7, .inr (2, [.ref (n10)])), (n10, .inl (ac 0, 48, .inl (gc))), (n11, .inl (ac 0, 4, .inl (pd))), (n12, .inl (ac 0, 4, .inl (dr)))] sz)) (zQv D ac [(y0, .inr (1, [.ref (y1), .int (nI (od)), .int (nI (sz1))])), (y1, .inl (ac 3, 6, .inr (.inr (.inr (.inr (hf)))))), (a0, .inr (4, [.ref (a1), .ref (a4), .ref (a11), .ref (a12), .int (tpa), .int (fla)])), (a1, .inr (3, [.ref (a2), .ref (a3)])), (a2, .inl (ac 0, 4, .inl (va))), (a3, .inl (ac 0, 4, .inl (wa))), (a4, .inl (ac 2, 3, .inr (.inr (.inr (.inr (zJ3 a5 a6 a7)))))), (a5, .inr (2, [.ref (a8)])), (a8, .inl (ac 0, 48, .inl (gaa))), (a6, .inr (2, [.ref (a9)])), (a9, .inl (ac 0, 48, .inl (gba))), (a7, .inr (2, [.ref (a10)])), (a10, .inl (ac 0, 48, .inl (gca))), (a11, .inl (ac 0, 4, .inl (pda))), (a12, .inl (ac 0, 4, .inl (dra))), (n0, .inr (4, [.ref (n1), .ref (n4), .ref (n11), .ref (n12), .int (tp), .int (fl)])), (n1, .inr (3, [.ref (n2), .ref (n3)])), (n2, .inl (ac 0, 4, .inl (v))), (n3, .inl (ac 0, 4, .inl (w))), (n4, .inl (ac 2, 3, .inr (.inr (.inr (.inr (zJ3 n5 n6 n7)))))), (n5, .inr (2, [.ref (n8)])), (n8, .inl (ac 0, 48, .inl (ga))), (n6, .inr (2, [.ref (n9)])), (n9, .inl (ac 0, 48, .inl (gb))), (n7, .inr (2, [.ref (n10)])), (n10, .inl (ac 0, 48, .inl (gc))), (n11, .inl (ac 0, 4, .inl (pd))), (n12, .inl (ac 0, 4, .inl (dr)))] [(y0, .inr (1, [.ref (y1), .int (nI (kOd od sz1)), .int (nI (kSz sz1))])), (y1, .inl (ac 3, 6, .inr (.inr (.inr (.inr (hf)))))), (a0, .inr (4, [.ref (a1), .ref (a4), .ref (a11), .ref (a12), .int (tp), .int (fl)])), (a1, .inr (3, [.ref (a2), .ref (a3)])), (a2, .inl (ac 0, 4, .inl (v))), (a3, .inl (ac 0, 4, .inl (w))), (a4, .inl (ac 2, 3, .inr (.inr (.inr (.inr (zJ3 a5 a6 a7)))))), (a5, .inr (2, [.ref (a8)])), (a8, .inl (ac 0, 48, .inl (ga))), (a6, .inr (2, [.ref (a9)])), (a9, .inl (ac 0, 48, .inl (gb))), (a7, .inr (2, [.ref (a10)])), (a10, .inl (ac 0, 48, .inl (gc))), (a11, .inl (ac 0, 4, .inl (pd))), (a12, .inl (ac 0, 4, .inl (dr))), (n0, .inr (4, [.ref (n1), .ref (n4), .ref (n11), .ref (n12), .int (tp), .int (fl)])), (n1, .inr (3, [.ref (n2), .ref (n3)])), (n2, .inl (ac 0, 4, .inl (v))), (n3, .inl (ac 0, 4, .inl (w))), (n4, .inl (ac 2, 3, .inr (.inr (.inr (.inr (zJ3 n5 n6 n7)))))), (n5, .inr (2, [.ref (n8)])), (n8, .inl (ac 0, 48, .inl (ga))), (n6, .inr (2, [.ref (n9)])), (n9, .inl (ac 0, 48, .inl (gb))), (n7, .inr (2, [.ref (n10)])), (n10, .inl (ac 0, 48, .inl (gc))), (n11, .inl (ac 0, 4, .inl (pd))), (n12, .inl (ac 0, 4, .inl (dr)))] sz) 0 0 (va_A [(y0, .inr (1, [.ref (y1), .int (nI (od)), .int (nI (sz1))])), (y1, .inl (ac 3, 6, .inr (.inr (.inr (.inr (hf)))))), (a0, .inr (4, [.ref (a1), .ref (a4), .ref (a11), .ref (a12), .int (tpa), .int (fla)])), (a1, .inr (3, [.ref (a2), .ref (a3)])), (a2, .inl (ac 0, 4, .inl (va))), (a3, .inl (ac 0, 4, .inl (wa))), (a4, .inl (ac 2, 3, .inr (.inr (.inr (.inr (zJ3 a5 a6 a7)))))), (a5, .inr (2, [.ref (a8)])), (a8, .inl (ac 0, 48, .inl (gaa))), (a6, .inr (2, [.ref (a9)])), (a9, .inl (ac 0, 48, .inl (gba))), (a7, .inr (2, [.ref (a10)])), (a10, .inl (ac 0, 48, .inl (gca))), (a11, .inl (ac 0, 4, .inl (pda))), (a12, .inl (ac 0, 4, .inl (dra))), (n0, .inr (4, [.ref (n1), .ref (n4), .ref (n11), .ref (n12), .int (tp), .int (fl)])), (n1, .inr (3, [.ref (n2), .ref (n3)])), (n2, .inl (ac 0, 4, .inl (v))), (n3, .inl (ac 0, 4, .inl (w))), (n4, .inl (ac 2, 3, .inr (.inr (.inr (.inr (zJ3 n5 n6 n7)))))), (n5, .inr (2, [.ref (n8)])), (n8, .inl (ac 0, 48, .inl (ga))), (n6, .inr (2, [.ref (n9)])), (n9, .inl (ac 0, 48, .inl (gb))), (n7, .inr (2, [.ref (n10)])), (n10, .inl (ac 0, 48, .inl (gc))), (n11, .inl (ac 0, 4, .inl (pd))), (n12, .inl (ac 0, 4, .inl (dr)))] sz) := by
  refine z_rw (cc := cX1_keep) (maxL := 2) (ret := none) (lv := [(0, .ref (y0)), (1, .ref (n0))]) (by decide) rfl (Nat.le_of_ble_eq_true rfl) rfl ?_
  intro p e s m args below meth c ls A hx hb hr hml hown hts hlocks hl hK hP hsz hAe hA hD hS
  refine lv_aload_n hx hb dX1_keep_0 rfl (lv_at hl 0 rfl) ?_
  refine va_get (ci := 1) (v := .ref (y1)) (C := RX1) (T := TX1) (N := 3) hx hb hts (by decide +kernel) hown hK hP 0 rfl rfl 0 (by decide) (hts (.fieldLink RX1 11 "SettlingJars$History" "saved" "[LSettlingJars$State;") (by decide +kernel)) (fun _ h9 => h9) rfl dX1_keep_1 ?_
  refine lv_aload_n hx hb dX1_keep_4 rfl (lv_at hl 0 rfl) ?_
  refine va_get (ci := 1) (v := .int (nI (od))) (C := RX1) (T := TX1) (N := 3) hx hb hts (by decide +kernel) hown hK hP 0 rfl rfl 1 (by decide) (hts (.fieldLink RX1 20 "SettlingJars$History" "oldest" "I") (by decide +kernel)) (fun _ h9 => h9) rfl dX1_keep_5 ?_
  refine lv_aload_n hx hb dX1_keep_8 rfl (lv_at hl 0 rfl) ?_
  refine va_get (ci := 1) (v := .int (nI (sz1))) (C := RX1) (T := TX1) (N := 3) hx hb hts (by decide +kernel) hown hK hP 0 rfl rfl 2 (by decide) (hts (.fieldLink RX1 16 "SettlingJars$History" "size" "I") (by decide +kernel)) (fun _ h9 => h9) rfl dX1_keep_9 ?_
  refine lv_iadd hx hb dX1_keep_12 ?_
  refine z_top (y := nI ((od) + (sz1))) (nI_add (od) (sz1)) ?_
  refine lv_bipush (v := 6) hx hb dX1_keep_13 (by decide) ?_
  refine lv_irem hx hb dX1_keep_15 (by decide) ?_
  refine z_top (y := nI (((od) + (sz1)) % (6))) (pk_rem (a := (od) + (sz1)) (d := 6) (by omega) (by omega) (by omega)) ?_
  refine z_aald hx hb hK hP 1 3 rfl rfl ((od + sz1) % 6) (congrArg nI (by omega)) (by omega) (by decide) (hhf) dX1_keep_16 ?_
  refine lv_aload_n hx hb dX1_keep_17 rfl (lv_at hl 1 rfl) ?_
  refine z_cvW [(y0, .inr (1, [.ref (y1), .int (nI (od)), .int (nI (sz1))])), (y1, .inl (ac 3, 6, .inr (.inr (.inr (.inr (hf)))))), (a0, .inr (4, [.ref (a1), .ref (a4), .ref (a11), .ref (a12), .int (tp), .int (fl)])), (a1, .inr (3, [.ref (a2), .ref (a3)])), (a2, .inl (ac 0, 4, .inl (v))), (a3, .inl (ac 0, 4, .inl (w))), (a4, .inl (ac 2, 3, .inr (.inr (.inr (.inr (zJ3 a5 a6 a7)))))), (a5, .inr (2, [.ref (a8)])), (a8, .inl (ac 0, 48, .inl (ga))), (a6, .inr (2, [.ref (a9)])), (a9, .inl (ac 0, 48, .inl (gb))), (a7, .inr (2, [.ref (a10)])), (a10, .inl (ac 0, 48, .inl (gc))), (a11, .inl (ac 0, 4, .inl (pd))), (a12, .inl (ac 0, 4, .inl (dr))), (n0, .inr (4, [.ref (n1), .ref (n4), .ref (n11), .ref (n12), .int (tp), .int (fl)])), (n1, .inr (3, [.ref (n2), .ref (n3)])), (n2, .inl (ac 0, 4, .inl (v))), (n3, .inl (ac 0, 4, .inl (w))), (n4, .inl (ac 2, 3, .inr (.inr (.inr (.inr (zJ3 n5 n6 n7)))))), (n5, .inr (2, [.ref (n8)])), (n8, .inl (ac 0, 48, .inl (ga))), (n6, .inr (2, [.ref (n9)])), (n9, .inl (ac 0, 48, .inl (gb))), (n7, .inr (2, [.ref (n10)])), (n10, .inl (ac 0, 48, .inl (gc))), (n11, .inl (ac 0, 4, .inl (pd))), (n12, .inl (ac 0, 4, .inl (dr)))] (z_vrunW (rest := []) (own := RX1) (As := [.ref (n0)]) hx hb hml hown hts hl.1 hK hP hD [2, 3, 4, 5, 6, 7, 8, 9, 10, 11, 12, 13, 14, 15, 16, 17, 18, 19, 20, 21, 22, 23, 24, 25, 26, 27] rfl (by decide) rfl (metX4_copyFrom l D ac _ a0 a1 a2 a3 a4 a5 a6 a7 a8 a9 a10 a11 a12 va wa gaa gba gca pda dra tpa fla n0 n1 n2 n3 n4 n5 n6 n7 n8 n9 n10 n11 n12 v w ga gb gc pd dr tp fl ) gX1_keep_X4_copyFrom rfl 1 (by decide +kernel) ⟨rfl, rfl, Nat.le_of_ble_eq_true rfl, Nat.le_of_ble_eq_true rfl⟩ 2 4 rfl rfl rfl rfl rfl (Nat.le_of_ble_eq_true rfl) dX1_keep_18 ⟨Nat.zero_le _, Nat.zero_le _⟩) hP hD hS hA [2, 3, 4, 5, 6, 7, 8, 9, 10, 11, 12, 13, 14, 15, 16, 17, 18, 19, 20, 21, 22, 23, 24, 25, 26, 27] [0, 1] [0, 1, 2, 3, 4, 5, 6, 7, 8, 9, 10, 11, 12, 13, 14, 15, 16, 17, 18, 19, 20, 21, 22, 23, 24, 25, 26, 27] rfl rfl (by decide) (by decide) (by decide) rfl (fun H locs hP hD hS => ?_)
  refine lv_aload_n hx hb dX1_keep_21 rfl (lv_at hl 0 rfl) ?_
  refine va_get (ci := 1) (v := .int (nI (sz1))) (C := RX1) (T := TX1) (N := 3) hx hb hts (by decide +kernel) hown hK hP 0 rfl rfl 2 (by decide) (hts (.fieldLink RX1 16 "SettlingJars$History" "size" "I") (by decide +kernel)) (fun _ h9 => h9) rfl dX1_keep_22 ?_
  refine lv_bipush (v := 6) hx hb dX1_keep_25 (by decide) ?_
  refine z_icmp_ge (tgt := 43) hx hb (sz1) (6) dX1_keep_27 (by decide) (by omega) (by omega) rfl rfl (fun c_27 => ?_) (fun c_27 => ?_)
  · refine lv_aload_n hx hb dX1_keep_43 rfl (lv_at hl 0 rfl) ?_
    refine lv_aload_n hx hb dX1_keep_44 rfl (lv_at hl 0 rfl) ?_
    refine va_get (ci := 1) (v := .int (nI (od))) (C := RX1) (T := TX1) (N := 3) hx hb hts (by decide +kernel) hown hK hP 0 rfl rfl 1 (by decide) (hts (.fieldLink RX1 20 "SettlingJars$History" "oldest" "I") (by decide +kernel)) (fun _ h9 => h9) rfl dX1_keep_45 ?_
    refine lv_iconst (v := 1) hx hb dX1_keep_48 (by decide) ?_
    refine lv_iadd hx hb dX1_keep_49 ?_
    refine z_top (y := nI ((od) + (1))) (nI_add (od) (1)) ?_
    refine lv_bipush (v := 6) hx hb dX1_keep_50 (by decide) ?_
    refine lv_irem hx hb dX1_keep_52 (by decide) ?_
    refine z_top (y := nI (((od) + (1)) % (6))) (pk_rem (a := (od) + (1)) (d := 6) (by omega) (by omega) (by omega)) ?_
    refine va_put (ci := 1) (v := .int (nI (((od) + (1)) % (6)))) (ty := .int) (C := RX1) (T := TX1) (N := 3) hx hb hts (by decide +kernel) tyX1 tyX1_ok nmX1 hown hK hP hD hS 0 rfl rfl 1 (by decide) (hts (.fieldLink RX1 20 "SettlingJars$History" "oldest" "I") (by decide +kernel)) (fun _ h9 => h9) rfl (by decide +kernel) rfl rfl (Nat.le_of_ble_eq_true rfl) dX1_keep_53 (fun H locs hP hD hS => ?_)
    have hP : va_P D vwCl [(y0, .inr (1, [.ref (y1), .int (nI (((od) + (1)) % (6))), .int (nI (sz1))])), (y1, .inl (ac 3, 6, .inr (.inr (.inr (.inr (hf)))))), (a0, .inr (4, [.ref (a1), .ref (a4), .ref (a11), .ref (a12), .int (tp), .int (fl)])), (a1, .inr (3, [.ref (a2), .ref (a3)])), (a2, .inl (ac 0, 4, .inl (v))), (a3, .inl (ac 0, 4, .inl (w))), (a4, .inl (ac 2, 3, .inr (.inr (.inr (.inr (zJ3 a5 a6 a7)))))), (a5, .inr (2, [.ref (a8)])), (a8, .inl (ac 0, 48, .inl (ga))), (a6, .inr (2, [.ref (a9)])), (a9, .inl (ac 0, 48, .inl (gb))), (a7, .inr (2, [.ref (a10)])), (a10, .inl (ac 0, 48, .inl (gc))), (a11, .inl (ac 0, 4, .inl (pd))), (a12, .inl (ac 0, 4, .inl (dr))), (n0, .inr (4, [.ref (n1), .ref (n4), .ref (n11), .ref (n12), .int (tp), .int (fl)])), (n1, .inr (3, [.ref (n2), .ref (n3)])), (n2, .inl (ac 0, 4, .inl (v))), (n3, .inl (ac 0, 4, .inl (w))), (n4, .inl (ac 2, 3, .inr (.inr (.inr (.inr (zJ3 n5 n6 n7)))))), (n5, .inr (2, [.ref (n8)])), (n8, .inl (ac 0, 48, .inl (ga))), (n6, .inr (2, [.ref (n9)])), (n9, .inl (ac 0, 48, .inl (gb))), (n7, .inr (2, [.ref (n10)])), (n10, .inl (ac 0, 48, .inl (gc))), (n11, .inl (ac 0, 4, .inl (pd))), (n12, .inl (ac 0, 4, .inl (dr)))] H := hP
    have hD : va_D A [(y0, .inr (1, [.ref (y1), .int (nI (((od) + (1)) % (6))), .int (nI (sz1))])), (y1, .inl (ac 3, 6, .inr (.inr (.inr (.inr (hf)))))), (a0, .inr (4, [.ref (a1), .ref (a4), .ref (a11), .ref (a12), .int (tp), .int (fl)])), (a1, .inr (3, [.ref (a2), .ref (a3)])), (a2, .inl (ac 0, 4, .inl (v))), (a3, .inl (ac 0, 4, .inl (w))), (a4, .inl (ac 2, 3, .inr (.inr (.inr (.inr (zJ3 a5 a6 a7)))))), (a5, .inr (2, [.ref (a8)])), (a8, .inl (ac 0, 48, .inl (ga))), (a6, .inr (2, [.ref (a9)])), (a9, .inl (ac 0, 48, .inl (gb))), (a7, .inr (2, [.ref (a10)])), (a10, .inl (ac 0, 48, .inl (gc))), (a11, .inl (ac 0, 4, .inl (pd))), (a12, .inl (ac 0, 4, .inl (dr))), (n0, .inr (4, [.ref (n1), .ref (n4), .ref (n11), .ref (n12), .int (tp), .int (fl)])), (n1, .inr (3, [.ref (n2), .ref (n3)])), (n2, .inl (ac 0, 4, .inl (v))), (n3, .inl (ac 0, 4, .inl (w))), (n4, .inl (ac 2, 3, .inr (.inr (.inr (.inr (zJ3 n5 n6 n7)))))), (n5, .inr (2, [.ref (n8)])), (n8, .inl (ac 0, 48, .inl (ga))), (n6, .inr (2, [.ref (n9)])), (n9, .inl (ac 0, 48, .inl (gb))), (n7, .inr (2, [.ref (n10)])), (n10, .inl (ac 0, 48, .inl (gc))), (n11, .inl (ac 0, 4, .inl (pd))), (n12, .inl (ac 0, 4, .inl (dr)))] := hD
    have e1 : kOd od sz1 = (od + 1) % 6 := if_neg (by omega)
    have e2 : kSz sz1 = sz1 := if_neg (by omega)
    have hP : va_P D vwCl [(y0, .inr (1, [.ref (y1), .int (nI (kOd od sz1)), .int (nI (kSz sz1))])), (y1, .inl (ac 3, 6, .inr (.inr (.inr (.inr (hf)))))), (a0, .inr (4, [.ref (a1), .ref (a4), .ref (a11), .ref (a12), .int (tp), .int (fl)])), (a1, .inr (3, [.ref (a2), .ref (a3)])), (a2, .inl (ac 0, 4, .inl (v))), (a3, .inl (ac 0, 4, .inl (w))), (a4, .inl (ac 2, 3, .inr (.inr (.inr (.inr (zJ3 a5 a6 a7)))))), (a5, .inr (2, [.ref (a8)])), (a8, .inl (ac 0, 48, .inl (ga))), (a6, .inr (2, [.ref (a9)])), (a9, .inl (ac 0, 48, .inl (gb))), (a7, .inr (2, [.ref (a10)])), (a10, .inl (ac 0, 48, .inl (gc))), (a11, .inl (ac 0, 4, .inl (pd))), (a12, .inl (ac 0, 4, .inl (dr))), (n0, .inr (4, [.ref (n1), .ref (n4), .ref (n11), .ref (n12), .int (tp), .int (fl)])), (n1, .inr (3, [.ref (n2), .ref (n3)])), (n2, .inl (ac 0, 4, .inl (v))), (n3, .inl (ac 0, 4, .inl (w))), (n4, .inl (ac 2, 3, .inr (.inr (.inr (.inr (zJ3 n5 n6 n7)))))), (n5, .inr (2, [.ref (n8)])), (n8, .inl (ac 0, 48, .inl (ga))), (n6, .inr (2, [.ref (n9)])), (n9, .inl (ac 0, 48, .inl (gb))), (n7, .inr (2, [.ref (n10)])), (n10, .inl (ac 0, 48, .inl (gc))), (n11, .inl (ac 0, 4, .inl (pd))), (n12, .inl (ac 0, 4, .inl (dr)))] H := by rw [e1, e2]; exact hP
    have hD : va_D A [(y0, .inr (1, [.ref (y1), .int (nI (kOd od sz1)), .int (nI (kSz sz1))])), (y1, .inl (ac 3, 6, .inr (.inr (.inr (.inr (hf)))))), (a0, .inr (4, [.ref (a1), .ref (a4), .ref (a11), .ref (a12), .int (tp), .int (fl)])), (a1, .inr (3, [.ref (a2), .ref (a3)])), (a2, .inl (ac 0, 4, .inl (v))), (a3, .inl (ac 0, 4, .inl (w))), (a4, .inl (ac 2, 3, .inr (.inr (.inr (.inr (zJ3 a5 a6 a7)))))), (a5, .inr (2, [.ref (a8)])), (a8, .inl (ac 0, 48, .inl (ga))), (a6, .inr (2, [.ref (a9)])), (a9, .inl (ac 0, 48, .inl (gb))), (a7, .inr (2, [.ref (a10)])), (a10, .inl (ac 0, 48, .inl (gc))), (a11, .inl (ac 0, 4, .inl (pd))), (a12, .inl (ac 0, 4, .inl (dr))), (n0, .inr (4, [.ref (n1), .ref (n4), .ref (n11), .ref (n12), .int (tp), .int (fl)])), (n1, .inr (3, [.ref (n2), .ref (n3)])), (n2, .inl (ac 0, 4, .inl (v))), (n3, .inl (ac 0, 4, .inl (w))), (n4, .inl (ac 2, 3, .inr (.inr (.inr (.inr (zJ3 n5 n6 n7)))))), (n5, .inr (2, [.ref (n8)])), (n8, .inl (ac 0, 48, .inl (ga))), (n6, .inr (2, [.ref (n9)])), (n9, .inl (ac 0, 48, .inl (gb))), (n7, .inr (2, [.ref (n10)])), (n10, .inl (ac 0, 48, .inl (gc))), (n11, .inl (ac 0, 4, .inl (pd))), (n12, .inl (ac 0, 4, .inl (dr)))] := by rw [e1, e2]; exact hD
    exact z_vretW hx hb hr hlocks hK hP hD hS hAe dX1_keep_56
  · refine lv_aload_n hx hb dX1_keep_30 rfl (lv_at hl 0 rfl) ?_
    refine lv_dup hx hb dX1_keep_31 rfl ?_
    refine va_get (ci := 1) (v := .int (nI (sz1))) (C := RX1) (T := TX1) (N := 3) hx hb hts (by decide +kernel) hown hK hP 0 rfl rfl 2 (by decide) (hts (.fieldLink RX1 16 "SettlingJars$History" "size" "I") (by decide +kernel)) (fun _ h9 => h9) rfl dX1_keep_32 ?_
    refine lv_iconst (v := 1) hx hb dX1_keep_35 (by decide) ?_
    refine lv_iadd hx hb dX1_keep_36 ?_
    refine z_top (y := nI ((sz1) + (1))) (nI_add (sz1) (1)) ?_
    refine va_put (ci := 1) (v := .int (nI ((sz1) + (1)))) (ty := .int) (C := RX1) (T := TX1) (N := 3) hx hb hts (by decide +kernel) tyX1 tyX1_ok nmX1 hown hK hP hD hS 0 rfl rfl 2 (by decide) (hts (.fieldLink RX1 16 "SettlingJars$History" "size" "I") (by decide +kernel)) (fun _ h9 => h9) rfl (by decide +kernel) rfl rfl (Nat.le_of_ble_eq_true rfl) dX1_keep_37 (fun H locs hP hD hS => ?_)
    have hP : va_P D vwCl [(y0, .inr (1, [.ref (y1), .int (nI (od)), .int (nI ((sz1) + (1)))])), (y1, .inl (ac 3, 6, .inr (.inr (.inr (.inr (hf)))))), (a0, .inr (4, [.ref (a1), .ref (a4), .ref (a11), .ref (a12), .int (tp), .int (fl)])), (a1, .inr (3, [.ref (a2), .ref (a3)])), (a2, .inl (ac 0, 4, .inl (v))), (a3, .inl (ac 0, 4, .inl (w))), (a4, .inl (ac 2, 3, .inr (.inr (.inr (.inr (zJ3 a5 a6 a7)))))), (a5, .inr (2, [.ref (a8)])), (a8, .inl (ac 0, 48, .inl (ga))), (a6, .inr (2, [.ref (a9)])), (a9, .inl (ac 0, 48, .inl (gb))), (a7, .inr (2, [.ref (a10)])), (a10, .inl (ac 0, 48, .inl (gc))), (a11, .inl (ac 0, 4, .inl (pd))), (a12, .inl (ac 0, 4, .inl (dr))), (n0, .inr (4, [.ref (n1), .ref (n4), .ref (n11), .ref (n12), .int (tp), .int (fl)])), (n1, .inr (3, [.ref (n2), .ref (n3)])), (n2, .inl (ac 0, 4, .inl (v))), (n3, .inl (ac 0, 4, .inl (w))), (n4, .inl (ac 2, 3, .inr (.inr (.inr (.inr (zJ3 n5 n6 n7)))))), (n5, .inr (2, [.ref (n8)])), (n8, .inl (ac 0, 48, .inl (ga))), (n6, .inr (2, [.ref (n9)])), (n9, .inl (ac 0, 48, .inl (gb))), (n7, .inr (2, [.ref (n10)])), (n10, .inl (ac 0, 48, .inl (gc))), (n11, .inl (ac 0, 4, .inl (pd))), (n12, .inl (ac 0, 4, .inl (dr)))] H := hP
    have hD : va_D A [(y0, .inr (1, [.ref (y1), .int (nI (od)), .int (nI ((sz1) + (1)))])), (y1, .inl (ac 3, 6, .inr (.inr (.inr (.inr (hf)))))), (a0, .inr (4, [.ref (a1), .ref (a4), .ref (a11), .ref (a12), .int (tp), .int (fl)])), (a1, .inr (3, [.ref (a2), .ref (a3)])), (a2, .inl (ac 0, 4, .inl (v))), (a3, .inl (ac 0, 4, .inl (w))), (a4, .inl (ac 2, 3, .inr (.inr (.inr (.inr (zJ3 a5 a6 a7)))))), (a5, .inr (2, [.ref (a8)])), (a8, .inl (ac 0, 48, .inl (ga))), (a6, .inr (2, [.ref (a9)])), (a9, .inl (ac 0, 48, .inl (gb))), (a7, .inr (2, [.ref (a10)])), (a10, .inl (ac 0, 48, .inl (gc))), (a11, .inl (ac 0, 4, .inl (pd))), (a12, .inl (ac 0, 4, .inl (dr))), (n0, .inr (4, [.ref (n1), .ref (n4), .ref (n11), .ref (n12), .int (tp), .int (fl)])), (n1, .inr (3, [.ref (n2), .ref (n3)])), (n2, .inl (ac 0, 4, .inl (v))), (n3, .inl (ac 0, 4, .inl (w))), (n4, .inl (ac 2, 3, .inr (.inr (.inr (.inr (zJ3 n5 n6 n7)))))), (n5, .inr (2, [.ref (n8)])), (n8, .inl (ac 0, 48, .inl (ga))), (n6, .inr (2, [.ref (n9)])), (n9, .inl (ac 0, 48, .inl (gb))), (n7, .inr (2, [.ref (n10)])), (n10, .inl (ac 0, 48, .inl (gc))), (n11, .inl (ac 0, 4, .inl (pd))), (n12, .inl (ac 0, 4, .inl (dr)))] := hD
    refine lv_goto (tgt := 56) hx hb dX1_keep_40 (by decide) ?_
    have e1 : kOd od sz1 = od := if_pos c_27
    have e2 : kSz sz1 = sz1 + 1 := if_pos c_27
    have hP : va_P D vwCl [(y0, .inr (1, [.ref (y1), .int (nI (kOd od sz1)), .int (nI (kSz sz1))])), (y1, .inl (ac 3, 6, .inr (.inr (.inr (.inr (hf)))))), (a0, .inr (4, [.ref (a1), .ref (a4), .ref (a11), .ref (a12), .int (tp), .int (fl)])), (a1, .inr (3, [.ref (a2), .ref (a3)])), (a2, .inl (ac 0, 4, .inl (v))), (a3, .inl (ac 0, 4, .inl (w))), (a4, .inl (ac 2, 3, .inr (.inr (.inr (.inr (zJ3 a5 a6 a7)))))), (a5, .inr (2, [.ref (a8)])), (a8, .inl (ac 0, 48, .inl (ga))), (a6, .inr (2, [.ref (a9)])), (a9, .inl (ac 0, 48, .inl (gb))), (a7, .inr (2, [.ref (a10)])), (a10, .inl (ac 0, 48, .inl (gc))), (a11, .inl (ac 0, 4, .inl (pd))), (a12, .inl (ac 0, 4, .inl (dr))), (n0, .inr (4, [.ref (n1), .ref (n4), .ref (n11), .ref (n12), .int (tp), .int (fl)])), (n1, .inr (3, [.ref (n2), .ref (n3)])), (n2, .inl (ac 0, 4, .inl (v))), (n3, .inl (ac 0, 4, .inl (w))), (n4, .inl (ac 2, 3, .inr (.inr (.inr (.inr (zJ3 n5 n6 n7)))))), (n5, .inr (2, [.ref (n8)])), (n8, .inl (ac 0, 48, .inl (ga))), (n6, .inr (2, [.ref (n9)])), (n9, .inl (ac 0, 48, .inl (gb))), (n7, .inr (2, [.ref (n10)])), (n10, .inl (ac 0, 48, .inl (gc))), (n11, .inl (ac 0, 4, .inl (pd))), (n12, .inl (ac 0, 4, .inl (dr)))] H := by rw [e1, e2]; exact hP
    have hD : va_D A [(y0, .inr (1, [.ref (y1), .int (nI (kOd od sz1)), .int (nI (kSz sz1))])), (y1, .inl (ac 3, 6, .inr (.inr (.inr (.inr (hf)))))), (a0, .inr (4, [.ref (a1), .ref (a4), .ref (a11), .ref (a12), .int (tp), .int (fl)])), (a1, .inr (3, [.ref (a2), .ref (a3)])), (a2, .inl (ac 0, 4, .inl (v))), (a3, .inl (ac 0, 4, .inl (w))), (a4, .inl (ac 2, 3, .inr (.inr (.inr (.inr (zJ3 a5 a6 a7)))))), (a5, .inr (2, [.ref (a8)])), (a8, .inl (ac 0, 48, .inl (ga))), (a6, .inr (2, [.ref (a9)])), (a9, .inl (ac 0, 48, .inl (gb))), (a7, .inr (2, [.ref (a10)])), (a10, .inl (ac 0, 48, .inl (gc))), (a11, .inl (ac 0, 4, .inl (pd))), (a12, .inl (ac 0, 4, .inl (dr))), (n0, .inr (4, [.ref (n1), .ref (n4), .ref (n11), .ref (n12), .int (tp), .int (fl)])), (n1, .inr (3, [.ref (n2), .ref (n3)])), (n2, .inl (ac 0, 4, .inl (v))), (n3, .inl (ac 0, 4, .inl (w))), (n4, .inl (ac 2, 3, .inr (.inr (.inr (.inr (zJ3 n5 n6 n7)))))), (n5, .inr (2, [.ref (n8)])), (n8, .inl (ac 0, 48, .inl (ga))), (n6, .inr (2, [.ref (n9)])), (n9, .inl (ac 0, 48, .inl (gb))), (n7, .inr (2, [.ref (n10)])), (n10, .inl (ac 0, 48, .inl (gc))), (n11, .inl (ac 0, 4, .inl (pd))), (n12, .inl (ac 0, 4, .inl (dr)))] := by rw [e1, e2]; exact hD
    exact z_vretW hx hb hr hlocks hK hP hD hS hAe dX1_keep_56

set_option maxRecDepth 100000 in
set_option maxHeartbeats 4000000 in
theorem metX5_needIndex_0 (l : Launch) (D : va_G) (ac : Nat → ClassId) (i1 : Nat) (n1 : Nat) (hi : i1 < n1) (hn : n1 < 1000) : Met l yX5_needIndex wsX5_needIndex ({ frames := 0, cells := 0, slots := 0, locals := 0 } : Room) (va_Pc [.int (nI (i1)), .int (nI (n1))] (zW D ac [])) (zRv) 0 0 (fun _ => False) := by
  refine z_ro (cc := cX5_needIndex) (maxL := 2) (ret := none) (lv := [(0, .int (nI (i1))), (1, .int (nI (n1)))]) (by decide) rfl (Nat.le_of_ble_eq_true rfl) rfl ?_
  intro p e s m args below meth c ls hx hb hr hml hown hts hlocks hl hK hP
  refine lv_iload_n hx hb dX5_needIndex_0 rfl (lv_at hl 0 rfl) ?_
  refine lv_if_lt (tgt := 9) hx hb dX5_needIndex_1 (by decide) (fun c_1 => absurd c_1 (nI_pos (by omega))) (fun c_1 => ?_)
  refine lv_iload_n hx hb dX5_needIndex_4 rfl (lv_at hl 0 rfl) ?_
  refine lv_iload_n hx hb dX5_needIndex_5 rfl (lv_at hl 1 rfl) ?_
  refine z_icmp_lt (tgt := 19) hx hb (i1) (n1) dX5_needIndex_6 (by decide) (by omega) (by omega) rfl rfl (fun c_6 => ?_) (fun c_6 => absurd c_6 (by omega))
  exact z_vret hx hb hr hlocks dX5_needIndex_19

set_option maxRecDepth 100000 in
set_option maxHeartbeats 4000000 in
theorem metX5_needSlice_0 (l : Launch) (D : va_G) (ac : Nat → ClassId) (j1 : Nat) (s1 : Nat) (hj : j1 < 3) (hs : s1 < 12) : Met l yX5_needSlice wsX5_needSlice ({ frames := 1, cells := 0, slots := 0, locals := 21 } : Room) (va_Pc [.int (nI (j1)), .int (nI (s1))] (zW D ac [])) (zRv) 0 0 (fun _ => False) := by
  refine z_ro (cc := cX5_needSlice) (maxL := 2) (ret := none) (lv := [(0, .int (nI (j1))), (1, .int (nI (s1)))]) (by decide) rfl (Nat.le_of_ble_eq_true rfl) rfl ?_
  intro p e s m args below meth c ls hx hb hr hml hown hts hlocks hl hK hP
  refine lv_iload_n hx hb dX5_needSlice_0 rfl (lv_at hl 0 rfl) ?_
  refine lv_iconst (v := 3) hx hb dX5_needSlice_1 (by decide) ?_
  refine z_cv (z_srun (rest := []) (own := RX5) (As := [.int (nI (j1)), .int (3)]) hx hb hml hown hts hl.1 hK hP [] rfl (metX5_needIndex_0 l D ac j1 3 (by omega) (by omega)) gX5_needSlice_X5_needIndex rfl 2 (by decide +kernel) ⟨rfl, rfl, Nat.le_of_ble_eq_true rfl, Nat.le_of_ble_eq_true rfl⟩ rfl rfl (Nat.le_of_ble_eq_true rfl) dX5_needSlice_2 ⟨Nat.zero_le _, Nat.zero_le _⟩) ?_
  refine lv_iload_n hx hb dX5_needSlice_5 rfl (lv_at hl 1 rfl) ?_
  refine lv_bipush (v := 12) hx hb dX5_needSlice_6 (by decide) ?_
  refine z_cv (z_srun (rest := []) (own := RX5) (As := [.int (nI (s1)), .int (12)]) hx hb hml hown hts hl.1 hK hP [] rfl (metX5_needIndex_0 l D ac s1 12 (by omega) (by omega)) gX5_needSlice_X5_needIndex rfl 2 (by decide +kernel) ⟨rfl, rfl, Nat.le_of_ble_eq_true rfl, Nat.le_of_ble_eq_true rfl⟩ rfl rfl (Nat.le_of_ble_eq_true rfl) dX5_needSlice_8 ⟨Nat.zero_le _, Nat.zero_le _⟩) ?_
  exact z_vret hx hb hr hlocks dX5_needSlice_11

set_option maxRecDepth 100000 in
set_option maxHeartbeats 4000000 in
theorem metX5_needRange_0 (l : Launch) (D : va_G) (ac : Nat → ClassId) (x : Int32) (lo : Int32) (up : Int32) (h2 : lo ≤ x ∧ x ≤ up) : Met l yX5_needRange wsX5_needRange ({ frames := 0, cells := 0, slots := 0, locals := 0 } : Room) (va_Pc [.int (x), .int (lo), .int (up)] (zW D ac [])) (zRv) 0 0 (fun _ => False) := by
  refine z_ro (cc := cX5_needRange) (maxL := 3) (ret := none) (lv := [(0, .int (x)), (1, .int (lo)), (2, .int (up))]) (by decide) rfl (Nat.le_of_ble_eq_true rfl) rfl ?_
  intro p e s m args below meth c ls hx hb hr hml hown hts hlocks hl hK hP
  refine lv_iload_n hx hb dX5_needRange_0 rfl (lv_at hl 0 rfl) ?_
  refine lv_iload_n hx hb dX5_needRange_1 rfl (lv_at hl 1 rfl) ?_
  refine lv_icmp_lt (tgt := 10) hx hb dX5_needRange_2 (by decide) (fun c_2 => absurd c_2 (Int32.not_lt.mpr h2.1)) (fun c_2 => ?_)
  refine lv_iload_n hx hb dX5_needRange_5 rfl (lv_at hl 0 rfl) ?_
  refine lv_iload_n hx hb dX5_needRange_6 rfl (lv_at hl 2 rfl) ?_
  refine lv_icmp_le (tgt := 21) hx hb dX5_needRange_7 (by decide) (fun c_7 => ?_) (fun c_7 => absurd c_7 (fun q => q h2.2))
  exact z_vret hx hb hr hlocks dX5_needRange_21

set_option maxRecDepth 100000 in
set_option maxHeartbeats 4000000 in
theorem metX5_needRoom_0 (l : Launch) (D : va_G) (ac : Nat → ClassId) (h0 : Nat) (g0 : Nat) (g : Nat → Int32) (x : Int32) (h3 : qAll g + x ≤ 5000) : Met l yX5_needRoom wsX5_needRoom ({ frames := 4, cells := 0, slots := 0, locals := 88 } : Room) (va_Pc [.ref (h0), .int (x)] (zW D ac [(h0, .inr (2, [.ref (g0)])), (g0, .inl (ac 0, 48, .inl (g)))])) (zRv) 0 0 (fun _ => False) := by
  refine z_ro (cc := cX5_needRoom) (maxL := 2) (ret := none) (lv := [(0, .ref (h0)), (1, .int (x))]) (by decide) rfl (Nat.le_of_ble_eq_true rfl) rfl ?_
  intro p e s m args below meth c ls hx hb hr hml hown hts hlocks hl hK hP
  refine lv_aload_n hx hb dX5_needRoom_0 rfl (lv_at hl 0 rfl) ?_
  refine z_ci (z_vrun (rest := []) (own := RX5) (As := []) hx hb hml hown hts hl.1 hK hP [0, 1] rfl (metX2_all l D ac h0 g0 g ) gX5_needRoom_X2_all rfl 0 (by decide +kernel) ⟨rfl, rfl, Nat.le_of_ble_eq_true rfl, Nat.le_of_ble_eq_true rfl⟩ 0 2 rfl rfl rfl rfl rfl (Nat.le_of_ble_eq_true rfl) dX5_needRoom_1 ⟨Nat.zero_le _, Nat.zero_le _⟩) ?_
  refine lv_iload_n hx hb dX5_needRoom_4 rfl (lv_at hl 1 rfl) ?_
  refine lv_iadd hx hb dX5_needRoom_5 ?_
  refine lv_sipush (v := 5000) hx hb dX5_needRoom_6 (by decide) ?_
  refine lv_icmp_le (tgt := 23) hx hb dX5_needRoom_9 (by decide) (fun c_9 => ?_) (fun c_9 => absurd c_9 (fun q => q h3))
  exact z_vret hx hb hr hlocks dX5_needRoom_23

set_option maxRecDepth 100000 in
set_option maxHeartbeats 4000000 in
theorem metX5_slice_0 (l : Launch) (D : va_G) (ac : Nat → ClassId) (x0 : Nat) (n0 : Nat) (y0 : Nat) (ch : Nat) (sp0 : Nat) (n1 : Nat) (n2 : Nat) (n3 : Nat) (n4 : Nat) (n11 : Nat) (n12 : Nat) (tp : Int32) (fl : Int32) (v : Nat → Int32) (w : Nat → Int32) (jf : Nat → Option Nat) (h0 : Nat) (g0 : Nat) (g : Nat → Int32) (j1 : Nat) (s1 : Nat) (k1 : Nat) (hj : j1 < 3) (hs : s1 < 12) (hk : k1 < 10) (hjf : jf j1 = some h0) : Met l yX5_slice wsX5_slice ({ frames := 3, cells := 0, slots := 0, locals := 69 } : Room) (va_Pc [.ref (x0), .int (nI (j1)), .int (nI (s1)), .int (nI (k1))] (zW D ac [(x0, .inr (5, [.ref (n0), .ref (y0), .ref (ch), .ref (sp0)])), (n0, .inr (4, [.ref (n1), .ref (n4), .ref (n11), .ref (n12), .int (tp), .int (fl)])), (n1, .inr (3, [.ref (n2), .ref (n3)])), (n2, .inl (ac 0, 4, .inl (v))), (n3, .inl (ac 0, 4, .inl (w))), (n4, .inl (ac 2, 3, .inr (.inr (.inr (.inr (jf)))))), (h0, .inr (2, [.ref (g0)])), (g0, .inl (ac 0, 48, .inl (g)))])) (zRi (qSlice g v w s1 k1)) 0 0 (fun _ => False) := by
  refine z_ro (cc := cX5_slice) (maxL := 4) (ret := (some .int)) (lv := [(0, .ref (x0)), (1, .int (nI (j1))), (2, .int (nI (s1))), (3, .int (nI (k1)))]) (by decide) rfl (Nat.le_of_ble_eq_true rfl) rfl ?_
  intro p e s m args below meth c ls hx hb hr hml hown hts hlocks hl hK hP
  refine lv_iload_n hx hb dX5_slice_0 rfl (lv_at hl 1 rfl) ?_
  refine lv_iload_n hx hb dX5_slice_1 rfl (lv_at hl 2 rfl) ?_
  refine z_cv (z_srun (rest := []) (own := RX5) (As := [.int (nI (j1)), .int (nI (s1))]) hx hb hml hown hts hl.1 hK hP [] rfl (metX5_needSlice_0 l D ac j1 s1 (by omega) (by omega)) gX5_slice_X5_needSlice rfl 2 (by decide +kernel) ⟨rfl, rfl, Nat.le_of_ble_eq_true rfl, Nat.le_of_ble_eq_true rfl⟩ rfl rfl (Nat.le_of_ble_eq_true rfl) dX5_slice_2 ⟨Nat.zero_le _, Nat.zero_le _⟩) ?_
  refine lv_iload_n hx hb dX5_slice_5 rfl (lv_at hl 3 rfl) ?_
  refine lv_iconst (v := 0) hx hb dX5_slice_6 (by decide) ?_
  refine lv_bipush (v := 9) hx hb dX5_slice_7 (by decide) ?_
  refine z_cv (z_srun (rest := []) (own := RX5) (As := [.int (nI (k1)), .int (0), .int (9)]) hx hb hml hown hts hl.1 hK hP [] rfl (metX5_needRange_0 l D ac (nI (k1)) 0 9 (z_in (n := 9) (by omega))) gX5_slice_X5_needRange rfl 3 (by decide +kernel) ⟨rfl, rfl, Nat.le_of_ble_eq_true rfl, Nat.le_of_ble_eq_true rfl⟩ rfl rfl (Nat.le_of_ble_eq_true rfl) dX5_slice_9 ⟨Nat.zero_le _, Nat.zero_le _⟩) ?_
  refine lv_aload_n hx hb dX5_slice_12 rfl (lv_at hl 0 rfl) ?_
  refine va_get (ci := 5) (v := .ref (n0)) (C := RX5) (T := TX5) (N := 4) hx hb hts (by decide +kernel) hown hK hP 0 rfl rfl 0 (by decide) (hts (.fieldLink RX5 12 "SettlingJars" "now" "LSettlingJars$State;") (by decide +kernel)) (fun _ h9 => h9) rfl dX5_slice_13 ?_
  refine va_get (ci := 4) (v := .ref (n4)) (C := RX4) (T := TX4) (N := 6) hx hb hts (by decide +kernel) hown hK hP 1 rfl rfl 1 (by decide) (hts (.fieldLink RX5 71 "SettlingJars$State" "jars" "[LSettlingJars$Jar;") (by decide +kernel)) (fun _ h9 => h9) rfl dX5_slice_16 ?_
  refine lv_iload_n hx hb dX5_slice_19 rfl (lv_at hl 1 rfl) ?_
  refine z_aald hx hb hK hP 5 2 rfl rfl (j1) (congrArg nI (by omega)) (by omega) (by decide) (hjf) dX5_slice_20 ?_
  refine lv_iload_n hx hb dX5_slice_21 rfl (lv_at hl 2 rfl) ?_
  refine lv_iload_n hx hb dX5_slice_22 rfl (lv_at hl 3 rfl) ?_
  refine lv_aload_n hx hb dX5_slice_23 rfl (lv_at hl 0 rfl) ?_
  refine va_get (ci := 5) (v := .ref (n0)) (C := RX5) (T := TX5) (N := 4) hx hb hts (by decide +kernel) hown hK hP 0 rfl rfl 0 (by decide) (hts (.fieldLink RX5 12 "SettlingJars" "now" "LSettlingJars$State;") (by decide +kernel)) (fun _ h9 => h9) rfl dX5_slice_24 ?_
  refine va_get (ci := 4) (v := .ref (n1)) (C := RX4) (T := TX4) (N := 6) hx hb hts (by decide +kernel) hown hK hP 1 rfl rfl 0 (by decide) (hts (.fieldLink RX5 58 "SettlingJars$State" "settings" "LSettlingJars$Settings;") (by decide +kernel)) (fun _ h9 => h9) rfl dX5_slice_27 ?_
  refine z_ci (z_vrun (rest := []) (own := RX5) (As := [.int (nI (s1)), .int (nI (k1)), .ref (n1)]) hx hb hml hown hts hl.1 hK hP [6, 7, 2, 3, 4] rfl (metX2_sliceProperty l D ac h0 g0 g n1 n2 n3 v w s1 k1 (by omega) (by omega)) gX5_slice_X2_sliceProperty rfl 3 (by decide +kernel) ⟨rfl, rfl, Nat.le_of_ble_eq_true rfl, Nat.le_of_ble_eq_true rfl⟩ 6 2 rfl rfl rfl rfl rfl (Nat.le_of_ble_eq_true rfl) dX5_slice_30 ⟨Nat.zero_le _, Nat.zero_le _⟩) ?_
  exact z_iret hx hb hr hlocks (rfl) dX5_slice_33

set_option maxRecDepth 100000 in
set_option maxHeartbeats 4000000 in
theorem metX5_jar_0 (l : Launch) (D : va_G) (ac : Nat → ClassId) (x0 : Nat) (n0 : Nat) (y0 : Nat) (ch : Nat) (sp0 : Nat) (n1 : Nat) (n2 : Nat) (n3 : Nat) (n4 : Nat) (n11 : Nat) (n12 : Nat) (tp : Int32) (fl : Int32) (v : Nat → Int32) (w : Nat → Int32) (jf : Nat → Option Nat) (h0 : Nat) (g0 : Nat) (g : Nat → Int32) (j1 : Nat) (k1 : Nat) (hj : j1 < 3) (hk : k1 < 10) (hjf : jf j1 = some h0) : Met l yX5_jar wsX5_jar ({ frames := 5, cells := 0, slots := 0, locals := 115 } : Room) (va_Pc [.ref (x0), .int (nI (j1)), .int (nI (k1))] (zW D ac [(x0, .inr (5, [.ref (n0), .ref (y0), .ref (ch), .ref (sp0)])), (n0, .inr (4, [.ref (n1), .ref (n4), .ref (n11), .ref (n12), .int (tp), .int (fl)])), (n1, .inr (3, [.ref (n2), .ref (n3)])), (n2, .inl (ac 0, 4, .inl (v))), (n3, .inl (ac 0, 4, .inl (w))), (n4, .inl (ac 2, 3, .inr (.inr (.inr (.inr (jf)))))), (h0, .inr (2, [.ref (g0)])), (g0, .inl (ac 0, 48, .inl (g)))])) (zRi (qJar g v w k1)) 0 0 (fun _ => False) := by
  refine z_ro (cc := cX5_jar) (maxL := 3) (ret := (some .int)) (lv := [(0, .ref (x0)), (1, .int (nI (j1))), (2, .int (nI (k1)))]) (by decide) rfl (Nat.le_of_ble_eq_true rfl) rfl ?_
  intro p e s m args below meth c ls hx hb hr hml hown hts hlocks hl hK hP
  refine lv_iload_n hx hb dX5_jar_0 rfl (lv_at hl 1 rfl) ?_
  refine lv_iconst (v := 3) hx hb dX5_jar_1 (by decide) ?_
  refine z_cv (z_srun (rest := []) (own := RX5) (As := [.int (nI (j1)), .int (3)]) hx hb hml hown hts hl.1 hK hP [] rfl (metX5_needIndex_0 l D ac j1 3 (by omega) (by omega)) gX5_jar_X5_needIndex rfl 2 (by decide +kernel) ⟨rfl, rfl, Nat.le_of_ble_eq_true rfl, Nat.le_of_ble_eq_true rfl⟩ rfl rfl (Nat.le_of_ble_eq_true rfl) dX5_jar_2 ⟨Nat.zero_le _, Nat.zero_le _⟩) ?_
  refine lv_iload_n hx hb dX5_jar_5 rfl (lv_at hl 2 rfl) ?_
  refine lv_iconst (v := 0) hx hb dX5_jar_6 (by decide) ?_
  refine lv_bipush (v := 9) hx hb dX5_jar_7 (by decide) ?_
  refine z_cv (z_srun (rest := []) (own := RX5) (As := [.int (nI (k1)), .int (0), .int (9)]) hx hb hml hown hts hl.1 hK hP [] rfl (metX5_needRange_0 l D ac (nI (k1)) 0 9 (z_in (n := 9) (by omega))) gX5_jar_X5_needRange rfl 3 (by decide +kernel) ⟨rfl, rfl, Nat.le_of_ble_eq_true rfl, Nat.le_of_ble_eq_true rfl⟩ rfl rfl (Nat.le_of_ble_eq_true rfl) dX5_jar_9 ⟨Nat.zero_le _, Nat.zero_le _⟩) ?_
  refine lv_aload_n hx hb dX5_jar_12 rfl (lv_at hl 0 rfl) ?_
  refine va_get (ci := 5) (v := .ref (n0)) (C := RX5) (T := TX5) (N := 4) hx hb hts (by decide +kernel) hown hK hP 0 rfl rfl 0 (by decide) (hts (.fieldLink RX5 12 "SettlingJars" "now" "LSettlingJars$State;") (by decide +kernel)) (fun _ h9 => h9) rfl dX5_jar_13 ?_
  refine va_get (ci := 4) (v := .ref (n4)) (C := RX4) (T := TX4) (N := 6) hx hb hts (by decide +kernel) hown hK hP 1 rfl rfl 1 (by decide) (hts (.fieldLink RX5 71 "SettlingJars$State" "jars" "[LSettlingJars$Jar;") (by decide +kernel)) (fun _ h9 => h9) rfl dX5_jar_16 ?_
  refine lv_iload_n hx hb dX5_jar_19 rfl (lv_at hl 1 rfl) ?_
  refine z_aald hx hb hK hP 5 2 rfl rfl (j1) (congrArg nI (by omega)) (by omega) (by decide) (hjf) dX5_jar_20 ?_
  refine lv_iload_n hx hb dX5_jar_21 rfl (lv_at hl 2 rfl) ?_
  refine lv_aload_n hx hb dX5_jar_22 rfl (lv_at hl 0 rfl) ?_
  refine va_get (ci := 5) (v := .ref (n0)) (C := RX5) (T := TX5) (N := 4) hx hb hts (by decide +kernel) hown hK hP 0 rfl rfl 0 (by decide) (hts (.fieldLink RX5 12 "SettlingJars" "now" "LSettlingJars$State;") (by decide +kernel)) (fun _ h9 => h9) rfl dX5_jar_23 ?_
  refine va_get (ci := 4) (v := .ref (n1)) (C := RX4) (T := TX4) (N := 6) hx hb hts (by decide +kernel) hown hK hP 1 rfl rfl 0 (by decide) (hts (.fieldLink RX5 58 "SettlingJars$State" "settings" "LSettlingJars$Settings;") (by decide +kernel)) (fun _ h9 => h9) rfl dX5_jar_26 ?_
  refine z_ci (z_vrun (rest := []) (own := RX5) (As := [.int (nI (k1)), .ref (n1)]) hx hb hml hown hts hl.1 hK hP [6, 7, 2, 3, 4] rfl (metX2_property l D ac h0 g0 g n1 n2 n3 v w k1 (by omega)) gX5_jar_X2_property rfl 2 (by decide +kernel) ⟨rfl, rfl, Nat.le_of_ble_eq_true rfl, Nat.le_of_ble_eq_true rfl⟩ 6 2 rfl rfl rfl rfl rfl (Nat.le_of_ble_eq_true rfl) dX5_jar_29 ⟨Nat.zero_le _, Nat.zero_le _⟩) ?_
  exact z_iret hx hb hr hlocks (rfl) dX5_jar_32

set_option maxRecDepth 100000 in
set_option maxHeartbeats 4000000 in
theorem metX5_why_0 (l : Launch) (D : va_G) (ac : Nat → ClassId) (x0 : Nat) (n0 : Nat) (y0 : Nat) (ch : Nat) (sp0 : Nat) (n1 : Nat) (n2 : Nat) (n3 : Nat) (n4 : Nat) (n11 : Nat) (n12 : Nat) (tp : Int32) (fl : Int32) (v : Nat → Int32) (w : Nat → Int32) (jf : Nat → Option Nat) (h0 : Nat) (g0 : Nat) (g : Nat → Int32) (j1 : Nat) (s1 : Nat) (k1 : Nat) (hj : j1 < 3) (hs : s1 < 12) (hk : k1 < 4) (hjf : jf j1 = some h0) : Met l yX5_why wsX5_why ({ frames := 3, cells := 0, slots := 0, locals := 70 } : Room) (va_Pc [.ref (x0), .int (nI (j1)), .int (nI (s1)), .int (nI (k1))] (zW D ac [(x0, .inr (5, [.ref (n0), .ref (y0), .ref (ch), .ref (sp0)])), (n0, .inr (4, [.ref (n1), .ref (n4), .ref (n11), .ref (n12), .int (tp), .int (fl)])), (n1, .inr (3, [.ref (n2), .ref (n3)])), (n2, .inl (ac 0, 4, .inl (v))), (n3, .inl (ac 0, 4, .inl (w))), (n4, .inl (ac 2, 3, .inr (.inr (.inr (.inr (jf)))))), (h0, .inr (2, [.ref (g0)])), (g0, .inl (ac 0, 48, .inl (g)))])) (zRi (qWhy g v w s1 k1)) 0 0 (fun _ => False) := by
  refine z_ro (cc := cX5_why) (maxL := 4) (ret := (some .int)) (lv := [(0, .ref (x0)), (1, .int (nI (j1))), (2, .int (nI (s1))), (3, .int (nI (k1)))]) (by decide) rfl (Nat.le_of_ble_eq_true rfl) rfl ?_
  intro p e s m args below meth c ls hx hb hr hml hown hts hlocks hl hK hP
  refine lv_iload_n hx hb dX5_why_0 rfl (lv_at hl 1 rfl) ?_
  refine lv_iload_n hx hb dX5_why_1 rfl (lv_at hl 2 rfl) ?_
  refine z_cv (z_srun (rest := []) (own := RX5) (As := [.int (nI (j1)), .int (nI (s1))]) hx hb hml hown hts hl.1 hK hP [] rfl (metX5_needSlice_0 l D ac j1 s1 (by omega) (by omega)) gX5_why_X5_needSlice rfl 2 (by decide +kernel) ⟨rfl, rfl, Nat.le_of_ble_eq_true rfl, Nat.le_of_ble_eq_true rfl⟩ rfl rfl (Nat.le_of_ble_eq_true rfl) dX5_why_2 ⟨Nat.zero_le _, Nat.zero_le _⟩) ?_
  refine lv_iload_n hx hb dX5_why_5 rfl (lv_at hl 3 rfl) ?_
  refine lv_iconst (v := 4) hx hb dX5_why_6 (by decide) ?_
  refine z_cv (z_srun (rest := []) (own := RX5) (As := [.int (nI (k1)), .int (4)]) hx hb hml hown hts hl.1 hK hP [] rfl (metX5_needIndex_0 l D ac k1 4 (by omega) (by omega)) gX5_why_X5_needIndex rfl 2 (by decide +kernel) ⟨rfl, rfl, Nat.le_of_ble_eq_true rfl, Nat.le_of_ble_eq_true rfl⟩ rfl rfl (Nat.le_of_ble_eq_true rfl) dX5_why_7 ⟨Nat.zero_le _, Nat.zero_le _⟩) ?_
  refine lv_aload_n hx hb dX5_why_10 rfl (lv_at hl 0 rfl) ?_
  refine va_get (ci := 5) (v := .ref (n0)) (C := RX5) (T := TX5) (N := 4) hx hb hts (by decide +kernel) hown hK hP 0 rfl rfl 0 (by decide) (hts (.fieldLink RX5 12 "SettlingJars" "now" "LSettlingJars$State;") (by decide +kernel)) (fun _ h9 => h9) rfl dX5_why_11 ?_
  refine va_get (ci := 4) (v := .ref (n4)) (C := RX4) (T := TX4) (N := 6) hx hb hts (by decide +kernel) hown hK hP 1 rfl rfl 1 (by decide) (hts (.fieldLink RX5 71 "SettlingJars$State" "jars" "[LSettlingJars$Jar;") (by decide +kernel)) (fun _ h9 => h9) rfl dX5_why_14 ?_
  refine lv_iload_n hx hb dX5_why_17 rfl (lv_at hl 1 rfl) ?_
  refine z_aald hx hb hK hP 5 2 rfl rfl (j1) (congrArg nI (by omega)) (by omega) (by decide) (hjf) dX5_why_18 ?_
  refine lv_iload_n hx hb dX5_why_19 rfl (lv_at hl 2 rfl) ?_
  refine lv_iload_n hx hb dX5_why_20 rfl (lv_at hl 3 rfl) ?_
  refine lv_aload_n hx hb dX5_why_21 rfl (lv_at hl 0 rfl) ?_
  refine va_get (ci := 5) (v := .ref (n0)) (C := RX5) (T := TX5) (N := 4) hx hb hts (by decide +kernel) hown hK hP 0 rfl rfl 0 (by decide) (hts (.fieldLink RX5 12 "SettlingJars" "now" "LSettlingJars$State;") (by decide +kernel)) (fun _ h9 => h9) rfl dX5_why_22 ?_
  refine va_get (ci := 4) (v := .ref (n1)) (C := RX4) (T := TX4) (N := 6) hx hb hts (by decide +kernel) hown hK hP 1 rfl rfl 0 (by decide) (hts (.fieldLink RX5 58 "SettlingJars$State" "settings" "LSettlingJars$Settings;") (by decide +kernel)) (fun _ h9 => h9) rfl dX5_why_25 ?_
  refine z_ci (z_vrun (rest := []) (own := RX5) (As := [.int (nI (s1)), .int (nI (k1)), .ref (n1)]) hx hb hml hown hts hl.1 hK hP [6, 7, 2, 3, 4] rfl (metX2_reasonToStay l D ac h0 g0 g n1 n2 n3 v w s1 k1 (by omega) (by omega)) gX5_why_X2_reasonToStay rfl 3 (by decide +kernel) ⟨rfl, rfl, Nat.le_of_ble_eq_true rfl, Nat.le_of_ble_eq_true rfl⟩ 6 2 rfl rfl rfl rfl rfl (Nat.le_of_ble_eq_true rfl) dX5_why_28 ⟨Nat.zero_le _, Nat.zero_le _⟩) ?_
  exact z_iret hx hb hr hlocks (rfl) dX5_why_31

set_option maxRecDepth 100000 in
set_option maxHeartbeats 4000000 in
theorem metX5_purest_0 (l : Launch) (D : va_G) (ac : Nat → ClassId) (x0 : Nat) (n0 : Nat) (y0 : Nat) (ch : Nat) (sp0 : Nat) (n1 : Nat) (n2 : Nat) (n3 : Nat) (n4 : Nat) (n11 : Nat) (n12 : Nat) (tp : Int32) (fl : Int32) (v : Nat → Int32) (w : Nat → Int32) (jf : Nat → Option Nat) (h0 : Nat) (g0 : Nat) (g : Nat → Int32) (j1 : Nat) (k1 : Nat) (hj : j1 < 3) (hk : k1 < 4) (hjf : jf j1 = some h0) : Met l yX5_purest wsX5_purest ({ frames := 3, cells := 0, slots := 0, locals := 72 } : Room) (va_Pc [.ref (x0), .int (nI (j1)), .int (nI (k1))] (zW D ac [(x0, .inr (5, [.ref (n0), .ref (y0), .ref (ch), .ref (sp0)])), (n0, .inr (4, [.ref (n1), .ref (n4), .ref (n11), .ref (n12), .int (tp), .int (fl)])), (n1, .inr (3, [.ref (n2), .ref (n3)])), (n2, .inl (ac 0, 4, .inl (v))), (n3, .inl (ac 0, 4, .inl (w))), (n4, .inl (ac 2, 3, .inr (.inr (.inr (.inr (jf)))))), (h0, .inr (2, [.ref (g0)])), (g0, .inl (ac 0, 48, .inl (g)))])) (zRi ((qPu g k1 12).1)) 0 0 (fun _ => False) := by
  refine z_ro (cc := cX5_purest) (maxL := 3) (ret := (some .int)) (lv := [(0, .ref (x0)), (1, .int (nI (j1))), (2, .int (nI (k1)))]) (by decide) rfl (Nat.le_of_ble_eq_true rfl) rfl ?_
  intro p e s m args below meth c ls hx hb hr hml hown hts hlocks hl hK hP
  refine lv_iload_n hx hb dX5_purest_0 rfl (lv_at hl 1 rfl) ?_
  refine lv_iconst (v := 3) hx hb dX5_purest_1 (by decide) ?_
  refine z_cv (z_srun (rest := []) (own := RX5) (As := [.int (nI (j1)), .int (3)]) hx hb hml hown hts hl.1 hK hP [] rfl (metX5_needIndex_0 l D ac j1 3 (by omega) (by omega)) gX5_purest_X5_needIndex rfl 2 (by decide +kernel) ⟨rfl, rfl, Nat.le_of_ble_eq_true rfl, Nat.le_of_ble_eq_true rfl⟩ rfl rfl (Nat.le_of_ble_eq_true rfl) dX5_purest_2 ⟨Nat.zero_le _, Nat.zero_le _⟩) ?_
  refine lv_iload_n hx hb dX5_purest_5 rfl (lv_at hl 2 rfl) ?_
  refine lv_iconst (v := 4) hx hb dX5_purest_6 (by decide) ?_
  refine z_cv (z_srun (rest := []) (own := RX5) (As := [.int (nI (k1)), .int (4)]) hx hb hml hown hts hl.1 hK hP [] rfl (metX5_needIndex_0 l D ac k1 4 (by omega) (by omega)) gX5_purest_X5_needIndex rfl 2 (by decide +kernel) ⟨rfl, rfl, Nat.le_of_ble_eq_true rfl, Nat.le_of_ble_eq_true rfl⟩ rfl rfl (Nat.le_of_ble_eq_true rfl) dX5_purest_7 ⟨Nat.zero_le _, Nat.zero_le _⟩) ?_
  refine lv_aload_n hx hb dX5_purest_10 rfl (lv_at hl 0 rfl) ?_
  refine va_get (ci := 5) (v := .ref (n0)) (C := RX5) (T := TX5) (N := 4) hx hb hts (by decide +kernel) hown hK hP 0 rfl rfl 0 (by decide) (hts (.fieldLink RX5 12 "SettlingJars" "now" "LSettlingJars$State;") (by decide +kernel)) (fun _ h9 => h9) rfl dX5_purest_11 ?_
  refine va_get (ci := 4) (v := .ref (n4)) (C := RX4) (T := TX4) (N := 6) hx hb hts (by decide +kernel) hown hK hP 1 rfl rfl 1 (by decide) (hts (.fieldLink RX5 71 "SettlingJars$State" "jars" "[LSettlingJars$Jar;") (by decide +kernel)) (fun _ h9 => h9) rfl dX5_purest_14 ?_
  refine lv_iload_n hx hb dX5_purest_17 rfl (lv_at hl 1 rfl) ?_
  refine z_aald hx hb hK hP 5 2 rfl rfl (j1) (congrArg nI (by omega)) (by omega) (by decide) (hjf) dX5_purest_18 ?_
  refine lv_iload_n hx hb dX5_purest_19 rfl (lv_at hl 2 rfl) ?_
  refine z_ci (z_vrun (rest := []) (own := RX5) (As := [.int (nI (k1))]) hx hb hml hown hts hl.1 hK hP [6, 7] rfl (metX2_purestSlice l D ac h0 g0 g k1 (by omega)) gX5_purest_X2_purestSlice rfl 1 (by decide +kernel) ⟨rfl, rfl, Nat.le_of_ble_eq_true rfl, Nat.le_of_ble_eq_true rfl⟩ 6 2 rfl rfl rfl rfl rfl (Nat.le_of_ble_eq_true rfl) dX5_purest_20 ⟨Nat.zero_le _, Nat.zero_le _⟩) ?_
  exact z_iret hx hb hr hlocks (rfl) dX5_purest_23

set_option maxRecDepth 100000 in
set_option maxHeartbeats 4000000 in
theorem metX5_meanDepth_0 (l : Launch) (D : va_G) (ac : Nat → ClassId) (x0 : Nat) (n0 : Nat) (y0 : Nat) (ch : Nat) (sp0 : Nat) (n1 : Nat) (n2 : Nat) (n3 : Nat) (n4 : Nat) (n11 : Nat) (n12 : Nat) (tp : Int32) (fl : Int32) (v : Nat → Int32) (w : Nat → Int32) (jf : Nat → Option Nat) (h0 : Nat) (g0 : Nat) (g : Nat → Int32) (j1 : Nat) (hj : j1 < 3) (hjf : jf j1 = some h0) : Met l yX5_meanDepth wsX5_meanDepth ({ frames := 4, cells := 0, slots := 0, locals := 88 } : Room) (va_Pc [.ref (x0), .int (nI (j1))] (zW D ac [(x0, .inr (5, [.ref (n0), .ref (y0), .ref (ch), .ref (sp0)])), (n0, .inr (4, [.ref (n1), .ref (n4), .ref (n11), .ref (n12), .int (tp), .int (fl)])), (n1, .inr (3, [.ref (n2), .ref (n3)])), (n2, .inl (ac 0, 4, .inl (v))), (n3, .inl (ac 0, 4, .inl (w))), (n4, .inl (ac 2, 3, .inr (.inr (.inr (.inr (jf)))))), (h0, .inr (2, [.ref (g0)])), (g0, .inl (ac 0, 48, .inl (g)))])) (zRd (qMean g)) 0 0 (fun _ => False) := by
  refine z_ro (cc := cX5_meanDepth) (maxL := 3) (ret := (some .double)) (lv := [(0, .ref (x0)), (1, .int (nI (j1)))]) (by decide) rfl (Nat.le_of_ble_eq_true rfl) rfl ?_
  intro p e s m args below meth c ls hx hb hr hml hown hts hlocks hl hK hP
  refine lv_iload_n hx hb dX5_meanDepth_0 rfl (lv_at hl 1 rfl) ?_
  refine lv_iconst (v := 3) hx hb dX5_meanDepth_1 (by decide) ?_
  refine z_cv (z_srun (rest := []) (own := RX5) (As := [.int (nI (j1)), .int (3)]) hx hb hml hown hts hl.1 hK hP [] rfl (metX5_needIndex_0 l D ac j1 3 (by omega) (by omega)) gX5_meanDepth_X5_needIndex rfl 2 (by decide +kernel) ⟨rfl, rfl, Nat.le_of_ble_eq_true rfl, Nat.le_of_ble_eq_true rfl⟩ rfl rfl (Nat.le_of_ble_eq_true rfl) dX5_meanDepth_2 ⟨Nat.zero_le _, Nat.zero_le _⟩) ?_
  refine lv_aload_n hx hb dX5_meanDepth_5 rfl (lv_at hl 0 rfl) ?_
  refine va_get (ci := 5) (v := .ref (n0)) (C := RX5) (T := TX5) (N := 4) hx hb hts (by decide +kernel) hown hK hP 0 rfl rfl 0 (by decide) (hts (.fieldLink RX5 12 "SettlingJars" "now" "LSettlingJars$State;") (by decide +kernel)) (fun _ h9 => h9) rfl dX5_meanDepth_6 ?_
  refine va_get (ci := 4) (v := .ref (n4)) (C := RX4) (T := TX4) (N := 6) hx hb hts (by decide +kernel) hown hK hP 1 rfl rfl 1 (by decide) (hts (.fieldLink RX5 71 "SettlingJars$State" "jars" "[LSettlingJars$Jar;") (by decide +kernel)) (fun _ h9 => h9) rfl dX5_meanDepth_9 ?_
  refine lv_iload_n hx hb dX5_meanDepth_12 rfl (lv_at hl 1 rfl) ?_
  refine z_aald hx hb hK hP 5 2 rfl rfl (j1) (congrArg nI (by omega)) (by omega) (by decide) (hjf) dX5_meanDepth_13 ?_
  refine z_ci (z_vrun (rest := []) (own := RX5) (As := []) hx hb hml hown hts hl.1 hK hP [6, 7] rfl (metX2_all l D ac h0 g0 g ) gX5_meanDepth_X2_all rfl 0 (by decide +kernel) ⟨rfl, rfl, Nat.le_of_ble_eq_true rfl, Nat.le_of_ble_eq_true rfl⟩ 6 2 rfl rfl rfl rfl rfl (Nat.le_of_ble_eq_true rfl) dX5_meanDepth_14 ⟨Nat.zero_le _, Nat.zero_le _⟩) ?_
  refine lv_istore_n (lv' := [(2, .int (qAll g)), (0, .ref (x0)), (1, .int (nI (j1)))]) hx hb dX5_meanDepth_17 rfl hl (by decide) rfl (fun ls hl => ?_)
  refine lv_iload_n hx hb dX5_meanDepth_18 rfl (lv_at hl 0 rfl) ?_
  refine lv_if_ne (tgt := 26) hx hb dX5_meanDepth_19 (by decide) (fun c_19 => ?_) (fun c_19 => ?_)
  · refine lv_aload_n hx hb dX5_meanDepth_26 rfl (lv_at hl 1 rfl) ?_
    refine va_get (ci := 5) (v := .ref (n0)) (C := RX5) (T := TX5) (N := 4) hx hb hts (by decide +kernel) hown hK hP 0 rfl rfl 0 (by decide) (hts (.fieldLink RX5 12 "SettlingJars" "now" "LSettlingJars$State;") (by decide +kernel)) (fun _ h9 => h9) rfl dX5_meanDepth_27 ?_
    refine va_get (ci := 4) (v := .ref (n4)) (C := RX4) (T := TX4) (N := 6) hx hb hts (by decide +kernel) hown hK hP 1 rfl rfl 1 (by decide) (hts (.fieldLink RX5 71 "SettlingJars$State" "jars" "[LSettlingJars$Jar;") (by decide +kernel)) (fun _ h9 => h9) rfl dX5_meanDepth_30 ?_
    refine lv_iload_n hx hb dX5_meanDepth_33 rfl (lv_at hl 2 rfl) ?_
    refine z_aald hx hb hK hP 5 2 rfl rfl (j1) (congrArg nI (by omega)) (by omega) (by decide) (hjf) dX5_meanDepth_34 ?_
    refine z_ci (z_vrun (rest := []) (own := RX5) (As := []) hx hb hml hown hts hl.1 hK hP [6, 7] rfl (metX2_sumOfDepths l D ac h0 g0 g ) gX5_meanDepth_X2_sumOfDepths rfl 0 (by decide +kernel) ⟨rfl, rfl, Nat.le_of_ble_eq_true rfl, Nat.le_of_ble_eq_true rfl⟩ 6 2 rfl rfl rfl rfl rfl (Nat.le_of_ble_eq_true rfl) dX5_meanDepth_35 ⟨Nat.zero_le _, Nat.zero_le _⟩) ?_
    refine lv_i2d hx hb dX5_meanDepth_38 ?_
    refine lv_iload_n hx hb dX5_meanDepth_39 rfl (lv_at hl 0 rfl) ?_
    refine lv_i2d hx hb dX5_meanDepth_40 ?_
    refine lv_ddiv hx hb dX5_meanDepth_41 (fp_nn_div _ c_19) ?_
    exact z_dret hx hb hr hlocks ((if_neg c_19).symm) dX5_meanDepth_42
  · refine lv_dconst0 hx hb dX5_meanDepth_22 ?_
    refine lv_goto (tgt := 42) hx hb dX5_meanDepth_23 (by decide) ?_
    exact z_dret hx hb hr hlocks ((if_pos c_19).symm) dX5_meanDepth_42

