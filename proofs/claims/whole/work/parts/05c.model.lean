set_option maxRecDepth 100000 in
set_option maxHeartbeats 4000000 in
theorem metX6_jarNow (l : Launch) (D : va_G) (ac : Nat → ClassId) (m0 : Nat) (z0 : Nat) (sd0 : Nat) (tx0 : Nat) (as0 : Nat) (rd0 : Nat) (th : Int32) (sv : Nat) (ln : Nat) (stp : Nat) (po : Nat) (tl : Int32) (hh : Int64) (z : Nat → Int32) (j1 : Nat) (k1 : Nat) (hj : j1 < 3) (h_k1 : k1 < 10) (hda : ∀ s, s < 12 → ¬ 1000 + qIn (qV z j1) s * z 144 / 10 = 0) : Met l yX6_jarNow wsX6_jarNow ({ frames := 5, cells := 0, slots := 0, locals := 116 } : Room) (va_Pc [.ref (m0), .int (nI (j1)), .int (nI (k1))] (zW D ac [(m0, .inr (6, [.int (th), .ref (z0), .int (nI (sv)), .ref (sd0), .int (nI (ln)), .ref (tx0), .ref (as0), .int (nI (stp)), .int (nI (po)), .int (tl), .ref (rd0), .long (hh)])), (z0, .inl (ac 0, 162, .inl (z)))])) (zRi (mJar z j1 k1)) 0 0 (fun _ => False) := by
  refine z_ro (cc := cX6_jarNow) (maxL := 3) (ret := (some .int)) (lv := [(0, .ref (m0)), (1, .int (nI (j1))), (2, .int (nI (k1)))]) (by decide) rfl (Nat.le_of_ble_eq_true rfl) rfl ?_
  intro p e s m args below meth c ls hx hb hr hml hown hts hlocks hl hK hP
  refine lv_iload_n hx hb dX6_jarNow_0 rfl (lv_at hl 2 rfl) ?_
  obtain rfl | rfl | rfl | rfl | rfl | rfl | rfl | rfl | rfl | rfl := z_cases10 h_k1
  · refine lv_tableIn (off := 55) (tgt := 56) hx hb dX6_jarNow_1 (by decide) (by decide) (by decide) (by decide) ?_
    refine lv_aload_n hx hb dX6_jarNow_56 rfl (lv_at hl 0 rfl) ?_
    refine lv_iload_n hx hb dX6_jarNow_57 rfl (lv_at hl 1 rfl) ?_
    refine z_ci (z_vrun (rest := []) (own := RX6) (As := [.int (nI (j1))]) hx hb hml hown hts hl.1 hK hP [0, 1] rfl (metX6_inJar l D ac m0 z0 sd0 tx0 as0 rd0 th sv ln stp po tl hh z j1 (by omega)) gX6_jarNow_X6_inJar rfl 1 (by decide +kernel) ⟨rfl, rfl, Nat.le_of_ble_eq_true rfl, Nat.le_of_ble_eq_true rfl⟩ 0 6 rfl rfl rfl rfl rfl (Nat.le_of_ble_eq_true rfl) dX6_jarNow_58 ⟨Nat.zero_le _, Nat.zero_le _⟩) ?_
    exact z_iret hx hb hr hlocks (rfl) dX6_jarNow_61
  · refine lv_tableIn (off := 99) (tgt := 100) hx hb dX6_jarNow_1 (by decide) (by decide) (by decide) (by decide) ?_
    refine lv_aload_n hx hb dX6_jarNow_100 rfl (lv_at hl 0 rfl) ?_
    refine lv_iload_n hx hb dX6_jarNow_101 rfl (lv_at hl 1 rfl) ?_
    refine lv_iload_n hx hb dX6_jarNow_102 rfl (lv_at hl 2 rfl) ?_
    refine lv_iconst (v := 1) hx hb dX6_jarNow_103 (by decide) ?_
    refine lv_isub hx hb dX6_jarNow_104 ?_
    refine z_top (y := nI (0)) (pk_sub (a := 1) (b := 1) (by omega)) ?_
    refine z_top (y := nI (0)) (by decide) ?_
    refine z_ci (z_vrun (rest := []) (own := RX6) (As := [.int (nI (j1)), .int (nI (0))]) hx hb hml hown hts hl.1 hK hP [0, 1] rfl (metX6_ofClass l D ac m0 z0 sd0 tx0 as0 rd0 th sv ln stp po tl hh z j1 0 (by omega) (by omega)) gX6_jarNow_X6_ofClass rfl 2 (by decide +kernel) ⟨rfl, rfl, Nat.le_of_ble_eq_true rfl, Nat.le_of_ble_eq_true rfl⟩ 0 6 rfl rfl rfl rfl rfl (Nat.le_of_ble_eq_true rfl) dX6_jarNow_105 ⟨Nat.zero_le _, Nat.zero_le _⟩) ?_
    exact z_iret hx hb hr hlocks (rfl) dX6_jarNow_108
  · refine lv_tableIn (off := 99) (tgt := 100) hx hb dX6_jarNow_1 (by decide) (by decide) (by decide) (by decide) ?_
    refine lv_aload_n hx hb dX6_jarNow_100 rfl (lv_at hl 0 rfl) ?_
    refine lv_iload_n hx hb dX6_jarNow_101 rfl (lv_at hl 1 rfl) ?_
    refine lv_iload_n hx hb dX6_jarNow_102 rfl (lv_at hl 2 rfl) ?_
    refine lv_iconst (v := 1) hx hb dX6_jarNow_103 (by decide) ?_
    refine lv_isub hx hb dX6_jarNow_104 ?_
    refine z_top (y := nI (1)) (pk_sub (a := 2) (b := 1) (by omega)) ?_
    refine z_top (y := nI (1)) (by decide) ?_
    refine z_ci (z_vrun (rest := []) (own := RX6) (As := [.int (nI (j1)), .int (nI (1))]) hx hb hml hown hts hl.1 hK hP [0, 1] rfl (metX6_ofClass l D ac m0 z0 sd0 tx0 as0 rd0 th sv ln stp po tl hh z j1 1 (by omega) (by omega)) gX6_jarNow_X6_ofClass rfl 2 (by decide +kernel) ⟨rfl, rfl, Nat.le_of_ble_eq_true rfl, Nat.le_of_ble_eq_true rfl⟩ 0 6 rfl rfl rfl rfl rfl (Nat.le_of_ble_eq_true rfl) dX6_jarNow_105 ⟨Nat.zero_le _, Nat.zero_le _⟩) ?_
    exact z_iret hx hb hr hlocks (rfl) dX6_jarNow_108
  · refine lv_tableIn (off := 99) (tgt := 100) hx hb dX6_jarNow_1 (by decide) (by decide) (by decide) (by decide) ?_
    refine lv_aload_n hx hb dX6_jarNow_100 rfl (lv_at hl 0 rfl) ?_
    refine lv_iload_n hx hb dX6_jarNow_101 rfl (lv_at hl 1 rfl) ?_
    refine lv_iload_n hx hb dX6_jarNow_102 rfl (lv_at hl 2 rfl) ?_
    refine lv_iconst (v := 1) hx hb dX6_jarNow_103 (by decide) ?_
    refine lv_isub hx hb dX6_jarNow_104 ?_
    refine z_top (y := nI (2)) (pk_sub (a := 3) (b := 1) (by omega)) ?_
    refine z_top (y := nI (2)) (by decide) ?_
    refine z_ci (z_vrun (rest := []) (own := RX6) (As := [.int (nI (j1)), .int (nI (2))]) hx hb hml hown hts hl.1 hK hP [0, 1] rfl (metX6_ofClass l D ac m0 z0 sd0 tx0 as0 rd0 th sv ln stp po tl hh z j1 2 (by omega) (by omega)) gX6_jarNow_X6_ofClass rfl 2 (by decide +kernel) ⟨rfl, rfl, Nat.le_of_ble_eq_true rfl, Nat.le_of_ble_eq_true rfl⟩ 0 6 rfl rfl rfl rfl rfl (Nat.le_of_ble_eq_true rfl) dX6_jarNow_105 ⟨Nat.zero_le _, Nat.zero_le _⟩) ?_
    exact z_iret hx hb hr hlocks (rfl) dX6_jarNow_108
  · refine lv_tableIn (off := 99) (tgt := 100) hx hb dX6_jarNow_1 (by decide) (by decide) (by decide) (by decide) ?_
    refine lv_aload_n hx hb dX6_jarNow_100 rfl (lv_at hl 0 rfl) ?_
    refine lv_iload_n hx hb dX6_jarNow_101 rfl (lv_at hl 1 rfl) ?_
    refine lv_iload_n hx hb dX6_jarNow_102 rfl (lv_at hl 2 rfl) ?_
    refine lv_iconst (v := 1) hx hb dX6_jarNow_103 (by decide) ?_
    refine lv_isub hx hb dX6_jarNow_104 ?_
    refine z_top (y := nI (3)) (pk_sub (a := 4) (b := 1) (by omega)) ?_
    refine z_top (y := nI (3)) (by decide) ?_
    refine z_ci (z_vrun (rest := []) (own := RX6) (As := [.int (nI (j1)), .int (nI (3))]) hx hb hml hown hts hl.1 hK hP [0, 1] rfl (metX6_ofClass l D ac m0 z0 sd0 tx0 as0 rd0 th sv ln stp po tl hh z j1 3 (by omega) (by omega)) gX6_jarNow_X6_ofClass rfl 2 (by decide +kernel) ⟨rfl, rfl, Nat.le_of_ble_eq_true rfl, Nat.le_of_ble_eq_true rfl⟩ 0 6 rfl rfl rfl rfl rfl (Nat.le_of_ble_eq_true rfl) dX6_jarNow_105 ⟨Nat.zero_le _, Nat.zero_le _⟩) ?_
    exact z_iret hx hb hr hlocks (rfl) dX6_jarNow_108
  · refine lv_tableIn (off := 61) (tgt := 62) hx hb dX6_jarNow_1 (by decide) (by decide) (by decide) (by decide) ?_
    refine lv_aload_n hx hb dX6_jarNow_62 rfl (lv_at hl 0 rfl) ?_
    refine lv_iload_n hx hb dX6_jarNow_63 rfl (lv_at hl 1 rfl) ?_
    refine z_ci (z_vrun (rest := []) (own := RX6) (As := [.int (nI (j1))]) hx hb hml hown hts hl.1 hK hP [0, 1] rfl (metX6_bed l D ac m0 z0 sd0 tx0 as0 rd0 th sv ln stp po tl hh z j1 (by omega)) gX6_jarNow_X6_bed rfl 1 (by decide +kernel) ⟨rfl, rfl, Nat.le_of_ble_eq_true rfl, Nat.le_of_ble_eq_true rfl⟩ 0 6 rfl rfl rfl rfl rfl (Nat.le_of_ble_eq_true rfl) dX6_jarNow_64 ⟨Nat.zero_le _, Nat.zero_le _⟩) ?_
    exact z_iret hx hb hr hlocks (rfl) dX6_jarNow_67
  · refine lv_tableIn (off := 67) (tgt := 68) hx hb dX6_jarNow_1 (by decide) (by decide) (by decide) (by decide) ?_
    refine lv_aload_n hx hb dX6_jarNow_68 rfl (lv_at hl 0 rfl) ?_
    refine lv_iload_n hx hb dX6_jarNow_69 rfl (lv_at hl 1 rfl) ?_
    refine z_ci (z_vrun (rest := []) (own := RX6) (As := [.int (nI (j1))]) hx hb hml hown hts hl.1 hK hP [0, 1] rfl (metX6_clearWater l D ac m0 z0 sd0 tx0 as0 rd0 th sv ln stp po tl hh z j1 (by omega)) gX6_jarNow_X6_clearWater rfl 1 (by decide +kernel) ⟨rfl, rfl, Nat.le_of_ble_eq_true rfl, Nat.le_of_ble_eq_true rfl⟩ 0 6 rfl rfl rfl rfl rfl (Nat.le_of_ble_eq_true rfl) dX6_jarNow_70 ⟨Nat.zero_le _, Nat.zero_le _⟩) ?_
    exact z_iret hx hb hr hlocks (rfl) dX6_jarNow_73
  · refine lv_tableIn (off := 73) (tgt := 74) hx hb dX6_jarNow_1 (by decide) (by decide) (by decide) (by decide) ?_
    refine lv_aload_n hx hb dX6_jarNow_74 rfl (lv_at hl 0 rfl) ?_
    refine lv_iload_n hx hb dX6_jarNow_75 rfl (lv_at hl 1 rfl) ?_
    refine z_ci (z_vrun (rest := []) (own := RX6) (As := [.int (nI (j1))]) hx hb hml hown hts hl.1 hK hP [0, 1] rfl (metX6_inBed l D ac m0 z0 sd0 tx0 as0 rd0 th sv ln stp po tl hh z j1 (by omega)) gX6_jarNow_X6_inBed rfl 1 (by decide +kernel) ⟨rfl, rfl, Nat.le_of_ble_eq_true rfl, Nat.le_of_ble_eq_true rfl⟩ 0 6 rfl rfl rfl rfl rfl (Nat.le_of_ble_eq_true rfl) dX6_jarNow_76 ⟨Nat.zero_le _, Nat.zero_le _⟩) ?_
    exact z_iret hx hb hr hlocks (rfl) dX6_jarNow_79
  · refine lv_tableIn (off := 79) (tgt := 80) hx hb dX6_jarNow_1 (by decide) (by decide) (by decide) (by decide) ?_
    refine lv_aload_n hx hb dX6_jarNow_80 rfl (lv_at hl 0 rfl) ?_
    refine lv_iload_n hx hb dX6_jarNow_81 rfl (lv_at hl 1 rfl) ?_
    refine z_ci (z_vrun (rest := []) (own := RX6) (As := [.int (nI (j1))]) hx hb hml hown hts hl.1 hK hP [0, 1] rfl (metX6_changes l D ac m0 z0 sd0 tx0 as0 rd0 th sv ln stp po tl hh z j1 (by omega)) gX6_jarNow_X6_changes rfl 1 (by decide +kernel) ⟨rfl, rfl, Nat.le_of_ble_eq_true rfl, Nat.le_of_ble_eq_true rfl⟩ 0 6 rfl rfl rfl rfl rfl (Nat.le_of_ble_eq_true rfl) dX6_jarNow_82 ⟨Nat.zero_le _, Nat.zero_le _⟩) ?_
    exact z_iret hx hb hr hlocks (rfl) dX6_jarNow_85
  · refine lv_tableIn (off := 85) (tgt := 86) hx hb dX6_jarNow_1 (by decide) (by decide) (by decide) (by decide) ?_
    refine lv_aload_n hx hb dX6_jarNow_86 rfl (lv_at hl 0 rfl) ?_
    refine lv_iload_n hx hb dX6_jarNow_87 rfl (lv_at hl 1 rfl) ?_
    refine z_ci (z_vrun (rest := []) (own := RX6) (As := [.int (nI (j1))]) hx hb hml hown hts hl.1 hK hP [0, 1] rfl (metX6_isAtRest l D ac m0 z0 sd0 tx0 as0 rd0 th sv ln stp po tl hh z j1 (by omega) (hda)) gX6_jarNow_X6_isAtRest rfl 1 (by decide +kernel) ⟨rfl, rfl, Nat.le_of_ble_eq_true rfl, Nat.le_of_ble_eq_true rfl⟩ 0 6 rfl rfl rfl rfl rfl (Nat.le_of_ble_eq_true rfl) dX6_jarNow_88 ⟨Nat.zero_le _, Nat.zero_le _⟩) ?_
    refine z_if_eq (C := mRest z j1 12 = true) (tgt := 98) hx hb dX6_jarNow_91 (by decide) (fun c_91 => ?_) (fun c_91 => ?_)
    · refine lv_iconst (v := 0) hx hb dX6_jarNow_98 (by decide) ?_
      exact z_iret hx hb hr hlocks ((if_neg c_91).symm) dX6_jarNow_99
    · refine lv_iconst (v := 1) hx hb dX6_jarNow_94 (by decide) ?_
      refine lv_goto (tgt := 99) hx hb dX6_jarNow_95 (by decide) ?_
      exact z_iret hx hb hr hlocks ((if_pos c_91).symm) dX6_jarNow_99

set_option maxRecDepth 100000 in
set_option maxHeartbeats 4000000 in
theorem metX6_sliceNow (l : Launch) (D : va_G) (ac : Nat → ClassId) (m0 : Nat) (z0 : Nat) (sd0 : Nat) (tx0 : Nat) (as0 : Nat) (rd0 : Nat) (th : Int32) (sv : Nat) (ln : Nat) (stp : Nat) (po : Nat) (tl : Int32) (hh : Int64) (z : Nat → Int32) (j1 : Nat) (s1 : Nat) (k1 : Nat) (hj : j1 < 3) (hs : s1 < 12) (h_k1 : k1 < 10) (hdiv : ¬ 1000 + qIn (qV z j1) s1 * z 144 / 10 = 0) : Met l yX6_sliceNow wsX6_sliceNow ({ frames := 3, cells := 0, slots := 0, locals := 69 } : Room) (va_Pc [.ref (m0), .int (nI (j1)), .int (nI (s1)), .int (nI (k1))] (zW D ac [(m0, .inr (6, [.int (th), .ref (z0), .int (nI (sv)), .ref (sd0), .int (nI (ln)), .ref (tx0), .ref (as0), .int (nI (stp)), .int (nI (po)), .int (tl), .ref (rd0), .long (hh)])), (z0, .inl (ac 0, 162, .inl (z)))])) (zRi (mSlice z j1 s1 k1)) 0 0 (fun _ => False) := by
  refine z_ro (cc := cX6_sliceNow) (maxL := 4) (ret := (some .int)) (lv := [(0, .ref (m0)), (1, .int (nI (j1))), (2, .int (nI (s1))), (3, .int (nI (k1)))]) (by decide) rfl (Nat.le_of_ble_eq_true rfl) rfl ?_
  intro p e s m args below meth c ls hx hb hr hml hown hts hlocks hl hK hP
  refine lv_iload_n hx hb dX6_sliceNow_0 rfl (lv_at hl 3 rfl) ?_
  obtain rfl | rfl | rfl | rfl | rfl | rfl | rfl | rfl | rfl | rfl := z_cases10 h_k1
  · refine lv_tableOut (tgt := 98) hx hb dX6_sliceNow_1 (by decide) (by decide) ?_
    refine lv_aload_n hx hb dX6_sliceNow_98 rfl (lv_at hl 0 rfl) ?_
    refine va_get (ci := 6) (v := .ref (z0)) (C := RX6) (T := TX6) (N := 12) hx hb hts (by decide +kernel) hown hK hP 0 rfl rfl 1 (by decide) (hts (.fieldLink RX6 7 "SettlingJarsModel" "z" "[I") (by decide +kernel)) (fun _ h9 => h9) rfl dX6_sliceNow_99 ?_
    refine lv_iload_n hx hb dX6_sliceNow_102 rfl (lv_at hl 1 rfl) ?_
    refine lv_iload_n hx hb dX6_sliceNow_103 rfl (lv_at hl 2 rfl) ?_
    refine lv_iload_n hx hb dX6_sliceNow_104 rfl (lv_at hl 3 rfl) ?_
    refine z_ci (z_srun (rest := [.ref (z0)]) (own := RX6) (As := [.int (nI (j1)), .int (nI (s1)), .int (nI (0))]) hx hb hml hown hts hl.1 hK hP [] rfl (metX6_place l D ac j1 s1 0 ) gX6_sliceNow_X6_place rfl 3 (by decide +kernel) ⟨rfl, rfl, Nat.le_of_ble_eq_true rfl, Nat.le_of_ble_eq_true rfl⟩ rfl rfl (Nat.le_of_ble_eq_true rfl) dX6_sliceNow_105 ⟨Nat.zero_le _, Nat.zero_le _⟩) ?_
    refine z_iald hx hb hK hP 1 rfl (48 * j1 + (4 * s1 + 0)) (congrArg nI (by omega)) (by omega) (by decide) dX6_sliceNow_108 ?_
    exact z_iret hx hb hr hlocks (rfl) dX6_sliceNow_109
  · refine lv_tableOut (tgt := 98) hx hb dX6_sliceNow_1 (by decide) (by decide) ?_
    refine lv_aload_n hx hb dX6_sliceNow_98 rfl (lv_at hl 0 rfl) ?_
    refine va_get (ci := 6) (v := .ref (z0)) (C := RX6) (T := TX6) (N := 12) hx hb hts (by decide +kernel) hown hK hP 0 rfl rfl 1 (by decide) (hts (.fieldLink RX6 7 "SettlingJarsModel" "z" "[I") (by decide +kernel)) (fun _ h9 => h9) rfl dX6_sliceNow_99 ?_
    refine lv_iload_n hx hb dX6_sliceNow_102 rfl (lv_at hl 1 rfl) ?_
    refine lv_iload_n hx hb dX6_sliceNow_103 rfl (lv_at hl 2 rfl) ?_
    refine lv_iload_n hx hb dX6_sliceNow_104 rfl (lv_at hl 3 rfl) ?_
    refine z_ci (z_srun (rest := [.ref (z0)]) (own := RX6) (As := [.int (nI (j1)), .int (nI (s1)), .int (nI (1))]) hx hb hml hown hts hl.1 hK hP [] rfl (metX6_place l D ac j1 s1 1 ) gX6_sliceNow_X6_place rfl 3 (by decide +kernel) ⟨rfl, rfl, Nat.le_of_ble_eq_true rfl, Nat.le_of_ble_eq_true rfl⟩ rfl rfl (Nat.le_of_ble_eq_true rfl) dX6_sliceNow_105 ⟨Nat.zero_le _, Nat.zero_le _⟩) ?_
    refine z_iald hx hb hK hP 1 rfl (48 * j1 + (4 * s1 + 1)) (congrArg nI (by omega)) (by omega) (by decide) dX6_sliceNow_108 ?_
    exact z_iret hx hb hr hlocks (rfl) dX6_sliceNow_109
  · refine lv_tableOut (tgt := 98) hx hb dX6_sliceNow_1 (by decide) (by decide) ?_
    refine lv_aload_n hx hb dX6_sliceNow_98 rfl (lv_at hl 0 rfl) ?_
    refine va_get (ci := 6) (v := .ref (z0)) (C := RX6) (T := TX6) (N := 12) hx hb hts (by decide +kernel) hown hK hP 0 rfl rfl 1 (by decide) (hts (.fieldLink RX6 7 "SettlingJarsModel" "z" "[I") (by decide +kernel)) (fun _ h9 => h9) rfl dX6_sliceNow_99 ?_
    refine lv_iload_n hx hb dX6_sliceNow_102 rfl (lv_at hl 1 rfl) ?_
    refine lv_iload_n hx hb dX6_sliceNow_103 rfl (lv_at hl 2 rfl) ?_
    refine lv_iload_n hx hb dX6_sliceNow_104 rfl (lv_at hl 3 rfl) ?_
    refine z_ci (z_srun (rest := [.ref (z0)]) (own := RX6) (As := [.int (nI (j1)), .int (nI (s1)), .int (nI (2))]) hx hb hml hown hts hl.1 hK hP [] rfl (metX6_place l D ac j1 s1 2 ) gX6_sliceNow_X6_place rfl 3 (by decide +kernel) ⟨rfl, rfl, Nat.le_of_ble_eq_true rfl, Nat.le_of_ble_eq_true rfl⟩ rfl rfl (Nat.le_of_ble_eq_true rfl) dX6_sliceNow_105 ⟨Nat.zero_le _, Nat.zero_le _⟩) ?_
    refine z_iald hx hb hK hP 1 rfl (48 * j1 + (4 * s1 + 2)) (congrArg nI (by omega)) (by omega) (by decide) dX6_sliceNow_108 ?_
    exact z_iret hx hb hr hlocks (rfl) dX6_sliceNow_109
  · refine lv_tableOut (tgt := 98) hx hb dX6_sliceNow_1 (by decide) (by decide) ?_
    refine lv_aload_n hx hb dX6_sliceNow_98 rfl (lv_at hl 0 rfl) ?_
    refine va_get (ci := 6) (v := .ref (z0)) (C := RX6) (T := TX6) (N := 12) hx hb hts (by decide +kernel) hown hK hP 0 rfl rfl 1 (by decide) (hts (.fieldLink RX6 7 "SettlingJarsModel" "z" "[I") (by decide +kernel)) (fun _ h9 => h9) rfl dX6_sliceNow_99 ?_
    refine lv_iload_n hx hb dX6_sliceNow_102 rfl (lv_at hl 1 rfl) ?_
    refine lv_iload_n hx hb dX6_sliceNow_103 rfl (lv_at hl 2 rfl) ?_
    refine lv_iload_n hx hb dX6_sliceNow_104 rfl (lv_at hl 3 rfl) ?_
    refine z_ci (z_srun (rest := [.ref (z0)]) (own := RX6) (As := [.int (nI (j1)), .int (nI (s1)), .int (nI (3))]) hx hb hml hown hts hl.1 hK hP [] rfl (metX6_place l D ac j1 s1 3 ) gX6_sliceNow_X6_place rfl 3 (by decide +kernel) ⟨rfl, rfl, Nat.le_of_ble_eq_true rfl, Nat.le_of_ble_eq_true rfl⟩ rfl rfl (Nat.le_of_ble_eq_true rfl) dX6_sliceNow_105 ⟨Nat.zero_le _, Nat.zero_le _⟩) ?_
    refine z_iald hx hb hK hP 1 rfl (48 * j1 + (4 * s1 + 3)) (congrArg nI (by omega)) (by omega) (by decide) dX6_sliceNow_108 ?_
    exact z_iret hx hb hr hlocks (rfl) dX6_sliceNow_109
  · refine lv_tableIn (off := 39) (tgt := 40) hx hb dX6_sliceNow_1 (by decide) (by decide) (by decide) (by decide) ?_
    refine lv_aload_n hx hb dX6_sliceNow_40 rfl (lv_at hl 0 rfl) ?_
    refine lv_iload_n hx hb dX6_sliceNow_41 rfl (lv_at hl 1 rfl) ?_
    refine lv_iload_n hx hb dX6_sliceNow_42 rfl (lv_at hl 2 rfl) ?_
    refine z_ci (z_vrun (rest := []) (own := RX6) (As := [.int (nI (j1)), .int (nI (s1))]) hx hb hml hown hts hl.1 hK hP [0, 1] rfl (metX6_inSlice l D ac m0 z0 sd0 tx0 as0 rd0 th sv ln stp po tl hh z j1 s1 (by omega) (by omega)) gX6_sliceNow_X6_inSlice rfl 2 (by decide +kernel) ⟨rfl, rfl, Nat.le_of_ble_eq_true rfl, Nat.le_of_ble_eq_true rfl⟩ 0 6 rfl rfl rfl rfl rfl (Nat.le_of_ble_eq_true rfl) dX6_sliceNow_43 ⟨Nat.zero_le _, Nat.zero_le _⟩) ?_
    exact z_iret hx hb hr hlocks (rfl) dX6_sliceNow_46
  · refine lv_tableIn (off := 46) (tgt := 47) hx hb dX6_sliceNow_1 (by decide) (by decide) (by decide) (by decide) ?_
    refine lv_aload_n hx hb dX6_sliceNow_47 rfl (lv_at hl 0 rfl) ?_
    refine lv_iload_n hx hb dX6_sliceNow_48 rfl (lv_at hl 1 rfl) ?_
    refine lv_iload_n hx hb dX6_sliceNow_49 rfl (lv_at hl 2 rfl) ?_
    refine z_ci (z_vrun (rest := []) (own := RX6) (As := [.int (nI (j1)), .int (nI (s1))]) hx hb hml hown hts hl.1 hK hP [0, 1] rfl (metX6_isPacked l D ac m0 z0 sd0 tx0 as0 rd0 th sv ln stp po tl hh z j1 s1 (by omega) (by omega)) gX6_sliceNow_X6_isPacked rfl 2 (by decide +kernel) ⟨rfl, rfl, Nat.le_of_ble_eq_true rfl, Nat.le_of_ble_eq_true rfl⟩ 0 6 rfl rfl rfl rfl rfl (Nat.le_of_ble_eq_true rfl) dX6_sliceNow_50 ⟨Nat.zero_le _, Nat.zero_le _⟩) ?_
    refine z_if_eq (C := z 145 ≤ qIn (qV z j1) s1) (tgt := 60) hx hb dX6_sliceNow_53 (by decide) (fun c_53 => ?_) (fun c_53 => ?_)
    · refine lv_iconst (v := 0) hx hb dX6_sliceNow_60 (by decide) ?_
      exact z_iret hx hb hr hlocks ((if_neg c_53).symm) dX6_sliceNow_61
    · refine lv_iconst (v := 1) hx hb dX6_sliceNow_56 (by decide) ?_
      refine lv_goto (tgt := 61) hx hb dX6_sliceNow_57 (by decide) ?_
      exact z_iret hx hb hr hlocks ((if_pos c_53).symm) dX6_sliceNow_61
  · refine lv_tableIn (off := 61) (tgt := 62) hx hb dX6_sliceNow_1 (by decide) (by decide) (by decide) (by decide) ?_
    refine lv_aload_n hx hb dX6_sliceNow_62 rfl (lv_at hl 0 rfl) ?_
    refine lv_iload_n hx hb dX6_sliceNow_63 rfl (lv_at hl 1 rfl) ?_
    refine lv_iload_n hx hb dX6_sliceNow_64 rfl (lv_at hl 2 rfl) ?_
    refine z_ci (z_vrun (rest := []) (own := RX6) (As := [.int (nI (j1)), .int (nI (s1))]) hx hb hml hown hts hl.1 hK hP [0, 1] rfl (metX6_isClear l D ac m0 z0 sd0 tx0 as0 rd0 th sv ln stp po tl hh z j1 s1 (by omega) (by omega)) gX6_sliceNow_X6_isClear rfl 2 (by decide +kernel) ⟨rfl, rfl, Nat.le_of_ble_eq_true rfl, Nat.le_of_ble_eq_true rfl⟩ 0 6 rfl rfl rfl rfl rfl (Nat.le_of_ble_eq_true rfl) dX6_sliceNow_65 ⟨Nat.zero_le _, Nat.zero_le _⟩) ?_
    refine z_if_eq (C := qIn (qV z j1) s1 ≤ z 146) (tgt := 75) hx hb dX6_sliceNow_68 (by decide) (fun c_68 => ?_) (fun c_68 => ?_)
    · refine lv_iconst (v := 0) hx hb dX6_sliceNow_75 (by decide) ?_
      exact z_iret hx hb hr hlocks ((if_neg c_68).symm) dX6_sliceNow_76
    · refine lv_iconst (v := 1) hx hb dX6_sliceNow_71 (by decide) ?_
      refine lv_goto (tgt := 76) hx hb dX6_sliceNow_72 (by decide) ?_
      exact z_iret hx hb hr hlocks ((if_pos c_68).symm) dX6_sliceNow_76
  · refine lv_tableIn (off := 76) (tgt := 77) hx hb dX6_sliceNow_1 (by decide) (by decide) (by decide) (by decide) ?_
    refine lv_aload_n hx hb dX6_sliceNow_77 rfl (lv_at hl 0 rfl) ?_
    refine lv_iload_n hx hb dX6_sliceNow_78 rfl (lv_at hl 1 rfl) ?_
    refine lv_iload_n hx hb dX6_sliceNow_79 rfl (lv_at hl 2 rfl) ?_
    refine z_ci (z_vrun (rest := []) (own := RX6) (As := [.int (nI (j1)), .int (nI (s1))]) hx hb hml hown hts hl.1 hK hP [0, 1] rfl (metX6_leading l D ac m0 z0 sd0 tx0 as0 rd0 th sv ln stp po tl hh z j1 s1 (by omega) (by omega)) gX6_sliceNow_X6_leading rfl 2 (by decide +kernel) ⟨rfl, rfl, Nat.le_of_ble_eq_true rfl, Nat.le_of_ble_eq_true rfl⟩ 0 6 rfl rfl rfl rfl rfl (Nat.le_of_ble_eq_true rfl) dX6_sliceNow_80 ⟨Nat.zero_le _, Nat.zero_le _⟩) ?_
    exact z_iret hx hb hr hlocks (rfl) dX6_sliceNow_83
  · refine lv_tableIn (off := 83) (tgt := 84) hx hb dX6_sliceNow_1 (by decide) (by decide) (by decide) (by decide) ?_
    refine lv_aload_n hx hb dX6_sliceNow_84 rfl (lv_at hl 0 rfl) ?_
    refine lv_iload_n hx hb dX6_sliceNow_85 rfl (lv_at hl 1 rfl) ?_
    refine lv_iload_n hx hb dX6_sliceNow_86 rfl (lv_at hl 2 rfl) ?_
    refine z_ci (z_vrun (rest := []) (own := RX6) (As := [.int (nI (j1)), .int (nI (s1))]) hx hb hml hown hts hl.1 hK hP [0, 1] rfl (metX6_factor l D ac m0 z0 sd0 tx0 as0 rd0 th sv ln stp po tl hh z j1 s1 (by omega) (by omega) (hdiv)) gX6_sliceNow_X6_factor rfl 2 (by decide +kernel) ⟨rfl, rfl, Nat.le_of_ble_eq_true rfl, Nat.le_of_ble_eq_true rfl⟩ 0 6 rfl rfl rfl rfl rfl (Nat.le_of_ble_eq_true rfl) dX6_sliceNow_87 ⟨Nat.zero_le _, Nat.zero_le _⟩) ?_
    exact z_iret hx hb hr hlocks (rfl) dX6_sliceNow_90
  · refine lv_tableIn (off := 90) (tgt := 91) hx hb dX6_sliceNow_1 (by decide) (by decide) (by decide) (by decide) ?_
    refine lv_aload_n hx hb dX6_sliceNow_91 rfl (lv_at hl 0 rfl) ?_
    refine lv_iload_n hx hb dX6_sliceNow_92 rfl (lv_at hl 1 rfl) ?_
    refine lv_iload_n hx hb dX6_sliceNow_93 rfl (lv_at hl 2 rfl) ?_
    refine z_ci (z_vrun (rest := []) (own := RX6) (As := [.int (nI (j1)), .int (nI (s1))]) hx hb hml hown hts hl.1 hK hP [0, 1] rfl (metX6_room l D ac m0 z0 sd0 tx0 as0 rd0 th sv ln stp po tl hh z j1 s1 (by omega) (by omega)) gX6_sliceNow_X6_room rfl 2 (by decide +kernel) ⟨rfl, rfl, Nat.le_of_ble_eq_true rfl, Nat.le_of_ble_eq_true rfl⟩ 0 6 rfl rfl rfl rfl rfl (Nat.le_of_ble_eq_true rfl) dX6_sliceNow_94 ⟨Nat.zero_le _, Nat.zero_le _⟩) ?_
    exact z_iret hx hb hr hlocks (rfl) dX6_sliceNow_97

set_option maxRecDepth 100000 in
set_option maxHeartbeats 4000000 in
theorem metX6_grainsNow (l : Launch) (D : va_G) (ac : Nat → ClassId) (m0 : Nat) (z0 : Nat) (sd0 : Nat) (tx0 : Nat) (as0 : Nat) (rd0 : Nat) (th : Int32) (sv : Nat) (ln : Nat) (stp : Nat) (po : Nat) (tl : Int32) (hh : Int64) (z : Nat → Int32) (k1 : Nat) (k2 : Nat) (hk : k1 < 4) (h_k2 : k2 < 4) : Met l yX6_grainsNow wsX6_grainsNow ({ frames := 2, cells := 0, slots := 0, locals := 46 } : Room) (va_Pc [.ref (m0), .int (nI (k1)), .int (nI (k2))] (zW D ac [(m0, .inr (6, [.int (th), .ref (z0), .int (nI (sv)), .ref (sd0), .int (nI (ln)), .ref (tx0), .ref (as0), .int (nI (stp)), .int (nI (po)), .int (tl), .ref (rd0), .long (hh)])), (z0, .inl (ac 0, 162, .inl (z)))])) (zRi (mGr z k1 k2)) 0 0 (fun _ => False) := by
  refine z_ro (cc := cX6_grainsNow) (maxL := 3) (ret := (some .int)) (lv := [(0, .ref (m0)), (1, .int (nI (k1))), (2, .int (nI (k2)))]) (by decide) rfl (Nat.le_of_ble_eq_true rfl) rfl ?_
  intro p e s m args below meth c ls hx hb hr hml hown hts hlocks hl hK hP
  refine lv_iload_n hx hb dX6_grainsNow_0 rfl (lv_at hl 2 rfl) ?_
  obtain rfl | rfl | rfl | rfl := z_cases4 h_k2
  · refine lv_tableIn (off := 27) (tgt := 28) hx hb dX6_grainsNow_1 (by decide) (by decide) (by decide) (by decide) ?_
    refine lv_aload_n hx hb dX6_grainsNow_28 rfl (lv_at hl 0 rfl) ?_
    refine va_get (ci := 6) (v := .ref (z0)) (C := RX6) (T := TX6) (N := 12) hx hb hts (by decide +kernel) hown hK hP 0 rfl rfl 1 (by decide) (hts (.fieldLink RX6 7 "SettlingJarsModel" "z" "[I") (by decide +kernel)) (fun _ h9 => h9) rfl dX6_grainsNow_29 ?_
    refine lv_sipush (v := 152) hx hb dX6_grainsNow_32 (by decide) ?_
    refine lv_iload_n hx hb dX6_grainsNow_35 rfl (lv_at hl 1 rfl) ?_
    refine lv_iadd hx hb dX6_grainsNow_36 ?_
    refine z_top (y := nI ((152) + (k1))) (nI_add (152) (k1)) ?_
    refine z_iald hx hb hK hP 1 rfl ((152) + (k1)) (rfl) (by omega) (by decide) dX6_grainsNow_37 ?_
    exact z_iret hx hb hr hlocks (rfl) dX6_grainsNow_38
  · refine lv_tableIn (off := 38) (tgt := 39) hx hb dX6_grainsNow_1 (by decide) (by decide) (by decide) (by decide) ?_
    refine lv_aload_n hx hb dX6_grainsNow_39 rfl (lv_at hl 0 rfl) ?_
    refine va_get (ci := 6) (v := .ref (z0)) (C := RX6) (T := TX6) (N := 12) hx hb hts (by decide +kernel) hown hK hP 0 rfl rfl 1 (by decide) (hts (.fieldLink RX6 7 "SettlingJarsModel" "z" "[I") (by decide +kernel)) (fun _ h9 => h9) rfl dX6_grainsNow_40 ?_
    refine lv_sipush (v := 156) hx hb dX6_grainsNow_43 (by decide) ?_
    refine lv_iload_n hx hb dX6_grainsNow_46 rfl (lv_at hl 1 rfl) ?_
    refine lv_iadd hx hb dX6_grainsNow_47 ?_
    refine z_top (y := nI ((156) + (k1))) (nI_add (156) (k1)) ?_
    refine z_iald hx hb hK hP 1 rfl ((156) + (k1)) (rfl) (by omega) (by decide) dX6_grainsNow_48 ?_
    exact z_iret hx hb hr hlocks (rfl) dX6_grainsNow_49
  · refine lv_tableIn (off := 49) (tgt := 50) hx hb dX6_grainsNow_1 (by decide) (by decide) (by decide) (by decide) ?_
    refine lv_aload_n hx hb dX6_grainsNow_50 rfl (lv_at hl 0 rfl) ?_
    refine lv_iconst (v := 0) hx hb dX6_grainsNow_51 (by decide) ?_
    refine lv_iload_n hx hb dX6_grainsNow_52 rfl (lv_at hl 1 rfl) ?_
    refine z_ci (z_vrun (rest := []) (own := RX6) (As := [.int (0), .int (nI (k1))]) hx hb hml hown hts hl.1 hK hP [0, 1] rfl (metX6_ofClass l D ac m0 z0 sd0 tx0 as0 rd0 th sv ln stp po tl hh z 0 k1 (by omega) (by omega)) gX6_grainsNow_X6_ofClass rfl 2 (by decide +kernel) ⟨rfl, rfl, Nat.le_of_ble_eq_true rfl, Nat.le_of_ble_eq_true rfl⟩ 0 6 rfl rfl rfl rfl rfl (Nat.le_of_ble_eq_true rfl) dX6_grainsNow_53 ⟨Nat.zero_le _, Nat.zero_le _⟩) ?_
    refine lv_aload_n hx hb dX6_grainsNow_56 rfl (lv_at hl 0 rfl) ?_
    refine lv_iconst (v := 1) hx hb dX6_grainsNow_57 (by decide) ?_
    refine lv_iload_n hx hb dX6_grainsNow_58 rfl (lv_at hl 1 rfl) ?_
    refine z_ci (z_vrun (rest := [.int (qOf (qV z 0) k1)]) (own := RX6) (As := [.int (1), .int (nI (k1))]) hx hb hml hown hts hl.1 hK hP [0, 1] rfl (metX6_ofClass l D ac m0 z0 sd0 tx0 as0 rd0 th sv ln stp po tl hh z 1 k1 (by omega) (by omega)) gX6_grainsNow_X6_ofClass rfl 2 (by decide +kernel) ⟨rfl, rfl, Nat.le_of_ble_eq_true rfl, Nat.le_of_ble_eq_true rfl⟩ 0 6 rfl rfl rfl rfl rfl (Nat.le_of_ble_eq_true rfl) dX6_grainsNow_59 ⟨Nat.zero_le _, Nat.zero_le _⟩) ?_
    refine lv_iadd hx hb dX6_grainsNow_62 ?_
    refine lv_aload_n hx hb dX6_grainsNow_63 rfl (lv_at hl 0 rfl) ?_
    refine lv_iconst (v := 2) hx hb dX6_grainsNow_64 (by decide) ?_
    refine lv_iload_n hx hb dX6_grainsNow_65 rfl (lv_at hl 1 rfl) ?_
    refine z_ci (z_vrun (rest := [.int ((qOf (qV z 0) k1) + (qOf (qV z 1) k1))]) (own := RX6) (As := [.int (2), .int (nI (k1))]) hx hb hml hown hts hl.1 hK hP [0, 1] rfl (metX6_ofClass l D ac m0 z0 sd0 tx0 as0 rd0 th sv ln stp po tl hh z 2 k1 (by omega) (by omega)) gX6_grainsNow_X6_ofClass rfl 2 (by decide +kernel) ⟨rfl, rfl, Nat.le_of_ble_eq_true rfl, Nat.le_of_ble_eq_true rfl⟩ 0 6 rfl rfl rfl rfl rfl (Nat.le_of_ble_eq_true rfl) dX6_grainsNow_66 ⟨Nat.zero_le _, Nat.zero_le _⟩) ?_
    refine lv_iadd hx hb dX6_grainsNow_69 ?_
    exact z_iret hx hb hr hlocks (rfl) dX6_grainsNow_70
  · refine lv_tableOut (tgt := 71) hx hb dX6_grainsNow_1 (by decide) (by decide) ?_
    refine lv_aload_n hx hb dX6_grainsNow_71 rfl (lv_at hl 0 rfl) ?_
    refine va_get (ci := 6) (v := .ref (z0)) (C := RX6) (T := TX6) (N := 12) hx hb hts (by decide +kernel) hown hK hP 0 rfl rfl 1 (by decide) (hts (.fieldLink RX6 7 "SettlingJarsModel" "z" "[I") (by decide +kernel)) (fun _ h9 => h9) rfl dX6_grainsNow_72 ?_
    refine lv_sipush (v := 148) hx hb dX6_grainsNow_75 (by decide) ?_
    refine lv_iload_n hx hb dX6_grainsNow_78 rfl (lv_at hl 1 rfl) ?_
    refine lv_iadd hx hb dX6_grainsNow_79 ?_
    refine z_top (y := nI ((148) + (k1))) (nI_add (148) (k1)) ?_
    refine z_iald hx hb hK hP 1 rfl ((148) + (k1)) (rfl) (by omega) (by decide) dX6_grainsNow_80 ?_
    exact z_iret hx hb hr hlocks (rfl) dX6_grainsNow_81

set_option maxRecDepth 100000 in
set_option maxHeartbeats 4000000 in
theorem metX6_counted (l : Launch) (D : va_G) (ac : Nat → ClassId) (m0 : Nat) (z0 : Nat) (sd0 : Nat) (tx0 : Nat) (as0 : Nat) (rd0 : Nat) (th : Int32) (sv : Nat) (ln : Nat) (stp : Nat) (po : Nat) (tl : Int32) (hh : Int64) (z : Nat → Int32) (k1 : Nat) (h_k1 : k1 < 6) : Met l yX6_counted wsX6_counted ({ frames := 4, cells := 0, slots := 0, locals := 91 } : Room) (va_Pc [.ref (m0), .int (nI (k1))] (zW D ac [(m0, .inr (6, [.int (th), .ref (z0), .int (nI (sv)), .ref (sd0), .int (nI (ln)), .ref (tx0), .ref (as0), .int (nI (stp)), .int (nI (po)), .int (tl), .ref (rd0), .long (hh)])), (z0, .inl (ac 0, 162, .inl (z)))])) (zRi (mCnt z sv k1)) 0 0 (fun _ => False) := by
  refine z_ro (cc := cX6_counted) (maxL := 2) (ret := (some .int)) (lv := [(0, .ref (m0)), (1, .int (nI (k1)))]) (by decide) rfl (Nat.le_of_ble_eq_true rfl) rfl ?_
  intro p e s m args below meth c ls hx hb hr hml hown hts hlocks hl hK hP
  refine lv_iload_n hx hb dX6_counted_0 rfl (lv_at hl 1 rfl) ?_
  obtain rfl | rfl | rfl | rfl | rfl | rfl := z_cases6 h_k1
  · refine lv_tableIn (off := 35) (tgt := 36) hx hb dX6_counted_1 (by decide) (by decide) (by decide) (by decide) ?_
    refine lv_aload_n hx hb dX6_counted_36 rfl (lv_at hl 0 rfl) ?_
    refine va_get (ci := 6) (v := .ref (z0)) (C := RX6) (T := TX6) (N := 12) hx hb hts (by decide +kernel) hown hK hP 0 rfl rfl 1 (by decide) (hts (.fieldLink RX6 7 "SettlingJarsModel" "z" "[I") (by decide +kernel)) (fun _ h9 => h9) rfl dX6_counted_37 ?_
    refine lv_sipush (v := 160) hx hb dX6_counted_40 (by decide) ?_
    refine z_iald hx hb hK hP 1 rfl (160) (rfl) (by omega) (by decide) dX6_counted_43 ?_
    exact z_iret hx hb hr hlocks (rfl) dX6_counted_44
  · refine lv_tableIn (off := 44) (tgt := 45) hx hb dX6_counted_1 (by decide) (by decide) (by decide) (by decide) ?_
    refine lv_aload_n hx hb dX6_counted_45 rfl (lv_at hl 0 rfl) ?_
    refine lv_iconst (v := 0) hx hb dX6_counted_46 (by decide) ?_
    refine z_ci (z_vrun (rest := []) (own := RX6) (As := [.int (0)]) hx hb hml hown hts hl.1 hK hP [0, 1] rfl (metX6_inJar l D ac m0 z0 sd0 tx0 as0 rd0 th sv ln stp po tl hh z 0 (by omega)) gX6_counted_X6_inJar rfl 1 (by decide +kernel) ⟨rfl, rfl, Nat.le_of_ble_eq_true rfl, Nat.le_of_ble_eq_true rfl⟩ 0 6 rfl rfl rfl rfl rfl (Nat.le_of_ble_eq_true rfl) dX6_counted_47 ⟨Nat.zero_le _, Nat.zero_le _⟩) ?_
    refine lv_aload_n hx hb dX6_counted_50 rfl (lv_at hl 0 rfl) ?_
    refine lv_iconst (v := 1) hx hb dX6_counted_51 (by decide) ?_
    refine z_ci (z_vrun (rest := [.int (qAll (qV z 0))]) (own := RX6) (As := [.int (1)]) hx hb hml hown hts hl.1 hK hP [0, 1] rfl (metX6_inJar l D ac m0 z0 sd0 tx0 as0 rd0 th sv ln stp po tl hh z 1 (by omega)) gX6_counted_X6_inJar rfl 1 (by decide +kernel) ⟨rfl, rfl, Nat.le_of_ble_eq_true rfl, Nat.le_of_ble_eq_true rfl⟩ 0 6 rfl rfl rfl rfl rfl (Nat.le_of_ble_eq_true rfl) dX6_counted_52 ⟨Nat.zero_le _, Nat.zero_le _⟩) ?_
    refine lv_iadd hx hb dX6_counted_55 ?_
    refine lv_aload_n hx hb dX6_counted_56 rfl (lv_at hl 0 rfl) ?_
    refine lv_iconst (v := 2) hx hb dX6_counted_57 (by decide) ?_
    refine z_ci (z_vrun (rest := [.int ((qAll (qV z 0)) + (qAll (qV z 1)))]) (own := RX6) (As := [.int (2)]) hx hb hml hown hts hl.1 hK hP [0, 1] rfl (metX6_inJar l D ac m0 z0 sd0 tx0 as0 rd0 th sv ln stp po tl hh z 2 (by omega)) gX6_counted_X6_inJar rfl 1 (by decide +kernel) ⟨rfl, rfl, Nat.le_of_ble_eq_true rfl, Nat.le_of_ble_eq_true rfl⟩ 0 6 rfl rfl rfl rfl rfl (Nat.le_of_ble_eq_true rfl) dX6_counted_58 ⟨Nat.zero_le _, Nat.zero_le _⟩) ?_
    refine lv_iadd hx hb dX6_counted_61 ?_
    exact z_iret hx hb hr hlocks (rfl) dX6_counted_62
  · refine lv_tableIn (off := 62) (tgt := 63) hx hb dX6_counted_1 (by decide) (by decide) (by decide) (by decide) ?_
    refine lv_aload_n hx hb dX6_counted_63 rfl (lv_at hl 0 rfl) ?_
    refine lv_iconst (v := 0) hx hb dX6_counted_64 (by decide) ?_
    refine z_ci (z_vrun (rest := []) (own := RX6) (As := [.int (0)]) hx hb hml hown hts hl.1 hK hP [0, 1] rfl (metX6_packedIn l D ac m0 z0 sd0 tx0 as0 rd0 th sv ln stp po tl hh z 0 (by omega)) gX6_counted_X6_packedIn rfl 1 (by decide +kernel) ⟨rfl, rfl, Nat.le_of_ble_eq_true rfl, Nat.le_of_ble_eq_true rfl⟩ 0 6 rfl rfl rfl rfl rfl (Nat.le_of_ble_eq_true rfl) dX6_counted_65 ⟨Nat.zero_le _, Nat.zero_le _⟩) ?_
    refine lv_aload_n hx hb dX6_counted_68 rfl (lv_at hl 0 rfl) ?_
    refine lv_iconst (v := 1) hx hb dX6_counted_69 (by decide) ?_
    refine z_ci (z_vrun (rest := [.int (qPkd (qV z 0) (z 145) 12)]) (own := RX6) (As := [.int (1)]) hx hb hml hown hts hl.1 hK hP [0, 1] rfl (metX6_packedIn l D ac m0 z0 sd0 tx0 as0 rd0 th sv ln stp po tl hh z 1 (by omega)) gX6_counted_X6_packedIn rfl 1 (by decide +kernel) ⟨rfl, rfl, Nat.le_of_ble_eq_true rfl, Nat.le_of_ble_eq_true rfl⟩ 0 6 rfl rfl rfl rfl rfl (Nat.le_of_ble_eq_true rfl) dX6_counted_70 ⟨Nat.zero_le _, Nat.zero_le _⟩) ?_
    refine lv_iadd hx hb dX6_counted_73 ?_
    refine lv_aload_n hx hb dX6_counted_74 rfl (lv_at hl 0 rfl) ?_
    refine lv_iconst (v := 2) hx hb dX6_counted_75 (by decide) ?_
    refine z_ci (z_vrun (rest := [.int ((qPkd (qV z 0) (z 145) 12) + (qPkd (qV z 1) (z 145) 12))]) (own := RX6) (As := [.int (2)]) hx hb hml hown hts hl.1 hK hP [0, 1] rfl (metX6_packedIn l D ac m0 z0 sd0 tx0 as0 rd0 th sv ln stp po tl hh z 2 (by omega)) gX6_counted_X6_packedIn rfl 1 (by decide +kernel) ⟨rfl, rfl, Nat.le_of_ble_eq_true rfl, Nat.le_of_ble_eq_true rfl⟩ 0 6 rfl rfl rfl rfl rfl (Nat.le_of_ble_eq_true rfl) dX6_counted_76 ⟨Nat.zero_le _, Nat.zero_le _⟩) ?_
    refine lv_iadd hx hb dX6_counted_79 ?_
    exact z_iret hx hb hr hlocks (rfl) dX6_counted_80
  · refine lv_tableIn (off := 80) (tgt := 81) hx hb dX6_counted_1 (by decide) (by decide) (by decide) (by decide) ?_
    refine lv_aload_n hx hb dX6_counted_81 rfl (lv_at hl 0 rfl) ?_
    refine z_ci (z_vrun (rest := []) (own := RX6) (As := []) hx hb hml hown hts hl.1 hK hP [0, 1] rfl (metX6_clearAll l D ac m0 z0 sd0 tx0 as0 rd0 th sv ln stp po tl hh z ) gX6_counted_X6_clearAll rfl 0 (by decide +kernel) ⟨rfl, rfl, Nat.le_of_ble_eq_true rfl, Nat.le_of_ble_eq_true rfl⟩ 0 6 rfl rfl rfl rfl rfl (Nat.le_of_ble_eq_true rfl) dX6_counted_82 ⟨Nat.zero_le _, Nat.zero_le _⟩) ?_
    exact z_iret hx hb hr hlocks (rfl) dX6_counted_85
  · refine lv_tableIn (off := 85) (tgt := 86) hx hb dX6_counted_1 (by decide) (by decide) (by decide) (by decide) ?_
    refine lv_aload_n hx hb dX6_counted_86 rfl (lv_at hl 0 rfl) ?_
    refine va_get (ci := 6) (v := .ref (z0)) (C := RX6) (T := TX6) (N := 12) hx hb hts (by decide +kernel) hown hK hP 0 rfl rfl 1 (by decide) (hts (.fieldLink RX6 7 "SettlingJarsModel" "z" "[I") (by decide +kernel)) (fun _ h9 => h9) rfl dX6_counted_87 ?_
    refine lv_sipush (v := 161) hx hb dX6_counted_90 (by decide) ?_
    refine z_iald hx hb hK hP 1 rfl (161) (rfl) (by omega) (by decide) dX6_counted_93 ?_
    exact z_iret hx hb hr hlocks (rfl) dX6_counted_94
  · refine lv_tableOut (tgt := 95) hx hb dX6_counted_1 (by decide) (by decide) ?_
    refine lv_aload_n hx hb dX6_counted_95 rfl (lv_at hl 0 rfl) ?_
    refine va_get (ci := 6) (v := .int (nI (sv))) (C := RX6) (T := TX6) (N := 12) hx hb hts (by decide +kernel) hown hK hP 0 rfl rfl 2 (by decide) (hts (.fieldLink RX6 73 "SettlingJarsModel" "saves" "I") (by decide +kernel)) (fun _ h9 => h9) rfl dX6_counted_96 ?_
    exact z_iret hx hb hr hlocks (rfl) dX6_counted_99

set_option maxRecDepth 100000 in
set_option maxHeartbeats 4000000 in
theorem metX6_thrown (l : Launch) (D : va_G) (ac : Nat → ClassId) (m0 : Nat) (z0 : Nat) (sd0 : Nat) (tx0 : Nat) (as0 : Nat) (rd0 : Nat) (th : Int32) (sv : Nat) (ln : Nat) (stp : Nat) (po : Nat) (tl : Int32) (hh : Int64) (z : Nat → Int32)  : Met l yX6_thrown wsX6_thrown ({ frames := 0, cells := 0, slots := 0, locals := 0 } : Room) (va_Pc [.ref (m0)] (zW D ac [(m0, .inr (6, [.int (th), .ref (z0), .int (nI (sv)), .ref (sd0), .int (nI (ln)), .ref (tx0), .ref (as0), .int (nI (stp)), .int (nI (po)), .int (tl), .ref (rd0), .long (hh)])), (z0, .inl (ac 0, 162, .inl (z)))])) (zRi (th)) 0 0 (fun _ => False) := by
  refine z_ro (cc := cX6_thrown) (maxL := 1) (ret := (some .int)) (lv := [(0, .ref (m0))]) (by decide) rfl (Nat.le_of_ble_eq_true rfl) rfl ?_
  intro p e s m args below meth c ls hx hb hr hml hown hts hlocks hl hK hP
  refine lv_aload_n hx hb dX6_thrown_0 rfl (lv_at hl 0 rfl) ?_
  refine va_get (ci := 6) (v := .int (th)) (C := RX6) (T := TX6) (N := 12) hx hb hts (by decide +kernel) hown hK hP 0 rfl rfl 0 (by decide) (hts (.fieldLink RX6 25 "SettlingJarsModel" "thrown" "I") (by decide +kernel)) (fun _ h9 => h9) rfl dX6_thrown_1 ?_
  exact z_iret hx hb hr hlocks (rfl) dX6_thrown_4

set_option maxRecDepth 100000 in
set_option maxHeartbeats 4000000 in
theorem metX6_purestNow (l : Launch) (D : va_G) (ac : Nat → ClassId) (m0 : Nat) (z0 : Nat) (sd0 : Nat) (tx0 : Nat) (as0 : Nat) (rd0 : Nat) (th : Int32) (sv : Nat) (ln : Nat) (stp : Nat) (po : Nat) (tl : Int32) (hh : Int64) (z : Nat → Int32) (j1 : Nat) (k1 : Nat) (hj : j1 < 3) (hk : k1 < 4) : Met l yX6_purestNow wsX6_purestNow ({ frames := 2, cells := 0, slots := 0, locals := 46 } : Room) (va_Pc [.ref (m0), .int (nI (j1)), .int (nI (k1))] (zW D ac [(m0, .inr (6, [.int (th), .ref (z0), .int (nI (sv)), .ref (sd0), .int (nI (ln)), .ref (tx0), .ref (as0), .int (nI (stp)), .int (nI (po)), .int (tl), .ref (rd0), .long (hh)])), (z0, .inl (ac 0, 162, .inl (z)))])) (zRi (zOI (mPu z j1 k1 12))) 0 0 (fun _ => False) := by
  refine z_ro (cc := cX6_purestNow) (maxL := 7) (ret := (some .int)) (lv := [(0, .ref (m0)), (1, .int (nI (j1))), (2, .int (nI (k1)))]) (by decide) rfl (Nat.le_of_ble_eq_true rfl) rfl ?_
  intro p e s m args below meth c ls hx hb hr hml hown hts hlocks hl hK hP
  refine lv_iconst (v := (-1)) hx hb dX6_purestNow_0 (by decide) ?_
  refine lv_istore_n (lv' := [(3, .int ((-1))), (0, .ref (m0)), (1, .int (nI (j1))), (2, .int (nI (k1)))]) hx hb dX6_purestNow_1 rfl hl (by decide) rfl (fun ls hl => ?_)
  refine lv_iconst (v := 0) hx hb dX6_purestNow_2 (by decide) ?_
  refine lv_istore (lv' := [(4, .int (0)), (3, .int ((-1))), (0, .ref (m0)), (1, .int (nI (j1))), (2, .int (nI (k1)))]) hx hb dX6_purestNow_3 hl (by decide) rfl (fun ls hl => ?_)
  have hL_5 : ∀ (n : Nat) (i : Nat) (o : Option Nat), (i + n = 12) → (mPu z j1 k1 i = o) → (∀ b, o = some b → b < 12) → ∀ (ls : Array Slot), lv_has ls 7 [(4, .int (nI (i))), (3, .int (zOI o)), (0, .ref (m0)), (1, .int (nI (j1))), (2, .int (nI (k1)))] → W p l e ({ frames := 2, cells := 0, slots := 0, locals := 46 } : Room) s m args below meth c s.heap [] 0 0 (MQ below (zRi (zOI (mPu z j1 k1 12))) args s 0 0 (fun _ => False)) (F0 m 5 ls []) := by
    intro n
    induction n with
    | zero =>
      intro i o hi ho hob ls hl
      have e_i : 12 = i := by omega
      subst e_i
      refine lv_iload hx hb dX6_purestNow_5 (lv_at hl 0 rfl) ?_
      refine lv_bipush (v := 12) hx hb dX6_purestNow_7 (by decide) ?_
      refine z_icmp_ge (tgt := 92) hx hb (12) (12) dX6_purestNow_9 (by decide) (by omega) (by omega) rfl rfl (fun c_9 => ?_) (fun c_9 => absurd c_9 (by omega))
      refine lv_iload_n hx hb dX6_purestNow_92 rfl (lv_at hl 1 rfl) ?_
      exact z_iret hx hb hr hlocks (congrArg zOI ho.symm) dX6_purestNow_93
    | succ n ih =>
      intro i o hi ho hob ls hl
      refine lv_iload hx hb dX6_purestNow_5 (lv_at hl 0 rfl) ?_
      refine lv_bipush (v := 12) hx hb dX6_purestNow_7 (by decide) ?_
      refine z_icmp_ge (tgt := 92) hx hb (i) (12) dX6_purestNow_9 (by decide) (by omega) (by omega) rfl rfl (fun c_9 => absurd c_9 (by omega)) (fun c_9 => ?_)
      rcases o with _ | b
      · refine lv_aload_n hx hb dX6_purestNow_12 rfl (lv_at hl 2 rfl) ?_
        refine va_get (ci := 6) (v := .ref (z0)) (C := RX6) (T := TX6) (N := 12) hx hb hts (by decide +kernel) hown hK hP 0 rfl rfl 1 (by decide) (hts (.fieldLink RX6 7 "SettlingJarsModel" "z" "[I") (by decide +kernel)) (fun _ h9 => h9) rfl dX6_purestNow_13 ?_
        refine lv_iload_n hx hb dX6_purestNow_16 rfl (lv_at hl 3 rfl) ?_
        refine lv_iload hx hb dX6_purestNow_17 (lv_at hl 0 rfl) ?_
        refine lv_iload_n hx hb dX6_purestNow_19 rfl (lv_at hl 4 rfl) ?_
        refine z_ci (z_srun (rest := [.ref (z0)]) (own := RX6) (As := [.int (nI (j1)), .int (nI (i)), .int (nI (k1))]) hx hb hml hown hts hl.1 hK hP [] rfl (metX6_place l D ac j1 i k1 ) gX6_purestNow_X6_place rfl 3 (by decide +kernel) ⟨rfl, rfl, Nat.le_of_ble_eq_true rfl, Nat.le_of_ble_eq_true rfl⟩ rfl rfl (Nat.le_of_ble_eq_true rfl) dX6_purestNow_20 ⟨Nat.zero_le _, Nat.zero_le _⟩) ?_
        refine z_iald hx hb hK hP 1 rfl (48 * j1 + (4 * i + k1)) (congrArg nI (by omega)) (by omega) (by decide) dX6_purestNow_23 ?_
        refine lv_istore (lv' := [(5, .int (z (48 * j1 + (4 * i + k1)))), (4, .int (nI (i))), (3, .int (zOI none)), (0, .ref (m0)), (1, .int (nI (j1))), (2, .int (nI (k1)))]) hx hb dX6_purestNow_24 hl (by decide) rfl (fun ls hl => ?_)
        refine lv_iload hx hb dX6_purestNow_26 (lv_at hl 0 rfl) ?_
        refine lv_if_le (tgt := 71) hx hb dX6_purestNow_28 (by decide) (fun c_28 => ?_) (fun c_28 => ?_)
        · refine lv_iconst (v := 0) hx hb dX6_purestNow_71 (by decide) ?_
          refine lv_istore (lv' := [(6, .int (0)), (5, .int (z (48 * j1 + (4 * i + k1)))), (4, .int (nI (i))), (3, .int (zOI none)), (0, .ref (m0)), (1, .int (nI (j1))), (2, .int (nI (k1)))]) hx hb dX6_purestNow_72 hl (by decide) rfl (fun ls hl => ?_)
          refine lv_iload hx hb dX6_purestNow_74 (lv_at hl 0 rfl) ?_
          refine lv_if_eq (tgt := 84) hx hb dX6_purestNow_76 (by decide) (fun _ => ?_) (fun c_ => absurd (by decide) c_)
          refine lv_iload_n hx hb dX6_purestNow_84 rfl (lv_at hl 3 rfl) ?_
          refine lv_istore_n (lv' := [(3, .int (zOI none)), (6, .int (0)), (5, .int (z (48 * j1 + (4 * i + k1)))), (4, .int (nI (i))), (0, .ref (m0)), (1, .int (nI (j1))), (2, .int (nI (k1)))]) hx hb dX6_purestNow_85 rfl hl (by decide) rfl (fun ls hl => ?_)
          refine lv_iinc (v := nI ((i) + 1)) (lv' := [(4, .int (nI ((i) + 1))), (3, .int (zOI none)), (6, .int (0)), (5, .int (z (48 * j1 + (4 * i + k1)))), (0, .ref (m0)), (1, .int (nI (j1))), (2, .int (nI (k1)))]) hx hb dX6_purestNow_86 hl (k := 3) rfl (show nI (i) + Int32.ofInt 1 = _ from nI_add (i) 1) (by decide) rfl (fun ls hl => ?_)
          refine lv_goto (tgt := 5) hx hb dX6_purestNow_89 (by decide) ?_
          exact ih (i + 1) (none) (by omega) ((m_pu_no (fun q => absurd c_28 (Int32.not_le.mpr q.1))).trans ho) (fun x h => by cases h) ls (lv_sub hl [0, 1, 4, 5, 6] rfl)
        · refine lv_iload_n hx hb dX6_purestNow_31 rfl (lv_at hl 2 rfl) ?_
          refine z_top (y := (-1)) (rfl) ?_
          refine lv_iconst (v := (-1)) hx hb dX6_purestNow_32 (by decide) ?_
          refine lv_icmp_eq (tgt := 67) hx hb dX6_purestNow_33 (by decide) (fun c_33 => ?_) (fun c_33 => absurd c_33 (fun q => q rfl))
          refine lv_iconst (v := 1) hx hb dX6_purestNow_67 (by decide) ?_
          refine lv_goto (tgt := 72) hx hb dX6_purestNow_68 (by decide) ?_
          refine lv_istore (lv' := [(6, .int (1)), (5, .int (z (48 * j1 + (4 * i + k1)))), (4, .int (nI (i))), (3, .int (zOI none)), (0, .ref (m0)), (1, .int (nI (j1))), (2, .int (nI (k1)))]) hx hb dX6_purestNow_72 hl (by decide) rfl (fun ls hl => ?_)
          refine lv_iload hx hb dX6_purestNow_74 (lv_at hl 0 rfl) ?_
          refine lv_if_eq (tgt := 84) hx hb dX6_purestNow_76 (by decide) (fun c_ => absurd c_ (by decide)) (fun _ => ?_)
          refine lv_iload hx hb dX6_purestNow_79 (lv_at hl 2 rfl) ?_
          refine lv_goto (tgt := 85) hx hb dX6_purestNow_81 (by decide) ?_
          refine lv_istore_n (lv' := [(3, .int (nI (i))), (6, .int (1)), (5, .int (z (48 * j1 + (4 * i + k1)))), (4, .int (nI (i))), (0, .ref (m0)), (1, .int (nI (j1))), (2, .int (nI (k1)))]) hx hb dX6_purestNow_85 rfl hl (by decide) rfl (fun ls hl => ?_)
          refine lv_iinc (v := nI ((i) + 1)) (lv' := [(4, .int (nI ((i) + 1))), (3, .int (nI (i))), (6, .int (1)), (5, .int (z (48 * j1 + (4 * i + k1)))), (0, .ref (m0)), (1, .int (nI (j1))), (2, .int (nI (k1)))]) hx hb dX6_purestNow_86 hl (k := 3) rfl (show nI (i) + Int32.ofInt 1 = _ from nI_add (i) 1) (by decide) rfl (fun ls hl => ?_)
          refine lv_goto (tgt := 5) hx hb dX6_purestNow_89 (by decide) ?_
          exact ih (i + 1) (some i) (by omega) (m_pu_yes (by rw [ho]; exact ⟨Int32.not_le.mp c_28, Or.inl rfl⟩)) (fun x h => by cases h; omega) ls (lv_sub hl [0, 1, 4, 5, 6] rfl)
      · have hb9 : b < 12 := hob b rfl
        refine lv_aload_n hx hb dX6_purestNow_12 rfl (lv_at hl 2 rfl) ?_
        refine va_get (ci := 6) (v := .ref (z0)) (C := RX6) (T := TX6) (N := 12) hx hb hts (by decide +kernel) hown hK hP 0 rfl rfl 1 (by decide) (hts (.fieldLink RX6 7 "SettlingJarsModel" "z" "[I") (by decide +kernel)) (fun _ h9 => h9) rfl dX6_purestNow_13 ?_
        refine lv_iload_n hx hb dX6_purestNow_16 rfl (lv_at hl 3 rfl) ?_
        refine lv_iload hx hb dX6_purestNow_17 (lv_at hl 0 rfl) ?_
        refine lv_iload_n hx hb dX6_purestNow_19 rfl (lv_at hl 4 rfl) ?_
        refine z_ci (z_srun (rest := [.ref (z0)]) (own := RX6) (As := [.int (nI (j1)), .int (nI (i)), .int (nI (k1))]) hx hb hml hown hts hl.1 hK hP [] rfl (metX6_place l D ac j1 i k1 ) gX6_purestNow_X6_place rfl 3 (by decide +kernel) ⟨rfl, rfl, Nat.le_of_ble_eq_true rfl, Nat.le_of_ble_eq_true rfl⟩ rfl rfl (Nat.le_of_ble_eq_true rfl) dX6_purestNow_20 ⟨Nat.zero_le _, Nat.zero_le _⟩) ?_
        refine z_iald hx hb hK hP 1 rfl (48 * j1 + (4 * i + k1)) (congrArg nI (by omega)) (by omega) (by decide) dX6_purestNow_23 ?_
        refine lv_istore (lv' := [(5, .int (z (48 * j1 + (4 * i + k1)))), (4, .int (nI (i))), (3, .int (zOI ((some b)))), (0, .ref (m0)), (1, .int (nI (j1))), (2, .int (nI (k1)))]) hx hb dX6_purestNow_24 hl (by decide) rfl (fun ls hl => ?_)
        refine lv_iload hx hb dX6_purestNow_26 (lv_at hl 0 rfl) ?_
        refine lv_if_le (tgt := 71) hx hb dX6_purestNow_28 (by decide) (fun c_28 => ?_) (fun c_28 => ?_)
        · refine lv_iconst (v := 0) hx hb dX6_purestNow_71 (by decide) ?_
          refine lv_istore (lv' := [(6, .int (0)), (5, .int (z (48 * j1 + (4 * i + k1)))), (4, .int (nI (i))), (3, .int (zOI ((some b)))), (0, .ref (m0)), (1, .int (nI (j1))), (2, .int (nI (k1)))]) hx hb dX6_purestNow_72 hl (by decide) rfl (fun ls hl => ?_)
          refine lv_iload hx hb dX6_purestNow_74 (lv_at hl 0 rfl) ?_
          refine lv_if_eq (tgt := 84) hx hb dX6_purestNow_76 (by decide) (fun _ => ?_) (fun c_ => absurd (by decide) c_)
          refine lv_iload_n hx hb dX6_purestNow_84 rfl (lv_at hl 3 rfl) ?_
          refine lv_istore_n (lv' := [(3, .int (zOI ((some b)))), (6, .int (0)), (5, .int (z (48 * j1 + (4 * i + k1)))), (4, .int (nI (i))), (0, .ref (m0)), (1, .int (nI (j1))), (2, .int (nI (k1)))]) hx hb dX6_purestNow_85 rfl hl (by decide) rfl (fun ls hl => ?_)
          refine lv_iinc (v := nI ((i) + 1)) (lv' := [(4, .int (nI ((i) + 1))), (3, .int (zOI ((some b)))), (6, .int (0)), (5, .int (z (48 * j1 + (4 * i + k1)))), (0, .ref (m0)), (1, .int (nI (j1))), (2, .int (nI (k1)))]) hx hb dX6_purestNow_86 hl (k := 3) rfl (show nI (i) + Int32.ofInt 1 = _ from nI_add (i) 1) (by decide) rfl (fun ls hl => ?_)
          refine lv_goto (tgt := 5) hx hb dX6_purestNow_89 (by decide) ?_
          exact ih (i + 1) (some b) (by omega) ((m_pu_no (fun q => absurd c_28 (Int32.not_le.mpr q.1))).trans ho) (hob) ls (lv_sub hl [0, 1, 4, 5, 6] rfl)
        · refine lv_iload_n hx hb dX6_purestNow_31 rfl (lv_at hl 2 rfl) ?_
          refine z_top (y := nI (b)) (rfl) ?_
          refine lv_iconst (v := (-1)) hx hb dX6_purestNow_32 (by decide) ?_
          refine lv_icmp_eq (tgt := 67) hx hb dX6_purestNow_33 (by decide) (fun c_33 => absurd c_33 (z_nm1 (by omega))) (fun c_33 => ?_)
          refine lv_iload hx hb dX6_purestNow_36 (lv_at hl 0 rfl) ?_
          refine lv_aload_n hx hb dX6_purestNow_38 rfl (lv_at hl 3 rfl) ?_
          refine lv_iload_n hx hb dX6_purestNow_39 rfl (lv_at hl 4 rfl) ?_
          refine lv_iload_n hx hb dX6_purestNow_40 rfl (lv_at hl 2 rfl) ?_
          refine z_top (y := nI (b)) (rfl) ?_
          refine z_ci (z_vrun (rest := [.int (z (48 * j1 + (4 * i + k1)))]) (own := RX6) (As := [.int (nI (j1)), .int (nI (b))]) hx hb hml hown hts hl.1 hK hP [0, 1] rfl (metX6_inSlice l D ac m0 z0 sd0 tx0 as0 rd0 th sv ln stp po tl hh z j1 b (by omega) (by omega)) gX6_purestNow_X6_inSlice rfl 2 (by decide +kernel) ⟨rfl, rfl, Nat.le_of_ble_eq_true rfl, Nat.le_of_ble_eq_true rfl⟩ 0 6 rfl rfl rfl rfl rfl (Nat.le_of_ble_eq_true rfl) dX6_purestNow_41 ⟨Nat.zero_le _, Nat.zero_le _⟩) ?_
          refine lv_imul hx hb dX6_purestNow_44 ?_
          refine lv_aload_n hx hb dX6_purestNow_45 rfl (lv_at hl 3 rfl) ?_
          refine va_get (ci := 6) (v := .ref (z0)) (C := RX6) (T := TX6) (N := 12) hx hb hts (by decide +kernel) hown hK hP 0 rfl rfl 1 (by decide) (hts (.fieldLink RX6 7 "SettlingJarsModel" "z" "[I") (by decide +kernel)) (fun _ h9 => h9) rfl dX6_purestNow_46 ?_
          refine lv_iload_n hx hb dX6_purestNow_49 rfl (lv_at hl 4 rfl) ?_
          refine lv_iload_n hx hb dX6_purestNow_50 rfl (lv_at hl 2 rfl) ?_
          refine z_top (y := nI (b)) (rfl) ?_
          refine lv_iload_n hx hb dX6_purestNow_51 rfl (lv_at hl 5 rfl) ?_
          refine z_ci (z_srun (rest := [.ref (z0), .int ((z (48 * j1 + (4 * i + k1))) * (qIn (qV z j1) b))]) (own := RX6) (As := [.int (nI (j1)), .int (nI (b)), .int (nI (k1))]) hx hb hml hown hts hl.1 hK hP [] rfl (metX6_place l D ac j1 b k1 ) gX6_purestNow_X6_place rfl 3 (by decide +kernel) ⟨rfl, rfl, Nat.le_of_ble_eq_true rfl, Nat.le_of_ble_eq_true rfl⟩ rfl rfl (Nat.le_of_ble_eq_true rfl) dX6_purestNow_52 ⟨Nat.zero_le _, Nat.zero_le _⟩) ?_
          refine z_iald hx hb hK hP 1 rfl (48 * j1 + (4 * b + k1)) (congrArg nI (by omega)) (by omega) (by decide) dX6_purestNow_55 ?_
          refine lv_aload_n hx hb dX6_purestNow_56 rfl (lv_at hl 3 rfl) ?_
          refine lv_iload_n hx hb dX6_purestNow_57 rfl (lv_at hl 4 rfl) ?_
          refine lv_iload hx hb dX6_purestNow_58 (lv_at hl 1 rfl) ?_
          refine z_ci (z_vrun (rest := [.int (z (48 * j1 + (4 * b + k1))), .int ((z (48 * j1 + (4 * i + k1))) * (qIn (qV z j1) b))]) (own := RX6) (As := [.int (nI (j1)), .int (nI (i))]) hx hb hml hown hts hl.1 hK hP [0, 1] rfl (metX6_inSlice l D ac m0 z0 sd0 tx0 as0 rd0 th sv ln stp po tl hh z j1 i (by omega) (by omega)) gX6_purestNow_X6_inSlice rfl 2 (by decide +kernel) ⟨rfl, rfl, Nat.le_of_ble_eq_true rfl, Nat.le_of_ble_eq_true rfl⟩ 0 6 rfl rfl rfl rfl rfl (Nat.le_of_ble_eq_true rfl) dX6_purestNow_60 ⟨Nat.zero_le _, Nat.zero_le _⟩) ?_
          refine lv_imul hx hb dX6_purestNow_63 ?_
          refine lv_icmp_le (tgt := 71) hx hb dX6_purestNow_64 (by decide) (fun c_64 => ?_) (fun c_64 => ?_)
          · refine lv_iconst (v := 0) hx hb dX6_purestNow_71 (by decide) ?_
            refine lv_istore (lv' := [(6, .int (0)), (5, .int (z (48 * j1 + (4 * i + k1)))), (4, .int (nI (i))), (3, .int (zOI ((some b)))), (0, .ref (m0)), (1, .int (nI (j1))), (2, .int (nI (k1)))]) hx hb dX6_purestNow_72 hl (by decide) rfl (fun ls hl => ?_)
            refine lv_iload hx hb dX6_purestNow_74 (lv_at hl 0 rfl) ?_
            refine lv_if_eq (tgt := 84) hx hb dX6_purestNow_76 (by decide) (fun _ => ?_) (fun c_ => absurd (by decide) c_)
            refine lv_iload_n hx hb dX6_purestNow_84 rfl (lv_at hl 3 rfl) ?_
            refine lv_istore_n (lv' := [(3, .int (zOI ((some b)))), (6, .int (0)), (5, .int (z (48 * j1 + (4 * i + k1)))), (4, .int (nI (i))), (0, .ref (m0)), (1, .int (nI (j1))), (2, .int (nI (k1)))]) hx hb dX6_purestNow_85 rfl hl (by decide) rfl (fun ls hl => ?_)
            refine lv_iinc (v := nI ((i) + 1)) (lv' := [(4, .int (nI ((i) + 1))), (3, .int (zOI ((some b)))), (6, .int (0)), (5, .int (z (48 * j1 + (4 * i + k1)))), (0, .ref (m0)), (1, .int (nI (j1))), (2, .int (nI (k1)))]) hx hb dX6_purestNow_86 hl (k := 3) rfl (show nI (i) + Int32.ofInt 1 = _ from nI_add (i) 1) (by decide) rfl (fun ls hl => ?_)
            refine lv_goto (tgt := 5) hx hb dX6_purestNow_89 (by decide) ?_
            exact ih (i + 1) (some b) (by omega) ((m_pu_no (fun q => by rw [ho] at q; rcases q.2 with w9 | ⟨b9, w9, w8⟩; (cases w9); (cases w9; exact absurd c_64 (Int32.not_le.mpr w8)))).trans ho) (hob) ls (lv_sub hl [0, 1, 4, 5, 6] rfl)
          · refine lv_iconst (v := 1) hx hb dX6_purestNow_67 (by decide) ?_
            refine lv_goto (tgt := 72) hx hb dX6_purestNow_68 (by decide) ?_
            refine lv_istore (lv' := [(6, .int (1)), (5, .int (z (48 * j1 + (4 * i + k1)))), (4, .int (nI (i))), (3, .int (zOI ((some b)))), (0, .ref (m0)), (1, .int (nI (j1))), (2, .int (nI (k1)))]) hx hb dX6_purestNow_72 hl (by decide) rfl (fun ls hl => ?_)
            refine lv_iload hx hb dX6_purestNow_74 (lv_at hl 0 rfl) ?_
            refine lv_if_eq (tgt := 84) hx hb dX6_purestNow_76 (by decide) (fun c_ => absurd c_ (by decide)) (fun _ => ?_)
            refine lv_iload hx hb dX6_purestNow_79 (lv_at hl 2 rfl) ?_
            refine lv_goto (tgt := 85) hx hb dX6_purestNow_81 (by decide) ?_
            refine lv_istore_n (lv' := [(3, .int (nI (i))), (6, .int (1)), (5, .int (z (48 * j1 + (4 * i + k1)))), (4, .int (nI (i))), (0, .ref (m0)), (1, .int (nI (j1))), (2, .int (nI (k1)))]) hx hb dX6_purestNow_85 rfl hl (by decide) rfl (fun ls hl => ?_)
            refine lv_iinc (v := nI ((i) + 1)) (lv' := [(4, .int (nI ((i) + 1))), (3, .int (nI (i))), (6, .int (1)), (5, .int (z (48 * j1 + (4 * i + k1)))), (0, .ref (m0)), (1, .int (nI (j1))), (2, .int (nI (k1)))]) hx hb dX6_purestNow_86 hl (k := 3) rfl (show nI (i) + Int32.ofInt 1 = _ from nI_add (i) 1) (by decide) rfl (fun ls hl => ?_)
            refine lv_goto (tgt := 5) hx hb dX6_purestNow_89 (by decide) ?_
            exact ih (i + 1) (some i) (by omega) (m_pu_yes (by rw [ho]; exact ⟨Int32.not_le.mp c_28, Or.inr ⟨b, rfl, Int32.not_le.mp c_64⟩⟩)) (fun x h => by cases h; omega) ls (lv_sub hl [0, 1, 4, 5, 6] rfl)
  exact hL_5 (12) (0) (none) (by omega) (rfl) (fun b h => by cases h) ls (lv_sub hl [0, 1, 2, 3, 4] rfl)

