set_option maxRecDepth 100000 in
set_option maxHeartbeats 4000000 in
theorem metX6_within (l : Launch) (D : va_G) (ac : Nat → ClassId) (x : Int32) (lo : Int32) (up : Int32)  : Met l yX6_within wsX6_within ({ frames := 0, cells := 0, slots := 0, locals := 0 } : Room) (va_Pc [.int (x), .int (lo), .int (up)] (zW D ac [])) (zRi (if lo ≤ x ∧ x ≤ up then 1 else 0)) 0 0 (fun _ => False) := by
  refine z_ro (cc := cX6_within) (maxL := 3) (ret := (some .boolean)) (lv := [(0, .int (x)), (1, .int (lo)), (2, .int (up))]) (by decide) rfl (Nat.le_of_ble_eq_true rfl) rfl ?_
  intro p e s m args below meth c ls hx hb hr hml hown hts hlocks hl hK hP
  refine lv_iload_n hx hb dX6_within_0 rfl (lv_at hl 0 rfl) ?_
  refine lv_iload_n hx hb dX6_within_1 rfl (lv_at hl 1 rfl) ?_
  refine lv_icmp_lt (tgt := 14) hx hb dX6_within_2 (by decide) (fun c_2 => ?_) (fun c_2 => ?_)
  · refine lv_iconst (v := 0) hx hb dX6_within_14 (by decide) ?_
    exact z_zret hx hb hr hlocks (rfl) ((if_neg (fun q => absurd c_2 (Int32.not_lt.mpr q.1))).symm) dX6_within_15
  · refine lv_iload_n hx hb dX6_within_5 rfl (lv_at hl 0 rfl) ?_
    refine lv_iload_n hx hb dX6_within_6 rfl (lv_at hl 2 rfl) ?_
    refine lv_icmp_gt (tgt := 14) hx hb dX6_within_7 (by decide) (fun c_7 => ?_) (fun c_7 => ?_)
    · refine lv_iconst (v := 0) hx hb dX6_within_14 (by decide) ?_
      exact z_zret hx hb hr hlocks (rfl) ((if_neg (fun q => absurd c_7 (Int32.not_lt.mpr q.2))).symm) dX6_within_15
    · refine lv_iconst (v := 1) hx hb dX6_within_10 (by decide) ?_
      refine lv_goto (tgt := 15) hx hb dX6_within_11 (by decide) ?_
      exact z_zret hx hb hr hlocks (rfl) ((if_pos ⟨Int32.not_lt.mp c_2, Int32.not_lt.mp c_7⟩).symm) dX6_within_15

set_option maxRecDepth 100000 in
set_option maxHeartbeats 4000000 in
theorem metX6_place (l : Launch) (D : va_G) (ac : Nat → ClassId) (j1 : Nat) (s1 : Nat) (k1 : Nat)  : Met l yX6_place wsX6_place ({ frames := 0, cells := 0, slots := 0, locals := 0 } : Room) (va_Pc [.int (nI (j1)), .int (nI (s1)), .int (nI (k1))] (zW D ac [])) (zRi (nI (4 * (12 * j1 + s1) + k1))) 0 0 (fun _ => False) := by
  refine z_ro (cc := cX6_place) (maxL := 3) (ret := (some .int)) (lv := [(0, .int (nI (j1))), (1, .int (nI (s1))), (2, .int (nI (k1)))]) (by decide) rfl (Nat.le_of_ble_eq_true rfl) rfl ?_
  intro p e s m args below meth c ls hx hb hr hml hown hts hlocks hl hK hP
  refine lv_iconst (v := 4) hx hb dX6_place_0 (by decide) ?_
  refine lv_bipush (v := 12) hx hb dX6_place_1 (by decide) ?_
  refine lv_iload_n hx hb dX6_place_3 rfl (lv_at hl 0 rfl) ?_
  refine lv_imul hx hb dX6_place_4 ?_
  refine z_top (y := nI ((12) * (j1))) (pk_mul (12) (j1)) ?_
  refine lv_iload_n hx hb dX6_place_5 rfl (lv_at hl 1 rfl) ?_
  refine lv_iadd hx hb dX6_place_6 ?_
  refine z_top (y := nI (((12) * (j1)) + (s1))) (nI_add ((12) * (j1)) (s1)) ?_
  refine lv_imul hx hb dX6_place_7 ?_
  refine z_top (y := nI ((4) * (((12) * (j1)) + (s1)))) (pk_mul (4) (((12) * (j1)) + (s1))) ?_
  refine lv_iload_n hx hb dX6_place_8 rfl (lv_at hl 2 rfl) ?_
  refine lv_iadd hx hb dX6_place_9 ?_
  refine z_top (y := nI (((4) * (((12) * (j1)) + (s1))) + (k1))) (nI_add ((4) * (((12) * (j1)) + (s1))) (k1)) ?_
  exact z_iret hx hb hr hlocks (rfl) dX6_place_10

set_option maxRecDepth 100000 in
set_option maxHeartbeats 4000000 in
theorem metX6_isJar (l : Launch) (D : va_G) (ac : Nat → ClassId) (x : Int32)  : Met l yX6_isJar wsX6_isJar ({ frames := 1, cells := 0, slots := 0, locals := 22 } : Room) (va_Pc [.int (x)] (zW D ac [])) (zRi (if 0 ≤ x ∧ x ≤ 2 then 1 else 0)) 0 0 (fun _ => False) := by
  refine z_ro (cc := cX6_isJar) (maxL := 1) (ret := (some .boolean)) (lv := [(0, .int (x))]) (by decide) rfl (Nat.le_of_ble_eq_true rfl) rfl ?_
  intro p e s m args below meth c ls hx hb hr hml hown hts hlocks hl hK hP
  refine lv_iload_n hx hb dX6_isJar_0 rfl (lv_at hl 0 rfl) ?_
  refine lv_iconst (v := 0) hx hb dX6_isJar_1 (by decide) ?_
  refine lv_iconst (v := 2) hx hb dX6_isJar_2 (by decide) ?_
  refine z_ci (z_srun (rest := []) (own := RX6) (As := [.int (x), .int (0), .int (2)]) hx hb hml hown hts hl.1 hK hP [] rfl (metX6_within l D ac x 0 2 ) gX6_isJar_X6_within rfl 3 (by decide +kernel) ⟨rfl, rfl, Nat.le_of_ble_eq_true rfl, Nat.le_of_ble_eq_true rfl⟩ rfl rfl (Nat.le_of_ble_eq_true rfl) dX6_isJar_3 ⟨Nat.zero_le _, Nat.zero_le _⟩) ?_
  exact z_zret hx hb hr hlocks (z_nb _) (rfl) dX6_isJar_6

set_option maxRecDepth 100000 in
set_option maxHeartbeats 4000000 in
theorem metX6_isSlice (l : Launch) (D : va_G) (ac : Nat → ClassId) (x : Int32)  : Met l yX6_isSlice wsX6_isSlice ({ frames := 1, cells := 0, slots := 0, locals := 22 } : Room) (va_Pc [.int (x)] (zW D ac [])) (zRi (if 0 ≤ x ∧ x ≤ 11 then 1 else 0)) 0 0 (fun _ => False) := by
  refine z_ro (cc := cX6_isSlice) (maxL := 1) (ret := (some .boolean)) (lv := [(0, .int (x))]) (by decide) rfl (Nat.le_of_ble_eq_true rfl) rfl ?_
  intro p e s m args below meth c ls hx hb hr hml hown hts hlocks hl hK hP
  refine lv_iload_n hx hb dX6_isSlice_0 rfl (lv_at hl 0 rfl) ?_
  refine lv_iconst (v := 0) hx hb dX6_isSlice_1 (by decide) ?_
  refine lv_bipush (v := 11) hx hb dX6_isSlice_2 (by decide) ?_
  refine z_ci (z_srun (rest := []) (own := RX6) (As := [.int (x), .int (0), .int (11)]) hx hb hml hown hts hl.1 hK hP [] rfl (metX6_within l D ac x 0 11 ) gX6_isSlice_X6_within rfl 3 (by decide +kernel) ⟨rfl, rfl, Nat.le_of_ble_eq_true rfl, Nat.le_of_ble_eq_true rfl⟩ rfl rfl (Nat.le_of_ble_eq_true rfl) dX6_isSlice_4 ⟨Nat.zero_le _, Nat.zero_le _⟩) ?_
  exact z_zret hx hb hr hlocks (z_nb _) (rfl) dX6_isSlice_7

set_option maxRecDepth 100000 in
set_option maxHeartbeats 4000000 in
theorem metX6_isClass (l : Launch) (D : va_G) (ac : Nat → ClassId) (x : Int32)  : Met l yX6_isClass wsX6_isClass ({ frames := 1, cells := 0, slots := 0, locals := 22 } : Room) (va_Pc [.int (x)] (zW D ac [])) (zRi (if 0 ≤ x ∧ x ≤ 3 then 1 else 0)) 0 0 (fun _ => False) := by
  refine z_ro (cc := cX6_isClass) (maxL := 1) (ret := (some .boolean)) (lv := [(0, .int (x))]) (by decide) rfl (Nat.le_of_ble_eq_true rfl) rfl ?_
  intro p e s m args below meth c ls hx hb hr hml hown hts hlocks hl hK hP
  refine lv_iload_n hx hb dX6_isClass_0 rfl (lv_at hl 0 rfl) ?_
  refine lv_iconst (v := 0) hx hb dX6_isClass_1 (by decide) ?_
  refine lv_iconst (v := 3) hx hb dX6_isClass_2 (by decide) ?_
  refine z_ci (z_srun (rest := []) (own := RX6) (As := [.int (x), .int (0), .int (3)]) hx hb hml hown hts hl.1 hK hP [] rfl (metX6_within l D ac x 0 3 ) gX6_isClass_X6_within rfl 3 (by decide +kernel) ⟨rfl, rfl, Nat.le_of_ble_eq_true rfl, Nat.le_of_ble_eq_true rfl⟩ rfl rfl (Nat.le_of_ble_eq_true rfl) dX6_isClass_3 ⟨Nat.zero_le _, Nat.zero_le _⟩) ?_
  exact z_zret hx hb hr hlocks (z_nb _) (rfl) dX6_isClass_6

set_option maxRecDepth 100000 in
set_option maxHeartbeats 4000000 in
theorem metX6_isSetting (l : Launch) (D : va_G) (ac : Nat → ClassId) (x : Int32)  : Met l yX6_isSetting wsX6_isSetting ({ frames := 1, cells := 0, slots := 0, locals := 22 } : Room) (va_Pc [.int (x)] (zW D ac [])) (zRi (if 0 ≤ x ∧ x ≤ 3 then 1 else 0)) 0 0 (fun _ => False) := by
  refine z_ro (cc := cX6_isSetting) (maxL := 1) (ret := (some .boolean)) (lv := [(0, .int (x))]) (by decide) rfl (Nat.le_of_ble_eq_true rfl) rfl ?_
  intro p e s m args below meth c ls hx hb hr hml hown hts hlocks hl hK hP
  refine lv_iload_n hx hb dX6_isSetting_0 rfl (lv_at hl 0 rfl) ?_
  refine lv_iconst (v := 0) hx hb dX6_isSetting_1 (by decide) ?_
  refine lv_iconst (v := 3) hx hb dX6_isSetting_2 (by decide) ?_
  refine z_ci (z_srun (rest := []) (own := RX6) (As := [.int (x), .int (0), .int (3)]) hx hb hml hown hts hl.1 hK hP [] rfl (metX6_within l D ac x 0 3 ) gX6_isSetting_X6_within rfl 3 (by decide +kernel) ⟨rfl, rfl, Nat.le_of_ble_eq_true rfl, Nat.le_of_ble_eq_true rfl⟩ rfl rfl (Nat.le_of_ble_eq_true rfl) dX6_isSetting_3 ⟨Nat.zero_le _, Nat.zero_le _⟩) ?_
  exact z_zret hx hb hr hlocks (z_nb _) (rfl) dX6_isSetting_6

set_option maxRecDepth 100000 in
set_option maxHeartbeats 4000000 in
theorem metX6_isValue (l : Launch) (D : va_G) (ac : Nat → ClassId) (k1 : Nat) (x : Int32) (h_k1 : k1 < 4) : Met l yX6_isValue wsX6_isValue ({ frames := 1, cells := 0, slots := 0, locals := 22 } : Room) (va_Pc [.int (nI (k1)), .int (x)] (zW D ac [])) (zRi (if qLo k1 ≤ x ∧ x ≤ qUp k1 then 1 else 0)) 0 0 (fun _ => False) := by
  refine z_ro (cc := cX6_isValue) (maxL := 2) (ret := (some .boolean)) (lv := [(0, .int (nI (k1))), (1, .int (x))]) (by decide) rfl (Nat.le_of_ble_eq_true rfl) rfl ?_
  intro p e s m args below meth c ls hx hb hr hml hown hts hlocks hl hK hP
  refine lv_iload_n hx hb dX6_isValue_0 rfl (lv_at hl 0 rfl) ?_
  obtain rfl | rfl | rfl | rfl := z_cases4 h_k1
  · refine lv_tableIn (off := 27) (tgt := 28) hx hb dX6_isValue_1 (by decide) (by decide) (by decide) (by decide) ?_
    refine lv_iload_n hx hb dX6_isValue_28 rfl (lv_at hl 1 rfl) ?_
    refine lv_iconst (v := 0) hx hb dX6_isValue_29 (by decide) ?_
    refine lv_sipush (v := 1000) hx hb dX6_isValue_30 (by decide) ?_
    refine z_ci (z_srun (rest := []) (own := RX6) (As := [.int (x), .int (0), .int (1000)]) hx hb hml hown hts hl.1 hK hP [] rfl (metX6_within l D ac x 0 1000 ) gX6_isValue_X6_within rfl 3 (by decide +kernel) ⟨rfl, rfl, Nat.le_of_ble_eq_true rfl, Nat.le_of_ble_eq_true rfl⟩ rfl rfl (Nat.le_of_ble_eq_true rfl) dX6_isValue_33 ⟨Nat.zero_le _, Nat.zero_le _⟩) ?_
    exact z_zret hx hb hr hlocks (z_nb _) (rfl) dX6_isValue_36
  · refine lv_tableIn (off := 36) (tgt := 37) hx hb dX6_isValue_1 (by decide) (by decide) (by decide) (by decide) ?_
    refine lv_iload_n hx hb dX6_isValue_37 rfl (lv_at hl 1 rfl) ?_
    refine lv_bipush (v := 10) hx hb dX6_isValue_38 (by decide) ?_
    refine lv_sipush (v := 1000) hx hb dX6_isValue_40 (by decide) ?_
    refine z_ci (z_srun (rest := []) (own := RX6) (As := [.int (x), .int (10), .int (1000)]) hx hb hml hown hts hl.1 hK hP [] rfl (metX6_within l D ac x 10 1000 ) gX6_isValue_X6_within rfl 3 (by decide +kernel) ⟨rfl, rfl, Nat.le_of_ble_eq_true rfl, Nat.le_of_ble_eq_true rfl⟩ rfl rfl (Nat.le_of_ble_eq_true rfl) dX6_isValue_43 ⟨Nat.zero_le _, Nat.zero_le _⟩) ?_
    exact z_zret hx hb hr hlocks (z_nb _) (rfl) dX6_isValue_46
  · refine lv_tableIn (off := 46) (tgt := 47) hx hb dX6_isValue_1 (by decide) (by decide) (by decide) (by decide) ?_
    refine lv_iload_n hx hb dX6_isValue_47 rfl (lv_at hl 1 rfl) ?_
    refine lv_iconst (v := 0) hx hb dX6_isValue_48 (by decide) ?_
    refine lv_bipush (v := 50) hx hb dX6_isValue_49 (by decide) ?_
    refine z_ci (z_srun (rest := []) (own := RX6) (As := [.int (x), .int (0), .int (50)]) hx hb hml hown hts hl.1 hK hP [] rfl (metX6_within l D ac x 0 50 ) gX6_isValue_X6_within rfl 3 (by decide +kernel) ⟨rfl, rfl, Nat.le_of_ble_eq_true rfl, Nat.le_of_ble_eq_true rfl⟩ rfl rfl (Nat.le_of_ble_eq_true rfl) dX6_isValue_51 ⟨Nat.zero_le _, Nat.zero_le _⟩) ?_
    exact z_zret hx hb hr hlocks (z_nb _) (rfl) dX6_isValue_54
  · refine lv_tableOut (tgt := 55) hx hb dX6_isValue_1 (by decide) (by decide) ?_
    refine lv_iload_n hx hb dX6_isValue_55 rfl (lv_at hl 1 rfl) ?_
    refine lv_iconst (v := 0) hx hb dX6_isValue_56 (by decide) ?_
    refine lv_bipush (v := 9) hx hb dX6_isValue_57 (by decide) ?_
    refine z_ci (z_srun (rest := []) (own := RX6) (As := [.int (x), .int (0), .int (9)]) hx hb hml hown hts hl.1 hK hP [] rfl (metX6_within l D ac x 0 9 ) gX6_isValue_X6_within rfl 3 (by decide +kernel) ⟨rfl, rfl, Nat.le_of_ble_eq_true rfl, Nat.le_of_ble_eq_true rfl⟩ rfl rfl (Nat.le_of_ble_eq_true rfl) dX6_isValue_59 ⟨Nat.zero_le _, Nat.zero_le _⟩) ?_
    exact z_zret hx hb hr hlocks (z_nb _) (rfl) dX6_isValue_62

set_option maxRecDepth 100000 in
set_option maxHeartbeats 4000000 in
theorem metX6_of (l : Launch) (D : va_G) (ac : Nat → ClassId) (m0 : Nat) (z0 : Nat) (sd0 : Nat) (tx0 : Nat) (as0 : Nat) (rd0 : Nat) (th : Int32) (sv : Nat) (ln : Nat) (stp : Nat) (po : Nat) (tl : Int32) (hh : Int64) (z : Nat → Int32) (k1 : Nat) (hk : k1 < 4) : Met l yX6_of wsX6_of ({ frames := 0, cells := 0, slots := 0, locals := 0 } : Room) (va_Pc [.ref (m0), .int (nI (k1))] (zW D ac [(m0, .inr (6, [.int (th), .ref (z0), .int (nI (sv)), .ref (sd0), .int (nI (ln)), .ref (tx0), .ref (as0), .int (nI (stp)), .int (nI (po)), .int (tl), .ref (rd0), .long (hh)])), (z0, .inl (ac 0, 162, .inl (z)))])) (zRi (z (144 + k1))) 0 0 (fun _ => False) := by
  refine z_ro (cc := cX6_of) (maxL := 2) (ret := (some .int)) (lv := [(0, .ref (m0)), (1, .int (nI (k1)))]) (by decide) rfl (Nat.le_of_ble_eq_true rfl) rfl ?_
  intro p e s m args below meth c ls hx hb hr hml hown hts hlocks hl hK hP
  refine lv_aload_n hx hb dX6_of_0 rfl (lv_at hl 0 rfl) ?_
  refine va_get (ci := 6) (v := .ref (z0)) (C := RX6) (T := TX6) (N := 12) hx hb hts (by decide +kernel) hown hK hP 0 rfl rfl 1 (by decide) (hts (.fieldLink RX6 7 "SettlingJarsModel" "z" "[I") (by decide +kernel)) (fun _ h9 => h9) rfl dX6_of_1 ?_
  refine lv_sipush (v := 144) hx hb dX6_of_4 (by decide) ?_
  refine lv_iload_n hx hb dX6_of_7 rfl (lv_at hl 1 rfl) ?_
  refine lv_iadd hx hb dX6_of_8 ?_
  refine z_top (y := nI ((144) + (k1))) (nI_add (144) (k1)) ?_
  refine z_iald hx hb hK hP 1 rfl ((144) + (k1)) (rfl) (by omega) (by decide) dX6_of_9 ?_
  exact z_iret hx hb hr hlocks (rfl) dX6_of_10

set_option maxRecDepth 100000 in
set_option maxHeartbeats 4000000 in
theorem metX6_inSlice (l : Launch) (D : va_G) (ac : Nat → ClassId) (m0 : Nat) (z0 : Nat) (sd0 : Nat) (tx0 : Nat) (as0 : Nat) (rd0 : Nat) (th : Int32) (sv : Nat) (ln : Nat) (stp : Nat) (po : Nat) (tl : Int32) (hh : Int64) (z : Nat → Int32) (j1 : Nat) (s1 : Nat) (hj : j1 < 3) (hs : s1 < 12) : Met l yX6_inSlice wsX6_inSlice ({ frames := 1, cells := 0, slots := 0, locals := 22 } : Room) (va_Pc [.ref (m0), .int (nI (j1)), .int (nI (s1))] (zW D ac [(m0, .inr (6, [.int (th), .ref (z0), .int (nI (sv)), .ref (sd0), .int (nI (ln)), .ref (tx0), .ref (as0), .int (nI (stp)), .int (nI (po)), .int (tl), .ref (rd0), .long (hh)])), (z0, .inl (ac 0, 162, .inl (z)))])) (zRi (qIn (qV z j1) s1)) 0 0 (fun _ => False) := by
  refine z_ro (cc := cX6_inSlice) (maxL := 5) (ret := (some .int)) (lv := [(0, .ref (m0)), (1, .int (nI (j1))), (2, .int (nI (s1)))]) (by decide) rfl (Nat.le_of_ble_eq_true rfl) rfl ?_
  intro p e s m args below meth c ls hx hb hr hml hown hts hlocks hl hK hP
  refine lv_iconst (v := 0) hx hb dX6_inSlice_0 (by decide) ?_
  refine lv_istore_n (lv' := [(3, .int (0)), (0, .ref (m0)), (1, .int (nI (j1))), (2, .int (nI (s1)))]) hx hb dX6_inSlice_1 rfl hl (by decide) rfl (fun ls hl => ?_)
  refine lv_iconst (v := 0) hx hb dX6_inSlice_2 (by decide) ?_
  refine lv_istore (lv' := [(4, .int (0)), (3, .int (0)), (0, .ref (m0)), (1, .int (nI (j1))), (2, .int (nI (s1)))]) hx hb dX6_inSlice_3 hl (by decide) rfl (fun ls hl => ?_)
  have hL_5 : ∀ (n : Nat) (i : Nat), (i + n = 4) → ∀ (ls : Array Slot), lv_has ls 5 [(4, .int (nI (i))), (3, .int (qS (fun c => qV z j1 (4 * s1 + c)) i)), (0, .ref (m0)), (1, .int (nI (j1))), (2, .int (nI (s1)))] → W p l e ({ frames := 1, cells := 0, slots := 0, locals := 22 } : Room) s m args below meth c s.heap [] 0 0 (MQ below (zRi (qIn (qV z j1) s1)) args s 0 0 (fun _ => False)) (F0 m 5 ls []) := by
    intro n
    induction n with
    | zero =>
      intro i hi ls hl
      have e_i : 4 = i := by omega
      subst e_i
      refine lv_iload hx hb dX6_inSlice_5 (lv_at hl 0 rfl) ?_
      refine lv_iconst (v := 4) hx hb dX6_inSlice_7 (by decide) ?_
      refine z_icmp_ge (tgt := 32) hx hb (4) (4) dX6_inSlice_8 (by decide) (by omega) (by omega) rfl rfl (fun c_8 => ?_) (fun c_8 => absurd c_8 (by omega))
      refine lv_iload_n hx hb dX6_inSlice_32 rfl (lv_at hl 1 rfl) ?_
      exact z_iret hx hb hr hlocks (rfl) dX6_inSlice_33
    | succ n ih =>
      intro i hi ls hl
      refine lv_iload hx hb dX6_inSlice_5 (lv_at hl 0 rfl) ?_
      refine lv_iconst (v := 4) hx hb dX6_inSlice_7 (by decide) ?_
      refine z_icmp_ge (tgt := 32) hx hb (i) (4) dX6_inSlice_8 (by decide) (by omega) (by omega) rfl rfl (fun c_8 => absurd c_8 (by omega)) (fun c_8 => ?_)
      refine lv_iload_n hx hb dX6_inSlice_11 rfl (lv_at hl 1 rfl) ?_
      refine lv_aload_n hx hb dX6_inSlice_12 rfl (lv_at hl 2 rfl) ?_
      refine va_get (ci := 6) (v := .ref (z0)) (C := RX6) (T := TX6) (N := 12) hx hb hts (by decide +kernel) hown hK hP 0 rfl rfl 1 (by decide) (hts (.fieldLink RX6 7 "SettlingJarsModel" "z" "[I") (by decide +kernel)) (fun _ h9 => h9) rfl dX6_inSlice_13 ?_
      refine lv_iload_n hx hb dX6_inSlice_16 rfl (lv_at hl 3 rfl) ?_
      refine lv_iload_n hx hb dX6_inSlice_17 rfl (lv_at hl 4 rfl) ?_
      refine lv_iload hx hb dX6_inSlice_18 (lv_at hl 0 rfl) ?_
      refine z_ci (z_srun (rest := [.ref (z0), .int (qS (fun c => qV z j1 (4 * s1 + c)) i)]) (own := RX6) (As := [.int (nI (j1)), .int (nI (s1)), .int (nI (i))]) hx hb hml hown hts hl.1 hK hP [] rfl (metX6_place l D ac j1 s1 i ) gX6_inSlice_X6_place rfl 3 (by decide +kernel) ⟨rfl, rfl, Nat.le_of_ble_eq_true rfl, Nat.le_of_ble_eq_true rfl⟩ rfl rfl (Nat.le_of_ble_eq_true rfl) dX6_inSlice_20 ⟨Nat.zero_le _, Nat.zero_le _⟩) ?_
      refine z_iald hx hb hK hP 1 rfl (48 * j1 + (4 * s1 + i)) (congrArg nI (by omega)) (by omega) (by decide) dX6_inSlice_23 ?_
      refine lv_iadd hx hb dX6_inSlice_24 ?_
      refine lv_istore_n (lv' := [(3, .int ((qS (fun c => qV z j1 (4 * s1 + c)) i) + (z (48 * j1 + (4 * s1 + i))))), (4, .int (nI (i))), (0, .ref (m0)), (1, .int (nI (j1))), (2, .int (nI (s1)))]) hx hb dX6_inSlice_25 rfl hl (by decide) rfl (fun ls hl => ?_)
      refine lv_iinc (v := nI ((i) + 1)) (lv' := [(4, .int (nI ((i) + 1))), (3, .int ((qS (fun c => qV z j1 (4 * s1 + c)) i) + (z (48 * j1 + (4 * s1 + i))))), (0, .ref (m0)), (1, .int (nI (j1))), (2, .int (nI (s1)))]) hx hb dX6_inSlice_26 hl (k := 1) rfl (show nI (i) + Int32.ofInt 1 = _ from nI_add (i) 1) (by decide) rfl (fun ls hl => ?_)
      refine lv_goto (tgt := 5) hx hb dX6_inSlice_29 (by decide) ?_
      exact ih (i + 1) (by omega) ls (lv_sub hl [0, 1, 2, 3, 4] rfl)
  exact hL_5 (4) (0) (by omega) ls (lv_sub hl [0, 1, 2, 3, 4] rfl)

set_option maxRecDepth 100000 in
set_option maxHeartbeats 4000000 in
theorem metX6_ofClass (l : Launch) (D : va_G) (ac : Nat → ClassId) (m0 : Nat) (z0 : Nat) (sd0 : Nat) (tx0 : Nat) (as0 : Nat) (rd0 : Nat) (th : Int32) (sv : Nat) (ln : Nat) (stp : Nat) (po : Nat) (tl : Int32) (hh : Int64) (z : Nat → Int32) (j1 : Nat) (k1 : Nat) (hj : j1 < 3) (hk : k1 < 4) : Met l yX6_ofClass wsX6_ofClass ({ frames := 1, cells := 0, slots := 0, locals := 22 } : Room) (va_Pc [.ref (m0), .int (nI (j1)), .int (nI (k1))] (zW D ac [(m0, .inr (6, [.int (th), .ref (z0), .int (nI (sv)), .ref (sd0), .int (nI (ln)), .ref (tx0), .ref (as0), .int (nI (stp)), .int (nI (po)), .int (tl), .ref (rd0), .long (hh)])), (z0, .inl (ac 0, 162, .inl (z)))])) (zRi (qOf (qV z j1) k1)) 0 0 (fun _ => False) := by
  refine z_ro (cc := cX6_ofClass) (maxL := 5) (ret := (some .int)) (lv := [(0, .ref (m0)), (1, .int (nI (j1))), (2, .int (nI (k1)))]) (by decide) rfl (Nat.le_of_ble_eq_true rfl) rfl ?_
  intro p e s m args below meth c ls hx hb hr hml hown hts hlocks hl hK hP
  refine lv_iconst (v := 0) hx hb dX6_ofClass_0 (by decide) ?_
  refine lv_istore_n (lv' := [(3, .int (0)), (0, .ref (m0)), (1, .int (nI (j1))), (2, .int (nI (k1)))]) hx hb dX6_ofClass_1 rfl hl (by decide) rfl (fun ls hl => ?_)
  refine lv_iconst (v := 0) hx hb dX6_ofClass_2 (by decide) ?_
  refine lv_istore (lv' := [(4, .int (0)), (3, .int (0)), (0, .ref (m0)), (1, .int (nI (j1))), (2, .int (nI (k1)))]) hx hb dX6_ofClass_3 hl (by decide) rfl (fun ls hl => ?_)
  have hL_5 : ∀ (n : Nat) (i : Nat), (i + n = 12) → ∀ (ls : Array Slot), lv_has ls 5 [(4, .int (nI (i))), (3, .int (qS (fun s => qV z j1 (4 * s + k1)) i)), (0, .ref (m0)), (1, .int (nI (j1))), (2, .int (nI (k1)))] → W p l e ({ frames := 1, cells := 0, slots := 0, locals := 22 } : Room) s m args below meth c s.heap [] 0 0 (MQ below (zRi (qOf (qV z j1) k1)) args s 0 0 (fun _ => False)) (F0 m 5 ls []) := by
    intro n
    induction n with
    | zero =>
      intro i hi ls hl
      have e_i : 12 = i := by omega
      subst e_i
      refine lv_iload hx hb dX6_ofClass_5 (lv_at hl 0 rfl) ?_
      refine lv_bipush (v := 12) hx hb dX6_ofClass_7 (by decide) ?_
      refine z_icmp_ge (tgt := 33) hx hb (12) (12) dX6_ofClass_9 (by decide) (by omega) (by omega) rfl rfl (fun c_9 => ?_) (fun c_9 => absurd c_9 (by omega))
      refine lv_iload_n hx hb dX6_ofClass_33 rfl (lv_at hl 1 rfl) ?_
      exact z_iret hx hb hr hlocks (rfl) dX6_ofClass_34
    | succ n ih =>
      intro i hi ls hl
      refine lv_iload hx hb dX6_ofClass_5 (lv_at hl 0 rfl) ?_
      refine lv_bipush (v := 12) hx hb dX6_ofClass_7 (by decide) ?_
      refine z_icmp_ge (tgt := 33) hx hb (i) (12) dX6_ofClass_9 (by decide) (by omega) (by omega) rfl rfl (fun c_9 => absurd c_9 (by omega)) (fun c_9 => ?_)
      refine lv_iload_n hx hb dX6_ofClass_12 rfl (lv_at hl 1 rfl) ?_
      refine lv_aload_n hx hb dX6_ofClass_13 rfl (lv_at hl 2 rfl) ?_
      refine va_get (ci := 6) (v := .ref (z0)) (C := RX6) (T := TX6) (N := 12) hx hb hts (by decide +kernel) hown hK hP 0 rfl rfl 1 (by decide) (hts (.fieldLink RX6 7 "SettlingJarsModel" "z" "[I") (by decide +kernel)) (fun _ h9 => h9) rfl dX6_ofClass_14 ?_
      refine lv_iload_n hx hb dX6_ofClass_17 rfl (lv_at hl 3 rfl) ?_
      refine lv_iload hx hb dX6_ofClass_18 (lv_at hl 0 rfl) ?_
      refine lv_iload_n hx hb dX6_ofClass_20 rfl (lv_at hl 4 rfl) ?_
      refine z_ci (z_srun (rest := [.ref (z0), .int (qS (fun s => qV z j1 (4 * s + k1)) i)]) (own := RX6) (As := [.int (nI (j1)), .int (nI (i)), .int (nI (k1))]) hx hb hml hown hts hl.1 hK hP [] rfl (metX6_place l D ac j1 i k1 ) gX6_ofClass_X6_place rfl 3 (by decide +kernel) ⟨rfl, rfl, Nat.le_of_ble_eq_true rfl, Nat.le_of_ble_eq_true rfl⟩ rfl rfl (Nat.le_of_ble_eq_true rfl) dX6_ofClass_21 ⟨Nat.zero_le _, Nat.zero_le _⟩) ?_
      refine z_iald hx hb hK hP 1 rfl (48 * j1 + (4 * i + k1)) (congrArg nI (by omega)) (by omega) (by decide) dX6_ofClass_24 ?_
      refine lv_iadd hx hb dX6_ofClass_25 ?_
      refine lv_istore_n (lv' := [(3, .int ((qS (fun s => qV z j1 (4 * s + k1)) i) + (z (48 * j1 + (4 * i + k1))))), (4, .int (nI (i))), (0, .ref (m0)), (1, .int (nI (j1))), (2, .int (nI (k1)))]) hx hb dX6_ofClass_26 rfl hl (by decide) rfl (fun ls hl => ?_)
      refine lv_iinc (v := nI ((i) + 1)) (lv' := [(4, .int (nI ((i) + 1))), (3, .int ((qS (fun s => qV z j1 (4 * s + k1)) i) + (z (48 * j1 + (4 * i + k1))))), (0, .ref (m0)), (1, .int (nI (j1))), (2, .int (nI (k1)))]) hx hb dX6_ofClass_27 hl (k := 1) rfl (show nI (i) + Int32.ofInt 1 = _ from nI_add (i) 1) (by decide) rfl (fun ls hl => ?_)
      refine lv_goto (tgt := 5) hx hb dX6_ofClass_30 (by decide) ?_
      exact ih (i + 1) (by omega) ls (lv_sub hl [0, 1, 2, 3, 4] rfl)
  exact hL_5 (12) (0) (by omega) ls (lv_sub hl [0, 1, 2, 3, 4] rfl)

set_option maxRecDepth 100000 in
set_option maxHeartbeats 4000000 in
theorem metX6_inJar (l : Launch) (D : va_G) (ac : Nat → ClassId) (m0 : Nat) (z0 : Nat) (sd0 : Nat) (tx0 : Nat) (as0 : Nat) (rd0 : Nat) (th : Int32) (sv : Nat) (ln : Nat) (stp : Nat) (po : Nat) (tl : Int32) (hh : Int64) (z : Nat → Int32) (j1 : Nat) (hj : j1 < 3) : Met l yX6_inJar wsX6_inJar ({ frames := 2, cells := 0, slots := 0, locals := 46 } : Room) (va_Pc [.ref (m0), .int (nI (j1))] (zW D ac [(m0, .inr (6, [.int (th), .ref (z0), .int (nI (sv)), .ref (sd0), .int (nI (ln)), .ref (tx0), .ref (as0), .int (nI (stp)), .int (nI (po)), .int (tl), .ref (rd0), .long (hh)])), (z0, .inl (ac 0, 162, .inl (z)))])) (zRi (qAll (qV z j1))) 0 0 (fun _ => False) := by
  refine z_ro (cc := cX6_inJar) (maxL := 4) (ret := (some .int)) (lv := [(0, .ref (m0)), (1, .int (nI (j1)))]) (by decide) rfl (Nat.le_of_ble_eq_true rfl) rfl ?_
  intro p e s m args below meth c ls hx hb hr hml hown hts hlocks hl hK hP
  refine lv_iconst (v := 0) hx hb dX6_inJar_0 (by decide) ?_
  refine lv_istore_n (lv' := [(2, .int (0)), (0, .ref (m0)), (1, .int (nI (j1)))]) hx hb dX6_inJar_1 rfl hl (by decide) rfl (fun ls hl => ?_)
  refine lv_iconst (v := 0) hx hb dX6_inJar_2 (by decide) ?_
  refine lv_istore_n (lv' := [(3, .int (0)), (2, .int (0)), (0, .ref (m0)), (1, .int (nI (j1)))]) hx hb dX6_inJar_3 rfl hl (by decide) rfl (fun ls hl => ?_)
  have hL_4 : ∀ (n : Nat) (i : Nat), (i + n = 12) → ∀ (ls : Array Slot), lv_has ls 4 [(3, .int (nI (i))), (2, .int (qTo (qV z j1) i)), (0, .ref (m0)), (1, .int (nI (j1)))] → W p l e ({ frames := 2, cells := 0, slots := 0, locals := 46 } : Room) s m args below meth c s.heap [] 0 0 (MQ below (zRi (qAll (qV z j1))) args s 0 0 (fun _ => False)) (F0 m 4 ls []) := by
    intro n
    induction n with
    | zero =>
      intro i hi ls hl
      have e_i : 12 = i := by omega
      subst e_i
      refine lv_iload_n hx hb dX6_inJar_4 rfl (lv_at hl 0 rfl) ?_
      refine lv_bipush (v := 12) hx hb dX6_inJar_5 (by decide) ?_
      refine z_icmp_ge (tgt := 25) hx hb (12) (12) dX6_inJar_7 (by decide) (by omega) (by omega) rfl rfl (fun c_7 => ?_) (fun c_7 => absurd c_7 (by omega))
      refine lv_iload_n hx hb dX6_inJar_25 rfl (lv_at hl 1 rfl) ?_
      exact z_iret hx hb hr hlocks (rfl) dX6_inJar_26
    | succ n ih =>
      intro i hi ls hl
      refine lv_iload_n hx hb dX6_inJar_4 rfl (lv_at hl 0 rfl) ?_
      refine lv_bipush (v := 12) hx hb dX6_inJar_5 (by decide) ?_
      refine z_icmp_ge (tgt := 25) hx hb (i) (12) dX6_inJar_7 (by decide) (by omega) (by omega) rfl rfl (fun c_7 => absurd c_7 (by omega)) (fun c_7 => ?_)
      refine lv_iload_n hx hb dX6_inJar_10 rfl (lv_at hl 1 rfl) ?_
      refine lv_aload_n hx hb dX6_inJar_11 rfl (lv_at hl 2 rfl) ?_
      refine lv_iload_n hx hb dX6_inJar_12 rfl (lv_at hl 3 rfl) ?_
      refine lv_iload_n hx hb dX6_inJar_13 rfl (lv_at hl 0 rfl) ?_
      refine z_ci (z_vrun (rest := [.int (qTo (qV z j1) i)]) (own := RX6) (As := [.int (nI (j1)), .int (nI (i))]) hx hb hml hown hts hl.1 hK hP [0, 1] rfl (metX6_inSlice l D ac m0 z0 sd0 tx0 as0 rd0 th sv ln stp po tl hh z j1 i (by omega) (by omega)) gX6_inJar_X6_inSlice rfl 2 (by decide +kernel) ⟨rfl, rfl, Nat.le_of_ble_eq_true rfl, Nat.le_of_ble_eq_true rfl⟩ 0 6 rfl rfl rfl rfl rfl (Nat.le_of_ble_eq_true rfl) dX6_inJar_14 ⟨Nat.zero_le _, Nat.zero_le _⟩) ?_
      refine lv_iadd hx hb dX6_inJar_17 ?_
      refine lv_istore_n (lv' := [(2, .int ((qTo (qV z j1) i) + (qIn (qV z j1) i))), (3, .int (nI (i))), (0, .ref (m0)), (1, .int (nI (j1)))]) hx hb dX6_inJar_18 rfl hl (by decide) rfl (fun ls hl => ?_)
      refine lv_iinc (v := nI ((i) + 1)) (lv' := [(3, .int (nI ((i) + 1))), (2, .int ((qTo (qV z j1) i) + (qIn (qV z j1) i))), (0, .ref (m0)), (1, .int (nI (j1)))]) hx hb dX6_inJar_19 hl (k := 1) rfl (show nI (i) + Int32.ofInt 1 = _ from nI_add (i) 1) (by decide) rfl (fun ls hl => ?_)
      refine lv_goto (tgt := 4) hx hb dX6_inJar_22 (by decide) ?_
      exact ih (i + 1) (by omega) ls (lv_sub hl [0, 1, 2, 3] rfl)
  exact hL_4 (12) (0) (by omega) ls (lv_sub hl [0, 1, 2, 3] rfl)

set_option maxRecDepth 100000 in
set_option maxHeartbeats 4000000 in
theorem metX6_upTo (l : Launch) (D : va_G) (ac : Nat → ClassId) (m0 : Nat) (z0 : Nat) (sd0 : Nat) (tx0 : Nat) (as0 : Nat) (rd0 : Nat) (th : Int32) (sv : Nat) (ln : Nat) (stp : Nat) (po : Nat) (tl : Int32) (hh : Int64) (z : Nat → Int32) (j1 : Nat) (t : Nat) (hj : j1 < 3) (ht : t < 12) : Met l yX6_upTo wsX6_upTo ({ frames := 2, cells := 0, slots := 0, locals := 46 } : Room) (va_Pc [.ref (m0), .int (nI (j1)), .int (nI (t))] (zW D ac [(m0, .inr (6, [.int (th), .ref (z0), .int (nI (sv)), .ref (sd0), .int (nI (ln)), .ref (tx0), .ref (as0), .int (nI (stp)), .int (nI (po)), .int (tl), .ref (rd0), .long (hh)])), (z0, .inl (ac 0, 162, .inl (z)))])) (zRi (qTo (qV z j1) (t + 1))) 0 0 (fun _ => False) := by
  refine z_ro (cc := cX6_upTo) (maxL := 5) (ret := (some .int)) (lv := [(0, .ref (m0)), (1, .int (nI (j1))), (2, .int (nI (t)))]) (by decide) rfl (Nat.le_of_ble_eq_true rfl) rfl ?_
  intro p e s m args below meth c ls hx hb hr hml hown hts hlocks hl hK hP
  refine lv_iconst (v := 0) hx hb dX6_upTo_0 (by decide) ?_
  refine lv_istore_n (lv' := [(3, .int (0)), (0, .ref (m0)), (1, .int (nI (j1))), (2, .int (nI (t)))]) hx hb dX6_upTo_1 rfl hl (by decide) rfl (fun ls hl => ?_)
  refine lv_iconst (v := 0) hx hb dX6_upTo_2 (by decide) ?_
  refine lv_istore (lv' := [(4, .int (0)), (3, .int (0)), (0, .ref (m0)), (1, .int (nI (j1))), (2, .int (nI (t)))]) hx hb dX6_upTo_3 hl (by decide) rfl (fun ls hl => ?_)
  have hL_5 : ∀ (n : Nat) (i : Nat), (i + n = t + 1) → ∀ (ls : Array Slot), lv_has ls 5 [(4, .int (nI (i))), (3, .int (qTo (qV z j1) i)), (0, .ref (m0)), (1, .int (nI (j1))), (2, .int (nI (t)))] → W p l e ({ frames := 2, cells := 0, slots := 0, locals := 46 } : Room) s m args below meth c s.heap [] 0 0 (MQ below (zRi (qTo (qV z j1) (t + 1))) args s 0 0 (fun _ => False)) (F0 m 5 ls []) := by
    intro n
    induction n with
    | zero =>
      intro i hi ls hl
      have e_i : t + 1 = i := by omega
      subst e_i
      refine lv_iload hx hb dX6_upTo_5 (lv_at hl 0 rfl) ?_
      refine lv_iload_n hx hb dX6_upTo_7 rfl (lv_at hl 4 rfl) ?_
      refine z_icmp_gt (tgt := 27) hx hb ((t + 1)) (t) dX6_upTo_8 (by decide) (by omega) (by omega) rfl rfl (fun c_8 => ?_) (fun c_8 => absurd c_8 (by omega))
      refine lv_iload_n hx hb dX6_upTo_27 rfl (lv_at hl 1 rfl) ?_
      exact z_iret hx hb hr hlocks (rfl) dX6_upTo_28
    | succ n ih =>
      intro i hi ls hl
      refine lv_iload hx hb dX6_upTo_5 (lv_at hl 0 rfl) ?_
      refine lv_iload_n hx hb dX6_upTo_7 rfl (lv_at hl 4 rfl) ?_
      refine z_icmp_gt (tgt := 27) hx hb (i) (t) dX6_upTo_8 (by decide) (by omega) (by omega) rfl rfl (fun c_8 => absurd c_8 (by omega)) (fun c_8 => ?_)
      refine lv_iload_n hx hb dX6_upTo_11 rfl (lv_at hl 1 rfl) ?_
      refine lv_aload_n hx hb dX6_upTo_12 rfl (lv_at hl 2 rfl) ?_
      refine lv_iload_n hx hb dX6_upTo_13 rfl (lv_at hl 3 rfl) ?_
      refine lv_iload hx hb dX6_upTo_14 (lv_at hl 0 rfl) ?_
      refine z_ci (z_vrun (rest := [.int (qTo (qV z j1) i)]) (own := RX6) (As := [.int (nI (j1)), .int (nI (i))]) hx hb hml hown hts hl.1 hK hP [0, 1] rfl (metX6_inSlice l D ac m0 z0 sd0 tx0 as0 rd0 th sv ln stp po tl hh z j1 i (by omega) (by omega)) gX6_upTo_X6_inSlice rfl 2 (by decide +kernel) ⟨rfl, rfl, Nat.le_of_ble_eq_true rfl, Nat.le_of_ble_eq_true rfl⟩ 0 6 rfl rfl rfl rfl rfl (Nat.le_of_ble_eq_true rfl) dX6_upTo_16 ⟨Nat.zero_le _, Nat.zero_le _⟩) ?_
      refine lv_iadd hx hb dX6_upTo_19 ?_
      refine lv_istore_n (lv' := [(3, .int ((qTo (qV z j1) i) + (qIn (qV z j1) i))), (4, .int (nI (i))), (0, .ref (m0)), (1, .int (nI (j1))), (2, .int (nI (t)))]) hx hb dX6_upTo_20 rfl hl (by decide) rfl (fun ls hl => ?_)
      refine lv_iinc (v := nI ((i) + 1)) (lv' := [(4, .int (nI ((i) + 1))), (3, .int ((qTo (qV z j1) i) + (qIn (qV z j1) i))), (0, .ref (m0)), (1, .int (nI (j1))), (2, .int (nI (t)))]) hx hb dX6_upTo_21 hl (k := 1) rfl (show nI (i) + Int32.ofInt 1 = _ from nI_add (i) 1) (by decide) rfl (fun ls hl => ?_)
      refine lv_goto (tgt := 5) hx hb dX6_upTo_24 (by decide) ?_
      exact ih (i + 1) (by omega) ls (lv_sub hl [0, 1, 2, 3, 4] rfl)
  exact hL_5 (t + 1) (0) (by omega) ls (lv_sub hl [0, 1, 2, 3, 4] rfl)

set_option maxRecDepth 100000 in
set_option maxHeartbeats 4000000 in
theorem metX6_factor (l : Launch) (D : va_G) (ac : Nat → ClassId) (m0 : Nat) (z0 : Nat) (sd0 : Nat) (tx0 : Nat) (as0 : Nat) (rd0 : Nat) (th : Int32) (sv : Nat) (ln : Nat) (stp : Nat) (po : Nat) (tl : Int32) (hh : Int64) (z : Nat → Int32) (j1 : Nat) (s1 : Nat) (hj : j1 < 3) (hs : s1 < 12) (hdiv : ¬ 1000 + qIn (qV z j1) s1 * z 144 / 10 = 0) : Met l yX6_factor wsX6_factor ({ frames := 2, cells := 0, slots := 0, locals := 46 } : Room) (va_Pc [.ref (m0), .int (nI (j1)), .int (nI (s1))] (zW D ac [(m0, .inr (6, [.int (th), .ref (z0), .int (nI (sv)), .ref (sd0), .int (nI (ln)), .ref (tx0), .ref (as0), .int (nI (stp)), .int (nI (po)), .int (tl), .ref (rd0), .long (hh)])), (z0, .inl (ac 0, 162, .inl (z)))])) (zRi (mFac z j1 s1)) 0 0 (fun _ => False) := by
  refine z_ro (cc := cX6_factor) (maxL := 3) (ret := (some .int)) (lv := [(0, .ref (m0)), (1, .int (nI (j1))), (2, .int (nI (s1)))]) (by decide) rfl (Nat.le_of_ble_eq_true rfl) rfl ?_
  intro p e s m args below meth c ls hx hb hr hml hown hts hlocks hl hK hP
  refine lv_ldc (own := RX6) hx hb hown (hts (.constant RX6 41 (1000000)) (by decide +kernel)) dX6_factor_0 ?_
  refine lv_sipush (v := 1000) hx hb dX6_factor_2 (by decide) ?_
  refine lv_aload_n hx hb dX6_factor_5 rfl (lv_at hl 0 rfl) ?_
  refine lv_iload_n hx hb dX6_factor_6 rfl (lv_at hl 1 rfl) ?_
  refine lv_iload_n hx hb dX6_factor_7 rfl (lv_at hl 2 rfl) ?_
  refine z_ci (z_vrun (rest := [.int (1000), .int (1000000)]) (own := RX6) (As := [.int (nI (j1)), .int (nI (s1))]) hx hb hml hown hts hl.1 hK hP [0, 1] rfl (metX6_inSlice l D ac m0 z0 sd0 tx0 as0 rd0 th sv ln stp po tl hh z j1 s1 (by omega) (by omega)) gX6_factor_X6_inSlice rfl 2 (by decide +kernel) ⟨rfl, rfl, Nat.le_of_ble_eq_true rfl, Nat.le_of_ble_eq_true rfl⟩ 0 6 rfl rfl rfl rfl rfl (Nat.le_of_ble_eq_true rfl) dX6_factor_8 ⟨Nat.zero_le _, Nat.zero_le _⟩) ?_
  refine lv_aload_n hx hb dX6_factor_11 rfl (lv_at hl 0 rfl) ?_
  refine lv_iconst (v := 0) hx hb dX6_factor_12 (by decide) ?_
  refine z_ci (z_vrun (rest := [.int (qIn (qV z j1) s1), .int (1000), .int (1000000)]) (own := RX6) (As := [.int (0)]) hx hb hml hown hts hl.1 hK hP [0, 1] rfl (metX6_of l D ac m0 z0 sd0 tx0 as0 rd0 th sv ln stp po tl hh z 0 (by omega)) gX6_factor_X6_of rfl 1 (by decide +kernel) ⟨rfl, rfl, Nat.le_of_ble_eq_true rfl, Nat.le_of_ble_eq_true rfl⟩ 0 6 rfl rfl rfl rfl rfl (Nat.le_of_ble_eq_true rfl) dX6_factor_13 ⟨Nat.zero_le _, Nat.zero_le _⟩) ?_
  refine lv_imul hx hb dX6_factor_16 ?_
  refine lv_bipush (v := 10) hx hb dX6_factor_17 (by decide) ?_
  refine lv_idiv hx hb dX6_factor_19 (by decide) ?_
  refine lv_iadd hx hb dX6_factor_20 ?_
  refine lv_idiv hx hb dX6_factor_21 (hdiv) ?_
  exact z_iret hx hb hr hlocks (rfl) dX6_factor_22

set_option maxRecDepth 100000 in
set_option maxHeartbeats 4000000 in
theorem metX6_room (l : Launch) (D : va_G) (ac : Nat → ClassId) (m0 : Nat) (z0 : Nat) (sd0 : Nat) (tx0 : Nat) (as0 : Nat) (rd0 : Nat) (th : Int32) (sv : Nat) (ln : Nat) (stp : Nat) (po : Nat) (tl : Int32) (hh : Int64) (z : Nat → Int32) (j1 : Nat) (s1 : Nat) (hj : j1 < 3) (hs : s1 < 12) : Met l yX6_room wsX6_room ({ frames := 2, cells := 0, slots := 0, locals := 46 } : Room) (va_Pc [.ref (m0), .int (nI (j1)), .int (nI (s1))] (zW D ac [(m0, .inr (6, [.int (th), .ref (z0), .int (nI (sv)), .ref (sd0), .int (nI (ln)), .ref (tx0), .ref (as0), .int (nI (stp)), .int (nI (po)), .int (tl), .ref (rd0), .long (hh)])), (z0, .inl (ac 0, 162, .inl (z)))])) (zRi (mRoom z j1 s1)) 0 0 (fun _ => False) := by
  refine z_ro (cc := cX6_room) (maxL := 4) (ret := (some .int)) (lv := [(0, .ref (m0)), (1, .int (nI (j1))), (2, .int (nI (s1)))]) (by decide) rfl (Nat.le_of_ble_eq_true rfl) rfl ?_
  intro p e s m args below meth c ls hx hb hr hml hown hts hlocks hl hK hP
  refine lv_aload_n hx hb dX6_room_0 rfl (lv_at hl 0 rfl) ?_
  refine lv_iconst (v := 1) hx hb dX6_room_1 (by decide) ?_
  refine z_ci (z_vrun (rest := []) (own := RX6) (As := [.int (1)]) hx hb hml hown hts hl.1 hK hP [0, 1] rfl (metX6_of l D ac m0 z0 sd0 tx0 as0 rd0 th sv ln stp po tl hh z 1 (by omega)) gX6_room_X6_of rfl 1 (by decide +kernel) ⟨rfl, rfl, Nat.le_of_ble_eq_true rfl, Nat.le_of_ble_eq_true rfl⟩ 0 6 rfl rfl rfl rfl rfl (Nat.le_of_ble_eq_true rfl) dX6_room_2 ⟨Nat.zero_le _, Nat.zero_le _⟩) ?_
  refine lv_aload_n hx hb dX6_room_5 rfl (lv_at hl 0 rfl) ?_
  refine lv_iload_n hx hb dX6_room_6 rfl (lv_at hl 1 rfl) ?_
  refine lv_iload_n hx hb dX6_room_7 rfl (lv_at hl 2 rfl) ?_
  refine z_ci (z_vrun (rest := [.int (z (144 + 1))]) (own := RX6) (As := [.int (nI (j1)), .int (nI (s1))]) hx hb hml hown hts hl.1 hK hP [0, 1] rfl (metX6_inSlice l D ac m0 z0 sd0 tx0 as0 rd0 th sv ln stp po tl hh z j1 s1 (by omega) (by omega)) gX6_room_X6_inSlice rfl 2 (by decide +kernel) ⟨rfl, rfl, Nat.le_of_ble_eq_true rfl, Nat.le_of_ble_eq_true rfl⟩ 0 6 rfl rfl rfl rfl rfl (Nat.le_of_ble_eq_true rfl) dX6_room_8 ⟨Nat.zero_le _, Nat.zero_le _⟩) ?_
  refine lv_isub hx hb dX6_room_11 ?_
  refine lv_istore_n (lv' := [(3, .int ((z (144 + 1)) - (qIn (qV z j1) s1))), (0, .ref (m0)), (1, .int (nI (j1))), (2, .int (nI (s1)))]) hx hb dX6_room_12 rfl hl (by decide) rfl (fun ls hl => ?_)
  refine lv_iload_n hx hb dX6_room_13 rfl (lv_at hl 0 rfl) ?_
  refine lv_if_ge (tgt := 21) hx hb dX6_room_14 (by decide) (fun c_14 => ?_) (fun c_14 => ?_)
  · refine lv_iload_n hx hb dX6_room_21 rfl (lv_at hl 0 rfl) ?_
    exact z_iret hx hb hr hlocks ((if_neg (Int32.not_lt.mpr c_14)).symm) dX6_room_22
  · refine lv_iconst (v := 0) hx hb dX6_room_17 (by decide) ?_
    refine lv_goto (tgt := 22) hx hb dX6_room_18 (by decide) ?_
    exact z_iret hx hb hr hlocks ((if_pos (Int32.not_le.mp c_14)).symm) dX6_room_22

set_option maxRecDepth 100000 in
set_option maxHeartbeats 4000000 in
theorem metX6_wish (l : Launch) (D : va_G) (ac : Nat → ClassId) (m0 : Nat) (z0 : Nat) (sd0 : Nat) (tx0 : Nat) (as0 : Nat) (rd0 : Nat) (th : Int32) (sv : Nat) (ln : Nat) (stp : Nat) (po : Nat) (tl : Int32) (hh : Int64) (z : Nat → Int32) (j1 : Nat) (s1 : Nat) (k1 : Nat) (f1 : Int32) (hj : j1 < 3) (hs : s1 < 12) (hk : k1 < 4) : Met l yX6_wish wsX6_wish ({ frames := 1, cells := 0, slots := 0, locals := 22 } : Room) (va_Pc [.ref (m0), .int (nI (j1)), .int (nI (s1)), .int (nI (k1)), .int (f1)] (zW D ac [(m0, .inr (6, [.int (th), .ref (z0), .int (nI (sv)), .ref (sd0), .int (nI (ln)), .ref (tx0), .ref (as0), .int (nI (stp)), .int (nI (po)), .int (tl), .ref (rd0), .long (hh)])), (z0, .inl (ac 0, 162, .inl (z)))])) (zRi (mWish z j1 s1 k1 f1)) 0 0 (fun _ => False) := by
  refine z_ro (cc := cX6_wish) (maxL := 7) (ret := (some .int)) (lv := [(0, .ref (m0)), (1, .int (nI (j1))), (2, .int (nI (s1))), (3, .int (nI (k1))), (4, .int (f1))]) (by decide) rfl (Nat.le_of_ble_eq_true rfl) rfl ?_
  intro p e s m args below meth c ls hx hb hr hml hown hts hlocks hl hK hP
  refine lv_aload_n hx hb dX6_wish_0 rfl (lv_at hl 0 rfl) ?_
  refine va_get (ci := 6) (v := .ref (z0)) (C := RX6) (T := TX6) (N := 12) hx hb hts (by decide +kernel) hown hK hP 0 rfl rfl 1 (by decide) (hts (.fieldLink RX6 7 "SettlingJarsModel" "z" "[I") (by decide +kernel)) (fun _ h9 => h9) rfl dX6_wish_1 ?_
  refine lv_iload_n hx hb dX6_wish_4 rfl (lv_at hl 1 rfl) ?_
  refine lv_iload_n hx hb dX6_wish_5 rfl (lv_at hl 2 rfl) ?_
  refine lv_iload_n hx hb dX6_wish_6 rfl (lv_at hl 3 rfl) ?_
  refine z_ci (z_srun (rest := [.ref (z0)]) (own := RX6) (As := [.int (nI (j1)), .int (nI (s1)), .int (nI (k1))]) hx hb hml hown hts hl.1 hK hP [] rfl (metX6_place l D ac j1 s1 k1 ) gX6_wish_X6_place rfl 3 (by decide +kernel) ⟨rfl, rfl, Nat.le_of_ble_eq_true rfl, Nat.le_of_ble_eq_true rfl⟩ rfl rfl (Nat.le_of_ble_eq_true rfl) dX6_wish_7 ⟨Nat.zero_le _, Nat.zero_le _⟩) ?_
  refine z_iald hx hb hK hP 1 rfl (48 * j1 + (4 * s1 + k1)) (congrArg nI (by omega)) (by omega) (by decide) dX6_wish_10 ?_
  refine lv_istore (lv' := [(5, .int (z (48 * j1 + (4 * s1 + k1)))), (0, .ref (m0)), (1, .int (nI (j1))), (2, .int (nI (s1))), (3, .int (nI (k1))), (4, .int (f1))]) hx hb dX6_wish_11 hl (by decide) rfl (fun ls hl => ?_)
  refine lv_iload hx hb dX6_wish_13 (lv_at hl 0 rfl) ?_
  refine lv_aload_n hx hb dX6_wish_15 rfl (lv_at hl 1 rfl) ?_
  refine va_get (ci := 6) (v := .ref (z0)) (C := RX6) (T := TX6) (N := 12) hx hb hts (by decide +kernel) hown hK hP 0 rfl rfl 1 (by decide) (hts (.fieldLink RX6 7 "SettlingJarsModel" "z" "[I") (by decide +kernel)) (fun _ h9 => h9) rfl dX6_wish_16 ?_
  refine lv_sipush (v := 148) hx hb dX6_wish_19 (by decide) ?_
  refine lv_iload_n hx hb dX6_wish_22 rfl (lv_at hl 4 rfl) ?_
  refine lv_iadd hx hb dX6_wish_23 ?_
  refine z_top (y := nI ((148) + (k1))) (nI_add (148) (k1)) ?_
  refine z_iald hx hb hK hP 1 rfl ((148) + (k1)) (rfl) (by omega) (by decide) dX6_wish_24 ?_
  refine lv_imul hx hb dX6_wish_25 ?_
  refine lv_iload hx hb dX6_wish_26 (lv_at hl 5 rfl) ?_
  refine lv_imul hx hb dX6_wish_28 ?_
  refine lv_ldc (own := RX6) hx hb hown (hts (.constant RX6 46 (100000)) (by decide +kernel)) dX6_wish_29 ?_
  refine lv_idiv hx hb dX6_wish_31 (by decide) ?_
  refine lv_istore (lv' := [(6, .int ((((z (48 * j1 + (4 * s1 + k1))) * (z ((148) + (k1)))) * (f1)) / (100000))), (5, .int (z (48 * j1 + (4 * s1 + k1)))), (0, .ref (m0)), (1, .int (nI (j1))), (2, .int (nI (s1))), (3, .int (nI (k1))), (4, .int (f1))]) hx hb dX6_wish_32 hl (by decide) rfl (fun ls hl => ?_)
  refine lv_iload hx hb dX6_wish_34 (lv_at hl 0 rfl) ?_
  refine lv_if_ne (tgt := 53) hx hb dX6_wish_36 (by decide) (fun c_36 => ?_) (fun c_36 => ?_)
  · refine lv_iload hx hb dX6_wish_53 (lv_at hl 0 rfl) ?_
    refine lv_istore (lv' := [(6, .int ((((z (48 * j1 + (4 * s1 + k1))) * (z ((148) + (k1)))) * (f1)) / (100000))), (5, .int (z (48 * j1 + (4 * s1 + k1)))), (0, .ref (m0)), (1, .int (nI (j1))), (2, .int (nI (s1))), (3, .int (nI (k1))), (4, .int (f1))]) hx hb dX6_wish_55 hl (by decide) rfl (fun ls hl => ?_)
    refine lv_iload hx hb dX6_wish_57 (lv_at hl 0 rfl) ?_
    refine lv_iload hx hb dX6_wish_59 (lv_at hl 1 rfl) ?_
    refine lv_icmp_ge (tgt := 69) hx hb dX6_wish_61 (by decide) (fun c_61 => ?_) (fun c_61 => ?_)
    · refine lv_iload hx hb dX6_wish_69 (lv_at hl 1 rfl) ?_
      exact z_iret hx hb hr hlocks (((q_wish (z (148 + k1)) (z 147) (z (48 * j1 + (4 * s1 + k1))) f1).trans ((if_neg (fun q => c_36 q.1)).trans (if_neg (Int32.not_lt.mpr c_61)))).symm) dX6_wish_71
    · refine lv_iload hx hb dX6_wish_64 (lv_at hl 0 rfl) ?_
      refine lv_goto (tgt := 71) hx hb dX6_wish_66 (by decide) ?_
      exact z_iret hx hb hr hlocks (((q_wish (z (148 + k1)) (z 147) (z (48 * j1 + (4 * s1 + k1))) f1).trans ((if_neg (fun q => c_36 q.1)).trans (if_pos (Int32.not_le.mp c_61)))).symm) dX6_wish_71
  · refine lv_iload hx hb dX6_wish_39 (lv_at hl 1 rfl) ?_
    refine lv_aload_n hx hb dX6_wish_41 rfl (lv_at hl 2 rfl) ?_
    refine lv_iconst (v := 3) hx hb dX6_wish_42 (by decide) ?_
    refine z_ci (z_vrun (rest := [.int (z (48 * j1 + (4 * s1 + k1)))]) (own := RX6) (As := [.int (3)]) hx hb hml hown hts hl.1 hK hP [0, 1] rfl (metX6_of l D ac m0 z0 sd0 tx0 as0 rd0 th sv ln stp po tl hh z 3 (by omega)) gX6_wish_X6_of rfl 1 (by decide +kernel) ⟨rfl, rfl, Nat.le_of_ble_eq_true rfl, Nat.le_of_ble_eq_true rfl⟩ 0 6 rfl rfl rfl rfl rfl (Nat.le_of_ble_eq_true rfl) dX6_wish_43 ⟨Nat.zero_le _, Nat.zero_le _⟩) ?_
    refine lv_icmp_le (tgt := 53) hx hb dX6_wish_46 (by decide) (fun c_46 => ?_) (fun c_46 => ?_)
    · refine lv_iload hx hb dX6_wish_53 (lv_at hl 0 rfl) ?_
      refine lv_istore (lv' := [(6, .int ((((z (48 * j1 + (4 * s1 + k1))) * (z ((148) + (k1)))) * (f1)) / (100000))), (5, .int (z (48 * j1 + (4 * s1 + k1)))), (0, .ref (m0)), (1, .int (nI (j1))), (2, .int (nI (s1))), (3, .int (nI (k1))), (4, .int (f1))]) hx hb dX6_wish_55 hl (by decide) rfl (fun ls hl => ?_)
      refine lv_iload hx hb dX6_wish_57 (lv_at hl 0 rfl) ?_
      refine lv_iload hx hb dX6_wish_59 (lv_at hl 1 rfl) ?_
      refine lv_icmp_ge (tgt := 69) hx hb dX6_wish_61 (by decide) (fun c_61 => ?_) (fun c_61 => ?_)
      · refine lv_iload hx hb dX6_wish_69 (lv_at hl 1 rfl) ?_
        exact z_iret hx hb hr hlocks (((q_wish (z (148 + k1)) (z 147) (z (48 * j1 + (4 * s1 + k1))) f1).trans ((if_neg (fun q => absurd c_46 (Int32.not_le.mpr q.2))).trans (if_neg (Int32.not_lt.mpr c_61)))).symm) dX6_wish_71
      · refine lv_iload hx hb dX6_wish_64 (lv_at hl 0 rfl) ?_
        refine lv_goto (tgt := 71) hx hb dX6_wish_66 (by decide) ?_
        exact z_iret hx hb hr hlocks (((q_wish (z (148 + k1)) (z 147) (z (48 * j1 + (4 * s1 + k1))) f1).trans ((if_neg (fun q => absurd c_46 (Int32.not_le.mpr q.2))).trans (if_pos (Int32.not_le.mp c_61)))).symm) dX6_wish_71
    · refine lv_iconst (v := 1) hx hb dX6_wish_49 (by decide) ?_
      refine lv_goto (tgt := 55) hx hb dX6_wish_50 (by decide) ?_
      refine lv_istore (lv' := [(6, .int (1)), (5, .int (z (48 * j1 + (4 * s1 + k1)))), (0, .ref (m0)), (1, .int (nI (j1))), (2, .int (nI (s1))), (3, .int (nI (k1))), (4, .int (f1))]) hx hb dX6_wish_55 hl (by decide) rfl (fun ls hl => ?_)
      refine lv_iload hx hb dX6_wish_57 (lv_at hl 0 rfl) ?_
      refine lv_iload hx hb dX6_wish_59 (lv_at hl 1 rfl) ?_
      refine lv_icmp_ge (tgt := 69) hx hb dX6_wish_61 (by decide) (fun c_61 => ?_) (fun c_61 => ?_)
      · refine lv_iload hx hb dX6_wish_69 (lv_at hl 1 rfl) ?_
        exact z_iret hx hb hr hlocks (((q_wish (z (148 + k1)) (z 147) (z (48 * j1 + (4 * s1 + k1))) f1).trans ((if_pos ⟨c_36, Int32.not_le.mp c_46⟩).trans (if_neg (Int32.not_lt.mpr c_61)))).symm) dX6_wish_71
      · refine lv_iload hx hb dX6_wish_64 (lv_at hl 0 rfl) ?_
        refine lv_goto (tgt := 71) hx hb dX6_wish_66 (by decide) ?_
        exact z_iret hx hb hr hlocks (((q_wish (z (148 + k1)) (z 147) (z (48 * j1 + (4 * s1 + k1))) f1).trans ((if_pos ⟨c_36, Int32.not_le.mp c_46⟩).trans (if_pos (Int32.not_le.mp c_61)))).symm) dX6_wish_71

set_option maxRecDepth 100000 in
set_option maxHeartbeats 4000000 in
theorem metX6_isPacked (l : Launch) (D : va_G) (ac : Nat → ClassId) (m0 : Nat) (z0 : Nat) (sd0 : Nat) (tx0 : Nat) (as0 : Nat) (rd0 : Nat) (th : Int32) (sv : Nat) (ln : Nat) (stp : Nat) (po : Nat) (tl : Int32) (hh : Int64) (z : Nat → Int32) (j1 : Nat) (s1 : Nat) (hj : j1 < 3) (hs : s1 < 12) : Met l yX6_isPacked wsX6_isPacked ({ frames := 2, cells := 0, slots := 0, locals := 46 } : Room) (va_Pc [.ref (m0), .int (nI (j1)), .int (nI (s1))] (zW D ac [(m0, .inr (6, [.int (th), .ref (z0), .int (nI (sv)), .ref (sd0), .int (nI (ln)), .ref (tx0), .ref (as0), .int (nI (stp)), .int (nI (po)), .int (tl), .ref (rd0), .long (hh)])), (z0, .inl (ac 0, 162, .inl (z)))])) (zRi (if z 145 ≤ qIn (qV z j1) s1 then 1 else 0)) 0 0 (fun _ => False) := by
  refine z_ro (cc := cX6_isPacked) (maxL := 3) (ret := (some .boolean)) (lv := [(0, .ref (m0)), (1, .int (nI (j1))), (2, .int (nI (s1)))]) (by decide) rfl (Nat.le_of_ble_eq_true rfl) rfl ?_
  intro p e s m args below meth c ls hx hb hr hml hown hts hlocks hl hK hP
  refine lv_aload_n hx hb dX6_isPacked_0 rfl (lv_at hl 0 rfl) ?_
  refine lv_iload_n hx hb dX6_isPacked_1 rfl (lv_at hl 1 rfl) ?_
  refine lv_iload_n hx hb dX6_isPacked_2 rfl (lv_at hl 2 rfl) ?_
  refine z_ci (z_vrun (rest := []) (own := RX6) (As := [.int (nI (j1)), .int (nI (s1))]) hx hb hml hown hts hl.1 hK hP [0, 1] rfl (metX6_inSlice l D ac m0 z0 sd0 tx0 as0 rd0 th sv ln stp po tl hh z j1 s1 (by omega) (by omega)) gX6_isPacked_X6_inSlice rfl 2 (by decide +kernel) ⟨rfl, rfl, Nat.le_of_ble_eq_true rfl, Nat.le_of_ble_eq_true rfl⟩ 0 6 rfl rfl rfl rfl rfl (Nat.le_of_ble_eq_true rfl) dX6_isPacked_3 ⟨Nat.zero_le _, Nat.zero_le _⟩) ?_
  refine lv_aload_n hx hb dX6_isPacked_6 rfl (lv_at hl 0 rfl) ?_
  refine lv_iconst (v := 1) hx hb dX6_isPacked_7 (by decide) ?_
  refine z_ci (z_vrun (rest := [.int (qIn (qV z j1) s1)]) (own := RX6) (As := [.int (1)]) hx hb hml hown hts hl.1 hK hP [0, 1] rfl (metX6_of l D ac m0 z0 sd0 tx0 as0 rd0 th sv ln stp po tl hh z 1 (by omega)) gX6_isPacked_X6_of rfl 1 (by decide +kernel) ⟨rfl, rfl, Nat.le_of_ble_eq_true rfl, Nat.le_of_ble_eq_true rfl⟩ 0 6 rfl rfl rfl rfl rfl (Nat.le_of_ble_eq_true rfl) dX6_isPacked_8 ⟨Nat.zero_le _, Nat.zero_le _⟩) ?_
  refine lv_icmp_lt (tgt := 18) hx hb dX6_isPacked_11 (by decide) (fun c_11 => ?_) (fun c_11 => ?_)
  · refine lv_iconst (v := 0) hx hb dX6_isPacked_18 (by decide) ?_
    exact z_zret hx hb hr hlocks (rfl) ((if_neg (fun q => absurd c_11 (Int32.not_lt.mpr q))).symm) dX6_isPacked_19
  · refine lv_iconst (v := 1) hx hb dX6_isPacked_14 (by decide) ?_
    refine lv_goto (tgt := 19) hx hb dX6_isPacked_15 (by decide) ?_
    exact z_zret hx hb hr hlocks (rfl) ((if_pos (Int32.not_lt.mp c_11)).symm) dX6_isPacked_19

set_option maxRecDepth 100000 in
set_option maxHeartbeats 4000000 in
theorem metX6_isClear (l : Launch) (D : va_G) (ac : Nat → ClassId) (m0 : Nat) (z0 : Nat) (sd0 : Nat) (tx0 : Nat) (as0 : Nat) (rd0 : Nat) (th : Int32) (sv : Nat) (ln : Nat) (stp : Nat) (po : Nat) (tl : Int32) (hh : Int64) (z : Nat → Int32) (j1 : Nat) (s1 : Nat) (hj : j1 < 3) (hs : s1 < 12) : Met l yX6_isClear wsX6_isClear ({ frames := 2, cells := 0, slots := 0, locals := 46 } : Room) (va_Pc [.ref (m0), .int (nI (j1)), .int (nI (s1))] (zW D ac [(m0, .inr (6, [.int (th), .ref (z0), .int (nI (sv)), .ref (sd0), .int (nI (ln)), .ref (tx0), .ref (as0), .int (nI (stp)), .int (nI (po)), .int (tl), .ref (rd0), .long (hh)])), (z0, .inl (ac 0, 162, .inl (z)))])) (zRi (if qIn (qV z j1) s1 ≤ z 146 then 1 else 0)) 0 0 (fun _ => False) := by
  refine z_ro (cc := cX6_isClear) (maxL := 3) (ret := (some .boolean)) (lv := [(0, .ref (m0)), (1, .int (nI (j1))), (2, .int (nI (s1)))]) (by decide) rfl (Nat.le_of_ble_eq_true rfl) rfl ?_
  intro p e s m args below meth c ls hx hb hr hml hown hts hlocks hl hK hP
  refine lv_aload_n hx hb dX6_isClear_0 rfl (lv_at hl 0 rfl) ?_
  refine lv_iload_n hx hb dX6_isClear_1 rfl (lv_at hl 1 rfl) ?_
  refine lv_iload_n hx hb dX6_isClear_2 rfl (lv_at hl 2 rfl) ?_
  refine z_ci (z_vrun (rest := []) (own := RX6) (As := [.int (nI (j1)), .int (nI (s1))]) hx hb hml hown hts hl.1 hK hP [0, 1] rfl (metX6_inSlice l D ac m0 z0 sd0 tx0 as0 rd0 th sv ln stp po tl hh z j1 s1 (by omega) (by omega)) gX6_isClear_X6_inSlice rfl 2 (by decide +kernel) ⟨rfl, rfl, Nat.le_of_ble_eq_true rfl, Nat.le_of_ble_eq_true rfl⟩ 0 6 rfl rfl rfl rfl rfl (Nat.le_of_ble_eq_true rfl) dX6_isClear_3 ⟨Nat.zero_le _, Nat.zero_le _⟩) ?_
  refine lv_aload_n hx hb dX6_isClear_6 rfl (lv_at hl 0 rfl) ?_
  refine lv_iconst (v := 2) hx hb dX6_isClear_7 (by decide) ?_
  refine z_ci (z_vrun (rest := [.int (qIn (qV z j1) s1)]) (own := RX6) (As := [.int (2)]) hx hb hml hown hts hl.1 hK hP [0, 1] rfl (metX6_of l D ac m0 z0 sd0 tx0 as0 rd0 th sv ln stp po tl hh z 2 (by omega)) gX6_isClear_X6_of rfl 1 (by decide +kernel) ⟨rfl, rfl, Nat.le_of_ble_eq_true rfl, Nat.le_of_ble_eq_true rfl⟩ 0 6 rfl rfl rfl rfl rfl (Nat.le_of_ble_eq_true rfl) dX6_isClear_8 ⟨Nat.zero_le _, Nat.zero_le _⟩) ?_
  refine lv_icmp_gt (tgt := 18) hx hb dX6_isClear_11 (by decide) (fun c_11 => ?_) (fun c_11 => ?_)
  · refine lv_iconst (v := 0) hx hb dX6_isClear_18 (by decide) ?_
    exact z_zret hx hb hr hlocks (rfl) ((if_neg (fun q => absurd c_11 (Int32.not_lt.mpr q))).symm) dX6_isClear_19
  · refine lv_iconst (v := 1) hx hb dX6_isClear_14 (by decide) ?_
    refine lv_goto (tgt := 19) hx hb dX6_isClear_15 (by decide) ?_
    exact z_zret hx hb hr hlocks (rfl) ((if_pos (Int32.not_lt.mp c_11)).symm) dX6_isClear_19

set_option maxRecDepth 100000 in
set_option maxHeartbeats 4000000 in
theorem metX6_bed (l : Launch) (D : va_G) (ac : Nat → ClassId) (m0 : Nat) (z0 : Nat) (sd0 : Nat) (tx0 : Nat) (as0 : Nat) (rd0 : Nat) (th : Int32) (sv : Nat) (ln : Nat) (stp : Nat) (po : Nat) (tl : Int32) (hh : Int64) (z : Nat → Int32) (j1 : Nat) (hj : j1 < 3) : Met l yX6_bed wsX6_bed ({ frames := 3, cells := 0, slots := 0, locals := 68 } : Room) (va_Pc [.ref (m0), .int (nI (j1))] (zW D ac [(m0, .inr (6, [.int (th), .ref (z0), .int (nI (sv)), .ref (sd0), .int (nI (ln)), .ref (tx0), .ref (as0), .int (nI (stp)), .int (nI (po)), .int (tl), .ref (rd0), .long (hh)])), (z0, .inl (ac 0, 162, .inl (z)))])) (zRi (nI (mBed z j1))) 0 0 (fun _ => False) := by
  refine z_ro (cc := cX6_bed) (maxL := 3) (ret := (some .int)) (lv := [(0, .ref (m0)), (1, .int (nI (j1)))]) (by decide) rfl (Nat.le_of_ble_eq_true rfl) rfl ?_
  intro p e s m args below meth c ls hx hb hr hml hown hts hlocks hl hK hP
  refine lv_iconst (v := 0) hx hb dX6_bed_0 (by decide) ?_
  refine lv_istore_n (lv' := [(2, .int (0)), (0, .ref (m0)), (1, .int (nI (j1)))]) hx hb dX6_bed_1 rfl hl (by decide) rfl (fun ls hl => ?_)
  have hL_2 : ∀ (n : Nat) (i : Nat), (i + n = 12) → (mBed z j1 = qRun (fun i => decide (z 145 ≤ qIn (qV z j1) (11 - i))) n i) → ∀ (ls : Array Slot), lv_has ls 3 [(2, .int (nI (i))), (0, .ref (m0)), (1, .int (nI (j1)))] → W p l e ({ frames := 3, cells := 0, slots := 0, locals := 68 } : Room) s m args below meth c s.heap [] 0 0 (MQ below (zRi (nI (mBed z j1))) args s 0 0 (fun _ => False)) (F0 m 2 ls []) := by
    intro n
    induction n with
    | zero =>
      intro i hi hR ls hl
      have e_i : 12 = i := by omega
      subst e_i
      refine lv_iload_n hx hb dX6_bed_2 rfl (lv_at hl 0 rfl) ?_
      refine lv_bipush (v := 12) hx hb dX6_bed_3 (by decide) ?_
      refine z_icmp_ge (tgt := 26) hx hb (12) (12) dX6_bed_5 (by decide) (by omega) (by omega) rfl rfl (fun c_5 => ?_) (fun c_5 => absurd c_5 (by omega))
      refine lv_iload_n hx hb dX6_bed_26 rfl (lv_at hl 0 rfl) ?_
      exact z_iret hx hb hr hlocks (congrArg nI hR.symm) dX6_bed_27
    | succ n ih =>
      intro i hi hR ls hl
      refine lv_iload_n hx hb dX6_bed_2 rfl (lv_at hl 0 rfl) ?_
      refine lv_bipush (v := 12) hx hb dX6_bed_3 (by decide) ?_
      refine z_icmp_ge (tgt := 26) hx hb (i) (12) dX6_bed_5 (by decide) (by omega) (by omega) rfl rfl (fun c_5 => absurd c_5 (by omega)) (fun c_5 => ?_)
      refine lv_aload_n hx hb dX6_bed_8 rfl (lv_at hl 1 rfl) ?_
      refine lv_iload_n hx hb dX6_bed_9 rfl (lv_at hl 2 rfl) ?_
      refine lv_bipush (v := 11) hx hb dX6_bed_10 (by decide) ?_
      refine lv_iload_n hx hb dX6_bed_12 rfl (lv_at hl 0 rfl) ?_
      refine lv_isub hx hb dX6_bed_13 ?_
      refine z_top (y := nI ((11) - (i))) (pk_sub (a := 11) (b := i) (by omega)) ?_
      refine z_ci (z_vrun (rest := []) (own := RX6) (As := [.int (nI (j1)), .int (nI ((11) - (i)))]) hx hb hml hown hts hl.1 hK hP [0, 1] rfl (metX6_isPacked l D ac m0 z0 sd0 tx0 as0 rd0 th sv ln stp po tl hh z j1 ((11) - (i)) (by omega) (by omega)) gX6_bed_X6_isPacked rfl 2 (by decide +kernel) ⟨rfl, rfl, Nat.le_of_ble_eq_true rfl, Nat.le_of_ble_eq_true rfl⟩ 0 6 rfl rfl rfl rfl rfl (Nat.le_of_ble_eq_true rfl) dX6_bed_14 ⟨Nat.zero_le _, Nat.zero_le _⟩) ?_
      refine z_if_eq (C := z 145 ≤ qIn (qV z j1) ((11) - (i))) (tgt := 26) hx hb dX6_bed_17 (by decide) (fun c_17 => ?_) (fun c_17 => ?_)
      · refine lv_iload_n hx hb dX6_bed_26 rfl (lv_at hl 0 rfl) ?_
        exact z_iret hx hb hr hlocks (congrArg nI (hR.trans (if_neg (fun q => c_17 (of_decide_eq_true q)))).symm) dX6_bed_27
      · refine lv_iinc (v := nI ((i) + 1)) (lv' := [(2, .int (nI ((i) + 1))), (0, .ref (m0)), (1, .int (nI (j1)))]) hx hb dX6_bed_20 hl (k := 0) rfl (show nI (i) + Int32.ofInt 1 = _ from nI_add (i) 1) (by decide) rfl (fun ls hl => ?_)
        refine lv_goto (tgt := 2) hx hb dX6_bed_23 (by decide) ?_
        exact ih (i + 1) (by omega) (hR.trans (if_pos (decide_eq_true c_17))) ls (lv_sub hl [0, 1, 2] rfl)
  exact hL_2 (12) (0) (by omega) (rfl) ls (lv_sub hl [0, 1, 2] rfl)

set_option maxRecDepth 100000 in
set_option maxHeartbeats 4000000 in
theorem metX6_clearWater (l : Launch) (D : va_G) (ac : Nat → ClassId) (m0 : Nat) (z0 : Nat) (sd0 : Nat) (tx0 : Nat) (as0 : Nat) (rd0 : Nat) (th : Int32) (sv : Nat) (ln : Nat) (stp : Nat) (po : Nat) (tl : Int32) (hh : Int64) (z : Nat → Int32) (j1 : Nat) (hj : j1 < 3) : Met l yX6_clearWater wsX6_clearWater ({ frames := 3, cells := 0, slots := 0, locals := 68 } : Room) (va_Pc [.ref (m0), .int (nI (j1))] (zW D ac [(m0, .inr (6, [.int (th), .ref (z0), .int (nI (sv)), .ref (sd0), .int (nI (ln)), .ref (tx0), .ref (as0), .int (nI (stp)), .int (nI (po)), .int (tl), .ref (rd0), .long (hh)])), (z0, .inl (ac 0, 162, .inl (z)))])) (zRi (nI (qClr (qV z j1) (z 146)))) 0 0 (fun _ => False) := by
  refine z_ro (cc := cX6_clearWater) (maxL := 3) (ret := (some .int)) (lv := [(0, .ref (m0)), (1, .int (nI (j1)))]) (by decide) rfl (Nat.le_of_ble_eq_true rfl) rfl ?_
  intro p e s m args below meth c ls hx hb hr hml hown hts hlocks hl hK hP
  refine lv_iconst (v := 0) hx hb dX6_clearWater_0 (by decide) ?_
  refine lv_istore_n (lv' := [(2, .int (0)), (0, .ref (m0)), (1, .int (nI (j1)))]) hx hb dX6_clearWater_1 rfl hl (by decide) rfl (fun ls hl => ?_)
  have hL_2 : ∀ (n : Nat) (i : Nat), (i + n = 12) → (qClr (qV z j1) (z 146) = qRun (fun i => decide (qIn (qV z j1) i ≤ z 146)) n i) → ∀ (ls : Array Slot), lv_has ls 3 [(2, .int (nI (i))), (0, .ref (m0)), (1, .int (nI (j1)))] → W p l e ({ frames := 3, cells := 0, slots := 0, locals := 68 } : Room) s m args below meth c s.heap [] 0 0 (MQ below (zRi (nI (qClr (qV z j1) (z 146)))) args s 0 0 (fun _ => False)) (F0 m 2 ls []) := by
    intro n
    induction n with
    | zero =>
      intro i hi hR ls hl
      have e_i : 12 = i := by omega
      subst e_i
      refine lv_iload_n hx hb dX6_clearWater_2 rfl (lv_at hl 0 rfl) ?_
      refine lv_bipush (v := 12) hx hb dX6_clearWater_3 (by decide) ?_
      refine z_icmp_ge (tgt := 23) hx hb (12) (12) dX6_clearWater_5 (by decide) (by omega) (by omega) rfl rfl (fun c_5 => ?_) (fun c_5 => absurd c_5 (by omega))
      refine lv_iload_n hx hb dX6_clearWater_23 rfl (lv_at hl 0 rfl) ?_
      exact z_iret hx hb hr hlocks (congrArg nI hR.symm) dX6_clearWater_24
    | succ n ih =>
      intro i hi hR ls hl
      refine lv_iload_n hx hb dX6_clearWater_2 rfl (lv_at hl 0 rfl) ?_
      refine lv_bipush (v := 12) hx hb dX6_clearWater_3 (by decide) ?_
      refine z_icmp_ge (tgt := 23) hx hb (i) (12) dX6_clearWater_5 (by decide) (by omega) (by omega) rfl rfl (fun c_5 => absurd c_5 (by omega)) (fun c_5 => ?_)
      refine lv_aload_n hx hb dX6_clearWater_8 rfl (lv_at hl 1 rfl) ?_
      refine lv_iload_n hx hb dX6_clearWater_9 rfl (lv_at hl 2 rfl) ?_
      refine lv_iload_n hx hb dX6_clearWater_10 rfl (lv_at hl 0 rfl) ?_
      refine z_ci (z_vrun (rest := []) (own := RX6) (As := [.int (nI (j1)), .int (nI (i))]) hx hb hml hown hts hl.1 hK hP [0, 1] rfl (metX6_isClear l D ac m0 z0 sd0 tx0 as0 rd0 th sv ln stp po tl hh z j1 i (by omega) (by omega)) gX6_clearWater_X6_isClear rfl 2 (by decide +kernel) ⟨rfl, rfl, Nat.le_of_ble_eq_true rfl, Nat.le_of_ble_eq_true rfl⟩ 0 6 rfl rfl rfl rfl rfl (Nat.le_of_ble_eq_true rfl) dX6_clearWater_11 ⟨Nat.zero_le _, Nat.zero_le _⟩) ?_
      refine z_if_eq (C := qIn (qV z j1) i ≤ z 146) (tgt := 23) hx hb dX6_clearWater_14 (by decide) (fun c_14 => ?_) (fun c_14 => ?_)
      · refine lv_iload_n hx hb dX6_clearWater_23 rfl (lv_at hl 0 rfl) ?_
        exact z_iret hx hb hr hlocks (congrArg nI (hR.trans (if_neg (fun q => c_14 (of_decide_eq_true q)))).symm) dX6_clearWater_24
      · refine lv_iinc (v := nI ((i) + 1)) (lv' := [(2, .int (nI ((i) + 1))), (0, .ref (m0)), (1, .int (nI (j1)))]) hx hb dX6_clearWater_17 hl (k := 0) rfl (show nI (i) + Int32.ofInt 1 = _ from nI_add (i) 1) (by decide) rfl (fun ls hl => ?_)
        refine lv_goto (tgt := 2) hx hb dX6_clearWater_20 (by decide) ?_
        exact ih (i + 1) (by omega) (hR.trans (if_pos (decide_eq_true c_14))) ls (lv_sub hl [0, 1, 2] rfl)
  exact hL_2 (12) (0) (by omega) (rfl) ls (lv_sub hl [0, 1, 2] rfl)

