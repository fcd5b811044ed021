set_option maxRecDepth 100000 in
set_option maxHeartbeats 4000000 in
theorem metX6_load_0 (l : Launch) (D : va_G) (ac : Nat → ClassId) (sz : Nat) (m0 : Nat) (z0 : Nat) (sd0 : Nat) (tx0 : Nat) (as0 : Nat) (rd0 : Nat) (th : Int32) (sv : Nat) (ln : Nat) (stp : Nat) (po : Nat) (tl : Int32) (hh : Int64) (z : Nat → Int32) (sd : Nat → Int32) (tx : Nat → Int32) (az : Nat → Int32) (rd : Nat → Int32) (pe : Nat) (te : Int32) (re : Nat → Int32) (se : Nat) (j1 : Nat) (hj : j1 < 3) (hln : ln ≤ 60) (h2 : ((mText tx ln rd).1 = ln ∧ ((mText tx ln rd).2.1 = 2 ∨ (mText tx ln rd).2.1 = 4))) (h3 : qAll (qV z j1) + te ≤ 5000) (hsv : sv ≤ 6) (hrd : ∀ k, k < pe → re (3 * k + 2) = nI (re (3 * k + 2)).toNatClampNeg ∧ (re (3 * k + 2)).toNatClampNeg < 12 ∧ re (3 * k + 1) = nI (re (3 * k + 1)).toNatClampNeg ∧ (re (3 * k + 1)).toNatClampNeg < 4) (hE1 : (mText tx ln rd).2.2.1 + 1 = pe) (hE2 : (mText tx ln rd).2.2.2.1 + (mText tx ln rd).2.2.2.2 (3 * (mText tx ln rd).2.2.1) = te) (hE3 : upd (upd (mText tx ln rd).2.2.2.2 (3 * ((mText tx ln rd).2.2.1 + 1)) 0) (3 * ((mText tx ln rd).2.2.1 + 1) + 2) 0 = re) (hE4 : (mText tx ln rd).2.1 = se) : Met l yX6_load wsX6_load ({ frames := 4, cells := 0, slots := 0, locals := 87 } : Room) (va_Pc [.ref (m0), .int (nI (j1))] (zS D ac [(m0, .inr (6, [.int (th), .ref (z0), .int (nI (sv)), .ref (sd0), .int (nI (ln)), .ref (tx0), .ref (as0), .int (nI (stp)), .int (nI (po)), .int (tl), .ref (rd0), .long (hh)])), (z0, .inl (ac 0, 162, .inl (z))), (sd0, .inl (ac 0, 972, .inl (sd))), (tx0, .inl (ac 0, 60, .inl (tx))), (as0, .inl (ac 0, 162, .inl (az))), (rd0, .inl (ac 0, 63, .inl (rd)))] sz)) (zQi D ac [(m0, .inr (6, [.int (th), .ref (z0), .int (nI (sv)), .ref (sd0), .int (nI (ln)), .ref (tx0), .ref (as0), .int (nI (stp)), .int (nI (po)), .int (tl), .ref (rd0), .long (hh)])), (z0, .inl (ac 0, 162, .inl (z))), (sd0, .inl (ac 0, 972, .inl (sd))), (tx0, .inl (ac 0, 60, .inl (tx))), (as0, .inl (ac 0, 162, .inl (az))), (rd0, .inl (ac 0, 63, .inl (rd)))] [(m0, .inr (6, [.int (0), .ref (z0), .int (nI (mSv sv + 1)), .ref (sd0), .int (0), .ref (tx0), .ref (as0), .int (nI (se)), .int (nI (pe)), .int (te), .ref (rd0), .long (hh)])), (z0, .inl (ac 0, 162, .inl (mLoad z re j1 pe))), (sd0, .inl (ac 0, 972, .inl (mSave sd z sv))), (tx0, .inl (ac 0, 60, .inl (tx))), (as0, .inl (ac 0, 162, .inl (az))), (rd0, .inl (ac 0, 63, .inl (re)))] sz (qAll (qV (mLoad z re j1 pe) j1))) 0 0 (va_A [(m0, .inr (6, [.int (th), .ref (z0), .int (nI (sv)), .ref (sd0), .int (nI (ln)), .ref (tx0), .ref (as0), .int (nI (stp)), .int (nI (po)), .int (tl), .ref (rd0), .long (hh)])), (z0, .inl (ac 0, 162, .inl (z))), (sd0, .inl (ac 0, 972, .inl (sd))), (tx0, .inl (ac 0, 60, .inl (tx))), (as0, .inl (ac 0, 162, .inl (az))), (rd0, .inl (ac 0, 63, .inl (rd)))] sz) := by
  refine z_rw (cc := cX6_load) (maxL := 4) (ret := (some .int)) (lv := [(0, .ref (m0)), (1, .int (nI (j1)))]) (by decide) rfl (Nat.le_of_ble_eq_true rfl) rfl ?_
  intro p e s m args below meth c ls A hx hb hr hml hown hts hlocks hl hK hP hsz hAe hA hD hS
  have hb9 := m_text_le tx ln rd
  have hs9 := m_text_st tx ln rd
  have hp9 := m_text_po tx rd hln h2
  have hp8 : pe ≤ 20 := by omega
  refine lv_iload_n hx hb dX6_load_0 rfl (lv_at hl 1 rfl) ?_
  refine z_ci (z_srun (rest := []) (own := RX6) (As := [.int (nI (j1))]) hx hb hml hown hts hl.1 hK hP [] rfl (metX6_isJar l D ac (nI (j1)) ) gX6_load_X6_isJar rfl 1 (by decide +kernel) ⟨rfl, rfl, Nat.le_of_ble_eq_true rfl, Nat.le_of_ble_eq_true rfl⟩ rfl rfl (Nat.le_of_ble_eq_true rfl) dX6_load_1 ⟨Nat.zero_le _, Nat.zero_le _⟩) ?_
  refine z_if_ne (C := 0 ≤ (nI (j1)) ∧ (nI (j1)) ≤ 2) (tgt := 14) hx hb dX6_load_4 (by decide) (fun c_4 => ?_) (fun c_4 => absurd c_4 (fun q => q (z_in (n := 2) (by omega))))
  refine lv_aload_n hx hb dX6_load_14 rfl (lv_at hl 0 rfl) ?_
  refine z_ciW [(m0, .inr (6, [.int (th), .ref (z0), .int (nI (sv)), .ref (sd0), .int (nI (ln)), .ref (tx0), .ref (as0), .int (nI ((mText tx ln rd).2.1)), .int (nI ((mText tx ln rd).2.2.1)), .int ((mText tx ln rd).2.2.2.1), .ref (rd0), .long (hh)])), (z0, .inl (ac 0, 162, .inl (z))), (sd0, .inl (ac 0, 972, .inl (sd))), (tx0, .inl (ac 0, 60, .inl (tx))), (as0, .inl (ac 0, 162, .inl (az))), (rd0, .inl (ac 0, 63, .inl ((mText tx ln rd).2.2.2.2)))] (z_vrunW (rest := []) (own := RX6) (As := []) hx hb hml hown hts hl.1 hK hP hD [0, 1, 2, 3, 4, 5] rfl (by decide) rfl (metX6_readText l D ac _ m0 z0 sd0 tx0 as0 rd0 th sv ln stp po tl hh z sd tx az rd (by omega)) gX6_load_X6_readText rfl 0 (by decide +kernel) ⟨rfl, rfl, Nat.le_of_ble_eq_true rfl, Nat.le_of_ble_eq_true rfl⟩ 0 6 rfl rfl rfl rfl rfl (Nat.le_of_ble_eq_true rfl) dX6_load_15 ⟨Nat.zero_le _, Nat.zero_le _⟩) hP hD hS hA [0, 1, 2, 3, 4, 5] [] [0, 1, 2, 3, 4, 5] rfl rfl (by decide) (by decide) (by decide) rfl (fun H locs hP hD hS => ?_)
  refine lv_aload_n hx hb dX6_load_18 rfl (lv_at hl 0 rfl) ?_
  refine va_get (ci := 6) (v := .int (nI (ln))) (C := RX6) (T := TX6) (N := 12) hx hb hts (by decide +kernel) hown hK hP 0 rfl rfl 4 (by decide) (hts (.fieldLink RX6 114 "SettlingJarsModel" "length" "I") (by decide +kernel)) (fun _ h9 => h9) rfl dX6_load_19 ?_
  refine z_icmp_ne (tgt := 45) hx hb ((mText tx ln rd).1) (ln) dX6_load_22 (by decide) (by omega) (by omega) rfl rfl (fun c_22 => absurd c_22 (fun q => q h2.1)) (fun c_22 => ?_)
  refine lv_aload_n hx hb dX6_load_25 rfl (lv_at hl 0 rfl) ?_
  refine va_get (ci := 6) (v := .int (nI ((mText tx ln rd).2.1))) (C := RX6) (T := TX6) (N := 12) hx hb hts (by decide +kernel) hown hK hP 0 rfl rfl 7 (by decide) (hts (.fieldLink RX6 117 "SettlingJarsModel" "step" "I") (by decide +kernel)) (fun _ h9 => h9) rfl dX6_load_26 ?_
  refine lv_iconst (v := 2) hx hb dX6_load_29 (by decide) ?_
  refine z_icmp_eq (tgt := 41) hx hb ((mText tx ln rd).2.1) (2) dX6_load_30 (by decide) (by omega) (by omega) rfl rfl (fun c_30 => ?_) (fun c_30 => ?_)
  · refine lv_iconst (v := 1) hx hb dX6_load_41 (by decide) ?_
    refine lv_goto (tgt := 46) hx hb dX6_load_42 (by decide) ?_
    refine lv_istore_n (lv' := [(2, .int (1)), (0, .ref (m0)), (1, .int (nI (j1)))]) hx hb dX6_load_46 rfl hl (by decide) rfl (fun ls hl => ?_)
    refine lv_iload_n hx hb dX6_load_47 rfl (lv_at hl 0 rfl) ?_
    refine lv_if_eq (tgt := 55) hx hb dX6_load_48 (by decide) (fun c_ => absurd c_ (by decide)) (fun _ => ?_)
    refine lv_aload_n hx hb dX6_load_51 rfl (lv_at hl 1 rfl) ?_
    refine z_cvW [(m0, .inr (6, [.int (th), .ref (z0), .int (nI (sv)), .ref (sd0), .int (nI (ln)), .ref (tx0), .ref (as0), .int (nI (((mText tx ln rd).2.1))), .int (nI (((mText tx ln rd).2.2.1) + 1)), .int (((mText tx ln rd).2.2.2.1) + ((mText tx ln rd).2.2.2.2) (3 * ((mText tx ln rd).2.2.1))), .ref (rd0), .long (hh)])), (z0, .inl (ac 0, 162, .inl (z))), (sd0, .inl (ac 0, 972, .inl (sd))), (tx0, .inl (ac 0, 60, .inl (tx))), (as0, .inl (ac 0, 162, .inl (az))), (rd0, .inl (ac 0, 63, .inl (upd (upd ((mText tx ln rd).2.2.2.2) (3 * (((mText tx ln rd).2.2.1) + 1)) 0) (3 * (((mText tx ln rd).2.2.1) + 1) + 2) 0)))] (z_vrunW (rest := []) (own := RX6) (As := []) hx hb hml hown hts hl.1 hK hP hD [0, 1, 2, 3, 4, 5] rfl (by decide) rfl (metX6_endPortion l D ac _ m0 z0 sd0 tx0 as0 rd0 th sv ln ((mText tx ln rd).2.1) ((mText tx ln rd).2.2.1) ((mText tx ln rd).2.2.2.1) hh z sd tx az ((mText tx ln rd).2.2.2.2) (m_text_po tx rd hln h2)) gX6_load_X6_endPortion rfl 0 (by decide +kernel) ⟨rfl, rfl, Nat.le_of_ble_eq_true rfl, Nat.le_of_ble_eq_true rfl⟩ 0 6 rfl rfl rfl rfl rfl (Nat.le_of_ble_eq_true rfl) dX6_load_52 ⟨Nat.zero_le _, Nat.zero_le _⟩) hP hD hS hA [0, 1, 2, 3, 4, 5] [] [0, 1, 2, 3, 4, 5] rfl rfl (by decide) (by decide) (by decide) rfl (fun H locs hP hD hS => ?_)
    have hP : va_P D vwCl [(m0, .inr (6, [.int (th), .ref (z0), .int (nI (sv)), .ref (sd0), .int (nI (ln)), .ref (tx0), .ref (as0), .int (nI (se)), .int (nI (pe)), .int (te), .ref (rd0), .long (hh)])), (z0, .inl (ac 0, 162, .inl (z))), (sd0, .inl (ac 0, 972, .inl (sd))), (tx0, .inl (ac 0, 60, .inl (tx))), (as0, .inl (ac 0, 162, .inl (az))), (rd0, .inl (ac 0, 63, .inl (re)))] H := by rw [← hE1, ← hE2, ← hE3, ← hE4]; exact hP
    have hD : va_D A [(m0, .inr (6, [.int (th), .ref (z0), .int (nI (sv)), .ref (sd0), .int (nI (ln)), .ref (tx0), .ref (as0), .int (nI (se)), .int (nI (pe)), .int (te), .ref (rd0), .long (hh)])), (z0, .inl (ac 0, 162, .inl (z))), (sd0, .inl (ac 0, 972, .inl (sd))), (tx0, .inl (ac 0, 60, .inl (tx))), (as0, .inl (ac 0, 162, .inl (az))), (rd0, .inl (ac 0, 63, .inl (re)))] := by rw [← hE1, ← hE2, ← hE3, ← hE4]; exact hD
    refine lv_aload_n hx hb dX6_load_55 rfl (lv_at hl 1 rfl) ?_
    refine lv_iload_n hx hb dX6_load_56 rfl (lv_at hl 0 rfl) ?_
    refine lv_if_ne (tgt := 64) hx hb dX6_load_57 (by decide) (fun _ => ?_) (fun c_ => absurd c_ (by decide))
    refine lv_aload_n hx hb dX6_load_64 rfl (lv_at hl 1 rfl) ?_
    refine lv_iload_n hx hb dX6_load_65 rfl (lv_at hl 2 rfl) ?_
    refine z_ci (z_vrun (rest := [.ref (m0)]) (own := RX6) (As := [.int (nI (j1))]) hx hb hml hown hts hl.1 hK hP [0, 1] rfl (metX6_inJar l D ac m0 z0 sd0 tx0 as0 rd0 th sv ln se pe te hh z j1 (by omega)) gX6_load_X6_inJar rfl 1 (by decide +kernel) ⟨rfl, rfl, Nat.le_of_ble_eq_true rfl, Nat.le_of_ble_eq_true rfl⟩ 0 6 rfl rfl rfl rfl rfl (Nat.le_of_ble_eq_true rfl) dX6_load_66 ⟨Nat.zero_le _, Nat.zero_le _⟩) ?_
    refine lv_aload_n hx hb dX6_load_69 rfl (lv_at hl 1 rfl) ?_
    refine va_get (ci := 6) (v := .int (te)) (C := RX6) (T := TX6) (N := 12) hx hb hts (by decide +kernel) hown hK hP 0 rfl rfl 9 (by decide) (hts (.fieldLink RX6 120 "SettlingJarsModel" "told" "I") (by decide +kernel)) (fun _ h9 => h9) rfl dX6_load_70 ?_
    refine lv_iadd hx hb dX6_load_73 ?_
    refine lv_sipush (v := 5000) hx hb dX6_load_74 (by decide) ?_
    refine lv_icmp_le (tgt := 84) hx hb dX6_load_77 (by decide) (fun c_77 => ?_) (fun c_77 => absurd c_77 (fun q => q h3))
    refine lv_iconst (v := 0) hx hb dX6_load_84 (by decide) ?_
    refine va_put (ci := 6) (v := .int (0)) (ty := .int) (C := RX6) (T := TX6) (N := 12) hx hb hts (by decide +kernel) tyX6 tyX6_ok nmX6 hown hK hP hD hS 0 rfl rfl 0 (by decide) (hts (.fieldLink RX6 25 "SettlingJarsModel" "thrown" "I") (by decide +kernel)) (fun _ h9 => h9) rfl (by decide +kernel) rfl rfl (Nat.le_of_ble_eq_true rfl) dX6_load_85 (fun H locs hP hD hS => ?_)
    have hP : va_P D vwCl [(m0, .inr (6, [.int (0), .ref (z0), .int (nI (sv)), .ref (sd0), .int (nI (ln)), .ref (tx0), .ref (as0), .int (nI (se)), .int (nI (pe)), .int (te), .ref (rd0), .long (hh)])), (z0, .inl (ac 0, 162, .inl (z))), (sd0, .inl (ac 0, 972, .inl (sd))), (tx0, .inl (ac 0, 60, .inl (tx))), (as0, .inl (ac 0, 162, .inl (az))), (rd0, .inl (ac 0, 63, .inl (re)))] H := hP
    have hD : va_D A [(m0, .inr (6, [.int (0), .ref (z0), .int (nI (sv)), .ref (sd0), .int (nI (ln)), .ref (tx0), .ref (as0), .int (nI (se)), .int (nI (pe)), .int (te), .ref (rd0), .long (hh)])), (z0, .inl (ac 0, 162, .inl (z))), (sd0, .inl (ac 0, 972, .inl (sd))), (tx0, .inl (ac 0, 60, .inl (tx))), (as0, .inl (ac 0, 162, .inl (az))), (rd0, .inl (ac 0, 63, .inl (re)))] := hD
    refine lv_aload_n hx hb dX6_load_88 rfl (lv_at hl 1 rfl) ?_
    refine va_get (ci := 6) (v := .int (0)) (C := RX6) (T := TX6) (N := 12) hx hb hts (by decide +kernel) hown hK hP 0 rfl rfl 0 (by decide) (hts (.fieldLink RX6 25 "SettlingJarsModel" "thrown" "I") (by decide +kernel)) (fun _ h9 => h9) rfl dX6_load_89 ?_
    refine lv_if_le (tgt := 97) hx hb dX6_load_92 (by decide) (fun _ => ?_) (fun c_ => absurd (by decide) c_)
    refine lv_aload_n hx hb dX6_load_97 rfl (lv_at hl 1 rfl) ?_
    refine z_cvW [(m0, .inr (6, [.int (0), .ref (z0), .int (nI (mSv sv + 1)), .ref (sd0), .int (nI (ln)), .ref (tx0), .ref (as0), .int (nI (se)), .int (nI (pe)), .int (te), .ref (rd0), .long (hh)])), (z0, .inl (ac 0, 162, .inl (z))), (sd0, .inl (ac 0, 972, .inl (mSave sd z sv))), (tx0, .inl (ac 0, 60, .inl (tx))), (as0, .inl (ac 0, 162, .inl (az))), (rd0, .inl (ac 0, 63, .inl (re)))] (z_vrunW (rest := []) (own := RX6) (As := []) hx hb hml hown hts hl.1 hK hP hD [0, 1, 2, 3, 4, 5] rfl (by decide) rfl (metX6_save l D ac _ m0 z0 sd0 tx0 as0 rd0 0 sv ln se pe te hh z sd tx az re (by omega)) gX6_load_X6_save rfl 0 (by decide +kernel) ⟨rfl, rfl, Nat.le_of_ble_eq_true rfl, Nat.le_of_ble_eq_true rfl⟩ 0 6 rfl rfl rfl rfl rfl (Nat.le_of_ble_eq_true rfl) dX6_load_98 ⟨Nat.zero_le _, Nat.zero_le _⟩) hP hD hS hA [0, 1, 2, 3, 4, 5] [] [0, 1, 2, 3, 4, 5] rfl rfl (by decide) (by decide) (by decide) rfl (fun H locs hP hD hS => ?_)
    refine lv_iconst (v := 0) hx hb dX6_load_101 (by decide) ?_
    refine lv_istore_n (lv' := [(3, .int (0)), (2, .int (1)), (0, .ref (m0)), (1, .int (nI (j1)))]) hx hb dX6_load_102 rfl hl (by decide) rfl (fun ls hl => ?_)
    have hL_103 : ∀ (n : Nat) (k : Nat), (k + n = pe) → ∀ (H : Heap) (locs : List Loc), va_P D vwCl [(m0, .inr (6, [.int (0), .ref (z0), .int (nI (mSv sv + 1)), .ref (sd0), .int (nI (ln)), .ref (tx0), .ref (as0), .int (nI (se)), .int (nI (pe)), .int (te), .ref (rd0), .long (hh)])), (z0, .inl (ac 0, 162, .inl (mLoad z re j1 k))), (sd0, .inl (ac 0, 972, .inl (mSave sd z sv))), (tx0, .inl (ac 0, 60, .inl (tx))), (as0, .inl (ac 0, 162, .inl (az))), (rd0, .inl (ac 0, 63, .inl (re)))] H → va_D A [(m0, .inr (6, [.int (0), .ref (z0), .int (nI (mSv sv + 1)), .ref (sd0), .int (nI (ln)), .ref (tx0), .ref (as0), .int (nI (se)), .int (nI (pe)), .int (te), .ref (rd0), .long (hh)])), (z0, .inl (ac 0, 162, .inl (mLoad z re j1 k))), (sd0, .inl (ac 0, 972, .inl (mSave sd z sv))), (tx0, .inl (ac 0, 60, .inl (tx))), (as0, .inl (ac 0, 162, .inl (az))), (rd0, .inl (ac 0, 63, .inl (re)))] → va_S A s.heap H locs → ∀ (ls : Array Slot), lv_has ls 4 [(3, .int (nI (k))), (2, .int (1)), (0, .ref (m0)), (1, .int (nI (j1)))] → W p l e ({ frames := 4, cells := 0, slots := 0, locals := 87 } : Room) s m args below meth c H locs 0 0 (MQ below (zQi D ac [(m0, .inr (6, [.int (th), .ref (z0), .int (nI (sv)), .ref (sd0), .int (nI (ln)), .ref (tx0), .ref (as0), .int (nI (stp)), .int (nI (po)), .int (tl), .ref (rd0), .long (hh)])), (z0, .inl (ac 0, 162, .inl (z))), (sd0, .inl (ac 0, 972, .inl (sd))), (tx0, .inl (ac 0, 60, .inl (tx))), (as0, .inl (ac 0, 162, .inl (az))), (rd0, .inl (ac 0, 63, .inl (rd)))] [(m0, .inr (6, [.int (0), .ref (z0), .int (nI (mSv sv + 1)), .ref (sd0), .int (0), .ref (tx0), .ref (as0), .int (nI (se)), .int (nI (pe)), .int (te), .ref (rd0), .long (hh)])), (z0, .inl (ac 0, 162, .inl (mLoad z re j1 pe))), (sd0, .inl (ac 0, 972, .inl (mSave sd z sv))), (tx0, .inl (ac 0, 60, .inl (tx))), (as0, .inl (ac 0, 162, .inl (az))), (rd0, .inl (ac 0, 63, .inl (re)))] sz (qAll (qV (mLoad z re j1 pe) j1))) args s 0 0 A) (F0 m 103 ls []) := by
      intro n
      induction n with
      | zero =>
        intro k hk H locs hP hD hS ls hl
        have e_k : pe = k := by omega
        subst e_k
        refine lv_iload_n hx hb dX6_load_103 rfl (lv_at hl 0 rfl) ?_
        refine lv_aload_n hx hb dX6_load_104 rfl (lv_at hl 2 rfl) ?_
        refine va_get (ci := 6) (v := .int (nI (pe))) (C := RX6) (T := TX6) (N := 12) hx hb hts (by decide +kernel) hown hK hP 0 rfl rfl 8 (by decide) (hts (.fieldLink RX6 123 "SettlingJarsModel" "portions" "I") (by decide +kernel)) (fun _ h9 => h9) rfl dX6_load_105 ?_
        refine z_icmp_ge (tgt := 150) hx hb (pe) (pe) dX6_load_108 (by decide) (by omega) (by omega) rfl rfl (fun c_108 => ?_) (fun c_108 => absurd c_108 (by omega))
        refine lv_aload_n hx hb dX6_load_150 rfl (lv_at hl 2 rfl) ?_
        refine lv_iconst (v := 0) hx hb dX6_load_151 (by decide) ?_
        refine va_put (ci := 6) (v := .int (0)) (ty := .int) (C := RX6) (T := TX6) (N := 12) hx hb hts (by decide +kernel) tyX6 tyX6_ok nmX6 hown hK hP hD hS 0 rfl rfl 4 (by decide) (hts (.fieldLink RX6 114 "SettlingJarsModel" "length" "I") (by decide +kernel)) (fun _ h9 => h9) rfl (by decide +kernel) rfl rfl (Nat.le_of_ble_eq_true rfl) dX6_load_152 (fun H locs hP hD hS => ?_)
        have hP : va_P D vwCl [(m0, .inr (6, [.int (0), .ref (z0), .int (nI (mSv sv + 1)), .ref (sd0), .int (0), .ref (tx0), .ref (as0), .int (nI (se)), .int (nI (pe)), .int (te), .ref (rd0), .long (hh)])), (z0, .inl (ac 0, 162, .inl (mLoad z re j1 pe))), (sd0, .inl (ac 0, 972, .inl (mSave sd z sv))), (tx0, .inl (ac 0, 60, .inl (tx))), (as0, .inl (ac 0, 162, .inl (az))), (rd0, .inl (ac 0, 63, .inl (re)))] H := hP
        have hD : va_D A [(m0, .inr (6, [.int (0), .ref (z0), .int (nI (mSv sv + 1)), .ref (sd0), .int (0), .ref (tx0), .ref (as0), .int (nI (se)), .int (nI (pe)), .int (te), .ref (rd0), .long (hh)])), (z0, .inl (ac 0, 162, .inl (mLoad z re j1 pe))), (sd0, .inl (ac 0, 972, .inl (mSave sd z sv))), (tx0, .inl (ac 0, 60, .inl (tx))), (as0, .inl (ac 0, 162, .inl (az))), (rd0, .inl (ac 0, 63, .inl (re)))] := hD
        refine lv_aload_n hx hb dX6_load_155 rfl (lv_at hl 2 rfl) ?_
        refine lv_iload_n hx hb dX6_load_156 rfl (lv_at hl 3 rfl) ?_
        refine z_ci (z_vrun (rest := []) (own := RX6) (As := [.int (nI (j1))]) hx hb hml hown hts hl.1 hK hP [0, 1] rfl (metX6_inJar l D ac m0 z0 sd0 tx0 as0 rd0 0 (mSv sv + 1) 0 se pe te hh (mLoad z re j1 pe) j1 (by omega)) gX6_load_X6_inJar rfl 1 (by decide +kernel) ⟨rfl, rfl, Nat.le_of_ble_eq_true rfl, Nat.le_of_ble_eq_true rfl⟩ 0 6 rfl rfl rfl rfl rfl (Nat.le_of_ble_eq_true rfl) dX6_load_157 ⟨Nat.zero_le _, Nat.zero_le _⟩) ?_
        exact z_iretW hx hb hr hlocks hK hP hD hS hAe (rfl) dX6_load_160
      | succ n ih =>
        intro k hk H locs hP hD hS ls hl
        refine lv_iload_n hx hb dX6_load_103 rfl (lv_at hl 0 rfl) ?_
        refine lv_aload_n hx hb dX6_load_104 rfl (lv_at hl 2 rfl) ?_
        refine va_get (ci := 6) (v := .int (nI (pe))) (C := RX6) (T := TX6) (N := 12) hx hb hts (by decide +kernel) hown hK hP 0 rfl rfl 8 (by decide) (hts (.fieldLink RX6 123 "SettlingJarsModel" "portions" "I") (by decide +kernel)) (fun _ h9 => h9) rfl dX6_load_105 ?_
        refine z_icmp_ge (tgt := 150) hx hb (k) (pe) dX6_load_108 (by decide) (by omega) (by omega) rfl rfl (fun c_108 => absurd c_108 (by omega)) (fun c_108 => ?_)
        refine lv_aload_n hx hb dX6_load_111 rfl (lv_at hl 2 rfl) ?_
        refine lv_iload_n hx hb dX6_load_112 rfl (lv_at hl 3 rfl) ?_
        refine lv_aload_n hx hb dX6_load_113 rfl (lv_at hl 2 rfl) ?_
        refine va_get (ci := 6) (v := .ref (rd0)) (C := RX6) (T := TX6) (N := 12) hx hb hts (by decide +kernel) hown hK hP 0 rfl rfl 10 (by decide) (hts (.fieldLink RX6 22 "SettlingJarsModel" "read" "[I") (by decide +kernel)) (fun _ h9 => h9) rfl dX6_load_114 ?_
        refine lv_iconst (v := 3) hx hb dX6_load_117 (by decide) ?_
        refine lv_iload_n hx hb dX6_load_118 rfl (lv_at hl 0 rfl) ?_
        refine lv_imul hx hb dX6_load_119 ?_
        refine z_top (y := nI ((3) * (k))) (pk_mul (3) (k)) ?_
        refine lv_iconst (v := 2) hx hb dX6_load_120 (by decide) ?_
        refine lv_iadd hx hb dX6_load_121 ?_
        refine z_top (y := nI (((3) * (k)) + (2))) (nI_add ((3) * (k)) (2)) ?_
        refine z_iald hx hb hK hP 5 rfl (3 * k + 2) (congrArg nI (by omega)) (by omega) (by decide) dX6_load_122 ?_
        refine z_top (y := nI ((re (3 * k + 2)).toNatClampNeg)) ((hrd k (by omega)).1) ?_
        refine lv_aload_n hx hb dX6_load_123 rfl (lv_at hl 2 rfl) ?_
        refine va_get (ci := 6) (v := .ref (rd0)) (C := RX6) (T := TX6) (N := 12) hx hb hts (by decide +kernel) hown hK hP 0 rfl rfl 10 (by decide) (hts (.fieldLink RX6 22 "SettlingJarsModel" "read" "[I") (by decide +kernel)) (fun _ h9 => h9) rfl dX6_load_124 ?_
        refine lv_iconst (v := 3) hx hb dX6_load_127 (by decide) ?_
        refine lv_iload_n hx hb dX6_load_128 rfl (lv_at hl 0 rfl) ?_
        refine lv_imul hx hb dX6_load_129 ?_
        refine z_top (y := nI ((3) * (k))) (pk_mul (3) (k)) ?_
        refine lv_iconst (v := 1) hx hb dX6_load_130 (by decide) ?_
        refine lv_iadd hx hb dX6_load_131 ?_
        refine z_top (y := nI (((3) * (k)) + (1))) (nI_add ((3) * (k)) (1)) ?_
        refine z_iald hx hb hK hP 5 rfl (3 * k + 1) (congrArg nI (by omega)) (by omega) (by decide) dX6_load_132 ?_
        refine z_top (y := nI ((re (3 * k + 1)).toNatClampNeg)) ((hrd k (by omega)).2.2.1) ?_
        refine lv_aload_n hx hb dX6_load_133 rfl (lv_at hl 2 rfl) ?_
        refine va_get (ci := 6) (v := .ref (rd0)) (C := RX6) (T := TX6) (N := 12) hx hb hts (by decide +kernel) hown hK hP 0 rfl rfl 10 (by decide) (hts (.fieldLink RX6 22 "SettlingJarsModel" "read" "[I") (by decide +kernel)) (fun _ h9 => h9) rfl dX6_load_134 ?_
        refine lv_iconst (v := 3) hx hb dX6_load_137 (by decide) ?_
        refine lv_iload_n hx hb dX6_load_138 rfl (lv_at hl 0 rfl) ?_
        refine lv_imul hx hb dX6_load_139 ?_
        refine z_top (y := nI ((3) * (k))) (pk_mul (3) (k)) ?_
        refine z_iald hx hb hK hP 5 rfl (3 * k) (congrArg nI (by omega)) (by omega) (by decide) dX6_load_140 ?_
        refine z_cvW [(m0, .inr (6, [.int (0), .ref (z0), .int (nI ((mSv sv + 1))), .ref (sd0), .int (nI (ln)), .ref (tx0), .ref (as0), .int (nI (se)), .int (nI (pe)), .int (te), .ref (rd0), .long (hh)])), (z0, .inl (ac 0, 162, .inl (mBring (mLoad z re j1 k) j1 ((re (3 * k + 2)).toNatClampNeg) ((re (3 * k + 1)).toNatClampNeg) (re (3 * k))))), (sd0, .inl (ac 0, 972, .inl ((mSave sd z sv)))), (tx0, .inl (ac 0, 60, .inl (tx))), (as0, .inl (ac 0, 162, .inl (az))), (rd0, .inl (ac 0, 63, .inl (re)))] (z_vrunW (rest := []) (own := RX6) (As := [.int (nI (j1)), .int (nI ((re (3 * k + 2)).toNatClampNeg)), .int (nI ((re (3 * k + 1)).toNatClampNeg)), .int (re (3 * k))]) hx hb hml hown hts hl.1 hK hP hD [0, 1, 2, 3, 4, 5] rfl (by decide) rfl (metX6_bring l D ac _ m0 z0 sd0 tx0 as0 rd0 0 (mSv sv + 1) ln se pe te hh (mLoad z re j1 k) (mSave sd z sv) tx az re j1 ((re (3 * k + 2)).toNatClampNeg) ((re (3 * k + 1)).toNatClampNeg) (re (3 * k)) (by omega) ((hrd k (by omega)).2.1) ((hrd k (by omega)).2.2.2)) gX6_load_X6_bring rfl 4 (by decide +kernel) ⟨rfl, rfl, Nat.le_of_ble_eq_true rfl, Nat.le_of_ble_eq_true rfl⟩ 0 6 rfl rfl rfl rfl rfl (Nat.le_of_ble_eq_true rfl) dX6_load_141 ⟨Nat.zero_le _, Nat.zero_le _⟩) hP hD hS hA [0, 1, 2, 3, 4, 5] [] [0, 1, 2, 3, 4, 5] rfl rfl (by decide) (by decide) (by decide) rfl (fun H locs hP hD hS => ?_)
        refine lv_iinc (v := nI ((k) + 1)) (lv' := [(3, .int (nI ((k) + 1))), (2, .int (1)), (0, .ref (m0)), (1, .int (nI (j1)))]) hx hb dX6_load_144 hl (k := 0) rfl (show nI (k) + Int32.ofInt 1 = _ from nI_add (k) 1) (by decide) rfl (fun ls hl => ?_)
        refine lv_goto (tgt := 103) hx hb dX6_load_147 (by decide) ?_
        exact ih (k + 1) (by omega) _ _ hP hD hS ls (lv_sub hl [0, 1, 2, 3] rfl)
    exact hL_103 (pe) (0) (by omega) _ _ hP hD hS ls (lv_sub hl [0, 1, 2, 3] rfl)
  · refine lv_aload_n hx hb dX6_load_33 rfl (lv_at hl 0 rfl) ?_
    refine va_get (ci := 6) (v := .int (nI ((mText tx ln rd).2.1))) (C := RX6) (T := TX6) (N := 12) hx hb hts (by decide +kernel) hown hK hP 0 rfl rfl 7 (by decide) (hts (.fieldLink RX6 117 "SettlingJarsModel" "step" "I") (by decide +kernel)) (fun _ h9 => h9) rfl dX6_load_34 ?_
    refine lv_iconst (v := 4) hx hb dX6_load_37 (by decide) ?_
    refine z_icmp_ne (tgt := 45) hx hb ((mText tx ln rd).2.1) (4) dX6_load_38 (by decide) (by omega) (by omega) rfl rfl (fun c_38 => absurd c_38 (fun q => q (h2.2.elim (fun w => absurd w c_30) id))) (fun c_38 => ?_)
    refine lv_iconst (v := 1) hx hb dX6_load_41 (by decide) ?_
    refine lv_goto (tgt := 46) hx hb dX6_load_42 (by decide) ?_
    refine lv_istore_n (lv' := [(2, .int (1)), (0, .ref (m0)), (1, .int (nI (j1)))]) hx hb dX6_load_46 rfl hl (by decide) rfl (fun ls hl => ?_)
    refine lv_iload_n hx hb dX6_load_47 rfl (lv_at hl 0 rfl) ?_
    refine lv_if_eq (tgt := 55) hx hb dX6_load_48 (by decide) (fun c_ => absurd c_ (by decide)) (fun _ => ?_)
    refine lv_aload_n hx hb dX6_load_51 rfl (lv_at hl 1 rfl) ?_
    refine z_cvW [(m0, .inr (6, [.int (th), .ref (z0), .int (nI (sv)), .ref (sd0), .int (nI (ln)), .ref (tx0), .ref (as0), .int (nI (((mText tx ln rd).2.1))), .int (nI (((mText tx ln rd).2.2.1) + 1)), .int (((mText tx ln rd).2.2.2.1) + ((mText tx ln rd).2.2.2.2) (3 * ((mText tx ln rd).2.2.1))), .ref (rd0), .long (hh)])), (z0, .inl (ac 0, 162, .inl (z))), (sd0, .inl (ac 0, 972, .inl (sd))), (tx0, .inl (ac 0, 60, .inl (tx))), (as0, .inl (ac 0, 162, .inl (az))), (rd0, .inl (ac 0, 63, .inl (upd (upd ((mText tx ln rd).2.2.2.2) (3 * (((mText tx ln rd).2.2.1) + 1)) 0) (3 * (((mText tx ln rd).2.2.1) + 1) + 2) 0)))] (z_vrunW (rest := []) (own := RX6) (As := []) hx hb hml hown hts hl.1 hK hP hD [0, 1, 2, 3, 4, 5] rfl (by decide) rfl (metX6_endPortion l D ac _ m0 z0 sd0 tx0 as0 rd0 th sv ln ((mText tx ln rd).2.1) ((mText tx ln rd).2.2.1) ((mText tx ln rd).2.2.2.1) hh z sd tx az ((mText tx ln rd).2.2.2.2) (m_text_po tx rd hln h2)) gX6_load_X6_endPortion rfl 0 (by decide +kernel) ⟨rfl, rfl, Nat.le_of_ble_eq_true rfl, Nat.le_of_ble_eq_true rfl⟩ 0 6 rfl rfl rfl rfl rfl (Nat.le_of_ble_eq_true rfl) dX6_load_52 ⟨Nat.zero_le _, Nat.zero_le _⟩) hP hD hS hA [0, 1, 2, 3, 4, 5] [] [0, 1, 2, 3, 4, 5] rfl rfl (by decide) (by decide) (by decide) rfl (fun H locs hP hD hS => ?_)
    have hP : va_P D vwCl [(m0, .inr (6, [.int (th), .ref (z0), .int (nI (sv)), .ref (sd0), .int (nI (ln)), .ref (tx0), .ref (as0), .int (nI (se)), .int (nI (pe)), .int (te), .ref (rd0), .long (hh)])), (z0, .inl (ac 0, 162, .inl (z))), (sd0, .inl (ac 0, 972, .inl (sd))), (tx0, .inl (ac 0, 60, .inl (tx))), (as0, .inl (ac 0, 162, .inl (az))), (rd0, .inl (ac 0, 63, .inl (re)))] H := by rw [← hE1, ← hE2, ← hE3, ← hE4]; exact hP
    have hD : va_D A [(m0, .inr (6, [.int (th), .ref (z0), .int (nI (sv)), .ref (sd0), .int (nI (ln)), .ref (tx0), .ref (as0), .int (nI (se)), .int (nI (pe)), .int (te), .ref (rd0), .long (hh)])), (z0, .inl (ac 0, 162, .inl (z))), (sd0, .inl (ac 0, 972, .inl (sd))), (tx0, .inl (ac 0, 60, .inl (tx))), (as0, .inl (ac 0, 162, .inl (az))), (rd0, .inl (ac 0, 63, .inl (re)))] := by rw [← hE1, ← hE2, ← hE3, ← hE4]; exact hD
    refine lv_aload_n hx hb dX6_load_55 rfl (lv_at hl 1 rfl) ?_
    refine lv_iload_n hx hb dX6_load_56 rfl (lv_at hl 0 rfl) ?_
    refine lv_if_ne (tgt := 64) hx hb dX6_load_57 (by decide) (fun _ => ?_) (fun c_ => absurd c_ (by decide))
    refine lv_aload_n hx hb dX6_load_64 rfl (lv_at hl 1 rfl) ?_
    refine lv_iload_n hx hb dX6_load_65 rfl (lv_at hl 2 rfl) ?_
    refine z_ci (z_vrun (rest := [.ref (m0)]) (own := RX6) (As := [.int (nI (j1))]) hx hb hml hown hts hl.1 hK hP [0, 1] rfl (metX6_inJar l D ac m0 z0 sd0 tx0 as0 rd0 th sv ln se pe te hh z j1 (by omega)) gX6_load_X6_inJar rfl 1 (by decide +kernel) ⟨rfl, rfl, Nat.le_of_ble_eq_true rfl, Nat.le_of_ble_eq_true rfl⟩ 0 6 rfl rfl rfl rfl rfl (Nat.le_of_ble_eq_true rfl) dX6_load_66 ⟨Nat.zero_le _, Nat.zero_le _⟩) ?_
    refine lv_aload_n hx hb dX6_load_69 rfl (lv_at hl 1 rfl) ?_
    refine va_get (ci := 6) (v := .int (te)) (C := RX6) (T := TX6) (N := 12) hx hb hts (by decide +kernel) hown hK hP 0 rfl rfl 9 (by decide) (hts (.fieldLink RX6 120 "SettlingJarsModel" "told" "I") (by decide +kernel)) (fun _ h9 => h9) rfl dX6_load_70 ?_
    refine lv_iadd hx hb dX6_load_73 ?_
    refine lv_sipush (v := 5000) hx hb dX6_load_74 (by decide) ?_
    refine lv_icmp_le (tgt := 84) hx hb dX6_load_77 (by decide) (fun c_77 => ?_) (fun c_77 => absurd c_77 (fun q => q h3))
    refine lv_iconst (v := 0) hx hb dX6_load_84 (by decide) ?_
    refine va_put (ci := 6) (v := .int (0)) (ty := .int) (C := RX6) (T := TX6) (N := 12) hx hb hts (by decide +kernel) tyX6 tyX6_ok nmX6 hown hK hP hD hS 0 rfl rfl 0 (by decide) (hts (.fieldLink RX6 25 "SettlingJarsModel" "thrown" "I") (by decide +kernel)) (fun _ h9 => h9) rfl (by decide +kernel) rfl rfl (Nat.le_of_ble_eq_true rfl) dX6_load_85 (fun H locs hP hD hS => ?_)
    have hP : va_P D vwCl [(m0, .inr (6, [.int (0), .ref (z0), .int (nI (sv)), .ref (sd0), .int (nI (ln)), .ref (tx0), .ref (as0), .int (nI (se)), .int (nI (pe)), .int (te), .ref (rd0), .long (hh)])), (z0, .inl (ac 0, 162, .inl (z))), (sd0, .inl (ac 0, 972, .inl (sd))), (tx0, .inl (ac 0, 60, .inl (tx))), (as0, .inl (ac 0, 162, .inl (az))), (rd0, .inl (ac 0, 63, .inl (re)))] H := hP
    have hD : va_D A [(m0, .inr (6, [.int (0), .ref (z0), .int (nI (sv)), .ref (sd0), .int (nI (ln)), .ref (tx0), .ref (as0), .int (nI (se)), .int (nI (pe)), .int (te), .ref (rd0), .long (hh)])), (z0, .inl (ac 0, 162, .inl (z))), (sd0, .inl (ac 0, 972, .inl (sd))), (tx0, .inl (ac 0, 60, .inl (tx))), (as0, .inl (ac 0, 162, .inl (az))), (rd0, .inl (ac 0, 63, .inl (re)))] := hD
    refine lv_aload_n hx hb dX6_load_88 rfl (lv_at hl 1 rfl) ?_
    refine va_get (ci := 6) (v := .int (0)) (C := RX6) (T := TX6) (N := 12) hx hb hts (by decide +kernel) hown hK hP 0 rfl rfl 0 (by decide) (hts (.fieldLink RX6 25 "SettlingJarsModel" "thrown" "I") (by decide +kernel)) (fun _ h9 => h9) rfl dX6_load_89 ?_
    refine lv_if_le (tgt := 97) hx hb dX6_load_92 (by decide) (fun _ => ?_) (fun c_ => absurd (by decide) c_)
    refine lv_aload_n hx hb dX6_load_97 rfl (lv_at hl 1 rfl) ?_
    refine z_cvW [(m0, .inr (6, [.int (0), .ref (z0), .int (nI (mSv sv + 1)), .ref (sd0), .int (nI (ln)), .ref (tx0), .ref (as0), .int (nI (se)), .int (nI (pe)), .int (te), .ref (rd0), .long (hh)])), (z0, .inl (ac 0, 162, .inl (z))), (sd0, .inl (ac 0, 972, .inl (mSave sd z sv))), (tx0, .inl (ac 0, 60, .inl (tx))), (as0, .inl (ac 0, 162, .inl (az))), (rd0, .inl (ac 0, 63, .inl (re)))] (z_vrunW (rest := []) (own := RX6) (As := []) hx hb hml hown hts hl.1 hK hP hD [0, 1, 2, 3, 4, 5] rfl (by decide) rfl (metX6_save l D ac _ m0 z0 sd0 tx0 as0 rd0 0 sv ln se pe te hh z sd tx az re (by omega)) gX6_load_X6_save rfl 0 (by decide +kernel) ⟨rfl, rfl, Nat.le_of_ble_eq_true rfl, Nat.le_of_ble_eq_true rfl⟩ 0 6 rfl rfl rfl rfl rfl (Nat.le_of_ble_eq_true rfl) dX6_load_98 ⟨Nat.zero_le _, Nat.zero_le _⟩) hP hD hS hA [0, 1, 2, 3, 4, 5] [] [0, 1, 2, 3, 4, 5] rfl rfl (by decide) (by decide) (by decide) rfl (fun H locs hP hD hS => ?_)
    refine lv_iconst (v := 0) hx hb dX6_load_101 (by decide) ?_
    refine lv_istore_n (lv' := [(3, .int (0)), (2, .int (1)), (0, .ref (m0)), (1, .int (nI (j1)))]) hx hb dX6_load_102 rfl hl (by decide) rfl (fun ls hl => ?_)
    have hL_103 : ∀ (n : Nat) (k : Nat), (k + n = pe) → ∀ (H : Heap) (locs : List Loc), va_P D vwCl [(m0, .inr (6, [.int (0), .ref (z0), .int (nI (mSv sv + 1)), .ref (sd0), .int (nI (ln)), .ref (tx0), .ref (as0), .int (nI (se)), .int (nI (pe)), .int (te), .ref (rd0), .long (hh)])), (z0, .inl (ac 0, 162, .inl (mLoad z re j1 k))), (sd0, .inl (ac 0, 972, .inl (mSave sd z sv))), (tx0, .inl (ac 0, 60, .inl (tx))), (as0, .inl (ac 0, 162, .inl (az))), (rd0, .inl (ac 0, 63, .inl (re)))] H → va_D A [(m0, .inr (6, [.int (0), .ref (z0), .int (nI (mSv sv + 1)), .ref (sd0), .int (nI (ln)), .ref (tx0), .ref (as0), .int (nI (se)), .int (nI (pe)), .int (te), .ref (rd0), .long (hh)])), (z0, .inl (ac 0, 162, .inl (mLoad z re j1 k))), (sd0, .inl (ac 0, 972, .inl (mSave sd z sv))), (tx0, .inl (ac 0, 60, .inl (tx))), (as0, .inl (ac 0, 162, .inl (az))), (rd0, .inl (ac 0, 63, .inl (re)))] → va_S A s.heap H locs → ∀ (ls : Array Slot), lv_has ls 4 [(3, .int (nI (k))), (2, .int (1)), (0, .ref (m0)), (1, .int (nI (j1)))] → W p l e ({ frames := 4, cells := 0, slots := 0, locals := 87 } : Room) s m args below meth c H locs 0 0 (MQ below (zQi D ac [(m0, .inr (6, [.int (th), .ref (z0), .int (nI (sv)), .ref (sd0), .int (nI (ln)), .ref (tx0), .ref (as0), .int (nI (stp)), .int (nI (po)), .int (tl), .ref (rd0), .long (hh)])), (z0, .inl (ac 0, 162, .inl (z))), (sd0, .inl (ac 0, 972, .inl (sd))), (tx0, .inl (ac 0, 60, .inl (tx))), (as0, .inl (ac 0, 162, .inl (az))), (rd0, .inl (ac 0, 63, .inl (rd)))] [(m0, .inr (6, [.int (0), .ref (z0), .int (nI (mSv sv + 1)), .ref (sd0), .int (0), .ref (tx0), .ref (as0), .int (nI (se)), .int (nI (pe)), .int (te), .ref (rd0), .long (hh)])), (z0, .inl (ac 0, 162, .inl (mLoad z re j1 pe))), (sd0, .inl (ac 0, 972, .inl (mSave sd z sv))), (tx0, .inl (ac 0, 60, .inl (tx))), (as0, .inl (ac 0, 162, .inl (az))), (rd0, .inl (ac 0, 63, .inl (re)))] sz (qAll (qV (mLoad z re j1 pe) j1))) args s 0 0 A) (F0 m 103 ls []) := by
      intro n
      induction n with
      | zero =>
        intro k hk H locs hP hD hS ls hl
        have e_k : pe = k := by omega
        subst e_k
        refine lv_iload_n hx hb dX6_load_103 rfl (lv_at hl 0 rfl) ?_
        refine lv_aload_n hx hb dX6_load_104 rfl (lv_at hl 2 rfl) ?_
        refine va_get (ci := 6) (v := .int (nI (pe))) (C := RX6) (T := TX6) (N := 12) hx hb hts (by decide +kernel) hown hK hP 0 rfl rfl 8 (by decide) (hts (.fieldLink RX6 123 "SettlingJarsModel" "portions" "I") (by decide +kernel)) (fun _ h9 => h9) rfl dX6_load_105 ?_
        refine z_icmp_ge (tgt := 150) hx hb (pe) (pe) dX6_load_108 (by decide) (by omega) (by omega) rfl rfl (fun c_108 => ?_) (fun c_108 => absurd c_108 (by omega))
        refine lv_aload_n hx hb dX6_load_150 rfl (lv_at hl 2 rfl) ?_
        refine lv_iconst (v := 0) hx hb dX6_load_151 (by decide) ?_
        refine va_put (ci := 6) (v := .int (0)) (ty := .int) (C := RX6) (T := TX6) (N := 12) hx hb hts (by decide +kernel) tyX6 tyX6_ok nmX6 hown hK hP hD hS 0 rfl rfl 4 (by decide) (hts (.fieldLink RX6 114 "SettlingJarsModel" "length" "I") (by decide +kernel)) (fun _ h9 => h9) rfl (by decide +kernel) rfl rfl (Nat.le_of_ble_eq_true rfl) dX6_load_152 (fun H locs hP hD hS => ?_)
        have hP : va_P D vwCl [(m0, .inr (6, [.int (0), .ref (z0), .int (nI (mSv sv + 1)), .ref (sd0), .int (0), .ref (tx0), .ref (as0), .int (nI (se)), .int (nI (pe)), .int (te), .ref (rd0), .long (hh)])), (z0, .inl (ac 0, 162, .inl (mLoad z re j1 pe))), (sd0, .inl (ac 0, 972, .inl (mSave sd z sv))), (tx0, .inl (ac 0, 60, .inl (tx))), (as0, .inl (ac 0, 162, .inl (az))), (rd0, .inl (ac 0, 63, .inl (re)))] H := hP
        have hD : va_D A [(m0, .inr (6, [.int (0), .ref (z0), .int (nI (mSv sv + 1)), .ref (sd0), .int (0), .ref (tx0), .ref (as0), .int (nI (se)), .int (nI (pe)), .int (te), .ref (rd0), .long (hh)])), (z0, .inl (ac 0, 162, .inl (mLoad z re j1 pe))), (sd0, .inl (ac 0, 972, .inl (mSave sd z sv))), (tx0, .inl (ac 0, 60, .inl (tx))), (as0, .inl (ac 0, 162, .inl (az))), (rd0, .inl (ac 0, 63, .inl (re)))] := hD
        refine lv_aload_n hx hb dX6_load_155 rfl (lv_at hl 2 rfl) ?_
        refine lv_iload_n hx hb dX6_load_156 rfl (lv_at hl 3 rfl) ?_
        refine z_ci (z_vrun (rest := []) (own := RX6) (As := [.int (nI (j1))]) hx hb hml hown hts hl.1 hK hP [0, 1] rfl (metX6_inJar l D ac m0 z0 sd0 tx0 as0 rd0 0 (mSv sv + 1) 0 se pe te hh (mLoad z re j1 pe) j1 (by omega)) gX6_load_X6_inJar rfl 1 (by decide +kernel) ⟨rfl, rfl, Nat.le_of_ble_eq_true rfl, Nat.le_of_ble_eq_true rfl⟩ 0 6 rfl rfl rfl rfl rfl (Nat.le_of_ble_eq_true rfl) dX6_load_157 ⟨Nat.zero_le _, Nat.zero_le _⟩) ?_
        exact z_iretW hx hb hr hlocks hK hP hD hS hAe (rfl) dX6_load_160
      | succ n ih =>
        intro k hk H locs hP hD hS ls hl
        refine lv_iload_n hx hb dX6_load_103 rfl (lv_at hl 0 rfl) ?_
        refine lv_aload_n hx hb dX6_load_104 rfl (lv_at hl 2 rfl) ?_
        refine va_get (ci := 6) (v := .int (nI (pe))) (C := RX6) (T := TX6) (N := 12) hx hb hts (by decide +kernel) hown hK hP 0 rfl rfl 8 (by decide) (hts (.fieldLink RX6 123 "SettlingJarsModel" "portions" "I") (by decide +kernel)) (fun _ h9 => h9) rfl dX6_load_105 ?_
        refine z_icmp_ge (tgt := 150) hx hb (k) (pe) dX6_load_108 (by decide) (by omega) (by omega) rfl rfl (fun c_108 => absurd c_108 (by omega)) (fun c_108 => ?_)
        refine lv_aload_n hx hb dX6_load_111 rfl (lv_at hl 2 rfl) ?_
        refine lv_iload_n hx hb dX6_load_112 rfl (lv_at hl 3 rfl) ?_
        refine lv_aload_n hx hb dX6_load_113 rfl (lv_at hl 2 rfl) ?_
        refine va_get (ci := 6) (v := .ref (rd0)) (C := RX6) (T := TX6) (N := 12) hx hb hts (by decide +kernel) hown hK hP 0 rfl rfl 10 (by decide) (hts (.fieldLink RX6 22 "SettlingJarsModel" "read" "[I") (by decide +kernel)) (fun _ h9 => h9) rfl dX6_load_114 ?_
        refine lv_iconst (v := 3) hx hb dX6_load_117 (by decide) ?_
        refine lv_iload_n hx hb dX6_load_118 rfl (lv_at hl 0 rfl) ?_
        refine lv_imul hx hb dX6_load_119 ?_
        refine z_top (y := nI ((3) * (k))) (pk_mul (3) (k)) ?_
        refine lv_iconst (v := 2) hx hb dX6_load_120 (by decide) ?_
        refine lv_iadd hx hb dX6_load_121 ?_
        refine z_top (y := nI (((3) * (k)) + (2))) (nI_add ((3) * (k)) (2)) ?_
        refine z_iald hx hb hK hP 5 rfl (3 * k + 2) (congrArg nI (by omega)) (by omega) (by decide) dX6_load_122 ?_
        refine z_top (y := nI ((re (3 * k + 2)).toNatClampNeg)) ((hrd k (by omega)).1) ?_
        refine lv_aload_n hx hb dX6_load_123 rfl (lv_at hl 2 rfl) ?_
        refine va_get (ci := 6) (v := .ref (rd0)) (C := RX6) (T := TX6) (N := 12) hx hb hts (by decide +kernel) hown hK hP 0 rfl rfl 10 (by decide) (hts (.fieldLink RX6 22 "SettlingJarsModel" "read" "[I") (by decide +kernel)) (fun _ h9 => h9) rfl dX6_load_124 ?_
        refine lv_iconst (v := 3) hx hb dX6_load_127 (by decide) ?_
        refine lv_iload_n hx hb dX6_load_128 rfl (lv_at hl 0 rfl) ?_
        refine lv_imul hx hb dX6_load_129 ?_
        refine z_top (y := nI ((3) * (k))) (pk_mul (3) (k)) ?_
        refine lv_iconst (v := 1) hx hb dX6_load_130 (by decide) ?_
        refine lv_iadd hx hb dX6_load_131 ?_
        refine z_top (y := nI (((3) * (k)) + (1))) (nI_add ((3) * (k)) (1)) ?_
        refine z_iald hx hb hK hP 5 rfl (3 * k + 1) (congrArg nI (by omega)) (by omega) (by decide) dX6_load_132 ?_
        refine z_top (y := nI ((re (3 * k + 1)).toNatClampNeg)) ((hrd k (by omega)).2.2.1) ?_
        refine lv_aload_n hx hb dX6_load_133 rfl (lv_at hl 2 rfl) ?_
        refine va_get (ci := 6) (v := .ref (rd0)) (C := RX6) (T := TX6) (N := 12) hx hb hts (by decide +kernel) hown hK hP 0 rfl rfl 10 (by decide) (hts (.fieldLink RX6 22 "SettlingJarsModel" "read" "[I") (by decide +kernel)) (fun _ h9 => h9) rfl dX6_load_134 ?_
        refine lv_iconst (v := 3) hx hb dX6_load_137 (by decide) ?_
        refine lv_iload_n hx hb dX6_load_138 rfl (lv_at hl 0 rfl) ?_
        refine lv_imul hx hb dX6_load_139 ?_
        refine z_top (y := nI ((3) * (k))) (pk_mul (3) (k)) ?_
        refine z_iald hx hb hK hP 5 rfl (3 * k) (congrArg nI (by omega)) (by omega) (by decide) dX6_load_140 ?_
        refine z_cvW [(m0, .inr (6, [.int (0), .ref (z0), .int (nI ((mSv sv + 1))), .ref (sd0), .int (nI (ln)), .ref (tx0), .ref (as0), .int (nI (se)), .int (nI (pe)), .int (te), .ref (rd0), .long (hh)])), (z0, .inl (ac 0, 162, .inl (mBring (mLoad z re j1 k) j1 ((re (3 * k + 2)).toNatClampNeg) ((re (3 * k + 1)).toNatClampNeg) (re (3 * k))))), (sd0, .inl (ac 0, 972, .inl ((mSave sd z sv)))), (tx0, .inl (ac 0, 60, .inl (tx))), (as0, .inl (ac 0, 162, .inl (az))), (rd0, .inl (ac 0, 63, .inl (re)))] (z_vrunW (rest := []) (own := RX6) (As := [.int (nI (j1)), .int (nI ((re (3 * k + 2)).toNatClampNeg)), .int (nI ((re (3 * k + 1)).toNatClampNeg)), .int (re (3 * k))]) hx hb hml hown hts hl.1 hK hP hD [0, 1, 2, 3, 4, 5] rfl (by decide) rfl (metX6_bring l D ac _ m0 z0 sd0 tx0 as0 rd0 0 (mSv sv + 1) ln se pe te hh (mLoad z re j1 k) (mSave sd z sv) tx az re j1 ((re (3 * k + 2)).toNatClampNeg) ((re (3 * k + 1)).toNatClampNeg) (re (3 * k)) (by omega) ((hrd k (by omega)).2.1) ((hrd k (by omega)).2.2.2)) gX6_load_X6_bring rfl 4 (by decide +kernel) ⟨rfl, rfl, Nat.le_of_ble_eq_true rfl, Nat.le_of_ble_eq_true rfl⟩ 0 6 rfl rfl rfl rfl rfl (Nat.le_of_ble_eq_true rfl) dX6_load_141 ⟨Nat.zero_le _, Nat.zero_le _⟩) hP hD hS hA [0, 1, 2, 3, 4, 5] [] [0, 1, 2, 3, 4, 5] rfl rfl (by decide) (by decide) (by decide) rfl (fun H locs hP hD hS => ?_)
        refine lv_iinc (v := nI ((k) + 1)) (lv' := [(3, .int (nI ((k) + 1))), (2, .int (1)), (0, .ref (m0)), (1, .int (nI (j1)))]) hx hb dX6_load_144 hl (k := 0) rfl (show nI (k) + Int32.ofInt 1 = _ from nI_add (k) 1) (by decide) rfl (fun ls hl => ?_)
        refine lv_goto (tgt := 103) hx hb dX6_load_147 (by decide) ?_
        exact ih (k + 1) (by omega) _ _ hP hD hS ls (lv_sub hl [0, 1, 2, 3] rfl)
    exact hL_103 (pe) (0) (by omega) _ _ hP hD hS ls (lv_sub hl [0, 1, 2, 3] rfl)

