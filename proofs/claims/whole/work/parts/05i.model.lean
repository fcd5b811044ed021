set_option maxRecDepth 100000 in
set_option maxHeartbeats 4000000 in
theorem metX6_decant_0 (l : Launch) (D : va_G) (ac : Nat → ClassId) (sz : Nat) (m0 : Nat) (z0 : Nat) (sd0 : Nat) (tx0 : Nat) (as0 : Nat) (rd0 : Nat) (th : Int32) (sv : Nat) (ln : Nat) (stp : Nat) (po : Nat) (tl : Int32) (hh : Int64) (z : Nat → Int32) (sd : Nat → Int32) (tx : Nat → Int32) (az : Nat → Int32) (rd : Nat → Int32) (j1 : Nat) (j2 : Nat) (t : Nat) (hj : j1 < 3) (hj2 : j2 < 3) (ht : t < 12) (h2 : ¬ j1 = j2) (h3 : qAll (qV z j2) + qTo (qV z j1) (t + 1) ≤ 5000) (hsv : sv ≤ 6) : Met l yX6_decant wsX6_decant ({ frames := 3, cells := 0, slots := 0, locals := 70 } : Room) (va_Pc [.ref (m0), .int (nI (j1)), .int (nI (j2)), .int (nI (t))] (zS D ac [(m0, .inr (6, [.int (th), .ref (z0), .int (nI (sv)), .ref (sd0), .int (nI (ln)), .ref (tx0), .ref (as0), .int (nI (stp)), .int (nI (po)), .int (tl), .ref (rd0), .long (hh)])), (z0, .inl (ac 0, 162, .inl (z))), (sd0, .inl (ac 0, 972, .inl (sd))), (tx0, .inl (ac 0, 60, .inl (tx))), (as0, .inl (ac 0, 162, .inl (az))), (rd0, .inl (ac 0, 63, .inl (rd)))] sz)) (zQi D ac [(m0, .inr (6, [.int (th), .ref (z0), .int (nI (sv)), .ref (sd0), .int (nI (ln)), .ref (tx0), .ref (as0), .int (nI (stp)), .int (nI (po)), .int (tl), .ref (rd0), .long (hh)])), (z0, .inl (ac 0, 162, .inl (z))), (sd0, .inl (ac 0, 972, .inl (sd))), (tx0, .inl (ac 0, 60, .inl (tx))), (as0, .inl (ac 0, 162, .inl (az))), (rd0, .inl (ac 0, 63, .inl (rd)))] [(m0, .inr (6, [.int (0), .ref (z0), .int (nI (mSv sv + 1)), .ref (sd0), .int (nI (ln)), .ref (tx0), .ref (as0), .int (nI (stp)), .int (nI (po)), .int (tl), .ref (rd0), .long (hh)])), (z0, .inl (ac 0, 162, .inl (mDec z j1 j2 (4 * (t + 1))))), (sd0, .inl (ac 0, 972, .inl (mSave sd z sv))), (tx0, .inl (ac 0, 60, .inl (tx))), (as0, .inl (ac 0, 162, .inl (az))), (rd0, .inl (ac 0, 63, .inl (rd)))] sz (qTo (qV z j1) (t + 1))) 0 0 (va_A [(m0, .inr (6, [.int (th), .ref (z0), .int (nI (sv)), .ref (sd0), .int (nI (ln)), .ref (tx0), .ref (as0), .int (nI (stp)), .int (nI (po)), .int (tl), .ref (rd0), .long (hh)])), (z0, .inl (ac 0, 162, .inl (z))), (sd0, .inl (ac 0, 972, .inl (sd))), (tx0, .inl (ac 0, 60, .inl (tx))), (as0, .inl (ac 0, 162, .inl (az))), (rd0, .inl (ac 0, 63, .inl (rd)))] sz) := by
  refine z_rw (cc := cX6_decant) (maxL := 7) (ret := (some .int)) (lv := [(0, .ref (m0)), (1, .int (nI (j1))), (2, .int (nI (j2))), (3, .int (nI (t)))]) (by decide) rfl (Nat.le_of_ble_eq_true rfl) rfl ?_
  intro p e s m args below meth c ls A hx hb hr hml hown hts hlocks hl hK hP hsz hAe hA hD hS
  refine lv_iload_n hx hb dX6_decant_0 rfl (lv_at hl 1 rfl) ?_
  refine z_ci (z_srun (rest := []) (own := RX6) (As := [.int (nI (j1))]) hx hb hml hown hts hl.1 hK hP [] rfl (metX6_isJar l D ac (nI (j1)) ) gX6_decant_X6_isJar rfl 1 (by decide +kernel) ⟨rfl, rfl, Nat.le_of_ble_eq_true rfl, Nat.le_of_ble_eq_true rfl⟩ rfl rfl (Nat.le_of_ble_eq_true rfl) dX6_decant_1 ⟨Nat.zero_le _, Nat.zero_le _⟩) ?_
  refine z_if_eq (C := 0 ≤ (nI (j1)) ∧ (nI (j1)) ≤ 2) (tgt := 25) hx hb dX6_decant_4 (by decide) (fun c_4 => absurd c_4 (fun q => q (z_in (n := 2) (by omega)))) (fun c_4 => ?_)
  refine lv_iload_n hx hb dX6_decant_7 rfl (lv_at hl 2 rfl) ?_
  refine z_ci (z_srun (rest := []) (own := RX6) (As := [.int (nI (j2))]) hx hb hml hown hts hl.1 hK hP [] rfl (metX6_isJar l D ac (nI (j2)) ) gX6_decant_X6_isJar rfl 1 (by decide +kernel) ⟨rfl, rfl, Nat.le_of_ble_eq_true rfl, Nat.le_of_ble_eq_true rfl⟩ rfl rfl (Nat.le_of_ble_eq_true rfl) dX6_decant_8 ⟨Nat.zero_le _, Nat.zero_le _⟩) ?_
  refine z_if_eq (C := 0 ≤ (nI (j2)) ∧ (nI (j2)) ≤ 2) (tgt := 25) hx hb dX6_decant_11 (by decide) (fun c_11 => absurd c_11 (fun q => q (z_in (n := 2) (by omega)))) (fun c_11 => ?_)
  refine lv_iload_n hx hb dX6_decant_14 rfl (lv_at hl 3 rfl) ?_
  refine z_ci (z_srun (rest := []) (own := RX6) (As := [.int (nI (t))]) hx hb hml hown hts hl.1 hK hP [] rfl (metX6_isSlice l D ac (nI (t)) ) gX6_decant_X6_isSlice rfl 1 (by decide +kernel) ⟨rfl, rfl, Nat.le_of_ble_eq_true rfl, Nat.le_of_ble_eq_true rfl⟩ rfl rfl (Nat.le_of_ble_eq_true rfl) dX6_decant_15 ⟨Nat.zero_le _, Nat.zero_le _⟩) ?_
  refine z_if_eq (C := 0 ≤ (nI (t)) ∧ (nI (t)) ≤ 11) (tgt := 25) hx hb dX6_decant_18 (by decide) (fun c_18 => absurd c_18 (fun q => q (z_in (n := 11) (by omega)))) (fun c_18 => ?_)
  refine lv_iconst (v := 1) hx hb dX6_decant_21 (by decide) ?_
  refine lv_goto (tgt := 26) hx hb dX6_decant_22 (by decide) ?_
  refine lv_istore (lv' := [(4, .int (1)), (0, .ref (m0)), (1, .int (nI (j1))), (2, .int (nI (j2))), (3, .int (nI (t)))]) hx hb dX6_decant_26 hl (by decide) rfl (fun ls hl => ?_)
  refine lv_iload hx hb dX6_decant_28 (lv_at hl 0 rfl) ?_
  refine lv_if_ne (tgt := 40) hx hb dX6_decant_30 (by decide) (fun _ => ?_) (fun c_ => absurd c_ (by decide))
  refine lv_aload_n hx hb dX6_decant_40 rfl (lv_at hl 1 rfl) ?_
  refine lv_iload_n hx hb dX6_decant_41 rfl (lv_at hl 2 rfl) ?_
  refine lv_iload_n hx hb dX6_decant_42 rfl (lv_at hl 3 rfl) ?_
  refine z_icmp_ne (tgt := 50) hx hb (j1) (j2) dX6_decant_43 (by decide) (by omega) (by omega) rfl rfl (fun c_43 => ?_) (fun c_43 => absurd c_43 (by omega))
  refine lv_aload_n hx hb dX6_decant_50 rfl (lv_at hl 1 rfl) ?_
  refine lv_iload_n hx hb dX6_decant_51 rfl (lv_at hl 3 rfl) ?_
  refine z_ci (z_vrun (rest := [.ref (m0)]) (own := RX6) (As := [.int (nI (j2))]) hx hb hml hown hts hl.1 hK hP [0, 1] rfl (metX6_inJar l D ac m0 z0 sd0 tx0 as0 rd0 th sv ln stp po tl hh z j2 (by omega)) gX6_decant_X6_inJar rfl 1 (by decide +kernel) ⟨rfl, rfl, Nat.le_of_ble_eq_true rfl, Nat.le_of_ble_eq_true rfl⟩ 0 6 rfl rfl rfl rfl rfl (Nat.le_of_ble_eq_true rfl) dX6_decant_52 ⟨Nat.zero_le _, Nat.zero_le _⟩) ?_
  refine lv_aload_n hx hb dX6_decant_55 rfl (lv_at hl 1 rfl) ?_
  refine lv_iload_n hx hb dX6_decant_56 rfl (lv_at hl 2 rfl) ?_
  refine lv_iload_n hx hb dX6_decant_57 rfl (lv_at hl 4 rfl) ?_
  refine z_ci (z_vrun (rest := [.int (qAll (qV z j2)), .ref (m0)]) (own := RX6) (As := [.int (nI (j1)), .int (nI (t))]) hx hb hml hown hts hl.1 hK hP [0, 1] rfl (metX6_upTo l D ac m0 z0 sd0 tx0 as0 rd0 th sv ln stp po tl hh z j1 t (by omega) (by omega)) gX6_decant_X6_upTo rfl 2 (by decide +kernel) ⟨rfl, rfl, Nat.le_of_ble_eq_true rfl, Nat.le_of_ble_eq_true rfl⟩ 0 6 rfl rfl rfl rfl rfl (Nat.le_of_ble_eq_true rfl) dX6_decant_58 ⟨Nat.zero_le _, Nat.zero_le _⟩) ?_
  refine lv_iadd hx hb dX6_decant_61 ?_
  refine lv_sipush (v := 5000) hx hb dX6_decant_62 (by decide) ?_
  refine lv_icmp_le (tgt := 72) hx hb dX6_decant_65 (by decide) (fun c_65 => ?_) (fun c_65 => absurd c_65 (fun q => q h3))
  refine lv_iconst (v := 0) hx hb dX6_decant_72 (by decide) ?_
  refine va_put (ci := 6) (v := .int (0)) (ty := .int) (C := RX6) (T := TX6) (N := 12) hx hb hts (by decide +kernel) tyX6 tyX6_ok nmX6 hown hK hP hD hS 0 rfl rfl 0 (by decide) (hts (.fieldLink RX6 25 "SettlingJarsModel" "thrown" "I") (by decide +kernel)) (fun _ h9 => h9) rfl (by decide +kernel) rfl rfl (Nat.le_of_ble_eq_true rfl) dX6_decant_73 (fun H locs hP hD hS => ?_)
  have hP : va_P D vwCl [(m0, .inr (6, [.int (0), .ref (z0), .int (nI (sv)), .ref (sd0), .int (nI (ln)), .ref (tx0), .ref (as0), .int (nI (stp)), .int (nI (po)), .int (tl), .ref (rd0), .long (hh)])), (z0, .inl (ac 0, 162, .inl (z))), (sd0, .inl (ac 0, 972, .inl (sd))), (tx0, .inl (ac 0, 60, .inl (tx))), (as0, .inl (ac 0, 162, .inl (az))), (rd0, .inl (ac 0, 63, .inl (rd)))] H := hP
  have hD : va_D A [(m0, .inr (6, [.int (0), .ref (z0), .int (nI (sv)), .ref (sd0), .int (nI (ln)), .ref (tx0), .ref (as0), .int (nI (stp)), .int (nI (po)), .int (tl), .ref (rd0), .long (hh)])), (z0, .inl (ac 0, 162, .inl (z))), (sd0, .inl (ac 0, 972, .inl (sd))), (tx0, .inl (ac 0, 60, .inl (tx))), (as0, .inl (ac 0, 162, .inl (az))), (rd0, .inl (ac 0, 63, .inl (rd)))] := hD
  refine lv_aload_n hx hb dX6_decant_76 rfl (lv_at hl 1 rfl) ?_
  refine va_get (ci := 6) (v := .int (0)) (C := RX6) (T := TX6) (N := 12) hx hb hts (by decide +kernel) hown hK hP 0 rfl rfl 0 (by decide) (hts (.fieldLink RX6 25 "SettlingJarsModel" "thrown" "I") (by decide +kernel)) (fun _ h9 => h9) rfl dX6_decant_77 ?_
  refine lv_if_le (tgt := 85) hx hb dX6_decant_80 (by decide) (fun _ => ?_) (fun c_ => absurd (by decide) c_)
  refine lv_aload_n hx hb dX6_decant_85 rfl (lv_at hl 1 rfl) ?_
  refine z_cvW [(m0, .inr (6, [.int (0), .ref (z0), .int (nI (mSv sv + 1)), .ref (sd0), .int (nI (ln)), .ref (tx0), .ref (as0), .int (nI (stp)), .int (nI (po)), .int (tl), .ref (rd0), .long (hh)])), (z0, .inl (ac 0, 162, .inl (z))), (sd0, .inl (ac 0, 972, .inl (mSave sd z sv))), (tx0, .inl (ac 0, 60, .inl (tx))), (as0, .inl (ac 0, 162, .inl (az))), (rd0, .inl (ac 0, 63, .inl (rd)))] (z_vrunW (rest := []) (own := RX6) (As := []) hx hb hml hown hts hl.1 hK hP hD [0, 1, 2, 3, 4, 5] rfl (by decide) rfl (metX6_save l D ac _ m0 z0 sd0 tx0 as0 rd0 0 sv ln stp po tl hh z sd tx az rd (by omega)) gX6_decant_X6_save rfl 0 (by decide +kernel) ⟨rfl, rfl, Nat.le_of_ble_eq_true rfl, Nat.le_of_ble_eq_true rfl⟩ 0 6 rfl rfl rfl rfl rfl (Nat.le_of_ble_eq_true rfl) dX6_decant_86 ⟨Nat.zero_le _, Nat.zero_le _⟩) hP hD hS hA [0, 1, 2, 3, 4, 5] [] [0, 1, 2, 3, 4, 5] rfl rfl (by decide) (by decide) (by decide) rfl (fun H locs hP hD hS => ?_)
  refine lv_aload_n hx hb dX6_decant_89 rfl (lv_at hl 1 rfl) ?_
  refine lv_iload_n hx hb dX6_decant_90 rfl (lv_at hl 2 rfl) ?_
  refine lv_iload_n hx hb dX6_decant_91 rfl (lv_at hl 4 rfl) ?_
  refine z_ci (z_vrun (rest := []) (own := RX6) (As := [.int (nI (j1)), .int (nI (t))]) hx hb hml hown hts hl.1 hK hP [0, 1] rfl (metX6_upTo l D ac m0 z0 sd0 tx0 as0 rd0 0 (mSv sv + 1) ln stp po tl hh z j1 t (by omega) (by omega)) gX6_decant_X6_upTo rfl 2 (by decide +kernel) ⟨rfl, rfl, Nat.le_of_ble_eq_true rfl, Nat.le_of_ble_eq_true rfl⟩ 0 6 rfl rfl rfl rfl rfl (Nat.le_of_ble_eq_true rfl) dX6_decant_92 ⟨Nat.zero_le _, Nat.zero_le _⟩) ?_
  refine lv_istore (lv' := [(5, .int (qTo (qV z j1) (t + 1))), (4, .int (1)), (0, .ref (m0)), (1, .int (nI (j1))), (2, .int (nI (j2))), (3, .int (nI (t)))]) hx hb dX6_decant_95 hl (by decide) rfl (fun ls hl => ?_)
  refine lv_iconst (v := 0) hx hb dX6_decant_97 (by decide) ?_
  refine lv_istore (lv' := [(6, .int (0)), (5, .int (qTo (qV z j1) (t + 1))), (4, .int (1)), (0, .ref (m0)), (1, .int (nI (j1))), (2, .int (nI (j2))), (3, .int (nI (t)))]) hx hb dX6_decant_98 hl (by decide) rfl (fun ls hl => ?_)
  have hL_100 : ∀ (n : Nat) (i : Nat), (i + n = 4 * (t + 1)) → ∀ (H : Heap) (locs : List Loc), va_P D vwCl [(m0, .inr (6, [.int (0), .ref (z0), .int (nI (mSv sv + 1)), .ref (sd0), .int (nI (ln)), .ref (tx0), .ref (as0), .int (nI (stp)), .int (nI (po)), .int (tl), .ref (rd0), .long (hh)])), (z0, .inl (ac 0, 162, .inl (mDec z j1 j2 i))), (sd0, .inl (ac 0, 972, .inl (mSave sd z sv))), (tx0, .inl (ac 0, 60, .inl (tx))), (as0, .inl (ac 0, 162, .inl (az))), (rd0, .inl (ac 0, 63, .inl (rd)))] H → va_D A [(m0, .inr (6, [.int (0), .ref (z0), .int (nI (mSv sv + 1)), .ref (sd0), .int (nI (ln)), .ref (tx0), .ref (as0), .int (nI (stp)), .int (nI (po)), .int (tl), .ref (rd0), .long (hh)])), (z0, .inl (ac 0, 162, .inl (mDec z j1 j2 i))), (sd0, .inl (ac 0, 972, .inl (mSave sd z sv))), (tx0, .inl (ac 0, 60, .inl (tx))), (as0, .inl (ac 0, 162, .inl (az))), (rd0, .inl (ac 0, 63, .inl (rd)))] → va_S A s.heap H locs → ∀ (ls : Array Slot), lv_has ls 7 [(6, .int (nI (i))), (5, .int (qTo (qV z j1) (t + 1))), (4, .int (1)), (0, .ref (m0)), (1, .int (nI (j1))), (2, .int (nI (j2))), (3, .int (nI (t)))] → W p l e ({ frames := 3, cells := 0, slots := 0, locals := 70 } : Room) s m args below meth c H locs 0 0 (MQ below (zQi D ac [(m0, .inr (6, [.int (th), .ref (z0), .int (nI (sv)), .ref (sd0), .int (nI (ln)), .ref (tx0), .ref (as0), .int (nI (stp)), .int (nI (po)), .int (tl), .ref (rd0), .long (hh)])), (z0, .inl (ac 0, 162, .inl (z))), (sd0, .inl (ac 0, 972, .inl (sd))), (tx0, .inl (ac 0, 60, .inl (tx))), (as0, .inl (ac 0, 162, .inl (az))), (rd0, .inl (ac 0, 63, .inl (rd)))] [(m0, .inr (6, [.int (0), .ref (z0), .int (nI (mSv sv + 1)), .ref (sd0), .int (nI (ln)), .ref (tx0), .ref (as0), .int (nI (stp)), .int (nI (po)), .int (tl), .ref (rd0), .long (hh)])), (z0, .inl (ac 0, 162, .inl (mDec z j1 j2 (4 * (t + 1))))), (sd0, .inl (ac 0, 972, .inl (mSave sd z sv))), (tx0, .inl (ac 0, 60, .inl (tx))), (as0, .inl (ac 0, 162, .inl (az))), (rd0, .inl (ac 0, 63, .inl (rd)))] sz (qTo (qV z j1) (t + 1))) args s 0 0 A) (F0 m 100 ls []) := by
    intro n
    induction n with
    | zero =>
      intro i hi H locs hP hD hS ls hl
      have e_i : 4 * (t + 1) = i := by omega
      subst e_i
      refine lv_iload hx hb dX6_decant_100 (lv_at hl 0 rfl) ?_
      refine lv_iconst (v := 4) hx hb dX6_decant_102 (by decide) ?_
      refine lv_iload_n hx hb dX6_decant_103 rfl (lv_at hl 6 rfl) ?_
      refine lv_iconst (v := 1) hx hb dX6_decant_104 (by decide) ?_
      refine lv_iadd hx hb dX6_decant_105 ?_
      refine z_top (y := nI ((t) + (1))) (nI_add (t) (1)) ?_
      refine lv_imul hx hb dX6_decant_106 ?_
      refine z_top (y := nI ((4) * ((t) + (1)))) (pk_mul (4) ((t) + (1))) ?_
      refine z_icmp_ge (tgt := 162) hx hb ((4 * (t + 1))) ((4) * ((t) + (1))) dX6_decant_107 (by decide) (by omega) (by omega) rfl rfl (fun c_107 => ?_) (fun c_107 => absurd c_107 (by omega))
      refine lv_iload hx hb dX6_decant_162 (lv_at hl 1 rfl) ?_
      exact z_iretW hx hb hr hlocks hK hP hD hS hAe (rfl) dX6_decant_164
    | succ n ih =>
      intro i hi H locs hP hD hS ls hl
      refine lv_iload hx hb dX6_decant_100 (lv_at hl 0 rfl) ?_
      refine lv_iconst (v := 4) hx hb dX6_decant_102 (by decide) ?_
      refine lv_iload_n hx hb dX6_decant_103 rfl (lv_at hl 6 rfl) ?_
      refine lv_iconst (v := 1) hx hb dX6_decant_104 (by decide) ?_
      refine lv_iadd hx hb dX6_decant_105 ?_
      refine z_top (y := nI ((t) + (1))) (nI_add (t) (1)) ?_
      refine lv_imul hx hb dX6_decant_106 ?_
      refine z_top (y := nI ((4) * ((t) + (1)))) (pk_mul (4) ((t) + (1))) ?_
      refine z_icmp_ge (tgt := 162) hx hb (i) ((4) * ((t) + (1))) dX6_decant_107 (by decide) (by omega) (by omega) rfl rfl (fun c_107 => absurd c_107 (by omega)) (fun c_107 => ?_)
      refine lv_aload_n hx hb dX6_decant_110 rfl (lv_at hl 3 rfl) ?_
      refine va_get (ci := 6) (v := .ref (z0)) (C := RX6) (T := TX6) (N := 12) hx hb hts (by decide +kernel) hown hK hP 0 rfl rfl 1 (by decide) (hts (.fieldLink RX6 7 "SettlingJarsModel" "z" "[I") (by decide +kernel)) (fun _ h9 => h9) rfl dX6_decant_111 ?_
      refine lv_iload_n hx hb dX6_decant_114 rfl (lv_at hl 5 rfl) ?_
      refine lv_iconst (v := 0) hx hb dX6_decant_115 (by decide) ?_
      refine lv_iconst (v := 0) hx hb dX6_decant_116 (by decide) ?_
      refine z_ci (z_srun (rest := [.ref (z0)]) (own := RX6) (As := [.int (nI (j2)), .int (0), .int (0)]) hx hb hml hown hts hl.1 hK hP [] rfl (metX6_place l D ac j2 0 0 ) gX6_decant_X6_place rfl 3 (by decide +kernel) ⟨rfl, rfl, Nat.le_of_ble_eq_true rfl, Nat.le_of_ble_eq_true rfl⟩ rfl rfl (Nat.le_of_ble_eq_true rfl) dX6_decant_117 ⟨Nat.zero_le _, Nat.zero_le _⟩) ?_
      refine lv_iload hx hb dX6_decant_120 (lv_at hl 0 rfl) ?_
      refine lv_iadd hx hb dX6_decant_122 ?_
      refine z_top (y := nI ((4 * (12 * j2 + 0) + 0) + (i))) (nI_add (4 * (12 * j2 + 0) + 0) (i)) ?_
      refine lv_dup2_11 hx hb dX6_decant_123 rfl rfl ?_
      refine z_iald hx hb hK hP 1 rfl (48 * j2 + i) (congrArg nI (by omega)) (by omega) (by decide) dX6_decant_124 ?_
      refine lv_aload_n hx hb dX6_decant_125 rfl (lv_at hl 3 rfl) ?_
      refine va_get (ci := 6) (v := .ref (z0)) (C := RX6) (T := TX6) (N := 12) hx hb hts (by decide +kernel) hown hK hP 0 rfl rfl 1 (by decide) (hts (.fieldLink RX6 7 "SettlingJarsModel" "z" "[I") (by decide +kernel)) (fun _ h9 => h9) rfl dX6_decant_126 ?_
      refine lv_iload_n hx hb dX6_decant_129 rfl (lv_at hl 4 rfl) ?_
      refine lv_iconst (v := 0) hx hb dX6_decant_130 (by decide) ?_
      refine lv_iconst (v := 0) hx hb dX6_decant_131 (by decide) ?_
      refine z_ci (z_srun (rest := [.ref (z0), .int ((mDec z j1 j2 i) (48 * j2 + i)), .int (nI ((4 * (12 * j2 + 0) + 0) + (i))), .ref (z0)]) (own := RX6) (As := [.int (nI (j1)), .int (0), .int (0)]) hx hb hml hown hts hl.1 hK hP [] rfl (metX6_place l D ac j1 0 0 ) gX6_decant_X6_place rfl 3 (by decide +kernel) ⟨rfl, rfl, Nat.le_of_ble_eq_true rfl, Nat.le_of_ble_eq_true rfl⟩ rfl rfl (Nat.le_of_ble_eq_true rfl) dX6_decant_132 ⟨Nat.zero_le _, Nat.zero_le _⟩) ?_
      refine lv_iload hx hb dX6_decant_135 (lv_at hl 0 rfl) ?_
      refine lv_iadd hx hb dX6_decant_137 ?_
      refine z_top (y := nI ((4 * (12 * j1 + 0) + 0) + (i))) (nI_add (4 * (12 * j1 + 0) + 0) (i)) ?_
      refine z_iald hx hb hK hP 1 rfl (48 * j1 + i) (congrArg nI (by omega)) (by omega) (by decide) dX6_decant_138 ?_
      refine lv_iadd hx hb dX6_decant_139 ?_
      refine z_iast hx hb hK hP hD hS 1 rfl (48 * j2 + i) (congrArg nI (by omega)) (by omega) (by decide) dX6_decant_140 (fun H locs hP hD hS => ?_)
      have hP : va_P D vwCl [(m0, .inr (6, [.int (0), .ref (z0), .int (nI (mSv sv + 1)), .ref (sd0), .int (nI (ln)), .ref (tx0), .ref (as0), .int (nI (stp)), .int (nI (po)), .int (tl), .ref (rd0), .long (hh)])), (z0, .inl (ac 0, 162, .inl (upd (mDec z j1 j2 i) (48 * j2 + i) (((mDec z j1 j2 i) (48 * j2 + i)) + ((mDec z j1 j2 i) (48 * j1 + i)))))), (sd0, .inl (ac 0, 972, .inl (mSave sd z sv))), (tx0, .inl (ac 0, 60, .inl (tx))), (as0, .inl (ac 0, 162, .inl (az))), (rd0, .inl (ac 0, 63, .inl (rd)))] H := hP
      have hD : va_D A [(m0, .inr (6, [.int (0), .ref (z0), .int (nI (mSv sv + 1)), .ref (sd0), .int (nI (ln)), .ref (tx0), .ref (as0), .int (nI (stp)), .int (nI (po)), .int (tl), .ref (rd0), .long (hh)])), (z0, .inl (ac 0, 162, .inl (upd (mDec z j1 j2 i) (48 * j2 + i) (((mDec z j1 j2 i) (48 * j2 + i)) + ((mDec z j1 j2 i) (48 * j1 + i)))))), (sd0, .inl (ac 0, 972, .inl (mSave sd z sv))), (tx0, .inl (ac 0, 60, .inl (tx))), (as0, .inl (ac 0, 162, .inl (az))), (rd0, .inl (ac 0, 63, .inl (rd)))] := hD
      refine lv_aload_n hx hb dX6_decant_141 rfl (lv_at hl 3 rfl) ?_
      refine va_get (ci := 6) (v := .ref (z0)) (C := RX6) (T := TX6) (N := 12) hx hb hts (by decide +kernel) hown hK hP 0 rfl rfl 1 (by decide) (hts (.fieldLink RX6 7 "SettlingJarsModel" "z" "[I") (by decide +kernel)) (fun _ h9 => h9) rfl dX6_decant_142 ?_
      refine lv_iload_n hx hb dX6_decant_145 rfl (lv_at hl 4 rfl) ?_
      refine lv_iconst (v := 0) hx hb dX6_decant_146 (by decide) ?_
      refine lv_iconst (v := 0) hx hb dX6_decant_147 (by decide) ?_
      refine z_ci (z_srun (rest := [.ref (z0)]) (own := RX6) (As := [.int (nI (j1)), .int (0), .int (0)]) hx hb hml hown hts hl.1 hK hP [] rfl (metX6_place l D ac j1 0 0 ) gX6_decant_X6_place rfl 3 (by decide +kernel) ⟨rfl, rfl, Nat.le_of_ble_eq_true rfl, Nat.le_of_ble_eq_true rfl⟩ rfl rfl (Nat.le_of_ble_eq_true rfl) dX6_decant_148 ⟨Nat.zero_le _, Nat.zero_le _⟩) ?_
      refine lv_iload hx hb dX6_decant_151 (lv_at hl 0 rfl) ?_
      refine lv_iadd hx hb dX6_decant_153 ?_
      refine z_top (y := nI ((4 * (12 * j1 + 0) + 0) + (i))) (nI_add (4 * (12 * j1 + 0) + 0) (i)) ?_
      refine lv_iconst (v := 0) hx hb dX6_decant_154 (by decide) ?_
      refine z_iast hx hb hK hP hD hS 1 rfl (48 * j1 + i) (congrArg nI (by omega)) (by omega) (by decide) dX6_decant_155 (fun H locs hP hD hS => ?_)
      have hP : va_P D vwCl [(m0, .inr (6, [.int (0), .ref (z0), .int (nI (mSv sv + 1)), .ref (sd0), .int (nI (ln)), .ref (tx0), .ref (as0), .int (nI (stp)), .int (nI (po)), .int (tl), .ref (rd0), .long (hh)])), (z0, .inl (ac 0, 162, .inl (upd (upd (mDec z j1 j2 i) (48 * j2 + i) (((mDec z j1 j2 i) (48 * j2 + i)) + ((mDec z j1 j2 i) (48 * j1 + i)))) (48 * j1 + i) (0)))), (sd0, .inl (ac 0, 972, .inl (mSave sd z sv))), (tx0, .inl (ac 0, 60, .inl (tx))), (as0, .inl (ac 0, 162, .inl (az))), (rd0, .inl (ac 0, 63, .inl (rd)))] H := hP
      have hD : va_D A [(m0, .inr (6, [.int (0), .ref (z0), .int (nI (mSv sv + 1)), .ref (sd0), .int (nI (ln)), .ref (tx0), .ref (as0), .int (nI (stp)), .int (nI (po)), .int (tl), .ref (rd0), .long (hh)])), (z0, .inl (ac 0, 162, .inl (upd (upd (mDec z j1 j2 i) (48 * j2 + i) (((mDec z j1 j2 i) (48 * j2 + i)) + ((mDec z j1 j2 i) (48 * j1 + i)))) (48 * j1 + i) (0)))), (sd0, .inl (ac 0, 972, .inl (mSave sd z sv))), (tx0, .inl (ac 0, 60, .inl (tx))), (as0, .inl (ac 0, 162, .inl (az))), (rd0, .inl (ac 0, 63, .inl (rd)))] := hD
      refine lv_iinc (v := nI ((i) + 1)) (lv' := [(6, .int (nI ((i) + 1))), (5, .int (qTo (qV z j1) (t + 1))), (4, .int (1)), (0, .ref (m0)), (1, .int (nI (j1))), (2, .int (nI (j2))), (3, .int (nI (t)))]) hx hb dX6_decant_156 hl (k := 0) rfl (show nI (i) + Int32.ofInt 1 = _ from nI_add (i) 1) (by decide) rfl (fun ls hl => ?_)
      refine lv_goto (tgt := 100) hx hb dX6_decant_159 (by decide) ?_
      exact ih (i + 1) (by omega) _ _ hP hD hS ls (lv_sub hl [0, 1, 2, 3, 4, 5, 6] rfl)
  exact hL_100 (4 * (t + 1)) (0) (by omega) _ _ hP hD hS ls (lv_sub hl [0, 1, 2, 3, 4, 5, 6] rfl)

set_option maxRecDepth 100000 in
set_option maxHeartbeats 4000000 in
theorem metX6_turn_1 (l : Launch) (D : va_G) (ac : Nat → ClassId) (sz : Nat) (m0 : Nat) (z0 : Nat) (sd0 : Nat) (tx0 : Nat) (as0 : Nat) (rd0 : Nat) (th : Int32) (sv : Nat) (ln : Nat) (stp : Nat) (po : Nat) (tl : Int32) (hh : Int64) (z : Nat → Int32) (sd : Nat → Int32) (tx : Nat → Int32) (az : Nat → Int32) (rd : Nat → Int32) (x1 : Int32) (h1 : ¬ (0 ≤ x1 ∧ x1 ≤ 2)) : Met l yX6_turn wsX6_turn ({ frames := 2, cells := 0, slots := 0, locals := 42 } : Room) (va_Pc [.ref (m0), .int (x1)] (zS D ac [(m0, .inr (6, [.int (th), .ref (z0), .int (nI (sv)), .ref (sd0), .int (nI (ln)), .ref (tx0), .ref (as0), .int (nI (stp)), .int (nI (po)), .int (tl), .ref (rd0), .long (hh)])), (z0, .inl (ac 0, 162, .inl (z))), (sd0, .inl (ac 0, 972, .inl (sd))), (tx0, .inl (ac 0, 60, .inl (tx))), (as0, .inl (ac 0, 162, .inl (az))), (rd0, .inl (ac 0, 63, .inl (rd)))] sz)) (zQi D ac [(m0, .inr (6, [.int (th), .ref (z0), .int (nI (sv)), .ref (sd0), .int (nI (ln)), .ref (tx0), .ref (as0), .int (nI (stp)), .int (nI (po)), .int (tl), .ref (rd0), .long (hh)])), (z0, .inl (ac 0, 162, .inl (z))), (sd0, .inl (ac 0, 972, .inl (sd))), (tx0, .inl (ac 0, 60, .inl (tx))), (as0, .inl (ac 0, 162, .inl (az))), (rd0, .inl (ac 0, 63, .inl (rd)))] [(m0, .inr (6, [.int (1), .ref (z0), .int (nI (sv)), .ref (sd0), .int (nI (ln)), .ref (tx0), .ref (as0), .int (nI (stp)), .int (nI (po)), .int (tl), .ref (rd0), .long (hh)])), (z0, .inl (ac 0, 162, .inl (z))), (sd0, .inl (ac 0, 972, .inl (sd))), (tx0, .inl (ac 0, 60, .inl (tx))), (as0, .inl (ac 0, 162, .inl (az))), (rd0, .inl (ac 0, 63, .inl (rd)))] sz (0)) 0 0 (va_A [(m0, .inr (6, [.int (th), .ref (z0), .int (nI (sv)), .ref (sd0), .int (nI (ln)), .ref (tx0), .ref (as0), .int (nI (stp)), .int (nI (po)), .int (tl), .ref (rd0), .long (hh)])), (z0, .inl (ac 0, 162, .inl (z))), (sd0, .inl (ac 0, 972, .inl (sd))), (tx0, .inl (ac 0, 60, .inl (tx))), (as0, .inl (ac 0, 162, .inl (az))), (rd0, .inl (ac 0, 63, .inl (rd)))] sz) := by
  refine z_rw (cc := cX6_turn) (maxL := 5) (ret := (some .int)) (lv := [(0, .ref (m0)), (1, .int (x1))]) (by decide) rfl (Nat.le_of_ble_eq_true rfl) rfl ?_
  intro p e s m args below meth c ls A hx hb hr hml hown hts hlocks hl hK hP hsz hAe hA hD hS
  refine lv_aload_n hx hb dX6_turn_0 rfl (lv_at hl 0 rfl) ?_
  refine lv_iload_n hx hb dX6_turn_1 rfl (lv_at hl 1 rfl) ?_
  refine z_ci (z_srun (rest := [.ref (m0)]) (own := RX6) (As := [.int (x1)]) hx hb hml hown hts hl.1 hK hP [] rfl (metX6_isJar l D ac x1 ) gX6_turn_X6_isJar rfl 1 (by decide +kernel) ⟨rfl, rfl, Nat.le_of_ble_eq_true rfl, Nat.le_of_ble_eq_true rfl⟩ rfl rfl (Nat.le_of_ble_eq_true rfl) dX6_turn_2 ⟨Nat.zero_le _, Nat.zero_le _⟩) ?_
  refine z_if_eq (C := 0 ≤ x1 ∧ x1 ≤ 2) (tgt := 12) hx hb dX6_turn_5 (by decide) (fun c_5 => ?_) (fun c_5 => absurd c_5 (h1))
  refine lv_iconst (v := 1) hx hb dX6_turn_12 (by decide) ?_
  refine va_put (ci := 6) (v := .int (1)) (ty := .int) (C := RX6) (T := TX6) (N := 12) hx hb hts (by decide +kernel) tyX6 tyX6_ok nmX6 hown hK hP hD hS 0 rfl rfl 0 (by decide) (hts (.fieldLink RX6 25 "SettlingJarsModel" "thrown" "I") (by decide +kernel)) (fun _ h9 => h9) rfl (by decide +kernel) rfl rfl (Nat.le_of_ble_eq_true rfl) dX6_turn_13 (fun H locs hP hD hS => ?_)
  have hP : va_P D vwCl [(m0, .inr (6, [.int (1), .ref (z0), .int (nI (sv)), .ref (sd0), .int (nI (ln)), .ref (tx0), .ref (as0), .int (nI (stp)), .int (nI (po)), .int (tl), .ref (rd0), .long (hh)])), (z0, .inl (ac 0, 162, .inl (z))), (sd0, .inl (ac 0, 972, .inl (sd))), (tx0, .inl (ac 0, 60, .inl (tx))), (as0, .inl (ac 0, 162, .inl (az))), (rd0, .inl (ac 0, 63, .inl (rd)))] H := hP
  have hD : va_D A [(m0, .inr (6, [.int (1), .ref (z0), .int (nI (sv)), .ref (sd0), .int (nI (ln)), .ref (tx0), .ref (as0), .int (nI (stp)), .int (nI (po)), .int (tl), .ref (rd0), .long (hh)])), (z0, .inl (ac 0, 162, .inl (z))), (sd0, .inl (ac 0, 972, .inl (sd))), (tx0, .inl (ac 0, 60, .inl (tx))), (as0, .inl (ac 0, 162, .inl (az))), (rd0, .inl (ac 0, 63, .inl (rd)))] := hD
  refine lv_aload_n hx hb dX6_turn_16 rfl (lv_at hl 0 rfl) ?_
  refine va_get (ci := 6) (v := .int (1)) (C := RX6) (T := TX6) (N := 12) hx hb hts (by decide +kernel) hown hK hP 0 rfl rfl 0 (by decide) (hts (.fieldLink RX6 25 "SettlingJarsModel" "thrown" "I") (by decide +kernel)) (fun _ h9 => h9) rfl dX6_turn_17 ?_
  refine lv_if_le (tgt := 25) hx hb dX6_turn_20 (by decide) (fun c_ => absurd c_ (by decide)) (fun _ => ?_)
  refine lv_iconst (v := 0) hx hb dX6_turn_23 (by decide) ?_
  exact z_iretW hx hb hr hlocks hK hP hD hS hAe (rfl) dX6_turn_24

set_option maxRecDepth 100000 in
set_option maxHeartbeats 4000000 in
theorem metX6_turn_0 (l : Launch) (D : va_G) (ac : Nat → ClassId) (sz : Nat) (m0 : Nat) (z0 : Nat) (sd0 : Nat) (tx0 : Nat) (as0 : Nat) (rd0 : Nat) (th : Int32) (sv : Nat) (ln : Nat) (stp : Nat) (po : Nat) (tl : Int32) (hh : Int64) (z : Nat → Int32) (sd : Nat → Int32) (tx : Nat → Int32) (az : Nat → Int32) (rd : Nat → Int32) (j1 : Nat) (hj : j1 < 3) (hsv : sv ≤ 6) : Met l yX6_turn wsX6_turn ({ frames := 4, cells := 0, slots := 0, locals := 91 } : Room) (va_Pc [.ref (m0), .int (nI (j1))] (zS D ac [(m0, .inr (6, [.int (th), .ref (z0), .int (nI (sv)), .ref (sd0), .int (nI (ln)), .ref (tx0), .ref (as0), .int (nI (stp)), .int (nI (po)), .int (tl), .ref (rd0), .long (hh)])), (z0, .inl (ac 0, 162, .inl (z))), (sd0, .inl (ac 0, 972, .inl (sd))), (tx0, .inl (ac 0, 60, .inl (tx))), (as0, .inl (ac 0, 162, .inl (az))), (rd0, .inl (ac 0, 63, .inl (rd)))] sz)) (zQi D ac [(m0, .inr (6, [.int (th), .ref (z0), .int (nI (sv)), .ref (sd0), .int (nI (ln)), .ref (tx0), .ref (as0), .int (nI (stp)), .int (nI (po)), .int (tl), .ref (rd0), .long (hh)])), (z0, .inl (ac 0, 162, .inl (z))), (sd0, .inl (ac 0, 972, .inl (sd))), (tx0, .inl (ac 0, 60, .inl (tx))), (as0, .inl (ac 0, 162, .inl (az))), (rd0, .inl (ac 0, 63, .inl (rd)))] [(m0, .inr (6, [.int (0), .ref (z0), .int (nI (mSv sv + 1)), .ref (sd0), .int (nI (ln)), .ref (tx0), .ref (as0), .int (nI (stp)), .int (nI (po)), .int (tl), .ref (rd0), .long (hh)])), (z0, .inl (ac 0, 162, .inl (mTurn z j1 6))), (sd0, .inl (ac 0, 972, .inl (mSave sd z sv))), (tx0, .inl (ac 0, 60, .inl (tx))), (as0, .inl (ac 0, 162, .inl (az))), (rd0, .inl (ac 0, 63, .inl (rd)))] sz (qPkd (qV (mTurn z j1 6) j1) (mTurn z j1 6 145) 12)) 0 0 (va_A [(m0, .inr (6, [.int (th), .ref (z0), .int (nI (sv)), .ref (sd0), .int (nI (ln)), .ref (tx0), .ref (as0), .int (nI (stp)), .int (nI (po)), .int (tl), .ref (rd0), .long (hh)])), (z0, .inl (ac 0, 162, .inl (z))), (sd0, .inl (ac 0, 972, .inl (sd))), (tx0, .inl (ac 0, 60, .inl (tx))), (as0, .inl (ac 0, 162, .inl (az))), (rd0, .inl (ac 0, 63, .inl (rd)))] sz) := by
  refine z_rw (cc := cX6_turn) (maxL := 5) (ret := (some .int)) (lv := [(0, .ref (m0)), (1, .int (nI (j1)))]) (by decide) rfl (Nat.le_of_ble_eq_true rfl) rfl ?_
  intro p e s m args below meth c ls A hx hb hr hml hown hts hlocks hl hK hP hsz hAe hA hD hS
  refine lv_aload_n hx hb dX6_turn_0 rfl (lv_at hl 0 rfl) ?_
  refine lv_iload_n hx hb dX6_turn_1 rfl (lv_at hl 1 rfl) ?_
  refine z_ci (z_srun (rest := [.ref (m0)]) (own := RX6) (As := [.int (nI (j1))]) hx hb hml hown hts hl.1 hK hP [] rfl (metX6_isJar l D ac (nI (j1)) ) gX6_turn_X6_isJar rfl 1 (by decide +kernel) ⟨rfl, rfl, Nat.le_of_ble_eq_true rfl, Nat.le_of_ble_eq_true rfl⟩ rfl rfl (Nat.le_of_ble_eq_true rfl) dX6_turn_2 ⟨Nat.zero_le _, Nat.zero_le _⟩) ?_
  refine z_if_eq (C := 0 ≤ (nI (j1)) ∧ (nI (j1)) ≤ 2) (tgt := 12) hx hb dX6_turn_5 (by decide) (fun c_5 => absurd c_5 (fun q => q (z_in (n := 2) (by omega)))) (fun c_5 => ?_)
  refine lv_iconst (v := 0) hx hb dX6_turn_8 (by decide) ?_
  refine lv_goto (tgt := 13) hx hb dX6_turn_9 (by decide) ?_
  refine va_put (ci := 6) (v := .int (0)) (ty := .int) (C := RX6) (T := TX6) (N := 12) hx hb hts (by decide +kernel) tyX6 tyX6_ok nmX6 hown hK hP hD hS 0 rfl rfl 0 (by decide) (hts (.fieldLink RX6 25 "SettlingJarsModel" "thrown" "I") (by decide +kernel)) (fun _ h9 => h9) rfl (by decide +kernel) rfl rfl (Nat.le_of_ble_eq_true rfl) dX6_turn_13 (fun H locs hP hD hS => ?_)
  have hP : va_P D vwCl [(m0, .inr (6, [.int (0), .ref (z0), .int (nI (sv)), .ref (sd0), .int (nI (ln)), .ref (tx0), .ref (as0), .int (nI (stp)), .int (nI (po)), .int (tl), .ref (rd0), .long (hh)])), (z0, .inl (ac 0, 162, .inl (z))), (sd0, .inl (ac 0, 972, .inl (sd))), (tx0, .inl (ac 0, 60, .inl (tx))), (as0, .inl (ac 0, 162, .inl (az))), (rd0, .inl (ac 0, 63, .inl (rd)))] H := hP
  have hD : va_D A [(m0, .inr (6, [.int (0), .ref (z0), .int (nI (sv)), .ref (sd0), .int (nI (ln)), .ref (tx0), .ref (as0), .int (nI (stp)), .int (nI (po)), .int (tl), .ref (rd0), .long (hh)])), (z0, .inl (ac 0, 162, .inl (z))), (sd0, .inl (ac 0, 972, .inl (sd))), (tx0, .inl (ac 0, 60, .inl (tx))), (as0, .inl (ac 0, 162, .inl (az))), (rd0, .inl (ac 0, 63, .inl (rd)))] := hD
  refine lv_aload_n hx hb dX6_turn_16 rfl (lv_at hl 0 rfl) ?_
  refine va_get (ci := 6) (v := .int (0)) (C := RX6) (T := TX6) (N := 12) hx hb hts (by decide +kernel) hown hK hP 0 rfl rfl 0 (by decide) (hts (.fieldLink RX6 25 "SettlingJarsModel" "thrown" "I") (by decide +kernel)) (fun _ h9 => h9) rfl dX6_turn_17 ?_
  refine lv_if_le (tgt := 25) hx hb dX6_turn_20 (by decide) (fun _ => ?_) (fun c_ => absurd (by decide) c_)
  refine lv_aload_n hx hb dX6_turn_25 rfl (lv_at hl 0 rfl) ?_
  refine z_cvW [(m0, .inr (6, [.int (0), .ref (z0), .int (nI (mSv sv + 1)), .ref (sd0), .int (nI (ln)), .ref (tx0), .ref (as0), .int (nI (stp)), .int (nI (po)), .int (tl), .ref (rd0), .long (hh)])), (z0, .inl (ac 0, 162, .inl (z))), (sd0, .inl (ac 0, 972, .inl (mSave sd z sv))), (tx0, .inl (ac 0, 60, .inl (tx))), (as0, .inl (ac 0, 162, .inl (az))), (rd0, .inl (ac 0, 63, .inl (rd)))] (z_vrunW (rest := []) (own := RX6) (As := []) hx hb hml hown hts hl.1 hK hP hD [0, 1, 2, 3, 4, 5] rfl (by decide) rfl (metX6_save l D ac _ m0 z0 sd0 tx0 as0 rd0 0 sv ln stp po tl hh z sd tx az rd (by omega)) gX6_turn_X6_save rfl 0 (by decide +kernel) ⟨rfl, rfl, Nat.le_of_ble_eq_true rfl, Nat.le_of_ble_eq_true rfl⟩ 0 6 rfl rfl rfl rfl rfl (Nat.le_of_ble_eq_true rfl) dX6_turn_26 ⟨Nat.zero_le _, Nat.zero_le _⟩) hP hD hS hA [0, 1, 2, 3, 4, 5] [] [0, 1, 2, 3, 4, 5] rfl rfl (by decide) (by decide) (by decide) rfl (fun H locs hP hD hS => ?_)
  refine lv_iconst (v := 0) hx hb dX6_turn_29 (by decide) ?_
  refine lv_istore_n (lv' := [(2, .int (0)), (0, .ref (m0)), (1, .int (nI (j1)))]) hx hb dX6_turn_30 rfl hl (by decide) rfl (fun ls hl => ?_)
  have hL_31 : ∀ (n : Nat) (i : Nat), (i + n = 6) → ∀ (H : Heap) (locs : List Loc), va_P D vwCl [(m0, .inr (6, [.int (0), .ref (z0), .int (nI (mSv sv + 1)), .ref (sd0), .int (nI (ln)), .ref (tx0), .ref (as0), .int (nI (stp)), .int (nI (po)), .int (tl), .ref (rd0), .long (hh)])), (z0, .inl (ac 0, 162, .inl (mTurn z j1 i))), (sd0, .inl (ac 0, 972, .inl (mSave sd z sv))), (tx0, .inl (ac 0, 60, .inl (tx))), (as0, .inl (ac 0, 162, .inl (az))), (rd0, .inl (ac 0, 63, .inl (rd)))] H → va_D A [(m0, .inr (6, [.int (0), .ref (z0), .int (nI (mSv sv + 1)), .ref (sd0), .int (nI (ln)), .ref (tx0), .ref (as0), .int (nI (stp)), .int (nI (po)), .int (tl), .ref (rd0), .long (hh)])), (z0, .inl (ac 0, 162, .inl (mTurn z j1 i))), (sd0, .inl (ac 0, 972, .inl (mSave sd z sv))), (tx0, .inl (ac 0, 60, .inl (tx))), (as0, .inl (ac 0, 162, .inl (az))), (rd0, .inl (ac 0, 63, .inl (rd)))] → va_S A s.heap H locs → ∀ (ls : Array Slot), lv_has ls 5 [(2, .int (nI (i))), (0, .ref (m0)), (1, .int (nI (j1)))] → W p l e ({ frames := 4, cells := 0, slots := 0, locals := 91 } : Room) s m args below meth c H locs 0 0 (MQ below (zQi D ac [(m0, .inr (6, [.int (th), .ref (z0), .int (nI (sv)), .ref (sd0), .int (nI (ln)), .ref (tx0), .ref (as0), .int (nI (stp)), .int (nI (po)), .int (tl), .ref (rd0), .long (hh)])), (z0, .inl (ac 0, 162, .inl (z))), (sd0, .inl (ac 0, 972, .inl (sd))), (tx0, .inl (ac 0, 60, .inl (tx))), (as0, .inl (ac 0, 162, .inl (az))), (rd0, .inl (ac 0, 63, .inl (rd)))] [(m0, .inr (6, [.int (0), .ref (z0), .int (nI (mSv sv + 1)), .ref (sd0), .int (nI (ln)), .ref (tx0), .ref (as0), .int (nI (stp)), .int (nI (po)), .int (tl), .ref (rd0), .long (hh)])), (z0, .inl (ac 0, 162, .inl (mTurn z j1 6))), (sd0, .inl (ac 0, 972, .inl (mSave sd z sv))), (tx0, .inl (ac 0, 60, .inl (tx))), (as0, .inl (ac 0, 162, .inl (az))), (rd0, .inl (ac 0, 63, .inl (rd)))] sz (qPkd (qV (mTurn z j1 6) j1) (mTurn z j1 6 145) 12)) args s 0 0 A) (F0 m 31 ls []) := by
    intro n
    induction n with
    | zero =>
      intro i hi H locs hP hD hS ls hl
      have e_i : 6 = i := by omega
      subst e_i
      refine lv_iload_n hx hb dX6_turn_31 rfl (lv_at hl 0 rfl) ?_
      refine lv_bipush (v := 6) hx hb dX6_turn_32 (by decide) ?_
      refine z_icmp_ge (tgt := 110) hx hb (6) (6) dX6_turn_34 (by decide) (by omega) (by omega) rfl rfl (fun c_34 => ?_) (fun c_34 => absurd c_34 (by omega))
      refine lv_aload_n hx hb dX6_turn_110 rfl (lv_at hl 1 rfl) ?_
      refine lv_iload_n hx hb dX6_turn_111 rfl (lv_at hl 2 rfl) ?_
      refine z_ci (z_vrun (rest := []) (own := RX6) (As := [.int (nI (j1))]) hx hb hml hown hts hl.1 hK hP [0, 1] rfl (metX6_packedIn l D ac m0 z0 sd0 tx0 as0 rd0 0 (mSv sv + 1) ln stp po tl hh (mTurn z j1 6) j1 (by omega)) gX6_turn_X6_packedIn rfl 1 (by decide +kernel) ⟨rfl, rfl, Nat.le_of_ble_eq_true rfl, Nat.le_of_ble_eq_true rfl⟩ 0 6 rfl rfl rfl rfl rfl (Nat.le_of_ble_eq_true rfl) dX6_turn_112 ⟨Nat.zero_le _, Nat.zero_le _⟩) ?_
      exact z_iretW hx hb hr hlocks hK hP hD hS hAe (rfl) dX6_turn_115
    | succ n ih =>
      intro i hi H locs hP hD hS ls hl
      refine lv_iload_n hx hb dX6_turn_31 rfl (lv_at hl 0 rfl) ?_
      refine lv_bipush (v := 6) hx hb dX6_turn_32 (by decide) ?_
      refine z_icmp_ge (tgt := 110) hx hb (i) (6) dX6_turn_34 (by decide) (by omega) (by omega) rfl rfl (fun c_34 => absurd c_34 (by omega)) (fun c_34 => ?_)
      refine lv_iconst (v := 0) hx hb dX6_turn_37 (by decide) ?_
      refine lv_istore_n (lv' := [(3, .int (0)), (2, .int (nI (i))), (0, .ref (m0)), (1, .int (nI (j1)))]) hx hb dX6_turn_38 rfl hl (by decide) rfl (fun ls hl => ?_)
      have hL_39 : ∀ (n2 : Nat) (j : Nat), (j + n2 = 4) → ∀ (H : Heap) (locs : List Loc), va_P D vwCl [(m0, .inr (6, [.int (0), .ref (z0), .int (nI (mSv sv + 1)), .ref (sd0), .int (nI (ln)), .ref (tx0), .ref (as0), .int (nI (stp)), .int (nI (po)), .int (tl), .ref (rd0), .long (hh)])), (z0, .inl (ac 0, 162, .inl (mTn (mTurn z j1 i) j1 i j))), (sd0, .inl (ac 0, 972, .inl (mSave sd z sv))), (tx0, .inl (ac 0, 60, .inl (tx))), (as0, .inl (ac 0, 162, .inl (az))), (rd0, .inl (ac 0, 63, .inl (rd)))] H → va_D A [(m0, .inr (6, [.int (0), .ref (z0), .int (nI (mSv sv + 1)), .ref (sd0), .int (nI (ln)), .ref (tx0), .ref (as0), .int (nI (stp)), .int (nI (po)), .int (tl), .ref (rd0), .long (hh)])), (z0, .inl (ac 0, 162, .inl (mTn (mTurn z j1 i) j1 i j))), (sd0, .inl (ac 0, 972, .inl (mSave sd z sv))), (tx0, .inl (ac 0, 60, .inl (tx))), (as0, .inl (ac 0, 162, .inl (az))), (rd0, .inl (ac 0, 63, .inl (rd)))] → va_S A s.heap H locs → ∀ (ls : Array Slot), lv_has ls 5 [(3, .int (nI (j))), (2, .int (nI (i))), (0, .ref (m0)), (1, .int (nI (j1)))] → W p l e ({ frames := 4, cells := 0, slots := 0, locals := 91 } : Room) s m args below meth c H locs 0 0 (MQ below (zQi D ac [(m0, .inr (6, [.int (th), .ref (z0), .int (nI (sv)), .ref (sd0), .int (nI (ln)), .ref (tx0), .ref (as0), .int (nI (stp)), .int (nI (po)), .int (tl), .ref (rd0), .long (hh)])), (z0, .inl (ac 0, 162, .inl (z))), (sd0, .inl (ac 0, 972, .inl (sd))), (tx0, .inl (ac 0, 60, .inl (tx))), (as0, .inl (ac 0, 162, .inl (az))), (rd0, .inl (ac 0, 63, .inl (rd)))] [(m0, .inr (6, [.int (0), .ref (z0), .int (nI (mSv sv + 1)), .ref (sd0), .int (nI (ln)), .ref (tx0), .ref (as0), .int (nI (stp)), .int (nI (po)), .int (tl), .ref (rd0), .long (hh)])), (z0, .inl (ac 0, 162, .inl (mTurn z j1 6))), (sd0, .inl (ac 0, 972, .inl (mSave sd z sv))), (tx0, .inl (ac 0, 60, .inl (tx))), (as0, .inl (ac 0, 162, .inl (az))), (rd0, .inl (ac 0, 63, .inl (rd)))] sz (qPkd (qV (mTurn z j1 6) j1) (mTurn z j1 6 145) 12)) args s 0 0 A) (F0 m 39 ls []) := by
        intro n2
        induction n2 with
        | zero =>
          intro j hj H locs hP hD hS ls hl
          have e_j : 4 = j := by omega
          subst e_j
          refine lv_iload_n hx hb dX6_turn_39 rfl (lv_at hl 0 rfl) ?_
          refine lv_iconst (v := 4) hx hb dX6_turn_40 (by decide) ?_
          refine z_icmp_ge (tgt := 104) hx hb (4) (4) dX6_turn_41 (by decide) (by omega) (by omega) rfl rfl (fun c_41 => ?_) (fun c_41 => absurd c_41 (by omega))
          refine lv_iinc (v := nI ((i) + 1)) (lv' := [(2, .int (nI ((i) + 1))), (3, .int (nI (4))), (0, .ref (m0)), (1, .int (nI (j1)))]) hx hb dX6_turn_104 hl (k := 1) rfl (show nI (i) + Int32.ofInt 1 = _ from nI_add (i) 1) (by decide) rfl (fun ls hl => ?_)
          refine lv_goto (tgt := 31) hx hb dX6_turn_107 (by decide) ?_
          exact ih (i + 1) (by omega) _ _ hP hD hS ls (lv_sub hl [0, 2, 3] rfl)
        | succ n2 ih =>
          intro j hj H locs hP hD hS ls hl
          refine lv_iload_n hx hb dX6_turn_39 rfl (lv_at hl 0 rfl) ?_
          refine lv_iconst (v := 4) hx hb dX6_turn_40 (by decide) ?_
          refine z_icmp_ge (tgt := 104) hx hb (j) (4) dX6_turn_41 (by decide) (by omega) (by omega) rfl rfl (fun c_41 => absurd c_41 (by omega)) (fun c_41 => ?_)
          refine lv_aload_n hx hb dX6_turn_44 rfl (lv_at hl 2 rfl) ?_
          refine va_get (ci := 6) (v := .ref (z0)) (C := RX6) (T := TX6) (N := 12) hx hb hts (by decide +kernel) hown hK hP 0 rfl rfl 1 (by decide) (hts (.fieldLink RX6 7 "SettlingJarsModel" "z" "[I") (by decide +kernel)) (fun _ h9 => h9) rfl dX6_turn_45 ?_
          refine lv_iload_n hx hb dX6_turn_48 rfl (lv_at hl 3 rfl) ?_
          refine lv_iload_n hx hb dX6_turn_49 rfl (lv_at hl 1 rfl) ?_
          refine lv_iload_n hx hb dX6_turn_50 rfl (lv_at hl 0 rfl) ?_
          refine z_ci (z_srun (rest := [.ref (z0)]) (own := RX6) (As := [.int (nI (j1)), .int (nI (i)), .int (nI (j))]) hx hb hml hown hts hl.1 hK hP [] rfl (metX6_place l D ac j1 i j ) gX6_turn_X6_place rfl 3 (by decide +kernel) ⟨rfl, rfl, Nat.le_of_ble_eq_true rfl, Nat.le_of_ble_eq_true rfl⟩ rfl rfl (Nat.le_of_ble_eq_true rfl) dX6_turn_51 ⟨Nat.zero_le _, Nat.zero_le _⟩) ?_
          refine z_iald hx hb hK hP 1 rfl (48 * j1 + (4 * i + j)) (congrArg nI (by omega)) (by omega) (by decide) dX6_turn_54 ?_
          refine lv_istore (lv' := [(4, .int ((mTn (mTurn z j1 i) j1 i j) (48 * j1 + (4 * i + j)))), (3, .int (nI (j))), (2, .int (nI (i))), (0, .ref (m0)), (1, .int (nI (j1)))]) hx hb dX6_turn_55 hl (by decide) rfl (fun ls hl => ?_)
          refine lv_aload_n hx hb dX6_turn_57 rfl (lv_at hl 3 rfl) ?_
          refine va_get (ci := 6) (v := .ref (z0)) (C := RX6) (T := TX6) (N := 12) hx hb hts (by decide +kernel) hown hK hP 0 rfl rfl 1 (by decide) (hts (.fieldLink RX6 7 "SettlingJarsModel" "z" "[I") (by decide +kernel)) (fun _ h9 => h9) rfl dX6_turn_58 ?_
          refine lv_iload_n hx hb dX6_turn_61 rfl (lv_at hl 4 rfl) ?_
          refine lv_iload_n hx hb dX6_turn_62 rfl (lv_at hl 2 rfl) ?_
          refine lv_iload_n hx hb dX6_turn_63 rfl (lv_at hl 1 rfl) ?_
          refine z_ci (z_srun (rest := [.ref (z0)]) (own := RX6) (As := [.int (nI (j1)), .int (nI (i)), .int (nI (j))]) hx hb hml hown hts hl.1 hK hP [] rfl (metX6_place l D ac j1 i j ) gX6_turn_X6_place rfl 3 (by decide +kernel) ⟨rfl, rfl, Nat.le_of_ble_eq_true rfl, Nat.le_of_ble_eq_true rfl⟩ rfl rfl (Nat.le_of_ble_eq_true rfl) dX6_turn_64 ⟨Nat.zero_le _, Nat.zero_le _⟩) ?_
          refine lv_aload_n hx hb dX6_turn_67 rfl (lv_at hl 3 rfl) ?_
          refine va_get (ci := 6) (v := .ref (z0)) (C := RX6) (T := TX6) (N := 12) hx hb hts (by decide +kernel) hown hK hP 0 rfl rfl 1 (by decide) (hts (.fieldLink RX6 7 "SettlingJarsModel" "z" "[I") (by decide +kernel)) (fun _ h9 => h9) rfl dX6_turn_68 ?_
          refine lv_iload_n hx hb dX6_turn_71 rfl (lv_at hl 4 rfl) ?_
          refine lv_bipush (v := 11) hx hb dX6_turn_72 (by decide) ?_
          refine lv_iload_n hx hb dX6_turn_74 rfl (lv_at hl 2 rfl) ?_
          refine lv_isub hx hb dX6_turn_75 ?_
          refine z_top (y := nI ((11) - (i))) (pk_sub (a := 11) (b := i) (by omega)) ?_
          refine lv_iload_n hx hb dX6_turn_76 rfl (lv_at hl 1 rfl) ?_
          refine z_ci (z_srun (rest := [.ref (z0), .int (nI (4 * (12 * j1 + i) + j)), .ref (z0)]) (own := RX6) (As := [.int (nI (j1)), .int (nI ((11) - (i))), .int (nI (j))]) hx hb hml hown hts hl.1 hK hP [] rfl (metX6_place l D ac j1 ((11) - (i)) j ) gX6_turn_X6_place rfl 3 (by decide +kernel) ⟨rfl, rfl, Nat.le_of_ble_eq_true rfl, Nat.le_of_ble_eq_true rfl⟩ rfl rfl (Nat.le_of_ble_eq_true rfl) dX6_turn_77 ⟨Nat.zero_le _, Nat.zero_le _⟩) ?_
          refine z_iald hx hb hK hP 1 rfl (48 * j1 + (4 * (11 - i) + j)) (congrArg nI (by omega)) (by omega) (by decide) dX6_turn_80 ?_
          refine z_iast hx hb hK hP hD hS 1 rfl (48 * j1 + (4 * i + j)) (congrArg nI (by omega)) (by omega) (by decide) dX6_turn_81 (fun H locs hP hD hS => ?_)
          have hP : va_P D vwCl [(m0, .inr (6, [.int (0), .ref (z0), .int (nI (mSv sv + 1)), .ref (sd0), .int (nI (ln)), .ref (tx0), .ref (as0), .int (nI (stp)), .int (nI (po)), .int (tl), .ref (rd0), .long (hh)])), (z0, .inl (ac 0, 162, .inl (upd (mTn (mTurn z j1 i) j1 i j) (48 * j1 + (4 * i + j)) ((mTn (mTurn z j1 i) j1 i j) (48 * j1 + (4 * (11 - i) + j)))))), (sd0, .inl (ac 0, 972, .inl (mSave sd z sv))), (tx0, .inl (ac 0, 60, .inl (tx))), (as0, .inl (ac 0, 162, .inl (az))), (rd0, .inl (ac 0, 63, .inl (rd)))] H := hP
          have hD : va_D A [(m0, .inr (6, [.int (0), .ref (z0), .int (nI (mSv sv + 1)), .ref (sd0), .int (nI (ln)), .ref (tx0), .ref (as0), .int (nI (stp)), .int (nI (po)), .int (tl), .ref (rd0), .long (hh)])), (z0, .inl (ac 0, 162, .inl (upd (mTn (mTurn z j1 i) j1 i j) (48 * j1 + (4 * i + j)) ((mTn (mTurn z j1 i) j1 i j) (48 * j1 + (4 * (11 - i) + j)))))), (sd0, .inl (ac 0, 972, .inl (mSave sd z sv))), (tx0, .inl (ac 0, 60, .inl (tx))), (as0, .inl (ac 0, 162, .inl (az))), (rd0, .inl (ac 0, 63, .inl (rd)))] := hD
          refine lv_aload_n hx hb dX6_turn_82 rfl (lv_at hl 3 rfl) ?_
          refine va_get (ci := 6) (v := .ref (z0)) (C := RX6) (T := TX6) (N := 12) hx hb hts (by decide +kernel) hown hK hP 0 rfl rfl 1 (by decide) (hts (.fieldLink RX6 7 "SettlingJarsModel" "z" "[I") (by decide +kernel)) (fun _ h9 => h9) rfl dX6_turn_83 ?_
          refine lv_iload_n hx hb dX6_turn_86 rfl (lv_at hl 4 rfl) ?_
          refine lv_bipush (v := 11) hx hb dX6_turn_87 (by decide) ?_
          refine lv_iload_n hx hb dX6_turn_89 rfl (lv_at hl 2 rfl) ?_
          refine lv_isub hx hb dX6_turn_90 ?_
          refine z_top (y := nI ((11) - (i))) (pk_sub (a := 11) (b := i) (by omega)) ?_
          refine lv_iload_n hx hb dX6_turn_91 rfl (lv_at hl 1 rfl) ?_
          refine z_ci (z_srun (rest := [.ref (z0)]) (own := RX6) (As := [.int (nI (j1)), .int (nI ((11) - (i))), .int (nI (j))]) hx hb hml hown hts hl.1 hK hP [] rfl (metX6_place l D ac j1 ((11) - (i)) j ) gX6_turn_X6_place rfl 3 (by decide +kernel) ⟨rfl, rfl, Nat.le_of_ble_eq_true rfl, Nat.le_of_ble_eq_true rfl⟩ rfl rfl (Nat.le_of_ble_eq_true rfl) dX6_turn_92 ⟨Nat.zero_le _, Nat.zero_le _⟩) ?_
          refine lv_iload hx hb dX6_turn_95 (lv_at hl 0 rfl) ?_
          refine z_iast hx hb hK hP hD hS 1 rfl (48 * j1 + (4 * (11 - i) + j)) (congrArg nI (by omega)) (by omega) (by decide) dX6_turn_97 (fun H locs hP hD hS => ?_)
          have hP : va_P D vwCl [(m0, .inr (6, [.int (0), .ref (z0), .int (nI (mSv sv + 1)), .ref (sd0), .int (nI (ln)), .ref (tx0), .ref (as0), .int (nI (stp)), .int (nI (po)), .int (tl), .ref (rd0), .long (hh)])), (z0, .inl (ac 0, 162, .inl (upd (upd (mTn (mTurn z j1 i) j1 i j) (48 * j1 + (4 * i + j)) ((mTn (mTurn z j1 i) j1 i j) (48 * j1 + (4 * (11 - i) + j)))) (48 * j1 + (4 * (11 - i) + j)) ((mTn (mTurn z j1 i) j1 i j) (48 * j1 + (4 * i + j)))))), (sd0, .inl (ac 0, 972, .inl (mSave sd z sv))), (tx0, .inl (ac 0, 60, .inl (tx))), (as0, .inl (ac 0, 162, .inl (az))), (rd0, .inl (ac 0, 63, .inl (rd)))] H := hP
          have hD : va_D A [(m0, .inr (6, [.int (0), .ref (z0), .int (nI (mSv sv + 1)), .ref (sd0), .int (nI (ln)), .ref (tx0), .ref (as0), .int (nI (stp)), .int (nI (po)), .int (tl), .ref (rd0), .long (hh)])), (z0, .inl (ac 0, 162, .inl (upd (upd (mTn (mTurn z j1 i) j1 i j) (48 * j1 + (4 * i + j)) ((mTn (mTurn z j1 i) j1 i j) (48 * j1 + (4 * (11 - i) + j)))) (48 * j1 + (4 * (11 - i) + j)) ((mTn (mTurn z j1 i) j1 i j) (48 * j1 + (4 * i + j)))))), (sd0, .inl (ac 0, 972, .inl (mSave sd z sv))), (tx0, .inl (ac 0, 60, .inl (tx))), (as0, .inl (ac 0, 162, .inl (az))), (rd0, .inl (ac 0, 63, .inl (rd)))] := hD
          refine lv_iinc (v := nI ((j) + 1)) (lv' := [(3, .int (nI ((j) + 1))), (4, .int ((mTn (mTurn z j1 i) j1 i j) (48 * j1 + (4 * i + j)))), (2, .int (nI (i))), (0, .ref (m0)), (1, .int (nI (j1)))]) hx hb dX6_turn_98 hl (k := 1) rfl (show nI (j) + Int32.ofInt 1 = _ from nI_add (j) 1) (by decide) rfl (fun ls hl => ?_)
          refine lv_goto (tgt := 39) hx hb dX6_turn_101 (by decide) ?_
          exact ih (j + 1) (by omega) _ _ hP hD hS ls (lv_sub hl [0, 2, 3, 4] rfl)
      exact hL_39 (4) (0) (by omega) _ _ hP hD hS ls (lv_sub hl [0, 1, 2, 3] rfl)
  exact hL_31 (6) (0) (by omega) _ _ hP hD hS ls (lv_sub hl [0, 1, 2] rfl)

set_option maxRecDepth 100000 in
set_option maxHeartbeats 4000000 in
theorem metX6_settle_1 (l : Launch) (D : va_G) (ac : Nat → ClassId) (sz : Nat) (m0 : Nat) (z0 : Nat) (sd0 : Nat) (tx0 : Nat) (as0 : Nat) (rd0 : Nat) (th : Int32) (sv : Nat) (ln : Nat) (stp : Nat) (po : Nat) (tl : Int32) (hh : Int64) (z : Nat → Int32) (sd : Nat → Int32) (tx : Nat → Int32) (az : Nat → Int32) (rd : Nat → Int32) (x1 : Int32) (h1 : ¬ (1 ≤ x1 ∧ x1 ≤ 100)) : Met l yX6_settle wsX6_settle ({ frames := 1, cells := 0, slots := 0, locals := 22 } : Room) (va_Pc [.ref (m0), .int (x1)] (zS D ac [(m0, .inr (6, [.int (th), .ref (z0), .int (nI (sv)), .ref (sd0), .int (nI (ln)), .ref (tx0), .ref (as0), .int (nI (stp)), .int (nI (po)), .int (tl), .ref (rd0), .long (hh)])), (z0, .inl (ac 0, 162, .inl (z))), (sd0, .inl (ac 0, 972, .inl (sd))), (tx0, .inl (ac 0, 60, .inl (tx))), (as0, .inl (ac 0, 162, .inl (az))), (rd0, .inl (ac 0, 63, .inl (rd)))] sz)) (zQi D ac [(m0, .inr (6, [.int (th), .ref (z0), .int (nI (sv)), .ref (sd0), .int (nI (ln)), .ref (tx0), .ref (as0), .int (nI (stp)), .int (nI (po)), .int (tl), .ref (rd0), .long (hh)])), (z0, .inl (ac 0, 162, .inl (z))), (sd0, .inl (ac 0, 972, .inl (sd))), (tx0, .inl (ac 0, 60, .inl (tx))), (as0, .inl (ac 0, 162, .inl (az))), (rd0, .inl (ac 0, 63, .inl (rd)))] [(m0, .inr (6, [.int (1), .ref (z0), .int (nI (sv)), .ref (sd0), .int (nI (ln)), .ref (tx0), .ref (as0), .int (nI (stp)), .int (nI (po)), .int (tl), .ref (rd0), .long (hh)])), (z0, .inl (ac 0, 162, .inl (z))), (sd0, .inl (ac 0, 972, .inl (sd))), (tx0, .inl (ac 0, 60, .inl (tx))), (as0, .inl (ac 0, 162, .inl (az))), (rd0, .inl (ac 0, 63, .inl (rd)))] sz (0)) 0 0 (va_A [(m0, .inr (6, [.int (th), .ref (z0), .int (nI (sv)), .ref (sd0), .int (nI (ln)), .ref (tx0), .ref (as0), .int (nI (stp)), .int (nI (po)), .int (tl), .ref (rd0), .long (hh)])), (z0, .inl (ac 0, 162, .inl (z))), (sd0, .inl (ac 0, 972, .inl (sd))), (tx0, .inl (ac 0, 60, .inl (tx))), (as0, .inl (ac 0, 162, .inl (az))), (rd0, .inl (ac 0, 63, .inl (rd)))] sz) := by
  refine z_rw (cc := cX6_settle) (maxL := 4) (ret := (some .int)) (lv := [(0, .ref (m0)), (1, .int (x1))]) (by decide) rfl (Nat.le_of_ble_eq_true rfl) rfl ?_
  intro p e s m args below meth c ls A hx hb hr hml hown hts hlocks hl hK hP hsz hAe hA hD hS
  refine lv_aload_n hx hb dX6_settle_0 rfl (lv_at hl 0 rfl) ?_
  refine lv_iload_n hx hb dX6_settle_1 rfl (lv_at hl 1 rfl) ?_
  refine lv_iconst (v := 1) hx hb dX6_settle_2 (by decide) ?_
  refine lv_bipush (v := 100) hx hb dX6_settle_3 (by decide) ?_
  refine z_ci (z_srun (rest := [.ref (m0)]) (own := RX6) (As := [.int (x1), .int (1), .int (100)]) hx hb hml hown hts hl.1 hK hP [] rfl (metX6_within l D ac x1 1 100 ) gX6_settle_X6_within rfl 3 (by decide +kernel) ⟨rfl, rfl, Nat.le_of_ble_eq_true rfl, Nat.le_of_ble_eq_true rfl⟩ rfl rfl (Nat.le_of_ble_eq_true rfl) dX6_settle_5 ⟨Nat.zero_le _, Nat.zero_le _⟩) ?_
  refine z_if_ne (C := 1 ≤ x1 ∧ x1 ≤ 100) (tgt := 15) hx hb dX6_settle_8 (by decide) (fun c_8 => absurd c_8 (h1)) (fun c_8 => ?_)
  refine lv_iconst (v := 1) hx hb dX6_settle_11 (by decide) ?_
  refine lv_goto (tgt := 36) hx hb dX6_settle_12 (by decide) ?_
  refine va_put (ci := 6) (v := .int (1)) (ty := .int) (C := RX6) (T := TX6) (N := 12) hx hb hts (by decide +kernel) tyX6 tyX6_ok nmX6 hown hK hP hD hS 0 rfl rfl 0 (by decide) (hts (.fieldLink RX6 25 "SettlingJarsModel" "thrown" "I") (by decide +kernel)) (fun _ h9 => h9) rfl (by decide +kernel) rfl rfl (Nat.le_of_ble_eq_true rfl) dX6_settle_36 (fun H locs hP hD hS => ?_)
  have hP : va_P D vwCl [(m0, .inr (6, [.int (1), .ref (z0), .int (nI (sv)), .ref (sd0), .int (nI (ln)), .ref (tx0), .ref (as0), .int (nI (stp)), .int (nI (po)), .int (tl), .ref (rd0), .long (hh)])), (z0, .inl (ac 0, 162, .inl (z))), (sd0, .inl (ac 0, 972, .inl (sd))), (tx0, .inl (ac 0, 60, .inl (tx))), (as0, .inl (ac 0, 162, .inl (az))), (rd0, .inl (ac 0, 63, .inl (rd)))] H := hP
  have hD : va_D A [(m0, .inr (6, [.int (1), .ref (z0), .int (nI (sv)), .ref (sd0), .int (nI (ln)), .ref (tx0), .ref (as0), .int (nI (stp)), .int (nI (po)), .int (tl), .ref (rd0), .long (hh)])), (z0, .inl (ac 0, 162, .inl (z))), (sd0, .inl (ac 0, 972, .inl (sd))), (tx0, .inl (ac 0, 60, .inl (tx))), (as0, .inl (ac 0, 162, .inl (az))), (rd0, .inl (ac 0, 63, .inl (rd)))] := hD
  refine lv_aload_n hx hb dX6_settle_39 rfl (lv_at hl 0 rfl) ?_
  refine va_get (ci := 6) (v := .int (1)) (C := RX6) (T := TX6) (N := 12) hx hb hts (by decide +kernel) hown hK hP 0 rfl rfl 0 (by decide) (hts (.fieldLink RX6 25 "SettlingJarsModel" "thrown" "I") (by decide +kernel)) (fun _ h9 => h9) rfl dX6_settle_40 ?_
  refine lv_if_le (tgt := 48) hx hb dX6_settle_43 (by decide) (fun c_ => absurd c_ (by decide)) (fun _ => ?_)
  refine lv_iconst (v := 0) hx hb dX6_settle_46 (by decide) ?_
  exact z_iretW hx hb hr hlocks hK hP hD hS hAe (rfl) dX6_settle_47

set_option maxRecDepth 100000 in
set_option maxHeartbeats 4000000 in
theorem metX6_settle_2 (l : Launch) (D : va_G) (ac : Nat → ClassId) (sz : Nat) (m0 : Nat) (z0 : Nat) (sd0 : Nat) (tx0 : Nat) (as0 : Nat) (rd0 : Nat) (th : Int32) (sv : Nat) (ln : Nat) (stp : Nat) (po : Nat) (tl : Int32) (hh : Int64) (z : Nat → Int32) (sd : Nat → Int32) (tx : Nat → Int32) (az : Nat → Int32) (rd : Nat → Int32) (x1 : Int32) (h1 : 1 ≤ x1 ∧ x1 ≤ 100) (h2 : 10000 < z 160 + x1) : Met l yX6_settle wsX6_settle ({ frames := 1, cells := 0, slots := 0, locals := 22 } : Room) (va_Pc [.ref (m0), .int (x1)] (zS D ac [(m0, .inr (6, [.int (th), .ref (z0), .int (nI (sv)), .ref (sd0), .int (nI (ln)), .ref (tx0), .ref (as0), .int (nI (stp)), .int (nI (po)), .int (tl), .ref (rd0), .long (hh)])), (z0, .inl (ac 0, 162, .inl (z))), (sd0, .inl (ac 0, 972, .inl (sd))), (tx0, .inl (ac 0, 60, .inl (tx))), (as0, .inl (ac 0, 162, .inl (az))), (rd0, .inl (ac 0, 63, .inl (rd)))] sz)) (zQi D ac [(m0, .inr (6, [.int (th), .ref (z0), .int (nI (sv)), .ref (sd0), .int (nI (ln)), .ref (tx0), .ref (as0), .int (nI (stp)), .int (nI (po)), .int (tl), .ref (rd0), .long (hh)])), (z0, .inl (ac 0, 162, .inl (z))), (sd0, .inl (ac 0, 972, .inl (sd))), (tx0, .inl (ac 0, 60, .inl (tx))), (as0, .inl (ac 0, 162, .inl (az))), (rd0, .inl (ac 0, 63, .inl (rd)))] [(m0, .inr (6, [.int (2), .ref (z0), .int (nI (sv)), .ref (sd0), .int (nI (ln)), .ref (tx0), .ref (as0), .int (nI (stp)), .int (nI (po)), .int (tl), .ref (rd0), .long (hh)])), (z0, .inl (ac 0, 162, .inl (z))), (sd0, .inl (ac 0, 972, .inl (sd))), (tx0, .inl (ac 0, 60, .inl (tx))), (as0, .inl (ac 0, 162, .inl (az))), (rd0, .inl (ac 0, 63, .inl (rd)))] sz (0)) 0 0 (va_A [(m0, .inr (6, [.int (th), .ref (z0), .int (nI (sv)), .ref (sd0), .int (nI (ln)), .ref (tx0), .ref (as0), .int (nI (stp)), .int (nI (po)), .int (tl), .ref (rd0), .long (hh)])), (z0, .inl (ac 0, 162, .inl (z))), (sd0, .inl (ac 0, 972, .inl (sd))), (tx0, .inl (ac 0, 60, .inl (tx))), (as0, .inl (ac 0, 162, .inl (az))), (rd0, .inl (ac 0, 63, .inl (rd)))] sz) := by
  refine z_rw (cc := cX6_settle) (maxL := 4) (ret := (some .int)) (lv := [(0, .ref (m0)), (1, .int (x1))]) (by decide) rfl (Nat.le_of_ble_eq_true rfl) rfl ?_
  intro p e s m args below meth c ls A hx hb hr hml hown hts hlocks hl hK hP hsz hAe hA hD hS
  refine lv_aload_n hx hb dX6_settle_0 rfl (lv_at hl 0 rfl) ?_
  refine lv_iload_n hx hb dX6_settle_1 rfl (lv_at hl 1 rfl) ?_
  refine lv_iconst (v := 1) hx hb dX6_settle_2 (by decide) ?_
  refine lv_bipush (v := 100) hx hb dX6_settle_3 (by decide) ?_
  refine z_ci (z_srun (rest := [.ref (m0)]) (own := RX6) (As := [.int (x1), .int (1), .int (100)]) hx hb hml hown hts hl.1 hK hP [] rfl (metX6_within l D ac x1 1 100 ) gX6_settle_X6_within rfl 3 (by decide +kernel) ⟨rfl, rfl, Nat.le_of_ble_eq_true rfl, Nat.le_of_ble_eq_true rfl⟩ rfl rfl (Nat.le_of_ble_eq_true rfl) dX6_settle_5 ⟨Nat.zero_le _, Nat.zero_le _⟩) ?_
  refine z_if_ne (C := 1 ≤ x1 ∧ x1 ≤ 100) (tgt := 15) hx hb dX6_settle_8 (by decide) (fun c_8 => ?_) (fun c_8 => absurd c_8 (fun q => q (h1)))
  refine lv_aload_n hx hb dX6_settle_15 rfl (lv_at hl 0 rfl) ?_
  refine va_get (ci := 6) (v := .ref (z0)) (C := RX6) (T := TX6) (N := 12) hx hb hts (by decide +kernel) hown hK hP 0 rfl rfl 1 (by decide) (hts (.fieldLink RX6 7 "SettlingJarsModel" "z" "[I") (by decide +kernel)) (fun _ h9 => h9) rfl dX6_settle_16 ?_
  refine lv_sipush (v := 160) hx hb dX6_settle_19 (by decide) ?_
  refine z_iald hx hb hK hP 1 rfl (160) (rfl) (by omega) (by decide) dX6_settle_22 ?_
  refine lv_iload_n hx hb dX6_settle_23 rfl (lv_at hl 1 rfl) ?_
  refine lv_iadd hx hb dX6_settle_24 ?_
  refine lv_sipush (v := 10000) hx hb dX6_settle_25 (by decide) ?_
  refine lv_icmp_le (tgt := 35) hx hb dX6_settle_28 (by decide) (fun c_28 => absurd c_28 (Int32.not_le.mpr h2)) (fun c_28 => ?_)
  refine lv_iconst (v := 2) hx hb dX6_settle_31 (by decide) ?_
  refine lv_goto (tgt := 36) hx hb dX6_settle_32 (by decide) ?_
  refine va_put (ci := 6) (v := .int (2)) (ty := .int) (C := RX6) (T := TX6) (N := 12) hx hb hts (by decide +kernel) tyX6 tyX6_ok nmX6 hown hK hP hD hS 0 rfl rfl 0 (by decide) (hts (.fieldLink RX6 25 "SettlingJarsModel" "thrown" "I") (by decide +kernel)) (fun _ h9 => h9) rfl (by decide +kernel) rfl rfl (Nat.le_of_ble_eq_true rfl) dX6_settle_36 (fun H locs hP hD hS => ?_)
  have hP : va_P D vwCl [(m0, .inr (6, [.int (2), .ref (z0), .int (nI (sv)), .ref (sd0), .int (nI (ln)), .ref (tx0), .ref (as0), .int (nI (stp)), .int (nI (po)), .int (tl), .ref (rd0), .long (hh)])), (z0, .inl (ac 0, 162, .inl (z))), (sd0, .inl (ac 0, 972, .inl (sd))), (tx0, .inl (ac 0, 60, .inl (tx))), (as0, .inl (ac 0, 162, .inl (az))), (rd0, .inl (ac 0, 63, .inl (rd)))] H := hP
  have hD : va_D A [(m0, .inr (6, [.int (2), .ref (z0), .int (nI (sv)), .ref (sd0), .int (nI (ln)), .ref (tx0), .ref (as0), .int (nI (stp)), .int (nI (po)), .int (tl), .ref (rd0), .long (hh)])), (z0, .inl (ac 0, 162, .inl (z))), (sd0, .inl (ac 0, 972, .inl (sd))), (tx0, .inl (ac 0, 60, .inl (tx))), (as0, .inl (ac 0, 162, .inl (az))), (rd0, .inl (ac 0, 63, .inl (rd)))] := hD
  refine lv_aload_n hx hb dX6_settle_39 rfl (lv_at hl 0 rfl) ?_
  refine va_get (ci := 6) (v := .int (2)) (C := RX6) (T := TX6) (N := 12) hx hb hts (by decide +kernel) hown hK hP 0 rfl rfl 0 (by decide) (hts (.fieldLink RX6 25 "SettlingJarsModel" "thrown" "I") (by decide +kernel)) (fun _ h9 => h9) rfl dX6_settle_40 ?_
  refine lv_if_le (tgt := 48) hx hb dX6_settle_43 (by decide) (fun c_ => absurd c_ (by decide)) (fun _ => ?_)
  refine lv_iconst (v := 0) hx hb dX6_settle_46 (by decide) ?_
  exact z_iretW hx hb hr hlocks hK hP hD hS hAe (rfl) dX6_settle_47

