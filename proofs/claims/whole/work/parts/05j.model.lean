set_option maxRecDepth 100000 in
set_option maxHeartbeats 4000000 in
theorem metX6_settle_0 (l : Launch) (D : va_G) (ac : Nat → ClassId) (sz : Nat) (m0 : Nat) (z0 : Nat) (sd0 : Nat) (tx0 : Nat) (as0 : Nat) (rd0 : Nat) (th : Int32) (sv : Nat) (ln : Nat) (stp : Nat) (po : Nat) (tl : Int32) (hh : Int64) (z : Nat → Int32) (sd : Nat → Int32) (tx : Nat → Int32) (az : Nat → Int32) (rd : Nat → Int32) (t : Nat) (h1 : 1 ≤ t ∧ t ≤ 100) (h2 : z 160 + nI t ≤ 10000) (hsv : sv ≤ 6) (hG : mGood z) : Met l yX6_settle wsX6_settle ({ frames := 5, cells := 0, slots := 0, locals := 119 } : Room) (va_Pc [.ref (m0), .int (nI (t))] (zS D ac [(m0, .inr (6, [.int (th), .ref (z0), .int (nI (sv)), .ref (sd0), .int (nI (ln)), .ref (tx0), .ref (as0), .int (nI (stp)), .int (nI (po)), .int (tl), .ref (rd0), .long (hh)])), (z0, .inl (ac 0, 162, .inl (z))), (sd0, .inl (ac 0, 972, .inl (sd))), (tx0, .inl (ac 0, 60, .inl (tx))), (as0, .inl (ac 0, 162, .inl (az))), (rd0, .inl (ac 0, 63, .inl (rd)))] sz)) (zQi D ac [(m0, .inr (6, [.int (th), .ref (z0), .int (nI (sv)), .ref (sd0), .int (nI (ln)), .ref (tx0), .ref (as0), .int (nI (stp)), .int (nI (po)), .int (tl), .ref (rd0), .long (hh)])), (z0, .inl (ac 0, 162, .inl (z))), (sd0, .inl (ac 0, 972, .inl (sd))), (tx0, .inl (ac 0, 60, .inl (tx))), (as0, .inl (ac 0, 162, .inl (az))), (rd0, .inl (ac 0, 63, .inl (rd)))] [(m0, .inr (6, [.int (0), .ref (z0), .int (nI (mSv sv + 1)), .ref (sd0), .int (nI (ln)), .ref (tx0), .ref (as0), .int (nI (stp)), .int (nI (po)), .int (tl), .ref (rd0), .long (hh)])), (z0, .inl (ac 0, 162, .inl (mSettle z t))), (sd0, .inl (ac 0, 972, .inl (mSave sd z sv))), (tx0, .inl (ac 0, 60, .inl (tx))), (as0, .inl (ac 0, 162, .inl (az))), (rd0, .inl (ac 0, 63, .inl (rd)))] sz ((mRun z (3 * t)).2)) 0 0 (va_A [(m0, .inr (6, [.int (th), .ref (z0), .int (nI (sv)), .ref (sd0), .int (nI (ln)), .ref (tx0), .ref (as0), .int (nI (stp)), .int (nI (po)), .int (tl), .ref (rd0), .long (hh)])), (z0, .inl (ac 0, 162, .inl (z))), (sd0, .inl (ac 0, 972, .inl (sd))), (tx0, .inl (ac 0, 60, .inl (tx))), (as0, .inl (ac 0, 162, .inl (az))), (rd0, .inl (ac 0, 63, .inl (rd)))] sz) := by
  refine z_rw (cc := cX6_settle) (maxL := 4) (ret := (some .int)) (lv := [(0, .ref (m0)), (1, .int (nI (t)))]) (by decide) rfl (Nat.le_of_ble_eq_true rfl) rfl ?_
  intro p e s m args below meth c ls A hx hb hr hml hown hts hlocks hl hK hP hsz hAe hA hD hS
  refine lv_aload_n hx hb dX6_settle_0 rfl (lv_at hl 0 rfl) ?_
  refine lv_iload_n hx hb dX6_settle_1 rfl (lv_at hl 1 rfl) ?_
  refine lv_iconst (v := 1) hx hb dX6_settle_2 (by decide) ?_
  refine lv_bipush (v := 100) hx hb dX6_settle_3 (by decide) ?_
  refine z_ci (z_srun (rest := [.ref (m0)]) (own := RX6) (As := [.int (nI (t)), .int (1), .int (100)]) hx hb hml hown hts hl.1 hK hP [] rfl (metX6_within l D ac (nI (t)) 1 100 ) gX6_settle_X6_within rfl 3 (by decide +kernel) ⟨rfl, rfl, Nat.le_of_ble_eq_true rfl, Nat.le_of_ble_eq_true rfl⟩ rfl rfl (Nat.le_of_ble_eq_true rfl) dX6_settle_5 ⟨Nat.zero_le _, Nat.zero_le _⟩) ?_
  refine z_if_ne (C := 1 ≤ (nI (t)) ∧ (nI (t)) ≤ 100) (tgt := 15) hx hb dX6_settle_8 (by decide) (fun c_8 => ?_) (fun c_8 => absurd c_8 (fun q => q (⟨nI_le h1.1 (by omega), nI_le h1.2 (by decide)⟩)))
  refine lv_aload_n hx hb dX6_settle_15 rfl (lv_at hl 0 rfl) ?_
  refine va_get (ci := 6) (v := .ref (z0)) (C := RX6) (T := TX6) (N := 12) hx hb hts (by decide +kernel) hown hK hP 0 rfl rfl 1 (by decide) (hts (.fieldLink RX6 7 "SettlingJarsModel" "z" "[I") (by decide +kernel)) (fun _ h9 => h9) rfl dX6_settle_16 ?_
  refine lv_sipush (v := 160) hx hb dX6_settle_19 (by decide) ?_
  refine z_iald hx hb hK hP 1 rfl (160) (rfl) (by omega) (by decide) dX6_settle_22 ?_
  refine lv_iload_n hx hb dX6_settle_23 rfl (lv_at hl 1 rfl) ?_
  refine lv_iadd hx hb dX6_settle_24 ?_
  refine lv_sipush (v := 10000) hx hb dX6_settle_25 (by decide) ?_
  refine lv_icmp_le (tgt := 35) hx hb dX6_settle_28 (by decide) (fun c_28 => ?_) (fun c_28 => absurd c_28 (fun q => q h2))
  refine lv_iconst (v := 0) hx hb dX6_settle_35 (by decide) ?_
  refine va_put (ci := 6) (v := .int (0)) (ty := .int) (C := RX6) (T := TX6) (N := 12) hx hb hts (by decide +kernel) tyX6 tyX6_ok nmX6 hown hK hP hD hS 0 rfl rfl 0 (by decide) (hts (.fieldLink RX6 25 "SettlingJarsModel" "thrown" "I") (by decide +kernel)) (fun _ h9 => h9) rfl (by decide +kernel) rfl rfl (Nat.le_of_ble_eq_true rfl) dX6_settle_36 (fun H locs hP hD hS => ?_)
  have hP : va_P D vwCl [(m0, .inr (6, [.int (0), .ref (z0), .int (nI (sv)), .ref (sd0), .int (nI (ln)), .ref (tx0), .ref (as0), .int (nI (stp)), .int (nI (po)), .int (tl), .ref (rd0), .long (hh)])), (z0, .inl (ac 0, 162, .inl (z))), (sd0, .inl (ac 0, 972, .inl (sd))), (tx0, .inl (ac 0, 60, .inl (tx))), (as0, .inl (ac 0, 162, .inl (az))), (rd0, .inl (ac 0, 63, .inl (rd)))] H := hP
  have hD : va_D A [(m0, .inr (6, [.int (0), .ref (z0), .int (nI (sv)), .ref (sd0), .int (nI (ln)), .ref (tx0), .ref (as0), .int (nI (stp)), .int (nI (po)), .int (tl), .ref (rd0), .long (hh)])), (z0, .inl (ac 0, 162, .inl (z))), (sd0, .inl (ac 0, 972, .inl (sd))), (tx0, .inl (ac 0, 60, .inl (tx))), (as0, .inl (ac 0, 162, .inl (az))), (rd0, .inl (ac 0, 63, .inl (rd)))] := hD
  refine lv_aload_n hx hb dX6_settle_39 rfl (lv_at hl 0 rfl) ?_
  refine va_get (ci := 6) (v := .int (0)) (C := RX6) (T := TX6) (N := 12) hx hb hts (by decide +kernel) hown hK hP 0 rfl rfl 0 (by decide) (hts (.fieldLink RX6 25 "SettlingJarsModel" "thrown" "I") (by decide +kernel)) (fun _ h9 => h9) rfl dX6_settle_40 ?_
  refine lv_if_le (tgt := 48) hx hb dX6_settle_43 (by decide) (fun _ => ?_) (fun c_ => absurd (by decide) c_)
  refine lv_aload_n hx hb dX6_settle_48 rfl (lv_at hl 0 rfl) ?_
  refine z_cvW [(m0, .inr (6, [.int (0), .ref (z0), .int (nI (mSv sv + 1)), .ref (sd0), .int (nI (ln)), .ref (tx0), .ref (as0), .int (nI (stp)), .int (nI (po)), .int (tl), .ref (rd0), .long (hh)])), (z0, .inl (ac 0, 162, .inl (z))), (sd0, .inl (ac 0, 972, .inl (mSave sd z sv))), (tx0, .inl (ac 0, 60, .inl (tx))), (as0, .inl (ac 0, 162, .inl (az))), (rd0, .inl (ac 0, 63, .inl (rd)))] (z_vrunW (rest := []) (own := RX6) (As := []) hx hb hml hown hts hl.1 hK hP hD [0, 1, 2, 3, 4, 5] rfl (by decide) rfl (metX6_save l D ac _ m0 z0 sd0 tx0 as0 rd0 0 sv ln stp po tl hh z sd tx az rd (by omega)) gX6_settle_X6_save rfl 0 (by decide +kernel) ⟨rfl, rfl, Nat.le_of_ble_eq_true rfl, Nat.le_of_ble_eq_true rfl⟩ 0 6 rfl rfl rfl rfl rfl (Nat.le_of_ble_eq_true rfl) dX6_settle_49 ⟨Nat.zero_le _, Nat.zero_le _⟩) hP hD hS hA [0, 1, 2, 3, 4, 5] [] [0, 1, 2, 3, 4, 5] rfl rfl (by decide) (by decide) (by decide) rfl (fun H locs hP hD hS => ?_)
  refine lv_iconst (v := 0) hx hb dX6_settle_52 (by decide) ?_
  refine lv_istore_n (lv' := [(2, .int (0)), (0, .ref (m0)), (1, .int (nI (t)))]) hx hb dX6_settle_53 rfl hl (by decide) rfl (fun ls hl => ?_)
  refine lv_iconst (v := 0) hx hb dX6_settle_54 (by decide) ?_
  refine lv_istore_n (lv' := [(3, .int (0)), (2, .int (0)), (0, .ref (m0)), (1, .int (nI (t)))]) hx hb dX6_settle_55 rfl hl (by decide) rfl (fun ls hl => ?_)
  have hL_56 : ∀ (n : Nat) (i : Nat), (i + n = 3 * t) → ∀ (H : Heap) (locs : List Loc), va_P D vwCl [(m0, .inr (6, [.int (0), .ref (z0), .int (nI (mSv sv + 1)), .ref (sd0), .int (nI (ln)), .ref (tx0), .ref (as0), .int (nI (stp)), .int (nI (po)), .int (tl), .ref (rd0), .long (hh)])), (z0, .inl (ac 0, 162, .inl ((mRun z i).1))), (sd0, .inl (ac 0, 972, .inl (mSave sd z sv))), (tx0, .inl (ac 0, 60, .inl (tx))), (as0, .inl (ac 0, 162, .inl (az))), (rd0, .inl (ac 0, 63, .inl (rd)))] H → va_D A [(m0, .inr (6, [.int (0), .ref (z0), .int (nI (mSv sv + 1)), .ref (sd0), .int (nI (ln)), .ref (tx0), .ref (as0), .int (nI (stp)), .int (nI (po)), .int (tl), .ref (rd0), .long (hh)])), (z0, .inl (ac 0, 162, .inl ((mRun z i).1))), (sd0, .inl (ac 0, 972, .inl (mSave sd z sv))), (tx0, .inl (ac 0, 60, .inl (tx))), (as0, .inl (ac 0, 162, .inl (az))), (rd0, .inl (ac 0, 63, .inl (rd)))] → va_S A s.heap H locs → ∀ (ls : Array Slot), lv_has ls 4 [(3, .int (nI (i))), (2, .int ((mRun z i).2)), (0, .ref (m0)), (1, .int (nI (t)))] → W p l e ({ frames := 5, cells := 0, slots := 0, locals := 119 } : Room) s m args below meth c H locs 0 0 (MQ below (zQi D ac [(m0, .inr (6, [.int (th), .ref (z0), .int (nI (sv)), .ref (sd0), .int (nI (ln)), .ref (tx0), .ref (as0), .int (nI (stp)), .int (nI (po)), .int (tl), .ref (rd0), .long (hh)])), (z0, .inl (ac 0, 162, .inl (z))), (sd0, .inl (ac 0, 972, .inl (sd))), (tx0, .inl (ac 0, 60, .inl (tx))), (as0, .inl (ac 0, 162, .inl (az))), (rd0, .inl (ac 0, 63, .inl (rd)))] [(m0, .inr (6, [.int (0), .ref (z0), .int (nI (mSv sv + 1)), .ref (sd0), .int (nI (ln)), .ref (tx0), .ref (as0), .int (nI (stp)), .int (nI (po)), .int (tl), .ref (rd0), .long (hh)])), (z0, .inl (ac 0, 162, .inl (mSettle z t))), (sd0, .inl (ac 0, 972, .inl (mSave sd z sv))), (tx0, .inl (ac 0, 60, .inl (tx))), (as0, .inl (ac 0, 162, .inl (az))), (rd0, .inl (ac 0, 63, .inl (rd)))] sz ((mRun z (3 * t)).2)) args s 0 0 A) (F0 m 56 ls []) := by
    intro n
    induction n with
    | zero =>
      intro i hi H locs hP hD hS ls hl
      have e_i : 3 * t = i := by omega
      subst e_i
      refine lv_iload_n hx hb dX6_settle_56 rfl (lv_at hl 0 rfl) ?_
      refine lv_iconst (v := 3) hx hb dX6_settle_57 (by decide) ?_
      refine lv_iload_n hx hb dX6_settle_58 rfl (lv_at hl 3 rfl) ?_
      refine lv_imul hx hb dX6_settle_59 ?_
      refine z_top (y := nI ((3) * (t))) (pk_mul (3) (t)) ?_
      refine z_icmp_ge (tgt := 79) hx hb ((3 * t)) ((3) * (t)) dX6_settle_60 (by decide) (by omega) (by omega) rfl rfl (fun c_60 => ?_) (fun c_60 => absurd c_60 (by omega))
      refine lv_aload_n hx hb dX6_settle_79 rfl (lv_at hl 2 rfl) ?_
      refine va_get (ci := 6) (v := .ref (z0)) (C := RX6) (T := TX6) (N := 12) hx hb hts (by decide +kernel) hown hK hP 0 rfl rfl 1 (by decide) (hts (.fieldLink RX6 7 "SettlingJarsModel" "z" "[I") (by decide +kernel)) (fun _ h9 => h9) rfl dX6_settle_80 ?_
      refine lv_sipush (v := 160) hx hb dX6_settle_83 (by decide) ?_
      refine lv_dup2_11 hx hb dX6_settle_86 rfl rfl ?_
      refine z_iald hx hb hK hP 1 rfl (160) (rfl) (by omega) (by decide) dX6_settle_87 ?_
      refine lv_iload_n hx hb dX6_settle_88 rfl (lv_at hl 3 rfl) ?_
      refine lv_iadd hx hb dX6_settle_89 ?_
      refine z_iast hx hb hK hP hD hS 1 rfl (160) (rfl) (by omega) (by decide) dX6_settle_90 (fun H locs hP hD hS => ?_)
      have hP : va_P D vwCl [(m0, .inr (6, [.int (0), .ref (z0), .int (nI (mSv sv + 1)), .ref (sd0), .int (nI (ln)), .ref (tx0), .ref (as0), .int (nI (stp)), .int (nI (po)), .int (tl), .ref (rd0), .long (hh)])), (z0, .inl (ac 0, 162, .inl (upd ((mRun z (3 * t)).1) (160) ((((mRun z (3 * t)).1) 160) + (nI (t)))))), (sd0, .inl (ac 0, 972, .inl (mSave sd z sv))), (tx0, .inl (ac 0, 60, .inl (tx))), (as0, .inl (ac 0, 162, .inl (az))), (rd0, .inl (ac 0, 63, .inl (rd)))] H := hP
      have hD : va_D A [(m0, .inr (6, [.int (0), .ref (z0), .int (nI (mSv sv + 1)), .ref (sd0), .int (nI (ln)), .ref (tx0), .ref (as0), .int (nI (stp)), .int (nI (po)), .int (tl), .ref (rd0), .long (hh)])), (z0, .inl (ac 0, 162, .inl (upd ((mRun z (3 * t)).1) (160) ((((mRun z (3 * t)).1) 160) + (nI (t)))))), (sd0, .inl (ac 0, 972, .inl (mSave sd z sv))), (tx0, .inl (ac 0, 60, .inl (tx))), (as0, .inl (ac 0, 162, .inl (az))), (rd0, .inl (ac 0, 63, .inl (rd)))] := hD
      refine lv_aload_n hx hb dX6_settle_91 rfl (lv_at hl 2 rfl) ?_
      refine va_get (ci := 6) (v := .ref (z0)) (C := RX6) (T := TX6) (N := 12) hx hb hts (by decide +kernel) hown hK hP 0 rfl rfl 1 (by decide) (hts (.fieldLink RX6 7 "SettlingJarsModel" "z" "[I") (by decide +kernel)) (fun _ h9 => h9) rfl dX6_settle_92 ?_
      refine lv_sipush (v := 161) hx hb dX6_settle_95 (by decide) ?_
      refine lv_dup2_11 hx hb dX6_settle_98 rfl rfl ?_
      refine z_iald hx hb hK hP 1 rfl (161) (rfl) (by omega) (by decide) dX6_settle_99 ?_
      refine lv_iload_n hx hb dX6_settle_100 rfl (lv_at hl 1 rfl) ?_
      refine lv_iadd hx hb dX6_settle_101 ?_
      refine z_iast hx hb hK hP hD hS 1 rfl (161) (rfl) (by omega) (by decide) dX6_settle_102 (fun H locs hP hD hS => ?_)
      have hP : va_P D vwCl [(m0, .inr (6, [.int (0), .ref (z0), .int (nI (mSv sv + 1)), .ref (sd0), .int (nI (ln)), .ref (tx0), .ref (as0), .int (nI (stp)), .int (nI (po)), .int (tl), .ref (rd0), .long (hh)])), (z0, .inl (ac 0, 162, .inl (upd (upd ((mRun z (3 * t)).1) (160) ((((mRun z (3 * t)).1) 160) + (nI (t)))) (161) (((upd ((mRun z (3 * t)).1) (160) ((((mRun z (3 * t)).1) 160) + (nI (t)))) 161) + ((mRun z (3 * t)).2))))), (sd0, .inl (ac 0, 972, .inl (mSave sd z sv))), (tx0, .inl (ac 0, 60, .inl (tx))), (as0, .inl (ac 0, 162, .inl (az))), (rd0, .inl (ac 0, 63, .inl (rd)))] H := hP
      have hD : va_D A [(m0, .inr (6, [.int (0), .ref (z0), .int (nI (mSv sv + 1)), .ref (sd0), .int (nI (ln)), .ref (tx0), .ref (as0), .int (nI (stp)), .int (nI (po)), .int (tl), .ref (rd0), .long (hh)])), (z0, .inl (ac 0, 162, .inl (upd (upd ((mRun z (3 * t)).1) (160) ((((mRun z (3 * t)).1) 160) + (nI (t)))) (161) (((upd ((mRun z (3 * t)).1) (160) ((((mRun z (3 * t)).1) 160) + (nI (t)))) 161) + ((mRun z (3 * t)).2))))), (sd0, .inl (ac 0, 972, .inl (mSave sd z sv))), (tx0, .inl (ac 0, 60, .inl (tx))), (as0, .inl (ac 0, 162, .inl (az))), (rd0, .inl (ac 0, 63, .inl (rd)))] := hD
      refine lv_iload_n hx hb dX6_settle_103 rfl (lv_at hl 1 rfl) ?_
      exact z_iretW hx hb hr hlocks hK hP hD hS hAe (rfl) dX6_settle_104
    | succ n ih =>
      intro i hi H locs hP hD hS ls hl
      refine lv_iload_n hx hb dX6_settle_56 rfl (lv_at hl 0 rfl) ?_
      refine lv_iconst (v := 3) hx hb dX6_settle_57 (by decide) ?_
      refine lv_iload_n hx hb dX6_settle_58 rfl (lv_at hl 3 rfl) ?_
      refine lv_imul hx hb dX6_settle_59 ?_
      refine z_top (y := nI ((3) * (t))) (pk_mul (3) (t)) ?_
      refine z_icmp_ge (tgt := 79) hx hb (i) ((3) * (t)) dX6_settle_60 (by decide) (by omega) (by omega) rfl rfl (fun c_60 => absurd c_60 (by omega)) (fun c_60 => ?_)
      refine lv_iload_n hx hb dX6_settle_63 rfl (lv_at hl 1 rfl) ?_
      refine lv_aload_n hx hb dX6_settle_64 rfl (lv_at hl 2 rfl) ?_
      refine lv_iload_n hx hb dX6_settle_65 rfl (lv_at hl 0 rfl) ?_
      refine lv_iconst (v := 3) hx hb dX6_settle_66 (by decide) ?_
      refine lv_irem hx hb dX6_settle_67 (by decide) ?_
      refine z_top (y := nI ((i) % (3))) (pk_rem (a := i) (d := 3) (by omega) (by omega) (by omega)) ?_
      refine z_ciW [(m0, .inr (6, [.int (0), .ref (z0), .int (nI ((mSv sv + 1))), .ref (sd0), .int (nI (ln)), .ref (tx0), .ref (as0), .int (nI (stp)), .int (nI (po)), .int (tl), .ref (rd0), .long (hh)])), (z0, .inl (ac 0, 162, .inl ((mStep ((mRun z i).1) ((i) % (3))).1))), (sd0, .inl (ac 0, 972, .inl ((mSave sd z sv)))), (tx0, .inl (ac 0, 60, .inl (tx))), (as0, .inl (ac 0, 162, .inl (az))), (rd0, .inl (ac 0, 63, .inl (rd)))] (z_vrunW (rest := [.int ((mRun z i).2)]) (own := RX6) (As := [.int (nI ((i) % (3)))]) hx hb hml hown hts hl.1 hK hP hD [0, 1, 2, 3, 4, 5] rfl (by decide) rfl (metX6_stepOf l D ac _ m0 z0 sd0 tx0 as0 rd0 0 (mSv sv + 1) ln stp po tl hh ((mRun z i).1) (mSave sd z sv) tx az rd ((i) % (3)) (by omega) (m_good_run hG i)) gX6_settle_X6_stepOf rfl 1 (by decide +kernel) ⟨rfl, rfl, Nat.le_of_ble_eq_true rfl, Nat.le_of_ble_eq_true rfl⟩ 0 6 rfl rfl rfl rfl rfl (Nat.le_of_ble_eq_true rfl) dX6_settle_68 ⟨Nat.zero_le _, Nat.zero_le _⟩) hP hD hS hA [0, 1, 2, 3, 4, 5] [] [0, 1, 2, 3, 4, 5] rfl rfl (by decide) (by decide) (by decide) rfl (fun H locs hP hD hS => ?_)
      refine lv_iadd hx hb dX6_settle_71 ?_
      refine lv_istore_n (lv' := [(2, .int (((mRun z i).2) + ((mStep ((mRun z i).1) ((i) % (3))).2))), (3, .int (nI (i))), (0, .ref (m0)), (1, .int (nI (t)))]) hx hb dX6_settle_72 rfl hl (by decide) rfl (fun ls hl => ?_)
      refine lv_iinc (v := nI ((i) + 1)) (lv' := [(3, .int (nI ((i) + 1))), (2, .int (((mRun z i).2) + ((mStep ((mRun z i).1) ((i) % (3))).2))), (0, .ref (m0)), (1, .int (nI (t)))]) hx hb dX6_settle_73 hl (k := 1) rfl (show nI (i) + Int32.ofInt 1 = _ from nI_add (i) 1) (by decide) rfl (fun ls hl => ?_)
      refine lv_goto (tgt := 56) hx hb dX6_settle_76 (by decide) ?_
      exact ih (i + 1) (by omega) _ _ hP hD hS ls (lv_sub hl [0, 1, 2, 3] rfl)
  exact hL_56 (3 * t) (0) (by omega) _ _ hP hD hS ls (lv_sub hl [0, 1, 2, 3] rfl)

set_option maxRecDepth 100000 in
set_option maxHeartbeats 4000000 in
theorem metX6_append_1 (l : Launch) (D : va_G) (ac : Nat → ClassId) (sz : Nat) (m0 : Nat) (z0 : Nat) (sd0 : Nat) (tx0 : Nat) (as0 : Nat) (rd0 : Nat) (th : Int32) (sv : Nat) (ln : Nat) (stp : Nat) (po : Nat) (tl : Int32) (hh : Int64) (z : Nat → Int32) (sd : Nat → Int32) (tx : Nat → Int32) (az : Nat → Int32) (rd : Nat → Int32) (x1 : Int32) (h1 : ¬ (33 ≤ x1 ∧ x1 ≤ 126)) : Met l yX6_append wsX6_append ({ frames := 1, cells := 0, slots := 0, locals := 22 } : Room) (va_Pc [.ref (m0), .int (x1)] (zS D ac [(m0, .inr (6, [.int (th), .ref (z0), .int (nI (sv)), .ref (sd0), .int (nI (ln)), .ref (tx0), .ref (as0), .int (nI (stp)), .int (nI (po)), .int (tl), .ref (rd0), .long (hh)])), (z0, .inl (ac 0, 162, .inl (z))), (sd0, .inl (ac 0, 972, .inl (sd))), (tx0, .inl (ac 0, 60, .inl (tx))), (as0, .inl (ac 0, 162, .inl (az))), (rd0, .inl (ac 0, 63, .inl (rd)))] sz)) (zQi D ac [(m0, .inr (6, [.int (th), .ref (z0), .int (nI (sv)), .ref (sd0), .int (nI (ln)), .ref (tx0), .ref (as0), .int (nI (stp)), .int (nI (po)), .int (tl), .ref (rd0), .long (hh)])), (z0, .inl (ac 0, 162, .inl (z))), (sd0, .inl (ac 0, 972, .inl (sd))), (tx0, .inl (ac 0, 60, .inl (tx))), (as0, .inl (ac 0, 162, .inl (az))), (rd0, .inl (ac 0, 63, .inl (rd)))] [(m0, .inr (6, [.int (1), .ref (z0), .int (nI (sv)), .ref (sd0), .int (nI (ln)), .ref (tx0), .ref (as0), .int (nI (stp)), .int (nI (po)), .int (tl), .ref (rd0), .long (hh)])), (z0, .inl (ac 0, 162, .inl (z))), (sd0, .inl (ac 0, 972, .inl (sd))), (tx0, .inl (ac 0, 60, .inl (tx))), (as0, .inl (ac 0, 162, .inl (az))), (rd0, .inl (ac 0, 63, .inl (rd)))] sz (0)) 0 0 (va_A [(m0, .inr (6, [.int (th), .ref (z0), .int (nI (sv)), .ref (sd0), .int (nI (ln)), .ref (tx0), .ref (as0), .int (nI (stp)), .int (nI (po)), .int (tl), .ref (rd0), .long (hh)])), (z0, .inl (ac 0, 162, .inl (z))), (sd0, .inl (ac 0, 972, .inl (sd))), (tx0, .inl (ac 0, 60, .inl (tx))), (as0, .inl (ac 0, 162, .inl (az))), (rd0, .inl (ac 0, 63, .inl (rd)))] sz) := by
  refine z_rw (cc := cX6_append) (maxL := 2) (ret := (some .int)) (lv := [(0, .ref (m0)), (1, .int (x1))]) (by decide) rfl (Nat.le_of_ble_eq_true rfl) rfl ?_
  intro p e s m args below meth c ls A hx hb hr hml hown hts hlocks hl hK hP hsz hAe hA hD hS
  refine lv_aload_n hx hb dX6_append_0 rfl (lv_at hl 0 rfl) ?_
  refine lv_iload_n hx hb dX6_append_1 rfl (lv_at hl 1 rfl) ?_
  refine lv_bipush (v := 33) hx hb dX6_append_2 (by decide) ?_
  refine lv_bipush (v := 126) hx hb dX6_append_4 (by decide) ?_
  refine z_ci (z_srun (rest := [.ref (m0)]) (own := RX6) (As := [.int (x1), .int (33), .int (126)]) hx hb hml hown hts hl.1 hK hP [] rfl (metX6_within l D ac x1 33 126 ) gX6_append_X6_within rfl 3 (by decide +kernel) ⟨rfl, rfl, Nat.le_of_ble_eq_true rfl, Nat.le_of_ble_eq_true rfl⟩ rfl rfl (Nat.le_of_ble_eq_true rfl) dX6_append_6 ⟨Nat.zero_le _, Nat.zero_le _⟩) ?_
  refine z_if_ne (C := 33 ≤ x1 ∧ x1 ≤ 126) (tgt := 16) hx hb dX6_append_9 (by decide) (fun c_9 => absurd c_9 (h1)) (fun c_9 => ?_)
  refine lv_iconst (v := 1) hx hb dX6_append_12 (by decide) ?_
  refine lv_goto (tgt := 30) hx hb dX6_append_13 (by decide) ?_
  refine va_put (ci := 6) (v := .int (1)) (ty := .int) (C := RX6) (T := TX6) (N := 12) hx hb hts (by decide +kernel) tyX6 tyX6_ok nmX6 hown hK hP hD hS 0 rfl rfl 0 (by decide) (hts (.fieldLink RX6 25 "SettlingJarsModel" "thrown" "I") (by decide +kernel)) (fun _ h9 => h9) rfl (by decide +kernel) rfl rfl (Nat.le_of_ble_eq_true rfl) dX6_append_30 (fun H locs hP hD hS => ?_)
  have hP : va_P D vwCl [(m0, .inr (6, [.int (1), .ref (z0), .int (nI (sv)), .ref (sd0), .int (nI (ln)), .ref (tx0), .ref (as0), .int (nI (stp)), .int (nI (po)), .int (tl), .ref (rd0), .long (hh)])), (z0, .inl (ac 0, 162, .inl (z))), (sd0, .inl (ac 0, 972, .inl (sd))), (tx0, .inl (ac 0, 60, .inl (tx))), (as0, .inl (ac 0, 162, .inl (az))), (rd0, .inl (ac 0, 63, .inl (rd)))] H := hP
  have hD : va_D A [(m0, .inr (6, [.int (1), .ref (z0), .int (nI (sv)), .ref (sd0), .int (nI (ln)), .ref (tx0), .ref (as0), .int (nI (stp)), .int (nI (po)), .int (tl), .ref (rd0), .long (hh)])), (z0, .inl (ac 0, 162, .inl (z))), (sd0, .inl (ac 0, 972, .inl (sd))), (tx0, .inl (ac 0, 60, .inl (tx))), (as0, .inl (ac 0, 162, .inl (az))), (rd0, .inl (ac 0, 63, .inl (rd)))] := hD
  refine lv_aload_n hx hb dX6_append_33 rfl (lv_at hl 0 rfl) ?_
  refine va_get (ci := 6) (v := .int (1)) (C := RX6) (T := TX6) (N := 12) hx hb hts (by decide +kernel) hown hK hP 0 rfl rfl 0 (by decide) (hts (.fieldLink RX6 25 "SettlingJarsModel" "thrown" "I") (by decide +kernel)) (fun _ h9 => h9) rfl dX6_append_34 ?_
  refine lv_if_le (tgt := 42) hx hb dX6_append_37 (by decide) (fun c_ => absurd c_ (by decide)) (fun _ => ?_)
  refine lv_iconst (v := 0) hx hb dX6_append_40 (by decide) ?_
  exact z_iretW hx hb hr hlocks hK hP hD hS hAe (rfl) dX6_append_41

set_option maxRecDepth 100000 in
set_option maxHeartbeats 4000000 in
theorem metX6_append_2 (l : Launch) (D : va_G) (ac : Nat → ClassId) (sz : Nat) (m0 : Nat) (z0 : Nat) (sd0 : Nat) (tx0 : Nat) (as0 : Nat) (rd0 : Nat) (th : Int32) (sv : Nat) (ln : Nat) (stp : Nat) (po : Nat) (tl : Int32) (hh : Int64) (z : Nat → Int32) (sd : Nat → Int32) (tx : Nat → Int32) (az : Nat → Int32) (rd : Nat → Int32) (x1 : Int32) (h1 : 33 ≤ x1 ∧ x1 ≤ 126) (h2 : ln = 60) : Met l yX6_append wsX6_append ({ frames := 1, cells := 0, slots := 0, locals := 22 } : Room) (va_Pc [.ref (m0), .int (x1)] (zS D ac [(m0, .inr (6, [.int (th), .ref (z0), .int (nI (sv)), .ref (sd0), .int (nI (ln)), .ref (tx0), .ref (as0), .int (nI (stp)), .int (nI (po)), .int (tl), .ref (rd0), .long (hh)])), (z0, .inl (ac 0, 162, .inl (z))), (sd0, .inl (ac 0, 972, .inl (sd))), (tx0, .inl (ac 0, 60, .inl (tx))), (as0, .inl (ac 0, 162, .inl (az))), (rd0, .inl (ac 0, 63, .inl (rd)))] sz)) (zQi D ac [(m0, .inr (6, [.int (th), .ref (z0), .int (nI (sv)), .ref (sd0), .int (nI (ln)), .ref (tx0), .ref (as0), .int (nI (stp)), .int (nI (po)), .int (tl), .ref (rd0), .long (hh)])), (z0, .inl (ac 0, 162, .inl (z))), (sd0, .inl (ac 0, 972, .inl (sd))), (tx0, .inl (ac 0, 60, .inl (tx))), (as0, .inl (ac 0, 162, .inl (az))), (rd0, .inl (ac 0, 63, .inl (rd)))] [(m0, .inr (6, [.int (2), .ref (z0), .int (nI (sv)), .ref (sd0), .int (nI (ln)), .ref (tx0), .ref (as0), .int (nI (stp)), .int (nI (po)), .int (tl), .ref (rd0), .long (hh)])), (z0, .inl (ac 0, 162, .inl (z))), (sd0, .inl (ac 0, 972, .inl (sd))), (tx0, .inl (ac 0, 60, .inl (tx))), (as0, .inl (ac 0, 162, .inl (az))), (rd0, .inl (ac 0, 63, .inl (rd)))] sz (0)) 0 0 (va_A [(m0, .inr (6, [.int (th), .ref (z0), .int (nI (sv)), .ref (sd0), .int (nI (ln)), .ref (tx0), .ref (as0), .int (nI (stp)), .int (nI (po)), .int (tl), .ref (rd0), .long (hh)])), (z0, .inl (ac 0, 162, .inl (z))), (sd0, .inl (ac 0, 972, .inl (sd))), (tx0, .inl (ac 0, 60, .inl (tx))), (as0, .inl (ac 0, 162, .inl (az))), (rd0, .inl (ac 0, 63, .inl (rd)))] sz) := by
  refine z_rw (cc := cX6_append) (maxL := 2) (ret := (some .int)) (lv := [(0, .ref (m0)), (1, .int (x1))]) (by decide) rfl (Nat.le_of_ble_eq_true rfl) rfl ?_
  intro p e s m args below meth c ls A hx hb hr hml hown hts hlocks hl hK hP hsz hAe hA hD hS
  refine lv_aload_n hx hb dX6_append_0 rfl (lv_at hl 0 rfl) ?_
  refine lv_iload_n hx hb dX6_append_1 rfl (lv_at hl 1 rfl) ?_
  refine lv_bipush (v := 33) hx hb dX6_append_2 (by decide) ?_
  refine lv_bipush (v := 126) hx hb dX6_append_4 (by decide) ?_
  refine z_ci (z_srun (rest := [.ref (m0)]) (own := RX6) (As := [.int (x1), .int (33), .int (126)]) hx hb hml hown hts hl.1 hK hP [] rfl (metX6_within l D ac x1 33 126 ) gX6_append_X6_within rfl 3 (by decide +kernel) ⟨rfl, rfl, Nat.le_of_ble_eq_true rfl, Nat.le_of_ble_eq_true rfl⟩ rfl rfl (Nat.le_of_ble_eq_true rfl) dX6_append_6 ⟨Nat.zero_le _, Nat.zero_le _⟩) ?_
  refine z_if_ne (C := 33 ≤ x1 ∧ x1 ≤ 126) (tgt := 16) hx hb dX6_append_9 (by decide) (fun c_9 => ?_) (fun c_9 => absurd c_9 (fun q => q (h1)))
  refine lv_aload_n hx hb dX6_append_16 rfl (lv_at hl 0 rfl) ?_
  refine va_get (ci := 6) (v := .int (nI (ln))) (C := RX6) (T := TX6) (N := 12) hx hb hts (by decide +kernel) hown hK hP 0 rfl rfl 4 (by decide) (hts (.fieldLink RX6 114 "SettlingJarsModel" "length" "I") (by decide +kernel)) (fun _ h9 => h9) rfl dX6_append_17 ?_
  refine lv_bipush (v := 60) hx hb dX6_append_20 (by decide) ?_
  refine z_icmp_ne (tgt := 29) hx hb (ln) (60) dX6_append_22 (by decide) (by omega) (by omega) rfl rfl (fun c_22 => absurd c_22 (by omega)) (fun c_22 => ?_)
  refine lv_iconst (v := 2) hx hb dX6_append_25 (by decide) ?_
  refine lv_goto (tgt := 30) hx hb dX6_append_26 (by decide) ?_
  refine va_put (ci := 6) (v := .int (2)) (ty := .int) (C := RX6) (T := TX6) (N := 12) hx hb hts (by decide +kernel) tyX6 tyX6_ok nmX6 hown hK hP hD hS 0 rfl rfl 0 (by decide) (hts (.fieldLink RX6 25 "SettlingJarsModel" "thrown" "I") (by decide +kernel)) (fun _ h9 => h9) rfl (by decide +kernel) rfl rfl (Nat.le_of_ble_eq_true rfl) dX6_append_30 (fun H locs hP hD hS => ?_)
  have hP : va_P D vwCl [(m0, .inr (6, [.int (2), .ref (z0), .int (nI (sv)), .ref (sd0), .int (nI (ln)), .ref (tx0), .ref (as0), .int (nI (stp)), .int (nI (po)), .int (tl), .ref (rd0), .long (hh)])), (z0, .inl (ac 0, 162, .inl (z))), (sd0, .inl (ac 0, 972, .inl (sd))), (tx0, .inl (ac 0, 60, .inl (tx))), (as0, .inl (ac 0, 162, .inl (az))), (rd0, .inl (ac 0, 63, .inl (rd)))] H := hP
  have hD : va_D A [(m0, .inr (6, [.int (2), .ref (z0), .int (nI (sv)), .ref (sd0), .int (nI (ln)), .ref (tx0), .ref (as0), .int (nI (stp)), .int (nI (po)), .int (tl), .ref (rd0), .long (hh)])), (z0, .inl (ac 0, 162, .inl (z))), (sd0, .inl (ac 0, 972, .inl (sd))), (tx0, .inl (ac 0, 60, .inl (tx))), (as0, .inl (ac 0, 162, .inl (az))), (rd0, .inl (ac 0, 63, .inl (rd)))] := hD
  refine lv_aload_n hx hb dX6_append_33 rfl (lv_at hl 0 rfl) ?_
  refine va_get (ci := 6) (v := .int (2)) (C := RX6) (T := TX6) (N := 12) hx hb hts (by decide +kernel) hown hK hP 0 rfl rfl 0 (by decide) (hts (.fieldLink RX6 25 "SettlingJarsModel" "thrown" "I") (by decide +kernel)) (fun _ h9 => h9) rfl dX6_append_34 ?_
  refine lv_if_le (tgt := 42) hx hb dX6_append_37 (by decide) (fun c_ => absurd c_ (by decide)) (fun _ => ?_)
  refine lv_iconst (v := 0) hx hb dX6_append_40 (by decide) ?_
  exact z_iretW hx hb hr hlocks hK hP hD hS hAe (rfl) dX6_append_41

set_option maxRecDepth 100000 in
set_option maxHeartbeats 4000000 in
theorem metX6_append_0 (l : Launch) (D : va_G) (ac : Nat → ClassId) (sz : Nat) (m0 : Nat) (z0 : Nat) (sd0 : Nat) (tx0 : Nat) (as0 : Nat) (rd0 : Nat) (th : Int32) (sv : Nat) (ln : Nat) (stp : Nat) (po : Nat) (tl : Int32) (hh : Int64) (z : Nat → Int32) (sd : Nat → Int32) (tx : Nat → Int32) (az : Nat → Int32) (rd : Nat → Int32) (x1 : Int32) (h1 : 33 ≤ x1 ∧ x1 ≤ 126) (h2 : ln < 60) : Met l yX6_append wsX6_append ({ frames := 1, cells := 0, slots := 0, locals := 22 } : Room) (va_Pc [.ref (m0), .int (x1)] (zS D ac [(m0, .inr (6, [.int (th), .ref (z0), .int (nI (sv)), .ref (sd0), .int (nI (ln)), .ref (tx0), .ref (as0), .int (nI (stp)), .int (nI (po)), .int (tl), .ref (rd0), .long (hh)])), (z0, .inl (ac 0, 162, .inl (z))), (sd0, .inl (ac 0, 972, .inl (sd))), (tx0, .inl (ac 0, 60, .inl (tx))), (as0, .inl (ac 0, 162, .inl (az))), (rd0, .inl (ac 0, 63, .inl (rd)))] sz)) (zQi D ac [(m0, .inr (6, [.int (th), .ref (z0), .int (nI (sv)), .ref (sd0), .int (nI (ln)), .ref (tx0), .ref (as0), .int (nI (stp)), .int (nI (po)), .int (tl), .ref (rd0), .long (hh)])), (z0, .inl (ac 0, 162, .inl (z))), (sd0, .inl (ac 0, 972, .inl (sd))), (tx0, .inl (ac 0, 60, .inl (tx))), (as0, .inl (ac 0, 162, .inl (az))), (rd0, .inl (ac 0, 63, .inl (rd)))] [(m0, .inr (6, [.int (0), .ref (z0), .int (nI (sv)), .ref (sd0), .int (nI (ln + 1)), .ref (tx0), .ref (as0), .int (nI (stp)), .int (nI (po)), .int (tl), .ref (rd0), .long (hh)])), (z0, .inl (ac 0, 162, .inl (z))), (sd0, .inl (ac 0, 972, .inl (sd))), (tx0, .inl (ac 0, 60, .inl (upd tx ln x1))), (as0, .inl (ac 0, 162, .inl (az))), (rd0, .inl (ac 0, 63, .inl (rd)))] sz (nI (ln + 1))) 0 0 (va_A [(m0, .inr (6, [.int (th), .ref (z0), .int (nI (sv)), .ref (sd0), .int (nI (ln)), .ref (tx0), .ref (as0), .int (nI (stp)), .int (nI (po)), .int (tl), .ref (rd0), .long (hh)])), (z0, .inl (ac 0, 162, .inl (z))), (sd0, .inl (ac 0, 972, .inl (sd))), (tx0, .inl (ac 0, 60, .inl (tx))), (as0, .inl (ac 0, 162, .inl (az))), (rd0, .inl (ac 0, 63, .inl (rd)))] sz) := by
  refine z_rw (cc := cX6_append) (maxL := 2) (ret := (some .int)) (lv := [(0, .ref (m0)), (1, .int (x1))]) (by decide) rfl (Nat.le_of_ble_eq_true rfl) rfl ?_
  intro p e s m args below meth c ls A hx hb hr hml hown hts hlocks hl hK hP hsz hAe hA hD hS
  refine lv_aload_n hx hb dX6_append_0 rfl (lv_at hl 0 rfl) ?_
  refine lv_iload_n hx hb dX6_append_1 rfl (lv_at hl 1 rfl) ?_
  refine lv_bipush (v := 33) hx hb dX6_append_2 (by decide) ?_
  refine lv_bipush (v := 126) hx hb dX6_append_4 (by decide) ?_
  refine z_ci (z_srun (rest := [.ref (m0)]) (own := RX6) (As := [.int (x1), .int (33), .int (126)]) hx hb hml hown hts hl.1 hK hP [] rfl (metX6_within l D ac x1 33 126 ) gX6_append_X6_within rfl 3 (by decide +kernel) ⟨rfl, rfl, Nat.le_of_ble_eq_true rfl, Nat.le_of_ble_eq_true rfl⟩ rfl rfl (Nat.le_of_ble_eq_true rfl) dX6_append_6 ⟨Nat.zero_le _, Nat.zero_le _⟩) ?_
  refine z_if_ne (C := 33 ≤ x1 ∧ x1 ≤ 126) (tgt := 16) hx hb dX6_append_9 (by decide) (fun c_9 => ?_) (fun c_9 => absurd c_9 (fun q => q (h1)))
  refine lv_aload_n hx hb dX6_append_16 rfl (lv_at hl 0 rfl) ?_
  refine va_get (ci := 6) (v := .int (nI (ln))) (C := RX6) (T := TX6) (N := 12) hx hb hts (by decide +kernel) hown hK hP 0 rfl rfl 4 (by decide) (hts (.fieldLink RX6 114 "SettlingJarsModel" "length" "I") (by decide +kernel)) (fun _ h9 => h9) rfl dX6_append_17 ?_
  refine lv_bipush (v := 60) hx hb dX6_append_20 (by decide) ?_
  refine z_icmp_ne (tgt := 29) hx hb (ln) (60) dX6_append_22 (by decide) (by omega) (by omega) rfl rfl (fun c_22 => ?_) (fun c_22 => absurd c_22 (by omega))
  refine lv_iconst (v := 0) hx hb dX6_append_29 (by decide) ?_
  refine va_put (ci := 6) (v := .int (0)) (ty := .int) (C := RX6) (T := TX6) (N := 12) hx hb hts (by decide +kernel) tyX6 tyX6_ok nmX6 hown hK hP hD hS 0 rfl rfl 0 (by decide) (hts (.fieldLink RX6 25 "SettlingJarsModel" "thrown" "I") (by decide +kernel)) (fun _ h9 => h9) rfl (by decide +kernel) rfl rfl (Nat.le_of_ble_eq_true rfl) dX6_append_30 (fun H locs hP hD hS => ?_)
  have hP : va_P D vwCl [(m0, .inr (6, [.int (0), .ref (z0), .int (nI (sv)), .ref (sd0), .int (nI (ln)), .ref (tx0), .ref (as0), .int (nI (stp)), .int (nI (po)), .int (tl), .ref (rd0), .long (hh)])), (z0, .inl (ac 0, 162, .inl (z))), (sd0, .inl (ac 0, 972, .inl (sd))), (tx0, .inl (ac 0, 60, .inl (tx))), (as0, .inl (ac 0, 162, .inl (az))), (rd0, .inl (ac 0, 63, .inl (rd)))] H := hP
  have hD : va_D A [(m0, .inr (6, [.int (0), .ref (z0), .int (nI (sv)), .ref (sd0), .int (nI (ln)), .ref (tx0), .ref (as0), .int (nI (stp)), .int (nI (po)), .int (tl), .ref (rd0), .long (hh)])), (z0, .inl (ac 0, 162, .inl (z))), (sd0, .inl (ac 0, 972, .inl (sd))), (tx0, .inl (ac 0, 60, .inl (tx))), (as0, .inl (ac 0, 162, .inl (az))), (rd0, .inl (ac 0, 63, .inl (rd)))] := hD
  refine lv_aload_n hx hb dX6_append_33 rfl (lv_at hl 0 rfl) ?_
  refine va_get (ci := 6) (v := .int (0)) (C := RX6) (T := TX6) (N := 12) hx hb hts (by decide +kernel) hown hK hP 0 rfl rfl 0 (by decide) (hts (.fieldLink RX6 25 "SettlingJarsModel" "thrown" "I") (by decide +kernel)) (fun _ h9 => h9) rfl dX6_append_34 ?_
  refine lv_if_le (tgt := 42) hx hb dX6_append_37 (by decide) (fun _ => ?_) (fun c_ => absurd (by decide) c_)
  refine lv_aload_n hx hb dX6_append_42 rfl (lv_at hl 0 rfl) ?_
  refine va_get (ci := 6) (v := .ref (tx0)) (C := RX6) (T := TX6) (N := 12) hx hb hts (by decide +kernel) hown hK hP 0 rfl rfl 5 (by decide) (hts (.fieldLink RX6 16 "SettlingJarsModel" "text" "[I") (by decide +kernel)) (fun _ h9 => h9) rfl dX6_append_43 ?_
  refine lv_aload_n hx hb dX6_append_46 rfl (lv_at hl 0 rfl) ?_
  refine va_get (ci := 6) (v := .int (nI (ln))) (C := RX6) (T := TX6) (N := 12) hx hb hts (by decide +kernel) hown hK hP 0 rfl rfl 4 (by decide) (hts (.fieldLink RX6 114 "SettlingJarsModel" "length" "I") (by decide +kernel)) (fun _ h9 => h9) rfl dX6_append_47 ?_
  refine lv_iload_n hx hb dX6_append_50 rfl (lv_at hl 1 rfl) ?_
  refine z_iast hx hb hK hP hD hS 3 rfl (ln) (rfl) (by omega) (by decide) dX6_append_51 (fun H locs hP hD hS => ?_)
  have hP : va_P D vwCl [(m0, .inr (6, [.int (0), .ref (z0), .int (nI (sv)), .ref (sd0), .int (nI (ln)), .ref (tx0), .ref (as0), .int (nI (stp)), .int (nI (po)), .int (tl), .ref (rd0), .long (hh)])), (z0, .inl (ac 0, 162, .inl (z))), (sd0, .inl (ac 0, 972, .inl (sd))), (tx0, .inl (ac 0, 60, .inl (upd (tx) (ln) (x1)))), (as0, .inl (ac 0, 162, .inl (az))), (rd0, .inl (ac 0, 63, .inl (rd)))] H := hP
  have hD : va_D A [(m0, .inr (6, [.int (0), .ref (z0), .int (nI (sv)), .ref (sd0), .int (nI (ln)), .ref (tx0), .ref (as0), .int (nI (stp)), .int (nI (po)), .int (tl), .ref (rd0), .long (hh)])), (z0, .inl (ac 0, 162, .inl (z))), (sd0, .inl (ac 0, 972, .inl (sd))), (tx0, .inl (ac 0, 60, .inl (upd (tx) (ln) (x1)))), (as0, .inl (ac 0, 162, .inl (az))), (rd0, .inl (ac 0, 63, .inl (rd)))] := hD
  refine lv_aload_n hx hb dX6_append_52 rfl (lv_at hl 0 rfl) ?_
  refine lv_dup hx hb dX6_append_53 rfl ?_
  refine va_get (ci := 6) (v := .int (nI (ln))) (C := RX6) (T := TX6) (N := 12) hx hb hts (by decide +kernel) hown hK hP 0 rfl rfl 4 (by decide) (hts (.fieldLink RX6 114 "SettlingJarsModel" "length" "I") (by decide +kernel)) (fun _ h9 => h9) rfl dX6_append_54 ?_
  refine lv_iconst (v := 1) hx hb dX6_append_57 (by decide) ?_
  refine lv_iadd hx hb dX6_append_58 ?_
  refine z_top (y := nI ((ln) + (1))) (nI_add (ln) (1)) ?_
  refine va_put (ci := 6) (v := .int (nI ((ln) + (1)))) (ty := .int) (C := RX6) (T := TX6) (N := 12) hx hb hts (by decide +kernel) tyX6 tyX6_ok nmX6 hown hK hP hD hS 0 rfl rfl 4 (by decide) (hts (.fieldLink RX6 114 "SettlingJarsModel" "length" "I") (by decide +kernel)) (fun _ h9 => h9) rfl (by decide +kernel) rfl rfl (Nat.le_of_ble_eq_true rfl) dX6_append_59 (fun H locs hP hD hS => ?_)
  have hP : va_P D vwCl [(m0, .inr (6, [.int (0), .ref (z0), .int (nI (sv)), .ref (sd0), .int (nI ((ln) + (1))), .ref (tx0), .ref (as0), .int (nI (stp)), .int (nI (po)), .int (tl), .ref (rd0), .long (hh)])), (z0, .inl (ac 0, 162, .inl (z))), (sd0, .inl (ac 0, 972, .inl (sd))), (tx0, .inl (ac 0, 60, .inl (upd (tx) (ln) (x1)))), (as0, .inl (ac 0, 162, .inl (az))), (rd0, .inl (ac 0, 63, .inl (rd)))] H := hP
  have hD : va_D A [(m0, .inr (6, [.int (0), .ref (z0), .int (nI (sv)), .ref (sd0), .int (nI ((ln) + (1))), .ref (tx0), .ref (as0), .int (nI (stp)), .int (nI (po)), .int (tl), .ref (rd0), .long (hh)])), (z0, .inl (ac 0, 162, .inl (z))), (sd0, .inl (ac 0, 972, .inl (sd))), (tx0, .inl (ac 0, 60, .inl (upd (tx) (ln) (x1)))), (as0, .inl (ac 0, 162, .inl (az))), (rd0, .inl (ac 0, 63, .inl (rd)))] := hD
  refine lv_aload_n hx hb dX6_append_62 rfl (lv_at hl 0 rfl) ?_
  refine va_get (ci := 6) (v := .int (nI ((ln) + (1)))) (C := RX6) (T := TX6) (N := 12) hx hb hts (by decide +kernel) hown hK hP 0 rfl rfl 4 (by decide) (hts (.fieldLink RX6 114 "SettlingJarsModel" "length" "I") (by decide +kernel)) (fun _ h9 => h9) rfl dX6_append_63 ?_
  exact z_iretW hx hb hr hlocks hK hP hD hS hAe (rfl) dX6_append_66

set_option maxRecDepth 100000 in
set_option maxHeartbeats 4000000 in
theorem metX6_clearBuffer (l : Launch) (D : va_G) (ac : Nat → ClassId) (sz : Nat) (m0 : Nat) (z0 : Nat) (sd0 : Nat) (tx0 : Nat) (as0 : Nat) (rd0 : Nat) (th : Int32) (sv : Nat) (ln : Nat) (stp : Nat) (po : Nat) (tl : Int32) (hh : Int64) (z : Nat → Int32) (sd : Nat → Int32) (tx : Nat → Int32) (az : Nat → Int32) (rd : Nat → Int32)  : Met l yX6_clearBuffer wsX6_clearBuffer ({ frames := 0, cells := 0, slots := 0, locals := 0 } : Room) (va_Pc [.ref (m0)] (zS D ac [(m0, .inr (6, [.int (th), .ref (z0), .int (nI (sv)), .ref (sd0), .int (nI (ln)), .ref (tx0), .ref (as0), .int (nI (stp)), .int (nI (po)), .int (tl), .ref (rd0), .long (hh)])), (z0, .inl (ac 0, 162, .inl (z))), (sd0, .inl (ac 0, 972, .inl (sd))), (tx0, .inl (ac 0, 60, .inl (tx))), (as0, .inl (ac 0, 162, .inl (az))), (rd0, .inl (ac 0, 63, .inl (rd)))] sz)) (zQi D ac [(m0, .inr (6, [.int (th), .ref (z0), .int (nI (sv)), .ref (sd0), .int (nI (ln)), .ref (tx0), .ref (as0), .int (nI (stp)), .int (nI (po)), .int (tl), .ref (rd0), .long (hh)])), (z0, .inl (ac 0, 162, .inl (z))), (sd0, .inl (ac 0, 972, .inl (sd))), (tx0, .inl (ac 0, 60, .inl (tx))), (as0, .inl (ac 0, 162, .inl (az))), (rd0, .inl (ac 0, 63, .inl (rd)))] [(m0, .inr (6, [.int (0), .ref (z0), .int (nI (sv)), .ref (sd0), .int (0), .ref (tx0), .ref (as0), .int (nI (stp)), .int (nI (po)), .int (tl), .ref (rd0), .long (hh)])), (z0, .inl (ac 0, 162, .inl (z))), (sd0, .inl (ac 0, 972, .inl (sd))), (tx0, .inl (ac 0, 60, .inl (tx))), (as0, .inl (ac 0, 162, .inl (az))), (rd0, .inl (ac 0, 63, .inl (rd)))] sz (nI (ln))) 0 0 (va_A [(m0, .inr (6, [.int (th), .ref (z0), .int (nI (sv)), .ref (sd0), .int (nI (ln)), .ref (tx0), .ref (as0), .int (nI (stp)), .int (nI (po)), .int (tl), .ref (rd0), .long (hh)])), (z0, .inl (ac 0, 162, .inl (z))), (sd0, .inl (ac 0, 972, .inl (sd))), (tx0, .inl (ac 0, 60, .inl (tx))), (as0, .inl (ac 0, 162, .inl (az))), (rd0, .inl (ac 0, 63, .inl (rd)))] sz) := by
  refine z_rw (cc := cX6_clearBuffer) (maxL := 2) (ret := (some .int)) (lv := [(0, .ref (m0))]) (by decide) rfl (Nat.le_of_ble_eq_true rfl) rfl ?_
  intro p e s m args below meth c ls A hx hb hr hml hown hts hlocks hl hK hP hsz hAe hA hD hS
  refine lv_aload_n hx hb dX6_clearBuffer_0 rfl (lv_at hl 0 rfl) ?_
  refine lv_iconst (v := 0) hx hb dX6_clearBuffer_1 (by decide) ?_
  refine va_put (ci := 6) (v := .int (0)) (ty := .int) (C := RX6) (T := TX6) (N := 12) hx hb hts (by decide +kernel) tyX6 tyX6_ok nmX6 hown hK hP hD hS 0 rfl rfl 0 (by decide) (hts (.fieldLink RX6 25 "SettlingJarsModel" "thrown" "I") (by decide +kernel)) (fun _ h9 => h9) rfl (by decide +kernel) rfl rfl (Nat.le_of_ble_eq_true rfl) dX6_clearBuffer_2 (fun H locs hP hD hS => ?_)
  have hP : va_P D vwCl [(m0, .inr (6, [.int (0), .ref (z0), .int (nI (sv)), .ref (sd0), .int (nI (ln)), .ref (tx0), .ref (as0), .int (nI (stp)), .int (nI (po)), .int (tl), .ref (rd0), .long (hh)])), (z0, .inl (ac 0, 162, .inl (z))), (sd0, .inl (ac 0, 972, .inl (sd))), (tx0, .inl (ac 0, 60, .inl (tx))), (as0, .inl (ac 0, 162, .inl (az))), (rd0, .inl (ac 0, 63, .inl (rd)))] H := hP
  have hD : va_D A [(m0, .inr (6, [.int (0), .ref (z0), .int (nI (sv)), .ref (sd0), .int (nI (ln)), .ref (tx0), .ref (as0), .int (nI (stp)), .int (nI (po)), .int (tl), .ref (rd0), .long (hh)])), (z0, .inl (ac 0, 162, .inl (z))), (sd0, .inl (ac 0, 972, .inl (sd))), (tx0, .inl (ac 0, 60, .inl (tx))), (as0, .inl (ac 0, 162, .inl (az))), (rd0, .inl (ac 0, 63, .inl (rd)))] := hD
  refine lv_aload_n hx hb dX6_clearBuffer_5 rfl (lv_at hl 0 rfl) ?_
  refine va_get (ci := 6) (v := .int (nI (ln))) (C := RX6) (T := TX6) (N := 12) hx hb hts (by decide +kernel) hown hK hP 0 rfl rfl 4 (by decide) (hts (.fieldLink RX6 114 "SettlingJarsModel" "length" "I") (by decide +kernel)) (fun _ h9 => h9) rfl dX6_clearBuffer_6 ?_
  refine lv_istore_n (lv' := [(1, .int (nI (ln))), (0, .ref (m0))]) hx hb dX6_clearBuffer_9 rfl hl (by decide) rfl (fun ls hl => ?_)
  refine lv_aload_n hx hb dX6_clearBuffer_10 rfl (lv_at hl 1 rfl) ?_
  refine lv_iconst (v := 0) hx hb dX6_clearBuffer_11 (by decide) ?_
  refine va_put (ci := 6) (v := .int (0)) (ty := .int) (C := RX6) (T := TX6) (N := 12) hx hb hts (by decide +kernel) tyX6 tyX6_ok nmX6 hown hK hP hD hS 0 rfl rfl 4 (by decide) (hts (.fieldLink RX6 114 "SettlingJarsModel" "length" "I") (by decide +kernel)) (fun _ h9 => h9) rfl (by decide +kernel) rfl rfl (Nat.le_of_ble_eq_true rfl) dX6_clearBuffer_12 (fun H locs hP hD hS => ?_)
  have hP : va_P D vwCl [(m0, .inr (6, [.int (0), .ref (z0), .int (nI (sv)), .ref (sd0), .int (0), .ref (tx0), .ref (as0), .int (nI (stp)), .int (nI (po)), .int (tl), .ref (rd0), .long (hh)])), (z0, .inl (ac 0, 162, .inl (z))), (sd0, .inl (ac 0, 972, .inl (sd))), (tx0, .inl (ac 0, 60, .inl (tx))), (as0, .inl (ac 0, 162, .inl (az))), (rd0, .inl (ac 0, 63, .inl (rd)))] H := hP
  have hD : va_D A [(m0, .inr (6, [.int (0), .ref (z0), .int (nI (sv)), .ref (sd0), .int (0), .ref (tx0), .ref (as0), .int (nI (stp)), .int (nI (po)), .int (tl), .ref (rd0), .long (hh)])), (z0, .inl (ac 0, 162, .inl (z))), (sd0, .inl (ac 0, 972, .inl (sd))), (tx0, .inl (ac 0, 60, .inl (tx))), (as0, .inl (ac 0, 162, .inl (az))), (rd0, .inl (ac 0, 63, .inl (rd)))] := hD
  refine lv_iload_n hx hb dX6_clearBuffer_15 rfl (lv_at hl 0 rfl) ?_
  exact z_iretW hx hb hr hlocks hK hP hD hS hAe (rfl) dX6_clearBuffer_16

set_option maxRecDepth 100000 in
set_option maxHeartbeats 4000000 in
theorem metX6_undo_1 (l : Launch) (D : va_G) (ac : Nat → ClassId) (sz : Nat) (m0 : Nat) (z0 : Nat) (sd0 : Nat) (tx0 : Nat) (as0 : Nat) (rd0 : Nat) (th : Int32) (sv : Nat) (ln : Nat) (stp : Nat) (po : Nat) (tl : Int32) (hh : Int64) (z : Nat → Int32) (sd : Nat → Int32) (tx : Nat → Int32) (az : Nat → Int32) (rd : Nat → Int32)  : Met l yX6_undo wsX6_undo ({ frames := 0, cells := 0, slots := 0, locals := 0 } : Room) (va_Pc [.ref (m0)] (zS D ac [(m0, .inr (6, [.int (th), .ref (z0), .int (0), .ref (sd0), .int (nI (ln)), .ref (tx0), .ref (as0), .int (nI (stp)), .int (nI (po)), .int (tl), .ref (rd0), .long (hh)])), (z0, .inl (ac 0, 162, .inl (z))), (sd0, .inl (ac 0, 972, .inl (sd))), (tx0, .inl (ac 0, 60, .inl (tx))), (as0, .inl (ac 0, 162, .inl (az))), (rd0, .inl (ac 0, 63, .inl (rd)))] sz)) (zQi D ac [(m0, .inr (6, [.int (th), .ref (z0), .int (0), .ref (sd0), .int (nI (ln)), .ref (tx0), .ref (as0), .int (nI (stp)), .int (nI (po)), .int (tl), .ref (rd0), .long (hh)])), (z0, .inl (ac 0, 162, .inl (z))), (sd0, .inl (ac 0, 972, .inl (sd))), (tx0, .inl (ac 0, 60, .inl (tx))), (as0, .inl (ac 0, 162, .inl (az))), (rd0, .inl (ac 0, 63, .inl (rd)))] [(m0, .inr (6, [.int (1), .ref (z0), .int (0), .ref (sd0), .int (nI (ln)), .ref (tx0), .ref (as0), .int (nI (stp)), .int (nI (po)), .int (tl), .ref (rd0), .long (hh)])), (z0, .inl (ac 0, 162, .inl (z))), (sd0, .inl (ac 0, 972, .inl (sd))), (tx0, .inl (ac 0, 60, .inl (tx))), (as0, .inl (ac 0, 162, .inl (az))), (rd0, .inl (ac 0, 63, .inl (rd)))] sz (0)) 0 0 (va_A [(m0, .inr (6, [.int (th), .ref (z0), .int (0), .ref (sd0), .int (nI (ln)), .ref (tx0), .ref (as0), .int (nI (stp)), .int (nI (po)), .int (tl), .ref (rd0), .long (hh)])), (z0, .inl (ac 0, 162, .inl (z))), (sd0, .inl (ac 0, 972, .inl (sd))), (tx0, .inl (ac 0, 60, .inl (tx))), (as0, .inl (ac 0, 162, .inl (az))), (rd0, .inl (ac 0, 63, .inl (rd)))] sz) := by
  refine z_rw (cc := cX6_undo) (maxL := 2) (ret := (some .int)) (lv := [(0, .ref (m0))]) (by decide) rfl (Nat.le_of_ble_eq_true rfl) rfl ?_
  intro p e s m args below meth c ls A hx hb hr hml hown hts hlocks hl hK hP hsz hAe hA hD hS
  refine lv_aload_n hx hb dX6_undo_0 rfl (lv_at hl 0 rfl) ?_
  refine lv_aload_n hx hb dX6_undo_1 rfl (lv_at hl 0 rfl) ?_
  refine va_get (ci := 6) (v := .int (0)) (C := RX6) (T := TX6) (N := 12) hx hb hts (by decide +kernel) hown hK hP 0 rfl rfl 2 (by decide) (hts (.fieldLink RX6 73 "SettlingJarsModel" "saves" "I") (by decide +kernel)) (fun _ h9 => h9) rfl dX6_undo_2 ?_
  refine lv_if_le (tgt := 12) hx hb dX6_undo_5 (by decide) (fun _ => ?_) (fun c_ => absurd (by decide) c_)
  refine lv_iconst (v := 1) hx hb dX6_undo_12 (by decide) ?_
  refine va_put (ci := 6) (v := .int (1)) (ty := .int) (C := RX6) (T := TX6) (N := 12) hx hb hts (by decide +kernel) tyX6 tyX6_ok nmX6 hown hK hP hD hS 0 rfl rfl 0 (by decide) (hts (.fieldLink RX6 25 "SettlingJarsModel" "thrown" "I") (by decide +kernel)) (fun _ h9 => h9) rfl (by decide +kernel) rfl rfl (Nat.le_of_ble_eq_true rfl) dX6_undo_13 (fun H locs hP hD hS => ?_)
  have hP : va_P D vwCl [(m0, .inr (6, [.int (1), .ref (z0), .int (0), .ref (sd0), .int (nI (ln)), .ref (tx0), .ref (as0), .int (nI (stp)), .int (nI (po)), .int (tl), .ref (rd0), .long (hh)])), (z0, .inl (ac 0, 162, .inl (z))), (sd0, .inl (ac 0, 972, .inl (sd))), (tx0, .inl (ac 0, 60, .inl (tx))), (as0, .inl (ac 0, 162, .inl (az))), (rd0, .inl (ac 0, 63, .inl (rd)))] H := hP
  have hD : va_D A [(m0, .inr (6, [.int (1), .ref (z0), .int (0), .ref (sd0), .int (nI (ln)), .ref (tx0), .ref (as0), .int (nI (stp)), .int (nI (po)), .int (tl), .ref (rd0), .long (hh)])), (z0, .inl (ac 0, 162, .inl (z))), (sd0, .inl (ac 0, 972, .inl (sd))), (tx0, .inl (ac 0, 60, .inl (tx))), (as0, .inl (ac 0, 162, .inl (az))), (rd0, .inl (ac 0, 63, .inl (rd)))] := hD
  refine lv_aload_n hx hb dX6_undo_16 rfl (lv_at hl 0 rfl) ?_
  refine va_get (ci := 6) (v := .int (1)) (C := RX6) (T := TX6) (N := 12) hx hb hts (by decide +kernel) hown hK hP 0 rfl rfl 0 (by decide) (hts (.fieldLink RX6 25 "SettlingJarsModel" "thrown" "I") (by decide +kernel)) (fun _ h9 => h9) rfl dX6_undo_17 ?_
  refine lv_if_le (tgt := 25) hx hb dX6_undo_20 (by decide) (fun c_ => absurd c_ (by decide)) (fun _ => ?_)
  refine lv_iconst (v := 0) hx hb dX6_undo_23 (by decide) ?_
  exact z_iretW hx hb hr hlocks hK hP hD hS hAe (rfl) dX6_undo_24

set_option maxRecDepth 100000 in
set_option maxHeartbeats 4000000 in
theorem metX6_undo_0 (l : Launch) (D : va_G) (ac : Nat → ClassId) (sz : Nat) (m0 : Nat) (z0 : Nat) (sd0 : Nat) (tx0 : Nat) (as0 : Nat) (rd0 : Nat) (th : Int32) (sv : Nat) (ln : Nat) (stp : Nat) (po : Nat) (tl : Int32) (hh : Int64) (z : Nat → Int32) (sd : Nat → Int32) (tx : Nat → Int32) (az : Nat → Int32) (rd : Nat → Int32) (hsv : sv < 6) : Met l yX6_undo wsX6_undo ({ frames := 0, cells := 0, slots := 0, locals := 0 } : Room) (va_Pc [.ref (m0)] (zS D ac [(m0, .inr (6, [.int (th), .ref (z0), .int (nI (sv + 1)), .ref (sd0), .int (nI (ln)), .ref (tx0), .ref (as0), .int (nI (stp)), .int (nI (po)), .int (tl), .ref (rd0), .long (hh)])), (z0, .inl (ac 0, 162, .inl (z))), (sd0, .inl (ac 0, 972, .inl (sd))), (tx0, .inl (ac 0, 60, .inl (tx))), (as0, .inl (ac 0, 162, .inl (az))), (rd0, .inl (ac 0, 63, .inl (rd)))] sz)) (zQi D ac [(m0, .inr (6, [.int (th), .ref (z0), .int (nI (sv + 1)), .ref (sd0), .int (nI (ln)), .ref (tx0), .ref (as0), .int (nI (stp)), .int (nI (po)), .int (tl), .ref (rd0), .long (hh)])), (z0, .inl (ac 0, 162, .inl (z))), (sd0, .inl (ac 0, 972, .inl (sd))), (tx0, .inl (ac 0, 60, .inl (tx))), (as0, .inl (ac 0, 162, .inl (az))), (rd0, .inl (ac 0, 63, .inl (rd)))] [(m0, .inr (6, [.int (0), .ref (z0), .int (nI (sv)), .ref (sd0), .int (nI (ln)), .ref (tx0), .ref (as0), .int (nI (stp)), .int (nI (po)), .int (tl), .ref (rd0), .long (hh)])), (z0, .inl (ac 0, 162, .inl (mUndo sd z sv 162))), (sd0, .inl (ac 0, 972, .inl (sd))), (tx0, .inl (ac 0, 60, .inl (tx))), (as0, .inl (ac 0, 162, .inl (az))), (rd0, .inl (ac 0, 63, .inl (rd)))] sz (nI (sv))) 0 0 (va_A [(m0, .inr (6, [.int (th), .ref (z0), .int (nI (sv + 1)), .ref (sd0), .int (nI (ln)), .ref (tx0), .ref (as0), .int (nI (stp)), .int (nI (po)), .int (tl), .ref (rd0), .long (hh)])), (z0, .inl (ac 0, 162, .inl (z))), (sd0, .inl (ac 0, 972, .inl (sd))), (tx0, .inl (ac 0, 60, .inl (tx))), (as0, .inl (ac 0, 162, .inl (az))), (rd0, .inl (ac 0, 63, .inl (rd)))] sz) := by
  refine z_rw (cc := cX6_undo) (maxL := 2) (ret := (some .int)) (lv := [(0, .ref (m0))]) (by decide) rfl (Nat.le_of_ble_eq_true rfl) rfl ?_
  intro p e s m args below meth c ls A hx hb hr hml hown hts hlocks hl hK hP hsz hAe hA hD hS
  refine lv_aload_n hx hb dX6_undo_0 rfl (lv_at hl 0 rfl) ?_
  refine lv_aload_n hx hb dX6_undo_1 rfl (lv_at hl 0 rfl) ?_
  refine va_get (ci := 6) (v := .int (nI (sv + 1))) (C := RX6) (T := TX6) (N := 12) hx hb hts (by decide +kernel) hown hK hP 0 rfl rfl 2 (by decide) (hts (.fieldLink RX6 73 "SettlingJarsModel" "saves" "I") (by decide +kernel)) (fun _ h9 => h9) rfl dX6_undo_2 ?_
  refine lv_if_le (tgt := 12) hx hb dX6_undo_5 (by decide) (fun c_5 => absurd c_5 (nI_nle (by omega) (by omega))) (fun c_5 => ?_)
  refine lv_iconst (v := 0) hx hb dX6_undo_8 (by decide) ?_
  refine lv_goto (tgt := 13) hx hb dX6_undo_9 (by decide) ?_
  refine va_put (ci := 6) (v := .int (0)) (ty := .int) (C := RX6) (T := TX6) (N := 12) hx hb hts (by decide +kernel) tyX6 tyX6_ok nmX6 hown hK hP hD hS 0 rfl rfl 0 (by decide) (hts (.fieldLink RX6 25 "SettlingJarsModel" "thrown" "I") (by decide +kernel)) (fun _ h9 => h9) rfl (by decide +kernel) rfl rfl (Nat.le_of_ble_eq_true rfl) dX6_undo_13 (fun H locs hP hD hS => ?_)
  have hP : va_P D vwCl [(m0, .inr (6, [.int (0), .ref (z0), .int (nI (sv + 1)), .ref (sd0), .int (nI (ln)), .ref (tx0), .ref (as0), .int (nI (stp)), .int (nI (po)), .int (tl), .ref (rd0), .long (hh)])), (z0, .inl (ac 0, 162, .inl (z))), (sd0, .inl (ac 0, 972, .inl (sd))), (tx0, .inl (ac 0, 60, .inl (tx))), (as0, .inl (ac 0, 162, .inl (az))), (rd0, .inl (ac 0, 63, .inl (rd)))] H := hP
  have hD : va_D A [(m0, .inr (6, [.int (0), .ref (z0), .int (nI (sv + 1)), .ref (sd0), .int (nI (ln)), .ref (tx0), .ref (as0), .int (nI (stp)), .int (nI (po)), .int (tl), .ref (rd0), .long (hh)])), (z0, .inl (ac 0, 162, .inl (z))), (sd0, .inl (ac 0, 972, .inl (sd))), (tx0, .inl (ac 0, 60, .inl (tx))), (as0, .inl (ac 0, 162, .inl (az))), (rd0, .inl (ac 0, 63, .inl (rd)))] := hD
  refine lv_aload_n hx hb dX6_undo_16 rfl (lv_at hl 0 rfl) ?_
  refine va_get (ci := 6) (v := .int (0)) (C := RX6) (T := TX6) (N := 12) hx hb hts (by decide +kernel) hown hK hP 0 rfl rfl 0 (by decide) (hts (.fieldLink RX6 25 "SettlingJarsModel" "thrown" "I") (by decide +kernel)) (fun _ h9 => h9) rfl dX6_undo_17 ?_
  refine lv_if_le (tgt := 25) hx hb dX6_undo_20 (by decide) (fun _ => ?_) (fun c_ => absurd (by decide) c_)
  refine lv_aload_n hx hb dX6_undo_25 rfl (lv_at hl 0 rfl) ?_
  refine lv_dup hx hb dX6_undo_26 rfl ?_
  refine va_get (ci := 6) (v := .int (nI (sv + 1))) (C := RX6) (T := TX6) (N := 12) hx hb hts (by decide +kernel) hown hK hP 0 rfl rfl 2 (by decide) (hts (.fieldLink RX6 73 "SettlingJarsModel" "saves" "I") (by decide +kernel)) (fun _ h9 => h9) rfl dX6_undo_27 ?_
  refine lv_iconst (v := 1) hx hb dX6_undo_30 (by decide) ?_
  refine lv_isub hx hb dX6_undo_31 ?_
  refine z_top (y := nI ((sv + 1) - (1))) (pk_sub (a := sv + 1) (b := 1) (by omega)) ?_
  refine z_top (y := nI (sv)) (congrArg nI (by omega)) ?_
  refine va_put (ci := 6) (v := .int (nI (sv))) (ty := .int) (C := RX6) (T := TX6) (N := 12) hx hb hts (by decide +kernel) tyX6 tyX6_ok nmX6 hown hK hP hD hS 0 rfl rfl 2 (by decide) (hts (.fieldLink RX6 73 "SettlingJarsModel" "saves" "I") (by decide +kernel)) (fun _ h9 => h9) rfl (by decide +kernel) rfl rfl (Nat.le_of_ble_eq_true rfl) dX6_undo_32 (fun H locs hP hD hS => ?_)
  have hP : va_P D vwCl [(m0, .inr (6, [.int (0), .ref (z0), .int (nI (sv)), .ref (sd0), .int (nI (ln)), .ref (tx0), .ref (as0), .int (nI (stp)), .int (nI (po)), .int (tl), .ref (rd0), .long (hh)])), (z0, .inl (ac 0, 162, .inl (z))), (sd0, .inl (ac 0, 972, .inl (sd))), (tx0, .inl (ac 0, 60, .inl (tx))), (as0, .inl (ac 0, 162, .inl (az))), (rd0, .inl (ac 0, 63, .inl (rd)))] H := hP
  have hD : va_D A [(m0, .inr (6, [.int (0), .ref (z0), .int (nI (sv)), .ref (sd0), .int (nI (ln)), .ref (tx0), .ref (as0), .int (nI (stp)), .int (nI (po)), .int (tl), .ref (rd0), .long (hh)])), (z0, .inl (ac 0, 162, .inl (z))), (sd0, .inl (ac 0, 972, .inl (sd))), (tx0, .inl (ac 0, 60, .inl (tx))), (as0, .inl (ac 0, 162, .inl (az))), (rd0, .inl (ac 0, 63, .inl (rd)))] := hD
  refine lv_iconst (v := 0) hx hb dX6_undo_35 (by decide) ?_
  refine lv_istore_n (lv' := [(1, .int (0)), (0, .ref (m0))]) hx hb dX6_undo_36 rfl hl (by decide) rfl (fun ls hl => ?_)
  have hL_37 : ∀ (n : Nat) (i : Nat), (i + n = 162) → ∀ (H : Heap) (locs : List Loc), va_P D vwCl [(m0, .inr (6, [.int (0), .ref (z0), .int (nI (sv)), .ref (sd0), .int (nI (ln)), .ref (tx0), .ref (as0), .int (nI (stp)), .int (nI (po)), .int (tl), .ref (rd0), .long (hh)])), (z0, .inl (ac 0, 162, .inl (mUndo sd z sv i))), (sd0, .inl (ac 0, 972, .inl (sd))), (tx0, .inl (ac 0, 60, .inl (tx))), (as0, .inl (ac 0, 162, .inl (az))), (rd0, .inl (ac 0, 63, .inl (rd)))] H → va_D A [(m0, .inr (6, [.int (0), .ref (z0), .int (nI (sv)), .ref (sd0), .int (nI (ln)), .ref (tx0), .ref (as0), .int (nI (stp)), .int (nI (po)), .int (tl), .ref (rd0), .long (hh)])), (z0, .inl (ac 0, 162, .inl (mUndo sd z sv i))), (sd0, .inl (ac 0, 972, .inl (sd))), (tx0, .inl (ac 0, 60, .inl (tx))), (as0, .inl (ac 0, 162, .inl (az))), (rd0, .inl (ac 0, 63, .inl (rd)))] → va_S A s.heap H locs → ∀ (ls : Array Slot), lv_has ls 2 [(1, .int (nI (i))), (0, .ref (m0))] → W p l e ({ frames := 0, cells := 0, slots := 0, locals := 0 } : Room) s m args below meth c H locs 0 0 (MQ below (zQi D ac [(m0, .inr (6, [.int (th), .ref (z0), .int (nI (sv + 1)), .ref (sd0), .int (nI (ln)), .ref (tx0), .ref (as0), .int (nI (stp)), .int (nI (po)), .int (tl), .ref (rd0), .long (hh)])), (z0, .inl (ac 0, 162, .inl (z))), (sd0, .inl (ac 0, 972, .inl (sd))), (tx0, .inl (ac 0, 60, .inl (tx))), (as0, .inl (ac 0, 162, .inl (az))), (rd0, .inl (ac 0, 63, .inl (rd)))] [(m0, .inr (6, [.int (0), .ref (z0), .int (nI (sv)), .ref (sd0), .int (nI (ln)), .ref (tx0), .ref (as0), .int (nI (stp)), .int (nI (po)), .int (tl), .ref (rd0), .long (hh)])), (z0, .inl (ac 0, 162, .inl (mUndo sd z sv 162))), (sd0, .inl (ac 0, 972, .inl (sd))), (tx0, .inl (ac 0, 60, .inl (tx))), (as0, .inl (ac 0, 162, .inl (az))), (rd0, .inl (ac 0, 63, .inl (rd)))] sz (nI (sv))) args s 0 0 A) (F0 m 37 ls []) := by
    intro n
    induction n with
    | zero =>
      intro i hi H locs hP hD hS ls hl
      have e_i : 162 = i := by omega
      subst e_i
      refine lv_iload_n hx hb dX6_undo_37 rfl (lv_at hl 0 rfl) ?_
      refine lv_sipush (v := 162) hx hb dX6_undo_38 (by decide) ?_
      refine z_icmp_ge (tgt := 71) hx hb (162) (162) dX6_undo_41 (by decide) (by omega) (by omega) rfl rfl (fun c_41 => ?_) (fun c_41 => absurd c_41 (by omega))
      refine lv_aload_n hx hb dX6_undo_71 rfl (lv_at hl 1 rfl) ?_
      refine va_get (ci := 6) (v := .int (nI (sv))) (C := RX6) (T := TX6) (N := 12) hx hb hts (by decide +kernel) hown hK hP 0 rfl rfl 2 (by decide) (hts (.fieldLink RX6 73 "SettlingJarsModel" "saves" "I") (by decide +kernel)) (fun _ h9 => h9) rfl dX6_undo_72 ?_
      exact z_iretW hx hb hr hlocks hK hP hD hS hAe (rfl) dX6_undo_75
    | succ n ih =>
      intro i hi H locs hP hD hS ls hl
      refine lv_iload_n hx hb dX6_undo_37 rfl (lv_at hl 0 rfl) ?_
      refine lv_sipush (v := 162) hx hb dX6_undo_38 (by decide) ?_
      refine z_icmp_ge (tgt := 71) hx hb (i) (162) dX6_undo_41 (by decide) (by omega) (by omega) rfl rfl (fun c_41 => absurd c_41 (by omega)) (fun c_41 => ?_)
      refine lv_aload_n hx hb dX6_undo_44 rfl (lv_at hl 1 rfl) ?_
      refine va_get (ci := 6) (v := .ref (z0)) (C := RX6) (T := TX6) (N := 12) hx hb hts (by decide +kernel) hown hK hP 0 rfl rfl 1 (by decide) (hts (.fieldLink RX6 7 "SettlingJarsModel" "z" "[I") (by decide +kernel)) (fun _ h9 => h9) rfl dX6_undo_45 ?_
      refine lv_iload_n hx hb dX6_undo_48 rfl (lv_at hl 0 rfl) ?_
      refine lv_aload_n hx hb dX6_undo_49 rfl (lv_at hl 1 rfl) ?_
      refine va_get (ci := 6) (v := .ref (sd0)) (C := RX6) (T := TX6) (N := 12) hx hb hts (by decide +kernel) hown hK hP 0 rfl rfl 3 (by decide) (hts (.fieldLink RX6 13 "SettlingJarsModel" "saved" "[I") (by decide +kernel)) (fun _ h9 => h9) rfl dX6_undo_50 ?_
      refine lv_sipush (v := 162) hx hb dX6_undo_53 (by decide) ?_
      refine lv_aload_n hx hb dX6_undo_56 rfl (lv_at hl 1 rfl) ?_
      refine va_get (ci := 6) (v := .int (nI (sv))) (C := RX6) (T := TX6) (N := 12) hx hb hts (by decide +kernel) hown hK hP 0 rfl rfl 2 (by decide) (hts (.fieldLink RX6 73 "SettlingJarsModel" "saves" "I") (by decide +kernel)) (fun _ h9 => h9) rfl dX6_undo_57 ?_
      refine lv_imul hx hb dX6_undo_60 ?_
      refine z_top (y := nI ((162) * (sv))) (pk_mul (162) (sv)) ?_
      refine lv_iload_n hx hb dX6_undo_61 rfl (lv_at hl 0 rfl) ?_
      refine lv_iadd hx hb dX6_undo_62 ?_
      refine z_top (y := nI (((162) * (sv)) + (i))) (nI_add ((162) * (sv)) (i)) ?_
      refine z_iald hx hb hK hP 2 rfl (162 * sv + i) (congrArg nI (by omega)) (by omega) (by decide) dX6_undo_63 ?_
      refine z_iast hx hb hK hP hD hS 1 rfl (i) (rfl) (by omega) (by decide) dX6_undo_64 (fun H locs hP hD hS => ?_)
      have hP : va_P D vwCl [(m0, .inr (6, [.int (0), .ref (z0), .int (nI (sv)), .ref (sd0), .int (nI (ln)), .ref (tx0), .ref (as0), .int (nI (stp)), .int (nI (po)), .int (tl), .ref (rd0), .long (hh)])), (z0, .inl (ac 0, 162, .inl (upd (mUndo sd z sv i) (i) (sd (162 * sv + i))))), (sd0, .inl (ac 0, 972, .inl (sd))), (tx0, .inl (ac 0, 60, .inl (tx))), (as0, .inl (ac 0, 162, .inl (az))), (rd0, .inl (ac 0, 63, .inl (rd)))] H := hP
      have hD : va_D A [(m0, .inr (6, [.int (0), .ref (z0), .int (nI (sv)), .ref (sd0), .int (nI (ln)), .ref (tx0), .ref (as0), .int (nI (stp)), .int (nI (po)), .int (tl), .ref (rd0), .long (hh)])), (z0, .inl (ac 0, 162, .inl (upd (mUndo sd z sv i) (i) (sd (162 * sv + i))))), (sd0, .inl (ac 0, 972, .inl (sd))), (tx0, .inl (ac 0, 60, .inl (tx))), (as0, .inl (ac 0, 162, .inl (az))), (rd0, .inl (ac 0, 63, .inl (rd)))] := hD
      refine lv_iinc (v := nI ((i) + 1)) (lv' := [(1, .int (nI ((i) + 1))), (0, .ref (m0))]) hx hb dX6_undo_65 hl (k := 0) rfl (show nI (i) + Int32.ofInt 1 = _ from nI_add (i) 1) (by decide) rfl (fun ls hl => ?_)
      refine lv_goto (tgt := 37) hx hb dX6_undo_68 (by decide) ?_
      exact ih (i + 1) (by omega) _ _ hP hD hS ls (lv_sub hl [0, 1] rfl)
  exact hL_37 (162) (0) (by omega) _ _ hP hD hS ls (lv_sub hl [0, 1] rfl)

