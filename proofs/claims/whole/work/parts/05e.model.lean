set_option maxRecDepth 100000 in
set_option maxHeartbeats 4000000 in
theorem metX6_save (l : Launch) (D : va_G) (ac : Nat → ClassId) (sz : Nat) (m0 : Nat) (z0 : Nat) (sd0 : Nat) (tx0 : Nat) (as0 : Nat) (rd0 : Nat) (th : Int32) (sv : Nat) (ln : Nat) (stp : Nat) (po : Nat) (tl : Int32) (hh : Int64) (z : Nat → Int32) (sd : Nat → Int32) (tx : Nat → Int32) (az : Nat → Int32) (rd : Nat → Int32) (hsv : sv ≤ 6) : Met l yX6_save wsX6_save ({ frames := 0, cells := 0, slots := 0, locals := 0 } : Room) (va_Pc [.ref (m0)] (zS D ac [(m0, .inr (6, [.int (th), .ref (z0), .int (nI (sv)), .ref (sd0), .int (nI (ln)), .ref (tx0), .ref (as0), .int (nI (stp)), .int (nI (po)), .int (tl), .ref (rd0), .long (hh)])), (z0, .inl (ac 0, 162, .inl (z))), (sd0, .inl (ac 0, 972, .inl (sd))), (tx0, .inl (ac 0, 60, .inl (tx))), (as0, .inl (ac 0, 162, .inl (az))), (rd0, .inl (ac 0, 63, .inl (rd)))] sz)) (zQv D ac [(m0, .inr (6, [.int (th), .ref (z0), .int (nI (sv)), .ref (sd0), .int (nI (ln)), .ref (tx0), .ref (as0), .int (nI (stp)), .int (nI (po)), .int (tl), .ref (rd0), .long (hh)])), (z0, .inl (ac 0, 162, .inl (z))), (sd0, .inl (ac 0, 972, .inl (sd))), (tx0, .inl (ac 0, 60, .inl (tx))), (as0, .inl (ac 0, 162, .inl (az))), (rd0, .inl (ac 0, 63, .inl (rd)))] [(m0, .inr (6, [.int (th), .ref (z0), .int (nI (mSv sv + 1)), .ref (sd0), .int (nI (ln)), .ref (tx0), .ref (as0), .int (nI (stp)), .int (nI (po)), .int (tl), .ref (rd0), .long (hh)])), (z0, .inl (ac 0, 162, .inl (z))), (sd0, .inl (ac 0, 972, .inl (mSave sd z sv))), (tx0, .inl (ac 0, 60, .inl (tx))), (as0, .inl (ac 0, 162, .inl (az))), (rd0, .inl (ac 0, 63, .inl (rd)))] sz) 0 0 (va_A [(m0, .inr (6, [.int (th), .ref (z0), .int (nI (sv)), .ref (sd0), .int (nI (ln)), .ref (tx0), .ref (as0), .int (nI (stp)), .int (nI (po)), .int (tl), .ref (rd0), .long (hh)])), (z0, .inl (ac 0, 162, .inl (z))), (sd0, .inl (ac 0, 972, .inl (sd))), (tx0, .inl (ac 0, 60, .inl (tx))), (as0, .inl (ac 0, 162, .inl (az))), (rd0, .inl (ac 0, 63, .inl (rd)))] sz) := by
  refine z_rw (cc := cX6_save) (maxL := 2) (ret := none) (lv := [(0, .ref (m0))]) (by decide) rfl (Nat.le_of_ble_eq_true rfl) rfl ?_
  intro p e s m args below meth c ls A hx hb hr hml hown hts hlocks hl hK hP hsz hAe hA hD hS
  have hsv5 : mSv sv ≤ 5 := by unfold mSv; split <;> omega
  refine lv_aload_n hx hb dX6_save_0 rfl (lv_at hl 0 rfl) ?_
  refine va_get (ci := 6) (v := .int (nI (sv))) (C := RX6) (T := TX6) (N := 12) hx hb hts (by decide +kernel) hown hK hP 0 rfl rfl 2 (by decide) (hts (.fieldLink RX6 73 "SettlingJarsModel" "saves" "I") (by decide +kernel)) (fun _ h9 => h9) rfl dX6_save_1 ?_
  refine lv_bipush (v := 6) hx hb dX6_save_4 (by decide) ?_
  refine z_icmp_ne (tgt := 52) hx hb (sv) (6) dX6_save_6 (by decide) (by omega) (by omega) rfl rfl (fun c_6 => ?_) (fun c_6 => ?_)
  · have e1 : mSv sv = sv := if_neg c_6
    have e2 : mBase sd sv = sd := if_neg c_6
    have hP : va_P D vwCl [(m0, .inr (6, [.int (th), .ref (z0), .int (nI (mSv sv)), .ref (sd0), .int (nI (ln)), .ref (tx0), .ref (as0), .int (nI (stp)), .int (nI (po)), .int (tl), .ref (rd0), .long (hh)])), (z0, .inl (ac 0, 162, .inl (z))), (sd0, .inl (ac 0, 972, .inl (mBase sd sv))), (tx0, .inl (ac 0, 60, .inl (tx))), (as0, .inl (ac 0, 162, .inl (az))), (rd0, .inl (ac 0, 63, .inl (rd)))] s.heap := by rw [e1, e2]; exact hP
    have hD : va_D A [(m0, .inr (6, [.int (th), .ref (z0), .int (nI (mSv sv)), .ref (sd0), .int (nI (ln)), .ref (tx0), .ref (as0), .int (nI (stp)), .int (nI (po)), .int (tl), .ref (rd0), .long (hh)])), (z0, .inl (ac 0, 162, .inl (z))), (sd0, .inl (ac 0, 972, .inl (mBase sd sv))), (tx0, .inl (ac 0, 60, .inl (tx))), (as0, .inl (ac 0, 162, .inl (az))), (rd0, .inl (ac 0, 63, .inl (rd)))] := by rw [e1, e2]; exact hD
    refine lv_iconst (v := 0) hx hb dX6_save_52 (by decide) ?_
    refine lv_istore_n (lv' := [(1, .int (0)), (0, .ref (m0))]) hx hb dX6_save_53 rfl hl (by decide) rfl (fun ls hl => ?_)
    have hL_54 : ∀ (n : Nat) (i : Nat), (i + n = 162) → ∀ (H : Heap) (locs : List Loc), va_P D vwCl [(m0, .inr (6, [.int (th), .ref (z0), .int (nI (mSv sv)), .ref (sd0), .int (nI (ln)), .ref (tx0), .ref (as0), .int (nI (stp)), .int (nI (po)), .int (tl), .ref (rd0), .long (hh)])), (z0, .inl (ac 0, 162, .inl (z))), (sd0, .inl (ac 0, 972, .inl (qAt (mBase sd sv) z (mSv sv) i))), (tx0, .inl (ac 0, 60, .inl (tx))), (as0, .inl (ac 0, 162, .inl (az))), (rd0, .inl (ac 0, 63, .inl (rd)))] H → va_D A [(m0, .inr (6, [.int (th), .ref (z0), .int (nI (mSv sv)), .ref (sd0), .int (nI (ln)), .ref (tx0), .ref (as0), .int (nI (stp)), .int (nI (po)), .int (tl), .ref (rd0), .long (hh)])), (z0, .inl (ac 0, 162, .inl (z))), (sd0, .inl (ac 0, 972, .inl (qAt (mBase sd sv) z (mSv sv) i))), (tx0, .inl (ac 0, 60, .inl (tx))), (as0, .inl (ac 0, 162, .inl (az))), (rd0, .inl (ac 0, 63, .inl (rd)))] → va_S A s.heap H locs → ∀ (ls : Array Slot), lv_has ls 2 [(1, .int (nI (i))), (0, .ref (m0))] → W p l e ({ frames := 0, cells := 0, slots := 0, locals := 0 } : Room) s m args below meth c H locs 0 0 (MQ below (zQv D ac [(m0, .inr (6, [.int (th), .ref (z0), .int (nI (sv)), .ref (sd0), .int (nI (ln)), .ref (tx0), .ref (as0), .int (nI (stp)), .int (nI (po)), .int (tl), .ref (rd0), .long (hh)])), (z0, .inl (ac 0, 162, .inl (z))), (sd0, .inl (ac 0, 972, .inl (sd))), (tx0, .inl (ac 0, 60, .inl (tx))), (as0, .inl (ac 0, 162, .inl (az))), (rd0, .inl (ac 0, 63, .inl (rd)))] [(m0, .inr (6, [.int (th), .ref (z0), .int (nI (mSv sv + 1)), .ref (sd0), .int (nI (ln)), .ref (tx0), .ref (as0), .int (nI (stp)), .int (nI (po)), .int (tl), .ref (rd0), .long (hh)])), (z0, .inl (ac 0, 162, .inl (z))), (sd0, .inl (ac 0, 972, .inl (mSave sd z sv))), (tx0, .inl (ac 0, 60, .inl (tx))), (as0, .inl (ac 0, 162, .inl (az))), (rd0, .inl (ac 0, 63, .inl (rd)))] sz) args s 0 0 A) (F0 m 54 ls []) := by
      intro n
      induction n with
      | zero =>
        intro i hi H locs hP hD hS ls hl
        have e_i : 162 = i := by omega
        subst e_i
        refine lv_iload_n hx hb dX6_save_54 rfl (lv_at hl 0 rfl) ?_
        refine lv_sipush (v := 162) hx hb dX6_save_55 (by decide) ?_
        refine z_icmp_ge (tgt := 88) hx hb (162) (162) dX6_save_58 (by decide) (by omega) (by omega) rfl rfl (fun c_58 => ?_) (fun c_58 => absurd c_58 (by omega))
        refine lv_aload_n hx hb dX6_save_88 rfl (lv_at hl 1 rfl) ?_
        refine lv_dup hx hb dX6_save_89 rfl ?_
        refine va_get (ci := 6) (v := .int (nI (mSv sv))) (C := RX6) (T := TX6) (N := 12) hx hb hts (by decide +kernel) hown hK hP 0 rfl rfl 2 (by decide) (hts (.fieldLink RX6 73 "SettlingJarsModel" "saves" "I") (by decide +kernel)) (fun _ h9 => h9) rfl dX6_save_90 ?_
        refine lv_iconst (v := 1) hx hb dX6_save_93 (by decide) ?_
        refine lv_iadd hx hb dX6_save_94 ?_
        refine z_top (y := nI ((mSv sv) + (1))) (nI_add (mSv sv) (1)) ?_
        refine va_put (ci := 6) (v := .int (nI ((mSv sv) + (1)))) (ty := .int) (C := RX6) (T := TX6) (N := 12) hx hb hts (by decide +kernel) tyX6 tyX6_ok nmX6 hown hK hP hD hS 0 rfl rfl 2 (by decide) (hts (.fieldLink RX6 73 "SettlingJarsModel" "saves" "I") (by decide +kernel)) (fun _ h9 => h9) rfl (by decide +kernel) rfl rfl (Nat.le_of_ble_eq_true rfl) dX6_save_95 (fun H locs hP hD hS => ?_)
        have hP : va_P D vwCl [(m0, .inr (6, [.int (th), .ref (z0), .int (nI ((mSv sv) + (1))), .ref (sd0), .int (nI (ln)), .ref (tx0), .ref (as0), .int (nI (stp)), .int (nI (po)), .int (tl), .ref (rd0), .long (hh)])), (z0, .inl (ac 0, 162, .inl (z))), (sd0, .inl (ac 0, 972, .inl (qAt (mBase sd sv) z (mSv sv) 162))), (tx0, .inl (ac 0, 60, .inl (tx))), (as0, .inl (ac 0, 162, .inl (az))), (rd0, .inl (ac 0, 63, .inl (rd)))] H := hP
        have hD : va_D A [(m0, .inr (6, [.int (th), .ref (z0), .int (nI ((mSv sv) + (1))), .ref (sd0), .int (nI (ln)), .ref (tx0), .ref (as0), .int (nI (stp)), .int (nI (po)), .int (tl), .ref (rd0), .long (hh)])), (z0, .inl (ac 0, 162, .inl (z))), (sd0, .inl (ac 0, 972, .inl (qAt (mBase sd sv) z (mSv sv) 162))), (tx0, .inl (ac 0, 60, .inl (tx))), (as0, .inl (ac 0, 162, .inl (az))), (rd0, .inl (ac 0, 63, .inl (rd)))] := hD
        exact z_vretW hx hb hr hlocks hK hP hD hS hAe dX6_save_98
      | succ n ih =>
        intro i hi H locs hP hD hS ls hl
        refine lv_iload_n hx hb dX6_save_54 rfl (lv_at hl 0 rfl) ?_
        refine lv_sipush (v := 162) hx hb dX6_save_55 (by decide) ?_
        refine z_icmp_ge (tgt := 88) hx hb (i) (162) dX6_save_58 (by decide) (by omega) (by omega) rfl rfl (fun c_58 => absurd c_58 (by omega)) (fun c_58 => ?_)
        refine lv_aload_n hx hb dX6_save_61 rfl (lv_at hl 1 rfl) ?_
        refine va_get (ci := 6) (v := .ref (sd0)) (C := RX6) (T := TX6) (N := 12) hx hb hts (by decide +kernel) hown hK hP 0 rfl rfl 3 (by decide) (hts (.fieldLink RX6 13 "SettlingJarsModel" "saved" "[I") (by decide +kernel)) (fun _ h9 => h9) rfl dX6_save_62 ?_
        refine lv_sipush (v := 162) hx hb dX6_save_65 (by decide) ?_
        refine lv_aload_n hx hb dX6_save_68 rfl (lv_at hl 1 rfl) ?_
        refine va_get (ci := 6) (v := .int (nI (mSv sv))) (C := RX6) (T := TX6) (N := 12) hx hb hts (by decide +kernel) hown hK hP 0 rfl rfl 2 (by decide) (hts (.fieldLink RX6 73 "SettlingJarsModel" "saves" "I") (by decide +kernel)) (fun _ h9 => h9) rfl dX6_save_69 ?_
        refine lv_imul hx hb dX6_save_72 ?_
        refine z_top (y := nI ((162) * (mSv sv))) (pk_mul (162) (mSv sv)) ?_
        refine lv_iload_n hx hb dX6_save_73 rfl (lv_at hl 0 rfl) ?_
        refine lv_iadd hx hb dX6_save_74 ?_
        refine z_top (y := nI (((162) * (mSv sv)) + (i))) (nI_add ((162) * (mSv sv)) (i)) ?_
        refine lv_aload_n hx hb dX6_save_75 rfl (lv_at hl 1 rfl) ?_
        refine va_get (ci := 6) (v := .ref (z0)) (C := RX6) (T := TX6) (N := 12) hx hb hts (by decide +kernel) hown hK hP 0 rfl rfl 1 (by decide) (hts (.fieldLink RX6 7 "SettlingJarsModel" "z" "[I") (by decide +kernel)) (fun _ h9 => h9) rfl dX6_save_76 ?_
        refine lv_iload_n hx hb dX6_save_79 rfl (lv_at hl 0 rfl) ?_
        refine z_iald hx hb hK hP 1 rfl (i) (rfl) (by omega) (by decide) dX6_save_80 ?_
        refine z_iast hx hb hK hP hD hS 2 rfl (162 * mSv sv + i) (congrArg nI (by omega)) (by omega) (by decide) dX6_save_81 (fun H locs hP hD hS => ?_)
        have hP : va_P D vwCl [(m0, .inr (6, [.int (th), .ref (z0), .int (nI (mSv sv)), .ref (sd0), .int (nI (ln)), .ref (tx0), .ref (as0), .int (nI (stp)), .int (nI (po)), .int (tl), .ref (rd0), .long (hh)])), (z0, .inl (ac 0, 162, .inl (z))), (sd0, .inl (ac 0, 972, .inl (upd (qAt (mBase sd sv) z (mSv sv) i) (162 * mSv sv + i) (z i)))), (tx0, .inl (ac 0, 60, .inl (tx))), (as0, .inl (ac 0, 162, .inl (az))), (rd0, .inl (ac 0, 63, .inl (rd)))] H := hP
        have hD : va_D A [(m0, .inr (6, [.int (th), .ref (z0), .int (nI (mSv sv)), .ref (sd0), .int (nI (ln)), .ref (tx0), .ref (as0), .int (nI (stp)), .int (nI (po)), .int (tl), .ref (rd0), .long (hh)])), (z0, .inl (ac 0, 162, .inl (z))), (sd0, .inl (ac 0, 972, .inl (upd (qAt (mBase sd sv) z (mSv sv) i) (162 * mSv sv + i) (z i)))), (tx0, .inl (ac 0, 60, .inl (tx))), (as0, .inl (ac 0, 162, .inl (az))), (rd0, .inl (ac 0, 63, .inl (rd)))] := hD
        refine lv_iinc (v := nI ((i) + 1)) (lv' := [(1, .int (nI ((i) + 1))), (0, .ref (m0))]) hx hb dX6_save_82 hl (k := 0) rfl (show nI (i) + Int32.ofInt 1 = _ from nI_add (i) 1) (by decide) rfl (fun ls hl => ?_)
        refine lv_goto (tgt := 54) hx hb dX6_save_85 (by decide) ?_
        exact ih (i + 1) (by omega) _ _ hP hD hS ls (lv_sub hl [0, 1] rfl)
    exact hL_54 (162) (0) (by omega) _ _ hP hD hS ls (lv_sub hl [0, 1] rfl)
  · refine lv_sipush (v := 162) hx hb dX6_save_9 (by decide) ?_
    refine lv_istore_n (lv' := [(1, .int (162)), (0, .ref (m0))]) hx hb dX6_save_12 rfl hl (by decide) rfl (fun ls hl => ?_)
    have hL_13 : ∀ (n : Nat) (i : Nat), (i + n = 810) → ∀ (H : Heap) (locs : List Loc), va_P D vwCl [(m0, .inr (6, [.int (th), .ref (z0), .int (nI (sv)), .ref (sd0), .int (nI (ln)), .ref (tx0), .ref (as0), .int (nI (stp)), .int (nI (po)), .int (tl), .ref (rd0), .long (hh)])), (z0, .inl (ac 0, 162, .inl (z))), (sd0, .inl (ac 0, 972, .inl (mShift sd i))), (tx0, .inl (ac 0, 60, .inl (tx))), (as0, .inl (ac 0, 162, .inl (az))), (rd0, .inl (ac 0, 63, .inl (rd)))] H → va_D A [(m0, .inr (6, [.int (th), .ref (z0), .int (nI (sv)), .ref (sd0), .int (nI (ln)), .ref (tx0), .ref (as0), .int (nI (stp)), .int (nI (po)), .int (tl), .ref (rd0), .long (hh)])), (z0, .inl (ac 0, 162, .inl (z))), (sd0, .inl (ac 0, 972, .inl (mShift sd i))), (tx0, .inl (ac 0, 60, .inl (tx))), (as0, .inl (ac 0, 162, .inl (az))), (rd0, .inl (ac 0, 63, .inl (rd)))] → va_S A s.heap H locs → ∀ (ls : Array Slot), lv_has ls 2 [(1, .int (nI (162 + i))), (0, .ref (m0))] → W p l e ({ frames := 0, cells := 0, slots := 0, locals := 0 } : Room) s m args below meth c H locs 0 0 (MQ below (zQv D ac [(m0, .inr (6, [.int (th), .ref (z0), .int (nI (sv)), .ref (sd0), .int (nI (ln)), .ref (tx0), .ref (as0), .int (nI (stp)), .int (nI (po)), .int (tl), .ref (rd0), .long (hh)])), (z0, .inl (ac 0, 162, .inl (z))), (sd0, .inl (ac 0, 972, .inl (sd))), (tx0, .inl (ac 0, 60, .inl (tx))), (as0, .inl (ac 0, 162, .inl (az))), (rd0, .inl (ac 0, 63, .inl (rd)))] [(m0, .inr (6, [.int (th), .ref (z0), .int (nI (mSv sv + 1)), .ref (sd0), .int (nI (ln)), .ref (tx0), .ref (as0), .int (nI (stp)), .int (nI (po)), .int (tl), .ref (rd0), .long (hh)])), (z0, .inl (ac 0, 162, .inl (z))), (sd0, .inl (ac 0, 972, .inl (mSave sd z sv))), (tx0, .inl (ac 0, 60, .inl (tx))), (as0, .inl (ac 0, 162, .inl (az))), (rd0, .inl (ac 0, 63, .inl (rd)))] sz) args s 0 0 A) (F0 m 13 ls []) := by
      intro n
      induction n with
      | zero =>
        intro i hi H locs hP hD hS ls hl
        have e_i : 810 = i := by omega
        subst e_i
        refine lv_iload_n hx hb dX6_save_13 rfl (lv_at hl 0 rfl) ?_
        refine lv_sipush (v := 972) hx hb dX6_save_14 (by decide) ?_
        refine z_icmp_ge (tgt := 42) hx hb (162 + 810) (972) dX6_save_17 (by decide) (by omega) (by omega) rfl rfl (fun c_17 => ?_) (fun c_17 => absurd c_17 (by omega))
        refine lv_aload_n hx hb dX6_save_42 rfl (lv_at hl 1 rfl) ?_
        refine lv_dup hx hb dX6_save_43 rfl ?_
        refine va_get (ci := 6) (v := .int (nI (sv))) (C := RX6) (T := TX6) (N := 12) hx hb hts (by decide +kernel) hown hK hP 0 rfl rfl 2 (by decide) (hts (.fieldLink RX6 73 "SettlingJarsModel" "saves" "I") (by decide +kernel)) (fun _ h9 => h9) rfl dX6_save_44 ?_
        refine lv_iconst (v := 1) hx hb dX6_save_47 (by decide) ?_
        refine lv_isub hx hb dX6_save_48 ?_
        refine z_top (y := nI ((sv) - (1))) (pk_sub (a := sv) (b := 1) (by omega)) ?_
        refine va_put (ci := 6) (v := .int (nI ((sv) - (1)))) (ty := .int) (C := RX6) (T := TX6) (N := 12) hx hb hts (by decide +kernel) tyX6 tyX6_ok nmX6 hown hK hP hD hS 0 rfl rfl 2 (by decide) (hts (.fieldLink RX6 73 "SettlingJarsModel" "saves" "I") (by decide +kernel)) (fun _ h9 => h9) rfl (by decide +kernel) rfl rfl (Nat.le_of_ble_eq_true rfl) dX6_save_49 (fun H locs hP hD hS => ?_)
        have hP : va_P D vwCl [(m0, .inr (6, [.int (th), .ref (z0), .int (nI ((sv) - (1))), .ref (sd0), .int (nI (ln)), .ref (tx0), .ref (as0), .int (nI (stp)), .int (nI (po)), .int (tl), .ref (rd0), .long (hh)])), (z0, .inl (ac 0, 162, .inl (z))), (sd0, .inl (ac 0, 972, .inl (mShift sd 810))), (tx0, .inl (ac 0, 60, .inl (tx))), (as0, .inl (ac 0, 162, .inl (az))), (rd0, .inl (ac 0, 63, .inl (rd)))] H := hP
        have hD : va_D A [(m0, .inr (6, [.int (th), .ref (z0), .int (nI ((sv) - (1))), .ref (sd0), .int (nI (ln)), .ref (tx0), .ref (as0), .int (nI (stp)), .int (nI (po)), .int (tl), .ref (rd0), .long (hh)])), (z0, .inl (ac 0, 162, .inl (z))), (sd0, .inl (ac 0, 972, .inl (mShift sd 810))), (tx0, .inl (ac 0, 60, .inl (tx))), (as0, .inl (ac 0, 162, .inl (az))), (rd0, .inl (ac 0, 63, .inl (rd)))] := hD
        have e1 : mSv sv = sv - 1 := by rw [mSv, if_pos c_6, c_6]
        have e2 : mBase sd sv = mShift sd 810 := if_pos c_6
        have hP : va_P D vwCl [(m0, .inr (6, [.int (th), .ref (z0), .int (nI (mSv sv)), .ref (sd0), .int (nI (ln)), .ref (tx0), .ref (as0), .int (nI (stp)), .int (nI (po)), .int (tl), .ref (rd0), .long (hh)])), (z0, .inl (ac 0, 162, .inl (z))), (sd0, .inl (ac 0, 972, .inl (mBase sd sv))), (tx0, .inl (ac 0, 60, .inl (tx))), (as0, .inl (ac 0, 162, .inl (az))), (rd0, .inl (ac 0, 63, .inl (rd)))] H := by rw [e1, e2]; exact hP
        have hD : va_D A [(m0, .inr (6, [.int (th), .ref (z0), .int (nI (mSv sv)), .ref (sd0), .int (nI (ln)), .ref (tx0), .ref (as0), .int (nI (stp)), .int (nI (po)), .int (tl), .ref (rd0), .long (hh)])), (z0, .inl (ac 0, 162, .inl (z))), (sd0, .inl (ac 0, 972, .inl (mBase sd sv))), (tx0, .inl (ac 0, 60, .inl (tx))), (as0, .inl (ac 0, 162, .inl (az))), (rd0, .inl (ac 0, 63, .inl (rd)))] := by rw [e1, e2]; exact hD
        refine lv_iconst (v := 0) hx hb dX6_save_52 (by decide) ?_
        refine lv_istore_n (lv' := [(1, .int (0)), (0, .ref (m0))]) hx hb dX6_save_53 rfl hl (by decide) rfl (fun ls hl => ?_)
        have hL_54 : ∀ (n : Nat) (i : Nat), (i + n = 162) → ∀ (H : Heap) (locs : List Loc), va_P D vwCl [(m0, .inr (6, [.int (th), .ref (z0), .int (nI (mSv sv)), .ref (sd0), .int (nI (ln)), .ref (tx0), .ref (as0), .int (nI (stp)), .int (nI (po)), .int (tl), .ref (rd0), .long (hh)])), (z0, .inl (ac 0, 162, .inl (z))), (sd0, .inl (ac 0, 972, .inl (qAt (mBase sd sv) z (mSv sv) i))), (tx0, .inl (ac 0, 60, .inl (tx))), (as0, .inl (ac 0, 162, .inl (az))), (rd0, .inl (ac 0, 63, .inl (rd)))] H → va_D A [(m0, .inr (6, [.int (th), .ref (z0), .int (nI (mSv sv)), .ref (sd0), .int (nI (ln)), .ref (tx0), .ref (as0), .int (nI (stp)), .int (nI (po)), .int (tl), .ref (rd0), .long (hh)])), (z0, .inl (ac 0, 162, .inl (z))), (sd0, .inl (ac 0, 972, .inl (qAt (mBase sd sv) z (mSv sv) i))), (tx0, .inl (ac 0, 60, .inl (tx))), (as0, .inl (ac 0, 162, .inl (az))), (rd0, .inl (ac 0, 63, .inl (rd)))] → va_S A s.heap H locs → ∀ (ls : Array Slot), lv_has ls 2 [(1, .int (nI (i))), (0, .ref (m0))] → W p l e ({ frames := 0, cells := 0, slots := 0, locals := 0 } : Room) s m args below meth c H locs 0 0 (MQ below (zQv D ac [(m0, .inr (6, [.int (th), .ref (z0), .int (nI (sv)), .ref (sd0), .int (nI (ln)), .ref (tx0), .ref (as0), .int (nI (stp)), .int (nI (po)), .int (tl), .ref (rd0), .long (hh)])), (z0, .inl (ac 0, 162, .inl (z))), (sd0, .inl (ac 0, 972, .inl (sd))), (tx0, .inl (ac 0, 60, .inl (tx))), (as0, .inl (ac 0, 162, .inl (az))), (rd0, .inl (ac 0, 63, .inl (rd)))] [(m0, .inr (6, [.int (th), .ref (z0), .int (nI (mSv sv + 1)), .ref (sd0), .int (nI (ln)), .ref (tx0), .ref (as0), .int (nI (stp)), .int (nI (po)), .int (tl), .ref (rd0), .long (hh)])), (z0, .inl (ac 0, 162, .inl (z))), (sd0, .inl (ac 0, 972, .inl (mSave sd z sv))), (tx0, .inl (ac 0, 60, .inl (tx))), (as0, .inl (ac 0, 162, .inl (az))), (rd0, .inl (ac 0, 63, .inl (rd)))] sz) args s 0 0 A) (F0 m 54 ls []) := by
          intro n
          induction n with
          | zero =>
            intro i hi H locs hP hD hS ls hl
            have e_i : 162 = i := by omega
            subst e_i
            refine lv_iload_n hx hb dX6_save_54 rfl (lv_at hl 0 rfl) ?_
            refine lv_sipush (v := 162) hx hb dX6_save_55 (by decide) ?_
            refine z_icmp_ge (tgt := 88) hx hb (162) (162) dX6_save_58 (by decide) (by omega) (by omega) rfl rfl (fun c_58 => ?_) (fun c_58 => absurd c_58 (by omega))
            refine lv_aload_n hx hb dX6_save_88 rfl (lv_at hl 1 rfl) ?_
            refine lv_dup hx hb dX6_save_89 rfl ?_
            refine va_get (ci := 6) (v := .int (nI (mSv sv))) (C := RX6) (T := TX6) (N := 12) hx hb hts (by decide +kernel) hown hK hP 0 rfl rfl 2 (by decide) (hts (.fieldLink RX6 73 "SettlingJarsModel" "saves" "I") (by decide +kernel)) (fun _ h9 => h9) rfl dX6_save_90 ?_
            refine lv_iconst (v := 1) hx hb dX6_save_93 (by decide) ?_
            refine lv_iadd hx hb dX6_save_94 ?_
            refine z_top (y := nI ((mSv sv) + (1))) (nI_add (mSv sv) (1)) ?_
            refine va_put (ci := 6) (v := .int (nI ((mSv sv) + (1)))) (ty := .int) (C := RX6) (T := TX6) (N := 12) hx hb hts (by decide +kernel) tyX6 tyX6_ok nmX6 hown hK hP hD hS 0 rfl rfl 2 (by decide) (hts (.fieldLink RX6 73 "SettlingJarsModel" "saves" "I") (by decide +kernel)) (fun _ h9 => h9) rfl (by decide +kernel) rfl rfl (Nat.le_of_ble_eq_true rfl) dX6_save_95 (fun H locs hP hD hS => ?_)
            have hP : va_P D vwCl [(m0, .inr (6, [.int (th), .ref (z0), .int (nI ((mSv sv) + (1))), .ref (sd0), .int (nI (ln)), .ref (tx0), .ref (as0), .int (nI (stp)), .int (nI (po)), .int (tl), .ref (rd0), .long (hh)])), (z0, .inl (ac 0, 162, .inl (z))), (sd0, .inl (ac 0, 972, .inl (qAt (mBase sd sv) z (mSv sv) 162))), (tx0, .inl (ac 0, 60, .inl (tx))), (as0, .inl (ac 0, 162, .inl (az))), (rd0, .inl (ac 0, 63, .inl (rd)))] H := hP
            have hD : va_D A [(m0, .inr (6, [.int (th), .ref (z0), .int (nI ((mSv sv) + (1))), .ref (sd0), .int (nI (ln)), .ref (tx0), .ref (as0), .int (nI (stp)), .int (nI (po)), .int (tl), .ref (rd0), .long (hh)])), (z0, .inl (ac 0, 162, .inl (z))), (sd0, .inl (ac 0, 972, .inl (qAt (mBase sd sv) z (mSv sv) 162))), (tx0, .inl (ac 0, 60, .inl (tx))), (as0, .inl (ac 0, 162, .inl (az))), (rd0, .inl (ac 0, 63, .inl (rd)))] := hD
            exact z_vretW hx hb hr hlocks hK hP hD hS hAe dX6_save_98
          | succ n ih =>
            intro i hi H locs hP hD hS ls hl
            refine lv_iload_n hx hb dX6_save_54 rfl (lv_at hl 0 rfl) ?_
            refine lv_sipush (v := 162) hx hb dX6_save_55 (by decide) ?_
            refine z_icmp_ge (tgt := 88) hx hb (i) (162) dX6_save_58 (by decide) (by omega) (by omega) rfl rfl (fun c_58 => absurd c_58 (by omega)) (fun c_58 => ?_)
            refine lv_aload_n hx hb dX6_save_61 rfl (lv_at hl 1 rfl) ?_
            refine va_get (ci := 6) (v := .ref (sd0)) (C := RX6) (T := TX6) (N := 12) hx hb hts (by decide +kernel) hown hK hP 0 rfl rfl 3 (by decide) (hts (.fieldLink RX6 13 "SettlingJarsModel" "saved" "[I") (by decide +kernel)) (fun _ h9 => h9) rfl dX6_save_62 ?_
            refine lv_sipush (v := 162) hx hb dX6_save_65 (by decide) ?_
            refine lv_aload_n hx hb dX6_save_68 rfl (lv_at hl 1 rfl) ?_
            refine va_get (ci := 6) (v := .int (nI (mSv sv))) (C := RX6) (T := TX6) (N := 12) hx hb hts (by decide +kernel) hown hK hP 0 rfl rfl 2 (by decide) (hts (.fieldLink RX6 73 "SettlingJarsModel" "saves" "I") (by decide +kernel)) (fun _ h9 => h9) rfl dX6_save_69 ?_
            refine lv_imul hx hb dX6_save_72 ?_
            refine z_top (y := nI ((162) * (mSv sv))) (pk_mul (162) (mSv sv)) ?_
            refine lv_iload_n hx hb dX6_save_73 rfl (lv_at hl 0 rfl) ?_
            refine lv_iadd hx hb dX6_save_74 ?_
            refine z_top (y := nI (((162) * (mSv sv)) + (i))) (nI_add ((162) * (mSv sv)) (i)) ?_
            refine lv_aload_n hx hb dX6_save_75 rfl (lv_at hl 1 rfl) ?_
            refine va_get (ci := 6) (v := .ref (z0)) (C := RX6) (T := TX6) (N := 12) hx hb hts (by decide +kernel) hown hK hP 0 rfl rfl 1 (by decide) (hts (.fieldLink RX6 7 "SettlingJarsModel" "z" "[I") (by decide +kernel)) (fun _ h9 => h9) rfl dX6_save_76 ?_
            refine lv_iload_n hx hb dX6_save_79 rfl (lv_at hl 0 rfl) ?_
            refine z_iald hx hb hK hP 1 rfl (i) (rfl) (by omega) (by decide) dX6_save_80 ?_
            refine z_iast hx hb hK hP hD hS 2 rfl (162 * mSv sv + i) (congrArg nI (by omega)) (by omega) (by decide) dX6_save_81 (fun H locs hP hD hS => ?_)
            have hP : va_P D vwCl [(m0, .inr (6, [.int (th), .ref (z0), .int (nI (mSv sv)), .ref (sd0), .int (nI (ln)), .ref (tx0), .ref (as0), .int (nI (stp)), .int (nI (po)), .int (tl), .ref (rd0), .long (hh)])), (z0, .inl (ac 0, 162, .inl (z))), (sd0, .inl (ac 0, 972, .inl (upd (qAt (mBase sd sv) z (mSv sv) i) (162 * mSv sv + i) (z i)))), (tx0, .inl (ac 0, 60, .inl (tx))), (as0, .inl (ac 0, 162, .inl (az))), (rd0, .inl (ac 0, 63, .inl (rd)))] H := hP
            have hD : va_D A [(m0, .inr (6, [.int (th), .ref (z0), .int (nI (mSv sv)), .ref (sd0), .int (nI (ln)), .ref (tx0), .ref (as0), .int (nI (stp)), .int (nI (po)), .int (tl), .ref (rd0), .long (hh)])), (z0, .inl (ac 0, 162, .inl (z))), (sd0, .inl (ac 0, 972, .inl (upd (qAt (mBase sd sv) z (mSv sv) i) (162 * mSv sv + i) (z i)))), (tx0, .inl (ac 0, 60, .inl (tx))), (as0, .inl (ac 0, 162, .inl (az))), (rd0, .inl (ac 0, 63, .inl (rd)))] := hD
            refine lv_iinc (v := nI ((i) + 1)) (lv' := [(1, .int (nI ((i) + 1))), (0, .ref (m0))]) hx hb dX6_save_82 hl (k := 0) rfl (show nI (i) + Int32.ofInt 1 = _ from nI_add (i) 1) (by decide) rfl (fun ls hl => ?_)
            refine lv_goto (tgt := 54) hx hb dX6_save_85 (by decide) ?_
            exact ih (i + 1) (by omega) _ _ hP hD hS ls (lv_sub hl [0, 1] rfl)
        exact hL_54 (162) (0) (by omega) _ _ hP hD hS ls (lv_sub hl [0, 1] rfl)
      | succ n ih =>
        intro i hi H locs hP hD hS ls hl
        refine lv_iload_n hx hb dX6_save_13 rfl (lv_at hl 0 rfl) ?_
        refine lv_sipush (v := 972) hx hb dX6_save_14 (by decide) ?_
        refine z_icmp_ge (tgt := 42) hx hb (162 + i) (972) dX6_save_17 (by decide) (by omega) (by omega) rfl rfl (fun c_17 => absurd c_17 (by omega)) (fun c_17 => ?_)
        refine lv_aload_n hx hb dX6_save_20 rfl (lv_at hl 1 rfl) ?_
        refine va_get (ci := 6) (v := .ref (sd0)) (C := RX6) (T := TX6) (N := 12) hx hb hts (by decide +kernel) hown hK hP 0 rfl rfl 3 (by decide) (hts (.fieldLink RX6 13 "SettlingJarsModel" "saved" "[I") (by decide +kernel)) (fun _ h9 => h9) rfl dX6_save_21 ?_
        refine lv_iload_n hx hb dX6_save_24 rfl (lv_at hl 0 rfl) ?_
        refine lv_sipush (v := 162) hx hb dX6_save_25 (by decide) ?_
        refine lv_isub hx hb dX6_save_28 ?_
        refine z_top (y := nI ((162 + i) - (162))) (pk_sub (a := 162 + i) (b := 162) (by omega)) ?_
        refine lv_aload_n hx hb dX6_save_29 rfl (lv_at hl 1 rfl) ?_
        refine va_get (ci := 6) (v := .ref (sd0)) (C := RX6) (T := TX6) (N := 12) hx hb hts (by decide +kernel) hown hK hP 0 rfl rfl 3 (by decide) (hts (.fieldLink RX6 13 "SettlingJarsModel" "saved" "[I") (by decide +kernel)) (fun _ h9 => h9) rfl dX6_save_30 ?_
        refine lv_iload_n hx hb dX6_save_33 rfl (lv_at hl 0 rfl) ?_
        refine z_iald hx hb hK hP 2 rfl (162 + i) (congrArg nI (by omega)) (by omega) (by decide) dX6_save_34 ?_
        refine z_iast hx hb hK hP hD hS 2 rfl (i) (congrArg nI (by omega)) (by omega) (by decide) dX6_save_35 (fun H locs hP hD hS => ?_)
        have hP : va_P D vwCl [(m0, .inr (6, [.int (th), .ref (z0), .int (nI (sv)), .ref (sd0), .int (nI (ln)), .ref (tx0), .ref (as0), .int (nI (stp)), .int (nI (po)), .int (tl), .ref (rd0), .long (hh)])), (z0, .inl (ac 0, 162, .inl (z))), (sd0, .inl (ac 0, 972, .inl (upd (mShift sd i) (i) ((mShift sd i) (162 + i))))), (tx0, .inl (ac 0, 60, .inl (tx))), (as0, .inl (ac 0, 162, .inl (az))), (rd0, .inl (ac 0, 63, .inl (rd)))] H := hP
        have hD : va_D A [(m0, .inr (6, [.int (th), .ref (z0), .int (nI (sv)), .ref (sd0), .int (nI (ln)), .ref (tx0), .ref (as0), .int (nI (stp)), .int (nI (po)), .int (tl), .ref (rd0), .long (hh)])), (z0, .inl (ac 0, 162, .inl (z))), (sd0, .inl (ac 0, 972, .inl (upd (mShift sd i) (i) ((mShift sd i) (162 + i))))), (tx0, .inl (ac 0, 60, .inl (tx))), (as0, .inl (ac 0, 162, .inl (az))), (rd0, .inl (ac 0, 63, .inl (rd)))] := hD
        refine lv_iinc (v := nI ((162 + i) + 1)) (lv' := [(1, .int (nI ((162 + i) + 1))), (0, .ref (m0))]) hx hb dX6_save_36 hl (k := 0) rfl (show nI (162 + i) + Int32.ofInt 1 = _ from nI_add (162 + i) 1) (by decide) rfl (fun ls hl => ?_)
        refine lv_goto (tgt := 13) hx hb dX6_save_39 (by decide) ?_
        exact ih (i + 1) (by omega) _ _ hP hD hS ls (lv_sub hl [0, 1] rfl)
    exact hL_13 (810) (0) (by omega) _ _ hP hD hS ls (lv_sub hl [0, 1] rfl)

set_option maxRecDepth 100000 in
set_option maxHeartbeats 4000000 in
theorem metX6_bring (l : Launch) (D : va_G) (ac : Nat → ClassId) (sz : Nat) (m0 : Nat) (z0 : Nat) (sd0 : Nat) (tx0 : Nat) (as0 : Nat) (rd0 : Nat) (th : Int32) (sv : Nat) (ln : Nat) (stp : Nat) (po : Nat) (tl : Int32) (hh : Int64) (z : Nat → Int32) (sd : Nat → Int32) (tx : Nat → Int32) (az : Nat → Int32) (rd : Nat → Int32) (j1 : Nat) (s1 : Nat) (k1 : Nat) (x : Int32) (hj : j1 < 3) (hs : s1 < 12) (hk : k1 < 4) : Met l yX6_bring wsX6_bring ({ frames := 1, cells := 0, slots := 0, locals := 22 } : Room) (va_Pc [.ref (m0), .int (nI (j1)), .int (nI (s1)), .int (nI (k1)), .int (x)] (zS D ac [(m0, .inr (6, [.int (th), .ref (z0), .int (nI (sv)), .ref (sd0), .int (nI (ln)), .ref (tx0), .ref (as0), .int (nI (stp)), .int (nI (po)), .int (tl), .ref (rd0), .long (hh)])), (z0, .inl (ac 0, 162, .inl (z))), (sd0, .inl (ac 0, 972, .inl (sd))), (tx0, .inl (ac 0, 60, .inl (tx))), (as0, .inl (ac 0, 162, .inl (az))), (rd0, .inl (ac 0, 63, .inl (rd)))] sz)) (zQv D ac [(m0, .inr (6, [.int (th), .ref (z0), .int (nI (sv)), .ref (sd0), .int (nI (ln)), .ref (tx0), .ref (as0), .int (nI (stp)), .int (nI (po)), .int (tl), .ref (rd0), .long (hh)])), (z0, .inl (ac 0, 162, .inl (z))), (sd0, .inl (ac 0, 972, .inl (sd))), (tx0, .inl (ac 0, 60, .inl (tx))), (as0, .inl (ac 0, 162, .inl (az))), (rd0, .inl (ac 0, 63, .inl (rd)))] [(m0, .inr (6, [.int (th), .ref (z0), .int (nI (sv)), .ref (sd0), .int (nI (ln)), .ref (tx0), .ref (as0), .int (nI (stp)), .int (nI (po)), .int (tl), .ref (rd0), .long (hh)])), (z0, .inl (ac 0, 162, .inl (mBring z j1 s1 k1 x))), (sd0, .inl (ac 0, 972, .inl (sd))), (tx0, .inl (ac 0, 60, .inl (tx))), (as0, .inl (ac 0, 162, .inl (az))), (rd0, .inl (ac 0, 63, .inl (rd)))] sz) 0 0 (va_A [(m0, .inr (6, [.int (th), .ref (z0), .int (nI (sv)), .ref (sd0), .int (nI (ln)), .ref (tx0), .ref (as0), .int (nI (stp)), .int (nI (po)), .int (tl), .ref (rd0), .long (hh)])), (z0, .inl (ac 0, 162, .inl (z))), (sd0, .inl (ac 0, 972, .inl (sd))), (tx0, .inl (ac 0, 60, .inl (tx))), (as0, .inl (ac 0, 162, .inl (az))), (rd0, .inl (ac 0, 63, .inl (rd)))] sz) := by
  refine z_rw (cc := cX6_bring) (maxL := 5) (ret := none) (lv := [(0, .ref (m0)), (1, .int (nI (j1))), (2, .int (nI (s1))), (3, .int (nI (k1))), (4, .int (x))]) (by decide) rfl (Nat.le_of_ble_eq_true rfl) rfl ?_
  intro p e s m args below meth c ls A hx hb hr hml hown hts hlocks hl hK hP hsz hAe hA hD hS
  refine lv_aload_n hx hb dX6_bring_0 rfl (lv_at hl 0 rfl) ?_
  refine va_get (ci := 6) (v := .ref (z0)) (C := RX6) (T := TX6) (N := 12) hx hb hts (by decide +kernel) hown hK hP 0 rfl rfl 1 (by decide) (hts (.fieldLink RX6 7 "SettlingJarsModel" "z" "[I") (by decide +kernel)) (fun _ h9 => h9) rfl dX6_bring_1 ?_
  refine lv_iload_n hx hb dX6_bring_4 rfl (lv_at hl 1 rfl) ?_
  refine lv_iload_n hx hb dX6_bring_5 rfl (lv_at hl 2 rfl) ?_
  refine lv_iload_n hx hb dX6_bring_6 rfl (lv_at hl 3 rfl) ?_
  refine z_ci (z_srun (rest := [.ref (z0)]) (own := RX6) (As := [.int (nI (j1)), .int (nI (s1)), .int (nI (k1))]) hx hb hml hown hts hl.1 hK hP [] rfl (metX6_place l D ac j1 s1 k1 ) gX6_bring_X6_place rfl 3 (by decide +kernel) ⟨rfl, rfl, Nat.le_of_ble_eq_true rfl, Nat.le_of_ble_eq_true rfl⟩ rfl rfl (Nat.le_of_ble_eq_true rfl) dX6_bring_7 ⟨Nat.zero_le _, Nat.zero_le _⟩) ?_
  refine lv_dup2_11 hx hb dX6_bring_10 rfl rfl ?_
  refine z_iald hx hb hK hP 1 rfl (48 * j1 + (4 * s1 + k1)) (congrArg nI (by omega)) (by omega) (by decide) dX6_bring_11 ?_
  refine lv_iload hx hb dX6_bring_12 (lv_at hl 4 rfl) ?_
  refine lv_iadd hx hb dX6_bring_14 ?_
  refine z_iast hx hb hK hP hD hS 1 rfl (48 * j1 + (4 * s1 + k1)) (congrArg nI (by omega)) (by omega) (by decide) dX6_bring_15 (fun H locs hP hD hS => ?_)
  have hP : va_P D vwCl [(m0, .inr (6, [.int (th), .ref (z0), .int (nI (sv)), .ref (sd0), .int (nI (ln)), .ref (tx0), .ref (as0), .int (nI (stp)), .int (nI (po)), .int (tl), .ref (rd0), .long (hh)])), (z0, .inl (ac 0, 162, .inl (upd (z) (48 * j1 + (4 * s1 + k1)) ((z (48 * j1 + (4 * s1 + k1))) + (x))))), (sd0, .inl (ac 0, 972, .inl (sd))), (tx0, .inl (ac 0, 60, .inl (tx))), (as0, .inl (ac 0, 162, .inl (az))), (rd0, .inl (ac 0, 63, .inl (rd)))] H := hP
  have hD : va_D A [(m0, .inr (6, [.int (th), .ref (z0), .int (nI (sv)), .ref (sd0), .int (nI (ln)), .ref (tx0), .ref (as0), .int (nI (stp)), .int (nI (po)), .int (tl), .ref (rd0), .long (hh)])), (z0, .inl (ac 0, 162, .inl (upd (z) (48 * j1 + (4 * s1 + k1)) ((z (48 * j1 + (4 * s1 + k1))) + (x))))), (sd0, .inl (ac 0, 972, .inl (sd))), (tx0, .inl (ac 0, 60, .inl (tx))), (as0, .inl (ac 0, 162, .inl (az))), (rd0, .inl (ac 0, 63, .inl (rd)))] := hD
  refine lv_aload_n hx hb dX6_bring_16 rfl (lv_at hl 0 rfl) ?_
  refine va_get (ci := 6) (v := .ref (z0)) (C := RX6) (T := TX6) (N := 12) hx hb hts (by decide +kernel) hown hK hP 0 rfl rfl 1 (by decide) (hts (.fieldLink RX6 7 "SettlingJarsModel" "z" "[I") (by decide +kernel)) (fun _ h9 => h9) rfl dX6_bring_17 ?_
  refine lv_sipush (v := 152) hx hb dX6_bring_20 (by decide) ?_
  refine lv_iload_n hx hb dX6_bring_23 rfl (lv_at hl 3 rfl) ?_
  refine lv_iadd hx hb dX6_bring_24 ?_
  refine z_top (y := nI ((152) + (k1))) (nI_add (152) (k1)) ?_
  refine lv_dup2_11 hx hb dX6_bring_25 rfl rfl ?_
  refine z_iald hx hb hK hP 1 rfl (152 + k1) (congrArg nI (by omega)) (by omega) (by decide) dX6_bring_26 ?_
  refine lv_iload hx hb dX6_bring_27 (lv_at hl 4 rfl) ?_
  refine lv_iadd hx hb dX6_bring_29 ?_
  refine z_iast hx hb hK hP hD hS 1 rfl (152 + k1) (congrArg nI (by omega)) (by omega) (by decide) dX6_bring_30 (fun H locs hP hD hS => ?_)
  have hP : va_P D vwCl [(m0, .inr (6, [.int (th), .ref (z0), .int (nI (sv)), .ref (sd0), .int (nI (ln)), .ref (tx0), .ref (as0), .int (nI (stp)), .int (nI (po)), .int (tl), .ref (rd0), .long (hh)])), (z0, .inl (ac 0, 162, .inl (upd (upd (z) (48 * j1 + (4 * s1 + k1)) ((z (48 * j1 + (4 * s1 + k1))) + (x))) (152 + k1) (((upd (z) (48 * j1 + (4 * s1 + k1)) ((z (48 * j1 + (4 * s1 + k1))) + (x))) (152 + k1)) + (x))))), (sd0, .inl (ac 0, 972, .inl (sd))), (tx0, .inl (ac 0, 60, .inl (tx))), (as0, .inl (ac 0, 162, .inl (az))), (rd0, .inl (ac 0, 63, .inl (rd)))] H := hP
  have hD : va_D A [(m0, .inr (6, [.int (th), .ref (z0), .int (nI (sv)), .ref (sd0), .int (nI (ln)), .ref (tx0), .ref (as0), .int (nI (stp)), .int (nI (po)), .int (tl), .ref (rd0), .long (hh)])), (z0, .inl (ac 0, 162, .inl (upd (upd (z) (48 * j1 + (4 * s1 + k1)) ((z (48 * j1 + (4 * s1 + k1))) + (x))) (152 + k1) (((upd (z) (48 * j1 + (4 * s1 + k1)) ((z (48 * j1 + (4 * s1 + k1))) + (x))) (152 + k1)) + (x))))), (sd0, .inl (ac 0, 972, .inl (sd))), (tx0, .inl (ac 0, 60, .inl (tx))), (as0, .inl (ac 0, 162, .inl (az))), (rd0, .inl (ac 0, 63, .inl (rd)))] := hD
  exact z_vretW hx hb hr hlocks hK hP hD hS hAe dX6_bring_31

set_option maxRecDepth 100000 in
set_option maxHeartbeats 4000000 in
theorem metX6_replaced (l : Launch) (D : va_G) (ac : Nat → ClassId) (sz : Nat) (m0 : Nat) (z0 : Nat) (sd0 : Nat) (tx0 : Nat) (as0 : Nat) (rd0 : Nat) (th : Int32) (sv : Nat) (ln : Nat) (stp : Nat) (po : Nat) (tl : Int32) (hh : Int64) (z : Nat → Int32) (sd : Nat → Int32) (tx : Nat → Int32) (az : Nat → Int32) (rd : Nat → Int32) (a1 : Nat) (x : Int32) (hsv : sv ≤ 6) (ha : a1 < 162) : Met l yX6_replaced wsX6_replaced ({ frames := 1, cells := 0, slots := 0, locals := 21 } : Room) (va_Pc [.ref (m0), .int (nI (a1)), .int (x)] (zS D ac [(m0, .inr (6, [.int (th), .ref (z0), .int (nI (sv)), .ref (sd0), .int (nI (ln)), .ref (tx0), .ref (as0), .int (nI (stp)), .int (nI (po)), .int (tl), .ref (rd0), .long (hh)])), (z0, .inl (ac 0, 162, .inl (z))), (sd0, .inl (ac 0, 972, .inl (sd))), (tx0, .inl (ac 0, 60, .inl (tx))), (as0, .inl (ac 0, 162, .inl (az))), (rd0, .inl (ac 0, 63, .inl (rd)))] sz)) (zQi D ac [(m0, .inr (6, [.int (th), .ref (z0), .int (nI (sv)), .ref (sd0), .int (nI (ln)), .ref (tx0), .ref (as0), .int (nI (stp)), .int (nI (po)), .int (tl), .ref (rd0), .long (hh)])), (z0, .inl (ac 0, 162, .inl (z))), (sd0, .inl (ac 0, 972, .inl (sd))), (tx0, .inl (ac 0, 60, .inl (tx))), (as0, .inl (ac 0, 162, .inl (az))), (rd0, .inl (ac 0, 63, .inl (rd)))] [(m0, .inr (6, [.int (th), .ref (z0), .int (nI (mSv sv + 1)), .ref (sd0), .int (nI (ln)), .ref (tx0), .ref (as0), .int (nI (stp)), .int (nI (po)), .int (tl), .ref (rd0), .long (hh)])), (z0, .inl (ac 0, 162, .inl (upd z a1 x))), (sd0, .inl (ac 0, 972, .inl (mSave sd z sv))), (tx0, .inl (ac 0, 60, .inl (tx))), (as0, .inl (ac 0, 162, .inl (az))), (rd0, .inl (ac 0, 63, .inl (rd)))] sz (z a1)) 0 0 (va_A [(m0, .inr (6, [.int (th), .ref (z0), .int (nI (sv)), .ref (sd0), .int (nI (ln)), .ref (tx0), .ref (as0), .int (nI (stp)), .int (nI (po)), .int (tl), .ref (rd0), .long (hh)])), (z0, .inl (ac 0, 162, .inl (z))), (sd0, .inl (ac 0, 972, .inl (sd))), (tx0, .inl (ac 0, 60, .inl (tx))), (as0, .inl (ac 0, 162, .inl (az))), (rd0, .inl (ac 0, 63, .inl (rd)))] sz) := by
  refine z_rw (cc := cX6_replaced) (maxL := 4) (ret := (some .int)) (lv := [(0, .ref (m0)), (1, .int (nI (a1))), (2, .int (x))]) (by decide) rfl (Nat.le_of_ble_eq_true rfl) rfl ?_
  intro p e s m args below meth c ls A hx hb hr hml hown hts hlocks hl hK hP hsz hAe hA hD hS
  refine lv_aload_n hx hb dX6_replaced_0 rfl (lv_at hl 0 rfl) ?_
  refine z_cvW [(m0, .inr (6, [.int (th), .ref (z0), .int (nI (mSv sv + 1)), .ref (sd0), .int (nI (ln)), .ref (tx0), .ref (as0), .int (nI (stp)), .int (nI (po)), .int (tl), .ref (rd0), .long (hh)])), (z0, .inl (ac 0, 162, .inl (z))), (sd0, .inl (ac 0, 972, .inl (mSave sd z sv))), (tx0, .inl (ac 0, 60, .inl (tx))), (as0, .inl (ac 0, 162, .inl (az))), (rd0, .inl (ac 0, 63, .inl (rd)))] (z_vrunW (rest := []) (own := RX6) (As := []) hx hb hml hown hts hl.1 hK hP hD [0, 1, 2, 3, 4, 5] rfl (by decide) rfl (metX6_save l D ac _ m0 z0 sd0 tx0 as0 rd0 th sv ln stp po tl hh z sd tx az rd (by omega)) gX6_replaced_X6_save rfl 0 (by decide +kernel) ⟨rfl, rfl, Nat.le_of_ble_eq_true rfl, Nat.le_of_ble_eq_true rfl⟩ 0 6 rfl rfl rfl rfl rfl (Nat.le_of_ble_eq_true rfl) dX6_replaced_1 ⟨Nat.zero_le _, Nat.zero_le _⟩) hP hD hS hA [0, 1, 2, 3, 4, 5] [] [0, 1, 2, 3, 4, 5] rfl rfl (by decide) (by decide) (by decide) rfl (fun H locs hP hD hS => ?_)
  refine lv_aload_n hx hb dX6_replaced_4 rfl (lv_at hl 0 rfl) ?_
  refine va_get (ci := 6) (v := .ref (z0)) (C := RX6) (T := TX6) (N := 12) hx hb hts (by decide +kernel) hown hK hP 0 rfl rfl 1 (by decide) (hts (.fieldLink RX6 7 "SettlingJarsModel" "z" "[I") (by decide +kernel)) (fun _ h9 => h9) rfl dX6_replaced_5 ?_
  refine lv_iload_n hx hb dX6_replaced_8 rfl (lv_at hl 1 rfl) ?_
  refine z_iald hx hb hK hP 1 rfl (a1) (rfl) (by omega) (by decide) dX6_replaced_9 ?_
  refine lv_istore_n (lv' := [(3, .int (z a1)), (0, .ref (m0)), (1, .int (nI (a1))), (2, .int (x))]) hx hb dX6_replaced_10 rfl hl (by decide) rfl (fun ls hl => ?_)
  refine lv_aload_n hx hb dX6_replaced_11 rfl (lv_at hl 1 rfl) ?_
  refine va_get (ci := 6) (v := .ref (z0)) (C := RX6) (T := TX6) (N := 12) hx hb hts (by decide +kernel) hown hK hP 0 rfl rfl 1 (by decide) (hts (.fieldLink RX6 7 "SettlingJarsModel" "z" "[I") (by decide +kernel)) (fun _ h9 => h9) rfl dX6_replaced_12 ?_
  refine lv_iload_n hx hb dX6_replaced_15 rfl (lv_at hl 2 rfl) ?_
  refine lv_iload_n hx hb dX6_replaced_16 rfl (lv_at hl 3 rfl) ?_
  refine z_iast hx hb hK hP hD hS 1 rfl (a1) (rfl) (by omega) (by decide) dX6_replaced_17 (fun H locs hP hD hS => ?_)
  have hP : va_P D vwCl [(m0, .inr (6, [.int (th), .ref (z0), .int (nI (mSv sv + 1)), .ref (sd0), .int (nI (ln)), .ref (tx0), .ref (as0), .int (nI (stp)), .int (nI (po)), .int (tl), .ref (rd0), .long (hh)])), (z0, .inl (ac 0, 162, .inl (upd (z) (a1) (x)))), (sd0, .inl (ac 0, 972, .inl (mSave sd z sv))), (tx0, .inl (ac 0, 60, .inl (tx))), (as0, .inl (ac 0, 162, .inl (az))), (rd0, .inl (ac 0, 63, .inl (rd)))] H := hP
  have hD : va_D A [(m0, .inr (6, [.int (th), .ref (z0), .int (nI (mSv sv + 1)), .ref (sd0), .int (nI (ln)), .ref (tx0), .ref (as0), .int (nI (stp)), .int (nI (po)), .int (tl), .ref (rd0), .long (hh)])), (z0, .inl (ac 0, 162, .inl (upd (z) (a1) (x)))), (sd0, .inl (ac 0, 972, .inl (mSave sd z sv))), (tx0, .inl (ac 0, 60, .inl (tx))), (as0, .inl (ac 0, 162, .inl (az))), (rd0, .inl (ac 0, 63, .inl (rd)))] := hD
  refine lv_iload_n hx hb dX6_replaced_18 rfl (lv_at hl 0 rfl) ?_
  exact z_iretW hx hb hr hlocks hK hP hD hS hAe (rfl) dX6_replaced_19

set_option maxRecDepth 100000 in
set_option maxHeartbeats 4000000 in
theorem metX6_set_1 (l : Launch) (D : va_G) (ac : Nat → ClassId) (sz : Nat) (m0 : Nat) (z0 : Nat) (sd0 : Nat) (tx0 : Nat) (as0 : Nat) (rd0 : Nat) (th : Int32) (sv : Nat) (ln : Nat) (stp : Nat) (po : Nat) (tl : Int32) (hh : Int64) (z : Nat → Int32) (sd : Nat → Int32) (tx : Nat → Int32) (az : Nat → Int32) (rd : Nat → Int32) (x1 : Int32) (x2 : Int32) (h1 : ¬ (0 ≤ x1 ∧ x1 ≤ 3)) : Met l yX6_set wsX6_set ({ frames := 2, cells := 0, slots := 0, locals := 42 } : Room) (va_Pc [.ref (m0), .int (x1), .int (x2)] (zS D ac [(m0, .inr (6, [.int (th), .ref (z0), .int (nI (sv)), .ref (sd0), .int (nI (ln)), .ref (tx0), .ref (as0), .int (nI (stp)), .int (nI (po)), .int (tl), .ref (rd0), .long (hh)])), (z0, .inl (ac 0, 162, .inl (z))), (sd0, .inl (ac 0, 972, .inl (sd))), (tx0, .inl (ac 0, 60, .inl (tx))), (as0, .inl (ac 0, 162, .inl (az))), (rd0, .inl (ac 0, 63, .inl (rd)))] sz)) (zQi D ac [(m0, .inr (6, [.int (th), .ref (z0), .int (nI (sv)), .ref (sd0), .int (nI (ln)), .ref (tx0), .ref (as0), .int (nI (stp)), .int (nI (po)), .int (tl), .ref (rd0), .long (hh)])), (z0, .inl (ac 0, 162, .inl (z))), (sd0, .inl (ac 0, 972, .inl (sd))), (tx0, .inl (ac 0, 60, .inl (tx))), (as0, .inl (ac 0, 162, .inl (az))), (rd0, .inl (ac 0, 63, .inl (rd)))] [(m0, .inr (6, [.int (1), .ref (z0), .int (nI (sv)), .ref (sd0), .int (nI (ln)), .ref (tx0), .ref (as0), .int (nI (stp)), .int (nI (po)), .int (tl), .ref (rd0), .long (hh)])), (z0, .inl (ac 0, 162, .inl (z))), (sd0, .inl (ac 0, 972, .inl (sd))), (tx0, .inl (ac 0, 60, .inl (tx))), (as0, .inl (ac 0, 162, .inl (az))), (rd0, .inl (ac 0, 63, .inl (rd)))] sz (0)) 0 0 (va_A [(m0, .inr (6, [.int (th), .ref (z0), .int (nI (sv)), .ref (sd0), .int (nI (ln)), .ref (tx0), .ref (as0), .int (nI (stp)), .int (nI (po)), .int (tl), .ref (rd0), .long (hh)])), (z0, .inl (ac 0, 162, .inl (z))), (sd0, .inl (ac 0, 972, .inl (sd))), (tx0, .inl (ac 0, 60, .inl (tx))), (as0, .inl (ac 0, 162, .inl (az))), (rd0, .inl (ac 0, 63, .inl (rd)))] sz) := by
  refine z_rw (cc := cX6_set) (maxL := 3) (ret := (some .int)) (lv := [(0, .ref (m0)), (1, .int (x1)), (2, .int (x2))]) (by decide) rfl (Nat.le_of_ble_eq_true rfl) rfl ?_
  intro p e s m args below meth c ls A hx hb hr hml hown hts hlocks hl hK hP hsz hAe hA hD hS
  refine lv_aload_n hx hb dX6_set_0 rfl (lv_at hl 0 rfl) ?_
  refine lv_iload_n hx hb dX6_set_1 rfl (lv_at hl 1 rfl) ?_
  refine z_ci (z_srun (rest := [.ref (m0)]) (own := RX6) (As := [.int (x1)]) hx hb hml hown hts hl.1 hK hP [] rfl (metX6_isSetting l D ac x1 ) gX6_set_X6_isSetting rfl 1 (by decide +kernel) ⟨rfl, rfl, Nat.le_of_ble_eq_true rfl, Nat.le_of_ble_eq_true rfl⟩ rfl rfl (Nat.le_of_ble_eq_true rfl) dX6_set_2 ⟨Nat.zero_le _, Nat.zero_le _⟩) ?_
  refine z_if_ne (C := 0 ≤ x1 ∧ x1 ≤ 3) (tgt := 12) hx hb dX6_set_5 (by decide) (fun c_5 => absurd c_5 (h1)) (fun c_5 => ?_)
  refine lv_iconst (v := 1) hx hb dX6_set_8 (by decide) ?_
  refine lv_goto (tgt := 25) hx hb dX6_set_9 (by decide) ?_
  refine va_put (ci := 6) (v := .int (1)) (ty := .int) (C := RX6) (T := TX6) (N := 12) hx hb hts (by decide +kernel) tyX6 tyX6_ok nmX6 hown hK hP hD hS 0 rfl rfl 0 (by decide) (hts (.fieldLink RX6 25 "SettlingJarsModel" "thrown" "I") (by decide +kernel)) (fun _ h9 => h9) rfl (by decide +kernel) rfl rfl (Nat.le_of_ble_eq_true rfl) dX6_set_25 (fun H locs hP hD hS => ?_)
  have hP : va_P D vwCl [(m0, .inr (6, [.int (1), .ref (z0), .int (nI (sv)), .ref (sd0), .int (nI (ln)), .ref (tx0), .ref (as0), .int (nI (stp)), .int (nI (po)), .int (tl), .ref (rd0), .long (hh)])), (z0, .inl (ac 0, 162, .inl (z))), (sd0, .inl (ac 0, 972, .inl (sd))), (tx0, .inl (ac 0, 60, .inl (tx))), (as0, .inl (ac 0, 162, .inl (az))), (rd0, .inl (ac 0, 63, .inl (rd)))] H := hP
  have hD : va_D A [(m0, .inr (6, [.int (1), .ref (z0), .int (nI (sv)), .ref (sd0), .int (nI (ln)), .ref (tx0), .ref (as0), .int (nI (stp)), .int (nI (po)), .int (tl), .ref (rd0), .long (hh)])), (z0, .inl (ac 0, 162, .inl (z))), (sd0, .inl (ac 0, 972, .inl (sd))), (tx0, .inl (ac 0, 60, .inl (tx))), (as0, .inl (ac 0, 162, .inl (az))), (rd0, .inl (ac 0, 63, .inl (rd)))] := hD
  refine lv_aload_n hx hb dX6_set_28 rfl (lv_at hl 0 rfl) ?_
  refine va_get (ci := 6) (v := .int (1)) (C := RX6) (T := TX6) (N := 12) hx hb hts (by decide +kernel) hown hK hP 0 rfl rfl 0 (by decide) (hts (.fieldLink RX6 25 "SettlingJarsModel" "thrown" "I") (by decide +kernel)) (fun _ h9 => h9) rfl dX6_set_29 ?_
  refine lv_if_le (tgt := 39) hx hb dX6_set_32 (by decide) (fun c_ => absurd c_ (by decide)) (fun _ => ?_)
  refine lv_iconst (v := 0) hx hb dX6_set_35 (by decide) ?_
  refine lv_goto (tgt := 49) hx hb dX6_set_36 (by decide) ?_
  exact z_iretW hx hb hr hlocks hK hP hD hS hAe (rfl) dX6_set_49

set_option maxRecDepth 100000 in
set_option maxHeartbeats 4000000 in
theorem metX6_set_2 (l : Launch) (D : va_G) (ac : Nat → ClassId) (sz : Nat) (m0 : Nat) (z0 : Nat) (sd0 : Nat) (tx0 : Nat) (as0 : Nat) (rd0 : Nat) (th : Int32) (sv : Nat) (ln : Nat) (stp : Nat) (po : Nat) (tl : Int32) (hh : Int64) (z : Nat → Int32) (sd : Nat → Int32) (tx : Nat → Int32) (az : Nat → Int32) (rd : Nat → Int32) (k1 : Nat) (x2 : Int32) (hk : k1 < 4) (h2 : ¬ (qLo k1 ≤ x2 ∧ x2 ≤ qUp k1)) : Met l yX6_set wsX6_set ({ frames := 2, cells := 0, slots := 0, locals := 43 } : Room) (va_Pc [.ref (m0), .int (nI (k1)), .int (x2)] (zS D ac [(m0, .inr (6, [.int (th), .ref (z0), .int (nI (sv)), .ref (sd0), .int (nI (ln)), .ref (tx0), .ref (as0), .int (nI (stp)), .int (nI (po)), .int (tl), .ref (rd0), .long (hh)])), (z0, .inl (ac 0, 162, .inl (z))), (sd0, .inl (ac 0, 972, .inl (sd))), (tx0, .inl (ac 0, 60, .inl (tx))), (as0, .inl (ac 0, 162, .inl (az))), (rd0, .inl (ac 0, 63, .inl (rd)))] sz)) (zQi D ac [(m0, .inr (6, [.int (th), .ref (z0), .int (nI (sv)), .ref (sd0), .int (nI (ln)), .ref (tx0), .ref (as0), .int (nI (stp)), .int (nI (po)), .int (tl), .ref (rd0), .long (hh)])), (z0, .inl (ac 0, 162, .inl (z))), (sd0, .inl (ac 0, 972, .inl (sd))), (tx0, .inl (ac 0, 60, .inl (tx))), (as0, .inl (ac 0, 162, .inl (az))), (rd0, .inl (ac 0, 63, .inl (rd)))] [(m0, .inr (6, [.int (2), .ref (z0), .int (nI (sv)), .ref (sd0), .int (nI (ln)), .ref (tx0), .ref (as0), .int (nI (stp)), .int (nI (po)), .int (tl), .ref (rd0), .long (hh)])), (z0, .inl (ac 0, 162, .inl (z))), (sd0, .inl (ac 0, 972, .inl (sd))), (tx0, .inl (ac 0, 60, .inl (tx))), (as0, .inl (ac 0, 162, .inl (az))), (rd0, .inl (ac 0, 63, .inl (rd)))] sz (0)) 0 0 (va_A [(m0, .inr (6, [.int (th), .ref (z0), .int (nI (sv)), .ref (sd0), .int (nI (ln)), .ref (tx0), .ref (as0), .int (nI (stp)), .int (nI (po)), .int (tl), .ref (rd0), .long (hh)])), (z0, .inl (ac 0, 162, .inl (z))), (sd0, .inl (ac 0, 972, .inl (sd))), (tx0, .inl (ac 0, 60, .inl (tx))), (as0, .inl (ac 0, 162, .inl (az))), (rd0, .inl (ac 0, 63, .inl (rd)))] sz) := by
  refine z_rw (cc := cX6_set) (maxL := 3) (ret := (some .int)) (lv := [(0, .ref (m0)), (1, .int (nI (k1))), (2, .int (x2))]) (by decide) rfl (Nat.le_of_ble_eq_true rfl) rfl ?_
  intro p e s m args below meth c ls A hx hb hr hml hown hts hlocks hl hK hP hsz hAe hA hD hS
  refine lv_aload_n hx hb dX6_set_0 rfl (lv_at hl 0 rfl) ?_
  refine lv_iload_n hx hb dX6_set_1 rfl (lv_at hl 1 rfl) ?_
  refine z_ci (z_srun (rest := [.ref (m0)]) (own := RX6) (As := [.int (nI (k1))]) hx hb hml hown hts hl.1 hK hP [] rfl (metX6_isSetting l D ac (nI (k1)) ) gX6_set_X6_isSetting rfl 1 (by decide +kernel) ⟨rfl, rfl, Nat.le_of_ble_eq_true rfl, Nat.le_of_ble_eq_true rfl⟩ rfl rfl (Nat.le_of_ble_eq_true rfl) dX6_set_2 ⟨Nat.zero_le _, Nat.zero_le _⟩) ?_
  refine z_if_ne (C := 0 ≤ (nI (k1)) ∧ (nI (k1)) ≤ 3) (tgt := 12) hx hb dX6_set_5 (by decide) (fun c_5 => ?_) (fun c_5 => absurd c_5 (fun q => q (z_in (n := 3) (by omega))))
  refine lv_iload_n hx hb dX6_set_12 rfl (lv_at hl 1 rfl) ?_
  refine lv_iload_n hx hb dX6_set_13 rfl (lv_at hl 2 rfl) ?_
  refine z_ci (z_srun (rest := [.ref (m0)]) (own := RX6) (As := [.int (nI (k1)), .int (x2)]) hx hb hml hown hts hl.1 hK hP [] rfl (metX6_isValue l D ac k1 x2 (by omega)) gX6_set_X6_isValue rfl 2 (by decide +kernel) ⟨rfl, rfl, Nat.le_of_ble_eq_true rfl, Nat.le_of_ble_eq_true rfl⟩ rfl rfl (Nat.le_of_ble_eq_true rfl) dX6_set_14 ⟨Nat.zero_le _, Nat.zero_le _⟩) ?_
  refine z_if_eq (C := qLo k1 ≤ x2 ∧ x2 ≤ qUp k1) (tgt := 24) hx hb dX6_set_17 (by decide) (fun c_17 => ?_) (fun c_17 => absurd c_17 (h2))
  refine lv_iconst (v := 2) hx hb dX6_set_24 (by decide) ?_
  refine va_put (ci := 6) (v := .int (2)) (ty := .int) (C := RX6) (T := TX6) (N := 12) hx hb hts (by decide +kernel) tyX6 tyX6_ok nmX6 hown hK hP hD hS 0 rfl rfl 0 (by decide) (hts (.fieldLink RX6 25 "SettlingJarsModel" "thrown" "I") (by decide +kernel)) (fun _ h9 => h9) rfl (by decide +kernel) rfl rfl (Nat.le_of_ble_eq_true rfl) dX6_set_25 (fun H locs hP hD hS => ?_)
  have hP : va_P D vwCl [(m0, .inr (6, [.int (2), .ref (z0), .int (nI (sv)), .ref (sd0), .int (nI (ln)), .ref (tx0), .ref (as0), .int (nI (stp)), .int (nI (po)), .int (tl), .ref (rd0), .long (hh)])), (z0, .inl (ac 0, 162, .inl (z))), (sd0, .inl (ac 0, 972, .inl (sd))), (tx0, .inl (ac 0, 60, .inl (tx))), (as0, .inl (ac 0, 162, .inl (az))), (rd0, .inl (ac 0, 63, .inl (rd)))] H := hP
  have hD : va_D A [(m0, .inr (6, [.int (2), .ref (z0), .int (nI (sv)), .ref (sd0), .int (nI (ln)), .ref (tx0), .ref (as0), .int (nI (stp)), .int (nI (po)), .int (tl), .ref (rd0), .long (hh)])), (z0, .inl (ac 0, 162, .inl (z))), (sd0, .inl (ac 0, 972, .inl (sd))), (tx0, .inl (ac 0, 60, .inl (tx))), (as0, .inl (ac 0, 162, .inl (az))), (rd0, .inl (ac 0, 63, .inl (rd)))] := hD
  refine lv_aload_n hx hb dX6_set_28 rfl (lv_at hl 0 rfl) ?_
  refine va_get (ci := 6) (v := .int (2)) (C := RX6) (T := TX6) (N := 12) hx hb hts (by decide +kernel) hown hK hP 0 rfl rfl 0 (by decide) (hts (.fieldLink RX6 25 "SettlingJarsModel" "thrown" "I") (by decide +kernel)) (fun _ h9 => h9) rfl dX6_set_29 ?_
  refine lv_if_le (tgt := 39) hx hb dX6_set_32 (by decide) (fun c_ => absurd c_ (by decide)) (fun _ => ?_)
  refine lv_iconst (v := 0) hx hb dX6_set_35 (by decide) ?_
  refine lv_goto (tgt := 49) hx hb dX6_set_36 (by decide) ?_
  exact z_iretW hx hb hr hlocks hK hP hD hS hAe (rfl) dX6_set_49

set_option maxRecDepth 100000 in
set_option maxHeartbeats 4000000 in
theorem metX6_set_0 (l : Launch) (D : va_G) (ac : Nat → ClassId) (sz : Nat) (m0 : Nat) (z0 : Nat) (sd0 : Nat) (tx0 : Nat) (as0 : Nat) (rd0 : Nat) (th : Int32) (sv : Nat) (ln : Nat) (stp : Nat) (po : Nat) (tl : Int32) (hh : Int64) (z : Nat → Int32) (sd : Nat → Int32) (tx : Nat → Int32) (az : Nat → Int32) (rd : Nat → Int32) (k1 : Nat) (x2 : Int32) (hk : k1 < 4) (h2 : qLo k1 ≤ x2 ∧ x2 ≤ qUp k1) (hsv : sv ≤ 6) : Met l yX6_set wsX6_set ({ frames := 2, cells := 0, slots := 0, locals := 44 } : Room) (va_Pc [.ref (m0), .int (nI (k1)), .int (x2)] (zS D ac [(m0, .inr (6, [.int (th), .ref (z0), .int (nI (sv)), .ref (sd0), .int (nI (ln)), .ref (tx0), .ref (as0), .int (nI (stp)), .int (nI (po)), .int (tl), .ref (rd0), .long (hh)])), (z0, .inl (ac 0, 162, .inl (z))), (sd0, .inl (ac 0, 972, .inl (sd))), (tx0, .inl (ac 0, 60, .inl (tx))), (as0, .inl (ac 0, 162, .inl (az))), (rd0, .inl (ac 0, 63, .inl (rd)))] sz)) (zQi D ac [(m0, .inr (6, [.int (th), .ref (z0), .int (nI (sv)), .ref (sd0), .int (nI (ln)), .ref (tx0), .ref (as0), .int (nI (stp)), .int (nI (po)), .int (tl), .ref (rd0), .long (hh)])), (z0, .inl (ac 0, 162, .inl (z))), (sd0, .inl (ac 0, 972, .inl (sd))), (tx0, .inl (ac 0, 60, .inl (tx))), (as0, .inl (ac 0, 162, .inl (az))), (rd0, .inl (ac 0, 63, .inl (rd)))] [(m0, .inr (6, [.int (0), .ref (z0), .int (nI (mSv sv + 1)), .ref (sd0), .int (nI (ln)), .ref (tx0), .ref (as0), .int (nI (stp)), .int (nI (po)), .int (tl), .ref (rd0), .long (hh)])), (z0, .inl (ac 0, 162, .inl (upd z (144 + k1) x2))), (sd0, .inl (ac 0, 972, .inl (mSave sd z sv))), (tx0, .inl (ac 0, 60, .inl (tx))), (as0, .inl (ac 0, 162, .inl (az))), (rd0, .inl (ac 0, 63, .inl (rd)))] sz (z (144 + k1))) 0 0 (va_A [(m0, .inr (6, [.int (th), .ref (z0), .int (nI (sv)), .ref (sd0), .int (nI (ln)), .ref (tx0), .ref (as0), .int (nI (stp)), .int (nI (po)), .int (tl), .ref (rd0), .long (hh)])), (z0, .inl (ac 0, 162, .inl (z))), (sd0, .inl (ac 0, 972, .inl (sd))), (tx0, .inl (ac 0, 60, .inl (tx))), (as0, .inl (ac 0, 162, .inl (az))), (rd0, .inl (ac 0, 63, .inl (rd)))] sz) := by
  refine z_rw (cc := cX6_set) (maxL := 3) (ret := (some .int)) (lv := [(0, .ref (m0)), (1, .int (nI (k1))), (2, .int (x2))]) (by decide) rfl (Nat.le_of_ble_eq_true rfl) rfl ?_
  intro p e s m args below meth c ls A hx hb hr hml hown hts hlocks hl hK hP hsz hAe hA hD hS
  refine lv_aload_n hx hb dX6_set_0 rfl (lv_at hl 0 rfl) ?_
  refine lv_iload_n hx hb dX6_set_1 rfl (lv_at hl 1 rfl) ?_
  refine z_ci (z_srun (rest := [.ref (m0)]) (own := RX6) (As := [.int (nI (k1))]) hx hb hml hown hts hl.1 hK hP [] rfl (metX6_isSetting l D ac (nI (k1)) ) gX6_set_X6_isSetting rfl 1 (by decide +kernel) ⟨rfl, rfl, Nat.le_of_ble_eq_true rfl, Nat.le_of_ble_eq_true rfl⟩ rfl rfl (Nat.le_of_ble_eq_true rfl) dX6_set_2 ⟨Nat.zero_le _, Nat.zero_le _⟩) ?_
  refine z_if_ne (C := 0 ≤ (nI (k1)) ∧ (nI (k1)) ≤ 3) (tgt := 12) hx hb dX6_set_5 (by decide) (fun c_5 => ?_) (fun c_5 => absurd c_5 (fun q => q (z_in (n := 3) (by omega))))
  refine lv_iload_n hx hb dX6_set_12 rfl (lv_at hl 1 rfl) ?_
  refine lv_iload_n hx hb dX6_set_13 rfl (lv_at hl 2 rfl) ?_
  refine z_ci (z_srun (rest := [.ref (m0)]) (own := RX6) (As := [.int (nI (k1)), .int (x2)]) hx hb hml hown hts hl.1 hK hP [] rfl (metX6_isValue l D ac k1 x2 (by omega)) gX6_set_X6_isValue rfl 2 (by decide +kernel) ⟨rfl, rfl, Nat.le_of_ble_eq_true rfl, Nat.le_of_ble_eq_true rfl⟩ rfl rfl (Nat.le_of_ble_eq_true rfl) dX6_set_14 ⟨Nat.zero_le _, Nat.zero_le _⟩) ?_
  refine z_if_eq (C := qLo k1 ≤ x2 ∧ x2 ≤ qUp k1) (tgt := 24) hx hb dX6_set_17 (by decide) (fun c_17 => absurd c_17 (fun q => q (h2))) (fun c_17 => ?_)
  refine lv_iconst (v := 0) hx hb dX6_set_20 (by decide) ?_
  refine lv_goto (tgt := 25) hx hb dX6_set_21 (by decide) ?_
  refine va_put (ci := 6) (v := .int (0)) (ty := .int) (C := RX6) (T := TX6) (N := 12) hx hb hts (by decide +kernel) tyX6 tyX6_ok nmX6 hown hK hP hD hS 0 rfl rfl 0 (by decide) (hts (.fieldLink RX6 25 "SettlingJarsModel" "thrown" "I") (by decide +kernel)) (fun _ h9 => h9) rfl (by decide +kernel) rfl rfl (Nat.le_of_ble_eq_true rfl) dX6_set_25 (fun H locs hP hD hS => ?_)
  have hP : va_P D vwCl [(m0, .inr (6, [.int (0), .ref (z0), .int (nI (sv)), .ref (sd0), .int (nI (ln)), .ref (tx0), .ref (as0), .int (nI (stp)), .int (nI (po)), .int (tl), .ref (rd0), .long (hh)])), (z0, .inl (ac 0, 162, .inl (z))), (sd0, .inl (ac 0, 972, .inl (sd))), (tx0, .inl (ac 0, 60, .inl (tx))), (as0, .inl (ac 0, 162, .inl (az))), (rd0, .inl (ac 0, 63, .inl (rd)))] H := hP
  have hD : va_D A [(m0, .inr (6, [.int (0), .ref (z0), .int (nI (sv)), .ref (sd0), .int (nI (ln)), .ref (tx0), .ref (as0), .int (nI (stp)), .int (nI (po)), .int (tl), .ref (rd0), .long (hh)])), (z0, .inl (ac 0, 162, .inl (z))), (sd0, .inl (ac 0, 972, .inl (sd))), (tx0, .inl (ac 0, 60, .inl (tx))), (as0, .inl (ac 0, 162, .inl (az))), (rd0, .inl (ac 0, 63, .inl (rd)))] := hD
  refine lv_aload_n hx hb dX6_set_28 rfl (lv_at hl 0 rfl) ?_
  refine va_get (ci := 6) (v := .int (0)) (C := RX6) (T := TX6) (N := 12) hx hb hts (by decide +kernel) hown hK hP 0 rfl rfl 0 (by decide) (hts (.fieldLink RX6 25 "SettlingJarsModel" "thrown" "I") (by decide +kernel)) (fun _ h9 => h9) rfl dX6_set_29 ?_
  refine lv_if_le (tgt := 39) hx hb dX6_set_32 (by decide) (fun _ => ?_) (fun c_ => absurd (by decide) c_)
  refine lv_aload_n hx hb dX6_set_39 rfl (lv_at hl 0 rfl) ?_
  refine lv_sipush (v := 144) hx hb dX6_set_40 (by decide) ?_
  refine lv_iload_n hx hb dX6_set_43 rfl (lv_at hl 1 rfl) ?_
  refine lv_iadd hx hb dX6_set_44 ?_
  refine z_top (y := nI ((144) + (k1))) (nI_add (144) (k1)) ?_
  refine lv_iload_n hx hb dX6_set_45 rfl (lv_at hl 2 rfl) ?_
  refine z_ciW [(m0, .inr (6, [.int (0), .ref (z0), .int (nI (mSv sv + 1)), .ref (sd0), .int (nI (ln)), .ref (tx0), .ref (as0), .int (nI (stp)), .int (nI (po)), .int (tl), .ref (rd0), .long (hh)])), (z0, .inl (ac 0, 162, .inl (upd z ((144) + (k1)) x2))), (sd0, .inl (ac 0, 972, .inl (mSave sd z sv))), (tx0, .inl (ac 0, 60, .inl (tx))), (as0, .inl (ac 0, 162, .inl (az))), (rd0, .inl (ac 0, 63, .inl (rd)))] (z_vrunW (rest := []) (own := RX6) (As := [.int (nI ((144) + (k1))), .int (x2)]) hx hb hml hown hts hl.1 hK hP hD [0, 1, 2, 3, 4, 5] rfl (by decide) rfl (metX6_replaced l D ac _ m0 z0 sd0 tx0 as0 rd0 0 sv ln stp po tl hh z sd tx az rd ((144) + (k1)) x2 (by omega) (by omega)) gX6_set_X6_replaced rfl 2 (by decide +kernel) ⟨rfl, rfl, Nat.le_of_ble_eq_true rfl, Nat.le_of_ble_eq_true rfl⟩ 0 6 rfl rfl rfl rfl rfl (Nat.le_of_ble_eq_true rfl) dX6_set_46 ⟨Nat.zero_le _, Nat.zero_le _⟩) hP hD hS hA [0, 1, 2, 3, 4, 5] [] [0, 1, 2, 3, 4, 5] rfl rfl (by decide) (by decide) (by decide) rfl (fun H locs hP hD hS => ?_)
  exact z_iretW hx hb hr hlocks hK hP hD hS hAe (rfl) dX6_set_49

