set_option maxRecDepth 100000 in
set_option maxHeartbeats 4000000 in
theorem metX0_isComplete (l : Launch) (D : va_G) (ac : Nat → ClassId) (ch : Nat) (cs : Nat) (tx : Nat → Int32) (ln : Nat) (hln : ln ≤ 60) : Met l yX0_isComplete wsX0_isComplete ({ frames := 2, cells := 0, slots := 0, locals := 41 } : Room) (va_Pc [.ref (ch)] (zW D ac [(ch, .inr (0, [.ref (cs), .int (nI (ln))])), (cs, .inl (ac 1, 60, .inl (tx)))])) (zRi (if qPls tx ln = some 4 ∨ qPls tx ln = some 6 ∨ qPls tx ln = some 7 then 1 else 0)) 0 0 (fun _ => False) := by
  refine z_ro (cc := cX0_isComplete) (maxL := 3) (ret := (some .boolean)) (lv := [(0, .ref (ch))]) (by decide) rfl (Nat.le_of_ble_eq_true rfl) rfl ?_
  intro p e s m args below meth c ls hx hb hr hml hown hts hlocks hl hK hP
  refine lv_iconst (v := 0) hx hb dX0_isComplete_0 (by decide) ?_
  refine lv_istore_n (lv' := [(1, .int (0)), (0, .ref (ch))]) hx hb dX0_isComplete_1 rfl hl (by decide) rfl (fun ls hl => ?_)
  refine lv_iconst (v := 0) hx hb dX0_isComplete_2 (by decide) ?_
  refine lv_istore_n (lv' := [(2, .int (0)), (1, .int (0)), (0, .ref (ch))]) hx hb dX0_isComplete_3 rfl hl (by decide) rfl (fun ls hl => ?_)
  have hL_4 : ∀ (n : Nat) (i : Nat) (o : Option Nat), (i + n = ln) → (qPls tx i = o) → ∀ (ls : Array Slot), lv_has ls 3 [(2, .int (nI (i))), (1, .int (zOI o)), (0, .ref (ch))] → W p l e ({ frames := 2, cells := 0, slots := 0, locals := 41 } : Room) s m args below meth c s.heap [] 0 0 (MQ below (zRi (if qPls tx ln = some 4 ∨ qPls tx ln = some 6 ∨ qPls tx ln = some 7 then 1 else 0)) args s 0 0 (fun _ => False)) (F0 m 4 ls []) := by
    intro n
    induction n with
    | zero =>
      intro i o hi ho ls hl
      have e_i : ln = i := by omega
      subst e_i
      refine lv_iload_n hx hb dX0_isComplete_4 rfl (lv_at hl 0 rfl) ?_
      refine lv_aload_n hx hb dX0_isComplete_5 rfl (lv_at hl 2 rfl) ?_
      refine va_get (ci := 0) (v := .int (nI (ln))) (C := RX0) (T := TX0) (N := 2) hx hb hts (by decide +kernel) hown hK hP 0 rfl rfl 1 (by decide) (hts (.fieldLink RX0 15 "SettlingJars$Charge" "length" "I") (by decide +kernel)) (fun _ h9 => h9) rfl dX0_isComplete_6 ?_
      refine z_icmp_ge (tgt := 29) hx hb (ln) (ln) dX0_isComplete_9 (by decide) (by omega) (by omega) rfl rfl (fun c_9 => ?_) (fun c_9 => absurd c_9 (by omega))
      refine lv_iload_n hx hb dX0_isComplete_29 rfl (lv_at hl 1 rfl) ?_
      refine lv_iconst (v := 4) hx hb dX0_isComplete_30 (by decide) ?_
      refine lv_icmp_eq (tgt := 46) hx hb dX0_isComplete_31 (by decide) (fun c_31 => ?_) (fun c_31 => ?_)
      · refine lv_iconst (v := 1) hx hb dX0_isComplete_46 (by decide) ?_
        refine lv_goto (tgt := 51) hx hb dX0_isComplete_47 (by decide) ?_
        exact z_zret hx hb hr hlocks (rfl) ((if_pos (Or.inl (ho.trans ((z_oi_eq (k := 4) (by decide) (fun b h => q_pls_lt tx _ b (ho.trans h))).mp c_31)))).symm) dX0_isComplete_51
      · refine lv_iload_n hx hb dX0_isComplete_34 rfl (lv_at hl 1 rfl) ?_
        refine lv_bipush (v := 6) hx hb dX0_isComplete_35 (by decide) ?_
        refine lv_icmp_eq (tgt := 46) hx hb dX0_isComplete_37 (by decide) (fun c_37 => ?_) (fun c_37 => ?_)
        · refine lv_iconst (v := 1) hx hb dX0_isComplete_46 (by decide) ?_
          refine lv_goto (tgt := 51) hx hb dX0_isComplete_47 (by decide) ?_
          exact z_zret hx hb hr hlocks (rfl) ((if_pos (Or.inr (Or.inl (ho.trans ((z_oi_eq (k := 6) (by decide) (fun b h => q_pls_lt tx _ b (ho.trans h))).mp c_37))))).symm) dX0_isComplete_51
        · refine lv_iload_n hx hb dX0_isComplete_40 rfl (lv_at hl 1 rfl) ?_
          refine lv_bipush (v := 7) hx hb dX0_isComplete_41 (by decide) ?_
          refine lv_icmp_ne (tgt := 50) hx hb dX0_isComplete_43 (by decide) (fun c_43 => ?_) (fun c_43 => ?_)
          · refine lv_iconst (v := 0) hx hb dX0_isComplete_50 (by decide) ?_
            exact z_zret hx hb hr hlocks (rfl) ((if_neg (fun q => q.elim (fun w => c_31 ((z_oi_eq (k := 4) (by decide) (fun b h => q_pls_lt tx _ b (ho.trans h))).mpr (ho.symm.trans w))) (fun q => q.elim (fun w => c_37 ((z_oi_eq (k := 6) (by decide) (fun b h => q_pls_lt tx _ b (ho.trans h))).mpr (ho.symm.trans w))) (fun w => c_43 ((z_oi_eq (k := 7) (by decide) (fun b h => q_pls_lt tx _ b (ho.trans h))).mpr (ho.symm.trans w)))))).symm) dX0_isComplete_51
          · refine lv_iconst (v := 1) hx hb dX0_isComplete_46 (by decide) ?_
            refine lv_goto (tgt := 51) hx hb dX0_isComplete_47 (by decide) ?_
            exact z_zret hx hb hr hlocks (rfl) ((if_pos (Or.inr (Or.inr (ho.trans ((z_oi_eq (k := 7) (by decide) (fun b h => q_pls_lt tx _ b (ho.trans h))).mp c_43))))).symm) dX0_isComplete_51
    | succ n ih =>
      intro i o hi ho ls hl
      refine lv_iload_n hx hb dX0_isComplete_4 rfl (lv_at hl 0 rfl) ?_
      refine lv_aload_n hx hb dX0_isComplete_5 rfl (lv_at hl 2 rfl) ?_
      refine va_get (ci := 0) (v := .int (nI (ln))) (C := RX0) (T := TX0) (N := 2) hx hb hts (by decide +kernel) hown hK hP 0 rfl rfl 1 (by decide) (hts (.fieldLink RX0 15 "SettlingJars$Charge" "length" "I") (by decide +kernel)) (fun _ h9 => h9) rfl dX0_isComplete_6 ?_
      refine z_icmp_ge (tgt := 29) hx hb (i) (ln) dX0_isComplete_9 (by decide) (by omega) (by omega) rfl rfl (fun c_9 => absurd c_9 (by omega)) (fun c_9 => ?_)
      rcases o with _ | b
      · refine lv_iload_n hx hb dX0_isComplete_12 rfl (lv_at hl 1 rfl) ?_
        refine z_top (y := (-1)) (rfl) ?_
        refine lv_aload_n hx hb dX0_isComplete_13 rfl (lv_at hl 2 rfl) ?_
        refine va_get (ci := 0) (v := .ref (cs)) (C := RX0) (T := TX0) (N := 2) hx hb hts (by decide +kernel) hown hK hP 0 rfl rfl 0 (by decide) (hts (.fieldLink RX0 11 "SettlingJars$Charge" "signs" "[C") (by decide +kernel)) (fun _ h9 => h9) rfl dX0_isComplete_14 ?_
        refine lv_iload_n hx hb dX0_isComplete_17 rfl (lv_at hl 0 rfl) ?_
        refine z_cald hx hb hK hP 1 rfl (i) (rfl) (by omega) (by decide) dX0_isComplete_18 ?_
        refine z_ci (z_srun (rest := []) (own := RX0) (As := [.int ((-1)), .int (tx i)]) hx hb hml hown hts hl.1 hK hP [] rfl (metX0_placeBehind_n l D ac (tx i) ) gX0_isComplete_X0_placeBehind rfl 2 (by decide +kernel) ⟨rfl, rfl, Nat.le_of_ble_eq_true rfl, Nat.le_of_ble_eq_true rfl⟩ rfl rfl (Nat.le_of_ble_eq_true rfl) dX0_isComplete_19 ⟨Nat.zero_le _, Nat.zero_le _⟩) ?_
        refine lv_istore_n (lv' := [(1, .int ((-1))), (2, .int (nI (i))), (0, .ref (ch))]) hx hb dX0_isComplete_22 rfl hl (by decide) rfl (fun ls hl => ?_)
        refine lv_iinc (v := nI ((i) + 1)) (lv' := [(2, .int (nI ((i) + 1))), (1, .int ((-1))), (0, .ref (ch))]) hx hb dX0_isComplete_23 hl (k := 1) rfl (show nI (i) + Int32.ofInt 1 = _ from nI_add (i) 1) (by decide) rfl (fun ls hl => ?_)
        refine lv_goto (tgt := 4) hx hb dX0_isComplete_26 (by decide) ?_
        exact ih (i + 1) (none) (by omega) (congrArg (fun o9 => qPl o9 (tx i)) ho) ls (lv_sub hl [0, 1, 2] rfl)
      · refine lv_iload_n hx hb dX0_isComplete_12 rfl (lv_at hl 1 rfl) ?_
        refine z_top (y := nI (b)) (rfl) ?_
        refine lv_aload_n hx hb dX0_isComplete_13 rfl (lv_at hl 2 rfl) ?_
        refine va_get (ci := 0) (v := .ref (cs)) (C := RX0) (T := TX0) (N := 2) hx hb hts (by decide +kernel) hown hK hP 0 rfl rfl 0 (by decide) (hts (.fieldLink RX0 11 "SettlingJars$Charge" "signs" "[C") (by decide +kernel)) (fun _ h9 => h9) rfl dX0_isComplete_14 ?_
        refine lv_iload_n hx hb dX0_isComplete_17 rfl (lv_at hl 0 rfl) ?_
        refine z_cald hx hb hK hP 1 rfl (i) (rfl) (by omega) (by decide) dX0_isComplete_18 ?_
        refine z_ci (z_srun (rest := []) (own := RX0) (As := [.int (nI (b)), .int (tx i)]) hx hb hml hown hts hl.1 hK hP [] rfl (metX0_placeBehind l D ac b (tx i) (q_pls_lt tx _ _ ho)) gX0_isComplete_X0_placeBehind rfl 2 (by decide +kernel) ⟨rfl, rfl, Nat.le_of_ble_eq_true rfl, Nat.le_of_ble_eq_true rfl⟩ rfl rfl (Nat.le_of_ble_eq_true rfl) dX0_isComplete_19 ⟨Nat.zero_le _, Nat.zero_le _⟩) ?_
        refine lv_istore_n (lv' := [(1, .int (zOI (qPl (some b) (tx i)))), (2, .int (nI (i))), (0, .ref (ch))]) hx hb dX0_isComplete_22 rfl hl (by decide) rfl (fun ls hl => ?_)
        refine lv_iinc (v := nI ((i) + 1)) (lv' := [(2, .int (nI ((i) + 1))), (1, .int (zOI (qPl (some b) (tx i)))), (0, .ref (ch))]) hx hb dX0_isComplete_23 hl (k := 1) rfl (show nI (i) + Int32.ofInt 1 = _ from nI_add (i) 1) (by decide) rfl (fun ls hl => ?_)
        refine lv_goto (tgt := 4) hx hb dX0_isComplete_26 (by decide) ?_
        exact ih (i + 1) (qPl (some b) (tx i)) (by omega) (congrArg (fun o9 => qPl o9 (tx i)) ho) ls (lv_sub hl [0, 1, 2] rfl)
  exact hL_4 (ln) (0) (some 0) (by omega) (rfl) ls (lv_sub hl [0, 1, 2] rfl)

