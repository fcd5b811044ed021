set_option maxRecDepth 100000 in
set_option maxHeartbeats 4000000 in
theorem metX0_firstWrong (l : Launch) (D : va_G) (ac : Nat → ClassId) (ch : Nat) (cs : Nat) (tx : Nat → Int32) (ln : Nat) (hln : ln ≤ 60) : Met l yX0_firstWrong wsX0_firstWrong ({ frames := 2, cells := 0, slots := 0, locals := 41 } : Room) (va_Pc [.ref (ch)] (zW D ac [(ch, .inr (0, [.ref (cs), .int (nI (ln))])), (cs, .inl (ac 1, 60, .inl (tx)))])) (zRi (nI (qFw tx ln 0))) 0 0 (fun _ => False) := by
  refine z_ro (cc := cX0_firstWrong) (maxL := 3) (ret := (some .int)) (lv := [(0, .ref (ch))]) (by decide) rfl (Nat.le_of_ble_eq_true rfl) rfl ?_
  intro p e s m args below meth c ls hx hb hr hml hown hts hlocks hl hK hP
  refine lv_iconst (v := 0) hx hb dX0_firstWrong_0 (by decide) ?_
  refine lv_istore_n (lv' := [(1, .int (0)), (0, .ref (ch))]) hx hb dX0_firstWrong_1 rfl hl (by decide) rfl (fun ls hl => ?_)
  refine lv_iconst (v := 0) hx hb dX0_firstWrong_2 (by decide) ?_
  refine lv_istore_n (lv' := [(2, .int (0)), (1, .int (0)), (0, .ref (ch))]) hx hb dX0_firstWrong_3 rfl hl (by decide) rfl (fun ls hl => ?_)
  have hL_4 : ∀ (n : Nat) (i : Nat) (b : Nat), (i + n = ln) → (qFw tx ln 0 = qFw tx n i) → (qPls tx i = some b) → ∀ (ls : Array Slot), lv_has ls 3 [(2, .int (nI (i))), (1, .int (nI (b))), (0, .ref (ch))] → W p l e ({ frames := 2, cells := 0, slots := 0, locals := 41 } : Room) s m args below meth c s.heap [] 0 0 (MQ below (zRi (nI (qFw tx ln 0))) args s 0 0 (fun _ => False)) (F0 m 4 ls []) := by
    intro n
    induction n with
    | zero =>
      intro i b hi hR hq ls hl
      have e_i : ln = i := by omega
      subst e_i
      refine lv_iload_n hx hb dX0_firstWrong_4 rfl (lv_at hl 0 rfl) ?_
      refine lv_aload_n hx hb dX0_firstWrong_5 rfl (lv_at hl 2 rfl) ?_
      refine va_get (ci := 0) (v := .int (nI (ln))) (C := RX0) (T := TX0) (N := 2) hx hb hts (by decide +kernel) hown hK hP 0 rfl rfl 1 (by decide) (hts (.fieldLink RX0 15 "SettlingJars$Charge" "length" "I") (by decide +kernel)) (fun _ h9 => h9) rfl dX0_firstWrong_6 ?_
      refine z_icmp_ge (tgt := 36) hx hb (ln) (ln) dX0_firstWrong_9 (by decide) (by omega) (by omega) rfl rfl (fun c_9 => ?_) (fun c_9 => absurd c_9 (by omega))
      refine lv_aload_n hx hb dX0_firstWrong_36 rfl (lv_at hl 2 rfl) ?_
      refine va_get (ci := 0) (v := .int (nI (ln))) (C := RX0) (T := TX0) (N := 2) hx hb hts (by decide +kernel) hown hK hP 0 rfl rfl 1 (by decide) (hts (.fieldLink RX0 15 "SettlingJars$Charge" "length" "I") (by decide +kernel)) (fun _ h9 => h9) rfl dX0_firstWrong_37 ?_
      exact z_iret hx hb hr hlocks (congrArg nI hR.symm) dX0_firstWrong_40
    | succ n ih =>
      intro i b hi hR hq ls hl
      refine lv_iload_n hx hb dX0_firstWrong_4 rfl (lv_at hl 0 rfl) ?_
      refine lv_aload_n hx hb dX0_firstWrong_5 rfl (lv_at hl 2 rfl) ?_
      refine va_get (ci := 0) (v := .int (nI (ln))) (C := RX0) (T := TX0) (N := 2) hx hb hts (by decide +kernel) hown hK hP 0 rfl rfl 1 (by decide) (hts (.fieldLink RX0 15 "SettlingJars$Charge" "length" "I") (by decide +kernel)) (fun _ h9 => h9) rfl dX0_firstWrong_6 ?_
      refine z_icmp_ge (tgt := 36) hx hb (i) (ln) dX0_firstWrong_9 (by decide) (by omega) (by omega) rfl rfl (fun c_9 => absurd c_9 (by omega)) (fun c_9 => ?_)
      refine lv_iload_n hx hb dX0_firstWrong_12 rfl (lv_at hl 1 rfl) ?_
      refine lv_aload_n hx hb dX0_firstWrong_13 rfl (lv_at hl 2 rfl) ?_
      refine va_get (ci := 0) (v := .ref (cs)) (C := RX0) (T := TX0) (N := 2) hx hb hts (by decide +kernel) hown hK hP 0 rfl rfl 0 (by decide) (hts (.fieldLink RX0 11 "SettlingJars$Charge" "signs" "[C") (by decide +kernel)) (fun _ h9 => h9) rfl dX0_firstWrong_14 ?_
      refine lv_iload_n hx hb dX0_firstWrong_17 rfl (lv_at hl 0 rfl) ?_
      refine z_cald hx hb hK hP 1 rfl (i) (rfl) (by omega) (by decide) dX0_firstWrong_18 ?_
      refine z_ci (z_srun (rest := []) (own := RX0) (As := [.int (nI (b)), .int (tx i)]) hx hb hml hown hts hl.1 hK hP [] rfl (metX0_placeBehind l D ac b (tx i) (q_pls_lt tx _ _ hq)) gX0_firstWrong_X0_placeBehind rfl 2 (by decide +kernel) ⟨rfl, rfl, Nat.le_of_ble_eq_true rfl, Nat.le_of_ble_eq_true rfl⟩ rfl rfl (Nat.le_of_ble_eq_true rfl) dX0_firstWrong_19 ⟨Nat.zero_le _, Nat.zero_le _⟩) ?_
      refine lv_istore_n (lv' := [(1, .int (zOI (qPl (some b) (tx i)))), (2, .int (nI (i))), (0, .ref (ch))]) hx hb dX0_firstWrong_22 rfl hl (by decide) rfl (fun ls hl => ?_)
      refine lv_iload_n hx hb dX0_firstWrong_23 rfl (lv_at hl 0 rfl) ?_
      refine lv_iconst (v := (-1)) hx hb dX0_firstWrong_24 (by decide) ?_
      refine lv_icmp_ne (tgt := 30) hx hb dX0_firstWrong_25 (by decide) (fun c_25 => ?_) (fun c_25 => ?_)
      · obtain ⟨b2, hb2⟩ := z_oi_some c_25
        · have hb3 : qPls tx (i + 1) = some b2 := (congrArg (fun o9 => qPl o9 (tx i)) hq).trans hb2
          have e1 : zOI (qPl (some b) (tx i)) = nI b2 := congrArg zOI hb2
          refine lv_iinc (v := nI ((i) + 1)) (lv' := [(2, .int (nI ((i) + 1))), (1, .int (zOI (qPl (some b) (tx i)))), (0, .ref (ch))]) hx hb dX0_firstWrong_30 hl (k := 1) rfl (show nI (i) + Int32.ofInt 1 = _ from nI_add (i) 1) (by decide) rfl (fun ls hl => ?_)
          refine lv_goto (tgt := 4) hx hb dX0_firstWrong_33 (by decide) ?_
          exact ih (i + 1) (b2) (by omega) (hR.trans (if_neg (by rw [hb3]; exact fun q => by cases q))) (hb3) ls (by first | (rw [← e1]; exact lv_sub hl [0, 1, 2] rfl) | exact lv_sub hl [0, 1, 2] rfl)
      · refine lv_iload_n hx hb dX0_firstWrong_28 rfl (lv_at hl 1 rfl) ?_
        exact z_iret hx hb hr hlocks (congrArg nI (hR.trans (if_pos ((congrArg (fun o9 => qPl o9 (tx i)) hq).trans ((z_oi_none (fun b h => q_pl_lt h)).mp c_25)))).symm) dX0_firstWrong_29
  exact hL_4 (ln) (0) (0) (by omega) (rfl) (rfl) ls (lv_sub hl [0, 1, 2] rfl)

