set_option maxRecDepth 100000 in
set_option maxHeartbeats 4000000 in
theorem metL_at (l : Launch) (D : va_G) (ac : Nat → ClassId) (x1 : Nat) (n1 : Nat) (hx1 : x1 < 2147483648) (hn1 : 0 < n1 ∧ n1 < 2147483648) : Met l yL_at wsL_at ({ frames := 0, cells := 0, slots := 0, locals := 0 } : Room) (va_Pc [.int (nI (x1)), .int (nI (n1))] (zW D ac [])) (zRi (nI (x1 / 2 % n1))) 0 0 (fun _ => False) := by
  refine z_ro (cc := cL_at) (maxL := 2) (ret := (some .int)) (lv := [(0, .int (nI (x1))), (1, .int (nI (n1)))]) (by decide) rfl (Nat.le_of_ble_eq_true rfl) rfl ?_
  intro p e s m args below meth c ls hx hb hr hml hown hts hlocks hl hK hP
  refine lv_iload_n hx hb dL_at_0 rfl (lv_at hl 0 rfl) ?_
  refine lv_iconst (v := 1) hx hb dL_at_1 (by decide) ?_
  refine lv_iushr (v := nI ((x1) / 2)) hx hb dL_at_2 (pk_ushrN (n := x1) (by omega) 1 1 (by decide)) ?_
  refine lv_iload_n hx hb dL_at_3 rfl (lv_at hl 1 rfl) ?_
  refine lv_irem hx hb dL_at_4 (nI_ne0 (by omega) (by omega)) ?_
  refine z_top (y := nI (((x1) / 2) % (n1))) (pk_rem (a := (x1) / 2) (d := n1) (by omega) (by omega) (by omega)) ?_
  exact z_iret hx hb hr hlocks (rfl) dL_at_5

set_option maxRecDepth 100000 in
set_option maxHeartbeats 4000000 in
theorem metL_all (l : Launch) (D : va_G) (ac : Nat → ClassId) (rj : Nat) (fj : Nat → Int32) (s1 : Nat) (hs : s1 < 12) : Met l yL_all wsL_all ({ frames := 0, cells := 0, slots := 0, locals := 0 } : Room) (va_Pc [.ref (rj), .int (nI (s1))] (zW D ac [(rj, .inl (ac 0, 48, .inl (fj)))])) (zRi (qIn fj s1)) 0 0 (fun _ => False) := by
  refine z_ro (cc := cL_all) (maxL := 2) (ret := (some .int)) (lv := [(0, .ref (rj)), (1, .int (nI (s1)))]) (by decide) rfl (Nat.le_of_ble_eq_true rfl) rfl ?_
  intro p e s m args below meth c ls hx hb hr hml hown hts hlocks hl hK hP
  refine lv_aload_n hx hb dL_all_0 rfl (lv_at hl 0 rfl) ?_
  refine lv_iconst (v := 4) hx hb dL_all_1 (by decide) ?_
  refine lv_iload_n hx hb dL_all_2 rfl (lv_at hl 1 rfl) ?_
  refine lv_imul hx hb dL_all_3 ?_
  refine z_top (y := nI ((4) * (s1))) (pk_mul (4) (s1)) ?_
  refine z_iald hx hb hK hP 0 rfl ((4) * (s1)) (rfl) (by omega) (by decide) dL_all_4 ?_
  refine lv_aload_n hx hb dL_all_5 rfl (lv_at hl 0 rfl) ?_
  refine lv_iconst (v := 4) hx hb dL_all_6 (by decide) ?_
  refine lv_iload_n hx hb dL_all_7 rfl (lv_at hl 1 rfl) ?_
  refine lv_imul hx hb dL_all_8 ?_
  refine z_top (y := nI ((4) * (s1))) (pk_mul (4) (s1)) ?_
  refine lv_iconst (v := 1) hx hb dL_all_9 (by decide) ?_
  refine lv_iadd hx hb dL_all_10 ?_
  refine z_top (y := nI (((4) * (s1)) + (1))) (nI_add ((4) * (s1)) (1)) ?_
  refine z_iald hx hb hK hP 0 rfl (((4) * (s1)) + (1)) (rfl) (by omega) (by decide) dL_all_11 ?_
  refine lv_iadd hx hb dL_all_12 ?_
  refine lv_aload_n hx hb dL_all_13 rfl (lv_at hl 0 rfl) ?_
  refine lv_iconst (v := 4) hx hb dL_all_14 (by decide) ?_
  refine lv_iload_n hx hb dL_all_15 rfl (lv_at hl 1 rfl) ?_
  refine lv_imul hx hb dL_all_16 ?_
  refine z_top (y := nI ((4) * (s1))) (pk_mul (4) (s1)) ?_
  refine lv_iconst (v := 2) hx hb dL_all_17 (by decide) ?_
  refine lv_iadd hx hb dL_all_18 ?_
  refine z_top (y := nI (((4) * (s1)) + (2))) (nI_add ((4) * (s1)) (2)) ?_
  refine z_iald hx hb hK hP 0 rfl (((4) * (s1)) + (2)) (rfl) (by omega) (by decide) dL_all_19 ?_
  refine lv_iadd hx hb dL_all_20 ?_
  refine lv_aload_n hx hb dL_all_21 rfl (lv_at hl 0 rfl) ?_
  refine lv_iconst (v := 4) hx hb dL_all_22 (by decide) ?_
  refine lv_iload_n hx hb dL_all_23 rfl (lv_at hl 1 rfl) ?_
  refine lv_imul hx hb dL_all_24 ?_
  refine z_top (y := nI ((4) * (s1))) (pk_mul (4) (s1)) ?_
  refine lv_iconst (v := 3) hx hb dL_all_25 (by decide) ?_
  refine lv_iadd hx hb dL_all_26 ?_
  refine z_top (y := nI (((4) * (s1)) + (3))) (nI_add ((4) * (s1)) (3)) ?_
  refine z_iald hx hb hK hP 0 rfl (((4) * (s1)) + (3)) (rfl) (by omega) (by decide) dL_all_27 ?_
  refine lv_iadd hx hb dL_all_28 ?_
  exact z_iret hx hb hr hlocks (lq_in fj s1) dL_all_29

set_option maxRecDepth 100000 in
set_option maxHeartbeats 4000000 in
theorem metL_sum (l : Launch) (D : va_G) (ac : Nat → ClassId) (rj : Nat) (fj : Nat → Int32) (a : Nat) (t : Nat) (ha : a ≤ 12) (ht : t < 12) : Met l yL_sum wsL_sum ({ frames := 0, cells := 0, slots := 0, locals := 0 } : Room) (va_Pc [.ref (rj), .int (nI (a)), .int (nI (t))] (zW D ac [(rj, .inl (ac 0, 48, .inl (fj)))])) (zRi (lSm fj a t)) 0 0 (fun _ => False) := by
  refine z_ro (cc := cL_sum) (maxL := 5) (ret := (some .int)) (lv := [(0, .ref (rj)), (1, .int (nI (a))), (2, .int (nI (t)))]) (by decide) rfl (Nat.le_of_ble_eq_true rfl) rfl ?_
  intro p e s m args below meth c ls hx hb hr hml hown hts hlocks hl hK hP
  refine lv_iconst (v := 0) hx hb dL_sum_0 (by decide) ?_
  refine lv_istore_n (lv' := [(3, .int (0)), (0, .ref (rj)), (1, .int (nI (a))), (2, .int (nI (t)))]) hx hb dL_sum_1 rfl hl (by decide) rfl (fun ls hl => ?_)
  refine lv_iconst (v := 4) hx hb dL_sum_2 (by decide) ?_
  refine lv_iload_n hx hb dL_sum_3 rfl (lv_at hl 2 rfl) ?_
  refine lv_imul hx hb dL_sum_4 ?_
  refine z_top (y := nI ((4) * (a))) (pk_mul (4) (a)) ?_
  refine lv_istore (lv' := [(4, .int (nI ((4) * (a)))), (3, .int (0)), (0, .ref (rj)), (1, .int (nI (a))), (2, .int (nI (t)))]) hx hb dL_sum_5 hl (by decide) rfl (fun ls hl => ?_)
  have hL_7 : ∀ (n : Nat) (i : Nat), (i + n = 4 * t + 4 - 4 * a) → ∀ (ls : Array Slot), lv_has ls 5 [(4, .int (nI (4 * a + i))), (3, .int (qS (fun k => fj (4 * a + k)) i)), (0, .ref (rj)), (1, .int (nI (a))), (2, .int (nI (t)))] → W p l e ({ frames := 0, cells := 0, slots := 0, locals := 0 } : Room) s m args below meth c s.heap [] 0 0 (MQ below (zRi (lSm fj a t)) args s 0 0 (fun _ => False)) (F0 m 7 ls []) := by
    intro n
    induction n with
    | zero =>
      intro i hi ls hl
      have e_i : 4 * t + 4 - 4 * a = i := by omega
      subst e_i
      refine lv_iload hx hb dL_sum_7 (lv_at hl 0 rfl) ?_
      refine lv_iconst (v := 4) hx hb dL_sum_9 (by decide) ?_
      refine lv_iload_n hx hb dL_sum_10 rfl (lv_at hl 4 rfl) ?_
      refine lv_imul hx hb dL_sum_11 ?_
      refine z_top (y := nI ((4) * (t))) (pk_mul (4) (t)) ?_
      refine lv_iconst (v := 4) hx hb dL_sum_12 (by decide) ?_
      refine lv_iadd hx hb dL_sum_13 ?_
      refine z_top (y := nI (((4) * (t)) + (4))) (nI_add ((4) * (t)) (4)) ?_
      refine z_icmp_ge (tgt := 30) hx hb (4 * a + (4 * t + 4 - 4 * a)) (((4) * (t)) + (4)) dL_sum_14 (by decide) (by omega) (by omega) rfl rfl (fun c_14 => ?_) (fun c_14 => absurd c_14 (by omega))
      refine lv_iload_n hx hb dL_sum_30 rfl (lv_at hl 1 rfl) ?_
      exact z_iret hx hb hr hlocks (rfl) dL_sum_31
    | succ n ih =>
      intro i hi ls hl
      refine lv_iload hx hb dL_sum_7 (lv_at hl 0 rfl) ?_
      refine lv_iconst (v := 4) hx hb dL_sum_9 (by decide) ?_
      refine lv_iload_n hx hb dL_sum_10 rfl (lv_at hl 4 rfl) ?_
      refine lv_imul hx hb dL_sum_11 ?_
      refine z_top (y := nI ((4) * (t))) (pk_mul (4) (t)) ?_
      refine lv_iconst (v := 4) hx hb dL_sum_12 (by decide) ?_
      refine lv_iadd hx hb dL_sum_13 ?_
      refine z_top (y := nI (((4) * (t)) + (4))) (nI_add ((4) * (t)) (4)) ?_
      refine z_icmp_ge (tgt := 30) hx hb (4 * a + i) (((4) * (t)) + (4)) dL_sum_14 (by decide) (by omega) (by omega) rfl rfl (fun c_14 => absurd c_14 (by omega)) (fun c_14 => ?_)
      refine lv_iload_n hx hb dL_sum_17 rfl (lv_at hl 1 rfl) ?_
      refine lv_aload_n hx hb dL_sum_18 rfl (lv_at hl 2 rfl) ?_
      refine lv_iload hx hb dL_sum_19 (lv_at hl 0 rfl) ?_
      refine z_iald hx hb hK hP 0 rfl (4 * a + i) (rfl) (by omega) (by decide) dL_sum_21 ?_
      refine lv_iadd hx hb dL_sum_22 ?_
      refine lv_istore_n (lv' := [(3, .int ((qS (fun k => fj (4 * a + k)) i) + (fj (4 * a + i)))), (4, .int (nI (4 * a + i))), (0, .ref (rj)), (1, .int (nI (a))), (2, .int (nI (t)))]) hx hb dL_sum_23 rfl hl (by decide) rfl (fun ls hl => ?_)
      refine lv_iinc (v := nI ((4 * a + i) + 1)) (lv' := [(4, .int (nI ((4 * a + i) + 1))), (3, .int ((qS (fun k => fj (4 * a + k)) i) + (fj (4 * a + i)))), (0, .ref (rj)), (1, .int (nI (a))), (2, .int (nI (t)))]) hx hb dL_sum_24 hl (k := 1) rfl (show nI (4 * a + i) + Int32.ofInt 1 = _ from nI_add (4 * a + i) 1) (by decide) rfl (fun ls hl => ?_)
      refine lv_goto (tgt := 7) hx hb dL_sum_27 (by decide) ?_
      exact ih (i + 1) (by omega) ls (lv_sub hl [0, 1, 2, 3, 4] rfl)
  exact hL_7 (4 * t + 4 - 4 * a) (0) (by omega) ls (lv_sub hl [0, 1, 2, 3, 4] rfl)

set_option maxRecDepth 100000 in
set_option maxHeartbeats 4000000 in
theorem metL_factor (l : Launch) (D : va_G) (ac : Nat → ClassId) (rj : Nat) (fj : Nat → Int32) (qe : Nat) (fe : Nat → Int32) (s1 : Nat) (hs : s1 < 12) (hdiv : ¬ 1000 + qIn fj s1 * fe 0 / 10 = 0) : Met l yL_factor wsL_factor ({ frames := 1, cells := 0, slots := 0, locals := 21 } : Room) (va_Pc [.ref (rj), .int (nI (s1)), .ref (qe)] (zW D ac [(rj, .inl (ac 0, 48, .inl (fj))), (qe, .inl (ac 0, 16, .inl (fe)))])) (zRi (qFacM (fe 0) (qIn fj s1))) 0 0 (fun _ => False) := by
  refine z_ro (cc := cL_factor) (maxL := 3) (ret := (some .int)) (lv := [(0, .ref (rj)), (1, .int (nI (s1))), (2, .ref (qe))]) (by decide) rfl (Nat.le_of_ble_eq_true rfl) rfl ?_
  intro p e s m args below meth c ls hx hb hr hml hown hts hlocks hl hK hP
  refine lv_ldc (own := RL) hx hb hown (hts (.constant RL 8 (1000000)) (by decide +kernel)) dL_factor_0 ?_
  refine lv_sipush (v := 1000) hx hb dL_factor_2 (by decide) ?_
  refine lv_aload_n hx hb dL_factor_5 rfl (lv_at hl 0 rfl) ?_
  refine lv_iload_n hx hb dL_factor_6 rfl (lv_at hl 1 rfl) ?_
  refine z_ci (z_srun (rest := [.int (1000), .int (1000000)]) (own := RL) (As := [.ref (rj), .int (nI (s1))]) hx hb hml hown hts hl.1 hK hP [0] rfl (metL_all l D ac rj fj s1 (by omega)) gL_factor_L_all rfl 2 (by decide +kernel) ⟨rfl, rfl, Nat.le_of_ble_eq_true rfl, Nat.le_of_ble_eq_true rfl⟩ rfl rfl (Nat.le_of_ble_eq_true rfl) dL_factor_7 ⟨Nat.zero_le _, Nat.zero_le _⟩) ?_
  refine lv_aload_n hx hb dL_factor_10 rfl (lv_at hl 2 rfl) ?_
  refine lv_iconst (v := 0) hx hb dL_factor_11 (by decide) ?_
  refine z_iald hx hb hK hP 1 rfl (0) (rfl) (by omega) (by decide) dL_factor_12 ?_
  refine lv_imul hx hb dL_factor_13 ?_
  refine lv_bipush (v := 10) hx hb dL_factor_14 (by decide) ?_
  refine lv_idiv hx hb dL_factor_16 (by decide) ?_
  refine lv_iadd hx hb dL_factor_17 ?_
  refine lv_idiv hx hb dL_factor_18 (hdiv) ?_
  exact z_iret hx hb hr hlocks (rfl) dL_factor_19

set_option maxRecDepth 100000 in
set_option maxHeartbeats 4000000 in
theorem metL_room (l : Launch) (D : va_G) (ac : Nat → ClassId) (rj : Nat) (fj : Nat → Int32) (qe : Nat) (fe : Nat → Int32) (s1 : Nat) (hs : s1 < 12) : Met l yL_room wsL_room ({ frames := 1, cells := 0, slots := 0, locals := 21 } : Room) (va_Pc [.ref (rj), .int (nI (s1)), .ref (qe)] (zW D ac [(rj, .inl (ac 0, 48, .inl (fj))), (qe, .inl (ac 0, 16, .inl (fe)))])) (zRi (lRm (fe 1) (qIn fj s1))) 0 0 (fun _ => False) := by
  refine z_ro (cc := cL_room) (maxL := 3) (ret := (some .int)) (lv := [(0, .ref (rj)), (1, .int (nI (s1))), (2, .ref (qe))]) (by decide) rfl (Nat.le_of_ble_eq_true rfl) rfl ?_
  intro p e s m args below meth c ls hx hb hr hml hown hts hlocks hl hK hP
  refine lv_aload_n hx hb dL_room_0 rfl (lv_at hl 0 rfl) ?_
  refine lv_iload_n hx hb dL_room_1 rfl (lv_at hl 1 rfl) ?_
  refine z_ci (z_srun (rest := []) (own := RL) (As := [.ref (rj), .int (nI (s1))]) hx hb hml hown hts hl.1 hK hP [0] rfl (metL_all l D ac rj fj s1 (by omega)) gL_room_L_all rfl 2 (by decide +kernel) ⟨rfl, rfl, Nat.le_of_ble_eq_true rfl, Nat.le_of_ble_eq_true rfl⟩ rfl rfl (Nat.le_of_ble_eq_true rfl) dL_room_2 ⟨Nat.zero_le _, Nat.zero_le _⟩) ?_
  refine lv_aload_n hx hb dL_room_5 rfl (lv_at hl 2 rfl) ?_
  refine lv_iconst (v := 1) hx hb dL_room_6 (by decide) ?_
  refine z_iald hx hb hK hP 1 rfl (1) (rfl) (by omega) (by decide) dL_room_7 ?_
  refine lv_icmp_ge (tgt := 23) hx hb dL_room_8 (by decide) (fun c_8 => ?_) (fun c_8 => ?_)
  · refine lv_iconst (v := 0) hx hb dL_room_23 (by decide) ?_
    exact z_iret hx hb hr hlocks ((if_neg (Int32.not_lt.mpr c_8)).symm) dL_room_24
  · refine lv_aload_n hx hb dL_room_11 rfl (lv_at hl 2 rfl) ?_
    refine lv_iconst (v := 1) hx hb dL_room_12 (by decide) ?_
    refine z_iald hx hb hK hP 1 rfl (1) (rfl) (by omega) (by decide) dL_room_13 ?_
    refine lv_aload_n hx hb dL_room_14 rfl (lv_at hl 0 rfl) ?_
    refine lv_iload_n hx hb dL_room_15 rfl (lv_at hl 1 rfl) ?_
    refine z_ci (z_srun (rest := [.int (fe 1)]) (own := RL) (As := [.ref (rj), .int (nI (s1))]) hx hb hml hown hts hl.1 hK hP [0] rfl (metL_all l D ac rj fj s1 (by omega)) gL_room_L_all rfl 2 (by decide +kernel) ⟨rfl, rfl, Nat.le_of_ble_eq_true rfl, Nat.le_of_ble_eq_true rfl⟩ rfl rfl (Nat.le_of_ble_eq_true rfl) dL_room_16 ⟨Nat.zero_le _, Nat.zero_le _⟩) ?_
    refine lv_isub hx hb dL_room_19 ?_
    refine lv_goto (tgt := 24) hx hb dL_room_20 (by decide) ?_
    exact z_iret hx hb hr hlocks ((if_pos (Int32.not_le.mp c_8)).symm) dL_room_24

set_option maxRecDepth 100000 in
set_option maxHeartbeats 4000000 in
theorem metL_wish (l : Launch) (D : va_G) (ac : Nat → ClassId) (qe : Nat) (fe : Nat → Int32) (xn : Int32) (xv : Int32) (xf : Int32) (hw9 : (xn.toInt64 * xv.toInt64 * xf.toInt64 / 100000).toInt32 = xn * xv * xf / 100000) : Met l yL_wish wsL_wish ({ frames := 0, cells := 0, slots := 0, locals := 0 } : Room) (va_Pc [.int (xn), .int (xv), .int (xf), .ref (qe)] (zW D ac [(qe, .inl (ac 0, 16, .inl (fe)))])) (zRi (qWish xv (fe 3) xn xf)) 0 0 (fun _ => False) := by
  refine z_ro (cc := cL_wish) (maxL := 5) (ret := (some .int)) (lv := [(0, .int (xn)), (1, .int (xv)), (2, .int (xf)), (3, .ref (qe))]) (by decide) rfl (Nat.le_of_ble_eq_true rfl) rfl ?_
  intro p e s m args below meth c ls hx hb hr hml hown hts hlocks hl hK hP
  refine lv_iload_n hx hb dL_wish_0 rfl (lv_at hl 0 rfl) ?_
  refine lv_i2l (v := (xn).toInt64) hx hb dL_wish_1 rfl ?_
  refine lv_iload_n hx hb dL_wish_2 rfl (lv_at hl 1 rfl) ?_
  refine lv_i2l (v := (xv).toInt64) hx hb dL_wish_3 rfl ?_
  refine lv_lmul hx hb dL_wish_4 ?_
  refine lv_iload_n hx hb dL_wish_5 rfl (lv_at hl 2 rfl) ?_
  refine lv_i2l (v := (xf).toInt64) hx hb dL_wish_6 rfl ?_
  refine lv_lmul hx hb dL_wish_7 ?_
  refine lv_ldc2 (own := RL) hx hb hown (hts (.constantLong RL 15 (100000)) (by decide +kernel)) dL_wish_8 ?_
  refine lv_ldiv hx hb dL_wish_11 (by decide) ?_
  refine lv_l2i (v := xn * xv * xf / 100000) hx hb dL_wish_12 (hw9) ?_
  refine lv_istore (lv' := [(4, .int (xn * xv * xf / 100000)), (0, .int (xn)), (1, .int (xv)), (2, .int (xf)), (3, .ref (qe))]) hx hb dL_wish_13 hl (by decide) rfl (fun ls hl => ?_)
  refine lv_iload hx hb dL_wish_15 (lv_at hl 0 rfl) ?_
  refine lv_if_ne (tgt := 30) hx hb dL_wish_17 (by decide) (fun c_17 => ?_) (fun c_17 => ?_)
  · refine lv_iload hx hb dL_wish_30 (lv_at hl 0 rfl) ?_
    refine lv_iload_n hx hb dL_wish_32 rfl (lv_at hl 1 rfl) ?_
    refine lv_icmp_le (tgt := 40) hx hb dL_wish_33 (by decide) (fun c_33 => ?_) (fun c_33 => ?_)
    · refine lv_iload hx hb dL_wish_40 (lv_at hl 0 rfl) ?_
      exact z_iret hx hb hr hlocks (((l_wish xv (fe 3) xn xf (xn * xv * xf / 100000) (if_neg (fun q => c_17 q.1))).trans (if_neg (Int32.not_lt.mpr c_33))).symm) dL_wish_42
    · refine lv_iload_n hx hb dL_wish_36 rfl (lv_at hl 1 rfl) ?_
      refine lv_goto (tgt := 42) hx hb dL_wish_37 (by decide) ?_
      exact z_iret hx hb hr hlocks (((l_wish xv (fe 3) xn xf (xn * xv * xf / 100000) (if_neg (fun q => c_17 q.1))).trans (if_pos (Int32.not_le.mp c_33))).symm) dL_wish_42
  · refine lv_iload_n hx hb dL_wish_20 rfl (lv_at hl 1 rfl) ?_
    refine lv_aload_n hx hb dL_wish_21 rfl (lv_at hl 4 rfl) ?_
    refine lv_iconst (v := 3) hx hb dL_wish_22 (by decide) ?_
    refine z_iald hx hb hK hP 0 rfl (3) (rfl) (by omega) (by decide) dL_wish_23 ?_
    refine lv_icmp_le (tgt := 30) hx hb dL_wish_24 (by decide) (fun c_24 => ?_) (fun c_24 => ?_)
    · refine lv_iload hx hb dL_wish_30 (lv_at hl 0 rfl) ?_
      refine lv_iload_n hx hb dL_wish_32 rfl (lv_at hl 1 rfl) ?_
      refine lv_icmp_le (tgt := 40) hx hb dL_wish_33 (by decide) (fun c_33 => ?_) (fun c_33 => ?_)
      · refine lv_iload hx hb dL_wish_40 (lv_at hl 0 rfl) ?_
        exact z_iret hx hb hr hlocks (((l_wish xv (fe 3) xn xf (xn * xv * xf / 100000) (if_neg (fun q => absurd c_24 (Int32.not_le.mpr q.2)))).trans (if_neg (Int32.not_lt.mpr c_33))).symm) dL_wish_42
      · refine lv_iload_n hx hb dL_wish_36 rfl (lv_at hl 1 rfl) ?_
        refine lv_goto (tgt := 42) hx hb dL_wish_37 (by decide) ?_
        exact z_iret hx hb hr hlocks (((l_wish xv (fe 3) xn xf (xn * xv * xf / 100000) (if_neg (fun q => absurd c_24 (Int32.not_le.mpr q.2)))).trans (if_pos (Int32.not_le.mp c_33))).symm) dL_wish_42
    · refine lv_iconst (v := 1) hx hb dL_wish_27 (by decide) ?_
      refine lv_istore (lv' := [(4, .int (1)), (0, .int (xn)), (1, .int (xv)), (2, .int (xf)), (3, .ref (qe))]) hx hb dL_wish_28 hl (by decide) rfl (fun ls hl => ?_)
      refine lv_iload hx hb dL_wish_30 (lv_at hl 0 rfl) ?_
      refine lv_iload_n hx hb dL_wish_32 rfl (lv_at hl 1 rfl) ?_
      refine lv_icmp_le (tgt := 40) hx hb dL_wish_33 (by decide) (fun c_33 => ?_) (fun c_33 => ?_)
      · refine lv_iload hx hb dL_wish_40 (lv_at hl 0 rfl) ?_
        exact z_iret hx hb hr hlocks (((l_wish xv (fe 3) xn xf (1) (if_pos ⟨c_17, Int32.not_le.mp c_24⟩)).trans (if_neg (Int32.not_lt.mpr c_33))).symm) dL_wish_42
      · refine lv_iload_n hx hb dL_wish_36 rfl (lv_at hl 1 rfl) ?_
        refine lv_goto (tgt := 42) hx hb dL_wish_37 (by decide) ?_
        exact z_iret hx hb hr hlocks (((l_wish xv (fe 3) xn xf (1) (if_pos ⟨c_17, Int32.not_le.mp c_24⟩)).trans (if_pos (Int32.not_le.mp c_33))).symm) dL_wish_42

set_option maxRecDepth 100000 in
set_option maxHeartbeats 4000000 in
theorem metL_leading (l : Launch) (D : va_G) (ac : Nat → ClassId) (rj : Nat) (fj : Nat → Int32) (s1 : Nat) (hs : s1 < 12) : Met l yL_leading wsL_leading ({ frames := 0, cells := 0, slots := 0, locals := 0 } : Room) (va_Pc [.ref (rj), .int (nI (s1))] (zW D ac [(rj, .inl (ac 0, 48, .inl (fj)))])) (zRi (qLead fj s1)) 0 0 (fun _ => False) := by
  refine z_ro (cc := cL_leading) (maxL := 4) (ret := (some .int)) (lv := [(0, .ref (rj)), (1, .int (nI (s1)))]) (by decide) rfl (Nat.le_of_ble_eq_true rfl) rfl ?_
  intro p e s m args below meth c ls hx hb hr hml hown hts hlocks hl hK hP
  refine lv_iconst (v := (-1)) hx hb dL_leading_0 (by decide) ?_
  refine lv_istore_n (lv' := [(2, .int ((-1))), (0, .ref (rj)), (1, .int (nI (s1)))]) hx hb dL_leading_1 rfl hl (by decide) rfl (fun ls hl => ?_)
  refine lv_iconst (v := 3) hx hb dL_leading_2 (by decide) ?_
  refine lv_istore_n (lv' := [(3, .int (3)), (2, .int ((-1))), (0, .ref (rj)), (1, .int (nI (s1)))]) hx hb dL_leading_3 rfl hl (by decide) rfl (fun ls hl => ?_)
  have hL_4 : ∀ (n : Nat) (i : Nat) (o : Option Nat), (i + n = 4) → (lLd (fun c => fj (4 * s1 + c)) i = o) → ∀ (ls : Array Slot), lv_has ls 4 [(3, .int (nI n - 1)), (2, .int (zOI o)), (0, .ref (rj)), (1, .int (nI (s1)))] → W p l e ({ frames := 0, cells := 0, slots := 0, locals := 0 } : Room) s m args below meth c s.heap [] 0 0 (MQ below (zRi (qLead fj s1)) args s 0 0 (fun _ => False)) (F0 m 4 ls []) := by
    intro n
    induction n with
    | zero =>
      intro i o hi ho ls hl
      have e_i : 4 = i := by omega
      subst e_i
      refine lv_iload_n hx hb dL_leading_4 rfl (lv_at hl 0 rfl) ?_
      refine lv_if_lt (tgt := 47) hx hb dL_leading_5 (by decide) (fun c_5 => ?_) (fun c_5 => absurd c_5 (fun q => q (by decide)))
      refine lv_iload_n hx hb dL_leading_47 rfl (lv_at hl 1 rfl) ?_
      exact z_iret hx hb hr hlocks (l_lead ho) dL_leading_48
    | succ n ih =>
      intro i o hi ho ls hl
      refine lv_iload_n hx hb dL_leading_4 rfl (lv_at hl 0 rfl) ?_
      refine z_top (y := nI (3 - i)) (by rw [nI_pred]; exact congrArg nI (by omega)) ?_
      refine lv_if_lt (tgt := 47) hx hb dL_leading_5 (by decide) (fun c_5 => absurd c_5 (nI_pos (by omega))) (fun c_5 => ?_)
      refine lv_aload_n hx hb dL_leading_8 rfl (lv_at hl 2 rfl) ?_
      refine lv_iconst (v := 4) hx hb dL_leading_9 (by decide) ?_
      refine lv_iload_n hx hb dL_leading_10 rfl (lv_at hl 3 rfl) ?_
      refine lv_imul hx hb dL_leading_11 ?_
      refine z_top (y := nI ((4) * (s1))) (pk_mul (4) (s1)) ?_
      refine lv_iload_n hx hb dL_leading_12 rfl (lv_at hl 0 rfl) ?_
      refine z_top (y := nI (3 - i)) (by rw [nI_pred]; exact congrArg nI (by omega)) ?_
      refine lv_iadd hx hb dL_leading_13 ?_
      refine z_top (y := nI (((4) * (s1)) + (3 - i))) (nI_add ((4) * (s1)) (3 - i)) ?_
      refine z_iald hx hb hK hP 0 rfl (((4) * (s1)) + (3 - i)) (rfl) (by omega) (by decide) dL_leading_14 ?_
      refine lv_if_le (tgt := 41) hx hb dL_leading_15 (by decide) (fun c_15 => ?_) (fun c_15 => ?_)
      · refine lv_iinc (v := nI n - 1) (lv' := [(3, .int (nI n - 1)), (2, .int (zOI o)), (0, .ref (rj)), (1, .int (nI (s1)))]) hx hb dL_leading_41 hl (k := 0) rfl (by rw [z_addm1, nI_pred]) (by decide) rfl (fun ls hl => ?_)
        refine lv_goto (tgt := 4) hx hb dL_leading_44 (by decide) ?_
        exact ih (i + 1) (o) (by omega) (l_ld_no ho c_15) ls (lv_sub hl [0, 1, 2, 3] rfl)
      · rcases o with _ | b
        · refine lv_iload_n hx hb dL_leading_18 rfl (lv_at hl 1 rfl) ?_
          refine z_top (y := (-1)) (rfl) ?_
          refine lv_if_lt (tgt := 39) hx hb dL_leading_19 (by decide) (fun _ => ?_) (fun c_ => absurd (by decide) c_)
          refine lv_iload_n hx hb dL_leading_39 rfl (lv_at hl 0 rfl) ?_
          refine z_top (y := nI (3 - i)) (by rw [nI_pred]; exact congrArg nI (by omega)) ?_
          refine lv_istore_n (lv' := [(2, .int (nI (3 - i))), (3, .int (nI ((n + 1)) - 1)), (0, .ref (rj)), (1, .int (nI (s1)))]) hx hb dL_leading_40 rfl hl (by decide) rfl (fun ls hl => ?_)
          refine lv_iinc (v := nI n - 1) (lv' := [(3, .int (nI n - 1)), (2, .int (nI (3 - i))), (0, .ref (rj)), (1, .int (nI (s1)))]) hx hb dL_leading_41 hl (k := 1) rfl (by rw [z_addm1, nI_pred]) (by decide) rfl (fun ls hl => ?_)
          refine lv_goto (tgt := 4) hx hb dL_leading_44 (by decide) ?_
          exact ih (i + 1) (some (3 - i)) (by omega) (l_ld_none ho (Int32.not_le.mp c_15)) ls (lv_sub hl [0, 1, 2, 3] rfl)
        · have hb9 := l_ld_lt ho
          refine lv_iload_n hx hb dL_leading_18 rfl (lv_at hl 1 rfl) ?_
          refine z_top (y := nI (b)) (rfl) ?_
          refine lv_if_lt (tgt := 39) hx hb dL_leading_19 (by decide) (fun c_19 => absurd c_19 (nI_pos (by omega))) (fun c_19 => ?_)
          refine lv_aload_n hx hb dL_leading_22 rfl (lv_at hl 2 rfl) ?_
          refine lv_iconst (v := 4) hx hb dL_leading_23 (by decide) ?_
          refine lv_iload_n hx hb dL_leading_24 rfl (lv_at hl 3 rfl) ?_
          refine lv_imul hx hb dL_leading_25 ?_
          refine z_top (y := nI ((4) * (s1))) (pk_mul (4) (s1)) ?_
          refine lv_iload_n hx hb dL_leading_26 rfl (lv_at hl 0 rfl) ?_
          refine z_top (y := nI (3 - i)) (by rw [nI_pred]; exact congrArg nI (by omega)) ?_
          refine lv_iadd hx hb dL_leading_27 ?_
          refine z_top (y := nI (((4) * (s1)) + (3 - i))) (nI_add ((4) * (s1)) (3 - i)) ?_
          refine z_iald hx hb hK hP 0 rfl (((4) * (s1)) + (3 - i)) (rfl) (by omega) (by decide) dL_leading_28 ?_
          refine lv_aload_n hx hb dL_leading_29 rfl (lv_at hl 2 rfl) ?_
          refine lv_iconst (v := 4) hx hb dL_leading_30 (by decide) ?_
          refine lv_iload_n hx hb dL_leading_31 rfl (lv_at hl 3 rfl) ?_
          refine lv_imul hx hb dL_leading_32 ?_
          refine z_top (y := nI ((4) * (s1))) (pk_mul (4) (s1)) ?_
          refine lv_iload_n hx hb dL_leading_33 rfl (lv_at hl 1 rfl) ?_
          refine z_top (y := nI (b)) (rfl) ?_
          refine lv_iadd hx hb dL_leading_34 ?_
          refine z_top (y := nI (((4) * (s1)) + (b))) (nI_add ((4) * (s1)) (b)) ?_
          refine z_iald hx hb hK hP 0 rfl (((4) * (s1)) + (b)) (rfl) (by omega) (by decide) dL_leading_35 ?_
          refine lv_icmp_lt (tgt := 41) hx hb dL_leading_36 (by decide) (fun c_36 => ?_) (fun c_36 => ?_)
          · refine lv_iinc (v := nI n - 1) (lv' := [(3, .int (nI n - 1)), (2, .int (zOI ((some b)))), (0, .ref (rj)), (1, .int (nI (s1)))]) hx hb dL_leading_41 hl (k := 0) rfl (by rw [z_addm1, nI_pred]) (by decide) rfl (fun ls hl => ?_)
            refine lv_goto (tgt := 4) hx hb dL_leading_44 (by decide) ?_
            exact ih (i + 1) (some b) (by omega) (l_ld_less ho c_36) ls (lv_sub hl [0, 1, 2, 3] rfl)
          · refine lv_iload_n hx hb dL_leading_39 rfl (lv_at hl 0 rfl) ?_
            refine z_top (y := nI (3 - i)) (by rw [nI_pred]; exact congrArg nI (by omega)) ?_
            refine lv_istore_n (lv' := [(2, .int (nI (3 - i))), (3, .int (nI ((n + 1)) - 1)), (0, .ref (rj)), (1, .int (nI (s1)))]) hx hb dL_leading_40 rfl hl (by decide) rfl (fun ls hl => ?_)
            refine lv_iinc (v := nI n - 1) (lv' := [(3, .int (nI n - 1)), (2, .int (nI (3 - i))), (0, .ref (rj)), (1, .int (nI (s1)))]) hx hb dL_leading_41 hl (k := 1) rfl (by rw [z_addm1, nI_pred]) (by decide) rfl (fun ls hl => ?_)
            refine lv_goto (tgt := 4) hx hb dL_leading_44 (by decide) ?_
            exact ih (i + 1) (some (3 - i)) (by omega) (l_ld_more ho (Int32.not_le.mp c_15) (Int32.not_lt.mp c_36)) ls (lv_sub hl [0, 1, 2, 3] rfl)
  exact hL_4 (4) (0) (none) (by omega) (rfl) ls (lv_sub hl [0, 1, 2, 3] rfl)

set_option maxRecDepth 100000 in
set_option maxHeartbeats 4000000 in
theorem metL_why (l : Launch) (D : va_G) (ac : Nat → ClassId) (z : Nat → Int32) (j1 : Nat) (rj : Nat) (qe : Nat) (fe : Nat → Int32) (s1 : Nat) (k1 : Nat) (hj : j1 < 3) (hs : s1 < 12) (hk : k1 < 4) (hG : mGood z) (hfe : cV z = fe) : Met l yL_why wsL_why ({ frames := 2, cells := 0, slots := 0, locals := 43 } : Room) (va_Pc [.ref (rj), .int (nI (s1)), .int (nI (k1)), .ref (qe)] (zW D ac [(rj, .inl (ac 0, 48, .inl (qV z j1))), (qe, .inl (ac 0, 16, .inl (fe)))])) (zRi (mWhy z j1 s1 k1)) 0 0 (fun _ => False) := by
  refine z_ro (cc := cL_why) (maxL := 5) (ret := (some .int)) (lv := [(0, .ref (rj)), (1, .int (nI (s1))), (2, .int (nI (k1))), (3, .ref (qe))]) (by decide) rfl (Nat.le_of_ble_eq_true rfl) rfl ?_
  intro p e s m args below meth c ls hx hb hr hml hown hts hlocks hl hK hP
  refine lv_iload_n hx hb dL_why_0 rfl (lv_at hl 1 rfl) ?_
  refine lv_bipush (v := 11) hx hb dL_why_1 (by decide) ?_
  refine z_icmp_ne (tgt := 8) hx hb (s1) (11) dL_why_3 (by decide) (by omega) (by omega) rfl rfl (fun c_3 => ?_) (fun c_3 => ?_)
  · refine lv_aload_n hx hb dL_why_8 rfl (lv_at hl 0 rfl) ?_
    refine lv_iconst (v := 4) hx hb dL_why_9 (by decide) ?_
    refine lv_iload_n hx hb dL_why_10 rfl (lv_at hl 1 rfl) ?_
    refine lv_imul hx hb dL_why_11 ?_
    refine z_top (y := nI ((4) * (s1))) (pk_mul (4) (s1)) ?_
    refine lv_iload_n hx hb dL_why_12 rfl (lv_at hl 2 rfl) ?_
    refine lv_iadd hx hb dL_why_13 ?_
    refine z_top (y := nI (((4) * (s1)) + (k1))) (nI_add ((4) * (s1)) (k1)) ?_
    refine z_iald hx hb hK hP 0 rfl (((4) * (s1)) + (k1)) (rfl) (by omega) (by decide) dL_why_14 ?_
    refine lv_istore (lv' := [(4, .int ((qV z j1) (((4) * (s1)) + (k1)))), (0, .ref (rj)), (1, .int (nI (s1))), (2, .int (nI (k1))), (3, .ref (qe))]) hx hb dL_why_15 hl (by decide) rfl (fun ls hl => ?_)
    refine lv_iload hx hb dL_why_17 (lv_at hl 0 rfl) ?_
    refine lv_if_ne (tgt := 26) hx hb dL_why_19 (by decide) (fun c_19 => ?_) (fun c_19 => ?_)
    · refine lv_aload_n hx hb dL_why_26 rfl (lv_at hl 1 rfl) ?_
      refine lv_iload_n hx hb dL_why_27 rfl (lv_at hl 2 rfl) ?_
      refine lv_iconst (v := 1) hx hb dL_why_28 (by decide) ?_
      refine lv_iadd hx hb dL_why_29 ?_
      refine z_top (y := nI ((s1) + (1))) (nI_add (s1) (1)) ?_
      refine lv_aload_n hx hb dL_why_30 rfl (lv_at hl 4 rfl) ?_
      refine z_ci (z_srun (rest := []) (own := RL) (As := [.ref (rj), .int (nI ((s1) + (1))), .ref (qe)]) hx hb hml hown hts hl.1 hK hP [0, 1] rfl (metL_room l D ac rj (qV z j1) qe fe ((s1) + (1)) (by omega)) gL_why_L_room rfl 3 (by decide +kernel) ⟨rfl, rfl, Nat.le_of_ble_eq_true rfl, Nat.le_of_ble_eq_true rfl⟩ rfl rfl (Nat.le_of_ble_eq_true rfl) dL_why_31 ⟨Nat.zero_le _, Nat.zero_le _⟩) ?_
      refine z_top (y := mRoom z j1 (s1 + 1)) (l_room hG hj (by omega) hfe) ?_
      refine lv_if_ne (tgt := 41) hx hb dL_why_34 (by decide) (fun c_34 => ?_) (fun c_34 => ?_)
      · refine lv_iload hx hb dL_why_41 (lv_at hl 0 rfl) ?_
        refine lv_aload_n hx hb dL_why_43 rfl (lv_at hl 4 rfl) ?_
        refine lv_iconst (v := 4) hx hb dL_why_44 (by decide) ?_
        refine lv_iload_n hx hb dL_why_45 rfl (lv_at hl 3 rfl) ?_
        refine lv_iadd hx hb dL_why_46 ?_
        refine z_top (y := nI ((4) + (k1))) (nI_add (4) (k1)) ?_
        refine z_iald hx hb hK hP 1 rfl ((4) + (k1)) (rfl) (by omega) (by decide) dL_why_47 ?_
        refine lv_aload_n hx hb dL_why_48 rfl (lv_at hl 1 rfl) ?_
        refine lv_iload_n hx hb dL_why_49 rfl (lv_at hl 2 rfl) ?_
        refine lv_aload_n hx hb dL_why_50 rfl (lv_at hl 4 rfl) ?_
        refine z_ci (z_srun (rest := [.int (fe ((4) + (k1))), .int ((qV z j1) (((4) * (s1)) + (k1)))]) (own := RL) (As := [.ref (rj), .int (nI (s1)), .ref (qe)]) hx hb hml hown hts hl.1 hK hP [0, 1] rfl (metL_factor l D ac rj (qV z j1) qe fe s1 (by omega) (l_div hG hj hs hfe)) gL_why_L_factor rfl 3 (by decide +kernel) ⟨rfl, rfl, Nat.le_of_ble_eq_true rfl, Nat.le_of_ble_eq_true rfl⟩ rfl rfl (Nat.le_of_ble_eq_true rfl) dL_why_51 ⟨Nat.zero_le _, Nat.zero_le _⟩) ?_
        refine z_top (y := mFac z j1 s1) (l_fac hfe) ?_
        refine lv_aload_n hx hb dL_why_54 rfl (lv_at hl 4 rfl) ?_
        refine z_ci (z_srun (rest := []) (own := RL) (As := [.int ((qV z j1) (((4) * (s1)) + (k1))), .int (fe ((4) + (k1))), .int (mFac z j1 s1), .ref (qe)]) hx hb hml hown hts hl.1 hK hP [1] rfl (metL_wish l D ac qe fe ((qV z j1) (((4) * (s1)) + (k1))) (fe ((4) + (k1))) (mFac z j1 s1) (l_long hG hj hs hk hfe)) gL_why_L_wish rfl 4 (by decide +kernel) ⟨rfl, rfl, Nat.le_of_ble_eq_true rfl, Nat.le_of_ble_eq_true rfl⟩ rfl rfl (Nat.le_of_ble_eq_true rfl) dL_why_55 ⟨Nat.zero_le _, Nat.zero_le _⟩) ?_
        refine z_top (y := mWish z j1 s1 k1 (mFac z j1 s1)) (l_mwish hfe) ?_
        refine lv_if_ne (tgt := 65) hx hb dL_why_58 (by decide) (fun c_58 => ?_) (fun c_58 => ?_)
        · refine lv_iconst (v := 0) hx hb dL_why_65 (by decide) ?_
          exact z_iret hx hb hr hlocks ((by rw [mWhy, if_neg c_3, if_neg c_19, if_neg c_34, if_neg c_58])) dL_why_66
        · refine lv_iconst (v := 4) hx hb dL_why_61 (by decide) ?_
          refine lv_goto (tgt := 66) hx hb dL_why_62 (by decide) ?_
          exact z_iret hx hb hr hlocks ((by rw [mWhy, if_neg c_3, if_neg c_19, if_neg c_34, if_pos c_58])) dL_why_66
      · refine lv_iconst (v := 3) hx hb dL_why_37 (by decide) ?_
        refine lv_goto (tgt := 66) hx hb dL_why_38 (by decide) ?_
        exact z_iret hx hb hr hlocks ((by rw [mWhy, if_neg c_3, if_neg c_19, if_pos c_34])) dL_why_66
    · refine lv_iconst (v := 2) hx hb dL_why_22 (by decide) ?_
      refine lv_goto (tgt := 66) hx hb dL_why_23 (by decide) ?_
      exact z_iret hx hb hr hlocks ((by rw [mWhy, if_neg c_3, if_pos c_19])) dL_why_66
  · refine lv_iconst (v := 1) hx hb dL_why_6 (by decide) ?_
    exact z_iret hx hb hr hlocks ((if_pos c_3).symm) dL_why_7

