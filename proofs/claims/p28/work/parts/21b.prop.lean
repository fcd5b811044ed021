set_option maxRecDepth 100000 in
set_option maxHeartbeats 4000000 in
theorem metL_prop (l : Launch) (D : va_G) (ac : Nat → ClassId) (rj : Nat) (fj : Nat → Int32) (qe : Nat) (fe : Nat → Int32) (w : Nat → Int32) (k1 : Nat) (hk : k1 < 9) : Met l yL_prop wsL_prop ({ frames := 1, cells := 0, slots := 0, locals := 24 } : Room) (va_Pc [.ref (rj), .int (nI (k1)), .ref (qe)] (zW D ac [(rj, .inl (ac 0, 48, .inl (fj))), (qe, .inl (ac 0, 16, .inl (fe)))])) (zRi (qJar fj fe w k1)) 0 0 (fun _ => False) := by
  refine z_ro (cc := cL_prop) (maxL := 9) (ret := (some .int)) (lv := [(0, .ref (rj)), (1, .int (nI (k1))), (2, .ref (qe))]) (by decide) rfl (Nat.le_of_ble_eq_true rfl) rfl ?_
  intro p e s m args below meth c ls hx hb hr hml hown hts hlocks hl hK hP
  obtain rfl | rfl | rfl | rfl | rfl | rfl | rfl | rfl | rfl := l_cases9 hk
  · refine lv_iload_n hx hb dL_prop_0 rfl (lv_at hl 1 rfl) ?_
    refine lv_if_ne (tgt := 12) hx hb dL_prop_1 (by decide) (fun c_ => absurd (by decide) c_) (fun _ => ?_)
    refine lv_aload_n hx hb dL_prop_4 rfl (lv_at hl 0 rfl) ?_
    refine lv_iconst (v := 0) hx hb dL_prop_5 (by decide) ?_
    refine lv_bipush (v := 11) hx hb dL_prop_6 (by decide) ?_
    refine z_ci (z_srun (rest := []) (own := RL) (As := [.ref (rj), .int (0), .int (11)]) hx hb hml hown hts hl.1 hK hP [0] rfl (metL_sum l D ac rj fj 0 11 (by omega) (by omega)) gL_prop_L_sum rfl 3 (by decide +kernel) ⟨rfl, rfl, Nat.le_of_ble_eq_true rfl, Nat.le_of_ble_eq_true rfl⟩ rfl rfl (Nat.le_of_ble_eq_true rfl) dL_prop_8 ⟨Nat.zero_le _, Nat.zero_le _⟩) ?_
    exact z_iret hx hb hr hlocks (l_sum_all fj) dL_prop_11
  · refine lv_iload_n hx hb dL_prop_0 rfl (lv_at hl 1 rfl) ?_
    refine lv_if_ne (tgt := 12) hx hb dL_prop_1 (by decide) (fun _ => ?_) (fun c_ => absurd c_ (by decide))
    refine lv_iload_n hx hb dL_prop_12 rfl (lv_at hl 1 rfl) ?_
    refine lv_iconst (v := 5) hx hb dL_prop_13 (by decide) ?_
    refine z_icmp_ge (tgt := 50) hx hb (1) (5) dL_prop_14 (by decide) (by omega) (by omega) rfl rfl (fun c_14 => absurd c_14 (by omega)) (fun c_14 => ?_)
    refine lv_iconst (v := 0) hx hb dL_prop_17 (by decide) ?_
    refine lv_istore_n (lv' := [(3, .int (0)), (0, .ref (rj)), (1, .int (nI (1))), (2, .ref (qe))]) hx hb dL_prop_18 rfl hl (by decide) rfl (fun ls hl => ?_)
    refine lv_iconst (v := 0) hx hb dL_prop_19 (by decide) ?_
    refine lv_istore (lv' := [(4, .int (0)), (3, .int (0)), (0, .ref (rj)), (1, .int (nI (1))), (2, .ref (qe))]) hx hb dL_prop_20 hl (by decide) rfl (fun ls hl => ?_)
    have hL_22 : ∀ (n : Nat) (i : Nat), (i + n = 12) → ∀ (ls : Array Slot), lv_has ls 9 [(4, .int (nI (i))), (3, .int (qS (fun s => fj (4 * s + (1 - 1))) i)), (0, .ref (rj)), (1, .int (nI (1))), (2, .ref (qe))] → W p l e ({ frames := 1, cells := 0, slots := 0, locals := 24 } : Room) s m args below meth c s.heap [] 0 0 (MQ below (zRi (qJar fj fe w 1)) args s 0 0 (fun _ => False)) (F0 m 22 ls []) := by
      intro n
      induction n with
      | zero =>
        intro i hi ls hl
        have e_i : 12 = i := by omega
        subst e_i
        refine lv_iload hx hb dL_prop_22 (lv_at hl 0 rfl) ?_
        refine lv_bipush (v := 12) hx hb dL_prop_24 (by decide) ?_
        refine z_icmp_ge (tgt := 48) hx hb (12) (12) dL_prop_26 (by decide) (by omega) (by omega) rfl rfl (fun c_26 => ?_) (fun c_26 => absurd c_26 (by omega))
        refine lv_iload_n hx hb dL_prop_48 rfl (lv_at hl 1 rfl) ?_
        exact z_iret hx hb hr hlocks (rfl) dL_prop_49
      | succ n ih =>
        intro i hi ls hl
        refine lv_iload hx hb dL_prop_22 (lv_at hl 0 rfl) ?_
        refine lv_bipush (v := 12) hx hb dL_prop_24 (by decide) ?_
        refine z_icmp_ge (tgt := 48) hx hb (i) (12) dL_prop_26 (by decide) (by omega) (by omega) rfl rfl (fun c_26 => absurd c_26 (by omega)) (fun c_26 => ?_)
        refine lv_iload_n hx hb dL_prop_29 rfl (lv_at hl 1 rfl) ?_
        refine lv_aload_n hx hb dL_prop_30 rfl (lv_at hl 2 rfl) ?_
        refine lv_iconst (v := 4) hx hb dL_prop_31 (by decide) ?_
        refine lv_iload hx hb dL_prop_32 (lv_at hl 0 rfl) ?_
        refine lv_imul hx hb dL_prop_34 ?_
        refine z_top (y := nI ((4) * (i))) (pk_mul (4) (i)) ?_
        refine lv_iload_n hx hb dL_prop_35 rfl (lv_at hl 3 rfl) ?_
        refine lv_iadd hx hb dL_prop_36 ?_
        refine z_top (y := nI (((4) * (i)) + (1))) (nI_add ((4) * (i)) (1)) ?_
        refine lv_iconst (v := 1) hx hb dL_prop_37 (by decide) ?_
        refine lv_isub hx hb dL_prop_38 ?_
        refine z_top (y := nI ((((4) * (i)) + (1)) - (1))) (pk_sub (a := ((4) * (i)) + (1)) (b := 1) (by omega)) ?_
        refine z_iald hx hb hK hP 0 rfl (4 * i + 0) (congrArg nI (by omega)) (by omega) (by decide) dL_prop_39 ?_
        refine lv_iadd hx hb dL_prop_40 ?_
        refine lv_istore_n (lv' := [(3, .int ((qS (fun s => fj (4 * s + (1 - 1))) i) + (fj (4 * i + 0)))), (4, .int (nI (i))), (0, .ref (rj)), (1, .int (nI (1))), (2, .ref (qe))]) hx hb dL_prop_41 rfl hl (by decide) rfl (fun ls hl => ?_)
        refine lv_iinc (v := nI ((i) + 1)) (lv' := [(4, .int (nI ((i) + 1))), (3, .int ((qS (fun s => fj (4 * s + (1 - 1))) i) + (fj (4 * i + 0)))), (0, .ref (rj)), (1, .int (nI (1))), (2, .ref (qe))]) hx hb dL_prop_42 hl (k := 1) rfl (show nI (i) + Int32.ofInt 1 = _ from nI_add (i) 1) (by decide) rfl (fun ls hl => ?_)
        refine lv_goto (tgt := 22) hx hb dL_prop_45 (by decide) ?_
        exact ih (i + 1) (by omega) ls (lv_sub hl [0, 1, 2, 3, 4] rfl)
    exact hL_22 (12) (0) (by omega) ls (lv_sub hl [0, 1, 2, 3, 4] rfl)
  · refine lv_iload_n hx hb dL_prop_0 rfl (lv_at hl 1 rfl) ?_
    refine lv_if_ne (tgt := 12) hx hb dL_prop_1 (by decide) (fun _ => ?_) (fun c_ => absurd c_ (by decide))
    refine lv_iload_n hx hb dL_prop_12 rfl (lv_at hl 1 rfl) ?_
    refine lv_iconst (v := 5) hx hb dL_prop_13 (by decide) ?_
    refine z_icmp_ge (tgt := 50) hx hb (2) (5) dL_prop_14 (by decide) (by omega) (by omega) rfl rfl (fun c_14 => absurd c_14 (by omega)) (fun c_14 => ?_)
    refine lv_iconst (v := 0) hx hb dL_prop_17 (by decide) ?_
    refine lv_istore_n (lv' := [(3, .int (0)), (0, .ref (rj)), (1, .int (nI (2))), (2, .ref (qe))]) hx hb dL_prop_18 rfl hl (by decide) rfl (fun ls hl => ?_)
    refine lv_iconst (v := 0) hx hb dL_prop_19 (by decide) ?_
    refine lv_istore (lv' := [(4, .int (0)), (3, .int (0)), (0, .ref (rj)), (1, .int (nI (2))), (2, .ref (qe))]) hx hb dL_prop_20 hl (by decide) rfl (fun ls hl => ?_)
    have hL_22 : ∀ (n : Nat) (i : Nat), (i + n = 12) → ∀ (ls : Array Slot), lv_has ls 9 [(4, .int (nI (i))), (3, .int (qS (fun s => fj (4 * s + (2 - 1))) i)), (0, .ref (rj)), (1, .int (nI (2))), (2, .ref (qe))] → W p l e ({ frames := 1, cells := 0, slots := 0, locals := 24 } : Room) s m args below meth c s.heap [] 0 0 (MQ below (zRi (qJar fj fe w 2)) args s 0 0 (fun _ => False)) (F0 m 22 ls []) := by
      intro n
      induction n with
      | zero =>
        intro i hi ls hl
        have e_i : 12 = i := by omega
        subst e_i
        refine lv_iload hx hb dL_prop_22 (lv_at hl 0 rfl) ?_
        refine lv_bipush (v := 12) hx hb dL_prop_24 (by decide) ?_
        refine z_icmp_ge (tgt := 48) hx hb (12) (12) dL_prop_26 (by decide) (by omega) (by omega) rfl rfl (fun c_26 => ?_) (fun c_26 => absurd c_26 (by omega))
        refine lv_iload_n hx hb dL_prop_48 rfl (lv_at hl 1 rfl) ?_
        exact z_iret hx hb hr hlocks (rfl) dL_prop_49
      | succ n ih =>
        intro i hi ls hl
        refine lv_iload hx hb dL_prop_22 (lv_at hl 0 rfl) ?_
        refine lv_bipush (v := 12) hx hb dL_prop_24 (by decide) ?_
        refine z_icmp_ge (tgt := 48) hx hb (i) (12) dL_prop_26 (by decide) (by omega) (by omega) rfl rfl (fun c_26 => absurd c_26 (by omega)) (fun c_26 => ?_)
        refine lv_iload_n hx hb dL_prop_29 rfl (lv_at hl 1 rfl) ?_
        refine lv_aload_n hx hb dL_prop_30 rfl (lv_at hl 2 rfl) ?_
        refine lv_iconst (v := 4) hx hb dL_prop_31 (by decide) ?_
        refine lv_iload hx hb dL_prop_32 (lv_at hl 0 rfl) ?_
        refine lv_imul hx hb dL_prop_34 ?_
        refine z_top (y := nI ((4) * (i))) (pk_mul (4) (i)) ?_
        refine lv_iload_n hx hb dL_prop_35 rfl (lv_at hl 3 rfl) ?_
        refine lv_iadd hx hb dL_prop_36 ?_
        refine z_top (y := nI (((4) * (i)) + (2))) (nI_add ((4) * (i)) (2)) ?_
        refine lv_iconst (v := 1) hx hb dL_prop_37 (by decide) ?_
        refine lv_isub hx hb dL_prop_38 ?_
        refine z_top (y := nI ((((4) * (i)) + (2)) - (1))) (pk_sub (a := ((4) * (i)) + (2)) (b := 1) (by omega)) ?_
        refine z_iald hx hb hK hP 0 rfl (4 * i + 1) (congrArg nI (by omega)) (by omega) (by decide) dL_prop_39 ?_
        refine lv_iadd hx hb dL_prop_40 ?_
        refine lv_istore_n (lv' := [(3, .int ((qS (fun s => fj (4 * s + (2 - 1))) i) + (fj (4 * i + 1)))), (4, .int (nI (i))), (0, .ref (rj)), (1, .int (nI (2))), (2, .ref (qe))]) hx hb dL_prop_41 rfl hl (by decide) rfl (fun ls hl => ?_)
        refine lv_iinc (v := nI ((i) + 1)) (lv' := [(4, .int (nI ((i) + 1))), (3, .int ((qS (fun s => fj (4 * s + (2 - 1))) i) + (fj (4 * i + 1)))), (0, .ref (rj)), (1, .int (nI (2))), (2, .ref (qe))]) hx hb dL_prop_42 hl (k := 1) rfl (show nI (i) + Int32.ofInt 1 = _ from nI_add (i) 1) (by decide) rfl (fun ls hl => ?_)
        refine lv_goto (tgt := 22) hx hb dL_prop_45 (by decide) ?_
        exact ih (i + 1) (by omega) ls (lv_sub hl [0, 1, 2, 3, 4] rfl)
    exact hL_22 (12) (0) (by omega) ls (lv_sub hl [0, 1, 2, 3, 4] rfl)
  · refine lv_iload_n hx hb dL_prop_0 rfl (lv_at hl 1 rfl) ?_
    refine lv_if_ne (tgt := 12) hx hb dL_prop_1 (by decide) (fun _ => ?_) (fun c_ => absurd c_ (by decide))
    refine lv_iload_n hx hb dL_prop_12 rfl (lv_at hl 1 rfl) ?_
    refine lv_iconst (v := 5) hx hb dL_prop_13 (by decide) ?_
    refine z_icmp_ge (tgt := 50) hx hb (3) (5) dL_prop_14 (by decide) (by omega) (by omega) rfl rfl (fun c_14 => absurd c_14 (by omega)) (fun c_14 => ?_)
    refine lv_iconst (v := 0) hx hb dL_prop_17 (by decide) ?_
    refine lv_istore_n (lv' := [(3, .int (0)), (0, .ref (rj)), (1, .int (nI (3))), (2, .ref (qe))]) hx hb dL_prop_18 rfl hl (by decide) rfl (fun ls hl => ?_)
    refine lv_iconst (v := 0) hx hb dL_prop_19 (by decide) ?_
    refine lv_istore (lv' := [(4, .int (0)), (3, .int (0)), (0, .ref (rj)), (1, .int (nI (3))), (2, .ref (qe))]) hx hb dL_prop_20 hl (by decide) rfl (fun ls hl => ?_)
    have hL_22 : ∀ (n : Nat) (i : Nat), (i + n = 12) → ∀ (ls : Array Slot), lv_has ls 9 [(4, .int (nI (i))), (3, .int (qS (fun s => fj (4 * s + (3 - 1))) i)), (0, .ref (rj)), (1, .int (nI (3))), (2, .ref (qe))] → W p l e ({ frames := 1, cells := 0, slots := 0, locals := 24 } : Room) s m args below meth c s.heap [] 0 0 (MQ below (zRi (qJar fj fe w 3)) args s 0 0 (fun _ => False)) (F0 m 22 ls []) := by
      intro n
      induction n with
      | zero =>
        intro i hi ls hl
        have e_i : 12 = i := by omega
        subst e_i
        refine lv_iload hx hb dL_prop_22 (lv_at hl 0 rfl) ?_
        refine lv_bipush (v := 12) hx hb dL_prop_24 (by decide) ?_
        refine z_icmp_ge (tgt := 48) hx hb (12) (12) dL_prop_26 (by decide) (by omega) (by omega) rfl rfl (fun c_26 => ?_) (fun c_26 => absurd c_26 (by omega))
        refine lv_iload_n hx hb dL_prop_48 rfl (lv_at hl 1 rfl) ?_
        exact z_iret hx hb hr hlocks (rfl) dL_prop_49
      | succ n ih =>
        intro i hi ls hl
        refine lv_iload hx hb dL_prop_22 (lv_at hl 0 rfl) ?_
        refine lv_bipush (v := 12) hx hb dL_prop_24 (by decide) ?_
        refine z_icmp_ge (tgt := 48) hx hb (i) (12) dL_prop_26 (by decide) (by omega) (by omega) rfl rfl (fun c_26 => absurd c_26 (by omega)) (fun c_26 => ?_)
        refine lv_iload_n hx hb dL_prop_29 rfl (lv_at hl 1 rfl) ?_
        refine lv_aload_n hx hb dL_prop_30 rfl (lv_at hl 2 rfl) ?_
        refine lv_iconst (v := 4) hx hb dL_prop_31 (by decide) ?_
        refine lv_iload hx hb dL_prop_32 (lv_at hl 0 rfl) ?_
        refine lv_imul hx hb dL_prop_34 ?_
        refine z_top (y := nI ((4) * (i))) (pk_mul (4) (i)) ?_
        refine lv_iload_n hx hb dL_prop_35 rfl (lv_at hl 3 rfl) ?_
        refine lv_iadd hx hb dL_prop_36 ?_
        refine z_top (y := nI (((4) * (i)) + (3))) (nI_add ((4) * (i)) (3)) ?_
        refine lv_iconst (v := 1) hx hb dL_prop_37 (by decide) ?_
        refine lv_isub hx hb dL_prop_38 ?_
        refine z_top (y := nI ((((4) * (i)) + (3)) - (1))) (pk_sub (a := ((4) * (i)) + (3)) (b := 1) (by omega)) ?_
        refine z_iald hx hb hK hP 0 rfl (4 * i + 2) (congrArg nI (by omega)) (by omega) (by decide) dL_prop_39 ?_
        refine lv_iadd hx hb dL_prop_40 ?_
        refine lv_istore_n (lv' := [(3, .int ((qS (fun s => fj (4 * s + (3 - 1))) i) + (fj (4 * i + 2)))), (4, .int (nI (i))), (0, .ref (rj)), (1, .int (nI (3))), (2, .ref (qe))]) hx hb dL_prop_41 rfl hl (by decide) rfl (fun ls hl => ?_)
        refine lv_iinc (v := nI ((i) + 1)) (lv' := [(4, .int (nI ((i) + 1))), (3, .int ((qS (fun s => fj (4 * s + (3 - 1))) i) + (fj (4 * i + 2)))), (0, .ref (rj)), (1, .int (nI (3))), (2, .ref (qe))]) hx hb dL_prop_42 hl (k := 1) rfl (show nI (i) + Int32.ofInt 1 = _ from nI_add (i) 1) (by decide) rfl (fun ls hl => ?_)
        refine lv_goto (tgt := 22) hx hb dL_prop_45 (by decide) ?_
        exact ih (i + 1) (by omega) ls (lv_sub hl [0, 1, 2, 3, 4] rfl)
    exact hL_22 (12) (0) (by omega) ls (lv_sub hl [0, 1, 2, 3, 4] rfl)
  · refine lv_iload_n hx hb dL_prop_0 rfl (lv_at hl 1 rfl) ?_
    refine lv_if_ne (tgt := 12) hx hb dL_prop_1 (by decide) (fun _ => ?_) (fun c_ => absurd c_ (by decide))
    refine lv_iload_n hx hb dL_prop_12 rfl (lv_at hl 1 rfl) ?_
    refine lv_iconst (v := 5) hx hb dL_prop_13 (by decide) ?_
    refine z_icmp_ge (tgt := 50) hx hb (4) (5) dL_prop_14 (by decide) (by omega) (by omega) rfl rfl (fun c_14 => absurd c_14 (by omega)) (fun c_14 => ?_)
    refine lv_iconst (v := 0) hx hb dL_prop_17 (by decide) ?_
    refine lv_istore_n (lv' := [(3, .int (0)), (0, .ref (rj)), (1, .int (nI (4))), (2, .ref (qe))]) hx hb dL_prop_18 rfl hl (by decide) rfl (fun ls hl => ?_)
    refine lv_iconst (v := 0) hx hb dL_prop_19 (by decide) ?_
    refine lv_istore (lv' := [(4, .int (0)), (3, .int (0)), (0, .ref (rj)), (1, .int (nI (4))), (2, .ref (qe))]) hx hb dL_prop_20 hl (by decide) rfl (fun ls hl => ?_)
    have hL_22 : ∀ (n : Nat) (i : Nat), (i + n = 12) → ∀ (ls : Array Slot), lv_has ls 9 [(4, .int (nI (i))), (3, .int (qS (fun s => fj (4 * s + (4 - 1))) i)), (0, .ref (rj)), (1, .int (nI (4))), (2, .ref (qe))] → W p l e ({ frames := 1, cells := 0, slots := 0, locals := 24 } : Room) s m args below meth c s.heap [] 0 0 (MQ below (zRi (qJar fj fe w 4)) args s 0 0 (fun _ => False)) (F0 m 22 ls []) := by
      intro n
      induction n with
      | zero =>
        intro i hi ls hl
        have e_i : 12 = i := by omega
        subst e_i
        refine lv_iload hx hb dL_prop_22 (lv_at hl 0 rfl) ?_
        refine lv_bipush (v := 12) hx hb dL_prop_24 (by decide) ?_
        refine z_icmp_ge (tgt := 48) hx hb (12) (12) dL_prop_26 (by decide) (by omega) (by omega) rfl rfl (fun c_26 => ?_) (fun c_26 => absurd c_26 (by omega))
        refine lv_iload_n hx hb dL_prop_48 rfl (lv_at hl 1 rfl) ?_
        exact z_iret hx hb hr hlocks (rfl) dL_prop_49
      | succ n ih =>
        intro i hi ls hl
        refine lv_iload hx hb dL_prop_22 (lv_at hl 0 rfl) ?_
        refine lv_bipush (v := 12) hx hb dL_prop_24 (by decide) ?_
        refine z_icmp_ge (tgt := 48) hx hb (i) (12) dL_prop_26 (by decide) (by omega) (by omega) rfl rfl (fun c_26 => absurd c_26 (by omega)) (fun c_26 => ?_)
        refine lv_iload_n hx hb dL_prop_29 rfl (lv_at hl 1 rfl) ?_
        refine lv_aload_n hx hb dL_prop_30 rfl (lv_at hl 2 rfl) ?_
        refine lv_iconst (v := 4) hx hb dL_prop_31 (by decide) ?_
        refine lv_iload hx hb dL_prop_32 (lv_at hl 0 rfl) ?_
        refine lv_imul hx hb dL_prop_34 ?_
        refine z_top (y := nI ((4) * (i))) (pk_mul (4) (i)) ?_
        refine lv_iload_n hx hb dL_prop_35 rfl (lv_at hl 3 rfl) ?_
        refine lv_iadd hx hb dL_prop_36 ?_
        refine z_top (y := nI (((4) * (i)) + (4))) (nI_add ((4) * (i)) (4)) ?_
        refine lv_iconst (v := 1) hx hb dL_prop_37 (by decide) ?_
        refine lv_isub hx hb dL_prop_38 ?_
        refine z_top (y := nI ((((4) * (i)) + (4)) - (1))) (pk_sub (a := ((4) * (i)) + (4)) (b := 1) (by omega)) ?_
        refine z_iald hx hb hK hP 0 rfl (4 * i + 3) (congrArg nI (by omega)) (by omega) (by decide) dL_prop_39 ?_
        refine lv_iadd hx hb dL_prop_40 ?_
        refine lv_istore_n (lv' := [(3, .int ((qS (fun s => fj (4 * s + (4 - 1))) i) + (fj (4 * i + 3)))), (4, .int (nI (i))), (0, .ref (rj)), (1, .int (nI (4))), (2, .ref (qe))]) hx hb dL_prop_41 rfl hl (by decide) rfl (fun ls hl => ?_)
        refine lv_iinc (v := nI ((i) + 1)) (lv' := [(4, .int (nI ((i) + 1))), (3, .int ((qS (fun s => fj (4 * s + (4 - 1))) i) + (fj (4 * i + 3)))), (0, .ref (rj)), (1, .int (nI (4))), (2, .ref (qe))]) hx hb dL_prop_42 hl (k := 1) rfl (show nI (i) + Int32.ofInt 1 = _ from nI_add (i) 1) (by decide) rfl (fun ls hl => ?_)
        refine lv_goto (tgt := 22) hx hb dL_prop_45 (by decide) ?_
        exact ih (i + 1) (by omega) ls (lv_sub hl [0, 1, 2, 3, 4] rfl)
    exact hL_22 (12) (0) (by omega) ls (lv_sub hl [0, 1, 2, 3, 4] rfl)
  · refine lv_iload_n hx hb dL_prop_0 rfl (lv_at hl 1 rfl) ?_
    refine lv_if_ne (tgt := 12) hx hb dL_prop_1 (by decide) (fun _ => ?_) (fun c_ => absurd c_ (by decide))
    refine lv_iload_n hx hb dL_prop_12 rfl (lv_at hl 1 rfl) ?_
    refine lv_iconst (v := 5) hx hb dL_prop_13 (by decide) ?_
    refine z_icmp_ge (tgt := 50) hx hb (5) (5) dL_prop_14 (by decide) (by omega) (by omega) rfl rfl (fun c_14 => ?_) (fun c_14 => absurd c_14 (by omega))
    have hJ_76 : ∀ (m9 : Nat), (qBed fj (fe 1) = m9) → ∀ (ls : Array Slot), lv_has ls 9 [(3, .int (nI (12 - m9))), (0, .ref (rj)), (1, .int (nI (5))), (2, .ref (qe))] → W p l e ({ frames := 1, cells := 0, slots := 0, locals := 24 } : Room) s m args below meth c s.heap [] 0 0 (MQ below (zRi (qJar fj fe w 5)) args s 0 0 (fun _ => False)) (F0 m 76 ls []) := by
      intro m9 hm9 ls hl
      have hJ_104 : ∀ (c9 : Nat), (qClr fj (fe 2) = c9) → ∀ (ls : Array Slot), lv_has ls 9 [(4, .int (nI (c9))), (3, .int (nI (12 - m9))), (0, .ref (rj)), (1, .int (nI (5))), (2, .ref (qe))] → W p l e ({ frames := 1, cells := 0, slots := 0, locals := 24 } : Room) s m args below meth c s.heap [] 0 0 (MQ below (zRi (qJar fj fe w 5)) args s 0 0 (fun _ => False)) (F0 m 104 ls []) := by
        intro c9 hc9 ls hl
        have hb9 := q_bed_le fj (fe 1)
        rw [hm9] at hb9
        refine lv_iload_n hx hb dL_prop_104 rfl (lv_at hl 3 rfl) ?_
        refine lv_bipush (v := 8) hx hb dL_prop_105 (by decide) ?_
        refine z_icmp_ge (tgt := 151) hx hb (5) (8) dL_prop_107 (by decide) (by omega) (by omega) rfl rfl (fun c_107 => absurd c_107 (by omega)) (fun c_107 => ?_)
        refine lv_iload_n hx hb dL_prop_110 rfl (lv_at hl 3 rfl) ?_
        refine lv_iconst (v := 5) hx hb dL_prop_111 (by decide) ?_
        refine z_icmp_ne (tgt := 122) hx hb (5) (5) dL_prop_112 (by decide) (by omega) (by omega) rfl rfl (fun c_112 => absurd c_112 (by omega)) (fun c_112 => ?_)
        refine lv_bipush (v := 12) hx hb dL_prop_115 (by decide) ?_
        refine lv_iload_n hx hb dL_prop_117 rfl (lv_at hl 1 rfl) ?_
        refine lv_isub hx hb dL_prop_118 ?_
        refine z_top (y := nI ((12) - (12 - m9))) (pk_sub (a := 12) (b := 12 - m9) (by omega)) ?_
        refine lv_goto (tgt := 150) hx hb dL_prop_119 (by decide) ?_
        exact z_iret hx hb hr hlocks ((by show _ = nI (qBed fj (fe 1)); rw [hm9]; exact congrArg nI (by omega))) dL_prop_150
      refine lv_iconst (v := 0) hx hb dL_prop_76 (by decide) ?_
      refine lv_istore (lv' := [(4, .int (0)), (3, .int (nI (12 - m9))), (0, .ref (rj)), (1, .int (nI (5))), (2, .ref (qe))]) hx hb dL_prop_77 hl (by decide) rfl (fun ls hl => ?_)
      have hL_79 : ∀ (n : Nat) (i : Nat), (i + n = 12) → (qClr fj (fe 2) = qRun (fun i => decide (qIn fj i ≤ fe 2)) n i) → ∀ (ls : Array Slot), lv_has ls 9 [(4, .int (nI (i))), (3, .int (nI (12 - m9))), (0, .ref (rj)), (1, .int (nI (5))), (2, .ref (qe))] → W p l e ({ frames := 1, cells := 0, slots := 0, locals := 24 } : Room) s m args below meth c s.heap [] 0 0 (MQ below (zRi (qJar fj fe w 5)) args s 0 0 (fun _ => False)) (F0 m 79 ls []) := by
        intro n
        induction n with
        | zero =>
          intro i hi hR2 ls hl
          have e_i : 12 = i := by omega
          subst e_i
          refine lv_iload hx hb dL_prop_79 (lv_at hl 0 rfl) ?_
          refine lv_bipush (v := 12) hx hb dL_prop_81 (by decide) ?_
          refine z_icmp_ge (tgt := 104) hx hb (12) (12) dL_prop_83 (by decide) (by omega) (by omega) rfl rfl (fun c_83 => ?_) (fun c_83 => absurd c_83 (by omega))
          exact hJ_104 (12) (hR2) ls (lv_sub hl [0, 1, 2, 3, 4] rfl)
        | succ n ih =>
          intro i hi hR2 ls hl
          refine lv_iload hx hb dL_prop_79 (lv_at hl 0 rfl) ?_
          refine lv_bipush (v := 12) hx hb dL_prop_81 (by decide) ?_
          refine z_icmp_ge (tgt := 104) hx hb (i) (12) dL_prop_83 (by decide) (by omega) (by omega) rfl rfl (fun c_83 => absurd c_83 (by omega)) (fun c_83 => ?_)
          refine lv_aload_n hx hb dL_prop_86 rfl (lv_at hl 2 rfl) ?_
          refine lv_iload hx hb dL_prop_87 (lv_at hl 0 rfl) ?_
          refine z_ci (z_srun (rest := []) (own := RL) (As := [.ref (rj), .int (nI (i))]) hx hb hml hown hts hl.1 hK hP [0] rfl (metL_all l D ac rj fj i (by omega)) gL_prop_L_all rfl 2 (by decide +kernel) ⟨rfl, rfl, Nat.le_of_ble_eq_true rfl, Nat.le_of_ble_eq_true rfl⟩ rfl rfl (Nat.le_of_ble_eq_true rfl) dL_prop_89 ⟨Nat.zero_le _, Nat.zero_le _⟩) ?_
          refine lv_aload_n hx hb dL_prop_92 rfl (lv_at hl 4 rfl) ?_
          refine lv_iconst (v := 2) hx hb dL_prop_93 (by decide) ?_
          refine z_iald hx hb hK hP 1 rfl (2) (rfl) (by omega) (by decide) dL_prop_94 ?_
          refine lv_icmp_gt (tgt := 104) hx hb dL_prop_95 (by decide) (fun c_95 => ?_) (fun c_95 => ?_)
          · exact hJ_104 (i) (hR2.trans (if_neg (fun q => absurd c_95 (Int32.not_lt.mpr (of_decide_eq_true q))))) ls (lv_sub hl [0, 1, 2, 3, 4] rfl)
          · refine lv_iinc (v := nI ((i) + 1)) (lv' := [(4, .int (nI ((i) + 1))), (3, .int (nI (12 - m9))), (0, .ref (rj)), (1, .int (nI (5))), (2, .ref (qe))]) hx hb dL_prop_98 hl (k := 0) rfl (show nI (i) + Int32.ofInt 1 = _ from nI_add (i) 1) (by decide) rfl (fun ls hl => ?_)
            refine lv_goto (tgt := 79) hx hb dL_prop_101 (by decide) ?_
            exact ih (i + 1) (by omega) (hR2.trans (if_pos (decide_eq_true (Int32.not_lt.mp c_95)))) ls (lv_sub hl [0, 1, 2, 3, 4] rfl)
      exact hL_79 (12) (0) (by omega) (rfl) ls (lv_sub hl [0, 1, 2, 3, 4] rfl)
    refine lv_bipush (v := 12) hx hb dL_prop_50 (by decide) ?_
    refine lv_istore_n (lv' := [(3, .int (12)), (0, .ref (rj)), (1, .int (nI (5))), (2, .ref (qe))]) hx hb dL_prop_52 rfl hl (by decide) rfl (fun ls hl => ?_)
    have hL_53 : ∀ (n : Nat) (kb : Nat), (kb + n = 12) → (qBed fj (fe 1) = qRun (fun i => decide (fe 1 ≤ qIn fj (11 - i))) n kb) → ∀ (ls : Array Slot), lv_has ls 9 [(3, .int (nI (12 - kb))), (0, .ref (rj)), (1, .int (nI (5))), (2, .ref (qe))] → W p l e ({ frames := 1, cells := 0, slots := 0, locals := 24 } : Room) s m args below meth c s.heap [] 0 0 (MQ below (zRi (qJar fj fe w 5)) args s 0 0 (fun _ => False)) (F0 m 53 ls []) := by
      intro n
      induction n with
      | zero =>
        intro kb hkb hR ls hl
        have e_kb : 12 = kb := by omega
        subst e_kb
        refine lv_iload_n hx hb dL_prop_53 rfl (lv_at hl 0 rfl) ?_
        refine lv_if_le (tgt := 76) hx hb dL_prop_54 (by decide) (fun c_54 => ?_) (fun c_54 => absurd c_54 (fun q => q (by decide)))
        exact hJ_76 (12) (hR) ls (lv_sub hl [0, 1, 2, 3] rfl)
      | succ n ih =>
        intro kb hkb hR ls hl
        refine lv_iload_n hx hb dL_prop_53 rfl (lv_at hl 0 rfl) ?_
        refine lv_if_le (tgt := 76) hx hb dL_prop_54 (by decide) (fun c_54 => absurd c_54 (nI_nle (by omega) (by omega))) (fun c_54 => ?_)
        refine lv_aload_n hx hb dL_prop_57 rfl (lv_at hl 1 rfl) ?_
        refine lv_iload_n hx hb dL_prop_58 rfl (lv_at hl 0 rfl) ?_
        refine lv_iconst (v := 1) hx hb dL_prop_59 (by decide) ?_
        refine lv_isub hx hb dL_prop_60 ?_
        refine z_top (y := nI ((12 - kb) - (1))) (pk_sub (a := 12 - kb) (b := 1) (by omega)) ?_
        refine z_top (y := nI (11 - kb)) (congrArg nI (by omega)) ?_
        refine z_ci (z_srun (rest := []) (own := RL) (As := [.ref (rj), .int (nI (11 - kb))]) hx hb hml hown hts hl.1 hK hP [0] rfl (metL_all l D ac rj fj (11 - kb) (by omega)) gL_prop_L_all rfl 2 (by decide +kernel) ⟨rfl, rfl, Nat.le_of_ble_eq_true rfl, Nat.le_of_ble_eq_true rfl⟩ rfl rfl (Nat.le_of_ble_eq_true rfl) dL_prop_61 ⟨Nat.zero_le _, Nat.zero_le _⟩) ?_
        refine lv_aload_n hx hb dL_prop_64 rfl (lv_at hl 3 rfl) ?_
        refine lv_iconst (v := 1) hx hb dL_prop_65 (by decide) ?_
        refine z_iald hx hb hK hP 1 rfl (1) (rfl) (by omega) (by decide) dL_prop_66 ?_
        refine lv_icmp_lt (tgt := 76) hx hb dL_prop_67 (by decide) (fun c_67 => ?_) (fun c_67 => ?_)
        · exact hJ_76 (kb) (hR.trans (if_neg (fun q => absurd c_67 (Int32.not_lt.mpr (of_decide_eq_true q))))) ls (lv_sub hl [0, 1, 2, 3] rfl)
        · refine lv_iinc (v := nI (12 - (kb + 1))) (lv' := [(3, .int (nI (12 - (kb + 1)))), (0, .ref (rj)), (1, .int (nI (5))), (2, .ref (qe))]) hx hb dL_prop_70 hl (k := 0) rfl (by rw [z_addm1, show nI (12 - kb) = nI (11 - kb + 1) from congrArg nI (by omega), nI_pred]; exact congrArg nI (by omega)) (by decide) rfl (fun ls hl => ?_)
          refine lv_goto (tgt := 53) hx hb dL_prop_73 (by decide) ?_
          exact ih (kb + 1) (by omega) (hR.trans (if_pos (decide_eq_true (Int32.not_lt.mp c_67)))) ls (lv_sub hl [0, 1, 2, 3] rfl)
    exact hL_53 (12) (0) (by omega) (rfl) ls (lv_sub hl [0, 1, 2, 3] rfl)
  · refine lv_iload_n hx hb dL_prop_0 rfl (lv_at hl 1 rfl) ?_
    refine lv_if_ne (tgt := 12) hx hb dL_prop_1 (by decide) (fun _ => ?_) (fun c_ => absurd c_ (by decide))
    refine lv_iload_n hx hb dL_prop_12 rfl (lv_at hl 1 rfl) ?_
    refine lv_iconst (v := 5) hx hb dL_prop_13 (by decide) ?_
    refine z_icmp_ge (tgt := 50) hx hb (6) (5) dL_prop_14 (by decide) (by omega) (by omega) rfl rfl (fun c_14 => ?_) (fun c_14 => absurd c_14 (by omega))
    have hJ_76 : ∀ (m9 : Nat), (qBed fj (fe 1) = m9) → ∀ (ls : Array Slot), lv_has ls 9 [(3, .int (nI (12 - m9))), (0, .ref (rj)), (1, .int (nI (6))), (2, .ref (qe))] → W p l e ({ frames := 1, cells := 0, slots := 0, locals := 24 } : Room) s m args below meth c s.heap [] 0 0 (MQ below (zRi (qJar fj fe w 6)) args s 0 0 (fun _ => False)) (F0 m 76 ls []) := by
      intro m9 hm9 ls hl
      have hJ_104 : ∀ (c9 : Nat), (qClr fj (fe 2) = c9) → ∀ (ls : Array Slot), lv_has ls 9 [(4, .int (nI (c9))), (3, .int (nI (12 - m9))), (0, .ref (rj)), (1, .int (nI (6))), (2, .ref (qe))] → W p l e ({ frames := 1, cells := 0, slots := 0, locals := 24 } : Room) s m args below meth c s.heap [] 0 0 (MQ below (zRi (qJar fj fe w 6)) args s 0 0 (fun _ => False)) (F0 m 104 ls []) := by
        intro c9 hc9 ls hl
        have hb9 := q_bed_le fj (fe 1)
        rw [hm9] at hb9
        refine lv_iload_n hx hb dL_prop_104 rfl (lv_at hl 3 rfl) ?_
        refine lv_bipush (v := 8) hx hb dL_prop_105 (by decide) ?_
        refine z_icmp_ge (tgt := 151) hx hb (6) (8) dL_prop_107 (by decide) (by omega) (by omega) rfl rfl (fun c_107 => absurd c_107 (by omega)) (fun c_107 => ?_)
        refine lv_iload_n hx hb dL_prop_110 rfl (lv_at hl 3 rfl) ?_
        refine lv_iconst (v := 5) hx hb dL_prop_111 (by decide) ?_
        refine z_icmp_ne (tgt := 122) hx hb (6) (5) dL_prop_112 (by decide) (by omega) (by omega) rfl rfl (fun c_112 => ?_) (fun c_112 => absurd c_112 (by omega))
        refine lv_iload_n hx hb dL_prop_122 rfl (lv_at hl 3 rfl) ?_
        refine lv_bipush (v := 6) hx hb dL_prop_123 (by decide) ?_
        refine z_icmp_ne (tgt := 133) hx hb (6) (6) dL_prop_125 (by decide) (by omega) (by omega) rfl rfl (fun c_125 => absurd c_125 (by omega)) (fun c_125 => ?_)
        refine lv_iload hx hb dL_prop_128 (lv_at hl 0 rfl) ?_
        refine lv_goto (tgt := 150) hx hb dL_prop_130 (by decide) ?_
        exact z_iret hx hb hr hlocks (congrArg nI hc9.symm) dL_prop_150
      refine lv_iconst (v := 0) hx hb dL_prop_76 (by decide) ?_
      refine lv_istore (lv' := [(4, .int (0)), (3, .int (nI (12 - m9))), (0, .ref (rj)), (1, .int (nI (6))), (2, .ref (qe))]) hx hb dL_prop_77 hl (by decide) rfl (fun ls hl => ?_)
      have hL_79 : ∀ (n : Nat) (i : Nat), (i + n = 12) → (qClr fj (fe 2) = qRun (fun i => decide (qIn fj i ≤ fe 2)) n i) → ∀ (ls : Array Slot), lv_has ls 9 [(4, .int (nI (i))), (3, .int (nI (12 - m9))), (0, .ref (rj)), (1, .int (nI (6))), (2, .ref (qe))] → W p l e ({ frames := 1, cells := 0, slots := 0, locals := 24 } : Room) s m args below meth c s.heap [] 0 0 (MQ below (zRi (qJar fj fe w 6)) args s 0 0 (fun _ => False)) (F0 m 79 ls []) := by
        intro n
        induction n with
        | zero =>
          intro i hi hR2 ls hl
          have e_i : 12 = i := by omega
          subst e_i
          refine lv_iload hx hb dL_prop_79 (lv_at hl 0 rfl) ?_
          refine lv_bipush (v := 12) hx hb dL_prop_81 (by decide) ?_
          refine z_icmp_ge (tgt := 104) hx hb (12) (12) dL_prop_83 (by decide) (by omega) (by omega) rfl rfl (fun c_83 => ?_) (fun c_83 => absurd c_83 (by omega))
          exact hJ_104 (12) (hR2) ls (lv_sub hl [0, 1, 2, 3, 4] rfl)
        | succ n ih =>
          intro i hi hR2 ls hl
          refine lv_iload hx hb dL_prop_79 (lv_at hl 0 rfl) ?_
          refine lv_bipush (v := 12) hx hb dL_prop_81 (by decide) ?_
          refine z_icmp_ge (tgt := 104) hx hb (i) (12) dL_prop_83 (by decide) (by omega) (by omega) rfl rfl (fun c_83 => absurd c_83 (by omega)) (fun c_83 => ?_)
          refine lv_aload_n hx hb dL_prop_86 rfl (lv_at hl 2 rfl) ?_
          refine lv_iload hx hb dL_prop_87 (lv_at hl 0 rfl) ?_
          refine z_ci (z_srun (rest := []) (own := RL) (As := [.ref (rj), .int (nI (i))]) hx hb hml hown hts hl.1 hK hP [0] rfl (metL_all l D ac rj fj i (by omega)) gL_prop_L_all rfl 2 (by decide +kernel) ⟨rfl, rfl, Nat.le_of_ble_eq_true rfl, Nat.le_of_ble_eq_true rfl⟩ rfl rfl (Nat.le_of_ble_eq_true rfl) dL_prop_89 ⟨Nat.zero_le _, Nat.zero_le _⟩) ?_
          refine lv_aload_n hx hb dL_prop_92 rfl (lv_at hl 4 rfl) ?_
          refine lv_iconst (v := 2) hx hb dL_prop_93 (by decide) ?_
          refine z_iald hx hb hK hP 1 rfl (2) (rfl) (by omega) (by decide) dL_prop_94 ?_
          refine lv_icmp_gt (tgt := 104) hx hb dL_prop_95 (by decide) (fun c_95 => ?_) (fun c_95 => ?_)
          · exact hJ_104 (i) (hR2.trans (if_neg (fun q => absurd c_95 (Int32.not_lt.mpr (of_decide_eq_true q))))) ls (lv_sub hl [0, 1, 2, 3, 4] rfl)
          · refine lv_iinc (v := nI ((i) + 1)) (lv' := [(4, .int (nI ((i) + 1))), (3, .int (nI (12 - m9))), (0, .ref (rj)), (1, .int (nI (6))), (2, .ref (qe))]) hx hb dL_prop_98 hl (k := 0) rfl (show nI (i) + Int32.ofInt 1 = _ from nI_add (i) 1) (by decide) rfl (fun ls hl => ?_)
            refine lv_goto (tgt := 79) hx hb dL_prop_101 (by decide) ?_
            exact ih (i + 1) (by omega) (hR2.trans (if_pos (decide_eq_true (Int32.not_lt.mp c_95)))) ls (lv_sub hl [0, 1, 2, 3, 4] rfl)
      exact hL_79 (12) (0) (by omega) (rfl) ls (lv_sub hl [0, 1, 2, 3, 4] rfl)
    refine lv_bipush (v := 12) hx hb dL_prop_50 (by decide) ?_
    refine lv_istore_n (lv' := [(3, .int (12)), (0, .ref (rj)), (1, .int (nI (6))), (2, .ref (qe))]) hx hb dL_prop_52 rfl hl (by decide) rfl (fun ls hl => ?_)
    have hL_53 : ∀ (n : Nat) (kb : Nat), (kb + n = 12) → (qBed fj (fe 1) = qRun (fun i => decide (fe 1 ≤ qIn fj (11 - i))) n kb) → ∀ (ls : Array Slot), lv_has ls 9 [(3, .int (nI (12 - kb))), (0, .ref (rj)), (1, .int (nI (6))), (2, .ref (qe))] → W p l e ({ frames := 1, cells := 0, slots := 0, locals := 24 } : Room) s m args below meth c s.heap [] 0 0 (MQ below (zRi (qJar fj fe w 6)) args s 0 0 (fun _ => False)) (F0 m 53 ls []) := by
      intro n
      induction n with
      | zero =>
        intro kb hkb hR ls hl
        have e_kb : 12 = kb := by omega
        subst e_kb
        refine lv_iload_n hx hb dL_prop_53 rfl (lv_at hl 0 rfl) ?_
        refine lv_if_le (tgt := 76) hx hb dL_prop_54 (by decide) (fun c_54 => ?_) (fun c_54 => absurd c_54 (fun q => q (by decide)))
        exact hJ_76 (12) (hR) ls (lv_sub hl [0, 1, 2, 3] rfl)
      | succ n ih =>
        intro kb hkb hR ls hl
        refine lv_iload_n hx hb dL_prop_53 rfl (lv_at hl 0 rfl) ?_
        refine lv_if_le (tgt := 76) hx hb dL_prop_54 (by decide) (fun c_54 => absurd c_54 (nI_nle (by omega) (by omega))) (fun c_54 => ?_)
        refine lv_aload_n hx hb dL_prop_57 rfl (lv_at hl 1 rfl) ?_
        refine lv_iload_n hx hb dL_prop_58 rfl (lv_at hl 0 rfl) ?_
        refine lv_iconst (v := 1) hx hb dL_prop_59 (by decide) ?_
        refine lv_isub hx hb dL_prop_60 ?_
        refine z_top (y := nI ((12 - kb) - (1))) (pk_sub (a := 12 - kb) (b := 1) (by omega)) ?_
        refine z_top (y := nI (11 - kb)) (congrArg nI (by omega)) ?_
        refine z_ci (z_srun (rest := []) (own := RL) (As := [.ref (rj), .int (nI (11 - kb))]) hx hb hml hown hts hl.1 hK hP [0] rfl (metL_all l D ac rj fj (11 - kb) (by omega)) gL_prop_L_all rfl 2 (by decide +kernel) ⟨rfl, rfl, Nat.le_of_ble_eq_true rfl, Nat.le_of_ble_eq_true rfl⟩ rfl rfl (Nat.le_of_ble_eq_true rfl) dL_prop_61 ⟨Nat.zero_le _, Nat.zero_le _⟩) ?_
        refine lv_aload_n hx hb dL_prop_64 rfl (lv_at hl 3 rfl) ?_
        refine lv_iconst (v := 1) hx hb dL_prop_65 (by decide) ?_
        refine z_iald hx hb hK hP 1 rfl (1) (rfl) (by omega) (by decide) dL_prop_66 ?_
        refine lv_icmp_lt (tgt := 76) hx hb dL_prop_67 (by decide) (fun c_67 => ?_) (fun c_67 => ?_)
        · exact hJ_76 (kb) (hR.trans (if_neg (fun q => absurd c_67 (Int32.not_lt.mpr (of_decide_eq_true q))))) ls (lv_sub hl [0, 1, 2, 3] rfl)
        · refine lv_iinc (v := nI (12 - (kb + 1))) (lv' := [(3, .int (nI (12 - (kb + 1)))), (0, .ref (rj)), (1, .int (nI (6))), (2, .ref (qe))]) hx hb dL_prop_70 hl (k := 0) rfl (by rw [z_addm1, show nI (12 - kb) = nI (11 - kb + 1) from congrArg nI (by omega), nI_pred]; exact congrArg nI (by omega)) (by decide) rfl (fun ls hl => ?_)
          refine lv_goto (tgt := 53) hx hb dL_prop_73 (by decide) ?_
          exact ih (kb + 1) (by omega) (hR.trans (if_pos (decide_eq_true (Int32.not_lt.mp c_67)))) ls (lv_sub hl [0, 1, 2, 3] rfl)
    exact hL_53 (12) (0) (by omega) (rfl) ls (lv_sub hl [0, 1, 2, 3] rfl)
  · refine lv_iload_n hx hb dL_prop_0 rfl (lv_at hl 1 rfl) ?_
    refine lv_if_ne (tgt := 12) hx hb dL_prop_1 (by decide) (fun _ => ?_) (fun c_ => absurd c_ (by decide))
    refine lv_iload_n hx hb dL_prop_12 rfl (lv_at hl 1 rfl) ?_
    refine lv_iconst (v := 5) hx hb dL_prop_13 (by decide) ?_
    refine z_icmp_ge (tgt := 50) hx hb (7) (5) dL_prop_14 (by decide) (by omega) (by omega) rfl rfl (fun c_14 => ?_) (fun c_14 => absurd c_14 (by omega))
    have hJ_76 : ∀ (m9 : Nat), (qBed fj (fe 1) = m9) → ∀ (ls : Array Slot), lv_has ls 9 [(3, .int (nI (12 - m9))), (0, .ref (rj)), (1, .int (nI (7))), (2, .ref (qe))] → W p l e ({ frames := 1, cells := 0, slots := 0, locals := 24 } : Room) s m args below meth c s.heap [] 0 0 (MQ below (zRi (qJar fj fe w 7)) args s 0 0 (fun _ => False)) (F0 m 76 ls []) := by
      intro m9 hm9 ls hl
      have hJ_104 : ∀ (c9 : Nat), (qClr fj (fe 2) = c9) → ∀ (ls : Array Slot), lv_has ls 9 [(4, .int (nI (c9))), (3, .int (nI (12 - m9))), (0, .ref (rj)), (1, .int (nI (7))), (2, .ref (qe))] → W p l e ({ frames := 1, cells := 0, slots := 0, locals := 24 } : Room) s m args below meth c s.heap [] 0 0 (MQ below (zRi (qJar fj fe w 7)) args s 0 0 (fun _ => False)) (F0 m 104 ls []) := by
        intro c9 hc9 ls hl
        have hb9 := q_bed_le fj (fe 1)
        rw [hm9] at hb9
        refine lv_iload_n hx hb dL_prop_104 rfl (lv_at hl 3 rfl) ?_
        refine lv_bipush (v := 8) hx hb dL_prop_105 (by decide) ?_
        refine z_icmp_ge (tgt := 151) hx hb (7) (8) dL_prop_107 (by decide) (by omega) (by omega) rfl rfl (fun c_107 => absurd c_107 (by omega)) (fun c_107 => ?_)
        refine lv_iload_n hx hb dL_prop_110 rfl (lv_at hl 3 rfl) ?_
        refine lv_iconst (v := 5) hx hb dL_prop_111 (by decide) ?_
        refine z_icmp_ne (tgt := 122) hx hb (7) (5) dL_prop_112 (by decide) (by omega) (by omega) rfl rfl (fun c_112 => ?_) (fun c_112 => absurd c_112 (by omega))
        refine lv_iload_n hx hb dL_prop_122 rfl (lv_at hl 3 rfl) ?_
        refine lv_bipush (v := 6) hx hb dL_prop_123 (by decide) ?_
        refine z_icmp_ne (tgt := 133) hx hb (7) (6) dL_prop_125 (by decide) (by omega) (by omega) rfl rfl (fun c_125 => ?_) (fun c_125 => absurd c_125 (by omega))
        refine lv_iload_n hx hb dL_prop_133 rfl (lv_at hl 1 rfl) ?_
        refine lv_bipush (v := 12) hx hb dL_prop_134 (by decide) ?_
        refine z_icmp_ne (tgt := 143) hx hb (12 - m9) (12) dL_prop_136 (by decide) (by omega) (by omega) rfl rfl (fun c_136 => ?_) (fun c_136 => ?_)
        · refine lv_aload_n hx hb dL_prop_143 rfl (lv_at hl 2 rfl) ?_
          refine lv_iload_n hx hb dL_prop_144 rfl (lv_at hl 1 rfl) ?_
          refine lv_bipush (v := 11) hx hb dL_prop_145 (by decide) ?_
          refine z_ci (z_srun (rest := []) (own := RL) (As := [.ref (rj), .int (nI (12 - m9)), .int (11)]) hx hb hml hown hts hl.1 hK hP [0] rfl (metL_sum l D ac rj fj (12 - m9) 11 (by omega) (by omega)) gL_prop_L_sum rfl 3 (by decide +kernel) ⟨rfl, rfl, Nat.le_of_ble_eq_true rfl, Nat.le_of_ble_eq_true rfl⟩ rfl rfl (Nat.le_of_ble_eq_true rfl) dL_prop_147 ⟨Nat.zero_le _, Nat.zero_le _⟩) ?_
          exact z_iret hx hb hr hlocks (l_bed hm9 hb9) dL_prop_150
        · refine lv_iconst (v := 0) hx hb dL_prop_139 (by decide) ?_
          refine lv_goto (tgt := 150) hx hb dL_prop_140 (by decide) ?_
          exact z_iret hx hb hr hlocks (l_bed0 hm9 c_136) dL_prop_150
      refine lv_iconst (v := 0) hx hb dL_prop_76 (by decide) ?_
      refine lv_istore (lv' := [(4, .int (0)), (3, .int (nI (12 - m9))), (0, .ref (rj)), (1, .int (nI (7))), (2, .ref (qe))]) hx hb dL_prop_77 hl (by decide) rfl (fun ls hl => ?_)
      have hL_79 : ∀ (n : Nat) (i : Nat), (i + n = 12) → (qClr fj (fe 2) = qRun (fun i => decide (qIn fj i ≤ fe 2)) n i) → ∀ (ls : Array Slot), lv_has ls 9 [(4, .int (nI (i))), (3, .int (nI (12 - m9))), (0, .ref (rj)), (1, .int (nI (7))), (2, .ref (qe))] → W p l e ({ frames := 1, cells := 0, slots := 0, locals := 24 } : Room) s m args below meth c s.heap [] 0 0 (MQ below (zRi (qJar fj fe w 7)) args s 0 0 (fun _ => False)) (F0 m 79 ls []) := by
        intro n
        induction n with
        | zero =>
          intro i hi hR2 ls hl
          have e_i : 12 = i := by omega
          subst e_i
          refine lv_iload hx hb dL_prop_79 (lv_at hl 0 rfl) ?_
          refine lv_bipush (v := 12) hx hb dL_prop_81 (by decide) ?_
          refine z_icmp_ge (tgt := 104) hx hb (12) (12) dL_prop_83 (by decide) (by omega) (by omega) rfl rfl (fun c_83 => ?_) (fun c_83 => absurd c_83 (by omega))
          exact hJ_104 (12) (hR2) ls (lv_sub hl [0, 1, 2, 3, 4] rfl)
        | succ n ih =>
          intro i hi hR2 ls hl
          refine lv_iload hx hb dL_prop_79 (lv_at hl 0 rfl) ?_
          refine lv_bipush (v := 12) hx hb dL_prop_81 (by decide) ?_
          refine z_icmp_ge (tgt := 104) hx hb (i) (12) dL_prop_83 (by decide) (by omega) (by omega) rfl rfl (fun c_83 => absurd c_83 (by omega)) (fun c_83 => ?_)
          refine lv_aload_n hx hb dL_prop_86 rfl (lv_at hl 2 rfl) ?_
          refine lv_iload hx hb dL_prop_87 (lv_at hl 0 rfl) ?_
          refine z_ci (z_srun (rest := []) (own := RL) (As := [.ref (rj), .int (nI (i))]) hx hb hml hown hts hl.1 hK hP [0] rfl (metL_all l D ac rj fj i (by omega)) gL_prop_L_all rfl 2 (by decide +kernel) ⟨rfl, rfl, Nat.le_of_ble_eq_true rfl, Nat.le_of_ble_eq_true rfl⟩ rfl rfl (Nat.le_of_ble_eq_true rfl) dL_prop_89 ⟨Nat.zero_le _, Nat.zero_le _⟩) ?_
          refine lv_aload_n hx hb dL_prop_92 rfl (lv_at hl 4 rfl) ?_
          refine lv_iconst (v := 2) hx hb dL_prop_93 (by decide) ?_
          refine z_iald hx hb hK hP 1 rfl (2) (rfl) (by omega) (by decide) dL_prop_94 ?_
          refine lv_icmp_gt (tgt := 104) hx hb dL_prop_95 (by decide) (fun c_95 => ?_) (fun c_95 => ?_)
          · exact hJ_104 (i) (hR2.trans (if_neg (fun q => absurd c_95 (Int32.not_lt.mpr (of_decide_eq_true q))))) ls (lv_sub hl [0, 1, 2, 3, 4] rfl)
          · refine lv_iinc (v := nI ((i) + 1)) (lv' := [(4, .int (nI ((i) + 1))), (3, .int (nI (12 - m9))), (0, .ref (rj)), (1, .int (nI (7))), (2, .ref (qe))]) hx hb dL_prop_98 hl (k := 0) rfl (show nI (i) + Int32.ofInt 1 = _ from nI_add (i) 1) (by decide) rfl (fun ls hl => ?_)
            refine lv_goto (tgt := 79) hx hb dL_prop_101 (by decide) ?_
            exact ih (i + 1) (by omega) (hR2.trans (if_pos (decide_eq_true (Int32.not_lt.mp c_95)))) ls (lv_sub hl [0, 1, 2, 3, 4] rfl)
      exact hL_79 (12) (0) (by omega) (rfl) ls (lv_sub hl [0, 1, 2, 3, 4] rfl)
    refine lv_bipush (v := 12) hx hb dL_prop_50 (by decide) ?_
    refine lv_istore_n (lv' := [(3, .int (12)), (0, .ref (rj)), (1, .int (nI (7))), (2, .ref (qe))]) hx hb dL_prop_52 rfl hl (by decide) rfl (fun ls hl => ?_)
    have hL_53 : ∀ (n : Nat) (kb : Nat), (kb + n = 12) → (qBed fj (fe 1) = qRun (fun i => decide (fe 1 ≤ qIn fj (11 - i))) n kb) → ∀ (ls : Array Slot), lv_has ls 9 [(3, .int (nI (12 - kb))), (0, .ref (rj)), (1, .int (nI (7))), (2, .ref (qe))] → W p l e ({ frames := 1, cells := 0, slots := 0, locals := 24 } : Room) s m args below meth c s.heap [] 0 0 (MQ below (zRi (qJar fj fe w 7)) args s 0 0 (fun _ => False)) (F0 m 53 ls []) := by
      intro n
      induction n with
      | zero =>
        intro kb hkb hR ls hl
        have e_kb : 12 = kb := by omega
        subst e_kb
        refine lv_iload_n hx hb dL_prop_53 rfl (lv_at hl 0 rfl) ?_
        refine lv_if_le (tgt := 76) hx hb dL_prop_54 (by decide) (fun c_54 => ?_) (fun c_54 => absurd c_54 (fun q => q (by decide)))
        exact hJ_76 (12) (hR) ls (lv_sub hl [0, 1, 2, 3] rfl)
      | succ n ih =>
        intro kb hkb hR ls hl
        refine lv_iload_n hx hb dL_prop_53 rfl (lv_at hl 0 rfl) ?_
        refine lv_if_le (tgt := 76) hx hb dL_prop_54 (by decide) (fun c_54 => absurd c_54 (nI_nle (by omega) (by omega))) (fun c_54 => ?_)
        refine lv_aload_n hx hb dL_prop_57 rfl (lv_at hl 1 rfl) ?_
        refine lv_iload_n hx hb dL_prop_58 rfl (lv_at hl 0 rfl) ?_
        refine lv_iconst (v := 1) hx hb dL_prop_59 (by decide) ?_
        refine lv_isub hx hb dL_prop_60 ?_
        refine z_top (y := nI ((12 - kb) - (1))) (pk_sub (a := 12 - kb) (b := 1) (by omega)) ?_
        refine z_top (y := nI (11 - kb)) (congrArg nI (by omega)) ?_
        refine z_ci (z_srun (rest := []) (own := RL) (As := [.ref (rj), .int (nI (11 - kb))]) hx hb hml hown hts hl.1 hK hP [0] rfl (metL_all l D ac rj fj (11 - kb) (by omega)) gL_prop_L_all rfl 2 (by decide +kernel) ⟨rfl, rfl, Nat.le_of_ble_eq_true rfl, Nat.le_of_ble_eq_true rfl⟩ rfl rfl (Nat.le_of_ble_eq_true rfl) dL_prop_61 ⟨Nat.zero_le _, Nat.zero_le _⟩) ?_
        refine lv_aload_n hx hb dL_prop_64 rfl (lv_at hl 3 rfl) ?_
        refine lv_iconst (v := 1) hx hb dL_prop_65 (by decide) ?_
        refine z_iald hx hb hK hP 1 rfl (1) (rfl) (by omega) (by decide) dL_prop_66 ?_
        refine lv_icmp_lt (tgt := 76) hx hb dL_prop_67 (by decide) (fun c_67 => ?_) (fun c_67 => ?_)
        · exact hJ_76 (kb) (hR.trans (if_neg (fun q => absurd c_67 (Int32.not_lt.mpr (of_decide_eq_true q))))) ls (lv_sub hl [0, 1, 2, 3] rfl)
        · refine lv_iinc (v := nI (12 - (kb + 1))) (lv' := [(3, .int (nI (12 - (kb + 1)))), (0, .ref (rj)), (1, .int (nI (7))), (2, .ref (qe))]) hx hb dL_prop_70 hl (k := 0) rfl (by rw [z_addm1, show nI (12 - kb) = nI (11 - kb + 1) from congrArg nI (by omega), nI_pred]; exact congrArg nI (by omega)) (by decide) rfl (fun ls hl => ?_)
          refine lv_goto (tgt := 53) hx hb dL_prop_73 (by decide) ?_
          exact ih (kb + 1) (by omega) (hR.trans (if_pos (decide_eq_true (Int32.not_lt.mp c_67)))) ls (lv_sub hl [0, 1, 2, 3] rfl)
    exact hL_53 (12) (0) (by omega) (rfl) ls (lv_sub hl [0, 1, 2, 3] rfl)
  · refine lv_iload_n hx hb dL_prop_0 rfl (lv_at hl 1 rfl) ?_
    refine lv_if_ne (tgt := 12) hx hb dL_prop_1 (by decide) (fun _ => ?_) (fun c_ => absurd c_ (by decide))
    refine lv_iload_n hx hb dL_prop_12 rfl (lv_at hl 1 rfl) ?_
    refine lv_iconst (v := 5) hx hb dL_prop_13 (by decide) ?_
    refine z_icmp_ge (tgt := 50) hx hb (8) (5) dL_prop_14 (by decide) (by omega) (by omega) rfl rfl (fun c_14 => ?_) (fun c_14 => absurd c_14 (by omega))
    have hJ_76 : ∀ (m9 : Nat), (qBed fj (fe 1) = m9) → ∀ (ls : Array Slot), lv_has ls 9 [(3, .int (nI (12 - m9))), (0, .ref (rj)), (1, .int (nI (8))), (2, .ref (qe))] → W p l e ({ frames := 1, cells := 0, slots := 0, locals := 24 } : Room) s m args below meth c s.heap [] 0 0 (MQ below (zRi (qJar fj fe w 8)) args s 0 0 (fun _ => False)) (F0 m 76 ls []) := by
      intro m9 hm9 ls hl
      have hJ_104 : ∀ (c9 : Nat), (qClr fj (fe 2) = c9) → ∀ (ls : Array Slot), lv_has ls 9 [(4, .int (nI (c9))), (3, .int (nI (12 - m9))), (0, .ref (rj)), (1, .int (nI (8))), (2, .ref (qe))] → W p l e ({ frames := 1, cells := 0, slots := 0, locals := 24 } : Room) s m args below meth c s.heap [] 0 0 (MQ below (zRi (qJar fj fe w 8)) args s 0 0 (fun _ => False)) (F0 m 104 ls []) := by
        intro c9 hc9 ls hl
        have hb9 := q_bed_le fj (fe 1)
        rw [hm9] at hb9
        refine lv_iload_n hx hb dL_prop_104 rfl (lv_at hl 3 rfl) ?_
        refine lv_bipush (v := 8) hx hb dL_prop_105 (by decide) ?_
        refine z_icmp_ge (tgt := 151) hx hb (8) (8) dL_prop_107 (by decide) (by omega) (by omega) rfl rfl (fun c_107 => ?_) (fun c_107 => absurd c_107 (by omega))
        refine lv_iconst (v := 0) hx hb dL_prop_151 (by decide) ?_
        refine lv_istore (lv' := [(5, .int (0)), (4, .int (nI (c9))), (3, .int (nI (12 - m9))), (0, .ref (rj)), (1, .int (nI (8))), (2, .ref (qe))]) hx hb dL_prop_152 hl (by decide) rfl (fun ls hl => ?_)
        refine lv_iconst (v := (-1)) hx hb dL_prop_154 (by decide) ?_
        refine lv_istore (lv' := [(6, .int ((-1))), (5, .int (0)), (4, .int (nI (c9))), (3, .int (nI (12 - m9))), (0, .ref (rj)), (1, .int (nI (8))), (2, .ref (qe))]) hx hb dL_prop_155 hl (by decide) rfl (fun ls hl => ?_)
        refine lv_bipush (v := 11) hx hb dL_prop_157 (by decide) ?_
        refine lv_istore (lv' := [(7, .int (11)), (6, .int ((-1))), (5, .int (0)), (4, .int (nI (c9))), (3, .int (nI (12 - m9))), (0, .ref (rj)), (1, .int (nI (8))), (2, .ref (qe))]) hx hb dL_prop_159 hl (by decide) rfl (fun ls hl => ?_)
        have hL_161 : ∀ (n : Nat) (i : Nat), (i + n = 12) → ∀ (ls : Array Slot), lv_has ls 9 [(7, .int (nI n - 1)), (6, .int ((lCh (qLead fj) i).2)), (5, .int ((lCh (qLead fj) i).1)), (4, .int (nI (c9))), (3, .int (nI (12 - m9))), (0, .ref (rj)), (1, .int (nI (8))), (2, .ref (qe))] → W p l e ({ frames := 1, cells := 0, slots := 0, locals := 24 } : Room) s m args below meth c s.heap [] 0 0 (MQ below (zRi (qJar fj fe w 8)) args s 0 0 (fun _ => False)) (F0 m 161 ls []) := by
          intro n
          induction n with
          | zero =>
            intro i hi ls hl
            have e_i : 12 = i := by omega
            subst e_i
            refine lv_iload hx hb dL_prop_161 (lv_at hl 0 rfl) ?_
            refine lv_if_lt (tgt := 214) hx hb dL_prop_163 (by decide) (fun c_163 => ?_) (fun c_163 => absurd c_163 (fun q => q (by decide)))
            refine lv_iload hx hb dL_prop_214 (lv_at hl 2 rfl) ?_
            exact z_iret hx hb hr hlocks (l_chg fj) dL_prop_216
          | succ n ih =>
            intro i hi ls hl
            refine lv_iload hx hb dL_prop_161 (lv_at hl 0 rfl) ?_
            refine z_top (y := nI (11 - i)) (by rw [nI_pred]; exact congrArg nI (by omega)) ?_
            refine lv_if_lt (tgt := 214) hx hb dL_prop_163 (by decide) (fun c_163 => absurd c_163 (nI_pos (by omega))) (fun c_163 => ?_)
            refine lv_aload_n hx hb dL_prop_166 rfl (lv_at hl 5 rfl) ?_
            refine lv_iload hx hb dL_prop_167 (lv_at hl 0 rfl) ?_
            refine z_top (y := nI (11 - i)) (by rw [nI_pred]; exact congrArg nI (by omega)) ?_
            refine z_ci (z_srun (rest := []) (own := RL) (As := [.ref (rj), .int (nI (11 - i))]) hx hb hml hown hts hl.1 hK hP [0] rfl (metL_leading l D ac rj fj (11 - i) (by omega)) gL_prop_L_leading rfl 2 (by decide +kernel) ⟨rfl, rfl, Nat.le_of_ble_eq_true rfl, Nat.le_of_ble_eq_true rfl⟩ rfl rfl (Nat.le_of_ble_eq_true rfl) dL_prop_169 ⟨Nat.zero_le _, Nat.zero_le _⟩) ?_
            refine lv_istore (lv' := [(8, .int (qLead fj (11 - i))), (7, .int (nI ((n + 1)) - 1)), (6, .int ((lCh (qLead fj) i).2)), (5, .int ((lCh (qLead fj) i).1)), (4, .int (nI (c9))), (3, .int (nI (12 - m9))), (0, .ref (rj)), (1, .int (nI (8))), (2, .ref (qe))]) hx hb dL_prop_172 hl (by decide) rfl (fun ls hl => ?_)
            refine lv_iload hx hb dL_prop_174 (lv_at hl 0 rfl) ?_
            refine lv_if_ge (tgt := 182) hx hb dL_prop_176 (by decide) (fun c_176 => ?_) (fun c_176 => ?_)
            · refine lv_iload hx hb dL_prop_182 (lv_at hl 3 rfl) ?_
              refine lv_iload hx hb dL_prop_184 (lv_at hl 2 rfl) ?_
              refine lv_if_lt (tgt := 200) hx hb dL_prop_186 (by decide) (fun c_186 => ?_) (fun c_186 => ?_)
              · refine lv_iconst (v := 0) hx hb dL_prop_200 (by decide) ?_
                refine lv_iadd hx hb dL_prop_201 ?_
                refine lv_istore (lv' := [(5, .int (((lCh (qLead fj) i).1) + (0))), (8, .int (qLead fj (11 - i))), (7, .int (nI ((n + 1)) - 1)), (6, .int ((lCh (qLead fj) i).2)), (4, .int (nI (c9))), (3, .int (nI (12 - m9))), (0, .ref (rj)), (1, .int (nI (8))), (2, .ref (qe))]) hx hb dL_prop_202 hl (by decide) rfl (fun ls hl => ?_)
                refine lv_iload hx hb dL_prop_204 (lv_at hl 1 rfl) ?_
                refine lv_istore (lv' := [(6, .int (qLead fj (11 - i))), (5, .int (((lCh (qLead fj) i).1) + (0))), (8, .int (qLead fj (11 - i))), (7, .int (nI ((n + 1)) - 1)), (4, .int (nI (c9))), (3, .int (nI (12 - m9))), (0, .ref (rj)), (1, .int (nI (8))), (2, .ref (qe))]) hx hb dL_prop_206 hl (by decide) rfl (fun ls hl => ?_)
                refine lv_iinc (v := nI n - 1) (lv' := [(7, .int (nI n - 1)), (6, .int (qLead fj (11 - i))), (5, .int (((lCh (qLead fj) i).1) + (0))), (8, .int (qLead fj (11 - i))), (4, .int (nI (c9))), (3, .int (nI (12 - m9))), (0, .ref (rj)), (1, .int (nI (8))), (2, .ref (qe))]) hx hb dL_prop_208 hl (k := 3) rfl (by rw [z_addm1, nI_pred]) (by decide) rfl (fun ls hl => ?_)
                refine lv_goto (tgt := 161) hx hb dL_prop_211 (by decide) ?_
                have e1 : lCh (qLead fj) (i + 1) = ((lCh (qLead fj) i).1 + 0, qLead fj (11 - i)) := (if_neg (Int32.not_lt.mpr c_176)).trans (congrArg (fun x => ((lCh (qLead fj) i).1 + x, qLead fj (11 - i))) (if_neg (fun q => absurd c_186 (Int32.not_lt.mpr q.1))))
                exact ih (i + 1) (by omega) ls (by first | (rw [e1]; exact lv_sub hl [0, 1, 2, 4, 5, 6, 7, 8] rfl) | exact lv_sub hl [0, 1, 2, 4, 5, 6, 7, 8] rfl)
              · refine lv_iload hx hb dL_prop_189 (lv_at hl 2 rfl) ?_
                refine lv_iload hx hb dL_prop_191 (lv_at hl 0 rfl) ?_
                refine lv_icmp_eq (tgt := 200) hx hb dL_prop_193 (by decide) (fun c_193 => ?_) (fun c_193 => ?_)
                · refine lv_iconst (v := 0) hx hb dL_prop_200 (by decide) ?_
                  refine lv_iadd hx hb dL_prop_201 ?_
                  refine lv_istore (lv' := [(5, .int (((lCh (qLead fj) i).1) + (0))), (8, .int (qLead fj (11 - i))), (7, .int (nI ((n + 1)) - 1)), (6, .int ((lCh (qLead fj) i).2)), (4, .int (nI (c9))), (3, .int (nI (12 - m9))), (0, .ref (rj)), (1, .int (nI (8))), (2, .ref (qe))]) hx hb dL_prop_202 hl (by decide) rfl (fun ls hl => ?_)
                  refine lv_iload hx hb dL_prop_204 (lv_at hl 1 rfl) ?_
                  refine lv_istore (lv' := [(6, .int (qLead fj (11 - i))), (5, .int (((lCh (qLead fj) i).1) + (0))), (8, .int (qLead fj (11 - i))), (7, .int (nI ((n + 1)) - 1)), (4, .int (nI (c9))), (3, .int (nI (12 - m9))), (0, .ref (rj)), (1, .int (nI (8))), (2, .ref (qe))]) hx hb dL_prop_206 hl (by decide) rfl (fun ls hl => ?_)
                  refine lv_iinc (v := nI n - 1) (lv' := [(7, .int (nI n - 1)), (6, .int (qLead fj (11 - i))), (5, .int (((lCh (qLead fj) i).1) + (0))), (8, .int (qLead fj (11 - i))), (4, .int (nI (c9))), (3, .int (nI (12 - m9))), (0, .ref (rj)), (1, .int (nI (8))), (2, .ref (qe))]) hx hb dL_prop_208 hl (k := 3) rfl (by rw [z_addm1, nI_pred]) (by decide) rfl (fun ls hl => ?_)
                  refine lv_goto (tgt := 161) hx hb dL_prop_211 (by decide) ?_
                  have e1 : lCh (qLead fj) (i + 1) = ((lCh (qLead fj) i).1 + 0, qLead fj (11 - i)) := (if_neg (Int32.not_lt.mpr c_176)).trans (congrArg (fun x => ((lCh (qLead fj) i).1 + x, qLead fj (11 - i))) (if_neg (fun q => q.2 c_193)))
                  exact ih (i + 1) (by omega) ls (by first | (rw [e1]; exact lv_sub hl [0, 1, 2, 4, 5, 6, 7, 8] rfl) | exact lv_sub hl [0, 1, 2, 4, 5, 6, 7, 8] rfl)
                · refine lv_iconst (v := 1) hx hb dL_prop_196 (by decide) ?_
                  refine lv_goto (tgt := 201) hx hb dL_prop_197 (by decide) ?_
                  refine lv_iadd hx hb dL_prop_201 ?_
                  refine lv_istore (lv' := [(5, .int (((lCh (qLead fj) i).1) + (1))), (8, .int (qLead fj (11 - i))), (7, .int (nI ((n + 1)) - 1)), (6, .int ((lCh (qLead fj) i).2)), (4, .int (nI (c9))), (3, .int (nI (12 - m9))), (0, .ref (rj)), (1, .int (nI (8))), (2, .ref (qe))]) hx hb dL_prop_202 hl (by decide) rfl (fun ls hl => ?_)
                  refine lv_iload hx hb dL_prop_204 (lv_at hl 1 rfl) ?_
                  refine lv_istore (lv' := [(6, .int (qLead fj (11 - i))), (5, .int (((lCh (qLead fj) i).1) + (1))), (8, .int (qLead fj (11 - i))), (7, .int (nI ((n + 1)) - 1)), (4, .int (nI (c9))), (3, .int (nI (12 - m9))), (0, .ref (rj)), (1, .int (nI (8))), (2, .ref (qe))]) hx hb dL_prop_206 hl (by decide) rfl (fun ls hl => ?_)
                  refine lv_iinc (v := nI n - 1) (lv' := [(7, .int (nI n - 1)), (6, .int (qLead fj (11 - i))), (5, .int (((lCh (qLead fj) i).1) + (1))), (8, .int (qLead fj (11 - i))), (4, .int (nI (c9))), (3, .int (nI (12 - m9))), (0, .ref (rj)), (1, .int (nI (8))), (2, .ref (qe))]) hx hb dL_prop_208 hl (k := 3) rfl (by rw [z_addm1, nI_pred]) (by decide) rfl (fun ls hl => ?_)
                  refine lv_goto (tgt := 161) hx hb dL_prop_211 (by decide) ?_
                  have e1 : lCh (qLead fj) (i + 1) = ((lCh (qLead fj) i).1 + 1, qLead fj (11 - i)) := (if_neg (Int32.not_lt.mpr c_176)).trans (congrArg (fun x => ((lCh (qLead fj) i).1 + x, qLead fj (11 - i))) (if_pos ⟨Int32.not_lt.mp c_186, c_193⟩))
                  exact ih (i + 1) (by omega) ls (by first | (rw [e1]; exact lv_sub hl [0, 1, 2, 4, 5, 6, 7, 8] rfl) | exact lv_sub hl [0, 1, 2, 4, 5, 6, 7, 8] rfl)
            · refine lv_goto (tgt := 208) hx hb dL_prop_179 (by decide) ?_
              refine lv_iinc (v := nI n - 1) (lv' := [(7, .int (nI n - 1)), (8, .int (qLead fj (11 - i))), (6, .int ((lCh (qLead fj) i).2)), (5, .int ((lCh (qLead fj) i).1)), (4, .int (nI (c9))), (3, .int (nI (12 - m9))), (0, .ref (rj)), (1, .int (nI (8))), (2, .ref (qe))]) hx hb dL_prop_208 hl (k := 1) rfl (by rw [z_addm1, nI_pred]) (by decide) rfl (fun ls hl => ?_)
              refine lv_goto (tgt := 161) hx hb dL_prop_211 (by decide) ?_
              have e1 : lCh (qLead fj) (i + 1) = lCh (qLead fj) i := if_pos (Int32.not_le.mp c_176)
              exact ih (i + 1) (by omega) ls (by first | (rw [e1]; exact lv_sub hl [0, 2, 3, 4, 5, 6, 7, 8] rfl) | exact lv_sub hl [0, 2, 3, 4, 5, 6, 7, 8] rfl)
        exact hL_161 (12) (0) (by omega) ls (lv_sub hl [0, 1, 2, 3, 4, 5, 6, 7] rfl)
      refine lv_iconst (v := 0) hx hb dL_prop_76 (by decide) ?_
      refine lv_istore (lv' := [(4, .int (0)), (3, .int (nI (12 - m9))), (0, .ref (rj)), (1, .int (nI (8))), (2, .ref (qe))]) hx hb dL_prop_77 hl (by decide) rfl (fun ls hl => ?_)
      have hL_79 : ∀ (n : Nat) (i : Nat), (i + n = 12) → (qClr fj (fe 2) = qRun (fun i => decide (qIn fj i ≤ fe 2)) n i) → ∀ (ls : Array Slot), lv_has ls 9 [(4, .int (nI (i))), (3, .int (nI (12 - m9))), (0, .ref (rj)), (1, .int (nI (8))), (2, .ref (qe))] → W p l e ({ frames := 1, cells := 0, slots := 0, locals := 24 } : Room) s m args below meth c s.heap [] 0 0 (MQ below (zRi (qJar fj fe w 8)) args s 0 0 (fun _ => False)) (F0 m 79 ls []) := by
        intro n
        induction n with
        | zero =>
          intro i hi hR2 ls hl
          have e_i : 12 = i := by omega
          subst e_i
          refine lv_iload hx hb dL_prop_79 (lv_at hl 0 rfl) ?_
          refine lv_bipush (v := 12) hx hb dL_prop_81 (by decide) ?_
          refine z_icmp_ge (tgt := 104) hx hb (12) (12) dL_prop_83 (by decide) (by omega) (by omega) rfl rfl (fun c_83 => ?_) (fun c_83 => absurd c_83 (by omega))
          exact hJ_104 (12) (hR2) ls (lv_sub hl [0, 1, 2, 3, 4] rfl)
        | succ n ih =>
          intro i hi hR2 ls hl
          refine lv_iload hx hb dL_prop_79 (lv_at hl 0 rfl) ?_
          refine lv_bipush (v := 12) hx hb dL_prop_81 (by decide) ?_
          refine z_icmp_ge (tgt := 104) hx hb (i) (12) dL_prop_83 (by decide) (by omega) (by omega) rfl rfl (fun c_83 => absurd c_83 (by omega)) (fun c_83 => ?_)
          refine lv_aload_n hx hb dL_prop_86 rfl (lv_at hl 2 rfl) ?_
          refine lv_iload hx hb dL_prop_87 (lv_at hl 0 rfl) ?_
          refine z_ci (z_srun (rest := []) (own := RL) (As := [.ref (rj), .int (nI (i))]) hx hb hml hown hts hl.1 hK hP [0] rfl (metL_all l D ac rj fj i (by omega)) gL_prop_L_all rfl 2 (by decide +kernel) ⟨rfl, rfl, Nat.le_of_ble_eq_true rfl, Nat.le_of_ble_eq_true rfl⟩ rfl rfl (Nat.le_of_ble_eq_true rfl) dL_prop_89 ⟨Nat.zero_le _, Nat.zero_le _⟩) ?_
          refine lv_aload_n hx hb dL_prop_92 rfl (lv_at hl 4 rfl) ?_
          refine lv_iconst (v := 2) hx hb dL_prop_93 (by decide) ?_
          refine z_iald hx hb hK hP 1 rfl (2) (rfl) (by omega) (by decide) dL_prop_94 ?_
          refine lv_icmp_gt (tgt := 104) hx hb dL_prop_95 (by decide) (fun c_95 => ?_) (fun c_95 => ?_)
          · exact hJ_104 (i) (hR2.trans (if_neg (fun q => absurd c_95 (Int32.not_lt.mpr (of_decide_eq_true q))))) ls (lv_sub hl [0, 1, 2, 3, 4] rfl)
          · refine lv_iinc (v := nI ((i) + 1)) (lv' := [(4, .int (nI ((i) + 1))), (3, .int (nI (12 - m9))), (0, .ref (rj)), (1, .int (nI (8))), (2, .ref (qe))]) hx hb dL_prop_98 hl (k := 0) rfl (show nI (i) + Int32.ofInt 1 = _ from nI_add (i) 1) (by decide) rfl (fun ls hl => ?_)
            refine lv_goto (tgt := 79) hx hb dL_prop_101 (by decide) ?_
            exact ih (i + 1) (by omega) (hR2.trans (if_pos (decide_eq_true (Int32.not_lt.mp c_95)))) ls (lv_sub hl [0, 1, 2, 3, 4] rfl)
      exact hL_79 (12) (0) (by omega) (rfl) ls (lv_sub hl [0, 1, 2, 3, 4] rfl)
    refine lv_bipush (v := 12) hx hb dL_prop_50 (by decide) ?_
    refine lv_istore_n (lv' := [(3, .int (12)), (0, .ref (rj)), (1, .int (nI (8))), (2, .ref (qe))]) hx hb dL_prop_52 rfl hl (by decide) rfl (fun ls hl => ?_)
    have hL_53 : ∀ (n : Nat) (kb : Nat), (kb + n = 12) → (qBed fj (fe 1) = qRun (fun i => decide (fe 1 ≤ qIn fj (11 - i))) n kb) → ∀ (ls : Array Slot), lv_has ls 9 [(3, .int (nI (12 - kb))), (0, .ref (rj)), (1, .int (nI (8))), (2, .ref (qe))] → W p l e ({ frames := 1, cells := 0, slots := 0, locals := 24 } : Room) s m args below meth c s.heap [] 0 0 (MQ below (zRi (qJar fj fe w 8)) args s 0 0 (fun _ => False)) (F0 m 53 ls []) := by
      intro n
      induction n with
      | zero =>
        intro kb hkb hR ls hl
        have e_kb : 12 = kb := by omega
        subst e_kb
        refine lv_iload_n hx hb dL_prop_53 rfl (lv_at hl 0 rfl) ?_
        refine lv_if_le (tgt := 76) hx hb dL_prop_54 (by decide) (fun c_54 => ?_) (fun c_54 => absurd c_54 (fun q => q (by decide)))
        exact hJ_76 (12) (hR) ls (lv_sub hl [0, 1, 2, 3] rfl)
      | succ n ih =>
        intro kb hkb hR ls hl
        refine lv_iload_n hx hb dL_prop_53 rfl (lv_at hl 0 rfl) ?_
        refine lv_if_le (tgt := 76) hx hb dL_prop_54 (by decide) (fun c_54 => absurd c_54 (nI_nle (by omega) (by omega))) (fun c_54 => ?_)
        refine lv_aload_n hx hb dL_prop_57 rfl (lv_at hl 1 rfl) ?_
        refine lv_iload_n hx hb dL_prop_58 rfl (lv_at hl 0 rfl) ?_
        refine lv_iconst (v := 1) hx hb dL_prop_59 (by decide) ?_
        refine lv_isub hx hb dL_prop_60 ?_
        refine z_top (y := nI ((12 - kb) - (1))) (pk_sub (a := 12 - kb) (b := 1) (by omega)) ?_
        refine z_top (y := nI (11 - kb)) (congrArg nI (by omega)) ?_
        refine z_ci (z_srun (rest := []) (own := RL) (As := [.ref (rj), .int (nI (11 - kb))]) hx hb hml hown hts hl.1 hK hP [0] rfl (metL_all l D ac rj fj (11 - kb) (by omega)) gL_prop_L_all rfl 2 (by decide +kernel) ⟨rfl, rfl, Nat.le_of_ble_eq_true rfl, Nat.le_of_ble_eq_true rfl⟩ rfl rfl (Nat.le_of_ble_eq_true rfl) dL_prop_61 ⟨Nat.zero_le _, Nat.zero_le _⟩) ?_
        refine lv_aload_n hx hb dL_prop_64 rfl (lv_at hl 3 rfl) ?_
        refine lv_iconst (v := 1) hx hb dL_prop_65 (by decide) ?_
        refine z_iald hx hb hK hP 1 rfl (1) (rfl) (by omega) (by decide) dL_prop_66 ?_
        refine lv_icmp_lt (tgt := 76) hx hb dL_prop_67 (by decide) (fun c_67 => ?_) (fun c_67 => ?_)
        · exact hJ_76 (kb) (hR.trans (if_neg (fun q => absurd c_67 (Int32.not_lt.mpr (of_decide_eq_true q))))) ls (lv_sub hl [0, 1, 2, 3] rfl)
        · refine lv_iinc (v := nI (12 - (kb + 1))) (lv' := [(3, .int (nI (12 - (kb + 1)))), (0, .ref (rj)), (1, .int (nI (8))), (2, .ref (qe))]) hx hb dL_prop_70 hl (k := 0) rfl (by rw [z_addm1, show nI (12 - kb) = nI (11 - kb + 1) from congrArg nI (by omega), nI_pred]; exact congrArg nI (by omega)) (by decide) rfl (fun ls hl => ?_)
          refine lv_goto (tgt := 53) hx hb dL_prop_73 (by decide) ?_
          exact ih (kb + 1) (by omega) (hR.trans (if_pos (decide_eq_true (Int32.not_lt.mp c_67)))) ls (lv_sub hl [0, 1, 2, 3] rfl)
    exact hL_53 (12) (0) (by omega) (rfl) ls (lv_sub hl [0, 1, 2, 3] rfl)

