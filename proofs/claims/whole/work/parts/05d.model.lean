set_option maxRecDepth 100000 in
set_option maxHeartbeats 4000000 in
theorem metX6_keepAside (l : Launch) (D : va_G) (ac : Nat → ClassId) (sz : Nat) (m0 : Nat) (z0 : Nat) (sd0 : Nat) (tx0 : Nat) (as0 : Nat) (rd0 : Nat) (th : Int32) (sv : Nat) (ln : Nat) (stp : Nat) (po : Nat) (tl : Int32) (hh : Int64) (z : Nat → Int32) (sd : Nat → Int32) (tx : Nat → Int32) (az : Nat → Int32) (rd : Nat → Int32)  : Met l yX6_keepAside wsX6_keepAside ({ frames := 0, cells := 0, slots := 0, locals := 0 } : Room) (va_Pc [.ref (m0)] (zS D ac [(m0, .inr (6, [.int (th), .ref (z0), .int (nI (sv)), .ref (sd0), .int (nI (ln)), .ref (tx0), .ref (as0), .int (nI (stp)), .int (nI (po)), .int (tl), .ref (rd0), .long (hh)])), (z0, .inl (ac 0, 162, .inl (z))), (sd0, .inl (ac 0, 972, .inl (sd))), (tx0, .inl (ac 0, 60, .inl (tx))), (as0, .inl (ac 0, 162, .inl (az))), (rd0, .inl (ac 0, 63, .inl (rd)))] sz)) (zQv D ac [(m0, .inr (6, [.int (th), .ref (z0), .int (nI (sv)), .ref (sd0), .int (nI (ln)), .ref (tx0), .ref (as0), .int (nI (stp)), .int (nI (po)), .int (tl), .ref (rd0), .long (hh)])), (z0, .inl (ac 0, 162, .inl (z))), (sd0, .inl (ac 0, 972, .inl (sd))), (tx0, .inl (ac 0, 60, .inl (tx))), (as0, .inl (ac 0, 162, .inl (az))), (rd0, .inl (ac 0, 63, .inl (rd)))] [(m0, .inr (6, [.int (th), .ref (z0), .int (nI (sv)), .ref (sd0), .int (nI (ln)), .ref (tx0), .ref (as0), .int (nI (stp)), .int (nI (po)), .int (tl), .ref (rd0), .long (hh)])), (z0, .inl (ac 0, 162, .inl (z))), (sd0, .inl (ac 0, 972, .inl (sd))), (tx0, .inl (ac 0, 60, .inl (tx))), (as0, .inl (ac 0, 162, .inl (qCp z az 162))), (rd0, .inl (ac 0, 63, .inl (rd)))] sz) 0 0 (va_A [(m0, .inr (6, [.int (th), .ref (z0), .int (nI (sv)), .ref (sd0), .int (nI (ln)), .ref (tx0), .ref (as0), .int (nI (stp)), .int (nI (po)), .int (tl), .ref (rd0), .long (hh)])), (z0, .inl (ac 0, 162, .inl (z))), (sd0, .inl (ac 0, 972, .inl (sd))), (tx0, .inl (ac 0, 60, .inl (tx))), (as0, .inl (ac 0, 162, .inl (az))), (rd0, .inl (ac 0, 63, .inl (rd)))] sz) := by
  refine z_rw (cc := cX6_keepAside) (maxL := 2) (ret := none) (lv := [(0, .ref (m0))]) (by decide) rfl (Nat.le_of_ble_eq_true rfl) rfl ?_
  intro p e s m args below meth c ls A hx hb hr hml hown hts hlocks hl hK hP hsz hAe hA hD hS
  refine lv_iconst (v := 0) hx hb dX6_keepAside_0 (by decide) ?_
  refine lv_istore_n (lv' := [(1, .int (0)), (0, .ref (m0))]) hx hb dX6_keepAside_1 rfl hl (by decide) rfl (fun ls hl => ?_)
  have hL_2 : ∀ (n : Nat) (i : Nat), (i + n = 162) → ∀ (H : Heap) (locs : List Loc), va_P D vwCl [(m0, .inr (6, [.int (th), .ref (z0), .int (nI (sv)), .ref (sd0), .int (nI (ln)), .ref (tx0), .ref (as0), .int (nI (stp)), .int (nI (po)), .int (tl), .ref (rd0), .long (hh)])), (z0, .inl (ac 0, 162, .inl (z))), (sd0, .inl (ac 0, 972, .inl (sd))), (tx0, .inl (ac 0, 60, .inl (tx))), (as0, .inl (ac 0, 162, .inl (qCp z az i))), (rd0, .inl (ac 0, 63, .inl (rd)))] H → va_D A [(m0, .inr (6, [.int (th), .ref (z0), .int (nI (sv)), .ref (sd0), .int (nI (ln)), .ref (tx0), .ref (as0), .int (nI (stp)), .int (nI (po)), .int (tl), .ref (rd0), .long (hh)])), (z0, .inl (ac 0, 162, .inl (z))), (sd0, .inl (ac 0, 972, .inl (sd))), (tx0, .inl (ac 0, 60, .inl (tx))), (as0, .inl (ac 0, 162, .inl (qCp z az i))), (rd0, .inl (ac 0, 63, .inl (rd)))] → va_S A s.heap H locs → ∀ (ls : Array Slot), lv_has ls 2 [(1, .int (nI (i))), (0, .ref (m0))] → W p l e ({ frames := 0, cells := 0, slots := 0, locals := 0 } : Room) s m args below meth c H locs 0 0 (MQ below (zQv D ac [(m0, .inr (6, [.int (th), .ref (z0), .int (nI (sv)), .ref (sd0), .int (nI (ln)), .ref (tx0), .ref (as0), .int (nI (stp)), .int (nI (po)), .int (tl), .ref (rd0), .long (hh)])), (z0, .inl (ac 0, 162, .inl (z))), (sd0, .inl (ac 0, 972, .inl (sd))), (tx0, .inl (ac 0, 60, .inl (tx))), (as0, .inl (ac 0, 162, .inl (az))), (rd0, .inl (ac 0, 63, .inl (rd)))] [(m0, .inr (6, [.int (th), .ref (z0), .int (nI (sv)), .ref (sd0), .int (nI (ln)), .ref (tx0), .ref (as0), .int (nI (stp)), .int (nI (po)), .int (tl), .ref (rd0), .long (hh)])), (z0, .inl (ac 0, 162, .inl (z))), (sd0, .inl (ac 0, 972, .inl (sd))), (tx0, .inl (ac 0, 60, .inl (tx))), (as0, .inl (ac 0, 162, .inl (qCp z az 162))), (rd0, .inl (ac 0, 63, .inl (rd)))] sz) args s 0 0 A) (F0 m 2 ls []) := by
    intro n
    induction n with
    | zero =>
      intro i hi H locs hP hD hS ls hl
      have e_i : 162 = i := by omega
      subst e_i
      refine lv_iload_n hx hb dX6_keepAside_2 rfl (lv_at hl 0 rfl) ?_
      refine lv_sipush (v := 162) hx hb dX6_keepAside_3 (by decide) ?_
      refine z_icmp_ge (tgt := 27) hx hb (162) (162) dX6_keepAside_6 (by decide) (by omega) (by omega) rfl rfl (fun c_6 => ?_) (fun c_6 => absurd c_6 (by omega))
      exact z_vretW hx hb hr hlocks hK hP hD hS hAe dX6_keepAside_27
    | succ n ih =>
      intro i hi H locs hP hD hS ls hl
      refine lv_iload_n hx hb dX6_keepAside_2 rfl (lv_at hl 0 rfl) ?_
      refine lv_sipush (v := 162) hx hb dX6_keepAside_3 (by decide) ?_
      refine z_icmp_ge (tgt := 27) hx hb (i) (162) dX6_keepAside_6 (by decide) (by omega) (by omega) rfl rfl (fun c_6 => absurd c_6 (by omega)) (fun c_6 => ?_)
      refine lv_aload_n hx hb dX6_keepAside_9 rfl (lv_at hl 1 rfl) ?_
      refine va_get (ci := 6) (v := .ref (as0)) (C := RX6) (T := TX6) (N := 12) hx hb hts (by decide +kernel) hown hK hP 0 rfl rfl 6 (by decide) (hts (.fieldLink RX6 19 "SettlingJarsModel" "aside" "[I") (by decide +kernel)) (fun _ h9 => h9) rfl dX6_keepAside_10 ?_
      refine lv_iload_n hx hb dX6_keepAside_13 rfl (lv_at hl 0 rfl) ?_
      refine lv_aload_n hx hb dX6_keepAside_14 rfl (lv_at hl 1 rfl) ?_
      refine va_get (ci := 6) (v := .ref (z0)) (C := RX6) (T := TX6) (N := 12) hx hb hts (by decide +kernel) hown hK hP 0 rfl rfl 1 (by decide) (hts (.fieldLink RX6 7 "SettlingJarsModel" "z" "[I") (by decide +kernel)) (fun _ h9 => h9) rfl dX6_keepAside_15 ?_
      refine lv_iload_n hx hb dX6_keepAside_18 rfl (lv_at hl 0 rfl) ?_
      refine z_iald hx hb hK hP 1 rfl (i) (rfl) (by omega) (by decide) dX6_keepAside_19 ?_
      refine z_iast hx hb hK hP hD hS 4 rfl (i) (rfl) (by omega) (by decide) dX6_keepAside_20 (fun H locs hP hD hS => ?_)
      have hP : va_P D vwCl [(m0, .inr (6, [.int (th), .ref (z0), .int (nI (sv)), .ref (sd0), .int (nI (ln)), .ref (tx0), .ref (as0), .int (nI (stp)), .int (nI (po)), .int (tl), .ref (rd0), .long (hh)])), (z0, .inl (ac 0, 162, .inl (z))), (sd0, .inl (ac 0, 972, .inl (sd))), (tx0, .inl (ac 0, 60, .inl (tx))), (as0, .inl (ac 0, 162, .inl (upd (qCp z az i) (i) (z i)))), (rd0, .inl (ac 0, 63, .inl (rd)))] H := hP
      have hD : va_D A [(m0, .inr (6, [.int (th), .ref (z0), .int (nI (sv)), .ref (sd0), .int (nI (ln)), .ref (tx0), .ref (as0), .int (nI (stp)), .int (nI (po)), .int (tl), .ref (rd0), .long (hh)])), (z0, .inl (ac 0, 162, .inl (z))), (sd0, .inl (ac 0, 972, .inl (sd))), (tx0, .inl (ac 0, 60, .inl (tx))), (as0, .inl (ac 0, 162, .inl (upd (qCp z az i) (i) (z i)))), (rd0, .inl (ac 0, 63, .inl (rd)))] := hD
      refine lv_iinc (v := nI ((i) + 1)) (lv' := [(1, .int (nI ((i) + 1))), (0, .ref (m0))]) hx hb dX6_keepAside_21 hl (k := 0) rfl (show nI (i) + Int32.ofInt 1 = _ from nI_add (i) 1) (by decide) rfl (fun ls hl => ?_)
      refine lv_goto (tgt := 2) hx hb dX6_keepAside_24 (by decide) ?_
      exact ih (i + 1) (by omega) _ _ hP hD hS ls (lv_sub hl [0, 1] rfl)
  exact hL_2 (162) (0) (by omega) _ _ hP hD hS ls (lv_sub hl [0, 1] rfl)

set_option maxRecDepth 100000 in
set_option maxHeartbeats 4000000 in
theorem metX6_takeBack (l : Launch) (D : va_G) (ac : Nat → ClassId) (sz : Nat) (m0 : Nat) (z0 : Nat) (sd0 : Nat) (tx0 : Nat) (as0 : Nat) (rd0 : Nat) (th : Int32) (sv : Nat) (ln : Nat) (stp : Nat) (po : Nat) (tl : Int32) (hh : Int64) (z : Nat → Int32) (sd : Nat → Int32) (tx : Nat → Int32) (rd : Nat → Int32) (yz : Nat → Int32) (ya : Nat → Int32) (hyz : ∀ k, 162 ≤ k → z k = yz k) : Met l yX6_takeBack wsX6_takeBack ({ frames := 0, cells := 0, slots := 0, locals := 0 } : Room) (va_Pc [.ref (m0)] (zS D ac [(m0, .inr (6, [.int (th), .ref (z0), .int (nI (sv)), .ref (sd0), .int (nI (ln)), .ref (tx0), .ref (as0), .int (nI (stp)), .int (nI (po)), .int (tl), .ref (rd0), .long (hh)])), (z0, .inl (ac 0, 162, .inl (z))), (sd0, .inl (ac 0, 972, .inl (sd))), (tx0, .inl (ac 0, 60, .inl (tx))), (as0, .inl (ac 0, 162, .inl (qCp yz ya 162))), (rd0, .inl (ac 0, 63, .inl (rd)))] sz)) (zQv D ac [(m0, .inr (6, [.int (th), .ref (z0), .int (nI (sv)), .ref (sd0), .int (nI (ln)), .ref (tx0), .ref (as0), .int (nI (stp)), .int (nI (po)), .int (tl), .ref (rd0), .long (hh)])), (z0, .inl (ac 0, 162, .inl (z))), (sd0, .inl (ac 0, 972, .inl (sd))), (tx0, .inl (ac 0, 60, .inl (tx))), (as0, .inl (ac 0, 162, .inl (qCp yz ya 162))), (rd0, .inl (ac 0, 63, .inl (rd)))] [(m0, .inr (6, [.int (th), .ref (z0), .int (nI (sv)), .ref (sd0), .int (nI (ln)), .ref (tx0), .ref (as0), .int (nI (stp)), .int (nI (po)), .int (tl), .ref (rd0), .long (hh)])), (z0, .inl (ac 0, 162, .inl (yz))), (sd0, .inl (ac 0, 972, .inl (sd))), (tx0, .inl (ac 0, 60, .inl (tx))), (as0, .inl (ac 0, 162, .inl (qCp yz ya 162))), (rd0, .inl (ac 0, 63, .inl (rd)))] sz) 0 0 (va_A [(m0, .inr (6, [.int (th), .ref (z0), .int (nI (sv)), .ref (sd0), .int (nI (ln)), .ref (tx0), .ref (as0), .int (nI (stp)), .int (nI (po)), .int (tl), .ref (rd0), .long (hh)])), (z0, .inl (ac 0, 162, .inl (z))), (sd0, .inl (ac 0, 972, .inl (sd))), (tx0, .inl (ac 0, 60, .inl (tx))), (as0, .inl (ac 0, 162, .inl (qCp yz ya 162))), (rd0, .inl (ac 0, 63, .inl (rd)))] sz) := by
  refine z_rw (cc := cX6_takeBack) (maxL := 2) (ret := none) (lv := [(0, .ref (m0))]) (by decide) rfl (Nat.le_of_ble_eq_true rfl) rfl ?_
  intro p e s m args below meth c ls A hx hb hr hml hown hts hlocks hl hK hP hsz hAe hA hD hS
  refine lv_iconst (v := 0) hx hb dX6_takeBack_0 (by decide) ?_
  refine lv_istore_n (lv' := [(1, .int (0)), (0, .ref (m0))]) hx hb dX6_takeBack_1 rfl hl (by decide) rfl (fun ls hl => ?_)
  have hL_2 : ∀ (n : Nat) (i : Nat), (i + n = 162) → ∀ (H : Heap) (locs : List Loc), va_P D vwCl [(m0, .inr (6, [.int (th), .ref (z0), .int (nI (sv)), .ref (sd0), .int (nI (ln)), .ref (tx0), .ref (as0), .int (nI (stp)), .int (nI (po)), .int (tl), .ref (rd0), .long (hh)])), (z0, .inl (ac 0, 162, .inl (qCp (qCp yz ya 162) z i))), (sd0, .inl (ac 0, 972, .inl (sd))), (tx0, .inl (ac 0, 60, .inl (tx))), (as0, .inl (ac 0, 162, .inl (qCp yz ya 162))), (rd0, .inl (ac 0, 63, .inl (rd)))] H → va_D A [(m0, .inr (6, [.int (th), .ref (z0), .int (nI (sv)), .ref (sd0), .int (nI (ln)), .ref (tx0), .ref (as0), .int (nI (stp)), .int (nI (po)), .int (tl), .ref (rd0), .long (hh)])), (z0, .inl (ac 0, 162, .inl (qCp (qCp yz ya 162) z i))), (sd0, .inl (ac 0, 972, .inl (sd))), (tx0, .inl (ac 0, 60, .inl (tx))), (as0, .inl (ac 0, 162, .inl (qCp yz ya 162))), (rd0, .inl (ac 0, 63, .inl (rd)))] → va_S A s.heap H locs → ∀ (ls : Array Slot), lv_has ls 2 [(1, .int (nI (i))), (0, .ref (m0))] → W p l e ({ frames := 0, cells := 0, slots := 0, locals := 0 } : Room) s m args below meth c H locs 0 0 (MQ below (zQv D ac [(m0, .inr (6, [.int (th), .ref (z0), .int (nI (sv)), .ref (sd0), .int (nI (ln)), .ref (tx0), .ref (as0), .int (nI (stp)), .int (nI (po)), .int (tl), .ref (rd0), .long (hh)])), (z0, .inl (ac 0, 162, .inl (z))), (sd0, .inl (ac 0, 972, .inl (sd))), (tx0, .inl (ac 0, 60, .inl (tx))), (as0, .inl (ac 0, 162, .inl (qCp yz ya 162))), (rd0, .inl (ac 0, 63, .inl (rd)))] [(m0, .inr (6, [.int (th), .ref (z0), .int (nI (sv)), .ref (sd0), .int (nI (ln)), .ref (tx0), .ref (as0), .int (nI (stp)), .int (nI (po)), .int (tl), .ref (rd0), .long (hh)])), (z0, .inl (ac 0, 162, .inl (yz))), (sd0, .inl (ac 0, 972, .inl (sd))), (tx0, .inl (ac 0, 60, .inl (tx))), (as0, .inl (ac 0, 162, .inl (qCp yz ya 162))), (rd0, .inl (ac 0, 63, .inl (rd)))] sz) args s 0 0 A) (F0 m 2 ls []) := by
    intro n
    induction n with
    | zero =>
      intro i hi H locs hP hD hS ls hl
      have e_i : 162 = i := by omega
      subst e_i
      refine lv_iload_n hx hb dX6_takeBack_2 rfl (lv_at hl 0 rfl) ?_
      refine lv_sipush (v := 162) hx hb dX6_takeBack_3 (by decide) ?_
      refine z_icmp_ge (tgt := 27) hx hb (162) (162) dX6_takeBack_6 (by decide) (by omega) (by omega) rfl rfl (fun c_6 => ?_) (fun c_6 => absurd c_6 (by omega))
      rw [q_back hyz] at hP hD
      exact z_vretW hx hb hr hlocks hK hP hD hS hAe dX6_takeBack_27
    | succ n ih =>
      intro i hi H locs hP hD hS ls hl
      refine lv_iload_n hx hb dX6_takeBack_2 rfl (lv_at hl 0 rfl) ?_
      refine lv_sipush (v := 162) hx hb dX6_takeBack_3 (by decide) ?_
      refine z_icmp_ge (tgt := 27) hx hb (i) (162) dX6_takeBack_6 (by decide) (by omega) (by omega) rfl rfl (fun c_6 => absurd c_6 (by omega)) (fun c_6 => ?_)
      refine lv_aload_n hx hb dX6_takeBack_9 rfl (lv_at hl 1 rfl) ?_
      refine va_get (ci := 6) (v := .ref (z0)) (C := RX6) (T := TX6) (N := 12) hx hb hts (by decide +kernel) hown hK hP 0 rfl rfl 1 (by decide) (hts (.fieldLink RX6 7 "SettlingJarsModel" "z" "[I") (by decide +kernel)) (fun _ h9 => h9) rfl dX6_takeBack_10 ?_
      refine lv_iload_n hx hb dX6_takeBack_13 rfl (lv_at hl 0 rfl) ?_
      refine lv_aload_n hx hb dX6_takeBack_14 rfl (lv_at hl 1 rfl) ?_
      refine va_get (ci := 6) (v := .ref (as0)) (C := RX6) (T := TX6) (N := 12) hx hb hts (by decide +kernel) hown hK hP 0 rfl rfl 6 (by decide) (hts (.fieldLink RX6 19 "SettlingJarsModel" "aside" "[I") (by decide +kernel)) (fun _ h9 => h9) rfl dX6_takeBack_15 ?_
      refine lv_iload_n hx hb dX6_takeBack_18 rfl (lv_at hl 0 rfl) ?_
      refine z_iald hx hb hK hP 4 rfl (i) (rfl) (by omega) (by decide) dX6_takeBack_19 ?_
      refine z_iast hx hb hK hP hD hS 1 rfl (i) (rfl) (by omega) (by decide) dX6_takeBack_20 (fun H locs hP hD hS => ?_)
      have hP : va_P D vwCl [(m0, .inr (6, [.int (th), .ref (z0), .int (nI (sv)), .ref (sd0), .int (nI (ln)), .ref (tx0), .ref (as0), .int (nI (stp)), .int (nI (po)), .int (tl), .ref (rd0), .long (hh)])), (z0, .inl (ac 0, 162, .inl (upd (qCp (qCp yz ya 162) z i) (i) ((qCp yz ya 162) i)))), (sd0, .inl (ac 0, 972, .inl (sd))), (tx0, .inl (ac 0, 60, .inl (tx))), (as0, .inl (ac 0, 162, .inl (qCp yz ya 162))), (rd0, .inl (ac 0, 63, .inl (rd)))] H := hP
      have hD : va_D A [(m0, .inr (6, [.int (th), .ref (z0), .int (nI (sv)), .ref (sd0), .int (nI (ln)), .ref (tx0), .ref (as0), .int (nI (stp)), .int (nI (po)), .int (tl), .ref (rd0), .long (hh)])), (z0, .inl (ac 0, 162, .inl (upd (qCp (qCp yz ya 162) z i) (i) ((qCp yz ya 162) i)))), (sd0, .inl (ac 0, 972, .inl (sd))), (tx0, .inl (ac 0, 60, .inl (tx))), (as0, .inl (ac 0, 162, .inl (qCp yz ya 162))), (rd0, .inl (ac 0, 63, .inl (rd)))] := hD
      refine lv_iinc (v := nI ((i) + 1)) (lv' := [(1, .int (nI ((i) + 1))), (0, .ref (m0))]) hx hb dX6_takeBack_21 hl (k := 0) rfl (show nI (i) + Int32.ofInt 1 = _ from nI_add (i) 1) (by decide) rfl (fun ls hl => ?_)
      refine lv_goto (tgt := 2) hx hb dX6_takeBack_24 (by decide) ?_
      exact ih (i + 1) (by omega) _ _ hP hD hS ls (lv_sub hl [0, 1] rfl)
  exact hL_2 (162) (0) (by omega) _ _ hP hD hS ls (lv_sub hl [0, 1] rfl)

set_option maxRecDepth 100000 in
set_option maxHeartbeats 4000000 in
theorem metX6_fallFrom (l : Launch) (D : va_G) (ac : Nat → ClassId) (sz : Nat) (m0 : Nat) (z0 : Nat) (sd0 : Nat) (tx0 : Nat) (as0 : Nat) (rd0 : Nat) (th : Int32) (sv : Nat) (ln : Nat) (stp : Nat) (po : Nat) (tl : Int32) (hh : Int64) (z : Nat → Int32) (sd : Nat → Int32) (tx : Nat → Int32) (az : Nat → Int32) (rd : Nat → Int32) (j1 : Nat) (s1 : Nat) (hj : j1 < 3) (hs : s1 < 11) (hdiv : ¬ 1000 + qIn (qV z j1) s1 * z 144 / 10 = 0) : Met l yX6_fallFrom wsX6_fallFrom ({ frames := 3, cells := 0, slots := 0, locals := 69 } : Room) (va_Pc [.ref (m0), .int (nI (j1)), .int (nI (s1))] (zS D ac [(m0, .inr (6, [.int (th), .ref (z0), .int (nI (sv)), .ref (sd0), .int (nI (ln)), .ref (tx0), .ref (as0), .int (nI (stp)), .int (nI (po)), .int (tl), .ref (rd0), .long (hh)])), (z0, .inl (ac 0, 162, .inl (z))), (sd0, .inl (ac 0, 972, .inl (sd))), (tx0, .inl (ac 0, 60, .inl (tx))), (as0, .inl (ac 0, 162, .inl (az))), (rd0, .inl (ac 0, 63, .inl (rd)))] sz)) (zQi D ac [(m0, .inr (6, [.int (th), .ref (z0), .int (nI (sv)), .ref (sd0), .int (nI (ln)), .ref (tx0), .ref (as0), .int (nI (stp)), .int (nI (po)), .int (tl), .ref (rd0), .long (hh)])), (z0, .inl (ac 0, 162, .inl (z))), (sd0, .inl (ac 0, 972, .inl (sd))), (tx0, .inl (ac 0, 60, .inl (tx))), (as0, .inl (ac 0, 162, .inl (az))), (rd0, .inl (ac 0, 63, .inl (rd)))] [(m0, .inr (6, [.int (th), .ref (z0), .int (nI (sv)), .ref (sd0), .int (nI (ln)), .ref (tx0), .ref (as0), .int (nI (stp)), .int (nI (po)), .int (tl), .ref (rd0), .long (hh)])), (z0, .inl (ac 0, 162, .inl ((mFall z j1 s1).1))), (sd0, .inl (ac 0, 972, .inl (sd))), (tx0, .inl (ac 0, 60, .inl (tx))), (as0, .inl (ac 0, 162, .inl (az))), (rd0, .inl (ac 0, 63, .inl (rd)))] sz ((mFall z j1 s1).2)) 0 0 (va_A [(m0, .inr (6, [.int (th), .ref (z0), .int (nI (sv)), .ref (sd0), .int (nI (ln)), .ref (tx0), .ref (as0), .int (nI (stp)), .int (nI (po)), .int (tl), .ref (rd0), .long (hh)])), (z0, .inl (ac 0, 162, .inl (z))), (sd0, .inl (ac 0, 972, .inl (sd))), (tx0, .inl (ac 0, 60, .inl (tx))), (as0, .inl (ac 0, 162, .inl (az))), (rd0, .inl (ac 0, 63, .inl (rd)))] sz) := by
  refine z_rw (cc := cX6_fallFrom) (maxL := 8) (ret := (some .int)) (lv := [(0, .ref (m0)), (1, .int (nI (j1))), (2, .int (nI (s1)))]) (by decide) rfl (Nat.le_of_ble_eq_true rfl) rfl ?_
  intro p e s m args below meth c ls A hx hb hr hml hown hts hlocks hl hK hP hsz hAe hA hD hS
  refine lv_aload_n hx hb dX6_fallFrom_0 rfl (lv_at hl 0 rfl) ?_
  refine lv_iload_n hx hb dX6_fallFrom_1 rfl (lv_at hl 1 rfl) ?_
  refine lv_iload_n hx hb dX6_fallFrom_2 rfl (lv_at hl 2 rfl) ?_
  refine z_ci (z_vrun (rest := []) (own := RX6) (As := [.int (nI (j1)), .int (nI (s1))]) hx hb hml hown hts hl.1 hK hP [0, 1] rfl (metX6_factor l D ac m0 z0 sd0 tx0 as0 rd0 th sv ln stp po tl hh z j1 s1 (by omega) (by omega) (hdiv)) gX6_fallFrom_X6_factor rfl 2 (by decide +kernel) ⟨rfl, rfl, Nat.le_of_ble_eq_true rfl, Nat.le_of_ble_eq_true rfl⟩ 0 6 rfl rfl rfl rfl rfl (Nat.le_of_ble_eq_true rfl) dX6_fallFrom_3 ⟨Nat.zero_le _, Nat.zero_le _⟩) ?_
  refine lv_istore_n (lv' := [(3, .int (mFac z j1 s1)), (0, .ref (m0)), (1, .int (nI (j1))), (2, .int (nI (s1)))]) hx hb dX6_fallFrom_6 rfl hl (by decide) rfl (fun ls hl => ?_)
  refine lv_iconst (v := 0) hx hb dX6_fallFrom_7 (by decide) ?_
  refine lv_istore (lv' := [(4, .int (0)), (3, .int (mFac z j1 s1)), (0, .ref (m0)), (1, .int (nI (j1))), (2, .int (nI (s1)))]) hx hb dX6_fallFrom_8 hl (by decide) rfl (fun ls hl => ?_)
  refine lv_iconst (v := 0) hx hb dX6_fallFrom_10 (by decide) ?_
  refine lv_istore (lv' := [(5, .int (0)), (4, .int (0)), (3, .int (mFac z j1 s1)), (0, .ref (m0)), (1, .int (nI (j1))), (2, .int (nI (s1)))]) hx hb dX6_fallFrom_11 hl (by decide) rfl (fun ls hl => ?_)
  have hL_13 : ∀ (n : Nat) (i : Nat), (i + n = 4) → ∀ (H : Heap) (locs : List Loc), va_P D vwCl [(m0, .inr (6, [.int (th), .ref (z0), .int (nI (sv)), .ref (sd0), .int (nI (ln)), .ref (tx0), .ref (as0), .int (nI (stp)), .int (nI (po)), .int (tl), .ref (rd0), .long (hh)])), (z0, .inl (ac 0, 162, .inl ((mFa z j1 s1 (mFac z j1 s1) i).1))), (sd0, .inl (ac 0, 972, .inl (sd))), (tx0, .inl (ac 0, 60, .inl (tx))), (as0, .inl (ac 0, 162, .inl (az))), (rd0, .inl (ac 0, 63, .inl (rd)))] H → va_D A [(m0, .inr (6, [.int (th), .ref (z0), .int (nI (sv)), .ref (sd0), .int (nI (ln)), .ref (tx0), .ref (as0), .int (nI (stp)), .int (nI (po)), .int (tl), .ref (rd0), .long (hh)])), (z0, .inl (ac 0, 162, .inl ((mFa z j1 s1 (mFac z j1 s1) i).1))), (sd0, .inl (ac 0, 972, .inl (sd))), (tx0, .inl (ac 0, 60, .inl (tx))), (as0, .inl (ac 0, 162, .inl (az))), (rd0, .inl (ac 0, 63, .inl (rd)))] → va_S A s.heap H locs → ∀ (ls : Array Slot), lv_has ls 8 [(5, .int (nI (i))), (4, .int ((mFa z j1 s1 (mFac z j1 s1) i).2)), (3, .int (mFac z j1 s1)), (0, .ref (m0)), (1, .int (nI (j1))), (2, .int (nI (s1)))] → W p l e ({ frames := 3, cells := 0, slots := 0, locals := 69 } : Room) s m args below meth c H locs 0 0 (MQ below (zQi D ac [(m0, .inr (6, [.int (th), .ref (z0), .int (nI (sv)), .ref (sd0), .int (nI (ln)), .ref (tx0), .ref (as0), .int (nI (stp)), .int (nI (po)), .int (tl), .ref (rd0), .long (hh)])), (z0, .inl (ac 0, 162, .inl (z))), (sd0, .inl (ac 0, 972, .inl (sd))), (tx0, .inl (ac 0, 60, .inl (tx))), (as0, .inl (ac 0, 162, .inl (az))), (rd0, .inl (ac 0, 63, .inl (rd)))] [(m0, .inr (6, [.int (th), .ref (z0), .int (nI (sv)), .ref (sd0), .int (nI (ln)), .ref (tx0), .ref (as0), .int (nI (stp)), .int (nI (po)), .int (tl), .ref (rd0), .long (hh)])), (z0, .inl (ac 0, 162, .inl ((mFall z j1 s1).1))), (sd0, .inl (ac 0, 972, .inl (sd))), (tx0, .inl (ac 0, 60, .inl (tx))), (as0, .inl (ac 0, 162, .inl (az))), (rd0, .inl (ac 0, 63, .inl (rd)))] sz ((mFall z j1 s1).2)) args s 0 0 A) (F0 m 13 ls []) := by
    intro n
    induction n with
    | zero =>
      intro i hi H locs hP hD hS ls hl
      have e_i : 4 = i := by omega
      subst e_i
      refine lv_iload hx hb dX6_fallFrom_13 (lv_at hl 0 rfl) ?_
      refine lv_iconst (v := 4) hx hb dX6_fallFrom_15 (by decide) ?_
      refine z_icmp_ge (tgt := 105) hx hb (4) (4) dX6_fallFrom_16 (by decide) (by omega) (by omega) rfl rfl (fun c_16 => ?_) (fun c_16 => absurd c_16 (by omega))
      refine lv_iload hx hb dX6_fallFrom_105 (lv_at hl 1 rfl) ?_
      exact z_iretW hx hb hr hlocks hK hP hD hS hAe (rfl) dX6_fallFrom_107
    | succ n ih =>
      intro i hi H locs hP hD hS ls hl
      refine lv_iload hx hb dX6_fallFrom_13 (lv_at hl 0 rfl) ?_
      refine lv_iconst (v := 4) hx hb dX6_fallFrom_15 (by decide) ?_
      refine z_icmp_ge (tgt := 105) hx hb (i) (4) dX6_fallFrom_16 (by decide) (by omega) (by omega) rfl rfl (fun c_16 => absurd c_16 (by omega)) (fun c_16 => ?_)
      refine lv_aload_n hx hb dX6_fallFrom_19 rfl (lv_at hl 3 rfl) ?_
      refine lv_iload_n hx hb dX6_fallFrom_20 rfl (lv_at hl 4 rfl) ?_
      refine lv_iload_n hx hb dX6_fallFrom_21 rfl (lv_at hl 5 rfl) ?_
      refine lv_iload hx hb dX6_fallFrom_22 (lv_at hl 0 rfl) ?_
      refine lv_iload_n hx hb dX6_fallFrom_24 rfl (lv_at hl 2 rfl) ?_
      refine z_ci (z_vrun (rest := []) (own := RX6) (As := [.int (nI (j1)), .int (nI (s1)), .int (nI (i)), .int (mFac z j1 s1)]) hx hb hml hown hts hl.1 hK hP [0, 1] rfl (metX6_wish l D ac m0 z0 sd0 tx0 as0 rd0 th sv ln stp po tl hh ((mFa z j1 s1 (mFac z j1 s1) i).1) j1 s1 i (mFac z j1 s1) (by omega) (by omega) (by omega)) gX6_fallFrom_X6_wish rfl 4 (by decide +kernel) ⟨rfl, rfl, Nat.le_of_ble_eq_true rfl, Nat.le_of_ble_eq_true rfl⟩ 0 6 rfl rfl rfl rfl rfl (Nat.le_of_ble_eq_true rfl) dX6_fallFrom_25 ⟨Nat.zero_le _, Nat.zero_le _⟩) ?_
      refine lv_istore (lv' := [(6, .int (mWish ((mFa z j1 s1 (mFac z j1 s1) i).1) j1 s1 i (mFac z j1 s1))), (5, .int (nI (i))), (4, .int ((mFa z j1 s1 (mFac z j1 s1) i).2)), (3, .int (mFac z j1 s1)), (0, .ref (m0)), (1, .int (nI (j1))), (2, .int (nI (s1)))]) hx hb dX6_fallFrom_28 hl (by decide) rfl (fun ls hl => ?_)
      refine lv_aload_n hx hb dX6_fallFrom_30 rfl (lv_at hl 4 rfl) ?_
      refine lv_iload_n hx hb dX6_fallFrom_31 rfl (lv_at hl 5 rfl) ?_
      refine lv_iload_n hx hb dX6_fallFrom_32 rfl (lv_at hl 6 rfl) ?_
      refine lv_iconst (v := 1) hx hb dX6_fallFrom_33 (by decide) ?_
      refine lv_iadd hx hb dX6_fallFrom_34 ?_
      refine z_top (y := nI ((s1) + (1))) (nI_add (s1) (1)) ?_
      refine z_ci (z_vrun (rest := []) (own := RX6) (As := [.int (nI (j1)), .int (nI ((s1) + (1)))]) hx hb hml hown hts hl.1 hK hP [0, 1] rfl (metX6_room l D ac m0 z0 sd0 tx0 as0 rd0 th sv ln stp po tl hh ((mFa z j1 s1 (mFac z j1 s1) i).1) j1 ((s1) + (1)) (by omega) (by omega)) gX6_fallFrom_X6_room rfl 2 (by decide +kernel) ⟨rfl, rfl, Nat.le_of_ble_eq_true rfl, Nat.le_of_ble_eq_true rfl⟩ 0 6 rfl rfl rfl rfl rfl (Nat.le_of_ble_eq_true rfl) dX6_fallFrom_35 ⟨Nat.zero_le _, Nat.zero_le _⟩) ?_
      refine lv_istore (lv' := [(7, .int (mRoom ((mFa z j1 s1 (mFac z j1 s1) i).1) j1 ((s1) + (1)))), (6, .int (mWish ((mFa z j1 s1 (mFac z j1 s1) i).1) j1 s1 i (mFac z j1 s1))), (5, .int (nI (i))), (4, .int ((mFa z j1 s1 (mFac z j1 s1) i).2)), (3, .int (mFac z j1 s1)), (0, .ref (m0)), (1, .int (nI (j1))), (2, .int (nI (s1)))]) hx hb dX6_fallFrom_38 hl (by decide) rfl (fun ls hl => ?_)
      refine lv_iload hx hb dX6_fallFrom_40 (lv_at hl 1 rfl) ?_
      refine lv_iload hx hb dX6_fallFrom_42 (lv_at hl 0 rfl) ?_
      refine lv_icmp_ge (tgt := 52) hx hb dX6_fallFrom_44 (by decide) (fun c_44 => ?_) (fun c_44 => ?_)
      · refine lv_iload hx hb dX6_fallFrom_52 (lv_at hl 0 rfl) ?_
        refine lv_istore (lv' := [(6, .int (mRoom ((mFa z j1 s1 (mFac z j1 s1) i).1) j1 ((s1) + (1)))), (7, .int (mRoom ((mFa z j1 s1 (mFac z j1 s1) i).1) j1 ((s1) + (1)))), (5, .int (nI (i))), (4, .int ((mFa z j1 s1 (mFac z j1 s1) i).2)), (3, .int (mFac z j1 s1)), (0, .ref (m0)), (1, .int (nI (j1))), (2, .int (nI (s1)))]) hx hb dX6_fallFrom_54 hl (by decide) rfl (fun ls hl => ?_)
        refine lv_aload_n hx hb dX6_fallFrom_56 rfl (lv_at hl 5 rfl) ?_
        refine va_get (ci := 6) (v := .ref (z0)) (C := RX6) (T := TX6) (N := 12) hx hb hts (by decide +kernel) hown hK hP 0 rfl rfl 1 (by decide) (hts (.fieldLink RX6 7 "SettlingJarsModel" "z" "[I") (by decide +kernel)) (fun _ h9 => h9) rfl dX6_fallFrom_57 ?_
        refine lv_iload_n hx hb dX6_fallFrom_60 rfl (lv_at hl 6 rfl) ?_
        refine lv_iload_n hx hb dX6_fallFrom_61 rfl (lv_at hl 7 rfl) ?_
        refine lv_iload hx hb dX6_fallFrom_62 (lv_at hl 2 rfl) ?_
        refine z_ci (z_srun (rest := [.ref (z0)]) (own := RX6) (As := [.int (nI (j1)), .int (nI (s1)), .int (nI (i))]) hx hb hml hown hts hl.1 hK hP [] rfl (metX6_place l D ac j1 s1 i ) gX6_fallFrom_X6_place rfl 3 (by decide +kernel) ⟨rfl, rfl, Nat.le_of_ble_eq_true rfl, Nat.le_of_ble_eq_true rfl⟩ rfl rfl (Nat.le_of_ble_eq_true rfl) dX6_fallFrom_64 ⟨Nat.zero_le _, Nat.zero_le _⟩) ?_
        refine lv_dup2_11 hx hb dX6_fallFrom_67 rfl rfl ?_
        refine z_iald hx hb hK hP 1 rfl (48 * j1 + (4 * (s1) + i)) (congrArg nI (by omega)) (by omega) (by decide) dX6_fallFrom_68 ?_
        refine lv_iload hx hb dX6_fallFrom_69 (lv_at hl 0 rfl) ?_
        refine lv_isub hx hb dX6_fallFrom_71 ?_
        refine z_iast hx hb hK hP hD hS 1 rfl (48 * j1 + (4 * (s1) + i)) (congrArg nI (by omega)) (by omega) (by decide) dX6_fallFrom_72 (fun H locs hP hD hS => ?_)
        have hP : va_P D vwCl [(m0, .inr (6, [.int (th), .ref (z0), .int (nI (sv)), .ref (sd0), .int (nI (ln)), .ref (tx0), .ref (as0), .int (nI (stp)), .int (nI (po)), .int (tl), .ref (rd0), .long (hh)])), (z0, .inl (ac 0, 162, .inl (upd ((mFa z j1 s1 (mFac z j1 s1) i).1) (48 * j1 + (4 * (s1) + i)) ((((mFa z j1 s1 (mFac z j1 s1) i).1) (48 * j1 + (4 * (s1) + i))) - (mRoom ((mFa z j1 s1 (mFac z j1 s1) i).1) j1 ((s1) + (1))))))), (sd0, .inl (ac 0, 972, .inl (sd))), (tx0, .inl (ac 0, 60, .inl (tx))), (as0, .inl (ac 0, 162, .inl (az))), (rd0, .inl (ac 0, 63, .inl (rd)))] H := hP
        have hD : va_D A [(m0, .inr (6, [.int (th), .ref (z0), .int (nI (sv)), .ref (sd0), .int (nI (ln)), .ref (tx0), .ref (as0), .int (nI (stp)), .int (nI (po)), .int (tl), .ref (rd0), .long (hh)])), (z0, .inl (ac 0, 162, .inl (upd ((mFa z j1 s1 (mFac z j1 s1) i).1) (48 * j1 + (4 * (s1) + i)) ((((mFa z j1 s1 (mFac z j1 s1) i).1) (48 * j1 + (4 * (s1) + i))) - (mRoom ((mFa z j1 s1 (mFac z j1 s1) i).1) j1 ((s1) + (1))))))), (sd0, .inl (ac 0, 972, .inl (sd))), (tx0, .inl (ac 0, 60, .inl (tx))), (as0, .inl (ac 0, 162, .inl (az))), (rd0, .inl (ac 0, 63, .inl (rd)))] := hD
        refine lv_aload_n hx hb dX6_fallFrom_73 rfl (lv_at hl 5 rfl) ?_
        refine va_get (ci := 6) (v := .ref (z0)) (C := RX6) (T := TX6) (N := 12) hx hb hts (by decide +kernel) hown hK hP 0 rfl rfl 1 (by decide) (hts (.fieldLink RX6 7 "SettlingJarsModel" "z" "[I") (by decide +kernel)) (fun _ h9 => h9) rfl dX6_fallFrom_74 ?_
        refine lv_iload_n hx hb dX6_fallFrom_77 rfl (lv_at hl 6 rfl) ?_
        refine lv_iload_n hx hb dX6_fallFrom_78 rfl (lv_at hl 7 rfl) ?_
        refine lv_iconst (v := 1) hx hb dX6_fallFrom_79 (by decide) ?_
        refine lv_iadd hx hb dX6_fallFrom_80 ?_
        refine z_top (y := nI ((s1) + (1))) (nI_add (s1) (1)) ?_
        refine lv_iload hx hb dX6_fallFrom_81 (lv_at hl 2 rfl) ?_
        refine z_ci (z_srun (rest := [.ref (z0)]) (own := RX6) (As := [.int (nI (j1)), .int (nI ((s1) + (1))), .int (nI (i))]) hx hb hml hown hts hl.1 hK hP [] rfl (metX6_place l D ac j1 ((s1) + (1)) i ) gX6_fallFrom_X6_place rfl 3 (by decide +kernel) ⟨rfl, rfl, Nat.le_of_ble_eq_true rfl, Nat.le_of_ble_eq_true rfl⟩ rfl rfl (Nat.le_of_ble_eq_true rfl) dX6_fallFrom_83 ⟨Nat.zero_le _, Nat.zero_le _⟩) ?_
        refine lv_dup2_11 hx hb dX6_fallFrom_86 rfl rfl ?_
        refine z_iald hx hb hK hP 1 rfl (48 * j1 + (4 * (s1 + 1) + i)) (congrArg nI (by omega)) (by omega) (by decide) dX6_fallFrom_87 ?_
        refine lv_iload hx hb dX6_fallFrom_88 (lv_at hl 0 rfl) ?_
        refine lv_iadd hx hb dX6_fallFrom_90 ?_
        refine z_iast hx hb hK hP hD hS 1 rfl (48 * j1 + (4 * (s1 + 1) + i)) (congrArg nI (by omega)) (by omega) (by decide) dX6_fallFrom_91 (fun H locs hP hD hS => ?_)
        have hP : va_P D vwCl [(m0, .inr (6, [.int (th), .ref (z0), .int (nI (sv)), .ref (sd0), .int (nI (ln)), .ref (tx0), .ref (as0), .int (nI (stp)), .int (nI (po)), .int (tl), .ref (rd0), .long (hh)])), (z0, .inl (ac 0, 162, .inl (upd (upd ((mFa z j1 s1 (mFac z j1 s1) i).1) (48 * j1 + (4 * (s1) + i)) ((((mFa z j1 s1 (mFac z j1 s1) i).1) (48 * j1 + (4 * (s1) + i))) - (mRoom ((mFa z j1 s1 (mFac z j1 s1) i).1) j1 ((s1) + (1))))) (48 * j1 + (4 * (s1 + 1) + i)) (((upd ((mFa z j1 s1 (mFac z j1 s1) i).1) (48 * j1 + (4 * (s1) + i)) ((((mFa z j1 s1 (mFac z j1 s1) i).1) (48 * j1 + (4 * (s1) + i))) - (mRoom ((mFa z j1 s1 (mFac z j1 s1) i).1) j1 ((s1) + (1))))) (48 * j1 + (4 * (s1 + 1) + i))) + (mRoom ((mFa z j1 s1 (mFac z j1 s1) i).1) j1 ((s1) + (1))))))), (sd0, .inl (ac 0, 972, .inl (sd))), (tx0, .inl (ac 0, 60, .inl (tx))), (as0, .inl (ac 0, 162, .inl (az))), (rd0, .inl (ac 0, 63, .inl (rd)))] H := hP
        have hD : va_D A [(m0, .inr (6, [.int (th), .ref (z0), .int (nI (sv)), .ref (sd0), .int (nI (ln)), .ref (tx0), .ref (as0), .int (nI (stp)), .int (nI (po)), .int (tl), .ref (rd0), .long (hh)])), (z0, .inl (ac 0, 162, .inl (upd (upd ((mFa z j1 s1 (mFac z j1 s1) i).1) (48 * j1 + (4 * (s1) + i)) ((((mFa z j1 s1 (mFac z j1 s1) i).1) (48 * j1 + (4 * (s1) + i))) - (mRoom ((mFa z j1 s1 (mFac z j1 s1) i).1) j1 ((s1) + (1))))) (48 * j1 + (4 * (s1 + 1) + i)) (((upd ((mFa z j1 s1 (mFac z j1 s1) i).1) (48 * j1 + (4 * (s1) + i)) ((((mFa z j1 s1 (mFac z j1 s1) i).1) (48 * j1 + (4 * (s1) + i))) - (mRoom ((mFa z j1 s1 (mFac z j1 s1) i).1) j1 ((s1) + (1))))) (48 * j1 + (4 * (s1 + 1) + i))) + (mRoom ((mFa z j1 s1 (mFac z j1 s1) i).1) j1 ((s1) + (1))))))), (sd0, .inl (ac 0, 972, .inl (sd))), (tx0, .inl (ac 0, 60, .inl (tx))), (as0, .inl (ac 0, 162, .inl (az))), (rd0, .inl (ac 0, 63, .inl (rd)))] := hD
        refine lv_iload hx hb dX6_fallFrom_92 (lv_at hl 3 rfl) ?_
        refine lv_iload hx hb dX6_fallFrom_94 (lv_at hl 0 rfl) ?_
        refine lv_iadd hx hb dX6_fallFrom_96 ?_
        refine lv_istore (lv' := [(4, .int (((mFa z j1 s1 (mFac z j1 s1) i).2) + (mRoom ((mFa z j1 s1 (mFac z j1 s1) i).1) j1 ((s1) + (1))))), (6, .int (mRoom ((mFa z j1 s1 (mFac z j1 s1) i).1) j1 ((s1) + (1)))), (7, .int (mRoom ((mFa z j1 s1 (mFac z j1 s1) i).1) j1 ((s1) + (1)))), (5, .int (nI (i))), (3, .int (mFac z j1 s1)), (0, .ref (m0)), (1, .int (nI (j1))), (2, .int (nI (s1)))]) hx hb dX6_fallFrom_97 hl (by decide) rfl (fun ls hl => ?_)
        refine lv_iinc (v := nI ((i) + 1)) (lv' := [(5, .int (nI ((i) + 1))), (4, .int (((mFa z j1 s1 (mFac z j1 s1) i).2) + (mRoom ((mFa z j1 s1 (mFac z j1 s1) i).1) j1 ((s1) + (1))))), (6, .int (mRoom ((mFa z j1 s1 (mFac z j1 s1) i).1) j1 ((s1) + (1)))), (7, .int (mRoom ((mFa z j1 s1 (mFac z j1 s1) i).1) j1 ((s1) + (1)))), (3, .int (mFac z j1 s1)), (0, .ref (m0)), (1, .int (nI (j1))), (2, .int (nI (s1)))]) hx hb dX6_fallFrom_99 hl (k := 3) rfl (show nI (i) + Int32.ofInt 1 = _ from nI_add (i) 1) (by decide) rfl (fun ls hl => ?_)
        refine lv_goto (tgt := 13) hx hb dX6_fallFrom_102 (by decide) ?_
        have e1 : mFa z j1 s1 (mFac z j1 s1) (i + 1) = mPut j1 s1 i (mFa z j1 s1 (mFac z j1 s1) i) (mRoom (mFa z j1 s1 (mFac z j1 s1) i).1 j1 (s1 + 1)) := congrArg (mPut j1 s1 i (mFa z j1 s1 (mFac z j1 s1) i)) (if_neg (Int32.not_lt.mpr c_44))
        exact ih (i + 1) (by omega) _ _ (by first | (rw [e1]; exact hP) | exact hP) (by first | (rw [e1]; exact hD) | exact hD) hS ls (by first | (rw [e1]; exact lv_sub hl [0, 1, 4, 5, 6, 7] rfl) | exact lv_sub hl [0, 1, 4, 5, 6, 7] rfl)
      · refine lv_iload hx hb dX6_fallFrom_47 (lv_at hl 1 rfl) ?_
        refine lv_goto (tgt := 54) hx hb dX6_fallFrom_49 (by decide) ?_
        refine lv_istore (lv' := [(6, .int (mWish ((mFa z j1 s1 (mFac z j1 s1) i).1) j1 s1 i (mFac z j1 s1))), (7, .int (mRoom ((mFa z j1 s1 (mFac z j1 s1) i).1) j1 ((s1) + (1)))), (5, .int (nI (i))), (4, .int ((mFa z j1 s1 (mFac z j1 s1) i).2)), (3, .int (mFac z j1 s1)), (0, .ref (m0)), (1, .int (nI (j1))), (2, .int (nI (s1)))]) hx hb dX6_fallFrom_54 hl (by decide) rfl (fun ls hl => ?_)
        refine lv_aload_n hx hb dX6_fallFrom_56 rfl (lv_at hl 5 rfl) ?_
        refine va_get (ci := 6) (v := .ref (z0)) (C := RX6) (T := TX6) (N := 12) hx hb hts (by decide +kernel) hown hK hP 0 rfl rfl 1 (by decide) (hts (.fieldLink RX6 7 "SettlingJarsModel" "z" "[I") (by decide +kernel)) (fun _ h9 => h9) rfl dX6_fallFrom_57 ?_
        refine lv_iload_n hx hb dX6_fallFrom_60 rfl (lv_at hl 6 rfl) ?_
        refine lv_iload_n hx hb dX6_fallFrom_61 rfl (lv_at hl 7 rfl) ?_
        refine lv_iload hx hb dX6_fallFrom_62 (lv_at hl 2 rfl) ?_
        refine z_ci (z_srun (rest := [.ref (z0)]) (own := RX6) (As := [.int (nI (j1)), .int (nI (s1)), .int (nI (i))]) hx hb hml hown hts hl.1 hK hP [] rfl (metX6_place l D ac j1 s1 i ) gX6_fallFrom_X6_place rfl 3 (by decide +kernel) ⟨rfl, rfl, Nat.le_of_ble_eq_true rfl, Nat.le_of_ble_eq_true rfl⟩ rfl rfl (Nat.le_of_ble_eq_true rfl) dX6_fallFrom_64 ⟨Nat.zero_le _, Nat.zero_le _⟩) ?_
        refine lv_dup2_11 hx hb dX6_fallFrom_67 rfl rfl ?_
        refine z_iald hx hb hK hP 1 rfl (48 * j1 + (4 * (s1) + i)) (congrArg nI (by omega)) (by omega) (by decide) dX6_fallFrom_68 ?_
        refine lv_iload hx hb dX6_fallFrom_69 (lv_at hl 0 rfl) ?_
        refine lv_isub hx hb dX6_fallFrom_71 ?_
        refine z_iast hx hb hK hP hD hS 1 rfl (48 * j1 + (4 * (s1) + i)) (congrArg nI (by omega)) (by omega) (by decide) dX6_fallFrom_72 (fun H locs hP hD hS => ?_)
        have hP : va_P D vwCl [(m0, .inr (6, [.int (th), .ref (z0), .int (nI (sv)), .ref (sd0), .int (nI (ln)), .ref (tx0), .ref (as0), .int (nI (stp)), .int (nI (po)), .int (tl), .ref (rd0), .long (hh)])), (z0, .inl (ac 0, 162, .inl (upd ((mFa z j1 s1 (mFac z j1 s1) i).1) (48 * j1 + (4 * (s1) + i)) ((((mFa z j1 s1 (mFac z j1 s1) i).1) (48 * j1 + (4 * (s1) + i))) - (mWish ((mFa z j1 s1 (mFac z j1 s1) i).1) j1 s1 i (mFac z j1 s1)))))), (sd0, .inl (ac 0, 972, .inl (sd))), (tx0, .inl (ac 0, 60, .inl (tx))), (as0, .inl (ac 0, 162, .inl (az))), (rd0, .inl (ac 0, 63, .inl (rd)))] H := hP
        have hD : va_D A [(m0, .inr (6, [.int (th), .ref (z0), .int (nI (sv)), .ref (sd0), .int (nI (ln)), .ref (tx0), .ref (as0), .int (nI (stp)), .int (nI (po)), .int (tl), .ref (rd0), .long (hh)])), (z0, .inl (ac 0, 162, .inl (upd ((mFa z j1 s1 (mFac z j1 s1) i).1) (48 * j1 + (4 * (s1) + i)) ((((mFa z j1 s1 (mFac z j1 s1) i).1) (48 * j1 + (4 * (s1) + i))) - (mWish ((mFa z j1 s1 (mFac z j1 s1) i).1) j1 s1 i (mFac z j1 s1)))))), (sd0, .inl (ac 0, 972, .inl (sd))), (tx0, .inl (ac 0, 60, .inl (tx))), (as0, .inl (ac 0, 162, .inl (az))), (rd0, .inl (ac 0, 63, .inl (rd)))] := hD
        refine lv_aload_n hx hb dX6_fallFrom_73 rfl (lv_at hl 5 rfl) ?_
        refine va_get (ci := 6) (v := .ref (z0)) (C := RX6) (T := TX6) (N := 12) hx hb hts (by decide +kernel) hown hK hP 0 rfl rfl 1 (by decide) (hts (.fieldLink RX6 7 "SettlingJarsModel" "z" "[I") (by decide +kernel)) (fun _ h9 => h9) rfl dX6_fallFrom_74 ?_
        refine lv_iload_n hx hb dX6_fallFrom_77 rfl (lv_at hl 6 rfl) ?_
        refine lv_iload_n hx hb dX6_fallFrom_78 rfl (lv_at hl 7 rfl) ?_
        refine lv_iconst (v := 1) hx hb dX6_fallFrom_79 (by decide) ?_
        refine lv_iadd hx hb dX6_fallFrom_80 ?_
        refine z_top (y := nI ((s1) + (1))) (nI_add (s1) (1)) ?_
        refine lv_iload hx hb dX6_fallFrom_81 (lv_at hl 2 rfl) ?_
        refine z_ci (z_srun (rest := [.ref (z0)]) (own := RX6) (As := [.int (nI (j1)), .int (nI ((s1) + (1))), .int (nI (i))]) hx hb hml hown hts hl.1 hK hP [] rfl (metX6_place l D ac j1 ((s1) + (1)) i ) gX6_fallFrom_X6_place rfl 3 (by decide +kernel) ⟨rfl, rfl, Nat.le_of_ble_eq_true rfl, Nat.le_of_ble_eq_true rfl⟩ rfl rfl (Nat.le_of_ble_eq_true rfl) dX6_fallFrom_83 ⟨Nat.zero_le _, Nat.zero_le _⟩) ?_
        refine lv_dup2_11 hx hb dX6_fallFrom_86 rfl rfl ?_
        refine z_iald hx hb hK hP 1 rfl (48 * j1 + (4 * (s1 + 1) + i)) (congrArg nI (by omega)) (by omega) (by decide) dX6_fallFrom_87 ?_
        refine lv_iload hx hb dX6_fallFrom_88 (lv_at hl 0 rfl) ?_
        refine lv_iadd hx hb dX6_fallFrom_90 ?_
        refine z_iast hx hb hK hP hD hS 1 rfl (48 * j1 + (4 * (s1 + 1) + i)) (congrArg nI (by omega)) (by omega) (by decide) dX6_fallFrom_91 (fun H locs hP hD hS => ?_)
        have hP : va_P D vwCl [(m0, .inr (6, [.int (th), .ref (z0), .int (nI (sv)), .ref (sd0), .int (nI (ln)), .ref (tx0), .ref (as0), .int (nI (stp)), .int (nI (po)), .int (tl), .ref (rd0), .long (hh)])), (z0, .inl (ac 0, 162, .inl (upd (upd ((mFa z j1 s1 (mFac z j1 s1) i).1) (48 * j1 + (4 * (s1) + i)) ((((mFa z j1 s1 (mFac z j1 s1) i).1) (48 * j1 + (4 * (s1) + i))) - (mWish ((mFa z j1 s1 (mFac z j1 s1) i).1) j1 s1 i (mFac z j1 s1)))) (48 * j1 + (4 * (s1 + 1) + i)) (((upd ((mFa z j1 s1 (mFac z j1 s1) i).1) (48 * j1 + (4 * (s1) + i)) ((((mFa z j1 s1 (mFac z j1 s1) i).1) (48 * j1 + (4 * (s1) + i))) - (mWish ((mFa z j1 s1 (mFac z j1 s1) i).1) j1 s1 i (mFac z j1 s1)))) (48 * j1 + (4 * (s1 + 1) + i))) + (mWish ((mFa z j1 s1 (mFac z j1 s1) i).1) j1 s1 i (mFac z j1 s1)))))), (sd0, .inl (ac 0, 972, .inl (sd))), (tx0, .inl (ac 0, 60, .inl (tx))), (as0, .inl (ac 0, 162, .inl (az))), (rd0, .inl (ac 0, 63, .inl (rd)))] H := hP
        have hD : va_D A [(m0, .inr (6, [.int (th), .ref (z0), .int (nI (sv)), .ref (sd0), .int (nI (ln)), .ref (tx0), .ref (as0), .int (nI (stp)), .int (nI (po)), .int (tl), .ref (rd0), .long (hh)])), (z0, .inl (ac 0, 162, .inl (upd (upd ((mFa z j1 s1 (mFac z j1 s1) i).1) (48 * j1 + (4 * (s1) + i)) ((((mFa z j1 s1 (mFac z j1 s1) i).1) (48 * j1 + (4 * (s1) + i))) - (mWish ((mFa z j1 s1 (mFac z j1 s1) i).1) j1 s1 i (mFac z j1 s1)))) (48 * j1 + (4 * (s1 + 1) + i)) (((upd ((mFa z j1 s1 (mFac z j1 s1) i).1) (48 * j1 + (4 * (s1) + i)) ((((mFa z j1 s1 (mFac z j1 s1) i).1) (48 * j1 + (4 * (s1) + i))) - (mWish ((mFa z j1 s1 (mFac z j1 s1) i).1) j1 s1 i (mFac z j1 s1)))) (48 * j1 + (4 * (s1 + 1) + i))) + (mWish ((mFa z j1 s1 (mFac z j1 s1) i).1) j1 s1 i (mFac z j1 s1)))))), (sd0, .inl (ac 0, 972, .inl (sd))), (tx0, .inl (ac 0, 60, .inl (tx))), (as0, .inl (ac 0, 162, .inl (az))), (rd0, .inl (ac 0, 63, .inl (rd)))] := hD
        refine lv_iload hx hb dX6_fallFrom_92 (lv_at hl 3 rfl) ?_
        refine lv_iload hx hb dX6_fallFrom_94 (lv_at hl 0 rfl) ?_
        refine lv_iadd hx hb dX6_fallFrom_96 ?_
        refine lv_istore (lv' := [(4, .int (((mFa z j1 s1 (mFac z j1 s1) i).2) + (mWish ((mFa z j1 s1 (mFac z j1 s1) i).1) j1 s1 i (mFac z j1 s1)))), (6, .int (mWish ((mFa z j1 s1 (mFac z j1 s1) i).1) j1 s1 i (mFac z j1 s1))), (7, .int (mRoom ((mFa z j1 s1 (mFac z j1 s1) i).1) j1 ((s1) + (1)))), (5, .int (nI (i))), (3, .int (mFac z j1 s1)), (0, .ref (m0)), (1, .int (nI (j1))), (2, .int (nI (s1)))]) hx hb dX6_fallFrom_97 hl (by decide) rfl (fun ls hl => ?_)
        refine lv_iinc (v := nI ((i) + 1)) (lv' := [(5, .int (nI ((i) + 1))), (4, .int (((mFa z j1 s1 (mFac z j1 s1) i).2) + (mWish ((mFa z j1 s1 (mFac z j1 s1) i).1) j1 s1 i (mFac z j1 s1)))), (6, .int (mWish ((mFa z j1 s1 (mFac z j1 s1) i).1) j1 s1 i (mFac z j1 s1))), (7, .int (mRoom ((mFa z j1 s1 (mFac z j1 s1) i).1) j1 ((s1) + (1)))), (3, .int (mFac z j1 s1)), (0, .ref (m0)), (1, .int (nI (j1))), (2, .int (nI (s1)))]) hx hb dX6_fallFrom_99 hl (k := 3) rfl (show nI (i) + Int32.ofInt 1 = _ from nI_add (i) 1) (by decide) rfl (fun ls hl => ?_)
        refine lv_goto (tgt := 13) hx hb dX6_fallFrom_102 (by decide) ?_
        have e1 : mFa z j1 s1 (mFac z j1 s1) (i + 1) = mPut j1 s1 i (mFa z j1 s1 (mFac z j1 s1) i) (mWish (mFa z j1 s1 (mFac z j1 s1) i).1 j1 s1 i (mFac z j1 s1)) := congrArg (mPut j1 s1 i (mFa z j1 s1 (mFac z j1 s1) i)) (if_pos (Int32.not_le.mp c_44))
        exact ih (i + 1) (by omega) _ _ (by first | (rw [e1]; exact hP) | exact hP) (by first | (rw [e1]; exact hD) | exact hD) hS ls (by first | (rw [e1]; exact lv_sub hl [0, 1, 4, 5, 6, 7] rfl) | exact lv_sub hl [0, 1, 4, 5, 6, 7] rfl)
  exact hL_13 (4) (0) (by omega) _ _ hP hD hS ls (lv_sub hl [0, 1, 2, 3, 4, 5] rfl)

set_option maxRecDepth 100000 in
set_option maxHeartbeats 4000000 in
theorem metX6_stepOf (l : Launch) (D : va_G) (ac : Nat → ClassId) (sz : Nat) (m0 : Nat) (z0 : Nat) (sd0 : Nat) (tx0 : Nat) (as0 : Nat) (rd0 : Nat) (th : Int32) (sv : Nat) (ln : Nat) (stp : Nat) (po : Nat) (tl : Int32) (hh : Int64) (z : Nat → Int32) (sd : Nat → Int32) (tx : Nat → Int32) (az : Nat → Int32) (rd : Nat → Int32) (j1 : Nat) (hj : j1 < 3) (hG : mGood z) : Met l yX6_stepOf wsX6_stepOf ({ frames := 4, cells := 0, slots := 0, locals := 96 } : Room) (va_Pc [.ref (m0), .int (nI (j1))] (zS D ac [(m0, .inr (6, [.int (th), .ref (z0), .int (nI (sv)), .ref (sd0), .int (nI (ln)), .ref (tx0), .ref (as0), .int (nI (stp)), .int (nI (po)), .int (tl), .ref (rd0), .long (hh)])), (z0, .inl (ac 0, 162, .inl (z))), (sd0, .inl (ac 0, 972, .inl (sd))), (tx0, .inl (ac 0, 60, .inl (tx))), (as0, .inl (ac 0, 162, .inl (az))), (rd0, .inl (ac 0, 63, .inl (rd)))] sz)) (zQi D ac [(m0, .inr (6, [.int (th), .ref (z0), .int (nI (sv)), .ref (sd0), .int (nI (ln)), .ref (tx0), .ref (as0), .int (nI (stp)), .int (nI (po)), .int (tl), .ref (rd0), .long (hh)])), (z0, .inl (ac 0, 162, .inl (z))), (sd0, .inl (ac 0, 972, .inl (sd))), (tx0, .inl (ac 0, 60, .inl (tx))), (as0, .inl (ac 0, 162, .inl (az))), (rd0, .inl (ac 0, 63, .inl (rd)))] [(m0, .inr (6, [.int (th), .ref (z0), .int (nI (sv)), .ref (sd0), .int (nI (ln)), .ref (tx0), .ref (as0), .int (nI (stp)), .int (nI (po)), .int (tl), .ref (rd0), .long (hh)])), (z0, .inl (ac 0, 162, .inl ((mStep z j1).1))), (sd0, .inl (ac 0, 972, .inl (sd))), (tx0, .inl (ac 0, 60, .inl (tx))), (as0, .inl (ac 0, 162, .inl (az))), (rd0, .inl (ac 0, 63, .inl (rd)))] sz ((mStep z j1).2)) 0 0 (va_A [(m0, .inr (6, [.int (th), .ref (z0), .int (nI (sv)), .ref (sd0), .int (nI (ln)), .ref (tx0), .ref (as0), .int (nI (stp)), .int (nI (po)), .int (tl), .ref (rd0), .long (hh)])), (z0, .inl (ac 0, 162, .inl (z))), (sd0, .inl (ac 0, 972, .inl (sd))), (tx0, .inl (ac 0, 60, .inl (tx))), (as0, .inl (ac 0, 162, .inl (az))), (rd0, .inl (ac 0, 63, .inl (rd)))] sz) := by
  refine z_rw (cc := cX6_stepOf) (maxL := 4) (ret := (some .int)) (lv := [(0, .ref (m0)), (1, .int (nI (j1)))]) (by decide) rfl (Nat.le_of_ble_eq_true rfl) rfl ?_
  intro p e s m args below meth c ls A hx hb hr hml hown hts hlocks hl hK hP hsz hAe hA hD hS
  refine lv_iconst (v := 0) hx hb dX6_stepOf_0 (by decide) ?_
  refine lv_istore_n (lv' := [(2, .int (0)), (0, .ref (m0)), (1, .int (nI (j1)))]) hx hb dX6_stepOf_1 rfl hl (by decide) rfl (fun ls hl => ?_)
  refine lv_bipush (v := 10) hx hb dX6_stepOf_2 (by decide) ?_
  refine lv_istore_n (lv' := [(3, .int (10)), (2, .int (0)), (0, .ref (m0)), (1, .int (nI (j1)))]) hx hb dX6_stepOf_4 rfl hl (by decide) rfl (fun ls hl => ?_)
  have hL_5 : ∀ (n : Nat) (i : Nat), (i + n = 11) → ∀ (H : Heap) (locs : List Loc), va_P D vwCl [(m0, .inr (6, [.int (th), .ref (z0), .int (nI (sv)), .ref (sd0), .int (nI (ln)), .ref (tx0), .ref (as0), .int (nI (stp)), .int (nI (po)), .int (tl), .ref (rd0), .long (hh)])), (z0, .inl (ac 0, 162, .inl ((mSt z j1 i).1))), (sd0, .inl (ac 0, 972, .inl (sd))), (tx0, .inl (ac 0, 60, .inl (tx))), (as0, .inl (ac 0, 162, .inl (az))), (rd0, .inl (ac 0, 63, .inl (rd)))] H → va_D A [(m0, .inr (6, [.int (th), .ref (z0), .int (nI (sv)), .ref (sd0), .int (nI (ln)), .ref (tx0), .ref (as0), .int (nI (stp)), .int (nI (po)), .int (tl), .ref (rd0), .long (hh)])), (z0, .inl (ac 0, 162, .inl ((mSt z j1 i).1))), (sd0, .inl (ac 0, 972, .inl (sd))), (tx0, .inl (ac 0, 60, .inl (tx))), (as0, .inl (ac 0, 162, .inl (az))), (rd0, .inl (ac 0, 63, .inl (rd)))] → va_S A s.heap H locs → ∀ (ls : Array Slot), lv_has ls 4 [(3, .int (nI n - 1)), (2, .int ((mSt z j1 i).2)), (0, .ref (m0)), (1, .int (nI (j1)))] → W p l e ({ frames := 4, cells := 0, slots := 0, locals := 96 } : Room) s m args below meth c H locs 0 0 (MQ below (zQi D ac [(m0, .inr (6, [.int (th), .ref (z0), .int (nI (sv)), .ref (sd0), .int (nI (ln)), .ref (tx0), .ref (as0), .int (nI (stp)), .int (nI (po)), .int (tl), .ref (rd0), .long (hh)])), (z0, .inl (ac 0, 162, .inl (z))), (sd0, .inl (ac 0, 972, .inl (sd))), (tx0, .inl (ac 0, 60, .inl (tx))), (as0, .inl (ac 0, 162, .inl (az))), (rd0, .inl (ac 0, 63, .inl (rd)))] [(m0, .inr (6, [.int (th), .ref (z0), .int (nI (sv)), .ref (sd0), .int (nI (ln)), .ref (tx0), .ref (as0), .int (nI (stp)), .int (nI (po)), .int (tl), .ref (rd0), .long (hh)])), (z0, .inl (ac 0, 162, .inl ((mStep z j1).1))), (sd0, .inl (ac 0, 972, .inl (sd))), (tx0, .inl (ac 0, 60, .inl (tx))), (as0, .inl (ac 0, 162, .inl (az))), (rd0, .inl (ac 0, 63, .inl (rd)))] sz ((mStep z j1).2)) args s 0 0 A) (F0 m 5 ls []) := by
    intro n
    induction n with
    | zero =>
      intro i hi H locs hP hD hS ls hl
      have e_i : 11 = i := by omega
      subst e_i
      refine lv_iload_n hx hb dX6_stepOf_5 rfl (lv_at hl 0 rfl) ?_
      refine lv_if_lt (tgt := 24) hx hb dX6_stepOf_6 (by decide) (fun c_6 => ?_) (fun c_6 => absurd c_6 (fun q => q (by decide)))
      refine lv_iload_n hx hb dX6_stepOf_24 rfl (lv_at hl 1 rfl) ?_
      exact z_iretW hx hb hr hlocks hK hP hD hS hAe (rfl) dX6_stepOf_25
    | succ n ih =>
      intro i hi H locs hP hD hS ls hl
      refine lv_iload_n hx hb dX6_stepOf_5 rfl (lv_at hl 0 rfl) ?_
      refine z_top (y := nI (10 - i)) (by rw [nI_pred]; exact congrArg nI (by omega)) ?_
      refine lv_if_lt (tgt := 24) hx hb dX6_stepOf_6 (by decide) (fun c_6 => absurd c_6 (nI_pos (by omega))) (fun c_6 => ?_)
      refine lv_iload_n hx hb dX6_stepOf_9 rfl (lv_at hl 1 rfl) ?_
      refine lv_aload_n hx hb dX6_stepOf_10 rfl (lv_at hl 2 rfl) ?_
      refine lv_iload_n hx hb dX6_stepOf_11 rfl (lv_at hl 3 rfl) ?_
      refine lv_iload_n hx hb dX6_stepOf_12 rfl (lv_at hl 0 rfl) ?_
      refine z_top (y := nI (10 - i)) (by rw [nI_pred]; exact congrArg nI (by omega)) ?_
      refine z_ciW [(m0, .inr (6, [.int (th), .ref (z0), .int (nI (sv)), .ref (sd0), .int (nI (ln)), .ref (tx0), .ref (as0), .int (nI (stp)), .int (nI (po)), .int (tl), .ref (rd0), .long (hh)])), (z0, .inl (ac 0, 162, .inl ((mFall ((mSt z j1 i).1) j1 (10 - i)).1))), (sd0, .inl (ac 0, 972, .inl (sd))), (tx0, .inl (ac 0, 60, .inl (tx))), (as0, .inl (ac 0, 162, .inl (az))), (rd0, .inl (ac 0, 63, .inl (rd)))] (z_vrunW (rest := [.int ((mSt z j1 i).2)]) (own := RX6) (As := [.int (nI (j1)), .int (nI (10 - i))]) hx hb hml hown hts hl.1 hK hP hD [0, 1, 2, 3, 4, 5] rfl (by decide) rfl (metX6_fallFrom l D ac _ m0 z0 sd0 tx0 as0 rd0 th sv ln stp po tl hh ((mSt z j1 i).1) sd tx az rd j1 (10 - i) (by omega) (by omega) (m_div (m_good_st hG hj (by omega)) hj (by omega))) gX6_stepOf_X6_fallFrom rfl 2 (by decide +kernel) ⟨rfl, rfl, Nat.le_of_ble_eq_true rfl, Nat.le_of_ble_eq_true rfl⟩ 0 6 rfl rfl rfl rfl rfl (Nat.le_of_ble_eq_true rfl) dX6_stepOf_13 ⟨Nat.zero_le _, Nat.zero_le _⟩) hP hD hS hA [0, 1, 2, 3, 4, 5] [] [0, 1, 2, 3, 4, 5] rfl rfl (by decide) (by decide) (by decide) rfl (fun H locs hP hD hS => ?_)
      refine lv_iadd hx hb dX6_stepOf_16 ?_
      refine lv_istore_n (lv' := [(2, .int (((mSt z j1 i).2) + ((mFall ((mSt z j1 i).1) j1 (10 - i)).2))), (3, .int (nI ((n + 1)) - 1)), (0, .ref (m0)), (1, .int (nI (j1)))]) hx hb dX6_stepOf_17 rfl hl (by decide) rfl (fun ls hl => ?_)
      refine lv_iinc (v := nI n - 1) (lv' := [(3, .int (nI n - 1)), (2, .int (((mSt z j1 i).2) + ((mFall ((mSt z j1 i).1) j1 (10 - i)).2))), (0, .ref (m0)), (1, .int (nI (j1)))]) hx hb dX6_stepOf_18 hl (k := 1) rfl (by rw [z_addm1, nI_pred]) (by decide) rfl (fun ls hl => ?_)
      refine lv_goto (tgt := 5) hx hb dX6_stepOf_21 (by decide) ?_
      exact ih (i + 1) (by omega) _ _ hP hD hS ls (lv_sub hl [0, 1, 2, 3] rfl)
  exact hL_5 (11) (0) (by omega) _ _ hP hD hS ls (lv_sub hl [0, 1, 2, 3] rfl)

