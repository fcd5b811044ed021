set_option maxRecDepth 100000 in
set_option maxHeartbeats 4000000 in
theorem metX0_readInto (l : Launch) (D : va_G) (ac : Nat → ClassId) (sz : Nat) (ch : Nat) (cs : Nat) (tx : Nat → Int32) (ln : Nat) (h0 : Nat) (g0 : Nat) (g : Nat → Int32) (hln : ln ≤ 60) (hoA : rOkAll tx ln 0 0) : Met l yX0_readInto wsX0_readInto ({ frames := 2, cells := 0, slots := 0, locals := 50 } : Room) (va_Pc [.ref (ch), .ref (h0)] (zS D ac [(ch, .inr (0, [.ref (cs), .int (nI (ln))])), (cs, .inl (ac 1, 60, .inl (tx))), (h0, .inr (2, [.ref (g0)])), (g0, .inl (ac 0, 48, .inl (g)))] sz)) (zQv D ac [(ch, .inr (0, [.ref (cs), .int (nI (ln))])), (cs, .inl (ac 1, 60, .inl (tx))), (h0, .inr (2, [.ref (g0)])), (g0, .inl (ac 0, 48, .inl (g)))] [(ch, .inr (0, [.ref (cs), .int (nI (ln))])), (cs, .inl (ac 1, 60, .inl (tx))), (h0, .inr (2, [.ref (g0)])), (g0, .inl (ac 0, 48, .inl (rInto tx ln 0 0 g)))] sz) 0 0 (va_A [(ch, .inr (0, [.ref (cs), .int (nI (ln))])), (cs, .inl (ac 1, 60, .inl (tx))), (h0, .inr (2, [.ref (g0)])), (g0, .inl (ac 0, 48, .inl (g)))] sz) := by
  refine z_rw (cc := cX0_readInto) (maxL := 4) (ret := none) (lv := [(0, .ref (ch)), (1, .ref (h0))]) (by decide) rfl (Nat.le_of_ble_eq_true rfl) rfl ?_
  intro p e s m args below meth c ls A hx hb hr hml hown hts hlocks hl hK hP hsz hAe hA hD hS
  refine lv_iconst (v := 0) hx hb dX0_readInto_0 (by decide) ?_
  refine lv_istore_n (lv' := [(2, .int (0)), (0, .ref (ch)), (1, .ref (h0))]) hx hb dX0_readInto_1 rfl hl (by decide) rfl (fun ls hl => ?_)
  refine lv_iconst (v := 0) hx hb dX0_readInto_2 (by decide) ?_
  refine lv_istore_n (lv' := [(3, .int (0)), (2, .int (0)), (0, .ref (ch)), (1, .ref (h0))]) hx hb dX0_readInto_3 rfl hl (by decide) rfl (fun ls hl => ?_)
  have hL_4 : ∀ (n : Nat) (k9 : Nat) (a : Nat) (G : Nat → Int32), (k9 + n = ln) → (a ≤ k9) → (rInto tx ln 0 0 g = rInto tx n k9 a G) → (rOkAll tx n k9 a) → ∀ (H : Heap) (locs : List Loc), va_P D vwCl [(ch, .inr (0, [.ref (cs), .int (nI (ln))])), (cs, .inl (ac 1, 60, .inl (tx))), (h0, .inr (2, [.ref (g0)])), (g0, .inl (ac 0, 48, .inl (G)))] H → va_D A [(ch, .inr (0, [.ref (cs), .int (nI (ln))])), (cs, .inl (ac 1, 60, .inl (tx))), (h0, .inr (2, [.ref (g0)])), (g0, .inl (ac 0, 48, .inl (G)))] → va_S A s.heap H locs → ∀ (ls : Array Slot), lv_has ls 4 [(3, .int (nI (k9))), (2, .int (nI (a))), (0, .ref (ch)), (1, .ref (h0))] → W p l e ({ frames := 2, cells := 0, slots := 0, locals := 50 } : Room) s m args below meth c H locs 0 0 (MQ below (zQv D ac [(ch, .inr (0, [.ref (cs), .int (nI (ln))])), (cs, .inl (ac 1, 60, .inl (tx))), (h0, .inr (2, [.ref (g0)])), (g0, .inl (ac 0, 48, .inl (g)))] [(ch, .inr (0, [.ref (cs), .int (nI (ln))])), (cs, .inl (ac 1, 60, .inl (tx))), (h0, .inr (2, [.ref (g0)])), (g0, .inl (ac 0, 48, .inl (rInto tx ln 0 0 g)))] sz) args s 0 0 A) (F0 m 4 ls []) := by
    intro n
    induction n with
    | zero =>
      intro k9 a G hk hak hR hO H locs hP hD hS ls hl
      have e_k9 : ln = k9 := by omega
      subst e_k9
      refine lv_iload_n hx hb dX0_readInto_4 rfl (lv_at hl 0 rfl) ?_
      refine lv_aload_n hx hb dX0_readInto_5 rfl (lv_at hl 2 rfl) ?_
      refine va_get (ci := 0) (v := .int (nI (ln))) (C := RX0) (T := TX0) (N := 2) hx hb hts (by decide +kernel) hown hK hP 0 rfl rfl 1 (by decide) (hts (.fieldLink RX0 15 "SettlingJars$Charge" "length" "I") (by decide +kernel)) (fun _ h9 => h9) rfl dX0_readInto_6 ?_
      refine z_icmp_ge (tgt := 40) hx hb (ln) (ln) dX0_readInto_9 (by decide) (by omega) (by omega) rfl rfl (fun c_9 => ?_) (fun c_9 => absurd c_9 (by omega))
      refine lv_aload_n hx hb dX0_readInto_40 rfl (lv_at hl 2 rfl) ?_
      refine lv_iload_n hx hb dX0_readInto_41 rfl (lv_at hl 1 rfl) ?_
      refine lv_aload_n hx hb dX0_readInto_42 rfl (lv_at hl 2 rfl) ?_
      refine va_get (ci := 0) (v := .int (nI (ln))) (C := RX0) (T := TX0) (N := 2) hx hb hts (by decide +kernel) hown hK hP 0 rfl rfl 1 (by decide) (hts (.fieldLink RX0 15 "SettlingJars$Charge" "length" "I") (by decide +kernel)) (fun _ h9 => h9) rfl dX0_readInto_43 ?_
      refine lv_aload_n hx hb dX0_readInto_46 rfl (lv_at hl 3 rfl) ?_
      refine z_cvW [(ch, .inr (0, [.ref (cs), .int (nI (ln))])), (cs, .inl (ac 1, 60, .inl (tx))), (h0, .inr (2, [.ref (g0)])), (g0, .inl (ac 0, 48, .inl (rPut tx a ln G)))] (z_vrunW (rest := []) (own := RX0) (As := [.int (nI (a)), .int (nI (ln)), .ref (h0)]) hx hb hml hown hts hl.1 hK hP hD [0, 1, 2, 3] rfl (by decide) rfl (metX0_readPortion l D ac _ ch cs tx ln h0 g0 G a ln (hak) (by omega) (hO)) gX0_readInto_X0_readPortion rfl 3 (by decide +kernel) ⟨rfl, rfl, Nat.le_of_ble_eq_true rfl, Nat.le_of_ble_eq_true rfl⟩ 0 0 rfl rfl rfl rfl rfl (Nat.le_of_ble_eq_true rfl) dX0_readInto_47 ⟨Nat.zero_le _, Nat.zero_le _⟩) hP hD hS hA [0, 1, 2, 3] [] [0, 1, 2, 3] rfl rfl (by decide) (by decide) (by decide) rfl (fun H locs hP hD hS => ?_)
      have e1 : rInto tx ln 0 0 g = rPut tx a ln G := hR
      have hP : va_P D vwCl [(ch, .inr (0, [.ref (cs), .int (nI (ln))])), (cs, .inl (ac 1, 60, .inl (tx))), (h0, .inr (2, [.ref (g0)])), (g0, .inl (ac 0, 48, .inl (rInto tx ln 0 0 g)))] H := by rw [e1]; exact hP
      have hD : va_D A [(ch, .inr (0, [.ref (cs), .int (nI (ln))])), (cs, .inl (ac 1, 60, .inl (tx))), (h0, .inr (2, [.ref (g0)])), (g0, .inl (ac 0, 48, .inl (rInto tx ln 0 0 g)))] := by rw [e1]; exact hD
      exact z_vretW hx hb hr hlocks hK hP hD hS hAe dX0_readInto_50
    | succ n ih =>
      intro k9 a G hk hak hR hO H locs hP hD hS ls hl
      refine lv_iload_n hx hb dX0_readInto_4 rfl (lv_at hl 0 rfl) ?_
      refine lv_aload_n hx hb dX0_readInto_5 rfl (lv_at hl 2 rfl) ?_
      refine va_get (ci := 0) (v := .int (nI (ln))) (C := RX0) (T := TX0) (N := 2) hx hb hts (by decide +kernel) hown hK hP 0 rfl rfl 1 (by decide) (hts (.fieldLink RX0 15 "SettlingJars$Charge" "length" "I") (by decide +kernel)) (fun _ h9 => h9) rfl dX0_readInto_6 ?_
      refine z_icmp_ge (tgt := 40) hx hb (k9) (ln) dX0_readInto_9 (by decide) (by omega) (by omega) rfl rfl (fun c_9 => absurd c_9 (by omega)) (fun c_9 => ?_)
      refine lv_aload_n hx hb dX0_readInto_12 rfl (lv_at hl 2 rfl) ?_
      refine va_get (ci := 0) (v := .ref (cs)) (C := RX0) (T := TX0) (N := 2) hx hb hts (by decide +kernel) hown hK hP 0 rfl rfl 0 (by decide) (hts (.fieldLink RX0 11 "SettlingJars$Charge" "signs" "[C") (by decide +kernel)) (fun _ h9 => h9) rfl dX0_readInto_13 ?_
      refine lv_iload_n hx hb dX0_readInto_16 rfl (lv_at hl 0 rfl) ?_
      refine z_cald hx hb hK hP 1 rfl (k9) (rfl) (by omega) (by decide) dX0_readInto_17 ?_
      refine lv_bipush (v := 43) hx hb dX0_readInto_18 (by decide) ?_
      refine lv_icmp_ne (tgt := 34) hx hb dX0_readInto_20 (by decide) (fun c_20 => ?_) (fun c_20 => ?_)
      · refine lv_iinc (v := nI ((k9) + 1)) (lv' := [(3, .int (nI ((k9) + 1))), (2, .int (nI (a))), (0, .ref (ch)), (1, .ref (h0))]) hx hb dX0_readInto_34 hl (k := 0) rfl (show nI (k9) + Int32.ofInt 1 = _ from nI_add (k9) 1) (by decide) rfl (fun ls hl => ?_)
        refine lv_goto (tgt := 4) hx hb dX0_readInto_37 (by decide) ?_
        exact ih (k9 + 1) (a) (G) (by omega) (by omega) (hR.trans (if_neg c_20)) (Eq.mp (if_neg c_20) hO) _ _ hP hD hS ls (lv_sub hl [0, 1, 2, 3] rfl)
      · have hO2 : rOk tx a k9 ∧ rOkAll tx n (k9 + 1) (k9 + 1) := Eq.mp (if_pos c_20) hO
        refine lv_aload_n hx hb dX0_readInto_23 rfl (lv_at hl 2 rfl) ?_
        refine lv_iload_n hx hb dX0_readInto_24 rfl (lv_at hl 1 rfl) ?_
        refine lv_iload_n hx hb dX0_readInto_25 rfl (lv_at hl 0 rfl) ?_
        refine lv_aload_n hx hb dX0_readInto_26 rfl (lv_at hl 3 rfl) ?_
        refine z_cvW [(ch, .inr (0, [.ref (cs), .int (nI (ln))])), (cs, .inl (ac 1, 60, .inl (tx))), (h0, .inr (2, [.ref (g0)])), (g0, .inl (ac 0, 48, .inl (rPut tx a k9 G)))] (z_vrunW (rest := []) (own := RX0) (As := [.int (nI (a)), .int (nI (k9)), .ref (h0)]) hx hb hml hown hts hl.1 hK hP hD [0, 1, 2, 3] rfl (by decide) rfl (metX0_readPortion l D ac _ ch cs tx ln h0 g0 G a k9 (by omega) (by omega) (hO2.1)) gX0_readInto_X0_readPortion rfl 3 (by decide +kernel) ⟨rfl, rfl, Nat.le_of_ble_eq_true rfl, Nat.le_of_ble_eq_true rfl⟩ 0 0 rfl rfl rfl rfl rfl (Nat.le_of_ble_eq_true rfl) dX0_readInto_27 ⟨Nat.zero_le _, Nat.zero_le _⟩) hP hD hS hA [0, 1, 2, 3] [] [0, 1, 2, 3] rfl rfl (by decide) (by decide) (by decide) rfl (fun H locs hP hD hS => ?_)
        refine lv_iload_n hx hb dX0_readInto_30 rfl (lv_at hl 0 rfl) ?_
        refine lv_iconst (v := 1) hx hb dX0_readInto_31 (by decide) ?_
        refine lv_iadd hx hb dX0_readInto_32 ?_
        refine z_top (y := nI ((k9) + (1))) (nI_add (k9) (1)) ?_
        refine lv_istore_n (lv' := [(2, .int (nI ((k9) + (1)))), (3, .int (nI (k9))), (0, .ref (ch)), (1, .ref (h0))]) hx hb dX0_readInto_33 rfl hl (by decide) rfl (fun ls hl => ?_)
        refine lv_iinc (v := nI ((k9) + 1)) (lv' := [(3, .int (nI ((k9) + 1))), (2, .int (nI ((k9) + (1)))), (0, .ref (ch)), (1, .ref (h0))]) hx hb dX0_readInto_34 hl (k := 1) rfl (show nI (k9) + Int32.ofInt 1 = _ from nI_add (k9) 1) (by decide) rfl (fun ls hl => ?_)
        refine lv_goto (tgt := 4) hx hb dX0_readInto_37 (by decide) ?_
        exact ih (k9 + 1) (k9 + 1) (rPut tx a k9 G) (by omega) (Nat.le_refl _) (hR.trans (if_pos c_20)) (hO2.2) _ _ hP hD hS ls (lv_sub hl [0, 1, 2, 3] rfl)
  exact hL_4 (ln) (0) (0) (g) (by omega) (Nat.le_refl 0) (rfl) (hoA) _ _ hP hD hS ls (lv_sub hl [0, 1, 2, 3] rfl)

