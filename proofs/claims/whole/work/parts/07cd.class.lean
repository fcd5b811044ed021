set_option maxRecDepth 100000 in
set_option maxHeartbeats 4000000 in
theorem metX0_readPortion (l : Launch) (D : va_G) (ac : Nat → ClassId) (sz : Nat) (ch : Nat) (cs : Nat) (tx : Nat → Int32) (ln : Nat) (h0 : Nat) (g0 : Nat) (g : Nat → Int32) (a : Nat) (b : Nat) (hab : a ≤ b) (hb9 : b ≤ 60) (hok : rOk tx a b) : Met l yX0_readPortion wsX0_readPortion ({ frames := 1, cells := 0, slots := 0, locals := 23 } : Room) (va_Pc [.ref (ch), .int (nI (a)), .int (nI (b)), .ref (h0)] (zS D ac [(ch, .inr (0, [.ref (cs), .int (nI (ln))])), (cs, .inl (ac 1, 60, .inl (tx))), (h0, .inr (2, [.ref (g0)])), (g0, .inl (ac 0, 48, .inl (g)))] sz)) (zQv D ac [(ch, .inr (0, [.ref (cs), .int (nI (ln))])), (cs, .inl (ac 1, 60, .inl (tx))), (h0, .inr (2, [.ref (g0)])), (g0, .inl (ac 0, 48, .inl (g)))] [(ch, .inr (0, [.ref (cs), .int (nI (ln))])), (cs, .inl (ac 1, 60, .inl (tx))), (h0, .inr (2, [.ref (g0)])), (g0, .inl (ac 0, 48, .inl (rPut tx a b g)))] sz) 0 0 (va_A [(ch, .inr (0, [.ref (cs), .int (nI (ln))])), (cs, .inl (ac 1, 60, .inl (tx))), (h0, .inr (2, [.ref (g0)])), (g0, .inl (ac 0, 48, .inl (g)))] sz) := by
  refine z_rw (cc := cX0_readPortion) (maxL := 8) (ret := none) (lv := [(0, .ref (ch)), (1, .int (nI (a))), (2, .int (nI (b))), (3, .ref (h0))]) (by decide) rfl (Nat.le_of_ble_eq_true rfl) rfl ?_
  intro p e s m args below meth c ls A hx hb hr hml hown hts hlocks hl hK hP hsz hAe hA hD hS
  refine lv_iconst (v := 0) hx hb dX0_readPortion_0 (by decide) ?_
  refine lv_istore (lv' := [(4, .int (0)), (0, .ref (ch)), (1, .int (nI (a))), (2, .int (nI (b))), (3, .ref (h0))]) hx hb dX0_readPortion_1 hl (by decide) rfl (fun ls hl => ?_)
  refine lv_iload_n hx hb dX0_readPortion_3 rfl (lv_at hl 2 rfl) ?_
  refine lv_istore (lv' := [(5, .int (nI (a))), (4, .int (0)), (0, .ref (ch)), (1, .int (nI (a))), (2, .int (nI (b))), (3, .ref (h0))]) hx hb dX0_readPortion_4 hl (by decide) rfl (fun ls hl => ?_)
  have hL_6 : ∀ (n : Nat) (k9 : Nat) (y : Int32), (k9 + n = b) → (rNum tx b (b - a) a 0 = rNum tx b n k9 y) → ∀ (H : Heap) (locs : List Loc), va_P D vwCl [(ch, .inr (0, [.ref (cs), .int (nI (ln))])), (cs, .inl (ac 1, 60, .inl (tx))), (h0, .inr (2, [.ref (g0)])), (g0, .inl (ac 0, 48, .inl (g)))] H → va_D A [(ch, .inr (0, [.ref (cs), .int (nI (ln))])), (cs, .inl (ac 1, 60, .inl (tx))), (h0, .inr (2, [.ref (g0)])), (g0, .inl (ac 0, 48, .inl (g)))] → va_S A s.heap H locs → ∀ (ls : Array Slot), lv_has ls 8 [(5, .int (nI (k9))), (4, .int (y)), (0, .ref (ch)), (1, .int (nI (a))), (2, .int (nI (b))), (3, .ref (h0))] → W p l e ({ frames := 1, cells := 0, slots := 0, locals := 23 } : Room) s m args below meth c H locs 0 0 (MQ below (zQv D ac [(ch, .inr (0, [.ref (cs), .int (nI (ln))])), (cs, .inl (ac 1, 60, .inl (tx))), (h0, .inr (2, [.ref (g0)])), (g0, .inl (ac 0, 48, .inl (g)))] [(ch, .inr (0, [.ref (cs), .int (nI (ln))])), (cs, .inl (ac 1, 60, .inl (tx))), (h0, .inr (2, [.ref (g0)])), (g0, .inl (ac 0, 48, .inl (rPut tx a b g)))] sz) args s 0 0 A) (F0 m 6 ls []) := by
    intro n
    induction n with
    | zero =>
      intro k9 y hk hR H locs hP hD hS ls hl
      have e_k9 : b = k9 := by omega
      subst e_k9
      refine lv_iload hx hb dX0_readPortion_6 (lv_at hl 0 rfl) ?_
      refine lv_iload_n hx hb dX0_readPortion_8 rfl (lv_at hl 4 rfl) ?_
      refine z_icmp_ge (tgt := 49) hx hb (b) (b) dX0_readPortion_9 (by decide) (by omega) (by omega) rfl rfl (fun c_9 => ?_) (fun c_9 => absurd c_9 (by omega))
      have e1 : rNum tx b (b - a) a 0 = (b, y) := hR
      have e2 : rEnd tx a b = b := congrArg Prod.fst e1
      have e3 : rMany tx a b = y := congrArg Prod.snd e1
      have e4 : rSl tx a b = rSum tx (b + 2) (b - (b + 2)) := by unfold rSl; rw [e2]
      have e5 : rCls tx a b = 0 := by unfold rCls; rw [e2, if_neg (by omega)]
      refine lv_iload hx hb dX0_readPortion_49 (lv_at hl 0 rfl) ?_
      refine lv_iload_n hx hb dX0_readPortion_51 rfl (lv_at hl 4 rfl) ?_
      refine z_icmp_ge (tgt := 68) hx hb (b) (b) dX0_readPortion_52 (by decide) (by omega) (by omega) rfl rfl (fun c_52 => ?_) (fun c_52 => absurd c_52 (by omega))
      refine lv_iconst (v := 0) hx hb dX0_readPortion_68 (by decide) ?_
      refine lv_istore (lv' := [(6, .int (0)), (5, .int (nI (b))), (4, .int (y)), (0, .ref (ch)), (1, .int (nI (a))), (2, .int (nI (b))), (3, .ref (h0))]) hx hb dX0_readPortion_69 hl (by decide) rfl (fun ls hl => ?_)
      refine lv_iconst (v := 0) hx hb dX0_readPortion_71 (by decide) ?_
      refine lv_istore (lv' := [(7, .int (0)), (6, .int (0)), (5, .int (nI (b))), (4, .int (y)), (0, .ref (ch)), (1, .int (nI (a))), (2, .int (nI (b))), (3, .ref (h0))]) hx hb dX0_readPortion_72 hl (by decide) rfl (fun ls hl => ?_)
      refine lv_iload hx hb dX0_readPortion_74 (lv_at hl 2 rfl) ?_
      refine lv_iconst (v := 2) hx hb dX0_readPortion_76 (by decide) ?_
      refine lv_iadd hx hb dX0_readPortion_77 ?_
      refine z_top (y := nI ((b) + (2))) (nI_add (b) (2)) ?_
      refine lv_istore (lv' := [(5, .int (nI ((b) + (2)))), (7, .int (0)), (6, .int (0)), (4, .int (y)), (0, .ref (ch)), (1, .int (nI (a))), (2, .int (nI (b))), (3, .ref (h0))]) hx hb dX0_readPortion_78 hl (by decide) rfl (fun ls hl => ?_)
      have hL_80 : ∀ (n2 : Nat) (i : Nat), (i + n2 = b - (b + 2)) → ∀ (H : Heap) (locs : List Loc), va_P D vwCl [(ch, .inr (0, [.ref (cs), .int (nI (ln))])), (cs, .inl (ac 1, 60, .inl (tx))), (h0, .inr (2, [.ref (g0)])), (g0, .inl (ac 0, 48, .inl (g)))] H → va_D A [(ch, .inr (0, [.ref (cs), .int (nI (ln))])), (cs, .inl (ac 1, 60, .inl (tx))), (h0, .inr (2, [.ref (g0)])), (g0, .inl (ac 0, 48, .inl (g)))] → va_S A s.heap H locs → ∀ (ls : Array Slot), lv_has ls 8 [(5, .int (nI (b + 2 + i))), (7, .int (rSum tx (b + 2) i)), (6, .int (0)), (4, .int (y)), (0, .ref (ch)), (1, .int (nI (a))), (2, .int (nI (b))), (3, .ref (h0))] → W p l e ({ frames := 1, cells := 0, slots := 0, locals := 23 } : Room) s m args below meth c H locs 0 0 (MQ below (zQv D ac [(ch, .inr (0, [.ref (cs), .int (nI (ln))])), (cs, .inl (ac 1, 60, .inl (tx))), (h0, .inr (2, [.ref (g0)])), (g0, .inl (ac 0, 48, .inl (g)))] [(ch, .inr (0, [.ref (cs), .int (nI (ln))])), (cs, .inl (ac 1, 60, .inl (tx))), (h0, .inr (2, [.ref (g0)])), (g0, .inl (ac 0, 48, .inl (rPut tx a b g)))] sz) args s 0 0 A) (F0 m 80 ls []) := by
        intro n2
        induction n2 with
        | zero =>
          intro i hi H locs hP hD hS ls hl
          have e_i : b - (b + 2) = i := by omega
          subst e_i
          refine lv_iload hx hb dX0_readPortion_80 (lv_at hl 0 rfl) ?_
          refine lv_iload_n hx hb dX0_readPortion_82 rfl (lv_at hl 6 rfl) ?_
          refine z_icmp_ge (tgt := 110) hx hb (b + 2 + (b - (b + 2))) (b) dX0_readPortion_83 (by decide) (by omega) (by omega) rfl rfl (fun c_83 => ?_) (fun c_83 => absurd c_83 (by omega))
          have h81 : (rSl tx a b).toNatClampNeg < 12 := hok.2.1
          have h82 : (rCls tx a b).toNatClampNeg < 4 := hok.2.2.2
          refine lv_iload hx hb dX0_readPortion_110 (lv_at hl 1 rfl) ?_
          refine z_top (y := nI ((rSl tx a b).toNatClampNeg)) (e4.symm.trans hok.1) ?_
          refine lv_bipush (v := 12) hx hb dX0_readPortion_112 (by decide) ?_
          refine z_icmp_ge (tgt := 138) hx hb ((rSl tx a b).toNatClampNeg) (12) dX0_readPortion_114 (by decide) (by omega) (by omega) rfl rfl (fun c_114 => absurd c_114 (by omega)) (fun c_114 => ?_)
          refine lv_iload hx hb dX0_readPortion_117 (lv_at hl 2 rfl) ?_
          refine z_top (y := nI ((rCls tx a b).toNatClampNeg)) (e5.symm.trans hok.2.2.1) ?_
          refine lv_if_lt (tgt := 138) hx hb dX0_readPortion_119 (by decide) (fun c_119 => absurd c_119 (nI_pos (by omega))) (fun c_119 => ?_)
          refine lv_iload hx hb dX0_readPortion_122 (lv_at hl 2 rfl) ?_
          refine z_top (y := nI ((rCls tx a b).toNatClampNeg)) (e5.symm.trans hok.2.2.1) ?_
          refine lv_iconst (v := 4) hx hb dX0_readPortion_124 (by decide) ?_
          refine z_icmp_ge (tgt := 138) hx hb ((rCls tx a b).toNatClampNeg) (4) dX0_readPortion_125 (by decide) (by omega) (by omega) rfl rfl (fun c_125 => absurd c_125 (by omega)) (fun c_125 => ?_)
          refine lv_aload_n hx hb dX0_readPortion_128 rfl (lv_at hl 7 rfl) ?_
          refine lv_iload hx hb dX0_readPortion_129 (lv_at hl 1 rfl) ?_
          refine z_top (y := nI ((rSl tx a b).toNatClampNeg)) (e4.symm.trans hok.1) ?_
          refine lv_iload hx hb dX0_readPortion_131 (lv_at hl 2 rfl) ?_
          refine z_top (y := nI ((rCls tx a b).toNatClampNeg)) (e5.symm.trans hok.2.2.1) ?_
          refine lv_iload hx hb dX0_readPortion_133 (lv_at hl 3 rfl) ?_
          refine z_cvW [(ch, .inr (0, [.ref (cs), .int (nI (ln))])), (cs, .inl (ac 1, 60, .inl (tx))), (h0, .inr (2, [.ref (g0)])), (g0, .inl (ac 0, 48, .inl (qPut g ((rSl tx a b).toNatClampNeg) ((rCls tx a b).toNatClampNeg) y)))] (z_vrunW (rest := []) (own := RX0) (As := [.int (nI ((rSl tx a b).toNatClampNeg)), .int (nI ((rCls tx a b).toNatClampNeg)), .int (y)]) hx hb hml hown hts hl.1 hK hP hD [2, 3] rfl (by decide) rfl (metX2_put l D ac _ h0 g0 g ((rSl tx a b).toNatClampNeg) ((rCls tx a b).toNatClampNeg) y (hok.2.1) (hok.2.2.2)) gX0_readPortion_X2_put rfl 3 (by decide +kernel) ⟨rfl, rfl, Nat.le_of_ble_eq_true rfl, Nat.le_of_ble_eq_true rfl⟩ 2 2 rfl rfl rfl rfl rfl (Nat.le_of_ble_eq_true rfl) dX0_readPortion_135 ⟨Nat.zero_le _, Nat.zero_le _⟩) hP hD hS hA [2, 3] [0, 1] [0, 1, 2, 3] rfl rfl (by decide) (by decide) (by decide) rfl (fun H locs hP hD hS => ?_)
          have e6 : rPut tx a b g = qPut g (rSl tx a b).toNatClampNeg (rCls tx a b).toNatClampNeg y := congrArg (qPut g (rSl tx a b).toNatClampNeg (rCls tx a b).toNatClampNeg) e3
          have hP : va_P D vwCl [(ch, .inr (0, [.ref (cs), .int (nI (ln))])), (cs, .inl (ac 1, 60, .inl (tx))), (h0, .inr (2, [.ref (g0)])), (g0, .inl (ac 0, 48, .inl (rPut tx a b g)))] H := by rw [e6]; exact hP
          have hD : va_D A [(ch, .inr (0, [.ref (cs), .int (nI (ln))])), (cs, .inl (ac 1, 60, .inl (tx))), (h0, .inr (2, [.ref (g0)])), (g0, .inl (ac 0, 48, .inl (rPut tx a b g)))] := by rw [e6]; exact hD
          exact z_vretW hx hb hr hlocks hK hP hD hS hAe dX0_readPortion_138
        | succ n2 ih =>
          intro i hi H locs hP hD hS ls hl
          refine lv_iload hx hb dX0_readPortion_80 (lv_at hl 0 rfl) ?_
          refine lv_iload_n hx hb dX0_readPortion_82 rfl (lv_at hl 6 rfl) ?_
          refine z_icmp_ge (tgt := 110) hx hb (b + 2 + i) (b) dX0_readPortion_83 (by decide) (by omega) (by omega) rfl rfl (fun c_83 => absurd c_83 (by omega)) (fun c_83 => ?_)
          refine lv_iload hx hb dX0_readPortion_86 (lv_at hl 1 rfl) ?_
          refine lv_bipush (v := 10) hx hb dX0_readPortion_88 (by decide) ?_
          refine lv_imul hx hb dX0_readPortion_90 ?_
          refine lv_aload_n hx hb dX0_readPortion_91 rfl (lv_at hl 4 rfl) ?_
          refine va_get (ci := 0) (v := .ref (cs)) (C := RX0) (T := TX0) (N := 2) hx hb hts (by decide +kernel) hown hK hP 0 rfl rfl 0 (by decide) (hts (.fieldLink RX0 11 "SettlingJars$Charge" "signs" "[C") (by decide +kernel)) (fun _ h9 => h9) rfl dX0_readPortion_92 ?_
          refine lv_iload hx hb dX0_readPortion_95 (lv_at hl 0 rfl) ?_
          refine z_cald hx hb hK hP 1 rfl (b + 2 + i) (rfl) (by omega) (by decide) dX0_readPortion_97 ?_
          refine lv_bipush (v := 48) hx hb dX0_readPortion_98 (by decide) ?_
          refine lv_isub hx hb dX0_readPortion_100 ?_
          refine lv_iadd hx hb dX0_readPortion_101 ?_
          refine lv_istore (lv' := [(7, .int (((rSum tx (b + 2) i) * (10)) + ((tx (b + 2 + i)) - (48)))), (5, .int (nI (b + 2 + i))), (6, .int (0)), (4, .int (y)), (0, .ref (ch)), (1, .int (nI (a))), (2, .int (nI (b))), (3, .ref (h0))]) hx hb dX0_readPortion_102 hl (by decide) rfl (fun ls hl => ?_)
          refine lv_iinc (v := nI ((b + 2 + i) + 1)) (lv' := [(5, .int (nI ((b + 2 + i) + 1))), (7, .int (((rSum tx (b + 2) i) * (10)) + ((tx (b + 2 + i)) - (48)))), (6, .int (0)), (4, .int (y)), (0, .ref (ch)), (1, .int (nI (a))), (2, .int (nI (b))), (3, .ref (h0))]) hx hb dX0_readPortion_104 hl (k := 1) rfl (show nI (b + 2 + i) + Int32.ofInt 1 = _ from nI_add (b + 2 + i) 1) (by decide) rfl (fun ls hl => ?_)
          refine lv_goto (tgt := 80) hx hb dX0_readPortion_107 (by decide) ?_
          exact ih (i + 1) (by omega) _ _ hP hD hS ls (lv_sub hl [0, 1, 2, 3, 4, 5, 6, 7] rfl)
      exact hL_80 (b - (b + 2)) (0) (by omega) _ _ hP hD hS ls (lv_sub hl [0, 1, 2, 3, 4, 5, 6, 7] rfl)
    | succ n ih =>
      intro k9 y hk hR H locs hP hD hS ls hl
      refine lv_iload hx hb dX0_readPortion_6 (lv_at hl 0 rfl) ?_
      refine lv_iload_n hx hb dX0_readPortion_8 rfl (lv_at hl 4 rfl) ?_
      refine z_icmp_ge (tgt := 49) hx hb (k9) (b) dX0_readPortion_9 (by decide) (by omega) (by omega) rfl rfl (fun c_9 => absurd c_9 (by omega)) (fun c_9 => ?_)
      refine lv_aload_n hx hb dX0_readPortion_12 rfl (lv_at hl 2 rfl) ?_
      refine va_get (ci := 0) (v := .ref (cs)) (C := RX0) (T := TX0) (N := 2) hx hb hts (by decide +kernel) hown hK hP 0 rfl rfl 0 (by decide) (hts (.fieldLink RX0 11 "SettlingJars$Charge" "signs" "[C") (by decide +kernel)) (fun _ h9 => h9) rfl dX0_readPortion_13 ?_
      refine lv_iload hx hb dX0_readPortion_16 (lv_at hl 0 rfl) ?_
      refine z_cald hx hb hK hP 1 rfl (k9) (rfl) (by omega) (by decide) dX0_readPortion_18 ?_
      refine z_ci (z_srun (rest := []) (own := RX0) (As := [.int (tx k9)]) hx hb hml hown hts hl.1 hK hP [] rfl (metX0_isDigit l D ac (tx k9) ) gX0_readPortion_X0_isDigit rfl 1 (by decide +kernel) ⟨rfl, rfl, Nat.le_of_ble_eq_true rfl, Nat.le_of_ble_eq_true rfl⟩ rfl rfl (Nat.le_of_ble_eq_true rfl) dX0_readPortion_19 ⟨Nat.zero_le _, Nat.zero_le _⟩) ?_
      refine z_if_eq (C := 48 ≤ (tx k9) ∧ (tx k9) ≤ 57) (tgt := 49) hx hb dX0_readPortion_22 (by decide) (fun c_22 => ?_) (fun c_22 => ?_)
      · have e1 : rNum tx b (b - a) a 0 = (k9, y) := hR.trans (if_neg c_22)
        have e2 : rEnd tx a b = k9 := congrArg Prod.fst e1
        have e3 : rMany tx a b = y := congrArg Prod.snd e1
        have e4 : rSl tx a b = rSum tx (k9 + 2) (b - (k9 + 2)) := by unfold rSl; rw [e2]
        have e5 : rCls tx a b = tx k9 - 97 := by unfold rCls; rw [e2, if_pos (by omega)]
        refine lv_iload hx hb dX0_readPortion_49 (lv_at hl 0 rfl) ?_
        refine lv_iload_n hx hb dX0_readPortion_51 rfl (lv_at hl 4 rfl) ?_
        refine z_icmp_ge (tgt := 68) hx hb (k9) (b) dX0_readPortion_52 (by decide) (by omega) (by omega) rfl rfl (fun c_52 => absurd c_52 (by omega)) (fun c_52 => ?_)
        refine lv_aload_n hx hb dX0_readPortion_55 rfl (lv_at hl 2 rfl) ?_
        refine va_get (ci := 0) (v := .ref (cs)) (C := RX0) (T := TX0) (N := 2) hx hb hts (by decide +kernel) hown hK hP 0 rfl rfl 0 (by decide) (hts (.fieldLink RX0 11 "SettlingJars$Charge" "signs" "[C") (by decide +kernel)) (fun _ h9 => h9) rfl dX0_readPortion_56 ?_
        refine lv_iload hx hb dX0_readPortion_59 (lv_at hl 0 rfl) ?_
        refine z_cald hx hb hK hP 1 rfl (k9) (rfl) (by omega) (by decide) dX0_readPortion_61 ?_
        refine lv_bipush (v := 97) hx hb dX0_readPortion_62 (by decide) ?_
        refine lv_isub hx hb dX0_readPortion_64 ?_
        refine lv_goto (tgt := 69) hx hb dX0_readPortion_65 (by decide) ?_
        refine lv_istore (lv' := [(6, .int ((tx k9) - (97))), (5, .int (nI (k9))), (4, .int (y)), (0, .ref (ch)), (1, .int (nI (a))), (2, .int (nI (b))), (3, .ref (h0))]) hx hb dX0_readPortion_69 hl (by decide) rfl (fun ls hl => ?_)
        refine lv_iconst (v := 0) hx hb dX0_readPortion_71 (by decide) ?_
        refine lv_istore (lv' := [(7, .int (0)), (6, .int ((tx k9) - (97))), (5, .int (nI (k9))), (4, .int (y)), (0, .ref (ch)), (1, .int (nI (a))), (2, .int (nI (b))), (3, .ref (h0))]) hx hb dX0_readPortion_72 hl (by decide) rfl (fun ls hl => ?_)
        refine lv_iload hx hb dX0_readPortion_74 (lv_at hl 2 rfl) ?_
        refine lv_iconst (v := 2) hx hb dX0_readPortion_76 (by decide) ?_
        refine lv_iadd hx hb dX0_readPortion_77 ?_
        refine z_top (y := nI ((k9) + (2))) (nI_add (k9) (2)) ?_
        refine lv_istore (lv' := [(5, .int (nI ((k9) + (2)))), (7, .int (0)), (6, .int ((tx k9) - (97))), (4, .int (y)), (0, .ref (ch)), (1, .int (nI (a))), (2, .int (nI (b))), (3, .ref (h0))]) hx hb dX0_readPortion_78 hl (by decide) rfl (fun ls hl => ?_)
        have hL_80 : ∀ (n2 : Nat) (i : Nat), (i + n2 = b - (k9 + 2)) → ∀ (H : Heap) (locs : List Loc), va_P D vwCl [(ch, .inr (0, [.ref (cs), .int (nI (ln))])), (cs, .inl (ac 1, 60, .inl (tx))), (h0, .inr (2, [.ref (g0)])), (g0, .inl (ac 0, 48, .inl (g)))] H → va_D A [(ch, .inr (0, [.ref (cs), .int (nI (ln))])), (cs, .inl (ac 1, 60, .inl (tx))), (h0, .inr (2, [.ref (g0)])), (g0, .inl (ac 0, 48, .inl (g)))] → va_S A s.heap H locs → ∀ (ls : Array Slot), lv_has ls 8 [(5, .int (nI (k9 + 2 + i))), (7, .int (rSum tx (k9 + 2) i)), (6, .int ((tx k9) - (97))), (4, .int (y)), (0, .ref (ch)), (1, .int (nI (a))), (2, .int (nI (b))), (3, .ref (h0))] → W p l e ({ frames := 1, cells := 0, slots := 0, locals := 23 } : Room) s m args below meth c H locs 0 0 (MQ below (zQv D ac [(ch, .inr (0, [.ref (cs), .int (nI (ln))])), (cs, .inl (ac 1, 60, .inl (tx))), (h0, .inr (2, [.ref (g0)])), (g0, .inl (ac 0, 48, .inl (g)))] [(ch, .inr (0, [.ref (cs), .int (nI (ln))])), (cs, .inl (ac 1, 60, .inl (tx))), (h0, .inr (2, [.ref (g0)])), (g0, .inl (ac 0, 48, .inl (rPut tx a b g)))] sz) args s 0 0 A) (F0 m 80 ls []) := by
          intro n2
          induction n2 with
          | zero =>
            intro i hi H locs hP hD hS ls hl
            have e_i : b - (k9 + 2) = i := by omega
            subst e_i
            refine lv_iload hx hb dX0_readPortion_80 (lv_at hl 0 rfl) ?_
            refine lv_iload_n hx hb dX0_readPortion_82 rfl (lv_at hl 6 rfl) ?_
            refine z_icmp_ge (tgt := 110) hx hb (k9 + 2 + (b - (k9 + 2))) (b) dX0_readPortion_83 (by decide) (by omega) (by omega) rfl rfl (fun c_83 => ?_) (fun c_83 => absurd c_83 (by omega))
            have h81 : (rSl tx a b).toNatClampNeg < 12 := hok.2.1
            have h82 : (rCls tx a b).toNatClampNeg < 4 := hok.2.2.2
            refine lv_iload hx hb dX0_readPortion_110 (lv_at hl 1 rfl) ?_
            refine z_top (y := nI ((rSl tx a b).toNatClampNeg)) (e4.symm.trans hok.1) ?_
            refine lv_bipush (v := 12) hx hb dX0_readPortion_112 (by decide) ?_
            refine z_icmp_ge (tgt := 138) hx hb ((rSl tx a b).toNatClampNeg) (12) dX0_readPortion_114 (by decide) (by omega) (by omega) rfl rfl (fun c_114 => absurd c_114 (by omega)) (fun c_114 => ?_)
            refine lv_iload hx hb dX0_readPortion_117 (lv_at hl 2 rfl) ?_
            refine z_top (y := nI ((rCls tx a b).toNatClampNeg)) (e5.symm.trans hok.2.2.1) ?_
            refine lv_if_lt (tgt := 138) hx hb dX0_readPortion_119 (by decide) (fun c_119 => absurd c_119 (nI_pos (by omega))) (fun c_119 => ?_)
            refine lv_iload hx hb dX0_readPortion_122 (lv_at hl 2 rfl) ?_
            refine z_top (y := nI ((rCls tx a b).toNatClampNeg)) (e5.symm.trans hok.2.2.1) ?_
            refine lv_iconst (v := 4) hx hb dX0_readPortion_124 (by decide) ?_
            refine z_icmp_ge (tgt := 138) hx hb ((rCls tx a b).toNatClampNeg) (4) dX0_readPortion_125 (by decide) (by omega) (by omega) rfl rfl (fun c_125 => absurd c_125 (by omega)) (fun c_125 => ?_)
            refine lv_aload_n hx hb dX0_readPortion_128 rfl (lv_at hl 7 rfl) ?_
            refine lv_iload hx hb dX0_readPortion_129 (lv_at hl 1 rfl) ?_
            refine z_top (y := nI ((rSl tx a b).toNatClampNeg)) (e4.symm.trans hok.1) ?_
            refine lv_iload hx hb dX0_readPortion_131 (lv_at hl 2 rfl) ?_
            refine z_top (y := nI ((rCls tx a b).toNatClampNeg)) (e5.symm.trans hok.2.2.1) ?_
            refine lv_iload hx hb dX0_readPortion_133 (lv_at hl 3 rfl) ?_
            refine z_cvW [(ch, .inr (0, [.ref (cs), .int (nI (ln))])), (cs, .inl (ac 1, 60, .inl (tx))), (h0, .inr (2, [.ref (g0)])), (g0, .inl (ac 0, 48, .inl (qPut g ((rSl tx a b).toNatClampNeg) ((rCls tx a b).toNatClampNeg) y)))] (z_vrunW (rest := []) (own := RX0) (As := [.int (nI ((rSl tx a b).toNatClampNeg)), .int (nI ((rCls tx a b).toNatClampNeg)), .int (y)]) hx hb hml hown hts hl.1 hK hP hD [2, 3] rfl (by decide) rfl (metX2_put l D ac _ h0 g0 g ((rSl tx a b).toNatClampNeg) ((rCls tx a b).toNatClampNeg) y (hok.2.1) (hok.2.2.2)) gX0_readPortion_X2_put rfl 3 (by decide +kernel) ⟨rfl, rfl, Nat.le_of_ble_eq_true rfl, Nat.le_of_ble_eq_true rfl⟩ 2 2 rfl rfl rfl rfl rfl (Nat.le_of_ble_eq_true rfl) dX0_readPortion_135 ⟨Nat.zero_le _, Nat.zero_le _⟩) hP hD hS hA [2, 3] [0, 1] [0, 1, 2, 3] rfl rfl (by decide) (by decide) (by decide) rfl (fun H locs hP hD hS => ?_)
            have e6 : rPut tx a b g = qPut g (rSl tx a b).toNatClampNeg (rCls tx a b).toNatClampNeg y := congrArg (qPut g (rSl tx a b).toNatClampNeg (rCls tx a b).toNatClampNeg) e3
            have hP : va_P D vwCl [(ch, .inr (0, [.ref (cs), .int (nI (ln))])), (cs, .inl (ac 1, 60, .inl (tx))), (h0, .inr (2, [.ref (g0)])), (g0, .inl (ac 0, 48, .inl (rPut tx a b g)))] H := by rw [e6]; exact hP
            have hD : va_D A [(ch, .inr (0, [.ref (cs), .int (nI (ln))])), (cs, .inl (ac 1, 60, .inl (tx))), (h0, .inr (2, [.ref (g0)])), (g0, .inl (ac 0, 48, .inl (rPut tx a b g)))] := by rw [e6]; exact hD
            exact z_vretW hx hb hr hlocks hK hP hD hS hAe dX0_readPortion_138
          | succ n2 ih =>
            intro i hi H locs hP hD hS ls hl
            refine lv_iload hx hb dX0_readPortion_80 (lv_at hl 0 rfl) ?_
            refine lv_iload_n hx hb dX0_readPortion_82 rfl (lv_at hl 6 rfl) ?_
            refine z_icmp_ge (tgt := 110) hx hb (k9 + 2 + i) (b) dX0_readPortion_83 (by decide) (by omega) (by omega) rfl rfl (fun c_83 => absurd c_83 (by omega)) (fun c_83 => ?_)
            refine lv_iload hx hb dX0_readPortion_86 (lv_at hl 1 rfl) ?_
            refine lv_bipush (v := 10) hx hb dX0_readPortion_88 (by decide) ?_
            refine lv_imul hx hb dX0_readPortion_90 ?_
            refine lv_aload_n hx hb dX0_readPortion_91 rfl (lv_at hl 4 rfl) ?_
            refine va_get (ci := 0) (v := .ref (cs)) (C := RX0) (T := TX0) (N := 2) hx hb hts (by decide +kernel) hown hK hP 0 rfl rfl 0 (by decide) (hts (.fieldLink RX0 11 "SettlingJars$Charge" "signs" "[C") (by decide +kernel)) (fun _ h9 => h9) rfl dX0_readPortion_92 ?_
            refine lv_iload hx hb dX0_readPortion_95 (lv_at hl 0 rfl) ?_
            refine z_cald hx hb hK hP 1 rfl (k9 + 2 + i) (rfl) (by omega) (by decide) dX0_readPortion_97 ?_
            refine lv_bipush (v := 48) hx hb dX0_readPortion_98 (by decide) ?_
            refine lv_isub hx hb dX0_readPortion_100 ?_
            refine lv_iadd hx hb dX0_readPortion_101 ?_
            refine lv_istore (lv' := [(7, .int (((rSum tx (k9 + 2) i) * (10)) + ((tx (k9 + 2 + i)) - (48)))), (5, .int (nI (k9 + 2 + i))), (6, .int ((tx k9) - (97))), (4, .int (y)), (0, .ref (ch)), (1, .int (nI (a))), (2, .int (nI (b))), (3, .ref (h0))]) hx hb dX0_readPortion_102 hl (by decide) rfl (fun ls hl => ?_)
            refine lv_iinc (v := nI ((k9 + 2 + i) + 1)) (lv' := [(5, .int (nI ((k9 + 2 + i) + 1))), (7, .int (((rSum tx (k9 + 2) i) * (10)) + ((tx (k9 + 2 + i)) - (48)))), (6, .int ((tx k9) - (97))), (4, .int (y)), (0, .ref (ch)), (1, .int (nI (a))), (2, .int (nI (b))), (3, .ref (h0))]) hx hb dX0_readPortion_104 hl (k := 1) rfl (show nI (k9 + 2 + i) + Int32.ofInt 1 = _ from nI_add (k9 + 2 + i) 1) (by decide) rfl (fun ls hl => ?_)
            refine lv_goto (tgt := 80) hx hb dX0_readPortion_107 (by decide) ?_
            exact ih (i + 1) (by omega) _ _ hP hD hS ls (lv_sub hl [0, 1, 2, 3, 4, 5, 6, 7] rfl)
        exact hL_80 (b - (k9 + 2)) (0) (by omega) _ _ hP hD hS ls (lv_sub hl [0, 1, 2, 3, 4, 5, 6, 7] rfl)
      · refine lv_iload hx hb dX0_readPortion_25 (lv_at hl 1 rfl) ?_
        refine lv_bipush (v := 10) hx hb dX0_readPortion_27 (by decide) ?_
        refine lv_imul hx hb dX0_readPortion_29 ?_
        refine lv_aload_n hx hb dX0_readPortion_30 rfl (lv_at hl 2 rfl) ?_
        refine va_get (ci := 0) (v := .ref (cs)) (C := RX0) (T := TX0) (N := 2) hx hb hts (by decide +kernel) hown hK hP 0 rfl rfl 0 (by decide) (hts (.fieldLink RX0 11 "SettlingJars$Charge" "signs" "[C") (by decide +kernel)) (fun _ h9 => h9) rfl dX0_readPortion_31 ?_
        refine lv_iload hx hb dX0_readPortion_34 (lv_at hl 0 rfl) ?_
        refine z_cald hx hb hK hP 1 rfl (k9) (rfl) (by omega) (by decide) dX0_readPortion_36 ?_
        refine lv_bipush (v := 48) hx hb dX0_readPortion_37 (by decide) ?_
        refine lv_isub hx hb dX0_readPortion_39 ?_
        refine lv_iadd hx hb dX0_readPortion_40 ?_
        refine lv_istore (lv' := [(4, .int (((y) * (10)) + ((tx k9) - (48)))), (5, .int (nI (k9))), (0, .ref (ch)), (1, .int (nI (a))), (2, .int (nI (b))), (3, .ref (h0))]) hx hb dX0_readPortion_41 hl (by decide) rfl (fun ls hl => ?_)
        refine lv_iinc (v := nI ((k9) + 1)) (lv' := [(5, .int (nI ((k9) + 1))), (4, .int (((y) * (10)) + ((tx k9) - (48)))), (0, .ref (ch)), (1, .int (nI (a))), (2, .int (nI (b))), (3, .ref (h0))]) hx hb dX0_readPortion_43 hl (k := 1) rfl (show nI (k9) + Int32.ofInt 1 = _ from nI_add (k9) 1) (by decide) rfl (fun ls hl => ?_)
        refine lv_goto (tgt := 6) hx hb dX0_readPortion_46 (by decide) ?_
        exact ih (k9 + 1) (y * 10 + (tx k9 - 48)) (by omega) (hR.trans (if_pos c_22)) _ _ hP hD hS ls (lv_sub hl [0, 1, 2, 3, 4, 5] rfl)
  exact hL_6 (b - a) (a) (0) (by omega) (rfl) _ _ hP hD hS ls (lv_sub hl [0, 1, 2, 3, 4, 5] rfl)

