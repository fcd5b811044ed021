set_option maxRecDepth 100000 in
set_option maxHeartbeats 4000000 in
theorem metL_step (l : Launch) (D : va_G) (ac : Nat → ClassId) (sz : Nat) (z : Nat → Int32) (j1 : Nat) (rj : Nat) (qe : Nat) (fe : Nat → Int32) (hj : j1 < 3) (hG : mGood z) (hfe : cV z = fe) : Met l yL_step wsL_step ({ frames := 2, cells := 0, slots := 0, locals := 43 } : Room) (va_Pc [.ref (rj), .ref (qe)] (zS D ac [(rj, .inl (ac 0, 48, .inl (qV z j1))), (qe, .inl (ac 0, 16, .inl (fe)))] sz)) (zQi D ac [(rj, .inl (ac 0, 48, .inl (qV z j1))), (qe, .inl (ac 0, 16, .inl (fe)))] [(rj, .inl (ac 0, 48, .inl (qV (mStep z j1).1 j1))), (qe, .inl (ac 0, 16, .inl (fe)))] sz ((mStep z j1).2)) 0 0 (va_A [(rj, .inl (ac 0, 48, .inl (qV z j1))), (qe, .inl (ac 0, 16, .inl (fe)))] sz) := by
  refine z_rw (cc := cL_step) (maxL := 9) (ret := (some .int)) (lv := [(0, .ref (rj)), (1, .ref (qe))]) (by decide) rfl (Nat.le_of_ble_eq_true rfl) rfl ?_
  intro p e s m args below meth c ls A hx hb hr hml hown hts hlocks hl hK hP hsz hAe hA hD hS
  refine lv_iconst (v := 0) hx hb dL_step_0 (by decide) ?_
  refine lv_istore_n (lv' := [(2, .int (0)), (0, .ref (rj)), (1, .ref (qe))]) hx hb dL_step_1 rfl hl (by decide) rfl (fun ls hl => ?_)
  refine lv_bipush (v := 11) hx hb dL_step_2 (by decide) ?_
  refine lv_istore_n (lv' := [(3, .int (11)), (2, .int (0)), (0, .ref (rj)), (1, .ref (qe))]) hx hb dL_step_4 rfl hl (by decide) rfl (fun ls hl => ?_)
  have hL_5 : ∀ (n : Nat) (i : Nat), (i + n = 11) → ∀ (H : Heap) (locs : List Loc), va_P D vwCl [(rj, .inl (ac 0, 48, .inl (qV (mSt z j1 i).1 j1))), (qe, .inl (ac 0, 16, .inl (fe)))] H → va_D A [(rj, .inl (ac 0, 48, .inl (qV (mSt z j1 i).1 j1))), (qe, .inl (ac 0, 16, .inl (fe)))] → va_S A s.heap H locs → ∀ (ls : Array Slot), lv_has ls 9 [(3, .int (nI n)), (2, .int ((mSt z j1 i).2)), (0, .ref (rj)), (1, .ref (qe))] → W p l e ({ frames := 2, cells := 0, slots := 0, locals := 43 } : Room) s m args below meth c H locs 0 0 (MQ below (zQi D ac [(rj, .inl (ac 0, 48, .inl (qV z j1))), (qe, .inl (ac 0, 16, .inl (fe)))] [(rj, .inl (ac 0, 48, .inl (qV (mStep z j1).1 j1))), (qe, .inl (ac 0, 16, .inl (fe)))] sz ((mStep z j1).2)) args s 0 0 A) (F0 m 5 ls []) := by
    intro n
    induction n with
    | zero =>
      intro i hi H locs hP hD hS ls hl
      have e_i : 11 = i := by omega
      subst e_i
      refine lv_iload_n hx hb dL_step_5 rfl (lv_at hl 0 rfl) ?_
      refine lv_if_le (tgt := 117) hx hb dL_step_6 (by decide) (fun c_6 => ?_) (fun c_6 => absurd c_6 (fun q => q (by decide)))
      refine lv_iload_n hx hb dL_step_117 rfl (lv_at hl 1 rfl) ?_
      exact z_iretW hx hb hr hlocks hK hP hD hS hAe (rfl) dL_step_118
    | succ n ih =>
      intro i hi H locs hP hD hS ls hl
      refine lv_iload_n hx hb dL_step_5 rfl (lv_at hl 0 rfl) ?_
      refine z_top (y := nI (11 - i)) (congrArg nI (by omega)) ?_
      refine lv_if_le (tgt := 117) hx hb dL_step_6 (by decide) (fun c_6 => absurd c_6 (nI_nle (by omega) (by omega))) (fun c_6 => ?_)
      have hGi : mGood (mSt z j1 i).1 := m_good_st hG hj (by omega)
      have hfi : cV (mSt z j1 i).1 = fe := (l_cV_st hj i (by omega)).trans hfe
      refine lv_aload_n hx hb dL_step_9 rfl (lv_at hl 2 rfl) ?_
      refine lv_iload_n hx hb dL_step_10 rfl (lv_at hl 0 rfl) ?_
      refine z_top (y := nI (11 - i)) (congrArg nI (by omega)) ?_
      refine lv_iconst (v := 1) hx hb dL_step_11 (by decide) ?_
      refine lv_isub hx hb dL_step_12 ?_
      refine z_top (y := nI ((11 - i) - (1))) (pk_sub (a := 11 - i) (b := 1) (by omega)) ?_
      refine z_top (y := nI (10 - i)) (congrArg nI (by omega)) ?_
      refine lv_aload_n hx hb dL_step_13 rfl (lv_at hl 3 rfl) ?_
      refine z_ci (z_srun (rest := []) (own := RL) (As := [.ref (rj), .int (nI (10 - i)), .ref (qe)]) hx hb hml hown hts hl.1 hK hP [0, 1] rfl (metL_factor l D ac rj (qV (mSt z j1 i).1 j1) qe fe (10 - i) (by omega) (l_div hGi hj (by omega) hfi)) gL_step_L_factor rfl 3 (by decide +kernel) ⟨rfl, rfl, Nat.le_of_ble_eq_true rfl, Nat.le_of_ble_eq_true rfl⟩ rfl rfl (Nat.le_of_ble_eq_true rfl) dL_step_14 ⟨Nat.zero_le _, Nat.zero_le _⟩) ?_
      refine z_top (y := mFac (mSt z j1 i).1 j1 (10 - i)) (l_fac hfi) ?_
      refine lv_istore (lv' := [(4, .int (mFac (mSt z j1 i).1 j1 (10 - i))), (3, .int (nI ((n + 1)))), (2, .int ((mSt z j1 i).2)), (0, .ref (rj)), (1, .ref (qe))]) hx hb dL_step_17 hl (by decide) rfl (fun ls hl => ?_)
      refine lv_iconst (v := 0) hx hb dL_step_19 (by decide) ?_
      refine lv_istore (lv' := [(5, .int (0)), (4, .int (mFac (mSt z j1 i).1 j1 (10 - i))), (3, .int (nI ((n + 1)))), (2, .int ((mSt z j1 i).2)), (0, .ref (rj)), (1, .ref (qe))]) hx hb dL_step_20 hl (by decide) rfl (fun ls hl => ?_)
      have hL_22 : ∀ (n2 : Nat) (cg : Nat), (cg + n2 = 4) → ∀ (H : Heap) (locs : List Loc), va_P D vwCl [(rj, .inl (ac 0, 48, .inl (qV (mFa (mSt z j1 i).1 j1 (10 - i) (mFac (mSt z j1 i).1 j1 (10 - i)) cg).1 j1))), (qe, .inl (ac 0, 16, .inl (fe)))] H → va_D A [(rj, .inl (ac 0, 48, .inl (qV (mFa (mSt z j1 i).1 j1 (10 - i) (mFac (mSt z j1 i).1 j1 (10 - i)) cg).1 j1))), (qe, .inl (ac 0, 16, .inl (fe)))] → va_S A s.heap H locs → ∀ (ls : Array Slot), lv_has ls 9 [(5, .int (nI (cg))), (4, .int (mFac (mSt z j1 i).1 j1 (10 - i))), (3, .int (nI ((n + 1)))), (2, .int ((mSt z j1 i).2 + (mFa (mSt z j1 i).1 j1 (10 - i) (mFac (mSt z j1 i).1 j1 (10 - i)) cg).2)), (0, .ref (rj)), (1, .ref (qe))] → W p l e ({ frames := 2, cells := 0, slots := 0, locals := 43 } : Room) s m args below meth c H locs 0 0 (MQ below (zQi D ac [(rj, .inl (ac 0, 48, .inl (qV z j1))), (qe, .inl (ac 0, 16, .inl (fe)))] [(rj, .inl (ac 0, 48, .inl (qV (mStep z j1).1 j1))), (qe, .inl (ac 0, 16, .inl (fe)))] sz ((mStep z j1).2)) args s 0 0 A) (F0 m 22 ls []) := by
        intro n2
        induction n2 with
        | zero =>
          intro cg hcg H locs hP hD hS ls hl
          have e_cg : 4 = cg := by omega
          subst e_cg
          refine lv_iload hx hb dL_step_22 (lv_at hl 0 rfl) ?_
          refine lv_iconst (v := 4) hx hb dL_step_24 (by decide) ?_
          refine z_icmp_ge (tgt := 111) hx hb (4) (4) dL_step_25 (by decide) (by omega) (by omega) rfl rfl (fun c_25 => ?_) (fun c_25 => absurd c_25 (by omega))
          refine lv_iinc (v := nI n) (lv' := [(3, .int (nI n)), (5, .int (nI (4))), (4, .int (mFac (mSt z j1 i).1 j1 (10 - i))), (2, .int ((mSt z j1 i).2 + (mFa (mSt z j1 i).1 j1 (10 - i) (mFac (mSt z j1 i).1 j1 (10 - i)) 4).2)), (0, .ref (rj)), (1, .ref (qe))]) hx hb dL_step_111 hl (k := 2) rfl (by rw [z_addm1, nI_pred]) (by decide) rfl (fun ls hl => ?_)
          refine lv_goto (tgt := 5) hx hb dL_step_114 (by decide) ?_
          exact ih (i + 1) (by omega) _ _ hP hD hS ls (lv_sub hl [0, 3, 4, 5] rfl)
        | succ n2 ih =>
          intro cg hcg H locs hP hD hS ls hl
          refine lv_iload hx hb dL_step_22 (lv_at hl 0 rfl) ?_
          refine lv_iconst (v := 4) hx hb dL_step_24 (by decide) ?_
          refine z_icmp_ge (tgt := 111) hx hb (cg) (4) dL_step_25 (by decide) (by omega) (by omega) rfl rfl (fun c_25 => absurd c_25 (by omega)) (fun c_25 => ?_)
          have hGc : mGood (mFa (mSt z j1 i).1 j1 (10 - i) (mFac (mSt z j1 i).1 j1 (10 - i)) cg).1 := l_good_fa hGi hj (by omega) cg (by omega)
          have hfc : cV (mFa (mSt z j1 i).1 j1 (10 - i) (mFac (mSt z j1 i).1 j1 (10 - i)) cg).1 = fe := (l_cV_fa hj (by omega) cg (by omega)).trans hfi
          refine lv_iconst (v := 4) hx hb dL_step_28 (by decide) ?_
          refine lv_iload_n hx hb dL_step_29 rfl (lv_at hl 2 rfl) ?_
          refine z_top (y := nI (11 - i)) (congrArg nI (by omega)) ?_
          refine lv_imul hx hb dL_step_30 ?_
          refine z_top (y := nI ((4) * (11 - i))) (pk_mul (4) (11 - i)) ?_
          refine lv_iconst (v := 4) hx hb dL_step_31 (by decide) ?_
          refine lv_isub hx hb dL_step_32 ?_
          refine z_top (y := nI (((4) * (11 - i)) - (4))) (pk_sub (a := (4) * (11 - i)) (b := 4) (by omega)) ?_
          refine lv_iload hx hb dL_step_33 (lv_at hl 0 rfl) ?_
          refine lv_iadd hx hb dL_step_35 ?_
          refine z_top (y := nI ((((4) * (11 - i)) - (4)) + (cg))) (nI_add (((4) * (11 - i)) - (4)) (cg)) ?_
          refine z_top (y := nI (4 * (10 - i) + cg)) (congrArg nI (by omega)) ?_
          refine lv_istore (lv' := [(6, .int (nI (4 * (10 - i) + cg))), (5, .int (nI (cg))), (4, .int (mFac (mSt z j1 i).1 j1 (10 - i))), (3, .int (nI ((n + 1)))), (2, .int ((mSt z j1 i).2 + (mFa (mSt z j1 i).1 j1 (10 - i) (mFac (mSt z j1 i).1 j1 (10 - i)) cg).2)), (0, .ref (rj)), (1, .ref (qe))]) hx hb dL_step_36 hl (by decide) rfl (fun ls hl => ?_)
          refine lv_aload_n hx hb dL_step_38 rfl (lv_at hl 5 rfl) ?_
          refine lv_iload hx hb dL_step_39 (lv_at hl 0 rfl) ?_
          refine z_iald hx hb hK hP 0 rfl (4 * (10 - i) + cg) (rfl) (by omega) (by decide) dL_step_41 ?_
          refine lv_aload_n hx hb dL_step_42 rfl (lv_at hl 6 rfl) ?_
          refine lv_iconst (v := 4) hx hb dL_step_43 (by decide) ?_
          refine lv_iload hx hb dL_step_44 (lv_at hl 1 rfl) ?_
          refine lv_iadd hx hb dL_step_46 ?_
          refine z_top (y := nI ((4) + (cg))) (nI_add (4) (cg)) ?_
          refine z_iald hx hb hK hP 1 rfl ((4) + (cg)) (rfl) (by omega) (by decide) dL_step_47 ?_
          refine lv_iload hx hb dL_step_48 (lv_at hl 2 rfl) ?_
          refine lv_aload_n hx hb dL_step_50 rfl (lv_at hl 6 rfl) ?_
          refine z_ci (z_srun (rest := []) (own := RL) (As := [.int ((qV (mFa (mSt z j1 i).1 j1 (10 - i) (mFac (mSt z j1 i).1 j1 (10 - i)) cg).1 j1) (4 * (10 - i) + cg)), .int (fe ((4) + (cg))), .int (mFac (mSt z j1 i).1 j1 (10 - i)), .ref (qe)]) hx hb hml hown hts hl.1 hK hP [1] rfl (metL_wish l D ac qe fe ((qV (mFa (mSt z j1 i).1 j1 (10 - i) (mFac (mSt z j1 i).1 j1 (10 - i)) cg).1 j1) (4 * (10 - i) + cg)) (fe ((4) + (cg))) (mFac (mSt z j1 i).1 j1 (10 - i)) (l_longG hGi hGc hj (by omega) (by omega) hfc)) gL_step_L_wish rfl 4 (by decide +kernel) ⟨rfl, rfl, Nat.le_of_ble_eq_true rfl, Nat.le_of_ble_eq_true rfl⟩ rfl rfl (Nat.le_of_ble_eq_true rfl) dL_step_51 ⟨Nat.zero_le _, Nat.zero_le _⟩) ?_
          refine z_top (y := mWish (mFa (mSt z j1 i).1 j1 (10 - i) (mFac (mSt z j1 i).1 j1 (10 - i)) cg).1 j1 (10 - i) cg (mFac (mSt z j1 i).1 j1 (10 - i))) (l_mwish hfc) ?_
          refine lv_istore (lv' := [(7, .int (mWish (mFa (mSt z j1 i).1 j1 (10 - i) (mFac (mSt z j1 i).1 j1 (10 - i)) cg).1 j1 (10 - i) cg (mFac (mSt z j1 i).1 j1 (10 - i)))), (6, .int (nI (4 * (10 - i) + cg))), (5, .int (nI (cg))), (4, .int (mFac (mSt z j1 i).1 j1 (10 - i))), (3, .int (nI ((n + 1)))), (2, .int ((mSt z j1 i).2 + (mFa (mSt z j1 i).1 j1 (10 - i) (mFac (mSt z j1 i).1 j1 (10 - i)) cg).2)), (0, .ref (rj)), (1, .ref (qe))]) hx hb dL_step_54 hl (by decide) rfl (fun ls hl => ?_)
          refine lv_aload_n hx hb dL_step_56 rfl (lv_at hl 6 rfl) ?_
          refine lv_iload_n hx hb dL_step_57 rfl (lv_at hl 4 rfl) ?_
          refine z_top (y := nI (11 - i)) (congrArg nI (by omega)) ?_
          refine lv_aload_n hx hb dL_step_58 rfl (lv_at hl 7 rfl) ?_
          refine z_ci (z_srun (rest := []) (own := RL) (As := [.ref (rj), .int (nI (11 - i)), .ref (qe)]) hx hb hml hown hts hl.1 hK hP [0, 1] rfl (metL_room l D ac rj (qV (mFa (mSt z j1 i).1 j1 (10 - i) (mFac (mSt z j1 i).1 j1 (10 - i)) cg).1 j1) qe fe (11 - i) (by omega)) gL_step_L_room rfl 3 (by decide +kernel) ⟨rfl, rfl, Nat.le_of_ble_eq_true rfl, Nat.le_of_ble_eq_true rfl⟩ rfl rfl (Nat.le_of_ble_eq_true rfl) dL_step_59 ⟨Nat.zero_le _, Nat.zero_le _⟩) ?_
          refine z_top (y := mRoom (mFa (mSt z j1 i).1 j1 (10 - i) (mFac (mSt z j1 i).1 j1 (10 - i)) cg).1 j1 (10 - i + 1)) (l_roomS (by omega) hGc hj hfc) ?_
          refine lv_istore (lv' := [(8, .int (mRoom (mFa (mSt z j1 i).1 j1 (10 - i) (mFac (mSt z j1 i).1 j1 (10 - i)) cg).1 j1 (10 - i + 1))), (7, .int (mWish (mFa (mSt z j1 i).1 j1 (10 - i) (mFac (mSt z j1 i).1 j1 (10 - i)) cg).1 j1 (10 - i) cg (mFac (mSt z j1 i).1 j1 (10 - i)))), (6, .int (nI (4 * (10 - i) + cg))), (5, .int (nI (cg))), (4, .int (mFac (mSt z j1 i).1 j1 (10 - i))), (3, .int (nI ((n + 1)))), (2, .int ((mSt z j1 i).2 + (mFa (mSt z j1 i).1 j1 (10 - i) (mFac (mSt z j1 i).1 j1 (10 - i)) cg).2)), (0, .ref (rj)), (1, .ref (qe))]) hx hb dL_step_62 hl (by decide) rfl (fun ls hl => ?_)
          refine lv_iload hx hb dL_step_64 (lv_at hl 1 rfl) ?_
          refine lv_iload hx hb dL_step_66 (lv_at hl 0 rfl) ?_
          refine lv_icmp_le (tgt := 76) hx hb dL_step_68 (by decide) (fun c_68 => ?_) (fun c_68 => ?_)
          · refine lv_iload hx hb dL_step_76 (lv_at hl 1 rfl) ?_
            refine z_top (y := mDrop (mFa (mSt z j1 i).1 j1 (10 - i) (mFac (mSt z j1 i).1 j1 (10 - i)) cg).1 j1 (10 - i) cg (mFac (mSt z j1 i).1 j1 (10 - i))) (l_drop_v c_68) ?_
            refine lv_istore (lv' := [(7, .int (mDrop (mFa (mSt z j1 i).1 j1 (10 - i) (mFac (mSt z j1 i).1 j1 (10 - i)) cg).1 j1 (10 - i) cg (mFac (mSt z j1 i).1 j1 (10 - i)))), (8, .int (mRoom (mFa (mSt z j1 i).1 j1 (10 - i) (mFac (mSt z j1 i).1 j1 (10 - i)) cg).1 j1 (10 - i + 1))), (6, .int (nI (4 * (10 - i) + cg))), (5, .int (nI (cg))), (4, .int (mFac (mSt z j1 i).1 j1 (10 - i))), (3, .int (nI ((n + 1)))), (2, .int ((mSt z j1 i).2 + (mFa (mSt z j1 i).1 j1 (10 - i) (mFac (mSt z j1 i).1 j1 (10 - i)) cg).2)), (0, .ref (rj)), (1, .ref (qe))]) hx hb dL_step_78 hl (by decide) rfl (fun ls hl => ?_)
            refine lv_aload_n hx hb dL_step_80 rfl (lv_at hl 7 rfl) ?_
            refine lv_iload hx hb dL_step_81 (lv_at hl 2 rfl) ?_
            refine lv_dup2_11 hx hb dL_step_83 rfl rfl ?_
            refine z_iald hx hb hK hP 0 rfl (4 * (10 - i) + cg) (rfl) (by omega) (by decide) dL_step_84 ?_
            refine lv_iload hx hb dL_step_85 (lv_at hl 0 rfl) ?_
            refine lv_isub hx hb dL_step_87 ?_
            refine z_iast hx hb hK hP hD hS 0 rfl (4 * (10 - i) + cg) (rfl) (by omega) (by decide) dL_step_88 (fun H locs hP hD hS => ?_)
            have hP : va_P D vwCl [(rj, .inl (ac 0, 48, .inl (upd (qV (mFa (mSt z j1 i).1 j1 (10 - i) (mFac (mSt z j1 i).1 j1 (10 - i)) cg).1 j1) (4 * (10 - i) + cg) (((qV (mFa (mSt z j1 i).1 j1 (10 - i) (mFac (mSt z j1 i).1 j1 (10 - i)) cg).1 j1) (4 * (10 - i) + cg)) - (mDrop (mFa (mSt z j1 i).1 j1 (10 - i) (mFac (mSt z j1 i).1 j1 (10 - i)) cg).1 j1 (10 - i) cg (mFac (mSt z j1 i).1 j1 (10 - i))))))), (qe, .inl (ac 0, 16, .inl (fe)))] H := hP
            have hD : va_D A [(rj, .inl (ac 0, 48, .inl (upd (qV (mFa (mSt z j1 i).1 j1 (10 - i) (mFac (mSt z j1 i).1 j1 (10 - i)) cg).1 j1) (4 * (10 - i) + cg) (((qV (mFa (mSt z j1 i).1 j1 (10 - i) (mFac (mSt z j1 i).1 j1 (10 - i)) cg).1 j1) (4 * (10 - i) + cg)) - (mDrop (mFa (mSt z j1 i).1 j1 (10 - i) (mFac (mSt z j1 i).1 j1 (10 - i)) cg).1 j1 (10 - i) cg (mFac (mSt z j1 i).1 j1 (10 - i))))))), (qe, .inl (ac 0, 16, .inl (fe)))] := hD
            refine lv_aload_n hx hb dL_step_89 rfl (lv_at hl 7 rfl) ?_
            refine lv_iload hx hb dL_step_90 (lv_at hl 2 rfl) ?_
            refine lv_iconst (v := 4) hx hb dL_step_92 (by decide) ?_
            refine lv_iadd hx hb dL_step_93 ?_
            refine z_top (y := nI ((4 * (10 - i) + cg) + (4))) (nI_add (4 * (10 - i) + cg) (4)) ?_
            refine z_top (y := nI (4 * (10 - i + 1) + cg)) (congrArg nI (by omega)) ?_
            refine lv_dup2_11 hx hb dL_step_94 rfl rfl ?_
            refine z_iald hx hb hK hP 0 rfl (4 * (10 - i + 1) + cg) (rfl) (by omega) (by decide) dL_step_95 ?_
            refine lv_iload hx hb dL_step_96 (lv_at hl 0 rfl) ?_
            refine lv_iadd hx hb dL_step_98 ?_
            refine z_iast hx hb hK hP hD hS 0 rfl (4 * (10 - i + 1) + cg) (rfl) (by omega) (by decide) dL_step_99 (fun H locs hP hD hS => ?_)
            have hP : va_P D vwCl [(rj, .inl (ac 0, 48, .inl (upd (upd (qV (mFa (mSt z j1 i).1 j1 (10 - i) (mFac (mSt z j1 i).1 j1 (10 - i)) cg).1 j1) (4 * (10 - i) + cg) (((qV (mFa (mSt z j1 i).1 j1 (10 - i) (mFac (mSt z j1 i).1 j1 (10 - i)) cg).1 j1) (4 * (10 - i) + cg)) - (mDrop (mFa (mSt z j1 i).1 j1 (10 - i) (mFac (mSt z j1 i).1 j1 (10 - i)) cg).1 j1 (10 - i) cg (mFac (mSt z j1 i).1 j1 (10 - i))))) (4 * (10 - i + 1) + cg) (((upd (qV (mFa (mSt z j1 i).1 j1 (10 - i) (mFac (mSt z j1 i).1 j1 (10 - i)) cg).1 j1) (4 * (10 - i) + cg) (((qV (mFa (mSt z j1 i).1 j1 (10 - i) (mFac (mSt z j1 i).1 j1 (10 - i)) cg).1 j1) (4 * (10 - i) + cg)) - (mDrop (mFa (mSt z j1 i).1 j1 (10 - i) (mFac (mSt z j1 i).1 j1 (10 - i)) cg).1 j1 (10 - i) cg (mFac (mSt z j1 i).1 j1 (10 - i))))) (4 * (10 - i + 1) + cg)) + (mDrop (mFa (mSt z j1 i).1 j1 (10 - i) (mFac (mSt z j1 i).1 j1 (10 - i)) cg).1 j1 (10 - i) cg (mFac (mSt z j1 i).1 j1 (10 - i))))))), (qe, .inl (ac 0, 16, .inl (fe)))] H := hP
            have hD : va_D A [(rj, .inl (ac 0, 48, .inl (upd (upd (qV (mFa (mSt z j1 i).1 j1 (10 - i) (mFac (mSt z j1 i).1 j1 (10 - i)) cg).1 j1) (4 * (10 - i) + cg) (((qV (mFa (mSt z j1 i).1 j1 (10 - i) (mFac (mSt z j1 i).1 j1 (10 - i)) cg).1 j1) (4 * (10 - i) + cg)) - (mDrop (mFa (mSt z j1 i).1 j1 (10 - i) (mFac (mSt z j1 i).1 j1 (10 - i)) cg).1 j1 (10 - i) cg (mFac (mSt z j1 i).1 j1 (10 - i))))) (4 * (10 - i + 1) + cg) (((upd (qV (mFa (mSt z j1 i).1 j1 (10 - i) (mFac (mSt z j1 i).1 j1 (10 - i)) cg).1 j1) (4 * (10 - i) + cg) (((qV (mFa (mSt z j1 i).1 j1 (10 - i) (mFac (mSt z j1 i).1 j1 (10 - i)) cg).1 j1) (4 * (10 - i) + cg)) - (mDrop (mFa (mSt z j1 i).1 j1 (10 - i) (mFac (mSt z j1 i).1 j1 (10 - i)) cg).1 j1 (10 - i) cg (mFac (mSt z j1 i).1 j1 (10 - i))))) (4 * (10 - i + 1) + cg)) + (mDrop (mFa (mSt z j1 i).1 j1 (10 - i) (mFac (mSt z j1 i).1 j1 (10 - i)) cg).1 j1 (10 - i) cg (mFac (mSt z j1 i).1 j1 (10 - i))))))), (qe, .inl (ac 0, 16, .inl (fe)))] := hD
            have e7 : qV (mFa (mSt z j1 i).1 j1 (10 - i) (mFac (mSt z j1 i).1 j1 (10 - i)) (cg + 1)).1 j1 = _ := l_mput j1 (10 - i) cg (mFa (mSt z j1 i).1 j1 (10 - i) (mFac (mSt z j1 i).1 j1 (10 - i)) cg) (mDrop (mFa (mSt z j1 i).1 j1 (10 - i) (mFac (mSt z j1 i).1 j1 (10 - i)) cg).1 j1 (10 - i) cg (mFac (mSt z j1 i).1 j1 (10 - i)))
            have hP : va_P D vwCl [(rj, .inl (ac 0, 48, .inl (qV (mFa (mSt z j1 i).1 j1 (10 - i) (mFac (mSt z j1 i).1 j1 (10 - i)) (cg + 1)).1 j1))), (qe, .inl (ac 0, 16, .inl (fe)))] H := by rw [e7]; exact hP
            have hD : va_D A [(rj, .inl (ac 0, 48, .inl (qV (mFa (mSt z j1 i).1 j1 (10 - i) (mFac (mSt z j1 i).1 j1 (10 - i)) (cg + 1)).1 j1))), (qe, .inl (ac 0, 16, .inl (fe)))] := by rw [e7]; exact hD
            refine lv_iload_n hx hb dL_step_100 rfl (lv_at hl 6 rfl) ?_
            refine lv_iload hx hb dL_step_101 (lv_at hl 0 rfl) ?_
            refine lv_iadd hx hb dL_step_103 ?_
            refine z_top (y := (mSt z j1 i).2 + (mFa (mSt z j1 i).1 j1 (10 - i) (mFac (mSt z j1 i).1 j1 (10 - i)) (cg + 1)).2) (Int32.add_assoc _ _ _) ?_
            refine lv_istore_n (lv' := [(2, .int ((mSt z j1 i).2 + (mFa (mSt z j1 i).1 j1 (10 - i) (mFac (mSt z j1 i).1 j1 (10 - i)) (cg + 1)).2)), (7, .int (mDrop (mFa (mSt z j1 i).1 j1 (10 - i) (mFac (mSt z j1 i).1 j1 (10 - i)) cg).1 j1 (10 - i) cg (mFac (mSt z j1 i).1 j1 (10 - i)))), (8, .int (mRoom (mFa (mSt z j1 i).1 j1 (10 - i) (mFac (mSt z j1 i).1 j1 (10 - i)) cg).1 j1 (10 - i + 1))), (6, .int (nI (4 * (10 - i) + cg))), (5, .int (nI (cg))), (4, .int (mFac (mSt z j1 i).1 j1 (10 - i))), (3, .int (nI ((n + 1)))), (0, .ref (rj)), (1, .ref (qe))]) hx hb dL_step_104 rfl hl (by decide) rfl (fun ls hl => ?_)
            refine lv_iinc (v := nI ((cg) + 1)) (lv' := [(5, .int (nI ((cg) + 1))), (2, .int ((mSt z j1 i).2 + (mFa (mSt z j1 i).1 j1 (10 - i) (mFac (mSt z j1 i).1 j1 (10 - i)) (cg + 1)).2)), (7, .int (mDrop (mFa (mSt z j1 i).1 j1 (10 - i) (mFac (mSt z j1 i).1 j1 (10 - i)) cg).1 j1 (10 - i) cg (mFac (mSt z j1 i).1 j1 (10 - i)))), (8, .int (mRoom (mFa (mSt z j1 i).1 j1 (10 - i) (mFac (mSt z j1 i).1 j1 (10 - i)) cg).1 j1 (10 - i + 1))), (6, .int (nI (4 * (10 - i) + cg))), (4, .int (mFac (mSt z j1 i).1 j1 (10 - i))), (3, .int (nI ((n + 1)))), (0, .ref (rj)), (1, .ref (qe))]) hx hb dL_step_105 hl (k := 4) rfl (show nI (cg) + Int32.ofInt 1 = _ from nI_add (cg) 1) (by decide) rfl (fun ls hl => ?_)
            refine lv_goto (tgt := 22) hx hb dL_step_108 (by decide) ?_
            exact ih (cg + 1) (by omega) _ _ hP hD hS ls (lv_sub hl [0, 5, 6, 1, 7, 8] rfl)
          · refine lv_iload hx hb dL_step_71 (lv_at hl 0 rfl) ?_
            refine z_top (y := mDrop (mFa (mSt z j1 i).1 j1 (10 - i) (mFac (mSt z j1 i).1 j1 (10 - i)) cg).1 j1 (10 - i) cg (mFac (mSt z j1 i).1 j1 (10 - i))) (l_drop_r c_68) ?_
            refine lv_goto (tgt := 78) hx hb dL_step_73 (by decide) ?_
            refine lv_istore (lv' := [(7, .int (mDrop (mFa (mSt z j1 i).1 j1 (10 - i) (mFac (mSt z j1 i).1 j1 (10 - i)) cg).1 j1 (10 - i) cg (mFac (mSt z j1 i).1 j1 (10 - i)))), (8, .int (mRoom (mFa (mSt z j1 i).1 j1 (10 - i) (mFac (mSt z j1 i).1 j1 (10 - i)) cg).1 j1 (10 - i + 1))), (6, .int (nI (4 * (10 - i) + cg))), (5, .int (nI (cg))), (4, .int (mFac (mSt z j1 i).1 j1 (10 - i))), (3, .int (nI ((n + 1)))), (2, .int ((mSt z j1 i).2 + (mFa (mSt z j1 i).1 j1 (10 - i) (mFac (mSt z j1 i).1 j1 (10 - i)) cg).2)), (0, .ref (rj)), (1, .ref (qe))]) hx hb dL_step_78 hl (by decide) rfl (fun ls hl => ?_)
            refine lv_aload_n hx hb dL_step_80 rfl (lv_at hl 7 rfl) ?_
            refine lv_iload hx hb dL_step_81 (lv_at hl 2 rfl) ?_
            refine lv_dup2_11 hx hb dL_step_83 rfl rfl ?_
            refine z_iald hx hb hK hP 0 rfl (4 * (10 - i) + cg) (rfl) (by omega) (by decide) dL_step_84 ?_
            refine lv_iload hx hb dL_step_85 (lv_at hl 0 rfl) ?_
            refine lv_isub hx hb dL_step_87 ?_
            refine z_iast hx hb hK hP hD hS 0 rfl (4 * (10 - i) + cg) (rfl) (by omega) (by decide) dL_step_88 (fun H locs hP hD hS => ?_)
            have hP : va_P D vwCl [(rj, .inl (ac 0, 48, .inl (upd (qV (mFa (mSt z j1 i).1 j1 (10 - i) (mFac (mSt z j1 i).1 j1 (10 - i)) cg).1 j1) (4 * (10 - i) + cg) (((qV (mFa (mSt z j1 i).1 j1 (10 - i) (mFac (mSt z j1 i).1 j1 (10 - i)) cg).1 j1) (4 * (10 - i) + cg)) - (mDrop (mFa (mSt z j1 i).1 j1 (10 - i) (mFac (mSt z j1 i).1 j1 (10 - i)) cg).1 j1 (10 - i) cg (mFac (mSt z j1 i).1 j1 (10 - i))))))), (qe, .inl (ac 0, 16, .inl (fe)))] H := hP
            have hD : va_D A [(rj, .inl (ac 0, 48, .inl (upd (qV (mFa (mSt z j1 i).1 j1 (10 - i) (mFac (mSt z j1 i).1 j1 (10 - i)) cg).1 j1) (4 * (10 - i) + cg) (((qV (mFa (mSt z j1 i).1 j1 (10 - i) (mFac (mSt z j1 i).1 j1 (10 - i)) cg).1 j1) (4 * (10 - i) + cg)) - (mDrop (mFa (mSt z j1 i).1 j1 (10 - i) (mFac (mSt z j1 i).1 j1 (10 - i)) cg).1 j1 (10 - i) cg (mFac (mSt z j1 i).1 j1 (10 - i))))))), (qe, .inl (ac 0, 16, .inl (fe)))] := hD
            refine lv_aload_n hx hb dL_step_89 rfl (lv_at hl 7 rfl) ?_
            refine lv_iload hx hb dL_step_90 (lv_at hl 2 rfl) ?_
            refine lv_iconst (v := 4) hx hb dL_step_92 (by decide) ?_
            refine lv_iadd hx hb dL_step_93 ?_
            refine z_top (y := nI ((4 * (10 - i) + cg) + (4))) (nI_add (4 * (10 - i) + cg) (4)) ?_
            refine z_top (y := nI (4 * (10 - i + 1) + cg)) (congrArg nI (by omega)) ?_
            refine lv_dup2_11 hx hb dL_step_94 rfl rfl ?_
            refine z_iald hx hb hK hP 0 rfl (4 * (10 - i + 1) + cg) (rfl) (by omega) (by decide) dL_step_95 ?_
            refine lv_iload hx hb dL_step_96 (lv_at hl 0 rfl) ?_
            refine lv_iadd hx hb dL_step_98 ?_
            refine z_iast hx hb hK hP hD hS 0 rfl (4 * (10 - i + 1) + cg) (rfl) (by omega) (by decide) dL_step_99 (fun H locs hP hD hS => ?_)
            have hP : va_P D vwCl [(rj, .inl (ac 0, 48, .inl (upd (upd (qV (mFa (mSt z j1 i).1 j1 (10 - i) (mFac (mSt z j1 i).1 j1 (10 - i)) cg).1 j1) (4 * (10 - i) + cg) (((qV (mFa (mSt z j1 i).1 j1 (10 - i) (mFac (mSt z j1 i).1 j1 (10 - i)) cg).1 j1) (4 * (10 - i) + cg)) - (mDrop (mFa (mSt z j1 i).1 j1 (10 - i) (mFac (mSt z j1 i).1 j1 (10 - i)) cg).1 j1 (10 - i) cg (mFac (mSt z j1 i).1 j1 (10 - i))))) (4 * (10 - i + 1) + cg) (((upd (qV (mFa (mSt z j1 i).1 j1 (10 - i) (mFac (mSt z j1 i).1 j1 (10 - i)) cg).1 j1) (4 * (10 - i) + cg) (((qV (mFa (mSt z j1 i).1 j1 (10 - i) (mFac (mSt z j1 i).1 j1 (10 - i)) cg).1 j1) (4 * (10 - i) + cg)) - (mDrop (mFa (mSt z j1 i).1 j1 (10 - i) (mFac (mSt z j1 i).1 j1 (10 - i)) cg).1 j1 (10 - i) cg (mFac (mSt z j1 i).1 j1 (10 - i))))) (4 * (10 - i + 1) + cg)) + (mDrop (mFa (mSt z j1 i).1 j1 (10 - i) (mFac (mSt z j1 i).1 j1 (10 - i)) cg).1 j1 (10 - i) cg (mFac (mSt z j1 i).1 j1 (10 - i))))))), (qe, .inl (ac 0, 16, .inl (fe)))] H := hP
            have hD : va_D A [(rj, .inl (ac 0, 48, .inl (upd (upd (qV (mFa (mSt z j1 i).1 j1 (10 - i) (mFac (mSt z j1 i).1 j1 (10 - i)) cg).1 j1) (4 * (10 - i) + cg) (((qV (mFa (mSt z j1 i).1 j1 (10 - i) (mFac (mSt z j1 i).1 j1 (10 - i)) cg).1 j1) (4 * (10 - i) + cg)) - (mDrop (mFa (mSt z j1 i).1 j1 (10 - i) (mFac (mSt z j1 i).1 j1 (10 - i)) cg).1 j1 (10 - i) cg (mFac (mSt z j1 i).1 j1 (10 - i))))) (4 * (10 - i + 1) + cg) (((upd (qV (mFa (mSt z j1 i).1 j1 (10 - i) (mFac (mSt z j1 i).1 j1 (10 - i)) cg).1 j1) (4 * (10 - i) + cg) (((qV (mFa (mSt z j1 i).1 j1 (10 - i) (mFac (mSt z j1 i).1 j1 (10 - i)) cg).1 j1) (4 * (10 - i) + cg)) - (mDrop (mFa (mSt z j1 i).1 j1 (10 - i) (mFac (mSt z j1 i).1 j1 (10 - i)) cg).1 j1 (10 - i) cg (mFac (mSt z j1 i).1 j1 (10 - i))))) (4 * (10 - i + 1) + cg)) + (mDrop (mFa (mSt z j1 i).1 j1 (10 - i) (mFac (mSt z j1 i).1 j1 (10 - i)) cg).1 j1 (10 - i) cg (mFac (mSt z j1 i).1 j1 (10 - i))))))), (qe, .inl (ac 0, 16, .inl (fe)))] := hD
            have e7 : qV (mFa (mSt z j1 i).1 j1 (10 - i) (mFac (mSt z j1 i).1 j1 (10 - i)) (cg + 1)).1 j1 = _ := l_mput j1 (10 - i) cg (mFa (mSt z j1 i).1 j1 (10 - i) (mFac (mSt z j1 i).1 j1 (10 - i)) cg) (mDrop (mFa (mSt z j1 i).1 j1 (10 - i) (mFac (mSt z j1 i).1 j1 (10 - i)) cg).1 j1 (10 - i) cg (mFac (mSt z j1 i).1 j1 (10 - i)))
            have hP : va_P D vwCl [(rj, .inl (ac 0, 48, .inl (qV (mFa (mSt z j1 i).1 j1 (10 - i) (mFac (mSt z j1 i).1 j1 (10 - i)) (cg + 1)).1 j1))), (qe, .inl (ac 0, 16, .inl (fe)))] H := by rw [e7]; exact hP
            have hD : va_D A [(rj, .inl (ac 0, 48, .inl (qV (mFa (mSt z j1 i).1 j1 (10 - i) (mFac (mSt z j1 i).1 j1 (10 - i)) (cg + 1)).1 j1))), (qe, .inl (ac 0, 16, .inl (fe)))] := by rw [e7]; exact hD
            refine lv_iload_n hx hb dL_step_100 rfl (lv_at hl 6 rfl) ?_
            refine lv_iload hx hb dL_step_101 (lv_at hl 0 rfl) ?_
            refine lv_iadd hx hb dL_step_103 ?_
            refine z_top (y := (mSt z j1 i).2 + (mFa (mSt z j1 i).1 j1 (10 - i) (mFac (mSt z j1 i).1 j1 (10 - i)) (cg + 1)).2) (Int32.add_assoc _ _ _) ?_
            refine lv_istore_n (lv' := [(2, .int ((mSt z j1 i).2 + (mFa (mSt z j1 i).1 j1 (10 - i) (mFac (mSt z j1 i).1 j1 (10 - i)) (cg + 1)).2)), (7, .int (mDrop (mFa (mSt z j1 i).1 j1 (10 - i) (mFac (mSt z j1 i).1 j1 (10 - i)) cg).1 j1 (10 - i) cg (mFac (mSt z j1 i).1 j1 (10 - i)))), (8, .int (mRoom (mFa (mSt z j1 i).1 j1 (10 - i) (mFac (mSt z j1 i).1 j1 (10 - i)) cg).1 j1 (10 - i + 1))), (6, .int (nI (4 * (10 - i) + cg))), (5, .int (nI (cg))), (4, .int (mFac (mSt z j1 i).1 j1 (10 - i))), (3, .int (nI ((n + 1)))), (0, .ref (rj)), (1, .ref (qe))]) hx hb dL_step_104 rfl hl (by decide) rfl (fun ls hl => ?_)
            refine lv_iinc (v := nI ((cg) + 1)) (lv' := [(5, .int (nI ((cg) + 1))), (2, .int ((mSt z j1 i).2 + (mFa (mSt z j1 i).1 j1 (10 - i) (mFac (mSt z j1 i).1 j1 (10 - i)) (cg + 1)).2)), (7, .int (mDrop (mFa (mSt z j1 i).1 j1 (10 - i) (mFac (mSt z j1 i).1 j1 (10 - i)) cg).1 j1 (10 - i) cg (mFac (mSt z j1 i).1 j1 (10 - i)))), (8, .int (mRoom (mFa (mSt z j1 i).1 j1 (10 - i) (mFac (mSt z j1 i).1 j1 (10 - i)) cg).1 j1 (10 - i + 1))), (6, .int (nI (4 * (10 - i) + cg))), (4, .int (mFac (mSt z j1 i).1 j1 (10 - i))), (3, .int (nI ((n + 1)))), (0, .ref (rj)), (1, .ref (qe))]) hx hb dL_step_105 hl (k := 4) rfl (show nI (cg) + Int32.ofInt 1 = _ from nI_add (cg) 1) (by decide) rfl (fun ls hl => ?_)
            refine lv_goto (tgt := 22) hx hb dL_step_108 (by decide) ?_
            exact ih (cg + 1) (by omega) _ _ hP hD hS ls (lv_sub hl [0, 5, 6, 1, 7, 8] rfl)
      exact hL_22 (4) (0) (by omega) _ _ hP hD hS ls (by rw [show (mFa (mSt z j1 i).1 j1 (10 - i) (mFac (mSt z j1 i).1 j1 (10 - i)) 0).2 = 0 from rfl, Int32.add_zero]; exact lv_sub hl [0, 1, 2, 3, 4, 5] rfl)
  exact hL_5 (11) (0) (by omega) _ _ hP hD hS ls (lv_sub hl [0, 1, 2, 3] rfl)

