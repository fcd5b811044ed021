set_option maxRecDepth 100000 in
set_option maxHeartbeats 4000000 in
theorem metX6_depthNow (l : Launch) (D : va_G) (ac : Nat → ClassId) (m0 : Nat) (z0 : Nat) (sd0 : Nat) (tx0 : Nat) (as0 : Nat) (rd0 : Nat) (th : Int32) (sv : Nat) (ln : Nat) (stp : Nat) (po : Nat) (tl : Int32) (hh : Int64) (z : Nat → Int32) (j1 : Nat) (hj : j1 < 3) : Met l yX6_depthNow wsX6_depthNow ({ frames := 3, cells := 0, slots := 0, locals := 69 } : Room) (va_Pc [.ref (m0), .int (nI (j1))] (zW D ac [(m0, .inr (6, [.int (th), .ref (z0), .int (nI (sv)), .ref (sd0), .int (nI (ln)), .ref (tx0), .ref (as0), .int (nI (stp)), .int (nI (po)), .int (tl), .ref (rd0), .long (hh)])), (z0, .inl (ac 0, 162, .inl (z)))])) (zRd (qMean (qV z j1))) 0 0 (fun _ => False) := by
  refine z_ro (cc := cX6_depthNow) (maxL := 4) (ret := (some .double)) (lv := [(0, .ref (m0)), (1, .int (nI (j1)))]) (by decide) rfl (Nat.le_of_ble_eq_true rfl) rfl ?_
  intro p e s m args below meth c ls hx hb hr hml hown hts hlocks hl hK hP
  refine lv_iconst (v := 0) hx hb dX6_depthNow_0 (by decide) ?_
  refine lv_istore_n (lv' := [(2, .int (0)), (0, .ref (m0)), (1, .int (nI (j1)))]) hx hb dX6_depthNow_1 rfl hl (by decide) rfl (fun ls hl => ?_)
  refine lv_iconst (v := 0) hx hb dX6_depthNow_2 (by decide) ?_
  refine lv_istore_n (lv' := [(3, .int (0)), (2, .int (0)), (0, .ref (m0)), (1, .int (nI (j1)))]) hx hb dX6_depthNow_3 rfl hl (by decide) rfl (fun ls hl => ?_)
  have hL_4 : ∀ (n : Nat) (i : Nat), (i + n = 12) → ∀ (ls : Array Slot), lv_has ls 4 [(3, .int (nI (i))), (2, .int (qS (fun s => nI s * qIn (qV z j1) s) i)), (0, .ref (m0)), (1, .int (nI (j1)))] → W p l e ({ frames := 3, cells := 0, slots := 0, locals := 69 } : Room) s m args below meth c s.heap [] 0 0 (MQ below (zRd (qMean (qV z j1))) args s 0 0 (fun _ => False)) (F0 m 4 ls []) := by
    intro n
    induction n with
    | zero =>
      intro i hi ls hl
      have e_i : 12 = i := by omega
      subst e_i
      refine lv_iload_n hx hb dX6_depthNow_4 rfl (lv_at hl 0 rfl) ?_
      refine lv_bipush (v := 12) hx hb dX6_depthNow_5 (by decide) ?_
      refine z_icmp_ge (tgt := 27) hx hb (12) (12) dX6_depthNow_7 (by decide) (by omega) (by omega) rfl rfl (fun c_7 => ?_) (fun c_7 => absurd c_7 (by omega))
      refine lv_aload_n hx hb dX6_depthNow_27 rfl (lv_at hl 2 rfl) ?_
      refine lv_iload_n hx hb dX6_depthNow_28 rfl (lv_at hl 3 rfl) ?_
      refine z_ci (z_vrun (rest := []) (own := RX6) (As := [.int (nI (j1))]) hx hb hml hown hts hl.1 hK hP [0, 1] rfl (metX6_inJar l D ac m0 z0 sd0 tx0 as0 rd0 th sv ln stp po tl hh z j1 (by omega)) gX6_depthNow_X6_inJar rfl 1 (by decide +kernel) ⟨rfl, rfl, Nat.le_of_ble_eq_true rfl, Nat.le_of_ble_eq_true rfl⟩ 0 6 rfl rfl rfl rfl rfl (Nat.le_of_ble_eq_true rfl) dX6_depthNow_29 ⟨Nat.zero_le _, Nat.zero_le _⟩) ?_
      refine lv_if_ne (tgt := 39) hx hb dX6_depthNow_32 (by decide) (fun c_32 => ?_) (fun c_32 => ?_)
      · refine lv_dconst1 hx hb dX6_depthNow_39 ?_
        refine lv_iload_n hx hb dX6_depthNow_40 rfl (lv_at hl 1 rfl) ?_
        refine lv_i2d hx hb dX6_depthNow_41 ?_
        refine lv_dmul hx hb dX6_depthNow_42 (by rw [fp_mul1]; exact fp_nn _) ?_
        refine z_topd (y := FP.i2d (qDep (qV z j1))) (fp_mul1 _) ?_
        refine lv_aload_n hx hb dX6_depthNow_43 rfl (lv_at hl 2 rfl) ?_
        refine lv_iload_n hx hb dX6_depthNow_44 rfl (lv_at hl 3 rfl) ?_
        refine z_ci (z_vrun (rest := [.double (FP.i2d (qDep (qV z j1)))]) (own := RX6) (As := [.int (nI (j1))]) hx hb hml hown hts hl.1 hK hP [0, 1] rfl (metX6_inJar l D ac m0 z0 sd0 tx0 as0 rd0 th sv ln stp po tl hh z j1 (by omega)) gX6_depthNow_X6_inJar rfl 1 (by decide +kernel) ⟨rfl, rfl, Nat.le_of_ble_eq_true rfl, Nat.le_of_ble_eq_true rfl⟩ 0 6 rfl rfl rfl rfl rfl (Nat.le_of_ble_eq_true rfl) dX6_depthNow_45 ⟨Nat.zero_le _, Nat.zero_le _⟩) ?_
        refine lv_i2d hx hb dX6_depthNow_48 ?_
        refine lv_ddiv hx hb dX6_depthNow_49 (fp_nn_div _ c_32) ?_
        exact z_dret hx hb hr hlocks ((if_neg c_32).symm) dX6_depthNow_50
      · refine lv_dconst0 hx hb dX6_depthNow_35 ?_
        refine lv_goto (tgt := 50) hx hb dX6_depthNow_36 (by decide) ?_
        exact z_dret hx hb hr hlocks ((if_pos c_32).symm) dX6_depthNow_50
    | succ n ih =>
      intro i hi ls hl
      refine lv_iload_n hx hb dX6_depthNow_4 rfl (lv_at hl 0 rfl) ?_
      refine lv_bipush (v := 12) hx hb dX6_depthNow_5 (by decide) ?_
      refine z_icmp_ge (tgt := 27) hx hb (i) (12) dX6_depthNow_7 (by decide) (by omega) (by omega) rfl rfl (fun c_7 => absurd c_7 (by omega)) (fun c_7 => ?_)
      refine lv_iload_n hx hb dX6_depthNow_10 rfl (lv_at hl 1 rfl) ?_
      refine lv_iload_n hx hb dX6_depthNow_11 rfl (lv_at hl 0 rfl) ?_
      refine lv_aload_n hx hb dX6_depthNow_12 rfl (lv_at hl 2 rfl) ?_
      refine lv_iload_n hx hb dX6_depthNow_13 rfl (lv_at hl 3 rfl) ?_
      refine lv_iload_n hx hb dX6_depthNow_14 rfl (lv_at hl 0 rfl) ?_
      refine z_ci (z_vrun (rest := [.int (nI (i)), .int (qS (fun s => nI s * qIn (qV z j1) s) i)]) (own := RX6) (As := [.int (nI (j1)), .int (nI (i))]) hx hb hml hown hts hl.1 hK hP [0, 1] rfl (metX6_inSlice l D ac m0 z0 sd0 tx0 as0 rd0 th sv ln stp po tl hh z j1 i (by omega) (by omega)) gX6_depthNow_X6_inSlice rfl 2 (by decide +kernel) ⟨rfl, rfl, Nat.le_of_ble_eq_true rfl, Nat.le_of_ble_eq_true rfl⟩ 0 6 rfl rfl rfl rfl rfl (Nat.le_of_ble_eq_true rfl) dX6_depthNow_15 ⟨Nat.zero_le _, Nat.zero_le _⟩) ?_
      refine lv_imul hx hb dX6_depthNow_18 ?_
      refine lv_iadd hx hb dX6_depthNow_19 ?_
      refine lv_istore_n (lv' := [(2, .int ((qS (fun s => nI s * qIn (qV z j1) s) i) + ((nI (i)) * (qIn (qV z j1) i)))), (3, .int (nI (i))), (0, .ref (m0)), (1, .int (nI (j1)))]) hx hb dX6_depthNow_20 rfl hl (by decide) rfl (fun ls hl => ?_)
      refine lv_iinc (v := nI ((i) + 1)) (lv' := [(3, .int (nI ((i) + 1))), (2, .int ((qS (fun s => nI s * qIn (qV z j1) s) i) + ((nI (i)) * (qIn (qV z j1) i)))), (0, .ref (m0)), (1, .int (nI (j1)))]) hx hb dX6_depthNow_21 hl (k := 1) rfl (show nI (i) + Int32.ofInt 1 = _ from nI_add (i) 1) (by decide) rfl (fun ls hl => ?_)
      refine lv_goto (tgt := 4) hx hb dX6_depthNow_24 (by decide) ?_
      exact ih (i + 1) (by omega) ls (lv_sub hl [0, 1, 2, 3] rfl)
  exact hL_4 (12) (0) (by omega) ls (lv_sub hl [0, 1, 2, 3] rfl)

