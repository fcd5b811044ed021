set_option maxRecDepth 100000 in
set_option maxHeartbeats 4000000 in
theorem metX6_leading (l : Launch) (D : va_G) (ac : Nat → ClassId) (m0 : Nat) (z0 : Nat) (sd0 : Nat) (tx0 : Nat) (as0 : Nat) (rd0 : Nat) (th : Int32) (sv : Nat) (ln : Nat) (stp : Nat) (po : Nat) (tl : Int32) (hh : Int64) (z : Nat → Int32) (j1 : Nat) (s1 : Nat) (hj : j1 < 3) (hs : s1 < 12) : Met l yX6_leading wsX6_leading ({ frames := 1, cells := 0, slots := 0, locals := 22 } : Room) (va_Pc [.ref (m0), .int (nI (j1)), .int (nI (s1))] (zW D ac [(m0, .inr (6, [.int (th), .ref (z0), .int (nI (sv)), .ref (sd0), .int (nI (ln)), .ref (tx0), .ref (as0), .int (nI (stp)), .int (nI (po)), .int (tl), .ref (rd0), .long (hh)])), (z0, .inl (ac 0, 162, .inl (z)))])) (zRi (qLead (qV z j1) s1)) 0 0 (fun _ => False) := by
  refine z_ro (cc := cX6_leading) (maxL := 7) (ret := (some .int)) (lv := [(0, .ref (m0)), (1, .int (nI (j1))), (2, .int (nI (s1)))]) (by decide) rfl (Nat.le_of_ble_eq_true rfl) rfl ?_
  intro p e s m args below meth c ls hx hb hr hml hown hts hlocks hl hK hP
  refine lv_iconst (v := (-1)) hx hb dX6_leading_0 (by decide) ?_
  refine lv_istore_n (lv' := [(3, .int ((-1))), (0, .ref (m0)), (1, .int (nI (j1))), (2, .int (nI (s1)))]) hx hb dX6_leading_1 rfl hl (by decide) rfl (fun ls hl => ?_)
  refine lv_iconst (v := 0) hx hb dX6_leading_2 (by decide) ?_
  refine lv_istore (lv' := [(4, .int (0)), (3, .int ((-1))), (0, .ref (m0)), (1, .int (nI (j1))), (2, .int (nI (s1)))]) hx hb dX6_leading_3 hl (by decide) rfl (fun ls hl => ?_)
  refine lv_iconst (v := 0) hx hb dX6_leading_5 (by decide) ?_
  refine lv_istore (lv' := [(5, .int (0)), (4, .int (0)), (3, .int ((-1))), (0, .ref (m0)), (1, .int (nI (j1))), (2, .int (nI (s1)))]) hx hb dX6_leading_6 hl (by decide) rfl (fun ls hl => ?_)
  have hL_8 : ∀ (n : Nat) (i : Nat), (i + n = 4) → ∀ (ls : Array Slot), lv_has ls 7 [(5, .int (nI (i))), (4, .int ((qLd (fun c => qV z j1 (4 * s1 + c)) i).2)), (3, .int ((qLd (fun c => qV z j1 (4 * s1 + c)) i).1)), (0, .ref (m0)), (1, .int (nI (j1))), (2, .int (nI (s1)))] → W p l e ({ frames := 1, cells := 0, slots := 0, locals := 22 } : Room) s m args below meth c s.heap [] 0 0 (MQ below (zRi (qLead (qV z j1) s1)) args s 0 0 (fun _ => False)) (F0 m 8 ls []) := by
    intro n
    induction n with
    | zero =>
      intro i hi ls hl
      have e_i : 4 = i := by omega
      subst e_i
      refine lv_iload hx hb dX6_leading_8 (lv_at hl 0 rfl) ?_
      refine lv_iconst (v := 4) hx hb dX6_leading_10 (by decide) ?_
      refine z_icmp_ge (tgt := 64) hx hb (4) (4) dX6_leading_11 (by decide) (by omega) (by omega) rfl rfl (fun c_11 => ?_) (fun c_11 => absurd c_11 (by omega))
      refine lv_iload_n hx hb dX6_leading_64 rfl (lv_at hl 2 rfl) ?_
      exact z_iret hx hb hr hlocks (rfl) dX6_leading_65
    | succ n ih =>
      intro i hi ls hl
      refine lv_iload hx hb dX6_leading_8 (lv_at hl 0 rfl) ?_
      refine lv_iconst (v := 4) hx hb dX6_leading_10 (by decide) ?_
      refine z_icmp_ge (tgt := 64) hx hb (i) (4) dX6_leading_11 (by decide) (by omega) (by omega) rfl rfl (fun c_11 => absurd c_11 (by omega)) (fun c_11 => ?_)
      refine lv_aload_n hx hb dX6_leading_14 rfl (lv_at hl 3 rfl) ?_
      refine va_get (ci := 6) (v := .ref (z0)) (C := RX6) (T := TX6) (N := 12) hx hb hts (by decide +kernel) hown hK hP 0 rfl rfl 1 (by decide) (hts (.fieldLink RX6 7 "SettlingJarsModel" "z" "[I") (by decide +kernel)) (fun _ h9 => h9) rfl dX6_leading_15 ?_
      refine lv_iload_n hx hb dX6_leading_18 rfl (lv_at hl 4 rfl) ?_
      refine lv_iload_n hx hb dX6_leading_19 rfl (lv_at hl 5 rfl) ?_
      refine lv_iload hx hb dX6_leading_20 (lv_at hl 0 rfl) ?_
      refine z_ci (z_srun (rest := [.ref (z0)]) (own := RX6) (As := [.int (nI (j1)), .int (nI (s1)), .int (nI (i))]) hx hb hml hown hts hl.1 hK hP [] rfl (metX6_place l D ac j1 s1 i ) gX6_leading_X6_place rfl 3 (by decide +kernel) ⟨rfl, rfl, Nat.le_of_ble_eq_true rfl, Nat.le_of_ble_eq_true rfl⟩ rfl rfl (Nat.le_of_ble_eq_true rfl) dX6_leading_22 ⟨Nat.zero_le _, Nat.zero_le _⟩) ?_
      refine z_iald hx hb hK hP 1 rfl (48 * j1 + (4 * s1 + i)) (congrArg nI (by omega)) (by omega) (by decide) dX6_leading_25 ?_
      refine lv_istore (lv' := [(6, .int (z (48 * j1 + (4 * s1 + i)))), (5, .int (nI (i))), (4, .int ((qLd (fun c => qV z j1 (4 * s1 + c)) i).2)), (3, .int ((qLd (fun c => qV z j1 (4 * s1 + c)) i).1)), (0, .ref (m0)), (1, .int (nI (j1))), (2, .int (nI (s1)))]) hx hb dX6_leading_26 hl (by decide) rfl (fun ls hl => ?_)
      refine lv_iload hx hb dX6_leading_28 (lv_at hl 0 rfl) ?_
      refine lv_iload hx hb dX6_leading_30 (lv_at hl 2 rfl) ?_
      refine lv_icmp_le (tgt := 40) hx hb dX6_leading_32 (by decide) (fun c_32 => ?_) (fun c_32 => ?_)
      · refine lv_iload_n hx hb dX6_leading_40 rfl (lv_at hl 3 rfl) ?_
        refine lv_istore_n (lv' := [(3, .int ((qLd (fun c => qV z j1 (4 * s1 + c)) i).1)), (6, .int (z (48 * j1 + (4 * s1 + i)))), (5, .int (nI (i))), (4, .int ((qLd (fun c => qV z j1 (4 * s1 + c)) i).2)), (0, .ref (m0)), (1, .int (nI (j1))), (2, .int (nI (s1)))]) hx hb dX6_leading_41 rfl hl (by decide) rfl (fun ls hl => ?_)
        refine lv_iload hx hb dX6_leading_42 (lv_at hl 1 rfl) ?_
        refine lv_iload hx hb dX6_leading_44 (lv_at hl 3 rfl) ?_
        refine lv_icmp_le (tgt := 54) hx hb dX6_leading_46 (by decide) (fun c_46 => ?_) (fun c_46 => absurd c_46 (fun q => q c_32))
        refine lv_iload hx hb dX6_leading_54 (lv_at hl 3 rfl) ?_
        refine lv_istore (lv' := [(4, .int ((qLd (fun c => qV z j1 (4 * s1 + c)) i).2)), (3, .int ((qLd (fun c => qV z j1 (4 * s1 + c)) i).1)), (6, .int (z (48 * j1 + (4 * s1 + i)))), (5, .int (nI (i))), (0, .ref (m0)), (1, .int (nI (j1))), (2, .int (nI (s1)))]) hx hb dX6_leading_56 hl (by decide) rfl (fun ls hl => ?_)
        refine lv_iinc (v := nI ((i) + 1)) (lv' := [(5, .int (nI ((i) + 1))), (4, .int ((qLd (fun c => qV z j1 (4 * s1 + c)) i).2)), (3, .int ((qLd (fun c => qV z j1 (4 * s1 + c)) i).1)), (6, .int (z (48 * j1 + (4 * s1 + i)))), (0, .ref (m0)), (1, .int (nI (j1))), (2, .int (nI (s1)))]) hx hb dX6_leading_58 hl (k := 3) rfl (show nI (i) + Int32.ofInt 1 = _ from nI_add (i) 1) (by decide) rfl (fun ls hl => ?_)
        refine lv_goto (tgt := 8) hx hb dX6_leading_61 (by decide) ?_
        have e1 : qLd (fun c => qV z j1 (4 * s1 + c)) (i + 1) = qLd (fun c => qV z j1 (4 * s1 + c)) i := if_neg (Int32.not_lt.mpr c_32)
        exact ih (i + 1) (by omega) ls (by first | (rw [e1]; exact lv_sub hl [0, 1, 2, 4, 5, 6] rfl) | exact lv_sub hl [0, 1, 2, 4, 5, 6] rfl)
      · refine lv_iload hx hb dX6_leading_35 (lv_at hl 1 rfl) ?_
        refine lv_goto (tgt := 41) hx hb dX6_leading_37 (by decide) ?_
        refine lv_istore_n (lv' := [(3, .int (nI (i))), (6, .int (z (48 * j1 + (4 * s1 + i)))), (5, .int (nI (i))), (4, .int ((qLd (fun c => qV z j1 (4 * s1 + c)) i).2)), (0, .ref (m0)), (1, .int (nI (j1))), (2, .int (nI (s1)))]) hx hb dX6_leading_41 rfl hl (by decide) rfl (fun ls hl => ?_)
        refine lv_iload hx hb dX6_leading_42 (lv_at hl 1 rfl) ?_
        refine lv_iload hx hb dX6_leading_44 (lv_at hl 3 rfl) ?_
        refine lv_icmp_le (tgt := 54) hx hb dX6_leading_46 (by decide) (fun c_46 => absurd c_46 (c_32)) (fun c_46 => ?_)
        refine lv_iload hx hb dX6_leading_49 (lv_at hl 1 rfl) ?_
        refine lv_goto (tgt := 56) hx hb dX6_leading_51 (by decide) ?_
        refine lv_istore (lv' := [(4, .int (z (48 * j1 + (4 * s1 + i)))), (3, .int (nI (i))), (6, .int (z (48 * j1 + (4 * s1 + i)))), (5, .int (nI (i))), (0, .ref (m0)), (1, .int (nI (j1))), (2, .int (nI (s1)))]) hx hb dX6_leading_56 hl (by decide) rfl (fun ls hl => ?_)
        refine lv_iinc (v := nI ((i) + 1)) (lv' := [(5, .int (nI ((i) + 1))), (4, .int (z (48 * j1 + (4 * s1 + i)))), (3, .int (nI (i))), (6, .int (z (48 * j1 + (4 * s1 + i)))), (0, .ref (m0)), (1, .int (nI (j1))), (2, .int (nI (s1)))]) hx hb dX6_leading_58 hl (k := 3) rfl (show nI (i) + Int32.ofInt 1 = _ from nI_add (i) 1) (by decide) rfl (fun ls hl => ?_)
        refine lv_goto (tgt := 8) hx hb dX6_leading_61 (by decide) ?_
        have e1 : qLd (fun c => qV z j1 (4 * s1 + c)) (i + 1) = (nI i, qV z j1 (4 * s1 + i)) := if_pos (Int32.not_le.mp c_32)
        exact ih (i + 1) (by omega) ls (by first | (rw [e1]; exact lv_sub hl [0, 1, 2, 4, 5, 6] rfl) | exact lv_sub hl [0, 1, 2, 4, 5, 6] rfl)
  exact hL_8 (4) (0) (by omega) ls (lv_sub hl [0, 1, 2, 3, 4, 5] rfl)

set_option maxRecDepth 100000 in
set_option maxHeartbeats 4000000 in
theorem metX6_inBed (l : Launch) (D : va_G) (ac : Nat → ClassId) (m0 : Nat) (z0 : Nat) (sd0 : Nat) (tx0 : Nat) (as0 : Nat) (rd0 : Nat) (th : Int32) (sv : Nat) (ln : Nat) (stp : Nat) (po : Nat) (tl : Int32) (hh : Int64) (z : Nat → Int32) (j1 : Nat) (hj : j1 < 3) : Met l yX6_inBed wsX6_inBed ({ frames := 4, cells := 0, slots := 0, locals := 90 } : Room) (va_Pc [.ref (m0), .int (nI (j1))] (zW D ac [(m0, .inr (6, [.int (th), .ref (z0), .int (nI (sv)), .ref (sd0), .int (nI (ln)), .ref (tx0), .ref (as0), .int (nI (stp)), .int (nI (po)), .int (tl), .ref (rd0), .long (hh)])), (z0, .inl (ac 0, 162, .inl (z)))])) (zRi (mIn z j1 (mBed z j1))) 0 0 (fun _ => False) := by
  refine z_ro (cc := cX6_inBed) (maxL := 4) (ret := (some .int)) (lv := [(0, .ref (m0)), (1, .int (nI (j1)))]) (by decide) rfl (Nat.le_of_ble_eq_true rfl) rfl ?_
  intro p e s m args below meth c ls hx hb hr hml hown hts hlocks hl hK hP
  have hb9 : mBed z j1 ≤ 12 := q_bed_le _ _
  refine lv_iconst (v := 0) hx hb dX6_inBed_0 (by decide) ?_
  refine lv_istore_n (lv' := [(2, .int (0)), (0, .ref (m0)), (1, .int (nI (j1)))]) hx hb dX6_inBed_1 rfl hl (by decide) rfl (fun ls hl => ?_)
  refine lv_bipush (v := 12) hx hb dX6_inBed_2 (by decide) ?_
  refine lv_aload_n hx hb dX6_inBed_4 rfl (lv_at hl 1 rfl) ?_
  refine lv_iload_n hx hb dX6_inBed_5 rfl (lv_at hl 2 rfl) ?_
  refine z_ci (z_vrun (rest := [.int (12)]) (own := RX6) (As := [.int (nI (j1))]) hx hb hml hown hts hl.1 hK hP [0, 1] rfl (metX6_bed l D ac m0 z0 sd0 tx0 as0 rd0 th sv ln stp po tl hh z j1 (by omega)) gX6_inBed_X6_bed rfl 1 (by decide +kernel) ⟨rfl, rfl, Nat.le_of_ble_eq_true rfl, Nat.le_of_ble_eq_true rfl⟩ 0 6 rfl rfl rfl rfl rfl (Nat.le_of_ble_eq_true rfl) dX6_inBed_6 ⟨Nat.zero_le _, Nat.zero_le _⟩) ?_
  refine lv_isub hx hb dX6_inBed_9 ?_
  refine z_top (y := nI ((12) - (mBed z j1))) (pk_sub (a := 12) (b := mBed z j1) (by omega)) ?_
  refine lv_istore_n (lv' := [(3, .int (nI ((12) - (mBed z j1)))), (2, .int (0)), (0, .ref (m0)), (1, .int (nI (j1)))]) hx hb dX6_inBed_10 rfl hl (by decide) rfl (fun ls hl => ?_)
  have hL_11 : ∀ (n : Nat) (i : Nat), (i + n = mBed z j1) → ∀ (ls : Array Slot), lv_has ls 4 [(3, .int (nI (12 - mBed z j1 + i))), (2, .int (mIn z j1 i)), (0, .ref (m0)), (1, .int (nI (j1)))] → W p l e ({ frames := 4, cells := 0, slots := 0, locals := 90 } : Room) s m args below meth c s.heap [] 0 0 (MQ below (zRi (mIn z j1 (mBed z j1))) args s 0 0 (fun _ => False)) (F0 m 11 ls []) := by
    intro n
    induction n with
    | zero =>
      intro i hi ls hl
      have e_i : mBed z j1 = i := by omega
      subst e_i
      refine lv_iload_n hx hb dX6_inBed_11 rfl (lv_at hl 0 rfl) ?_
      refine lv_bipush (v := 12) hx hb dX6_inBed_12 (by decide) ?_
      refine z_icmp_ge (tgt := 32) hx hb (12 - mBed z j1 + (mBed z j1)) (12) dX6_inBed_14 (by decide) (by omega) (by omega) rfl rfl (fun c_14 => ?_) (fun c_14 => absurd c_14 (by omega))
      refine lv_iload_n hx hb dX6_inBed_32 rfl (lv_at hl 1 rfl) ?_
      exact z_iret hx hb hr hlocks (rfl) dX6_inBed_33
    | succ n ih =>
      intro i hi ls hl
      refine lv_iload_n hx hb dX6_inBed_11 rfl (lv_at hl 0 rfl) ?_
      refine lv_bipush (v := 12) hx hb dX6_inBed_12 (by decide) ?_
      refine z_icmp_ge (tgt := 32) hx hb (12 - mBed z j1 + i) (12) dX6_inBed_14 (by decide) (by omega) (by omega) rfl rfl (fun c_14 => absurd c_14 (by omega)) (fun c_14 => ?_)
      refine lv_iload_n hx hb dX6_inBed_17 rfl (lv_at hl 1 rfl) ?_
      refine lv_aload_n hx hb dX6_inBed_18 rfl (lv_at hl 2 rfl) ?_
      refine lv_iload_n hx hb dX6_inBed_19 rfl (lv_at hl 3 rfl) ?_
      refine lv_iload_n hx hb dX6_inBed_20 rfl (lv_at hl 0 rfl) ?_
      refine z_ci (z_vrun (rest := [.int (mIn z j1 i)]) (own := RX6) (As := [.int (nI (j1)), .int (nI (12 - mBed z j1 + i))]) hx hb hml hown hts hl.1 hK hP [0, 1] rfl (metX6_inSlice l D ac m0 z0 sd0 tx0 as0 rd0 th sv ln stp po tl hh z j1 (12 - mBed z j1 + i) (by omega) (by omega)) gX6_inBed_X6_inSlice rfl 2 (by decide +kernel) ⟨rfl, rfl, Nat.le_of_ble_eq_true rfl, Nat.le_of_ble_eq_true rfl⟩ 0 6 rfl rfl rfl rfl rfl (Nat.le_of_ble_eq_true rfl) dX6_inBed_21 ⟨Nat.zero_le _, Nat.zero_le _⟩) ?_
      refine lv_iadd hx hb dX6_inBed_24 ?_
      refine lv_istore_n (lv' := [(2, .int ((mIn z j1 i) + (qIn (qV z j1) (12 - mBed z j1 + i)))), (3, .int (nI (12 - mBed z j1 + i))), (0, .ref (m0)), (1, .int (nI (j1)))]) hx hb dX6_inBed_25 rfl hl (by decide) rfl (fun ls hl => ?_)
      refine lv_iinc (v := nI ((12 - mBed z j1 + i) + 1)) (lv' := [(3, .int (nI ((12 - mBed z j1 + i) + 1))), (2, .int ((mIn z j1 i) + (qIn (qV z j1) (12 - mBed z j1 + i)))), (0, .ref (m0)), (1, .int (nI (j1)))]) hx hb dX6_inBed_26 hl (k := 1) rfl (show nI (12 - mBed z j1 + i) + Int32.ofInt 1 = _ from nI_add (12 - mBed z j1 + i) 1) (by decide) rfl (fun ls hl => ?_)
      refine lv_goto (tgt := 11) hx hb dX6_inBed_29 (by decide) ?_
      exact ih (i + 1) (by omega) ls (lv_sub hl [0, 1, 2, 3] rfl)
  exact hL_11 (mBed z j1) (0) (by omega) ls (lv_sub hl [0, 1, 2, 3] rfl)

set_option maxRecDepth 100000 in
set_option maxHeartbeats 4000000 in
theorem metX6_changes (l : Launch) (D : va_G) (ac : Nat → ClassId) (m0 : Nat) (z0 : Nat) (sd0 : Nat) (tx0 : Nat) (as0 : Nat) (rd0 : Nat) (th : Int32) (sv : Nat) (ln : Nat) (stp : Nat) (po : Nat) (tl : Int32) (hh : Int64) (z : Nat → Int32) (j1 : Nat) (hj : j1 < 3) : Met l yX6_changes wsX6_changes ({ frames := 2, cells := 0, slots := 0, locals := 48 } : Room) (va_Pc [.ref (m0), .int (nI (j1))] (zW D ac [(m0, .inr (6, [.int (th), .ref (z0), .int (nI (sv)), .ref (sd0), .int (nI (ln)), .ref (tx0), .ref (as0), .int (nI (stp)), .int (nI (po)), .int (tl), .ref (rd0), .long (hh)])), (z0, .inl (ac 0, 162, .inl (z)))])) (zRi (qChg (qV z j1))) 0 0 (fun _ => False) := by
  refine z_ro (cc := cX6_changes) (maxL := 6) (ret := (some .int)) (lv := [(0, .ref (m0)), (1, .int (nI (j1)))]) (by decide) rfl (Nat.le_of_ble_eq_true rfl) rfl ?_
  intro p e s m args below meth c ls hx hb hr hml hown hts hlocks hl hK hP
  refine lv_iconst (v := 0) hx hb dX6_changes_0 (by decide) ?_
  refine lv_istore_n (lv' := [(2, .int (0)), (0, .ref (m0)), (1, .int (nI (j1)))]) hx hb dX6_changes_1 rfl hl (by decide) rfl (fun ls hl => ?_)
  refine lv_iconst (v := (-1)) hx hb dX6_changes_2 (by decide) ?_
  refine lv_istore_n (lv' := [(3, .int ((-1))), (2, .int (0)), (0, .ref (m0)), (1, .int (nI (j1)))]) hx hb dX6_changes_3 rfl hl (by decide) rfl (fun ls hl => ?_)
  refine lv_iconst (v := 0) hx hb dX6_changes_4 (by decide) ?_
  refine lv_istore (lv' := [(4, .int (0)), (3, .int ((-1))), (2, .int (0)), (0, .ref (m0)), (1, .int (nI (j1)))]) hx hb dX6_changes_5 hl (by decide) rfl (fun ls hl => ?_)
  have hL_7 : ∀ (n : Nat) (i : Nat), (i + n = 12) → ∀ (ls : Array Slot), lv_has ls 6 [(4, .int (nI (i))), (3, .int ((qCh (qLead (qV z j1)) i).2)), (2, .int ((qCh (qLead (qV z j1)) i).1)), (0, .ref (m0)), (1, .int (nI (j1)))] → W p l e ({ frames := 2, cells := 0, slots := 0, locals := 48 } : Room) s m args below meth c s.heap [] 0 0 (MQ below (zRi (qChg (qV z j1))) args s 0 0 (fun _ => False)) (F0 m 7 ls []) := by
    intro n
    induction n with
    | zero =>
      intro i hi ls hl
      have e_i : 12 = i := by omega
      subst e_i
      refine lv_iload hx hb dX6_changes_7 (lv_at hl 0 rfl) ?_
      refine lv_bipush (v := 12) hx hb dX6_changes_9 (by decide) ?_
      refine z_icmp_ge (tgt := 67) hx hb (12) (12) dX6_changes_11 (by decide) (by omega) (by omega) rfl rfl (fun c_11 => ?_) (fun c_11 => absurd c_11 (by omega))
      refine lv_iload_n hx hb dX6_changes_67 rfl (lv_at hl 2 rfl) ?_
      exact z_iret hx hb hr hlocks (rfl) dX6_changes_68
    | succ n ih =>
      intro i hi ls hl
      refine lv_iload hx hb dX6_changes_7 (lv_at hl 0 rfl) ?_
      refine lv_bipush (v := 12) hx hb dX6_changes_9 (by decide) ?_
      refine z_icmp_ge (tgt := 67) hx hb (i) (12) dX6_changes_11 (by decide) (by omega) (by omega) rfl rfl (fun c_11 => absurd c_11 (by omega)) (fun c_11 => ?_)
      refine lv_aload_n hx hb dX6_changes_14 rfl (lv_at hl 3 rfl) ?_
      refine lv_iload_n hx hb dX6_changes_15 rfl (lv_at hl 4 rfl) ?_
      refine lv_iload hx hb dX6_changes_16 (lv_at hl 0 rfl) ?_
      refine z_ci (z_vrun (rest := []) (own := RX6) (As := [.int (nI (j1)), .int (nI (i))]) hx hb hml hown hts hl.1 hK hP [0, 1] rfl (metX6_leading l D ac m0 z0 sd0 tx0 as0 rd0 th sv ln stp po tl hh z j1 i (by omega) (by omega)) gX6_changes_X6_leading rfl 2 (by decide +kernel) ⟨rfl, rfl, Nat.le_of_ble_eq_true rfl, Nat.le_of_ble_eq_true rfl⟩ 0 6 rfl rfl rfl rfl rfl (Nat.le_of_ble_eq_true rfl) dX6_changes_18 ⟨Nat.zero_le _, Nat.zero_le _⟩) ?_
      refine lv_istore (lv' := [(5, .int (qLead (qV z j1) i)), (4, .int (nI (i))), (3, .int ((qCh (qLead (qV z j1)) i).2)), (2, .int ((qCh (qLead (qV z j1)) i).1)), (0, .ref (m0)), (1, .int (nI (j1)))]) hx hb dX6_changes_21 hl (by decide) rfl (fun ls hl => ?_)
      refine lv_iload_n hx hb dX6_changes_23 rfl (lv_at hl 3 rfl) ?_
      refine lv_iload hx hb dX6_changes_24 (lv_at hl 0 rfl) ?_
      refine lv_iconst (v := (-1)) hx hb dX6_changes_26 (by decide) ?_
      refine lv_icmp_eq (tgt := 45) hx hb dX6_changes_27 (by decide) (fun c_27 => ?_) (fun c_27 => ?_)
      · refine lv_iconst (v := 0) hx hb dX6_changes_45 (by decide) ?_
        refine lv_iadd hx hb dX6_changes_46 ?_
        refine lv_istore_n (lv' := [(2, .int (((qCh (qLead (qV z j1)) i).1) + (0))), (5, .int (qLead (qV z j1) i)), (4, .int (nI (i))), (3, .int ((qCh (qLead (qV z j1)) i).2)), (0, .ref (m0)), (1, .int (nI (j1)))]) hx hb dX6_changes_47 rfl hl (by decide) rfl (fun ls hl => ?_)
        refine lv_iload hx hb dX6_changes_48 (lv_at hl 1 rfl) ?_
        refine lv_iconst (v := (-1)) hx hb dX6_changes_50 (by decide) ?_
        refine lv_icmp_ne (tgt := 58) hx hb dX6_changes_51 (by decide) (fun c_51 => absurd c_51 (fun q => q c_27)) (fun c_51 => ?_)
        refine lv_iload_n hx hb dX6_changes_54 rfl (lv_at hl 3 rfl) ?_
        refine lv_goto (tgt := 60) hx hb dX6_changes_55 (by decide) ?_
        refine lv_istore_n (lv' := [(3, .int ((qCh (qLead (qV z j1)) i).2)), (2, .int (((qCh (qLead (qV z j1)) i).1) + (0))), (5, .int (qLead (qV z j1) i)), (4, .int (nI (i))), (0, .ref (m0)), (1, .int (nI (j1)))]) hx hb dX6_changes_60 rfl hl (by decide) rfl (fun ls hl => ?_)
        refine lv_iinc (v := nI ((i) + 1)) (lv' := [(4, .int (nI ((i) + 1))), (3, .int ((qCh (qLead (qV z j1)) i).2)), (2, .int (((qCh (qLead (qV z j1)) i).1) + (0))), (5, .int (qLead (qV z j1) i)), (0, .ref (m0)), (1, .int (nI (j1)))]) hx hb dX6_changes_61 hl (k := 3) rfl (show nI (i) + Int32.ofInt 1 = _ from nI_add (i) 1) (by decide) rfl (fun ls hl => ?_)
        refine lv_goto (tgt := 7) hx hb dX6_changes_64 (by decide) ?_
        have e1 : qCh (qLead (qV z j1)) (i + 1) = ((qCh (qLead (qV z j1)) i).1 + 0, (qCh (qLead (qV z j1)) i).2) := by rw [qCh, if_neg (fun q => q.1 c_27), if_neg (fun q => q c_27), Int32.add_zero]
        exact ih (i + 1) (by omega) ls (by first | (rw [e1]; exact lv_sub hl [0, 1, 2, 4, 5] rfl) | exact lv_sub hl [0, 1, 2, 4, 5] rfl)
      · refine lv_iload_n hx hb dX6_changes_30 rfl (lv_at hl 2 rfl) ?_
        refine lv_iconst (v := (-1)) hx hb dX6_changes_31 (by decide) ?_
        refine lv_icmp_eq (tgt := 45) hx hb dX6_changes_32 (by decide) (fun c_32 => ?_) (fun c_32 => ?_)
        · refine lv_iconst (v := 0) hx hb dX6_changes_45 (by decide) ?_
          refine lv_iadd hx hb dX6_changes_46 ?_
          refine lv_istore_n (lv' := [(2, .int (((qCh (qLead (qV z j1)) i).1) + (0))), (5, .int (qLead (qV z j1) i)), (4, .int (nI (i))), (3, .int ((qCh (qLead (qV z j1)) i).2)), (0, .ref (m0)), (1, .int (nI (j1)))]) hx hb dX6_changes_47 rfl hl (by decide) rfl (fun ls hl => ?_)
          refine lv_iload hx hb dX6_changes_48 (lv_at hl 1 rfl) ?_
          refine lv_iconst (v := (-1)) hx hb dX6_changes_50 (by decide) ?_
          refine lv_icmp_ne (tgt := 58) hx hb dX6_changes_51 (by decide) (fun c_51 => ?_) (fun c_51 => absurd c_51 (c_27))
          refine lv_iload hx hb dX6_changes_58 (lv_at hl 1 rfl) ?_
          refine lv_istore_n (lv' := [(3, .int (qLead (qV z j1) i)), (2, .int (((qCh (qLead (qV z j1)) i).1) + (0))), (5, .int (qLead (qV z j1) i)), (4, .int (nI (i))), (0, .ref (m0)), (1, .int (nI (j1)))]) hx hb dX6_changes_60 rfl hl (by decide) rfl (fun ls hl => ?_)
          refine lv_iinc (v := nI ((i) + 1)) (lv' := [(4, .int (nI ((i) + 1))), (3, .int (qLead (qV z j1) i)), (2, .int (((qCh (qLead (qV z j1)) i).1) + (0))), (5, .int (qLead (qV z j1) i)), (0, .ref (m0)), (1, .int (nI (j1)))]) hx hb dX6_changes_61 hl (k := 3) rfl (show nI (i) + Int32.ofInt 1 = _ from nI_add (i) 1) (by decide) rfl (fun ls hl => ?_)
          refine lv_goto (tgt := 7) hx hb dX6_changes_64 (by decide) ?_
          have e1 : qCh (qLead (qV z j1)) (i + 1) = ((qCh (qLead (qV z j1)) i).1 + 0, qLead (qV z j1) i) := by rw [qCh, if_neg (fun q => q.2.1 c_32), if_pos c_27, Int32.add_zero]
          exact ih (i + 1) (by omega) ls (by first | (rw [e1]; exact lv_sub hl [0, 1, 2, 4, 5] rfl) | exact lv_sub hl [0, 1, 2, 4, 5] rfl)
        · refine lv_iload hx hb dX6_changes_35 (lv_at hl 0 rfl) ?_
          refine lv_iload_n hx hb dX6_changes_37 rfl (lv_at hl 2 rfl) ?_
          refine lv_icmp_eq (tgt := 45) hx hb dX6_changes_38 (by decide) (fun c_38 => ?_) (fun c_38 => ?_)
          · refine lv_iconst (v := 0) hx hb dX6_changes_45 (by decide) ?_
            refine lv_iadd hx hb dX6_changes_46 ?_
            refine lv_istore_n (lv' := [(2, .int (((qCh (qLead (qV z j1)) i).1) + (0))), (5, .int (qLead (qV z j1) i)), (4, .int (nI (i))), (3, .int ((qCh (qLead (qV z j1)) i).2)), (0, .ref (m0)), (1, .int (nI (j1)))]) hx hb dX6_changes_47 rfl hl (by decide) rfl (fun ls hl => ?_)
            refine lv_iload hx hb dX6_changes_48 (lv_at hl 1 rfl) ?_
            refine lv_iconst (v := (-1)) hx hb dX6_changes_50 (by decide) ?_
            refine lv_icmp_ne (tgt := 58) hx hb dX6_changes_51 (by decide) (fun c_51 => ?_) (fun c_51 => absurd c_51 (c_27))
            refine lv_iload hx hb dX6_changes_58 (lv_at hl 1 rfl) ?_
            refine lv_istore_n (lv' := [(3, .int (qLead (qV z j1) i)), (2, .int (((qCh (qLead (qV z j1)) i).1) + (0))), (5, .int (qLead (qV z j1) i)), (4, .int (nI (i))), (0, .ref (m0)), (1, .int (nI (j1)))]) hx hb dX6_changes_60 rfl hl (by decide) rfl (fun ls hl => ?_)
            refine lv_iinc (v := nI ((i) + 1)) (lv' := [(4, .int (nI ((i) + 1))), (3, .int (qLead (qV z j1) i)), (2, .int (((qCh (qLead (qV z j1)) i).1) + (0))), (5, .int (qLead (qV z j1) i)), (0, .ref (m0)), (1, .int (nI (j1)))]) hx hb dX6_changes_61 hl (k := 3) rfl (show nI (i) + Int32.ofInt 1 = _ from nI_add (i) 1) (by decide) rfl (fun ls hl => ?_)
            refine lv_goto (tgt := 7) hx hb dX6_changes_64 (by decide) ?_
            have e1 : qCh (qLead (qV z j1)) (i + 1) = ((qCh (qLead (qV z j1)) i).1 + 0, qLead (qV z j1) i) := by rw [qCh, if_neg (fun q => q.2.2 c_38), if_pos c_27, Int32.add_zero]
            exact ih (i + 1) (by omega) ls (by first | (rw [e1]; exact lv_sub hl [0, 1, 2, 4, 5] rfl) | exact lv_sub hl [0, 1, 2, 4, 5] rfl)
          · refine lv_iconst (v := 1) hx hb dX6_changes_41 (by decide) ?_
            refine lv_goto (tgt := 46) hx hb dX6_changes_42 (by decide) ?_
            refine lv_iadd hx hb dX6_changes_46 ?_
            refine lv_istore_n (lv' := [(2, .int (((qCh (qLead (qV z j1)) i).1) + (1))), (5, .int (qLead (qV z j1) i)), (4, .int (nI (i))), (3, .int ((qCh (qLead (qV z j1)) i).2)), (0, .ref (m0)), (1, .int (nI (j1)))]) hx hb dX6_changes_47 rfl hl (by decide) rfl (fun ls hl => ?_)
            refine lv_iload hx hb dX6_changes_48 (lv_at hl 1 rfl) ?_
            refine lv_iconst (v := (-1)) hx hb dX6_changes_50 (by decide) ?_
            refine lv_icmp_ne (tgt := 58) hx hb dX6_changes_51 (by decide) (fun c_51 => ?_) (fun c_51 => absurd c_51 (c_27))
            refine lv_iload hx hb dX6_changes_58 (lv_at hl 1 rfl) ?_
            refine lv_istore_n (lv' := [(3, .int (qLead (qV z j1) i)), (2, .int (((qCh (qLead (qV z j1)) i).1) + (1))), (5, .int (qLead (qV z j1) i)), (4, .int (nI (i))), (0, .ref (m0)), (1, .int (nI (j1)))]) hx hb dX6_changes_60 rfl hl (by decide) rfl (fun ls hl => ?_)
            refine lv_iinc (v := nI ((i) + 1)) (lv' := [(4, .int (nI ((i) + 1))), (3, .int (qLead (qV z j1) i)), (2, .int (((qCh (qLead (qV z j1)) i).1) + (1))), (5, .int (qLead (qV z j1) i)), (0, .ref (m0)), (1, .int (nI (j1)))]) hx hb dX6_changes_61 hl (k := 3) rfl (show nI (i) + Int32.ofInt 1 = _ from nI_add (i) 1) (by decide) rfl (fun ls hl => ?_)
            refine lv_goto (tgt := 7) hx hb dX6_changes_64 (by decide) ?_
            have e1 : qCh (qLead (qV z j1)) (i + 1) = ((qCh (qLead (qV z j1)) i).1 + 1, qLead (qV z j1) i) := by rw [qCh, if_pos ⟨c_27, c_32, c_38⟩, if_pos c_27]
            exact ih (i + 1) (by omega) ls (by first | (rw [e1]; exact lv_sub hl [0, 1, 2, 4, 5] rfl) | exact lv_sub hl [0, 1, 2, 4, 5] rfl)
  exact hL_7 (12) (0) (by omega) ls (lv_sub hl [0, 1, 2, 3, 4] rfl)

set_option maxRecDepth 100000 in
set_option maxHeartbeats 4000000 in
theorem metX6_packedIn (l : Launch) (D : va_G) (ac : Nat → ClassId) (m0 : Nat) (z0 : Nat) (sd0 : Nat) (tx0 : Nat) (as0 : Nat) (rd0 : Nat) (th : Int32) (sv : Nat) (ln : Nat) (stp : Nat) (po : Nat) (tl : Int32) (hh : Int64) (z : Nat → Int32) (j1 : Nat) (hj : j1 < 3) : Met l yX6_packedIn wsX6_packedIn ({ frames := 3, cells := 0, slots := 0, locals := 68 } : Room) (va_Pc [.ref (m0), .int (nI (j1))] (zW D ac [(m0, .inr (6, [.int (th), .ref (z0), .int (nI (sv)), .ref (sd0), .int (nI (ln)), .ref (tx0), .ref (as0), .int (nI (stp)), .int (nI (po)), .int (tl), .ref (rd0), .long (hh)])), (z0, .inl (ac 0, 162, .inl (z)))])) (zRi (qPkd (qV z j1) (z 145) 12)) 0 0 (fun _ => False) := by
  refine z_ro (cc := cX6_packedIn) (maxL := 4) (ret := (some .int)) (lv := [(0, .ref (m0)), (1, .int (nI (j1)))]) (by decide) rfl (Nat.le_of_ble_eq_true rfl) rfl ?_
  intro p e s m args below meth c ls hx hb hr hml hown hts hlocks hl hK hP
  refine lv_iconst (v := 0) hx hb dX6_packedIn_0 (by decide) ?_
  refine lv_istore_n (lv' := [(2, .int (0)), (0, .ref (m0)), (1, .int (nI (j1)))]) hx hb dX6_packedIn_1 rfl hl (by decide) rfl (fun ls hl => ?_)
  refine lv_iconst (v := 0) hx hb dX6_packedIn_2 (by decide) ?_
  refine lv_istore_n (lv' := [(3, .int (0)), (2, .int (0)), (0, .ref (m0)), (1, .int (nI (j1)))]) hx hb dX6_packedIn_3 rfl hl (by decide) rfl (fun ls hl => ?_)
  have hL_4 : ∀ (n : Nat) (i : Nat), (i + n = 12) → ∀ (ls : Array Slot), lv_has ls 4 [(3, .int (nI (i))), (2, .int (qPkd (qV z j1) (z 145) i)), (0, .ref (m0)), (1, .int (nI (j1)))] → W p l e ({ frames := 3, cells := 0, slots := 0, locals := 68 } : Room) s m args below meth c s.heap [] 0 0 (MQ below (zRi (qPkd (qV z j1) (z 145) 12)) args s 0 0 (fun _ => False)) (F0 m 4 ls []) := by
    intro n
    induction n with
    | zero =>
      intro i hi ls hl
      have e_i : 12 = i := by omega
      subst e_i
      refine lv_iload_n hx hb dX6_packedIn_4 rfl (lv_at hl 0 rfl) ?_
      refine lv_bipush (v := 12) hx hb dX6_packedIn_5 (by decide) ?_
      refine z_icmp_ge (tgt := 33) hx hb (12) (12) dX6_packedIn_7 (by decide) (by omega) (by omega) rfl rfl (fun c_7 => ?_) (fun c_7 => absurd c_7 (by omega))
      refine lv_iload_n hx hb dX6_packedIn_33 rfl (lv_at hl 1 rfl) ?_
      exact z_iret hx hb hr hlocks (rfl) dX6_packedIn_34
    | succ n ih =>
      intro i hi ls hl
      refine lv_iload_n hx hb dX6_packedIn_4 rfl (lv_at hl 0 rfl) ?_
      refine lv_bipush (v := 12) hx hb dX6_packedIn_5 (by decide) ?_
      refine z_icmp_ge (tgt := 33) hx hb (i) (12) dX6_packedIn_7 (by decide) (by omega) (by omega) rfl rfl (fun c_7 => absurd c_7 (by omega)) (fun c_7 => ?_)
      refine lv_iload_n hx hb dX6_packedIn_10 rfl (lv_at hl 1 rfl) ?_
      refine lv_aload_n hx hb dX6_packedIn_11 rfl (lv_at hl 2 rfl) ?_
      refine lv_iload_n hx hb dX6_packedIn_12 rfl (lv_at hl 3 rfl) ?_
      refine lv_iload_n hx hb dX6_packedIn_13 rfl (lv_at hl 0 rfl) ?_
      refine z_ci (z_vrun (rest := [.int (qPkd (qV z j1) (z 145) i)]) (own := RX6) (As := [.int (nI (j1)), .int (nI (i))]) hx hb hml hown hts hl.1 hK hP [0, 1] rfl (metX6_isPacked l D ac m0 z0 sd0 tx0 as0 rd0 th sv ln stp po tl hh z j1 i (by omega) (by omega)) gX6_packedIn_X6_isPacked rfl 2 (by decide +kernel) ⟨rfl, rfl, Nat.le_of_ble_eq_true rfl, Nat.le_of_ble_eq_true rfl⟩ 0 6 rfl rfl rfl rfl rfl (Nat.le_of_ble_eq_true rfl) dX6_packedIn_14 ⟨Nat.zero_le _, Nat.zero_le _⟩) ?_
      refine z_if_eq (C := z 145 ≤ qIn (qV z j1) i) (tgt := 24) hx hb dX6_packedIn_17 (by decide) (fun c_17 => ?_) (fun c_17 => ?_)
      · refine lv_iconst (v := 0) hx hb dX6_packedIn_24 (by decide) ?_
        refine lv_iadd hx hb dX6_packedIn_25 ?_
        refine lv_istore_n (lv' := [(2, .int ((qPkd (qV z j1) (z 145) i) + (0))), (3, .int (nI (i))), (0, .ref (m0)), (1, .int (nI (j1)))]) hx hb dX6_packedIn_26 rfl hl (by decide) rfl (fun ls hl => ?_)
        refine lv_iinc (v := nI ((i) + 1)) (lv' := [(3, .int (nI ((i) + 1))), (2, .int ((qPkd (qV z j1) (z 145) i) + (0))), (0, .ref (m0)), (1, .int (nI (j1)))]) hx hb dX6_packedIn_27 hl (k := 1) rfl (show nI (i) + Int32.ofInt 1 = _ from nI_add (i) 1) (by decide) rfl (fun ls hl => ?_)
        refine lv_goto (tgt := 4) hx hb dX6_packedIn_30 (by decide) ?_
        have e1 : qPkd (qV z j1) (z 145) (i + 1) = qPkd (qV z j1) (z 145) i + 0 := congrArg (fun x => qPkd (qV z j1) (z 145) i + x) (if_neg c_17)
        exact ih (i + 1) (by omega) ls (by first | (rw [e1]; exact lv_sub hl [0, 1, 2, 3] rfl) | exact lv_sub hl [0, 1, 2, 3] rfl)
      · refine lv_iconst (v := 1) hx hb dX6_packedIn_20 (by decide) ?_
        refine lv_goto (tgt := 25) hx hb dX6_packedIn_21 (by decide) ?_
        refine lv_iadd hx hb dX6_packedIn_25 ?_
        refine lv_istore_n (lv' := [(2, .int ((qPkd (qV z j1) (z 145) i) + (1))), (3, .int (nI (i))), (0, .ref (m0)), (1, .int (nI (j1)))]) hx hb dX6_packedIn_26 rfl hl (by decide) rfl (fun ls hl => ?_)
        refine lv_iinc (v := nI ((i) + 1)) (lv' := [(3, .int (nI ((i) + 1))), (2, .int ((qPkd (qV z j1) (z 145) i) + (1))), (0, .ref (m0)), (1, .int (nI (j1)))]) hx hb dX6_packedIn_27 hl (k := 1) rfl (show nI (i) + Int32.ofInt 1 = _ from nI_add (i) 1) (by decide) rfl (fun ls hl => ?_)
        refine lv_goto (tgt := 4) hx hb dX6_packedIn_30 (by decide) ?_
        have e1 : qPkd (qV z j1) (z 145) (i + 1) = qPkd (qV z j1) (z 145) i + 1 := congrArg (fun x => qPkd (qV z j1) (z 145) i + x) (if_pos c_17)
        exact ih (i + 1) (by omega) ls (by first | (rw [e1]; exact lv_sub hl [0, 1, 2, 3] rfl) | exact lv_sub hl [0, 1, 2, 3] rfl)
  exact hL_4 (12) (0) (by omega) ls (lv_sub hl [0, 1, 2, 3] rfl)

set_option maxRecDepth 100000 in
set_option maxHeartbeats 4000000 in
theorem metX6_clearAll (l : Launch) (D : va_G) (ac : Nat → ClassId) (m0 : Nat) (z0 : Nat) (sd0 : Nat) (tx0 : Nat) (as0 : Nat) (rd0 : Nat) (th : Int32) (sv : Nat) (ln : Nat) (stp : Nat) (po : Nat) (tl : Int32) (hh : Int64) (z : Nat → Int32)  : Met l yX6_clearAll wsX6_clearAll ({ frames := 3, cells := 0, slots := 0, locals := 68 } : Room) (va_Pc [.ref (m0)] (zW D ac [(m0, .inr (6, [.int (th), .ref (z0), .int (nI (sv)), .ref (sd0), .int (nI (ln)), .ref (tx0), .ref (as0), .int (nI (stp)), .int (nI (po)), .int (tl), .ref (rd0), .long (hh)])), (z0, .inl (ac 0, 162, .inl (z)))])) (zRi (mClr z 36)) 0 0 (fun _ => False) := by
  refine z_ro (cc := cX6_clearAll) (maxL := 3) (ret := (some .int)) (lv := [(0, .ref (m0))]) (by decide) rfl (Nat.le_of_ble_eq_true rfl) rfl ?_
  intro p e s m args below meth c ls hx hb hr hml hown hts hlocks hl hK hP
  refine lv_iconst (v := 0) hx hb dX6_clearAll_0 (by decide) ?_
  refine lv_istore_n (lv' := [(1, .int (0)), (0, .ref (m0))]) hx hb dX6_clearAll_1 rfl hl (by decide) rfl (fun ls hl => ?_)
  refine lv_iconst (v := 0) hx hb dX6_clearAll_2 (by decide) ?_
  refine lv_istore_n (lv' := [(2, .int (0)), (1, .int (0)), (0, .ref (m0))]) hx hb dX6_clearAll_3 rfl hl (by decide) rfl (fun ls hl => ?_)
  have hL_4 : ∀ (n : Nat) (i : Nat), (i + n = 36) → ∀ (ls : Array Slot), lv_has ls 3 [(2, .int (nI (i))), (1, .int (mClr z i)), (0, .ref (m0))] → W p l e ({ frames := 3, cells := 0, slots := 0, locals := 68 } : Room) s m args below meth c s.heap [] 0 0 (MQ below (zRi (mClr z 36)) args s 0 0 (fun _ => False)) (F0 m 4 ls []) := by
    intro n
    induction n with
    | zero =>
      intro i hi ls hl
      have e_i : 36 = i := by omega
      subst e_i
      refine lv_iload_n hx hb dX6_clearAll_4 rfl (lv_at hl 0 rfl) ?_
      refine lv_bipush (v := 36) hx hb dX6_clearAll_5 (by decide) ?_
      refine z_icmp_ge (tgt := 39) hx hb (36) (36) dX6_clearAll_7 (by decide) (by omega) (by omega) rfl rfl (fun c_7 => ?_) (fun c_7 => absurd c_7 (by omega))
      refine lv_iload_n hx hb dX6_clearAll_39 rfl (lv_at hl 1 rfl) ?_
      exact z_iret hx hb hr hlocks (rfl) dX6_clearAll_40
    | succ n ih =>
      intro i hi ls hl
      refine lv_iload_n hx hb dX6_clearAll_4 rfl (lv_at hl 0 rfl) ?_
      refine lv_bipush (v := 36) hx hb dX6_clearAll_5 (by decide) ?_
      refine z_icmp_ge (tgt := 39) hx hb (i) (36) dX6_clearAll_7 (by decide) (by omega) (by omega) rfl rfl (fun c_7 => absurd c_7 (by omega)) (fun c_7 => ?_)
      refine lv_iload_n hx hb dX6_clearAll_10 rfl (lv_at hl 1 rfl) ?_
      refine lv_aload_n hx hb dX6_clearAll_11 rfl (lv_at hl 2 rfl) ?_
      refine lv_iload_n hx hb dX6_clearAll_12 rfl (lv_at hl 0 rfl) ?_
      refine lv_bipush (v := 12) hx hb dX6_clearAll_13 (by decide) ?_
      refine lv_idiv hx hb dX6_clearAll_15 (by decide) ?_
      refine z_top (y := nI ((i) / (12))) (pk_div (a := i) (d := 12) (by omega) (by omega) (by omega)) ?_
      refine lv_iload_n hx hb dX6_clearAll_16 rfl (lv_at hl 0 rfl) ?_
      refine lv_bipush (v := 12) hx hb dX6_clearAll_17 (by decide) ?_
      refine lv_irem hx hb dX6_clearAll_19 (by decide) ?_
      refine z_top (y := nI ((i) % (12))) (pk_rem (a := i) (d := 12) (by omega) (by omega) (by omega)) ?_
      refine z_ci (z_vrun (rest := [.int (mClr z i)]) (own := RX6) (As := [.int (nI ((i) / (12))), .int (nI ((i) % (12)))]) hx hb hml hown hts hl.1 hK hP [0, 1] rfl (metX6_isClear l D ac m0 z0 sd0 tx0 as0 rd0 th sv ln stp po tl hh z ((i) / (12)) ((i) % (12)) (by omega) (by omega)) gX6_clearAll_X6_isClear rfl 2 (by decide +kernel) ⟨rfl, rfl, Nat.le_of_ble_eq_true rfl, Nat.le_of_ble_eq_true rfl⟩ 0 6 rfl rfl rfl rfl rfl (Nat.le_of_ble_eq_true rfl) dX6_clearAll_20 ⟨Nat.zero_le _, Nat.zero_le _⟩) ?_
      refine z_if_eq (C := qIn (qV z ((i) / (12))) ((i) % (12)) ≤ z 146) (tgt := 30) hx hb dX6_clearAll_23 (by decide) (fun c_23 => ?_) (fun c_23 => ?_)
      · refine lv_iconst (v := 0) hx hb dX6_clearAll_30 (by decide) ?_
        refine lv_iadd hx hb dX6_clearAll_31 ?_
        refine lv_istore_n (lv' := [(1, .int ((mClr z i) + (0))), (2, .int (nI (i))), (0, .ref (m0))]) hx hb dX6_clearAll_32 rfl hl (by decide) rfl (fun ls hl => ?_)
        refine lv_iinc (v := nI ((i) + 1)) (lv' := [(2, .int (nI ((i) + 1))), (1, .int ((mClr z i) + (0))), (0, .ref (m0))]) hx hb dX6_clearAll_33 hl (k := 1) rfl (show nI (i) + Int32.ofInt 1 = _ from nI_add (i) 1) (by decide) rfl (fun ls hl => ?_)
        refine lv_goto (tgt := 4) hx hb dX6_clearAll_36 (by decide) ?_
        have e1 : mClr z (i + 1) = mClr z i + 0 := congrArg (fun x => mClr z i + x) (if_neg c_23)
        exact ih (i + 1) (by omega) ls (by first | (rw [e1]; exact lv_sub hl [0, 1, 2] rfl) | exact lv_sub hl [0, 1, 2] rfl)
      · refine lv_iconst (v := 1) hx hb dX6_clearAll_26 (by decide) ?_
        refine lv_goto (tgt := 31) hx hb dX6_clearAll_27 (by decide) ?_
        refine lv_iadd hx hb dX6_clearAll_31 ?_
        refine lv_istore_n (lv' := [(1, .int ((mClr z i) + (1))), (2, .int (nI (i))), (0, .ref (m0))]) hx hb dX6_clearAll_32 rfl hl (by decide) rfl (fun ls hl => ?_)
        refine lv_iinc (v := nI ((i) + 1)) (lv' := [(2, .int (nI ((i) + 1))), (1, .int ((mClr z i) + (1))), (0, .ref (m0))]) hx hb dX6_clearAll_33 hl (k := 1) rfl (show nI (i) + Int32.ofInt 1 = _ from nI_add (i) 1) (by decide) rfl (fun ls hl => ?_)
        refine lv_goto (tgt := 4) hx hb dX6_clearAll_36 (by decide) ?_
        have e1 : mClr z (i + 1) = mClr z i + 1 := congrArg (fun x => mClr z i + x) (if_pos c_23)
        exact ih (i + 1) (by omega) ls (by first | (rw [e1]; exact lv_sub hl [0, 1, 2] rfl) | exact lv_sub hl [0, 1, 2] rfl)
  exact hL_4 (36) (0) (by omega) ls (lv_sub hl [0, 1, 2] rfl)

set_option maxRecDepth 100000 in
set_option maxHeartbeats 4000000 in
theorem metX6_whyNot (l : Launch) (D : va_G) (ac : Nat → ClassId) (m0 : Nat) (z0 : Nat) (sd0 : Nat) (tx0 : Nat) (as0 : Nat) (rd0 : Nat) (th : Int32) (sv : Nat) (ln : Nat) (stp : Nat) (po : Nat) (tl : Int32) (hh : Int64) (z : Nat → Int32) (j1 : Nat) (s1 : Nat) (k1 : Nat) (hj : j1 < 3) (hs : s1 < 12) (hk : k1 < 4) (hdiv : ¬ 1000 + qIn (qV z j1) s1 * z 144 / 10 = 0) : Met l yX6_whyNot wsX6_whyNot ({ frames := 3, cells := 0, slots := 0, locals := 69 } : Room) (va_Pc [.ref (m0), .int (nI (j1)), .int (nI (s1)), .int (nI (k1))] (zW D ac [(m0, .inr (6, [.int (th), .ref (z0), .int (nI (sv)), .ref (sd0), .int (nI (ln)), .ref (tx0), .ref (as0), .int (nI (stp)), .int (nI (po)), .int (tl), .ref (rd0), .long (hh)])), (z0, .inl (ac 0, 162, .inl (z)))])) (zRi (mWhy z j1 s1 k1)) 0 0 (fun _ => False) := by
  refine z_ro (cc := cX6_whyNot) (maxL := 4) (ret := (some .int)) (lv := [(0, .ref (m0)), (1, .int (nI (j1))), (2, .int (nI (s1))), (3, .int (nI (k1)))]) (by decide) rfl (Nat.le_of_ble_eq_true rfl) rfl ?_
  intro p e s m args below meth c ls hx hb hr hml hown hts hlocks hl hK hP
  refine lv_iload_n hx hb dX6_whyNot_0 rfl (lv_at hl 2 rfl) ?_
  refine lv_bipush (v := 11) hx hb dX6_whyNot_1 (by decide) ?_
  refine z_icmp_ne (tgt := 8) hx hb (s1) (11) dX6_whyNot_3 (by decide) (by omega) (by omega) rfl rfl (fun c_3 => ?_) (fun c_3 => ?_)
  · refine lv_aload_n hx hb dX6_whyNot_8 rfl (lv_at hl 0 rfl) ?_
    refine va_get (ci := 6) (v := .ref (z0)) (C := RX6) (T := TX6) (N := 12) hx hb hts (by decide +kernel) hown hK hP 0 rfl rfl 1 (by decide) (hts (.fieldLink RX6 7 "SettlingJarsModel" "z" "[I") (by decide +kernel)) (fun _ h9 => h9) rfl dX6_whyNot_9 ?_
    refine lv_iload_n hx hb dX6_whyNot_12 rfl (lv_at hl 1 rfl) ?_
    refine lv_iload_n hx hb dX6_whyNot_13 rfl (lv_at hl 2 rfl) ?_
    refine lv_iload_n hx hb dX6_whyNot_14 rfl (lv_at hl 3 rfl) ?_
    refine z_ci (z_srun (rest := [.ref (z0)]) (own := RX6) (As := [.int (nI (j1)), .int (nI (s1)), .int (nI (k1))]) hx hb hml hown hts hl.1 hK hP [] rfl (metX6_place l D ac j1 s1 k1 ) gX6_whyNot_X6_place rfl 3 (by decide +kernel) ⟨rfl, rfl, Nat.le_of_ble_eq_true rfl, Nat.le_of_ble_eq_true rfl⟩ rfl rfl (Nat.le_of_ble_eq_true rfl) dX6_whyNot_15 ⟨Nat.zero_le _, Nat.zero_le _⟩) ?_
    refine z_iald hx hb hK hP 1 rfl (48 * j1 + (4 * s1 + k1)) (congrArg nI (by omega)) (by omega) (by decide) dX6_whyNot_18 ?_
    refine lv_if_ne (tgt := 24) hx hb dX6_whyNot_19 (by decide) (fun c_19 => ?_) (fun c_19 => ?_)
    · refine lv_aload_n hx hb dX6_whyNot_24 rfl (lv_at hl 0 rfl) ?_
      refine lv_iload_n hx hb dX6_whyNot_25 rfl (lv_at hl 1 rfl) ?_
      refine lv_iload_n hx hb dX6_whyNot_26 rfl (lv_at hl 2 rfl) ?_
      refine lv_iconst (v := 1) hx hb dX6_whyNot_27 (by decide) ?_
      refine lv_iadd hx hb dX6_whyNot_28 ?_
      refine z_top (y := nI ((s1) + (1))) (nI_add (s1) (1)) ?_
      refine z_ci (z_vrun (rest := []) (own := RX6) (As := [.int (nI (j1)), .int (nI ((s1) + (1)))]) hx hb hml hown hts hl.1 hK hP [0, 1] rfl (metX6_room l D ac m0 z0 sd0 tx0 as0 rd0 th sv ln stp po tl hh z j1 ((s1) + (1)) (by omega) (by omega)) gX6_whyNot_X6_room rfl 2 (by decide +kernel) ⟨rfl, rfl, Nat.le_of_ble_eq_true rfl, Nat.le_of_ble_eq_true rfl⟩ 0 6 rfl rfl rfl rfl rfl (Nat.le_of_ble_eq_true rfl) dX6_whyNot_29 ⟨Nat.zero_le _, Nat.zero_le _⟩) ?_
      refine lv_if_ne (tgt := 39) hx hb dX6_whyNot_32 (by decide) (fun c_32 => ?_) (fun c_32 => ?_)
      · refine lv_aload_n hx hb dX6_whyNot_39 rfl (lv_at hl 0 rfl) ?_
        refine lv_iload_n hx hb dX6_whyNot_40 rfl (lv_at hl 1 rfl) ?_
        refine lv_iload_n hx hb dX6_whyNot_41 rfl (lv_at hl 2 rfl) ?_
        refine lv_iload_n hx hb dX6_whyNot_42 rfl (lv_at hl 3 rfl) ?_
        refine lv_aload_n hx hb dX6_whyNot_43 rfl (lv_at hl 0 rfl) ?_
        refine lv_iload_n hx hb dX6_whyNot_44 rfl (lv_at hl 1 rfl) ?_
        refine lv_iload_n hx hb dX6_whyNot_45 rfl (lv_at hl 2 rfl) ?_
        refine z_ci (z_vrun (rest := [.int (nI (k1)), .int (nI (s1)), .int (nI (j1)), .ref (m0)]) (own := RX6) (As := [.int (nI (j1)), .int (nI (s1))]) hx hb hml hown hts hl.1 hK hP [0, 1] rfl (metX6_factor l D ac m0 z0 sd0 tx0 as0 rd0 th sv ln stp po tl hh z j1 s1 (by omega) (by omega) (hdiv)) gX6_whyNot_X6_factor rfl 2 (by decide +kernel) ⟨rfl, rfl, Nat.le_of_ble_eq_true rfl, Nat.le_of_ble_eq_true rfl⟩ 0 6 rfl rfl rfl rfl rfl (Nat.le_of_ble_eq_true rfl) dX6_whyNot_46 ⟨Nat.zero_le _, Nat.zero_le _⟩) ?_
        refine z_ci (z_vrun (rest := []) (own := RX6) (As := [.int (nI (j1)), .int (nI (s1)), .int (nI (k1)), .int (mFac z j1 s1)]) hx hb hml hown hts hl.1 hK hP [0, 1] rfl (metX6_wish l D ac m0 z0 sd0 tx0 as0 rd0 th sv ln stp po tl hh z j1 s1 k1 (mFac z j1 s1) (by omega) (by omega) (by omega)) gX6_whyNot_X6_wish rfl 4 (by decide +kernel) ⟨rfl, rfl, Nat.le_of_ble_eq_true rfl, Nat.le_of_ble_eq_true rfl⟩ 0 6 rfl rfl rfl rfl rfl (Nat.le_of_ble_eq_true rfl) dX6_whyNot_49 ⟨Nat.zero_le _, Nat.zero_le _⟩) ?_
        refine lv_if_ne (tgt := 59) hx hb dX6_whyNot_52 (by decide) (fun c_52 => ?_) (fun c_52 => ?_)
        · refine lv_iconst (v := 0) hx hb dX6_whyNot_59 (by decide) ?_
          exact z_iret hx hb hr hlocks ((by rw [mWhy, if_neg c_3, if_neg (show ¬ qV z j1 (4 * s1 + k1) = 0 from c_19), if_neg c_32, if_neg c_52])) dX6_whyNot_60
        · refine lv_iconst (v := 4) hx hb dX6_whyNot_55 (by decide) ?_
          refine lv_goto (tgt := 60) hx hb dX6_whyNot_56 (by decide) ?_
          exact z_iret hx hb hr hlocks ((by rw [mWhy, if_neg c_3, if_neg (show ¬ qV z j1 (4 * s1 + k1) = 0 from c_19), if_neg c_32, if_pos c_52])) dX6_whyNot_60
      · refine lv_iconst (v := 3) hx hb dX6_whyNot_35 (by decide) ?_
        refine lv_goto (tgt := 60) hx hb dX6_whyNot_36 (by decide) ?_
        exact z_iret hx hb hr hlocks ((by rw [mWhy, if_neg c_3, if_neg (show ¬ qV z j1 (4 * s1 + k1) = 0 from c_19), if_pos c_32])) dX6_whyNot_60
    · refine lv_iconst (v := 2) hx hb dX6_whyNot_22 (by decide) ?_
      exact z_iret hx hb hr hlocks ((by rw [mWhy, if_neg c_3]; exact (if_pos c_19).symm)) dX6_whyNot_23
  · refine lv_iconst (v := 1) hx hb dX6_whyNot_6 (by decide) ?_
    exact z_iret hx hb hr hlocks ((if_pos c_3).symm) dX6_whyNot_7

set_option maxRecDepth 100000 in
set_option maxHeartbeats 4000000 in
theorem metX6_isAtRest (l : Launch) (D : va_G) (ac : Nat → ClassId) (m0 : Nat) (z0 : Nat) (sd0 : Nat) (tx0 : Nat) (as0 : Nat) (rd0 : Nat) (th : Int32) (sv : Nat) (ln : Nat) (stp : Nat) (po : Nat) (tl : Int32) (hh : Int64) (z : Nat → Int32) (j1 : Nat) (hj : j1 < 3) (hda : ∀ s, s < 12 → ¬ 1000 + qIn (qV z j1) s * z 144 / 10 = 0) : Met l yX6_isAtRest wsX6_isAtRest ({ frames := 4, cells := 0, slots := 0, locals := 92 } : Room) (va_Pc [.ref (m0), .int (nI (j1))] (zW D ac [(m0, .inr (6, [.int (th), .ref (z0), .int (nI (sv)), .ref (sd0), .int (nI (ln)), .ref (tx0), .ref (as0), .int (nI (stp)), .int (nI (po)), .int (tl), .ref (rd0), .long (hh)])), (z0, .inl (ac 0, 162, .inl (z)))])) (zRi (if mRest z j1 12 = true then 1 else 0)) 0 0 (fun _ => False) := by
  refine z_ro (cc := cX6_isAtRest) (maxL := 5) (ret := (some .boolean)) (lv := [(0, .ref (m0)), (1, .int (nI (j1)))]) (by decide) rfl (Nat.le_of_ble_eq_true rfl) rfl ?_
  intro p e s m args below meth c ls hx hb hr hml hown hts hlocks hl hK hP
  refine lv_iconst (v := 1) hx hb dX6_isAtRest_0 (by decide) ?_
  refine lv_istore_n (lv' := [(2, .int (1)), (0, .ref (m0)), (1, .int (nI (j1)))]) hx hb dX6_isAtRest_1 rfl hl (by decide) rfl (fun ls hl => ?_)
  refine lv_iconst (v := 0) hx hb dX6_isAtRest_2 (by decide) ?_
  refine lv_istore_n (lv' := [(3, .int (0)), (2, .int (1)), (0, .ref (m0)), (1, .int (nI (j1)))]) hx hb dX6_isAtRest_3 rfl hl (by decide) rfl (fun ls hl => ?_)
  have hL_4 : ∀ (n : Nat) (i : Nat), (i + n = 12) → ∀ (ls : Array Slot), lv_has ls 5 [(3, .int (nI (i))), (2, .int (if mRest z j1 i = true then 1 else 0)), (0, .ref (m0)), (1, .int (nI (j1)))] → W p l e ({ frames := 4, cells := 0, slots := 0, locals := 92 } : Room) s m args below meth c s.heap [] 0 0 (MQ below (zRi (if mRest z j1 12 = true then 1 else 0)) args s 0 0 (fun _ => False)) (F0 m 4 ls []) := by
    intro n
    induction n with
    | zero =>
      intro i hi ls hl
      have e_i : 12 = i := by omega
      subst e_i
      refine lv_iload_n hx hb dX6_isAtRest_4 rfl (lv_at hl 0 rfl) ?_
      refine lv_bipush (v := 12) hx hb dX6_isAtRest_5 (by decide) ?_
      refine z_icmp_ge (tgt := 52) hx hb (12) (12) dX6_isAtRest_7 (by decide) (by omega) (by omega) rfl rfl (fun c_7 => ?_) (fun c_7 => absurd c_7 (by omega))
      refine lv_iload_n hx hb dX6_isAtRest_52 rfl (lv_at hl 1 rfl) ?_
      exact z_zret hx hb hr hlocks (z_nb _) (rfl) dX6_isAtRest_53
    | succ n ih =>
      intro i hi ls hl
      refine lv_iload_n hx hb dX6_isAtRest_4 rfl (lv_at hl 0 rfl) ?_
      refine lv_bipush (v := 12) hx hb dX6_isAtRest_5 (by decide) ?_
      refine z_icmp_ge (tgt := 52) hx hb (i) (12) dX6_isAtRest_7 (by decide) (by omega) (by omega) rfl rfl (fun c_7 => absurd c_7 (by omega)) (fun c_7 => ?_)
      refine lv_iconst (v := 0) hx hb dX6_isAtRest_10 (by decide) ?_
      refine lv_istore (lv' := [(4, .int (0)), (3, .int (nI (i))), (2, .int (if mRest z j1 i = true then 1 else 0)), (0, .ref (m0)), (1, .int (nI (j1)))]) hx hb dX6_isAtRest_11 hl (by decide) rfl (fun ls hl => ?_)
      have hL_13 : ∀ (n2 : Nat) (j : Nat), (j + n2 = 4) → ∀ (ls : Array Slot), lv_has ls 5 [(4, .int (nI (j))), (3, .int (nI (i))), (2, .int (if (mRest z j1 i && mStay z j1 i j) = true then 1 else 0)), (0, .ref (m0)), (1, .int (nI (j1)))] → W p l e ({ frames := 4, cells := 0, slots := 0, locals := 92 } : Room) s m args below meth c s.heap [] 0 0 (MQ below (zRi (if mRest z j1 12 = true then 1 else 0)) args s 0 0 (fun _ => False)) (F0 m 13 ls []) := by
        intro n2
        induction n2 with
        | zero =>
          intro j hj ls hl
          have e_j : 4 = j := by omega
          subst e_j
          refine lv_iload hx hb dX6_isAtRest_13 (lv_at hl 0 rfl) ?_
          refine lv_iconst (v := 4) hx hb dX6_isAtRest_15 (by decide) ?_
          refine z_icmp_ge (tgt := 46) hx hb (4) (4) dX6_isAtRest_16 (by decide) (by omega) (by omega) rfl rfl (fun c_16 => ?_) (fun c_16 => absurd c_16 (by omega))
          refine lv_iinc (v := nI ((i) + 1)) (lv' := [(3, .int (nI ((i) + 1))), (4, .int (nI (4))), (2, .int (if (mRest z j1 i && mStay z j1 i 4) = true then 1 else 0)), (0, .ref (m0)), (1, .int (nI (j1)))]) hx hb dX6_isAtRest_46 hl (k := 1) rfl (show nI (i) + Int32.ofInt 1 = _ from nI_add (i) 1) (by decide) rfl (fun ls hl => ?_)
          refine lv_goto (tgt := 4) hx hb dX6_isAtRest_49 (by decide) ?_
          exact ih (i + 1) (by omega) ls (lv_sub hl [0, 2, 3, 4] rfl)
        | succ n2 ih =>
          intro j hj ls hl
          refine lv_iload hx hb dX6_isAtRest_13 (lv_at hl 0 rfl) ?_
          refine lv_iconst (v := 4) hx hb dX6_isAtRest_15 (by decide) ?_
          refine z_icmp_ge (tgt := 46) hx hb (j) (4) dX6_isAtRest_16 (by decide) (by omega) (by omega) rfl rfl (fun c_16 => absurd c_16 (by omega)) (fun c_16 => ?_)
          refine lv_iload_n hx hb dX6_isAtRest_19 rfl (lv_at hl 2 rfl) ?_
          refine z_if_eq (C := (mRest z j1 i && mStay z j1 i j) = true) (tgt := 38) hx hb dX6_isAtRest_20 (by decide) (fun c_20 => ?_) (fun c_20 => ?_)
          · refine lv_iconst (v := 0) hx hb dX6_isAtRest_38 (by decide) ?_
            refine lv_istore_n (lv' := [(2, .int (0)), (4, .int (nI (j))), (3, .int (nI (i))), (0, .ref (m0)), (1, .int (nI (j1)))]) hx hb dX6_isAtRest_39 rfl hl (by decide) rfl (fun ls hl => ?_)
            refine lv_iinc (v := nI ((j) + 1)) (lv' := [(4, .int (nI ((j) + 1))), (2, .int (0)), (3, .int (nI (i))), (0, .ref (m0)), (1, .int (nI (j1)))]) hx hb dX6_isAtRest_40 hl (k := 1) rfl (show nI (j) + Int32.ofInt 1 = _ from nI_add (j) 1) (by decide) rfl (fun ls hl => ?_)
            refine lv_goto (tgt := 13) hx hb dX6_isAtRest_43 (by decide) ?_
            have e2 : (if (mRest z j1 i && (mStay z j1 i j && decide (0 < mWhy z j1 i j))) = true then (1 : Int32) else 0) = 0 := if_neg (fun q => c_20 (by rw [Bool.and_eq_true, Bool.and_eq_true] at q; rw [Bool.and_eq_true]; exact ⟨q.1, q.2.1⟩))
            exact ih (j + 1) (by omega) ls (by first | (rw [show mStay z j1 i (j + 1) = (mStay z j1 i j && decide (0 < mWhy z j1 i j)) from rfl, e2]; exact lv_sub hl [0, 2, 1, 3, 4] rfl) | exact lv_sub hl [0, 2, 1, 3, 4] rfl)
          · refine lv_aload_n hx hb dX6_isAtRest_23 rfl (lv_at hl 3 rfl) ?_
            refine lv_iload_n hx hb dX6_isAtRest_24 rfl (lv_at hl 4 rfl) ?_
            refine lv_iload_n hx hb dX6_isAtRest_25 rfl (lv_at hl 1 rfl) ?_
            refine lv_iload hx hb dX6_isAtRest_26 (lv_at hl 0 rfl) ?_
            refine z_ci (z_vrun (rest := []) (own := RX6) (As := [.int (nI (j1)), .int (nI (i)), .int (nI (j))]) hx hb hml hown hts hl.1 hK hP [0, 1] rfl (metX6_whyNot l D ac m0 z0 sd0 tx0 as0 rd0 th sv ln stp po tl hh z j1 i j (by omega) (by omega) (by omega) (hda i (by omega))) gX6_isAtRest_X6_whyNot rfl 3 (by decide +kernel) ⟨rfl, rfl, Nat.le_of_ble_eq_true rfl, Nat.le_of_ble_eq_true rfl⟩ 0 6 rfl rfl rfl rfl rfl (Nat.le_of_ble_eq_true rfl) dX6_isAtRest_28 ⟨Nat.zero_le _, Nat.zero_le _⟩) ?_
            refine lv_if_le (tgt := 38) hx hb dX6_isAtRest_31 (by decide) (fun c_31 => ?_) (fun c_31 => ?_)
            · refine lv_iconst (v := 0) hx hb dX6_isAtRest_38 (by decide) ?_
              refine lv_istore_n (lv' := [(2, .int (0)), (4, .int (nI (j))), (3, .int (nI (i))), (0, .ref (m0)), (1, .int (nI (j1)))]) hx hb dX6_isAtRest_39 rfl hl (by decide) rfl (fun ls hl => ?_)
              refine lv_iinc (v := nI ((j) + 1)) (lv' := [(4, .int (nI ((j) + 1))), (2, .int (0)), (3, .int (nI (i))), (0, .ref (m0)), (1, .int (nI (j1)))]) hx hb dX6_isAtRest_40 hl (k := 1) rfl (show nI (j) + Int32.ofInt 1 = _ from nI_add (j) 1) (by decide) rfl (fun ls hl => ?_)
              refine lv_goto (tgt := 13) hx hb dX6_isAtRest_43 (by decide) ?_
              have e2 : (if (mRest z j1 i && (mStay z j1 i j && decide (0 < mWhy z j1 i j))) = true then (1 : Int32) else 0) = 0 := if_neg (fun q => by rw [Bool.and_eq_true, Bool.and_eq_true] at q; exact absurd c_31 (Int32.not_le.mpr (of_decide_eq_true q.2.2)))
              exact ih (j + 1) (by omega) ls (by first | (rw [show mStay z j1 i (j + 1) = (mStay z j1 i j && decide (0 < mWhy z j1 i j)) from rfl, e2]; exact lv_sub hl [0, 2, 1, 3, 4] rfl) | exact lv_sub hl [0, 2, 1, 3, 4] rfl)
            · refine lv_iconst (v := 1) hx hb dX6_isAtRest_34 (by decide) ?_
              refine lv_goto (tgt := 39) hx hb dX6_isAtRest_35 (by decide) ?_
              refine lv_istore_n (lv' := [(2, .int (1)), (4, .int (nI (j))), (3, .int (nI (i))), (0, .ref (m0)), (1, .int (nI (j1)))]) hx hb dX6_isAtRest_39 rfl hl (by decide) rfl (fun ls hl => ?_)
              refine lv_iinc (v := nI ((j) + 1)) (lv' := [(4, .int (nI ((j) + 1))), (2, .int (1)), (3, .int (nI (i))), (0, .ref (m0)), (1, .int (nI (j1)))]) hx hb dX6_isAtRest_40 hl (k := 1) rfl (show nI (j) + Int32.ofInt 1 = _ from nI_add (j) 1) (by decide) rfl (fun ls hl => ?_)
              refine lv_goto (tgt := 13) hx hb dX6_isAtRest_43 (by decide) ?_
              have e2 : (if (mRest z j1 i && (mStay z j1 i j && decide (0 < mWhy z j1 i j))) = true then (1 : Int32) else 0) = 1 := if_pos (by have q := c_20; rw [Bool.and_eq_true] at q; rw [Bool.and_eq_true, Bool.and_eq_true]; exact ⟨q.1, q.2, decide_eq_true (Int32.not_le.mp c_31)⟩)
              exact ih (j + 1) (by omega) ls (by first | (rw [show mStay z j1 i (j + 1) = (mStay z j1 i j && decide (0 < mWhy z j1 i j)) from rfl, e2]; exact lv_sub hl [0, 2, 1, 3, 4] rfl) | exact lv_sub hl [0, 2, 1, 3, 4] rfl)
      have e1 : (mRest z j1 i && mStay z j1 i 0) = mRest z j1 i := Bool.and_true _
      exact hL_13 (4) (0) (by omega) ls (by rw [e1]; exact lv_sub hl [0, 1, 2, 3, 4] rfl)
  exact hL_4 (12) (0) (by omega) ls (lv_sub hl [0, 1, 2, 3] rfl)

