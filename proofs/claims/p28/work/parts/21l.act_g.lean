set_option maxRecDepth 100000 in
set_option maxHeartbeats 4000000 in
theorem metL_act_g (l : Launch) (D : va_G) (ac : Nat → ClassId) (sz : Nat) (z : Nat → Int32) (x0 : Nat) (n0 : Nat) (y0 : Nat) (ch : Nat) (sp0 : Nat) (y1 : Nat) (hf : Nat → Option Nat) (od : Nat) (sz1 : Nat) (a0 : Nat) (a1 : Nat) (a2 : Nat) (a3 : Nat) (a4 : Nat) (a5 : Nat) (a6 : Nat) (a7 : Nat) (a8 : Nat) (a9 : Nat) (a10 : Nat) (a11 : Nat) (a12 : Nat) (va : Nat → Int32) (wa : Nat → Int32) (gaa : Nat → Int32) (gba : Nat → Int32) (gca : Nat → Int32) (pda : Nat → Int32) (dra : Nat → Int32) (tpa : Int32) (fla : Int32) (n1 : Nat) (n2 : Nat) (n3 : Nat) (n4 : Nat) (n5 : Nat) (n6 : Nat) (n7 : Nat) (n8 : Nat) (n9 : Nat) (n10 : Nat) (n11 : Nat) (n12 : Nat) (ra : Nat) (rb : Nat) (rc : Nat) (qe : Nat) (qd : Nat) (q9 : Nat) (x1 : Nat) (yv : Nat) (j1 : Nat) (j2 : Nat) (s1 : Nat) (hG : mGood z) (hq : q9 = 11) (hx1 : x1 < 2147483648) (hy1 : yv < 2147483648) (hj : j1 < 3) (hj9 : x1 / 2 % 3 = j1) (hs : s1 < 12) (hs9 : x1 / 8 / 2 % 12 = s1) (hj2 : j2 < 3) (hj8 : (j1 + 1 + yv / 2 % 2) % 3 = j2) (hne : ¬ j1 = j2) (h3 : ¬ qAll (zG j2 (qV z 0) (qV z 1) (qV z 2)) + qTo (zG j1 (qV z 0) (qV z 1) (qV z 2)) (s1 + 1) ≤ 5000) (hhf : hf ((od + sz1) % 6) = some a0) (hod : od < 6) (hsz : sz1 ≤ 6) : Met l yL_act wsL_act ({ frames := 1, cells := 0, slots := 0, locals := 24 } : Room) (va_Pc [.ref (x0), .int (nI (q9)), .int (nI (x1)), .int (nI (yv)), .ref (ra), .ref (rb), .ref (rc), .ref (qe), .ref (qd)] (zS D ac [(x0, .inr (5, [.ref (n0), .ref (y0), .ref (ch), .ref (sp0)])), (y0, .inr (1, [.ref (y1), .int (nI (od)), .int (nI (sz1))])), (y1, .inl (ac 3, 6, .inr (.inr (.inr (.inr (hf)))))), (a0, .inr (4, [.ref (a1), .ref (a4), .ref (a11), .ref (a12), .int (tpa), .int (fla)])), (a1, .inr (3, [.ref (a2), .ref (a3)])), (a2, .inl (ac 0, 4, .inl (va))), (a3, .inl (ac 0, 4, .inl (wa))), (a4, .inl (ac 2, 3, .inr (.inr (.inr (.inr (zJ3 a5 a6 a7)))))), (a5, .inr (2, [.ref (a8)])), (a8, .inl (ac 0, 48, .inl (gaa))), (a6, .inr (2, [.ref (a9)])), (a9, .inl (ac 0, 48, .inl (gba))), (a7, .inr (2, [.ref (a10)])), (a10, .inl (ac 0, 48, .inl (gca))), (a11, .inl (ac 0, 4, .inl (pda))), (a12, .inl (ac 0, 4, .inl (dra))), (n0, .inr (4, [.ref (n1), .ref (n4), .ref (n11), .ref (n12), .int (z 160), .int (z 161)])), (n1, .inr (3, [.ref (n2), .ref (n3)])), (n2, .inl (ac 0, 4, .inl (cV z))), (n3, .inl (ac 0, 4, .inl (cW z))), (n4, .inl (ac 2, 3, .inr (.inr (.inr (.inr (zJ3 n5 n6 n7)))))), (n5, .inr (2, [.ref (n8)])), (n8, .inl (ac 0, 48, .inl (qV z 0))), (n6, .inr (2, [.ref (n9)])), (n9, .inl (ac 0, 48, .inl (qV z 1))), (n7, .inr (2, [.ref (n10)])), (n10, .inl (ac 0, 48, .inl (qV z 2))), (n11, .inl (ac 0, 4, .inl (cP z))), (n12, .inl (ac 0, 4, .inl (cR z))), (ra, .inl (ac 0, 48, .inl (qV z 0))), (rb, .inl (ac 0, 48, .inl (qV z 1))), (rc, .inl (ac 0, 48, .inl (qV z 2))), (qe, .inl (ac 0, 16, .inl (cV z))), (qd, .inl (ac 0, 2, .inl (lD z)))] sz)) (zQi D ac [(x0, .inr (5, [.ref (n0), .ref (y0), .ref (ch), .ref (sp0)])), (y0, .inr (1, [.ref (y1), .int (nI (od)), .int (nI (sz1))])), (y1, .inl (ac 3, 6, .inr (.inr (.inr (.inr (hf)))))), (a0, .inr (4, [.ref (a1), .ref (a4), .ref (a11), .ref (a12), .int (tpa), .int (fla)])), (a1, .inr (3, [.ref (a2), .ref (a3)])), (a2, .inl (ac 0, 4, .inl (va))), (a3, .inl (ac 0, 4, .inl (wa))), (a4, .inl (ac 2, 3, .inr (.inr (.inr (.inr (zJ3 a5 a6 a7)))))), (a5, .inr (2, [.ref (a8)])), (a8, .inl (ac 0, 48, .inl (gaa))), (a6, .inr (2, [.ref (a9)])), (a9, .inl (ac 0, 48, .inl (gba))), (a7, .inr (2, [.ref (a10)])), (a10, .inl (ac 0, 48, .inl (gca))), (a11, .inl (ac 0, 4, .inl (pda))), (a12, .inl (ac 0, 4, .inl (dra))), (n0, .inr (4, [.ref (n1), .ref (n4), .ref (n11), .ref (n12), .int (z 160), .int (z 161)])), (n1, .inr (3, [.ref (n2), .ref (n3)])), (n2, .inl (ac 0, 4, .inl (cV z))), (n3, .inl (ac 0, 4, .inl (cW z))), (n4, .inl (ac 2, 3, .inr (.inr (.inr (.inr (zJ3 n5 n6 n7)))))), (n5, .inr (2, [.ref (n8)])), (n8, .inl (ac 0, 48, .inl (qV z 0))), (n6, .inr (2, [.ref (n9)])), (n9, .inl (ac 0, 48, .inl (qV z 1))), (n7, .inr (2, [.ref (n10)])), (n10, .inl (ac 0, 48, .inl (qV z 2))), (n11, .inl (ac 0, 4, .inl (cP z))), (n12, .inl (ac 0, 4, .inl (cR z))), (ra, .inl (ac 0, 48, .inl (qV z 0))), (rb, .inl (ac 0, 48, .inl (qV z 1))), (rc, .inl (ac 0, 48, .inl (qV z 2))), (qe, .inl (ac 0, 16, .inl (cV z))), (qd, .inl (ac 0, 2, .inl (lD z)))] [(x0, .inr (5, [.ref (n0), .ref (y0), .ref (ch), .ref (sp0)])), (y0, .inr (1, [.ref (y1), .int (nI (od)), .int (nI (sz1))])), (y1, .inl (ac 3, 6, .inr (.inr (.inr (.inr (hf)))))), (a0, .inr (4, [.ref (a1), .ref (a4), .ref (a11), .ref (a12), .int (tpa), .int (fla)])), (a1, .inr (3, [.ref (a2), .ref (a3)])), (a2, .inl (ac 0, 4, .inl (va))), (a3, .inl (ac 0, 4, .inl (wa))), (a4, .inl (ac 2, 3, .inr (.inr (.inr (.inr (zJ3 a5 a6 a7)))))), (a5, .inr (2, [.ref (a8)])), (a8, .inl (ac 0, 48, .inl (gaa))), (a6, .inr (2, [.ref (a9)])), (a9, .inl (ac 0, 48, .inl (gba))), (a7, .inr (2, [.ref (a10)])), (a10, .inl (ac 0, 48, .inl (gca))), (a11, .inl (ac 0, 4, .inl (pda))), (a12, .inl (ac 0, 4, .inl (dra))), (n0, .inr (4, [.ref (n1), .ref (n4), .ref (n11), .ref (n12), .int (z 160), .int (z 161)])), (n1, .inr (3, [.ref (n2), .ref (n3)])), (n2, .inl (ac 0, 4, .inl (cV z))), (n3, .inl (ac 0, 4, .inl (cW z))), (n4, .inl (ac 2, 3, .inr (.inr (.inr (.inr (zJ3 n5 n6 n7)))))), (n5, .inr (2, [.ref (n8)])), (n8, .inl (ac 0, 48, .inl (qV z 0))), (n6, .inr (2, [.ref (n9)])), (n9, .inl (ac 0, 48, .inl (qV z 1))), (n7, .inr (2, [.ref (n10)])), (n10, .inl (ac 0, 48, .inl (qV z 2))), (n11, .inl (ac 0, 4, .inl (cP z))), (n12, .inl (ac 0, 4, .inl (cR z))), (ra, .inl (ac 0, 48, .inl (qV z 0))), (rb, .inl (ac 0, 48, .inl (qV z 1))), (rc, .inl (ac 0, 48, .inl (qV z 2))), (qe, .inl (ac 0, 16, .inl (cV z))), (qd, .inl (ac 0, 2, .inl (lD z)))] sz (1)) 0 0 (va_A [(x0, .inr (5, [.ref (n0), .ref (y0), .ref (ch), .ref (sp0)])), (y0, .inr (1, [.ref (y1), .int (nI (od)), .int (nI (sz1))])), (y1, .inl (ac 3, 6, .inr (.inr (.inr (.inr (hf)))))), (a0, .inr (4, [.ref (a1), .ref (a4), .ref (a11), .ref (a12), .int (tpa), .int (fla)])), (a1, .inr (3, [.ref (a2), .ref (a3)])), (a2, .inl (ac 0, 4, .inl (va))), (a3, .inl (ac 0, 4, .inl (wa))), (a4, .inl (ac 2, 3, .inr (.inr (.inr (.inr (zJ3 a5 a6 a7)))))), (a5, .inr (2, [.ref (a8)])), (a8, .inl (ac 0, 48, .inl (gaa))), (a6, .inr (2, [.ref (a9)])), (a9, .inl (ac 0, 48, .inl (gba))), (a7, .inr (2, [.ref (a10)])), (a10, .inl (ac 0, 48, .inl (gca))), (a11, .inl (ac 0, 4, .inl (pda))), (a12, .inl (ac 0, 4, .inl (dra))), (n0, .inr (4, [.ref (n1), .ref (n4), .ref (n11), .ref (n12), .int (z 160), .int (z 161)])), (n1, .inr (3, [.ref (n2), .ref (n3)])), (n2, .inl (ac 0, 4, .inl (cV z))), (n3, .inl (ac 0, 4, .inl (cW z))), (n4, .inl (ac 2, 3, .inr (.inr (.inr (.inr (zJ3 n5 n6 n7)))))), (n5, .inr (2, [.ref (n8)])), (n8, .inl (ac 0, 48, .inl (qV z 0))), (n6, .inr (2, [.ref (n9)])), (n9, .inl (ac 0, 48, .inl (qV z 1))), (n7, .inr (2, [.ref (n10)])), (n10, .inl (ac 0, 48, .inl (qV z 2))), (n11, .inl (ac 0, 4, .inl (cP z))), (n12, .inl (ac 0, 4, .inl (cR z))), (ra, .inl (ac 0, 48, .inl (qV z 0))), (rb, .inl (ac 0, 48, .inl (qV z 1))), (rc, .inl (ac 0, 48, .inl (qV z 2))), (qe, .inl (ac 0, 16, .inl (cV z))), (qd, .inl (ac 0, 2, .inl (lD z)))] sz) := by
  refine z_rw (cc := cL_act) (maxL := 18) (ret := (some .boolean)) (lv := [(0, .ref (x0)), (1, .int (nI (q9))), (2, .int (nI (x1))), (3, .int (nI (yv))), (4, .ref (ra)), (5, .ref (rb)), (6, .ref (rc)), (7, .ref (qe)), (8, .ref (qd))]) (by decide) rfl (Nat.le_of_ble_eq_true rfl) rfl ?_
  intro p e s m args below meth c ls A hx hb hr hml hown hts hlocks hl hK hP hsz hAe hA hD hS
  refine lv_iload_n hx hb dL_act_0 rfl (lv_at hl 2 rfl) ?_
  refine lv_iconst (v := 3) hx hb dL_act_1 (by decide) ?_
  refine z_ci (z_srun (rest := []) (own := RL) (As := [.int (nI (x1)), .int (3)]) hx hb hml hown hts hl.1 hK hP [] rfl (metL_at l D ac x1 3 (by omega) (by omega)) gL_act_L_at rfl 2 (by decide +kernel) ⟨rfl, rfl, Nat.le_of_ble_eq_true rfl, Nat.le_of_ble_eq_true rfl⟩ rfl rfl (Nat.le_of_ble_eq_true rfl) dL_act_2 ⟨Nat.zero_le _, Nat.zero_le _⟩) ?_
  refine z_top (y := nI (j1)) (congrArg nI hj9) ?_
  refine lv_istore (lv' := [(9, .int (nI (j1))), (0, .ref (x0)), (1, .int (nI (q9))), (2, .int (nI (x1))), (3, .int (nI (yv))), (4, .ref (ra)), (5, .ref (rb)), (6, .ref (rc)), (7, .ref (qe)), (8, .ref (qd))]) hx hb dL_act_5 hl (by decide) rfl (fun ls hl => ?_)
  obtain rfl | rfl | rfl := z_cases3 hj
  · refine lv_iload hx hb dL_act_7 (lv_at hl 0 rfl) ?_
    obtain rfl | rfl | rfl := z_cases3 hj2
    · exact absurd rfl hne
    · refine lv_if_ne (tgt := 17) hx hb dL_act_9 (by decide) (fun c_ => absurd (by decide) c_) (fun _ => ?_)
      refine lv_aload hx hb dL_act_12 (lv_at hl 5 rfl) ?_
      refine lv_goto (tgt := 30) hx hb dL_act_14 (by decide) ?_
      refine lv_astore (lv' := [(10, .ref (ra)), (9, .int (nI (0))), (0, .ref (x0)), (1, .int (nI (q9))), (2, .int (nI (x1))), (3, .int (nI (yv))), (4, .ref (ra)), (5, .ref (rb)), (6, .ref (rc)), (7, .ref (qe)), (8, .ref (qd))]) hx hb dL_act_30 hl (by decide) rfl (fun ls hl => ?_)
      refine lv_iload_n hx hb dL_act_32 rfl (lv_at hl 4 rfl) ?_
      refine lv_iconst (v := 3) hx hb dL_act_33 (by decide) ?_
      refine lv_ishr hx hb dL_act_34 ?_
      refine z_top (y := nI ((x1) / 8)) (pk_shrN (n := x1) (by omega) ((3 : Int32) &&& 31) 3 (by decide)) ?_
      refine lv_bipush (v := 12) hx hb dL_act_35 (by decide) ?_
      refine z_ci (z_srun (rest := []) (own := RL) (As := [.int (nI ((x1) / 8)), .int (12)]) hx hb hml hown hts hl.1 hK hP [] rfl (metL_at l D ac ((x1) / 8) 12 (by omega) (by omega)) gL_act_L_at rfl 2 (by decide +kernel) ⟨rfl, rfl, Nat.le_of_ble_eq_true rfl, Nat.le_of_ble_eq_true rfl⟩ rfl rfl (Nat.le_of_ble_eq_true rfl) dL_act_37 ⟨Nat.zero_le _, Nat.zero_le _⟩) ?_
      refine z_top (y := nI (s1)) (congrArg nI hs9) ?_
      refine lv_istore (lv' := [(11, .int (nI (s1))), (10, .ref (ra)), (9, .int (nI (0))), (0, .ref (x0)), (1, .int (nI (q9))), (2, .int (nI (x1))), (3, .int (nI (yv))), (4, .ref (ra)), (5, .ref (rb)), (6, .ref (rc)), (7, .ref (qe)), (8, .ref (qd))]) hx hb dL_act_40 hl (by decide) rfl (fun ls hl => ?_)
      refine lv_iload_n hx hb dL_act_42 rfl (lv_at hl 6 rfl) ?_
      refine lv_iconst (v := 4) hx hb dL_act_43 (by decide) ?_
      refine z_ci (z_srun (rest := []) (own := RL) (As := [.int (nI (yv)), .int (4)]) hx hb hml hown hts hl.1 hK hP [] rfl (metL_at l D ac yv 4 (by omega) (by omega)) gL_act_L_at rfl 2 (by decide +kernel) ⟨rfl, rfl, Nat.le_of_ble_eq_true rfl, Nat.le_of_ble_eq_true rfl⟩ rfl rfl (Nat.le_of_ble_eq_true rfl) dL_act_44 ⟨Nat.zero_le _, Nat.zero_le _⟩) ?_
      refine lv_istore (lv' := [(12, .int (nI (yv / 2 % 4))), (11, .int (nI (s1))), (10, .ref (ra)), (9, .int (nI (0))), (0, .ref (x0)), (1, .int (nI (q9))), (2, .int (nI (x1))), (3, .int (nI (yv))), (4, .ref (ra)), (5, .ref (rb)), (6, .ref (rc)), (7, .ref (qe)), (8, .ref (qd))]) hx hb dL_act_47 hl (by decide) rfl (fun ls hl => ?_)
      refine lv_iload_n hx hb dL_act_49 rfl (lv_at hl 5 rfl) ?_
      refine lv_iconst (v := 5) hx hb dL_act_50 (by decide) ?_
      refine z_icmp_ge (tgt := 158) hx hb (q9) (5) dL_act_51 (by decide) (by omega) (by omega) rfl rfl (fun c_51 => ?_) (fun c_51 => absurd c_51 (by omega))
      refine lv_iload_n hx hb dL_act_158 rfl (lv_at hl 5 rfl) ?_
      refine lv_bipush (v := 9) hx hb dL_act_159 (by decide) ?_
      refine z_icmp_ge (tgt := 269) hx hb (q9) (9) dL_act_161 (by decide) (by omega) (by omega) rfl rfl (fun c_161 => ?_) (fun c_161 => absurd c_161 (by omega))
      refine lv_iload_n hx hb dL_act_269 rfl (lv_at hl 5 rfl) ?_
      refine lv_bipush (v := 9) hx hb dL_act_270 (by decide) ?_
      refine z_icmp_ne (tgt := 428) hx hb (q9) (9) dL_act_272 (by decide) (by omega) (by omega) rfl rfl (fun c_272 => ?_) (fun c_272 => absurd c_272 (by omega))
      refine lv_iload_n hx hb dL_act_428 rfl (lv_at hl 5 rfl) ?_
      refine lv_bipush (v := 10) hx hb dL_act_429 (by decide) ?_
      refine z_icmp_ne (tgt := 536) hx hb (q9) (10) dL_act_431 (by decide) (by omega) (by omega) rfl rfl (fun c_431 => ?_) (fun c_431 => absurd c_431 (by omega))
      refine lv_iload_n hx hb dL_act_536 rfl (lv_at hl 5 rfl) ?_
      refine lv_bipush (v := 11) hx hb dL_act_537 (by decide) ?_
      refine z_icmp_ne (tgt := 670) hx hb (q9) (11) dL_act_539 (by decide) (by omega) (by omega) rfl rfl (fun c_539 => absurd c_539 (by omega)) (fun c_539 => ?_)
      refine lv_iload hx hb dL_act_542 (lv_at hl 3 rfl) ?_
      refine lv_iconst (v := 1) hx hb dL_act_544 (by decide) ?_
      refine lv_iadd hx hb dL_act_545 ?_
      refine z_top (y := nI (1)) (nI_add (0) (1)) ?_
      refine lv_iload_n hx hb dL_act_546 rfl (lv_at hl 7 rfl) ?_
      refine lv_iconst (v := 2) hx hb dL_act_547 (by decide) ?_
      refine z_ci (z_srun (rest := [.int (nI (1))]) (own := RL) (As := [.int (nI (yv)), .int (2)]) hx hb hml hown hts hl.1 hK hP [] rfl (metL_at l D ac yv 2 (by omega) (by omega)) gL_act_L_at rfl 2 (by decide +kernel) ⟨rfl, rfl, Nat.le_of_ble_eq_true rfl, Nat.le_of_ble_eq_true rfl⟩ rfl rfl (Nat.le_of_ble_eq_true rfl) dL_act_548 ⟨Nat.zero_le _, Nat.zero_le _⟩) ?_
      refine lv_iadd hx hb dL_act_551 ?_
      refine z_top (y := nI ((1) + (yv / 2 % 2))) (nI_add (1) (yv / 2 % 2)) ?_
      refine lv_iconst (v := 3) hx hb dL_act_552 (by decide) ?_
      refine lv_irem hx hb dL_act_553 (by decide) ?_
      refine z_top (y := nI (((1) + (yv / 2 % 2)) % (3))) (pk_rem (a := (1) + (yv / 2 % 2)) (d := 3) (by omega) (by omega) (by omega)) ?_
      refine z_top (y := nI (1)) (congrArg nI hj8) ?_
      refine lv_istore (lv' := [(13, .int (nI (1))), (12, .int (nI (yv / 2 % 4))), (11, .int (nI (s1))), (10, .ref (ra)), (9, .int (nI (0))), (0, .ref (x0)), (1, .int (nI (q9))), (2, .int (nI (x1))), (3, .int (nI (yv))), (4, .ref (ra)), (5, .ref (rb)), (6, .ref (rc)), (7, .ref (qe)), (8, .ref (qd))]) hx hb dL_act_554 hl (by decide) rfl (fun ls hl => ?_)
      refine lv_iload hx hb dL_act_556 (lv_at hl 0 rfl) ?_
      refine lv_if_ne (tgt := 566) hx hb dL_act_558 (by decide) (fun _ => ?_) (fun c_ => absurd c_ (by decide))
      refine lv_iload hx hb dL_act_566 (lv_at hl 0 rfl) ?_
      refine lv_iconst (v := 1) hx hb dL_act_568 (by decide) ?_
      refine z_icmp_ne (tgt := 577) hx hb (1) (1) dL_act_569 (by decide) (by omega) (by omega) rfl rfl (fun c_569 => absurd c_569 (by omega)) (fun c_569 => ?_)
      refine lv_aload hx hb dL_act_572 (lv_at hl 10 rfl) ?_
      refine lv_goto (tgt := 579) hx hb dL_act_574 (by decide) ?_
      refine lv_astore (lv' := [(14, .ref (rb)), (13, .int (nI (1))), (12, .int (nI (yv / 2 % 4))), (11, .int (nI (s1))), (10, .ref (ra)), (9, .int (nI (0))), (0, .ref (x0)), (1, .int (nI (q9))), (2, .int (nI (x1))), (3, .int (nI (yv))), (4, .ref (ra)), (5, .ref (rb)), (6, .ref (rc)), (7, .ref (qe)), (8, .ref (qd))]) hx hb dL_act_579 hl (by decide) rfl (fun ls hl => ?_)
      refine lv_aload hx hb dL_act_581 (lv_at hl 4 rfl) ?_
      refine lv_iconst (v := 0) hx hb dL_act_583 (by decide) ?_
      refine lv_iload hx hb dL_act_584 (lv_at hl 3 rfl) ?_
      refine z_ci (z_srun (rest := []) (own := RL) (As := [.ref (ra), .int (0), .int (nI (s1))]) hx hb hml hown hts hl.1 hK hP [29] rfl (metL_sum l D ac ra (qV z 0) 0 s1 (by omega) (by omega)) gL_act_L_sum rfl 3 (by decide +kernel) ⟨rfl, rfl, Nat.le_of_ble_eq_true rfl, Nat.le_of_ble_eq_true rfl⟩ rfl rfl (Nat.le_of_ble_eq_true rfl) dL_act_586 ⟨Nat.zero_le _, Nat.zero_le _⟩) ?_
      refine z_top (y := qTo (qV z 0) (s1 + 1)) (l_sum_to _ _) ?_
      refine lv_istore (lv' := [(15, .int (qTo (qV z 0) (s1 + 1))), (14, .ref (rb)), (13, .int (nI (1))), (12, .int (nI (yv / 2 % 4))), (11, .int (nI (s1))), (10, .ref (ra)), (9, .int (nI (0))), (0, .ref (x0)), (1, .int (nI (q9))), (2, .int (nI (x1))), (3, .int (nI (yv))), (4, .ref (ra)), (5, .ref (rb)), (6, .ref (rc)), (7, .ref (qe)), (8, .ref (qd))]) hx hb dL_act_589 hl (by decide) rfl (fun ls hl => ?_)
      refine lv_iload hx hb dL_act_591 (lv_at hl 0 rfl) ?_
      refine lv_aload hx hb dL_act_593 (lv_at hl 1 rfl) ?_
      refine lv_iconst (v := 0) hx hb dL_act_595 (by decide) ?_
      refine lv_bipush (v := 11) hx hb dL_act_596 (by decide) ?_
      refine z_ci (z_srun (rest := [.int (qTo (qV z 0) (s1 + 1))]) (own := RL) (As := [.ref (rb), .int (0), .int (11)]) hx hb hml hown hts hl.1 hK hP [30] rfl (metL_sum l D ac rb (qV z 1) 0 11 (by omega) (by omega)) gL_act_L_sum rfl 3 (by decide +kernel) ⟨rfl, rfl, Nat.le_of_ble_eq_true rfl, Nat.le_of_ble_eq_true rfl⟩ rfl rfl (Nat.le_of_ble_eq_true rfl) dL_act_598 ⟨Nat.zero_le _, Nat.zero_le _⟩) ?_
      refine z_top (y := qAll (qV z 1)) (l_sum_all _) ?_
      refine lv_iadd hx hb dL_act_601 ?_
      refine lv_sipush (v := 5000) hx hb dL_act_602 (by decide) ?_
      refine lv_icmp_le (tgt := 610) hx hb dL_act_605 (by decide) (fun c_605 => absurd c_605 (fun q => h3 (by rw [Int32.add_comm]; exact q))) (fun c_605 => ?_)
      refine lv_iconst (v := 1) hx hb dL_act_608 (by decide) ?_
      exact z_zretW hx hb hr hlocks hK hP hD hS hAe (rfl) (rfl) dL_act_609
    · refine lv_if_ne (tgt := 17) hx hb dL_act_9 (by decide) (fun c_ => absurd (by decide) c_) (fun _ => ?_)
      refine lv_aload hx hb dL_act_12 (lv_at hl 5 rfl) ?_
      refine lv_goto (tgt := 30) hx hb dL_act_14 (by decide) ?_
      refine lv_astore (lv' := [(10, .ref (ra)), (9, .int (nI (0))), (0, .ref (x0)), (1, .int (nI (q9))), (2, .int (nI (x1))), (3, .int (nI (yv))), (4, .ref (ra)), (5, .ref (rb)), (6, .ref (rc)), (7, .ref (qe)), (8, .ref (qd))]) hx hb dL_act_30 hl (by decide) rfl (fun ls hl => ?_)
      refine lv_iload_n hx hb dL_act_32 rfl (lv_at hl 4 rfl) ?_
      refine lv_iconst (v := 3) hx hb dL_act_33 (by decide) ?_
      refine lv_ishr hx hb dL_act_34 ?_
      refine z_top (y := nI ((x1) / 8)) (pk_shrN (n := x1) (by omega) ((3 : Int32) &&& 31) 3 (by decide)) ?_
      refine lv_bipush (v := 12) hx hb dL_act_35 (by decide) ?_
      refine z_ci (z_srun (rest := []) (own := RL) (As := [.int (nI ((x1) / 8)), .int (12)]) hx hb hml hown hts hl.1 hK hP [] rfl (metL_at l D ac ((x1) / 8) 12 (by omega) (by omega)) gL_act_L_at rfl 2 (by decide +kernel) ⟨rfl, rfl, Nat.le_of_ble_eq_true rfl, Nat.le_of_ble_eq_true rfl⟩ rfl rfl (Nat.le_of_ble_eq_true rfl) dL_act_37 ⟨Nat.zero_le _, Nat.zero_le _⟩) ?_
      refine z_top (y := nI (s1)) (congrArg nI hs9) ?_
      refine lv_istore (lv' := [(11, .int (nI (s1))), (10, .ref (ra)), (9, .int (nI (0))), (0, .ref (x0)), (1, .int (nI (q9))), (2, .int (nI (x1))), (3, .int (nI (yv))), (4, .ref (ra)), (5, .ref (rb)), (6, .ref (rc)), (7, .ref (qe)), (8, .ref (qd))]) hx hb dL_act_40 hl (by decide) rfl (fun ls hl => ?_)
      refine lv_iload_n hx hb dL_act_42 rfl (lv_at hl 6 rfl) ?_
      refine lv_iconst (v := 4) hx hb dL_act_43 (by decide) ?_
      refine z_ci (z_srun (rest := []) (own := RL) (As := [.int (nI (yv)), .int (4)]) hx hb hml hown hts hl.1 hK hP [] rfl (metL_at l D ac yv 4 (by omega) (by omega)) gL_act_L_at rfl 2 (by decide +kernel) ⟨rfl, rfl, Nat.le_of_ble_eq_true rfl, Nat.le_of_ble_eq_true rfl⟩ rfl rfl (Nat.le_of_ble_eq_true rfl) dL_act_44 ⟨Nat.zero_le _, Nat.zero_le _⟩) ?_
      refine lv_istore (lv' := [(12, .int (nI (yv / 2 % 4))), (11, .int (nI (s1))), (10, .ref (ra)), (9, .int (nI (0))), (0, .ref (x0)), (1, .int (nI (q9))), (2, .int (nI (x1))), (3, .int (nI (yv))), (4, .ref (ra)), (5, .ref (rb)), (6, .ref (rc)), (7, .ref (qe)), (8, .ref (qd))]) hx hb dL_act_47 hl (by decide) rfl (fun ls hl => ?_)
      refine lv_iload_n hx hb dL_act_49 rfl (lv_at hl 5 rfl) ?_
      refine lv_iconst (v := 5) hx hb dL_act_50 (by decide) ?_
      refine z_icmp_ge (tgt := 158) hx hb (q9) (5) dL_act_51 (by decide) (by omega) (by omega) rfl rfl (fun c_51 => ?_) (fun c_51 => absurd c_51 (by omega))
      refine lv_iload_n hx hb dL_act_158 rfl (lv_at hl 5 rfl) ?_
      refine lv_bipush (v := 9) hx hb dL_act_159 (by decide) ?_
      refine z_icmp_ge (tgt := 269) hx hb (q9) (9) dL_act_161 (by decide) (by omega) (by omega) rfl rfl (fun c_161 => ?_) (fun c_161 => absurd c_161 (by omega))
      refine lv_iload_n hx hb dL_act_269 rfl (lv_at hl 5 rfl) ?_
      refine lv_bipush (v := 9) hx hb dL_act_270 (by decide) ?_
      refine z_icmp_ne (tgt := 428) hx hb (q9) (9) dL_act_272 (by decide) (by omega) (by omega) rfl rfl (fun c_272 => ?_) (fun c_272 => absurd c_272 (by omega))
      refine lv_iload_n hx hb dL_act_428 rfl (lv_at hl 5 rfl) ?_
      refine lv_bipush (v := 10) hx hb dL_act_429 (by decide) ?_
      refine z_icmp_ne (tgt := 536) hx hb (q9) (10) dL_act_431 (by decide) (by omega) (by omega) rfl rfl (fun c_431 => ?_) (fun c_431 => absurd c_431 (by omega))
      refine lv_iload_n hx hb dL_act_536 rfl (lv_at hl 5 rfl) ?_
      refine lv_bipush (v := 11) hx hb dL_act_537 (by decide) ?_
      refine z_icmp_ne (tgt := 670) hx hb (q9) (11) dL_act_539 (by decide) (by omega) (by omega) rfl rfl (fun c_539 => absurd c_539 (by omega)) (fun c_539 => ?_)
      refine lv_iload hx hb dL_act_542 (lv_at hl 3 rfl) ?_
      refine lv_iconst (v := 1) hx hb dL_act_544 (by decide) ?_
      refine lv_iadd hx hb dL_act_545 ?_
      refine z_top (y := nI (1)) (nI_add (0) (1)) ?_
      refine lv_iload_n hx hb dL_act_546 rfl (lv_at hl 7 rfl) ?_
      refine lv_iconst (v := 2) hx hb dL_act_547 (by decide) ?_
      refine z_ci (z_srun (rest := [.int (nI (1))]) (own := RL) (As := [.int (nI (yv)), .int (2)]) hx hb hml hown hts hl.1 hK hP [] rfl (metL_at l D ac yv 2 (by omega) (by omega)) gL_act_L_at rfl 2 (by decide +kernel) ⟨rfl, rfl, Nat.le_of_ble_eq_true rfl, Nat.le_of_ble_eq_true rfl⟩ rfl rfl (Nat.le_of_ble_eq_true rfl) dL_act_548 ⟨Nat.zero_le _, Nat.zero_le _⟩) ?_
      refine lv_iadd hx hb dL_act_551 ?_
      refine z_top (y := nI ((1) + (yv / 2 % 2))) (nI_add (1) (yv / 2 % 2)) ?_
      refine lv_iconst (v := 3) hx hb dL_act_552 (by decide) ?_
      refine lv_irem hx hb dL_act_553 (by decide) ?_
      refine z_top (y := nI (((1) + (yv / 2 % 2)) % (3))) (pk_rem (a := (1) + (yv / 2 % 2)) (d := 3) (by omega) (by omega) (by omega)) ?_
      refine z_top (y := nI (2)) (congrArg nI hj8) ?_
      refine lv_istore (lv' := [(13, .int (nI (2))), (12, .int (nI (yv / 2 % 4))), (11, .int (nI (s1))), (10, .ref (ra)), (9, .int (nI (0))), (0, .ref (x0)), (1, .int (nI (q9))), (2, .int (nI (x1))), (3, .int (nI (yv))), (4, .ref (ra)), (5, .ref (rb)), (6, .ref (rc)), (7, .ref (qe)), (8, .ref (qd))]) hx hb dL_act_554 hl (by decide) rfl (fun ls hl => ?_)
      refine lv_iload hx hb dL_act_556 (lv_at hl 0 rfl) ?_
      refine lv_if_ne (tgt := 566) hx hb dL_act_558 (by decide) (fun _ => ?_) (fun c_ => absurd c_ (by decide))
      refine lv_iload hx hb dL_act_566 (lv_at hl 0 rfl) ?_
      refine lv_iconst (v := 1) hx hb dL_act_568 (by decide) ?_
      refine z_icmp_ne (tgt := 577) hx hb (2) (1) dL_act_569 (by decide) (by omega) (by omega) rfl rfl (fun c_569 => ?_) (fun c_569 => absurd c_569 (by omega))
      refine lv_aload hx hb dL_act_577 (lv_at hl 11 rfl) ?_
      refine lv_astore (lv' := [(14, .ref (rc)), (13, .int (nI (2))), (12, .int (nI (yv / 2 % 4))), (11, .int (nI (s1))), (10, .ref (ra)), (9, .int (nI (0))), (0, .ref (x0)), (1, .int (nI (q9))), (2, .int (nI (x1))), (3, .int (nI (yv))), (4, .ref (ra)), (5, .ref (rb)), (6, .ref (rc)), (7, .ref (qe)), (8, .ref (qd))]) hx hb dL_act_579 hl (by decide) rfl (fun ls hl => ?_)
      refine lv_aload hx hb dL_act_581 (lv_at hl 4 rfl) ?_
      refine lv_iconst (v := 0) hx hb dL_act_583 (by decide) ?_
      refine lv_iload hx hb dL_act_584 (lv_at hl 3 rfl) ?_
      refine z_ci (z_srun (rest := []) (own := RL) (As := [.ref (ra), .int (0), .int (nI (s1))]) hx hb hml hown hts hl.1 hK hP [29] rfl (metL_sum l D ac ra (qV z 0) 0 s1 (by omega) (by omega)) gL_act_L_sum rfl 3 (by decide +kernel) ⟨rfl, rfl, Nat.le_of_ble_eq_true rfl, Nat.le_of_ble_eq_true rfl⟩ rfl rfl (Nat.le_of_ble_eq_true rfl) dL_act_586 ⟨Nat.zero_le _, Nat.zero_le _⟩) ?_
      refine z_top (y := qTo (qV z 0) (s1 + 1)) (l_sum_to _ _) ?_
      refine lv_istore (lv' := [(15, .int (qTo (qV z 0) (s1 + 1))), (14, .ref (rc)), (13, .int (nI (2))), (12, .int (nI (yv / 2 % 4))), (11, .int (nI (s1))), (10, .ref (ra)), (9, .int (nI (0))), (0, .ref (x0)), (1, .int (nI (q9))), (2, .int (nI (x1))), (3, .int (nI (yv))), (4, .ref (ra)), (5, .ref (rb)), (6, .ref (rc)), (7, .ref (qe)), (8, .ref (qd))]) hx hb dL_act_589 hl (by decide) rfl (fun ls hl => ?_)
      refine lv_iload hx hb dL_act_591 (lv_at hl 0 rfl) ?_
      refine lv_aload hx hb dL_act_593 (lv_at hl 1 rfl) ?_
      refine lv_iconst (v := 0) hx hb dL_act_595 (by decide) ?_
      refine lv_bipush (v := 11) hx hb dL_act_596 (by decide) ?_
      refine z_ci (z_srun (rest := [.int (qTo (qV z 0) (s1 + 1))]) (own := RL) (As := [.ref (rc), .int (0), .int (11)]) hx hb hml hown hts hl.1 hK hP [31] rfl (metL_sum l D ac rc (qV z 2) 0 11 (by omega) (by omega)) gL_act_L_sum rfl 3 (by decide +kernel) ⟨rfl, rfl, Nat.le_of_ble_eq_true rfl, Nat.le_of_ble_eq_true rfl⟩ rfl rfl (Nat.le_of_ble_eq_true rfl) dL_act_598 ⟨Nat.zero_le _, Nat.zero_le _⟩) ?_
      refine z_top (y := qAll (qV z 2)) (l_sum_all _) ?_
      refine lv_iadd hx hb dL_act_601 ?_
      refine lv_sipush (v := 5000) hx hb dL_act_602 (by decide) ?_
      refine lv_icmp_le (tgt := 610) hx hb dL_act_605 (by decide) (fun c_605 => absurd c_605 (fun q => h3 (by rw [Int32.add_comm]; exact q))) (fun c_605 => ?_)
      refine lv_iconst (v := 1) hx hb dL_act_608 (by decide) ?_
      exact z_zretW hx hb hr hlocks hK hP hD hS hAe (rfl) (rfl) dL_act_609
  · refine lv_iload hx hb dL_act_7 (lv_at hl 0 rfl) ?_
    obtain rfl | rfl | rfl := z_cases3 hj2
    · refine lv_if_ne (tgt := 17) hx hb dL_act_9 (by decide) (fun _ => ?_) (fun c_ => absurd c_ (by decide))
      refine lv_iload hx hb dL_act_17 (lv_at hl 0 rfl) ?_
      refine lv_iconst (v := 1) hx hb dL_act_19 (by decide) ?_
      refine z_icmp_ne (tgt := 28) hx hb (1) (1) dL_act_20 (by decide) (by omega) (by omega) rfl rfl (fun c_20 => absurd c_20 (by omega)) (fun c_20 => ?_)
      refine lv_aload hx hb dL_act_23 (lv_at hl 6 rfl) ?_
      refine lv_goto (tgt := 30) hx hb dL_act_25 (by decide) ?_
      refine lv_astore (lv' := [(10, .ref (rb)), (9, .int (nI (1))), (0, .ref (x0)), (1, .int (nI (q9))), (2, .int (nI (x1))), (3, .int (nI (yv))), (4, .ref (ra)), (5, .ref (rb)), (6, .ref (rc)), (7, .ref (qe)), (8, .ref (qd))]) hx hb dL_act_30 hl (by decide) rfl (fun ls hl => ?_)
      refine lv_iload_n hx hb dL_act_32 rfl (lv_at hl 4 rfl) ?_
      refine lv_iconst (v := 3) hx hb dL_act_33 (by decide) ?_
      refine lv_ishr hx hb dL_act_34 ?_
      refine z_top (y := nI ((x1) / 8)) (pk_shrN (n := x1) (by omega) ((3 : Int32) &&& 31) 3 (by decide)) ?_
      refine lv_bipush (v := 12) hx hb dL_act_35 (by decide) ?_
      refine z_ci (z_srun (rest := []) (own := RL) (As := [.int (nI ((x1) / 8)), .int (12)]) hx hb hml hown hts hl.1 hK hP [] rfl (metL_at l D ac ((x1) / 8) 12 (by omega) (by omega)) gL_act_L_at rfl 2 (by decide +kernel) ⟨rfl, rfl, Nat.le_of_ble_eq_true rfl, Nat.le_of_ble_eq_true rfl⟩ rfl rfl (Nat.le_of_ble_eq_true rfl) dL_act_37 ⟨Nat.zero_le _, Nat.zero_le _⟩) ?_
      refine z_top (y := nI (s1)) (congrArg nI hs9) ?_
      refine lv_istore (lv' := [(11, .int (nI (s1))), (10, .ref (rb)), (9, .int (nI (1))), (0, .ref (x0)), (1, .int (nI (q9))), (2, .int (nI (x1))), (3, .int (nI (yv))), (4, .ref (ra)), (5, .ref (rb)), (6, .ref (rc)), (7, .ref (qe)), (8, .ref (qd))]) hx hb dL_act_40 hl (by decide) rfl (fun ls hl => ?_)
      refine lv_iload_n hx hb dL_act_42 rfl (lv_at hl 6 rfl) ?_
      refine lv_iconst (v := 4) hx hb dL_act_43 (by decide) ?_
      refine z_ci (z_srun (rest := []) (own := RL) (As := [.int (nI (yv)), .int (4)]) hx hb hml hown hts hl.1 hK hP [] rfl (metL_at l D ac yv 4 (by omega) (by omega)) gL_act_L_at rfl 2 (by decide +kernel) ⟨rfl, rfl, Nat.le_of_ble_eq_true rfl, Nat.le_of_ble_eq_true rfl⟩ rfl rfl (Nat.le_of_ble_eq_true rfl) dL_act_44 ⟨Nat.zero_le _, Nat.zero_le _⟩) ?_
      refine lv_istore (lv' := [(12, .int (nI (yv / 2 % 4))), (11, .int (nI (s1))), (10, .ref (rb)), (9, .int (nI (1))), (0, .ref (x0)), (1, .int (nI (q9))), (2, .int (nI (x1))), (3, .int (nI (yv))), (4, .ref (ra)), (5, .ref (rb)), (6, .ref (rc)), (7, .ref (qe)), (8, .ref (qd))]) hx hb dL_act_47 hl (by decide) rfl (fun ls hl => ?_)
      refine lv_iload_n hx hb dL_act_49 rfl (lv_at hl 5 rfl) ?_
      refine lv_iconst (v := 5) hx hb dL_act_50 (by decide) ?_
      refine z_icmp_ge (tgt := 158) hx hb (q9) (5) dL_act_51 (by decide) (by omega) (by omega) rfl rfl (fun c_51 => ?_) (fun c_51 => absurd c_51 (by omega))
      refine lv_iload_n hx hb dL_act_158 rfl (lv_at hl 5 rfl) ?_
      refine lv_bipush (v := 9) hx hb dL_act_159 (by decide) ?_
      refine z_icmp_ge (tgt := 269) hx hb (q9) (9) dL_act_161 (by decide) (by omega) (by omega) rfl rfl (fun c_161 => ?_) (fun c_161 => absurd c_161 (by omega))
      refine lv_iload_n hx hb dL_act_269 rfl (lv_at hl 5 rfl) ?_
      refine lv_bipush (v := 9) hx hb dL_act_270 (by decide) ?_
      refine z_icmp_ne (tgt := 428) hx hb (q9) (9) dL_act_272 (by decide) (by omega) (by omega) rfl rfl (fun c_272 => ?_) (fun c_272 => absurd c_272 (by omega))
      refine lv_iload_n hx hb dL_act_428 rfl (lv_at hl 5 rfl) ?_
      refine lv_bipush (v := 10) hx hb dL_act_429 (by decide) ?_
      refine z_icmp_ne (tgt := 536) hx hb (q9) (10) dL_act_431 (by decide) (by omega) (by omega) rfl rfl (fun c_431 => ?_) (fun c_431 => absurd c_431 (by omega))
      refine lv_iload_n hx hb dL_act_536 rfl (lv_at hl 5 rfl) ?_
      refine lv_bipush (v := 11) hx hb dL_act_537 (by decide) ?_
      refine z_icmp_ne (tgt := 670) hx hb (q9) (11) dL_act_539 (by decide) (by omega) (by omega) rfl rfl (fun c_539 => absurd c_539 (by omega)) (fun c_539 => ?_)
      refine lv_iload hx hb dL_act_542 (lv_at hl 3 rfl) ?_
      refine lv_iconst (v := 1) hx hb dL_act_544 (by decide) ?_
      refine lv_iadd hx hb dL_act_545 ?_
      refine z_top (y := nI (2)) (nI_add (1) (1)) ?_
      refine lv_iload_n hx hb dL_act_546 rfl (lv_at hl 7 rfl) ?_
      refine lv_iconst (v := 2) hx hb dL_act_547 (by decide) ?_
      refine z_ci (z_srun (rest := [.int (nI (2))]) (own := RL) (As := [.int (nI (yv)), .int (2)]) hx hb hml hown hts hl.1 hK hP [] rfl (metL_at l D ac yv 2 (by omega) (by omega)) gL_act_L_at rfl 2 (by decide +kernel) ⟨rfl, rfl, Nat.le_of_ble_eq_true rfl, Nat.le_of_ble_eq_true rfl⟩ rfl rfl (Nat.le_of_ble_eq_true rfl) dL_act_548 ⟨Nat.zero_le _, Nat.zero_le _⟩) ?_
      refine lv_iadd hx hb dL_act_551 ?_
      refine z_top (y := nI ((2) + (yv / 2 % 2))) (nI_add (2) (yv / 2 % 2)) ?_
      refine lv_iconst (v := 3) hx hb dL_act_552 (by decide) ?_
      refine lv_irem hx hb dL_act_553 (by decide) ?_
      refine z_top (y := nI (((2) + (yv / 2 % 2)) % (3))) (pk_rem (a := (2) + (yv / 2 % 2)) (d := 3) (by omega) (by omega) (by omega)) ?_
      refine z_top (y := nI (0)) (congrArg nI hj8) ?_
      refine lv_istore (lv' := [(13, .int (nI (0))), (12, .int (nI (yv / 2 % 4))), (11, .int (nI (s1))), (10, .ref (rb)), (9, .int (nI (1))), (0, .ref (x0)), (1, .int (nI (q9))), (2, .int (nI (x1))), (3, .int (nI (yv))), (4, .ref (ra)), (5, .ref (rb)), (6, .ref (rc)), (7, .ref (qe)), (8, .ref (qd))]) hx hb dL_act_554 hl (by decide) rfl (fun ls hl => ?_)
      refine lv_iload hx hb dL_act_556 (lv_at hl 0 rfl) ?_
      refine lv_if_ne (tgt := 566) hx hb dL_act_558 (by decide) (fun c_ => absurd (by decide) c_) (fun _ => ?_)
      refine lv_aload hx hb dL_act_561 (lv_at hl 9 rfl) ?_
      refine lv_goto (tgt := 579) hx hb dL_act_563 (by decide) ?_
      refine lv_astore (lv' := [(14, .ref (ra)), (13, .int (nI (0))), (12, .int (nI (yv / 2 % 4))), (11, .int (nI (s1))), (10, .ref (rb)), (9, .int (nI (1))), (0, .ref (x0)), (1, .int (nI (q9))), (2, .int (nI (x1))), (3, .int (nI (yv))), (4, .ref (ra)), (5, .ref (rb)), (6, .ref (rc)), (7, .ref (qe)), (8, .ref (qd))]) hx hb dL_act_579 hl (by decide) rfl (fun ls hl => ?_)
      refine lv_aload hx hb dL_act_581 (lv_at hl 4 rfl) ?_
      refine lv_iconst (v := 0) hx hb dL_act_583 (by decide) ?_
      refine lv_iload hx hb dL_act_584 (lv_at hl 3 rfl) ?_
      refine z_ci (z_srun (rest := []) (own := RL) (As := [.ref (rb), .int (0), .int (nI (s1))]) hx hb hml hown hts hl.1 hK hP [30] rfl (metL_sum l D ac rb (qV z 1) 0 s1 (by omega) (by omega)) gL_act_L_sum rfl 3 (by decide +kernel) ⟨rfl, rfl, Nat.le_of_ble_eq_true rfl, Nat.le_of_ble_eq_true rfl⟩ rfl rfl (Nat.le_of_ble_eq_true rfl) dL_act_586 ⟨Nat.zero_le _, Nat.zero_le _⟩) ?_
      refine z_top (y := qTo (qV z 1) (s1 + 1)) (l_sum_to _ _) ?_
      refine lv_istore (lv' := [(15, .int (qTo (qV z 1) (s1 + 1))), (14, .ref (ra)), (13, .int (nI (0))), (12, .int (nI (yv / 2 % 4))), (11, .int (nI (s1))), (10, .ref (rb)), (9, .int (nI (1))), (0, .ref (x0)), (1, .int (nI (q9))), (2, .int (nI (x1))), (3, .int (nI (yv))), (4, .ref (ra)), (5, .ref (rb)), (6, .ref (rc)), (7, .ref (qe)), (8, .ref (qd))]) hx hb dL_act_589 hl (by decide) rfl (fun ls hl => ?_)
      refine lv_iload hx hb dL_act_591 (lv_at hl 0 rfl) ?_
      refine lv_aload hx hb dL_act_593 (lv_at hl 1 rfl) ?_
      refine lv_iconst (v := 0) hx hb dL_act_595 (by decide) ?_
      refine lv_bipush (v := 11) hx hb dL_act_596 (by decide) ?_
      refine z_ci (z_srun (rest := [.int (qTo (qV z 1) (s1 + 1))]) (own := RL) (As := [.ref (ra), .int (0), .int (11)]) hx hb hml hown hts hl.1 hK hP [29] rfl (metL_sum l D ac ra (qV z 0) 0 11 (by omega) (by omega)) gL_act_L_sum rfl 3 (by decide +kernel) ⟨rfl, rfl, Nat.le_of_ble_eq_true rfl, Nat.le_of_ble_eq_true rfl⟩ rfl rfl (Nat.le_of_ble_eq_true rfl) dL_act_598 ⟨Nat.zero_le _, Nat.zero_le _⟩) ?_
      refine z_top (y := qAll (qV z 0)) (l_sum_all _) ?_
      refine lv_iadd hx hb dL_act_601 ?_
      refine lv_sipush (v := 5000) hx hb dL_act_602 (by decide) ?_
      refine lv_icmp_le (tgt := 610) hx hb dL_act_605 (by decide) (fun c_605 => absurd c_605 (fun q => h3 (by rw [Int32.add_comm]; exact q))) (fun c_605 => ?_)
      refine lv_iconst (v := 1) hx hb dL_act_608 (by decide) ?_
      exact z_zretW hx hb hr hlocks hK hP hD hS hAe (rfl) (rfl) dL_act_609
    · exact absurd rfl hne
    · refine lv_if_ne (tgt := 17) hx hb dL_act_9 (by decide) (fun _ => ?_) (fun c_ => absurd c_ (by decide))
      refine lv_iload hx hb dL_act_17 (lv_at hl 0 rfl) ?_
      refine lv_iconst (v := 1) hx hb dL_act_19 (by decide) ?_
      refine z_icmp_ne (tgt := 28) hx hb (1) (1) dL_act_20 (by decide) (by omega) (by omega) rfl rfl (fun c_20 => absurd c_20 (by omega)) (fun c_20 => ?_)
      refine lv_aload hx hb dL_act_23 (lv_at hl 6 rfl) ?_
      refine lv_goto (tgt := 30) hx hb dL_act_25 (by decide) ?_
      refine lv_astore (lv' := [(10, .ref (rb)), (9, .int (nI (1))), (0, .ref (x0)), (1, .int (nI (q9))), (2, .int (nI (x1))), (3, .int (nI (yv))), (4, .ref (ra)), (5, .ref (rb)), (6, .ref (rc)), (7, .ref (qe)), (8, .ref (qd))]) hx hb dL_act_30 hl (by decide) rfl (fun ls hl => ?_)
      refine lv_iload_n hx hb dL_act_32 rfl (lv_at hl 4 rfl) ?_
      refine lv_iconst (v := 3) hx hb dL_act_33 (by decide) ?_
      refine lv_ishr hx hb dL_act_34 ?_
      refine z_top (y := nI ((x1) / 8)) (pk_shrN (n := x1) (by omega) ((3 : Int32) &&& 31) 3 (by decide)) ?_
      refine lv_bipush (v := 12) hx hb dL_act_35 (by decide) ?_
      refine z_ci (z_srun (rest := []) (own := RL) (As := [.int (nI ((x1) / 8)), .int (12)]) hx hb hml hown hts hl.1 hK hP [] rfl (metL_at l D ac ((x1) / 8) 12 (by omega) (by omega)) gL_act_L_at rfl 2 (by decide +kernel) ⟨rfl, rfl, Nat.le_of_ble_eq_true rfl, Nat.le_of_ble_eq_true rfl⟩ rfl rfl (Nat.le_of_ble_eq_true rfl) dL_act_37 ⟨Nat.zero_le _, Nat.zero_le _⟩) ?_
      refine z_top (y := nI (s1)) (congrArg nI hs9) ?_
      refine lv_istore (lv' := [(11, .int (nI (s1))), (10, .ref (rb)), (9, .int (nI (1))), (0, .ref (x0)), (1, .int (nI (q9))), (2, .int (nI (x1))), (3, .int (nI (yv))), (4, .ref (ra)), (5, .ref (rb)), (6, .ref (rc)), (7, .ref (qe)), (8, .ref (qd))]) hx hb dL_act_40 hl (by decide) rfl (fun ls hl => ?_)
      refine lv_iload_n hx hb dL_act_42 rfl (lv_at hl 6 rfl) ?_
      refine lv_iconst (v := 4) hx hb dL_act_43 (by decide) ?_
      refine z_ci (z_srun (rest := []) (own := RL) (As := [.int (nI (yv)), .int (4)]) hx hb hml hown hts hl.1 hK hP [] rfl (metL_at l D ac yv 4 (by omega) (by omega)) gL_act_L_at rfl 2 (by decide +kernel) ⟨rfl, rfl, Nat.le_of_ble_eq_true rfl, Nat.le_of_ble_eq_true rfl⟩ rfl rfl (Nat.le_of_ble_eq_true rfl) dL_act_44 ⟨Nat.zero_le _, Nat.zero_le _⟩) ?_
      refine lv_istore (lv' := [(12, .int (nI (yv / 2 % 4))), (11, .int (nI (s1))), (10, .ref (rb)), (9, .int (nI (1))), (0, .ref (x0)), (1, .int (nI (q9))), (2, .int (nI (x1))), (3, .int (nI (yv))), (4, .ref (ra)), (5, .ref (rb)), (6, .ref (rc)), (7, .ref (qe)), (8, .ref (qd))]) hx hb dL_act_47 hl (by decide) rfl (fun ls hl => ?_)
      refine lv_iload_n hx hb dL_act_49 rfl (lv_at hl 5 rfl) ?_
      refine lv_iconst (v := 5) hx hb dL_act_50 (by decide) ?_
      refine z_icmp_ge (tgt := 158) hx hb (q9) (5) dL_act_51 (by decide) (by omega) (by omega) rfl rfl (fun c_51 => ?_) (fun c_51 => absurd c_51 (by omega))
      refine lv_iload_n hx hb dL_act_158 rfl (lv_at hl 5 rfl) ?_
      refine lv_bipush (v := 9) hx hb dL_act_159 (by decide) ?_
      refine z_icmp_ge (tgt := 269) hx hb (q9) (9) dL_act_161 (by decide) (by omega) (by omega) rfl rfl (fun c_161 => ?_) (fun c_161 => absurd c_161 (by omega))
      refine lv_iload_n hx hb dL_act_269 rfl (lv_at hl 5 rfl) ?_
      refine lv_bipush (v := 9) hx hb dL_act_270 (by decide) ?_
      refine z_icmp_ne (tgt := 428) hx hb (q9) (9) dL_act_272 (by decide) (by omega) (by omega) rfl rfl (fun c_272 => ?_) (fun c_272 => absurd c_272 (by omega))
      refine lv_iload_n hx hb dL_act_428 rfl (lv_at hl 5 rfl) ?_
      refine lv_bipush (v := 10) hx hb dL_act_429 (by decide) ?_
      refine z_icmp_ne (tgt := 536) hx hb (q9) (10) dL_act_431 (by decide) (by omega) (by omega) rfl rfl (fun c_431 => ?_) (fun c_431 => absurd c_431 (by omega))
      refine lv_iload_n hx hb dL_act_536 rfl (lv_at hl 5 rfl) ?_
      refine lv_bipush (v := 11) hx hb dL_act_537 (by decide) ?_
      refine z_icmp_ne (tgt := 670) hx hb (q9) (11) dL_act_539 (by decide) (by omega) (by omega) rfl rfl (fun c_539 => absurd c_539 (by omega)) (fun c_539 => ?_)
      refine lv_iload hx hb dL_act_542 (lv_at hl 3 rfl) ?_
      refine lv_iconst (v := 1) hx hb dL_act_544 (by decide) ?_
      refine lv_iadd hx hb dL_act_545 ?_
      refine z_top (y := nI (2)) (nI_add (1) (1)) ?_
      refine lv_iload_n hx hb dL_act_546 rfl (lv_at hl 7 rfl) ?_
      refine lv_iconst (v := 2) hx hb dL_act_547 (by decide) ?_
      refine z_ci (z_srun (rest := [.int (nI (2))]) (own := RL) (As := [.int (nI (yv)), .int (2)]) hx hb hml hown hts hl.1 hK hP [] rfl (metL_at l D ac yv 2 (by omega) (by omega)) gL_act_L_at rfl 2 (by decide +kernel) ⟨rfl, rfl, Nat.le_of_ble_eq_true rfl, Nat.le_of_ble_eq_true rfl⟩ rfl rfl (Nat.le_of_ble_eq_true rfl) dL_act_548 ⟨Nat.zero_le _, Nat.zero_le _⟩) ?_
      refine lv_iadd hx hb dL_act_551 ?_
      refine z_top (y := nI ((2) + (yv / 2 % 2))) (nI_add (2) (yv / 2 % 2)) ?_
      refine lv_iconst (v := 3) hx hb dL_act_552 (by decide) ?_
      refine lv_irem hx hb dL_act_553 (by decide) ?_
      refine z_top (y := nI (((2) + (yv / 2 % 2)) % (3))) (pk_rem (a := (2) + (yv / 2 % 2)) (d := 3) (by omega) (by omega) (by omega)) ?_
      refine z_top (y := nI (2)) (congrArg nI hj8) ?_
      refine lv_istore (lv' := [(13, .int (nI (2))), (12, .int (nI (yv / 2 % 4))), (11, .int (nI (s1))), (10, .ref (rb)), (9, .int (nI (1))), (0, .ref (x0)), (1, .int (nI (q9))), (2, .int (nI (x1))), (3, .int (nI (yv))), (4, .ref (ra)), (5, .ref (rb)), (6, .ref (rc)), (7, .ref (qe)), (8, .ref (qd))]) hx hb dL_act_554 hl (by decide) rfl (fun ls hl => ?_)
      refine lv_iload hx hb dL_act_556 (lv_at hl 0 rfl) ?_
      refine lv_if_ne (tgt := 566) hx hb dL_act_558 (by decide) (fun _ => ?_) (fun c_ => absurd c_ (by decide))
      refine lv_iload hx hb dL_act_566 (lv_at hl 0 rfl) ?_
      refine lv_iconst (v := 1) hx hb dL_act_568 (by decide) ?_
      refine z_icmp_ne (tgt := 577) hx hb (2) (1) dL_act_569 (by decide) (by omega) (by omega) rfl rfl (fun c_569 => ?_) (fun c_569 => absurd c_569 (by omega))
      refine lv_aload hx hb dL_act_577 (lv_at hl 11 rfl) ?_
      refine lv_astore (lv' := [(14, .ref (rc)), (13, .int (nI (2))), (12, .int (nI (yv / 2 % 4))), (11, .int (nI (s1))), (10, .ref (rb)), (9, .int (nI (1))), (0, .ref (x0)), (1, .int (nI (q9))), (2, .int (nI (x1))), (3, .int (nI (yv))), (4, .ref (ra)), (5, .ref (rb)), (6, .ref (rc)), (7, .ref (qe)), (8, .ref (qd))]) hx hb dL_act_579 hl (by decide) rfl (fun ls hl => ?_)
      refine lv_aload hx hb dL_act_581 (lv_at hl 4 rfl) ?_
      refine lv_iconst (v := 0) hx hb dL_act_583 (by decide) ?_
      refine lv_iload hx hb dL_act_584 (lv_at hl 3 rfl) ?_
      refine z_ci (z_srun (rest := []) (own := RL) (As := [.ref (rb), .int (0), .int (nI (s1))]) hx hb hml hown hts hl.1 hK hP [30] rfl (metL_sum l D ac rb (qV z 1) 0 s1 (by omega) (by omega)) gL_act_L_sum rfl 3 (by decide +kernel) ⟨rfl, rfl, Nat.le_of_ble_eq_true rfl, Nat.le_of_ble_eq_true rfl⟩ rfl rfl (Nat.le_of_ble_eq_true rfl) dL_act_586 ⟨Nat.zero_le _, Nat.zero_le _⟩) ?_
      refine z_top (y := qTo (qV z 1) (s1 + 1)) (l_sum_to _ _) ?_
      refine lv_istore (lv' := [(15, .int (qTo (qV z 1) (s1 + 1))), (14, .ref (rc)), (13, .int (nI (2))), (12, .int (nI (yv / 2 % 4))), (11, .int (nI (s1))), (10, .ref (rb)), (9, .int (nI (1))), (0, .ref (x0)), (1, .int (nI (q9))), (2, .int (nI (x1))), (3, .int (nI (yv))), (4, .ref (ra)), (5, .ref (rb)), (6, .ref (rc)), (7, .ref (qe)), (8, .ref (qd))]) hx hb dL_act_589 hl (by decide) rfl (fun ls hl => ?_)
      refine lv_iload hx hb dL_act_591 (lv_at hl 0 rfl) ?_
      refine lv_aload hx hb dL_act_593 (lv_at hl 1 rfl) ?_
      refine lv_iconst (v := 0) hx hb dL_act_595 (by decide) ?_
      refine lv_bipush (v := 11) hx hb dL_act_596 (by decide) ?_
      refine z_ci (z_srun (rest := [.int (qTo (qV z 1) (s1 + 1))]) (own := RL) (As := [.ref (rc), .int (0), .int (11)]) hx hb hml hown hts hl.1 hK hP [31] rfl (metL_sum l D ac rc (qV z 2) 0 11 (by omega) (by omega)) gL_act_L_sum rfl 3 (by decide +kernel) ⟨rfl, rfl, Nat.le_of_ble_eq_true rfl, Nat.le_of_ble_eq_true rfl⟩ rfl rfl (Nat.le_of_ble_eq_true rfl) dL_act_598 ⟨Nat.zero_le _, Nat.zero_le _⟩) ?_
      refine z_top (y := qAll (qV z 2)) (l_sum_all _) ?_
      refine lv_iadd hx hb dL_act_601 ?_
      refine lv_sipush (v := 5000) hx hb dL_act_602 (by decide) ?_
      refine lv_icmp_le (tgt := 610) hx hb dL_act_605 (by decide) (fun c_605 => absurd c_605 (fun q => h3 (by rw [Int32.add_comm]; exact q))) (fun c_605 => ?_)
      refine lv_iconst (v := 1) hx hb dL_act_608 (by decide) ?_
      exact z_zretW hx hb hr hlocks hK hP hD hS hAe (rfl) (rfl) dL_act_609
  · refine lv_iload hx hb dL_act_7 (lv_at hl 0 rfl) ?_
    obtain rfl | rfl | rfl := z_cases3 hj2
    · refine lv_if_ne (tgt := 17) hx hb dL_act_9 (by decide) (fun _ => ?_) (fun c_ => absurd c_ (by decide))
      refine lv_iload hx hb dL_act_17 (lv_at hl 0 rfl) ?_
      refine lv_iconst (v := 1) hx hb dL_act_19 (by decide) ?_
      refine z_icmp_ne (tgt := 28) hx hb (2) (1) dL_act_20 (by decide) (by omega) (by omega) rfl rfl (fun c_20 => ?_) (fun c_20 => absurd c_20 (by omega))
      refine lv_aload hx hb dL_act_28 (lv_at hl 7 rfl) ?_
      refine lv_astore (lv' := [(10, .ref (rc)), (9, .int (nI (2))), (0, .ref (x0)), (1, .int (nI (q9))), (2, .int (nI (x1))), (3, .int (nI (yv))), (4, .ref (ra)), (5, .ref (rb)), (6, .ref (rc)), (7, .ref (qe)), (8, .ref (qd))]) hx hb dL_act_30 hl (by decide) rfl (fun ls hl => ?_)
      refine lv_iload_n hx hb dL_act_32 rfl (lv_at hl 4 rfl) ?_
      refine lv_iconst (v := 3) hx hb dL_act_33 (by decide) ?_
      refine lv_ishr hx hb dL_act_34 ?_
      refine z_top (y := nI ((x1) / 8)) (pk_shrN (n := x1) (by omega) ((3 : Int32) &&& 31) 3 (by decide)) ?_
      refine lv_bipush (v := 12) hx hb dL_act_35 (by decide) ?_
      refine z_ci (z_srun (rest := []) (own := RL) (As := [.int (nI ((x1) / 8)), .int (12)]) hx hb hml hown hts hl.1 hK hP [] rfl (metL_at l D ac ((x1) / 8) 12 (by omega) (by omega)) gL_act_L_at rfl 2 (by decide +kernel) ⟨rfl, rfl, Nat.le_of_ble_eq_true rfl, Nat.le_of_ble_eq_true rfl⟩ rfl rfl (Nat.le_of_ble_eq_true rfl) dL_act_37 ⟨Nat.zero_le _, Nat.zero_le _⟩) ?_
      refine z_top (y := nI (s1)) (congrArg nI hs9) ?_
      refine lv_istore (lv' := [(11, .int (nI (s1))), (10, .ref (rc)), (9, .int (nI (2))), (0, .ref (x0)), (1, .int (nI (q9))), (2, .int (nI (x1))), (3, .int (nI (yv))), (4, .ref (ra)), (5, .ref (rb)), (6, .ref (rc)), (7, .ref (qe)), (8, .ref (qd))]) hx hb dL_act_40 hl (by decide) rfl (fun ls hl => ?_)
      refine lv_iload_n hx hb dL_act_42 rfl (lv_at hl 6 rfl) ?_
      refine lv_iconst (v := 4) hx hb dL_act_43 (by decide) ?_
      refine z_ci (z_srun (rest := []) (own := RL) (As := [.int (nI (yv)), .int (4)]) hx hb hml hown hts hl.1 hK hP [] rfl (metL_at l D ac yv 4 (by omega) (by omega)) gL_act_L_at rfl 2 (by decide +kernel) ⟨rfl, rfl, Nat.le_of_ble_eq_true rfl, Nat.le_of_ble_eq_true rfl⟩ rfl rfl (Nat.le_of_ble_eq_true rfl) dL_act_44 ⟨Nat.zero_le _, Nat.zero_le _⟩) ?_
      refine lv_istore (lv' := [(12, .int (nI (yv / 2 % 4))), (11, .int (nI (s1))), (10, .ref (rc)), (9, .int (nI (2))), (0, .ref (x0)), (1, .int (nI (q9))), (2, .int (nI (x1))), (3, .int (nI (yv))), (4, .ref (ra)), (5, .ref (rb)), (6, .ref (rc)), (7, .ref (qe)), (8, .ref (qd))]) hx hb dL_act_47 hl (by decide) rfl (fun ls hl => ?_)
      refine lv_iload_n hx hb dL_act_49 rfl (lv_at hl 5 rfl) ?_
      refine lv_iconst (v := 5) hx hb dL_act_50 (by decide) ?_
      refine z_icmp_ge (tgt := 158) hx hb (q9) (5) dL_act_51 (by decide) (by omega) (by omega) rfl rfl (fun c_51 => ?_) (fun c_51 => absurd c_51 (by omega))
      refine lv_iload_n hx hb dL_act_158 rfl (lv_at hl 5 rfl) ?_
      refine lv_bipush (v := 9) hx hb dL_act_159 (by decide) ?_
      refine z_icmp_ge (tgt := 269) hx hb (q9) (9) dL_act_161 (by decide) (by omega) (by omega) rfl rfl (fun c_161 => ?_) (fun c_161 => absurd c_161 (by omega))
      refine lv_iload_n hx hb dL_act_269 rfl (lv_at hl 5 rfl) ?_
      refine lv_bipush (v := 9) hx hb dL_act_270 (by decide) ?_
      refine z_icmp_ne (tgt := 428) hx hb (q9) (9) dL_act_272 (by decide) (by omega) (by omega) rfl rfl (fun c_272 => ?_) (fun c_272 => absurd c_272 (by omega))
      refine lv_iload_n hx hb dL_act_428 rfl (lv_at hl 5 rfl) ?_
      refine lv_bipush (v := 10) hx hb dL_act_429 (by decide) ?_
      refine z_icmp_ne (tgt := 536) hx hb (q9) (10) dL_act_431 (by decide) (by omega) (by omega) rfl rfl (fun c_431 => ?_) (fun c_431 => absurd c_431 (by omega))
      refine lv_iload_n hx hb dL_act_536 rfl (lv_at hl 5 rfl) ?_
      refine lv_bipush (v := 11) hx hb dL_act_537 (by decide) ?_
      refine z_icmp_ne (tgt := 670) hx hb (q9) (11) dL_act_539 (by decide) (by omega) (by omega) rfl rfl (fun c_539 => absurd c_539 (by omega)) (fun c_539 => ?_)
      refine lv_iload hx hb dL_act_542 (lv_at hl 3 rfl) ?_
      refine lv_iconst (v := 1) hx hb dL_act_544 (by decide) ?_
      refine lv_iadd hx hb dL_act_545 ?_
      refine z_top (y := nI (3)) (nI_add (2) (1)) ?_
      refine lv_iload_n hx hb dL_act_546 rfl (lv_at hl 7 rfl) ?_
      refine lv_iconst (v := 2) hx hb dL_act_547 (by decide) ?_
      refine z_ci (z_srun (rest := [.int (nI (3))]) (own := RL) (As := [.int (nI (yv)), .int (2)]) hx hb hml hown hts hl.1 hK hP [] rfl (metL_at l D ac yv 2 (by omega) (by omega)) gL_act_L_at rfl 2 (by decide +kernel) ⟨rfl, rfl, Nat.le_of_ble_eq_true rfl, Nat.le_of_ble_eq_true rfl⟩ rfl rfl (Nat.le_of_ble_eq_true rfl) dL_act_548 ⟨Nat.zero_le _, Nat.zero_le _⟩) ?_
      refine lv_iadd hx hb dL_act_551 ?_
      refine z_top (y := nI ((3) + (yv / 2 % 2))) (nI_add (3) (yv / 2 % 2)) ?_
      refine lv_iconst (v := 3) hx hb dL_act_552 (by decide) ?_
      refine lv_irem hx hb dL_act_553 (by decide) ?_
      refine z_top (y := nI (((3) + (yv / 2 % 2)) % (3))) (pk_rem (a := (3) + (yv / 2 % 2)) (d := 3) (by omega) (by omega) (by omega)) ?_
      refine z_top (y := nI (0)) (congrArg nI hj8) ?_
      refine lv_istore (lv' := [(13, .int (nI (0))), (12, .int (nI (yv / 2 % 4))), (11, .int (nI (s1))), (10, .ref (rc)), (9, .int (nI (2))), (0, .ref (x0)), (1, .int (nI (q9))), (2, .int (nI (x1))), (3, .int (nI (yv))), (4, .ref (ra)), (5, .ref (rb)), (6, .ref (rc)), (7, .ref (qe)), (8, .ref (qd))]) hx hb dL_act_554 hl (by decide) rfl (fun ls hl => ?_)
      refine lv_iload hx hb dL_act_556 (lv_at hl 0 rfl) ?_
      refine lv_if_ne (tgt := 566) hx hb dL_act_558 (by decide) (fun c_ => absurd (by decide) c_) (fun _ => ?_)
      refine lv_aload hx hb dL_act_561 (lv_at hl 9 rfl) ?_
      refine lv_goto (tgt := 579) hx hb dL_act_563 (by decide) ?_
      refine lv_astore (lv' := [(14, .ref (ra)), (13, .int (nI (0))), (12, .int (nI (yv / 2 % 4))), (11, .int (nI (s1))), (10, .ref (rc)), (9, .int (nI (2))), (0, .ref (x0)), (1, .int (nI (q9))), (2, .int (nI (x1))), (3, .int (nI (yv))), (4, .ref (ra)), (5, .ref (rb)), (6, .ref (rc)), (7, .ref (qe)), (8, .ref (qd))]) hx hb dL_act_579 hl (by decide) rfl (fun ls hl => ?_)
      refine lv_aload hx hb dL_act_581 (lv_at hl 4 rfl) ?_
      refine lv_iconst (v := 0) hx hb dL_act_583 (by decide) ?_
      refine lv_iload hx hb dL_act_584 (lv_at hl 3 rfl) ?_
      refine z_ci (z_srun (rest := []) (own := RL) (As := [.ref (rc), .int (0), .int (nI (s1))]) hx hb hml hown hts hl.1 hK hP [31] rfl (metL_sum l D ac rc (qV z 2) 0 s1 (by omega) (by omega)) gL_act_L_sum rfl 3 (by decide +kernel) ⟨rfl, rfl, Nat.le_of_ble_eq_true rfl, Nat.le_of_ble_eq_true rfl⟩ rfl rfl (Nat.le_of_ble_eq_true rfl) dL_act_586 ⟨Nat.zero_le _, Nat.zero_le _⟩) ?_
      refine z_top (y := qTo (qV z 2) (s1 + 1)) (l_sum_to _ _) ?_
      refine lv_istore (lv' := [(15, .int (qTo (qV z 2) (s1 + 1))), (14, .ref (ra)), (13, .int (nI (0))), (12, .int (nI (yv / 2 % 4))), (11, .int (nI (s1))), (10, .ref (rc)), (9, .int (nI (2))), (0, .ref (x0)), (1, .int (nI (q9))), (2, .int (nI (x1))), (3, .int (nI (yv))), (4, .ref (ra)), (5, .ref (rb)), (6, .ref (rc)), (7, .ref (qe)), (8, .ref (qd))]) hx hb dL_act_589 hl (by decide) rfl (fun ls hl => ?_)
      refine lv_iload hx hb dL_act_591 (lv_at hl 0 rfl) ?_
      refine lv_aload hx hb dL_act_593 (lv_at hl 1 rfl) ?_
      refine lv_iconst (v := 0) hx hb dL_act_595 (by decide) ?_
      refine lv_bipush (v := 11) hx hb dL_act_596 (by decide) ?_
      refine z_ci (z_srun (rest := [.int (qTo (qV z 2) (s1 + 1))]) (own := RL) (As := [.ref (ra), .int (0), .int (11)]) hx hb hml hown hts hl.1 hK hP [29] rfl (metL_sum l D ac ra (qV z 0) 0 11 (by omega) (by omega)) gL_act_L_sum rfl 3 (by decide +kernel) ⟨rfl, rfl, Nat.le_of_ble_eq_true rfl, Nat.le_of_ble_eq_true rfl⟩ rfl rfl (Nat.le_of_ble_eq_true rfl) dL_act_598 ⟨Nat.zero_le _, Nat.zero_le _⟩) ?_
      refine z_top (y := qAll (qV z 0)) (l_sum_all _) ?_
      refine lv_iadd hx hb dL_act_601 ?_
      refine lv_sipush (v := 5000) hx hb dL_act_602 (by decide) ?_
      refine lv_icmp_le (tgt := 610) hx hb dL_act_605 (by decide) (fun c_605 => absurd c_605 (fun q => h3 (by rw [Int32.add_comm]; exact q))) (fun c_605 => ?_)
      refine lv_iconst (v := 1) hx hb dL_act_608 (by decide) ?_
      exact z_zretW hx hb hr hlocks hK hP hD hS hAe (rfl) (rfl) dL_act_609
    · refine lv_if_ne (tgt := 17) hx hb dL_act_9 (by decide) (fun _ => ?_) (fun c_ => absurd c_ (by decide))
      refine lv_iload hx hb dL_act_17 (lv_at hl 0 rfl) ?_
      refine lv_iconst (v := 1) hx hb dL_act_19 (by decide) ?_
      refine z_icmp_ne (tgt := 28) hx hb (2) (1) dL_act_20 (by decide) (by omega) (by omega) rfl rfl (fun c_20 => ?_) (fun c_20 => absurd c_20 (by omega))
      refine lv_aload hx hb dL_act_28 (lv_at hl 7 rfl) ?_
      refine lv_astore (lv' := [(10, .ref (rc)), (9, .int (nI (2))), (0, .ref (x0)), (1, .int (nI (q9))), (2, .int (nI (x1))), (3, .int (nI (yv))), (4, .ref (ra)), (5, .ref (rb)), (6, .ref (rc)), (7, .ref (qe)), (8, .ref (qd))]) hx hb dL_act_30 hl (by decide) rfl (fun ls hl => ?_)
      refine lv_iload_n hx hb dL_act_32 rfl (lv_at hl 4 rfl) ?_
      refine lv_iconst (v := 3) hx hb dL_act_33 (by decide) ?_
      refine lv_ishr hx hb dL_act_34 ?_
      refine z_top (y := nI ((x1) / 8)) (pk_shrN (n := x1) (by omega) ((3 : Int32) &&& 31) 3 (by decide)) ?_
      refine lv_bipush (v := 12) hx hb dL_act_35 (by decide) ?_
      refine z_ci (z_srun (rest := []) (own := RL) (As := [.int (nI ((x1) / 8)), .int (12)]) hx hb hml hown hts hl.1 hK hP [] rfl (metL_at l D ac ((x1) / 8) 12 (by omega) (by omega)) gL_act_L_at rfl 2 (by decide +kernel) ⟨rfl, rfl, Nat.le_of_ble_eq_true rfl, Nat.le_of_ble_eq_true rfl⟩ rfl rfl (Nat.le_of_ble_eq_true rfl) dL_act_37 ⟨Nat.zero_le _, Nat.zero_le _⟩) ?_
      refine z_top (y := nI (s1)) (congrArg nI hs9) ?_
      refine lv_istore (lv' := [(11, .int (nI (s1))), (10, .ref (rc)), (9, .int (nI (2))), (0, .ref (x0)), (1, .int (nI (q9))), (2, .int (nI (x1))), (3, .int (nI (yv))), (4, .ref (ra)), (5, .ref (rb)), (6, .ref (rc)), (7, .ref (qe)), (8, .ref (qd))]) hx hb dL_act_40 hl (by decide) rfl (fun ls hl => ?_)
      refine lv_iload_n hx hb dL_act_42 rfl (lv_at hl 6 rfl) ?_
      refine lv_iconst (v := 4) hx hb dL_act_43 (by decide) ?_
      refine z_ci (z_srun (rest := []) (own := RL) (As := [.int (nI (yv)), .int (4)]) hx hb hml hown hts hl.1 hK hP [] rfl (metL_at l D ac yv 4 (by omega) (by omega)) gL_act_L_at rfl 2 (by decide +kernel) ⟨rfl, rfl, Nat.le_of_ble_eq_true rfl, Nat.le_of_ble_eq_true rfl⟩ rfl rfl (Nat.le_of_ble_eq_true rfl) dL_act_44 ⟨Nat.zero_le _, Nat.zero_le _⟩) ?_
      refine lv_istore (lv' := [(12, .int (nI (yv / 2 % 4))), (11, .int (nI (s1))), (10, .ref (rc)), (9, .int (nI (2))), (0, .ref (x0)), (1, .int (nI (q9))), (2, .int (nI (x1))), (3, .int (nI (yv))), (4, .ref (ra)), (5, .ref (rb)), (6, .ref (rc)), (7, .ref (qe)), (8, .ref (qd))]) hx hb dL_act_47 hl (by decide) rfl (fun ls hl => ?_)
      refine lv_iload_n hx hb dL_act_49 rfl (lv_at hl 5 rfl) ?_
      refine lv_iconst (v := 5) hx hb dL_act_50 (by decide) ?_
      refine z_icmp_ge (tgt := 158) hx hb (q9) (5) dL_act_51 (by decide) (by omega) (by omega) rfl rfl (fun c_51 => ?_) (fun c_51 => absurd c_51 (by omega))
      refine lv_iload_n hx hb dL_act_158 rfl (lv_at hl 5 rfl) ?_
      refine lv_bipush (v := 9) hx hb dL_act_159 (by decide) ?_
      refine z_icmp_ge (tgt := 269) hx hb (q9) (9) dL_act_161 (by decide) (by omega) (by omega) rfl rfl (fun c_161 => ?_) (fun c_161 => absurd c_161 (by omega))
      refine lv_iload_n hx hb dL_act_269 rfl (lv_at hl 5 rfl) ?_
      refine lv_bipush (v := 9) hx hb dL_act_270 (by decide) ?_
      refine z_icmp_ne (tgt := 428) hx hb (q9) (9) dL_act_272 (by decide) (by omega) (by omega) rfl rfl (fun c_272 => ?_) (fun c_272 => absurd c_272 (by omega))
      refine lv_iload_n hx hb dL_act_428 rfl (lv_at hl 5 rfl) ?_
      refine lv_bipush (v := 10) hx hb dL_act_429 (by decide) ?_
      refine z_icmp_ne (tgt := 536) hx hb (q9) (10) dL_act_431 (by decide) (by omega) (by omega) rfl rfl (fun c_431 => ?_) (fun c_431 => absurd c_431 (by omega))
      refine lv_iload_n hx hb dL_act_536 rfl (lv_at hl 5 rfl) ?_
      refine lv_bipush (v := 11) hx hb dL_act_537 (by decide) ?_
      refine z_icmp_ne (tgt := 670) hx hb (q9) (11) dL_act_539 (by decide) (by omega) (by omega) rfl rfl (fun c_539 => absurd c_539 (by omega)) (fun c_539 => ?_)
      refine lv_iload hx hb dL_act_542 (lv_at hl 3 rfl) ?_
      refine lv_iconst (v := 1) hx hb dL_act_544 (by decide) ?_
      refine lv_iadd hx hb dL_act_545 ?_
      refine z_top (y := nI (3)) (nI_add (2) (1)) ?_
      refine lv_iload_n hx hb dL_act_546 rfl (lv_at hl 7 rfl) ?_
      refine lv_iconst (v := 2) hx hb dL_act_547 (by decide) ?_
      refine z_ci (z_srun (rest := [.int (nI (3))]) (own := RL) (As := [.int (nI (yv)), .int (2)]) hx hb hml hown hts hl.1 hK hP [] rfl (metL_at l D ac yv 2 (by omega) (by omega)) gL_act_L_at rfl 2 (by decide +kernel) ⟨rfl, rfl, Nat.le_of_ble_eq_true rfl, Nat.le_of_ble_eq_true rfl⟩ rfl rfl (Nat.le_of_ble_eq_true rfl) dL_act_548 ⟨Nat.zero_le _, Nat.zero_le _⟩) ?_
      refine lv_iadd hx hb dL_act_551 ?_
      refine z_top (y := nI ((3) + (yv / 2 % 2))) (nI_add (3) (yv / 2 % 2)) ?_
      refine lv_iconst (v := 3) hx hb dL_act_552 (by decide) ?_
      refine lv_irem hx hb dL_act_553 (by decide) ?_
      refine z_top (y := nI (((3) + (yv / 2 % 2)) % (3))) (pk_rem (a := (3) + (yv / 2 % 2)) (d := 3) (by omega) (by omega) (by omega)) ?_
      refine z_top (y := nI (1)) (congrArg nI hj8) ?_
      refine lv_istore (lv' := [(13, .int (nI (1))), (12, .int (nI (yv / 2 % 4))), (11, .int (nI (s1))), (10, .ref (rc)), (9, .int (nI (2))), (0, .ref (x0)), (1, .int (nI (q9))), (2, .int (nI (x1))), (3, .int (nI (yv))), (4, .ref (ra)), (5, .ref (rb)), (6, .ref (rc)), (7, .ref (qe)), (8, .ref (qd))]) hx hb dL_act_554 hl (by decide) rfl (fun ls hl => ?_)
      refine lv_iload hx hb dL_act_556 (lv_at hl 0 rfl) ?_
      refine lv_if_ne (tgt := 566) hx hb dL_act_558 (by decide) (fun _ => ?_) (fun c_ => absurd c_ (by decide))
      refine lv_iload hx hb dL_act_566 (lv_at hl 0 rfl) ?_
      refine lv_iconst (v := 1) hx hb dL_act_568 (by decide) ?_
      refine z_icmp_ne (tgt := 577) hx hb (1) (1) dL_act_569 (by decide) (by omega) (by omega) rfl rfl (fun c_569 => absurd c_569 (by omega)) (fun c_569 => ?_)
      refine lv_aload hx hb dL_act_572 (lv_at hl 10 rfl) ?_
      refine lv_goto (tgt := 579) hx hb dL_act_574 (by decide) ?_
      refine lv_astore (lv' := [(14, .ref (rb)), (13, .int (nI (1))), (12, .int (nI (yv / 2 % 4))), (11, .int (nI (s1))), (10, .ref (rc)), (9, .int (nI (2))), (0, .ref (x0)), (1, .int (nI (q9))), (2, .int (nI (x1))), (3, .int (nI (yv))), (4, .ref (ra)), (5, .ref (rb)), (6, .ref (rc)), (7, .ref (qe)), (8, .ref (qd))]) hx hb dL_act_579 hl (by decide) rfl (fun ls hl => ?_)
      refine lv_aload hx hb dL_act_581 (lv_at hl 4 rfl) ?_
      refine lv_iconst (v := 0) hx hb dL_act_583 (by decide) ?_
      refine lv_iload hx hb dL_act_584 (lv_at hl 3 rfl) ?_
      refine z_ci (z_srun (rest := []) (own := RL) (As := [.ref (rc), .int (0), .int (nI (s1))]) hx hb hml hown hts hl.1 hK hP [31] rfl (metL_sum l D ac rc (qV z 2) 0 s1 (by omega) (by omega)) gL_act_L_sum rfl 3 (by decide +kernel) ⟨rfl, rfl, Nat.le_of_ble_eq_true rfl, Nat.le_of_ble_eq_true rfl⟩ rfl rfl (Nat.le_of_ble_eq_true rfl) dL_act_586 ⟨Nat.zero_le _, Nat.zero_le _⟩) ?_
      refine z_top (y := qTo (qV z 2) (s1 + 1)) (l_sum_to _ _) ?_
      refine lv_istore (lv' := [(15, .int (qTo (qV z 2) (s1 + 1))), (14, .ref (rb)), (13, .int (nI (1))), (12, .int (nI (yv / 2 % 4))), (11, .int (nI (s1))), (10, .ref (rc)), (9, .int (nI (2))), (0, .ref (x0)), (1, .int (nI (q9))), (2, .int (nI (x1))), (3, .int (nI (yv))), (4, .ref (ra)), (5, .ref (rb)), (6, .ref (rc)), (7, .ref (qe)), (8, .ref (qd))]) hx hb dL_act_589 hl (by decide) rfl (fun ls hl => ?_)
      refine lv_iload hx hb dL_act_591 (lv_at hl 0 rfl) ?_
      refine lv_aload hx hb dL_act_593 (lv_at hl 1 rfl) ?_
      refine lv_iconst (v := 0) hx hb dL_act_595 (by decide) ?_
      refine lv_bipush (v := 11) hx hb dL_act_596 (by decide) ?_
      refine z_ci (z_srun (rest := [.int (qTo (qV z 2) (s1 + 1))]) (own := RL) (As := [.ref (rb), .int (0), .int (11)]) hx hb hml hown hts hl.1 hK hP [30] rfl (metL_sum l D ac rb (qV z 1) 0 11 (by omega) (by omega)) gL_act_L_sum rfl 3 (by decide +kernel) ⟨rfl, rfl, Nat.le_of_ble_eq_true rfl, Nat.le_of_ble_eq_true rfl⟩ rfl rfl (Nat.le_of_ble_eq_true rfl) dL_act_598 ⟨Nat.zero_le _, Nat.zero_le _⟩) ?_
      refine z_top (y := qAll (qV z 1)) (l_sum_all _) ?_
      refine lv_iadd hx hb dL_act_601 ?_
      refine lv_sipush (v := 5000) hx hb dL_act_602 (by decide) ?_
      refine lv_icmp_le (tgt := 610) hx hb dL_act_605 (by decide) (fun c_605 => absurd c_605 (fun q => h3 (by rw [Int32.add_comm]; exact q))) (fun c_605 => ?_)
      refine lv_iconst (v := 1) hx hb dL_act_608 (by decide) ?_
      exact z_zretW hx hb hr hlocks hK hP hD hS hAe (rfl) (rfl) dL_act_609
    · exact absurd rfl hne

