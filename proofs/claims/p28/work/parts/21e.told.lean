set_option maxRecDepth 100000 in
set_option maxHeartbeats 4000000 in
theorem metL_told (l : Launch) (D : va_G) (ac : Nat → ClassId) (sz : Nat) (z : Nat → Int32) (x0 : Nat) (n0 : Nat) (y0 : Nat) (ch : Nat) (sp0 : Nat) (y1 : Nat) (hf : Nat → Option Nat) (od : Nat) (sz1 : Nat) (n1 : Nat) (n2 : Nat) (n3 : Nat) (n4 : Nat) (n5 : Nat) (n6 : Nat) (n7 : Nat) (n8 : Nat) (n9 : Nat) (n10 : Nat) (n11 : Nat) (n12 : Nat) (ra : Nat) (rb : Nat) (rc : Nat) (qe : Nat) (qd : Nat) (x1 : Nat) (hG : mGood z) (hcons : lCons z) (hx1 : x1 < 2147483648) : Met l yL_told wsL_told ({ frames := 7, cells := 3, slots := 144, locals := 168 } : Room) (va_Pc [.ref (x0), .int (nI (x1)), .ref (ra), .ref (rb), .ref (rc), .ref (qe), .ref (qd)] (zS D ac [(x0, .inr (5, [.ref (n0), .ref (y0), .ref (ch), .ref (sp0)])), (y0, .inr (1, [.ref (y1), .int (nI (od)), .int (nI (sz1))])), (y1, .inl (ac 3, 6, .inr (.inr (.inr (.inr (hf)))))), (n0, .inr (4, [.ref (n1), .ref (n4), .ref (n11), .ref (n12), .int (z 160), .int (z 161)])), (n1, .inr (3, [.ref (n2), .ref (n3)])), (n2, .inl (ac 0, 4, .inl (cV z))), (n3, .inl (ac 0, 4, .inl (cW z))), (n4, .inl (ac 2, 3, .inr (.inr (.inr (.inr (zJ3 n5 n6 n7)))))), (n5, .inr (2, [.ref (n8)])), (n8, .inl (ac 0, 48, .inl (qV z 0))), (n6, .inr (2, [.ref (n9)])), (n9, .inl (ac 0, 48, .inl (qV z 1))), (n7, .inr (2, [.ref (n10)])), (n10, .inl (ac 0, 48, .inl (qV z 2))), (n11, .inl (ac 0, 4, .inl (cP z))), (n12, .inl (ac 0, 4, .inl (cR z))), (ra, .inl (ac 0, 48, .inl (qV z 0))), (rb, .inl (ac 0, 48, .inl (qV z 1))), (rc, .inl (ac 0, 48, .inl (qV z 2))), (qe, .inl (ac 0, 16, .inl (cV z))), (qd, .inl (ac 0, 2, .inl (lD z)))] sz)) (zQi D ac [(x0, .inr (5, [.ref (n0), .ref (y0), .ref (ch), .ref (sp0)])), (y0, .inr (1, [.ref (y1), .int (nI (od)), .int (nI (sz1))])), (y1, .inl (ac 3, 6, .inr (.inr (.inr (.inr (hf)))))), (n0, .inr (4, [.ref (n1), .ref (n4), .ref (n11), .ref (n12), .int (z 160), .int (z 161)])), (n1, .inr (3, [.ref (n2), .ref (n3)])), (n2, .inl (ac 0, 4, .inl (cV z))), (n3, .inl (ac 0, 4, .inl (cW z))), (n4, .inl (ac 2, 3, .inr (.inr (.inr (.inr (zJ3 n5 n6 n7)))))), (n5, .inr (2, [.ref (n8)])), (n8, .inl (ac 0, 48, .inl (qV z 0))), (n6, .inr (2, [.ref (n9)])), (n9, .inl (ac 0, 48, .inl (qV z 1))), (n7, .inr (2, [.ref (n10)])), (n10, .inl (ac 0, 48, .inl (qV z 2))), (n11, .inl (ac 0, 4, .inl (cP z))), (n12, .inl (ac 0, 4, .inl (cR z))), (ra, .inl (ac 0, 48, .inl (qV z 0))), (rb, .inl (ac 0, 48, .inl (qV z 1))), (rc, .inl (ac 0, 48, .inl (qV z 2))), (qe, .inl (ac 0, 16, .inl (cV z))), (qd, .inl (ac 0, 2, .inl (lD z)))] [(x0, .inr (5, [.ref (n0), .ref (y0), .ref (ch), .ref (sp0)])), (y0, .inr (1, [.ref (y1), .int (nI (od)), .int (nI (sz1))])), (y1, .inl (ac 3, 6, .inr (.inr (.inr (.inr (hf)))))), (n0, .inr (4, [.ref (n1), .ref (n4), .ref (n11), .ref (n12), .int (z 160), .int (z 161)])), (n1, .inr (3, [.ref (n2), .ref (n3)])), (n2, .inl (ac 0, 4, .inl (cV z))), (n3, .inl (ac 0, 4, .inl (cW z))), (n4, .inl (ac 2, 3, .inr (.inr (.inr (.inr (zJ3 n5 n6 n7)))))), (n5, .inr (2, [.ref (n8)])), (n8, .inl (ac 0, 48, .inl (qV z 0))), (n6, .inr (2, [.ref (n9)])), (n9, .inl (ac 0, 48, .inl (qV z 1))), (n7, .inr (2, [.ref (n10)])), (n10, .inl (ac 0, 48, .inl (qV z 2))), (n11, .inl (ac 0, 4, .inl (cP z))), (n12, .inl (ac 0, 4, .inl (cR z))), (ra, .inl (ac 0, 48, .inl (qV z 0))), (rb, .inl (ac 0, 48, .inl (qV z 1))), (rc, .inl (ac 0, 48, .inl (qV z 2))), (qe, .inl (ac 0, 16, .inl (cV z))), (qd, .inl (ac 0, 2, .inl (lD z)))] sz (1)) 3 144 (va_A [(x0, .inr (5, [.ref (n0), .ref (y0), .ref (ch), .ref (sp0)])), (y0, .inr (1, [.ref (y1), .int (nI (od)), .int (nI (sz1))])), (y1, .inl (ac 3, 6, .inr (.inr (.inr (.inr (hf)))))), (n0, .inr (4, [.ref (n1), .ref (n4), .ref (n11), .ref (n12), .int (z 160), .int (z 161)])), (n1, .inr (3, [.ref (n2), .ref (n3)])), (n2, .inl (ac 0, 4, .inl (cV z))), (n3, .inl (ac 0, 4, .inl (cW z))), (n4, .inl (ac 2, 3, .inr (.inr (.inr (.inr (zJ3 n5 n6 n7)))))), (n5, .inr (2, [.ref (n8)])), (n8, .inl (ac 0, 48, .inl (qV z 0))), (n6, .inr (2, [.ref (n9)])), (n9, .inl (ac 0, 48, .inl (qV z 1))), (n7, .inr (2, [.ref (n10)])), (n10, .inl (ac 0, 48, .inl (qV z 2))), (n11, .inl (ac 0, 4, .inl (cP z))), (n12, .inl (ac 0, 4, .inl (cR z))), (ra, .inl (ac 0, 48, .inl (qV z 0))), (rb, .inl (ac 0, 48, .inl (qV z 1))), (rc, .inl (ac 0, 48, .inl (qV z 2))), (qe, .inl (ac 0, 16, .inl (cV z))), (qd, .inl (ac 0, 2, .inl (lD z)))] sz) := by
  refine z_rw (cc := cL_told) (maxL := 11) (ret := (some .boolean)) (lv := [(0, .ref (x0)), (1, .int (nI (x1))), (2, .ref (ra)), (3, .ref (rb)), (4, .ref (rc)), (5, .ref (qe)), (6, .ref (qd))]) (by decide) rfl (Nat.le_of_ble_eq_true rfl) rfl ?_
  intro p e s m args below meth c ls A hx hb hr hml hown hts hlocks hl hK hP hsz hAe hA hD hS
  refine lv_aload_n hx hb dL_told_0 rfl (lv_at hl 0 rfl) ?_
  refine lv_iconst (v := 0) hx hb dL_told_1 (by decide) ?_
  refine lv_iload_n hx hb dL_told_2 rfl (lv_at hl 1 rfl) ?_
  refine lv_aload_n hx hb dL_told_3 rfl (lv_at hl 2 rfl) ?_
  refine lv_aload hx hb dL_told_4 (lv_at hl 5 rfl) ?_
  refine z_ciW [(x0, .inr (5, [.ref (n0), .ref (y0), .ref (ch), .ref (sp0)])), (y0, .inr (1, [.ref (y1), .int (nI (od)), .int (nI (sz1))])), (y1, .inl (ac 3, 6, .inr (.inr (.inr (.inr (hf)))))), (n0, .inr (4, [.ref (n1), .ref (n4), .ref (n11), .ref (n12), .int ((z 160)), .int ((z 161))])), (n1, .inr (3, [.ref (n2), .ref (n3)])), (n2, .inl (ac 0, 4, .inl (cV z))), (n3, .inl (ac 0, 4, .inl (cW z))), (n4, .inl (ac 2, 3, .inr (.inr (.inr (.inr (zJ3 n5 n6 n7)))))), (n5, .inr (2, [.ref (n8)])), (n8, .inl (ac 0, 48, .inl (qV z 0))), (n6, .inr (2, [.ref (n9)])), (n9, .inl (ac 0, 48, .inl (qV z 1))), (n7, .inr (2, [.ref (n10)])), (n10, .inl (ac 0, 48, .inl (qV z 2))), (n11, .inl (ac 0, 4, .inl (cP z))), (n12, .inl (ac 0, 4, .inl (cR z))), (ra, .inl (ac 0, 48, .inl (qV z 0))), (rb, .inl (ac 0, 48, .inl (qV z 1))), (rc, .inl (ac 0, 48, .inl (qV z 2))), (qe, .inl (ac 0, 16, .inl (cV z))), (qd, .inl (ac 0, 2, .inl (lD z)))] (z_srunW (rest := []) (own := RL) (As := [.ref (x0), .int (0), .int (nI (x1)), .ref (ra), .ref (qe)]) hx hb hml hown hts hl.1 hK hP hD [0, 3, 4, 5, 6, 7, 8, 9, 16, 19] rfl (by decide) rfl (metL_toldJar l D ac _ z 0 x0 n0 y0 ch sp0 n1 n2 n3 n4 n11 n12 (z 160) (z 161) (zJ3 n5 n6 n7) n5 n8 ra qe x1 (by omega) (hG) (rfl) (by omega)) gL_told_L_toldJar rfl 5 (by decide +kernel) ⟨rfl, rfl, Nat.le_of_ble_eq_true rfl, Nat.le_of_ble_eq_true rfl⟩ rfl rfl (Nat.le_of_ble_eq_true rfl) dL_told_6 ⟨Nat.le_of_ble_eq_true rfl, Nat.le_of_ble_eq_true rfl⟩) hP hD hS hA [0, 3, 4, 5, 6, 7, 8, 9, 16, 19] [1, 2, 10, 11, 12, 13, 14, 15, 17, 18, 20] [11, 0, 1, 12, 13, 14, 15, 16, 17, 18, 2, 3, 4, 5, 6, 7, 19, 8, 9, 20, 10] rfl rfl (by decide) (by decide) (by decide) rfl (fun H locs hP hD hS => ?_)
  refine lv_if_eq (tgt := 41) hx hb dL_told_9 (by decide) (fun c_ => absurd c_ (by decide)) (fun _ => ?_)
  refine lv_aload_n hx hb dL_told_12 rfl (lv_at hl 0 rfl) ?_
  refine lv_iconst (v := 1) hx hb dL_told_13 (by decide) ?_
  refine lv_iload_n hx hb dL_told_14 rfl (lv_at hl 1 rfl) ?_
  refine lv_iconst (v := 2) hx hb dL_told_15 (by decide) ?_
  refine lv_ishr hx hb dL_told_16 ?_
  refine z_top (y := nI ((x1) / 4)) (pk_shrN (n := x1) (by omega) ((2 : Int32) &&& 31) 2 (by decide)) ?_
  refine lv_aload_n hx hb dL_told_17 rfl (lv_at hl 3 rfl) ?_
  refine lv_aload hx hb dL_told_18 (lv_at hl 5 rfl) ?_
  refine z_ciW [(x0, .inr (5, [.ref (n0), .ref (y0), .ref (ch), .ref (sp0)])), (y0, .inr (1, [.ref (y1), .int (nI (od)), .int (nI (sz1))])), (y1, .inl (ac 3, 6, .inr (.inr (.inr (.inr (hf)))))), (n0, .inr (4, [.ref (n1), .ref (n4), .ref (n11), .ref (n12), .int (((z 160))), .int (((z 161)))])), (n1, .inr (3, [.ref (n2), .ref (n3)])), (n2, .inl (ac 0, 4, .inl (cV z))), (n3, .inl (ac 0, 4, .inl (cW z))), (n4, .inl (ac 2, 3, .inr (.inr (.inr (.inr (zJ3 n5 n6 n7)))))), (n5, .inr (2, [.ref (n8)])), (n8, .inl (ac 0, 48, .inl (qV z 0))), (n6, .inr (2, [.ref (n9)])), (n9, .inl (ac 0, 48, .inl (qV z 1))), (n7, .inr (2, [.ref (n10)])), (n10, .inl (ac 0, 48, .inl (qV z 2))), (n11, .inl (ac 0, 4, .inl (cP z))), (n12, .inl (ac 0, 4, .inl (cR z))), (ra, .inl (ac 0, 48, .inl (qV z 0))), (rb, .inl (ac 0, 48, .inl (qV z 1))), (rc, .inl (ac 0, 48, .inl (qV z 2))), (qe, .inl (ac 0, 16, .inl (cV z))), (qd, .inl (ac 0, 2, .inl (lD z)))] (z_srunW (rest := []) (own := RL) (As := [.ref (x0), .int (1), .int (nI ((x1) / 4)), .ref (rb), .ref (qe)]) hx hb hml hown hts hl.1 hK hP hD [0, 3, 4, 5, 6, 7, 10, 11, 17, 19] rfl (by decide) rfl (metL_toldJar l D ac _ z 1 x0 n0 y0 ch sp0 n1 n2 n3 n4 n11 n12 ((z 160)) ((z 161)) (zJ3 n5 n6 n7) n6 n9 rb qe ((x1) / 4) (by omega) (hG) (rfl) (by omega)) gL_told_L_toldJar rfl 5 (by decide +kernel) ⟨rfl, rfl, Nat.le_of_ble_eq_true rfl, Nat.le_of_ble_eq_true rfl⟩ rfl rfl (Nat.le_of_ble_eq_true rfl) dL_told_20 ⟨Nat.le_of_ble_eq_true rfl, Nat.le_of_ble_eq_true rfl⟩) hP hD hS hA [0, 3, 4, 5, 6, 7, 10, 11, 17, 19] [1, 2, 8, 9, 12, 13, 14, 15, 16, 18, 20] [11, 0, 1, 12, 13, 14, 15, 16, 2, 3, 17, 18, 4, 5, 6, 7, 8, 19, 9, 20, 10] rfl rfl (by decide) (by decide) (by decide) rfl (fun H locs hP hD hS => ?_)
  refine lv_if_eq (tgt := 41) hx hb dL_told_23 (by decide) (fun c_ => absurd c_ (by decide)) (fun _ => ?_)
  refine lv_aload_n hx hb dL_told_26 rfl (lv_at hl 0 rfl) ?_
  refine lv_iconst (v := 2) hx hb dL_told_27 (by decide) ?_
  refine lv_iload_n hx hb dL_told_28 rfl (lv_at hl 1 rfl) ?_
  refine lv_iconst (v := 4) hx hb dL_told_29 (by decide) ?_
  refine lv_ishr hx hb dL_told_30 ?_
  refine z_top (y := nI ((x1) / 16)) (pk_shrN (n := x1) (by omega) ((4 : Int32) &&& 31) 4 (by decide)) ?_
  refine lv_aload hx hb dL_told_31 (lv_at hl 4 rfl) ?_
  refine lv_aload hx hb dL_told_33 (lv_at hl 5 rfl) ?_
  refine z_ciW [(x0, .inr (5, [.ref (n0), .ref (y0), .ref (ch), .ref (sp0)])), (y0, .inr (1, [.ref (y1), .int (nI (od)), .int (nI (sz1))])), (y1, .inl (ac 3, 6, .inr (.inr (.inr (.inr (hf)))))), (n0, .inr (4, [.ref (n1), .ref (n4), .ref (n11), .ref (n12), .int ((((z 160)))), .int ((((z 161))))])), (n1, .inr (3, [.ref (n2), .ref (n3)])), (n2, .inl (ac 0, 4, .inl (cV z))), (n3, .inl (ac 0, 4, .inl (cW z))), (n4, .inl (ac 2, 3, .inr (.inr (.inr (.inr (zJ3 n5 n6 n7)))))), (n5, .inr (2, [.ref (n8)])), (n8, .inl (ac 0, 48, .inl (qV z 0))), (n6, .inr (2, [.ref (n9)])), (n9, .inl (ac 0, 48, .inl (qV z 1))), (n7, .inr (2, [.ref (n10)])), (n10, .inl (ac 0, 48, .inl (qV z 2))), (n11, .inl (ac 0, 4, .inl (cP z))), (n12, .inl (ac 0, 4, .inl (cR z))), (ra, .inl (ac 0, 48, .inl (qV z 0))), (rb, .inl (ac 0, 48, .inl (qV z 1))), (rc, .inl (ac 0, 48, .inl (qV z 2))), (qe, .inl (ac 0, 16, .inl (cV z))), (qd, .inl (ac 0, 2, .inl (lD z)))] (z_srunW (rest := []) (own := RL) (As := [.ref (x0), .int (2), .int (nI ((x1) / 16)), .ref (rc), .ref (qe)]) hx hb hml hown hts hl.1 hK hP hD [0, 3, 4, 5, 6, 7, 12, 13, 18, 19] rfl (by decide) rfl (metL_toldJar l D ac _ z 2 x0 n0 y0 ch sp0 n1 n2 n3 n4 n11 n12 (((z 160))) (((z 161))) (zJ3 n5 n6 n7) n7 n10 rc qe ((x1) / 16) (by omega) (hG) (rfl) (by omega)) gL_told_L_toldJar rfl 5 (by decide +kernel) ⟨rfl, rfl, Nat.le_of_ble_eq_true rfl, Nat.le_of_ble_eq_true rfl⟩ rfl rfl (Nat.le_of_ble_eq_true rfl) dL_told_35 ⟨Nat.le_of_ble_eq_true rfl, Nat.le_of_ble_eq_true rfl⟩) hP hD hS hA [0, 3, 4, 5, 6, 7, 12, 13, 18, 19] [1, 2, 8, 9, 10, 11, 14, 15, 16, 17, 20] [11, 0, 1, 12, 13, 14, 15, 16, 2, 3, 4, 5, 17, 18, 6, 7, 8, 9, 19, 20, 10] rfl rfl (by decide) (by decide) (by decide) rfl (fun H locs hP hD hS => ?_)
  refine lv_if_ne (tgt := 43) hx hb dL_told_38 (by decide) (fun _ => ?_) (fun c_ => absurd c_ (by decide))
  refine lv_iconst (v := 0) hx hb dL_told_43 (by decide) ?_
  refine lv_istore (lv' := [(7, .int (0)), (0, .ref (x0)), (1, .int (nI (x1))), (2, .ref (ra)), (3, .ref (rb)), (4, .ref (rc)), (5, .ref (qe)), (6, .ref (qd))]) hx hb dL_told_44 hl (by decide) rfl (fun ls hl => ?_)
  refine lv_iconst (v := 0) hx hb dL_told_46 (by decide) ?_
  refine lv_istore (lv' := [(8, .int (0)), (7, .int (0)), (0, .ref (x0)), (1, .int (nI (x1))), (2, .ref (ra)), (3, .ref (rb)), (4, .ref (rc)), (5, .ref (qe)), (6, .ref (qd))]) hx hb dL_told_47 hl (by decide) rfl (fun ls hl => ?_)
  refine lv_iconst (v := 0) hx hb dL_told_49 (by decide) ?_
  refine lv_istore (lv' := [(9, .int (0)), (8, .int (0)), (7, .int (0)), (0, .ref (x0)), (1, .int (nI (x1))), (2, .ref (ra)), (3, .ref (rb)), (4, .ref (rc)), (5, .ref (qe)), (6, .ref (qd))]) hx hb dL_told_50 hl (by decide) rfl (fun ls hl => ?_)
  have hL_52 : ∀ (n : Nat) (i : Nat), (i + n = 36) → ∀ (H : Heap) (locs : List Loc), va_P D vwCl [(x0, .inr (5, [.ref (n0), .ref (y0), .ref (ch), .ref (sp0)])), (y0, .inr (1, [.ref (y1), .int (nI (od)), .int (nI (sz1))])), (y1, .inl (ac 3, 6, .inr (.inr (.inr (.inr (hf)))))), (n0, .inr (4, [.ref (n1), .ref (n4), .ref (n11), .ref (n12), .int ((((z 160)))), .int ((((z 161))))])), (n1, .inr (3, [.ref (n2), .ref (n3)])), (n2, .inl (ac 0, 4, .inl (cV z))), (n3, .inl (ac 0, 4, .inl (cW z))), (n4, .inl (ac 2, 3, .inr (.inr (.inr (.inr (zJ3 n5 n6 n7)))))), (n5, .inr (2, [.ref (n8)])), (n8, .inl (ac 0, 48, .inl (qV z 0))), (n6, .inr (2, [.ref (n9)])), (n9, .inl (ac 0, 48, .inl (qV z 1))), (n7, .inr (2, [.ref (n10)])), (n10, .inl (ac 0, 48, .inl (qV z 2))), (n11, .inl (ac 0, 4, .inl (cP z))), (n12, .inl (ac 0, 4, .inl (cR z))), (ra, .inl (ac 0, 48, .inl (qV z 0))), (rb, .inl (ac 0, 48, .inl (qV z 1))), (rc, .inl (ac 0, 48, .inl (qV z 2))), (qe, .inl (ac 0, 16, .inl (cV z))), (qd, .inl (ac 0, 2, .inl (lD z)))] H → va_D A [(x0, .inr (5, [.ref (n0), .ref (y0), .ref (ch), .ref (sp0)])), (y0, .inr (1, [.ref (y1), .int (nI (od)), .int (nI (sz1))])), (y1, .inl (ac 3, 6, .inr (.inr (.inr (.inr (hf)))))), (n0, .inr (4, [.ref (n1), .ref (n4), .ref (n11), .ref (n12), .int ((((z 160)))), .int ((((z 161))))])), (n1, .inr (3, [.ref (n2), .ref (n3)])), (n2, .inl (ac 0, 4, .inl (cV z))), (n3, .inl (ac 0, 4, .inl (cW z))), (n4, .inl (ac 2, 3, .inr (.inr (.inr (.inr (zJ3 n5 n6 n7)))))), (n5, .inr (2, [.ref (n8)])), (n8, .inl (ac 0, 48, .inl (qV z 0))), (n6, .inr (2, [.ref (n9)])), (n9, .inl (ac 0, 48, .inl (qV z 1))), (n7, .inr (2, [.ref (n10)])), (n10, .inl (ac 0, 48, .inl (qV z 2))), (n11, .inl (ac 0, 4, .inl (cP z))), (n12, .inl (ac 0, 4, .inl (cR z))), (ra, .inl (ac 0, 48, .inl (qV z 0))), (rb, .inl (ac 0, 48, .inl (qV z 1))), (rc, .inl (ac 0, 48, .inl (qV z 2))), (qe, .inl (ac 0, 16, .inl (cV z))), (qd, .inl (ac 0, 2, .inl (lD z)))] → va_S A s.heap H locs → ∀ (ls : Array Slot), lv_has ls 11 [(9, .int (nI (i))), (8, .int (mClr z i)), (7, .int (mPk z i)), (0, .ref (x0)), (1, .int (nI (x1))), (2, .ref (ra)), (3, .ref (rb)), (4, .ref (rc)), (5, .ref (qe)), (6, .ref (qd))] → W p l e ({ frames := 7, cells := 3, slots := 144, locals := 168 } : Room) s m args below meth c H locs 3 144 (MQ below (zQi D ac [(x0, .inr (5, [.ref (n0), .ref (y0), .ref (ch), .ref (sp0)])), (y0, .inr (1, [.ref (y1), .int (nI (od)), .int (nI (sz1))])), (y1, .inl (ac 3, 6, .inr (.inr (.inr (.inr (hf)))))), (n0, .inr (4, [.ref (n1), .ref (n4), .ref (n11), .ref (n12), .int (z 160), .int (z 161)])), (n1, .inr (3, [.ref (n2), .ref (n3)])), (n2, .inl (ac 0, 4, .inl (cV z))), (n3, .inl (ac 0, 4, .inl (cW z))), (n4, .inl (ac 2, 3, .inr (.inr (.inr (.inr (zJ3 n5 n6 n7)))))), (n5, .inr (2, [.ref (n8)])), (n8, .inl (ac 0, 48, .inl (qV z 0))), (n6, .inr (2, [.ref (n9)])), (n9, .inl (ac 0, 48, .inl (qV z 1))), (n7, .inr (2, [.ref (n10)])), (n10, .inl (ac 0, 48, .inl (qV z 2))), (n11, .inl (ac 0, 4, .inl (cP z))), (n12, .inl (ac 0, 4, .inl (cR z))), (ra, .inl (ac 0, 48, .inl (qV z 0))), (rb, .inl (ac 0, 48, .inl (qV z 1))), (rc, .inl (ac 0, 48, .inl (qV z 2))), (qe, .inl (ac 0, 16, .inl (cV z))), (qd, .inl (ac 0, 2, .inl (lD z)))] [(x0, .inr (5, [.ref (n0), .ref (y0), .ref (ch), .ref (sp0)])), (y0, .inr (1, [.ref (y1), .int (nI (od)), .int (nI (sz1))])), (y1, .inl (ac 3, 6, .inr (.inr (.inr (.inr (hf)))))), (n0, .inr (4, [.ref (n1), .ref (n4), .ref (n11), .ref (n12), .int (z 160), .int (z 161)])), (n1, .inr (3, [.ref (n2), .ref (n3)])), (n2, .inl (ac 0, 4, .inl (cV z))), (n3, .inl (ac 0, 4, .inl (cW z))), (n4, .inl (ac 2, 3, .inr (.inr (.inr (.inr (zJ3 n5 n6 n7)))))), (n5, .inr (2, [.ref (n8)])), (n8, .inl (ac 0, 48, .inl (qV z 0))), (n6, .inr (2, [.ref (n9)])), (n9, .inl (ac 0, 48, .inl (qV z 1))), (n7, .inr (2, [.ref (n10)])), (n10, .inl (ac 0, 48, .inl (qV z 2))), (n11, .inl (ac 0, 4, .inl (cP z))), (n12, .inl (ac 0, 4, .inl (cR z))), (ra, .inl (ac 0, 48, .inl (qV z 0))), (rb, .inl (ac 0, 48, .inl (qV z 1))), (rc, .inl (ac 0, 48, .inl (qV z 2))), (qe, .inl (ac 0, 16, .inl (cV z))), (qd, .inl (ac 0, 2, .inl (lD z)))] sz (1)) args s 3 144 A) (F0 m 52 ls []) := by
    intro n
    induction n with
    | zero =>
      intro i hi H locs hP hD hS ls hl
      have e_i : 36 = i := by omega
      subst e_i
      refine lv_iload hx hb dL_told_52 (lv_at hl 0 rfl) ?_
      refine lv_bipush (v := 36) hx hb dL_told_54 (by decide) ?_
      refine z_icmp_ge (tgt := 137) hx hb (36) (36) dL_told_56 (by decide) (by omega) (by omega) rfl rfl (fun c_56 => ?_) (fun c_56 => absurd c_56 (by omega))
      refine lv_iconst (v := 0) hx hb dL_told_137 (by decide) ?_
      refine lv_istore (lv' := [(9, .int (0)), (8, .int (mClr z 36)), (7, .int (mPk z 36)), (0, .ref (x0)), (1, .int (nI (x1))), (2, .ref (ra)), (3, .ref (rb)), (4, .ref (rc)), (5, .ref (qe)), (6, .ref (qd))]) hx hb dL_told_138 hl (by decide) rfl (fun ls hl => ?_)
      have hL_140 : ∀ (n : Nat) (i : Nat), (i + n = 4) → ∀ (H : Heap) (locs : List Loc), va_P D vwCl [(x0, .inr (5, [.ref (n0), .ref (y0), .ref (ch), .ref (sp0)])), (y0, .inr (1, [.ref (y1), .int (nI (od)), .int (nI (sz1))])), (y1, .inl (ac 3, 6, .inr (.inr (.inr (.inr (hf)))))), (n0, .inr (4, [.ref (n1), .ref (n4), .ref (n11), .ref (n12), .int ((((z 160)))), .int ((((z 161))))])), (n1, .inr (3, [.ref (n2), .ref (n3)])), (n2, .inl (ac 0, 4, .inl (cV z))), (n3, .inl (ac 0, 4, .inl (cW z))), (n4, .inl (ac 2, 3, .inr (.inr (.inr (.inr (zJ3 n5 n6 n7)))))), (n5, .inr (2, [.ref (n8)])), (n8, .inl (ac 0, 48, .inl (qV z 0))), (n6, .inr (2, [.ref (n9)])), (n9, .inl (ac 0, 48, .inl (qV z 1))), (n7, .inr (2, [.ref (n10)])), (n10, .inl (ac 0, 48, .inl (qV z 2))), (n11, .inl (ac 0, 4, .inl (cP z))), (n12, .inl (ac 0, 4, .inl (cR z))), (ra, .inl (ac 0, 48, .inl (qV z 0))), (rb, .inl (ac 0, 48, .inl (qV z 1))), (rc, .inl (ac 0, 48, .inl (qV z 2))), (qe, .inl (ac 0, 16, .inl (cV z))), (qd, .inl (ac 0, 2, .inl (lD z)))] H → va_D A [(x0, .inr (5, [.ref (n0), .ref (y0), .ref (ch), .ref (sp0)])), (y0, .inr (1, [.ref (y1), .int (nI (od)), .int (nI (sz1))])), (y1, .inl (ac 3, 6, .inr (.inr (.inr (.inr (hf)))))), (n0, .inr (4, [.ref (n1), .ref (n4), .ref (n11), .ref (n12), .int ((((z 160)))), .int ((((z 161))))])), (n1, .inr (3, [.ref (n2), .ref (n3)])), (n2, .inl (ac 0, 4, .inl (cV z))), (n3, .inl (ac 0, 4, .inl (cW z))), (n4, .inl (ac 2, 3, .inr (.inr (.inr (.inr (zJ3 n5 n6 n7)))))), (n5, .inr (2, [.ref (n8)])), (n8, .inl (ac 0, 48, .inl (qV z 0))), (n6, .inr (2, [.ref (n9)])), (n9, .inl (ac 0, 48, .inl (qV z 1))), (n7, .inr (2, [.ref (n10)])), (n10, .inl (ac 0, 48, .inl (qV z 2))), (n11, .inl (ac 0, 4, .inl (cP z))), (n12, .inl (ac 0, 4, .inl (cR z))), (ra, .inl (ac 0, 48, .inl (qV z 0))), (rb, .inl (ac 0, 48, .inl (qV z 1))), (rc, .inl (ac 0, 48, .inl (qV z 2))), (qe, .inl (ac 0, 16, .inl (cV z))), (qd, .inl (ac 0, 2, .inl (lD z)))] → va_S A s.heap H locs → ∀ (ls : Array Slot), lv_has ls 11 [(9, .int (nI (i))), (8, .int (mClr z 36)), (7, .int (mPk z 36)), (0, .ref (x0)), (1, .int (nI (x1))), (2, .ref (ra)), (3, .ref (rb)), (4, .ref (rc)), (5, .ref (qe)), (6, .ref (qd))] → W p l e ({ frames := 7, cells := 3, slots := 144, locals := 168 } : Room) s m args below meth c H locs 3 144 (MQ below (zQi D ac [(x0, .inr (5, [.ref (n0), .ref (y0), .ref (ch), .ref (sp0)])), (y0, .inr (1, [.ref (y1), .int (nI (od)), .int (nI (sz1))])), (y1, .inl (ac 3, 6, .inr (.inr (.inr (.inr (hf)))))), (n0, .inr (4, [.ref (n1), .ref (n4), .ref (n11), .ref (n12), .int (z 160), .int (z 161)])), (n1, .inr (3, [.ref (n2), .ref (n3)])), (n2, .inl (ac 0, 4, .inl (cV z))), (n3, .inl (ac 0, 4, .inl (cW z))), (n4, .inl (ac 2, 3, .inr (.inr (.inr (.inr (zJ3 n5 n6 n7)))))), (n5, .inr (2, [.ref (n8)])), (n8, .inl (ac 0, 48, .inl (qV z 0))), (n6, .inr (2, [.ref (n9)])), (n9, .inl (ac 0, 48, .inl (qV z 1))), (n7, .inr (2, [.ref (n10)])), (n10, .inl (ac 0, 48, .inl (qV z 2))), (n11, .inl (ac 0, 4, .inl (cP z))), (n12, .inl (ac 0, 4, .inl (cR z))), (ra, .inl (ac 0, 48, .inl (qV z 0))), (rb, .inl (ac 0, 48, .inl (qV z 1))), (rc, .inl (ac 0, 48, .inl (qV z 2))), (qe, .inl (ac 0, 16, .inl (cV z))), (qd, .inl (ac 0, 2, .inl (lD z)))] [(x0, .inr (5, [.ref (n0), .ref (y0), .ref (ch), .ref (sp0)])), (y0, .inr (1, [.ref (y1), .int (nI (od)), .int (nI (sz1))])), (y1, .inl (ac 3, 6, .inr (.inr (.inr (.inr (hf)))))), (n0, .inr (4, [.ref (n1), .ref (n4), .ref (n11), .ref (n12), .int (z 160), .int (z 161)])), (n1, .inr (3, [.ref (n2), .ref (n3)])), (n2, .inl (ac 0, 4, .inl (cV z))), (n3, .inl (ac 0, 4, .inl (cW z))), (n4, .inl (ac 2, 3, .inr (.inr (.inr (.inr (zJ3 n5 n6 n7)))))), (n5, .inr (2, [.ref (n8)])), (n8, .inl (ac 0, 48, .inl (qV z 0))), (n6, .inr (2, [.ref (n9)])), (n9, .inl (ac 0, 48, .inl (qV z 1))), (n7, .inr (2, [.ref (n10)])), (n10, .inl (ac 0, 48, .inl (qV z 2))), (n11, .inl (ac 0, 4, .inl (cP z))), (n12, .inl (ac 0, 4, .inl (cR z))), (ra, .inl (ac 0, 48, .inl (qV z 0))), (rb, .inl (ac 0, 48, .inl (qV z 1))), (rc, .inl (ac 0, 48, .inl (qV z 2))), (qe, .inl (ac 0, 16, .inl (cV z))), (qd, .inl (ac 0, 2, .inl (lD z)))] sz (1)) args s 3 144 A) (F0 m 140 ls []) := by
        intro n
        induction n with
        | zero =>
          intro i hi H locs hP hD hS ls hl
          have e_i : 4 = i := by omega
          subst e_i
          refine lv_iload hx hb dL_told_140 (lv_at hl 0 rfl) ?_
          refine lv_iconst (v := 4) hx hb dL_told_142 (by decide) ?_
          refine z_icmp_ge (tgt := 290) hx hb (4) (4) dL_told_143 (by decide) (by omega) (by omega) rfl rfl (fun c_143 => ?_) (fun c_143 => absurd c_143 (by omega))
          refine lv_aload_n hx hb dL_told_290 rfl (lv_at hl 3 rfl) ?_
          refine lv_iconst (v := 0) hx hb dL_told_291 (by decide) ?_
          refine z_ci (z_vrun (rest := []) (own := RL) (As := [.int (0)]) hx hb hml hown hts hl.1 hK hP [0, 3, 4, 5, 6, 7, 8, 9, 10, 11, 12, 13, 14, 15, 1, 2] rfl (metX5_count_0 l D ac x0 n0 y0 ch sp0 n1 n2 n3 n4 n5 n6 n7 n8 n9 n10 n11 n12 (cV z) (cW z) (qV z 0) (qV z 1) (qV z 2) (cP z) (cR z) ((((z 160)))) ((((z 161)))) y1 hf od sz1 0 (by omega)) gL_told_X5_count rfl 1 (by decide +kernel) ⟨rfl, rfl, Nat.le_of_ble_eq_true rfl, Nat.le_of_ble_eq_true rfl⟩ 0 5 rfl rfl rfl rfl rfl (Nat.le_of_ble_eq_true rfl) dL_told_292 ⟨Nat.le_of_ble_eq_true rfl, Nat.le_of_ble_eq_true rfl⟩) ?_
          refine z_top (y := lD z 0) (rfl) ?_
          refine lv_aload hx hb dL_told_295 (lv_at hl 9 rfl) ?_
          refine lv_iconst (v := 0) hx hb dL_told_297 (by decide) ?_
          refine z_iald hx hb hK hP 20 rfl (0) (rfl) (by omega) (by decide) dL_told_298 ?_
          refine lv_icmp_ne (tgt := 370) hx hb dL_told_299 (by decide) (fun c_299 => absurd c_299 (fun q => q (rfl))) (fun c_299 => ?_)
          refine lv_aload_n hx hb dL_told_302 rfl (lv_at hl 3 rfl) ?_
          refine lv_iconst (v := 1) hx hb dL_told_303 (by decide) ?_
          refine z_ci (z_vrun (rest := []) (own := RL) (As := [.int (1)]) hx hb hml hown hts hl.1 hK hP [0, 3, 4, 5, 6, 7, 8, 9, 10, 11, 12, 13, 14, 15, 1, 2] rfl (metX5_count_0 l D ac x0 n0 y0 ch sp0 n1 n2 n3 n4 n5 n6 n7 n8 n9 n10 n11 n12 (cV z) (cW z) (qV z 0) (qV z 1) (qV z 2) (cP z) (cR z) ((((z 160)))) ((((z 161)))) y1 hf od sz1 1 (by omega)) gL_told_X5_count rfl 1 (by decide +kernel) ⟨rfl, rfl, Nat.le_of_ble_eq_true rfl, Nat.le_of_ble_eq_true rfl⟩ 0 5 rfl rfl rfl rfl rfl (Nat.le_of_ble_eq_true rfl) dL_told_304 ⟨Nat.le_of_ble_eq_true rfl, Nat.le_of_ble_eq_true rfl⟩) ?_
          refine z_top (y := qAll (qV z 0) + qAll (qV z 1) + qAll (qV z 2)) (l_z3 _ _ _) ?_
          refine lv_aload_n hx hb dL_told_307 rfl (lv_at hl 5 rfl) ?_
          refine lv_iconst (v := 0) hx hb dL_told_308 (by decide) ?_
          refine lv_aload hx hb dL_told_309 (lv_at hl 8 rfl) ?_
          refine z_ci (z_srun (rest := [.int (qAll (qV z 0) + qAll (qV z 1) + qAll (qV z 2))]) (own := RL) (As := [.ref (ra), .int (0), .ref (qe)]) hx hb hml hown hts hl.1 hK hP [16, 19] rfl (metL_prop l D ac ra (qV z 0) qe (cV z) (cW z) 0 (by omega)) gL_told_L_prop rfl 3 (by decide +kernel) ⟨rfl, rfl, Nat.le_of_ble_eq_true rfl, Nat.le_of_ble_eq_true rfl⟩ rfl rfl (Nat.le_of_ble_eq_true rfl) dL_told_311 ⟨Nat.le_of_ble_eq_true rfl, Nat.le_of_ble_eq_true rfl⟩) ?_
          refine z_top (y := qAll (qV z 0)) (rfl) ?_
          refine lv_aload_n hx hb dL_told_314 rfl (lv_at hl 6 rfl) ?_
          refine lv_iconst (v := 0) hx hb dL_told_315 (by decide) ?_
          refine lv_aload hx hb dL_told_316 (lv_at hl 8 rfl) ?_
          refine z_ci (z_srun (rest := [.int (qAll (qV z 0)), .int (qAll (qV z 0) + qAll (qV z 1) + qAll (qV z 2))]) (own := RL) (As := [.ref (rb), .int (0), .ref (qe)]) hx hb hml hown hts hl.1 hK hP [17, 19] rfl (metL_prop l D ac rb (qV z 1) qe (cV z) (cW z) 0 (by omega)) gL_told_L_prop rfl 3 (by decide +kernel) ⟨rfl, rfl, Nat.le_of_ble_eq_true rfl, Nat.le_of_ble_eq_true rfl⟩ rfl rfl (Nat.le_of_ble_eq_true rfl) dL_told_318 ⟨Nat.le_of_ble_eq_true rfl, Nat.le_of_ble_eq_true rfl⟩) ?_
          refine z_top (y := qAll (qV z 1)) (rfl) ?_
          refine lv_iadd hx hb dL_told_321 ?_
          refine lv_aload hx hb dL_told_322 (lv_at hl 7 rfl) ?_
          refine lv_iconst (v := 0) hx hb dL_told_324 (by decide) ?_
          refine lv_aload hx hb dL_told_325 (lv_at hl 8 rfl) ?_
          refine z_ci (z_srun (rest := [.int ((qAll (qV z 0)) + (qAll (qV z 1))), .int (qAll (qV z 0) + qAll (qV z 1) + qAll (qV z 2))]) (own := RL) (As := [.ref (rc), .int (0), .ref (qe)]) hx hb hml hown hts hl.1 hK hP [18, 19] rfl (metL_prop l D ac rc (qV z 2) qe (cV z) (cW z) 0 (by omega)) gL_told_L_prop rfl 3 (by decide +kernel) ⟨rfl, rfl, Nat.le_of_ble_eq_true rfl, Nat.le_of_ble_eq_true rfl⟩ rfl rfl (Nat.le_of_ble_eq_true rfl) dL_told_327 ⟨Nat.le_of_ble_eq_true rfl, Nat.le_of_ble_eq_true rfl⟩) ?_
          refine z_top (y := qAll (qV z 2)) (rfl) ?_
          refine lv_iadd hx hb dL_told_330 ?_
          refine lv_icmp_ne (tgt := 370) hx hb dL_told_331 (by decide) (fun c_331 => absurd c_331 (fun q => q (rfl))) (fun c_331 => ?_)
          refine lv_aload_n hx hb dL_told_334 rfl (lv_at hl 3 rfl) ?_
          refine lv_iconst (v := 2) hx hb dL_told_335 (by decide) ?_
          refine z_ci (z_vrun (rest := []) (own := RL) (As := [.int (2)]) hx hb hml hown hts hl.1 hK hP [0, 3, 4, 5, 6, 7, 8, 9, 10, 11, 12, 13, 14, 15, 1, 2] rfl (metX5_count_0 l D ac x0 n0 y0 ch sp0 n1 n2 n3 n4 n5 n6 n7 n8 n9 n10 n11 n12 (cV z) (cW z) (qV z 0) (qV z 1) (qV z 2) (cP z) (cR z) ((((z 160)))) ((((z 161)))) y1 hf od sz1 2 (by omega)) gL_told_X5_count rfl 1 (by decide +kernel) ⟨rfl, rfl, Nat.le_of_ble_eq_true rfl, Nat.le_of_ble_eq_true rfl⟩ 0 5 rfl rfl rfl rfl rfl (Nat.le_of_ble_eq_true rfl) dL_told_336 ⟨Nat.le_of_ble_eq_true rfl, Nat.le_of_ble_eq_true rfl⟩) ?_
          refine z_top (y := mPk z 36) (l_pk36 z sz1) ?_
          refine lv_iload hx hb dL_told_339 (lv_at hl 2 rfl) ?_
          refine lv_icmp_ne (tgt := 370) hx hb dL_told_341 (by decide) (fun c_341 => absurd c_341 (fun q => q (rfl))) (fun c_341 => ?_)
          refine lv_aload_n hx hb dL_told_344 rfl (lv_at hl 3 rfl) ?_
          refine lv_iconst (v := 3) hx hb dL_told_345 (by decide) ?_
          refine z_ci (z_vrun (rest := []) (own := RL) (As := [.int (3)]) hx hb hml hown hts hl.1 hK hP [0, 3, 4, 5, 6, 7, 8, 9, 10, 11, 12, 13, 14, 15, 1, 2] rfl (metX5_count_0 l D ac x0 n0 y0 ch sp0 n1 n2 n3 n4 n5 n6 n7 n8 n9 n10 n11 n12 (cV z) (cW z) (qV z 0) (qV z 1) (qV z 2) (cP z) (cR z) ((((z 160)))) ((((z 161)))) y1 hf od sz1 3 (by omega)) gL_told_X5_count rfl 1 (by decide +kernel) ⟨rfl, rfl, Nat.le_of_ble_eq_true rfl, Nat.le_of_ble_eq_true rfl⟩ 0 5 rfl rfl rfl rfl rfl (Nat.le_of_ble_eq_true rfl) dL_told_346 ⟨Nat.le_of_ble_eq_true rfl, Nat.le_of_ble_eq_true rfl⟩) ?_
          refine z_top (y := mClr z 36) (l_cl36 z sz1) ?_
          refine lv_iload hx hb dL_told_349 (lv_at hl 1 rfl) ?_
          refine lv_icmp_ne (tgt := 370) hx hb dL_told_351 (by decide) (fun c_351 => absurd c_351 (fun q => q (rfl))) (fun c_351 => ?_)
          refine lv_aload_n hx hb dL_told_354 rfl (lv_at hl 3 rfl) ?_
          refine lv_iconst (v := 4) hx hb dL_told_355 (by decide) ?_
          refine z_ci (z_vrun (rest := []) (own := RL) (As := [.int (4)]) hx hb hml hown hts hl.1 hK hP [0, 3, 4, 5, 6, 7, 8, 9, 10, 11, 12, 13, 14, 15, 1, 2] rfl (metX5_count_0 l D ac x0 n0 y0 ch sp0 n1 n2 n3 n4 n5 n6 n7 n8 n9 n10 n11 n12 (cV z) (cW z) (qV z 0) (qV z 1) (qV z 2) (cP z) (cR z) ((((z 160)))) ((((z 161)))) y1 hf od sz1 4 (by omega)) gL_told_X5_count rfl 1 (by decide +kernel) ⟨rfl, rfl, Nat.le_of_ble_eq_true rfl, Nat.le_of_ble_eq_true rfl⟩ 0 5 rfl rfl rfl rfl rfl (Nat.le_of_ble_eq_true rfl) dL_told_356 ⟨Nat.le_of_ble_eq_true rfl, Nat.le_of_ble_eq_true rfl⟩) ?_
          refine z_top (y := lD z 1) (rfl) ?_
          refine lv_aload hx hb dL_told_359 (lv_at hl 9 rfl) ?_
          refine lv_iconst (v := 1) hx hb dL_told_361 (by decide) ?_
          refine z_iald hx hb hK hP 20 rfl (1) (rfl) (by omega) (by decide) dL_told_362 ?_
          refine lv_icmp_ne (tgt := 370) hx hb dL_told_363 (by decide) (fun c_363 => absurd c_363 (fun q => q (rfl))) (fun c_363 => ?_)
          refine lv_iconst (v := 1) hx hb dL_told_366 (by decide) ?_
          refine lv_goto (tgt := 371) hx hb dL_told_367 (by decide) ?_
          exact z_zretW hx hb hr hlocks hK hP hD hS hAe (rfl) (rfl) dL_told_371
        | succ n ih =>
          intro i hi H locs hP hD hS ls hl
          refine lv_iload hx hb dL_told_140 (lv_at hl 0 rfl) ?_
          refine lv_iconst (v := 4) hx hb dL_told_142 (by decide) ?_
          refine z_icmp_ge (tgt := 290) hx hb (i) (4) dL_told_143 (by decide) (by omega) (by omega) rfl rfl (fun c_143 => absurd c_143 (by omega)) (fun c_143 => ?_)
          refine lv_aload_n hx hb dL_told_146 rfl (lv_at hl 5 rfl) ?_
          refine lv_iload hx hb dL_told_147 (lv_at hl 0 rfl) ?_
          refine lv_iconst (v := 1) hx hb dL_told_149 (by decide) ?_
          refine lv_iadd hx hb dL_told_150 ?_
          refine z_top (y := nI ((i) + (1))) (nI_add (i) (1)) ?_
          refine lv_aload hx hb dL_told_151 (lv_at hl 8 rfl) ?_
          refine z_ci (z_srun (rest := []) (own := RL) (As := [.ref (ra), .int (nI ((i) + (1))), .ref (qe)]) hx hb hml hown hts hl.1 hK hP [16, 19] rfl (metL_prop l D ac ra (qV z 0) qe (cV z) (cW z) ((i) + (1)) (by omega)) gL_told_L_prop rfl 3 (by decide +kernel) ⟨rfl, rfl, Nat.le_of_ble_eq_true rfl, Nat.le_of_ble_eq_true rfl⟩ rfl rfl (Nat.le_of_ble_eq_true rfl) dL_told_153 ⟨Nat.le_of_ble_eq_true rfl, Nat.le_of_ble_eq_true rfl⟩) ?_
          refine z_top (y := qOf (qV z 0) i) (l_jof (by omega)) ?_
          refine lv_aload_n hx hb dL_told_156 rfl (lv_at hl 6 rfl) ?_
          refine lv_iload hx hb dL_told_157 (lv_at hl 0 rfl) ?_
          refine lv_iconst (v := 1) hx hb dL_told_159 (by decide) ?_
          refine lv_iadd hx hb dL_told_160 ?_
          refine z_top (y := nI ((i) + (1))) (nI_add (i) (1)) ?_
          refine lv_aload hx hb dL_told_161 (lv_at hl 8 rfl) ?_
          refine z_ci (z_srun (rest := [.int (qOf (qV z 0) i)]) (own := RL) (As := [.ref (rb), .int (nI ((i) + (1))), .ref (qe)]) hx hb hml hown hts hl.1 hK hP [17, 19] rfl (metL_prop l D ac rb (qV z 1) qe (cV z) (cW z) ((i) + (1)) (by omega)) gL_told_L_prop rfl 3 (by decide +kernel) ⟨rfl, rfl, Nat.le_of_ble_eq_true rfl, Nat.le_of_ble_eq_true rfl⟩ rfl rfl (Nat.le_of_ble_eq_true rfl) dL_told_163 ⟨Nat.le_of_ble_eq_true rfl, Nat.le_of_ble_eq_true rfl⟩) ?_
          refine z_top (y := qOf (qV z 1) i) (l_jof (by omega)) ?_
          refine lv_iadd hx hb dL_told_166 ?_
          refine lv_aload hx hb dL_told_167 (lv_at hl 7 rfl) ?_
          refine lv_iload hx hb dL_told_169 (lv_at hl 0 rfl) ?_
          refine lv_iconst (v := 1) hx hb dL_told_171 (by decide) ?_
          refine lv_iadd hx hb dL_told_172 ?_
          refine z_top (y := nI ((i) + (1))) (nI_add (i) (1)) ?_
          refine lv_aload hx hb dL_told_173 (lv_at hl 8 rfl) ?_
          refine z_ci (z_srun (rest := [.int ((qOf (qV z 0) i) + (qOf (qV z 1) i))]) (own := RL) (As := [.ref (rc), .int (nI ((i) + (1))), .ref (qe)]) hx hb hml hown hts hl.1 hK hP [18, 19] rfl (metL_prop l D ac rc (qV z 2) qe (cV z) (cW z) ((i) + (1)) (by omega)) gL_told_L_prop rfl 3 (by decide +kernel) ⟨rfl, rfl, Nat.le_of_ble_eq_true rfl, Nat.le_of_ble_eq_true rfl⟩ rfl rfl (Nat.le_of_ble_eq_true rfl) dL_told_175 ⟨Nat.le_of_ble_eq_true rfl, Nat.le_of_ble_eq_true rfl⟩) ?_
          refine z_top (y := qOf (qV z 2) i) (l_jof (by omega)) ?_
          refine lv_iadd hx hb dL_told_178 ?_
          refine lv_istore (lv' := [(10, .int (((qOf (qV z 0) i) + (qOf (qV z 1) i)) + (qOf (qV z 2) i))), (9, .int (nI (i))), (8, .int (mClr z 36)), (7, .int (mPk z 36)), (0, .ref (x0)), (1, .int (nI (x1))), (2, .ref (ra)), (3, .ref (rb)), (4, .ref (rc)), (5, .ref (qe)), (6, .ref (qd))]) hx hb dL_told_179 hl (by decide) rfl (fun ls hl => ?_)
          refine lv_aload_n hx hb dL_told_181 rfl (lv_at hl 4 rfl) ?_
          refine lv_iload hx hb dL_told_182 (lv_at hl 1 rfl) ?_
          refine z_ci (z_vrun (rest := []) (own := RL) (As := [.int (nI (i))]) hx hb hml hown hts hl.1 hK hP [0, 3, 4, 5, 6, 7, 8, 9, 10, 11, 12, 13, 14, 15] rfl (metX5_setting_0 l D ac x0 n0 y0 ch sp0 n1 n2 n3 n4 n5 n6 n7 n8 n9 n10 n11 n12 (cV z) (cW z) (qV z 0) (qV z 1) (qV z 2) (cP z) (cR z) ((((z 160)))) ((((z 161)))) i (by omega)) gL_told_X5_setting rfl 1 (by decide +kernel) ⟨rfl, rfl, Nat.le_of_ble_eq_true rfl, Nat.le_of_ble_eq_true rfl⟩ 0 5 rfl rfl rfl rfl rfl (Nat.le_of_ble_eq_true rfl) dL_told_184 ⟨Nat.le_of_ble_eq_true rfl, Nat.le_of_ble_eq_true rfl⟩) ?_
          refine lv_aload hx hb dL_told_187 (lv_at hl 9 rfl) ?_
          refine lv_iload hx hb dL_told_189 (lv_at hl 1 rfl) ?_
          refine z_iald hx hb hK hP 19 rfl (i) (rfl) (by omega) (by decide) dL_told_191 ?_
          refine lv_icmp_ne (tgt := 282) hx hb dL_told_192 (by decide) (fun c_192 => absurd c_192 (fun q => q (rfl))) (fun c_192 => ?_)
          refine lv_aload_n hx hb dL_told_195 rfl (lv_at hl 4 rfl) ?_
          refine lv_iload hx hb dL_told_196 (lv_at hl 1 rfl) ?_
          refine lv_iconst (v := 0) hx hb dL_told_198 (by decide) ?_
          refine z_ci (z_vrun (rest := []) (own := RL) (As := [.int (nI (i)), .int (0)]) hx hb hml hown hts hl.1 hK hP [0, 3, 4, 5, 6, 7, 8, 9, 10, 11, 12, 13, 14, 15] rfl (metX5_grains_0 l D ac x0 n0 y0 ch sp0 n1 n2 n3 n4 n5 n6 n7 n8 n9 n10 n11 n12 (cV z) (cW z) (qV z 0) (qV z 1) (qV z 2) (cP z) (cR z) ((((z 160)))) ((((z 161)))) i 0 (by omega) (by omega)) gL_told_X5_grains rfl 2 (by decide +kernel) ⟨rfl, rfl, Nat.le_of_ble_eq_true rfl, Nat.le_of_ble_eq_true rfl⟩ 0 5 rfl rfl rfl rfl rfl (Nat.le_of_ble_eq_true rfl) dL_told_199 ⟨Nat.le_of_ble_eq_true rfl, Nat.le_of_ble_eq_true rfl⟩) ?_
          refine z_top (y := cV z (8 + i)) (l_c8 z i) ?_
          refine lv_aload hx hb dL_told_202 (lv_at hl 9 rfl) ?_
          refine lv_bipush (v := 8) hx hb dL_told_204 (by decide) ?_
          refine lv_iload hx hb dL_told_206 (lv_at hl 1 rfl) ?_
          refine lv_iadd hx hb dL_told_208 ?_
          refine z_top (y := nI ((8) + (i))) (nI_add (8) (i)) ?_
          refine z_iald hx hb hK hP 19 rfl ((8) + (i)) (rfl) (by omega) (by decide) dL_told_209 ?_
          refine lv_icmp_ne (tgt := 282) hx hb dL_told_210 (by decide) (fun c_210 => absurd c_210 (fun q => q (rfl))) (fun c_210 => ?_)
          refine lv_aload_n hx hb dL_told_213 rfl (lv_at hl 4 rfl) ?_
          refine lv_iload hx hb dL_told_214 (lv_at hl 1 rfl) ?_
          refine lv_iconst (v := 1) hx hb dL_told_216 (by decide) ?_
          refine z_ci (z_vrun (rest := []) (own := RL) (As := [.int (nI (i)), .int (1)]) hx hb hml hown hts hl.1 hK hP [0, 3, 4, 5, 6, 7, 8, 9, 10, 11, 12, 13, 14, 15] rfl (metX5_grains_0 l D ac x0 n0 y0 ch sp0 n1 n2 n3 n4 n5 n6 n7 n8 n9 n10 n11 n12 (cV z) (cW z) (qV z 0) (qV z 1) (qV z 2) (cP z) (cR z) ((((z 160)))) ((((z 161)))) i 1 (by omega) (by omega)) gL_told_X5_grains rfl 2 (by decide +kernel) ⟨rfl, rfl, Nat.le_of_ble_eq_true rfl, Nat.le_of_ble_eq_true rfl⟩ 0 5 rfl rfl rfl rfl rfl (Nat.le_of_ble_eq_true rfl) dL_told_217 ⟨Nat.le_of_ble_eq_true rfl, Nat.le_of_ble_eq_true rfl⟩) ?_
          refine z_top (y := cV z (12 + i)) (l_c12 z i) ?_
          refine lv_aload hx hb dL_told_220 (lv_at hl 9 rfl) ?_
          refine lv_bipush (v := 12) hx hb dL_told_222 (by decide) ?_
          refine lv_iload hx hb dL_told_224 (lv_at hl 1 rfl) ?_
          refine lv_iadd hx hb dL_told_226 ?_
          refine z_top (y := nI ((12) + (i))) (nI_add (12) (i)) ?_
          refine z_iald hx hb hK hP 19 rfl ((12) + (i)) (rfl) (by omega) (by decide) dL_told_227 ?_
          refine lv_icmp_ne (tgt := 282) hx hb dL_told_228 (by decide) (fun c_228 => absurd c_228 (fun q => q (rfl))) (fun c_228 => ?_)
          refine lv_aload_n hx hb dL_told_231 rfl (lv_at hl 4 rfl) ?_
          refine lv_iload hx hb dL_told_232 (lv_at hl 1 rfl) ?_
          refine lv_iconst (v := 2) hx hb dL_told_234 (by decide) ?_
          refine z_ci (z_vrun (rest := []) (own := RL) (As := [.int (nI (i)), .int (2)]) hx hb hml hown hts hl.1 hK hP [0, 3, 4, 5, 6, 7, 8, 9, 10, 11, 12, 13, 14, 15] rfl (metX5_grains_0 l D ac x0 n0 y0 ch sp0 n1 n2 n3 n4 n5 n6 n7 n8 n9 n10 n11 n12 (cV z) (cW z) (qV z 0) (qV z 1) (qV z 2) (cP z) (cR z) ((((z 160)))) ((((z 161)))) i 2 (by omega) (by omega)) gL_told_X5_grains rfl 2 (by decide +kernel) ⟨rfl, rfl, Nat.le_of_ble_eq_true rfl, Nat.le_of_ble_eq_true rfl⟩ 0 5 rfl rfl rfl rfl rfl (Nat.le_of_ble_eq_true rfl) dL_told_235 ⟨Nat.le_of_ble_eq_true rfl, Nat.le_of_ble_eq_true rfl⟩) ?_
          refine z_top (y := qOf (qV z 0) i + qOf (qV z 1) i + qOf (qV z 2) i) (l_z3 _ _ _) ?_
          refine lv_iload hx hb dL_told_238 (lv_at hl 0 rfl) ?_
          refine lv_icmp_ne (tgt := 282) hx hb dL_told_240 (by decide) (fun c_240 => absurd c_240 (fun q => q (rfl))) (fun c_240 => ?_)
          refine lv_aload_n hx hb dL_told_243 rfl (lv_at hl 4 rfl) ?_
          refine lv_iload hx hb dL_told_244 (lv_at hl 1 rfl) ?_
          refine lv_iconst (v := 3) hx hb dL_told_246 (by decide) ?_
          refine z_ci (z_vrun (rest := []) (own := RL) (As := [.int (nI (i)), .int (3)]) hx hb hml hown hts hl.1 hK hP [0, 3, 4, 5, 6, 7, 8, 9, 10, 11, 12, 13, 14, 15] rfl (metX5_grains_0 l D ac x0 n0 y0 ch sp0 n1 n2 n3 n4 n5 n6 n7 n8 n9 n10 n11 n12 (cV z) (cW z) (qV z 0) (qV z 1) (qV z 2) (cP z) (cR z) ((((z 160)))) ((((z 161)))) i 3 (by omega) (by omega)) gL_told_X5_grains rfl 2 (by decide +kernel) ⟨rfl, rfl, Nat.le_of_ble_eq_true rfl, Nat.le_of_ble_eq_true rfl⟩ 0 5 rfl rfl rfl rfl rfl (Nat.le_of_ble_eq_true rfl) dL_told_247 ⟨Nat.le_of_ble_eq_true rfl, Nat.le_of_ble_eq_true rfl⟩) ?_
          refine z_top (y := cV z (4 + i)) (l_c4 z i) ?_
          refine lv_aload hx hb dL_told_250 (lv_at hl 9 rfl) ?_
          refine lv_iconst (v := 4) hx hb dL_told_252 (by decide) ?_
          refine lv_iload hx hb dL_told_253 (lv_at hl 1 rfl) ?_
          refine lv_iadd hx hb dL_told_255 ?_
          refine z_top (y := nI ((4) + (i))) (nI_add (4) (i)) ?_
          refine z_iald hx hb hK hP 19 rfl ((4) + (i)) (rfl) (by omega) (by decide) dL_told_256 ?_
          refine lv_icmp_ne (tgt := 282) hx hb dL_told_257 (by decide) (fun c_257 => absurd c_257 (fun q => q (rfl))) (fun c_257 => ?_)
          refine lv_iload hx hb dL_told_260 (lv_at hl 0 rfl) ?_
          refine lv_aload hx hb dL_told_262 (lv_at hl 9 rfl) ?_
          refine lv_bipush (v := 8) hx hb dL_told_264 (by decide) ?_
          refine lv_iload hx hb dL_told_266 (lv_at hl 1 rfl) ?_
          refine lv_iadd hx hb dL_told_268 ?_
          refine z_top (y := nI ((8) + (i))) (nI_add (8) (i)) ?_
          refine z_iald hx hb hK hP 19 rfl ((8) + (i)) (rfl) (by omega) (by decide) dL_told_269 ?_
          refine lv_aload hx hb dL_told_270 (lv_at hl 9 rfl) ?_
          refine lv_bipush (v := 12) hx hb dL_told_272 (by decide) ?_
          refine lv_iload hx hb dL_told_274 (lv_at hl 1 rfl) ?_
          refine lv_iadd hx hb dL_told_276 ?_
          refine z_top (y := nI ((12) + (i))) (nI_add (12) (i)) ?_
          refine z_iald hx hb hK hP 19 rfl ((12) + (i)) (rfl) (by omega) (by decide) dL_told_277 ?_
          refine lv_isub hx hb dL_told_278 ?_
          refine z_top (y := qOf (qV z 0) i + qOf (qV z 1) i + qOf (qV z 2) i) (l_con hcons (by omega)) ?_
          refine lv_icmp_eq (tgt := 284) hx hb dL_told_279 (by decide) (fun c_279 => ?_) (fun c_279 => absurd c_279 (fun q => q (rfl)))
          refine lv_iinc (v := nI ((i) + 1)) (lv' := [(9, .int (nI ((i) + 1))), (10, .int (((qOf (qV z 0) i) + (qOf (qV z 1) i)) + (qOf (qV z 2) i))), (8, .int (mClr z 36)), (7, .int (mPk z 36)), (0, .ref (x0)), (1, .int (nI (x1))), (2, .ref (ra)), (3, .ref (rb)), (4, .ref (rc)), (5, .ref (qe)), (6, .ref (qd))]) hx hb dL_told_284 hl (k := 1) rfl (show nI (i) + Int32.ofInt 1 = _ from nI_add (i) 1) (by decide) rfl (fun ls hl => ?_)
          refine lv_goto (tgt := 140) hx hb dL_told_287 (by decide) ?_
          exact ih (i + 1) (by omega) _ _ hP hD hS ls (lv_sub hl [0, 2, 3, 4, 5, 6, 7, 8, 9, 10] rfl)
      exact hL_140 (4) (0) (by omega) _ _ hP hD hS ls (lv_sub hl [0, 1, 2, 3, 4, 5, 6, 7, 8, 9] rfl)
    | succ n ih =>
      intro i hi H locs hP hD hS ls hl
      refine lv_iload hx hb dL_told_52 (lv_at hl 0 rfl) ?_
      refine lv_bipush (v := 36) hx hb dL_told_54 (by decide) ?_
      refine z_icmp_ge (tgt := 137) hx hb (i) (36) dL_told_56 (by decide) (by omega) (by omega) rfl rfl (fun c_56 => absurd c_56 (by omega)) (fun c_56 => ?_)
      have hJ_91 : ∀ (H : Heap) (locs : List Loc), va_P D vwCl [(x0, .inr (5, [.ref (n0), .ref (y0), .ref (ch), .ref (sp0)])), (y0, .inr (1, [.ref (y1), .int (nI (od)), .int (nI (sz1))])), (y1, .inl (ac 3, 6, .inr (.inr (.inr (.inr (hf)))))), (n0, .inr (4, [.ref (n1), .ref (n4), .ref (n11), .ref (n12), .int ((((z 160)))), .int ((((z 161))))])), (n1, .inr (3, [.ref (n2), .ref (n3)])), (n2, .inl (ac 0, 4, .inl (cV z))), (n3, .inl (ac 0, 4, .inl (cW z))), (n4, .inl (ac 2, 3, .inr (.inr (.inr (.inr (zJ3 n5 n6 n7)))))), (n5, .inr (2, [.ref (n8)])), (n8, .inl (ac 0, 48, .inl (qV z 0))), (n6, .inr (2, [.ref (n9)])), (n9, .inl (ac 0, 48, .inl (qV z 1))), (n7, .inr (2, [.ref (n10)])), (n10, .inl (ac 0, 48, .inl (qV z 2))), (n11, .inl (ac 0, 4, .inl (cP z))), (n12, .inl (ac 0, 4, .inl (cR z))), (ra, .inl (ac 0, 48, .inl (qV z 0))), (rb, .inl (ac 0, 48, .inl (qV z 1))), (rc, .inl (ac 0, 48, .inl (qV z 2))), (qe, .inl (ac 0, 16, .inl (cV z))), (qd, .inl (ac 0, 2, .inl (lD z)))] H → va_D A [(x0, .inr (5, [.ref (n0), .ref (y0), .ref (ch), .ref (sp0)])), (y0, .inr (1, [.ref (y1), .int (nI (od)), .int (nI (sz1))])), (y1, .inl (ac 3, 6, .inr (.inr (.inr (.inr (hf)))))), (n0, .inr (4, [.ref (n1), .ref (n4), .ref (n11), .ref (n12), .int ((((z 160)))), .int ((((z 161))))])), (n1, .inr (3, [.ref (n2), .ref (n3)])), (n2, .inl (ac 0, 4, .inl (cV z))), (n3, .inl (ac 0, 4, .inl (cW z))), (n4, .inl (ac 2, 3, .inr (.inr (.inr (.inr (zJ3 n5 n6 n7)))))), (n5, .inr (2, [.ref (n8)])), (n8, .inl (ac 0, 48, .inl (qV z 0))), (n6, .inr (2, [.ref (n9)])), (n9, .inl (ac 0, 48, .inl (qV z 1))), (n7, .inr (2, [.ref (n10)])), (n10, .inl (ac 0, 48, .inl (qV z 2))), (n11, .inl (ac 0, 4, .inl (cP z))), (n12, .inl (ac 0, 4, .inl (cR z))), (ra, .inl (ac 0, 48, .inl (qV z 0))), (rb, .inl (ac 0, 48, .inl (qV z 1))), (rc, .inl (ac 0, 48, .inl (qV z 2))), (qe, .inl (ac 0, 16, .inl (cV z))), (qd, .inl (ac 0, 2, .inl (lD z)))] → va_S A s.heap H locs → ∀ (ls : Array Slot), lv_has ls 11 [(9, .int (nI (i))), (8, .int (mClr z i)), (7, .int (mPk z i)), (0, .ref (x0)), (1, .int (nI (x1))), (2, .ref (ra)), (3, .ref (rb)), (4, .ref (rc)), (5, .ref (qe)), (6, .ref (qd))] → W p l e ({ frames := 7, cells := 3, slots := 144, locals := 168 } : Room) s m args below meth c H locs 3 144 (MQ below (zQi D ac [(x0, .inr (5, [.ref (n0), .ref (y0), .ref (ch), .ref (sp0)])), (y0, .inr (1, [.ref (y1), .int (nI (od)), .int (nI (sz1))])), (y1, .inl (ac 3, 6, .inr (.inr (.inr (.inr (hf)))))), (n0, .inr (4, [.ref (n1), .ref (n4), .ref (n11), .ref (n12), .int (z 160), .int (z 161)])), (n1, .inr (3, [.ref (n2), .ref (n3)])), (n2, .inl (ac 0, 4, .inl (cV z))), (n3, .inl (ac 0, 4, .inl (cW z))), (n4, .inl (ac 2, 3, .inr (.inr (.inr (.inr (zJ3 n5 n6 n7)))))), (n5, .inr (2, [.ref (n8)])), (n8, .inl (ac 0, 48, .inl (qV z 0))), (n6, .inr (2, [.ref (n9)])), (n9, .inl (ac 0, 48, .inl (qV z 1))), (n7, .inr (2, [.ref (n10)])), (n10, .inl (ac 0, 48, .inl (qV z 2))), (n11, .inl (ac 0, 4, .inl (cP z))), (n12, .inl (ac 0, 4, .inl (cR z))), (ra, .inl (ac 0, 48, .inl (qV z 0))), (rb, .inl (ac 0, 48, .inl (qV z 1))), (rc, .inl (ac 0, 48, .inl (qV z 2))), (qe, .inl (ac 0, 16, .inl (cV z))), (qd, .inl (ac 0, 2, .inl (lD z)))] [(x0, .inr (5, [.ref (n0), .ref (y0), .ref (ch), .ref (sp0)])), (y0, .inr (1, [.ref (y1), .int (nI (od)), .int (nI (sz1))])), (y1, .inl (ac 3, 6, .inr (.inr (.inr (.inr (hf)))))), (n0, .inr (4, [.ref (n1), .ref (n4), .ref (n11), .ref (n12), .int (z 160), .int (z 161)])), (n1, .inr (3, [.ref (n2), .ref (n3)])), (n2, .inl (ac 0, 4, .inl (cV z))), (n3, .inl (ac 0, 4, .inl (cW z))), (n4, .inl (ac 2, 3, .inr (.inr (.inr (.inr (zJ3 n5 n6 n7)))))), (n5, .inr (2, [.ref (n8)])), (n8, .inl (ac 0, 48, .inl (qV z 0))), (n6, .inr (2, [.ref (n9)])), (n9, .inl (ac 0, 48, .inl (qV z 1))), (n7, .inr (2, [.ref (n10)])), (n10, .inl (ac 0, 48, .inl (qV z 2))), (n11, .inl (ac 0, 4, .inl (cP z))), (n12, .inl (ac 0, 4, .inl (cR z))), (ra, .inl (ac 0, 48, .inl (qV z 0))), (rb, .inl (ac 0, 48, .inl (qV z 1))), (rc, .inl (ac 0, 48, .inl (qV z 2))), (qe, .inl (ac 0, 16, .inl (cV z))), (qd, .inl (ac 0, 2, .inl (lD z)))] sz (1)) args s 3 144 A) (F0 m 91 ls [.int (qIn (qV z (i / 12)) (i % 12))]) := by
        intro H locs hP hD hS ls hl
        refine lv_istore (lv' := [(10, .int (qIn (qV z (i / 12)) (i % 12))), (9, .int (nI (i))), (8, .int (mClr z i)), (7, .int (mPk z i)), (0, .ref (x0)), (1, .int (nI (x1))), (2, .ref (ra)), (3, .ref (rb)), (4, .ref (rc)), (5, .ref (qe)), (6, .ref (qd))]) hx hb dL_told_91 hl (by decide) rfl (fun ls hl => ?_)
        refine lv_iload hx hb dL_told_93 (lv_at hl 3 rfl) ?_
        refine lv_iload hx hb dL_told_95 (lv_at hl 0 rfl) ?_
        refine lv_aload hx hb dL_told_97 (lv_at hl 9 rfl) ?_
        refine lv_iconst (v := 1) hx hb dL_told_99 (by decide) ?_
        refine z_iald hx hb hK hP 19 rfl (1) (rfl) (by omega) (by decide) dL_told_100 ?_
        refine lv_icmp_lt (tgt := 108) hx hb dL_told_101 (by decide) (fun c_101 => ?_) (fun c_101 => ?_)
        · refine lv_iconst (v := 0) hx hb dL_told_108 (by decide) ?_
          refine lv_iadd hx hb dL_told_109 ?_
          refine lv_istore (lv' := [(7, .int ((mPk z i) + (0))), (10, .int (qIn (qV z (i / 12)) (i % 12))), (9, .int (nI (i))), (8, .int (mClr z i)), (0, .ref (x0)), (1, .int (nI (x1))), (2, .ref (ra)), (3, .ref (rb)), (4, .ref (rc)), (5, .ref (qe)), (6, .ref (qd))]) hx hb dL_told_110 hl (by decide) rfl (fun ls hl => ?_)
          refine lv_iload hx hb dL_told_112 (lv_at hl 3 rfl) ?_
          refine lv_iload hx hb dL_told_114 (lv_at hl 1 rfl) ?_
          refine lv_aload hx hb dL_told_116 (lv_at hl 9 rfl) ?_
          refine lv_iconst (v := 2) hx hb dL_told_118 (by decide) ?_
          refine z_iald hx hb hK hP 19 rfl (2) (rfl) (by omega) (by decide) dL_told_119 ?_
          refine lv_icmp_gt (tgt := 127) hx hb dL_told_120 (by decide) (fun c_120 => ?_) (fun c_120 => ?_)
          · refine lv_iconst (v := 0) hx hb dL_told_127 (by decide) ?_
            refine lv_iadd hx hb dL_told_128 ?_
            refine lv_istore (lv' := [(8, .int ((mClr z i) + (0))), (7, .int ((mPk z i) + (0))), (10, .int (qIn (qV z (i / 12)) (i % 12))), (9, .int (nI (i))), (0, .ref (x0)), (1, .int (nI (x1))), (2, .ref (ra)), (3, .ref (rb)), (4, .ref (rc)), (5, .ref (qe)), (6, .ref (qd))]) hx hb dL_told_129 hl (by decide) rfl (fun ls hl => ?_)
            refine lv_iinc (v := nI ((i) + 1)) (lv' := [(9, .int (nI ((i) + 1))), (8, .int ((mClr z i) + (0))), (7, .int ((mPk z i) + (0))), (10, .int (qIn (qV z (i / 12)) (i % 12))), (0, .ref (x0)), (1, .int (nI (x1))), (2, .ref (ra)), (3, .ref (rb)), (4, .ref (rc)), (5, .ref (qe)), (6, .ref (qd))]) hx hb dL_told_131 hl (k := 3) rfl (show nI (i) + Int32.ofInt 1 = _ from nI_add (i) 1) (by decide) rfl (fun ls hl => ?_)
            refine lv_goto (tgt := 52) hx hb dL_told_134 (by decide) ?_
            have e1 : mPk z (i + 1) = mPk z i + 0 := congrArg (fun q => mPk z i + q) (if_neg (fun w => absurd c_101 (Int32.not_lt.mpr w)))
            have e2 : mClr z (i + 1) = mClr z i + 0 := congrArg (fun q => mClr z i + q) (if_neg (fun w => absurd c_120 (Int32.not_lt.mpr w)))
            exact ih (i + 1) (by omega) _ _ (by first | (rw [e1, e2]; exact hP) | exact hP) (by first | (rw [e1, e2]; exact hD) | exact hD) hS ls (by first | (rw [e1, e2]; exact lv_sub hl [0, 1, 2, 4, 5, 6, 7, 8, 9, 10] rfl) | exact lv_sub hl [0, 1, 2, 4, 5, 6, 7, 8, 9, 10] rfl)
          · refine lv_iconst (v := 1) hx hb dL_told_123 (by decide) ?_
            refine lv_goto (tgt := 128) hx hb dL_told_124 (by decide) ?_
            refine lv_iadd hx hb dL_told_128 ?_
            refine lv_istore (lv' := [(8, .int ((mClr z i) + (1))), (7, .int ((mPk z i) + (0))), (10, .int (qIn (qV z (i / 12)) (i % 12))), (9, .int (nI (i))), (0, .ref (x0)), (1, .int (nI (x1))), (2, .ref (ra)), (3, .ref (rb)), (4, .ref (rc)), (5, .ref (qe)), (6, .ref (qd))]) hx hb dL_told_129 hl (by decide) rfl (fun ls hl => ?_)
            refine lv_iinc (v := nI ((i) + 1)) (lv' := [(9, .int (nI ((i) + 1))), (8, .int ((mClr z i) + (1))), (7, .int ((mPk z i) + (0))), (10, .int (qIn (qV z (i / 12)) (i % 12))), (0, .ref (x0)), (1, .int (nI (x1))), (2, .ref (ra)), (3, .ref (rb)), (4, .ref (rc)), (5, .ref (qe)), (6, .ref (qd))]) hx hb dL_told_131 hl (k := 3) rfl (show nI (i) + Int32.ofInt 1 = _ from nI_add (i) 1) (by decide) rfl (fun ls hl => ?_)
            refine lv_goto (tgt := 52) hx hb dL_told_134 (by decide) ?_
            have e1 : mPk z (i + 1) = mPk z i + 0 := congrArg (fun q => mPk z i + q) (if_neg (fun w => absurd c_101 (Int32.not_lt.mpr w)))
            have e2 : mClr z (i + 1) = mClr z i + 1 := congrArg (fun q => mClr z i + q) (if_pos (Int32.not_lt.mp c_120))
            exact ih (i + 1) (by omega) _ _ (by first | (rw [e1, e2]; exact hP) | exact hP) (by first | (rw [e1, e2]; exact hD) | exact hD) hS ls (by first | (rw [e1, e2]; exact lv_sub hl [0, 1, 2, 4, 5, 6, 7, 8, 9, 10] rfl) | exact lv_sub hl [0, 1, 2, 4, 5, 6, 7, 8, 9, 10] rfl)
        · refine lv_iconst (v := 1) hx hb dL_told_104 (by decide) ?_
          refine lv_goto (tgt := 109) hx hb dL_told_105 (by decide) ?_
          refine lv_iadd hx hb dL_told_109 ?_
          refine lv_istore (lv' := [(7, .int ((mPk z i) + (1))), (10, .int (qIn (qV z (i / 12)) (i % 12))), (9, .int (nI (i))), (8, .int (mClr z i)), (0, .ref (x0)), (1, .int (nI (x1))), (2, .ref (ra)), (3, .ref (rb)), (4, .ref (rc)), (5, .ref (qe)), (6, .ref (qd))]) hx hb dL_told_110 hl (by decide) rfl (fun ls hl => ?_)
          refine lv_iload hx hb dL_told_112 (lv_at hl 3 rfl) ?_
          refine lv_iload hx hb dL_told_114 (lv_at hl 1 rfl) ?_
          refine lv_aload hx hb dL_told_116 (lv_at hl 9 rfl) ?_
          refine lv_iconst (v := 2) hx hb dL_told_118 (by decide) ?_
          refine z_iald hx hb hK hP 19 rfl (2) (rfl) (by omega) (by decide) dL_told_119 ?_
          refine lv_icmp_gt (tgt := 127) hx hb dL_told_120 (by decide) (fun c_120 => ?_) (fun c_120 => ?_)
          · refine lv_iconst (v := 0) hx hb dL_told_127 (by decide) ?_
            refine lv_iadd hx hb dL_told_128 ?_
            refine lv_istore (lv' := [(8, .int ((mClr z i) + (0))), (7, .int ((mPk z i) + (1))), (10, .int (qIn (qV z (i / 12)) (i % 12))), (9, .int (nI (i))), (0, .ref (x0)), (1, .int (nI (x1))), (2, .ref (ra)), (3, .ref (rb)), (4, .ref (rc)), (5, .ref (qe)), (6, .ref (qd))]) hx hb dL_told_129 hl (by decide) rfl (fun ls hl => ?_)
            refine lv_iinc (v := nI ((i) + 1)) (lv' := [(9, .int (nI ((i) + 1))), (8, .int ((mClr z i) + (0))), (7, .int ((mPk z i) + (1))), (10, .int (qIn (qV z (i / 12)) (i % 12))), (0, .ref (x0)), (1, .int (nI (x1))), (2, .ref (ra)), (3, .ref (rb)), (4, .ref (rc)), (5, .ref (qe)), (6, .ref (qd))]) hx hb dL_told_131 hl (k := 3) rfl (show nI (i) + Int32.ofInt 1 = _ from nI_add (i) 1) (by decide) rfl (fun ls hl => ?_)
            refine lv_goto (tgt := 52) hx hb dL_told_134 (by decide) ?_
            have e1 : mPk z (i + 1) = mPk z i + 1 := congrArg (fun q => mPk z i + q) (if_pos (Int32.not_lt.mp c_101))
            have e2 : mClr z (i + 1) = mClr z i + 0 := congrArg (fun q => mClr z i + q) (if_neg (fun w => absurd c_120 (Int32.not_lt.mpr w)))
            exact ih (i + 1) (by omega) _ _ (by first | (rw [e1, e2]; exact hP) | exact hP) (by first | (rw [e1, e2]; exact hD) | exact hD) hS ls (by first | (rw [e1, e2]; exact lv_sub hl [0, 1, 2, 4, 5, 6, 7, 8, 9, 10] rfl) | exact lv_sub hl [0, 1, 2, 4, 5, 6, 7, 8, 9, 10] rfl)
          · refine lv_iconst (v := 1) hx hb dL_told_123 (by decide) ?_
            refine lv_goto (tgt := 128) hx hb dL_told_124 (by decide) ?_
            refine lv_iadd hx hb dL_told_128 ?_
            refine lv_istore (lv' := [(8, .int ((mClr z i) + (1))), (7, .int ((mPk z i) + (1))), (10, .int (qIn (qV z (i / 12)) (i % 12))), (9, .int (nI (i))), (0, .ref (x0)), (1, .int (nI (x1))), (2, .ref (ra)), (3, .ref (rb)), (4, .ref (rc)), (5, .ref (qe)), (6, .ref (qd))]) hx hb dL_told_129 hl (by decide) rfl (fun ls hl => ?_)
            refine lv_iinc (v := nI ((i) + 1)) (lv' := [(9, .int (nI ((i) + 1))), (8, .int ((mClr z i) + (1))), (7, .int ((mPk z i) + (1))), (10, .int (qIn (qV z (i / 12)) (i % 12))), (0, .ref (x0)), (1, .int (nI (x1))), (2, .ref (ra)), (3, .ref (rb)), (4, .ref (rc)), (5, .ref (qe)), (6, .ref (qd))]) hx hb dL_told_131 hl (k := 3) rfl (show nI (i) + Int32.ofInt 1 = _ from nI_add (i) 1) (by decide) rfl (fun ls hl => ?_)
            refine lv_goto (tgt := 52) hx hb dL_told_134 (by decide) ?_
            have e1 : mPk z (i + 1) = mPk z i + 1 := congrArg (fun q => mPk z i + q) (if_pos (Int32.not_lt.mp c_101))
            have e2 : mClr z (i + 1) = mClr z i + 1 := congrArg (fun q => mClr z i + q) (if_pos (Int32.not_lt.mp c_120))
            exact ih (i + 1) (by omega) _ _ (by first | (rw [e1, e2]; exact hP) | exact hP) (by first | (rw [e1, e2]; exact hD) | exact hD) hS ls (by first | (rw [e1, e2]; exact lv_sub hl [0, 1, 2, 4, 5, 6, 7, 8, 9, 10] rfl) | exact lv_sub hl [0, 1, 2, 4, 5, 6, 7, 8, 9, 10] rfl)
      refine lv_iload hx hb dL_told_59 (lv_at hl 0 rfl) ?_
      refine lv_bipush (v := 12) hx hb dL_told_61 (by decide) ?_
      refine z_icmp_ge (tgt := 70) hx hb (i) (12) dL_told_63 (by decide) (by omega) (by omega) rfl rfl (fun c_63 => ?_) (fun c_63 => ?_)
      · refine lv_iload hx hb dL_told_70 (lv_at hl 0 rfl) ?_
        refine lv_bipush (v := 24) hx hb dL_told_72 (by decide) ?_
        refine z_icmp_ge (tgt := 81) hx hb (i) (24) dL_told_74 (by decide) (by omega) (by omega) rfl rfl (fun c_74 => ?_) (fun c_74 => ?_)
        · refine lv_aload hx hb dL_told_81 (lv_at hl 7 rfl) ?_
          refine lv_iload hx hb dL_told_83 (lv_at hl 0 rfl) ?_
          refine lv_bipush (v := 12) hx hb dL_told_85 (by decide) ?_
          refine lv_irem hx hb dL_told_87 (by decide) ?_
          refine z_top (y := nI ((i) % (12))) (pk_rem (a := i) (d := 12) (by omega) (by omega) (by omega)) ?_
          refine z_ci (z_srun (rest := []) (own := RL) (As := [.ref (rc), .int (nI ((i) % (12)))]) hx hb hml hown hts hl.1 hK hP [18] rfl (metL_all l D ac rc (qV z 2) ((i) % (12)) (by omega)) gL_told_L_all rfl 2 (by decide +kernel) ⟨rfl, rfl, Nat.le_of_ble_eq_true rfl, Nat.le_of_ble_eq_true rfl⟩ rfl rfl (Nat.le_of_ble_eq_true rfl) dL_told_88 ⟨Nat.le_of_ble_eq_true rfl, Nat.le_of_ble_eq_true rfl⟩) ?_
          refine z_top (y := qIn (qV z (i / 12)) (i % 12)) ((by rw [show i / 12 = 2 by omega])) ?_
          exact hJ_91   _ _ hP hD hS ls (lv_sub hl [0, 1, 2, 3, 4, 5, 6, 7, 8, 9] rfl)
        · refine lv_aload_n hx hb dL_told_77 rfl (lv_at hl 6 rfl) ?_
          refine lv_goto (tgt := 83) hx hb dL_told_78 (by decide) ?_
          refine lv_iload hx hb dL_told_83 (lv_at hl 0 rfl) ?_
          refine lv_bipush (v := 12) hx hb dL_told_85 (by decide) ?_
          refine lv_irem hx hb dL_told_87 (by decide) ?_
          refine z_top (y := nI ((i) % (12))) (pk_rem (a := i) (d := 12) (by omega) (by omega) (by omega)) ?_
          refine z_ci (z_srun (rest := []) (own := RL) (As := [.ref (rb), .int (nI ((i) % (12)))]) hx hb hml hown hts hl.1 hK hP [17] rfl (metL_all l D ac rb (qV z 1) ((i) % (12)) (by omega)) gL_told_L_all rfl 2 (by decide +kernel) ⟨rfl, rfl, Nat.le_of_ble_eq_true rfl, Nat.le_of_ble_eq_true rfl⟩ rfl rfl (Nat.le_of_ble_eq_true rfl) dL_told_88 ⟨Nat.le_of_ble_eq_true rfl, Nat.le_of_ble_eq_true rfl⟩) ?_
          refine z_top (y := qIn (qV z (i / 12)) (i % 12)) ((by rw [show i / 12 = 1 by omega])) ?_
          exact hJ_91   _ _ hP hD hS ls (lv_sub hl [0, 1, 2, 3, 4, 5, 6, 7, 8, 9] rfl)
      · refine lv_aload_n hx hb dL_told_66 rfl (lv_at hl 5 rfl) ?_
        refine lv_goto (tgt := 83) hx hb dL_told_67 (by decide) ?_
        refine lv_iload hx hb dL_told_83 (lv_at hl 0 rfl) ?_
        refine lv_bipush (v := 12) hx hb dL_told_85 (by decide) ?_
        refine lv_irem hx hb dL_told_87 (by decide) ?_
        refine z_top (y := nI ((i) % (12))) (pk_rem (a := i) (d := 12) (by omega) (by omega) (by omega)) ?_
        refine z_ci (z_srun (rest := []) (own := RL) (As := [.ref (ra), .int (nI ((i) % (12)))]) hx hb hml hown hts hl.1 hK hP [16] rfl (metL_all l D ac ra (qV z 0) ((i) % (12)) (by omega)) gL_told_L_all rfl 2 (by decide +kernel) ⟨rfl, rfl, Nat.le_of_ble_eq_true rfl, Nat.le_of_ble_eq_true rfl⟩ rfl rfl (Nat.le_of_ble_eq_true rfl) dL_told_88 ⟨Nat.le_of_ble_eq_true rfl, Nat.le_of_ble_eq_true rfl⟩) ?_
        refine z_top (y := qIn (qV z (i / 12)) (i % 12)) ((by rw [show i / 12 = 0 by omega])) ?_
        exact hJ_91   _ _ hP hD hS ls (lv_sub hl [0, 1, 2, 3, 4, 5, 6, 7, 8, 9] rfl)
  exact hL_52 (36) (0) (by omega) _ _ hP hD hS ls (lv_sub hl [0, 1, 2, 3, 4, 5, 6, 7, 8, 9] rfl)

