set_option maxRecDepth 100000 in
set_option maxHeartbeats 4000000 in
theorem thrX5_pour_3 (l : Launch) (D : va_G) (ac : Nat → ClassId) (hst : l.stackTraces = false) (sa : Nat) (x0 : Nat) (n0 : Nat) (y0 : Nat) (ch : Nat) (sp0 : Nat) (n1 : Nat) (n2 : Nat) (n3 : Nat) (n4 : Nat) (n11 : Nat) (n12 : Nat) (tp : Int32) (fl : Int32) (v : Nat → Int32) (w : Nat → Int32) (jf : Nat → Option Nat) (h0 : Nat) (g0 : Nat) (g : Nat → Int32) (j1 : Nat) (s1 : Nat) (k1 : Nat) (x4 : Int32) (hj : j1 < 3) (hs : s1 < 12) (hk : k1 < 4) (h2 : 1 ≤ x4 ∧ x4 ≤ 999) (h3 : 5000 < qAll g + x4) (hjf : jf j1 = some h0) : vx_Met l yX5_pour wsX5_pour ({ frames := 7, cells := 1, slots := 6, locals := 109 } : Room) (va_Pc [.ref (x0), .int (nI (j1)), .int (nI (s1)), .int (nI (k1)), .int (x4)] (zQW D ac [(x0, .inr (5, [.ref (n0), .ref (y0), .ref (ch), .ref (sp0)])), (n0, .inr (4, [.ref (n1), .ref (n4), .ref (n11), .ref (n12), .int (tp), .int (fl)])), (n1, .inr (3, [.ref (n2), .ref (n3)])), (n2, .inl (ac 0, 4, .inl (v))), (n3, .inl (ac 0, 4, .inl (w))), (n4, .inl (ac 2, 3, .inr (.inr (.inr (.inr (jf)))))), (h0, .inr (2, [.ref (g0)])), (g0, .inl (ac 0, 48, .inl (g)))] RX5 260 "the jar would hold too many grains" sa "java/lang/IllegalStateException")) zF (zT "java/lang/IllegalStateException") 1 6 (fun _ => False) := by
  refine z_th (cc := cX5_pour) (maxL := 6) (ret := (some .int)) (lv := [(0, .ref (x0)), (1, .int (nI (j1))), (2, .int (nI (s1))), (3, .int (nI (k1))), (4, .int (x4))]) (by decide) rfl (Nat.le_of_ble_eq_true rfl) rfl ?_
  intro p e s m args below meth c ls hx hb hml hown hts hlocks hnx hl hK hP hq hR hcs
  refine lv_iload_n hx hb dX5_pour_0 rfl (lv_at hl 1 rfl) ?_
  refine lv_iload_n hx hb dX5_pour_1 rfl (lv_at hl 2 rfl) ?_
  refine z_cv (z_srun (rest := []) (own := RX5) (As := [.int (nI (j1)), .int (nI (s1))]) hx hb hml hown hts hl.1 hK hP [] rfl (metX5_needSlice_0 l D ac j1 s1 (by omega) (by omega)) gX5_pour_X5_needSlice rfl 2 (by decide +kernel) ⟨rfl, rfl, Nat.le_of_ble_eq_true rfl, Nat.le_of_ble_eq_true rfl⟩ rfl rfl (Nat.le_of_ble_eq_true rfl) dX5_pour_2 ⟨Nat.zero_le _, Nat.zero_le _⟩) ?_
  refine lv_iload_n hx hb dX5_pour_5 rfl (lv_at hl 3 rfl) ?_
  refine lv_iconst (v := 4) hx hb dX5_pour_6 (by decide) ?_
  refine z_cv (z_srun (rest := []) (own := RX5) (As := [.int (nI (k1)), .int (4)]) hx hb hml hown hts hl.1 hK hP [] rfl (metX5_needIndex_0 l D ac k1 4 (by omega) (by omega)) gX5_pour_X5_needIndex rfl 2 (by decide +kernel) ⟨rfl, rfl, Nat.le_of_ble_eq_true rfl, Nat.le_of_ble_eq_true rfl⟩ rfl rfl (Nat.le_of_ble_eq_true rfl) dX5_pour_7 ⟨Nat.zero_le _, Nat.zero_le _⟩) ?_
  refine lv_iload hx hb dX5_pour_10 (lv_at hl 4 rfl) ?_
  refine lv_iconst (v := 1) hx hb dX5_pour_12 (by decide) ?_
  refine lv_sipush (v := 999) hx hb dX5_pour_13 (by decide) ?_
  refine z_cv (z_srun (rest := []) (own := RX5) (As := [.int (x4), .int (1), .int (999)]) hx hb hml hown hts hl.1 hK hP [] rfl (metX5_needRange_0 l D ac x4 1 999 (h2)) gX5_pour_X5_needRange rfl 3 (by decide +kernel) ⟨rfl, rfl, Nat.le_of_ble_eq_true rfl, Nat.le_of_ble_eq_true rfl⟩ rfl rfl (Nat.le_of_ble_eq_true rfl) dX5_pour_16 ⟨Nat.zero_le _, Nat.zero_le _⟩) ?_
  refine lv_aload_n hx hb dX5_pour_19 rfl (lv_at hl 0 rfl) ?_
  refine va_get (ci := 5) (v := .ref (n0)) (C := RX5) (T := TX5) (N := 4) hx hb hts (by decide +kernel) hown hK hP 0 rfl rfl 0 (by decide) (hts (.fieldLink RX5 12 "SettlingJars" "now" "LSettlingJars$State;") (by decide +kernel)) (fun _ h9 => h9) rfl dX5_pour_20 ?_
  refine va_get (ci := 4) (v := .ref (n4)) (C := RX4) (T := TX4) (N := 6) hx hb hts (by decide +kernel) hown hK hP 1 rfl rfl 1 (by decide) (hts (.fieldLink RX5 71 "SettlingJars$State" "jars" "[LSettlingJars$Jar;") (by decide +kernel)) (fun _ h9 => h9) rfl dX5_pour_23 ?_
  refine lv_iload_n hx hb dX5_pour_26 rfl (lv_at hl 1 rfl) ?_
  refine z_aald hx hb hK hP 5 2 rfl rfl (j1) (congrArg nI (by omega)) (by omega) (by decide) (hjf) dX5_pour_27 ?_
  refine lv_astore (lv' := [(5, .ref (h0)), (0, .ref (x0)), (1, .int (nI (j1))), (2, .int (nI (s1))), (3, .int (nI (k1))), (4, .int (x4))]) hx hb dX5_pour_28 hl (by decide) rfl (fun ls hl => ?_)
  refine lv_aload hx hb dX5_pour_30 (lv_at hl 0 rfl) ?_
  refine lv_iload hx hb dX5_pour_32 (lv_at hl 5 rfl) ?_
  exact z_tS (rest := []) (own := RX5) (As := [.ref (h0), .int (x4)]) hx hb hml hown hts hl.1 hlocks hnx hK hP hq hR hcs [6, 7] rfl (thrX5_needRoom_t l D ac hst sa h0 g0 g x4 (h3)) gX5_pour_X5_needRoom rfl 2 (by decide +kernel) ⟨rfl, rfl, Nat.le_of_ble_eq_true rfl, Nat.le_of_ble_eq_true rfl⟩ rfl rfl (Nat.le_of_ble_eq_true rfl) dX5_pour_34 ⟨Nat.le_refl _, Nat.le_refl _⟩

set_option maxRecDepth 100000 in
set_option maxHeartbeats 4000000 in
theorem thrX5_decant_1 (l : Launch) (D : va_G) (ac : Nat → ClassId) (hst : l.stackTraces = false) (sa : Nat) (x0 : Nat) (x1 : Int32) (x2 : Int32) (x3 : Int32) (h1 : ¬ ((0 ≤ x1 ∧ x1 ≤ 2) ∧ (0 ≤ x2 ∧ x2 ≤ 2) ∧ (0 ≤ x3 ∧ x3 ≤ 11))) : vx_Met l yX5_decant wsX5_decant ({ frames := 8, cells := 1, slots := 6, locals := 124 } : Room) (va_Pc [.ref (x0), .int (x1), .int (x2), .int (x3)] (zQW D ac [] RX5 255 "there is no such jar, slice, class or setting" sa "java/lang/IndexOutOfBoundsException")) zF (zT "java/lang/IndexOutOfBoundsException") 1 6 (fun _ => False) := by
  refine z_th (cc := cX5_decant) (maxL := 5) (ret := (some .int)) (lv := [(0, .ref (x0)), (1, .int (x1)), (2, .int (x2)), (3, .int (x3))]) (by decide) rfl (Nat.le_of_ble_eq_true rfl) rfl ?_
  intro p e s m args below meth c ls hx hb hml hown hts hlocks hnx hl hK hP hq hR hcs
  rcases z_dec x1 (n := 2) (by omega) with hx1 | ⟨j1, rfl, hj⟩
  · refine lv_iload_n hx hb dX5_decant_0 rfl (lv_at hl 1 rfl) ?_
    refine lv_iconst (v := 3) hx hb dX5_decant_1 (by decide) ?_
    exact z_tS (rest := []) (own := RX5) (As := [.int (x1), .int (3)]) hx hb hml hown hts hl.1 hlocks hnx hK hP hq hR hcs [] rfl (thrX5_needIndex_t l D ac hst sa x1 3 (fun q => hx1 ⟨q.1, z_ltle (n := 2) (by omega) q.2⟩)) gX5_decant_X5_needIndex rfl 2 (by decide +kernel) ⟨rfl, rfl, Nat.le_of_ble_eq_true rfl, Nat.le_of_ble_eq_true rfl⟩ rfl rfl (Nat.le_of_ble_eq_true rfl) dX5_decant_2 ⟨Nat.le_refl _, Nat.le_refl _⟩
  · refine lv_iload_n hx hb dX5_decant_0 rfl (lv_at hl 1 rfl) ?_
    refine lv_iconst (v := 3) hx hb dX5_decant_1 (by decide) ?_
    refine z_cv (z_srun (rest := []) (own := RX5) (As := [.int ((nI j1)), .int (3)]) hx hb hml hown hts hl.1 hK hP [] rfl (metX5_needIndex_0 l D ac j1 3 (by omega) (by omega)) gX5_decant_X5_needIndex rfl 2 (by decide +kernel) ⟨rfl, rfl, Nat.le_of_ble_eq_true rfl, Nat.le_of_ble_eq_true rfl⟩ rfl rfl (Nat.le_of_ble_eq_true rfl) dX5_decant_2 ⟨Nat.zero_le _, Nat.zero_le _⟩) ?_
    refine lv_iload_n hx hb dX5_decant_5 rfl (lv_at hl 2 rfl) ?_
    refine lv_iload_n hx hb dX5_decant_6 rfl (lv_at hl 3 rfl) ?_
    exact z_tS (rest := []) (own := RX5) (As := [.int (x2), .int (x3)]) hx hb hml hown hts hl.1 hlocks hnx hK hP hq hR hcs [] rfl (thrX5_needSlice_t l D ac hst sa x2 x3 (fun q => h1 ⟨z_in (n := 2) (by omega), q.1, q.2⟩)) gX5_decant_X5_needSlice rfl 2 (by decide +kernel) ⟨rfl, rfl, Nat.le_of_ble_eq_true rfl, Nat.le_of_ble_eq_true rfl⟩ rfl rfl (Nat.le_of_ble_eq_true rfl) dX5_decant_7 ⟨Nat.le_refl _, Nat.le_refl _⟩

set_option maxRecDepth 100000 in
set_option maxHeartbeats 4000000 in
theorem thrX5_decant_2 (l : Launch) (D : va_G) (ac : Nat → ClassId) (hst : l.stackTraces = false) (sa : Nat) (x0 : Nat) (j1 : Nat) (t : Nat) (hj : j1 < 3) (ht : t < 12) : vx_Met l yX5_decant wsX5_decant ({ frames := 6, cells := 1, slots := 6, locals := 82 } : Room) (va_Pc [.ref (x0), .int (nI (j1)), .int (nI (j1)), .int (nI (t))] (zQW D ac [] RX5 102 "a jar is not poured into itself" sa "java/lang/IllegalArgumentException")) zF (zT "java/lang/IllegalArgumentException") 1 6 (fun _ => False) := by
  refine z_th (cc := cX5_decant) (maxL := 5) (ret := (some .int)) (lv := [(0, .ref (x0)), (1, .int (nI (j1))), (2, .int (nI (j1))), (3, .int (nI (t)))]) (by decide) rfl (Nat.le_of_ble_eq_true rfl) rfl ?_
  intro p e s m args below meth c ls hx hb hml hown hts hlocks hnx hl hK hP hq hR hcs
  refine lv_iload_n hx hb dX5_decant_0 rfl (lv_at hl 1 rfl) ?_
  refine lv_iconst (v := 3) hx hb dX5_decant_1 (by decide) ?_
  refine z_cv (z_srun (rest := []) (own := RX5) (As := [.int (nI (j1)), .int (3)]) hx hb hml hown hts hl.1 hK hP [] rfl (metX5_needIndex_0 l D ac j1 3 (by omega) (by omega)) gX5_decant_X5_needIndex rfl 2 (by decide +kernel) ⟨rfl, rfl, Nat.le_of_ble_eq_true rfl, Nat.le_of_ble_eq_true rfl⟩ rfl rfl (Nat.le_of_ble_eq_true rfl) dX5_decant_2 ⟨Nat.zero_le _, Nat.zero_le _⟩) ?_
  refine lv_iload_n hx hb dX5_decant_5 rfl (lv_at hl 2 rfl) ?_
  refine lv_iload_n hx hb dX5_decant_6 rfl (lv_at hl 3 rfl) ?_
  refine z_cv (z_srun (rest := []) (own := RX5) (As := [.int (nI (j1)), .int (nI (t))]) hx hb hml hown hts hl.1 hK hP [] rfl (metX5_needSlice_0 l D ac j1 t (by omega) (by omega)) gX5_decant_X5_needSlice rfl 2 (by decide +kernel) ⟨rfl, rfl, Nat.le_of_ble_eq_true rfl, Nat.le_of_ble_eq_true rfl⟩ rfl rfl (Nat.le_of_ble_eq_true rfl) dX5_decant_7 ⟨Nat.zero_le _, Nat.zero_le _⟩) ?_
  refine lv_iload_n hx hb dX5_decant_10 rfl (lv_at hl 1 rfl) ?_
  refine lv_iload_n hx hb dX5_decant_11 rfl (lv_at hl 2 rfl) ?_
  refine z_icmp_ne (tgt := 25) hx hb (j1) (j1) dX5_decant_12 (by decide) (by omega) (by omega) rfl rfl (fun c_12 => absurd c_12 (fun q => q rfl)) (fun c_12 => ?_)
  exact vx_throwS (own := RX5) (cls := "java/lang/IllegalArgumentException") (text := "a jar is not poured into itself") (names := ["java/lang/RuntimeException", "java/lang/Exception"]) (ik := 100) (is := 102) (ic := 104) (A := fun _ => False) hx hb hst hown (by decide +kernel) (by decide +kernel) (hts (.classLink RX5 100 "java/lang/IllegalArgumentException") (by decide +kernel)) (hts (.initialized "java/lang/IllegalArgumentException") (by decide +kernel)) hR (z_at (by decide +kernel) (by decide +kernel) hts hcs) (by decide +kernel) hq.1 hq.2 va_S.rf (hl.1.trans hml.symm) dX5_decant_15 dX5_decant_18 dX5_decant_19 dX5_decant_21 dX5_decant_24 (fun x h => (hnx x h).elim) (by decide) (by decide) (Nat.le_refl _) (Nat.le_refl _) hlocks (fun t _ h1 h2 => ⟨(), trivial, rfl, h1, fun q a _ => h2 q a⟩) (fun z h => absurd h List.not_mem_nil) (Nat.le_refl _) (Nat.le_refl _)

set_option maxRecDepth 100000 in
set_option maxHeartbeats 4000000 in
theorem thrX5_decant_3 (l : Launch) (D : va_G) (ac : Nat → ClassId) (hst : l.stackTraces = false) (sa : Nat) (x0 : Nat) (n0 : Nat) (y0 : Nat) (ch : Nat) (sp0 : Nat) (n1 : Nat) (n4 : Nat) (n11 : Nat) (n12 : Nat) (tp : Int32) (fl : Int32) (jf : Nat → Option Nat) (h0 : Nat) (g0 : Nat) (g : Nat → Int32) (h2 : Nat) (o0 : Nat) (o : Nat → Int32) (j1 : Nat) (j2 : Nat) (t : Nat) (hj : j1 < 3) (hj2 : j2 < 3) (ht : t < 12) (hne : ¬ j1 = j2) (hjf : jf j1 = some h0) (hjf2 : jf j2 = some h2) (h3 : 5000 < qAll o + qTo g (t + 1)) : vx_Met l yX5_decant wsX5_decant ({ frames := 7, cells := 1, slots := 6, locals := 109 } : Room) (va_Pc [.ref (x0), .int (nI (j1)), .int (nI (j2)), .int (nI (t))] (zQW D ac [(x0, .inr (5, [.ref (n0), .ref (y0), .ref (ch), .ref (sp0)])), (n0, .inr (4, [.ref (n1), .ref (n4), .ref (n11), .ref (n12), .int (tp), .int (fl)])), (n4, .inl (ac 2, 3, .inr (.inr (.inr (.inr (jf)))))), (h0, .inr (2, [.ref (g0)])), (g0, .inl (ac 0, 48, .inl (g))), (h2, .inr (2, [.ref (o0)])), (o0, .inl (ac 0, 48, .inl (o)))] RX5 260 "the jar would hold too many grains" sa "java/lang/IllegalStateException")) zF (zT "java/lang/IllegalStateException") 1 6 (fun _ => False) := by
  refine z_th (cc := cX5_decant) (maxL := 5) (ret := (some .int)) (lv := [(0, .ref (x0)), (1, .int (nI (j1))), (2, .int (nI (j2))), (3, .int (nI (t)))]) (by decide) rfl (Nat.le_of_ble_eq_true rfl) rfl ?_
  intro p e s m args below meth c ls hx hb hml hown hts hlocks hnx hl hK hP hq hR hcs
  refine lv_iload_n hx hb dX5_decant_0 rfl (lv_at hl 1 rfl) ?_
  refine lv_iconst (v := 3) hx hb dX5_decant_1 (by decide) ?_
  refine z_cv (z_srun (rest := []) (own := RX5) (As := [.int (nI (j1)), .int (3)]) hx hb hml hown hts hl.1 hK hP [] rfl (metX5_needIndex_0 l D ac j1 3 (by omega) (by omega)) gX5_decant_X5_needIndex rfl 2 (by decide +kernel) ⟨rfl, rfl, Nat.le_of_ble_eq_true rfl, Nat.le_of_ble_eq_true rfl⟩ rfl rfl (Nat.le_of_ble_eq_true rfl) dX5_decant_2 ⟨Nat.zero_le _, Nat.zero_le _⟩) ?_
  refine lv_iload_n hx hb dX5_decant_5 rfl (lv_at hl 2 rfl) ?_
  refine lv_iload_n hx hb dX5_decant_6 rfl (lv_at hl 3 rfl) ?_
  refine z_cv (z_srun (rest := []) (own := RX5) (As := [.int (nI (j2)), .int (nI (t))]) hx hb hml hown hts hl.1 hK hP [] rfl (metX5_needSlice_0 l D ac j2 t (by omega) (by omega)) gX5_decant_X5_needSlice rfl 2 (by decide +kernel) ⟨rfl, rfl, Nat.le_of_ble_eq_true rfl, Nat.le_of_ble_eq_true rfl⟩ rfl rfl (Nat.le_of_ble_eq_true rfl) dX5_decant_7 ⟨Nat.zero_le _, Nat.zero_le _⟩) ?_
  refine lv_iload_n hx hb dX5_decant_10 rfl (lv_at hl 1 rfl) ?_
  refine lv_iload_n hx hb dX5_decant_11 rfl (lv_at hl 2 rfl) ?_
  refine z_icmp_ne (tgt := 25) hx hb (j1) (j2) dX5_decant_12 (by decide) (by omega) (by omega) rfl rfl (fun c_12 => ?_) (fun c_12 => absurd c_12 (by omega))
  refine lv_aload_n hx hb dX5_decant_25 rfl (lv_at hl 0 rfl) ?_
  refine va_get (ci := 5) (v := .ref (n0)) (C := RX5) (T := TX5) (N := 4) hx hb hts (by decide +kernel) hown hK hP 0 rfl rfl 0 (by decide) (hts (.fieldLink RX5 12 "SettlingJars" "now" "LSettlingJars$State;") (by decide +kernel)) (fun _ h9 => h9) rfl dX5_decant_26 ?_
  refine va_get (ci := 4) (v := .ref (n4)) (C := RX4) (T := TX4) (N := 6) hx hb hts (by decide +kernel) hown hK hP 1 rfl rfl 1 (by decide) (hts (.fieldLink RX5 71 "SettlingJars$State" "jars" "[LSettlingJars$Jar;") (by decide +kernel)) (fun _ h9 => h9) rfl dX5_decant_29 ?_
  refine lv_iload_n hx hb dX5_decant_32 rfl (lv_at hl 1 rfl) ?_
  refine z_aald hx hb hK hP 2 2 rfl rfl (j1) (congrArg nI (by omega)) (by omega) (by decide) (hjf) dX5_decant_33 ?_
  refine lv_iload_n hx hb dX5_decant_34 rfl (lv_at hl 3 rfl) ?_
  refine z_ci (z_vrun (rest := []) (own := RX5) (As := [.int (nI (t))]) hx hb hml hown hts hl.1 hK hP [3, 4] rfl (metX2_allDownTo l D ac h0 g0 g (nI (t)) (t + 1) ((nI_pred t).symm) (by omega)) gX5_decant_X2_allDownTo rfl 1 (by decide +kernel) ⟨rfl, rfl, Nat.le_of_ble_eq_true rfl, Nat.le_of_ble_eq_true rfl⟩ 3 2 rfl rfl rfl rfl rfl (Nat.le_of_ble_eq_true rfl) dX5_decant_35 ⟨Nat.zero_le _, Nat.zero_le _⟩) ?_
  refine lv_istore (lv' := [(4, .int (qTo g (t + 1))), (0, .ref (x0)), (1, .int (nI (j1))), (2, .int (nI (j2))), (3, .int (nI (t)))]) hx hb dX5_decant_38 hl (by decide) rfl (fun ls hl => ?_)
  refine lv_aload_n hx hb dX5_decant_40 rfl (lv_at hl 1 rfl) ?_
  refine va_get (ci := 5) (v := .ref (n0)) (C := RX5) (T := TX5) (N := 4) hx hb hts (by decide +kernel) hown hK hP 0 rfl rfl 0 (by decide) (hts (.fieldLink RX5 12 "SettlingJars" "now" "LSettlingJars$State;") (by decide +kernel)) (fun _ h9 => h9) rfl dX5_decant_41 ?_
  refine va_get (ci := 4) (v := .ref (n4)) (C := RX4) (T := TX4) (N := 6) hx hb hts (by decide +kernel) hown hK hP 1 rfl rfl 1 (by decide) (hts (.fieldLink RX5 71 "SettlingJars$State" "jars" "[LSettlingJars$Jar;") (by decide +kernel)) (fun _ h9 => h9) rfl dX5_decant_44 ?_
  refine lv_iload_n hx hb dX5_decant_47 rfl (lv_at hl 3 rfl) ?_
  refine z_aald hx hb hK hP 2 2 rfl rfl (j2) (congrArg nI (by omega)) (by omega) (by decide) (hjf2) dX5_decant_48 ?_
  refine lv_iload hx hb dX5_decant_49 (lv_at hl 0 rfl) ?_
  exact z_tS (rest := []) (own := RX5) (As := [.ref (h2), .int (qTo g (t + 1))]) hx hb hml hown hts hl.1 hlocks hnx hK hP hq hR hcs [5, 6] rfl (thrX5_needRoom_t l D ac hst sa h2 o0 o (qTo g (t + 1)) (h3)) gX5_decant_X5_needRoom rfl 2 (by decide +kernel) ⟨rfl, rfl, Nat.le_of_ble_eq_true rfl, Nat.le_of_ble_eq_true rfl⟩ rfl rfl (Nat.le_of_ble_eq_true rfl) dX5_decant_51 ⟨Nat.le_refl _, Nat.le_refl _⟩

set_option maxRecDepth 100000 in
set_option maxHeartbeats 4000000 in
theorem thrX5_settle_2 (l : Launch) (D : va_G) (ac : Nat → ClassId) (hst : l.stackTraces = false) (sa : Nat) (x0 : Nat) (n0 : Nat) (y0 : Nat) (ch : Nat) (sp0 : Nat) (n1 : Nat) (n4 : Nat) (n11 : Nat) (n12 : Nat) (tp : Int32) (fl : Int32) (x1 : Int32) (h1 : 1 ≤ x1 ∧ x1 ≤ 100) (h2 : 10000 < tp + x1) : vx_Met l yX5_settle wsX5_settle ({ frames := 6, cells := 1, slots := 6, locals := 82 } : Room) (va_Pc [.ref (x0), .int (x1)] (zQW D ac [(x0, .inr (5, [.ref (n0), .ref (y0), .ref (ch), .ref (sp0)])), (n0, .inr (4, [.ref (n1), .ref (n4), .ref (n11), .ref (n12), .int (tp), .int (fl)]))] RX5 126 "no more steps are left" sa "java/lang/IllegalStateException")) zF (zT "java/lang/IllegalStateException") 1 6 (fun _ => False) := by
  refine z_th (cc := cX5_settle) (maxL := 4) (ret := (some .int)) (lv := [(0, .ref (x0)), (1, .int (x1))]) (by decide) rfl (Nat.le_of_ble_eq_true rfl) rfl ?_
  intro p e s m args below meth c ls hx hb hml hown hts hlocks hnx hl hK hP hq hR hcs
  refine lv_iload_n hx hb dX5_settle_0 rfl (lv_at hl 1 rfl) ?_
  refine lv_iconst (v := 1) hx hb dX5_settle_1 (by decide) ?_
  refine lv_bipush (v := 100) hx hb dX5_settle_2 (by decide) ?_
  refine z_cv (z_srun (rest := []) (own := RX5) (As := [.int (x1), .int (1), .int (100)]) hx hb hml hown hts hl.1 hK hP [] rfl (metX5_needRange_0 l D ac x1 1 100 (h1)) gX5_settle_X5_needRange rfl 3 (by decide +kernel) ⟨rfl, rfl, Nat.le_of_ble_eq_true rfl, Nat.le_of_ble_eq_true rfl⟩ rfl rfl (Nat.le_of_ble_eq_true rfl) dX5_settle_4 ⟨Nat.zero_le _, Nat.zero_le _⟩) ?_
  refine lv_aload_n hx hb dX5_settle_7 rfl (lv_at hl 0 rfl) ?_
  refine va_get (ci := 5) (v := .ref (n0)) (C := RX5) (T := TX5) (N := 4) hx hb hts (by decide +kernel) hown hK hP 0 rfl rfl 0 (by decide) (hts (.fieldLink RX5 12 "SettlingJars" "now" "LSettlingJars$State;") (by decide +kernel)) (fun _ h9 => h9) rfl dX5_settle_8 ?_
  refine va_get (ci := 4) (v := .int (tp)) (C := RX4) (T := TX4) (N := 6) hx hb hts (by decide +kernel) hown hK hP 1 rfl rfl 4 (by decide) (hts (.fieldLink RX5 120 "SettlingJars$State" "steps" "I") (by decide +kernel)) (fun _ h9 => h9) rfl dX5_settle_11 ?_
  refine lv_iload_n hx hb dX5_settle_14 rfl (lv_at hl 1 rfl) ?_
  refine lv_iadd hx hb dX5_settle_15 ?_
  refine lv_sipush (v := 10000) hx hb dX5_settle_16 (by decide) ?_
  refine lv_icmp_le (tgt := 32) hx hb dX5_settle_19 (by decide) (fun c_19 => absurd c_19 (Int32.not_le.mpr h2)) (fun c_19 => ?_)
  exact vx_throwS (own := RX5) (cls := "java/lang/IllegalStateException") (text := "no more steps are left") (names := ["java/lang/RuntimeException", "java/lang/Exception"]) (ik := 124) (is := 126) (ic := 128) (A := fun _ => False) hx hb hst hown (by decide +kernel) (by decide +kernel) (hts (.classLink RX5 124 "java/lang/IllegalStateException") (by decide +kernel)) (hts (.initialized "java/lang/IllegalStateException") (by decide +kernel)) hR (z_at (by decide +kernel) (by decide +kernel) hts hcs) (by decide +kernel) hq.1 hq.2 va_S.rf (hl.1.trans hml.symm) dX5_settle_22 dX5_settle_25 dX5_settle_26 dX5_settle_28 dX5_settle_31 (fun x h => (hnx x h).elim) (by decide) (by decide) (Nat.le_refl _) (Nat.le_refl _) hlocks (fun t _ h1 h2 => ⟨(), trivial, rfl, h1, fun q a _ => h2 q a⟩) (fun z h => absurd h List.not_mem_nil) (Nat.le_refl _) (Nat.le_refl _)

set_option maxRecDepth 100000 in
set_option maxHeartbeats 4000000 in
theorem thrX5_append_2 (l : Launch) (D : va_G) (ac : Nat → ClassId) (hst : l.stackTraces = false) (sa : Nat) (x0 : Nat) (n0 : Nat) (y0 : Nat) (ch : Nat) (sp0 : Nat) (cs : Nat) (tx : Nat → Int32) (ln : Nat) (x1 : Int32) (h1 : 33 ≤ x1 ∧ x1 ≤ 126) (hln : ln = 60) : vx_Met l yX5_append wsX5_append ({ frames := 6, cells := 1, slots := 6, locals := 82 } : Room) (va_Pc [.ref (x0), .int (x1)] (zQW D ac [(x0, .inr (5, [.ref (n0), .ref (y0), .ref (ch), .ref (sp0)])), (ch, .inr (0, [.ref (cs), .int (nI (ln))])), (cs, .inl (ac 1, 60, .inl (tx)))] RX5 140 "the buffer is full" sa "java/lang/IllegalStateException")) zF (zT "java/lang/IllegalStateException") 1 6 (fun _ => False) := by
  refine z_th (cc := cX5_append) (maxL := 2) (ret := (some .int)) (lv := [(0, .ref (x0)), (1, .int (x1))]) (by decide) rfl (Nat.le_of_ble_eq_true rfl) rfl ?_
  intro p e s m args below meth c ls hx hb hml hown hts hlocks hnx hl hK hP hq hR hcs
  refine lv_iload_n hx hb dX5_append_0 rfl (lv_at hl 1 rfl) ?_
  refine lv_bipush (v := 33) hx hb dX5_append_1 (by decide) ?_
  refine lv_bipush (v := 126) hx hb dX5_append_3 (by decide) ?_
  refine z_cv (z_srun (rest := []) (own := RX5) (As := [.int (x1), .int (33), .int (126)]) hx hb hml hown hts hl.1 hK hP [] rfl (metX5_needRange_0 l D ac x1 33 126 (h1)) gX5_append_X5_needRange rfl 3 (by decide +kernel) ⟨rfl, rfl, Nat.le_of_ble_eq_true rfl, Nat.le_of_ble_eq_true rfl⟩ rfl rfl (Nat.le_of_ble_eq_true rfl) dX5_append_5 ⟨Nat.zero_le _, Nat.zero_le _⟩) ?_
  refine lv_aload_n hx hb dX5_append_8 rfl (lv_at hl 0 rfl) ?_
  refine va_get (ci := 5) (v := .ref (ch)) (C := RX5) (T := TX5) (N := 4) hx hb hts (by decide +kernel) hown hK hP 0 rfl rfl 2 (by decide) (hts (.fieldLink RX5 26 "SettlingJars" "charge" "LSettlingJars$Charge;") (by decide +kernel)) (fun _ h9 => h9) rfl dX5_append_9 ?_
  refine z_ci (z_vrun (rest := []) (own := RX5) (As := []) hx hb hml hown hts hl.1 hK hP [1, 2] rfl (metX0_isFull l D ac ch cs tx ln (by omega)) gX5_append_X0_isFull rfl 0 (by decide +kernel) ⟨rfl, rfl, Nat.le_of_ble_eq_true rfl, Nat.le_of_ble_eq_true rfl⟩ 1 0 rfl rfl rfl rfl rfl (Nat.le_of_ble_eq_true rfl) dX5_append_12 ⟨Nat.zero_le _, Nat.zero_le _⟩) ?_
  refine z_if_eq (C := 60 ≤ ln) (tgt := 28) hx hb dX5_append_15 (by decide) (fun c_15 => absurd c_15 (by omega)) (fun c_15 => ?_)
  exact vx_throwS (own := RX5) (cls := "java/lang/IllegalStateException") (text := "the buffer is full") (names := ["java/lang/RuntimeException", "java/lang/Exception"]) (ik := 124) (is := 140) (ic := 128) (A := fun _ => False) hx hb hst hown (by decide +kernel) (by decide +kernel) (hts (.classLink RX5 124 "java/lang/IllegalStateException") (by decide +kernel)) (hts (.initialized "java/lang/IllegalStateException") (by decide +kernel)) hR (z_at (by decide +kernel) (by decide +kernel) hts hcs) (by decide +kernel) hq.1 hq.2 va_S.rf (hl.1.trans hml.symm) dX5_append_18 dX5_append_21 dX5_append_22 dX5_append_24 dX5_append_27 (fun x h => (hnx x h).elim) (by decide) (by decide) (Nat.le_refl _) (Nat.le_refl _) hlocks (fun t _ h1 h2 => ⟨(), trivial, rfl, h1, fun q a _ => h2 q a⟩) (fun z h => absurd h List.not_mem_nil) (Nat.le_refl _) (Nat.le_refl _)

set_option maxRecDepth 100000 in
set_option maxHeartbeats 4000000 in
theorem thrX5_load_1 (l : Launch) (D : va_G) (ac : Nat → ClassId) (hst : l.stackTraces = false) (sa : Nat) (x0 : Nat) (x1 : Int32) (h1 : ¬ (0 ≤ x1 ∧ x1 ≤ 2)) : vx_Met l yX5_load wsX5_load ({ frames := 7, cells := 1, slots := 6, locals := 103 } : Room) (va_Pc [.ref (x0), .int (x1)] (zQW D ac [] RX5 255 "there is no such jar, slice, class or setting" sa "java/lang/IndexOutOfBoundsException")) zF (zT "java/lang/IndexOutOfBoundsException") 1 6 (fun _ => False) := by
  refine z_th (cc := cX5_load) (maxL := 4) (ret := (some .int)) (lv := [(0, .ref (x0)), (1, .int (x1))]) (by decide) rfl (Nat.le_of_ble_eq_true rfl) rfl ?_
  intro p e s m args below meth c ls hx hb hml hown hts hlocks hnx hl hK hP hq hR hcs
  refine lv_iload_n hx hb dX5_load_0 rfl (lv_at hl 1 rfl) ?_
  refine lv_iconst (v := 3) hx hb dX5_load_1 (by decide) ?_
  exact z_tS (rest := []) (own := RX5) (As := [.int (x1), .int (3)]) hx hb hml hown hts hl.1 hlocks hnx hK hP hq hR hcs [] rfl (thrX5_needIndex_t l D ac hst sa x1 3 (fun q => h1 ⟨q.1, z_ltle (n := 2) (by omega) q.2⟩)) gX5_load_X5_needIndex rfl 2 (by decide +kernel) ⟨rfl, rfl, Nat.le_of_ble_eq_true rfl, Nat.le_of_ble_eq_true rfl⟩ rfl rfl (Nat.le_of_ble_eq_true rfl) dX5_load_2 ⟨Nat.le_refl _, Nat.le_refl _⟩

set_option maxRecDepth 100000 in
set_option maxHeartbeats 4000000 in
theorem thrX5_load_2 (l : Launch) (D : va_G) (ac : Nat → ClassId) (hst : l.stackTraces = false) (sa : Nat) (x0 : Nat) (n0 : Nat) (y0 : Nat) (ch : Nat) (sp0 : Nat) (cs : Nat) (tx : Nat → Int32) (ln : Nat) (j1 : Nat) (hj : j1 < 3) (hln : ln ≤ 60) (h2 : ¬ (qPls tx ln = some 4 ∨ qPls tx ln = some 6 ∨ qPls tx ln = some 7)) : vx_Met l yX5_load wsX5_load ({ frames := 6, cells := 1, slots := 6, locals := 82 } : Room) (va_Pc [.ref (x0), .int (nI (j1))] (zQW D ac [(x0, .inr (5, [.ref (n0), .ref (y0), .ref (ch), .ref (sp0)])), (ch, .inr (0, [.ref (cs), .int (nI (ln))])), (cs, .inl (ac 1, 60, .inl (tx)))] RX5 159 "the buffer is not a complete charge" sa "java/lang/IllegalArgumentException")) zF (zT "java/lang/IllegalArgumentException") 1 6 (fun _ => False) := by
  refine z_th (cc := cX5_load) (maxL := 4) (ret := (some .int)) (lv := [(0, .ref (x0)), (1, .int (nI (j1)))]) (by decide) rfl (Nat.le_of_ble_eq_true rfl) rfl ?_
  intro p e s m args below meth c ls hx hb hml hown hts hlocks hnx hl hK hP hq hR hcs
  refine lv_iload_n hx hb dX5_load_0 rfl (lv_at hl 1 rfl) ?_
  refine lv_iconst (v := 3) hx hb dX5_load_1 (by decide) ?_
  refine z_cv (z_srun (rest := []) (own := RX5) (As := [.int (nI (j1)), .int (3)]) hx hb hml hown hts hl.1 hK hP [] rfl (metX5_needIndex_0 l D ac j1 3 (by omega) (by omega)) gX5_load_X5_needIndex rfl 2 (by decide +kernel) ⟨rfl, rfl, Nat.le_of_ble_eq_true rfl, Nat.le_of_ble_eq_true rfl⟩ rfl rfl (Nat.le_of_ble_eq_true rfl) dX5_load_2 ⟨Nat.zero_le _, Nat.zero_le _⟩) ?_
  refine lv_aload_n hx hb dX5_load_5 rfl (lv_at hl 0 rfl) ?_
  refine va_get (ci := 5) (v := .ref (ch)) (C := RX5) (T := TX5) (N := 4) hx hb hts (by decide +kernel) hown hK hP 0 rfl rfl 2 (by decide) (hts (.fieldLink RX5 26 "SettlingJars" "charge" "LSettlingJars$Charge;") (by decide +kernel)) (fun _ h9 => h9) rfl dX5_load_6 ?_
  refine z_ci (z_vrun (rest := []) (own := RX5) (As := []) hx hb hml hown hts hl.1 hK hP [1, 2] rfl (metX0_isComplete l D ac ch cs tx ln (by omega)) gX5_load_X0_isComplete rfl 0 (by decide +kernel) ⟨rfl, rfl, Nat.le_of_ble_eq_true rfl, Nat.le_of_ble_eq_true rfl⟩ 1 0 rfl rfl rfl rfl rfl (Nat.le_of_ble_eq_true rfl) dX5_load_9 ⟨Nat.zero_le _, Nat.zero_le _⟩) ?_
  refine z_if_ne (C := qPls tx ln = some 4 ∨ qPls tx ln = some 6 ∨ qPls tx ln = some 7) (tgt := 25) hx hb dX5_load_12 (by decide) (fun c_12 => absurd c_12 (h2)) (fun c_12 => ?_)
  exact vx_throwS (own := RX5) (cls := "java/lang/IllegalArgumentException") (text := "the buffer is not a complete charge") (names := ["java/lang/RuntimeException", "java/lang/Exception"]) (ik := 100) (is := 159) (ic := 104) (A := fun _ => False) hx hb hst hown (by decide +kernel) (by decide +kernel) (hts (.classLink RX5 100 "java/lang/IllegalArgumentException") (by decide +kernel)) (hts (.initialized "java/lang/IllegalArgumentException") (by decide +kernel)) hR (z_at (by decide +kernel) (by decide +kernel) hts hcs) (by decide +kernel) hq.1 hq.2 va_S.rf (hl.1.trans hml.symm) dX5_load_15 dX5_load_18 dX5_load_19 dX5_load_21 dX5_load_24 (fun x h => (hnx x h).elim) (by decide) (by decide) (Nat.le_refl _) (Nat.le_refl _) hlocks (fun t _ h1 h2 => ⟨(), trivial, rfl, h1, fun q a _ => h2 q a⟩) (fun z h => absurd h List.not_mem_nil) (Nat.le_refl _) (Nat.le_refl _)

set_option maxRecDepth 100000 in
set_option maxHeartbeats 4000000 in
theorem thrX5_undo_1 (l : Launch) (D : va_G) (ac : Nat → ClassId) (hst : l.stackTraces = false) (sa : Nat) (x0 : Nat) (n0 : Nat) (y0 : Nat) (ch : Nat) (sp0 : Nat) (y1 : Nat) (hf : Nat → Option Nat) (od : Nat) (sz1 : Nat) (hsz : sz1 = 0) : vx_Met l yX5_undo wsX5_undo ({ frames := 6, cells := 1, slots := 6, locals := 82 } : Room) (va_Pc [.ref (x0)] (zQW D ac [(x0, .inr (5, [.ref (n0), .ref (y0), .ref (ch), .ref (sp0)])), (y0, .inr (1, [.ref (y1), .int (nI (od)), .int (nI (sz1))])), (y1, .inl (ac 3, 6, .inr (.inr (.inr (.inr (hf))))))] RX5 175 "there is no saved state" sa "java/lang/IllegalStateException")) zF (zT "java/lang/IllegalStateException") 1 6 (fun _ => False) := by
  refine z_th (cc := cX5_undo) (maxL := 1) (ret := (some .int)) (lv := [(0, .ref (x0))]) (by decide) rfl (Nat.le_of_ble_eq_true rfl) rfl ?_
  intro p e s m args below meth c ls hx hb hml hown hts hlocks hnx hl hK hP hq hR hcs
  refine lv_aload_n hx hb dX5_undo_0 rfl (lv_at hl 0 rfl) ?_
  refine va_get (ci := 5) (v := .ref (y0)) (C := RX5) (T := TX5) (N := 4) hx hb hts (by decide +kernel) hown hK hP 0 rfl rfl 1 (by decide) (hts (.fieldLink RX5 19 "SettlingJars" "history" "LSettlingJars$History;") (by decide +kernel)) (fun _ h9 => h9) rfl dX5_undo_1 ?_
  refine z_ci (z_vrun (rest := []) (own := RX5) (As := []) hx hb hml hown hts hl.1 hK hP [1, 2] rfl (metX1_size l D ac y0 y1 hf od sz1 ) gX5_undo_X1_size rfl 0 (by decide +kernel) ⟨rfl, rfl, Nat.le_of_ble_eq_true rfl, Nat.le_of_ble_eq_true rfl⟩ 1 1 rfl rfl rfl rfl rfl (Nat.le_of_ble_eq_true rfl) dX5_undo_4 ⟨Nat.zero_le _, Nat.zero_le _⟩) ?_
  refine lv_if_ne (tgt := 20) hx hb dX5_undo_7 (by decide) (fun c_7 => absurd c_7 (fun q => q (by rw [hsz]; rfl))) (fun c_7 => ?_)
  exact vx_throwS (own := RX5) (cls := "java/lang/IllegalStateException") (text := "there is no saved state") (names := ["java/lang/RuntimeException", "java/lang/Exception"]) (ik := 124) (is := 175) (ic := 128) (A := fun _ => False) hx hb hst hown (by decide +kernel) (by decide +kernel) (hts (.classLink RX5 124 "java/lang/IllegalStateException") (by decide +kernel)) (hts (.initialized "java/lang/IllegalStateException") (by decide +kernel)) hR (z_at (by decide +kernel) (by decide +kernel) hts hcs) (by decide +kernel) hq.1 hq.2 va_S.rf (hl.1.trans hml.symm) dX5_undo_10 dX5_undo_13 dX5_undo_14 dX5_undo_16 dX5_undo_19 (fun x h => (hnx x h).elim) (by decide) (by decide) (Nat.le_refl _) (Nat.le_refl _) hlocks (fun t _ h1 h2 => ⟨(), trivial, rfl, h1, fun q a _ => h2 q a⟩) (fun z h => absurd h List.not_mem_nil) (Nat.le_refl _) (Nat.le_refl _)

set_option maxRecDepth 100000 in
set_option maxHeartbeats 4000000 in
theorem thrX5_ifSettled_2 (l : Launch) (D : va_G) (ac : Nat → ClassId) (hst : l.stackTraces = false) (sa : Nat) (x0 : Nat) (j1 : Nat) (x2 : Int32) (x3 : Int32) (hj : j1 < 3) (h2 : ¬ ((1 ≤ x2 ∧ x2 ≤ 100) ∧ (0 ≤ x3 ∧ x3 ≤ 8))) : vx_Met l yX5_ifSettled wsX5_ifSettled ({ frames := 7, cells := 1, slots := 6, locals := 104 } : Room) (va_Pc [.ref (x0), .int (nI (j1)), .int (x2), .int (x3)] (zQW D ac [] RX5 258 "an argument is out of range" sa "java/lang/IllegalArgumentException")) zF (zT "java/lang/IllegalArgumentException") 1 6 (fun _ => False) := by
  refine z_th (cc := cX5_ifSettled) (maxL := 4) (ret := (some .int)) (lv := [(0, .ref (x0)), (1, .int (nI (j1))), (2, .int (x2)), (3, .int (x3))]) (by decide) rfl (Nat.le_of_ble_eq_true rfl) rfl ?_
  intro p e s m args below meth c ls hx hb hml hown hts hlocks hnx hl hK hP hq hR hcs
  by_cases hA : 1 ≤ x2 ∧ x2 ≤ 100
  · refine lv_iload_n hx hb dX5_ifSettled_0 rfl (lv_at hl 1 rfl) ?_
    refine lv_iconst (v := 3) hx hb dX5_ifSettled_1 (by decide) ?_
    refine z_cv (z_srun (rest := []) (own := RX5) (As := [.int (nI (j1)), .int (3)]) hx hb hml hown hts hl.1 hK hP [] rfl (metX5_needIndex_0 l D ac j1 3 (by omega) (by omega)) gX5_ifSettled_X5_needIndex rfl 2 (by decide +kernel) ⟨rfl, rfl, Nat.le_of_ble_eq_true rfl, Nat.le_of_ble_eq_true rfl⟩ rfl rfl (Nat.le_of_ble_eq_true rfl) dX5_ifSettled_2 ⟨Nat.zero_le _, Nat.zero_le _⟩) ?_
    refine lv_iload_n hx hb dX5_ifSettled_5 rfl (lv_at hl 2 rfl) ?_
    refine lv_iconst (v := 1) hx hb dX5_ifSettled_6 (by decide) ?_
    refine lv_bipush (v := 100) hx hb dX5_ifSettled_7 (by decide) ?_
    refine z_cv (z_srun (rest := []) (own := RX5) (As := [.int (x2), .int (1), .int (100)]) hx hb hml hown hts hl.1 hK hP [] rfl (metX5_needRange_0 l D ac x2 1 100 (hA)) gX5_ifSettled_X5_needRange rfl 3 (by decide +kernel) ⟨rfl, rfl, Nat.le_of_ble_eq_true rfl, Nat.le_of_ble_eq_true rfl⟩ rfl rfl (Nat.le_of_ble_eq_true rfl) dX5_ifSettled_9 ⟨Nat.zero_le _, Nat.zero_le _⟩) ?_
    refine lv_iload_n hx hb dX5_ifSettled_12 rfl (lv_at hl 3 rfl) ?_
    refine lv_iconst (v := 0) hx hb dX5_ifSettled_13 (by decide) ?_
    refine lv_bipush (v := 8) hx hb dX5_ifSettled_14 (by decide) ?_
    exact z_tS (rest := []) (own := RX5) (As := [.int (x3), .int (0), .int (8)]) hx hb hml hown hts hl.1 hlocks hnx hK hP hq hR hcs [] rfl (thrX5_needRange_t l D ac hst sa x3 0 8 (fun q => h2 ⟨hA, q⟩)) gX5_ifSettled_X5_needRange rfl 3 (by decide +kernel) ⟨rfl, rfl, Nat.le_of_ble_eq_true rfl, Nat.le_of_ble_eq_true rfl⟩ rfl rfl (Nat.le_of_ble_eq_true rfl) dX5_ifSettled_16 ⟨Nat.le_refl _, Nat.le_refl _⟩
  · refine lv_iload_n hx hb dX5_ifSettled_0 rfl (lv_at hl 1 rfl) ?_
    refine lv_iconst (v := 3) hx hb dX5_ifSettled_1 (by decide) ?_
    refine z_cv (z_srun (rest := []) (own := RX5) (As := [.int (nI (j1)), .int (3)]) hx hb hml hown hts hl.1 hK hP [] rfl (metX5_needIndex_0 l D ac j1 3 (by omega) (by omega)) gX5_ifSettled_X5_needIndex rfl 2 (by decide +kernel) ⟨rfl, rfl, Nat.le_of_ble_eq_true rfl, Nat.le_of_ble_eq_true rfl⟩ rfl rfl (Nat.le_of_ble_eq_true rfl) dX5_ifSettled_2 ⟨Nat.zero_le _, Nat.zero_le _⟩) ?_
    refine lv_iload_n hx hb dX5_ifSettled_5 rfl (lv_at hl 2 rfl) ?_
    refine lv_iconst (v := 1) hx hb dX5_ifSettled_6 (by decide) ?_
    refine lv_bipush (v := 100) hx hb dX5_ifSettled_7 (by decide) ?_
    exact z_tS (rest := []) (own := RX5) (As := [.int (x2), .int (1), .int (100)]) hx hb hml hown hts hl.1 hlocks hnx hK hP hq hR hcs [] rfl (thrX5_needRange_t l D ac hst sa x2 1 100 (hA)) gX5_ifSettled_X5_needRange rfl 3 (by decide +kernel) ⟨rfl, rfl, Nat.le_of_ble_eq_true rfl, Nat.le_of_ble_eq_true rfl⟩ rfl rfl (Nat.le_of_ble_eq_true rfl) dX5_ifSettled_9 ⟨Nat.le_refl _, Nat.le_refl _⟩

