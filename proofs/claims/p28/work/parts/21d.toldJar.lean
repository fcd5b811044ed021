set_option maxRecDepth 100000 in
set_option maxHeartbeats 4000000 in
theorem metL_toldJar (l : Launch) (D : va_G) (ac : Nat → ClassId) (sz : Nat) (z : Nat → Int32) (j1 : Nat) (x0 : Nat) (n0 : Nat) (y0 : Nat) (ch : Nat) (sp0 : Nat) (n1 : Nat) (n2 : Nat) (n3 : Nat) (n4 : Nat) (n11 : Nat) (n12 : Nat) (tp : Int32) (fl : Int32) (jf : Nat → Option Nat) (h0 : Nat) (g0 : Nat) (rj : Nat) (qe : Nat) (x1 : Nat) (hj : j1 < 3) (hG : mGood z) (hjf : jf j1 = some h0) (hx1 : x1 < 2147483648) : Met l yL_toldJar wsL_toldJar ({ frames := 6, cells := 1, slots := 48, locals := 137 } : Room) (va_Pc [.ref (x0), .int (nI (j1)), .int (nI (x1)), .ref (rj), .ref (qe)] (zS D ac [(x0, .inr (5, [.ref (n0), .ref (y0), .ref (ch), .ref (sp0)])), (n0, .inr (4, [.ref (n1), .ref (n4), .ref (n11), .ref (n12), .int (tp), .int (fl)])), (n1, .inr (3, [.ref (n2), .ref (n3)])), (n2, .inl (ac 0, 4, .inl (cV z))), (n3, .inl (ac 0, 4, .inl (cW z))), (n4, .inl (ac 2, 3, .inr (.inr (.inr (.inr (jf)))))), (h0, .inr (2, [.ref (g0)])), (g0, .inl (ac 0, 48, .inl (qV z j1))), (rj, .inl (ac 0, 48, .inl (qV z j1))), (qe, .inl (ac 0, 16, .inl (cV z)))] sz)) (zQi D ac [(x0, .inr (5, [.ref (n0), .ref (y0), .ref (ch), .ref (sp0)])), (n0, .inr (4, [.ref (n1), .ref (n4), .ref (n11), .ref (n12), .int (tp), .int (fl)])), (n1, .inr (3, [.ref (n2), .ref (n3)])), (n2, .inl (ac 0, 4, .inl (cV z))), (n3, .inl (ac 0, 4, .inl (cW z))), (n4, .inl (ac 2, 3, .inr (.inr (.inr (.inr (jf)))))), (h0, .inr (2, [.ref (g0)])), (g0, .inl (ac 0, 48, .inl (qV z j1))), (rj, .inl (ac 0, 48, .inl (qV z j1))), (qe, .inl (ac 0, 16, .inl (cV z)))] [(x0, .inr (5, [.ref (n0), .ref (y0), .ref (ch), .ref (sp0)])), (n0, .inr (4, [.ref (n1), .ref (n4), .ref (n11), .ref (n12), .int (tp), .int (fl)])), (n1, .inr (3, [.ref (n2), .ref (n3)])), (n2, .inl (ac 0, 4, .inl (cV z))), (n3, .inl (ac 0, 4, .inl (cW z))), (n4, .inl (ac 2, 3, .inr (.inr (.inr (.inr (jf)))))), (h0, .inr (2, [.ref (g0)])), (g0, .inl (ac 0, 48, .inl (qV z j1))), (rj, .inl (ac 0, 48, .inl (qV z j1))), (qe, .inl (ac 0, 16, .inl (cV z)))] sz (1)) 1 48 (va_A [(x0, .inr (5, [.ref (n0), .ref (y0), .ref (ch), .ref (sp0)])), (n0, .inr (4, [.ref (n1), .ref (n4), .ref (n11), .ref (n12), .int (tp), .int (fl)])), (n1, .inr (3, [.ref (n2), .ref (n3)])), (n2, .inl (ac 0, 4, .inl (cV z))), (n3, .inl (ac 0, 4, .inl (cW z))), (n4, .inl (ac 2, 3, .inr (.inr (.inr (.inr (jf)))))), (h0, .inr (2, [.ref (g0)])), (g0, .inl (ac 0, 48, .inl (qV z j1))), (rj, .inl (ac 0, 48, .inl (qV z j1))), (qe, .inl (ac 0, 16, .inl (cV z)))] sz) := by
  refine z_rw (cc := cL_toldJar) (maxL := 12) (ret := (some .boolean)) (lv := [(0, .ref (x0)), (1, .int (nI (j1))), (2, .int (nI (x1))), (3, .ref (rj)), (4, .ref (qe))]) (by decide) rfl (Nat.le_of_ble_eq_true rfl) rfl ?_
  intro p e s m args below meth c ls A hx hb hr hml hown hts hlocks hl hK hP hsz hAe hA hD hS
  refine lv_bipush (v := 48) hx hb dL_toldJar_0 (by decide) ?_
  refine z_newI hx hb (hts (.arrayClass .int) (by decide +kernel)) hK hP hD hS hA (N := 48) rfl (by decide) (Nat.le_of_ble_eq_true rfl) (Nat.le_of_ble_eq_true rfl) dL_toldJar_2 (fun rt H hP hD hS => ?_)
  have hP : va_P D vwCl [(x0, .inr (5, [.ref (n0), .ref (y0), .ref (ch), .ref (sp0)])), (n0, .inr (4, [.ref (n1), .ref (n4), .ref (n11), .ref (n12), .int (tp), .int (fl)])), (n1, .inr (3, [.ref (n2), .ref (n3)])), (n2, .inl (ac 0, 4, .inl (cV z))), (n3, .inl (ac 0, 4, .inl (cW z))), (n4, .inl (ac 2, 3, .inr (.inr (.inr (.inr (jf)))))), (h0, .inr (2, [.ref (g0)])), (g0, .inl (ac 0, 48, .inl (qV z j1))), (rj, .inl (ac 0, 48, .inl (qV z j1))), (qe, .inl (ac 0, 16, .inl (cV z))), (rt, .inl (ac 0, 48, .inl (fun _ => 0)))] H := hP
  have hD : va_D A [(x0, .inr (5, [.ref (n0), .ref (y0), .ref (ch), .ref (sp0)])), (n0, .inr (4, [.ref (n1), .ref (n4), .ref (n11), .ref (n12), .int (tp), .int (fl)])), (n1, .inr (3, [.ref (n2), .ref (n3)])), (n2, .inl (ac 0, 4, .inl (cV z))), (n3, .inl (ac 0, 4, .inl (cW z))), (n4, .inl (ac 2, 3, .inr (.inr (.inr (.inr (jf)))))), (h0, .inr (2, [.ref (g0)])), (g0, .inl (ac 0, 48, .inl (qV z j1))), (rj, .inl (ac 0, 48, .inl (qV z j1))), (qe, .inl (ac 0, 16, .inl (cV z))), (rt, .inl (ac 0, 48, .inl (fun _ => 0)))] := hD
  refine lv_astore (lv' := [(5, .ref (rt)), (0, .ref (x0)), (1, .int (nI (j1))), (2, .int (nI (x1))), (3, .ref (rj)), (4, .ref (qe))]) hx hb dL_toldJar_4 hl (by decide) rfl (fun ls hl => ?_)
  refine lv_lconst (v := 0) hx hb dL_toldJar_6 (by decide) ?_
  refine lv_lstore (lv' := [(6, .long (0)), (5, .ref (rt)), (0, .ref (x0)), (1, .int (nI (j1))), (2, .int (nI (x1))), (3, .ref (rj)), (4, .ref (qe))]) hx hb dL_toldJar_7 hl (by decide) rfl (fun ls hl => ?_)
  refine lv_iconst (v := 0) hx hb dL_toldJar_9 (by decide) ?_
  refine lv_istore (lv' := [(8, .int (0)), (6, .long (0)), (5, .ref (rt)), (0, .ref (x0)), (1, .int (nI (j1))), (2, .int (nI (x1))), (3, .ref (rj)), (4, .ref (qe))]) hx hb dL_toldJar_10 hl (by decide) rfl (fun ls hl => ?_)
  have hL_12 : ∀ (n : Nat) (i : Nat), (i + n = 12) → ∀ (H : Heap) (locs : List Loc), va_P D vwCl [(x0, .inr (5, [.ref (n0), .ref (y0), .ref (ch), .ref (sp0)])), (n0, .inr (4, [.ref (n1), .ref (n4), .ref (n11), .ref (n12), .int (tp), .int (fl)])), (n1, .inr (3, [.ref (n2), .ref (n3)])), (n2, .inl (ac 0, 4, .inl (cV z))), (n3, .inl (ac 0, 4, .inl (cW z))), (n4, .inl (ac 2, 3, .inr (.inr (.inr (.inr (jf)))))), (h0, .inr (2, [.ref (g0)])), (g0, .inl (ac 0, 48, .inl (qV z j1))), (rj, .inl (ac 0, 48, .inl (qV z j1))), (qe, .inl (ac 0, 16, .inl (cV z))), (rt, .inl (ac 0, 48, .inl (fun _ => 0)))] H → va_D A [(x0, .inr (5, [.ref (n0), .ref (y0), .ref (ch), .ref (sp0)])), (n0, .inr (4, [.ref (n1), .ref (n4), .ref (n11), .ref (n12), .int (tp), .int (fl)])), (n1, .inr (3, [.ref (n2), .ref (n3)])), (n2, .inl (ac 0, 4, .inl (cV z))), (n3, .inl (ac 0, 4, .inl (cW z))), (n4, .inl (ac 2, 3, .inr (.inr (.inr (.inr (jf)))))), (h0, .inr (2, [.ref (g0)])), (g0, .inl (ac 0, 48, .inl (qV z j1))), (rj, .inl (ac 0, 48, .inl (qV z j1))), (qe, .inl (ac 0, 16, .inl (cV z))), (rt, .inl (ac 0, 48, .inl (fun _ => 0)))] → va_S A s.heap H locs → ∀ (ls : Array Slot), lv_has ls 12 [(8, .int (nI (i))), (6, .long (lDp (qV z j1) i)), (5, .ref (rt)), (0, .ref (x0)), (1, .int (nI (j1))), (2, .int (nI (x1))), (3, .ref (rj)), (4, .ref (qe))] → W p l e ({ frames := 6, cells := 1, slots := 48, locals := 137 } : Room) s m args below meth c H locs 1 48 (MQ below (zQi D ac [(x0, .inr (5, [.ref (n0), .ref (y0), .ref (ch), .ref (sp0)])), (n0, .inr (4, [.ref (n1), .ref (n4), .ref (n11), .ref (n12), .int (tp), .int (fl)])), (n1, .inr (3, [.ref (n2), .ref (n3)])), (n2, .inl (ac 0, 4, .inl (cV z))), (n3, .inl (ac 0, 4, .inl (cW z))), (n4, .inl (ac 2, 3, .inr (.inr (.inr (.inr (jf)))))), (h0, .inr (2, [.ref (g0)])), (g0, .inl (ac 0, 48, .inl (qV z j1))), (rj, .inl (ac 0, 48, .inl (qV z j1))), (qe, .inl (ac 0, 16, .inl (cV z)))] [(x0, .inr (5, [.ref (n0), .ref (y0), .ref (ch), .ref (sp0)])), (n0, .inr (4, [.ref (n1), .ref (n4), .ref (n11), .ref (n12), .int (tp), .int (fl)])), (n1, .inr (3, [.ref (n2), .ref (n3)])), (n2, .inl (ac 0, 4, .inl (cV z))), (n3, .inl (ac 0, 4, .inl (cW z))), (n4, .inl (ac 2, 3, .inr (.inr (.inr (.inr (jf)))))), (h0, .inr (2, [.ref (g0)])), (g0, .inl (ac 0, 48, .inl (qV z j1))), (rj, .inl (ac 0, 48, .inl (qV z j1))), (qe, .inl (ac 0, 16, .inl (cV z)))] sz (1)) args s 1 48 A) (F0 m 12 ls []) := by
    intro n
    induction n with
    | zero =>
      intro i hi H locs hP hD hS ls hl
      have e_i : 12 = i := by omega
      subst e_i
      refine lv_iload hx hb dL_toldJar_12 (lv_at hl 0 rfl) ?_
      refine lv_bipush (v := 12) hx hb dL_toldJar_14 (by decide) ?_
      refine z_icmp_ge (tgt := 237) hx hb (12) (12) dL_toldJar_16 (by decide) (by omega) (by omega) rfl rfl (fun c_16 => ?_) (fun c_16 => absurd c_16 (by omega))
      refine lv_iconst (v := 0) hx hb dL_toldJar_237 (by decide) ?_
      refine lv_istore (lv' := [(8, .int (0)), (6, .long (lDp (qV z j1) 12)), (5, .ref (rt)), (0, .ref (x0)), (1, .int (nI (j1))), (2, .int (nI (x1))), (3, .ref (rj)), (4, .ref (qe))]) hx hb dL_toldJar_238 hl (by decide) rfl (fun ls hl => ?_)
      have hL_240 : ∀ (n : Nat) (i : Nat), (i + n = 9) → ∀ (H : Heap) (locs : List Loc), va_P D vwCl [(x0, .inr (5, [.ref (n0), .ref (y0), .ref (ch), .ref (sp0)])), (n0, .inr (4, [.ref (n1), .ref (n4), .ref (n11), .ref (n12), .int (tp), .int (fl)])), (n1, .inr (3, [.ref (n2), .ref (n3)])), (n2, .inl (ac 0, 4, .inl (cV z))), (n3, .inl (ac 0, 4, .inl (cW z))), (n4, .inl (ac 2, 3, .inr (.inr (.inr (.inr (jf)))))), (h0, .inr (2, [.ref (g0)])), (g0, .inl (ac 0, 48, .inl (qV z j1))), (rj, .inl (ac 0, 48, .inl (qV z j1))), (qe, .inl (ac 0, 16, .inl (cV z))), (rt, .inl (ac 0, 48, .inl (fun _ => 0)))] H → va_D A [(x0, .inr (5, [.ref (n0), .ref (y0), .ref (ch), .ref (sp0)])), (n0, .inr (4, [.ref (n1), .ref (n4), .ref (n11), .ref (n12), .int (tp), .int (fl)])), (n1, .inr (3, [.ref (n2), .ref (n3)])), (n2, .inl (ac 0, 4, .inl (cV z))), (n3, .inl (ac 0, 4, .inl (cW z))), (n4, .inl (ac 2, 3, .inr (.inr (.inr (.inr (jf)))))), (h0, .inr (2, [.ref (g0)])), (g0, .inl (ac 0, 48, .inl (qV z j1))), (rj, .inl (ac 0, 48, .inl (qV z j1))), (qe, .inl (ac 0, 16, .inl (cV z))), (rt, .inl (ac 0, 48, .inl (fun _ => 0)))] → va_S A s.heap H locs → ∀ (ls : Array Slot), lv_has ls 12 [(8, .int (nI (i))), (6, .long (lDp (qV z j1) 12)), (5, .ref (rt)), (0, .ref (x0)), (1, .int (nI (j1))), (2, .int (nI (x1))), (3, .ref (rj)), (4, .ref (qe))] → W p l e ({ frames := 6, cells := 1, slots := 48, locals := 137 } : Room) s m args below meth c H locs 1 48 (MQ below (zQi D ac [(x0, .inr (5, [.ref (n0), .ref (y0), .ref (ch), .ref (sp0)])), (n0, .inr (4, [.ref (n1), .ref (n4), .ref (n11), .ref (n12), .int (tp), .int (fl)])), (n1, .inr (3, [.ref (n2), .ref (n3)])), (n2, .inl (ac 0, 4, .inl (cV z))), (n3, .inl (ac 0, 4, .inl (cW z))), (n4, .inl (ac 2, 3, .inr (.inr (.inr (.inr (jf)))))), (h0, .inr (2, [.ref (g0)])), (g0, .inl (ac 0, 48, .inl (qV z j1))), (rj, .inl (ac 0, 48, .inl (qV z j1))), (qe, .inl (ac 0, 16, .inl (cV z)))] [(x0, .inr (5, [.ref (n0), .ref (y0), .ref (ch), .ref (sp0)])), (n0, .inr (4, [.ref (n1), .ref (n4), .ref (n11), .ref (n12), .int (tp), .int (fl)])), (n1, .inr (3, [.ref (n2), .ref (n3)])), (n2, .inl (ac 0, 4, .inl (cV z))), (n3, .inl (ac 0, 4, .inl (cW z))), (n4, .inl (ac 2, 3, .inr (.inr (.inr (.inr (jf)))))), (h0, .inr (2, [.ref (g0)])), (g0, .inl (ac 0, 48, .inl (qV z j1))), (rj, .inl (ac 0, 48, .inl (qV z j1))), (qe, .inl (ac 0, 16, .inl (cV z)))] sz (1)) args s 1 48 A) (F0 m 240 ls []) := by
        intro n
        induction n with
        | zero =>
          intro i hi H locs hP hD hS ls hl
          have e_i : 9 = i := by omega
          subst e_i
          refine lv_iload hx hb dL_toldJar_240 (lv_at hl 0 rfl) ?_
          refine lv_bipush (v := 9) hx hb dL_toldJar_242 (by decide) ?_
          refine z_icmp_ge (tgt := 273) hx hb (9) (9) dL_toldJar_244 (by decide) (by omega) (by omega) rfl rfl (fun c_244 => ?_) (fun c_244 => absurd c_244 (by omega))
          obtain ⟨k9, hk9, hk4⟩ : ∃ k9, x1 / 2 % 4 = k9 ∧ k9 < 4 := ⟨_, rfl, by omega⟩
          refine lv_iload_n hx hb dL_toldJar_273 rfl (lv_at hl 5 rfl) ?_
          refine lv_iconst (v := 4) hx hb dL_toldJar_274 (by decide) ?_
          refine z_ci (z_srun (rest := []) (own := RL) (As := [.int (nI (x1)), .int (4)]) hx hb hml hown hts hl.1 hK hP [] rfl (metL_at l D ac x1 4 (by omega) (by omega)) gL_toldJar_L_at rfl 2 (by decide +kernel) ⟨rfl, rfl, Nat.le_of_ble_eq_true rfl, Nat.le_of_ble_eq_true rfl⟩ rfl rfl (Nat.le_of_ble_eq_true rfl) dL_toldJar_275 ⟨Nat.le_of_ble_eq_true rfl, Nat.le_of_ble_eq_true rfl⟩) ?_
          refine z_top (y := nI (k9)) (congrArg nI hk9) ?_
          refine lv_istore (lv' := [(8, .int (nI (k9))), (6, .long (lDp (qV z j1) 12)), (5, .ref (rt)), (0, .ref (x0)), (1, .int (nI (j1))), (2, .int (nI (x1))), (3, .ref (rj)), (4, .ref (qe))]) hx hb dL_toldJar_278 hl (by decide) rfl (fun ls hl => ?_)
          refine lv_iconst (v := (-1)) hx hb dL_toldJar_280 (by decide) ?_
          refine lv_istore (lv' := [(9, .int ((-1))), (8, .int (nI (k9))), (6, .long (lDp (qV z j1) 12)), (5, .ref (rt)), (0, .ref (x0)), (1, .int (nI (j1))), (2, .int (nI (x1))), (3, .ref (rj)), (4, .ref (qe))]) hx hb dL_toldJar_281 hl (by decide) rfl (fun ls hl => ?_)
          refine lv_bipush (v := 11) hx hb dL_toldJar_283 (by decide) ?_
          refine lv_istore (lv' := [(10, .int (11)), (9, .int ((-1))), (8, .int (nI (k9))), (6, .long (lDp (qV z j1) 12)), (5, .ref (rt)), (0, .ref (x0)), (1, .int (nI (j1))), (2, .int (nI (x1))), (3, .ref (rj)), (4, .ref (qe))]) hx hb dL_toldJar_285 hl (by decide) rfl (fun ls hl => ?_)
          have hL_287 : ∀ (n : Nat) (i : Nat) (o : Option Nat), (i + n = 12) → (lPu (qV z j1) k9 i = o) → ∀ (H : Heap) (locs : List Loc), va_P D vwCl [(x0, .inr (5, [.ref (n0), .ref (y0), .ref (ch), .ref (sp0)])), (n0, .inr (4, [.ref (n1), .ref (n4), .ref (n11), .ref (n12), .int (tp), .int (fl)])), (n1, .inr (3, [.ref (n2), .ref (n3)])), (n2, .inl (ac 0, 4, .inl (cV z))), (n3, .inl (ac 0, 4, .inl (cW z))), (n4, .inl (ac 2, 3, .inr (.inr (.inr (.inr (jf)))))), (h0, .inr (2, [.ref (g0)])), (g0, .inl (ac 0, 48, .inl (qV z j1))), (rj, .inl (ac 0, 48, .inl (qV z j1))), (qe, .inl (ac 0, 16, .inl (cV z))), (rt, .inl (ac 0, 48, .inl (fun _ => 0)))] H → va_D A [(x0, .inr (5, [.ref (n0), .ref (y0), .ref (ch), .ref (sp0)])), (n0, .inr (4, [.ref (n1), .ref (n4), .ref (n11), .ref (n12), .int (tp), .int (fl)])), (n1, .inr (3, [.ref (n2), .ref (n3)])), (n2, .inl (ac 0, 4, .inl (cV z))), (n3, .inl (ac 0, 4, .inl (cW z))), (n4, .inl (ac 2, 3, .inr (.inr (.inr (.inr (jf)))))), (h0, .inr (2, [.ref (g0)])), (g0, .inl (ac 0, 48, .inl (qV z j1))), (rj, .inl (ac 0, 48, .inl (qV z j1))), (qe, .inl (ac 0, 16, .inl (cV z))), (rt, .inl (ac 0, 48, .inl (fun _ => 0)))] → va_S A s.heap H locs → ∀ (ls : Array Slot), lv_has ls 12 [(10, .int (nI n - 1)), (9, .int (zOI o)), (8, .int (nI (k9))), (6, .long (lDp (qV z j1) 12)), (5, .ref (rt)), (0, .ref (x0)), (1, .int (nI (j1))), (2, .int (nI (x1))), (3, .ref (rj)), (4, .ref (qe))] → W p l e ({ frames := 6, cells := 1, slots := 48, locals := 137 } : Room) s m args below meth c H locs 1 48 (MQ below (zQi D ac [(x0, .inr (5, [.ref (n0), .ref (y0), .ref (ch), .ref (sp0)])), (n0, .inr (4, [.ref (n1), .ref (n4), .ref (n11), .ref (n12), .int (tp), .int (fl)])), (n1, .inr (3, [.ref (n2), .ref (n3)])), (n2, .inl (ac 0, 4, .inl (cV z))), (n3, .inl (ac 0, 4, .inl (cW z))), (n4, .inl (ac 2, 3, .inr (.inr (.inr (.inr (jf)))))), (h0, .inr (2, [.ref (g0)])), (g0, .inl (ac 0, 48, .inl (qV z j1))), (rj, .inl (ac 0, 48, .inl (qV z j1))), (qe, .inl (ac 0, 16, .inl (cV z)))] [(x0, .inr (5, [.ref (n0), .ref (y0), .ref (ch), .ref (sp0)])), (n0, .inr (4, [.ref (n1), .ref (n4), .ref (n11), .ref (n12), .int (tp), .int (fl)])), (n1, .inr (3, [.ref (n2), .ref (n3)])), (n2, .inl (ac 0, 4, .inl (cV z))), (n3, .inl (ac 0, 4, .inl (cW z))), (n4, .inl (ac 2, 3, .inr (.inr (.inr (.inr (jf)))))), (h0, .inr (2, [.ref (g0)])), (g0, .inl (ac 0, 48, .inl (qV z j1))), (rj, .inl (ac 0, 48, .inl (qV z j1))), (qe, .inl (ac 0, 16, .inl (cV z)))] sz (1)) args s 1 48 A) (F0 m 287 ls []) := by
            intro n
            induction n with
            | zero =>
              intro i o hi ho H locs hP hD hS ls hl
              have e_i : 12 = i := by omega
              subst e_i
              refine lv_iload hx hb dL_toldJar_287 (lv_at hl 0 rfl) ?_
              refine lv_if_lt (tgt := 359) hx hb dL_toldJar_289 (by decide) (fun c_289 => ?_) (fun c_289 => absurd c_289 (fun q => q (by decide)))
              refine lv_aload_n hx hb dL_toldJar_359 rfl (lv_at hl 8 rfl) ?_
              refine lv_iconst (v := 0) hx hb dL_toldJar_360 (by decide) ?_
              refine lv_aload hx hb dL_toldJar_361 (lv_at hl 9 rfl) ?_
              refine z_ci (z_srun (rest := []) (own := RL) (As := [.ref (rj), .int (0), .ref (qe)]) hx hb hml hown hts hl.1 hK hP [8, 9] rfl (metL_prop l D ac rj (qV z j1) qe (cV z) (cW z) 0 (by omega)) gL_toldJar_L_prop rfl 3 (by decide +kernel) ⟨rfl, rfl, Nat.le_of_ble_eq_true rfl, Nat.le_of_ble_eq_true rfl⟩ rfl rfl (Nat.le_of_ble_eq_true rfl) dL_toldJar_363 ⟨Nat.le_of_ble_eq_true rfl, Nat.le_of_ble_eq_true rfl⟩) ?_
              refine z_top (y := qAll (qV z j1)) (rfl) ?_
              refine lv_istore (lv' := [(10, .int (qAll (qV z j1))), (9, .int (zOI o)), (8, .int (nI (k9))), (6, .long (lDp (qV z j1) 12)), (5, .ref (rt)), (0, .ref (x0)), (1, .int (nI (j1))), (2, .int (nI (x1))), (3, .ref (rj)), (4, .ref (qe))]) hx hb dL_toldJar_366 hl (by decide) rfl (fun ls hl => ?_)
              refine lv_aload_n hx hb dL_toldJar_368 rfl (lv_at hl 5 rfl) ?_
              refine lv_iload_n hx hb dL_toldJar_369 rfl (lv_at hl 6 rfl) ?_
              refine lv_iload hx hb dL_toldJar_370 (lv_at hl 2 rfl) ?_
              refine z_ci (z_vrun (rest := []) (own := RL) (As := [.int (nI (j1)), .int (nI (k9))]) hx hb hml hown hts hl.1 hK hP [0, 1, 2, 3, 4, 5, 6, 7] rfl (metX5_purest_0 l D ac x0 n0 y0 ch sp0 n1 n2 n3 n4 n11 n12 tp fl (cV z) (cW z) jf h0 g0 (qV z j1) j1 k9 (by omega) (by omega) (hjf)) gL_toldJar_X5_purest rfl 2 (by decide +kernel) ⟨rfl, rfl, Nat.le_of_ble_eq_true rfl, Nat.le_of_ble_eq_true rfl⟩ 0 5 rfl rfl rfl rfl rfl (Nat.le_of_ble_eq_true rfl) dL_toldJar_372 ⟨Nat.le_of_ble_eq_true rfl, Nat.le_of_ble_eq_true rfl⟩) ?_
              refine z_top (y := zOI o) (l_purest hG hj hk4 ho) ?_
              refine lv_iload hx hb dL_toldJar_375 (lv_at hl 1 rfl) ?_
              refine lv_icmp_ne (tgt := 407) hx hb dL_toldJar_377 (by decide) (fun c_377 => absurd c_377 (fun q => q (rfl))) (fun c_377 => ?_)
              refine lv_aload_n hx hb dL_toldJar_380 rfl (lv_at hl 5 rfl) ?_
              refine lv_iload_n hx hb dL_toldJar_381 rfl (lv_at hl 6 rfl) ?_
              refine z_cd (z_vrun (rest := []) (own := RL) (As := [.int (nI (j1))]) hx hb hml hown hts hl.1 hK hP [0, 1, 2, 3, 4, 5, 6, 7] rfl (metX5_meanDepth_0 l D ac x0 n0 y0 ch sp0 n1 n2 n3 n4 n11 n12 tp fl (cV z) (cW z) jf h0 g0 (qV z j1) j1 (by omega) (hjf)) gL_toldJar_X5_meanDepth rfl 1 (by decide +kernel) ⟨rfl, rfl, Nat.le_of_ble_eq_true rfl, Nat.le_of_ble_eq_true rfl⟩ 0 5 rfl rfl rfl rfl rfl (Nat.le_of_ble_eq_true rfl) dL_toldJar_382 ⟨Nat.le_of_ble_eq_true rfl, Nat.le_of_ble_eq_true rfl⟩) ?_
              refine lv_iload hx hb dL_toldJar_385 (lv_at hl 0 rfl) ?_
              refine lv_if_ne (tgt := 394) hx hb dL_toldJar_387 (by decide) (fun c_387 => ?_) (fun c_387 => ?_)
              · refine lv_dconst1 hx hb dL_toldJar_394 ?_
                refine lv_lload hx hb dL_toldJar_395 (lv_at hl 3 rfl) ?_
                refine lv_l2d hx hb dL_toldJar_397 ?_
                refine z_topd (y := FP.i2d (qDep (qV z j1))) (l_dep hG hj) ?_
                refine lv_dmul hx hb dL_toldJar_398 (by rw [fp_mul1]; exact fp_nn _) ?_
                refine z_topd (y := FP.i2d (qDep (qV z j1))) (fp_mul1 _) ?_
                refine lv_iload hx hb dL_toldJar_399 (lv_at hl 0 rfl) ?_
                refine lv_i2d hx hb dL_toldJar_401 ?_
                refine lv_ddiv hx hb dL_toldJar_402 (fp_nn_div _ c_387) ?_
                refine lv_dcmp hx hb dL_toldJar_403 ?_
                refine z_top (y := 0) (l_mean1 c_387) ?_
                refine lv_if_eq (tgt := 409) hx hb dL_toldJar_404 (by decide) (fun _ => ?_) (fun c_ => absurd (by decide) c_)
                refine lv_iconst (v := 0) hx hb dL_toldJar_409 (by decide) ?_
                refine lv_istore (lv' := [(11, .int (0)), (10, .int (qAll (qV z j1))), (9, .int (zOI o)), (8, .int (nI (k9))), (6, .long (lDp (qV z j1) 12)), (5, .ref (rt)), (0, .ref (x0)), (1, .int (nI (j1))), (2, .int (nI (x1))), (3, .ref (rj)), (4, .ref (qe))]) hx hb dL_toldJar_410 hl (by decide) rfl (fun ls hl => ?_)
                have hL_412 : ∀ (n : Nat) (i : Nat), (i + n = 48) → ∀ (H : Heap) (locs : List Loc), va_P D vwCl [(x0, .inr (5, [.ref (n0), .ref (y0), .ref (ch), .ref (sp0)])), (n0, .inr (4, [.ref (n1), .ref (n4), .ref (n11), .ref (n12), .int (tp), .int (fl)])), (n1, .inr (3, [.ref (n2), .ref (n3)])), (n2, .inl (ac 0, 4, .inl (cV z))), (n3, .inl (ac 0, 4, .inl (cW z))), (n4, .inl (ac 2, 3, .inr (.inr (.inr (.inr (jf)))))), (h0, .inr (2, [.ref (g0)])), (g0, .inl (ac 0, 48, .inl (qV z j1))), (rj, .inl (ac 0, 48, .inl (qV z j1))), (qe, .inl (ac 0, 16, .inl (cV z))), (rt, .inl (ac 0, 48, .inl (qCp (qV z j1) (fun _ => 0) i)))] H → va_D A [(x0, .inr (5, [.ref (n0), .ref (y0), .ref (ch), .ref (sp0)])), (n0, .inr (4, [.ref (n1), .ref (n4), .ref (n11), .ref (n12), .int (tp), .int (fl)])), (n1, .inr (3, [.ref (n2), .ref (n3)])), (n2, .inl (ac 0, 4, .inl (cV z))), (n3, .inl (ac 0, 4, .inl (cW z))), (n4, .inl (ac 2, 3, .inr (.inr (.inr (.inr (jf)))))), (h0, .inr (2, [.ref (g0)])), (g0, .inl (ac 0, 48, .inl (qV z j1))), (rj, .inl (ac 0, 48, .inl (qV z j1))), (qe, .inl (ac 0, 16, .inl (cV z))), (rt, .inl (ac 0, 48, .inl (qCp (qV z j1) (fun _ => 0) i)))] → va_S A s.heap H locs → ∀ (ls : Array Slot), lv_has ls 12 [(11, .int (nI (i))), (10, .int (qAll (qV z j1))), (9, .int (zOI o)), (8, .int (nI (k9))), (6, .long (lDp (qV z j1) 12)), (5, .ref (rt)), (0, .ref (x0)), (1, .int (nI (j1))), (2, .int (nI (x1))), (3, .ref (rj)), (4, .ref (qe))] → W p l e ({ frames := 6, cells := 1, slots := 48, locals := 137 } : Room) s m args below meth c H locs 1 48 (MQ below (zQi D ac [(x0, .inr (5, [.ref (n0), .ref (y0), .ref (ch), .ref (sp0)])), (n0, .inr (4, [.ref (n1), .ref (n4), .ref (n11), .ref (n12), .int (tp), .int (fl)])), (n1, .inr (3, [.ref (n2), .ref (n3)])), (n2, .inl (ac 0, 4, .inl (cV z))), (n3, .inl (ac 0, 4, .inl (cW z))), (n4, .inl (ac 2, 3, .inr (.inr (.inr (.inr (jf)))))), (h0, .inr (2, [.ref (g0)])), (g0, .inl (ac 0, 48, .inl (qV z j1))), (rj, .inl (ac 0, 48, .inl (qV z j1))), (qe, .inl (ac 0, 16, .inl (cV z)))] [(x0, .inr (5, [.ref (n0), .ref (y0), .ref (ch), .ref (sp0)])), (n0, .inr (4, [.ref (n1), .ref (n4), .ref (n11), .ref (n12), .int (tp), .int (fl)])), (n1, .inr (3, [.ref (n2), .ref (n3)])), (n2, .inl (ac 0, 4, .inl (cV z))), (n3, .inl (ac 0, 4, .inl (cW z))), (n4, .inl (ac 2, 3, .inr (.inr (.inr (.inr (jf)))))), (h0, .inr (2, [.ref (g0)])), (g0, .inl (ac 0, 48, .inl (qV z j1))), (rj, .inl (ac 0, 48, .inl (qV z j1))), (qe, .inl (ac 0, 16, .inl (cV z)))] sz (1)) args s 1 48 A) (F0 m 412 ls []) := by
                  intro n
                  induction n with
                  | zero =>
                    intro i hi H locs hP hD hS ls hl
                    have e_i : 48 = i := by omega
                    subst e_i
                    refine lv_iload hx hb dL_toldJar_412 (lv_at hl 0 rfl) ?_
                    refine lv_bipush (v := 48) hx hb dL_toldJar_414 (by decide) ?_
                    refine z_icmp_ge (tgt := 434) hx hb (48) (48) dL_toldJar_416 (by decide) (by omega) (by omega) rfl rfl (fun c_416 => ?_) (fun c_416 => absurd c_416 (by omega))
                    have hP9 := z_pext (w := [(x0, .inr (5, [.ref (n0), .ref (y0), .ref (ch), .ref (sp0)])), (n0, .inr (4, [.ref (n1), .ref (n4), .ref (n11), .ref (n12), .int (tp), .int (fl)])), (n1, .inr (3, [.ref (n2), .ref (n3)])), (n2, .inl (ac 0, 4, .inl (cV z))), (n3, .inl (ac 0, 4, .inl (cW z))), (n4, .inl (ac 2, 3, .inr (.inr (.inr (.inr (jf)))))), (h0, .inr (2, [.ref (g0)])), (g0, .inl (ac 0, 48, .inl (qV z j1))), (rj, .inl (ac 0, 48, .inl (qV z j1))), (qe, .inl (ac 0, 16, .inl (cV z))), (rt, .inl (ac 0, 48, .inl (qCp (qV z j1) (fun _ => 0) 48)))]) (f := qCp (qV z j1) (fun _ => 0) 48) (f2 := qV z j1) 10 rfl (fun k hk => q_cp_at _ _ 48 k hk) hP
                    have hP : va_P D vwCl [(x0, .inr (5, [.ref (n0), .ref (y0), .ref (ch), .ref (sp0)])), (n0, .inr (4, [.ref (n1), .ref (n4), .ref (n11), .ref (n12), .int (tp), .int (fl)])), (n1, .inr (3, [.ref (n2), .ref (n3)])), (n2, .inl (ac 0, 4, .inl (cV z))), (n3, .inl (ac 0, 4, .inl (cW z))), (n4, .inl (ac 2, 3, .inr (.inr (.inr (.inr (jf)))))), (h0, .inr (2, [.ref (g0)])), (g0, .inl (ac 0, 48, .inl (qV z j1))), (rj, .inl (ac 0, 48, .inl (qV z j1))), (qe, .inl (ac 0, 16, .inl (cV z))), (rt, .inl (ac 0, 48, .inl (qV z j1)))] H := hP9
                    have hD : va_D A [(x0, .inr (5, [.ref (n0), .ref (y0), .ref (ch), .ref (sp0)])), (n0, .inr (4, [.ref (n1), .ref (n4), .ref (n11), .ref (n12), .int (tp), .int (fl)])), (n1, .inr (3, [.ref (n2), .ref (n3)])), (n2, .inl (ac 0, 4, .inl (cV z))), (n3, .inl (ac 0, 4, .inl (cW z))), (n4, .inl (ac 2, 3, .inr (.inr (.inr (.inr (jf)))))), (h0, .inr (2, [.ref (g0)])), (g0, .inl (ac 0, 48, .inl (qV z j1))), (rj, .inl (ac 0, 48, .inl (qV z j1))), (qe, .inl (ac 0, 16, .inl (cV z))), (rt, .inl (ac 0, 48, .inl (qV z j1)))] := z_Dfst (w := [(x0, .inr (5, [.ref (n0), .ref (y0), .ref (ch), .ref (sp0)])), (n0, .inr (4, [.ref (n1), .ref (n4), .ref (n11), .ref (n12), .int (tp), .int (fl)])), (n1, .inr (3, [.ref (n2), .ref (n3)])), (n2, .inl (ac 0, 4, .inl (cV z))), (n3, .inl (ac 0, 4, .inl (cW z))), (n4, .inl (ac 2, 3, .inr (.inr (.inr (.inr (jf)))))), (h0, .inr (2, [.ref (g0)])), (g0, .inl (ac 0, 48, .inl (qV z j1))), (rj, .inl (ac 0, 48, .inl (qV z j1))), (qe, .inl (ac 0, 16, .inl (cV z))), (rt, .inl (ac 0, 48, .inl (qCp (qV z j1) (fun _ => 0) 48)))]) rfl hD
                    refine lv_aload_n hx hb dL_toldJar_434 rfl (lv_at hl 6 rfl) ?_
                    refine lv_iload_n hx hb dL_toldJar_435 rfl (lv_at hl 7 rfl) ?_
                    refine lv_bipush (v := 9) hx hb dL_toldJar_436 (by decide) ?_
                    refine z_ci (z_vrun (rest := []) (own := RL) (As := [.int (nI (j1)), .int (9)]) hx hb hml hown hts hl.1 hK hP [0, 1, 2, 3, 4, 5, 6, 7] rfl (metX5_jar_0 l D ac x0 n0 y0 ch sp0 n1 n2 n3 n4 n11 n12 tp fl (cV z) (cW z) jf h0 g0 (qV z j1) j1 9 (by omega) (by omega) (hjf)) gL_toldJar_X5_jar rfl 2 (by decide +kernel) ⟨rfl, rfl, Nat.le_of_ble_eq_true rfl, Nat.le_of_ble_eq_true rfl⟩ 0 5 rfl rfl rfl rfl rfl (Nat.le_of_ble_eq_true rfl) dL_toldJar_438 ⟨Nat.le_of_ble_eq_true rfl, Nat.le_of_ble_eq_true rfl⟩) ?_
                    refine lv_aload hx hb dL_toldJar_441 (lv_at hl 5 rfl) ?_
                    refine lv_aload hx hb dL_toldJar_443 (lv_at hl 10 rfl) ?_
                    refine z_ciW [(x0, .inr (5, [.ref (n0), .ref (y0), .ref (ch), .ref (sp0)])), (n0, .inr (4, [.ref (n1), .ref (n4), .ref (n11), .ref (n12), .int (tp), .int (fl)])), (n1, .inr (3, [.ref (n2), .ref (n3)])), (n2, .inl (ac 0, 4, .inl (cV z))), (n3, .inl (ac 0, 4, .inl (cW z))), (n4, .inl (ac 2, 3, .inr (.inr (.inr (.inr (jf)))))), (h0, .inr (2, [.ref (g0)])), (g0, .inl (ac 0, 48, .inl (qV z j1))), (rj, .inl (ac 0, 48, .inl (qV z j1))), (qe, .inl (ac 0, 16, .inl (cV z))), (rt, .inl (ac 0, 48, .inl (qV (mStep z j1).1 j1)))] (z_srunW (rest := [.int (qJar (qV z j1) (cV z) (cW z) 9)]) (own := RL) (As := [.ref (rt), .ref (qe)]) hx hb hml hown hts hl.1 hK hP hD [10, 9] rfl (by decide) rfl (metL_step l D ac _ z j1 rt qe (cV z) (by omega) (hG) (rfl)) gL_toldJar_L_step rfl 2 (by decide +kernel) ⟨rfl, rfl, Nat.le_of_ble_eq_true rfl, Nat.le_of_ble_eq_true rfl⟩ rfl rfl (Nat.le_of_ble_eq_true rfl) dL_toldJar_445 ⟨Nat.le_of_ble_eq_true rfl, Nat.le_of_ble_eq_true rfl⟩) hP hD hS hA [10, 9] [0, 1, 2, 3, 4, 5, 6, 7, 8] [0, 1, 2, 3, 4, 5, 6, 7, 8, 10, 9] rfl rfl (by decide) (by decide) (by decide) rfl (fun H locs hP hD hS => ?_)
                    refine lv_if_ne (tgt := 455) hx hb dL_toldJar_448 (by decide) (fun c_448 => ?_) (fun c_448 => ?_)
                    · refine lv_iconst (v := 0) hx hb dL_toldJar_455 (by decide) ?_
                      refine lv_icmp_eq (tgt := 461) hx hb dL_toldJar_456 (by decide) (fun c_456 => ?_) (fun c_456 => absurd c_456 (fun q => q ((l_rest9 hG hj).trans (if_neg c_448))))
                      refine lv_iconst (v := 1) hx hb dL_toldJar_461 (by decide) ?_
                      have hP : va_P D vwCl [(x0, .inr (5, [.ref (n0), .ref (y0), .ref (ch), .ref (sp0)])), (n0, .inr (4, [.ref (n1), .ref (n4), .ref (n11), .ref (n12), .int (tp), .int (fl)])), (n1, .inr (3, [.ref (n2), .ref (n3)])), (n2, .inl (ac 0, 4, .inl (cV z))), (n3, .inl (ac 0, 4, .inl (cW z))), (n4, .inl (ac 2, 3, .inr (.inr (.inr (.inr (jf)))))), (h0, .inr (2, [.ref (g0)])), (g0, .inl (ac 0, 48, .inl (qV z j1))), (rj, .inl (ac 0, 48, .inl (qV z j1))), (qe, .inl (ac 0, 16, .inl (cV z)))] H := hP.sub [0, 1, 2, 3, 4, 5, 6, 7, 8, 9] rfl
                      have hD : va_D A [(x0, .inr (5, [.ref (n0), .ref (y0), .ref (ch), .ref (sp0)])), (n0, .inr (4, [.ref (n1), .ref (n4), .ref (n11), .ref (n12), .int (tp), .int (fl)])), (n1, .inr (3, [.ref (n2), .ref (n3)])), (n2, .inl (ac 0, 4, .inl (cV z))), (n3, .inl (ac 0, 4, .inl (cW z))), (n4, .inl (ac 2, 3, .inr (.inr (.inr (.inr (jf)))))), (h0, .inr (2, [.ref (g0)])), (g0, .inl (ac 0, 48, .inl (qV z j1))), (rj, .inl (ac 0, 48, .inl (qV z j1))), (qe, .inl (ac 0, 16, .inl (cV z)))] := hD.sub [0, 1, 2, 3, 4, 5, 6, 7, 8, 9] (by decide) rfl
                      exact z_zretW hx hb hr hlocks hK hP hD hS hAe (rfl) (rfl) dL_toldJar_462
                    · refine lv_iconst (v := 1) hx hb dL_toldJar_451 (by decide) ?_
                      refine lv_goto (tgt := 456) hx hb dL_toldJar_452 (by decide) ?_
                      refine lv_icmp_eq (tgt := 461) hx hb dL_toldJar_456 (by decide) (fun c_456 => ?_) (fun c_456 => absurd c_456 (fun q => q ((l_rest9 hG hj).trans (if_pos c_448))))
                      refine lv_iconst (v := 1) hx hb dL_toldJar_461 (by decide) ?_
                      have hP : va_P D vwCl [(x0, .inr (5, [.ref (n0), .ref (y0), .ref (ch), .ref (sp0)])), (n0, .inr (4, [.ref (n1), .ref (n4), .ref (n11), .ref (n12), .int (tp), .int (fl)])), (n1, .inr (3, [.ref (n2), .ref (n3)])), (n2, .inl (ac 0, 4, .inl (cV z))), (n3, .inl (ac 0, 4, .inl (cW z))), (n4, .inl (ac 2, 3, .inr (.inr (.inr (.inr (jf)))))), (h0, .inr (2, [.ref (g0)])), (g0, .inl (ac 0, 48, .inl (qV z j1))), (rj, .inl (ac 0, 48, .inl (qV z j1))), (qe, .inl (ac 0, 16, .inl (cV z)))] H := hP.sub [0, 1, 2, 3, 4, 5, 6, 7, 8, 9] rfl
                      have hD : va_D A [(x0, .inr (5, [.ref (n0), .ref (y0), .ref (ch), .ref (sp0)])), (n0, .inr (4, [.ref (n1), .ref (n4), .ref (n11), .ref (n12), .int (tp), .int (fl)])), (n1, .inr (3, [.ref (n2), .ref (n3)])), (n2, .inl (ac 0, 4, .inl (cV z))), (n3, .inl (ac 0, 4, .inl (cW z))), (n4, .inl (ac 2, 3, .inr (.inr (.inr (.inr (jf)))))), (h0, .inr (2, [.ref (g0)])), (g0, .inl (ac 0, 48, .inl (qV z j1))), (rj, .inl (ac 0, 48, .inl (qV z j1))), (qe, .inl (ac 0, 16, .inl (cV z)))] := hD.sub [0, 1, 2, 3, 4, 5, 6, 7, 8, 9] (by decide) rfl
                      exact z_zretW hx hb hr hlocks hK hP hD hS hAe (rfl) (rfl) dL_toldJar_462
                  | succ n ih =>
                    intro i hi H locs hP hD hS ls hl
                    refine lv_iload hx hb dL_toldJar_412 (lv_at hl 0 rfl) ?_
                    refine lv_bipush (v := 48) hx hb dL_toldJar_414 (by decide) ?_
                    refine z_icmp_ge (tgt := 434) hx hb (i) (48) dL_toldJar_416 (by decide) (by omega) (by omega) rfl rfl (fun c_416 => absurd c_416 (by omega)) (fun c_416 => ?_)
                    refine lv_aload hx hb dL_toldJar_419 (lv_at hl 5 rfl) ?_
                    refine lv_iload hx hb dL_toldJar_421 (lv_at hl 0 rfl) ?_
                    refine lv_aload_n hx hb dL_toldJar_423 rfl (lv_at hl 9 rfl) ?_
                    refine lv_iload hx hb dL_toldJar_424 (lv_at hl 0 rfl) ?_
                    refine z_iald hx hb hK hP 8 rfl (i) (rfl) (by omega) (by decide) dL_toldJar_426 ?_
                    refine z_iast hx hb hK hP hD hS 10 rfl (i) (rfl) (by omega) (by decide) dL_toldJar_427 (fun H locs hP hD hS => ?_)
                    have hP : va_P D vwCl [(x0, .inr (5, [.ref (n0), .ref (y0), .ref (ch), .ref (sp0)])), (n0, .inr (4, [.ref (n1), .ref (n4), .ref (n11), .ref (n12), .int (tp), .int (fl)])), (n1, .inr (3, [.ref (n2), .ref (n3)])), (n2, .inl (ac 0, 4, .inl (cV z))), (n3, .inl (ac 0, 4, .inl (cW z))), (n4, .inl (ac 2, 3, .inr (.inr (.inr (.inr (jf)))))), (h0, .inr (2, [.ref (g0)])), (g0, .inl (ac 0, 48, .inl (qV z j1))), (rj, .inl (ac 0, 48, .inl (qV z j1))), (qe, .inl (ac 0, 16, .inl (cV z))), (rt, .inl (ac 0, 48, .inl (upd (qCp (qV z j1) (fun _ => 0) i) (i) ((qV z j1) i))))] H := hP
                    have hD : va_D A [(x0, .inr (5, [.ref (n0), .ref (y0), .ref (ch), .ref (sp0)])), (n0, .inr (4, [.ref (n1), .ref (n4), .ref (n11), .ref (n12), .int (tp), .int (fl)])), (n1, .inr (3, [.ref (n2), .ref (n3)])), (n2, .inl (ac 0, 4, .inl (cV z))), (n3, .inl (ac 0, 4, .inl (cW z))), (n4, .inl (ac 2, 3, .inr (.inr (.inr (.inr (jf)))))), (h0, .inr (2, [.ref (g0)])), (g0, .inl (ac 0, 48, .inl (qV z j1))), (rj, .inl (ac 0, 48, .inl (qV z j1))), (qe, .inl (ac 0, 16, .inl (cV z))), (rt, .inl (ac 0, 48, .inl (upd (qCp (qV z j1) (fun _ => 0) i) (i) ((qV z j1) i))))] := hD
                    refine lv_iinc (v := nI ((i) + 1)) (lv' := [(11, .int (nI ((i) + 1))), (10, .int (qAll (qV z j1))), (9, .int (zOI o)), (8, .int (nI (k9))), (6, .long (lDp (qV z j1) 12)), (5, .ref (rt)), (0, .ref (x0)), (1, .int (nI (j1))), (2, .int (nI (x1))), (3, .ref (rj)), (4, .ref (qe))]) hx hb dL_toldJar_428 hl (k := 0) rfl (show nI (i) + Int32.ofInt 1 = _ from nI_add (i) 1) (by decide) rfl (fun ls hl => ?_)
                    refine lv_goto (tgt := 412) hx hb dL_toldJar_431 (by decide) ?_
                    exact ih (i + 1) (by omega) _ _ hP hD hS ls (lv_sub hl [0, 1, 2, 3, 4, 5, 6, 7, 8, 9, 10] rfl)
                exact hL_412 (48) (0) (by omega) _ _ hP hD hS ls (lv_sub hl [0, 1, 2, 3, 4, 5, 6, 7, 8, 9, 10] rfl)
              · refine lv_dconst0 hx hb dL_toldJar_390 ?_
                refine lv_goto (tgt := 403) hx hb dL_toldJar_391 (by decide) ?_
                refine lv_dcmp hx hb dL_toldJar_403 ?_
                refine z_top (y := 0) (l_mean0 c_387) ?_
                refine lv_if_eq (tgt := 409) hx hb dL_toldJar_404 (by decide) (fun _ => ?_) (fun c_ => absurd (by decide) c_)
                refine lv_iconst (v := 0) hx hb dL_toldJar_409 (by decide) ?_
                refine lv_istore (lv' := [(11, .int (0)), (10, .int (qAll (qV z j1))), (9, .int (zOI o)), (8, .int (nI (k9))), (6, .long (lDp (qV z j1) 12)), (5, .ref (rt)), (0, .ref (x0)), (1, .int (nI (j1))), (2, .int (nI (x1))), (3, .ref (rj)), (4, .ref (qe))]) hx hb dL_toldJar_410 hl (by decide) rfl (fun ls hl => ?_)
                have hL_412 : ∀ (n : Nat) (i : Nat), (i + n = 48) → ∀ (H : Heap) (locs : List Loc), va_P D vwCl [(x0, .inr (5, [.ref (n0), .ref (y0), .ref (ch), .ref (sp0)])), (n0, .inr (4, [.ref (n1), .ref (n4), .ref (n11), .ref (n12), .int (tp), .int (fl)])), (n1, .inr (3, [.ref (n2), .ref (n3)])), (n2, .inl (ac 0, 4, .inl (cV z))), (n3, .inl (ac 0, 4, .inl (cW z))), (n4, .inl (ac 2, 3, .inr (.inr (.inr (.inr (jf)))))), (h0, .inr (2, [.ref (g0)])), (g0, .inl (ac 0, 48, .inl (qV z j1))), (rj, .inl (ac 0, 48, .inl (qV z j1))), (qe, .inl (ac 0, 16, .inl (cV z))), (rt, .inl (ac 0, 48, .inl (qCp (qV z j1) (fun _ => 0) i)))] H → va_D A [(x0, .inr (5, [.ref (n0), .ref (y0), .ref (ch), .ref (sp0)])), (n0, .inr (4, [.ref (n1), .ref (n4), .ref (n11), .ref (n12), .int (tp), .int (fl)])), (n1, .inr (3, [.ref (n2), .ref (n3)])), (n2, .inl (ac 0, 4, .inl (cV z))), (n3, .inl (ac 0, 4, .inl (cW z))), (n4, .inl (ac 2, 3, .inr (.inr (.inr (.inr (jf)))))), (h0, .inr (2, [.ref (g0)])), (g0, .inl (ac 0, 48, .inl (qV z j1))), (rj, .inl (ac 0, 48, .inl (qV z j1))), (qe, .inl (ac 0, 16, .inl (cV z))), (rt, .inl (ac 0, 48, .inl (qCp (qV z j1) (fun _ => 0) i)))] → va_S A s.heap H locs → ∀ (ls : Array Slot), lv_has ls 12 [(11, .int (nI (i))), (10, .int (qAll (qV z j1))), (9, .int (zOI o)), (8, .int (nI (k9))), (6, .long (lDp (qV z j1) 12)), (5, .ref (rt)), (0, .ref (x0)), (1, .int (nI (j1))), (2, .int (nI (x1))), (3, .ref (rj)), (4, .ref (qe))] → W p l e ({ frames := 6, cells := 1, slots := 48, locals := 137 } : Room) s m args below meth c H locs 1 48 (MQ below (zQi D ac [(x0, .inr (5, [.ref (n0), .ref (y0), .ref (ch), .ref (sp0)])), (n0, .inr (4, [.ref (n1), .ref (n4), .ref (n11), .ref (n12), .int (tp), .int (fl)])), (n1, .inr (3, [.ref (n2), .ref (n3)])), (n2, .inl (ac 0, 4, .inl (cV z))), (n3, .inl (ac 0, 4, .inl (cW z))), (n4, .inl (ac 2, 3, .inr (.inr (.inr (.inr (jf)))))), (h0, .inr (2, [.ref (g0)])), (g0, .inl (ac 0, 48, .inl (qV z j1))), (rj, .inl (ac 0, 48, .inl (qV z j1))), (qe, .inl (ac 0, 16, .inl (cV z)))] [(x0, .inr (5, [.ref (n0), .ref (y0), .ref (ch), .ref (sp0)])), (n0, .inr (4, [.ref (n1), .ref (n4), .ref (n11), .ref (n12), .int (tp), .int (fl)])), (n1, .inr (3, [.ref (n2), .ref (n3)])), (n2, .inl (ac 0, 4, .inl (cV z))), (n3, .inl (ac 0, 4, .inl (cW z))), (n4, .inl (ac 2, 3, .inr (.inr (.inr (.inr (jf)))))), (h0, .inr (2, [.ref (g0)])), (g0, .inl (ac 0, 48, .inl (qV z j1))), (rj, .inl (ac 0, 48, .inl (qV z j1))), (qe, .inl (ac 0, 16, .inl (cV z)))] sz (1)) args s 1 48 A) (F0 m 412 ls []) := by
                  intro n
                  induction n with
                  | zero =>
                    intro i hi H locs hP hD hS ls hl
                    have e_i : 48 = i := by omega
                    subst e_i
                    refine lv_iload hx hb dL_toldJar_412 (lv_at hl 0 rfl) ?_
                    refine lv_bipush (v := 48) hx hb dL_toldJar_414 (by decide) ?_
                    refine z_icmp_ge (tgt := 434) hx hb (48) (48) dL_toldJar_416 (by decide) (by omega) (by omega) rfl rfl (fun c_416 => ?_) (fun c_416 => absurd c_416 (by omega))
                    have hP9 := z_pext (w := [(x0, .inr (5, [.ref (n0), .ref (y0), .ref (ch), .ref (sp0)])), (n0, .inr (4, [.ref (n1), .ref (n4), .ref (n11), .ref (n12), .int (tp), .int (fl)])), (n1, .inr (3, [.ref (n2), .ref (n3)])), (n2, .inl (ac 0, 4, .inl (cV z))), (n3, .inl (ac 0, 4, .inl (cW z))), (n4, .inl (ac 2, 3, .inr (.inr (.inr (.inr (jf)))))), (h0, .inr (2, [.ref (g0)])), (g0, .inl (ac 0, 48, .inl (qV z j1))), (rj, .inl (ac 0, 48, .inl (qV z j1))), (qe, .inl (ac 0, 16, .inl (cV z))), (rt, .inl (ac 0, 48, .inl (qCp (qV z j1) (fun _ => 0) 48)))]) (f := qCp (qV z j1) (fun _ => 0) 48) (f2 := qV z j1) 10 rfl (fun k hk => q_cp_at _ _ 48 k hk) hP
                    have hP : va_P D vwCl [(x0, .inr (5, [.ref (n0), .ref (y0), .ref (ch), .ref (sp0)])), (n0, .inr (4, [.ref (n1), .ref (n4), .ref (n11), .ref (n12), .int (tp), .int (fl)])), (n1, .inr (3, [.ref (n2), .ref (n3)])), (n2, .inl (ac 0, 4, .inl (cV z))), (n3, .inl (ac 0, 4, .inl (cW z))), (n4, .inl (ac 2, 3, .inr (.inr (.inr (.inr (jf)))))), (h0, .inr (2, [.ref (g0)])), (g0, .inl (ac 0, 48, .inl (qV z j1))), (rj, .inl (ac 0, 48, .inl (qV z j1))), (qe, .inl (ac 0, 16, .inl (cV z))), (rt, .inl (ac 0, 48, .inl (qV z j1)))] H := hP9
                    have hD : va_D A [(x0, .inr (5, [.ref (n0), .ref (y0), .ref (ch), .ref (sp0)])), (n0, .inr (4, [.ref (n1), .ref (n4), .ref (n11), .ref (n12), .int (tp), .int (fl)])), (n1, .inr (3, [.ref (n2), .ref (n3)])), (n2, .inl (ac 0, 4, .inl (cV z))), (n3, .inl (ac 0, 4, .inl (cW z))), (n4, .inl (ac 2, 3, .inr (.inr (.inr (.inr (jf)))))), (h0, .inr (2, [.ref (g0)])), (g0, .inl (ac 0, 48, .inl (qV z j1))), (rj, .inl (ac 0, 48, .inl (qV z j1))), (qe, .inl (ac 0, 16, .inl (cV z))), (rt, .inl (ac 0, 48, .inl (qV z j1)))] := z_Dfst (w := [(x0, .inr (5, [.ref (n0), .ref (y0), .ref (ch), .ref (sp0)])), (n0, .inr (4, [.ref (n1), .ref (n4), .ref (n11), .ref (n12), .int (tp), .int (fl)])), (n1, .inr (3, [.ref (n2), .ref (n3)])), (n2, .inl (ac 0, 4, .inl (cV z))), (n3, .inl (ac 0, 4, .inl (cW z))), (n4, .inl (ac 2, 3, .inr (.inr (.inr (.inr (jf)))))), (h0, .inr (2, [.ref (g0)])), (g0, .inl (ac 0, 48, .inl (qV z j1))), (rj, .inl (ac 0, 48, .inl (qV z j1))), (qe, .inl (ac 0, 16, .inl (cV z))), (rt, .inl (ac 0, 48, .inl (qCp (qV z j1) (fun _ => 0) 48)))]) rfl hD
                    refine lv_aload_n hx hb dL_toldJar_434 rfl (lv_at hl 6 rfl) ?_
                    refine lv_iload_n hx hb dL_toldJar_435 rfl (lv_at hl 7 rfl) ?_
                    refine lv_bipush (v := 9) hx hb dL_toldJar_436 (by decide) ?_
                    refine z_ci (z_vrun (rest := []) (own := RL) (As := [.int (nI (j1)), .int (9)]) hx hb hml hown hts hl.1 hK hP [0, 1, 2, 3, 4, 5, 6, 7] rfl (metX5_jar_0 l D ac x0 n0 y0 ch sp0 n1 n2 n3 n4 n11 n12 tp fl (cV z) (cW z) jf h0 g0 (qV z j1) j1 9 (by omega) (by omega) (hjf)) gL_toldJar_X5_jar rfl 2 (by decide +kernel) ⟨rfl, rfl, Nat.le_of_ble_eq_true rfl, Nat.le_of_ble_eq_true rfl⟩ 0 5 rfl rfl rfl rfl rfl (Nat.le_of_ble_eq_true rfl) dL_toldJar_438 ⟨Nat.le_of_ble_eq_true rfl, Nat.le_of_ble_eq_true rfl⟩) ?_
                    refine lv_aload hx hb dL_toldJar_441 (lv_at hl 5 rfl) ?_
                    refine lv_aload hx hb dL_toldJar_443 (lv_at hl 10 rfl) ?_
                    refine z_ciW [(x0, .inr (5, [.ref (n0), .ref (y0), .ref (ch), .ref (sp0)])), (n0, .inr (4, [.ref (n1), .ref (n4), .ref (n11), .ref (n12), .int (tp), .int (fl)])), (n1, .inr (3, [.ref (n2), .ref (n3)])), (n2, .inl (ac 0, 4, .inl (cV z))), (n3, .inl (ac 0, 4, .inl (cW z))), (n4, .inl (ac 2, 3, .inr (.inr (.inr (.inr (jf)))))), (h0, .inr (2, [.ref (g0)])), (g0, .inl (ac 0, 48, .inl (qV z j1))), (rj, .inl (ac 0, 48, .inl (qV z j1))), (qe, .inl (ac 0, 16, .inl (cV z))), (rt, .inl (ac 0, 48, .inl (qV (mStep z j1).1 j1)))] (z_srunW (rest := [.int (qJar (qV z j1) (cV z) (cW z) 9)]) (own := RL) (As := [.ref (rt), .ref (qe)]) hx hb hml hown hts hl.1 hK hP hD [10, 9] rfl (by decide) rfl (metL_step l D ac _ z j1 rt qe (cV z) (by omega) (hG) (rfl)) gL_toldJar_L_step rfl 2 (by decide +kernel) ⟨rfl, rfl, Nat.le_of_ble_eq_true rfl, Nat.le_of_ble_eq_true rfl⟩ rfl rfl (Nat.le_of_ble_eq_true rfl) dL_toldJar_445 ⟨Nat.le_of_ble_eq_true rfl, Nat.le_of_ble_eq_true rfl⟩) hP hD hS hA [10, 9] [0, 1, 2, 3, 4, 5, 6, 7, 8] [0, 1, 2, 3, 4, 5, 6, 7, 8, 10, 9] rfl rfl (by decide) (by decide) (by decide) rfl (fun H locs hP hD hS => ?_)
                    refine lv_if_ne (tgt := 455) hx hb dL_toldJar_448 (by decide) (fun c_448 => ?_) (fun c_448 => ?_)
                    · refine lv_iconst (v := 0) hx hb dL_toldJar_455 (by decide) ?_
                      refine lv_icmp_eq (tgt := 461) hx hb dL_toldJar_456 (by decide) (fun c_456 => ?_) (fun c_456 => absurd c_456 (fun q => q ((l_rest9 hG hj).trans (if_neg c_448))))
                      refine lv_iconst (v := 1) hx hb dL_toldJar_461 (by decide) ?_
                      have hP : va_P D vwCl [(x0, .inr (5, [.ref (n0), .ref (y0), .ref (ch), .ref (sp0)])), (n0, .inr (4, [.ref (n1), .ref (n4), .ref (n11), .ref (n12), .int (tp), .int (fl)])), (n1, .inr (3, [.ref (n2), .ref (n3)])), (n2, .inl (ac 0, 4, .inl (cV z))), (n3, .inl (ac 0, 4, .inl (cW z))), (n4, .inl (ac 2, 3, .inr (.inr (.inr (.inr (jf)))))), (h0, .inr (2, [.ref (g0)])), (g0, .inl (ac 0, 48, .inl (qV z j1))), (rj, .inl (ac 0, 48, .inl (qV z j1))), (qe, .inl (ac 0, 16, .inl (cV z)))] H := hP.sub [0, 1, 2, 3, 4, 5, 6, 7, 8, 9] rfl
                      have hD : va_D A [(x0, .inr (5, [.ref (n0), .ref (y0), .ref (ch), .ref (sp0)])), (n0, .inr (4, [.ref (n1), .ref (n4), .ref (n11), .ref (n12), .int (tp), .int (fl)])), (n1, .inr (3, [.ref (n2), .ref (n3)])), (n2, .inl (ac 0, 4, .inl (cV z))), (n3, .inl (ac 0, 4, .inl (cW z))), (n4, .inl (ac 2, 3, .inr (.inr (.inr (.inr (jf)))))), (h0, .inr (2, [.ref (g0)])), (g0, .inl (ac 0, 48, .inl (qV z j1))), (rj, .inl (ac 0, 48, .inl (qV z j1))), (qe, .inl (ac 0, 16, .inl (cV z)))] := hD.sub [0, 1, 2, 3, 4, 5, 6, 7, 8, 9] (by decide) rfl
                      exact z_zretW hx hb hr hlocks hK hP hD hS hAe (rfl) (rfl) dL_toldJar_462
                    · refine lv_iconst (v := 1) hx hb dL_toldJar_451 (by decide) ?_
                      refine lv_goto (tgt := 456) hx hb dL_toldJar_452 (by decide) ?_
                      refine lv_icmp_eq (tgt := 461) hx hb dL_toldJar_456 (by decide) (fun c_456 => ?_) (fun c_456 => absurd c_456 (fun q => q ((l_rest9 hG hj).trans (if_pos c_448))))
                      refine lv_iconst (v := 1) hx hb dL_toldJar_461 (by decide) ?_
                      have hP : va_P D vwCl [(x0, .inr (5, [.ref (n0), .ref (y0), .ref (ch), .ref (sp0)])), (n0, .inr (4, [.ref (n1), .ref (n4), .ref (n11), .ref (n12), .int (tp), .int (fl)])), (n1, .inr (3, [.ref (n2), .ref (n3)])), (n2, .inl (ac 0, 4, .inl (cV z))), (n3, .inl (ac 0, 4, .inl (cW z))), (n4, .inl (ac 2, 3, .inr (.inr (.inr (.inr (jf)))))), (h0, .inr (2, [.ref (g0)])), (g0, .inl (ac 0, 48, .inl (qV z j1))), (rj, .inl (ac 0, 48, .inl (qV z j1))), (qe, .inl (ac 0, 16, .inl (cV z)))] H := hP.sub [0, 1, 2, 3, 4, 5, 6, 7, 8, 9] rfl
                      have hD : va_D A [(x0, .inr (5, [.ref (n0), .ref (y0), .ref (ch), .ref (sp0)])), (n0, .inr (4, [.ref (n1), .ref (n4), .ref (n11), .ref (n12), .int (tp), .int (fl)])), (n1, .inr (3, [.ref (n2), .ref (n3)])), (n2, .inl (ac 0, 4, .inl (cV z))), (n3, .inl (ac 0, 4, .inl (cW z))), (n4, .inl (ac 2, 3, .inr (.inr (.inr (.inr (jf)))))), (h0, .inr (2, [.ref (g0)])), (g0, .inl (ac 0, 48, .inl (qV z j1))), (rj, .inl (ac 0, 48, .inl (qV z j1))), (qe, .inl (ac 0, 16, .inl (cV z)))] := hD.sub [0, 1, 2, 3, 4, 5, 6, 7, 8, 9] (by decide) rfl
                      exact z_zretW hx hb hr hlocks hK hP hD hS hAe (rfl) (rfl) dL_toldJar_462
                  | succ n ih =>
                    intro i hi H locs hP hD hS ls hl
                    refine lv_iload hx hb dL_toldJar_412 (lv_at hl 0 rfl) ?_
                    refine lv_bipush (v := 48) hx hb dL_toldJar_414 (by decide) ?_
                    refine z_icmp_ge (tgt := 434) hx hb (i) (48) dL_toldJar_416 (by decide) (by omega) (by omega) rfl rfl (fun c_416 => absurd c_416 (by omega)) (fun c_416 => ?_)
                    refine lv_aload hx hb dL_toldJar_419 (lv_at hl 5 rfl) ?_
                    refine lv_iload hx hb dL_toldJar_421 (lv_at hl 0 rfl) ?_
                    refine lv_aload_n hx hb dL_toldJar_423 rfl (lv_at hl 9 rfl) ?_
                    refine lv_iload hx hb dL_toldJar_424 (lv_at hl 0 rfl) ?_
                    refine z_iald hx hb hK hP 8 rfl (i) (rfl) (by omega) (by decide) dL_toldJar_426 ?_
                    refine z_iast hx hb hK hP hD hS 10 rfl (i) (rfl) (by omega) (by decide) dL_toldJar_427 (fun H locs hP hD hS => ?_)
                    have hP : va_P D vwCl [(x0, .inr (5, [.ref (n0), .ref (y0), .ref (ch), .ref (sp0)])), (n0, .inr (4, [.ref (n1), .ref (n4), .ref (n11), .ref (n12), .int (tp), .int (fl)])), (n1, .inr (3, [.ref (n2), .ref (n3)])), (n2, .inl (ac 0, 4, .inl (cV z))), (n3, .inl (ac 0, 4, .inl (cW z))), (n4, .inl (ac 2, 3, .inr (.inr (.inr (.inr (jf)))))), (h0, .inr (2, [.ref (g0)])), (g0, .inl (ac 0, 48, .inl (qV z j1))), (rj, .inl (ac 0, 48, .inl (qV z j1))), (qe, .inl (ac 0, 16, .inl (cV z))), (rt, .inl (ac 0, 48, .inl (upd (qCp (qV z j1) (fun _ => 0) i) (i) ((qV z j1) i))))] H := hP
                    have hD : va_D A [(x0, .inr (5, [.ref (n0), .ref (y0), .ref (ch), .ref (sp0)])), (n0, .inr (4, [.ref (n1), .ref (n4), .ref (n11), .ref (n12), .int (tp), .int (fl)])), (n1, .inr (3, [.ref (n2), .ref (n3)])), (n2, .inl (ac 0, 4, .inl (cV z))), (n3, .inl (ac 0, 4, .inl (cW z))), (n4, .inl (ac 2, 3, .inr (.inr (.inr (.inr (jf)))))), (h0, .inr (2, [.ref (g0)])), (g0, .inl (ac 0, 48, .inl (qV z j1))), (rj, .inl (ac 0, 48, .inl (qV z j1))), (qe, .inl (ac 0, 16, .inl (cV z))), (rt, .inl (ac 0, 48, .inl (upd (qCp (qV z j1) (fun _ => 0) i) (i) ((qV z j1) i))))] := hD
                    refine lv_iinc (v := nI ((i) + 1)) (lv' := [(11, .int (nI ((i) + 1))), (10, .int (qAll (qV z j1))), (9, .int (zOI o)), (8, .int (nI (k9))), (6, .long (lDp (qV z j1) 12)), (5, .ref (rt)), (0, .ref (x0)), (1, .int (nI (j1))), (2, .int (nI (x1))), (3, .ref (rj)), (4, .ref (qe))]) hx hb dL_toldJar_428 hl (k := 0) rfl (show nI (i) + Int32.ofInt 1 = _ from nI_add (i) 1) (by decide) rfl (fun ls hl => ?_)
                    refine lv_goto (tgt := 412) hx hb dL_toldJar_431 (by decide) ?_
                    exact ih (i + 1) (by omega) _ _ hP hD hS ls (lv_sub hl [0, 1, 2, 3, 4, 5, 6, 7, 8, 9, 10] rfl)
                exact hL_412 (48) (0) (by omega) _ _ hP hD hS ls (lv_sub hl [0, 1, 2, 3, 4, 5, 6, 7, 8, 9, 10] rfl)
            | succ n ih =>
              intro i o hi ho H locs hP hD hS ls hl
              refine lv_iload hx hb dL_toldJar_287 (lv_at hl 0 rfl) ?_
              refine z_top (y := nI (11 - i)) (by rw [nI_pred]; exact congrArg nI (by omega)) ?_
              refine lv_if_lt (tgt := 359) hx hb dL_toldJar_289 (by decide) (fun c_289 => absurd c_289 (nI_pos (by omega))) (fun c_289 => ?_)
              refine lv_aload_n hx hb dL_toldJar_292 rfl (lv_at hl 8 rfl) ?_
              refine lv_iconst (v := 4) hx hb dL_toldJar_293 (by decide) ?_
              refine lv_iload hx hb dL_toldJar_294 (lv_at hl 0 rfl) ?_
              refine z_top (y := nI (11 - i)) (by rw [nI_pred]; exact congrArg nI (by omega)) ?_
              refine lv_imul hx hb dL_toldJar_296 ?_
              refine z_top (y := nI ((4) * (11 - i))) (pk_mul (4) (11 - i)) ?_
              refine lv_iload hx hb dL_toldJar_297 (lv_at hl 2 rfl) ?_
              refine lv_iadd hx hb dL_toldJar_299 ?_
              refine z_top (y := nI (((4) * (11 - i)) + (k9))) (nI_add ((4) * (11 - i)) (k9)) ?_
              refine z_iald hx hb hK hP 8 rfl (((4) * (11 - i)) + (k9)) (rfl) (by omega) (by decide) dL_toldJar_300 ?_
              refine lv_if_le (tgt := 353) hx hb dL_toldJar_301 (by decide) (fun c_301 => ?_) (fun c_301 => ?_)
              · refine lv_iinc (v := nI n - 1) (lv' := [(10, .int (nI n - 1)), (9, .int (zOI o)), (8, .int (nI (k9))), (6, .long (lDp (qV z j1) 12)), (5, .ref (rt)), (0, .ref (x0)), (1, .int (nI (j1))), (2, .int (nI (x1))), (3, .ref (rj)), (4, .ref (qe))]) hx hb dL_toldJar_353 hl (k := 0) rfl (by rw [z_addm1, nI_pred]) (by decide) rfl (fun ls hl => ?_)
                refine lv_goto (tgt := 287) hx hb dL_toldJar_356 (by decide) ?_
                exact ih (i + 1) (o) (by omega) (l_pu_no ho c_301) _ _ hP hD hS ls (lv_sub hl [0, 1, 2, 3, 4, 5, 6, 7, 8, 9] rfl)
              · rcases o with _ | b
                · refine lv_iload hx hb dL_toldJar_304 (lv_at hl 1 rfl) ?_
                  refine z_top (y := (-1)) (rfl) ?_
                  refine lv_if_lt (tgt := 349) hx hb dL_toldJar_306 (by decide) (fun _ => ?_) (fun c_ => absurd (by decide) c_)
                  refine lv_iload hx hb dL_toldJar_349 (lv_at hl 0 rfl) ?_
                  refine z_top (y := nI (11 - i)) (by rw [nI_pred]; exact congrArg nI (by omega)) ?_
                  refine lv_istore (lv' := [(9, .int (nI (11 - i))), (10, .int (nI ((n + 1)) - 1)), (8, .int (nI (k9))), (6, .long (lDp (qV z j1) 12)), (5, .ref (rt)), (0, .ref (x0)), (1, .int (nI (j1))), (2, .int (nI (x1))), (3, .ref (rj)), (4, .ref (qe))]) hx hb dL_toldJar_351 hl (by decide) rfl (fun ls hl => ?_)
                  refine lv_iinc (v := nI n - 1) (lv' := [(10, .int (nI n - 1)), (9, .int (nI (11 - i))), (8, .int (nI (k9))), (6, .long (lDp (qV z j1) 12)), (5, .ref (rt)), (0, .ref (x0)), (1, .int (nI (j1))), (2, .int (nI (x1))), (3, .ref (rj)), (4, .ref (qe))]) hx hb dL_toldJar_353 hl (k := 1) rfl (by rw [z_addm1, nI_pred]) (by decide) rfl (fun ls hl => ?_)
                  refine lv_goto (tgt := 287) hx hb dL_toldJar_356 (by decide) ?_
                  exact ih (i + 1) (some (11 - i)) (by omega) (l_pu_none ho (Int32.not_le.mp c_301)) _ _ hP hD hS ls (lv_sub hl [0, 1, 2, 3, 4, 5, 6, 7, 8, 9] rfl)
                · have hb9 := l_pu_lt ho
                  refine lv_iload hx hb dL_toldJar_304 (lv_at hl 1 rfl) ?_
                  refine z_top (y := nI (b)) (rfl) ?_
                  refine lv_if_lt (tgt := 349) hx hb dL_toldJar_306 (by decide) (fun c_306 => absurd c_306 (nI_pos (by omega))) (fun c_306 => ?_)
                  refine lv_aload_n hx hb dL_toldJar_309 rfl (lv_at hl 8 rfl) ?_
                  refine lv_iconst (v := 4) hx hb dL_toldJar_310 (by decide) ?_
                  refine lv_iload hx hb dL_toldJar_311 (lv_at hl 0 rfl) ?_
                  refine z_top (y := nI (11 - i)) (by rw [nI_pred]; exact congrArg nI (by omega)) ?_
                  refine lv_imul hx hb dL_toldJar_313 ?_
                  refine z_top (y := nI ((4) * (11 - i))) (pk_mul (4) (11 - i)) ?_
                  refine lv_iload hx hb dL_toldJar_314 (lv_at hl 2 rfl) ?_
                  refine lv_iadd hx hb dL_toldJar_316 ?_
                  refine z_top (y := nI (((4) * (11 - i)) + (k9))) (nI_add ((4) * (11 - i)) (k9)) ?_
                  refine z_iald hx hb hK hP 8 rfl (((4) * (11 - i)) + (k9)) (rfl) (by omega) (by decide) dL_toldJar_317 ?_
                  refine lv_i2l (v := ((qV z j1) (((4) * (11 - i)) + (k9))).toInt64) hx hb dL_toldJar_318 rfl ?_
                  refine lv_aload_n hx hb dL_toldJar_319 rfl (lv_at hl 8 rfl) ?_
                  refine lv_iload hx hb dL_toldJar_320 (lv_at hl 1 rfl) ?_
                  refine z_top (y := nI (b)) (rfl) ?_
                  refine z_ci (z_srun (rest := [.long (((qV z j1) (((4) * (11 - i)) + (k9))).toInt64)]) (own := RL) (As := [.ref (rj), .int (nI (b))]) hx hb hml hown hts hl.1 hK hP [8] rfl (metL_all l D ac rj (qV z j1) b (by omega)) gL_toldJar_L_all rfl 2 (by decide +kernel) ⟨rfl, rfl, Nat.le_of_ble_eq_true rfl, Nat.le_of_ble_eq_true rfl⟩ rfl rfl (Nat.le_of_ble_eq_true rfl) dL_toldJar_322 ⟨Nat.le_of_ble_eq_true rfl, Nat.le_of_ble_eq_true rfl⟩) ?_
                  refine lv_i2l (v := (qIn (qV z j1) b).toInt64) hx hb dL_toldJar_325 rfl ?_
                  refine lv_lmul hx hb dL_toldJar_326 ?_
                  refine lv_aload_n hx hb dL_toldJar_327 rfl (lv_at hl 8 rfl) ?_
                  refine lv_iconst (v := 4) hx hb dL_toldJar_328 (by decide) ?_
                  refine lv_iload hx hb dL_toldJar_329 (lv_at hl 1 rfl) ?_
                  refine z_top (y := nI (b)) (rfl) ?_
                  refine lv_imul hx hb dL_toldJar_331 ?_
                  refine z_top (y := nI ((4) * (b))) (pk_mul (4) (b)) ?_
                  refine lv_iload hx hb dL_toldJar_332 (lv_at hl 2 rfl) ?_
                  refine lv_iadd hx hb dL_toldJar_334 ?_
                  refine z_top (y := nI (((4) * (b)) + (k9))) (nI_add ((4) * (b)) (k9)) ?_
                  refine z_iald hx hb hK hP 8 rfl (((4) * (b)) + (k9)) (rfl) (by omega) (by decide) dL_toldJar_335 ?_
                  refine lv_i2l (v := ((qV z j1) (((4) * (b)) + (k9))).toInt64) hx hb dL_toldJar_336 rfl ?_
                  refine lv_aload_n hx hb dL_toldJar_337 rfl (lv_at hl 8 rfl) ?_
                  refine lv_iload hx hb dL_toldJar_338 (lv_at hl 0 rfl) ?_
                  refine z_top (y := nI (11 - i)) (by rw [nI_pred]; exact congrArg nI (by omega)) ?_
                  refine z_ci (z_srun (rest := [.long (((qV z j1) (((4) * (b)) + (k9))).toInt64), .long ((((qV z j1) (((4) * (11 - i)) + (k9))).toInt64) * ((qIn (qV z j1) b).toInt64))]) (own := RL) (As := [.ref (rj), .int (nI (11 - i))]) hx hb hml hown hts hl.1 hK hP [8] rfl (metL_all l D ac rj (qV z j1) (11 - i) (by omega)) gL_toldJar_L_all rfl 2 (by decide +kernel) ⟨rfl, rfl, Nat.le_of_ble_eq_true rfl, Nat.le_of_ble_eq_true rfl⟩ rfl rfl (Nat.le_of_ble_eq_true rfl) dL_toldJar_340 ⟨Nat.le_of_ble_eq_true rfl, Nat.le_of_ble_eq_true rfl⟩) ?_
                  refine lv_i2l (v := (qIn (qV z j1) (11 - i)).toInt64) hx hb dL_toldJar_343 rfl ?_
                  refine lv_lmul hx hb dL_toldJar_344 ?_
                  refine W.lcmp hx hb dL_toldJar_345 ?_
                  refine lv_if_lt (tgt := 353) hx hb dL_toldJar_346 (by decide) (fun c_346 => ?_) (fun c_346 => ?_)
                  · refine lv_iinc (v := nI n - 1) (lv' := [(10, .int (nI n - 1)), (9, .int (zOI ((some b)))), (8, .int (nI (k9))), (6, .long (lDp (qV z j1) 12)), (5, .ref (rt)), (0, .ref (x0)), (1, .int (nI (j1))), (2, .int (nI (x1))), (3, .ref (rj)), (4, .ref (qe))]) hx hb dL_toldJar_353 hl (k := 0) rfl (by rw [z_addm1, nI_pred]) (by decide) rfl (fun ls hl => ?_)
                    refine lv_goto (tgt := 287) hx hb dL_toldJar_356 (by decide) ?_
                    exact ih (i + 1) (some b) (by omega) (l_pu_less ho (l_cmp_lt.mp c_346)) _ _ hP hD hS ls (lv_sub hl [0, 1, 2, 3, 4, 5, 6, 7, 8, 9] rfl)
                  · refine lv_iload hx hb dL_toldJar_349 (lv_at hl 0 rfl) ?_
                    refine z_top (y := nI (11 - i)) (by rw [nI_pred]; exact congrArg nI (by omega)) ?_
                    refine lv_istore (lv' := [(9, .int (nI (11 - i))), (10, .int (nI ((n + 1)) - 1)), (8, .int (nI (k9))), (6, .long (lDp (qV z j1) 12)), (5, .ref (rt)), (0, .ref (x0)), (1, .int (nI (j1))), (2, .int (nI (x1))), (3, .ref (rj)), (4, .ref (qe))]) hx hb dL_toldJar_351 hl (by decide) rfl (fun ls hl => ?_)
                    refine lv_iinc (v := nI n - 1) (lv' := [(10, .int (nI n - 1)), (9, .int (nI (11 - i))), (8, .int (nI (k9))), (6, .long (lDp (qV z j1) 12)), (5, .ref (rt)), (0, .ref (x0)), (1, .int (nI (j1))), (2, .int (nI (x1))), (3, .ref (rj)), (4, .ref (qe))]) hx hb dL_toldJar_353 hl (k := 1) rfl (by rw [z_addm1, nI_pred]) (by decide) rfl (fun ls hl => ?_)
                    refine lv_goto (tgt := 287) hx hb dL_toldJar_356 (by decide) ?_
                    exact ih (i + 1) (some (11 - i)) (by omega) (l_pu_more ho (Int32.not_le.mp c_301) (fun q => c_346 (l_cmp_lt.mpr q))) _ _ hP hD hS ls (lv_sub hl [0, 1, 2, 3, 4, 5, 6, 7, 8, 9] rfl)
          exact hL_287 (12) (0) (none) (by omega) (rfl) _ _ hP hD hS ls (lv_sub hl [0, 1, 2, 3, 4, 5, 6, 7, 8, 9] rfl)
        | succ n ih =>
          intro i hi H locs hP hD hS ls hl
          refine lv_iload hx hb dL_toldJar_240 (lv_at hl 0 rfl) ?_
          refine lv_bipush (v := 9) hx hb dL_toldJar_242 (by decide) ?_
          refine z_icmp_ge (tgt := 273) hx hb (i) (9) dL_toldJar_244 (by decide) (by omega) (by omega) rfl rfl (fun c_244 => absurd c_244 (by omega)) (fun c_244 => ?_)
          refine lv_aload_n hx hb dL_toldJar_247 rfl (lv_at hl 3 rfl) ?_
          refine lv_iload_n hx hb dL_toldJar_248 rfl (lv_at hl 4 rfl) ?_
          refine lv_iload hx hb dL_toldJar_249 (lv_at hl 0 rfl) ?_
          refine z_ci (z_vrun (rest := []) (own := RL) (As := [.int (nI (j1)), .int (nI (i))]) hx hb hml hown hts hl.1 hK hP [0, 1, 2, 3, 4, 5, 6, 7] rfl (metX5_jar_0 l D ac x0 n0 y0 ch sp0 n1 n2 n3 n4 n11 n12 tp fl (cV z) (cW z) jf h0 g0 (qV z j1) j1 i (by omega) (by omega) (hjf)) gL_toldJar_X5_jar rfl 2 (by decide +kernel) ⟨rfl, rfl, Nat.le_of_ble_eq_true rfl, Nat.le_of_ble_eq_true rfl⟩ 0 5 rfl rfl rfl rfl rfl (Nat.le_of_ble_eq_true rfl) dL_toldJar_251 ⟨Nat.le_of_ble_eq_true rfl, Nat.le_of_ble_eq_true rfl⟩) ?_
          refine lv_aload_n hx hb dL_toldJar_254 rfl (lv_at hl 6 rfl) ?_
          refine lv_iload hx hb dL_toldJar_255 (lv_at hl 0 rfl) ?_
          refine lv_aload hx hb dL_toldJar_257 (lv_at hl 7 rfl) ?_
          refine z_ci (z_srun (rest := [.int (qJar (qV z j1) (cV z) (cW z) i)]) (own := RL) (As := [.ref (rj), .int (nI (i)), .ref (qe)]) hx hb hml hown hts hl.1 hK hP [8, 9] rfl (metL_prop l D ac rj (qV z j1) qe (cV z) (cW z) i (by omega)) gL_toldJar_L_prop rfl 3 (by decide +kernel) ⟨rfl, rfl, Nat.le_of_ble_eq_true rfl, Nat.le_of_ble_eq_true rfl⟩ rfl rfl (Nat.le_of_ble_eq_true rfl) dL_toldJar_259 ⟨Nat.le_of_ble_eq_true rfl, Nat.le_of_ble_eq_true rfl⟩) ?_
          refine lv_icmp_eq (tgt := 267) hx hb dL_toldJar_262 (by decide) (fun c_262 => ?_) (fun c_262 => absurd c_262 (fun q => q (rfl)))
          refine lv_iinc (v := nI ((i) + 1)) (lv' := [(8, .int (nI ((i) + 1))), (6, .long (lDp (qV z j1) 12)), (5, .ref (rt)), (0, .ref (x0)), (1, .int (nI (j1))), (2, .int (nI (x1))), (3, .ref (rj)), (4, .ref (qe))]) hx hb dL_toldJar_267 hl (k := 0) rfl (show nI (i) + Int32.ofInt 1 = _ from nI_add (i) 1) (by decide) rfl (fun ls hl => ?_)
          refine lv_goto (tgt := 240) hx hb dL_toldJar_270 (by decide) ?_
          exact ih (i + 1) (by omega) _ _ hP hD hS ls (lv_sub hl [0, 1, 2, 3, 4, 5, 6, 7] rfl)
      exact hL_240 (9) (0) (by omega) _ _ hP hD hS ls (lv_sub hl [0, 1, 2, 3, 4, 5, 6, 7] rfl)
    | succ n ih =>
      intro i hi H locs hP hD hS ls hl
      refine lv_iload hx hb dL_toldJar_12 (lv_at hl 0 rfl) ?_
      refine lv_bipush (v := 12) hx hb dL_toldJar_14 (by decide) ?_
      refine z_icmp_ge (tgt := 237) hx hb (i) (12) dL_toldJar_16 (by decide) (by omega) (by omega) rfl rfl (fun c_16 => absurd c_16 (by omega)) (fun c_16 => ?_)
      refine lv_iconst (v := 0) hx hb dL_toldJar_19 (by decide) ?_
      refine lv_istore (lv' := [(9, .int (0)), (8, .int (nI (i))), (6, .long (lDp (qV z j1) i)), (5, .ref (rt)), (0, .ref (x0)), (1, .int (nI (j1))), (2, .int (nI (x1))), (3, .ref (rj)), (4, .ref (qe))]) hx hb dL_toldJar_20 hl (by decide) rfl (fun ls hl => ?_)
      have hL_22 : ∀ (nq : Nat) (u9 : Nat), (u9 + nq = 4) → ∀ (H : Heap) (locs : List Loc), va_P D vwCl [(x0, .inr (5, [.ref (n0), .ref (y0), .ref (ch), .ref (sp0)])), (n0, .inr (4, [.ref (n1), .ref (n4), .ref (n11), .ref (n12), .int (tp), .int (fl)])), (n1, .inr (3, [.ref (n2), .ref (n3)])), (n2, .inl (ac 0, 4, .inl (cV z))), (n3, .inl (ac 0, 4, .inl (cW z))), (n4, .inl (ac 2, 3, .inr (.inr (.inr (.inr (jf)))))), (h0, .inr (2, [.ref (g0)])), (g0, .inl (ac 0, 48, .inl (qV z j1))), (rj, .inl (ac 0, 48, .inl (qV z j1))), (qe, .inl (ac 0, 16, .inl (cV z))), (rt, .inl (ac 0, 48, .inl (fun _ => 0)))] H → va_D A [(x0, .inr (5, [.ref (n0), .ref (y0), .ref (ch), .ref (sp0)])), (n0, .inr (4, [.ref (n1), .ref (n4), .ref (n11), .ref (n12), .int (tp), .int (fl)])), (n1, .inr (3, [.ref (n2), .ref (n3)])), (n2, .inl (ac 0, 4, .inl (cV z))), (n3, .inl (ac 0, 4, .inl (cW z))), (n4, .inl (ac 2, 3, .inr (.inr (.inr (.inr (jf)))))), (h0, .inr (2, [.ref (g0)])), (g0, .inl (ac 0, 48, .inl (qV z j1))), (rj, .inl (ac 0, 48, .inl (qV z j1))), (qe, .inl (ac 0, 16, .inl (cV z))), (rt, .inl (ac 0, 48, .inl (fun _ => 0)))] → va_S A s.heap H locs → ∀ (ls : Array Slot), lv_has ls 12 [(9, .int (nI (u9))), (8, .int (nI (i))), (6, .long (lDp (qV z j1) i)), (5, .ref (rt)), (0, .ref (x0)), (1, .int (nI (j1))), (2, .int (nI (x1))), (3, .ref (rj)), (4, .ref (qe))] → W p l e ({ frames := 6, cells := 1, slots := 48, locals := 137 } : Room) s m args below meth c H locs 1 48 (MQ below (zQi D ac [(x0, .inr (5, [.ref (n0), .ref (y0), .ref (ch), .ref (sp0)])), (n0, .inr (4, [.ref (n1), .ref (n4), .ref (n11), .ref (n12), .int (tp), .int (fl)])), (n1, .inr (3, [.ref (n2), .ref (n3)])), (n2, .inl (ac 0, 4, .inl (cV z))), (n3, .inl (ac 0, 4, .inl (cW z))), (n4, .inl (ac 2, 3, .inr (.inr (.inr (.inr (jf)))))), (h0, .inr (2, [.ref (g0)])), (g0, .inl (ac 0, 48, .inl (qV z j1))), (rj, .inl (ac 0, 48, .inl (qV z j1))), (qe, .inl (ac 0, 16, .inl (cV z)))] [(x0, .inr (5, [.ref (n0), .ref (y0), .ref (ch), .ref (sp0)])), (n0, .inr (4, [.ref (n1), .ref (n4), .ref (n11), .ref (n12), .int (tp), .int (fl)])), (n1, .inr (3, [.ref (n2), .ref (n3)])), (n2, .inl (ac 0, 4, .inl (cV z))), (n3, .inl (ac 0, 4, .inl (cW z))), (n4, .inl (ac 2, 3, .inr (.inr (.inr (.inr (jf)))))), (h0, .inr (2, [.ref (g0)])), (g0, .inl (ac 0, 48, .inl (qV z j1))), (rj, .inl (ac 0, 48, .inl (qV z j1))), (qe, .inl (ac 0, 16, .inl (cV z)))] sz (1)) args s 1 48 A) (F0 m 22 ls []) := by
        intro nq
        induction nq with
        | zero =>
          intro u9 hu9 H locs hP hD hS ls hl
          have e_u9 : 4 = u9 := by omega
          subst e_u9
          refine lv_iload hx hb dL_toldJar_22 (lv_at hl 0 rfl) ?_
          refine lv_iconst (v := 4) hx hb dL_toldJar_24 (by decide) ?_
          refine z_icmp_ge (tgt := 79) hx hb (4) (4) dL_toldJar_25 (by decide) (by omega) (by omega) rfl rfl (fun c_25 => ?_) (fun c_25 => absurd c_25 (by omega))
          refine lv_aload_n hx hb dL_toldJar_79 rfl (lv_at hl 4 rfl) ?_
          refine lv_iload_n hx hb dL_toldJar_80 rfl (lv_at hl 5 rfl) ?_
          refine lv_iload hx hb dL_toldJar_81 (lv_at hl 1 rfl) ?_
          refine lv_iconst (v := 4) hx hb dL_toldJar_83 (by decide) ?_
          refine z_ci (z_vrun (rest := []) (own := RL) (As := [.int (nI (j1)), .int (nI (i)), .int (4)]) hx hb hml hown hts hl.1 hK hP [0, 1, 2, 3, 4, 5, 6, 7] rfl (metX5_slice_0 l D ac x0 n0 y0 ch sp0 n1 n2 n3 n4 n11 n12 tp fl (cV z) (cW z) jf h0 g0 (qV z j1) j1 i 4 (by omega) (by omega) (by omega) (hjf)) gL_toldJar_X5_slice rfl 3 (by decide +kernel) ⟨rfl, rfl, Nat.le_of_ble_eq_true rfl, Nat.le_of_ble_eq_true rfl⟩ 0 5 rfl rfl rfl rfl rfl (Nat.le_of_ble_eq_true rfl) dL_toldJar_84 ⟨Nat.le_of_ble_eq_true rfl, Nat.le_of_ble_eq_true rfl⟩) ?_
          refine z_top (y := qIn (qV z j1) i) (rfl) ?_
          refine lv_aload_n hx hb dL_toldJar_87 rfl (lv_at hl 7 rfl) ?_
          refine lv_iload hx hb dL_toldJar_88 (lv_at hl 1 rfl) ?_
          refine z_ci (z_srun (rest := [.int (qIn (qV z j1) i)]) (own := RL) (As := [.ref (rj), .int (nI (i))]) hx hb hml hown hts hl.1 hK hP [8] rfl (metL_all l D ac rj (qV z j1) i (by omega)) gL_toldJar_L_all rfl 2 (by decide +kernel) ⟨rfl, rfl, Nat.le_of_ble_eq_true rfl, Nat.le_of_ble_eq_true rfl⟩ rfl rfl (Nat.le_of_ble_eq_true rfl) dL_toldJar_90 ⟨Nat.le_of_ble_eq_true rfl, Nat.le_of_ble_eq_true rfl⟩) ?_
          refine lv_icmp_ne (tgt := 213) hx hb dL_toldJar_93 (by decide) (fun c_93 => absurd c_93 (fun q => q (rfl))) (fun c_93 => ?_)
          have hJ_125 : ∀ (H : Heap) (locs : List Loc), va_P D vwCl [(x0, .inr (5, [.ref (n0), .ref (y0), .ref (ch), .ref (sp0)])), (n0, .inr (4, [.ref (n1), .ref (n4), .ref (n11), .ref (n12), .int (tp), .int (fl)])), (n1, .inr (3, [.ref (n2), .ref (n3)])), (n2, .inl (ac 0, 4, .inl (cV z))), (n3, .inl (ac 0, 4, .inl (cW z))), (n4, .inl (ac 2, 3, .inr (.inr (.inr (.inr (jf)))))), (h0, .inr (2, [.ref (g0)])), (g0, .inl (ac 0, 48, .inl (qV z j1))), (rj, .inl (ac 0, 48, .inl (qV z j1))), (qe, .inl (ac 0, 16, .inl (cV z))), (rt, .inl (ac 0, 48, .inl (fun _ => 0)))] H → va_D A [(x0, .inr (5, [.ref (n0), .ref (y0), .ref (ch), .ref (sp0)])), (n0, .inr (4, [.ref (n1), .ref (n4), .ref (n11), .ref (n12), .int (tp), .int (fl)])), (n1, .inr (3, [.ref (n2), .ref (n3)])), (n2, .inl (ac 0, 4, .inl (cV z))), (n3, .inl (ac 0, 4, .inl (cW z))), (n4, .inl (ac 2, 3, .inr (.inr (.inr (.inr (jf)))))), (h0, .inr (2, [.ref (g0)])), (g0, .inl (ac 0, 48, .inl (qV z j1))), (rj, .inl (ac 0, 48, .inl (qV z j1))), (qe, .inl (ac 0, 16, .inl (cV z))), (rt, .inl (ac 0, 48, .inl (fun _ => 0)))] → va_S A s.heap H locs → ∀ (ls : Array Slot), lv_has ls 12 [(9, .int (nI (4))), (8, .int (nI (i))), (6, .long (lDp (qV z j1) i)), (5, .ref (rt)), (0, .ref (x0)), (1, .int (nI (j1))), (2, .int (nI (x1))), (3, .ref (rj)), (4, .ref (qe))] → W p l e ({ frames := 6, cells := 1, slots := 48, locals := 137 } : Room) s m args below meth c H locs 1 48 (MQ below (zQi D ac [(x0, .inr (5, [.ref (n0), .ref (y0), .ref (ch), .ref (sp0)])), (n0, .inr (4, [.ref (n1), .ref (n4), .ref (n11), .ref (n12), .int (tp), .int (fl)])), (n1, .inr (3, [.ref (n2), .ref (n3)])), (n2, .inl (ac 0, 4, .inl (cV z))), (n3, .inl (ac 0, 4, .inl (cW z))), (n4, .inl (ac 2, 3, .inr (.inr (.inr (.inr (jf)))))), (h0, .inr (2, [.ref (g0)])), (g0, .inl (ac 0, 48, .inl (qV z j1))), (rj, .inl (ac 0, 48, .inl (qV z j1))), (qe, .inl (ac 0, 16, .inl (cV z)))] [(x0, .inr (5, [.ref (n0), .ref (y0), .ref (ch), .ref (sp0)])), (n0, .inr (4, [.ref (n1), .ref (n4), .ref (n11), .ref (n12), .int (tp), .int (fl)])), (n1, .inr (3, [.ref (n2), .ref (n3)])), (n2, .inl (ac 0, 4, .inl (cV z))), (n3, .inl (ac 0, 4, .inl (cW z))), (n4, .inl (ac 2, 3, .inr (.inr (.inr (.inr (jf)))))), (h0, .inr (2, [.ref (g0)])), (g0, .inl (ac 0, 48, .inl (qV z j1))), (rj, .inl (ac 0, 48, .inl (qV z j1))), (qe, .inl (ac 0, 16, .inl (cV z)))] sz (1)) args s 1 48 A) (F0 m 125 ls []) := by
            intro H locs hP hD hS ls hl
            have hJ_155 : ∀ (H : Heap) (locs : List Loc), va_P D vwCl [(x0, .inr (5, [.ref (n0), .ref (y0), .ref (ch), .ref (sp0)])), (n0, .inr (4, [.ref (n1), .ref (n4), .ref (n11), .ref (n12), .int (tp), .int (fl)])), (n1, .inr (3, [.ref (n2), .ref (n3)])), (n2, .inl (ac 0, 4, .inl (cV z))), (n3, .inl (ac 0, 4, .inl (cW z))), (n4, .inl (ac 2, 3, .inr (.inr (.inr (.inr (jf)))))), (h0, .inr (2, [.ref (g0)])), (g0, .inl (ac 0, 48, .inl (qV z j1))), (rj, .inl (ac 0, 48, .inl (qV z j1))), (qe, .inl (ac 0, 16, .inl (cV z))), (rt, .inl (ac 0, 48, .inl (fun _ => 0)))] H → va_D A [(x0, .inr (5, [.ref (n0), .ref (y0), .ref (ch), .ref (sp0)])), (n0, .inr (4, [.ref (n1), .ref (n4), .ref (n11), .ref (n12), .int (tp), .int (fl)])), (n1, .inr (3, [.ref (n2), .ref (n3)])), (n2, .inl (ac 0, 4, .inl (cV z))), (n3, .inl (ac 0, 4, .inl (cW z))), (n4, .inl (ac 2, 3, .inr (.inr (.inr (.inr (jf)))))), (h0, .inr (2, [.ref (g0)])), (g0, .inl (ac 0, 48, .inl (qV z j1))), (rj, .inl (ac 0, 48, .inl (qV z j1))), (qe, .inl (ac 0, 16, .inl (cV z))), (rt, .inl (ac 0, 48, .inl (fun _ => 0)))] → va_S A s.heap H locs → ∀ (ls : Array Slot), lv_has ls 12 [(9, .int (nI (4))), (8, .int (nI (i))), (6, .long (lDp (qV z j1) i)), (5, .ref (rt)), (0, .ref (x0)), (1, .int (nI (j1))), (2, .int (nI (x1))), (3, .ref (rj)), (4, .ref (qe))] → W p l e ({ frames := 6, cells := 1, slots := 48, locals := 137 } : Room) s m args below meth c H locs 1 48 (MQ below (zQi D ac [(x0, .inr (5, [.ref (n0), .ref (y0), .ref (ch), .ref (sp0)])), (n0, .inr (4, [.ref (n1), .ref (n4), .ref (n11), .ref (n12), .int (tp), .int (fl)])), (n1, .inr (3, [.ref (n2), .ref (n3)])), (n2, .inl (ac 0, 4, .inl (cV z))), (n3, .inl (ac 0, 4, .inl (cW z))), (n4, .inl (ac 2, 3, .inr (.inr (.inr (.inr (jf)))))), (h0, .inr (2, [.ref (g0)])), (g0, .inl (ac 0, 48, .inl (qV z j1))), (rj, .inl (ac 0, 48, .inl (qV z j1))), (qe, .inl (ac 0, 16, .inl (cV z)))] [(x0, .inr (5, [.ref (n0), .ref (y0), .ref (ch), .ref (sp0)])), (n0, .inr (4, [.ref (n1), .ref (n4), .ref (n11), .ref (n12), .int (tp), .int (fl)])), (n1, .inr (3, [.ref (n2), .ref (n3)])), (n2, .inl (ac 0, 4, .inl (cV z))), (n3, .inl (ac 0, 4, .inl (cW z))), (n4, .inl (ac 2, 3, .inr (.inr (.inr (.inr (jf)))))), (h0, .inr (2, [.ref (g0)])), (g0, .inl (ac 0, 48, .inl (qV z j1))), (rj, .inl (ac 0, 48, .inl (qV z j1))), (qe, .inl (ac 0, 16, .inl (cV z)))] sz (1)) args s 1 48 A) (F0 m 155 ls []) := by
              intro H locs hP hD hS ls hl
              refine lv_aload_n hx hb dL_toldJar_155 rfl (lv_at hl 4 rfl) ?_
              refine lv_iload_n hx hb dL_toldJar_156 rfl (lv_at hl 5 rfl) ?_
              refine lv_iload hx hb dL_toldJar_157 (lv_at hl 1 rfl) ?_
              refine lv_bipush (v := 7) hx hb dL_toldJar_159 (by decide) ?_
              refine z_ci (z_vrun (rest := []) (own := RL) (As := [.int (nI (j1)), .int (nI (i)), .int (7)]) hx hb hml hown hts hl.1 hK hP [0, 1, 2, 3, 4, 5, 6, 7] rfl (metX5_slice_0 l D ac x0 n0 y0 ch sp0 n1 n2 n3 n4 n11 n12 tp fl (cV z) (cW z) jf h0 g0 (qV z j1) j1 i 7 (by omega) (by omega) (by omega) (hjf)) gL_toldJar_X5_slice rfl 3 (by decide +kernel) ⟨rfl, rfl, Nat.le_of_ble_eq_true rfl, Nat.le_of_ble_eq_true rfl⟩ 0 5 rfl rfl rfl rfl rfl (Nat.le_of_ble_eq_true rfl) dL_toldJar_161 ⟨Nat.le_of_ble_eq_true rfl, Nat.le_of_ble_eq_true rfl⟩) ?_
              refine z_top (y := qLead (qV z j1) i) (rfl) ?_
              refine lv_aload_n hx hb dL_toldJar_164 rfl (lv_at hl 7 rfl) ?_
              refine lv_iload hx hb dL_toldJar_165 (lv_at hl 1 rfl) ?_
              refine z_ci (z_srun (rest := [.int (qLead (qV z j1) i)]) (own := RL) (As := [.ref (rj), .int (nI (i))]) hx hb hml hown hts hl.1 hK hP [8] rfl (metL_leading l D ac rj (qV z j1) i (by omega)) gL_toldJar_L_leading rfl 2 (by decide +kernel) ⟨rfl, rfl, Nat.le_of_ble_eq_true rfl, Nat.le_of_ble_eq_true rfl⟩ rfl rfl (Nat.le_of_ble_eq_true rfl) dL_toldJar_167 ⟨Nat.le_of_ble_eq_true rfl, Nat.le_of_ble_eq_true rfl⟩) ?_
              refine lv_icmp_ne (tgt := 213) hx hb dL_toldJar_170 (by decide) (fun c_170 => absurd c_170 (fun q => q (rfl))) (fun c_170 => ?_)
              refine lv_aload_n hx hb dL_toldJar_173 rfl (lv_at hl 4 rfl) ?_
              refine lv_iload_n hx hb dL_toldJar_174 rfl (lv_at hl 5 rfl) ?_
              refine lv_iload hx hb dL_toldJar_175 (lv_at hl 1 rfl) ?_
              refine lv_bipush (v := 8) hx hb dL_toldJar_177 (by decide) ?_
              refine z_ci (z_vrun (rest := []) (own := RL) (As := [.int (nI (j1)), .int (nI (i)), .int (8)]) hx hb hml hown hts hl.1 hK hP [0, 1, 2, 3, 4, 5, 6, 7] rfl (metX5_slice_0 l D ac x0 n0 y0 ch sp0 n1 n2 n3 n4 n11 n12 tp fl (cV z) (cW z) jf h0 g0 (qV z j1) j1 i 8 (by omega) (by omega) (by omega) (hjf)) gL_toldJar_X5_slice rfl 3 (by decide +kernel) ⟨rfl, rfl, Nat.le_of_ble_eq_true rfl, Nat.le_of_ble_eq_true rfl⟩ 0 5 rfl rfl rfl rfl rfl (Nat.le_of_ble_eq_true rfl) dL_toldJar_179 ⟨Nat.le_of_ble_eq_true rfl, Nat.le_of_ble_eq_true rfl⟩) ?_
              refine z_top (y := qFac (cV z 0) (qIn (qV z j1) i)) (rfl) ?_
              refine lv_aload_n hx hb dL_toldJar_182 rfl (lv_at hl 7 rfl) ?_
              refine lv_iload hx hb dL_toldJar_183 (lv_at hl 1 rfl) ?_
              refine lv_aload hx hb dL_toldJar_185 (lv_at hl 8 rfl) ?_
              refine z_ci (z_srun (rest := [.int (qFac (cV z 0) (qIn (qV z j1) i))]) (own := RL) (As := [.ref (rj), .int (nI (i)), .ref (qe)]) hx hb hml hown hts hl.1 hK hP [8, 9] rfl (metL_factor l D ac rj (qV z j1) qe (cV z) i (by omega) (l_div hG hj (by omega) rfl)) gL_toldJar_L_factor rfl 3 (by decide +kernel) ⟨rfl, rfl, Nat.le_of_ble_eq_true rfl, Nat.le_of_ble_eq_true rfl⟩ rfl rfl (Nat.le_of_ble_eq_true rfl) dL_toldJar_187 ⟨Nat.le_of_ble_eq_true rfl, Nat.le_of_ble_eq_true rfl⟩) ?_
              refine z_top (y := qFac (cV z 0) (qIn (qV z j1) i)) (e_fac hG hj (by omega)) ?_
              refine lv_icmp_ne (tgt := 213) hx hb dL_toldJar_190 (by decide) (fun c_190 => absurd c_190 (fun q => q (rfl))) (fun c_190 => ?_)
              refine lv_aload_n hx hb dL_toldJar_193 rfl (lv_at hl 4 rfl) ?_
              refine lv_iload_n hx hb dL_toldJar_194 rfl (lv_at hl 5 rfl) ?_
              refine lv_iload hx hb dL_toldJar_195 (lv_at hl 1 rfl) ?_
              refine lv_bipush (v := 9) hx hb dL_toldJar_197 (by decide) ?_
              refine z_ci (z_vrun (rest := []) (own := RL) (As := [.int (nI (j1)), .int (nI (i)), .int (9)]) hx hb hml hown hts hl.1 hK hP [0, 1, 2, 3, 4, 5, 6, 7] rfl (metX5_slice_0 l D ac x0 n0 y0 ch sp0 n1 n2 n3 n4 n11 n12 tp fl (cV z) (cW z) jf h0 g0 (qV z j1) j1 i 9 (by omega) (by omega) (by omega) (hjf)) gL_toldJar_X5_slice rfl 3 (by decide +kernel) ⟨rfl, rfl, Nat.le_of_ble_eq_true rfl, Nat.le_of_ble_eq_true rfl⟩ 0 5 rfl rfl rfl rfl rfl (Nat.le_of_ble_eq_true rfl) dL_toldJar_199 ⟨Nat.le_of_ble_eq_true rfl, Nat.le_of_ble_eq_true rfl⟩) ?_
              refine z_top (y := qRoom (cV z 1) (qIn (qV z j1) i)) (rfl) ?_
              refine lv_aload_n hx hb dL_toldJar_202 rfl (lv_at hl 7 rfl) ?_
              refine lv_iload hx hb dL_toldJar_203 (lv_at hl 1 rfl) ?_
              refine lv_aload hx hb dL_toldJar_205 (lv_at hl 8 rfl) ?_
              refine z_ci (z_srun (rest := [.int (qRoom (cV z 1) (qIn (qV z j1) i))]) (own := RL) (As := [.ref (rj), .int (nI (i)), .ref (qe)]) hx hb hml hown hts hl.1 hK hP [8, 9] rfl (metL_room l D ac rj (qV z j1) qe (cV z) i (by omega)) gL_toldJar_L_room rfl 3 (by decide +kernel) ⟨rfl, rfl, Nat.le_of_ble_eq_true rfl, Nat.le_of_ble_eq_true rfl⟩ rfl rfl (Nat.le_of_ble_eq_true rfl) dL_toldJar_207 ⟨Nat.le_of_ble_eq_true rfl, Nat.le_of_ble_eq_true rfl⟩) ?_
              refine z_top (y := qRoom (cV z 1) (qIn (qV z j1) i)) (l_room2 hG hj (by omega)) ?_
              refine lv_icmp_eq (tgt := 215) hx hb dL_toldJar_210 (by decide) (fun c_210 => ?_) (fun c_210 => absurd c_210 (fun q => q (rfl)))
              refine lv_lload hx hb dL_toldJar_215 (lv_at hl 2 rfl) ?_
              refine lv_iload hx hb dL_toldJar_217 (lv_at hl 1 rfl) ?_
              refine lv_i2l (v := (nI (i)).toInt64) hx hb dL_toldJar_219 rfl ?_
              refine lv_aload_n hx hb dL_toldJar_220 rfl (lv_at hl 7 rfl) ?_
              refine lv_iload hx hb dL_toldJar_221 (lv_at hl 1 rfl) ?_
              refine z_ci (z_srun (rest := [.long ((nI (i)).toInt64), .long (lDp (qV z j1) i)]) (own := RL) (As := [.ref (rj), .int (nI (i))]) hx hb hml hown hts hl.1 hK hP [8] rfl (metL_all l D ac rj (qV z j1) i (by omega)) gL_toldJar_L_all rfl 2 (by decide +kernel) ⟨rfl, rfl, Nat.le_of_ble_eq_true rfl, Nat.le_of_ble_eq_true rfl⟩ rfl rfl (Nat.le_of_ble_eq_true rfl) dL_toldJar_223 ⟨Nat.le_of_ble_eq_true rfl, Nat.le_of_ble_eq_true rfl⟩) ?_
              refine lv_i2l (v := (qIn (qV z j1) i).toInt64) hx hb dL_toldJar_226 rfl ?_
              refine lv_lmul hx hb dL_toldJar_227 ?_
              refine lv_ladd hx hb dL_toldJar_228 ?_
              refine lv_lstore (lv' := [(6, .long ((lDp (qV z j1) i) + (((nI (i)).toInt64) * ((qIn (qV z j1) i).toInt64)))), (9, .int (nI (4))), (8, .int (nI (i))), (5, .ref (rt)), (0, .ref (x0)), (1, .int (nI (j1))), (2, .int (nI (x1))), (3, .ref (rj)), (4, .ref (qe))]) hx hb dL_toldJar_229 hl (by decide) rfl (fun ls hl => ?_)
              refine lv_iinc (v := nI ((i) + 1)) (lv' := [(8, .int (nI ((i) + 1))), (6, .long ((lDp (qV z j1) i) + (((nI (i)).toInt64) * ((qIn (qV z j1) i).toInt64)))), (9, .int (nI (4))), (5, .ref (rt)), (0, .ref (x0)), (1, .int (nI (j1))), (2, .int (nI (x1))), (3, .ref (rj)), (4, .ref (qe))]) hx hb dL_toldJar_231 hl (k := 2) rfl (show nI (i) + Int32.ofInt 1 = _ from nI_add (i) 1) (by decide) rfl (fun ls hl => ?_)
              refine lv_goto (tgt := 12) hx hb dL_toldJar_234 (by decide) ?_
              exact ih (i + 1) (by omega) _ _ hP hD hS ls (lv_sub hl [0, 1, 3, 4, 5, 6, 7, 8] rfl)
            refine lv_aload_n hx hb dL_toldJar_125 rfl (lv_at hl 4 rfl) ?_
            refine lv_iload_n hx hb dL_toldJar_126 rfl (lv_at hl 5 rfl) ?_
            refine lv_iload hx hb dL_toldJar_127 (lv_at hl 1 rfl) ?_
            refine lv_bipush (v := 6) hx hb dL_toldJar_129 (by decide) ?_
            refine z_ci (z_vrun (rest := []) (own := RL) (As := [.int (nI (j1)), .int (nI (i)), .int (6)]) hx hb hml hown hts hl.1 hK hP [0, 1, 2, 3, 4, 5, 6, 7] rfl (metX5_slice_0 l D ac x0 n0 y0 ch sp0 n1 n2 n3 n4 n11 n12 tp fl (cV z) (cW z) jf h0 g0 (qV z j1) j1 i 6 (by omega) (by omega) (by omega) (hjf)) gL_toldJar_X5_slice rfl 3 (by decide +kernel) ⟨rfl, rfl, Nat.le_of_ble_eq_true rfl, Nat.le_of_ble_eq_true rfl⟩ 0 5 rfl rfl rfl rfl rfl (Nat.le_of_ble_eq_true rfl) dL_toldJar_131 ⟨Nat.le_of_ble_eq_true rfl, Nat.le_of_ble_eq_true rfl⟩) ?_
            refine z_top (y := if qIn (qV z j1) i ≤ cV z 2 then 1 else 0) (rfl) ?_
            refine lv_aload_n hx hb dL_toldJar_134 rfl (lv_at hl 7 rfl) ?_
            refine lv_iload hx hb dL_toldJar_135 (lv_at hl 1 rfl) ?_
            refine z_ci (z_srun (rest := [.int (if qIn (qV z j1) i ≤ cV z 2 then 1 else 0)]) (own := RL) (As := [.ref (rj), .int (nI (i))]) hx hb hml hown hts hl.1 hK hP [8] rfl (metL_all l D ac rj (qV z j1) i (by omega)) gL_toldJar_L_all rfl 2 (by decide +kernel) ⟨rfl, rfl, Nat.le_of_ble_eq_true rfl, Nat.le_of_ble_eq_true rfl⟩ rfl rfl (Nat.le_of_ble_eq_true rfl) dL_toldJar_137 ⟨Nat.le_of_ble_eq_true rfl, Nat.le_of_ble_eq_true rfl⟩) ?_
            refine lv_aload hx hb dL_toldJar_140 (lv_at hl 8 rfl) ?_
            refine lv_iconst (v := 2) hx hb dL_toldJar_142 (by decide) ?_
            refine z_iald hx hb hK hP 9 rfl (2) (rfl) (by omega) (by decide) dL_toldJar_143 ?_
            refine lv_icmp_gt (tgt := 151) hx hb dL_toldJar_144 (by decide) (fun c_144 => ?_) (fun c_144 => ?_)
            · refine lv_iconst (v := 0) hx hb dL_toldJar_151 (by decide) ?_
              refine lv_icmp_ne (tgt := 213) hx hb dL_toldJar_152 (by decide) (fun c_152 => absurd c_152 (fun q => q (if_neg (fun w => absurd c_144 (Int32.not_lt.mpr w))))) (fun c_152 => ?_)
              exact hJ_155   _ _ hP hD hS ls (lv_sub hl [0, 1, 2, 3, 4, 5, 6, 7, 8] rfl)
            · refine lv_iconst (v := 1) hx hb dL_toldJar_147 (by decide) ?_
              refine lv_goto (tgt := 152) hx hb dL_toldJar_148 (by decide) ?_
              refine lv_icmp_ne (tgt := 213) hx hb dL_toldJar_152 (by decide) (fun c_152 => absurd c_152 (fun q => q (if_pos (Int32.not_lt.mp c_144)))) (fun c_152 => ?_)
              exact hJ_155   _ _ hP hD hS ls (lv_sub hl [0, 1, 2, 3, 4, 5, 6, 7, 8] rfl)
          refine lv_aload_n hx hb dL_toldJar_96 rfl (lv_at hl 4 rfl) ?_
          refine lv_iload_n hx hb dL_toldJar_97 rfl (lv_at hl 5 rfl) ?_
          refine lv_iload hx hb dL_toldJar_98 (lv_at hl 1 rfl) ?_
          refine lv_iconst (v := 5) hx hb dL_toldJar_100 (by decide) ?_
          refine z_ci (z_vrun (rest := []) (own := RL) (As := [.int (nI (j1)), .int (nI (i)), .int (5)]) hx hb hml hown hts hl.1 hK hP [0, 1, 2, 3, 4, 5, 6, 7] rfl (metX5_slice_0 l D ac x0 n0 y0 ch sp0 n1 n2 n3 n4 n11 n12 tp fl (cV z) (cW z) jf h0 g0 (qV z j1) j1 i 5 (by omega) (by omega) (by omega) (hjf)) gL_toldJar_X5_slice rfl 3 (by decide +kernel) ⟨rfl, rfl, Nat.le_of_ble_eq_true rfl, Nat.le_of_ble_eq_true rfl⟩ 0 5 rfl rfl rfl rfl rfl (Nat.le_of_ble_eq_true rfl) dL_toldJar_101 ⟨Nat.le_of_ble_eq_true rfl, Nat.le_of_ble_eq_true rfl⟩) ?_
          refine z_top (y := if cV z 1 ≤ qIn (qV z j1) i then 1 else 0) (rfl) ?_
          refine lv_aload_n hx hb dL_toldJar_104 rfl (lv_at hl 7 rfl) ?_
          refine lv_iload hx hb dL_toldJar_105 (lv_at hl 1 rfl) ?_
          refine z_ci (z_srun (rest := [.int (if cV z 1 ≤ qIn (qV z j1) i then 1 else 0)]) (own := RL) (As := [.ref (rj), .int (nI (i))]) hx hb hml hown hts hl.1 hK hP [8] rfl (metL_all l D ac rj (qV z j1) i (by omega)) gL_toldJar_L_all rfl 2 (by decide +kernel) ⟨rfl, rfl, Nat.le_of_ble_eq_true rfl, Nat.le_of_ble_eq_true rfl⟩ rfl rfl (Nat.le_of_ble_eq_true rfl) dL_toldJar_107 ⟨Nat.le_of_ble_eq_true rfl, Nat.le_of_ble_eq_true rfl⟩) ?_
          refine lv_aload hx hb dL_toldJar_110 (lv_at hl 8 rfl) ?_
          refine lv_iconst (v := 1) hx hb dL_toldJar_112 (by decide) ?_
          refine z_iald hx hb hK hP 9 rfl (1) (rfl) (by omega) (by decide) dL_toldJar_113 ?_
          refine lv_icmp_lt (tgt := 121) hx hb dL_toldJar_114 (by decide) (fun c_114 => ?_) (fun c_114 => ?_)
          · refine lv_iconst (v := 0) hx hb dL_toldJar_121 (by decide) ?_
            refine lv_icmp_ne (tgt := 213) hx hb dL_toldJar_122 (by decide) (fun c_122 => absurd c_122 (fun q => q (if_neg (fun w => absurd c_114 (Int32.not_lt.mpr w))))) (fun c_122 => ?_)
            exact hJ_125   _ _ hP hD hS ls (lv_sub hl [0, 1, 2, 3, 4, 5, 6, 7, 8] rfl)
          · refine lv_iconst (v := 1) hx hb dL_toldJar_117 (by decide) ?_
            refine lv_goto (tgt := 122) hx hb dL_toldJar_118 (by decide) ?_
            refine lv_icmp_ne (tgt := 213) hx hb dL_toldJar_122 (by decide) (fun c_122 => absurd c_122 (fun q => q (if_pos (Int32.not_lt.mp c_114)))) (fun c_122 => ?_)
            exact hJ_125   _ _ hP hD hS ls (lv_sub hl [0, 1, 2, 3, 4, 5, 6, 7, 8] rfl)
        | succ nq ih =>
          intro u9 hu9 H locs hP hD hS ls hl
          refine lv_iload hx hb dL_toldJar_22 (lv_at hl 0 rfl) ?_
          refine lv_iconst (v := 4) hx hb dL_toldJar_24 (by decide) ?_
          refine z_icmp_ge (tgt := 79) hx hb (u9) (4) dL_toldJar_25 (by decide) (by omega) (by omega) rfl rfl (fun c_25 => absurd c_25 (by omega)) (fun c_25 => ?_)
          refine lv_aload_n hx hb dL_toldJar_28 rfl (lv_at hl 4 rfl) ?_
          refine lv_iload_n hx hb dL_toldJar_29 rfl (lv_at hl 5 rfl) ?_
          refine lv_iload hx hb dL_toldJar_30 (lv_at hl 1 rfl) ?_
          refine lv_iload hx hb dL_toldJar_32 (lv_at hl 0 rfl) ?_
          refine z_ci (z_vrun (rest := []) (own := RL) (As := [.int (nI (j1)), .int (nI (i)), .int (nI (u9))]) hx hb hml hown hts hl.1 hK hP [0, 1, 2, 3, 4, 5, 6, 7] rfl (metX5_slice_0 l D ac x0 n0 y0 ch sp0 n1 n2 n3 n4 n11 n12 tp fl (cV z) (cW z) jf h0 g0 (qV z j1) j1 i u9 (by omega) (by omega) (by omega) (hjf)) gL_toldJar_X5_slice rfl 3 (by decide +kernel) ⟨rfl, rfl, Nat.le_of_ble_eq_true rfl, Nat.le_of_ble_eq_true rfl⟩ 0 5 rfl rfl rfl rfl rfl (Nat.le_of_ble_eq_true rfl) dL_toldJar_34 ⟨Nat.le_of_ble_eq_true rfl, Nat.le_of_ble_eq_true rfl⟩) ?_
          refine z_top (y := qV z j1 (4 * i + u9)) (l_sl (by omega)) ?_
          refine lv_aload_n hx hb dL_toldJar_37 rfl (lv_at hl 7 rfl) ?_
          refine lv_iconst (v := 4) hx hb dL_toldJar_38 (by decide) ?_
          refine lv_iload hx hb dL_toldJar_39 (lv_at hl 1 rfl) ?_
          refine lv_imul hx hb dL_toldJar_41 ?_
          refine z_top (y := nI ((4) * (i))) (pk_mul (4) (i)) ?_
          refine lv_iload hx hb dL_toldJar_42 (lv_at hl 0 rfl) ?_
          refine lv_iadd hx hb dL_toldJar_44 ?_
          refine z_top (y := nI (((4) * (i)) + (u9))) (nI_add ((4) * (i)) (u9)) ?_
          refine z_iald hx hb hK hP 8 rfl (((4) * (i)) + (u9)) (rfl) (by omega) (by decide) dL_toldJar_45 ?_
          refine lv_icmp_ne (tgt := 71) hx hb dL_toldJar_46 (by decide) (fun c_46 => absurd c_46 (fun q => q (rfl))) (fun c_46 => ?_)
          refine lv_aload_n hx hb dL_toldJar_49 rfl (lv_at hl 4 rfl) ?_
          refine lv_iload_n hx hb dL_toldJar_50 rfl (lv_at hl 5 rfl) ?_
          refine lv_iload hx hb dL_toldJar_51 (lv_at hl 1 rfl) ?_
          refine lv_iload hx hb dL_toldJar_53 (lv_at hl 0 rfl) ?_
          refine z_ci (z_vrun (rest := []) (own := RL) (As := [.int (nI (j1)), .int (nI (i)), .int (nI (u9))]) hx hb hml hown hts hl.1 hK hP [0, 1, 2, 3, 4, 5, 6, 7] rfl (metX5_why_0 l D ac x0 n0 y0 ch sp0 n1 n2 n3 n4 n11 n12 tp fl (cV z) (cW z) jf h0 g0 (qV z j1) j1 i u9 (by omega) (by omega) (by omega) (hjf)) gL_toldJar_X5_why rfl 3 (by decide +kernel) ⟨rfl, rfl, Nat.le_of_ble_eq_true rfl, Nat.le_of_ble_eq_true rfl⟩ 0 5 rfl rfl rfl rfl rfl (Nat.le_of_ble_eq_true rfl) dL_toldJar_55 ⟨Nat.le_of_ble_eq_true rfl, Nat.le_of_ble_eq_true rfl⟩) ?_
          refine z_top (y := mWhy z j1 i u9) ((e_why hG hj (by omega)).symm) ?_
          refine lv_aload_n hx hb dL_toldJar_58 rfl (lv_at hl 7 rfl) ?_
          refine lv_iload hx hb dL_toldJar_59 (lv_at hl 1 rfl) ?_
          refine lv_iload hx hb dL_toldJar_61 (lv_at hl 0 rfl) ?_
          refine lv_aload hx hb dL_toldJar_63 (lv_at hl 8 rfl) ?_
          refine z_ci (z_srun (rest := [.int (mWhy z j1 i u9)]) (own := RL) (As := [.ref (rj), .int (nI (i)), .int (nI (u9)), .ref (qe)]) hx hb hml hown hts hl.1 hK hP [8, 9] rfl (metL_why l D ac z j1 rj qe (cV z) i u9 (by omega) (by omega) (by omega) (hG) (rfl)) gL_toldJar_L_why rfl 4 (by decide +kernel) ⟨rfl, rfl, Nat.le_of_ble_eq_true rfl, Nat.le_of_ble_eq_true rfl⟩ rfl rfl (Nat.le_of_ble_eq_true rfl) dL_toldJar_65 ⟨Nat.le_of_ble_eq_true rfl, Nat.le_of_ble_eq_true rfl⟩) ?_
          refine lv_icmp_eq (tgt := 73) hx hb dL_toldJar_68 (by decide) (fun c_68 => ?_) (fun c_68 => absurd c_68 (fun q => q (rfl)))
          refine lv_iinc (v := nI ((u9) + 1)) (lv' := [(9, .int (nI ((u9) + 1))), (8, .int (nI (i))), (6, .long (lDp (qV z j1) i)), (5, .ref (rt)), (0, .ref (x0)), (1, .int (nI (j1))), (2, .int (nI (x1))), (3, .ref (rj)), (4, .ref (qe))]) hx hb dL_toldJar_73 hl (k := 0) rfl (show nI (u9) + Int32.ofInt 1 = _ from nI_add (u9) 1) (by decide) rfl (fun ls hl => ?_)
          refine lv_goto (tgt := 22) hx hb dL_toldJar_76 (by decide) ?_
          exact ih (u9 + 1) (by omega) _ _ hP hD hS ls (lv_sub hl [0, 1, 2, 3, 4, 5, 6, 7, 8] rfl)
      exact hL_22 (4) (0) (by omega) _ _ hP hD hS ls (lv_sub hl [0, 1, 2, 3, 4, 5, 6, 7, 8] rfl)
  exact hL_12 (12) (0) (by omega) _ _ hP hD hS ls (lv_sub hl [0, 1, 2, 3, 4, 5, 6, 7] rfl)

