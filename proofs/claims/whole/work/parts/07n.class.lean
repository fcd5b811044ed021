set_option maxRecDepth 100000 in
set_option maxHeartbeats 4000000 in
theorem metX5_bitsOf (l : Launch) (D : va_G) (ac : Nat → ClassId) (g : Nat → Int32) (hbo : qBitOk g) : Met l yX5_bitsOf wsX5_bitsOf ({ frames := 0, cells := 0, slots := 0, locals := 0 } : Room) (va_Pc [.double (qMean g)] (zW D ac [])) (zRl (qBits (qMean g))) 0 0 (fun _ => False) := by sorry

set_option maxRecDepth 100000 in
set_option maxHeartbeats 4000000 in
theorem metX5_hashWithJar (l : Launch) (D : va_G) (ac : Nat → ClassId) (sz : Nat) (x0 : Nat) (n0 : Nat) (y0 : Nat) (ch : Nat) (sp0 : Nat) (n1 : Nat) (n2 : Nat) (n3 : Nat) (n4 : Nat) (n11 : Nat) (n12 : Nat) (tp : Int32) (fl : Int32) (v : Nat → Int32) (w : Nat → Int32) (jf : Nat → Option Nat) (h0 : Nat) (g0 : Nat) (g : Nat → Int32) (sg : Nat) (gs : Nat → Int32) (j1 : Nat) (hh : Int64) (hj : j1 < 3) (hjf : jf j1 = some h0) (hbo : qBitOk g) : Met l yX5_hashWithJar wsX5_hashWithJar ({ frames := 5, cells := 0, slots := 0, locals := 119 } : Room) (va_Pc [.ref (x0), .long (hh), .int (nI (j1))] (zS D ac [(x0, .inr (5, [.ref (n0), .ref (y0), .ref (ch), .ref (sp0)])), (n0, .inr (4, [.ref (n1), .ref (n4), .ref (n11), .ref (n12), .int (tp), .int (fl)])), (n1, .inr (3, [.ref (n2), .ref (n3)])), (n2, .inl (ac 0, 4, .inl (v))), (n3, .inl (ac 0, 4, .inl (w))), (n4, .inl (ac 2, 3, .inr (.inr (.inr (.inr (jf)))))), (h0, .inr (2, [.ref (g0)])), (g0, .inl (ac 0, 48, .inl (g))), (sp0, .inr (2, [.ref (sg)])), (sg, .inl (ac 0, 48, .inl (gs)))] sz)) (zQl D ac [(x0, .inr (5, [.ref (n0), .ref (y0), .ref (ch), .ref (sp0)])), (n0, .inr (4, [.ref (n1), .ref (n4), .ref (n11), .ref (n12), .int (tp), .int (fl)])), (n1, .inr (3, [.ref (n2), .ref (n3)])), (n2, .inl (ac 0, 4, .inl (v))), (n3, .inl (ac 0, 4, .inl (w))), (n4, .inl (ac 2, 3, .inr (.inr (.inr (.inr (jf)))))), (h0, .inr (2, [.ref (g0)])), (g0, .inl (ac 0, 48, .inl (g))), (sp0, .inr (2, [.ref (sg)])), (sg, .inl (ac 0, 48, .inl (gs)))] [(x0, .inr (5, [.ref (n0), .ref (y0), .ref (ch), .ref (sp0)])), (n0, .inr (4, [.ref (n1), .ref (n4), .ref (n11), .ref (n12), .int (tp), .int (fl)])), (n1, .inr (3, [.ref (n2), .ref (n3)])), (n2, .inl (ac 0, 4, .inl (v))), (n3, .inl (ac 0, 4, .inl (w))), (n4, .inl (ac 2, 3, .inr (.inr (.inr (.inr (jf)))))), (h0, .inr (2, [.ref (g0)])), (g0, .inl (ac 0, 48, .inl (g))), (sp0, .inr (2, [.ref (sg)])), (sg, .inl (ac 0, 48, .inl ((qRi v w 601 0 g).2)))] sz (qHj v w g hh)) 0 0 (va_A [(x0, .inr (5, [.ref (n0), .ref (y0), .ref (ch), .ref (sp0)])), (n0, .inr (4, [.ref (n1), .ref (n4), .ref (n11), .ref (n12), .int (tp), .int (fl)])), (n1, .inr (3, [.ref (n2), .ref (n3)])), (n2, .inl (ac 0, 4, .inl (v))), (n3, .inl (ac 0, 4, .inl (w))), (n4, .inl (ac 2, 3, .inr (.inr (.inr (.inr (jf)))))), (h0, .inr (2, [.ref (g0)])), (g0, .inl (ac 0, 48, .inl (g))), (sp0, .inr (2, [.ref (sg)])), (sg, .inl (ac 0, 48, .inl (gs)))] sz) := by
  refine z_rw (cc := cX5_hashWithJar) (maxL := 9) (ret := (some .long)) (lv := [(0, .ref (x0)), (1, .long (hh)), (3, .int (nI (j1)))]) (by decide) rfl (Nat.le_of_ble_eq_true rfl) rfl ?_
  intro p e s m args below meth c ls A hx hb hr hml hown hts hlocks hl hK hP hsz hAe hA hD hS
  refine lv_lload_n hx hb dX5_hashWithJar_0 rfl (lv_at hl 1 rfl) ?_
  refine lv_lstore (lv' := [(4, .long (hh)), (0, .ref (x0)), (1, .long (hh)), (3, .int (nI (j1)))]) hx hb dX5_hashWithJar_1 hl (by decide) rfl (fun ls hl => ?_)
  refine lv_aload_n hx hb dX5_hashWithJar_3 rfl (lv_at hl 1 rfl) ?_
  refine va_get (ci := 5) (v := .ref (n0)) (C := RX5) (T := TX5) (N := 4) hx hb hts (by decide +kernel) hown hK hP 0 rfl rfl 0 (by decide) (hts (.fieldLink RX5 12 "SettlingJars" "now" "LSettlingJars$State;") (by decide +kernel)) (fun _ h9 => h9) rfl dX5_hashWithJar_4 ?_
  refine va_get (ci := 4) (v := .ref (n4)) (C := RX4) (T := TX4) (N := 6) hx hb hts (by decide +kernel) hown hK hP 1 rfl rfl 1 (by decide) (hts (.fieldLink RX5 71 "SettlingJars$State" "jars" "[LSettlingJars$Jar;") (by decide +kernel)) (fun _ h9 => h9) rfl dX5_hashWithJar_7 ?_
  refine lv_iload_n hx hb dX5_hashWithJar_10 rfl (lv_at hl 3 rfl) ?_
  refine z_aald hx hb hK hP 5 2 rfl rfl (j1) (congrArg nI (by omega)) (by omega) (by decide) (hjf) dX5_hashWithJar_11 ?_
  refine lv_astore (lv' := [(6, .ref (h0)), (4, .long (hh)), (0, .ref (x0)), (1, .long (hh)), (3, .int (nI (j1)))]) hx hb dX5_hashWithJar_12 hl (by decide) rfl (fun ls hl => ?_)
  refine lv_iconst (v := 0) hx hb dX5_hashWithJar_14 (by decide) ?_
  refine lv_istore (lv' := [(7, .int (0)), (6, .ref (h0)), (4, .long (hh)), (0, .ref (x0)), (1, .long (hh)), (3, .int (nI (j1)))]) hx hb dX5_hashWithJar_15 hl (by decide) rfl (fun ls hl => ?_)
  have hL_17 : ∀ (n : Nat) (i : Nat), (i + n = 10) → ∀ (H : Heap) (locs : List Loc), va_P D vwCl [(x0, .inr (5, [.ref (n0), .ref (y0), .ref (ch), .ref (sp0)])), (n0, .inr (4, [.ref (n1), .ref (n4), .ref (n11), .ref (n12), .int (tp), .int (fl)])), (n1, .inr (3, [.ref (n2), .ref (n3)])), (n2, .inl (ac 0, 4, .inl (v))), (n3, .inl (ac 0, 4, .inl (w))), (n4, .inl (ac 2, 3, .inr (.inr (.inr (.inr (jf)))))), (h0, .inr (2, [.ref (g0)])), (g0, .inl (ac 0, 48, .inl (g))), (sp0, .inr (2, [.ref (sg)])), (sg, .inl (ac 0, 48, .inl (gs)))] H → va_D A [(x0, .inr (5, [.ref (n0), .ref (y0), .ref (ch), .ref (sp0)])), (n0, .inr (4, [.ref (n1), .ref (n4), .ref (n11), .ref (n12), .int (tp), .int (fl)])), (n1, .inr (3, [.ref (n2), .ref (n3)])), (n2, .inl (ac 0, 4, .inl (v))), (n3, .inl (ac 0, 4, .inl (w))), (n4, .inl (ac 2, 3, .inr (.inr (.inr (.inr (jf)))))), (h0, .inr (2, [.ref (g0)])), (g0, .inl (ac 0, 48, .inl (g))), (sp0, .inr (2, [.ref (sg)])), (sg, .inl (ac 0, 48, .inl (gs)))] → va_S A s.heap H locs → ∀ (ls : Array Slot), lv_has ls 9 [(7, .int (nI (i))), (6, .ref (h0)), (4, .long (qMix hh (qJar g v w) i)), (0, .ref (x0)), (1, .long (hh)), (3, .int (nI (j1)))] → W p l e ({ frames := 5, cells := 0, slots := 0, locals := 119 } : Room) s m args below meth c H locs 0 0 (MQ below (zQl D ac [(x0, .inr (5, [.ref (n0), .ref (y0), .ref (ch), .ref (sp0)])), (n0, .inr (4, [.ref (n1), .ref (n4), .ref (n11), .ref (n12), .int (tp), .int (fl)])), (n1, .inr (3, [.ref (n2), .ref (n3)])), (n2, .inl (ac 0, 4, .inl (v))), (n3, .inl (ac 0, 4, .inl (w))), (n4, .inl (ac 2, 3, .inr (.inr (.inr (.inr (jf)))))), (h0, .inr (2, [.ref (g0)])), (g0, .inl (ac 0, 48, .inl (g))), (sp0, .inr (2, [.ref (sg)])), (sg, .inl (ac 0, 48, .inl (gs)))] [(x0, .inr (5, [.ref (n0), .ref (y0), .ref (ch), .ref (sp0)])), (n0, .inr (4, [.ref (n1), .ref (n4), .ref (n11), .ref (n12), .int (tp), .int (fl)])), (n1, .inr (3, [.ref (n2), .ref (n3)])), (n2, .inl (ac 0, 4, .inl (v))), (n3, .inl (ac 0, 4, .inl (w))), (n4, .inl (ac 2, 3, .inr (.inr (.inr (.inr (jf)))))), (h0, .inr (2, [.ref (g0)])), (g0, .inl (ac 0, 48, .inl (g))), (sp0, .inr (2, [.ref (sg)])), (sg, .inl (ac 0, 48, .inl ((qRi v w 601 0 g).2)))] sz (qHj v w g hh)) args s 0 0 A) (F0 m 17 ls []) := by
    intro n
    induction n with
    | zero =>
      intro i hi H locs hP hD hS ls hl
      have e_i : 10 = i := by omega
      subst e_i
      refine lv_iload hx hb dX5_hashWithJar_17 (lv_at hl 0 rfl) ?_
      refine lv_bipush (v := 10) hx hb dX5_hashWithJar_19 (by decide) ?_
      refine z_icmp_ge (tgt := 54) hx hb (10) (10) dX5_hashWithJar_21 (by decide) (by omega) (by omega) rfl rfl (fun c_21 => ?_) (fun c_21 => absurd c_21 (by omega))
      refine lv_iconst (v := 0) hx hb dX5_hashWithJar_54 (by decide) ?_
      refine lv_istore (lv' := [(7, .int (0)), (6, .ref (h0)), (4, .long (qMix hh (qJar g v w) 10)), (0, .ref (x0)), (1, .long (hh)), (3, .int (nI (j1)))]) hx hb dX5_hashWithJar_55 hl (by decide) rfl (fun ls hl => ?_)
      have hL_57 : ∀ (n : Nat) (i : Nat), (i + n = 12) → ∀ (H : Heap) (locs : List Loc), va_P D vwCl [(x0, .inr (5, [.ref (n0), .ref (y0), .ref (ch), .ref (sp0)])), (n0, .inr (4, [.ref (n1), .ref (n4), .ref (n11), .ref (n12), .int (tp), .int (fl)])), (n1, .inr (3, [.ref (n2), .ref (n3)])), (n2, .inl (ac 0, 4, .inl (v))), (n3, .inl (ac 0, 4, .inl (w))), (n4, .inl (ac 2, 3, .inr (.inr (.inr (.inr (jf)))))), (h0, .inr (2, [.ref (g0)])), (g0, .inl (ac 0, 48, .inl (g))), (sp0, .inr (2, [.ref (sg)])), (sg, .inl (ac 0, 48, .inl (gs)))] H → va_D A [(x0, .inr (5, [.ref (n0), .ref (y0), .ref (ch), .ref (sp0)])), (n0, .inr (4, [.ref (n1), .ref (n4), .ref (n11), .ref (n12), .int (tp), .int (fl)])), (n1, .inr (3, [.ref (n2), .ref (n3)])), (n2, .inl (ac 0, 4, .inl (v))), (n3, .inl (ac 0, 4, .inl (w))), (n4, .inl (ac 2, 3, .inr (.inr (.inr (.inr (jf)))))), (h0, .inr (2, [.ref (g0)])), (g0, .inl (ac 0, 48, .inl (g))), (sp0, .inr (2, [.ref (sg)])), (sg, .inl (ac 0, 48, .inl (gs)))] → va_S A s.heap H locs → ∀ (ls : Array Slot), lv_has ls 9 [(7, .int (nI (i))), (6, .ref (h0)), (4, .long (qMixS (qMix hh (qJar g v w) 10) g v w i)), (0, .ref (x0)), (1, .long (hh)), (3, .int (nI (j1)))] → W p l e ({ frames := 5, cells := 0, slots := 0, locals := 119 } : Room) s m args below meth c H locs 0 0 (MQ below (zQl D ac [(x0, .inr (5, [.ref (n0), .ref (y0), .ref (ch), .ref (sp0)])), (n0, .inr (4, [.ref (n1), .ref (n4), .ref (n11), .ref (n12), .int (tp), .int (fl)])), (n1, .inr (3, [.ref (n2), .ref (n3)])), (n2, .inl (ac 0, 4, .inl (v))), (n3, .inl (ac 0, 4, .inl (w))), (n4, .inl (ac 2, 3, .inr (.inr (.inr (.inr (jf)))))), (h0, .inr (2, [.ref (g0)])), (g0, .inl (ac 0, 48, .inl (g))), (sp0, .inr (2, [.ref (sg)])), (sg, .inl (ac 0, 48, .inl (gs)))] [(x0, .inr (5, [.ref (n0), .ref (y0), .ref (ch), .ref (sp0)])), (n0, .inr (4, [.ref (n1), .ref (n4), .ref (n11), .ref (n12), .int (tp), .int (fl)])), (n1, .inr (3, [.ref (n2), .ref (n3)])), (n2, .inl (ac 0, 4, .inl (v))), (n3, .inl (ac 0, 4, .inl (w))), (n4, .inl (ac 2, 3, .inr (.inr (.inr (.inr (jf)))))), (h0, .inr (2, [.ref (g0)])), (g0, .inl (ac 0, 48, .inl (g))), (sp0, .inr (2, [.ref (sg)])), (sg, .inl (ac 0, 48, .inl ((qRi v w 601 0 g).2)))] sz (qHj v w g hh)) args s 0 0 A) (F0 m 57 ls []) := by
        intro n
        induction n with
        | zero =>
          intro i hi H locs hP hD hS ls hl
          have e_i : 12 = i := by omega
          subst e_i
          refine lv_iload hx hb dX5_hashWithJar_57 (lv_at hl 0 rfl) ?_
          refine lv_bipush (v := 12) hx hb dX5_hashWithJar_59 (by decide) ?_
          refine z_icmp_ge (tgt := 112) hx hb (12) (12) dX5_hashWithJar_61 (by decide) (by omega) (by omega) rfl rfl (fun c_61 => ?_) (fun c_61 => absurd c_61 (by omega))
          refine lv_iconst (v := 0) hx hb dX5_hashWithJar_112 (by decide) ?_
          refine lv_istore (lv' := [(7, .int (0)), (6, .ref (h0)), (4, .long (qMixS (qMix hh (qJar g v w) 10) g v w 12)), (0, .ref (x0)), (1, .long (hh)), (3, .int (nI (j1)))]) hx hb dX5_hashWithJar_113 hl (by decide) rfl (fun ls hl => ?_)
          have hL_115 : ∀ (n : Nat) (i : Nat), (i + n = 4) → ∀ (H : Heap) (locs : List Loc), va_P D vwCl [(x0, .inr (5, [.ref (n0), .ref (y0), .ref (ch), .ref (sp0)])), (n0, .inr (4, [.ref (n1), .ref (n4), .ref (n11), .ref (n12), .int (tp), .int (fl)])), (n1, .inr (3, [.ref (n2), .ref (n3)])), (n2, .inl (ac 0, 4, .inl (v))), (n3, .inl (ac 0, 4, .inl (w))), (n4, .inl (ac 2, 3, .inr (.inr (.inr (.inr (jf)))))), (h0, .inr (2, [.ref (g0)])), (g0, .inl (ac 0, 48, .inl (g))), (sp0, .inr (2, [.ref (sg)])), (sg, .inl (ac 0, 48, .inl (gs)))] H → va_D A [(x0, .inr (5, [.ref (n0), .ref (y0), .ref (ch), .ref (sp0)])), (n0, .inr (4, [.ref (n1), .ref (n4), .ref (n11), .ref (n12), .int (tp), .int (fl)])), (n1, .inr (3, [.ref (n2), .ref (n3)])), (n2, .inl (ac 0, 4, .inl (v))), (n3, .inl (ac 0, 4, .inl (w))), (n4, .inl (ac 2, 3, .inr (.inr (.inr (.inr (jf)))))), (h0, .inr (2, [.ref (g0)])), (g0, .inl (ac 0, 48, .inl (g))), (sp0, .inr (2, [.ref (sg)])), (sg, .inl (ac 0, 48, .inl (gs)))] → va_S A s.heap H locs → ∀ (ls : Array Slot), lv_has ls 9 [(7, .int (nI (i))), (6, .ref (h0)), (4, .long (qMix (qMixS (qMix hh (qJar g v w) 10) g v w 12) (fun c => (qPu g c 12).1) i)), (0, .ref (x0)), (1, .long (hh)), (3, .int (nI (j1)))] → W p l e ({ frames := 5, cells := 0, slots := 0, locals := 119 } : Room) s m args below meth c H locs 0 0 (MQ below (zQl D ac [(x0, .inr (5, [.ref (n0), .ref (y0), .ref (ch), .ref (sp0)])), (n0, .inr (4, [.ref (n1), .ref (n4), .ref (n11), .ref (n12), .int (tp), .int (fl)])), (n1, .inr (3, [.ref (n2), .ref (n3)])), (n2, .inl (ac 0, 4, .inl (v))), (n3, .inl (ac 0, 4, .inl (w))), (n4, .inl (ac 2, 3, .inr (.inr (.inr (.inr (jf)))))), (h0, .inr (2, [.ref (g0)])), (g0, .inl (ac 0, 48, .inl (g))), (sp0, .inr (2, [.ref (sg)])), (sg, .inl (ac 0, 48, .inl (gs)))] [(x0, .inr (5, [.ref (n0), .ref (y0), .ref (ch), .ref (sp0)])), (n0, .inr (4, [.ref (n1), .ref (n4), .ref (n11), .ref (n12), .int (tp), .int (fl)])), (n1, .inr (3, [.ref (n2), .ref (n3)])), (n2, .inl (ac 0, 4, .inl (v))), (n3, .inl (ac 0, 4, .inl (w))), (n4, .inl (ac 2, 3, .inr (.inr (.inr (.inr (jf)))))), (h0, .inr (2, [.ref (g0)])), (g0, .inl (ac 0, 48, .inl (g))), (sp0, .inr (2, [.ref (sg)])), (sg, .inl (ac 0, 48, .inl ((qRi v w 601 0 g).2)))] sz (qHj v w g hh)) args s 0 0 A) (F0 m 115 ls []) := by
            intro n
            induction n with
            | zero =>
              intro i hi H locs hP hD hS ls hl
              have e_i : 4 = i := by omega
              subst e_i
              refine lv_iload hx hb dX5_hashWithJar_115 (lv_at hl 0 rfl) ?_
              refine lv_iconst (v := 4) hx hb dX5_hashWithJar_117 (by decide) ?_
              refine z_icmp_ge (tgt := 144) hx hb (4) (4) dX5_hashWithJar_118 (by decide) (by omega) (by omega) rfl rfl (fun c_118 => ?_) (fun c_118 => absurd c_118 (by omega))
              refine lv_ldc2 (own := RX5) hx hb hown (hts (.constantLong RX5 214 (31)) (by decide +kernel)) dX5_hashWithJar_144 ?_
              refine lv_lload hx hb dX5_hashWithJar_147 (lv_at hl 2 rfl) ?_
              refine lv_lmul hx hb dX5_hashWithJar_149 ?_
              refine lv_aload_n hx hb dX5_hashWithJar_150 rfl (lv_at hl 3 rfl) ?_
              refine lv_iload_n hx hb dX5_hashWithJar_151 rfl (lv_at hl 5 rfl) ?_
              refine lv_iconst (v := 3) hx hb dX5_hashWithJar_152 (by decide) ?_
              refine z_ciW [(x0, .inr (5, [.ref (n0), .ref (y0), .ref (ch), .ref (sp0)])), (n0, .inr (4, [.ref (n1), .ref (n4), .ref (n11), .ref (n12), .int (tp), .int (fl)])), (n1, .inr (3, [.ref (n2), .ref (n3)])), (n2, .inl (ac 0, 4, .inl (v))), (n3, .inl (ac 0, 4, .inl (w))), (n4, .inl (ac 2, 3, .inr (.inr (.inr (.inr (jf)))))), (h0, .inr (2, [.ref (g0)])), (g0, .inl (ac 0, 48, .inl (g))), (sp0, .inr (2, [.ref (sg)])), (sg, .inl (ac 0, 48, .inl ((qCi v w 3 301 0 g).2)))] (z_vrunW (rest := [.long ((31) * (qMix (qMixS (qMix hh (qJar g v w) 10) g v w 12) (fun c => (qPu g c 12).1) 4))]) (own := RX5) (As := [.int (nI (j1)), .int (3)]) hx hb hml hown hts hl.1 hK hP hD [0, 1, 2, 3, 4, 5, 6, 7, 8, 9] rfl (by decide) rfl (metX5_clearIn_0 l D ac _ x0 n0 y0 ch sp0 n1 n2 n3 n4 n11 n12 tp fl v w jf h0 g0 g sg gs j1 3 (by omega) (by omega) (hjf)) gX5_hashWithJar_X5_clearIn rfl 2 (by decide +kernel) ⟨rfl, rfl, Nat.le_of_ble_eq_true rfl, Nat.le_of_ble_eq_true rfl⟩ 0 5 rfl rfl rfl rfl rfl (Nat.le_of_ble_eq_true rfl) dX5_hashWithJar_153 ⟨Nat.zero_le _, Nat.zero_le _⟩) hP hD hS hA [0, 1, 2, 3, 4, 5, 6, 7, 8, 9] [] [0, 1, 2, 3, 4, 5, 6, 7, 8, 9] rfl rfl (by decide) (by decide) (by decide) rfl (fun H locs hP hD hS => ?_)
              refine lv_i2l (v := ((qCi v w 3 301 0 g).1).toInt64) hx hb dX5_hashWithJar_156 rfl ?_
              refine lv_ladd hx hb dX5_hashWithJar_157 ?_
              refine lv_lstore (lv' := [(4, .long (((31) * (qMix (qMixS (qMix hh (qJar g v w) 10) g v w 12) (fun c => (qPu g c 12).1) 4)) + (((qCi v w 3 301 0 g).1).toInt64))), (7, .int (nI (4))), (6, .ref (h0)), (0, .ref (x0)), (1, .long (hh)), (3, .int (nI (j1)))]) hx hb dX5_hashWithJar_158 hl (by decide) rfl (fun ls hl => ?_)
              refine lv_ldc2 (own := RX5) hx hb hown (hts (.constantLong RX5 214 (31)) (by decide +kernel)) dX5_hashWithJar_160 ?_
              refine lv_lload hx hb dX5_hashWithJar_163 (lv_at hl 0 rfl) ?_
              refine lv_lmul hx hb dX5_hashWithJar_165 ?_
              refine lv_aload_n hx hb dX5_hashWithJar_166 rfl (lv_at hl 3 rfl) ?_
              refine lv_iload_n hx hb dX5_hashWithJar_167 rfl (lv_at hl 5 rfl) ?_
              refine z_ciW [(x0, .inr (5, [.ref (n0), .ref (y0), .ref (ch), .ref (sp0)])), (n0, .inr (4, [.ref (n1), .ref (n4), .ref (n11), .ref (n12), .int (tp), .int (fl)])), (n1, .inr (3, [.ref (n2), .ref (n3)])), (n2, .inl (ac 0, 4, .inl (v))), (n3, .inl (ac 0, 4, .inl (w))), (n4, .inl (ac 2, 3, .inr (.inr (.inr (.inr (jf)))))), (h0, .inr (2, [.ref (g0)])), (g0, .inl (ac 0, 48, .inl (g))), (sp0, .inr (2, [.ref (sg)])), (sg, .inl (ac 0, 48, .inl ((qRi v w 601 0 g).2)))] (z_vrunW (rest := [.long ((31) * (((31) * (qMix (qMixS (qMix hh (qJar g v w) 10) g v w 12) (fun c => (qPu g c 12).1) 4)) + (((qCi v w 3 301 0 g).1).toInt64)))]) (own := RX5) (As := [.int (nI (j1))]) hx hb hml hown hts hl.1 hK hP hD [0, 1, 2, 3, 4, 5, 6, 7, 8, 9] rfl (by decide) rfl (metX5_restIn_0 l D ac _ x0 n0 y0 ch sp0 n1 n2 n3 n4 n11 n12 tp fl v w jf h0 g0 g sg ((qCi v w 3 301 0 g).2) j1 (by omega) (hjf)) gX5_hashWithJar_X5_restIn rfl 1 (by decide +kernel) ⟨rfl, rfl, Nat.le_of_ble_eq_true rfl, Nat.le_of_ble_eq_true rfl⟩ 0 5 rfl rfl rfl rfl rfl (Nat.le_of_ble_eq_true rfl) dX5_hashWithJar_168 ⟨Nat.zero_le _, Nat.zero_le _⟩) hP hD hS hA [0, 1, 2, 3, 4, 5, 6, 7, 8, 9] [] [0, 1, 2, 3, 4, 5, 6, 7, 8, 9] rfl rfl (by decide) (by decide) (by decide) rfl (fun H locs hP hD hS => ?_)
              refine lv_i2l (v := ((qRi v w 601 0 g).1).toInt64) hx hb dX5_hashWithJar_171 rfl ?_
              refine lv_ladd hx hb dX5_hashWithJar_172 ?_
              refine lv_lstore (lv' := [(4, .long (((31) * (((31) * (qMix (qMixS (qMix hh (qJar g v w) 10) g v w 12) (fun c => (qPu g c 12).1) 4)) + (((qCi v w 3 301 0 g).1).toInt64))) + (((qRi v w 601 0 g).1).toInt64))), (7, .int (nI (4))), (6, .ref (h0)), (0, .ref (x0)), (1, .long (hh)), (3, .int (nI (j1)))]) hx hb dX5_hashWithJar_173 hl (by decide) rfl (fun ls hl => ?_)
              refine lv_ldc2 (own := RX5) hx hb hown (hts (.constantLong RX5 214 (31)) (by decide +kernel)) dX5_hashWithJar_175 ?_
              refine lv_lload hx hb dX5_hashWithJar_178 (lv_at hl 0 rfl) ?_
              refine lv_lmul hx hb dX5_hashWithJar_180 ?_
              refine lv_aload_n hx hb dX5_hashWithJar_181 rfl (lv_at hl 3 rfl) ?_
              refine lv_iload_n hx hb dX5_hashWithJar_182 rfl (lv_at hl 5 rfl) ?_
              refine z_cd (z_vrun (rest := [.long ((31) * (((31) * (((31) * (qMix (qMixS (qMix hh (qJar g v w) 10) g v w 12) (fun c => (qPu g c 12).1) 4)) + (((qCi v w 3 301 0 g).1).toInt64))) + (((qRi v w 601 0 g).1).toInt64)))]) (own := RX5) (As := [.int (nI (j1))]) hx hb hml hown hts hl.1 hK hP [0, 1, 2, 3, 4, 5, 6, 7] rfl (metX5_meanDepth_0 l D ac x0 n0 y0 ch sp0 n1 n2 n3 n4 n11 n12 tp fl v w jf h0 g0 g j1 (by omega) (hjf)) gX5_hashWithJar_X5_meanDepth rfl 1 (by decide +kernel) ⟨rfl, rfl, Nat.le_of_ble_eq_true rfl, Nat.le_of_ble_eq_true rfl⟩ 0 5 rfl rfl rfl rfl rfl (Nat.le_of_ble_eq_true rfl) dX5_hashWithJar_183 ⟨Nat.zero_le _, Nat.zero_le _⟩) ?_
              refine z_cll (z_srun (rest := [.long ((31) * (((31) * (((31) * (qMix (qMixS (qMix hh (qJar g v w) 10) g v w 12) (fun c => (qPu g c 12).1) 4)) + (((qCi v w 3 301 0 g).1).toInt64))) + (((qRi v w 601 0 g).1).toInt64)))]) (own := RX5) (As := [.double (qMean g)]) hx hb hml hown hts hl.1 hK hP [] rfl (metX5_bitsOf l D ac g (hbo)) gX5_hashWithJar_X5_bitsOf rfl 1 (by decide +kernel) ⟨rfl, rfl, Nat.le_of_ble_eq_true rfl, Nat.le_of_ble_eq_true rfl⟩ rfl rfl (Nat.le_of_ble_eq_true rfl) dX5_hashWithJar_186 ⟨Nat.zero_le _, Nat.zero_le _⟩) ?_
              refine lv_ladd hx hb dX5_hashWithJar_189 ?_
              exact z_lretW hx hb hr hlocks hK hP hD hS hAe (rfl) dX5_hashWithJar_190
            | succ n ih =>
              intro i hi H locs hP hD hS ls hl
              refine lv_iload hx hb dX5_hashWithJar_115 (lv_at hl 0 rfl) ?_
              refine lv_iconst (v := 4) hx hb dX5_hashWithJar_117 (by decide) ?_
              refine z_icmp_ge (tgt := 144) hx hb (i) (4) dX5_hashWithJar_118 (by decide) (by omega) (by omega) rfl rfl (fun c_118 => absurd c_118 (by omega)) (fun c_118 => ?_)
              refine lv_ldc2 (own := RX5) hx hb hown (hts (.constantLong RX5 214 (31)) (by decide +kernel)) dX5_hashWithJar_121 ?_
              refine lv_lload hx hb dX5_hashWithJar_124 (lv_at hl 2 rfl) ?_
              refine lv_lmul hx hb dX5_hashWithJar_126 ?_
              refine lv_aload hx hb dX5_hashWithJar_127 (lv_at hl 1 rfl) ?_
              refine lv_iload hx hb dX5_hashWithJar_129 (lv_at hl 0 rfl) ?_
              refine z_ci (z_vrun (rest := [.long ((31) * (qMix (qMixS (qMix hh (qJar g v w) 10) g v w 12) (fun c => (qPu g c 12).1) i))]) (own := RX5) (As := [.int (nI (i))]) hx hb hml hown hts hl.1 hK hP [6, 7] rfl (metX2_purestSlice l D ac h0 g0 g i (by omega)) gX5_hashWithJar_X2_purestSlice rfl 1 (by decide +kernel) ⟨rfl, rfl, Nat.le_of_ble_eq_true rfl, Nat.le_of_ble_eq_true rfl⟩ 6 2 rfl rfl rfl rfl rfl (Nat.le_of_ble_eq_true rfl) dX5_hashWithJar_131 ⟨Nat.zero_le _, Nat.zero_le _⟩) ?_
              refine lv_i2l (v := ((qPu g i 12).1).toInt64) hx hb dX5_hashWithJar_134 rfl ?_
              refine lv_ladd hx hb dX5_hashWithJar_135 ?_
              refine lv_lstore (lv' := [(4, .long (((31) * (qMix (qMixS (qMix hh (qJar g v w) 10) g v w 12) (fun c => (qPu g c 12).1) i)) + (((qPu g i 12).1).toInt64))), (7, .int (nI (i))), (6, .ref (h0)), (0, .ref (x0)), (1, .long (hh)), (3, .int (nI (j1)))]) hx hb dX5_hashWithJar_136 hl (by decide) rfl (fun ls hl => ?_)
              refine lv_iinc (v := nI ((i) + 1)) (lv' := [(7, .int (nI ((i) + 1))), (4, .long (((31) * (qMix (qMixS (qMix hh (qJar g v w) 10) g v w 12) (fun c => (qPu g c 12).1) i)) + (((qPu g i 12).1).toInt64))), (6, .ref (h0)), (0, .ref (x0)), (1, .long (hh)), (3, .int (nI (j1)))]) hx hb dX5_hashWithJar_138 hl (k := 1) rfl (show nI (i) + Int32.ofInt 1 = _ from nI_add (i) 1) (by decide) rfl (fun ls hl => ?_)
              refine lv_goto (tgt := 115) hx hb dX5_hashWithJar_141 (by decide) ?_
              exact ih (i + 1) (by omega) _ _ hP hD hS ls (lv_sub hl [0, 2, 1, 3, 4, 5] rfl)
          exact hL_115 (4) (0) (by omega) _ _ hP hD hS ls (by rw [q_mix0]; exact lv_sub hl [0, 1, 2, 3, 4, 5] rfl)
        | succ n ih =>
          intro i hi H locs hP hD hS ls hl
          refine lv_iload hx hb dX5_hashWithJar_57 (lv_at hl 0 rfl) ?_
          refine lv_bipush (v := 12) hx hb dX5_hashWithJar_59 (by decide) ?_
          refine z_icmp_ge (tgt := 112) hx hb (i) (12) dX5_hashWithJar_61 (by decide) (by omega) (by omega) rfl rfl (fun c_61 => absurd c_61 (by omega)) (fun c_61 => ?_)
          refine lv_iconst (v := 0) hx hb dX5_hashWithJar_64 (by decide) ?_
          refine lv_istore (lv' := [(8, .int (0)), (7, .int (nI (i))), (6, .ref (h0)), (4, .long (qMixS (qMix hh (qJar g v w) 10) g v w i)), (0, .ref (x0)), (1, .long (hh)), (3, .int (nI (j1)))]) hx hb dX5_hashWithJar_65 hl (by decide) rfl (fun ls hl => ?_)
          have hL_67 : ∀ (nq : Nat) (j : Nat), (j + nq = 10) → ∀ (H : Heap) (locs : List Loc), va_P D vwCl [(x0, .inr (5, [.ref (n0), .ref (y0), .ref (ch), .ref (sp0)])), (n0, .inr (4, [.ref (n1), .ref (n4), .ref (n11), .ref (n12), .int (tp), .int (fl)])), (n1, .inr (3, [.ref (n2), .ref (n3)])), (n2, .inl (ac 0, 4, .inl (v))), (n3, .inl (ac 0, 4, .inl (w))), (n4, .inl (ac 2, 3, .inr (.inr (.inr (.inr (jf)))))), (h0, .inr (2, [.ref (g0)])), (g0, .inl (ac 0, 48, .inl (g))), (sp0, .inr (2, [.ref (sg)])), (sg, .inl (ac 0, 48, .inl (gs)))] H → va_D A [(x0, .inr (5, [.ref (n0), .ref (y0), .ref (ch), .ref (sp0)])), (n0, .inr (4, [.ref (n1), .ref (n4), .ref (n11), .ref (n12), .int (tp), .int (fl)])), (n1, .inr (3, [.ref (n2), .ref (n3)])), (n2, .inl (ac 0, 4, .inl (v))), (n3, .inl (ac 0, 4, .inl (w))), (n4, .inl (ac 2, 3, .inr (.inr (.inr (.inr (jf)))))), (h0, .inr (2, [.ref (g0)])), (g0, .inl (ac 0, 48, .inl (g))), (sp0, .inr (2, [.ref (sg)])), (sg, .inl (ac 0, 48, .inl (gs)))] → va_S A s.heap H locs → ∀ (ls : Array Slot), lv_has ls 9 [(8, .int (nI (j))), (7, .int (nI (i))), (6, .ref (h0)), (4, .long (qMix (qMixS (qMix hh (qJar g v w) 10) g v w i) (qSlice g v w i) j)), (0, .ref (x0)), (1, .long (hh)), (3, .int (nI (j1)))] → W p l e ({ frames := 5, cells := 0, slots := 0, locals := 119 } : Room) s m args below meth c H locs 0 0 (MQ below (zQl D ac [(x0, .inr (5, [.ref (n0), .ref (y0), .ref (ch), .ref (sp0)])), (n0, .inr (4, [.ref (n1), .ref (n4), .ref (n11), .ref (n12), .int (tp), .int (fl)])), (n1, .inr (3, [.ref (n2), .ref (n3)])), (n2, .inl (ac 0, 4, .inl (v))), (n3, .inl (ac 0, 4, .inl (w))), (n4, .inl (ac 2, 3, .inr (.inr (.inr (.inr (jf)))))), (h0, .inr (2, [.ref (g0)])), (g0, .inl (ac 0, 48, .inl (g))), (sp0, .inr (2, [.ref (sg)])), (sg, .inl (ac 0, 48, .inl (gs)))] [(x0, .inr (5, [.ref (n0), .ref (y0), .ref (ch), .ref (sp0)])), (n0, .inr (4, [.ref (n1), .ref (n4), .ref (n11), .ref (n12), .int (tp), .int (fl)])), (n1, .inr (3, [.ref (n2), .ref (n3)])), (n2, .inl (ac 0, 4, .inl (v))), (n3, .inl (ac 0, 4, .inl (w))), (n4, .inl (ac 2, 3, .inr (.inr (.inr (.inr (jf)))))), (h0, .inr (2, [.ref (g0)])), (g0, .inl (ac 0, 48, .inl (g))), (sp0, .inr (2, [.ref (sg)])), (sg, .inl (ac 0, 48, .inl ((qRi v w 601 0 g).2)))] sz (qHj v w g hh)) args s 0 0 A) (F0 m 67 ls []) := by
            intro nq
            induction nq with
            | zero =>
              intro j hj H locs hP hD hS ls hl
              have e_j : 10 = j := by omega
              subst e_j
              refine lv_iload hx hb dX5_hashWithJar_67 (lv_at hl 0 rfl) ?_
              refine lv_bipush (v := 10) hx hb dX5_hashWithJar_69 (by decide) ?_
              refine z_icmp_ge (tgt := 106) hx hb (10) (10) dX5_hashWithJar_71 (by decide) (by omega) (by omega) rfl rfl (fun c_71 => ?_) (fun c_71 => absurd c_71 (by omega))
              refine lv_iinc (v := nI ((i) + 1)) (lv' := [(7, .int (nI ((i) + 1))), (8, .int (nI (10))), (6, .ref (h0)), (4, .long (qMix (qMixS (qMix hh (qJar g v w) 10) g v w i) (qSlice g v w i) 10)), (0, .ref (x0)), (1, .long (hh)), (3, .int (nI (j1)))]) hx hb dX5_hashWithJar_106 hl (k := 1) rfl (show nI (i) + Int32.ofInt 1 = _ from nI_add (i) 1) (by decide) rfl (fun ls hl => ?_)
              refine lv_goto (tgt := 57) hx hb dX5_hashWithJar_109 (by decide) ?_
              exact ih (i + 1) (by omega) _ _ hP hD hS ls (lv_sub hl [0, 2, 3, 4, 5, 6] rfl)
            | succ nq ih =>
              intro j hj H locs hP hD hS ls hl
              refine lv_iload hx hb dX5_hashWithJar_67 (lv_at hl 0 rfl) ?_
              refine lv_bipush (v := 10) hx hb dX5_hashWithJar_69 (by decide) ?_
              refine z_icmp_ge (tgt := 106) hx hb (j) (10) dX5_hashWithJar_71 (by decide) (by omega) (by omega) rfl rfl (fun c_71 => absurd c_71 (by omega)) (fun c_71 => ?_)
              refine lv_ldc2 (own := RX5) hx hb hown (hts (.constantLong RX5 214 (31)) (by decide +kernel)) dX5_hashWithJar_74 ?_
              refine lv_lload hx hb dX5_hashWithJar_77 (lv_at hl 3 rfl) ?_
              refine lv_lmul hx hb dX5_hashWithJar_79 ?_
              refine lv_aload hx hb dX5_hashWithJar_80 (lv_at hl 2 rfl) ?_
              refine lv_iload hx hb dX5_hashWithJar_82 (lv_at hl 1 rfl) ?_
              refine lv_iload hx hb dX5_hashWithJar_84 (lv_at hl 0 rfl) ?_
              refine lv_aload_n hx hb dX5_hashWithJar_86 rfl (lv_at hl 4 rfl) ?_
              refine va_get (ci := 5) (v := .ref (n0)) (C := RX5) (T := TX5) (N := 4) hx hb hts (by decide +kernel) hown hK hP 0 rfl rfl 0 (by decide) (hts (.fieldLink RX5 12 "SettlingJars" "now" "LSettlingJars$State;") (by decide +kernel)) (fun _ h9 => h9) rfl dX5_hashWithJar_87 ?_
              refine va_get (ci := 4) (v := .ref (n1)) (C := RX4) (T := TX4) (N := 6) hx hb hts (by decide +kernel) hown hK hP 1 rfl rfl 0 (by decide) (hts (.fieldLink RX5 58 "SettlingJars$State" "settings" "LSettlingJars$Settings;") (by decide +kernel)) (fun _ h9 => h9) rfl dX5_hashWithJar_90 ?_
              refine z_ci (z_vrun (rest := [.long ((31) * (qMix (qMixS (qMix hh (qJar g v w) 10) g v w i) (qSlice g v w i) j))]) (own := RX5) (As := [.int (nI (i)), .int (nI (j)), .ref (n1)]) hx hb hml hown hts hl.1 hK hP [6, 7, 2, 3, 4] rfl (metX2_sliceProperty l D ac h0 g0 g n1 n2 n3 v w i j (by omega) (by omega)) gX5_hashWithJar_X2_sliceProperty rfl 3 (by decide +kernel) ⟨rfl, rfl, Nat.le_of_ble_eq_true rfl, Nat.le_of_ble_eq_true rfl⟩ 6 2 rfl rfl rfl rfl rfl (Nat.le_of_ble_eq_true rfl) dX5_hashWithJar_93 ⟨Nat.zero_le _, Nat.zero_le _⟩) ?_
              refine lv_i2l (v := (qSlice g v w i j).toInt64) hx hb dX5_hashWithJar_96 rfl ?_
              refine lv_ladd hx hb dX5_hashWithJar_97 ?_
              refine lv_lstore (lv' := [(4, .long (((31) * (qMix (qMixS (qMix hh (qJar g v w) 10) g v w i) (qSlice g v w i) j)) + ((qSlice g v w i j).toInt64))), (8, .int (nI (j))), (7, .int (nI (i))), (6, .ref (h0)), (0, .ref (x0)), (1, .long (hh)), (3, .int (nI (j1)))]) hx hb dX5_hashWithJar_98 hl (by decide) rfl (fun ls hl => ?_)
              refine lv_iinc (v := nI ((j) + 1)) (lv' := [(8, .int (nI ((j) + 1))), (4, .long (((31) * (qMix (qMixS (qMix hh (qJar g v w) 10) g v w i) (qSlice g v w i) j)) + ((qSlice g v w i j).toInt64))), (7, .int (nI (i))), (6, .ref (h0)), (0, .ref (x0)), (1, .long (hh)), (3, .int (nI (j1)))]) hx hb dX5_hashWithJar_100 hl (k := 1) rfl (show nI (j) + Int32.ofInt 1 = _ from nI_add (j) 1) (by decide) rfl (fun ls hl => ?_)
              refine lv_goto (tgt := 67) hx hb dX5_hashWithJar_103 (by decide) ?_
              exact ih (j + 1) (by omega) _ _ hP hD hS ls (lv_sub hl [0, 2, 3, 1, 4, 5, 6] rfl)
          exact hL_67 (10) (0) (by omega) _ _ hP hD hS ls (by rw [q_mix0]; exact lv_sub hl [0, 1, 2, 3, 4, 5, 6] rfl)
      exact hL_57 (12) (0) (by omega) _ _ hP hD hS ls (by rw [q_mixS0]; exact lv_sub hl [0, 1, 2, 3, 4, 5] rfl)
    | succ n ih =>
      intro i hi H locs hP hD hS ls hl
      refine lv_iload hx hb dX5_hashWithJar_17 (lv_at hl 0 rfl) ?_
      refine lv_bipush (v := 10) hx hb dX5_hashWithJar_19 (by decide) ?_
      refine z_icmp_ge (tgt := 54) hx hb (i) (10) dX5_hashWithJar_21 (by decide) (by omega) (by omega) rfl rfl (fun c_21 => absurd c_21 (by omega)) (fun c_21 => ?_)
      refine lv_ldc2 (own := RX5) hx hb hown (hts (.constantLong RX5 214 (31)) (by decide +kernel)) dX5_hashWithJar_24 ?_
      refine lv_lload hx hb dX5_hashWithJar_27 (lv_at hl 2 rfl) ?_
      refine lv_lmul hx hb dX5_hashWithJar_29 ?_
      refine lv_aload hx hb dX5_hashWithJar_30 (lv_at hl 1 rfl) ?_
      refine lv_iload hx hb dX5_hashWithJar_32 (lv_at hl 0 rfl) ?_
      refine lv_aload_n hx hb dX5_hashWithJar_34 rfl (lv_at hl 3 rfl) ?_
      refine va_get (ci := 5) (v := .ref (n0)) (C := RX5) (T := TX5) (N := 4) hx hb hts (by decide +kernel) hown hK hP 0 rfl rfl 0 (by decide) (hts (.fieldLink RX5 12 "SettlingJars" "now" "LSettlingJars$State;") (by decide +kernel)) (fun _ h9 => h9) rfl dX5_hashWithJar_35 ?_
      refine va_get (ci := 4) (v := .ref (n1)) (C := RX4) (T := TX4) (N := 6) hx hb hts (by decide +kernel) hown hK hP 1 rfl rfl 0 (by decide) (hts (.fieldLink RX5 58 "SettlingJars$State" "settings" "LSettlingJars$Settings;") (by decide +kernel)) (fun _ h9 => h9) rfl dX5_hashWithJar_38 ?_
      refine z_ci (z_vrun (rest := [.long ((31) * (qMix hh (qJar g v w) i))]) (own := RX5) (As := [.int (nI (i)), .ref (n1)]) hx hb hml hown hts hl.1 hK hP [6, 7, 2, 3, 4] rfl (metX2_property l D ac h0 g0 g n1 n2 n3 v w i (by omega)) gX5_hashWithJar_X2_property rfl 2 (by decide +kernel) ⟨rfl, rfl, Nat.le_of_ble_eq_true rfl, Nat.le_of_ble_eq_true rfl⟩ 6 2 rfl rfl rfl rfl rfl (Nat.le_of_ble_eq_true rfl) dX5_hashWithJar_41 ⟨Nat.zero_le _, Nat.zero_le _⟩) ?_
      refine lv_i2l (v := (qJar g v w i).toInt64) hx hb dX5_hashWithJar_44 rfl ?_
      refine lv_ladd hx hb dX5_hashWithJar_45 ?_
      refine lv_lstore (lv' := [(4, .long (((31) * (qMix hh (qJar g v w) i)) + ((qJar g v w i).toInt64))), (7, .int (nI (i))), (6, .ref (h0)), (0, .ref (x0)), (1, .long (hh)), (3, .int (nI (j1)))]) hx hb dX5_hashWithJar_46 hl (by decide) rfl (fun ls hl => ?_)
      refine lv_iinc (v := nI ((i) + 1)) (lv' := [(7, .int (nI ((i) + 1))), (4, .long (((31) * (qMix hh (qJar g v w) i)) + ((qJar g v w i).toInt64))), (6, .ref (h0)), (0, .ref (x0)), (1, .long (hh)), (3, .int (nI (j1)))]) hx hb dX5_hashWithJar_48 hl (k := 1) rfl (show nI (i) + Int32.ofInt 1 = _ from nI_add (i) 1) (by decide) rfl (fun ls hl => ?_)
      refine lv_goto (tgt := 17) hx hb dX5_hashWithJar_51 (by decide) ?_
      exact ih (i + 1) (by omega) _ _ hP hD hS ls (lv_sub hl [0, 2, 1, 3, 4, 5] rfl)
  exact hL_17 (10) (0) (by omega) _ _ hP hD hS ls (lv_sub hl [0, 1, 2, 3, 4, 5] rfl)

