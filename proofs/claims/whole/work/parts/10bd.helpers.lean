set_option maxRecDepth 100000 in
set_option maxHeartbeats 4000000 in
theorem hlpL_restIn_0 (l : Launch) (D : va_G) (ac : Nat → ClassId) (sz : Nat) (x0 : Nat) (n0 : Nat) (y0 : Nat) (ch : Nat) (sp0 : Nat) (n1 : Nat) (n2 : Nat) (n3 : Nat) (n4 : Nat) (n11 : Nat) (n12 : Nat) (tp : Int32) (fl : Int32) (v : Nat → Int32) (w : Nat → Int32) (jf : Nat → Option Nat) (h0 : Nat) (g0 : Nat) (g : Nat → Int32) (sg : Nat) (gs : Nat → Int32) (j1 : Nat) (ou : Nat) (of : Nat → Int64) (hj : j1 < 3) (hjf : jf j1 = some h0) : Met l yL_restIn wsL_restIn ({ frames := 5, cells := 0, slots := 0, locals := 118 } : Room) (va_Pc [.ref (x0), .int (nI (j1)), .ref (ou)] (zS D ac [(x0, .inr (5, [.ref (n0), .ref (y0), .ref (ch), .ref (sp0)])), (n0, .inr (4, [.ref (n1), .ref (n4), .ref (n11), .ref (n12), .int (tp), .int (fl)])), (n1, .inr (3, [.ref (n2), .ref (n3)])), (n2, .inl (ac 0, 4, .inl (v))), (n3, .inl (ac 0, 4, .inl (w))), (n4, .inl (ac 2, 3, .inr (.inr (.inr (.inr (jf)))))), (h0, .inr (2, [.ref (g0)])), (g0, .inl (ac 0, 48, .inl (g))), (sp0, .inr (2, [.ref (sg)])), (sg, .inl (ac 0, 48, .inl (gs))), (ou, .inl (ac 4, 1, .inr (.inl (of))))] sz)) (zQi D ac [(x0, .inr (5, [.ref (n0), .ref (y0), .ref (ch), .ref (sp0)])), (n0, .inr (4, [.ref (n1), .ref (n4), .ref (n11), .ref (n12), .int (tp), .int (fl)])), (n1, .inr (3, [.ref (n2), .ref (n3)])), (n2, .inl (ac 0, 4, .inl (v))), (n3, .inl (ac 0, 4, .inl (w))), (n4, .inl (ac 2, 3, .inr (.inr (.inr (.inr (jf)))))), (h0, .inr (2, [.ref (g0)])), (g0, .inl (ac 0, 48, .inl (g))), (sp0, .inr (2, [.ref (sg)])), (sg, .inl (ac 0, 48, .inl (gs))), (ou, .inl (ac 4, 1, .inr (.inl (of))))] [(x0, .inr (5, [.ref (n0), .ref (y0), .ref (ch), .ref (sp0)])), (n0, .inr (4, [.ref (n1), .ref (n4), .ref (n11), .ref (n12), .int (tp), .int (fl)])), (n1, .inr (3, [.ref (n2), .ref (n3)])), (n2, .inl (ac 0, 4, .inl (v))), (n3, .inl (ac 0, 4, .inl (w))), (n4, .inl (ac 2, 3, .inr (.inr (.inr (.inr (jf)))))), (h0, .inr (2, [.ref (g0)])), (g0, .inl (ac 0, 48, .inl (g))), (sp0, .inr (2, [.ref (sg)])), (sg, .inl (ac 0, 48, .inl ((qRi v w 601 0 g).2))), (ou, .inl (ac 4, 1, .inr (.inl (updL of 0 (((qRi v w 601 0 g).1).toInt64)))))] sz (0)) 0 0 (va_A [(x0, .inr (5, [.ref (n0), .ref (y0), .ref (ch), .ref (sp0)])), (n0, .inr (4, [.ref (n1), .ref (n4), .ref (n11), .ref (n12), .int (tp), .int (fl)])), (n1, .inr (3, [.ref (n2), .ref (n3)])), (n2, .inl (ac 0, 4, .inl (v))), (n3, .inl (ac 0, 4, .inl (w))), (n4, .inl (ac 2, 3, .inr (.inr (.inr (.inr (jf)))))), (h0, .inr (2, [.ref (g0)])), (g0, .inl (ac 0, 48, .inl (g))), (sp0, .inr (2, [.ref (sg)])), (sg, .inl (ac 0, 48, .inl (gs))), (ou, .inl (ac 4, 1, .inr (.inl (of))))] sz) := by
  refine z_hO (cc := cL_restIn) (maxL := 4) (ret := (some .int)) (hh := [(0, 9, 12, 13)]) (lv := [(0, .ref (x0)), (1, .int (nI (j1))), (2, .ref (ou))]) (by decide) rfl (Nat.le_of_ble_eq_true rfl) rfl ?_
  intro p e s m args below meth c ls A hx hb hr hml hown hts hlocks hl hK hP hsz hAe hA hD hS
  refine lv_aload_n hx hb dL_restIn_0 rfl (lv_at hl 2 rfl) ?_
  refine lv_iconst (v := 0) hx hb dL_restIn_1 (by decide) ?_
  refine lv_aload_n hx hb dL_restIn_2 rfl (lv_at hl 0 rfl) ?_
  refine lv_iload_n hx hb dL_restIn_3 rfl (lv_at hl 1 rfl) ?_
  refine z_ciW [(x0, .inr (5, [.ref (n0), .ref (y0), .ref (ch), .ref (sp0)])), (n0, .inr (4, [.ref (n1), .ref (n4), .ref (n11), .ref (n12), .int (tp), .int (fl)])), (n1, .inr (3, [.ref (n2), .ref (n3)])), (n2, .inl (ac 0, 4, .inl (v))), (n3, .inl (ac 0, 4, .inl (w))), (n4, .inl (ac 2, 3, .inr (.inr (.inr (.inr (jf)))))), (h0, .inr (2, [.ref (g0)])), (g0, .inl (ac 0, 48, .inl (g))), (sp0, .inr (2, [.ref (sg)])), (sg, .inl (ac 0, 48, .inl ((qRi v w 601 0 g).2))), (ou, .inl (ac 4, 1, .inr (.inl (of))))] (z_vrunW (rest := [.int (0), .ref (ou)]) (own := RL) (As := [.int (nI (j1))]) hx hb hml hown hts hl.1 hK hP hD [0, 1, 2, 3, 4, 5, 6, 7, 8, 9] rfl (by decide) rfl (metX5_restIn_0 l D ac _ x0 n0 y0 ch sp0 n1 n2 n3 n4 n11 n12 tp fl v w jf h0 g0 g sg gs j1 (hj) (hjf)) gL_restIn_X5_restIn rfl 1 (by decide +kernel) ⟨rfl, rfl, Nat.le_of_ble_eq_true rfl, Nat.le_of_ble_eq_true rfl⟩ 0 5 rfl rfl rfl rfl rfl (Nat.le_of_ble_eq_true rfl) dL_restIn_4 ⟨Nat.zero_le _, Nat.zero_le _⟩) hP hD hS hA [0, 1, 2, 3, 4, 5, 6, 7, 8, 9] [10] [1, 2, 3, 4, 5, 6, 7, 8, 9, 10, 0] rfl rfl (by decide) (by decide) (by decide) rfl (fun H locs hP hD hS => ?_)
  refine lv_i2l (v := ((qRi v w 601 0 g).1).toInt64) hx hb dL_restIn_7 rfl ?_
  refine z_last hx hb hK hP hD hS 10 rfl (0) (rfl) (by omega) (by decide) dL_restIn_8 (fun H locs hP hD hS => ?_)
  have hP : va_P D vwCl [(x0, .inr (5, [.ref (n0), .ref (y0), .ref (ch), .ref (sp0)])), (n0, .inr (4, [.ref (n1), .ref (n4), .ref (n11), .ref (n12), .int (tp), .int (fl)])), (n1, .inr (3, [.ref (n2), .ref (n3)])), (n2, .inl (ac 0, 4, .inl (v))), (n3, .inl (ac 0, 4, .inl (w))), (n4, .inl (ac 2, 3, .inr (.inr (.inr (.inr (jf)))))), (h0, .inr (2, [.ref (g0)])), (g0, .inl (ac 0, 48, .inl (g))), (sp0, .inr (2, [.ref (sg)])), (sg, .inl (ac 0, 48, .inl ((qRi v w 601 0 g).2))), (ou, .inl (ac 4, 1, .inr (.inl (updL (of) (0) (((qRi v w 601 0 g).1).toInt64)))))] H := hP
  have hD : va_D A [(x0, .inr (5, [.ref (n0), .ref (y0), .ref (ch), .ref (sp0)])), (n0, .inr (4, [.ref (n1), .ref (n4), .ref (n11), .ref (n12), .int (tp), .int (fl)])), (n1, .inr (3, [.ref (n2), .ref (n3)])), (n2, .inl (ac 0, 4, .inl (v))), (n3, .inl (ac 0, 4, .inl (w))), (n4, .inl (ac 2, 3, .inr (.inr (.inr (.inr (jf)))))), (h0, .inr (2, [.ref (g0)])), (g0, .inl (ac 0, 48, .inl (g))), (sp0, .inr (2, [.ref (sg)])), (sg, .inl (ac 0, 48, .inl ((qRi v w 601 0 g).2))), (ou, .inl (ac 4, 1, .inr (.inl (updL (of) (0) (((qRi v w 601 0 g).1).toInt64)))))] := hD
  refine lv_goto (tgt := 15) hx hb dL_restIn_9 (by decide) ?_
  refine lv_iconst (v := 0) hx hb dL_restIn_15 (by decide) ?_
  exact z_iretW hx hb hr hlocks hK hP hD hS hAe (rfl) dL_restIn_16

set_option maxRecDepth 100000 in
set_option maxHeartbeats 4000000 in
theorem hlpL_purest_0 (l : Launch) (D : va_G) (ac : Nat → ClassId) (sz : Nat) (x0 : Nat) (n0 : Nat) (y0 : Nat) (ch : Nat) (sp0 : Nat) (n1 : Nat) (n2 : Nat) (n3 : Nat) (n4 : Nat) (n11 : Nat) (n12 : Nat) (tp : Int32) (fl : Int32) (v : Nat → Int32) (w : Nat → Int32) (jf : Nat → Option Nat) (h0 : Nat) (g0 : Nat) (g : Nat → Int32) (j1 : Nat) (k1 : Nat) (ou : Nat) (of : Nat → Int64) (hj : j1 < 3) (hk : k1 < 4) (hjf : jf j1 = some h0) : Met l yL_purest wsL_purest ({ frames := 4, cells := 0, slots := 0, locals := 94 } : Room) (va_Pc [.ref (x0), .int (nI (j1)), .int (nI (k1)), .ref (ou)] (zS D ac [(x0, .inr (5, [.ref (n0), .ref (y0), .ref (ch), .ref (sp0)])), (n0, .inr (4, [.ref (n1), .ref (n4), .ref (n11), .ref (n12), .int (tp), .int (fl)])), (n1, .inr (3, [.ref (n2), .ref (n3)])), (n2, .inl (ac 0, 4, .inl (v))), (n3, .inl (ac 0, 4, .inl (w))), (n4, .inl (ac 2, 3, .inr (.inr (.inr (.inr (jf)))))), (h0, .inr (2, [.ref (g0)])), (g0, .inl (ac 0, 48, .inl (g))), (ou, .inl (ac 4, 1, .inr (.inl (of))))] sz)) (zQi D ac [(x0, .inr (5, [.ref (n0), .ref (y0), .ref (ch), .ref (sp0)])), (n0, .inr (4, [.ref (n1), .ref (n4), .ref (n11), .ref (n12), .int (tp), .int (fl)])), (n1, .inr (3, [.ref (n2), .ref (n3)])), (n2, .inl (ac 0, 4, .inl (v))), (n3, .inl (ac 0, 4, .inl (w))), (n4, .inl (ac 2, 3, .inr (.inr (.inr (.inr (jf)))))), (h0, .inr (2, [.ref (g0)])), (g0, .inl (ac 0, 48, .inl (g))), (ou, .inl (ac 4, 1, .inr (.inl (of))))] [(x0, .inr (5, [.ref (n0), .ref (y0), .ref (ch), .ref (sp0)])), (n0, .inr (4, [.ref (n1), .ref (n4), .ref (n11), .ref (n12), .int (tp), .int (fl)])), (n1, .inr (3, [.ref (n2), .ref (n3)])), (n2, .inl (ac 0, 4, .inl (v))), (n3, .inl (ac 0, 4, .inl (w))), (n4, .inl (ac 2, 3, .inr (.inr (.inr (.inr (jf)))))), (h0, .inr (2, [.ref (g0)])), (g0, .inl (ac 0, 48, .inl (g))), (ou, .inl (ac 4, 1, .inr (.inl (updL of 0 (((qPu g k1 12).1).toInt64)))))] sz (0)) 0 0 (va_A [(x0, .inr (5, [.ref (n0), .ref (y0), .ref (ch), .ref (sp0)])), (n0, .inr (4, [.ref (n1), .ref (n4), .ref (n11), .ref (n12), .int (tp), .int (fl)])), (n1, .inr (3, [.ref (n2), .ref (n3)])), (n2, .inl (ac 0, 4, .inl (v))), (n3, .inl (ac 0, 4, .inl (w))), (n4, .inl (ac 2, 3, .inr (.inr (.inr (.inr (jf)))))), (h0, .inr (2, [.ref (g0)])), (g0, .inl (ac 0, 48, .inl (g))), (ou, .inl (ac 4, 1, .inr (.inl (of))))] sz) := by
  refine z_hO (cc := cL_purest) (maxL := 5) (ret := (some .int)) (hh := [(0, 10, 13, 13)]) (lv := [(0, .ref (x0)), (1, .int (nI (j1))), (2, .int (nI (k1))), (3, .ref (ou))]) (by decide) rfl (Nat.le_of_ble_eq_true rfl) rfl ?_
  intro p e s m args below meth c ls A hx hb hr hml hown hts hlocks hl hK hP hsz hAe hA hD hS
  refine lv_aload_n hx hb dL_purest_0 rfl (lv_at hl 3 rfl) ?_
  refine lv_iconst (v := 0) hx hb dL_purest_1 (by decide) ?_
  refine lv_aload_n hx hb dL_purest_2 rfl (lv_at hl 0 rfl) ?_
  refine lv_iload_n hx hb dL_purest_3 rfl (lv_at hl 1 rfl) ?_
  refine lv_iload_n hx hb dL_purest_4 rfl (lv_at hl 2 rfl) ?_
  refine z_ci (z_vrun (rest := [.int (0), .ref (ou)]) (own := RL) (As := [.int (nI (j1)), .int (nI (k1))]) hx hb hml hown hts hl.1 hK hP [0, 1, 2, 3, 4, 5, 6, 7] rfl (metX5_purest_0 l D ac x0 n0 y0 ch sp0 n1 n2 n3 n4 n11 n12 tp fl v w jf h0 g0 g j1 k1 (hj) (hk) (hjf)) gL_purest_X5_purest rfl 2 (by decide +kernel) ⟨rfl, rfl, Nat.le_of_ble_eq_true rfl, Nat.le_of_ble_eq_true rfl⟩ 0 5 rfl rfl rfl rfl rfl (Nat.le_of_ble_eq_true rfl) dL_purest_5 ⟨Nat.zero_le _, Nat.zero_le _⟩) ?_
  refine lv_i2l (v := ((qPu g k1 12).1).toInt64) hx hb dL_purest_8 rfl ?_
  refine z_last hx hb hK hP hD hS 8 rfl (0) (rfl) (by omega) (by decide) dL_purest_9 (fun H locs hP hD hS => ?_)
  have hP : va_P D vwCl [(x0, .inr (5, [.ref (n0), .ref (y0), .ref (ch), .ref (sp0)])), (n0, .inr (4, [.ref (n1), .ref (n4), .ref (n11), .ref (n12), .int (tp), .int (fl)])), (n1, .inr (3, [.ref (n2), .ref (n3)])), (n2, .inl (ac 0, 4, .inl (v))), (n3, .inl (ac 0, 4, .inl (w))), (n4, .inl (ac 2, 3, .inr (.inr (.inr (.inr (jf)))))), (h0, .inr (2, [.ref (g0)])), (g0, .inl (ac 0, 48, .inl (g))), (ou, .inl (ac 4, 1, .inr (.inl (updL (of) (0) (((qPu g k1 12).1).toInt64)))))] H := hP
  have hD : va_D A [(x0, .inr (5, [.ref (n0), .ref (y0), .ref (ch), .ref (sp0)])), (n0, .inr (4, [.ref (n1), .ref (n4), .ref (n11), .ref (n12), .int (tp), .int (fl)])), (n1, .inr (3, [.ref (n2), .ref (n3)])), (n2, .inl (ac 0, 4, .inl (v))), (n3, .inl (ac 0, 4, .inl (w))), (n4, .inl (ac 2, 3, .inr (.inr (.inr (.inr (jf)))))), (h0, .inr (2, [.ref (g0)])), (g0, .inl (ac 0, 48, .inl (g))), (ou, .inl (ac 4, 1, .inr (.inl (updL (of) (0) (((qPu g k1 12).1).toInt64)))))] := hD
  refine lv_goto (tgt := 17) hx hb dL_purest_10 (by decide) ?_
  refine lv_iconst (v := 0) hx hb dL_purest_17 (by decide) ?_
  exact z_iretW hx hb hr hlocks hK hP hD hS hAe (rfl) dL_purest_18

set_option maxRecDepth 100000 in
set_option maxHeartbeats 4000000 in
theorem hlpL_meanDepth_0 (l : Launch) (D : va_G) (ac : Nat → ClassId) (sz : Nat) (x0 : Nat) (n0 : Nat) (y0 : Nat) (ch : Nat) (sp0 : Nat) (n1 : Nat) (n2 : Nat) (n3 : Nat) (n4 : Nat) (n11 : Nat) (n12 : Nat) (tp : Int32) (fl : Int32) (v : Nat → Int32) (w : Nat → Int32) (jf : Nat → Option Nat) (h0 : Nat) (g0 : Nat) (g : Nat → Int32) (j1 : Nat) (ou : Nat) (of : Nat → UInt64) (hj : j1 < 3) (hjf : jf j1 = some h0) : Met l yL_meanDepth wsL_meanDepth ({ frames := 5, cells := 0, slots := 0, locals := 110 } : Room) (va_Pc [.ref (x0), .int (nI (j1)), .ref (ou)] (zS D ac [(x0, .inr (5, [.ref (n0), .ref (y0), .ref (ch), .ref (sp0)])), (n0, .inr (4, [.ref (n1), .ref (n4), .ref (n11), .ref (n12), .int (tp), .int (fl)])), (n1, .inr (3, [.ref (n2), .ref (n3)])), (n2, .inl (ac 0, 4, .inl (v))), (n3, .inl (ac 0, 4, .inl (w))), (n4, .inl (ac 2, 3, .inr (.inr (.inr (.inr (jf)))))), (h0, .inr (2, [.ref (g0)])), (g0, .inl (ac 0, 48, .inl (g))), (ou, .inl (ac 5, 1, .inr (.inr (.inr (.inl (of))))))] sz)) (zQi D ac [(x0, .inr (5, [.ref (n0), .ref (y0), .ref (ch), .ref (sp0)])), (n0, .inr (4, [.ref (n1), .ref (n4), .ref (n11), .ref (n12), .int (tp), .int (fl)])), (n1, .inr (3, [.ref (n2), .ref (n3)])), (n2, .inl (ac 0, 4, .inl (v))), (n3, .inl (ac 0, 4, .inl (w))), (n4, .inl (ac 2, 3, .inr (.inr (.inr (.inr (jf)))))), (h0, .inr (2, [.ref (g0)])), (g0, .inl (ac 0, 48, .inl (g))), (ou, .inl (ac 5, 1, .inr (.inr (.inr (.inl (of))))))] [(x0, .inr (5, [.ref (n0), .ref (y0), .ref (ch), .ref (sp0)])), (n0, .inr (4, [.ref (n1), .ref (n4), .ref (n11), .ref (n12), .int (tp), .int (fl)])), (n1, .inr (3, [.ref (n2), .ref (n3)])), (n2, .inl (ac 0, 4, .inl (v))), (n3, .inl (ac 0, 4, .inl (w))), (n4, .inl (ac 2, 3, .inr (.inr (.inr (.inr (jf)))))), (h0, .inr (2, [.ref (g0)])), (g0, .inl (ac 0, 48, .inl (g))), (ou, .inl (ac 5, 1, .inr (.inr (.inr (.inl (updD of 0 (qMean g)))))))] sz (0)) 0 0 (va_A [(x0, .inr (5, [.ref (n0), .ref (y0), .ref (ch), .ref (sp0)])), (n0, .inr (4, [.ref (n1), .ref (n4), .ref (n11), .ref (n12), .int (tp), .int (fl)])), (n1, .inr (3, [.ref (n2), .ref (n3)])), (n2, .inl (ac 0, 4, .inl (v))), (n3, .inl (ac 0, 4, .inl (w))), (n4, .inl (ac 2, 3, .inr (.inr (.inr (.inr (jf)))))), (h0, .inr (2, [.ref (g0)])), (g0, .inl (ac 0, 48, .inl (g))), (ou, .inl (ac 5, 1, .inr (.inr (.inr (.inl (of))))))] sz) := by
  refine z_hO (cc := cL_meanDepth) (maxL := 4) (ret := (some .int)) (hh := [(0, 8, 11, 13)]) (lv := [(0, .ref (x0)), (1, .int (nI (j1))), (2, .ref (ou))]) (by decide) rfl (Nat.le_of_ble_eq_true rfl) rfl ?_
  intro p e s m args below meth c ls A hx hb hr hml hown hts hlocks hl hK hP hsz hAe hA hD hS
  refine lv_aload_n hx hb dL_meanDepth_0 rfl (lv_at hl 2 rfl) ?_
  refine lv_iconst (v := 0) hx hb dL_meanDepth_1 (by decide) ?_
  refine lv_aload_n hx hb dL_meanDepth_2 rfl (lv_at hl 0 rfl) ?_
  refine lv_iload_n hx hb dL_meanDepth_3 rfl (lv_at hl 1 rfl) ?_
  refine z_cd (z_vrun (rest := [.int (0), .ref (ou)]) (own := RL) (As := [.int (nI (j1))]) hx hb hml hown hts hl.1 hK hP [0, 1, 2, 3, 4, 5, 6, 7] rfl (metX5_meanDepth_0 l D ac x0 n0 y0 ch sp0 n1 n2 n3 n4 n11 n12 tp fl v w jf h0 g0 g j1 (hj) (hjf)) gL_meanDepth_X5_meanDepth rfl 1 (by decide +kernel) ⟨rfl, rfl, Nat.le_of_ble_eq_true rfl, Nat.le_of_ble_eq_true rfl⟩ 0 5 rfl rfl rfl rfl rfl (Nat.le_of_ble_eq_true rfl) dL_meanDepth_4 ⟨Nat.zero_le _, Nat.zero_le _⟩) ?_
  refine z_dast hx hb hK hP hD hS 8 rfl (0) (rfl) (by omega) (by decide) dL_meanDepth_7 (fun H locs hP hD hS => ?_)
  have hP : va_P D vwCl [(x0, .inr (5, [.ref (n0), .ref (y0), .ref (ch), .ref (sp0)])), (n0, .inr (4, [.ref (n1), .ref (n4), .ref (n11), .ref (n12), .int (tp), .int (fl)])), (n1, .inr (3, [.ref (n2), .ref (n3)])), (n2, .inl (ac 0, 4, .inl (v))), (n3, .inl (ac 0, 4, .inl (w))), (n4, .inl (ac 2, 3, .inr (.inr (.inr (.inr (jf)))))), (h0, .inr (2, [.ref (g0)])), (g0, .inl (ac 0, 48, .inl (g))), (ou, .inl (ac 5, 1, .inr (.inr (.inr (.inl (updD (of) (0) (qMean g)))))))] H := hP
  have hD : va_D A [(x0, .inr (5, [.ref (n0), .ref (y0), .ref (ch), .ref (sp0)])), (n0, .inr (4, [.ref (n1), .ref (n4), .ref (n11), .ref (n12), .int (tp), .int (fl)])), (n1, .inr (3, [.ref (n2), .ref (n3)])), (n2, .inl (ac 0, 4, .inl (v))), (n3, .inl (ac 0, 4, .inl (w))), (n4, .inl (ac 2, 3, .inr (.inr (.inr (.inr (jf)))))), (h0, .inr (2, [.ref (g0)])), (g0, .inl (ac 0, 48, .inl (g))), (ou, .inl (ac 5, 1, .inr (.inr (.inr (.inl (updD (of) (0) (qMean g)))))))] := hD
  refine lv_goto (tgt := 14) hx hb dL_meanDepth_8 (by decide) ?_
  refine lv_iconst (v := 0) hx hb dL_meanDepth_14 (by decide) ?_
  exact z_iretW hx hb hr hlocks hK hP hD hS hAe (rfl) dL_meanDepth_15

set_option maxRecDepth 100000 in
set_option maxHeartbeats 4000000 in
theorem hlpL_setSpeed_1 (l : Launch) (D : va_G) (ac : Nat → ClassId) (hst : l.stackTraces = false) (sa : Nat) (sz : Nat) (x0 : Nat) (x1 : Int32) (x2 : Int32) (n0 : Nat) (y0 : Nat) (ch : Nat) (sp0 : Nat) (ou : Nat) (of : Nat → Int64) (h1 : ¬ (0 ≤ x1 ∧ x1 ≤ 3)) : Met l yL_setSpeed wsL_setSpeed ({ frames := 8, cells := 1, slots := 6, locals := 126 } : Room) (va_Pc [.ref (x0), .int (x1), .int (x2), .ref (ou)] (zHS D ac [(x0, .inr (5, [.ref (n0), .ref (y0), .ref (ch), .ref (sp0)])), (ou, .inl (ac 4, 1, .inr (.inl (of))))] sz RX5 255 "there is no such jar, slice, class or setting" sa "java/lang/IndexOutOfBoundsException")) (zQi D ac [(x0, .inr (5, [.ref (n0), .ref (y0), .ref (ch), .ref (sp0)])), (ou, .inl (ac 4, 1, .inr (.inl (of))))] [(x0, .inr (5, [.ref (n0), .ref (y0), .ref (ch), .ref (sp0)])), (ou, .inl (ac 4, 1, .inr (.inl (of))))] sz (1)) 1 6 (va_A [(x0, .inr (5, [.ref (n0), .ref (y0), .ref (ch), .ref (sp0)])), (ou, .inl (ac 4, 1, .inr (.inl (of))))] sz) := by
  refine z_hT (cc := cL_setSpeed) (maxL := 5) (ret := (some .int)) (hh := [(0, 10, 13, 13), (0, 10, 17, 15)]) (lv := [(0, .ref (x0)), (1, .int (x1)), (2, .int (x2)), (3, .ref (ou))]) (by decide) rfl (Nat.le_of_ble_eq_true rfl) rfl ?_
  intro p e s m args below meth c ls A hx hb hr hml hown hts hlocks htab hl hK hP hsz hAe hA hD hS hq hR hcs hn9
  refine lv_aload_n hx hb dL_setSpeed_0 rfl (lv_at hl 3 rfl) ?_
  refine lv_iconst (v := 0) hx hb dL_setSpeed_1 (by decide) ?_
  refine lv_aload_n hx hb dL_setSpeed_2 rfl (lv_at hl 0 rfl) ?_
  refine lv_iload_n hx hb dL_setSpeed_3 rfl (lv_at hl 1 rfl) ?_
  refine lv_iload_n hx hb dL_setSpeed_4 rfl (lv_at hl 2 rfl) ?_
  refine z_tV (rest := [.int (0), .ref (ou)]) (own := RL) (As := [.int (x1), .int (x2)]) hx hb hml hown hts hl.1 hK hP hD hq hR hcs [] rfl (thrX5_setSpeed_1 l D ac hst sa x0 x1 x2 (h1)) gL_setSpeed_X5_setSpeed rfl 2 (by decide +kernel) ⟨rfl, rfl, Nat.le_of_ble_eq_true rfl, Nat.le_of_ble_eq_true rfl⟩ 0 5 rfl rfl rfl rfl rfl (Nat.le_of_ble_eq_true rfl) dL_setSpeed_5 ⟨Nat.le_refl _, Nat.le_refl _⟩ [] ⟨0, 10, 13, 13⟩ [⟨0, 10, 17, 15⟩] (htab.trans rfl) (fun z h => absurd h List.not_mem_nil) (by decide) (by decide) (hts (.classLink RL 13 "java/lang/IndexOutOfBoundsException") (by decide +kernel)) (fun H locs q9 hP hD hS => ?_)
  refine lv_astore (lv' := [(4, .ref (q9)), (0, .ref (x0)), (1, .int (x1)), (2, .int (x2)), (3, .ref (ou))]) hx hb dL_setSpeed_13 hl (by decide) rfl (fun ls hl => ?_)
  refine lv_iconst (v := 1) hx hb dL_setSpeed_15 (by decide) ?_
  exact z_iretW hx hb hr hlocks hK hP hD hS hAe (rfl) dL_setSpeed_16

set_option maxRecDepth 100000 in
set_option maxHeartbeats 4000000 in
theorem hlpL_set_1 (l : Launch) (D : va_G) (ac : Nat → ClassId) (hst : l.stackTraces = false) (sa : Nat) (sz : Nat) (x0 : Nat) (x1 : Int32) (x2 : Int32) (n0 : Nat) (y0 : Nat) (ch : Nat) (sp0 : Nat) (ou : Nat) (of : Nat → Int64) (h1 : ¬ (0 ≤ x1 ∧ x1 ≤ 3)) : Met l yL_set wsL_set ({ frames := 8, cells := 1, slots := 6, locals := 126 } : Room) (va_Pc [.ref (x0), .int (x1), .int (x2), .ref (ou)] (zHS D ac [(x0, .inr (5, [.ref (n0), .ref (y0), .ref (ch), .ref (sp0)])), (ou, .inl (ac 4, 1, .inr (.inl (of))))] sz RX5 255 "there is no such jar, slice, class or setting" sa "java/lang/IndexOutOfBoundsException")) (zQi D ac [(x0, .inr (5, [.ref (n0), .ref (y0), .ref (ch), .ref (sp0)])), (ou, .inl (ac 4, 1, .inr (.inl (of))))] [(x0, .inr (5, [.ref (n0), .ref (y0), .ref (ch), .ref (sp0)])), (ou, .inl (ac 4, 1, .inr (.inl (of))))] sz (1)) 1 6 (va_A [(x0, .inr (5, [.ref (n0), .ref (y0), .ref (ch), .ref (sp0)])), (ou, .inl (ac 4, 1, .inr (.inl (of))))] sz) := by
  refine z_hT (cc := cL_set) (maxL := 5) (ret := (some .int)) (hh := [(0, 10, 13, 13), (0, 10, 17, 15)]) (lv := [(0, .ref (x0)), (1, .int (x1)), (2, .int (x2)), (3, .ref (ou))]) (by decide) rfl (Nat.le_of_ble_eq_true rfl) rfl ?_
  intro p e s m args below meth c ls A hx hb hr hml hown hts hlocks htab hl hK hP hsz hAe hA hD hS hq hR hcs hn9
  refine lv_aload_n hx hb dL_set_0 rfl (lv_at hl 3 rfl) ?_
  refine lv_iconst (v := 0) hx hb dL_set_1 (by decide) ?_
  refine lv_aload_n hx hb dL_set_2 rfl (lv_at hl 0 rfl) ?_
  refine lv_iload_n hx hb dL_set_3 rfl (lv_at hl 1 rfl) ?_
  refine lv_iload_n hx hb dL_set_4 rfl (lv_at hl 2 rfl) ?_
  refine z_tV (rest := [.int (0), .ref (ou)]) (own := RL) (As := [.int (x1), .int (x2)]) hx hb hml hown hts hl.1 hK hP hD hq hR hcs [] rfl (thrX5_set_1 l D ac hst sa x0 x1 x2 (h1)) gL_set_X5_set rfl 2 (by decide +kernel) ⟨rfl, rfl, Nat.le_of_ble_eq_true rfl, Nat.le_of_ble_eq_true rfl⟩ 0 5 rfl rfl rfl rfl rfl (Nat.le_of_ble_eq_true rfl) dL_set_5 ⟨Nat.le_refl _, Nat.le_refl _⟩ [] ⟨0, 10, 13, 13⟩ [⟨0, 10, 17, 15⟩] (htab.trans rfl) (fun z h => absurd h List.not_mem_nil) (by decide) (by decide) (hts (.classLink RL 13 "java/lang/IndexOutOfBoundsException") (by decide +kernel)) (fun H locs q9 hP hD hS => ?_)
  refine lv_astore (lv' := [(4, .ref (q9)), (0, .ref (x0)), (1, .int (x1)), (2, .int (x2)), (3, .ref (ou))]) hx hb dL_set_13 hl (by decide) rfl (fun ls hl => ?_)
  refine lv_iconst (v := 1) hx hb dL_set_15 (by decide) ?_
  exact z_iretW hx hb hr hlocks hK hP hD hS hAe (rfl) dL_set_16

set_option maxRecDepth 100000 in
set_option maxHeartbeats 4000000 in
theorem hlpL_turn_1 (l : Launch) (D : va_G) (ac : Nat → ClassId) (hst : l.stackTraces = false) (sa : Nat) (sz : Nat) (x0 : Nat) (x1 : Int32) (n0 : Nat) (y0 : Nat) (ch : Nat) (sp0 : Nat) (ou : Nat) (of : Nat → Int64) (h1 : ¬ (0 ≤ x1 ∧ x1 ≤ 2)) : Met l yL_turn wsL_turn ({ frames := 8, cells := 1, slots := 6, locals := 124 } : Room) (va_Pc [.ref (x0), .int (x1), .ref (ou)] (zHS D ac [(x0, .inr (5, [.ref (n0), .ref (y0), .ref (ch), .ref (sp0)])), (ou, .inl (ac 4, 1, .inr (.inl (of))))] sz RX5 255 "there is no such jar, slice, class or setting" sa "java/lang/IndexOutOfBoundsException")) (zQi D ac [(x0, .inr (5, [.ref (n0), .ref (y0), .ref (ch), .ref (sp0)])), (ou, .inl (ac 4, 1, .inr (.inl (of))))] [(x0, .inr (5, [.ref (n0), .ref (y0), .ref (ch), .ref (sp0)])), (ou, .inl (ac 4, 1, .inr (.inl (of))))] sz (1)) 1 6 (va_A [(x0, .inr (5, [.ref (n0), .ref (y0), .ref (ch), .ref (sp0)])), (ou, .inl (ac 4, 1, .inr (.inl (of))))] sz) := by
  refine z_hT (cc := cL_turn) (maxL := 4) (ret := (some .int)) (hh := [(0, 9, 12, 13)]) (lv := [(0, .ref (x0)), (1, .int (x1)), (2, .ref (ou))]) (by decide) rfl (Nat.le_of_ble_eq_true rfl) rfl ?_
  intro p e s m args below meth c ls A hx hb hr hml hown hts hlocks htab hl hK hP hsz hAe hA hD hS hq hR hcs hn9
  refine lv_aload_n hx hb dL_turn_0 rfl (lv_at hl 2 rfl) ?_
  refine lv_iconst (v := 0) hx hb dL_turn_1 (by decide) ?_
  refine lv_aload_n hx hb dL_turn_2 rfl (lv_at hl 0 rfl) ?_
  refine lv_iload_n hx hb dL_turn_3 rfl (lv_at hl 1 rfl) ?_
  refine z_tV (rest := [.int (0), .ref (ou)]) (own := RL) (As := [.int (x1)]) hx hb hml hown hts hl.1 hK hP hD hq hR hcs [] rfl (thrX5_turn_1 l D ac hst sa x0 x1 (h1)) gL_turn_X5_turn rfl 1 (by decide +kernel) ⟨rfl, rfl, Nat.le_of_ble_eq_true rfl, Nat.le_of_ble_eq_true rfl⟩ 0 5 rfl rfl rfl rfl rfl (Nat.le_of_ble_eq_true rfl) dL_turn_4 ⟨Nat.le_refl _, Nat.le_refl _⟩ [] ⟨0, 9, 12, 13⟩ [] (htab.trans rfl) (fun z h => absurd h List.not_mem_nil) (by decide) (by decide) (hts (.classLink RL 13 "java/lang/IndexOutOfBoundsException") (by decide +kernel)) (fun H locs q9 hP hD hS => ?_)
  refine lv_astore_n (lv' := [(3, .ref (q9)), (0, .ref (x0)), (1, .int (x1)), (2, .ref (ou))]) hx hb dL_turn_12 rfl hl (by decide) rfl (fun ls hl => ?_)
  refine lv_iconst (v := 1) hx hb dL_turn_13 (by decide) ?_
  exact z_iretW hx hb hr hlocks hK hP hD hS hAe (rfl) dL_turn_14

set_option maxRecDepth 100000 in
set_option maxHeartbeats 4000000 in
theorem hlpL_jar_1 (l : Launch) (D : va_G) (ac : Nat → ClassId) (hst : l.stackTraces = false) (sa : Nat) (sz : Nat) (x0 : Nat) (x1 : Int32) (x2 : Int32) (n0 : Nat) (y0 : Nat) (ch : Nat) (sp0 : Nat) (ou : Nat) (of : Nat → Int64) (h1 : ¬ (0 ≤ x1 ∧ x1 ≤ 2)) : Met l yL_jar wsL_jar ({ frames := 8, cells := 1, slots := 6, locals := 125 } : Room) (va_Pc [.ref (x0), .int (x1), .int (x2), .ref (ou)] (zHS D ac [(x0, .inr (5, [.ref (n0), .ref (y0), .ref (ch), .ref (sp0)])), (ou, .inl (ac 4, 1, .inr (.inl (of))))] sz RX5 255 "there is no such jar, slice, class or setting" sa "java/lang/IndexOutOfBoundsException")) (zQi D ac [(x0, .inr (5, [.ref (n0), .ref (y0), .ref (ch), .ref (sp0)])), (ou, .inl (ac 4, 1, .inr (.inl (of))))] [(x0, .inr (5, [.ref (n0), .ref (y0), .ref (ch), .ref (sp0)])), (ou, .inl (ac 4, 1, .inr (.inl (of))))] sz (1)) 1 6 (va_A [(x0, .inr (5, [.ref (n0), .ref (y0), .ref (ch), .ref (sp0)])), (ou, .inl (ac 4, 1, .inr (.inl (of))))] sz) := by
  refine z_hT (cc := cL_jar) (maxL := 5) (ret := (some .int)) (hh := [(0, 10, 13, 13), (0, 10, 17, 15)]) (lv := [(0, .ref (x0)), (1, .int (x1)), (2, .int (x2)), (3, .ref (ou))]) (by decide) rfl (Nat.le_of_ble_eq_true rfl) rfl ?_
  intro p e s m args below meth c ls A hx hb hr hml hown hts hlocks htab hl hK hP hsz hAe hA hD hS hq hR hcs hn9
  refine lv_aload_n hx hb dL_jar_0 rfl (lv_at hl 3 rfl) ?_
  refine lv_iconst (v := 0) hx hb dL_jar_1 (by decide) ?_
  refine lv_aload_n hx hb dL_jar_2 rfl (lv_at hl 0 rfl) ?_
  refine lv_iload_n hx hb dL_jar_3 rfl (lv_at hl 1 rfl) ?_
  refine lv_iload_n hx hb dL_jar_4 rfl (lv_at hl 2 rfl) ?_
  refine z_tV (rest := [.int (0), .ref (ou)]) (own := RL) (As := [.int (x1), .int (x2)]) hx hb hml hown hts hl.1 hK hP hD hq hR hcs [] rfl (thrX5_jar_1 l D ac hst sa x0 x1 x2 (h1)) gL_jar_X5_jar rfl 2 (by decide +kernel) ⟨rfl, rfl, Nat.le_of_ble_eq_true rfl, Nat.le_of_ble_eq_true rfl⟩ 0 5 rfl rfl rfl rfl rfl (Nat.le_of_ble_eq_true rfl) dL_jar_5 ⟨Nat.le_refl _, Nat.le_refl _⟩ [] ⟨0, 10, 13, 13⟩ [⟨0, 10, 17, 15⟩] (htab.trans rfl) (fun z h => absurd h List.not_mem_nil) (by decide) (by decide) (hts (.classLink RL 13 "java/lang/IndexOutOfBoundsException") (by decide +kernel)) (fun H locs q9 hP hD hS => ?_)
  refine lv_astore (lv' := [(4, .ref (q9)), (0, .ref (x0)), (1, .int (x1)), (2, .int (x2)), (3, .ref (ou))]) hx hb dL_jar_13 hl (by decide) rfl (fun ls hl => ?_)
  refine lv_iconst (v := 1) hx hb dL_jar_15 (by decide) ?_
  exact z_iretW hx hb hr hlocks hK hP hD hS hAe (rfl) dL_jar_16

set_option maxRecDepth 100000 in
set_option maxHeartbeats 4000000 in
theorem hlpL_grains_1 (l : Launch) (D : va_G) (ac : Nat → ClassId) (hst : l.stackTraces = false) (sa : Nat) (sz : Nat) (x0 : Nat) (x1 : Int32) (x2 : Int32) (n0 : Nat) (y0 : Nat) (ch : Nat) (sp0 : Nat) (ou : Nat) (of : Nat → Int64) (h1 : ¬ (0 ≤ x1 ∧ x1 ≤ 3)) : Met l yL_grains wsL_grains ({ frames := 8, cells := 1, slots := 6, locals := 125 } : Room) (va_Pc [.ref (x0), .int (x1), .int (x2), .ref (ou)] (zHS D ac [(x0, .inr (5, [.ref (n0), .ref (y0), .ref (ch), .ref (sp0)])), (ou, .inl (ac 4, 1, .inr (.inl (of))))] sz RX5 255 "there is no such jar, slice, class or setting" sa "java/lang/IndexOutOfBoundsException")) (zQi D ac [(x0, .inr (5, [.ref (n0), .ref (y0), .ref (ch), .ref (sp0)])), (ou, .inl (ac 4, 1, .inr (.inl (of))))] [(x0, .inr (5, [.ref (n0), .ref (y0), .ref (ch), .ref (sp0)])), (ou, .inl (ac 4, 1, .inr (.inl (of))))] sz (1)) 1 6 (va_A [(x0, .inr (5, [.ref (n0), .ref (y0), .ref (ch), .ref (sp0)])), (ou, .inl (ac 4, 1, .inr (.inl (of))))] sz) := by
  refine z_hT (cc := cL_grains) (maxL := 5) (ret := (some .int)) (hh := [(0, 10, 13, 13), (0, 10, 17, 15)]) (lv := [(0, .ref (x0)), (1, .int (x1)), (2, .int (x2)), (3, .ref (ou))]) (by decide) rfl (Nat.le_of_ble_eq_true rfl) rfl ?_
  intro p e s m args below meth c ls A hx hb hr hml hown hts hlocks htab hl hK hP hsz hAe hA hD hS hq hR hcs hn9
  refine lv_aload_n hx hb dL_grains_0 rfl (lv_at hl 3 rfl) ?_
  refine lv_iconst (v := 0) hx hb dL_grains_1 (by decide) ?_
  refine lv_aload_n hx hb dL_grains_2 rfl (lv_at hl 0 rfl) ?_
  refine lv_iload_n hx hb dL_grains_3 rfl (lv_at hl 1 rfl) ?_
  refine lv_iload_n hx hb dL_grains_4 rfl (lv_at hl 2 rfl) ?_
  refine z_tV (rest := [.int (0), .ref (ou)]) (own := RL) (As := [.int (x1), .int (x2)]) hx hb hml hown hts hl.1 hK hP hD hq hR hcs [] rfl (thrX5_grains_1 l D ac hst sa x0 x1 x2 (h1)) gL_grains_X5_grains rfl 2 (by decide +kernel) ⟨rfl, rfl, Nat.le_of_ble_eq_true rfl, Nat.le_of_ble_eq_true rfl⟩ 0 5 rfl rfl rfl rfl rfl (Nat.le_of_ble_eq_true rfl) dL_grains_5 ⟨Nat.le_refl _, Nat.le_refl _⟩ [] ⟨0, 10, 13, 13⟩ [⟨0, 10, 17, 15⟩] (htab.trans rfl) (fun z h => absurd h List.not_mem_nil) (by decide) (by decide) (hts (.classLink RL 13 "java/lang/IndexOutOfBoundsException") (by decide +kernel)) (fun H locs q9 hP hD hS => ?_)
  refine lv_astore (lv' := [(4, .ref (q9)), (0, .ref (x0)), (1, .int (x1)), (2, .int (x2)), (3, .ref (ou))]) hx hb dL_grains_13 hl (by decide) rfl (fun ls hl => ?_)
  refine lv_iconst (v := 1) hx hb dL_grains_15 (by decide) ?_
  exact z_iretW hx hb hr hlocks hK hP hD hS hAe (rfl) dL_grains_16

set_option maxRecDepth 100000 in
set_option maxHeartbeats 4000000 in
theorem hlpL_setting_1 (l : Launch) (D : va_G) (ac : Nat → ClassId) (hst : l.stackTraces = false) (sa : Nat) (sz : Nat) (x0 : Nat) (x1 : Int32) (n0 : Nat) (y0 : Nat) (ch : Nat) (sp0 : Nat) (ou : Nat) (of : Nat → Int64) (h1 : ¬ (0 ≤ x1 ∧ x1 ≤ 3)) : Met l yL_setting wsL_setting ({ frames := 8, cells := 1, slots := 6, locals := 124 } : Room) (va_Pc [.ref (x0), .int (x1), .ref (ou)] (zHS D ac [(x0, .inr (5, [.ref (n0), .ref (y0), .ref (ch), .ref (sp0)])), (ou, .inl (ac 4, 1, .inr (.inl (of))))] sz RX5 255 "there is no such jar, slice, class or setting" sa "java/lang/IndexOutOfBoundsException")) (zQi D ac [(x0, .inr (5, [.ref (n0), .ref (y0), .ref (ch), .ref (sp0)])), (ou, .inl (ac 4, 1, .inr (.inl (of))))] [(x0, .inr (5, [.ref (n0), .ref (y0), .ref (ch), .ref (sp0)])), (ou, .inl (ac 4, 1, .inr (.inl (of))))] sz (1)) 1 6 (va_A [(x0, .inr (5, [.ref (n0), .ref (y0), .ref (ch), .ref (sp0)])), (ou, .inl (ac 4, 1, .inr (.inl (of))))] sz) := by
  refine z_hT (cc := cL_setting) (maxL := 4) (ret := (some .int)) (hh := [(0, 9, 12, 13)]) (lv := [(0, .ref (x0)), (1, .int (x1)), (2, .ref (ou))]) (by decide) rfl (Nat.le_of_ble_eq_true rfl) rfl ?_
  intro p e s m args below meth c ls A hx hb hr hml hown hts hlocks htab hl hK hP hsz hAe hA hD hS hq hR hcs hn9
  refine lv_aload_n hx hb dL_setting_0 rfl (lv_at hl 2 rfl) ?_
  refine lv_iconst (v := 0) hx hb dL_setting_1 (by decide) ?_
  refine lv_aload_n hx hb dL_setting_2 rfl (lv_at hl 0 rfl) ?_
  refine lv_iload_n hx hb dL_setting_3 rfl (lv_at hl 1 rfl) ?_
  refine z_tV (rest := [.int (0), .ref (ou)]) (own := RL) (As := [.int (x1)]) hx hb hml hown hts hl.1 hK hP hD hq hR hcs [] rfl (thrX5_setting_1 l D ac hst sa x0 x1 (h1)) gL_setting_X5_setting rfl 1 (by decide +kernel) ⟨rfl, rfl, Nat.le_of_ble_eq_true rfl, Nat.le_of_ble_eq_true rfl⟩ 0 5 rfl rfl rfl rfl rfl (Nat.le_of_ble_eq_true rfl) dL_setting_4 ⟨Nat.le_refl _, Nat.le_refl _⟩ [] ⟨0, 9, 12, 13⟩ [] (htab.trans rfl) (fun z h => absurd h List.not_mem_nil) (by decide) (by decide) (hts (.classLink RL 13 "java/lang/IndexOutOfBoundsException") (by decide +kernel)) (fun H locs q9 hP hD hS => ?_)
  refine lv_astore_n (lv' := [(3, .ref (q9)), (0, .ref (x0)), (1, .int (x1)), (2, .ref (ou))]) hx hb dL_setting_12 rfl hl (by decide) rfl (fun ls hl => ?_)
  refine lv_iconst (v := 1) hx hb dL_setting_13 (by decide) ?_
  exact z_iretW hx hb hr hlocks hK hP hD hS hAe (rfl) dL_setting_14

set_option maxRecDepth 100000 in
set_option maxHeartbeats 4000000 in
theorem hlpL_ifSettled_1 (l : Launch) (D : va_G) (ac : Nat → ClassId) (hst : l.stackTraces = false) (sa : Nat) (sz : Nat) (x0 : Nat) (x1 : Int32) (x2 : Int32) (x3 : Int32) (n0 : Nat) (y0 : Nat) (ch : Nat) (sp0 : Nat) (ou : Nat) (of : Nat → Int64) (h1 : ¬ (0 ≤ x1 ∧ x1 ≤ 2)) : Met l yL_ifSettled wsL_ifSettled ({ frames := 8, cells := 1, slots := 6, locals := 126 } : Room) (va_Pc [.ref (x0), .int (x1), .int (x2), .int (x3), .ref (ou)] (zHS D ac [(x0, .inr (5, [.ref (n0), .ref (y0), .ref (ch), .ref (sp0)])), (ou, .inl (ac 4, 1, .inr (.inl (of))))] sz RX5 255 "there is no such jar, slice, class or setting" sa "java/lang/IndexOutOfBoundsException")) (zQi D ac [(x0, .inr (5, [.ref (n0), .ref (y0), .ref (ch), .ref (sp0)])), (ou, .inl (ac 4, 1, .inr (.inl (of))))] [(x0, .inr (5, [.ref (n0), .ref (y0), .ref (ch), .ref (sp0)])), (ou, .inl (ac 4, 1, .inr (.inl (of))))] sz (1)) 1 6 (va_A [(x0, .inr (5, [.ref (n0), .ref (y0), .ref (ch), .ref (sp0)])), (ou, .inl (ac 4, 1, .inr (.inl (of))))] sz) := by
  refine z_hT (cc := cL_ifSettled) (maxL := 6) (ret := (some .int)) (hh := [(0, 12, 15, 13), (0, 12, 19, 15)]) (lv := [(0, .ref (x0)), (1, .int (x1)), (2, .int (x2)), (3, .int (x3)), (4, .ref (ou))]) (by decide) rfl (Nat.le_of_ble_eq_true rfl) rfl ?_
  intro p e s m args below meth c ls A hx hb hr hml hown hts hlocks htab hl hK hP hsz hAe hA hD hS hq hR hcs hn9
  refine lv_aload hx hb dL_ifSettled_0 (lv_at hl 4 rfl) ?_
  refine lv_iconst (v := 0) hx hb dL_ifSettled_2 (by decide) ?_
  refine lv_aload_n hx hb dL_ifSettled_3 rfl (lv_at hl 0 rfl) ?_
  refine lv_iload_n hx hb dL_ifSettled_4 rfl (lv_at hl 1 rfl) ?_
  refine lv_iload_n hx hb dL_ifSettled_5 rfl (lv_at hl 2 rfl) ?_
  refine lv_iload_n hx hb dL_ifSettled_6 rfl (lv_at hl 3 rfl) ?_
  refine z_tV (rest := [.int (0), .ref (ou)]) (own := RL) (As := [.int (x1), .int (x2), .int (x3)]) hx hb hml hown hts hl.1 hK hP hD hq hR hcs [] rfl (thrX5_ifSettled_1 l D ac hst sa x0 x1 x2 x3 (h1)) gL_ifSettled_X5_ifSettled rfl 3 (by decide +kernel) ⟨rfl, rfl, Nat.le_of_ble_eq_true rfl, Nat.le_of_ble_eq_true rfl⟩ 0 5 rfl rfl rfl rfl rfl (Nat.le_of_ble_eq_true rfl) dL_ifSettled_7 ⟨Nat.le_refl _, Nat.le_refl _⟩ [] ⟨0, 12, 15, 13⟩ [⟨0, 12, 19, 15⟩] (htab.trans rfl) (fun z h => absurd h List.not_mem_nil) (by decide) (by decide) (hts (.classLink RL 13 "java/lang/IndexOutOfBoundsException") (by decide +kernel)) (fun H locs q9 hP hD hS => ?_)
  refine lv_astore (lv' := [(5, .ref (q9)), (0, .ref (x0)), (1, .int (x1)), (2, .int (x2)), (3, .int (x3)), (4, .ref (ou))]) hx hb dL_ifSettled_15 hl (by decide) rfl (fun ls hl => ?_)
  refine lv_iconst (v := 1) hx hb dL_ifSettled_17 (by decide) ?_
  exact z_iretW hx hb hr hlocks hK hP hD hS hAe (rfl) dL_ifSettled_18

set_option maxRecDepth 100000 in
set_option maxHeartbeats 4000000 in
theorem hlpL_clearIn_1 (l : Launch) (D : va_G) (ac : Nat → ClassId) (hst : l.stackTraces = false) (sa : Nat) (sz : Nat) (x0 : Nat) (x1 : Int32) (x2 : Int32) (n0 : Nat) (y0 : Nat) (ch : Nat) (sp0 : Nat) (ou : Nat) (of : Nat → Int64) (h1 : ¬ (0 ≤ x1 ∧ x1 ≤ 2)) : Met l yL_clearIn wsL_clearIn ({ frames := 8, cells := 1, slots := 6, locals := 126 } : Room) (va_Pc [.ref (x0), .int (x1), .int (x2), .ref (ou)] (zHS D ac [(x0, .inr (5, [.ref (n0), .ref (y0), .ref (ch), .ref (sp0)])), (ou, .inl (ac 4, 1, .inr (.inl (of))))] sz RX5 255 "there is no such jar, slice, class or setting" sa "java/lang/IndexOutOfBoundsException")) (zQi D ac [(x0, .inr (5, [.ref (n0), .ref (y0), .ref (ch), .ref (sp0)])), (ou, .inl (ac 4, 1, .inr (.inl (of))))] [(x0, .inr (5, [.ref (n0), .ref (y0), .ref (ch), .ref (sp0)])), (ou, .inl (ac 4, 1, .inr (.inl (of))))] sz (1)) 1 6 (va_A [(x0, .inr (5, [.ref (n0), .ref (y0), .ref (ch), .ref (sp0)])), (ou, .inl (ac 4, 1, .inr (.inl (of))))] sz) := by
  refine z_hT (cc := cL_clearIn) (maxL := 5) (ret := (some .int)) (hh := [(0, 10, 13, 13), (0, 10, 17, 15)]) (lv := [(0, .ref (x0)), (1, .int (x1)), (2, .int (x2)), (3, .ref (ou))]) (by decide) rfl (Nat.le_of_ble_eq_true rfl) rfl ?_
  intro p e s m args below meth c ls A hx hb hr hml hown hts hlocks htab hl hK hP hsz hAe hA hD hS hq hR hcs hn9
  refine lv_aload_n hx hb dL_clearIn_0 rfl (lv_at hl 3 rfl) ?_
  refine lv_iconst (v := 0) hx hb dL_clearIn_1 (by decide) ?_
  refine lv_aload_n hx hb dL_clearIn_2 rfl (lv_at hl 0 rfl) ?_
  refine lv_iload_n hx hb dL_clearIn_3 rfl (lv_at hl 1 rfl) ?_
  refine lv_iload_n hx hb dL_clearIn_4 rfl (lv_at hl 2 rfl) ?_
  refine z_tV (rest := [.int (0), .ref (ou)]) (own := RL) (As := [.int (x1), .int (x2)]) hx hb hml hown hts hl.1 hK hP hD hq hR hcs [] rfl (thrX5_clearIn_1 l D ac hst sa x0 x1 x2 (h1)) gL_clearIn_X5_clearIn rfl 2 (by decide +kernel) ⟨rfl, rfl, Nat.le_of_ble_eq_true rfl, Nat.le_of_ble_eq_true rfl⟩ 0 5 rfl rfl rfl rfl rfl (Nat.le_of_ble_eq_true rfl) dL_clearIn_5 ⟨Nat.le_refl _, Nat.le_refl _⟩ [] ⟨0, 10, 13, 13⟩ [⟨0, 10, 17, 15⟩] (htab.trans rfl) (fun z h => absurd h List.not_mem_nil) (by decide) (by decide) (hts (.classLink RL 13 "java/lang/IndexOutOfBoundsException") (by decide +kernel)) (fun H locs q9 hP hD hS => ?_)
  refine lv_astore (lv' := [(4, .ref (q9)), (0, .ref (x0)), (1, .int (x1)), (2, .int (x2)), (3, .ref (ou))]) hx hb dL_clearIn_13 hl (by decide) rfl (fun ls hl => ?_)
  refine lv_iconst (v := 1) hx hb dL_clearIn_15 (by decide) ?_
  exact z_iretW hx hb hr hlocks hK hP hD hS hAe (rfl) dL_clearIn_16

set_option maxRecDepth 100000 in
set_option maxHeartbeats 4000000 in
theorem hlpL_restIn_1 (l : Launch) (D : va_G) (ac : Nat → ClassId) (hst : l.stackTraces = false) (sa : Nat) (sz : Nat) (x0 : Nat) (x1 : Int32) (n0 : Nat) (y0 : Nat) (ch : Nat) (sp0 : Nat) (ou : Nat) (of : Nat → Int64) (h1 : ¬ (0 ≤ x1 ∧ x1 ≤ 2)) : Met l yL_restIn wsL_restIn ({ frames := 8, cells := 1, slots := 6, locals := 125 } : Room) (va_Pc [.ref (x0), .int (x1), .ref (ou)] (zHS D ac [(x0, .inr (5, [.ref (n0), .ref (y0), .ref (ch), .ref (sp0)])), (ou, .inl (ac 4, 1, .inr (.inl (of))))] sz RX5 255 "there is no such jar, slice, class or setting" sa "java/lang/IndexOutOfBoundsException")) (zQi D ac [(x0, .inr (5, [.ref (n0), .ref (y0), .ref (ch), .ref (sp0)])), (ou, .inl (ac 4, 1, .inr (.inl (of))))] [(x0, .inr (5, [.ref (n0), .ref (y0), .ref (ch), .ref (sp0)])), (ou, .inl (ac 4, 1, .inr (.inl (of))))] sz (1)) 1 6 (va_A [(x0, .inr (5, [.ref (n0), .ref (y0), .ref (ch), .ref (sp0)])), (ou, .inl (ac 4, 1, .inr (.inl (of))))] sz) := by
  refine z_hT (cc := cL_restIn) (maxL := 4) (ret := (some .int)) (hh := [(0, 9, 12, 13)]) (lv := [(0, .ref (x0)), (1, .int (x1)), (2, .ref (ou))]) (by decide) rfl (Nat.le_of_ble_eq_true rfl) rfl ?_
  intro p e s m args below meth c ls A hx hb hr hml hown hts hlocks htab hl hK hP hsz hAe hA hD hS hq hR hcs hn9
  refine lv_aload_n hx hb dL_restIn_0 rfl (lv_at hl 2 rfl) ?_
  refine lv_iconst (v := 0) hx hb dL_restIn_1 (by decide) ?_
  refine lv_aload_n hx hb dL_restIn_2 rfl (lv_at hl 0 rfl) ?_
  refine lv_iload_n hx hb dL_restIn_3 rfl (lv_at hl 1 rfl) ?_
  refine z_tV (rest := [.int (0), .ref (ou)]) (own := RL) (As := [.int (x1)]) hx hb hml hown hts hl.1 hK hP hD hq hR hcs [] rfl (thrX5_restIn_1 l D ac hst sa x0 x1 (h1)) gL_restIn_X5_restIn rfl 1 (by decide +kernel) ⟨rfl, rfl, Nat.le_of_ble_eq_true rfl, Nat.le_of_ble_eq_true rfl⟩ 0 5 rfl rfl rfl rfl rfl (Nat.le_of_ble_eq_true rfl) dL_restIn_4 ⟨Nat.le_refl _, Nat.le_refl _⟩ [] ⟨0, 9, 12, 13⟩ [] (htab.trans rfl) (fun z h => absurd h List.not_mem_nil) (by decide) (by decide) (hts (.classLink RL 13 "java/lang/IndexOutOfBoundsException") (by decide +kernel)) (fun H locs q9 hP hD hS => ?_)
  refine lv_astore_n (lv' := [(3, .ref (q9)), (0, .ref (x0)), (1, .int (x1)), (2, .ref (ou))]) hx hb dL_restIn_12 rfl hl (by decide) rfl (fun ls hl => ?_)
  refine lv_iconst (v := 1) hx hb dL_restIn_13 (by decide) ?_
  exact z_iretW hx hb hr hlocks hK hP hD hS hAe (rfl) dL_restIn_14

set_option maxRecDepth 100000 in
set_option maxHeartbeats 4000000 in
theorem hlpL_meanDepth_1 (l : Launch) (D : va_G) (ac : Nat → ClassId) (hst : l.stackTraces = false) (sa : Nat) (sz : Nat) (x0 : Nat) (x1 : Int32) (n0 : Nat) (y0 : Nat) (ch : Nat) (sp0 : Nat) (ou : Nat) (of : Nat → UInt64) (h1 : ¬ (0 ≤ x1 ∧ x1 ≤ 2)) : Met l yL_meanDepth wsL_meanDepth ({ frames := 8, cells := 1, slots := 6, locals := 125 } : Room) (va_Pc [.ref (x0), .int (x1), .ref (ou)] (zHS D ac [(x0, .inr (5, [.ref (n0), .ref (y0), .ref (ch), .ref (sp0)])), (ou, .inl (ac 5, 1, .inr (.inr (.inr (.inl (of))))))] sz RX5 255 "there is no such jar, slice, class or setting" sa "java/lang/IndexOutOfBoundsException")) (zQi D ac [(x0, .inr (5, [.ref (n0), .ref (y0), .ref (ch), .ref (sp0)])), (ou, .inl (ac 5, 1, .inr (.inr (.inr (.inl (of))))))] [(x0, .inr (5, [.ref (n0), .ref (y0), .ref (ch), .ref (sp0)])), (ou, .inl (ac 5, 1, .inr (.inr (.inr (.inl (of))))))] sz (1)) 1 6 (va_A [(x0, .inr (5, [.ref (n0), .ref (y0), .ref (ch), .ref (sp0)])), (ou, .inl (ac 5, 1, .inr (.inr (.inr (.inl (of))))))] sz) := by
  refine z_hT (cc := cL_meanDepth) (maxL := 4) (ret := (some .int)) (hh := [(0, 8, 11, 13)]) (lv := [(0, .ref (x0)), (1, .int (x1)), (2, .ref (ou))]) (by decide) rfl (Nat.le_of_ble_eq_true rfl) rfl ?_
  intro p e s m args below meth c ls A hx hb hr hml hown hts hlocks htab hl hK hP hsz hAe hA hD hS hq hR hcs hn9
  refine lv_aload_n hx hb dL_meanDepth_0 rfl (lv_at hl 2 rfl) ?_
  refine lv_iconst (v := 0) hx hb dL_meanDepth_1 (by decide) ?_
  refine lv_aload_n hx hb dL_meanDepth_2 rfl (lv_at hl 0 rfl) ?_
  refine lv_iload_n hx hb dL_meanDepth_3 rfl (lv_at hl 1 rfl) ?_
  refine z_tV (rest := [.int (0), .ref (ou)]) (own := RL) (As := [.int (x1)]) hx hb hml hown hts hl.1 hK hP hD hq hR hcs [] rfl (thrX5_meanDepth_1 l D ac hst sa x0 x1 (h1)) gL_meanDepth_X5_meanDepth rfl 1 (by decide +kernel) ⟨rfl, rfl, Nat.le_of_ble_eq_true rfl, Nat.le_of_ble_eq_true rfl⟩ 0 5 rfl rfl rfl rfl rfl (Nat.le_of_ble_eq_true rfl) dL_meanDepth_4 ⟨Nat.le_refl _, Nat.le_refl _⟩ [] ⟨0, 8, 11, 13⟩ [] (htab.trans rfl) (fun z h => absurd h List.not_mem_nil) (by decide) (by decide) (hts (.classLink RL 13 "java/lang/IndexOutOfBoundsException") (by decide +kernel)) (fun H locs q9 hP hD hS => ?_)
  refine lv_astore_n (lv' := [(3, .ref (q9)), (0, .ref (x0)), (1, .int (x1)), (2, .ref (ou))]) hx hb dL_meanDepth_11 rfl hl (by decide) rfl (fun ls hl => ?_)
  refine lv_iconst (v := 1) hx hb dL_meanDepth_12 (by decide) ?_
  exact z_iretW hx hb hr hlocks hK hP hD hS hAe (rfl) dL_meanDepth_13

set_option maxRecDepth 100000 in
set_option maxHeartbeats 4000000 in
theorem hlpL_setSpeed_2 (l : Launch) (D : va_G) (ac : Nat → ClassId) (hst : l.stackTraces = false) (sa : Nat) (sz : Nat) (x0 : Nat) (k1 : Nat) (x2 : Int32) (n0 : Nat) (y0 : Nat) (ch : Nat) (sp0 : Nat) (ou : Nat) (of : Nat → Int64) (hk : k1 < 4) (h2 : ¬ (1 ≤ x2 ∧ x2 ≤ 100)) : Met l yL_setSpeed wsL_setSpeed ({ frames := 8, cells := 1, slots := 6, locals := 127 } : Room) (va_Pc [.ref (x0), .int (nI (k1)), .int (x2), .ref (ou)] (zHS D ac [(x0, .inr (5, [.ref (n0), .ref (y0), .ref (ch), .ref (sp0)])), (ou, .inl (ac 4, 1, .inr (.inl (of))))] sz RX5 258 "an argument is out of range" sa "java/lang/IllegalArgumentException")) (zQi D ac [(x0, .inr (5, [.ref (n0), .ref (y0), .ref (ch), .ref (sp0)])), (ou, .inl (ac 4, 1, .inr (.inl (of))))] [(x0, .inr (5, [.ref (n0), .ref (y0), .ref (ch), .ref (sp0)])), (ou, .inl (ac 4, 1, .inr (.inl (of))))] sz (2)) 1 6 (va_A [(x0, .inr (5, [.ref (n0), .ref (y0), .ref (ch), .ref (sp0)])), (ou, .inl (ac 4, 1, .inr (.inl (of))))] sz) := by
  refine z_hT (cc := cL_setSpeed) (maxL := 5) (ret := (some .int)) (hh := [(0, 10, 13, 13), (0, 10, 17, 15)]) (lv := [(0, .ref (x0)), (1, .int (nI (k1))), (2, .int (x2)), (3, .ref (ou))]) (by decide) rfl (Nat.le_of_ble_eq_true rfl) rfl ?_
  intro p e s m args below meth c ls A hx hb hr hml hown hts hlocks htab hl hK hP hsz hAe hA hD hS hq hR hcs hn9
  refine lv_aload_n hx hb dL_setSpeed_0 rfl (lv_at hl 3 rfl) ?_
  refine lv_iconst (v := 0) hx hb dL_setSpeed_1 (by decide) ?_
  refine lv_aload_n hx hb dL_setSpeed_2 rfl (lv_at hl 0 rfl) ?_
  refine lv_iload_n hx hb dL_setSpeed_3 rfl (lv_at hl 1 rfl) ?_
  refine lv_iload_n hx hb dL_setSpeed_4 rfl (lv_at hl 2 rfl) ?_
  refine z_tV (rest := [.int (0), .ref (ou)]) (own := RL) (As := [.int (nI (k1)), .int (x2)]) hx hb hml hown hts hl.1 hK hP hD hq hR hcs [] rfl (thrX5_setSpeed_2 l D ac hst sa x0 k1 x2 (hk) (h2)) gL_setSpeed_X5_setSpeed rfl 2 (by decide +kernel) ⟨rfl, rfl, Nat.le_of_ble_eq_true rfl, Nat.le_of_ble_eq_true rfl⟩ 0 5 rfl rfl rfl rfl rfl (Nat.le_of_ble_eq_true rfl) dL_setSpeed_5 ⟨Nat.le_refl _, Nat.le_refl _⟩ [⟨0, 10, 13, 13⟩] ⟨0, 10, 17, 15⟩ [] (htab.trans rfl) (List.forall_mem_cons.mpr ⟨Or.inr ⟨by decide, "java/lang/IndexOutOfBoundsException", hts (.classLink RL 13 "java/lang/IndexOutOfBoundsException") (by decide +kernel), hn9.1⟩, fun z h => absurd h List.not_mem_nil⟩) (by decide) (by decide) (hts (.classLink RL 15 "java/lang/IllegalArgumentException") (by decide +kernel)) (fun H locs q9 hP hD hS => ?_)
  refine lv_astore (lv' := [(4, .ref (q9)), (0, .ref (x0)), (1, .int (nI (k1))), (2, .int (x2)), (3, .ref (ou))]) hx hb dL_setSpeed_17 hl (by decide) rfl (fun ls hl => ?_)
  refine lv_iconst (v := 2) hx hb dL_setSpeed_19 (by decide) ?_
  exact z_iretW hx hb hr hlocks hK hP hD hS hAe (rfl) dL_setSpeed_20

set_option maxRecDepth 100000 in
set_option maxHeartbeats 4000000 in
theorem hlpL_jar_2 (l : Launch) (D : va_G) (ac : Nat → ClassId) (hst : l.stackTraces = false) (sa : Nat) (sz : Nat) (x0 : Nat) (j1 : Nat) (x2 : Int32) (n0 : Nat) (y0 : Nat) (ch : Nat) (sp0 : Nat) (ou : Nat) (of : Nat → Int64) (hj : j1 < 3) (h2 : ¬ (0 ≤ x2 ∧ x2 ≤ 9)) : Met l yL_jar wsL_jar ({ frames := 8, cells := 1, slots := 6, locals := 126 } : Room) (va_Pc [.ref (x0), .int (nI (j1)), .int (x2), .ref (ou)] (zHS D ac [(x0, .inr (5, [.ref (n0), .ref (y0), .ref (ch), .ref (sp0)])), (ou, .inl (ac 4, 1, .inr (.inl (of))))] sz RX5 258 "an argument is out of range" sa "java/lang/IllegalArgumentException")) (zQi D ac [(x0, .inr (5, [.ref (n0), .ref (y0), .ref (ch), .ref (sp0)])), (ou, .inl (ac 4, 1, .inr (.inl (of))))] [(x0, .inr (5, [.ref (n0), .ref (y0), .ref (ch), .ref (sp0)])), (ou, .inl (ac 4, 1, .inr (.inl (of))))] sz (2)) 1 6 (va_A [(x0, .inr (5, [.ref (n0), .ref (y0), .ref (ch), .ref (sp0)])), (ou, .inl (ac 4, 1, .inr (.inl (of))))] sz) := by
  refine z_hT (cc := cL_jar) (maxL := 5) (ret := (some .int)) (hh := [(0, 10, 13, 13), (0, 10, 17, 15)]) (lv := [(0, .ref (x0)), (1, .int (nI (j1))), (2, .int (x2)), (3, .ref (ou))]) (by decide) rfl (Nat.le_of_ble_eq_true rfl) rfl ?_
  intro p e s m args below meth c ls A hx hb hr hml hown hts hlocks htab hl hK hP hsz hAe hA hD hS hq hR hcs hn9
  refine lv_aload_n hx hb dL_jar_0 rfl (lv_at hl 3 rfl) ?_
  refine lv_iconst (v := 0) hx hb dL_jar_1 (by decide) ?_
  refine lv_aload_n hx hb dL_jar_2 rfl (lv_at hl 0 rfl) ?_
  refine lv_iload_n hx hb dL_jar_3 rfl (lv_at hl 1 rfl) ?_
  refine lv_iload_n hx hb dL_jar_4 rfl (lv_at hl 2 rfl) ?_
  refine z_tV (rest := [.int (0), .ref (ou)]) (own := RL) (As := [.int (nI (j1)), .int (x2)]) hx hb hml hown hts hl.1 hK hP hD hq hR hcs [] rfl (thrX5_jar_2 l D ac hst sa x0 j1 x2 (hj) (h2)) gL_jar_X5_jar rfl 2 (by decide +kernel) ⟨rfl, rfl, Nat.le_of_ble_eq_true rfl, Nat.le_of_ble_eq_true rfl⟩ 0 5 rfl rfl rfl rfl rfl (Nat.le_of_ble_eq_true rfl) dL_jar_5 ⟨Nat.le_refl _, Nat.le_refl _⟩ [⟨0, 10, 13, 13⟩] ⟨0, 10, 17, 15⟩ [] (htab.trans rfl) (List.forall_mem_cons.mpr ⟨Or.inr ⟨by decide, "java/lang/IndexOutOfBoundsException", hts (.classLink RL 13 "java/lang/IndexOutOfBoundsException") (by decide +kernel), hn9.1⟩, fun z h => absurd h List.not_mem_nil⟩) (by decide) (by decide) (hts (.classLink RL 15 "java/lang/IllegalArgumentException") (by decide +kernel)) (fun H locs q9 hP hD hS => ?_)
  refine lv_astore (lv' := [(4, .ref (q9)), (0, .ref (x0)), (1, .int (nI (j1))), (2, .int (x2)), (3, .ref (ou))]) hx hb dL_jar_17 hl (by decide) rfl (fun ls hl => ?_)
  refine lv_iconst (v := 2) hx hb dL_jar_19 (by decide) ?_
  exact z_iretW hx hb hr hlocks hK hP hD hS hAe (rfl) dL_jar_20

set_option maxRecDepth 100000 in
set_option maxHeartbeats 4000000 in
theorem hlpL_grains_2 (l : Launch) (D : va_G) (ac : Nat → ClassId) (hst : l.stackTraces = false) (sa : Nat) (sz : Nat) (x0 : Nat) (k1 : Nat) (x2 : Int32) (n0 : Nat) (y0 : Nat) (ch : Nat) (sp0 : Nat) (ou : Nat) (of : Nat → Int64) (hk : k1 < 4) (h2 : ¬ (0 ≤ x2 ∧ x2 ≤ 3)) : Met l yL_grains wsL_grains ({ frames := 8, cells := 1, slots := 6, locals := 126 } : Room) (va_Pc [.ref (x0), .int (nI (k1)), .int (x2), .ref (ou)] (zHS D ac [(x0, .inr (5, [.ref (n0), .ref (y0), .ref (ch), .ref (sp0)])), (ou, .inl (ac 4, 1, .inr (.inl (of))))] sz RX5 258 "an argument is out of range" sa "java/lang/IllegalArgumentException")) (zQi D ac [(x0, .inr (5, [.ref (n0), .ref (y0), .ref (ch), .ref (sp0)])), (ou, .inl (ac 4, 1, .inr (.inl (of))))] [(x0, .inr (5, [.ref (n0), .ref (y0), .ref (ch), .ref (sp0)])), (ou, .inl (ac 4, 1, .inr (.inl (of))))] sz (2)) 1 6 (va_A [(x0, .inr (5, [.ref (n0), .ref (y0), .ref (ch), .ref (sp0)])), (ou, .inl (ac 4, 1, .inr (.inl (of))))] sz) := by
  refine z_hT (cc := cL_grains) (maxL := 5) (ret := (some .int)) (hh := [(0, 10, 13, 13), (0, 10, 17, 15)]) (lv := [(0, .ref (x0)), (1, .int (nI (k1))), (2, .int (x2)), (3, .ref (ou))]) (by decide) rfl (Nat.le_of_ble_eq_true rfl) rfl ?_
  intro p e s m args below meth c ls A hx hb hr hml hown hts hlocks htab hl hK hP hsz hAe hA hD hS hq hR hcs hn9
  refine lv_aload_n hx hb dL_grains_0 rfl (lv_at hl 3 rfl) ?_
  refine lv_iconst (v := 0) hx hb dL_grains_1 (by decide) ?_
  refine lv_aload_n hx hb dL_grains_2 rfl (lv_at hl 0 rfl) ?_
  refine lv_iload_n hx hb dL_grains_3 rfl (lv_at hl 1 rfl) ?_
  refine lv_iload_n hx hb dL_grains_4 rfl (lv_at hl 2 rfl) ?_
  refine z_tV (rest := [.int (0), .ref (ou)]) (own := RL) (As := [.int (nI (k1)), .int (x2)]) hx hb hml hown hts hl.1 hK hP hD hq hR hcs [] rfl (thrX5_grains_2 l D ac hst sa x0 k1 x2 (hk) (h2)) gL_grains_X5_grains rfl 2 (by decide +kernel) ⟨rfl, rfl, Nat.le_of_ble_eq_true rfl, Nat.le_of_ble_eq_true rfl⟩ 0 5 rfl rfl rfl rfl rfl (Nat.le_of_ble_eq_true rfl) dL_grains_5 ⟨Nat.le_refl _, Nat.le_refl _⟩ [⟨0, 10, 13, 13⟩] ⟨0, 10, 17, 15⟩ [] (htab.trans rfl) (List.forall_mem_cons.mpr ⟨Or.inr ⟨by decide, "java/lang/IndexOutOfBoundsException", hts (.classLink RL 13 "java/lang/IndexOutOfBoundsException") (by decide +kernel), hn9.1⟩, fun z h => absurd h List.not_mem_nil⟩) (by decide) (by decide) (hts (.classLink RL 15 "java/lang/IllegalArgumentException") (by decide +kernel)) (fun H locs q9 hP hD hS => ?_)
  refine lv_astore (lv' := [(4, .ref (q9)), (0, .ref (x0)), (1, .int (nI (k1))), (2, .int (x2)), (3, .ref (ou))]) hx hb dL_grains_17 hl (by decide) rfl (fun ls hl => ?_)
  refine lv_iconst (v := 2) hx hb dL_grains_19 (by decide) ?_
  exact z_iretW hx hb hr hlocks hK hP hD hS hAe (rfl) dL_grains_20

set_option maxRecDepth 100000 in
set_option maxHeartbeats 4000000 in
theorem hlpL_count_1 (l : Launch) (D : va_G) (ac : Nat → ClassId) (hst : l.stackTraces = false) (sa : Nat) (sz : Nat) (x0 : Nat) (x1 : Int32) (n0 : Nat) (y0 : Nat) (ch : Nat) (sp0 : Nat) (ou : Nat) (of : Nat → Int64) (h1 : ¬ (0 ≤ x1 ∧ x1 ≤ 5)) : Met l yL_count wsL_count ({ frames := 8, cells := 1, slots := 6, locals := 125 } : Room) (va_Pc [.ref (x0), .int (x1), .ref (ou)] (zHS D ac [(x0, .inr (5, [.ref (n0), .ref (y0), .ref (ch), .ref (sp0)])), (ou, .inl (ac 4, 1, .inr (.inl (of))))] sz RX5 258 "an argument is out of range" sa "java/lang/IllegalArgumentException")) (zQi D ac [(x0, .inr (5, [.ref (n0), .ref (y0), .ref (ch), .ref (sp0)])), (ou, .inl (ac 4, 1, .inr (.inl (of))))] [(x0, .inr (5, [.ref (n0), .ref (y0), .ref (ch), .ref (sp0)])), (ou, .inl (ac 4, 1, .inr (.inl (of))))] sz (1)) 1 6 (va_A [(x0, .inr (5, [.ref (n0), .ref (y0), .ref (ch), .ref (sp0)])), (ou, .inl (ac 4, 1, .inr (.inl (of))))] sz) := by
  refine z_hT (cc := cL_count) (maxL := 4) (ret := (some .int)) (hh := [(0, 9, 12, 15)]) (lv := [(0, .ref (x0)), (1, .int (x1)), (2, .ref (ou))]) (by decide) rfl (Nat.le_of_ble_eq_true rfl) rfl ?_
  intro p e s m args below meth c ls A hx hb hr hml hown hts hlocks htab hl hK hP hsz hAe hA hD hS hq hR hcs hn9
  refine lv_aload_n hx hb dL_count_0 rfl (lv_at hl 2 rfl) ?_
  refine lv_iconst (v := 0) hx hb dL_count_1 (by decide) ?_
  refine lv_aload_n hx hb dL_count_2 rfl (lv_at hl 0 rfl) ?_
  refine lv_iload_n hx hb dL_count_3 rfl (lv_at hl 1 rfl) ?_
  refine z_tV (rest := [.int (0), .ref (ou)]) (own := RL) (As := [.int (x1)]) hx hb hml hown hts hl.1 hK hP hD hq hR hcs [] rfl (thrX5_count_1 l D ac hst sa x0 x1 (h1)) gL_count_X5_count rfl 1 (by decide +kernel) ⟨rfl, rfl, Nat.le_of_ble_eq_true rfl, Nat.le_of_ble_eq_true rfl⟩ 0 5 rfl rfl rfl rfl rfl (Nat.le_of_ble_eq_true rfl) dL_count_4 ⟨Nat.le_refl _, Nat.le_refl _⟩ [] ⟨0, 9, 12, 15⟩ [] (htab.trans rfl) (fun z h => absurd h List.not_mem_nil) (by decide) (by decide) (hts (.classLink RL 15 "java/lang/IllegalArgumentException") (by decide +kernel)) (fun H locs q9 hP hD hS => ?_)
  refine lv_astore_n (lv' := [(3, .ref (q9)), (0, .ref (x0)), (1, .int (x1)), (2, .ref (ou))]) hx hb dL_count_12 rfl hl (by decide) rfl (fun ls hl => ?_)
  refine lv_iconst (v := 1) hx hb dL_count_13 (by decide) ?_
  exact z_iretW hx hb hr hlocks hK hP hD hS hAe (rfl) dL_count_14

set_option maxRecDepth 100000 in
set_option maxHeartbeats 4000000 in
theorem hlpL_clearIn_2 (l : Launch) (D : va_G) (ac : Nat → ClassId) (hst : l.stackTraces = false) (sa : Nat) (sz : Nat) (x0 : Nat) (j1 : Nat) (x2 : Int32) (n0 : Nat) (y0 : Nat) (ch : Nat) (sp0 : Nat) (ou : Nat) (of : Nat → Int64) (hj : j1 < 3) (h2 : ¬ (1 ≤ x2 ∧ x2 ≤ 12)) : Met l yL_clearIn wsL_clearIn ({ frames := 8, cells := 1, slots := 6, locals := 127 } : Room) (va_Pc [.ref (x0), .int (nI (j1)), .int (x2), .ref (ou)] (zHS D ac [(x0, .inr (5, [.ref (n0), .ref (y0), .ref (ch), .ref (sp0)])), (ou, .inl (ac 4, 1, .inr (.inl (of))))] sz RX5 258 "an argument is out of range" sa "java/lang/IllegalArgumentException")) (zQi D ac [(x0, .inr (5, [.ref (n0), .ref (y0), .ref (ch), .ref (sp0)])), (ou, .inl (ac 4, 1, .inr (.inl (of))))] [(x0, .inr (5, [.ref (n0), .ref (y0), .ref (ch), .ref (sp0)])), (ou, .inl (ac 4, 1, .inr (.inl (of))))] sz (2)) 1 6 (va_A [(x0, .inr (5, [.ref (n0), .ref (y0), .ref (ch), .ref (sp0)])), (ou, .inl (ac 4, 1, .inr (.inl (of))))] sz) := by
  refine z_hT (cc := cL_clearIn) (maxL := 5) (ret := (some .int)) (hh := [(0, 10, 13, 13), (0, 10, 17, 15)]) (lv := [(0, .ref (x0)), (1, .int (nI (j1))), (2, .int (x2)), (3, .ref (ou))]) (by decide) rfl (Nat.le_of_ble_eq_true rfl) rfl ?_
  intro p e s m args below meth c ls A hx hb hr hml hown hts hlocks htab hl hK hP hsz hAe hA hD hS hq hR hcs hn9
  refine lv_aload_n hx hb dL_clearIn_0 rfl (lv_at hl 3 rfl) ?_
  refine lv_iconst (v := 0) hx hb dL_clearIn_1 (by decide) ?_
  refine lv_aload_n hx hb dL_clearIn_2 rfl (lv_at hl 0 rfl) ?_
  refine lv_iload_n hx hb dL_clearIn_3 rfl (lv_at hl 1 rfl) ?_
  refine lv_iload_n hx hb dL_clearIn_4 rfl (lv_at hl 2 rfl) ?_
  refine z_tV (rest := [.int (0), .ref (ou)]) (own := RL) (As := [.int (nI (j1)), .int (x2)]) hx hb hml hown hts hl.1 hK hP hD hq hR hcs [] rfl (thrX5_clearIn_2 l D ac hst sa x0 j1 x2 (hj) (h2)) gL_clearIn_X5_clearIn rfl 2 (by decide +kernel) ⟨rfl, rfl, Nat.le_of_ble_eq_true rfl, Nat.le_of_ble_eq_true rfl⟩ 0 5 rfl rfl rfl rfl rfl (Nat.le_of_ble_eq_true rfl) dL_clearIn_5 ⟨Nat.le_refl _, Nat.le_refl _⟩ [⟨0, 10, 13, 13⟩] ⟨0, 10, 17, 15⟩ [] (htab.trans rfl) (List.forall_mem_cons.mpr ⟨Or.inr ⟨by decide, "java/lang/IndexOutOfBoundsException", hts (.classLink RL 13 "java/lang/IndexOutOfBoundsException") (by decide +kernel), hn9.1⟩, fun z h => absurd h List.not_mem_nil⟩) (by decide) (by decide) (hts (.classLink RL 15 "java/lang/IllegalArgumentException") (by decide +kernel)) (fun H locs q9 hP hD hS => ?_)
  refine lv_astore (lv' := [(4, .ref (q9)), (0, .ref (x0)), (1, .int (nI (j1))), (2, .int (x2)), (3, .ref (ou))]) hx hb dL_clearIn_17 hl (by decide) rfl (fun ls hl => ?_)
  refine lv_iconst (v := 2) hx hb dL_clearIn_19 (by decide) ?_
  exact z_iretW hx hb hr hlocks hK hP hD hS hAe (rfl) dL_clearIn_20

set_option maxRecDepth 100000 in
set_option maxHeartbeats 4000000 in
theorem hlpL_settle_1 (l : Launch) (D : va_G) (ac : Nat → ClassId) (hst : l.stackTraces = false) (sa : Nat) (sz : Nat) (x0 : Nat) (x1 : Int32) (n0 : Nat) (y0 : Nat) (ch : Nat) (sp0 : Nat) (ou : Nat) (of : Nat → Int64) (h1 : ¬ (1 ≤ x1 ∧ x1 ≤ 100)) : Met l yL_settle wsL_settle ({ frames := 8, cells := 1, slots := 6, locals := 127 } : Room) (va_Pc [.ref (x0), .int (x1), .ref (ou)] (zHS D ac [(x0, .inr (5, [.ref (n0), .ref (y0), .ref (ch), .ref (sp0)])), (ou, .inl (ac 4, 1, .inr (.inl (of))))] sz RX5 258 "an argument is out of range" sa "java/lang/IllegalArgumentException")) (zQi D ac [(x0, .inr (5, [.ref (n0), .ref (y0), .ref (ch), .ref (sp0)])), (ou, .inl (ac 4, 1, .inr (.inl (of))))] [(x0, .inr (5, [.ref (n0), .ref (y0), .ref (ch), .ref (sp0)])), (ou, .inl (ac 4, 1, .inr (.inl (of))))] sz (1)) 1 6 (va_A [(x0, .inr (5, [.ref (n0), .ref (y0), .ref (ch), .ref (sp0)])), (ou, .inl (ac 4, 1, .inr (.inl (of))))] sz) := by
  refine z_hT (cc := cL_settle) (maxL := 4) (ret := (some .int)) (hh := [(0, 9, 12, 15), (0, 9, 15, 24)]) (lv := [(0, .ref (x0)), (1, .int (x1)), (2, .ref (ou))]) (by decide) rfl (Nat.le_of_ble_eq_true rfl) rfl ?_
  intro p e s m args below meth c ls A hx hb hr hml hown hts hlocks htab hl hK hP hsz hAe hA hD hS hq hR hcs hn9
  refine lv_aload_n hx hb dL_settle_0 rfl (lv_at hl 2 rfl) ?_
  refine lv_iconst (v := 0) hx hb dL_settle_1 (by decide) ?_
  refine lv_aload_n hx hb dL_settle_2 rfl (lv_at hl 0 rfl) ?_
  refine lv_iload_n hx hb dL_settle_3 rfl (lv_at hl 1 rfl) ?_
  refine z_tV (rest := [.int (0), .ref (ou)]) (own := RL) (As := [.int (x1)]) hx hb hml hown hts hl.1 hK hP hD hq hR hcs [] rfl (thrX5_settle_1 l D ac hst sa x0 x1 (h1)) gL_settle_X5_settle rfl 1 (by decide +kernel) ⟨rfl, rfl, Nat.le_of_ble_eq_true rfl, Nat.le_of_ble_eq_true rfl⟩ 0 5 rfl rfl rfl rfl rfl (Nat.le_of_ble_eq_true rfl) dL_settle_4 ⟨Nat.le_refl _, Nat.le_refl _⟩ [] ⟨0, 9, 12, 15⟩ [⟨0, 9, 15, 24⟩] (htab.trans rfl) (fun z h => absurd h List.not_mem_nil) (by decide) (by decide) (hts (.classLink RL 15 "java/lang/IllegalArgumentException") (by decide +kernel)) (fun H locs q9 hP hD hS => ?_)
  refine lv_astore_n (lv' := [(3, .ref (q9)), (0, .ref (x0)), (1, .int (x1)), (2, .ref (ou))]) hx hb dL_settle_12 rfl hl (by decide) rfl (fun ls hl => ?_)
  refine lv_iconst (v := 1) hx hb dL_settle_13 (by decide) ?_
  exact z_iretW hx hb hr hlocks hK hP hD hS hAe (rfl) dL_settle_14

set_option maxRecDepth 100000 in
set_option maxHeartbeats 4000000 in
theorem hlpL_append_1 (l : Launch) (D : va_G) (ac : Nat → ClassId) (hst : l.stackTraces = false) (sa : Nat) (sz : Nat) (x0 : Nat) (x1 : Int32) (n0 : Nat) (y0 : Nat) (ch : Nat) (sp0 : Nat) (ou : Nat) (of : Nat → Int64) (h1 : ¬ (33 ≤ x1 ∧ x1 ≤ 126)) : Met l yL_append wsL_append ({ frames := 8, cells := 1, slots := 6, locals := 125 } : Room) (va_Pc [.ref (x0), .int (x1), .ref (ou)] (zHS D ac [(x0, .inr (5, [.ref (n0), .ref (y0), .ref (ch), .ref (sp0)])), (ou, .inl (ac 4, 1, .inr (.inl (of))))] sz RX5 258 "an argument is out of range" sa "java/lang/IllegalArgumentException")) (zQi D ac [(x0, .inr (5, [.ref (n0), .ref (y0), .ref (ch), .ref (sp0)])), (ou, .inl (ac 4, 1, .inr (.inl (of))))] [(x0, .inr (5, [.ref (n0), .ref (y0), .ref (ch), .ref (sp0)])), (ou, .inl (ac 4, 1, .inr (.inl (of))))] sz (1)) 1 6 (va_A [(x0, .inr (5, [.ref (n0), .ref (y0), .ref (ch), .ref (sp0)])), (ou, .inl (ac 4, 1, .inr (.inl (of))))] sz) := by
  refine z_hT (cc := cL_append) (maxL := 4) (ret := (some .int)) (hh := [(0, 9, 12, 15), (0, 9, 15, 24)]) (lv := [(0, .ref (x0)), (1, .int (x1)), (2, .ref (ou))]) (by decide) rfl (Nat.le_of_ble_eq_true rfl) rfl ?_
  intro p e s m args below meth c ls A hx hb hr hml hown hts hlocks htab hl hK hP hsz hAe hA hD hS hq hR hcs hn9
  refine lv_aload_n hx hb dL_append_0 rfl (lv_at hl 2 rfl) ?_
  refine lv_iconst (v := 0) hx hb dL_append_1 (by decide) ?_
  refine lv_aload_n hx hb dL_append_2 rfl (lv_at hl 0 rfl) ?_
  refine lv_iload_n hx hb dL_append_3 rfl (lv_at hl 1 rfl) ?_
  refine z_tV (rest := [.int (0), .ref (ou)]) (own := RL) (As := [.int (x1)]) hx hb hml hown hts hl.1 hK hP hD hq hR hcs [] rfl (thrX5_append_1 l D ac hst sa x0 x1 (h1)) gL_append_X5_append rfl 1 (by decide +kernel) ⟨rfl, rfl, Nat.le_of_ble_eq_true rfl, Nat.le_of_ble_eq_true rfl⟩ 0 5 rfl rfl rfl rfl rfl (Nat.le_of_ble_eq_true rfl) dL_append_4 ⟨Nat.le_refl _, Nat.le_refl _⟩ [] ⟨0, 9, 12, 15⟩ [⟨0, 9, 15, 24⟩] (htab.trans rfl) (fun z h => absurd h List.not_mem_nil) (by decide) (by decide) (hts (.classLink RL 15 "java/lang/IllegalArgumentException") (by decide +kernel)) (fun H locs q9 hP hD hS => ?_)
  refine lv_astore_n (lv' := [(3, .ref (q9)), (0, .ref (x0)), (1, .int (x1)), (2, .ref (ou))]) hx hb dL_append_12 rfl hl (by decide) rfl (fun ls hl => ?_)
  refine lv_iconst (v := 1) hx hb dL_append_13 (by decide) ?_
  exact z_iretW hx hb hr hlocks hK hP hD hS hAe (rfl) dL_append_14

