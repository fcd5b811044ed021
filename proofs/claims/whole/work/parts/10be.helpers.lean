set_option maxRecDepth 100000 in
set_option maxHeartbeats 4000000 in
theorem hlpL_slice_1 (l : Launch) (D : va_G) (ac : Nat → ClassId) (hst : l.stackTraces = false) (sa : Nat) (sz : Nat) (x0 : Nat) (x1 : Int32) (x2 : Int32) (x3 : Int32) (n0 : Nat) (y0 : Nat) (ch : Nat) (sp0 : Nat) (ou : Nat) (of : Nat → Int64) (h1 : ¬ ((0 ≤ x1 ∧ x1 ≤ 2) ∧ (0 ≤ x2 ∧ x2 ≤ 11))) : Met l yL_slice wsL_slice ({ frames := 9, cells := 1, slots := 6, locals := 147 } : Room) (va_Pc [.ref (x0), .int (x1), .int (x2), .int (x3), .ref (ou)] (zHS D ac [(x0, .inr (5, [.ref (n0), .ref (y0), .ref (ch), .ref (sp0)])), (ou, .inl (ac 4, 1, .inr (.inl (of))))] sz RX5 255 "there is no such jar, slice, class or setting" sa "java/lang/IndexOutOfBoundsException")) (zQi D ac [(x0, .inr (5, [.ref (n0), .ref (y0), .ref (ch), .ref (sp0)])), (ou, .inl (ac 4, 1, .inr (.inl (of))))] [(x0, .inr (5, [.ref (n0), .ref (y0), .ref (ch), .ref (sp0)])), (ou, .inl (ac 4, 1, .inr (.inl (of))))] sz (1)) 1 6 (va_A [(x0, .inr (5, [.ref (n0), .ref (y0), .ref (ch), .ref (sp0)])), (ou, .inl (ac 4, 1, .inr (.inl (of))))] sz) := by
  refine z_hT (cc := cL_slice) (maxL := 6) (ret := (some .int)) (hh := [(0, 12, 15, 13), (0, 12, 19, 15)]) (lv := [(0, .ref (x0)), (1, .int (x1)), (2, .int (x2)), (3, .int (x3)), (4, .ref (ou))]) (by decide) rfl (Nat.le_of_ble_eq_true rfl) rfl ?_
  intro p e s m args below meth c ls A hx hb hr hml hown hts hlocks htab hl hK hP hsz hAe hA hD hS hq hR hcs hn9
  refine lv_aload hx hb dL_slice_0 (lv_at hl 4 rfl) ?_
  refine lv_iconst (v := 0) hx hb dL_slice_2 (by decide) ?_
  refine lv_aload_n hx hb dL_slice_3 rfl (lv_at hl 0 rfl) ?_
  refine lv_iload_n hx hb dL_slice_4 rfl (lv_at hl 1 rfl) ?_
  refine lv_iload_n hx hb dL_slice_5 rfl (lv_at hl 2 rfl) ?_
  refine lv_iload_n hx hb dL_slice_6 rfl (lv_at hl 3 rfl) ?_
  refine z_tV (rest := [.int (0), .ref (ou)]) (own := RL) (As := [.int (x1), .int (x2), .int (x3)]) hx hb hml hown hts hl.1 hK hP hD hq hR hcs [] rfl (thrX5_slice_1 l D ac hst sa x0 x1 x2 x3 (h1)) gL_slice_X5_slice rfl 3 (by decide +kernel) ⟨rfl, rfl, Nat.le_of_ble_eq_true rfl, Nat.le_of_ble_eq_true rfl⟩ 0 5 rfl rfl rfl rfl rfl (Nat.le_of_ble_eq_true rfl) dL_slice_7 ⟨Nat.le_refl _, Nat.le_refl _⟩ [] ⟨0, 12, 15, 13⟩ [⟨0, 12, 19, 15⟩] (htab.trans rfl) (fun z h => absurd h List.not_mem_nil) (by decide) (by decide) (hts (.classLink RL 13 "java/lang/IndexOutOfBoundsException") (by decide +kernel)) (fun H locs q9 hP hD hS => ?_)
  refine lv_astore (lv' := [(5, .ref (q9)), (0, .ref (x0)), (1, .int (x1)), (2, .int (x2)), (3, .int (x3)), (4, .ref (ou))]) hx hb dL_slice_15 hl (by decide) rfl (fun ls hl => ?_)
  refine lv_iconst (v := 1) hx hb dL_slice_17 (by decide) ?_
  exact z_iretW hx hb hr hlocks hK hP hD hS hAe (rfl) dL_slice_18

set_option maxRecDepth 100000 in
set_option maxHeartbeats 4000000 in
theorem hlpL_draw_1 (l : Launch) (D : va_G) (ac : Nat → ClassId) (hst : l.stackTraces = false) (sa : Nat) (sz : Nat) (x0 : Nat) (x1 : Int32) (x2 : Int32) (x3 : Int32) (n0 : Nat) (y0 : Nat) (ch : Nat) (sp0 : Nat) (ou : Nat) (of : Nat → Int64) (h1 : ¬ ((0 ≤ x1 ∧ x1 ≤ 2) ∧ (0 ≤ x2 ∧ x2 ≤ 11))) : Met l yL_draw wsL_draw ({ frames := 9, cells := 1, slots := 6, locals := 151 } : Room) (va_Pc [.ref (x0), .int (x1), .int (x2), .int (x3), .ref (ou)] (zHS D ac [(x0, .inr (5, [.ref (n0), .ref (y0), .ref (ch), .ref (sp0)])), (ou, .inl (ac 4, 1, .inr (.inl (of))))] sz RX5 255 "there is no such jar, slice, class or setting" sa "java/lang/IndexOutOfBoundsException")) (zQi D ac [(x0, .inr (5, [.ref (n0), .ref (y0), .ref (ch), .ref (sp0)])), (ou, .inl (ac 4, 1, .inr (.inl (of))))] [(x0, .inr (5, [.ref (n0), .ref (y0), .ref (ch), .ref (sp0)])), (ou, .inl (ac 4, 1, .inr (.inl (of))))] sz (1)) 1 6 (va_A [(x0, .inr (5, [.ref (n0), .ref (y0), .ref (ch), .ref (sp0)])), (ou, .inl (ac 4, 1, .inr (.inl (of))))] sz) := by
  refine z_hT (cc := cL_draw) (maxL := 6) (ret := (some .int)) (hh := [(0, 12, 15, 13), (0, 12, 19, 15)]) (lv := [(0, .ref (x0)), (1, .int (x1)), (2, .int (x2)), (3, .int (x3)), (4, .ref (ou))]) (by decide) rfl (Nat.le_of_ble_eq_true rfl) rfl ?_
  intro p e s m args below meth c ls A hx hb hr hml hown hts hlocks htab hl hK hP hsz hAe hA hD hS hq hR hcs hn9
  refine lv_aload hx hb dL_draw_0 (lv_at hl 4 rfl) ?_
  refine lv_iconst (v := 0) hx hb dL_draw_2 (by decide) ?_
  refine lv_aload_n hx hb dL_draw_3 rfl (lv_at hl 0 rfl) ?_
  refine lv_iload_n hx hb dL_draw_4 rfl (lv_at hl 1 rfl) ?_
  refine lv_iload_n hx hb dL_draw_5 rfl (lv_at hl 2 rfl) ?_
  refine lv_iload_n hx hb dL_draw_6 rfl (lv_at hl 3 rfl) ?_
  refine z_tV (rest := [.int (0), .ref (ou)]) (own := RL) (As := [.int (x1), .int (x2), .int (x3)]) hx hb hml hown hts hl.1 hK hP hD hq hR hcs [] rfl (thrX5_draw_1 l D ac hst sa x0 x1 x2 x3 (h1)) gL_draw_X5_draw rfl 3 (by decide +kernel) ⟨rfl, rfl, Nat.le_of_ble_eq_true rfl, Nat.le_of_ble_eq_true rfl⟩ 0 5 rfl rfl rfl rfl rfl (Nat.le_of_ble_eq_true rfl) dL_draw_7 ⟨Nat.le_refl _, Nat.le_refl _⟩ [] ⟨0, 12, 15, 13⟩ [⟨0, 12, 19, 15⟩] (htab.trans rfl) (fun z h => absurd h List.not_mem_nil) (by decide) (by decide) (hts (.classLink RL 13 "java/lang/IndexOutOfBoundsException") (by decide +kernel)) (fun H locs q9 hP hD hS => ?_)
  refine lv_astore (lv' := [(5, .ref (q9)), (0, .ref (x0)), (1, .int (x1)), (2, .int (x2)), (3, .int (x3)), (4, .ref (ou))]) hx hb dL_draw_15 hl (by decide) rfl (fun ls hl => ?_)
  refine lv_iconst (v := 1) hx hb dL_draw_17 (by decide) ?_
  exact z_iretW hx hb hr hlocks hK hP hD hS hAe (rfl) dL_draw_18

set_option maxRecDepth 100000 in
set_option maxHeartbeats 4000000 in
theorem hlpL_slice_2 (l : Launch) (D : va_G) (ac : Nat → ClassId) (hst : l.stackTraces = false) (sa : Nat) (sz : Nat) (x0 : Nat) (j1 : Nat) (s1 : Nat) (x3 : Int32) (n0 : Nat) (y0 : Nat) (ch : Nat) (sp0 : Nat) (ou : Nat) (of : Nat → Int64) (hj : j1 < 3) (hs : s1 < 12) (h2 : ¬ (0 ≤ x3 ∧ x3 ≤ 9)) : Met l yL_slice wsL_slice ({ frames := 8, cells := 1, slots := 6, locals := 127 } : Room) (va_Pc [.ref (x0), .int (nI (j1)), .int (nI (s1)), .int (x3), .ref (ou)] (zHS D ac [(x0, .inr (5, [.ref (n0), .ref (y0), .ref (ch), .ref (sp0)])), (ou, .inl (ac 4, 1, .inr (.inl (of))))] sz RX5 258 "an argument is out of range" sa "java/lang/IllegalArgumentException")) (zQi D ac [(x0, .inr (5, [.ref (n0), .ref (y0), .ref (ch), .ref (sp0)])), (ou, .inl (ac 4, 1, .inr (.inl (of))))] [(x0, .inr (5, [.ref (n0), .ref (y0), .ref (ch), .ref (sp0)])), (ou, .inl (ac 4, 1, .inr (.inl (of))))] sz (2)) 1 6 (va_A [(x0, .inr (5, [.ref (n0), .ref (y0), .ref (ch), .ref (sp0)])), (ou, .inl (ac 4, 1, .inr (.inl (of))))] sz) := by
  refine z_hT (cc := cL_slice) (maxL := 6) (ret := (some .int)) (hh := [(0, 12, 15, 13), (0, 12, 19, 15)]) (lv := [(0, .ref (x0)), (1, .int (nI (j1))), (2, .int (nI (s1))), (3, .int (x3)), (4, .ref (ou))]) (by decide) rfl (Nat.le_of_ble_eq_true rfl) rfl ?_
  intro p e s m args below meth c ls A hx hb hr hml hown hts hlocks htab hl hK hP hsz hAe hA hD hS hq hR hcs hn9
  refine lv_aload hx hb dL_slice_0 (lv_at hl 4 rfl) ?_
  refine lv_iconst (v := 0) hx hb dL_slice_2 (by decide) ?_
  refine lv_aload_n hx hb dL_slice_3 rfl (lv_at hl 0 rfl) ?_
  refine lv_iload_n hx hb dL_slice_4 rfl (lv_at hl 1 rfl) ?_
  refine lv_iload_n hx hb dL_slice_5 rfl (lv_at hl 2 rfl) ?_
  refine lv_iload_n hx hb dL_slice_6 rfl (lv_at hl 3 rfl) ?_
  refine z_tV (rest := [.int (0), .ref (ou)]) (own := RL) (As := [.int (nI (j1)), .int (nI (s1)), .int (x3)]) hx hb hml hown hts hl.1 hK hP hD hq hR hcs [] rfl (thrX5_slice_2 l D ac hst sa x0 j1 s1 x3 (hj) (hs) (h2)) gL_slice_X5_slice rfl 3 (by decide +kernel) ⟨rfl, rfl, Nat.le_of_ble_eq_true rfl, Nat.le_of_ble_eq_true rfl⟩ 0 5 rfl rfl rfl rfl rfl (Nat.le_of_ble_eq_true rfl) dL_slice_7 ⟨Nat.le_refl _, Nat.le_refl _⟩ [⟨0, 12, 15, 13⟩] ⟨0, 12, 19, 15⟩ [] (htab.trans rfl) (List.forall_mem_cons.mpr ⟨Or.inr ⟨by decide, "java/lang/IndexOutOfBoundsException", hts (.classLink RL 13 "java/lang/IndexOutOfBoundsException") (by decide +kernel), hn9.1⟩, fun z h => absurd h List.not_mem_nil⟩) (by decide) (by decide) (hts (.classLink RL 15 "java/lang/IllegalArgumentException") (by decide +kernel)) (fun H locs q9 hP hD hS => ?_)
  refine lv_astore (lv' := [(5, .ref (q9)), (0, .ref (x0)), (1, .int (nI (j1))), (2, .int (nI (s1))), (3, .int (x3)), (4, .ref (ou))]) hx hb dL_slice_19 hl (by decide) rfl (fun ls hl => ?_)
  refine lv_iconst (v := 2) hx hb dL_slice_21 (by decide) ?_
  exact z_iretW hx hb hr hlocks hK hP hD hS hAe (rfl) dL_slice_22

set_option maxRecDepth 100000 in
set_option maxHeartbeats 4000000 in
theorem hlpL_draw_2 (l : Launch) (D : va_G) (ac : Nat → ClassId) (hst : l.stackTraces = false) (sa : Nat) (sz : Nat) (x0 : Nat) (j1 : Nat) (s1 : Nat) (x3 : Int32) (n0 : Nat) (y0 : Nat) (ch : Nat) (sp0 : Nat) (ou : Nat) (of : Nat → Int64) (hj : j1 < 3) (hs : s1 < 12) (h2 : ¬ (1 ≤ x3 ∧ x3 ≤ 100)) : Met l yL_draw wsL_draw ({ frames := 8, cells := 1, slots := 6, locals := 131 } : Room) (va_Pc [.ref (x0), .int (nI (j1)), .int (nI (s1)), .int (x3), .ref (ou)] (zHS D ac [(x0, .inr (5, [.ref (n0), .ref (y0), .ref (ch), .ref (sp0)])), (ou, .inl (ac 4, 1, .inr (.inl (of))))] sz RX5 258 "an argument is out of range" sa "java/lang/IllegalArgumentException")) (zQi D ac [(x0, .inr (5, [.ref (n0), .ref (y0), .ref (ch), .ref (sp0)])), (ou, .inl (ac 4, 1, .inr (.inl (of))))] [(x0, .inr (5, [.ref (n0), .ref (y0), .ref (ch), .ref (sp0)])), (ou, .inl (ac 4, 1, .inr (.inl (of))))] sz (2)) 1 6 (va_A [(x0, .inr (5, [.ref (n0), .ref (y0), .ref (ch), .ref (sp0)])), (ou, .inl (ac 4, 1, .inr (.inl (of))))] sz) := by
  refine z_hT (cc := cL_draw) (maxL := 6) (ret := (some .int)) (hh := [(0, 12, 15, 13), (0, 12, 19, 15)]) (lv := [(0, .ref (x0)), (1, .int (nI (j1))), (2, .int (nI (s1))), (3, .int (x3)), (4, .ref (ou))]) (by decide) rfl (Nat.le_of_ble_eq_true rfl) rfl ?_
  intro p e s m args below meth c ls A hx hb hr hml hown hts hlocks htab hl hK hP hsz hAe hA hD hS hq hR hcs hn9
  refine lv_aload hx hb dL_draw_0 (lv_at hl 4 rfl) ?_
  refine lv_iconst (v := 0) hx hb dL_draw_2 (by decide) ?_
  refine lv_aload_n hx hb dL_draw_3 rfl (lv_at hl 0 rfl) ?_
  refine lv_iload_n hx hb dL_draw_4 rfl (lv_at hl 1 rfl) ?_
  refine lv_iload_n hx hb dL_draw_5 rfl (lv_at hl 2 rfl) ?_
  refine lv_iload_n hx hb dL_draw_6 rfl (lv_at hl 3 rfl) ?_
  refine z_tV (rest := [.int (0), .ref (ou)]) (own := RL) (As := [.int (nI (j1)), .int (nI (s1)), .int (x3)]) hx hb hml hown hts hl.1 hK hP hD hq hR hcs [] rfl (thrX5_draw_2 l D ac hst sa x0 j1 s1 x3 (hj) (hs) (h2)) gL_draw_X5_draw rfl 3 (by decide +kernel) ⟨rfl, rfl, Nat.le_of_ble_eq_true rfl, Nat.le_of_ble_eq_true rfl⟩ 0 5 rfl rfl rfl rfl rfl (Nat.le_of_ble_eq_true rfl) dL_draw_7 ⟨Nat.le_refl _, Nat.le_refl _⟩ [⟨0, 12, 15, 13⟩] ⟨0, 12, 19, 15⟩ [] (htab.trans rfl) (List.forall_mem_cons.mpr ⟨Or.inr ⟨by decide, "java/lang/IndexOutOfBoundsException", hts (.classLink RL 13 "java/lang/IndexOutOfBoundsException") (by decide +kernel), hn9.1⟩, fun z h => absurd h List.not_mem_nil⟩) (by decide) (by decide) (hts (.classLink RL 15 "java/lang/IllegalArgumentException") (by decide +kernel)) (fun H locs q9 hP hD hS => ?_)
  refine lv_astore (lv' := [(5, .ref (q9)), (0, .ref (x0)), (1, .int (nI (j1))), (2, .int (nI (s1))), (3, .int (x3)), (4, .ref (ou))]) hx hb dL_draw_19 hl (by decide) rfl (fun ls hl => ?_)
  refine lv_iconst (v := 2) hx hb dL_draw_21 (by decide) ?_
  exact z_iretW hx hb hr hlocks hK hP hD hS hAe (rfl) dL_draw_22

set_option maxRecDepth 100000 in
set_option maxHeartbeats 4000000 in
theorem hlpL_purest_1 (l : Launch) (D : va_G) (ac : Nat → ClassId) (hst : l.stackTraces = false) (sa : Nat) (sz : Nat) (x0 : Nat) (x1 : Int32) (x2 : Int32) (n0 : Nat) (y0 : Nat) (ch : Nat) (sp0 : Nat) (ou : Nat) (of : Nat → Int64) (h1 : ¬ ((0 ≤ x1 ∧ x1 ≤ 2) ∧ (0 ≤ x2 ∧ x2 ≤ 3))) : Met l yL_purest wsL_purest ({ frames := 8, cells := 1, slots := 6, locals := 125 } : Room) (va_Pc [.ref (x0), .int (x1), .int (x2), .ref (ou)] (zHS D ac [(x0, .inr (5, [.ref (n0), .ref (y0), .ref (ch), .ref (sp0)])), (ou, .inl (ac 4, 1, .inr (.inl (of))))] sz RX5 255 "there is no such jar, slice, class or setting" sa "java/lang/IndexOutOfBoundsException")) (zQi D ac [(x0, .inr (5, [.ref (n0), .ref (y0), .ref (ch), .ref (sp0)])), (ou, .inl (ac 4, 1, .inr (.inl (of))))] [(x0, .inr (5, [.ref (n0), .ref (y0), .ref (ch), .ref (sp0)])), (ou, .inl (ac 4, 1, .inr (.inl (of))))] sz (1)) 1 6 (va_A [(x0, .inr (5, [.ref (n0), .ref (y0), .ref (ch), .ref (sp0)])), (ou, .inl (ac 4, 1, .inr (.inl (of))))] sz) := by
  refine z_hT (cc := cL_purest) (maxL := 5) (ret := (some .int)) (hh := [(0, 10, 13, 13)]) (lv := [(0, .ref (x0)), (1, .int (x1)), (2, .int (x2)), (3, .ref (ou))]) (by decide) rfl (Nat.le_of_ble_eq_true rfl) rfl ?_
  intro p e s m args below meth c ls A hx hb hr hml hown hts hlocks htab hl hK hP hsz hAe hA hD hS hq hR hcs hn9
  refine lv_aload_n hx hb dL_purest_0 rfl (lv_at hl 3 rfl) ?_
  refine lv_iconst (v := 0) hx hb dL_purest_1 (by decide) ?_
  refine lv_aload_n hx hb dL_purest_2 rfl (lv_at hl 0 rfl) ?_
  refine lv_iload_n hx hb dL_purest_3 rfl (lv_at hl 1 rfl) ?_
  refine lv_iload_n hx hb dL_purest_4 rfl (lv_at hl 2 rfl) ?_
  refine z_tV (rest := [.int (0), .ref (ou)]) (own := RL) (As := [.int (x1), .int (x2)]) hx hb hml hown hts hl.1 hK hP hD hq hR hcs [] rfl (thrX5_purest_1 l D ac hst sa x0 x1 x2 (h1)) gL_purest_X5_purest rfl 2 (by decide +kernel) ⟨rfl, rfl, Nat.le_of_ble_eq_true rfl, Nat.le_of_ble_eq_true rfl⟩ 0 5 rfl rfl rfl rfl rfl (Nat.le_of_ble_eq_true rfl) dL_purest_5 ⟨Nat.le_refl _, Nat.le_refl _⟩ [] ⟨0, 10, 13, 13⟩ [] (htab.trans rfl) (fun z h => absurd h List.not_mem_nil) (by decide) (by decide) (hts (.classLink RL 13 "java/lang/IndexOutOfBoundsException") (by decide +kernel)) (fun H locs q9 hP hD hS => ?_)
  refine lv_astore (lv' := [(4, .ref (q9)), (0, .ref (x0)), (1, .int (x1)), (2, .int (x2)), (3, .ref (ou))]) hx hb dL_purest_13 hl (by decide) rfl (fun ls hl => ?_)
  refine lv_iconst (v := 1) hx hb dL_purest_15 (by decide) ?_
  exact z_iretW hx hb hr hlocks hK hP hD hS hAe (rfl) dL_purest_16

set_option maxRecDepth 100000 in
set_option maxHeartbeats 4000000 in
theorem hlpL_pour_1 (l : Launch) (D : va_G) (ac : Nat → ClassId) (hst : l.stackTraces = false) (sa : Nat) (sz : Nat) (x0 : Nat) (x1 : Int32) (x2 : Int32) (x3 : Int32) (x4 : Int32) (n0 : Nat) (y0 : Nat) (ch : Nat) (sp0 : Nat) (ou : Nat) (of : Nat → Int64) (h1 : ¬ ((0 ≤ x1 ∧ x1 ≤ 2) ∧ (0 ≤ x2 ∧ x2 ≤ 11) ∧ (0 ≤ x3 ∧ x3 ≤ 3))) : Met l yL_pour wsL_pour ({ frames := 9, cells := 1, slots := 6, locals := 149 } : Room) (va_Pc [.ref (x0), .int (x1), .int (x2), .int (x3), .int (x4), .ref (ou)] (zHS D ac [(x0, .inr (5, [.ref (n0), .ref (y0), .ref (ch), .ref (sp0)])), (ou, .inl (ac 4, 1, .inr (.inl (of))))] sz RX5 255 "there is no such jar, slice, class or setting" sa "java/lang/IndexOutOfBoundsException")) (zQi D ac [(x0, .inr (5, [.ref (n0), .ref (y0), .ref (ch), .ref (sp0)])), (ou, .inl (ac 4, 1, .inr (.inl (of))))] [(x0, .inr (5, [.ref (n0), .ref (y0), .ref (ch), .ref (sp0)])), (ou, .inl (ac 4, 1, .inr (.inl (of))))] sz (1)) 1 6 (va_A [(x0, .inr (5, [.ref (n0), .ref (y0), .ref (ch), .ref (sp0)])), (ou, .inl (ac 4, 1, .inr (.inl (of))))] sz) := by
  refine z_hT (cc := cL_pour) (maxL := 7) (ret := (some .int)) (hh := [(0, 14, 17, 13), (0, 14, 21, 15), (0, 14, 25, 24)]) (lv := [(0, .ref (x0)), (1, .int (x1)), (2, .int (x2)), (3, .int (x3)), (4, .int (x4)), (5, .ref (ou))]) (by decide) rfl (Nat.le_of_ble_eq_true rfl) rfl ?_
  intro p e s m args below meth c ls A hx hb hr hml hown hts hlocks htab hl hK hP hsz hAe hA hD hS hq hR hcs hn9
  refine lv_aload hx hb dL_pour_0 (lv_at hl 5 rfl) ?_
  refine lv_iconst (v := 0) hx hb dL_pour_2 (by decide) ?_
  refine lv_aload_n hx hb dL_pour_3 rfl (lv_at hl 0 rfl) ?_
  refine lv_iload_n hx hb dL_pour_4 rfl (lv_at hl 1 rfl) ?_
  refine lv_iload_n hx hb dL_pour_5 rfl (lv_at hl 2 rfl) ?_
  refine lv_iload_n hx hb dL_pour_6 rfl (lv_at hl 3 rfl) ?_
  refine lv_iload hx hb dL_pour_7 (lv_at hl 4 rfl) ?_
  refine z_tV (rest := [.int (0), .ref (ou)]) (own := RL) (As := [.int (x1), .int (x2), .int (x3), .int (x4)]) hx hb hml hown hts hl.1 hK hP hD hq hR hcs [] rfl (thrX5_pour_1 l D ac hst sa x0 x1 x2 x3 x4 (h1)) gL_pour_X5_pour rfl 4 (by decide +kernel) ⟨rfl, rfl, Nat.le_of_ble_eq_true rfl, Nat.le_of_ble_eq_true rfl⟩ 0 5 rfl rfl rfl rfl rfl (Nat.le_of_ble_eq_true rfl) dL_pour_9 ⟨Nat.le_refl _, Nat.le_refl _⟩ [] ⟨0, 14, 17, 13⟩ [⟨0, 14, 21, 15⟩, ⟨0, 14, 25, 24⟩] (htab.trans rfl) (fun z h => absurd h List.not_mem_nil) (by decide) (by decide) (hts (.classLink RL 13 "java/lang/IndexOutOfBoundsException") (by decide +kernel)) (fun H locs q9 hP hD hS => ?_)
  refine lv_astore (lv' := [(6, .ref (q9)), (0, .ref (x0)), (1, .int (x1)), (2, .int (x2)), (3, .int (x3)), (4, .int (x4)), (5, .ref (ou))]) hx hb dL_pour_17 hl (by decide) rfl (fun ls hl => ?_)
  refine lv_iconst (v := 1) hx hb dL_pour_19 (by decide) ?_
  exact z_iretW hx hb hr hlocks hK hP hD hS hAe (rfl) dL_pour_20

set_option maxRecDepth 100000 in
set_option maxHeartbeats 4000000 in
theorem hlpL_stir_1 (l : Launch) (D : va_G) (ac : Nat → ClassId) (hst : l.stackTraces = false) (sa : Nat) (sz : Nat) (x0 : Nat) (x1 : Int32) (x2 : Int32) (x3 : Int32) (n0 : Nat) (y0 : Nat) (ch : Nat) (sp0 : Nat) (ou : Nat) (of : Nat → Int64) (h1 : ¬ ((0 ≤ x1 ∧ x1 ≤ 2) ∧ (0 ≤ x2 ∧ x2 ≤ 11) ∧ (0 ≤ x3 ∧ x3 ≤ 11))) : Met l yL_stir wsL_stir ({ frames := 9, cells := 1, slots := 6, locals := 149 } : Room) (va_Pc [.ref (x0), .int (x1), .int (x2), .int (x3), .ref (ou)] (zHS D ac [(x0, .inr (5, [.ref (n0), .ref (y0), .ref (ch), .ref (sp0)])), (ou, .inl (ac 4, 1, .inr (.inl (of))))] sz RX5 255 "there is no such jar, slice, class or setting" sa "java/lang/IndexOutOfBoundsException")) (zQi D ac [(x0, .inr (5, [.ref (n0), .ref (y0), .ref (ch), .ref (sp0)])), (ou, .inl (ac 4, 1, .inr (.inl (of))))] [(x0, .inr (5, [.ref (n0), .ref (y0), .ref (ch), .ref (sp0)])), (ou, .inl (ac 4, 1, .inr (.inl (of))))] sz (1)) 1 6 (va_A [(x0, .inr (5, [.ref (n0), .ref (y0), .ref (ch), .ref (sp0)])), (ou, .inl (ac 4, 1, .inr (.inl (of))))] sz) := by
  refine z_hT (cc := cL_stir) (maxL := 6) (ret := (some .int)) (hh := [(0, 12, 15, 13), (0, 12, 19, 15)]) (lv := [(0, .ref (x0)), (1, .int (x1)), (2, .int (x2)), (3, .int (x3)), (4, .ref (ou))]) (by decide) rfl (Nat.le_of_ble_eq_true rfl) rfl ?_
  intro p e s m args below meth c ls A hx hb hr hml hown hts hlocks htab hl hK hP hsz hAe hA hD hS hq hR hcs hn9
  refine lv_aload hx hb dL_stir_0 (lv_at hl 4 rfl) ?_
  refine lv_iconst (v := 0) hx hb dL_stir_2 (by decide) ?_
  refine lv_aload_n hx hb dL_stir_3 rfl (lv_at hl 0 rfl) ?_
  refine lv_iload_n hx hb dL_stir_4 rfl (lv_at hl 1 rfl) ?_
  refine lv_iload_n hx hb dL_stir_5 rfl (lv_at hl 2 rfl) ?_
  refine lv_iload_n hx hb dL_stir_6 rfl (lv_at hl 3 rfl) ?_
  refine z_tV (rest := [.int (0), .ref (ou)]) (own := RL) (As := [.int (x1), .int (x2), .int (x3)]) hx hb hml hown hts hl.1 hK hP hD hq hR hcs [] rfl (thrX5_stir_1 l D ac hst sa x0 x1 x2 x3 (h1)) gL_stir_X5_stir rfl 3 (by decide +kernel) ⟨rfl, rfl, Nat.le_of_ble_eq_true rfl, Nat.le_of_ble_eq_true rfl⟩ 0 5 rfl rfl rfl rfl rfl (Nat.le_of_ble_eq_true rfl) dL_stir_7 ⟨Nat.le_refl _, Nat.le_refl _⟩ [] ⟨0, 12, 15, 13⟩ [⟨0, 12, 19, 15⟩] (htab.trans rfl) (fun z h => absurd h List.not_mem_nil) (by decide) (by decide) (hts (.classLink RL 13 "java/lang/IndexOutOfBoundsException") (by decide +kernel)) (fun H locs q9 hP hD hS => ?_)
  refine lv_astore (lv' := [(5, .ref (q9)), (0, .ref (x0)), (1, .int (x1)), (2, .int (x2)), (3, .int (x3)), (4, .ref (ou))]) hx hb dL_stir_15 hl (by decide) rfl (fun ls hl => ?_)
  refine lv_iconst (v := 1) hx hb dL_stir_17 (by decide) ?_
  exact z_iretW hx hb hr hlocks hK hP hD hS hAe (rfl) dL_stir_18

set_option maxRecDepth 100000 in
set_option maxHeartbeats 4000000 in
theorem hlpL_why_1 (l : Launch) (D : va_G) (ac : Nat → ClassId) (hst : l.stackTraces = false) (sa : Nat) (sz : Nat) (x0 : Nat) (x1 : Int32) (x2 : Int32) (x3 : Int32) (n0 : Nat) (y0 : Nat) (ch : Nat) (sp0 : Nat) (ou : Nat) (of : Nat → Int64) (h1 : ¬ ((0 ≤ x1 ∧ x1 ≤ 2) ∧ (0 ≤ x2 ∧ x2 ≤ 11) ∧ (0 ≤ x3 ∧ x3 ≤ 3))) : Met l yL_why wsL_why ({ frames := 9, cells := 1, slots := 6, locals := 147 } : Room) (va_Pc [.ref (x0), .int (x1), .int (x2), .int (x3), .ref (ou)] (zHS D ac [(x0, .inr (5, [.ref (n0), .ref (y0), .ref (ch), .ref (sp0)])), (ou, .inl (ac 4, 1, .inr (.inl (of))))] sz RX5 255 "there is no such jar, slice, class or setting" sa "java/lang/IndexOutOfBoundsException")) (zQi D ac [(x0, .inr (5, [.ref (n0), .ref (y0), .ref (ch), .ref (sp0)])), (ou, .inl (ac 4, 1, .inr (.inl (of))))] [(x0, .inr (5, [.ref (n0), .ref (y0), .ref (ch), .ref (sp0)])), (ou, .inl (ac 4, 1, .inr (.inl (of))))] sz (1)) 1 6 (va_A [(x0, .inr (5, [.ref (n0), .ref (y0), .ref (ch), .ref (sp0)])), (ou, .inl (ac 4, 1, .inr (.inl (of))))] sz) := by
  refine z_hT (cc := cL_why) (maxL := 6) (ret := (some .int)) (hh := [(0, 12, 15, 13)]) (lv := [(0, .ref (x0)), (1, .int (x1)), (2, .int (x2)), (3, .int (x3)), (4, .ref (ou))]) (by decide) rfl (Nat.le_of_ble_eq_true rfl) rfl ?_
  intro p e s m args below meth c ls A hx hb hr hml hown hts hlocks htab hl hK hP hsz hAe hA hD hS hq hR hcs hn9
  refine lv_aload hx hb dL_why_0 (lv_at hl 4 rfl) ?_
  refine lv_iconst (v := 0) hx hb dL_why_2 (by decide) ?_
  refine lv_aload_n hx hb dL_why_3 rfl (lv_at hl 0 rfl) ?_
  refine lv_iload_n hx hb dL_why_4 rfl (lv_at hl 1 rfl) ?_
  refine lv_iload_n hx hb dL_why_5 rfl (lv_at hl 2 rfl) ?_
  refine lv_iload_n hx hb dL_why_6 rfl (lv_at hl 3 rfl) ?_
  refine z_tV (rest := [.int (0), .ref (ou)]) (own := RL) (As := [.int (x1), .int (x2), .int (x3)]) hx hb hml hown hts hl.1 hK hP hD hq hR hcs [] rfl (thrX5_why_1 l D ac hst sa x0 x1 x2 x3 (h1)) gL_why_X5_why rfl 3 (by decide +kernel) ⟨rfl, rfl, Nat.le_of_ble_eq_true rfl, Nat.le_of_ble_eq_true rfl⟩ 0 5 rfl rfl rfl rfl rfl (Nat.le_of_ble_eq_true rfl) dL_why_7 ⟨Nat.le_refl _, Nat.le_refl _⟩ [] ⟨0, 12, 15, 13⟩ [] (htab.trans rfl) (fun z h => absurd h List.not_mem_nil) (by decide) (by decide) (hts (.classLink RL 13 "java/lang/IndexOutOfBoundsException") (by decide +kernel)) (fun H locs q9 hP hD hS => ?_)
  refine lv_astore (lv' := [(5, .ref (q9)), (0, .ref (x0)), (1, .int (x1)), (2, .int (x2)), (3, .int (x3)), (4, .ref (ou))]) hx hb dL_why_15 hl (by decide) rfl (fun ls hl => ?_)
  refine lv_iconst (v := 1) hx hb dL_why_17 (by decide) ?_
  exact z_iretW hx hb hr hlocks hK hP hD hS hAe (rfl) dL_why_18

set_option maxRecDepth 100000 in
set_option maxHeartbeats 4000000 in
theorem hlpL_pour_2 (l : Launch) (D : va_G) (ac : Nat → ClassId) (hst : l.stackTraces = false) (sa : Nat) (sz : Nat) (x0 : Nat) (j1 : Nat) (s1 : Nat) (k1 : Nat) (x4 : Int32) (n0 : Nat) (y0 : Nat) (ch : Nat) (sp0 : Nat) (ou : Nat) (of : Nat → Int64) (hj : j1 < 3) (hs : s1 < 12) (hk : k1 < 4) (h2 : ¬ (1 ≤ x4 ∧ x4 ≤ 999)) : Met l yL_pour wsL_pour ({ frames := 8, cells := 1, slots := 6, locals := 129 } : Room) (va_Pc [.ref (x0), .int (nI (j1)), .int (nI (s1)), .int (nI (k1)), .int (x4), .ref (ou)] (zHS D ac [(x0, .inr (5, [.ref (n0), .ref (y0), .ref (ch), .ref (sp0)])), (ou, .inl (ac 4, 1, .inr (.inl (of))))] sz RX5 258 "an argument is out of range" sa "java/lang/IllegalArgumentException")) (zQi D ac [(x0, .inr (5, [.ref (n0), .ref (y0), .ref (ch), .ref (sp0)])), (ou, .inl (ac 4, 1, .inr (.inl (of))))] [(x0, .inr (5, [.ref (n0), .ref (y0), .ref (ch), .ref (sp0)])), (ou, .inl (ac 4, 1, .inr (.inl (of))))] sz (2)) 1 6 (va_A [(x0, .inr (5, [.ref (n0), .ref (y0), .ref (ch), .ref (sp0)])), (ou, .inl (ac 4, 1, .inr (.inl (of))))] sz) := by
  refine z_hT (cc := cL_pour) (maxL := 7) (ret := (some .int)) (hh := [(0, 14, 17, 13), (0, 14, 21, 15), (0, 14, 25, 24)]) (lv := [(0, .ref (x0)), (1, .int (nI (j1))), (2, .int (nI (s1))), (3, .int (nI (k1))), (4, .int (x4)), (5, .ref (ou))]) (by decide) rfl (Nat.le_of_ble_eq_true rfl) rfl ?_
  intro p e s m args below meth c ls A hx hb hr hml hown hts hlocks htab hl hK hP hsz hAe hA hD hS hq hR hcs hn9
  refine lv_aload hx hb dL_pour_0 (lv_at hl 5 rfl) ?_
  refine lv_iconst (v := 0) hx hb dL_pour_2 (by decide) ?_
  refine lv_aload_n hx hb dL_pour_3 rfl (lv_at hl 0 rfl) ?_
  refine lv_iload_n hx hb dL_pour_4 rfl (lv_at hl 1 rfl) ?_
  refine lv_iload_n hx hb dL_pour_5 rfl (lv_at hl 2 rfl) ?_
  refine lv_iload_n hx hb dL_pour_6 rfl (lv_at hl 3 rfl) ?_
  refine lv_iload hx hb dL_pour_7 (lv_at hl 4 rfl) ?_
  refine z_tV (rest := [.int (0), .ref (ou)]) (own := RL) (As := [.int (nI (j1)), .int (nI (s1)), .int (nI (k1)), .int (x4)]) hx hb hml hown hts hl.1 hK hP hD hq hR hcs [] rfl (thrX5_pour_2 l D ac hst sa x0 j1 s1 k1 x4 (hj) (hs) (hk) (h2)) gL_pour_X5_pour rfl 4 (by decide +kernel) ⟨rfl, rfl, Nat.le_of_ble_eq_true rfl, Nat.le_of_ble_eq_true rfl⟩ 0 5 rfl rfl rfl rfl rfl (Nat.le_of_ble_eq_true rfl) dL_pour_9 ⟨Nat.le_refl _, Nat.le_refl _⟩ [⟨0, 14, 17, 13⟩] ⟨0, 14, 21, 15⟩ [⟨0, 14, 25, 24⟩] (htab.trans rfl) (List.forall_mem_cons.mpr ⟨Or.inr ⟨by decide, "java/lang/IndexOutOfBoundsException", hts (.classLink RL 13 "java/lang/IndexOutOfBoundsException") (by decide +kernel), hn9.1⟩, fun z h => absurd h List.not_mem_nil⟩) (by decide) (by decide) (hts (.classLink RL 15 "java/lang/IllegalArgumentException") (by decide +kernel)) (fun H locs q9 hP hD hS => ?_)
  refine lv_astore (lv' := [(6, .ref (q9)), (0, .ref (x0)), (1, .int (nI (j1))), (2, .int (nI (s1))), (3, .int (nI (k1))), (4, .int (x4)), (5, .ref (ou))]) hx hb dL_pour_21 hl (by decide) rfl (fun ls hl => ?_)
  refine lv_iconst (v := 2) hx hb dL_pour_23 (by decide) ?_
  exact z_iretW hx hb hr hlocks hK hP hD hS hAe (rfl) dL_pour_24

set_option maxRecDepth 100000 in
set_option maxHeartbeats 4000000 in
theorem hlpL_stir_2 (l : Launch) (D : va_G) (ac : Nat → ClassId) (hst : l.stackTraces = false) (sa : Nat) (sz : Nat) (x0 : Nat) (j1 : Nat) (a : Nat) (b : Nat) (n0 : Nat) (y0 : Nat) (ch : Nat) (sp0 : Nat) (ou : Nat) (of : Nat → Int64) (hj : j1 < 3) (ha : a < 12) (hb1 : b < 12) (h2 : b < a) : Met l yL_stir wsL_stir ({ frames := 8, cells := 1, slots := 6, locals := 129 } : Room) (va_Pc [.ref (x0), .int (nI (j1)), .int (nI (a)), .int (nI (b)), .ref (ou)] (zHS D ac [(x0, .inr (5, [.ref (n0), .ref (y0), .ref (ch), .ref (sp0)])), (ou, .inl (ac 4, 1, .inr (.inl (of))))] sz RX5 258 "an argument is out of range" sa "java/lang/IllegalArgumentException")) (zQi D ac [(x0, .inr (5, [.ref (n0), .ref (y0), .ref (ch), .ref (sp0)])), (ou, .inl (ac 4, 1, .inr (.inl (of))))] [(x0, .inr (5, [.ref (n0), .ref (y0), .ref (ch), .ref (sp0)])), (ou, .inl (ac 4, 1, .inr (.inl (of))))] sz (2)) 1 6 (va_A [(x0, .inr (5, [.ref (n0), .ref (y0), .ref (ch), .ref (sp0)])), (ou, .inl (ac 4, 1, .inr (.inl (of))))] sz) := by
  refine z_hT (cc := cL_stir) (maxL := 6) (ret := (some .int)) (hh := [(0, 12, 15, 13), (0, 12, 19, 15)]) (lv := [(0, .ref (x0)), (1, .int (nI (j1))), (2, .int (nI (a))), (3, .int (nI (b))), (4, .ref (ou))]) (by decide) rfl (Nat.le_of_ble_eq_true rfl) rfl ?_
  intro p e s m args below meth c ls A hx hb hr hml hown hts hlocks htab hl hK hP hsz hAe hA hD hS hq hR hcs hn9
  refine lv_aload hx hb dL_stir_0 (lv_at hl 4 rfl) ?_
  refine lv_iconst (v := 0) hx hb dL_stir_2 (by decide) ?_
  refine lv_aload_n hx hb dL_stir_3 rfl (lv_at hl 0 rfl) ?_
  refine lv_iload_n hx hb dL_stir_4 rfl (lv_at hl 1 rfl) ?_
  refine lv_iload_n hx hb dL_stir_5 rfl (lv_at hl 2 rfl) ?_
  refine lv_iload_n hx hb dL_stir_6 rfl (lv_at hl 3 rfl) ?_
  refine z_tV (rest := [.int (0), .ref (ou)]) (own := RL) (As := [.int (nI (j1)), .int (nI (a)), .int (nI (b))]) hx hb hml hown hts hl.1 hK hP hD hq hR hcs [] rfl (thrX5_stir_2 l D ac hst sa x0 j1 a b (hj) (ha) (hb1) (h2)) gL_stir_X5_stir rfl 3 (by decide +kernel) ⟨rfl, rfl, Nat.le_of_ble_eq_true rfl, Nat.le_of_ble_eq_true rfl⟩ 0 5 rfl rfl rfl rfl rfl (Nat.le_of_ble_eq_true rfl) dL_stir_7 ⟨Nat.le_refl _, Nat.le_refl _⟩ [⟨0, 12, 15, 13⟩] ⟨0, 12, 19, 15⟩ [] (htab.trans rfl) (List.forall_mem_cons.mpr ⟨Or.inr ⟨by decide, "java/lang/IndexOutOfBoundsException", hts (.classLink RL 13 "java/lang/IndexOutOfBoundsException") (by decide +kernel), hn9.1⟩, fun z h => absurd h List.not_mem_nil⟩) (by decide) (by decide) (hts (.classLink RL 15 "java/lang/IllegalArgumentException") (by decide +kernel)) (fun H locs q9 hP hD hS => ?_)
  refine lv_astore (lv' := [(5, .ref (q9)), (0, .ref (x0)), (1, .int (nI (j1))), (2, .int (nI (a))), (3, .int (nI (b))), (4, .ref (ou))]) hx hb dL_stir_19 hl (by decide) rfl (fun ls hl => ?_)
  refine lv_iconst (v := 2) hx hb dL_stir_21 (by decide) ?_
  exact z_iretW hx hb hr hlocks hK hP hD hS hAe (rfl) dL_stir_22

set_option maxRecDepth 100000 in
set_option maxHeartbeats 4000000 in
theorem hlpL_pour_3 (l : Launch) (D : va_G) (ac : Nat → ClassId) (hst : l.stackTraces = false) (sa : Nat) (sz : Nat) (x0 : Nat) (n0 : Nat) (y0 : Nat) (ch : Nat) (sp0 : Nat) (n1 : Nat) (n2 : Nat) (n3 : Nat) (n4 : Nat) (n11 : Nat) (n12 : Nat) (tp : Int32) (fl : Int32) (v : Nat → Int32) (w : Nat → Int32) (jf : Nat → Option Nat) (h0 : Nat) (g0 : Nat) (g : Nat → Int32) (j1 : Nat) (s1 : Nat) (k1 : Nat) (x4 : Int32) (ou : Nat) (of : Nat → Int64) (hj : j1 < 3) (hs : s1 < 12) (hk : k1 < 4) (h2 : 1 ≤ x4 ∧ x4 ≤ 999) (h3 : 5000 < qAll g + x4) (hjf : jf j1 = some h0) : Met l yL_pour wsL_pour ({ frames := 8, cells := 1, slots := 6, locals := 134 } : Room) (va_Pc [.ref (x0), .int (nI (j1)), .int (nI (s1)), .int (nI (k1)), .int (x4), .ref (ou)] (zHS D ac [(x0, .inr (5, [.ref (n0), .ref (y0), .ref (ch), .ref (sp0)])), (n0, .inr (4, [.ref (n1), .ref (n4), .ref (n11), .ref (n12), .int (tp), .int (fl)])), (n1, .inr (3, [.ref (n2), .ref (n3)])), (n2, .inl (ac 0, 4, .inl (v))), (n3, .inl (ac 0, 4, .inl (w))), (n4, .inl (ac 2, 3, .inr (.inr (.inr (.inr (jf)))))), (h0, .inr (2, [.ref (g0)])), (g0, .inl (ac 0, 48, .inl (g))), (ou, .inl (ac 4, 1, .inr (.inl (of))))] sz RX5 260 "the jar would hold too many grains" sa "java/lang/IllegalStateException")) (zQi D ac [(x0, .inr (5, [.ref (n0), .ref (y0), .ref (ch), .ref (sp0)])), (n0, .inr (4, [.ref (n1), .ref (n4), .ref (n11), .ref (n12), .int (tp), .int (fl)])), (n1, .inr (3, [.ref (n2), .ref (n3)])), (n2, .inl (ac 0, 4, .inl (v))), (n3, .inl (ac 0, 4, .inl (w))), (n4, .inl (ac 2, 3, .inr (.inr (.inr (.inr (jf)))))), (h0, .inr (2, [.ref (g0)])), (g0, .inl (ac 0, 48, .inl (g))), (ou, .inl (ac 4, 1, .inr (.inl (of))))] [(x0, .inr (5, [.ref (n0), .ref (y0), .ref (ch), .ref (sp0)])), (n0, .inr (4, [.ref (n1), .ref (n4), .ref (n11), .ref (n12), .int (tp), .int (fl)])), (n1, .inr (3, [.ref (n2), .ref (n3)])), (n2, .inl (ac 0, 4, .inl (v))), (n3, .inl (ac 0, 4, .inl (w))), (n4, .inl (ac 2, 3, .inr (.inr (.inr (.inr (jf)))))), (h0, .inr (2, [.ref (g0)])), (g0, .inl (ac 0, 48, .inl (g))), (ou, .inl (ac 4, 1, .inr (.inl (of))))] sz (3)) 1 6 (va_A [(x0, .inr (5, [.ref (n0), .ref (y0), .ref (ch), .ref (sp0)])), (n0, .inr (4, [.ref (n1), .ref (n4), .ref (n11), .ref (n12), .int (tp), .int (fl)])), (n1, .inr (3, [.ref (n2), .ref (n3)])), (n2, .inl (ac 0, 4, .inl (v))), (n3, .inl (ac 0, 4, .inl (w))), (n4, .inl (ac 2, 3, .inr (.inr (.inr (.inr (jf)))))), (h0, .inr (2, [.ref (g0)])), (g0, .inl (ac 0, 48, .inl (g))), (ou, .inl (ac 4, 1, .inr (.inl (of))))] sz) := by
  refine z_hT (cc := cL_pour) (maxL := 7) (ret := (some .int)) (hh := [(0, 14, 17, 13), (0, 14, 21, 15), (0, 14, 25, 24)]) (lv := [(0, .ref (x0)), (1, .int (nI (j1))), (2, .int (nI (s1))), (3, .int (nI (k1))), (4, .int (x4)), (5, .ref (ou))]) (by decide) rfl (Nat.le_of_ble_eq_true rfl) rfl ?_
  intro p e s m args below meth c ls A hx hb hr hml hown hts hlocks htab hl hK hP hsz hAe hA hD hS hq hR hcs hn9
  refine lv_aload hx hb dL_pour_0 (lv_at hl 5 rfl) ?_
  refine lv_iconst (v := 0) hx hb dL_pour_2 (by decide) ?_
  refine lv_aload_n hx hb dL_pour_3 rfl (lv_at hl 0 rfl) ?_
  refine lv_iload_n hx hb dL_pour_4 rfl (lv_at hl 1 rfl) ?_
  refine lv_iload_n hx hb dL_pour_5 rfl (lv_at hl 2 rfl) ?_
  refine lv_iload_n hx hb dL_pour_6 rfl (lv_at hl 3 rfl) ?_
  refine lv_iload hx hb dL_pour_7 (lv_at hl 4 rfl) ?_
  refine z_tV (rest := [.int (0), .ref (ou)]) (own := RL) (As := [.int (nI (j1)), .int (nI (s1)), .int (nI (k1)), .int (x4)]) hx hb hml hown hts hl.1 hK hP hD hq hR hcs [0, 1, 2, 3, 4, 5, 6, 7] rfl (thrX5_pour_3 l D ac hst sa x0 n0 y0 ch sp0 n1 n2 n3 n4 n11 n12 tp fl v w jf h0 g0 g j1 s1 k1 x4 (hj) (hs) (hk) (h2) (h3) (hjf)) gL_pour_X5_pour rfl 4 (by decide +kernel) ⟨rfl, rfl, Nat.le_of_ble_eq_true rfl, Nat.le_of_ble_eq_true rfl⟩ 0 5 rfl rfl rfl rfl rfl (Nat.le_of_ble_eq_true rfl) dL_pour_9 ⟨Nat.le_refl _, Nat.le_refl _⟩ [⟨0, 14, 17, 13⟩, ⟨0, 14, 21, 15⟩] ⟨0, 14, 25, 24⟩ [] (htab.trans rfl) (List.forall_mem_cons.mpr ⟨Or.inr ⟨by decide, "java/lang/IndexOutOfBoundsException", hts (.classLink RL 13 "java/lang/IndexOutOfBoundsException") (by decide +kernel), hn9.2.1⟩, List.forall_mem_cons.mpr ⟨Or.inr ⟨by decide, "java/lang/IllegalArgumentException", hts (.classLink RL 15 "java/lang/IllegalArgumentException") (by decide +kernel), hn9.2.2⟩, fun z h => absurd h List.not_mem_nil⟩⟩) (by decide) (by decide) (hts (.classLink RL 24 "java/lang/IllegalStateException") (by decide +kernel)) (fun H locs q9 hP hD hS => ?_)
  refine lv_astore (lv' := [(6, .ref (q9)), (0, .ref (x0)), (1, .int (nI (j1))), (2, .int (nI (s1))), (3, .int (nI (k1))), (4, .int (x4)), (5, .ref (ou))]) hx hb dL_pour_25 hl (by decide) rfl (fun ls hl => ?_)
  refine lv_iconst (v := 3) hx hb dL_pour_27 (by decide) ?_
  exact z_iretW hx hb hr hlocks hK hP hD hS hAe (rfl) dL_pour_28

set_option maxRecDepth 100000 in
set_option maxHeartbeats 4000000 in
theorem hlpL_decant_1 (l : Launch) (D : va_G) (ac : Nat → ClassId) (hst : l.stackTraces = false) (sa : Nat) (sz : Nat) (x0 : Nat) (x1 : Int32) (x2 : Int32) (x3 : Int32) (n0 : Nat) (y0 : Nat) (ch : Nat) (sp0 : Nat) (ou : Nat) (of : Nat → Int64) (h1 : ¬ ((0 ≤ x1 ∧ x1 ≤ 2) ∧ (0 ≤ x2 ∧ x2 ≤ 2) ∧ (0 ≤ x3 ∧ x3 ≤ 11))) : Met l yL_decant wsL_decant ({ frames := 9, cells := 1, slots := 6, locals := 148 } : Room) (va_Pc [.ref (x0), .int (x1), .int (x2), .int (x3), .ref (ou)] (zHS D ac [(x0, .inr (5, [.ref (n0), .ref (y0), .ref (ch), .ref (sp0)])), (ou, .inl (ac 4, 1, .inr (.inl (of))))] sz RX5 255 "there is no such jar, slice, class or setting" sa "java/lang/IndexOutOfBoundsException")) (zQi D ac [(x0, .inr (5, [.ref (n0), .ref (y0), .ref (ch), .ref (sp0)])), (ou, .inl (ac 4, 1, .inr (.inl (of))))] [(x0, .inr (5, [.ref (n0), .ref (y0), .ref (ch), .ref (sp0)])), (ou, .inl (ac 4, 1, .inr (.inl (of))))] sz (1)) 1 6 (va_A [(x0, .inr (5, [.ref (n0), .ref (y0), .ref (ch), .ref (sp0)])), (ou, .inl (ac 4, 1, .inr (.inl (of))))] sz) := by
  refine z_hT (cc := cL_decant) (maxL := 6) (ret := (some .int)) (hh := [(0, 12, 15, 13), (0, 12, 19, 15), (0, 12, 23, 24)]) (lv := [(0, .ref (x0)), (1, .int (x1)), (2, .int (x2)), (3, .int (x3)), (4, .ref (ou))]) (by decide) rfl (Nat.le_of_ble_eq_true rfl) rfl ?_
  intro p e s m args below meth c ls A hx hb hr hml hown hts hlocks htab hl hK hP hsz hAe hA hD hS hq hR hcs hn9
  refine lv_aload hx hb dL_decant_0 (lv_at hl 4 rfl) ?_
  refine lv_iconst (v := 0) hx hb dL_decant_2 (by decide) ?_
  refine lv_aload_n hx hb dL_decant_3 rfl (lv_at hl 0 rfl) ?_
  refine lv_iload_n hx hb dL_decant_4 rfl (lv_at hl 1 rfl) ?_
  refine lv_iload_n hx hb dL_decant_5 rfl (lv_at hl 2 rfl) ?_
  refine lv_iload_n hx hb dL_decant_6 rfl (lv_at hl 3 rfl) ?_
  refine z_tV (rest := [.int (0), .ref (ou)]) (own := RL) (As := [.int (x1), .int (x2), .int (x3)]) hx hb hml hown hts hl.1 hK hP hD hq hR hcs [] rfl (thrX5_decant_1 l D ac hst sa x0 x1 x2 x3 (h1)) gL_decant_X5_decant rfl 3 (by decide +kernel) ⟨rfl, rfl, Nat.le_of_ble_eq_true rfl, Nat.le_of_ble_eq_true rfl⟩ 0 5 rfl rfl rfl rfl rfl (Nat.le_of_ble_eq_true rfl) dL_decant_7 ⟨Nat.le_refl _, Nat.le_refl _⟩ [] ⟨0, 12, 15, 13⟩ [⟨0, 12, 19, 15⟩, ⟨0, 12, 23, 24⟩] (htab.trans rfl) (fun z h => absurd h List.not_mem_nil) (by decide) (by decide) (hts (.classLink RL 13 "java/lang/IndexOutOfBoundsException") (by decide +kernel)) (fun H locs q9 hP hD hS => ?_)
  refine lv_astore (lv' := [(5, .ref (q9)), (0, .ref (x0)), (1, .int (x1)), (2, .int (x2)), (3, .int (x3)), (4, .ref (ou))]) hx hb dL_decant_15 hl (by decide) rfl (fun ls hl => ?_)
  refine lv_iconst (v := 1) hx hb dL_decant_17 (by decide) ?_
  exact z_iretW hx hb hr hlocks hK hP hD hS hAe (rfl) dL_decant_18

set_option maxRecDepth 100000 in
set_option maxHeartbeats 4000000 in
theorem hlpL_decant_2 (l : Launch) (D : va_G) (ac : Nat → ClassId) (hst : l.stackTraces = false) (sa : Nat) (sz : Nat) (x0 : Nat) (j1 : Nat) (t : Nat) (n0 : Nat) (y0 : Nat) (ch : Nat) (sp0 : Nat) (ou : Nat) (of : Nat → Int64) (hj : j1 < 3) (ht : t < 12) : Met l yL_decant wsL_decant ({ frames := 7, cells := 1, slots := 6, locals := 106 } : Room) (va_Pc [.ref (x0), .int (nI (j1)), .int (nI (j1)), .int (nI (t)), .ref (ou)] (zHS D ac [(x0, .inr (5, [.ref (n0), .ref (y0), .ref (ch), .ref (sp0)])), (ou, .inl (ac 4, 1, .inr (.inl (of))))] sz RX5 102 "a jar is not poured into itself" sa "java/lang/IllegalArgumentException")) (zQi D ac [(x0, .inr (5, [.ref (n0), .ref (y0), .ref (ch), .ref (sp0)])), (ou, .inl (ac 4, 1, .inr (.inl (of))))] [(x0, .inr (5, [.ref (n0), .ref (y0), .ref (ch), .ref (sp0)])), (ou, .inl (ac 4, 1, .inr (.inl (of))))] sz (2)) 1 6 (va_A [(x0, .inr (5, [.ref (n0), .ref (y0), .ref (ch), .ref (sp0)])), (ou, .inl (ac 4, 1, .inr (.inl (of))))] sz) := by
  refine z_hT (cc := cL_decant) (maxL := 6) (ret := (some .int)) (hh := [(0, 12, 15, 13), (0, 12, 19, 15), (0, 12, 23, 24)]) (lv := [(0, .ref (x0)), (1, .int (nI (j1))), (2, .int (nI (j1))), (3, .int (nI (t))), (4, .ref (ou))]) (by decide) rfl (Nat.le_of_ble_eq_true rfl) rfl ?_
  intro p e s m args below meth c ls A hx hb hr hml hown hts hlocks htab hl hK hP hsz hAe hA hD hS hq hR hcs hn9
  refine lv_aload hx hb dL_decant_0 (lv_at hl 4 rfl) ?_
  refine lv_iconst (v := 0) hx hb dL_decant_2 (by decide) ?_
  refine lv_aload_n hx hb dL_decant_3 rfl (lv_at hl 0 rfl) ?_
  refine lv_iload_n hx hb dL_decant_4 rfl (lv_at hl 1 rfl) ?_
  refine lv_iload_n hx hb dL_decant_5 rfl (lv_at hl 2 rfl) ?_
  refine lv_iload_n hx hb dL_decant_6 rfl (lv_at hl 3 rfl) ?_
  refine z_tV (rest := [.int (0), .ref (ou)]) (own := RL) (As := [.int (nI (j1)), .int (nI (j1)), .int (nI (t))]) hx hb hml hown hts hl.1 hK hP hD hq hR hcs [] rfl (thrX5_decant_2 l D ac hst sa x0 j1 t (hj) (ht)) gL_decant_X5_decant rfl 3 (by decide +kernel) ⟨rfl, rfl, Nat.le_of_ble_eq_true rfl, Nat.le_of_ble_eq_true rfl⟩ 0 5 rfl rfl rfl rfl rfl (Nat.le_of_ble_eq_true rfl) dL_decant_7 ⟨Nat.le_refl _, Nat.le_refl _⟩ [⟨0, 12, 15, 13⟩] ⟨0, 12, 19, 15⟩ [⟨0, 12, 23, 24⟩] (htab.trans rfl) (List.forall_mem_cons.mpr ⟨Or.inr ⟨by decide, "java/lang/IndexOutOfBoundsException", hts (.classLink RL 13 "java/lang/IndexOutOfBoundsException") (by decide +kernel), hn9.1⟩, fun z h => absurd h List.not_mem_nil⟩) (by decide) (by decide) (hts (.classLink RL 15 "java/lang/IllegalArgumentException") (by decide +kernel)) (fun H locs q9 hP hD hS => ?_)
  refine lv_astore (lv' := [(5, .ref (q9)), (0, .ref (x0)), (1, .int (nI (j1))), (2, .int (nI (j1))), (3, .int (nI (t))), (4, .ref (ou))]) hx hb dL_decant_19 hl (by decide) rfl (fun ls hl => ?_)
  refine lv_iconst (v := 2) hx hb dL_decant_21 (by decide) ?_
  exact z_iretW hx hb hr hlocks hK hP hD hS hAe (rfl) dL_decant_22

set_option maxRecDepth 100000 in
set_option maxHeartbeats 4000000 in
theorem hlpL_decant_3 (l : Launch) (D : va_G) (ac : Nat → ClassId) (hst : l.stackTraces = false) (sa : Nat) (sz : Nat) (x0 : Nat) (n0 : Nat) (y0 : Nat) (ch : Nat) (sp0 : Nat) (n1 : Nat) (n4 : Nat) (n11 : Nat) (n12 : Nat) (tp : Int32) (fl : Int32) (jf : Nat → Option Nat) (h0 : Nat) (g0 : Nat) (g : Nat → Int32) (h2 : Nat) (o0 : Nat) (o : Nat → Int32) (j1 : Nat) (j2 : Nat) (t : Nat) (ou : Nat) (of : Nat → Int64) (hj : j1 < 3) (hj2 : j2 < 3) (ht : t < 12) (hne : ¬ j1 = j2) (hjf : jf j1 = some h0) (hjf2 : jf j2 = some h2) (h3 : 5000 < qAll o + qTo g (t + 1)) : Met l yL_decant wsL_decant ({ frames := 8, cells := 1, slots := 6, locals := 133 } : Room) (va_Pc [.ref (x0), .int (nI (j1)), .int (nI (j2)), .int (nI (t)), .ref (ou)] (zHS D ac [(x0, .inr (5, [.ref (n0), .ref (y0), .ref (ch), .ref (sp0)])), (n0, .inr (4, [.ref (n1), .ref (n4), .ref (n11), .ref (n12), .int (tp), .int (fl)])), (n4, .inl (ac 2, 3, .inr (.inr (.inr (.inr (jf)))))), (h0, .inr (2, [.ref (g0)])), (g0, .inl (ac 0, 48, .inl (g))), (h2, .inr (2, [.ref (o0)])), (o0, .inl (ac 0, 48, .inl (o))), (ou, .inl (ac 4, 1, .inr (.inl (of))))] sz RX5 260 "the jar would hold too many grains" sa "java/lang/IllegalStateException")) (zQi D ac [(x0, .inr (5, [.ref (n0), .ref (y0), .ref (ch), .ref (sp0)])), (n0, .inr (4, [.ref (n1), .ref (n4), .ref (n11), .ref (n12), .int (tp), .int (fl)])), (n4, .inl (ac 2, 3, .inr (.inr (.inr (.inr (jf)))))), (h0, .inr (2, [.ref (g0)])), (g0, .inl (ac 0, 48, .inl (g))), (h2, .inr (2, [.ref (o0)])), (o0, .inl (ac 0, 48, .inl (o))), (ou, .inl (ac 4, 1, .inr (.inl (of))))] [(x0, .inr (5, [.ref (n0), .ref (y0), .ref (ch), .ref (sp0)])), (n0, .inr (4, [.ref (n1), .ref (n4), .ref (n11), .ref (n12), .int (tp), .int (fl)])), (n4, .inl (ac 2, 3, .inr (.inr (.inr (.inr (jf)))))), (h0, .inr (2, [.ref (g0)])), (g0, .inl (ac 0, 48, .inl (g))), (h2, .inr (2, [.ref (o0)])), (o0, .inl (ac 0, 48, .inl (o))), (ou, .inl (ac 4, 1, .inr (.inl (of))))] sz (3)) 1 6 (va_A [(x0, .inr (5, [.ref (n0), .ref (y0), .ref (ch), .ref (sp0)])), (n0, .inr (4, [.ref (n1), .ref (n4), .ref (n11), .ref (n12), .int (tp), .int (fl)])), (n4, .inl (ac 2, 3, .inr (.inr (.inr (.inr (jf)))))), (h0, .inr (2, [.ref (g0)])), (g0, .inl (ac 0, 48, .inl (g))), (h2, .inr (2, [.ref (o0)])), (o0, .inl (ac 0, 48, .inl (o))), (ou, .inl (ac 4, 1, .inr (.inl (of))))] sz) := by
  refine z_hT (cc := cL_decant) (maxL := 6) (ret := (some .int)) (hh := [(0, 12, 15, 13), (0, 12, 19, 15), (0, 12, 23, 24)]) (lv := [(0, .ref (x0)), (1, .int (nI (j1))), (2, .int (nI (j2))), (3, .int (nI (t))), (4, .ref (ou))]) (by decide) rfl (Nat.le_of_ble_eq_true rfl) rfl ?_
  intro p e s m args below meth c ls A hx hb hr hml hown hts hlocks htab hl hK hP hsz hAe hA hD hS hq hR hcs hn9
  refine lv_aload hx hb dL_decant_0 (lv_at hl 4 rfl) ?_
  refine lv_iconst (v := 0) hx hb dL_decant_2 (by decide) ?_
  refine lv_aload_n hx hb dL_decant_3 rfl (lv_at hl 0 rfl) ?_
  refine lv_iload_n hx hb dL_decant_4 rfl (lv_at hl 1 rfl) ?_
  refine lv_iload_n hx hb dL_decant_5 rfl (lv_at hl 2 rfl) ?_
  refine lv_iload_n hx hb dL_decant_6 rfl (lv_at hl 3 rfl) ?_
  refine z_tV (rest := [.int (0), .ref (ou)]) (own := RL) (As := [.int (nI (j1)), .int (nI (j2)), .int (nI (t))]) hx hb hml hown hts hl.1 hK hP hD hq hR hcs [0, 1, 2, 3, 4, 5, 6] rfl (thrX5_decant_3 l D ac hst sa x0 n0 y0 ch sp0 n1 n4 n11 n12 tp fl jf h0 g0 g h2 o0 o j1 j2 t (hj) (hj2) (ht) (hne) (hjf) (hjf2) (h3)) gL_decant_X5_decant rfl 3 (by decide +kernel) ⟨rfl, rfl, Nat.le_of_ble_eq_true rfl, Nat.le_of_ble_eq_true rfl⟩ 0 5 rfl rfl rfl rfl rfl (Nat.le_of_ble_eq_true rfl) dL_decant_7 ⟨Nat.le_refl _, Nat.le_refl _⟩ [⟨0, 12, 15, 13⟩, ⟨0, 12, 19, 15⟩] ⟨0, 12, 23, 24⟩ [] (htab.trans rfl) (List.forall_mem_cons.mpr ⟨Or.inr ⟨by decide, "java/lang/IndexOutOfBoundsException", hts (.classLink RL 13 "java/lang/IndexOutOfBoundsException") (by decide +kernel), hn9.2.1⟩, List.forall_mem_cons.mpr ⟨Or.inr ⟨by decide, "java/lang/IllegalArgumentException", hts (.classLink RL 15 "java/lang/IllegalArgumentException") (by decide +kernel), hn9.2.2⟩, fun z h => absurd h List.not_mem_nil⟩⟩) (by decide) (by decide) (hts (.classLink RL 24 "java/lang/IllegalStateException") (by decide +kernel)) (fun H locs q9 hP hD hS => ?_)
  refine lv_astore (lv' := [(5, .ref (q9)), (0, .ref (x0)), (1, .int (nI (j1))), (2, .int (nI (j2))), (3, .int (nI (t))), (4, .ref (ou))]) hx hb dL_decant_23 hl (by decide) rfl (fun ls hl => ?_)
  refine lv_iconst (v := 3) hx hb dL_decant_25 (by decide) ?_
  exact z_iretW hx hb hr hlocks hK hP hD hS hAe (rfl) dL_decant_26

set_option maxRecDepth 100000 in
set_option maxHeartbeats 4000000 in
theorem hlpL_settle_2 (l : Launch) (D : va_G) (ac : Nat → ClassId) (hst : l.stackTraces = false) (sa : Nat) (sz : Nat) (x0 : Nat) (n0 : Nat) (y0 : Nat) (ch : Nat) (sp0 : Nat) (n1 : Nat) (n4 : Nat) (n11 : Nat) (n12 : Nat) (tp : Int32) (fl : Int32) (x1 : Int32) (ou : Nat) (of : Nat → Int64) (h1 : 1 ≤ x1 ∧ x1 ≤ 100) (h2 : 10000 < tp + x1) : Met l yL_settle wsL_settle ({ frames := 7, cells := 1, slots := 6, locals := 105 } : Room) (va_Pc [.ref (x0), .int (x1), .ref (ou)] (zHS D ac [(x0, .inr (5, [.ref (n0), .ref (y0), .ref (ch), .ref (sp0)])), (n0, .inr (4, [.ref (n1), .ref (n4), .ref (n11), .ref (n12), .int (tp), .int (fl)])), (ou, .inl (ac 4, 1, .inr (.inl (of))))] sz RX5 126 "no more steps are left" sa "java/lang/IllegalStateException")) (zQi D ac [(x0, .inr (5, [.ref (n0), .ref (y0), .ref (ch), .ref (sp0)])), (n0, .inr (4, [.ref (n1), .ref (n4), .ref (n11), .ref (n12), .int (tp), .int (fl)])), (ou, .inl (ac 4, 1, .inr (.inl (of))))] [(x0, .inr (5, [.ref (n0), .ref (y0), .ref (ch), .ref (sp0)])), (n0, .inr (4, [.ref (n1), .ref (n4), .ref (n11), .ref (n12), .int (tp), .int (fl)])), (ou, .inl (ac 4, 1, .inr (.inl (of))))] sz (2)) 1 6 (va_A [(x0, .inr (5, [.ref (n0), .ref (y0), .ref (ch), .ref (sp0)])), (n0, .inr (4, [.ref (n1), .ref (n4), .ref (n11), .ref (n12), .int (tp), .int (fl)])), (ou, .inl (ac 4, 1, .inr (.inl (of))))] sz) := by
  refine z_hT (cc := cL_settle) (maxL := 4) (ret := (some .int)) (hh := [(0, 9, 12, 15), (0, 9, 15, 24)]) (lv := [(0, .ref (x0)), (1, .int (x1)), (2, .ref (ou))]) (by decide) rfl (Nat.le_of_ble_eq_true rfl) rfl ?_
  intro p e s m args below meth c ls A hx hb hr hml hown hts hlocks htab hl hK hP hsz hAe hA hD hS hq hR hcs hn9
  refine lv_aload_n hx hb dL_settle_0 rfl (lv_at hl 2 rfl) ?_
  refine lv_iconst (v := 0) hx hb dL_settle_1 (by decide) ?_
  refine lv_aload_n hx hb dL_settle_2 rfl (lv_at hl 0 rfl) ?_
  refine lv_iload_n hx hb dL_settle_3 rfl (lv_at hl 1 rfl) ?_
  refine z_tV (rest := [.int (0), .ref (ou)]) (own := RL) (As := [.int (x1)]) hx hb hml hown hts hl.1 hK hP hD hq hR hcs [0, 1] rfl (thrX5_settle_2 l D ac hst sa x0 n0 y0 ch sp0 n1 n4 n11 n12 tp fl x1 (h1) (h2)) gL_settle_X5_settle rfl 1 (by decide +kernel) ⟨rfl, rfl, Nat.le_of_ble_eq_true rfl, Nat.le_of_ble_eq_true rfl⟩ 0 5 rfl rfl rfl rfl rfl (Nat.le_of_ble_eq_true rfl) dL_settle_4 ⟨Nat.le_refl _, Nat.le_refl _⟩ [⟨0, 9, 12, 15⟩] ⟨0, 9, 15, 24⟩ [] (htab.trans rfl) (List.forall_mem_cons.mpr ⟨Or.inr ⟨by decide, "java/lang/IllegalArgumentException", hts (.classLink RL 15 "java/lang/IllegalArgumentException") (by decide +kernel), hn9.2.2⟩, fun z h => absurd h List.not_mem_nil⟩) (by decide) (by decide) (hts (.classLink RL 24 "java/lang/IllegalStateException") (by decide +kernel)) (fun H locs q9 hP hD hS => ?_)
  refine lv_astore_n (lv' := [(3, .ref (q9)), (0, .ref (x0)), (1, .int (x1)), (2, .ref (ou))]) hx hb dL_settle_15 rfl hl (by decide) rfl (fun ls hl => ?_)
  refine lv_iconst (v := 2) hx hb dL_settle_16 (by decide) ?_
  exact z_iretW hx hb hr hlocks hK hP hD hS hAe (rfl) dL_settle_17

set_option maxRecDepth 100000 in
set_option maxHeartbeats 4000000 in
theorem hlpL_append_2 (l : Launch) (D : va_G) (ac : Nat → ClassId) (hst : l.stackTraces = false) (sa : Nat) (sz : Nat) (x0 : Nat) (n0 : Nat) (y0 : Nat) (ch : Nat) (sp0 : Nat) (cs : Nat) (tx : Nat → Int32) (ln : Nat) (x1 : Int32) (ou : Nat) (of : Nat → Int64) (h1 : 33 ≤ x1 ∧ x1 ≤ 126) (hln : ln = 60) : Met l yL_append wsL_append ({ frames := 7, cells := 1, slots := 6, locals := 103 } : Room) (va_Pc [.ref (x0), .int (x1), .ref (ou)] (zHS D ac [(x0, .inr (5, [.ref (n0), .ref (y0), .ref (ch), .ref (sp0)])), (ch, .inr (0, [.ref (cs), .int (nI (ln))])), (cs, .inl (ac 1, 60, .inl (tx))), (ou, .inl (ac 4, 1, .inr (.inl (of))))] sz RX5 140 "the buffer is full" sa "java/lang/IllegalStateException")) (zQi D ac [(x0, .inr (5, [.ref (n0), .ref (y0), .ref (ch), .ref (sp0)])), (ch, .inr (0, [.ref (cs), .int (nI (ln))])), (cs, .inl (ac 1, 60, .inl (tx))), (ou, .inl (ac 4, 1, .inr (.inl (of))))] [(x0, .inr (5, [.ref (n0), .ref (y0), .ref (ch), .ref (sp0)])), (ch, .inr (0, [.ref (cs), .int (nI (ln))])), (cs, .inl (ac 1, 60, .inl (tx))), (ou, .inl (ac 4, 1, .inr (.inl (of))))] sz (2)) 1 6 (va_A [(x0, .inr (5, [.ref (n0), .ref (y0), .ref (ch), .ref (sp0)])), (ch, .inr (0, [.ref (cs), .int (nI (ln))])), (cs, .inl (ac 1, 60, .inl (tx))), (ou, .inl (ac 4, 1, .inr (.inl (of))))] sz) := by
  refine z_hT (cc := cL_append) (maxL := 4) (ret := (some .int)) (hh := [(0, 9, 12, 15), (0, 9, 15, 24)]) (lv := [(0, .ref (x0)), (1, .int (x1)), (2, .ref (ou))]) (by decide) rfl (Nat.le_of_ble_eq_true rfl) rfl ?_
  intro p e s m args below meth c ls A hx hb hr hml hown hts hlocks htab hl hK hP hsz hAe hA hD hS hq hR hcs hn9
  refine lv_aload_n hx hb dL_append_0 rfl (lv_at hl 2 rfl) ?_
  refine lv_iconst (v := 0) hx hb dL_append_1 (by decide) ?_
  refine lv_aload_n hx hb dL_append_2 rfl (lv_at hl 0 rfl) ?_
  refine lv_iload_n hx hb dL_append_3 rfl (lv_at hl 1 rfl) ?_
  refine z_tV (rest := [.int (0), .ref (ou)]) (own := RL) (As := [.int (x1)]) hx hb hml hown hts hl.1 hK hP hD hq hR hcs [0, 1, 2] rfl (thrX5_append_2 l D ac hst sa x0 n0 y0 ch sp0 cs tx ln x1 (h1) (hln)) gL_append_X5_append rfl 1 (by decide +kernel) ⟨rfl, rfl, Nat.le_of_ble_eq_true rfl, Nat.le_of_ble_eq_true rfl⟩ 0 5 rfl rfl rfl rfl rfl (Nat.le_of_ble_eq_true rfl) dL_append_4 ⟨Nat.le_refl _, Nat.le_refl _⟩ [⟨0, 9, 12, 15⟩] ⟨0, 9, 15, 24⟩ [] (htab.trans rfl) (List.forall_mem_cons.mpr ⟨Or.inr ⟨by decide, "java/lang/IllegalArgumentException", hts (.classLink RL 15 "java/lang/IllegalArgumentException") (by decide +kernel), hn9.2.2⟩, fun z h => absurd h List.not_mem_nil⟩) (by decide) (by decide) (hts (.classLink RL 24 "java/lang/IllegalStateException") (by decide +kernel)) (fun H locs q9 hP hD hS => ?_)
  refine lv_astore_n (lv' := [(3, .ref (q9)), (0, .ref (x0)), (1, .int (x1)), (2, .ref (ou))]) hx hb dL_append_15 rfl hl (by decide) rfl (fun ls hl => ?_)
  refine lv_iconst (v := 2) hx hb dL_append_16 (by decide) ?_
  exact z_iretW hx hb hr hlocks hK hP hD hS hAe (rfl) dL_append_17

set_option maxRecDepth 100000 in
set_option maxHeartbeats 4000000 in
theorem hlpL_load_1 (l : Launch) (D : va_G) (ac : Nat → ClassId) (hst : l.stackTraces = false) (sa : Nat) (sz : Nat) (x0 : Nat) (x1 : Int32) (n0 : Nat) (y0 : Nat) (ch : Nat) (sp0 : Nat) (ou : Nat) (of : Nat → Int64) (h1 : ¬ (0 ≤ x1 ∧ x1 ≤ 2)) : Met l yL_load wsL_load ({ frames := 8, cells := 1, slots := 6, locals := 126 } : Room) (va_Pc [.ref (x0), .int (x1), .ref (ou)] (zHS D ac [(x0, .inr (5, [.ref (n0), .ref (y0), .ref (ch), .ref (sp0)])), (ou, .inl (ac 4, 1, .inr (.inl (of))))] sz RX5 255 "there is no such jar, slice, class or setting" sa "java/lang/IndexOutOfBoundsException")) (zQi D ac [(x0, .inr (5, [.ref (n0), .ref (y0), .ref (ch), .ref (sp0)])), (ou, .inl (ac 4, 1, .inr (.inl (of))))] [(x0, .inr (5, [.ref (n0), .ref (y0), .ref (ch), .ref (sp0)])), (ou, .inl (ac 4, 1, .inr (.inl (of))))] sz (1)) 1 6 (va_A [(x0, .inr (5, [.ref (n0), .ref (y0), .ref (ch), .ref (sp0)])), (ou, .inl (ac 4, 1, .inr (.inl (of))))] sz) := by
  refine z_hT (cc := cL_load) (maxL := 4) (ret := (some .int)) (hh := [(0, 9, 12, 13), (0, 9, 15, 15), (0, 9, 18, 24)]) (lv := [(0, .ref (x0)), (1, .int (x1)), (2, .ref (ou))]) (by decide) rfl (Nat.le_of_ble_eq_true rfl) rfl ?_
  intro p e s m args below meth c ls A hx hb hr hml hown hts hlocks htab hl hK hP hsz hAe hA hD hS hq hR hcs hn9
  refine lv_aload_n hx hb dL_load_0 rfl (lv_at hl 2 rfl) ?_
  refine lv_iconst (v := 0) hx hb dL_load_1 (by decide) ?_
  refine lv_aload_n hx hb dL_load_2 rfl (lv_at hl 0 rfl) ?_
  refine lv_iload_n hx hb dL_load_3 rfl (lv_at hl 1 rfl) ?_
  refine z_tV (rest := [.int (0), .ref (ou)]) (own := RL) (As := [.int (x1)]) hx hb hml hown hts hl.1 hK hP hD hq hR hcs [] rfl (thrX5_load_1 l D ac hst sa x0 x1 (h1)) gL_load_X5_load rfl 1 (by decide +kernel) ⟨rfl, rfl, Nat.le_of_ble_eq_true rfl, Nat.le_of_ble_eq_true rfl⟩ 0 5 rfl rfl rfl rfl rfl (Nat.le_of_ble_eq_true rfl) dL_load_4 ⟨Nat.le_refl _, Nat.le_refl _⟩ [] ⟨0, 9, 12, 13⟩ [⟨0, 9, 15, 15⟩, ⟨0, 9, 18, 24⟩] (htab.trans rfl) (fun z h => absurd h List.not_mem_nil) (by decide) (by decide) (hts (.classLink RL 13 "java/lang/IndexOutOfBoundsException") (by decide +kernel)) (fun H locs q9 hP hD hS => ?_)
  refine lv_astore_n (lv' := [(3, .ref (q9)), (0, .ref (x0)), (1, .int (x1)), (2, .ref (ou))]) hx hb dL_load_12 rfl hl (by decide) rfl (fun ls hl => ?_)
  refine lv_iconst (v := 1) hx hb dL_load_13 (by decide) ?_
  exact z_iretW hx hb hr hlocks hK hP hD hS hAe (rfl) dL_load_14

set_option maxRecDepth 100000 in
set_option maxHeartbeats 4000000 in
theorem hlpL_load_2 (l : Launch) (D : va_G) (ac : Nat → ClassId) (hst : l.stackTraces = false) (sa : Nat) (sz : Nat) (x0 : Nat) (n0 : Nat) (y0 : Nat) (ch : Nat) (sp0 : Nat) (cs : Nat) (tx : Nat → Int32) (ln : Nat) (j1 : Nat) (ou : Nat) (of : Nat → Int64) (hj : j1 < 3) (hln : ln ≤ 60) (h2 : ¬ (qPls tx ln = some 4 ∨ qPls tx ln = some 6 ∨ qPls tx ln = some 7)) : Met l yL_load wsL_load ({ frames := 7, cells := 1, slots := 6, locals := 105 } : Room) (va_Pc [.ref (x0), .int (nI (j1)), .ref (ou)] (zHS D ac [(x0, .inr (5, [.ref (n0), .ref (y0), .ref (ch), .ref (sp0)])), (ch, .inr (0, [.ref (cs), .int (nI (ln))])), (cs, .inl (ac 1, 60, .inl (tx))), (ou, .inl (ac 4, 1, .inr (.inl (of))))] sz RX5 159 "the buffer is not a complete charge" sa "java/lang/IllegalArgumentException")) (zQi D ac [(x0, .inr (5, [.ref (n0), .ref (y0), .ref (ch), .ref (sp0)])), (ch, .inr (0, [.ref (cs), .int (nI (ln))])), (cs, .inl (ac 1, 60, .inl (tx))), (ou, .inl (ac 4, 1, .inr (.inl (of))))] [(x0, .inr (5, [.ref (n0), .ref (y0), .ref (ch), .ref (sp0)])), (ch, .inr (0, [.ref (cs), .int (nI (ln))])), (cs, .inl (ac 1, 60, .inl (tx))), (ou, .inl (ac 4, 1, .inr (.inl (of))))] sz (2)) 1 6 (va_A [(x0, .inr (5, [.ref (n0), .ref (y0), .ref (ch), .ref (sp0)])), (ch, .inr (0, [.ref (cs), .int (nI (ln))])), (cs, .inl (ac 1, 60, .inl (tx))), (ou, .inl (ac 4, 1, .inr (.inl (of))))] sz) := by
  refine z_hT (cc := cL_load) (maxL := 4) (ret := (some .int)) (hh := [(0, 9, 12, 13), (0, 9, 15, 15), (0, 9, 18, 24)]) (lv := [(0, .ref (x0)), (1, .int (nI (j1))), (2, .ref (ou))]) (by decide) rfl (Nat.le_of_ble_eq_true rfl) rfl ?_
  intro p e s m args below meth c ls A hx hb hr hml hown hts hlocks htab hl hK hP hsz hAe hA hD hS hq hR hcs hn9
  refine lv_aload_n hx hb dL_load_0 rfl (lv_at hl 2 rfl) ?_
  refine lv_iconst (v := 0) hx hb dL_load_1 (by decide) ?_
  refine lv_aload_n hx hb dL_load_2 rfl (lv_at hl 0 rfl) ?_
  refine lv_iload_n hx hb dL_load_3 rfl (lv_at hl 1 rfl) ?_
  refine z_tV (rest := [.int (0), .ref (ou)]) (own := RL) (As := [.int (nI (j1))]) hx hb hml hown hts hl.1 hK hP hD hq hR hcs [0, 1, 2] rfl (thrX5_load_2 l D ac hst sa x0 n0 y0 ch sp0 cs tx ln j1 (hj) (hln) (h2)) gL_load_X5_load rfl 1 (by decide +kernel) ⟨rfl, rfl, Nat.le_of_ble_eq_true rfl, Nat.le_of_ble_eq_true rfl⟩ 0 5 rfl rfl rfl rfl rfl (Nat.le_of_ble_eq_true rfl) dL_load_4 ⟨Nat.le_refl _, Nat.le_refl _⟩ [⟨0, 9, 12, 13⟩] ⟨0, 9, 15, 15⟩ [⟨0, 9, 18, 24⟩] (htab.trans rfl) (List.forall_mem_cons.mpr ⟨Or.inr ⟨by decide, "java/lang/IndexOutOfBoundsException", hts (.classLink RL 13 "java/lang/IndexOutOfBoundsException") (by decide +kernel), hn9.1⟩, fun z h => absurd h List.not_mem_nil⟩) (by decide) (by decide) (hts (.classLink RL 15 "java/lang/IllegalArgumentException") (by decide +kernel)) (fun H locs q9 hP hD hS => ?_)
  refine lv_astore_n (lv' := [(3, .ref (q9)), (0, .ref (x0)), (1, .int (nI (j1))), (2, .ref (ou))]) hx hb dL_load_15 rfl hl (by decide) rfl (fun ls hl => ?_)
  refine lv_iconst (v := 2) hx hb dL_load_16 (by decide) ?_
  exact z_iretW hx hb hr hlocks hK hP hD hS hAe (rfl) dL_load_17

set_option maxRecDepth 100000 in
set_option maxHeartbeats 4000000 in
theorem hlpL_undo_1 (l : Launch) (D : va_G) (ac : Nat → ClassId) (hst : l.stackTraces = false) (sa : Nat) (sz : Nat) (x0 : Nat) (n0 : Nat) (y0 : Nat) (ch : Nat) (sp0 : Nat) (y1 : Nat) (hf : Nat → Option Nat) (od : Nat) (sz1 : Nat) (ou : Nat) (of : Nat → Int64) (hsz : sz1 = 0) : Met l yL_undo wsL_undo ({ frames := 7, cells := 1, slots := 6, locals := 102 } : Room) (va_Pc [.ref (x0), .ref (ou)] (zHS D ac [(x0, .inr (5, [.ref (n0), .ref (y0), .ref (ch), .ref (sp0)])), (y0, .inr (1, [.ref (y1), .int (nI (od)), .int (nI (sz1))])), (y1, .inl (ac 3, 6, .inr (.inr (.inr (.inr (hf)))))), (ou, .inl (ac 4, 1, .inr (.inl (of))))] sz RX5 175 "there is no saved state" sa "java/lang/IllegalStateException")) (zQi D ac [(x0, .inr (5, [.ref (n0), .ref (y0), .ref (ch), .ref (sp0)])), (y0, .inr (1, [.ref (y1), .int (nI (od)), .int (nI (sz1))])), (y1, .inl (ac 3, 6, .inr (.inr (.inr (.inr (hf)))))), (ou, .inl (ac 4, 1, .inr (.inl (of))))] [(x0, .inr (5, [.ref (n0), .ref (y0), .ref (ch), .ref (sp0)])), (y0, .inr (1, [.ref (y1), .int (nI (od)), .int (nI (sz1))])), (y1, .inl (ac 3, 6, .inr (.inr (.inr (.inr (hf)))))), (ou, .inl (ac 4, 1, .inr (.inl (of))))] sz (1)) 1 6 (va_A [(x0, .inr (5, [.ref (n0), .ref (y0), .ref (ch), .ref (sp0)])), (y0, .inr (1, [.ref (y1), .int (nI (od)), .int (nI (sz1))])), (y1, .inl (ac 3, 6, .inr (.inr (.inr (.inr (hf)))))), (ou, .inl (ac 4, 1, .inr (.inl (of))))] sz) := by
  refine z_hT (cc := cL_undo) (maxL := 3) (ret := (some .int)) (hh := [(0, 8, 11, 24)]) (lv := [(0, .ref (x0)), (1, .ref (ou))]) (by decide) rfl (Nat.le_of_ble_eq_true rfl) rfl ?_
  intro p e s m args below meth c ls A hx hb hr hml hown hts hlocks htab hl hK hP hsz hAe hA hD hS hq hR hcs hn9
  refine lv_aload_n hx hb dL_undo_0 rfl (lv_at hl 1 rfl) ?_
  refine lv_iconst (v := 0) hx hb dL_undo_1 (by decide) ?_
  refine lv_aload_n hx hb dL_undo_2 rfl (lv_at hl 0 rfl) ?_
  refine z_tV (rest := [.int (0), .ref (ou)]) (own := RL) (As := []) hx hb hml hown hts hl.1 hK hP hD hq hR hcs [0, 1, 2] rfl (thrX5_undo_1 l D ac hst sa x0 n0 y0 ch sp0 y1 hf od sz1 (by omega)) gL_undo_X5_undo rfl 0 (by decide +kernel) ⟨rfl, rfl, Nat.le_of_ble_eq_true rfl, Nat.le_of_ble_eq_true rfl⟩ 0 5 rfl rfl rfl rfl rfl (Nat.le_of_ble_eq_true rfl) dL_undo_3 ⟨Nat.le_refl _, Nat.le_refl _⟩ [] ⟨0, 8, 11, 24⟩ [] (htab.trans rfl) (fun z h => absurd h List.not_mem_nil) (by decide) (by decide) (hts (.classLink RL 24 "java/lang/IllegalStateException") (by decide +kernel)) (fun H locs q9 hP hD hS => ?_)
  refine lv_astore_n (lv' := [(2, .ref (q9)), (0, .ref (x0)), (1, .ref (ou))]) hx hb dL_undo_11 rfl hl (by decide) rfl (fun ls hl => ?_)
  refine lv_iconst (v := 1) hx hb dL_undo_12 (by decide) ?_
  exact z_iretW hx hb hr hlocks hK hP hD hS hAe (rfl) dL_undo_13

