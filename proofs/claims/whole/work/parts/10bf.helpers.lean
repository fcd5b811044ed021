set_option maxRecDepth 100000 in
set_option maxHeartbeats 4000000 in
theorem hlpL_ifSettled_2 (l : Launch) (D : va_G) (ac : Nat → ClassId) (hst : l.stackTraces = false) (sa : Nat) (sz : Nat) (x0 : Nat) (j1 : Nat) (x2 : Int32) (x3 : Int32) (n0 : Nat) (y0 : Nat) (ch : Nat) (sp0 : Nat) (ou : Nat) (of : Nat → Int64) (hj : j1 < 3) (h2 : ¬ ((1 ≤ x2 ∧ x2 ≤ 100) ∧ (0 ≤ x3 ∧ x3 ≤ 8))) : Met l yL_ifSettled wsL_ifSettled ({ frames := 8, cells := 1, slots := 6, locals := 127 } : Room) (va_Pc [.ref (x0), .int (nI (j1)), .int (x2), .int (x3), .ref (ou)] (zHS D ac [(x0, .inr (5, [.ref (n0), .ref (y0), .ref (ch), .ref (sp0)])), (ou, .inl (ac 4, 1, .inr (.inl (of))))] sz RX5 258 "an argument is out of range" sa "java/lang/IllegalArgumentException")) (zQi D ac [(x0, .inr (5, [.ref (n0), .ref (y0), .ref (ch), .ref (sp0)])), (ou, .inl (ac 4, 1, .inr (.inl (of))))] [(x0, .inr (5, [.ref (n0), .ref (y0), .ref (ch), .ref (sp0)])), (ou, .inl (ac 4, 1, .inr (.inl (of))))] sz (2)) 1 6 (va_A [(x0, .inr (5, [.ref (n0), .ref (y0), .ref (ch), .ref (sp0)])), (ou, .inl (ac 4, 1, .inr (.inl (of))))] sz) := by
  refine z_hT (cc := cL_ifSettled) (maxL := 6) (ret := (some .int)) (hh := [(0, 12, 15, 13), (0, 12, 19, 15)]) (lv := [(0, .ref (x0)), (1, .int (nI (j1))), (2, .int (x2)), (3, .int (x3)), (4, .ref (ou))]) (by decide) rfl (Nat.le_of_ble_eq_true rfl) rfl ?_
  intro p e s m args below meth c ls A hx hb hr hml hown hts hlocks htab hl hK hP hsz hAe hA hD hS hq hR hcs hn9
  refine lv_aload hx hb dL_ifSettled_0 (lv_at hl 4 rfl) ?_
  refine lv_iconst (v := 0) hx hb dL_ifSettled_2 (by decide) ?_
  refine lv_aload_n hx hb dL_ifSettled_3 rfl (lv_at hl 0 rfl) ?_
  refine lv_iload_n hx hb dL_ifSettled_4 rfl (lv_at hl 1 rfl) ?_
  refine lv_iload_n hx hb dL_ifSettled_5 rfl (lv_at hl 2 rfl) ?_
  refine lv_iload_n hx hb dL_ifSettled_6 rfl (lv_at hl 3 rfl) ?_
  refine z_tV (rest := [.int (0), .ref (ou)]) (own := RL) (As := [.int (nI (j1)), .int (x2), .int (x3)]) hx hb hml hown hts hl.1 hK hP hD hq hR hcs [] rfl (thrX5_ifSettled_2 l D ac hst sa x0 j1 x2 x3 (hj) (h2)) gL_ifSettled_X5_ifSettled rfl 3 (by decide +kernel) ⟨rfl, rfl, Nat.le_of_ble_eq_true rfl, Nat.le_of_ble_eq_true rfl⟩ 0 5 rfl rfl rfl rfl rfl (Nat.le_of_ble_eq_true rfl) dL_ifSettled_7 ⟨Nat.le_refl _, Nat.le_refl _⟩ [⟨0, 12, 15, 13⟩] ⟨0, 12, 19, 15⟩ [] (htab.trans rfl) (List.forall_mem_cons.mpr ⟨Or.inr ⟨by decide, "java/lang/IndexOutOfBoundsException", hts (.classLink RL 13 "java/lang/IndexOutOfBoundsException") (by decide +kernel), hn9.1⟩, fun z h => absurd h List.not_mem_nil⟩) (by decide) (by decide) (hts (.classLink RL 15 "java/lang/IllegalArgumentException") (by decide +kernel)) (fun H locs q9 hP hD hS => ?_)
  refine lv_astore (lv' := [(5, .ref (q9)), (0, .ref (x0)), (1, .int (nI (j1))), (2, .int (x2)), (3, .int (x3)), (4, .ref (ou))]) hx hb dL_ifSettled_19 hl (by decide) rfl (fun ls hl => ?_)
  refine lv_iconst (v := 2) hx hb dL_ifSettled_21 (by decide) ?_
  exact z_iretW hx hb hr hlocks hK hP hD hS hAe (rfl) dL_ifSettled_22

