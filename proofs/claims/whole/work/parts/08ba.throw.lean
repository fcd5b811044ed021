set_option maxRecDepth 100000 in
set_option maxHeartbeats 4000000 in
theorem thrX5_needIndex_t (l : Launch) (D : va_G) (ac : Nat → ClassId) (hst : l.stackTraces = false) (sa : Nat) (x1 : Int32) (y : Int32) (h1 : ¬ (0 ≤ x1 ∧ x1 < y)) : vx_Met l yX5_needIndex wsX5_needIndex ({ frames := 6, cells := 1, slots := 6, locals := 82 } : Room) (va_Pc [.int (x1), .int (y)] (zQW D ac [] RX5 255 "there is no such jar, slice, class or setting" sa "java/lang/IndexOutOfBoundsException")) zF (zT "java/lang/IndexOutOfBoundsException") 1 6 (fun _ => False) := by
  refine z_th (cc := cX5_needIndex) (maxL := 2) (ret := none) (lv := [(0, .int (x1)), (1, .int (y))]) (by decide) rfl (Nat.le_of_ble_eq_true rfl) rfl ?_
  intro p e s m args below meth c ls hx hb hml hown hts hlocks hnx hl hK hP hq hR hcs
  refine lv_iload_n hx hb dX5_needIndex_0 rfl (lv_at hl 0 rfl) ?_
  refine lv_if_lt (tgt := 9) hx hb dX5_needIndex_1 (by decide) (fun c_1 => ?_) (fun c_1 => ?_)
  · exact vx_throwS (own := RX5) (cls := "java/lang/IndexOutOfBoundsException") (text := "there is no such jar, slice, class or setting") (names := ["java/lang/RuntimeException", "java/lang/Exception"]) (ik := 253) (is := 255) (ic := 257) (A := fun _ => False) hx hb hst hown (by decide +kernel) (by decide +kernel) (hts (.classLink RX5 253 "java/lang/IndexOutOfBoundsException") (by decide +kernel)) (hts (.initialized "java/lang/IndexOutOfBoundsException") (by decide +kernel)) hR (z_at (by decide +kernel) (by decide +kernel) hts hcs) (by decide +kernel) hq.1 hq.2 va_S.rf (hl.1.trans hml.symm) dX5_needIndex_9 dX5_needIndex_12 dX5_needIndex_13 dX5_needIndex_15 dX5_needIndex_18 (fun x h => (hnx x h).elim) (by decide) (by decide) (Nat.le_refl _) (Nat.le_refl _) hlocks (fun t _ h1 h2 => ⟨(), trivial, rfl, h1, fun q a _ => h2 q a⟩) (fun z h => absurd h List.not_mem_nil) (Nat.le_refl _) (Nat.le_refl _)
  · refine lv_iload_n hx hb dX5_needIndex_4 rfl (lv_at hl 0 rfl) ?_
    refine lv_iload_n hx hb dX5_needIndex_5 rfl (lv_at hl 1 rfl) ?_
    refine lv_icmp_lt (tgt := 19) hx hb dX5_needIndex_6 (by decide) (fun c_6 => absurd c_6 (fun q => h1 ⟨Int32.not_lt.mp c_1, q⟩)) (fun c_6 => ?_)
    exact vx_throwS (own := RX5) (cls := "java/lang/IndexOutOfBoundsException") (text := "there is no such jar, slice, class or setting") (names := ["java/lang/RuntimeException", "java/lang/Exception"]) (ik := 253) (is := 255) (ic := 257) (A := fun _ => False) hx hb hst hown (by decide +kernel) (by decide +kernel) (hts (.classLink RX5 253 "java/lang/IndexOutOfBoundsException") (by decide +kernel)) (hts (.initialized "java/lang/IndexOutOfBoundsException") (by decide +kernel)) hR (z_at (by decide +kernel) (by decide +kernel) hts hcs) (by decide +kernel) hq.1 hq.2 va_S.rf (hl.1.trans hml.symm) dX5_needIndex_9 dX5_needIndex_12 dX5_needIndex_13 dX5_needIndex_15 dX5_needIndex_18 (fun x h => (hnx x h).elim) (by decide) (by decide) (Nat.le_refl _) (Nat.le_refl _) hlocks (fun t _ h1 h2 => ⟨(), trivial, rfl, h1, fun q a _ => h2 q a⟩) (fun z h => absurd h List.not_mem_nil) (Nat.le_refl _) (Nat.le_refl _)

set_option maxRecDepth 100000 in
set_option maxHeartbeats 4000000 in
theorem thrX5_needRange_t (l : Launch) (D : va_G) (ac : Nat → ClassId) (hst : l.stackTraces = false) (sa : Nat) (x : Int32) (lo : Int32) (up : Int32) (h2 : ¬ (lo ≤ x ∧ x ≤ up)) : vx_Met l yX5_needRange wsX5_needRange ({ frames := 6, cells := 1, slots := 6, locals := 82 } : Room) (va_Pc [.int (x), .int (lo), .int (up)] (zQW D ac [] RX5 258 "an argument is out of range" sa "java/lang/IllegalArgumentException")) zF (zT "java/lang/IllegalArgumentException") 1 6 (fun _ => False) := by
  refine z_th (cc := cX5_needRange) (maxL := 3) (ret := none) (lv := [(0, .int (x)), (1, .int (lo)), (2, .int (up))]) (by decide) rfl (Nat.le_of_ble_eq_true rfl) rfl ?_
  intro p e s m args below meth c ls hx hb hml hown hts hlocks hnx hl hK hP hq hR hcs
  refine lv_iload_n hx hb dX5_needRange_0 rfl (lv_at hl 0 rfl) ?_
  refine lv_iload_n hx hb dX5_needRange_1 rfl (lv_at hl 1 rfl) ?_
  refine lv_icmp_lt (tgt := 10) hx hb dX5_needRange_2 (by decide) (fun c_2 => ?_) (fun c_2 => ?_)
  · exact vx_throwSW (own := RX5) (cls := "java/lang/IllegalArgumentException") (text := "an argument is out of range") (names := ["java/lang/RuntimeException", "java/lang/Exception"]) (ik := 100) (is := 258) (ic := 104) (A := fun _ => False) hx hb hst hown (by decide +kernel) (by decide +kernel) (hts (.classLink RX5 100 "java/lang/IllegalArgumentException") (by decide +kernel)) (hts (.initialized "java/lang/IllegalArgumentException") (by decide +kernel)) hR (z_at (by decide +kernel) (by decide +kernel) hts hcs) (by decide +kernel) hq.1 hq.2 va_S.rf (hl.1.trans hml.symm) dX5_needRange_10 dX5_needRange_13 dX5_needRange_14 dX5_needRange_17 dX5_needRange_20 (fun x h => (hnx x h).elim) (by decide) (by decide) (Nat.le_refl _) (Nat.le_refl _) hlocks (fun t _ h1 h2 => ⟨(), trivial, rfl, h1, fun q a _ => h2 q a⟩) (fun z h => absurd h List.not_mem_nil) (Nat.le_refl _) (Nat.le_refl _)
  · refine lv_iload_n hx hb dX5_needRange_5 rfl (lv_at hl 0 rfl) ?_
    refine lv_iload_n hx hb dX5_needRange_6 rfl (lv_at hl 2 rfl) ?_
    refine lv_icmp_le (tgt := 21) hx hb dX5_needRange_7 (by decide) (fun c_7 => absurd c_7 (fun q => h2 ⟨Int32.not_lt.mp c_2, q⟩)) (fun c_7 => ?_)
    exact vx_throwSW (own := RX5) (cls := "java/lang/IllegalArgumentException") (text := "an argument is out of range") (names := ["java/lang/RuntimeException", "java/lang/Exception"]) (ik := 100) (is := 258) (ic := 104) (A := fun _ => False) hx hb hst hown (by decide +kernel) (by decide +kernel) (hts (.classLink RX5 100 "java/lang/IllegalArgumentException") (by decide +kernel)) (hts (.initialized "java/lang/IllegalArgumentException") (by decide +kernel)) hR (z_at (by decide +kernel) (by decide +kernel) hts hcs) (by decide +kernel) hq.1 hq.2 va_S.rf (hl.1.trans hml.symm) dX5_needRange_10 dX5_needRange_13 dX5_needRange_14 dX5_needRange_17 dX5_needRange_20 (fun x h => (hnx x h).elim) (by decide) (by decide) (Nat.le_refl _) (Nat.le_refl _) hlocks (fun t _ h1 h2 => ⟨(), trivial, rfl, h1, fun q a _ => h2 q a⟩) (fun z h => absurd h List.not_mem_nil) (Nat.le_refl _) (Nat.le_refl _)

set_option maxRecDepth 100000 in
set_option maxHeartbeats 4000000 in
theorem thrX5_needRoom_t (l : Launch) (D : va_G) (ac : Nat → ClassId) (hst : l.stackTraces = false) (sa : Nat) (h0 : Nat) (g0 : Nat) (g : Nat → Int32) (x : Int32) (h3 : 5000 < qAll g + x) : vx_Met l yX5_needRoom wsX5_needRoom ({ frames := 6, cells := 1, slots := 6, locals := 88 } : Room) (va_Pc [.ref (h0), .int (x)] (zQW D ac [(h0, .inr (2, [.ref (g0)])), (g0, .inl (ac 0, 48, .inl (g)))] RX5 260 "the jar would hold too many grains" sa "java/lang/IllegalStateException")) zF (zT "java/lang/IllegalStateException") 1 6 (fun _ => False) := by
  refine z_th (cc := cX5_needRoom) (maxL := 2) (ret := none) (lv := [(0, .ref (h0)), (1, .int (x))]) (by decide) rfl (Nat.le_of_ble_eq_true rfl) rfl ?_
  intro p e s m args below meth c ls hx hb hml hown hts hlocks hnx hl hK hP hq hR hcs
  refine lv_aload_n hx hb dX5_needRoom_0 rfl (lv_at hl 0 rfl) ?_
  refine z_ci (z_vrun (rest := []) (own := RX5) (As := []) hx hb hml hown hts hl.1 hK hP [0, 1] rfl (metX2_all l D ac h0 g0 g ) gX5_needRoom_X2_all rfl 0 (by decide +kernel) ⟨rfl, rfl, Nat.le_of_ble_eq_true rfl, Nat.le_of_ble_eq_true rfl⟩ 0 2 rfl rfl rfl rfl rfl (Nat.le_of_ble_eq_true rfl) dX5_needRoom_1 ⟨Nat.zero_le _, Nat.zero_le _⟩) ?_
  refine lv_iload_n hx hb dX5_needRoom_4 rfl (lv_at hl 1 rfl) ?_
  refine lv_iadd hx hb dX5_needRoom_5 ?_
  refine lv_sipush (v := 5000) hx hb dX5_needRoom_6 (by decide) ?_
  refine lv_icmp_le (tgt := 23) hx hb dX5_needRoom_9 (by decide) (fun c_9 => absurd c_9 (Int32.not_le.mpr h3)) (fun c_9 => ?_)
  exact vx_throwSW (own := RX5) (cls := "java/lang/IllegalStateException") (text := "the jar would hold too many grains") (names := ["java/lang/RuntimeException", "java/lang/Exception"]) (ik := 124) (is := 260) (ic := 128) (A := fun _ => False) hx hb hst hown (by decide +kernel) (by decide +kernel) (hts (.classLink RX5 124 "java/lang/IllegalStateException") (by decide +kernel)) (hts (.initialized "java/lang/IllegalStateException") (by decide +kernel)) hR (z_at (by decide +kernel) (by decide +kernel) hts hcs) (by decide +kernel) hq.1 hq.2 va_S.rf (hl.1.trans hml.symm) dX5_needRoom_12 dX5_needRoom_15 dX5_needRoom_16 dX5_needRoom_19 dX5_needRoom_22 (fun x h => (hnx x h).elim) (by decide) (by decide) (Nat.le_refl _) (Nat.le_refl _) hlocks (fun t _ h1 h2 => ⟨(), trivial, rfl, h1, fun q a _ => h2 q a⟩) (fun z h => absurd h List.not_mem_nil) (Nat.le_refl _) (Nat.le_refl _)

set_option maxRecDepth 100000 in
set_option maxHeartbeats 4000000 in
theorem thrX5_needSlice_t (l : Launch) (D : va_G) (ac : Nat → ClassId) (hst : l.stackTraces = false) (sa : Nat) (x1 : Int32) (x2 : Int32) (h1 : ¬ ((0 ≤ x1 ∧ x1 ≤ 2) ∧ (0 ≤ x2 ∧ x2 ≤ 11))) : vx_Met l yX5_needSlice wsX5_needSlice ({ frames := 7, cells := 1, slots := 6, locals := 103 } : Room) (va_Pc [.int (x1), .int (x2)] (zQW D ac [] RX5 255 "there is no such jar, slice, class or setting" sa "java/lang/IndexOutOfBoundsException")) zF (zT "java/lang/IndexOutOfBoundsException") 1 6 (fun _ => False) := by
  refine z_th (cc := cX5_needSlice) (maxL := 2) (ret := none) (lv := [(0, .int (x1)), (1, .int (x2))]) (by decide) rfl (Nat.le_of_ble_eq_true rfl) rfl ?_
  intro p e s m args below meth c ls hx hb hml hown hts hlocks hnx hl hK hP hq hR hcs
  rcases z_dec x1 (n := 2) (by omega) with hx1 | ⟨j1, rfl, hj⟩
  · refine lv_iload_n hx hb dX5_needSlice_0 rfl (lv_at hl 0 rfl) ?_
    refine lv_iconst (v := 3) hx hb dX5_needSlice_1 (by decide) ?_
    exact z_tS (rest := []) (own := RX5) (As := [.int (x1), .int (3)]) hx hb hml hown hts hl.1 hlocks hnx hK hP hq hR hcs [] rfl (thrX5_needIndex_t l D ac hst sa x1 3 (fun q => hx1 ⟨q.1, z_ltle (n := 2) (by omega) q.2⟩)) gX5_needSlice_X5_needIndex rfl 2 (by decide +kernel) ⟨rfl, rfl, Nat.le_of_ble_eq_true rfl, Nat.le_of_ble_eq_true rfl⟩ rfl rfl (Nat.le_of_ble_eq_true rfl) dX5_needSlice_2 ⟨Nat.le_refl _, Nat.le_refl _⟩
  · refine lv_iload_n hx hb dX5_needSlice_0 rfl (lv_at hl 0 rfl) ?_
    refine lv_iconst (v := 3) hx hb dX5_needSlice_1 (by decide) ?_
    refine z_cv (z_srun (rest := []) (own := RX5) (As := [.int ((nI j1)), .int (3)]) hx hb hml hown hts hl.1 hK hP [] rfl (metX5_needIndex_0 l D ac j1 3 (by omega) (by omega)) gX5_needSlice_X5_needIndex rfl 2 (by decide +kernel) ⟨rfl, rfl, Nat.le_of_ble_eq_true rfl, Nat.le_of_ble_eq_true rfl⟩ rfl rfl (Nat.le_of_ble_eq_true rfl) dX5_needSlice_2 ⟨Nat.zero_le _, Nat.zero_le _⟩) ?_
    refine lv_iload_n hx hb dX5_needSlice_5 rfl (lv_at hl 1 rfl) ?_
    refine lv_bipush (v := 12) hx hb dX5_needSlice_6 (by decide) ?_
    exact z_tS (rest := []) (own := RX5) (As := [.int (x2), .int (12)]) hx hb hml hown hts hl.1 hlocks hnx hK hP hq hR hcs [] rfl (thrX5_needIndex_t l D ac hst sa x2 12 (fun q => h1 ⟨z_in (n := 2) (by omega), ⟨q.1, z_ltle (n := 11) (by omega) q.2⟩⟩)) gX5_needSlice_X5_needIndex rfl 2 (by decide +kernel) ⟨rfl, rfl, Nat.le_of_ble_eq_true rfl, Nat.le_of_ble_eq_true rfl⟩ rfl rfl (Nat.le_of_ble_eq_true rfl) dX5_needSlice_8 ⟨Nat.le_refl _, Nat.le_refl _⟩

set_option maxRecDepth 100000 in
set_option maxHeartbeats 4000000 in
theorem thrX5_setSpeed_1 (l : Launch) (D : va_G) (ac : Nat → ClassId) (hst : l.stackTraces = false) (sa : Nat) (x0 : Nat) (x1 : Int32) (x2 : Int32) (h1 : ¬ (0 ≤ x1 ∧ x1 ≤ 3)) : vx_Met l yX5_setSpeed wsX5_setSpeed ({ frames := 7, cells := 1, slots := 6, locals := 103 } : Room) (va_Pc [.ref (x0), .int (x1), .int (x2)] (zQW D ac [] RX5 255 "there is no such jar, slice, class or setting" sa "java/lang/IndexOutOfBoundsException")) zF (zT "java/lang/IndexOutOfBoundsException") 1 6 (fun _ => False) := by
  refine z_th (cc := cX5_setSpeed) (maxL := 4) (ret := (some .int)) (lv := [(0, .ref (x0)), (1, .int (x1)), (2, .int (x2))]) (by decide) rfl (Nat.le_of_ble_eq_true rfl) rfl ?_
  intro p e s m args below meth c ls hx hb hml hown hts hlocks hnx hl hK hP hq hR hcs
  refine lv_iload_n hx hb dX5_setSpeed_0 rfl (lv_at hl 1 rfl) ?_
  refine lv_iconst (v := 4) hx hb dX5_setSpeed_1 (by decide) ?_
  exact z_tS (rest := []) (own := RX5) (As := [.int (x1), .int (4)]) hx hb hml hown hts hl.1 hlocks hnx hK hP hq hR hcs [] rfl (thrX5_needIndex_t l D ac hst sa x1 4 (fun q => h1 ⟨q.1, z_ltle (n := 3) (by omega) q.2⟩)) gX5_setSpeed_X5_needIndex rfl 2 (by decide +kernel) ⟨rfl, rfl, Nat.le_of_ble_eq_true rfl, Nat.le_of_ble_eq_true rfl⟩ rfl rfl (Nat.le_of_ble_eq_true rfl) dX5_setSpeed_2 ⟨Nat.le_refl _, Nat.le_refl _⟩

set_option maxRecDepth 100000 in
set_option maxHeartbeats 4000000 in
theorem thrX5_set_1 (l : Launch) (D : va_G) (ac : Nat → ClassId) (hst : l.stackTraces = false) (sa : Nat) (x0 : Nat) (x1 : Int32) (x2 : Int32) (h1 : ¬ (0 ≤ x1 ∧ x1 ≤ 3)) : vx_Met l yX5_set wsX5_set ({ frames := 7, cells := 1, slots := 6, locals := 103 } : Room) (va_Pc [.ref (x0), .int (x1), .int (x2)] (zQW D ac [] RX5 255 "there is no such jar, slice, class or setting" sa "java/lang/IndexOutOfBoundsException")) zF (zT "java/lang/IndexOutOfBoundsException") 1 6 (fun _ => False) := by
  refine z_th (cc := cX5_set) (maxL := 4) (ret := (some .int)) (lv := [(0, .ref (x0)), (1, .int (x1)), (2, .int (x2))]) (by decide) rfl (Nat.le_of_ble_eq_true rfl) rfl ?_
  intro p e s m args below meth c ls hx hb hml hown hts hlocks hnx hl hK hP hq hR hcs
  refine lv_iload_n hx hb dX5_set_0 rfl (lv_at hl 1 rfl) ?_
  refine lv_iconst (v := 4) hx hb dX5_set_1 (by decide) ?_
  exact z_tS (rest := []) (own := RX5) (As := [.int (x1), .int (4)]) hx hb hml hown hts hl.1 hlocks hnx hK hP hq hR hcs [] rfl (thrX5_needIndex_t l D ac hst sa x1 4 (fun q => h1 ⟨q.1, z_ltle (n := 3) (by omega) q.2⟩)) gX5_set_X5_needIndex rfl 2 (by decide +kernel) ⟨rfl, rfl, Nat.le_of_ble_eq_true rfl, Nat.le_of_ble_eq_true rfl⟩ rfl rfl (Nat.le_of_ble_eq_true rfl) dX5_set_2 ⟨Nat.le_refl _, Nat.le_refl _⟩

set_option maxRecDepth 100000 in
set_option maxHeartbeats 4000000 in
theorem thrX5_turn_1 (l : Launch) (D : va_G) (ac : Nat → ClassId) (hst : l.stackTraces = false) (sa : Nat) (x0 : Nat) (x1 : Int32) (h1 : ¬ (0 ≤ x1 ∧ x1 ≤ 2)) : vx_Met l yX5_turn wsX5_turn ({ frames := 7, cells := 1, slots := 6, locals := 103 } : Room) (va_Pc [.ref (x0), .int (x1)] (zQW D ac [] RX5 255 "there is no such jar, slice, class or setting" sa "java/lang/IndexOutOfBoundsException")) zF (zT "java/lang/IndexOutOfBoundsException") 1 6 (fun _ => False) := by
  refine z_th (cc := cX5_turn) (maxL := 2) (ret := (some .int)) (lv := [(0, .ref (x0)), (1, .int (x1))]) (by decide) rfl (Nat.le_of_ble_eq_true rfl) rfl ?_
  intro p e s m args below meth c ls hx hb hml hown hts hlocks hnx hl hK hP hq hR hcs
  refine lv_iload_n hx hb dX5_turn_0 rfl (lv_at hl 1 rfl) ?_
  refine lv_iconst (v := 3) hx hb dX5_turn_1 (by decide) ?_
  exact z_tS (rest := []) (own := RX5) (As := [.int (x1), .int (3)]) hx hb hml hown hts hl.1 hlocks hnx hK hP hq hR hcs [] rfl (thrX5_needIndex_t l D ac hst sa x1 3 (fun q => h1 ⟨q.1, z_ltle (n := 2) (by omega) q.2⟩)) gX5_turn_X5_needIndex rfl 2 (by decide +kernel) ⟨rfl, rfl, Nat.le_of_ble_eq_true rfl, Nat.le_of_ble_eq_true rfl⟩ rfl rfl (Nat.le_of_ble_eq_true rfl) dX5_turn_2 ⟨Nat.le_refl _, Nat.le_refl _⟩

set_option maxRecDepth 100000 in
set_option maxHeartbeats 4000000 in
theorem thrX5_jar_1 (l : Launch) (D : va_G) (ac : Nat → ClassId) (hst : l.stackTraces = false) (sa : Nat) (x0 : Nat) (x1 : Int32) (x2 : Int32) (h1 : ¬ (0 ≤ x1 ∧ x1 ≤ 2)) : vx_Met l yX5_jar wsX5_jar ({ frames := 7, cells := 1, slots := 6, locals := 103 } : Room) (va_Pc [.ref (x0), .int (x1), .int (x2)] (zQW D ac [] RX5 255 "there is no such jar, slice, class or setting" sa "java/lang/IndexOutOfBoundsException")) zF (zT "java/lang/IndexOutOfBoundsException") 1 6 (fun _ => False) := by
  refine z_th (cc := cX5_jar) (maxL := 3) (ret := (some .int)) (lv := [(0, .ref (x0)), (1, .int (x1)), (2, .int (x2))]) (by decide) rfl (Nat.le_of_ble_eq_true rfl) rfl ?_
  intro p e s m args below meth c ls hx hb hml hown hts hlocks hnx hl hK hP hq hR hcs
  refine lv_iload_n hx hb dX5_jar_0 rfl (lv_at hl 1 rfl) ?_
  refine lv_iconst (v := 3) hx hb dX5_jar_1 (by decide) ?_
  exact z_tS (rest := []) (own := RX5) (As := [.int (x1), .int (3)]) hx hb hml hown hts hl.1 hlocks hnx hK hP hq hR hcs [] rfl (thrX5_needIndex_t l D ac hst sa x1 3 (fun q => h1 ⟨q.1, z_ltle (n := 2) (by omega) q.2⟩)) gX5_jar_X5_needIndex rfl 2 (by decide +kernel) ⟨rfl, rfl, Nat.le_of_ble_eq_true rfl, Nat.le_of_ble_eq_true rfl⟩ rfl rfl (Nat.le_of_ble_eq_true rfl) dX5_jar_2 ⟨Nat.le_refl _, Nat.le_refl _⟩

set_option maxRecDepth 100000 in
set_option maxHeartbeats 4000000 in
theorem thrX5_grains_1 (l : Launch) (D : va_G) (ac : Nat → ClassId) (hst : l.stackTraces = false) (sa : Nat) (x0 : Nat) (x1 : Int32) (x2 : Int32) (h1 : ¬ (0 ≤ x1 ∧ x1 ≤ 3)) : vx_Met l yX5_grains wsX5_grains ({ frames := 7, cells := 1, slots := 6, locals := 103 } : Room) (va_Pc [.ref (x0), .int (x1), .int (x2)] (zQW D ac [] RX5 255 "there is no such jar, slice, class or setting" sa "java/lang/IndexOutOfBoundsException")) zF (zT "java/lang/IndexOutOfBoundsException") 1 6 (fun _ => False) := by
  refine z_th (cc := cX5_grains) (maxL := 3) (ret := (some .int)) (lv := [(0, .ref (x0)), (1, .int (x1)), (2, .int (x2))]) (by decide) rfl (Nat.le_of_ble_eq_true rfl) rfl ?_
  intro p e s m args below meth c ls hx hb hml hown hts hlocks hnx hl hK hP hq hR hcs
  refine lv_iload_n hx hb dX5_grains_0 rfl (lv_at hl 1 rfl) ?_
  refine lv_iconst (v := 4) hx hb dX5_grains_1 (by decide) ?_
  exact z_tS (rest := []) (own := RX5) (As := [.int (x1), .int (4)]) hx hb hml hown hts hl.1 hlocks hnx hK hP hq hR hcs [] rfl (thrX5_needIndex_t l D ac hst sa x1 4 (fun q => h1 ⟨q.1, z_ltle (n := 3) (by omega) q.2⟩)) gX5_grains_X5_needIndex rfl 2 (by decide +kernel) ⟨rfl, rfl, Nat.le_of_ble_eq_true rfl, Nat.le_of_ble_eq_true rfl⟩ rfl rfl (Nat.le_of_ble_eq_true rfl) dX5_grains_2 ⟨Nat.le_refl _, Nat.le_refl _⟩

set_option maxRecDepth 100000 in
set_option maxHeartbeats 4000000 in
theorem thrX5_setting_1 (l : Launch) (D : va_G) (ac : Nat → ClassId) (hst : l.stackTraces = false) (sa : Nat) (x0 : Nat) (x1 : Int32) (h1 : ¬ (0 ≤ x1 ∧ x1 ≤ 3)) : vx_Met l yX5_setting wsX5_setting ({ frames := 7, cells := 1, slots := 6, locals := 103 } : Room) (va_Pc [.ref (x0), .int (x1)] (zQW D ac [] RX5 255 "there is no such jar, slice, class or setting" sa "java/lang/IndexOutOfBoundsException")) zF (zT "java/lang/IndexOutOfBoundsException") 1 6 (fun _ => False) := by
  refine z_th (cc := cX5_setting) (maxL := 2) (ret := (some .int)) (lv := [(0, .ref (x0)), (1, .int (x1))]) (by decide) rfl (Nat.le_of_ble_eq_true rfl) rfl ?_
  intro p e s m args below meth c ls hx hb hml hown hts hlocks hnx hl hK hP hq hR hcs
  refine lv_iload_n hx hb dX5_setting_0 rfl (lv_at hl 1 rfl) ?_
  refine lv_iconst (v := 4) hx hb dX5_setting_1 (by decide) ?_
  exact z_tS (rest := []) (own := RX5) (As := [.int (x1), .int (4)]) hx hb hml hown hts hl.1 hlocks hnx hK hP hq hR hcs [] rfl (thrX5_needIndex_t l D ac hst sa x1 4 (fun q => h1 ⟨q.1, z_ltle (n := 3) (by omega) q.2⟩)) gX5_setting_X5_needIndex rfl 2 (by decide +kernel) ⟨rfl, rfl, Nat.le_of_ble_eq_true rfl, Nat.le_of_ble_eq_true rfl⟩ rfl rfl (Nat.le_of_ble_eq_true rfl) dX5_setting_2 ⟨Nat.le_refl _, Nat.le_refl _⟩

set_option maxRecDepth 100000 in
set_option maxHeartbeats 4000000 in
theorem thrX5_ifSettled_1 (l : Launch) (D : va_G) (ac : Nat → ClassId) (hst : l.stackTraces = false) (sa : Nat) (x0 : Nat) (x1 : Int32) (x2 : Int32) (x3 : Int32) (h1 : ¬ (0 ≤ x1 ∧ x1 ≤ 2)) : vx_Met l yX5_ifSettled wsX5_ifSettled ({ frames := 7, cells := 1, slots := 6, locals := 103 } : Room) (va_Pc [.ref (x0), .int (x1), .int (x2), .int (x3)] (zQW D ac [] RX5 255 "there is no such jar, slice, class or setting" sa "java/lang/IndexOutOfBoundsException")) zF (zT "java/lang/IndexOutOfBoundsException") 1 6 (fun _ => False) := by
  refine z_th (cc := cX5_ifSettled) (maxL := 4) (ret := (some .int)) (lv := [(0, .ref (x0)), (1, .int (x1)), (2, .int (x2)), (3, .int (x3))]) (by decide) rfl (Nat.le_of_ble_eq_true rfl) rfl ?_
  intro p e s m args below meth c ls hx hb hml hown hts hlocks hnx hl hK hP hq hR hcs
  refine lv_iload_n hx hb dX5_ifSettled_0 rfl (lv_at hl 1 rfl) ?_
  refine lv_iconst (v := 3) hx hb dX5_ifSettled_1 (by decide) ?_
  exact z_tS (rest := []) (own := RX5) (As := [.int (x1), .int (3)]) hx hb hml hown hts hl.1 hlocks hnx hK hP hq hR hcs [] rfl (thrX5_needIndex_t l D ac hst sa x1 3 (fun q => h1 ⟨q.1, z_ltle (n := 2) (by omega) q.2⟩)) gX5_ifSettled_X5_needIndex rfl 2 (by decide +kernel) ⟨rfl, rfl, Nat.le_of_ble_eq_true rfl, Nat.le_of_ble_eq_true rfl⟩ rfl rfl (Nat.le_of_ble_eq_true rfl) dX5_ifSettled_2 ⟨Nat.le_refl _, Nat.le_refl _⟩

set_option maxRecDepth 100000 in
set_option maxHeartbeats 4000000 in
theorem thrX5_clearIn_1 (l : Launch) (D : va_G) (ac : Nat → ClassId) (hst : l.stackTraces = false) (sa : Nat) (x0 : Nat) (x1 : Int32) (x2 : Int32) (h1 : ¬ (0 ≤ x1 ∧ x1 ≤ 2)) : vx_Met l yX5_clearIn wsX5_clearIn ({ frames := 7, cells := 1, slots := 6, locals := 103 } : Room) (va_Pc [.ref (x0), .int (x1), .int (x2)] (zQW D ac [] RX5 255 "there is no such jar, slice, class or setting" sa "java/lang/IndexOutOfBoundsException")) zF (zT "java/lang/IndexOutOfBoundsException") 1 6 (fun _ => False) := by
  refine z_th (cc := cX5_clearIn) (maxL := 4) (ret := (some .int)) (lv := [(0, .ref (x0)), (1, .int (x1)), (2, .int (x2))]) (by decide) rfl (Nat.le_of_ble_eq_true rfl) rfl ?_
  intro p e s m args below meth c ls hx hb hml hown hts hlocks hnx hl hK hP hq hR hcs
  refine lv_iload_n hx hb dX5_clearIn_0 rfl (lv_at hl 1 rfl) ?_
  refine lv_iconst (v := 3) hx hb dX5_clearIn_1 (by decide) ?_
  exact z_tS (rest := []) (own := RX5) (As := [.int (x1), .int (3)]) hx hb hml hown hts hl.1 hlocks hnx hK hP hq hR hcs [] rfl (thrX5_needIndex_t l D ac hst sa x1 3 (fun q => h1 ⟨q.1, z_ltle (n := 2) (by omega) q.2⟩)) gX5_clearIn_X5_needIndex rfl 2 (by decide +kernel) ⟨rfl, rfl, Nat.le_of_ble_eq_true rfl, Nat.le_of_ble_eq_true rfl⟩ rfl rfl (Nat.le_of_ble_eq_true rfl) dX5_clearIn_2 ⟨Nat.le_refl _, Nat.le_refl _⟩

set_option maxRecDepth 100000 in
set_option maxHeartbeats 4000000 in
theorem thrX5_restIn_1 (l : Launch) (D : va_G) (ac : Nat → ClassId) (hst : l.stackTraces = false) (sa : Nat) (x0 : Nat) (x1 : Int32) (h1 : ¬ (0 ≤ x1 ∧ x1 ≤ 2)) : vx_Met l yX5_restIn wsX5_restIn ({ frames := 7, cells := 1, slots := 6, locals := 103 } : Room) (va_Pc [.ref (x0), .int (x1)] (zQW D ac [] RX5 255 "there is no such jar, slice, class or setting" sa "java/lang/IndexOutOfBoundsException")) zF (zT "java/lang/IndexOutOfBoundsException") 1 6 (fun _ => False) := by
  refine z_th (cc := cX5_restIn) (maxL := 3) (ret := (some .int)) (lv := [(0, .ref (x0)), (1, .int (x1))]) (by decide) rfl (Nat.le_of_ble_eq_true rfl) rfl ?_
  intro p e s m args below meth c ls hx hb hml hown hts hlocks hnx hl hK hP hq hR hcs
  refine lv_iload_n hx hb dX5_restIn_0 rfl (lv_at hl 1 rfl) ?_
  refine lv_iconst (v := 3) hx hb dX5_restIn_1 (by decide) ?_
  exact z_tS (rest := []) (own := RX5) (As := [.int (x1), .int (3)]) hx hb hml hown hts hl.1 hlocks hnx hK hP hq hR hcs [] rfl (thrX5_needIndex_t l D ac hst sa x1 3 (fun q => h1 ⟨q.1, z_ltle (n := 2) (by omega) q.2⟩)) gX5_restIn_X5_needIndex rfl 2 (by decide +kernel) ⟨rfl, rfl, Nat.le_of_ble_eq_true rfl, Nat.le_of_ble_eq_true rfl⟩ rfl rfl (Nat.le_of_ble_eq_true rfl) dX5_restIn_2 ⟨Nat.le_refl _, Nat.le_refl _⟩

set_option maxRecDepth 100000 in
set_option maxHeartbeats 4000000 in
theorem thrX5_meanDepth_1 (l : Launch) (D : va_G) (ac : Nat → ClassId) (hst : l.stackTraces = false) (sa : Nat) (x0 : Nat) (x1 : Int32) (h1 : ¬ (0 ≤ x1 ∧ x1 ≤ 2)) : vx_Met l yX5_meanDepth wsX5_meanDepth ({ frames := 7, cells := 1, slots := 6, locals := 103 } : Room) (va_Pc [.ref (x0), .int (x1)] (zQW D ac [] RX5 255 "there is no such jar, slice, class or setting" sa "java/lang/IndexOutOfBoundsException")) zF (zT "java/lang/IndexOutOfBoundsException") 1 6 (fun _ => False) := by
  refine z_th (cc := cX5_meanDepth) (maxL := 3) (ret := (some .double)) (lv := [(0, .ref (x0)), (1, .int (x1))]) (by decide) rfl (Nat.le_of_ble_eq_true rfl) rfl ?_
  intro p e s m args below meth c ls hx hb hml hown hts hlocks hnx hl hK hP hq hR hcs
  refine lv_iload_n hx hb dX5_meanDepth_0 rfl (lv_at hl 1 rfl) ?_
  refine lv_iconst (v := 3) hx hb dX5_meanDepth_1 (by decide) ?_
  exact z_tS (rest := []) (own := RX5) (As := [.int (x1), .int (3)]) hx hb hml hown hts hl.1 hlocks hnx hK hP hq hR hcs [] rfl (thrX5_needIndex_t l D ac hst sa x1 3 (fun q => h1 ⟨q.1, z_ltle (n := 2) (by omega) q.2⟩)) gX5_meanDepth_X5_needIndex rfl 2 (by decide +kernel) ⟨rfl, rfl, Nat.le_of_ble_eq_true rfl, Nat.le_of_ble_eq_true rfl⟩ rfl rfl (Nat.le_of_ble_eq_true rfl) dX5_meanDepth_2 ⟨Nat.le_refl _, Nat.le_refl _⟩

set_option maxRecDepth 100000 in
set_option maxHeartbeats 4000000 in
theorem thrX5_setSpeed_2 (l : Launch) (D : va_G) (ac : Nat → ClassId) (hst : l.stackTraces = false) (sa : Nat) (x0 : Nat) (k1 : Nat) (x2 : Int32) (hk : k1 < 4) (h2 : ¬ (1 ≤ x2 ∧ x2 ≤ 100)) : vx_Met l yX5_setSpeed wsX5_setSpeed ({ frames := 7, cells := 1, slots := 6, locals := 104 } : Room) (va_Pc [.ref (x0), .int (nI (k1)), .int (x2)] (zQW D ac [] RX5 258 "an argument is out of range" sa "java/lang/IllegalArgumentException")) zF (zT "java/lang/IllegalArgumentException") 1 6 (fun _ => False) := by
  refine z_th (cc := cX5_setSpeed) (maxL := 4) (ret := (some .int)) (lv := [(0, .ref (x0)), (1, .int (nI (k1))), (2, .int (x2))]) (by decide) rfl (Nat.le_of_ble_eq_true rfl) rfl ?_
  intro p e s m args below meth c ls hx hb hml hown hts hlocks hnx hl hK hP hq hR hcs
  refine lv_iload_n hx hb dX5_setSpeed_0 rfl (lv_at hl 1 rfl) ?_
  refine lv_iconst (v := 4) hx hb dX5_setSpeed_1 (by decide) ?_
  refine z_cv (z_srun (rest := []) (own := RX5) (As := [.int (nI (k1)), .int (4)]) hx hb hml hown hts hl.1 hK hP [] rfl (metX5_needIndex_0 l D ac k1 4 (by omega) (by omega)) gX5_setSpeed_X5_needIndex rfl 2 (by decide +kernel) ⟨rfl, rfl, Nat.le_of_ble_eq_true rfl, Nat.le_of_ble_eq_true rfl⟩ rfl rfl (Nat.le_of_ble_eq_true rfl) dX5_setSpeed_2 ⟨Nat.zero_le _, Nat.zero_le _⟩) ?_
  refine lv_iload_n hx hb dX5_setSpeed_5 rfl (lv_at hl 2 rfl) ?_
  refine lv_iconst (v := 1) hx hb dX5_setSpeed_6 (by decide) ?_
  refine lv_bipush (v := 100) hx hb dX5_setSpeed_7 (by decide) ?_
  exact z_tS (rest := []) (own := RX5) (As := [.int (x2), .int (1), .int (100)]) hx hb hml hown hts hl.1 hlocks hnx hK hP hq hR hcs [] rfl (thrX5_needRange_t l D ac hst sa x2 1 100 (h2)) gX5_setSpeed_X5_needRange rfl 3 (by decide +kernel) ⟨rfl, rfl, Nat.le_of_ble_eq_true rfl, Nat.le_of_ble_eq_true rfl⟩ rfl rfl (Nat.le_of_ble_eq_true rfl) dX5_setSpeed_9 ⟨Nat.le_refl _, Nat.le_refl _⟩

set_option maxRecDepth 100000 in
set_option maxHeartbeats 4000000 in
theorem thrX5_jar_2 (l : Launch) (D : va_G) (ac : Nat → ClassId) (hst : l.stackTraces = false) (sa : Nat) (x0 : Nat) (j1 : Nat) (x2 : Int32) (hj : j1 < 3) (h2 : ¬ (0 ≤ x2 ∧ x2 ≤ 9)) : vx_Met l yX5_jar wsX5_jar ({ frames := 7, cells := 1, slots := 6, locals := 104 } : Room) (va_Pc [.ref (x0), .int (nI (j1)), .int (x2)] (zQW D ac [] RX5 258 "an argument is out of range" sa "java/lang/IllegalArgumentException")) zF (zT "java/lang/IllegalArgumentException") 1 6 (fun _ => False) := by
  refine z_th (cc := cX5_jar) (maxL := 3) (ret := (some .int)) (lv := [(0, .ref (x0)), (1, .int (nI (j1))), (2, .int (x2))]) (by decide) rfl (Nat.le_of_ble_eq_true rfl) rfl ?_
  intro p e s m args below meth c ls hx hb hml hown hts hlocks hnx hl hK hP hq hR hcs
  refine lv_iload_n hx hb dX5_jar_0 rfl (lv_at hl 1 rfl) ?_
  refine lv_iconst (v := 3) hx hb dX5_jar_1 (by decide) ?_
  refine z_cv (z_srun (rest := []) (own := RX5) (As := [.int (nI (j1)), .int (3)]) hx hb hml hown hts hl.1 hK hP [] rfl (metX5_needIndex_0 l D ac j1 3 (by omega) (by omega)) gX5_jar_X5_needIndex rfl 2 (by decide +kernel) ⟨rfl, rfl, Nat.le_of_ble_eq_true rfl, Nat.le_of_ble_eq_true rfl⟩ rfl rfl (Nat.le_of_ble_eq_true rfl) dX5_jar_2 ⟨Nat.zero_le _, Nat.zero_le _⟩) ?_
  refine lv_iload_n hx hb dX5_jar_5 rfl (lv_at hl 2 rfl) ?_
  refine lv_iconst (v := 0) hx hb dX5_jar_6 (by decide) ?_
  refine lv_bipush (v := 9) hx hb dX5_jar_7 (by decide) ?_
  exact z_tS (rest := []) (own := RX5) (As := [.int (x2), .int (0), .int (9)]) hx hb hml hown hts hl.1 hlocks hnx hK hP hq hR hcs [] rfl (thrX5_needRange_t l D ac hst sa x2 0 9 (h2)) gX5_jar_X5_needRange rfl 3 (by decide +kernel) ⟨rfl, rfl, Nat.le_of_ble_eq_true rfl, Nat.le_of_ble_eq_true rfl⟩ rfl rfl (Nat.le_of_ble_eq_true rfl) dX5_jar_9 ⟨Nat.le_refl _, Nat.le_refl _⟩

set_option maxRecDepth 100000 in
set_option maxHeartbeats 4000000 in
theorem thrX5_grains_2 (l : Launch) (D : va_G) (ac : Nat → ClassId) (hst : l.stackTraces = false) (sa : Nat) (x0 : Nat) (k1 : Nat) (x2 : Int32) (hk : k1 < 4) (h2 : ¬ (0 ≤ x2 ∧ x2 ≤ 3)) : vx_Met l yX5_grains wsX5_grains ({ frames := 7, cells := 1, slots := 6, locals := 104 } : Room) (va_Pc [.ref (x0), .int (nI (k1)), .int (x2)] (zQW D ac [] RX5 258 "an argument is out of range" sa "java/lang/IllegalArgumentException")) zF (zT "java/lang/IllegalArgumentException") 1 6 (fun _ => False) := by
  refine z_th (cc := cX5_grains) (maxL := 3) (ret := (some .int)) (lv := [(0, .ref (x0)), (1, .int (nI (k1))), (2, .int (x2))]) (by decide) rfl (Nat.le_of_ble_eq_true rfl) rfl ?_
  intro p e s m args below meth c ls hx hb hml hown hts hlocks hnx hl hK hP hq hR hcs
  refine lv_iload_n hx hb dX5_grains_0 rfl (lv_at hl 1 rfl) ?_
  refine lv_iconst (v := 4) hx hb dX5_grains_1 (by decide) ?_
  refine z_cv (z_srun (rest := []) (own := RX5) (As := [.int (nI (k1)), .int (4)]) hx hb hml hown hts hl.1 hK hP [] rfl (metX5_needIndex_0 l D ac k1 4 (by omega) (by omega)) gX5_grains_X5_needIndex rfl 2 (by decide +kernel) ⟨rfl, rfl, Nat.le_of_ble_eq_true rfl, Nat.le_of_ble_eq_true rfl⟩ rfl rfl (Nat.le_of_ble_eq_true rfl) dX5_grains_2 ⟨Nat.zero_le _, Nat.zero_le _⟩) ?_
  refine lv_iload_n hx hb dX5_grains_5 rfl (lv_at hl 2 rfl) ?_
  refine lv_iconst (v := 0) hx hb dX5_grains_6 (by decide) ?_
  refine lv_iconst (v := 3) hx hb dX5_grains_7 (by decide) ?_
  exact z_tS (rest := []) (own := RX5) (As := [.int (x2), .int (0), .int (3)]) hx hb hml hown hts hl.1 hlocks hnx hK hP hq hR hcs [] rfl (thrX5_needRange_t l D ac hst sa x2 0 3 (h2)) gX5_grains_X5_needRange rfl 3 (by decide +kernel) ⟨rfl, rfl, Nat.le_of_ble_eq_true rfl, Nat.le_of_ble_eq_true rfl⟩ rfl rfl (Nat.le_of_ble_eq_true rfl) dX5_grains_8 ⟨Nat.le_refl _, Nat.le_refl _⟩

set_option maxRecDepth 100000 in
set_option maxHeartbeats 4000000 in
theorem thrX5_count_1 (l : Launch) (D : va_G) (ac : Nat → ClassId) (hst : l.stackTraces = false) (sa : Nat) (x0 : Nat) (x1 : Int32) (h1 : ¬ (0 ≤ x1 ∧ x1 ≤ 5)) : vx_Met l yX5_count wsX5_count ({ frames := 7, cells := 1, slots := 6, locals := 104 } : Room) (va_Pc [.ref (x0), .int (x1)] (zQW D ac [] RX5 258 "an argument is out of range" sa "java/lang/IllegalArgumentException")) zF (zT "java/lang/IllegalArgumentException") 1 6 (fun _ => False) := by
  refine z_th (cc := cX5_count) (maxL := 2) (ret := (some .int)) (lv := [(0, .ref (x0)), (1, .int (x1))]) (by decide) rfl (Nat.le_of_ble_eq_true rfl) rfl ?_
  intro p e s m args below meth c ls hx hb hml hown hts hlocks hnx hl hK hP hq hR hcs
  refine lv_iload_n hx hb dX5_count_0 rfl (lv_at hl 1 rfl) ?_
  refine lv_iconst (v := 0) hx hb dX5_count_1 (by decide) ?_
  refine lv_iconst (v := 5) hx hb dX5_count_2 (by decide) ?_
  exact z_tS (rest := []) (own := RX5) (As := [.int (x1), .int (0), .int (5)]) hx hb hml hown hts hl.1 hlocks hnx hK hP hq hR hcs [] rfl (thrX5_needRange_t l D ac hst sa x1 0 5 (h1)) gX5_count_X5_needRange rfl 3 (by decide +kernel) ⟨rfl, rfl, Nat.le_of_ble_eq_true rfl, Nat.le_of_ble_eq_true rfl⟩ rfl rfl (Nat.le_of_ble_eq_true rfl) dX5_count_3 ⟨Nat.le_refl _, Nat.le_refl _⟩

set_option maxRecDepth 100000 in
set_option maxHeartbeats 4000000 in
theorem thrX5_clearIn_2 (l : Launch) (D : va_G) (ac : Nat → ClassId) (hst : l.stackTraces = false) (sa : Nat) (x0 : Nat) (j1 : Nat) (x2 : Int32) (hj : j1 < 3) (h2 : ¬ (1 ≤ x2 ∧ x2 ≤ 12)) : vx_Met l yX5_clearIn wsX5_clearIn ({ frames := 7, cells := 1, slots := 6, locals := 104 } : Room) (va_Pc [.ref (x0), .int (nI (j1)), .int (x2)] (zQW D ac [] RX5 258 "an argument is out of range" sa "java/lang/IllegalArgumentException")) zF (zT "java/lang/IllegalArgumentException") 1 6 (fun _ => False) := by
  refine z_th (cc := cX5_clearIn) (maxL := 4) (ret := (some .int)) (lv := [(0, .ref (x0)), (1, .int (nI (j1))), (2, .int (x2))]) (by decide) rfl (Nat.le_of_ble_eq_true rfl) rfl ?_
  intro p e s m args below meth c ls hx hb hml hown hts hlocks hnx hl hK hP hq hR hcs
  refine lv_iload_n hx hb dX5_clearIn_0 rfl (lv_at hl 1 rfl) ?_
  refine lv_iconst (v := 3) hx hb dX5_clearIn_1 (by decide) ?_
  refine z_cv (z_srun (rest := []) (own := RX5) (As := [.int (nI (j1)), .int (3)]) hx hb hml hown hts hl.1 hK hP [] rfl (metX5_needIndex_0 l D ac j1 3 (by omega) (by omega)) gX5_clearIn_X5_needIndex rfl 2 (by decide +kernel) ⟨rfl, rfl, Nat.le_of_ble_eq_true rfl, Nat.le_of_ble_eq_true rfl⟩ rfl rfl (Nat.le_of_ble_eq_true rfl) dX5_clearIn_2 ⟨Nat.zero_le _, Nat.zero_le _⟩) ?_
  refine lv_iload_n hx hb dX5_clearIn_5 rfl (lv_at hl 2 rfl) ?_
  refine lv_iconst (v := 1) hx hb dX5_clearIn_6 (by decide) ?_
  refine lv_bipush (v := 12) hx hb dX5_clearIn_7 (by decide) ?_
  exact z_tS (rest := []) (own := RX5) (As := [.int (x2), .int (1), .int (12)]) hx hb hml hown hts hl.1 hlocks hnx hK hP hq hR hcs [] rfl (thrX5_needRange_t l D ac hst sa x2 1 12 (h2)) gX5_clearIn_X5_needRange rfl 3 (by decide +kernel) ⟨rfl, rfl, Nat.le_of_ble_eq_true rfl, Nat.le_of_ble_eq_true rfl⟩ rfl rfl (Nat.le_of_ble_eq_true rfl) dX5_clearIn_9 ⟨Nat.le_refl _, Nat.le_refl _⟩

set_option maxRecDepth 100000 in
set_option maxHeartbeats 4000000 in
theorem thrX5_settle_1 (l : Launch) (D : va_G) (ac : Nat → ClassId) (hst : l.stackTraces = false) (sa : Nat) (x0 : Nat) (x1 : Int32) (h1 : ¬ (1 ≤ x1 ∧ x1 ≤ 100)) : vx_Met l yX5_settle wsX5_settle ({ frames := 7, cells := 1, slots := 6, locals := 104 } : Room) (va_Pc [.ref (x0), .int (x1)] (zQW D ac [] RX5 258 "an argument is out of range" sa "java/lang/IllegalArgumentException")) zF (zT "java/lang/IllegalArgumentException") 1 6 (fun _ => False) := by
  refine z_th (cc := cX5_settle) (maxL := 4) (ret := (some .int)) (lv := [(0, .ref (x0)), (1, .int (x1))]) (by decide) rfl (Nat.le_of_ble_eq_true rfl) rfl ?_
  intro p e s m args below meth c ls hx hb hml hown hts hlocks hnx hl hK hP hq hR hcs
  refine lv_iload_n hx hb dX5_settle_0 rfl (lv_at hl 1 rfl) ?_
  refine lv_iconst (v := 1) hx hb dX5_settle_1 (by decide) ?_
  refine lv_bipush (v := 100) hx hb dX5_settle_2 (by decide) ?_
  exact z_tS (rest := []) (own := RX5) (As := [.int (x1), .int (1), .int (100)]) hx hb hml hown hts hl.1 hlocks hnx hK hP hq hR hcs [] rfl (thrX5_needRange_t l D ac hst sa x1 1 100 (h1)) gX5_settle_X5_needRange rfl 3 (by decide +kernel) ⟨rfl, rfl, Nat.le_of_ble_eq_true rfl, Nat.le_of_ble_eq_true rfl⟩ rfl rfl (Nat.le_of_ble_eq_true rfl) dX5_settle_4 ⟨Nat.le_refl _, Nat.le_refl _⟩

set_option maxRecDepth 100000 in
set_option maxHeartbeats 4000000 in
theorem thrX5_append_1 (l : Launch) (D : va_G) (ac : Nat → ClassId) (hst : l.stackTraces = false) (sa : Nat) (x0 : Nat) (x1 : Int32) (h1 : ¬ (33 ≤ x1 ∧ x1 ≤ 126)) : vx_Met l yX5_append wsX5_append ({ frames := 7, cells := 1, slots := 6, locals := 104 } : Room) (va_Pc [.ref (x0), .int (x1)] (zQW D ac [] RX5 258 "an argument is out of range" sa "java/lang/IllegalArgumentException")) zF (zT "java/lang/IllegalArgumentException") 1 6 (fun _ => False) := by
  refine z_th (cc := cX5_append) (maxL := 2) (ret := (some .int)) (lv := [(0, .ref (x0)), (1, .int (x1))]) (by decide) rfl (Nat.le_of_ble_eq_true rfl) rfl ?_
  intro p e s m args below meth c ls hx hb hml hown hts hlocks hnx hl hK hP hq hR hcs
  refine lv_iload_n hx hb dX5_append_0 rfl (lv_at hl 1 rfl) ?_
  refine lv_bipush (v := 33) hx hb dX5_append_1 (by decide) ?_
  refine lv_bipush (v := 126) hx hb dX5_append_3 (by decide) ?_
  exact z_tS (rest := []) (own := RX5) (As := [.int (x1), .int (33), .int (126)]) hx hb hml hown hts hl.1 hlocks hnx hK hP hq hR hcs [] rfl (thrX5_needRange_t l D ac hst sa x1 33 126 (h1)) gX5_append_X5_needRange rfl 3 (by decide +kernel) ⟨rfl, rfl, Nat.le_of_ble_eq_true rfl, Nat.le_of_ble_eq_true rfl⟩ rfl rfl (Nat.le_of_ble_eq_true rfl) dX5_append_5 ⟨Nat.le_refl _, Nat.le_refl _⟩

set_option maxRecDepth 100000 in
set_option maxHeartbeats 4000000 in
theorem thrX5_slice_1 (l : Launch) (D : va_G) (ac : Nat → ClassId) (hst : l.stackTraces = false) (sa : Nat) (x0 : Nat) (x1 : Int32) (x2 : Int32) (x3 : Int32) (h1 : ¬ ((0 ≤ x1 ∧ x1 ≤ 2) ∧ (0 ≤ x2 ∧ x2 ≤ 11))) : vx_Met l yX5_slice wsX5_slice ({ frames := 8, cells := 1, slots := 6, locals := 124 } : Room) (va_Pc [.ref (x0), .int (x1), .int (x2), .int (x3)] (zQW D ac [] RX5 255 "there is no such jar, slice, class or setting" sa "java/lang/IndexOutOfBoundsException")) zF (zT "java/lang/IndexOutOfBoundsException") 1 6 (fun _ => False) := by
  refine z_th (cc := cX5_slice) (maxL := 4) (ret := (some .int)) (lv := [(0, .ref (x0)), (1, .int (x1)), (2, .int (x2)), (3, .int (x3))]) (by decide) rfl (Nat.le_of_ble_eq_true rfl) rfl ?_
  intro p e s m args below meth c ls hx hb hml hown hts hlocks hnx hl hK hP hq hR hcs
  refine lv_iload_n hx hb dX5_slice_0 rfl (lv_at hl 1 rfl) ?_
  refine lv_iload_n hx hb dX5_slice_1 rfl (lv_at hl 2 rfl) ?_
  exact z_tS (rest := []) (own := RX5) (As := [.int (x1), .int (x2)]) hx hb hml hown hts hl.1 hlocks hnx hK hP hq hR hcs [] rfl (thrX5_needSlice_t l D ac hst sa x1 x2 (h1)) gX5_slice_X5_needSlice rfl 2 (by decide +kernel) ⟨rfl, rfl, Nat.le_of_ble_eq_true rfl, Nat.le_of_ble_eq_true rfl⟩ rfl rfl (Nat.le_of_ble_eq_true rfl) dX5_slice_2 ⟨Nat.le_refl _, Nat.le_refl _⟩

set_option maxRecDepth 100000 in
set_option maxHeartbeats 4000000 in
theorem thrX5_draw_1 (l : Launch) (D : va_G) (ac : Nat → ClassId) (hst : l.stackTraces = false) (sa : Nat) (x0 : Nat) (x1 : Int32) (x2 : Int32) (x3 : Int32) (h1 : ¬ ((0 ≤ x1 ∧ x1 ≤ 2) ∧ (0 ≤ x2 ∧ x2 ≤ 11))) : vx_Met l yX5_draw wsX5_draw ({ frames := 8, cells := 1, slots := 6, locals := 124 } : Room) (va_Pc [.ref (x0), .int (x1), .int (x2), .int (x3)] (zQW D ac [] RX5 255 "there is no such jar, slice, class or setting" sa "java/lang/IndexOutOfBoundsException")) zF (zT "java/lang/IndexOutOfBoundsException") 1 6 (fun _ => False) := by
  refine z_th (cc := cX5_draw) (maxL := 8) (ret := (some .int)) (lv := [(0, .ref (x0)), (1, .int (x1)), (2, .int (x2)), (3, .int (x3))]) (by decide) rfl (Nat.le_of_ble_eq_true rfl) rfl ?_
  intro p e s m args below meth c ls hx hb hml hown hts hlocks hnx hl hK hP hq hR hcs
  refine lv_iload_n hx hb dX5_draw_0 rfl (lv_at hl 1 rfl) ?_
  refine lv_iload_n hx hb dX5_draw_1 rfl (lv_at hl 2 rfl) ?_
  exact z_tS (rest := []) (own := RX5) (As := [.int (x1), .int (x2)]) hx hb hml hown hts hl.1 hlocks hnx hK hP hq hR hcs [] rfl (thrX5_needSlice_t l D ac hst sa x1 x2 (h1)) gX5_draw_X5_needSlice rfl 2 (by decide +kernel) ⟨rfl, rfl, Nat.le_of_ble_eq_true rfl, Nat.le_of_ble_eq_true rfl⟩ rfl rfl (Nat.le_of_ble_eq_true rfl) dX5_draw_2 ⟨Nat.le_refl _, Nat.le_refl _⟩

set_option maxRecDepth 100000 in
set_option maxHeartbeats 4000000 in
theorem thrX5_slice_2 (l : Launch) (D : va_G) (ac : Nat → ClassId) (hst : l.stackTraces = false) (sa : Nat) (x0 : Nat) (j1 : Nat) (s1 : Nat) (x3 : Int32) (hj : j1 < 3) (hs : s1 < 12) (h2 : ¬ (0 ≤ x3 ∧ x3 ≤ 9)) : vx_Met l yX5_slice wsX5_slice ({ frames := 7, cells := 1, slots := 6, locals := 104 } : Room) (va_Pc [.ref (x0), .int (nI (j1)), .int (nI (s1)), .int (x3)] (zQW D ac [] RX5 258 "an argument is out of range" sa "java/lang/IllegalArgumentException")) zF (zT "java/lang/IllegalArgumentException") 1 6 (fun _ => False) := by
  refine z_th (cc := cX5_slice) (maxL := 4) (ret := (some .int)) (lv := [(0, .ref (x0)), (1, .int (nI (j1))), (2, .int (nI (s1))), (3, .int (x3))]) (by decide) rfl (Nat.le_of_ble_eq_true rfl) rfl ?_
  intro p e s m args below meth c ls hx hb hml hown hts hlocks hnx hl hK hP hq hR hcs
  refine lv_iload_n hx hb dX5_slice_0 rfl (lv_at hl 1 rfl) ?_
  refine lv_iload_n hx hb dX5_slice_1 rfl (lv_at hl 2 rfl) ?_
  refine z_cv (z_srun (rest := []) (own := RX5) (As := [.int (nI (j1)), .int (nI (s1))]) hx hb hml hown hts hl.1 hK hP [] rfl (metX5_needSlice_0 l D ac j1 s1 (by omega) (by omega)) gX5_slice_X5_needSlice rfl 2 (by decide +kernel) ⟨rfl, rfl, Nat.le_of_ble_eq_true rfl, Nat.le_of_ble_eq_true rfl⟩ rfl rfl (Nat.le_of_ble_eq_true rfl) dX5_slice_2 ⟨Nat.zero_le _, Nat.zero_le _⟩) ?_
  refine lv_iload_n hx hb dX5_slice_5 rfl (lv_at hl 3 rfl) ?_
  refine lv_iconst (v := 0) hx hb dX5_slice_6 (by decide) ?_
  refine lv_bipush (v := 9) hx hb dX5_slice_7 (by decide) ?_
  exact z_tS (rest := []) (own := RX5) (As := [.int (x3), .int (0), .int (9)]) hx hb hml hown hts hl.1 hlocks hnx hK hP hq hR hcs [] rfl (thrX5_needRange_t l D ac hst sa x3 0 9 (h2)) gX5_slice_X5_needRange rfl 3 (by decide +kernel) ⟨rfl, rfl, Nat.le_of_ble_eq_true rfl, Nat.le_of_ble_eq_true rfl⟩ rfl rfl (Nat.le_of_ble_eq_true rfl) dX5_slice_9 ⟨Nat.le_refl _, Nat.le_refl _⟩

set_option maxRecDepth 100000 in
set_option maxHeartbeats 4000000 in
theorem thrX5_draw_2 (l : Launch) (D : va_G) (ac : Nat → ClassId) (hst : l.stackTraces = false) (sa : Nat) (x0 : Nat) (j1 : Nat) (s1 : Nat) (x3 : Int32) (hj : j1 < 3) (hs : s1 < 12) (h2 : ¬ (1 ≤ x3 ∧ x3 ≤ 100)) : vx_Met l yX5_draw wsX5_draw ({ frames := 7, cells := 1, slots := 6, locals := 104 } : Room) (va_Pc [.ref (x0), .int (nI (j1)), .int (nI (s1)), .int (x3)] (zQW D ac [] RX5 258 "an argument is out of range" sa "java/lang/IllegalArgumentException")) zF (zT "java/lang/IllegalArgumentException") 1 6 (fun _ => False) := by
  refine z_th (cc := cX5_draw) (maxL := 8) (ret := (some .int)) (lv := [(0, .ref (x0)), (1, .int (nI (j1))), (2, .int (nI (s1))), (3, .int (x3))]) (by decide) rfl (Nat.le_of_ble_eq_true rfl) rfl ?_
  intro p e s m args below meth c ls hx hb hml hown hts hlocks hnx hl hK hP hq hR hcs
  refine lv_iload_n hx hb dX5_draw_0 rfl (lv_at hl 1 rfl) ?_
  refine lv_iload_n hx hb dX5_draw_1 rfl (lv_at hl 2 rfl) ?_
  refine z_cv (z_srun (rest := []) (own := RX5) (As := [.int (nI (j1)), .int (nI (s1))]) hx hb hml hown hts hl.1 hK hP [] rfl (metX5_needSlice_0 l D ac j1 s1 (by omega) (by omega)) gX5_draw_X5_needSlice rfl 2 (by decide +kernel) ⟨rfl, rfl, Nat.le_of_ble_eq_true rfl, Nat.le_of_ble_eq_true rfl⟩ rfl rfl (Nat.le_of_ble_eq_true rfl) dX5_draw_2 ⟨Nat.zero_le _, Nat.zero_le _⟩) ?_
  refine lv_iload_n hx hb dX5_draw_5 rfl (lv_at hl 3 rfl) ?_
  refine lv_iconst (v := 1) hx hb dX5_draw_6 (by decide) ?_
  refine lv_bipush (v := 100) hx hb dX5_draw_7 (by decide) ?_
  exact z_tS (rest := []) (own := RX5) (As := [.int (x3), .int (1), .int (100)]) hx hb hml hown hts hl.1 hlocks hnx hK hP hq hR hcs [] rfl (thrX5_needRange_t l D ac hst sa x3 1 100 (h2)) gX5_draw_X5_needRange rfl 3 (by decide +kernel) ⟨rfl, rfl, Nat.le_of_ble_eq_true rfl, Nat.le_of_ble_eq_true rfl⟩ rfl rfl (Nat.le_of_ble_eq_true rfl) dX5_draw_9 ⟨Nat.le_refl _, Nat.le_refl _⟩

set_option maxRecDepth 100000 in
set_option maxHeartbeats 4000000 in
theorem thrX5_purest_1 (l : Launch) (D : va_G) (ac : Nat → ClassId) (hst : l.stackTraces = false) (sa : Nat) (x0 : Nat) (x1 : Int32) (x2 : Int32) (h1 : ¬ ((0 ≤ x1 ∧ x1 ≤ 2) ∧ (0 ≤ x2 ∧ x2 ≤ 3))) : vx_Met l yX5_purest wsX5_purest ({ frames := 7, cells := 1, slots := 6, locals := 103 } : Room) (va_Pc [.ref (x0), .int (x1), .int (x2)] (zQW D ac [] RX5 255 "there is no such jar, slice, class or setting" sa "java/lang/IndexOutOfBoundsException")) zF (zT "java/lang/IndexOutOfBoundsException") 1 6 (fun _ => False) := by
  refine z_th (cc := cX5_purest) (maxL := 3) (ret := (some .int)) (lv := [(0, .ref (x0)), (1, .int (x1)), (2, .int (x2))]) (by decide) rfl (Nat.le_of_ble_eq_true rfl) rfl ?_
  intro p e s m args below meth c ls hx hb hml hown hts hlocks hnx hl hK hP hq hR hcs
  rcases z_dec x1 (n := 2) (by omega) with hx1 | ⟨j1, rfl, hj⟩
  · refine lv_iload_n hx hb dX5_purest_0 rfl (lv_at hl 1 rfl) ?_
    refine lv_iconst (v := 3) hx hb dX5_purest_1 (by decide) ?_
    exact z_tS (rest := []) (own := RX5) (As := [.int (x1), .int (3)]) hx hb hml hown hts hl.1 hlocks hnx hK hP hq hR hcs [] rfl (thrX5_needIndex_t l D ac hst sa x1 3 (fun q => hx1 ⟨q.1, z_ltle (n := 2) (by omega) q.2⟩)) gX5_purest_X5_needIndex rfl 2 (by decide +kernel) ⟨rfl, rfl, Nat.le_of_ble_eq_true rfl, Nat.le_of_ble_eq_true rfl⟩ rfl rfl (Nat.le_of_ble_eq_true rfl) dX5_purest_2 ⟨Nat.le_refl _, Nat.le_refl _⟩
  · refine lv_iload_n hx hb dX5_purest_0 rfl (lv_at hl 1 rfl) ?_
    refine lv_iconst (v := 3) hx hb dX5_purest_1 (by decide) ?_
    refine z_cv (z_srun (rest := []) (own := RX5) (As := [.int ((nI j1)), .int (3)]) hx hb hml hown hts hl.1 hK hP [] rfl (metX5_needIndex_0 l D ac j1 3 (by omega) (by omega)) gX5_purest_X5_needIndex rfl 2 (by decide +kernel) ⟨rfl, rfl, Nat.le_of_ble_eq_true rfl, Nat.le_of_ble_eq_true rfl⟩ rfl rfl (Nat.le_of_ble_eq_true rfl) dX5_purest_2 ⟨Nat.zero_le _, Nat.zero_le _⟩) ?_
    refine lv_iload_n hx hb dX5_purest_5 rfl (lv_at hl 2 rfl) ?_
    refine lv_iconst (v := 4) hx hb dX5_purest_6 (by decide) ?_
    exact z_tS (rest := []) (own := RX5) (As := [.int (x2), .int (4)]) hx hb hml hown hts hl.1 hlocks hnx hK hP hq hR hcs [] rfl (thrX5_needIndex_t l D ac hst sa x2 4 (fun q => h1 ⟨z_in (n := 2) (by omega), ⟨q.1, z_ltle (n := 3) (by omega) q.2⟩⟩)) gX5_purest_X5_needIndex rfl 2 (by decide +kernel) ⟨rfl, rfl, Nat.le_of_ble_eq_true rfl, Nat.le_of_ble_eq_true rfl⟩ rfl rfl (Nat.le_of_ble_eq_true rfl) dX5_purest_7 ⟨Nat.le_refl _, Nat.le_refl _⟩

set_option maxRecDepth 100000 in
set_option maxHeartbeats 4000000 in
theorem thrX5_pour_1 (l : Launch) (D : va_G) (ac : Nat → ClassId) (hst : l.stackTraces = false) (sa : Nat) (x0 : Nat) (x1 : Int32) (x2 : Int32) (x3 : Int32) (x4 : Int32) (h1 : ¬ ((0 ≤ x1 ∧ x1 ≤ 2) ∧ (0 ≤ x2 ∧ x2 ≤ 11) ∧ (0 ≤ x3 ∧ x3 ≤ 3))) : vx_Met l yX5_pour wsX5_pour ({ frames := 8, cells := 1, slots := 6, locals := 124 } : Room) (va_Pc [.ref (x0), .int (x1), .int (x2), .int (x3), .int (x4)] (zQW D ac [] RX5 255 "there is no such jar, slice, class or setting" sa "java/lang/IndexOutOfBoundsException")) zF (zT "java/lang/IndexOutOfBoundsException") 1 6 (fun _ => False) := by
  refine z_th (cc := cX5_pour) (maxL := 6) (ret := (some .int)) (lv := [(0, .ref (x0)), (1, .int (x1)), (2, .int (x2)), (3, .int (x3)), (4, .int (x4))]) (by decide) rfl (Nat.le_of_ble_eq_true rfl) rfl ?_
  intro p e s m args below meth c ls hx hb hml hown hts hlocks hnx hl hK hP hq hR hcs
  rcases z_dec2 x1 x2 (n := 2) (u := 11) (by omega) (by omega) with hx1 | ⟨j1, s1, rfl, rfl, hj, hs⟩
  · refine lv_iload_n hx hb dX5_pour_0 rfl (lv_at hl 1 rfl) ?_
    refine lv_iload_n hx hb dX5_pour_1 rfl (lv_at hl 2 rfl) ?_
    exact z_tS (rest := []) (own := RX5) (As := [.int (x1), .int (x2)]) hx hb hml hown hts hl.1 hlocks hnx hK hP hq hR hcs [] rfl (thrX5_needSlice_t l D ac hst sa x1 x2 (hx1)) gX5_pour_X5_needSlice rfl 2 (by decide +kernel) ⟨rfl, rfl, Nat.le_of_ble_eq_true rfl, Nat.le_of_ble_eq_true rfl⟩ rfl rfl (Nat.le_of_ble_eq_true rfl) dX5_pour_2 ⟨Nat.le_refl _, Nat.le_refl _⟩
  · refine lv_iload_n hx hb dX5_pour_0 rfl (lv_at hl 1 rfl) ?_
    refine lv_iload_n hx hb dX5_pour_1 rfl (lv_at hl 2 rfl) ?_
    refine z_cv (z_srun (rest := []) (own := RX5) (As := [.int ((nI j1)), .int ((nI s1))]) hx hb hml hown hts hl.1 hK hP [] rfl (metX5_needSlice_0 l D ac j1 s1 (by omega) (by omega)) gX5_pour_X5_needSlice rfl 2 (by decide +kernel) ⟨rfl, rfl, Nat.le_of_ble_eq_true rfl, Nat.le_of_ble_eq_true rfl⟩ rfl rfl (Nat.le_of_ble_eq_true rfl) dX5_pour_2 ⟨Nat.zero_le _, Nat.zero_le _⟩) ?_
    refine lv_iload_n hx hb dX5_pour_5 rfl (lv_at hl 3 rfl) ?_
    refine lv_iconst (v := 4) hx hb dX5_pour_6 (by decide) ?_
    exact z_tS (rest := []) (own := RX5) (As := [.int (x3), .int (4)]) hx hb hml hown hts hl.1 hlocks hnx hK hP hq hR hcs [] rfl (thrX5_needIndex_t l D ac hst sa x3 4 (fun q => h1 ⟨z_in (n := 2) (by omega), z_in (n := 11) (by omega), ⟨q.1, z_ltle (n := 3) (by omega) q.2⟩⟩)) gX5_pour_X5_needIndex rfl 2 (by decide +kernel) ⟨rfl, rfl, Nat.le_of_ble_eq_true rfl, Nat.le_of_ble_eq_true rfl⟩ rfl rfl (Nat.le_of_ble_eq_true rfl) dX5_pour_7 ⟨Nat.le_refl _, Nat.le_refl _⟩

set_option maxRecDepth 100000 in
set_option maxHeartbeats 4000000 in
theorem thrX5_stir_1 (l : Launch) (D : va_G) (ac : Nat → ClassId) (hst : l.stackTraces = false) (sa : Nat) (x0 : Nat) (x1 : Int32) (x2 : Int32) (x3 : Int32) (h1 : ¬ ((0 ≤ x1 ∧ x1 ≤ 2) ∧ (0 ≤ x2 ∧ x2 ≤ 11) ∧ (0 ≤ x3 ∧ x3 ≤ 11))) : vx_Met l yX5_stir wsX5_stir ({ frames := 8, cells := 1, slots := 6, locals := 124 } : Room) (va_Pc [.ref (x0), .int (x1), .int (x2), .int (x3)] (zQW D ac [] RX5 255 "there is no such jar, slice, class or setting" sa "java/lang/IndexOutOfBoundsException")) zF (zT "java/lang/IndexOutOfBoundsException") 1 6 (fun _ => False) := by
  refine z_th (cc := cX5_stir) (maxL := 6) (ret := (some .int)) (lv := [(0, .ref (x0)), (1, .int (x1)), (2, .int (x2)), (3, .int (x3))]) (by decide) rfl (Nat.le_of_ble_eq_true rfl) rfl ?_
  intro p e s m args below meth c ls hx hb hml hown hts hlocks hnx hl hK hP hq hR hcs
  rcases z_dec2 x1 x2 (n := 2) (u := 11) (by omega) (by omega) with hx1 | ⟨j1, s1, rfl, rfl, hj, hs⟩
  · refine lv_iload_n hx hb dX5_stir_0 rfl (lv_at hl 1 rfl) ?_
    refine lv_iload_n hx hb dX5_stir_1 rfl (lv_at hl 2 rfl) ?_
    exact z_tS (rest := []) (own := RX5) (As := [.int (x1), .int (x2)]) hx hb hml hown hts hl.1 hlocks hnx hK hP hq hR hcs [] rfl (thrX5_needSlice_t l D ac hst sa x1 x2 (hx1)) gX5_stir_X5_needSlice rfl 2 (by decide +kernel) ⟨rfl, rfl, Nat.le_of_ble_eq_true rfl, Nat.le_of_ble_eq_true rfl⟩ rfl rfl (Nat.le_of_ble_eq_true rfl) dX5_stir_2 ⟨Nat.le_refl _, Nat.le_refl _⟩
  · refine lv_iload_n hx hb dX5_stir_0 rfl (lv_at hl 1 rfl) ?_
    refine lv_iload_n hx hb dX5_stir_1 rfl (lv_at hl 2 rfl) ?_
    refine z_cv (z_srun (rest := []) (own := RX5) (As := [.int ((nI j1)), .int ((nI s1))]) hx hb hml hown hts hl.1 hK hP [] rfl (metX5_needSlice_0 l D ac j1 s1 (by omega) (by omega)) gX5_stir_X5_needSlice rfl 2 (by decide +kernel) ⟨rfl, rfl, Nat.le_of_ble_eq_true rfl, Nat.le_of_ble_eq_true rfl⟩ rfl rfl (Nat.le_of_ble_eq_true rfl) dX5_stir_2 ⟨Nat.zero_le _, Nat.zero_le _⟩) ?_
    refine lv_iload_n hx hb dX5_stir_5 rfl (lv_at hl 3 rfl) ?_
    refine lv_bipush (v := 12) hx hb dX5_stir_6 (by decide) ?_
    exact z_tS (rest := []) (own := RX5) (As := [.int (x3), .int (12)]) hx hb hml hown hts hl.1 hlocks hnx hK hP hq hR hcs [] rfl (thrX5_needIndex_t l D ac hst sa x3 12 (fun q => h1 ⟨z_in (n := 2) (by omega), z_in (n := 11) (by omega), ⟨q.1, z_ltle (n := 11) (by omega) q.2⟩⟩)) gX5_stir_X5_needIndex rfl 2 (by decide +kernel) ⟨rfl, rfl, Nat.le_of_ble_eq_true rfl, Nat.le_of_ble_eq_true rfl⟩ rfl rfl (Nat.le_of_ble_eq_true rfl) dX5_stir_8 ⟨Nat.le_refl _, Nat.le_refl _⟩

set_option maxRecDepth 100000 in
set_option maxHeartbeats 4000000 in
theorem thrX5_why_1 (l : Launch) (D : va_G) (ac : Nat → ClassId) (hst : l.stackTraces = false) (sa : Nat) (x0 : Nat) (x1 : Int32) (x2 : Int32) (x3 : Int32) (h1 : ¬ ((0 ≤ x1 ∧ x1 ≤ 2) ∧ (0 ≤ x2 ∧ x2 ≤ 11) ∧ (0 ≤ x3 ∧ x3 ≤ 3))) : vx_Met l yX5_why wsX5_why ({ frames := 8, cells := 1, slots := 6, locals := 124 } : Room) (va_Pc [.ref (x0), .int (x1), .int (x2), .int (x3)] (zQW D ac [] RX5 255 "there is no such jar, slice, class or setting" sa "java/lang/IndexOutOfBoundsException")) zF (zT "java/lang/IndexOutOfBoundsException") 1 6 (fun _ => False) := by
  refine z_th (cc := cX5_why) (maxL := 4) (ret := (some .int)) (lv := [(0, .ref (x0)), (1, .int (x1)), (2, .int (x2)), (3, .int (x3))]) (by decide) rfl (Nat.le_of_ble_eq_true rfl) rfl ?_
  intro p e s m args below meth c ls hx hb hml hown hts hlocks hnx hl hK hP hq hR hcs
  rcases z_dec2 x1 x2 (n := 2) (u := 11) (by omega) (by omega) with hx1 | ⟨j1, s1, rfl, rfl, hj, hs⟩
  · refine lv_iload_n hx hb dX5_why_0 rfl (lv_at hl 1 rfl) ?_
    refine lv_iload_n hx hb dX5_why_1 rfl (lv_at hl 2 rfl) ?_
    exact z_tS (rest := []) (own := RX5) (As := [.int (x1), .int (x2)]) hx hb hml hown hts hl.1 hlocks hnx hK hP hq hR hcs [] rfl (thrX5_needSlice_t l D ac hst sa x1 x2 (hx1)) gX5_why_X5_needSlice rfl 2 (by decide +kernel) ⟨rfl, rfl, Nat.le_of_ble_eq_true rfl, Nat.le_of_ble_eq_true rfl⟩ rfl rfl (Nat.le_of_ble_eq_true rfl) dX5_why_2 ⟨Nat.le_refl _, Nat.le_refl _⟩
  · refine lv_iload_n hx hb dX5_why_0 rfl (lv_at hl 1 rfl) ?_
    refine lv_iload_n hx hb dX5_why_1 rfl (lv_at hl 2 rfl) ?_
    refine z_cv (z_srun (rest := []) (own := RX5) (As := [.int ((nI j1)), .int ((nI s1))]) hx hb hml hown hts hl.1 hK hP [] rfl (metX5_needSlice_0 l D ac j1 s1 (by omega) (by omega)) gX5_why_X5_needSlice rfl 2 (by decide +kernel) ⟨rfl, rfl, Nat.le_of_ble_eq_true rfl, Nat.le_of_ble_eq_true rfl⟩ rfl rfl (Nat.le_of_ble_eq_true rfl) dX5_why_2 ⟨Nat.zero_le _, Nat.zero_le _⟩) ?_
    refine lv_iload_n hx hb dX5_why_5 rfl (lv_at hl 3 rfl) ?_
    refine lv_iconst (v := 4) hx hb dX5_why_6 (by decide) ?_
    exact z_tS (rest := []) (own := RX5) (As := [.int (x3), .int (4)]) hx hb hml hown hts hl.1 hlocks hnx hK hP hq hR hcs [] rfl (thrX5_needIndex_t l D ac hst sa x3 4 (fun q => h1 ⟨z_in (n := 2) (by omega), z_in (n := 11) (by omega), ⟨q.1, z_ltle (n := 3) (by omega) q.2⟩⟩)) gX5_why_X5_needIndex rfl 2 (by decide +kernel) ⟨rfl, rfl, Nat.le_of_ble_eq_true rfl, Nat.le_of_ble_eq_true rfl⟩ rfl rfl (Nat.le_of_ble_eq_true rfl) dX5_why_7 ⟨Nat.le_refl _, Nat.le_refl _⟩

set_option maxRecDepth 100000 in
set_option maxHeartbeats 4000000 in
theorem thrX5_pour_2 (l : Launch) (D : va_G) (ac : Nat → ClassId) (hst : l.stackTraces = false) (sa : Nat) (x0 : Nat) (j1 : Nat) (s1 : Nat) (k1 : Nat) (x4 : Int32) (hj : j1 < 3) (hs : s1 < 12) (hk : k1 < 4) (h2 : ¬ (1 ≤ x4 ∧ x4 ≤ 999)) : vx_Met l yX5_pour wsX5_pour ({ frames := 7, cells := 1, slots := 6, locals := 104 } : Room) (va_Pc [.ref (x0), .int (nI (j1)), .int (nI (s1)), .int (nI (k1)), .int (x4)] (zQW D ac [] RX5 258 "an argument is out of range" sa "java/lang/IllegalArgumentException")) zF (zT "java/lang/IllegalArgumentException") 1 6 (fun _ => False) := by
  refine z_th (cc := cX5_pour) (maxL := 6) (ret := (some .int)) (lv := [(0, .ref (x0)), (1, .int (nI (j1))), (2, .int (nI (s1))), (3, .int (nI (k1))), (4, .int (x4))]) (by decide) rfl (Nat.le_of_ble_eq_true rfl) rfl ?_
  intro p e s m args below meth c ls hx hb hml hown hts hlocks hnx hl hK hP hq hR hcs
  refine lv_iload_n hx hb dX5_pour_0 rfl (lv_at hl 1 rfl) ?_
  refine lv_iload_n hx hb dX5_pour_1 rfl (lv_at hl 2 rfl) ?_
  refine z_cv (z_srun (rest := []) (own := RX5) (As := [.int (nI (j1)), .int (nI (s1))]) hx hb hml hown hts hl.1 hK hP [] rfl (metX5_needSlice_0 l D ac j1 s1 (by omega) (by omega)) gX5_pour_X5_needSlice rfl 2 (by decide +kernel) ⟨rfl, rfl, Nat.le_of_ble_eq_true rfl, Nat.le_of_ble_eq_true rfl⟩ rfl rfl (Nat.le_of_ble_eq_true rfl) dX5_pour_2 ⟨Nat.zero_le _, Nat.zero_le _⟩) ?_
  refine lv_iload_n hx hb dX5_pour_5 rfl (lv_at hl 3 rfl) ?_
  refine lv_iconst (v := 4) hx hb dX5_pour_6 (by decide) ?_
  refine z_cv (z_srun (rest := []) (own := RX5) (As := [.int (nI (k1)), .int (4)]) hx hb hml hown hts hl.1 hK hP [] rfl (metX5_needIndex_0 l D ac k1 4 (by omega) (by omega)) gX5_pour_X5_needIndex rfl 2 (by decide +kernel) ⟨rfl, rfl, Nat.le_of_ble_eq_true rfl, Nat.le_of_ble_eq_true rfl⟩ rfl rfl (Nat.le_of_ble_eq_true rfl) dX5_pour_7 ⟨Nat.zero_le _, Nat.zero_le _⟩) ?_
  refine lv_iload hx hb dX5_pour_10 (lv_at hl 4 rfl) ?_
  refine lv_iconst (v := 1) hx hb dX5_pour_12 (by decide) ?_
  refine lv_sipush (v := 999) hx hb dX5_pour_13 (by decide) ?_
  exact z_tS (rest := []) (own := RX5) (As := [.int (x4), .int (1), .int (999)]) hx hb hml hown hts hl.1 hlocks hnx hK hP hq hR hcs [] rfl (thrX5_needRange_t l D ac hst sa x4 1 999 (h2)) gX5_pour_X5_needRange rfl 3 (by decide +kernel) ⟨rfl, rfl, Nat.le_of_ble_eq_true rfl, Nat.le_of_ble_eq_true rfl⟩ rfl rfl (Nat.le_of_ble_eq_true rfl) dX5_pour_16 ⟨Nat.le_refl _, Nat.le_refl _⟩

set_option maxRecDepth 100000 in
set_option maxHeartbeats 4000000 in
theorem thrX5_stir_2 (l : Launch) (D : va_G) (ac : Nat → ClassId) (hst : l.stackTraces = false) (sa : Nat) (x0 : Nat) (j1 : Nat) (a : Nat) (b : Nat) (hj : j1 < 3) (ha : a < 12) (hb1 : b < 12) (h2 : b < a) : vx_Met l yX5_stir wsX5_stir ({ frames := 7, cells := 1, slots := 6, locals := 104 } : Room) (va_Pc [.ref (x0), .int (nI (j1)), .int (nI (a)), .int (nI (b))] (zQW D ac [] RX5 258 "an argument is out of range" sa "java/lang/IllegalArgumentException")) zF (zT "java/lang/IllegalArgumentException") 1 6 (fun _ => False) := by
  refine z_th (cc := cX5_stir) (maxL := 6) (ret := (some .int)) (lv := [(0, .ref (x0)), (1, .int (nI (j1))), (2, .int (nI (a))), (3, .int (nI (b)))]) (by decide) rfl (Nat.le_of_ble_eq_true rfl) rfl ?_
  intro p e s m args below meth c ls hx hb hml hown hts hlocks hnx hl hK hP hq hR hcs
  refine lv_iload_n hx hb dX5_stir_0 rfl (lv_at hl 1 rfl) ?_
  refine lv_iload_n hx hb dX5_stir_1 rfl (lv_at hl 2 rfl) ?_
  refine z_cv (z_srun (rest := []) (own := RX5) (As := [.int (nI (j1)), .int (nI (a))]) hx hb hml hown hts hl.1 hK hP [] rfl (metX5_needSlice_0 l D ac j1 a (by omega) (by omega)) gX5_stir_X5_needSlice rfl 2 (by decide +kernel) ⟨rfl, rfl, Nat.le_of_ble_eq_true rfl, Nat.le_of_ble_eq_true rfl⟩ rfl rfl (Nat.le_of_ble_eq_true rfl) dX5_stir_2 ⟨Nat.zero_le _, Nat.zero_le _⟩) ?_
  refine lv_iload_n hx hb dX5_stir_5 rfl (lv_at hl 3 rfl) ?_
  refine lv_bipush (v := 12) hx hb dX5_stir_6 (by decide) ?_
  refine z_cv (z_srun (rest := []) (own := RX5) (As := [.int (nI (b)), .int (12)]) hx hb hml hown hts hl.1 hK hP [] rfl (metX5_needIndex_0 l D ac b 12 (by omega) (by omega)) gX5_stir_X5_needIndex rfl 2 (by decide +kernel) ⟨rfl, rfl, Nat.le_of_ble_eq_true rfl, Nat.le_of_ble_eq_true rfl⟩ rfl rfl (Nat.le_of_ble_eq_true rfl) dX5_stir_8 ⟨Nat.zero_le _, Nat.zero_le _⟩) ?_
  refine lv_iload_n hx hb dX5_stir_11 rfl (lv_at hl 2 rfl) ?_
  refine lv_iconst (v := 0) hx hb dX5_stir_12 (by decide) ?_
  refine lv_iload_n hx hb dX5_stir_13 rfl (lv_at hl 3 rfl) ?_
  exact z_tS (rest := []) (own := RX5) (As := [.int (nI (a)), .int (0), .int (nI (b))]) hx hb hml hown hts hl.1 hlocks hnx hK hP hq hR hcs [] rfl (thrX5_needRange_t l D ac hst sa (nI (a)) 0 (nI (b)) (fun q => absurd ((nI_leI (by omega) (by omega)).mp q.2) (by omega))) gX5_stir_X5_needRange rfl 3 (by decide +kernel) ⟨rfl, rfl, Nat.le_of_ble_eq_true rfl, Nat.le_of_ble_eq_true rfl⟩ rfl rfl (Nat.le_of_ble_eq_true rfl) dX5_stir_14 ⟨Nat.le_refl _, Nat.le_refl _⟩

