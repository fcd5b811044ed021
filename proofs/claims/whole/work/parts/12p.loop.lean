/-! the law's loop -/
section LOOP
variable {p : Program} {l : Launch} {e : Env} {s : State} {m : MethodId} {args : Array Value} {below : List Frame} {meth : Method} {c : Code} {H : Heap} {locs : List Loc} {cells slots : Nat} {Q : State → Prop} {ls : Array Slot}
variable {D : va_G} {ac : Nat → ClassId} {A : Nat → Prop} {b L tl tg i : Nat} {xs : Nat → Int32} {ad n : Nat → Nat} {hf : Nat → Option Nat} {aa : Nat → Nat → Nat} {z sd tx : Nat → Int32} {Z : Nat → Nat → Int32} {od sv ln r : Nat}
theorem law_head (C : lCx p l s m args c b L xs D ac A tl tg) (hS : va_S A s.heap H locs) (hi : i ≤ 2565) (hl : lv_has ls 9 (lv0 b ad i)) (kt : W p l e room_1 s m args below meth c H locs cells slots Q (F0 m 1699 ls [])) (kf : i + 5 ≤ L → W p l e room_1 s m args below meth c H locs cells slots Q (F0 m 37 ls [])) : W p l e room_1 s m args below meth c H locs cells slots Q (F0 m 28 ls []) := by
  obtain ⟨⟨hx, hb, hml, hown, hts⟩, hK, hA, ⟨hX, hbl, hbA, hL⟩, -⟩ := C
  refine lv_iload hx hb dL_law_28 (lv_at hl 5 rfl) ?_
  refine lv_aload_n hx hb dL_law_30 rfl (lv_at hl 0 rfl) ?_
  refine va_slen hx hb hX hbl hbA hS dL_law_31 ?_
  refine lv_iconst (v := 5) hx hb dL_law_32 (by decide) ?_
  refine lv_isub hx hb dL_law_33 ?_
  refine lv_icmp_gt (tgt := 1699) hx hb dL_law_34 (by decide) (fun _ => kt) (fun h => kf ?_)
  have h0 : ¬ (nI L - 5 < nI i) := h
  have h1 : (nI L - 5).toInt = (L : Int) - 5 := pk_sub_toInt (a := L) (b := 5) (by omega) (by decide)
  have h2 : (nI i).toInt = (i : Int) := nI_toInt (by omega)
  rw [Int32.lt_iff_toInt_lt, h1, h2] at h0
  omega
set_option maxRecDepth 100000 in
set_option maxHeartbeats 4000000 in
theorem law_body (C : lCx p l s m args c b L xs D ac A tl tg) (hi : i + 5 ≤ L) (hc1 : cells + 1 ≤ room_1.cells) (hc2 : slots + 6 ≤ room_1.slots) (hhf : ∀ q, q < 6 → hf q = some (aa q 0)) (hV : lV D ac A ad n hf aa s.heap H locs) (hl : lv_has ls 9 (lv0 b ad i)) (kk : ∀ (H : Heap) (locs : List Loc) (ls : Array Slot), lV D ac A ad n hf aa s.heap H locs → lv_has ls 9 (lv0 b ad i) → W p l e room_1 s m args below meth c H locs (cells + 1) (slots + 6) Q (F0 m 1693 ls [])) : W p l e room_1 s m args below meth c H locs cells slots Q (F0 m 37 ls []) := by
  have hV0 := hV
  obtain ⟨z, sd, tx, Z, od, sv, ln, r, hG, hGZ, hR, hod, hsv, hln, hr, hI⟩ := hV
  have hS : va_S A s.heap H locs := by obtain ⟨gs, az, rd, of, og, th, t9, stp, po, hh, -, -, hS⟩ := hI; exact hS
  have hx := C.1.1
  have hb := C.1.2.1
  have hfc : cells + 1 ≤ room_1.cells ∧ slots + 6 ≤ room_1.slots := ⟨hc1, hc2⟩
  refine lg_arg0 C hS hi (lv_at hl 0 rfl) (lv_at hl 5 rfl) dL_law_37 dL_law_38 dL_law_40 ?_
  refine lv_bipush (v := 31) hx hb dL_law_41 (by decide) ?_
  refine lv_iand hx hb dL_law_43 ?_
  obtain ⟨q, hq, e⟩ := pk_andE (xs i) (m := 31) 5 (by decide)
  rw [e]
  by_cases c0 : q = 0
  · subst c0
    exact lv_tableIn (off := 116) (tgt := 160) hx hb dL_law_44 (by decide) (by decide) rfl (by decide) (lc_set C hi hfc hhf hG hGZ hR hod hsv hln hr hI hl kk)
  by_cases c1 : q = 1
  · subst c1
    exact lv_tableIn (off := 184) (tgt := 228) hx hb dL_law_44 (by decide) (by decide) rfl (by decide) (lc_setSpeed C hi hfc hhf hG hGZ hR hod hsv hln hr hI hl kk)
  by_cases c2 : q = 2
  · subst c2
    exact lv_tableIn (off := 252) (tgt := 296) hx hb dL_law_44 (by decide) (by decide) rfl (by decide) (lc_pour C hi hfc hhf hG hGZ hR hod hsv hln hr hI hl kk)
  by_cases c3 : q = 3
  · subst c3
    exact lv_tableIn (off := 344) (tgt := 388) hx hb dL_law_44 (by decide) (by decide) rfl (by decide) (lc_stir C hi hfc hhf hG hGZ hR hod hsv hln hr hI hl kk)
  by_cases c4 : q = 4
  · subst c4
    exact lv_tableIn (off := 424) (tgt := 468) hx hb dL_law_44 (by decide) (by decide) rfl (by decide) (lc_draw C hi hfc hhf hG hGZ hR hod hsv hln hr hI hl kk)
  by_cases c5 : q = 5
  · subst c5
    exact lv_tableIn (off := 504) (tgt := 548) hx hb dL_law_44 (by decide) (by decide) rfl (by decide) (lc_decant C hi hfc hhf hG hGZ hR hod hsv hln hr hI hl kk)
  by_cases c6 : q = 6
  · subst c6
    exact lv_tableIn (off := 584) (tgt := 628) hx hb dL_law_44 (by decide) (by decide) rfl (by decide) (lc_turn C hi hfc hhf hG hGZ hR hod hsv hln hr hI hl kk)
  by_cases c7 : q = 7
  · subst c7
    exact lv_tableIn (off := 640) (tgt := 684) hx hb dL_law_44 (by decide) (by decide) rfl (by decide) (lc_settle C hi hfc hhf hG hGZ hR hod hsv hln hr hI hl kk)
  by_cases c8 : q = 8
  · subst c8
    exact lv_tableIn (off := 696) (tgt := 740) hx hb dL_law_44 (by decide) (by decide) rfl (by decide) (lc_append C hi hfc hhf hG hGZ hR hod hsv hln hr hI hl kk)
  by_cases c9 : q = 9
  · subst c9
    exact lv_tableIn (off := 752) (tgt := 796) hx hb dL_law_44 (by decide) (by decide) rfl (by decide) (lc_clearBuffer C hi hfc hhf hG hGZ hR hod hsv hln hr hI hl kk)
  by_cases c10 : q = 10
  · subst c10
    exact lv_tableIn (off := 765) (tgt := 809) hx hb dL_law_44 (by decide) (by decide) rfl (by decide) (lc_firstError C hi hfc hhf hG hGZ hR hod hsv hln hr hI hl kk)
  by_cases c11 : q = 11
  · subst c11
    exact lv_tableIn (off := 778) (tgt := 822) hx hb dL_law_44 (by decide) (by decide) rfl (by decide) (lc_load C hi hfc hhf hG hGZ hR hod hsv hln hr hI hl kk)
  by_cases c12 : q = 12
  · subst c12
    exact lv_tableIn (off := 834) (tgt := 878) hx hb dL_law_44 (by decide) (by decide) rfl (by decide) (lc_undo C hi hfc hhf hG hGZ hR hod hsv hln hr hI hl kk)
  by_cases c13 : q = 13
  · subst c13
    exact lv_tableIn (off := 878) (tgt := 922) hx hb dL_law_44 (by decide) (by decide) rfl (by decide) (lc_slice C hi hfc hhf hG hGZ hR hod hsv hln hr hI hl kk)
  by_cases c14 : q = 14
  · subst c14
    exact lv_tableIn (off := 958) (tgt := 1002) hx hb dL_law_44 (by decide) (by decide) rfl (by decide) (lc_jar C hi hfc hhf hG hGZ hR hod hsv hln hr hI hl kk)
  by_cases c15 : q = 15
  · subst c15
    exact lv_tableIn (off := 1026) (tgt := 1070) hx hb dL_law_44 (by decide) (by decide) rfl (by decide) (lc_grains C hi hfc hhf hG hGZ hR hod hsv hln hr hI hl kk)
  by_cases c16 : q = 16
  · subst c16
    exact lv_tableIn (off := 1094) (tgt := 1138) hx hb dL_law_44 (by decide) (by decide) rfl (by decide) (lc_count C hi hfc hhf hG hGZ hR hod hsv hln hr hI hl kk)
  by_cases c17 : q = 17
  · subst c17
    exact lv_tableIn (off := 1150) (tgt := 1194) hx hb dL_law_44 (by decide) (by decide) rfl (by decide) (lc_setting C hi hfc hhf hG hGZ hR hod hsv hln hr hI hl kk)
  by_cases c18 : q = 18
  · subst c18
    exact lv_tableIn (off := 1206) (tgt := 1250) hx hb dL_law_44 (by decide) (by decide) rfl (by decide) (lc_why C hi hfc hhf hG hGZ hR hod hsv hln hr hI hl kk)
  by_cases c19 : q = 19
  · subst c19
    exact lv_tableIn (off := 1286) (tgt := 1330) hx hb dL_law_44 (by decide) (by decide) rfl (by decide) (lc_ifSettled C hi hfc hhf hG hGZ hR hod hsv hln hr hI hl kk)
  by_cases c20 : q = 20
  · subst c20
    exact lv_tableIn (off := 1366) (tgt := 1410) hx hb dL_law_44 (by decide) (by decide) rfl (by decide) (lc_clearIn C hi hfc hhf hG hGZ hR hod hsv hln hr hI hl kk)
  by_cases c21 : q = 21
  · subst c21
    exact lv_tableIn (off := 1434) (tgt := 1478) hx hb dL_law_44 (by decide) (by decide) rfl (by decide) (lc_restIn C hi hfc hhf hG hGZ hR hod hsv hln hr hI hl kk)
  by_cases c22 : q = 22
  · subst c22
    exact lv_tableIn (off := 1490) (tgt := 1534) hx hb dL_law_44 (by decide) (by decide) rfl (by decide) (lc_purest C hi hfc hhf hG hGZ hR hod hsv hln hr hI hl kk)
  by_cases c23 : q = 23
  · subst c23
    exact lv_tableIn (off := 1558) (tgt := 1602) hx hb dL_law_44 (by decide) (by decide) rfl (by decide) (lc_meanDepth C hi hfc hhf hG hGZ hR hod hsv hln hr hI hl kk)
  by_cases c24 : q = 24
  · subst c24
    exact lv_tableIn (off := 1635) (tgt := 1679) hx hb dL_law_44 (by decide) (by decide) rfl (by decide) (lc_digest C hi hfc hhf hG hGZ hR hod hsv hln hr hI hl kk)
  have hq2 : 25 ≤ q := by omega
  refine lv_tableOut (tgt := 1693) hx hb dL_law_44 (Or.inr ?_) (by decide) ?_
  · rw [nI_toInt (by omega)]; omega
  · refine W.widen (k := cells + 1) (n := slots + 6) (by omega) (by omega) ?_
    exact kk H locs ls hV0 hl
theorem law_loop (C : lCx p l s m args c b L xs D ac A tl tg) (hhf : ∀ q, q < 6 → hf q = some (aa q 0)) {K0 S0 : Nat} (hK0 : K0 + 514 ≤ room_1.cells) (hS0 : S0 + 3084 ≤ room_1.slots)
    (hend : ∀ (H : Heap) (locs : List Loc) (ls : Array Slot), va_S A s.heap H locs → W p l e room_1 s m args below meth c H locs room_1.cells room_1.slots Q (F0 m 1700 ls [.int 1])) :
    ∀ (nn k : Nat), k + nn = 513 → ∀ (H : Heap) (locs : List Loc) (ls : Array Slot), lV D ac A ad n hf aa s.heap H locs → lv_has ls 9 (lv0 b ad (5 * k)) → W p l e room_1 s m args below meth c H locs (K0 + k) (S0 + 6 * k) Q (F0 m 28 ls []) := by
  intro nn
  induction nn with
  | zero =>
    intro k hk H locs ls hV hl
    have hS : va_S A s.heap H locs := by obtain ⟨z, sd, tx, Z, od, sv, ln, r, -, -, -, -, -, -, -, gs, az, rd, of, og, th, t9, stp, po, hh, -, -, hS⟩ := hV; exact hS
    refine law_head C hS (by omega) hl ?_ (fun h => absurd h (by have := C.2.2.2.1.2.2.2; omega))
    refine lv_iconst (v := 1) C.1.1 C.1.2.1 dL_law_1699 (by decide) ?_
    refine W.widen (k := room_1.cells) (n := room_1.slots) (by omega) (by omega) ?_
    exact hend H locs ls hS
  | succ nn ih =>
    intro k hk H locs ls hV hl
    have hS : va_S A s.heap H locs := by obtain ⟨z, sd, tx, Z, od, sv, ln, r, -, -, -, -, -, -, -, gs, az, rd, of, og, th, t9, stp, po, hh, -, -, hS⟩ := hV; exact hS
    refine law_head C hS (by omega) hl ?_ (fun h => ?_)
    · refine lv_iconst (v := 1) C.1.1 C.1.2.1 dL_law_1699 (by decide) ?_
      refine W.widen (k := room_1.cells) (n := room_1.slots) (by omega) (by omega) ?_
      exact hend H locs ls hS
    · refine law_body C h (by omega) (by omega) hhf hV hl (fun H locs ls hV hl => ?_)
      refine lv_iinc (v := nI (5 * k + 5)) (lv' := [(5, .int (nI (5 * k + 5))), (0, .ref b), (1, .ref (ad 0)), (2, .ref (ad 9)), (3, .ref (ad 7)), (4, .ref (ad 8))]) C.1.1 C.1.2.1 dL_law_1693 hl (k := 5) rfl (nI_add (5 * k) 5) (by decide) rfl (fun ls hl => ?_)
      refine lv_goto (tgt := 28) C.1.1 C.1.2.1 dL_law_1696 (by decide) ?_
      refine W.widen (k := K0 + (k + 1)) (n := S0 + 6 * (k + 1)) (by omega) (by omega) ?_
      exact ih (k + 1) (by omega) H locs ls hV (lv_sub hl [1, 2, 3, 4, 5, 0] rfl)
end LOOP
