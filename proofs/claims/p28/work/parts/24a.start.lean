/-! the law from its entry -/
theorem lw_T {b : Nat} {s : State} (hts : ∀ w ∈ lw_tbl, w.before #[Value.ref b] s = true) (i : Nat) (w : Cond) (h : tables_1[i]? = some w) : w.before #[Value.ref b] s = true := by
  refine hts w ?_
  unfold lw_tbl
  exact List.mem_append_right _ (List.mem_of_getElem? h)
theorem z_arrO {args : Array Value} {s : State} {C : String} (h : (Cond.arrayOver (.object C)).before args s = true) : ∃ cA : ClassId, ArrOfT s cA (.object C) ∧ va_RA s cA (.object C) := by
  obtain ⟨comp, cA, k, f1, f2, f3, f4, f5⟩ := Cond.arrayOver_spec (args := args) (first := s) (s := s) (o := none) (idx := []) h
  exact ⟨cA, fun N z => ⟨(fun k h => by cases h), k, f3, comp, f4⟩, k, comp, f3, f4, f1, f5⟩
theorem z_arrI {args : Array Value} {s : State} (h : (Cond.arrayClass .int).before args s = true) : ∃ cA : ClassId, ArrOfT s cA .int ∧ va_RA s cA .int := by
  obtain ⟨cA, k, comp, f1, f2, f3⟩ := Cond.arrayClass_spec (args := args) (first := s) (s := s) (o := none) (idx := []) h
  exact ⟨cA, fun N z => ⟨(fun k h => by cases h), k, f2, comp, f3⟩, f1⟩
theorem z_arrC {args : Array Value} {s : State} (h : (Cond.arrayClass .char).before args s = true) : ∃ cA : ClassId, ArrOfT s cA .char ∧ va_RA s cA .char := by
  obtain ⟨cA, k, comp, f1, f2, f3⟩ := Cond.arrayClass_spec (args := args) (first := s) (s := s) (o := none) (idx := []) h
  exact ⟨cA, fun N z => ⟨(fun k h => by cases h), k, f2, comp, f3⟩, f1⟩
set_option maxRecDepth 100000 in
set_option maxHeartbeats 4000000 in
theorem lw_ctx {p : Program} {s : State} {m : MethodId} {meth : Method} {c : Code} (l : Launch) {b L : Nat} {xs : Nat → Int32} (hL : L ≤ 260) (C0 : lw_At p s m meth c b L xs) : ∃ (D : va_G) (ac : Nat → ClassId) (tl tg : Nat), lCx p l s m #[Value.ref b] c b L xs D ac (fun q : Nat => s.heap.size ≤ q) tl tg ∧ zNL s := by
  obtain ⟨hx, hb, hr, hml, hown, hts, hX, hbl, hlocks, hgv⟩ := id C0
  have T := lw_T hts
  have G := flat_of_before _ hgv
  have hnA : ∀ a : Nat, a < s.heap.size → ¬ (fun q : Nat => s.heap.size ≤ q) a := fun a h => Nat.not_le.mpr h
  obtain ⟨c0, iS0, hKn0⟩ := u_known (C := RX0) (T := TX0) (N := 2) (n := 2) hts inX0 (T 101 (.instantiable RX0 2) (by decide +kernel))
  obtain ⟨c1, iS1, hKn1⟩ := u_known (C := RX1) (T := TX1) (N := 3) (n := 3) hts inX1 (T 82 (.instantiable RX1 3) (by decide +kernel))
  obtain ⟨c2, iS2, hKn2⟩ := u_known (C := RX2) (T := TX2) (N := 1) (n := 1) hts inX2 (T 47 (.instantiable RX2 1) (by decide +kernel))
  obtain ⟨c3, iS3, hKn3⟩ := u_known (C := RX3) (T := TX3) (N := 2) (n := 2) hts inX3 (T 30 (.instantiable RX3 2) (by decide +kernel))
  obtain ⟨c4, iS4, hKn4⟩ := u_known (C := RX4) (T := TX4) (N := 6) (n := 6) hts inX4 (T 24 (.instantiable RX4 6) (by decide +kernel))
  obtain ⟨c5, iS5, hKn5⟩ := u_known (C := RX5) (T := TX5) (N := 4) (n := 4) hts inX5 (T 16 (.instantiable RX5 4) (by decide +kernel))
  obtain ⟨dC, dI, hKc⟩ : ∃ (dC : Nat → ClassId) (dI : Nat → Nat → Nat), ∀ (k : Nat) (q : vw_C), vwCl[k]? = some q → u_Kn s q.1 q.2.1 q.2.2 (dC k) (dI k) := by
    refine ⟨fun k => if k = 0 then c0 else if k = 1 then c1 else if k = 2 then c2 else if k = 3 then c3 else if k = 4 then c4 else c5, fun k => if k = 0 then iS0 else if k = 1 then iS1 else if k = 2 then iS2 else if k = 3 then iS3 else if k = 4 then iS4 else iS5, ?_⟩
    intro k q hq
    match k, hq with
    | 0, hq => cases hq; exact hKn0
    | 1, hq => cases hq; exact hKn1
    | 2, hq => cases hq; exact hKn2
    | 3, hq => cases hq; exact hKn3
    | 4, hq => cases hq; exact hKn4
    | 5, hq => cases hq; exact hKn5
    | k + 6, hq => simp [vwCl] at hq
  obtain ⟨aI, haI1, haI2⟩ := z_arrI (T 44 (.arrayClass .int) (by decide +kernel))
  obtain ⟨aC, haC1, haC2⟩ := z_arrC (T 112 (.arrayClass .char) (by decide +kernel))
  obtain ⟨aJ, haJ1, haJ2⟩ := z_arrO (C := "SettlingJars$Jar") (T 46 (.arrayOver (.object "SettlingJars$Jar")) (by decide +kernel))
  obtain ⟨aS, haS1, haS2⟩ := z_arrO (C := "SettlingJars$State") (T 88 (.arrayOver (.object "SettlingJars$State")) (by decide +kernel))
  have hK : va_K (dC, dI) vwCl (zTy (fun k => if k = 0 then aI else if k = 1 then aC else if k = 2 then aJ else aS)) s := by
    refine ⟨hKc, fun k q hq => ?_⟩
    match k, hq with
    | 0, hq => cases hq; exact ⟨haI1, haI2⟩
    | 1, hq => cases hq; exact ⟨haC1, haC2⟩
    | 2, hq => cases hq; exact ⟨haJ1, haJ2⟩
    | 3, hq => cases hq; exact ⟨haS1, haS2⟩
    | k + 4, hq => simp [zTy] at hq
  obtain ⟨tl, htl1, htl2⟩ := va_Tof (args := #[Value.ref b]) (s := s) (tm := .static "SettlingJars$Settings" "LEAST" "[I") (ty := .int) (N := 4) (f := fun j => .int (qLo j)) (A := fun q : Nat => s.heap.size ≤ q) (by decide) (G (.arrayOf (.static "SettlingJars$Settings" "LEAST" "[I") .int) (by decide +kernel)) (va_eqt (G (.eq (.length (.static "SettlingJars$Settings" "LEAST" "[I")) (.int (Int32.ofNat 4))) (by decide +kernel))) (fun j hj => by
    rcases z_cases4 hj with rfl | rfl | rfl | rfl
    · exact va_eqt (z := qLo 0) (G (.eq (.elem (.static "SettlingJars$Settings" "LEAST" "[I") (.int (Int32.ofNat 0))) (.int (qLo 0))) (by decide +kernel))
    · exact va_eqt (z := qLo 1) (G (.eq (.elem (.static "SettlingJars$Settings" "LEAST" "[I") (.int (Int32.ofNat 1))) (.int (qLo 1))) (by decide +kernel))
    · exact va_eqt (z := qLo 2) (G (.eq (.elem (.static "SettlingJars$Settings" "LEAST" "[I") (.int (Int32.ofNat 2))) (.int (qLo 2))) (by decide +kernel))
    · exact va_eqt (z := qLo 3) (G (.eq (.elem (.static "SettlingJars$Settings" "LEAST" "[I") (.int (Int32.ofNat 3))) (.int (qLo 3))) (by decide +kernel))) hnA
  obtain ⟨tg, htg1, htg2⟩ := va_Tof (args := #[Value.ref b]) (s := s) (tm := .static "SettlingJars$Settings" "GREATEST" "[I") (ty := .int) (N := 4) (f := fun j => .int (qUp j)) (A := fun q : Nat => s.heap.size ≤ q) (by decide) (G (.arrayOf (.static "SettlingJars$Settings" "GREATEST" "[I") .int) (by decide +kernel)) (va_eqt (G (.eq (.length (.static "SettlingJars$Settings" "GREATEST" "[I")) (.int (Int32.ofNat 4))) (by decide +kernel))) (fun j hj => by
    rcases z_cases4 hj with rfl | rfl | rfl | rfl
    · exact va_eqt (z := qUp 0) (G (.eq (.elem (.static "SettlingJars$Settings" "GREATEST" "[I") (.int (Int32.ofNat 0))) (.int (qUp 0))) (by decide +kernel))
    · exact va_eqt (z := qUp 1) (G (.eq (.elem (.static "SettlingJars$Settings" "GREATEST" "[I") (.int (Int32.ofNat 1))) (.int (qUp 1))) (by decide +kernel))
    · exact va_eqt (z := qUp 2) (G (.eq (.elem (.static "SettlingJars$Settings" "GREATEST" "[I") (.int (Int32.ofNat 2))) (.int (qUp 2))) (by decide +kernel))
    · exact va_eqt (z := qUp 3) (G (.eq (.elem (.static "SettlingJars$Settings" "GREATEST" "[I") (.int (Int32.ofNat 3))) (.int (qUp 3))) (by decide +kernel))) hnA
  refine ⟨(dC, dI), _, tl, tg, ⟨⟨hx, hb, hml, hown, fun w h => hts w (wsL_law_in w h)⟩, hK, fun _ h => h, ⟨hX, hbl, Nat.not_le.mpr hbl, hL⟩, ⟨?_, ?_, htl2, htg2⟩⟩, ?_⟩
  · exact va_Zref (T 545 (.laysStatic "SettlingJars$Settings" "LEAST" "[I") (by decide +kernel)) (T 3 (.initialized "SettlingJars$Settings") (by decide +kernel)) htl1 hnA
  · exact va_Zref (T 547 (.laysStatic "SettlingJars$Settings" "GREATEST" "[I") (by decide +kernel)) (T 3 (.initialized "SettlingJars$Settings") (by decide +kernel)) htg1 hnA
  · exact ⟨⟨va_Nw.of rfl (T 31 (.methodLinkNest RX4 11 yX3_init "SettlingJars") (by decide +kernel)), va_Nw.of rfl (T 48 (.methodLinkNest RX4 31 yX2_init "SettlingJars") (by decide +kernel)), va_Nw.of rfl (T 102 (.methodLinkNest RX5 25 yX0_init "SettlingJars") (by decide +kernel)), va_Nw.of rfl (T 114 (.methodLinkNest RX5 32 yX2_init "SettlingJars") (by decide +kernel))⟩, va_AO.of (T 46 (.arrayOver (.object "SettlingJars$Jar")) (by decide +kernel)), va_AO.of (T 88 (.arrayOver (.object "SettlingJars$State")) (by decide +kernel))⟩
theorem zI0_good : mGood zI0 := by
  have e0 : (0 : Int32).toInt = 0 := by decide
  refine ⟨fun k hk => by rw [zI0_no (Or.inl hk)]; decide, fun j hj => ?_, by decide, by decide, by decide, by decide, fun c hc => by rcases z_cases4 hc with rfl | rfl | rfl | rfl <;> decide, by decide⟩
  have e : fb_si (fun k => (zI0 (48 * j + k)).toInt) 48 = fb_si (fun _ => 0) 48 := fb_si_cong (fun k hk => by rw [zI0_no (Or.inl (by omega))]; exact e0)
  rw [e]
  decide
theorem z_regroup {D : va_G} {cl : List vw_C} {A : Nat → Prop} {H : Heap} {X N Hs R Ch Sp : va_W} {a b c d e : Nat × va_E} (hP : va_P D cl (((((((((X ++ N) ++ (Hs ++ R)) ++ Ch) ++ Sp) ++ [a]) ++ [b]) ++ [c]) ++ [d]) ++ [e]) H) (hD : va_D A (((((((((X ++ N) ++ (Hs ++ R)) ++ Ch) ++ Sp) ++ [a]) ++ [b]) ++ [c]) ++ [d]) ++ [e])) : va_P D cl ((X ++ (Hs ++ (Sp ++ (N ++ [a, b, c, d, e])))) ++ R) H ∧ va_D A ((X ++ (Hs ++ (Sp ++ (N ++ [a, b, c, d, e])))) ++ R) := by
  have q1 : (((((((((X ++ N) ++ (Hs ++ R)) ++ Ch) ++ Sp) ++ [a]) ++ [b]) ++ [c]) ++ [d]) ++ [e]) = X ++ (N ++ (Hs ++ (R ++ (Ch ++ (Sp ++ [a, b, c, d, e]))))) := by simp only [List.append_assoc, List.cons_append, List.nil_append]
  have q2 : ((X ++ (Hs ++ (Sp ++ (N ++ [a, b, c, d, e])))) ++ R) ++ Ch = X ++ (Hs ++ (Sp ++ (N ++ ([a, b, c, d, e] ++ (R ++ Ch))))) := by simp only [List.append_assoc]
  generalize [a, b, c, d, e] = Rw at q1 q2 ⊢
  have p1 : (R ++ (Ch ++ (Sp ++ Rw))).Perm (Sp ++ (Rw ++ (R ++ Ch))) := by
    have h := List.perm_append_comm (l₁ := R ++ Ch) (l₂ := Sp ++ Rw)
    simpa only [List.append_assoc] using h
  have p2 := (p1.append_left N).trans (List.perm_append_comm_assoc N Sp (Rw ++ (R ++ Ch)))
  have p3 := (List.perm_append_comm_assoc N Hs (R ++ (Ch ++ (Sp ++ Rw)))).trans (p2.append_left Hs)
  have p4 := p3.append_left X
  rw [q1] at hP hD
  rw [← q2] at p4
  exact ⟨z_Pl (z_Pperm p4 hP), z_Dl (z_Dperm p4 hD)⟩
theorem zI0_cons : lCons zI0 := fun c hc => by
  have e : ∀ j, j < 3 → qOf (qV zI0 j) c = 0 := fun j hj => (s_cong (f := fun s => qV zI0 j (4 * s + c)) (g := fun _ => 0) (fun s hs => zI0_no (k := 48 * j + (4 * s + c)) (Or.inl (by omega)))).trans (by decide)
  rw [e 0 (by decide), e 1 (by decide), e 2 (by decide), zI0_no (Or.inr (by omega)), zI0_no (Or.inr (by omega))]
  decide
theorem zI0_all {j : Nat} (hj : j < 3) : qAll (qV zI0 j) = 0 := (s_cong (f := fun s => qIn (qV zI0 j) s) (g := fun _ => 0) (fun s hs => (s_cong (f := fun c => qV zI0 j (4 * s + c)) (g := fun _ => 0) (fun c hc => zI0_no (k := 48 * j + (4 * s + c)) (Or.inl (by omega)))).trans (by decide))).trans (by decide)
def lE0 : Nat → Int32 := upd (upd (upd (fun _ => 0) 0 100) 1 200) 2 3
theorem zI0_row : lRow (cV zI0) (cW zI0) (qV zI0 0) (qV zI0 1) (qV zI0 2) (cP zI0) (cR zI0) (zI0 160) (zI0 161) (fun _ => 0) (fun _ => 0) (fun _ => 0) (upd (upd (upd (upd lE0 4 (nI 40)) 5 (nI 20)) 6 (nI 10)) 7 (nI 5)) (fun _ => 0) := by
  refine ⟨fun k hk => (zI0_no (k := 48 * 0 + k) (Or.inl (by omega))).symm, fun k hk => (zI0_no (k := 48 * 1 + k) (Or.inl (by omega))).symm, fun k hk => (zI0_no (k := 48 * 2 + k) (Or.inl (by omega))).symm, fun k hk => ?_, (zI0_no (Or.inr (by decide))).symm, (zI0_no (Or.inr (by decide))).symm⟩
  rcases z_cases4 hk with rfl | rfl | rfl | rfl <;> decide
section LST
variable {p : Program} {l : Launch} {e : Env} {s : State} {m : MethodId} {args : Array Value} {below : List Frame} {meth : Method} {c : Code} {H : Heap} {locs : List Loc} {cells slots : Nat} {Q : State → Prop} {ls : Array Slot} {rest : List Value}
variable {D : va_G} {ac : Nat → ClassId} {A : Nat → Prop} {b L tl tg : Nat} {xs : Nat → Int32} {ad n : Nat → Nat} {hf : Nat → Option Nat} {aa : Nat → Nat → Nat} {od sz : Nat} {gs v w ga gb gc pd dr ja jb jc je jd : Nat → Int32} {tp fl : Int32} {wr : va_W}
/-- the row of sixteen, written -/
theorem law_put (C : lCx p l s m args c b L xs D ac A tl tg) (hP : va_P D vwCl (lF ac ad n hf od sz gs v w ga gb gc pd dr tp fl ja jb jc je jd ++ wr) H) (hD : va_D A (lF ac ad n hf od sz gs v w ga gb gc pd dr tp fl ja jb jc je jd ++ wr)) (hS : va_S A s.heap H locs) (k : Nat) {i x : Int32} (hi : i = nI k) (hk : k < 16) {pc : Nat} (hdg : decode code pc = .ok (.iastore, 1))
    (kk : ∀ (H : Heap) (locs : List Loc), va_P D vwCl (lF ac ad n hf od sz gs v w ga gb gc pd dr tp fl ja jb jc (upd je k x) jd ++ wr) H → va_D A (lF ac ad n hf od sz gs v w ga gb gc pd dr tp fl ja jb jc (upd je k x) jd ++ wr) → va_S A s.heap H locs → W p l e room_1 s m args below meth c H locs cells slots Q (F0 m (pc + 1) ls rest)) : W p l e room_1 s m args below meth c H locs cells slots Q (F0 m pc ls (.int x :: .int i :: .ref (ad 10) :: rest)) :=
  z_iast C.1.1 C.1.2.1 C.2.1 hP hD hS 21 rfl k hi hk (by decide) hdg (fun H locs hP hD hS => kk H locs hP hD hS)
set_option maxRecDepth 100000 in
set_option maxHeartbeats 4000000 in
theorem law_rows (C : lCx p l s m args c b L xs D ac A tl tg) (hc1 : cells ≤ room_1.cells) (hc2 : slots ≤ room_1.slots) (hP : va_P D vwCl (lF ac ad n hf od sz gs v w ga gb gc pd dr tp fl ja jb jc (fun _ => 0) jd ++ wr) H) (hD : va_D A (lF ac ad n hf od sz gs v w ga gb gc pd dr tp fl ja jb jc (fun _ => 0) jd ++ wr)) (hS : va_S A s.heap H locs) (hl : lv_has ls 11 [(6, .ref (ad 11)), (5, .ref (ad 10)), (4, .ref (ad 9)), (3, .ref (ad 8)), (2, .ref (ad 7)), (1, .ref (ad 0)), (0, .ref b)]) (kk : ∀ (H : Heap) (locs : List Loc) (ls : Array Slot), va_P D vwCl (lF ac ad n hf od sz gs v w ga gb gc pd dr tp fl ja jb jc (upd (upd (upd (upd lE0 4 (nI 40)) 5 (nI 20)) 6 (nI 10)) 7 (nI 5)) jd ++ wr) H → va_D A (lF ac ad n hf od sz gs v w ga gb gc pd dr tp fl ja jb jc (upd (upd (upd (upd lE0 4 (nI 40)) 5 (nI 20)) 6 (nI 10)) 7 (nI 5)) jd ++ wr) → va_S A s.heap H locs → lv_has ls 11 [(0, .ref b), (1, .ref (ad 0)), (2, .ref (ad 7)), (3, .ref (ad 8)), (4, .ref (ad 9)), (5, .ref (ad 10)), (6, .ref (ad 11))] → W p l e room_1 s m args below meth c H locs cells slots Q (F0 m 80 ls [])) : W p l e room_1 s m args below meth c H locs cells slots Q (F0 m 35 ls []) := by
  have hx := C.1.1
  have hb := C.1.2.1
  refine lv_aload hx hb dL_law_35 (lv_at hl 1 rfl) ?_
  refine lv_iconst (v := 0) hx hb dL_law_37 (by decide) ?_
  refine lv_bipush (v := 100) hx hb dL_law_38 (by decide) ?_
  refine law_put C hP hD hS 0 rfl (by decide) dL_law_40 (fun H locs hP hD hS => ?_)
  refine lv_aload hx hb dL_law_41 (lv_at hl 1 rfl) ?_
  refine lv_iconst (v := 1) hx hb dL_law_43 (by decide) ?_
  refine lv_sipush (v := 200) hx hb dL_law_44 (by decide) ?_
  refine law_put C hP hD hS 1 rfl (by decide) dL_law_47 (fun H locs hP hD hS => ?_)
  refine lv_aload hx hb dL_law_48 (lv_at hl 1 rfl) ?_
  refine lv_iconst (v := 2) hx hb dL_law_50 (by decide) ?_
  refine lv_iconst (v := 3) hx hb dL_law_51 (by decide) ?_
  refine law_put C hP hD hS 2 rfl (by decide) dL_law_52 (fun H locs hP hD hS => ?_)
  refine lv_iconst (v := nI 0) hx hb dL_law_53 (by decide) ?_
  refine lv_istore (lv' := [(7, .int (nI 0)), (6, .ref (ad 11)), (5, .ref (ad 10)), (4, .ref (ad 9)), (3, .ref (ad 8)), (2, .ref (ad 7)), (1, .ref (ad 0)), (0, .ref b)]) hx hb dL_law_54 hl (by decide) rfl (fun ls hl => ?_)
  refine lv_iload hx hb dL_law_56 (lv_at hl 0 rfl) ?_
  refine lv_iconst (v := 4) hx hb dL_law_58 (by decide) ?_
  refine z_icmp_ge (tgt := 80) hx hb 0 4 dL_law_59 (by decide) (by decide) (by decide) rfl rfl (fun c_ => absurd c_ (by decide)) (fun _ => ?_)
  refine lv_aload hx hb dL_law_62 (lv_at hl 2 rfl) ?_
  refine lv_iconst (v := 4) hx hb dL_law_64 (by decide) ?_
  refine lv_iload hx hb dL_law_65 (lv_at hl 0 rfl) ?_
  refine lv_iadd hx hb dL_law_67 ?_
  refine z_top (y := nI 4) (nI_add 4 0) ?_
  refine lv_bipush (v := 40) hx hb dL_law_68 (by decide) ?_
  refine lv_iload hx hb dL_law_70 (lv_at hl 0 rfl) ?_
  refine lv_ishr hx hb dL_law_72 ?_
  refine z_top (y := nI 40) (by decide) ?_
  refine law_put C hP hD hS 4 rfl (by decide) dL_law_73 (fun H locs hP hD hS => ?_)
  refine lv_iinc (v := nI 1) (lv' := [(7, .int (nI 1)), (6, .ref (ad 11)), (5, .ref (ad 10)), (4, .ref (ad 9)), (3, .ref (ad 8)), (2, .ref (ad 7)), (1, .ref (ad 0)), (0, .ref b)]) hx hb dL_law_74 hl (k := 0) rfl (show nI 0 + Int32.ofInt 1 = _ from nI_add 0 1) (by decide) rfl (fun ls hl => ?_)
  refine lv_goto (tgt := 56) hx hb dL_law_77 (by decide) ?_
  refine lv_iload hx hb dL_law_56 (lv_at hl 0 rfl) ?_
  refine lv_iconst (v := 4) hx hb dL_law_58 (by decide) ?_
  refine z_icmp_ge (tgt := 80) hx hb 1 4 dL_law_59 (by decide) (by decide) (by decide) rfl rfl (fun c_ => absurd c_ (by decide)) (fun _ => ?_)
  refine lv_aload hx hb dL_law_62 (lv_at hl 2 rfl) ?_
  refine lv_iconst (v := 4) hx hb dL_law_64 (by decide) ?_
  refine lv_iload hx hb dL_law_65 (lv_at hl 0 rfl) ?_
  refine lv_iadd hx hb dL_law_67 ?_
  refine z_top (y := nI 5) (nI_add 4 1) ?_
  refine lv_bipush (v := 40) hx hb dL_law_68 (by decide) ?_
  refine lv_iload hx hb dL_law_70 (lv_at hl 0 rfl) ?_
  refine lv_ishr hx hb dL_law_72 ?_
  refine z_top (y := nI 20) (by decide) ?_
  refine law_put C hP hD hS 5 rfl (by decide) dL_law_73 (fun H locs hP hD hS => ?_)
  refine lv_iinc (v := nI 2) (lv' := [(7, .int (nI 2)), (6, .ref (ad 11)), (5, .ref (ad 10)), (4, .ref (ad 9)), (3, .ref (ad 8)), (2, .ref (ad 7)), (1, .ref (ad 0)), (0, .ref b)]) hx hb dL_law_74 hl (k := 0) rfl (show nI 1 + Int32.ofInt 1 = _ from nI_add 1 1) (by decide) rfl (fun ls hl => ?_)
  refine lv_goto (tgt := 56) hx hb dL_law_77 (by decide) ?_
  refine lv_iload hx hb dL_law_56 (lv_at hl 0 rfl) ?_
  refine lv_iconst (v := 4) hx hb dL_law_58 (by decide) ?_
  refine z_icmp_ge (tgt := 80) hx hb 2 4 dL_law_59 (by decide) (by decide) (by decide) rfl rfl (fun c_ => absurd c_ (by decide)) (fun _ => ?_)
  refine lv_aload hx hb dL_law_62 (lv_at hl 2 rfl) ?_
  refine lv_iconst (v := 4) hx hb dL_law_64 (by decide) ?_
  refine lv_iload hx hb dL_law_65 (lv_at hl 0 rfl) ?_
  refine lv_iadd hx hb dL_law_67 ?_
  refine z_top (y := nI 6) (nI_add 4 2) ?_
  refine lv_bipush (v := 40) hx hb dL_law_68 (by decide) ?_
  refine lv_iload hx hb dL_law_70 (lv_at hl 0 rfl) ?_
  refine lv_ishr hx hb dL_law_72 ?_
  refine z_top (y := nI 10) (by decide) ?_
  refine law_put C hP hD hS 6 rfl (by decide) dL_law_73 (fun H locs hP hD hS => ?_)
  refine lv_iinc (v := nI 3) (lv' := [(7, .int (nI 3)), (6, .ref (ad 11)), (5, .ref (ad 10)), (4, .ref (ad 9)), (3, .ref (ad 8)), (2, .ref (ad 7)), (1, .ref (ad 0)), (0, .ref b)]) hx hb dL_law_74 hl (k := 0) rfl (show nI 2 + Int32.ofInt 1 = _ from nI_add 2 1) (by decide) rfl (fun ls hl => ?_)
  refine lv_goto (tgt := 56) hx hb dL_law_77 (by decide) ?_
  refine lv_iload hx hb dL_law_56 (lv_at hl 0 rfl) ?_
  refine lv_iconst (v := 4) hx hb dL_law_58 (by decide) ?_
  refine z_icmp_ge (tgt := 80) hx hb 3 4 dL_law_59 (by decide) (by decide) (by decide) rfl rfl (fun c_ => absurd c_ (by decide)) (fun _ => ?_)
  refine lv_aload hx hb dL_law_62 (lv_at hl 2 rfl) ?_
  refine lv_iconst (v := 4) hx hb dL_law_64 (by decide) ?_
  refine lv_iload hx hb dL_law_65 (lv_at hl 0 rfl) ?_
  refine lv_iadd hx hb dL_law_67 ?_
  refine z_top (y := nI 7) (nI_add 4 3) ?_
  refine lv_bipush (v := 40) hx hb dL_law_68 (by decide) ?_
  refine lv_iload hx hb dL_law_70 (lv_at hl 0 rfl) ?_
  refine lv_ishr hx hb dL_law_72 ?_
  refine z_top (y := nI 5) (by decide) ?_
  refine law_put C hP hD hS 7 rfl (by decide) dL_law_73 (fun H locs hP hD hS => ?_)
  refine lv_iinc (v := nI 4) (lv' := [(7, .int (nI 4)), (6, .ref (ad 11)), (5, .ref (ad 10)), (4, .ref (ad 9)), (3, .ref (ad 8)), (2, .ref (ad 7)), (1, .ref (ad 0)), (0, .ref b)]) hx hb dL_law_74 hl (k := 0) rfl (show nI 3 + Int32.ofInt 1 = _ from nI_add 3 1) (by decide) rfl (fun ls hl => ?_)
  refine lv_goto (tgt := 56) hx hb dL_law_77 (by decide) ?_
  refine lv_iload hx hb dL_law_56 (lv_at hl 0 rfl) ?_
  refine lv_iconst (v := 4) hx hb dL_law_58 (by decide) ?_
  refine z_icmp_ge (tgt := 80) hx hb 4 4 dL_law_59 (by decide) (by decide) (by decide) rfl rfl (fun _ => ?_) (fun c_ => absurd c_ (by decide))
  exact kk _ _ _ hP hD hS (lv_sub hl [7, 6, 5, 4, 3, 2, 1] rfl)
set_option maxRecDepth 100000 in
set_option maxHeartbeats 4000000 in
theorem law_from (C : lCx p l s m args c b L xs D ac A tl tg) (hP : va_P D vwCl (lF ac ad n (fun i => if i < 6 then some (aa i 0) else none) 0 0 (fun _ => 0) (cV zI0) (cW zI0) (qV zI0 0) (qV zI0 1) (qV zI0 2) (cP zI0) (cR zI0) (zI0 160) (zI0 161) (fun _ => 0) (fun _ => 0) (fun _ => 0) (upd (upd (upd (upd lE0 4 (nI 40)) 5 (nI 20)) 6 (nI 10)) 7 (nI 5)) (fun _ => 0) ++ (List.range 6).flatMap (fun i => lB ac (aa i) zI0)) H) (hD : va_D A (lF ac ad n (fun i => if i < 6 then some (aa i 0) else none) 0 0 (fun _ => 0) (cV zI0) (cW zI0) (qV zI0 0) (qV zI0 1) (qV zI0 2) (cP zI0) (cR zI0) (zI0 160) (zI0 161) (fun _ => 0) (fun _ => 0) (fun _ => 0) (upd (upd (upd (upd lE0 4 (nI 40)) 5 (nI 20)) 6 (nI 10)) 7 (nI 5)) (fun _ => 0) ++ (List.range 6).flatMap (fun i => lB ac (aa i) zI0))) (hS : va_S A s.heap H locs) (hl : lv_has ls 11 [(0, .ref b), (1, .ref (ad 0)), (2, .ref (ad 7)), (3, .ref (ad 8)), (4, .ref (ad 9)), (5, .ref (ad 10)), (6, .ref (ad 11))]) (hend : ∀ (H : Heap) (locs : List Loc) (ls : Array Slot), va_S A s.heap H locs → W p l e room_1 s m args below meth c H locs room_1.cells room_1.slots Q (F0 m 284 ls [.int 1])) : W p l e room_1 s m args below meth c H locs 103 1504 Q (F0 m 80 ls []) := by
  have hx := C.1.1
  have hb := C.1.2.1
  have hP : va_P D vwCl (lW ac ad n (fun i => if i < 6 then some (aa i 0) else none) 0 0 (fun _ => 0) zI0 ++ (List.range 6).flatMap (fun i => lB ac (aa i) zI0)) H := lF_view (vEq_refl zI0) zI0_row hP
  have hD : va_D A (lW ac ad n (fun i => if i < 6 then some (aa i 0) else none) 0 0 (fun _ => 0) zI0 ++ (List.range 6).flatMap (fun i => lB ac (aa i) zI0)) := z_Dfst (by rw [List.map_append, List.map_append]; exact congrArg (fun x => x ++ ((List.range 6).flatMap (fun i => lB ac (aa i) zI0)).map Prod.fst) lF_fst) hD
  refine lv_aload_n hx hb dL_law_80 rfl (lv_at hl 1 rfl) ?_
  refine lv_iconst (v := nI 0) hx hb dL_law_81 (by decide) ?_
  refine lv_aload_n hx hb dL_law_82 rfl (lv_at hl 2 rfl) ?_
  refine lv_aload_n hx hb dL_law_83 rfl (lv_at hl 3 rfl) ?_
  refine lv_aload hx hb dL_law_84 (lv_at hl 4 rfl) ?_
  refine lv_aload hx hb dL_law_86 (lv_at hl 5 rfl) ?_
  refine lv_aload hx hb dL_law_88 (lv_at hl 6 rfl) ?_
  refine law_told C hl.1 ⟨Nat.le_of_ble_eq_true rfl, Nat.le_of_ble_eq_true rfl⟩ zI0_good zI0_cons hP hD hS (by decide) dL_law_90 (fun H locs hP hD hS => ?_)
  refine lv_if_eq (tgt := 104) hx hb dL_law_93 (by decide) (fun c_ => absurd c_ (by decide)) (fun _ => ?_)
  refine lv_aload_n hx hb dL_law_96 rfl (lv_at hl 1 rfl) ?_
  refine lv_iconst (v := nI 5) hx hb dL_law_97 (by decide) ?_
  refine law_count C hl.1 ⟨Nat.le_of_ble_eq_true rfl, Nat.le_of_ble_eq_true rfl⟩ hP dL_law_98 ?_
  refine lv_if_eq (tgt := 106) hx hb dL_law_101 (by decide) (fun _ => ?_) (fun c_ => absurd (by decide) c_)
  refine lv_iconst (v := nI 0) hx hb dL_law_106 (by decide) ?_
  refine lv_istore (lv' := [(7, .int (nI 0)), (0, .ref b), (1, .ref (ad 0)), (2, .ref (ad 7)), (3, .ref (ad 8)), (4, .ref (ad 9)), (5, .ref (ad 10)), (6, .ref (ad 11))]) hx hb dL_law_107 hl (by decide) rfl (fun ls hl => ?_)
  have hpm := List.Perm.append_left (lW ac ad n (fun i => if i < 6 then some (aa i 0) else none) 0 0 (fun _ => 0) zI0) (lR_perm ac aa (fun _ => zI0) (r := 0) (by decide))
  have hV : lV D ac A ad n (fun i => if i < 6 then some (aa i 0) else none) aa 0 s.heap H locs := ⟨zI0, (fun _ => 0), fun _ => zI0, 0, 0, 0, zI0_good, zI0_cons, by rw [zI0_no (Or.inr (by decide))]; decide, fun _ j hj => zI0_all hj, fun h => absurd h (by decide), by decide, by decide, by decide, z_Pperm hpm hP, z_Dperm hpm hD, hS⟩
  have hl2 : lv_has ls 11 (lv0 b ad 0) := lv_sub hl [1, 2, 3, 4, 5, 6, 7, 0] rfl
  refine W.widen (k := 106 + 4 * 0) (n := 1648 + 192 * 0) (Nat.le_of_ble_eq_true rfl) (Nat.le_of_ble_eq_true rfl) ?_
  exact law_loop C (fun q hq => if_pos hq) (K0 := 106) (S0 := 1648) (Nat.le_of_ble_eq_true rfl) (Nat.le_of_ble_eq_true rfl) hend 18 0 rfl H locs ls hV hl2
end LST
