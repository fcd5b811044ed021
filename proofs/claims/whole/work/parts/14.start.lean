/-! the law from its entry -/
theorem lw_T {b : Nat} {s : State} (hts : ∀ w ∈ lw_tbl, w.before #[Value.ref b] s = true) (i : Nat) (w : Cond) (h : tables_1[i]? = some w) : w.before #[Value.ref b] s = true := by
  refine hts w ?_
  unfold lw_tbl
  exact List.mem_append_right _ (List.mem_of_getElem? h)
theorem z_arrO {args : Array Value} {s : State} {C : String} (h : (Cond.arrayOver (.object C)).before args s = true) : ∃ cA : ClassId, ArrOfT s cA (.object C) ∧ va_RA s cA (.object C) := by
  obtain ⟨comp, cA, k, f1, f2, f3, f4, f5⟩ := Cond.arrayOver_spec (args := args) (first := s) (s := s) (o := none) (idx := []) h
  exact ⟨cA, fun N z => ⟨(fun k h => by cases h), k, f3, comp, f4⟩, k, comp, f3, f4, f1, f5⟩
theorem z_arrI {args : Array Value} {s : State} (h : (Cond.arrayClass .int).before args s = true) : ∃ cA : ClassId, ArrOfT s cA .int ∧ va_RA s cA .int := by
  obtain ⟨cA, k, comp, f1, f2, f3⟩ := Cond.arrayClass_spec (args := args) (first := s) (s := s) (o := none) (idx := []) h
  exact ⟨cA, fun N z => ⟨(fun k h => by cases h), k, f2, comp, f3⟩, f1⟩
theorem z_arrC {args : Array Value} {s : State} (h : (Cond.arrayClass .char).before args s = true) : ∃ cA : ClassId, ArrOfT s cA .char ∧ va_RA s cA .char := by
  obtain ⟨cA, k, comp, f1, f2, f3⟩ := Cond.arrayClass_spec (args := args) (first := s) (s := s) (o := none) (idx := []) h
  exact ⟨cA, fun N z => ⟨(fun k h => by cases h), k, f2, comp, f3⟩, f1⟩
theorem z_arrL {args : Array Value} {s : State} (h : (Cond.arrayClass .long).before args s = true) : ∃ cA : ClassId, ArrOfT s cA .long ∧ va_RA s cA .long := by
  obtain ⟨cA, k, comp, f1, f2, f3⟩ := Cond.arrayClass_spec (args := args) (first := s) (s := s) (o := none) (idx := []) h
  exact ⟨cA, fun N z => ⟨(fun k h => by cases h), k, f2, comp, f3⟩, f1⟩
theorem z_arrD {args : Array Value} {s : State} (h : (Cond.arrayClass .double).before args s = true) : ∃ cA : ClassId, ArrOfT s cA .double ∧ va_RA s cA .double := by
  obtain ⟨cA, k, comp, f1, f2, f3⟩ := Cond.arrayClass_spec (args := args) (first := s) (s := s) (o := none) (idx := []) h
  exact ⟨cA, fun N z => ⟨(fun k h => by cases h), k, f2, comp, f3⟩, f1⟩
theorem z_str {args : Array Value} {s : State} {own tx : String} {k : Nat} (h1 : (Cond.stringRef own k tx).before args s = true) (h2 : (Cond.exactly (.string own k) "java/lang/String").before args s = true) : ∃ sa : Nat, vk_R own k tx sa s := by
  obtain ⟨a2, c, cA, kA, q1, -⟩ := Cond.exactly_spec (args := args) (first := s) (o := none) (s := s) (idx := []) (t := .string own k) (cls := "java/lang/String") h2
  exact ⟨a2, vk_R.of h1 q1⟩
set_option maxRecDepth 100000 in
set_option maxHeartbeats 4000000 in
theorem lw_ctx {p : Program} {s : State} {m : MethodId} {meth : Method} {c : Code} (l : Launch) (hflags : l.flags = flags0) {b L : Nat} {xs : Nat → Int32} (hL : L ≤ 2560) (C0 : lw_At p s m meth c b L xs) : ∃ (D : va_G) (ac : Nat → ClassId) (tl tg : Nat), lCx p l s m #[Value.ref b] c b L xs D ac (fun q : Nat => s.heap.size ≤ q) tl tg ∧ zNL s := by
  obtain ⟨hx, hb, hr, hml, hown, hts, hX, hbl, hlocks, hgv⟩ := id C0
  have T := lw_T hts
  have G := flat_of_before _ hgv
  have hnA : ∀ a : Nat, a < s.heap.size → ¬ (fun q : Nat => s.heap.size ≤ q) a := fun a h => Nat.not_le.mpr h
  obtain ⟨c0, iS0, hKn0⟩ := u_known (C := RX0) (T := TX0) (N := 2) (n := 2) hts inX0 (T 103 (.instantiable RX0 2) (by decide +kernel))
  obtain ⟨c1, iS1, hKn1⟩ := u_known (C := RX1) (T := TX1) (N := 3) (n := 3) hts inX1 (T 84 (.instantiable RX1 3) (by decide +kernel))
  obtain ⟨c2, iS2, hKn2⟩ := u_known (C := RX2) (T := TX2) (N := 1) (n := 1) hts inX2 (T 49 (.instantiable RX2 1) (by decide +kernel))
  obtain ⟨c3, iS3, hKn3⟩ := u_known (C := RX3) (T := TX3) (N := 2) (n := 2) hts inX3 (T 32 (.instantiable RX3 2) (by decide +kernel))
  obtain ⟨c4, iS4, hKn4⟩ := u_known (C := RX4) (T := TX4) (N := 6) (n := 6) hts inX4 (T 26 (.instantiable RX4 6) (by decide +kernel))
  obtain ⟨c5, iS5, hKn5⟩ := u_known (C := RX5) (T := TX5) (N := 4) (n := 4) hts inX5 (T 18 (.instantiable RX5 4) (by decide +kernel))
  obtain ⟨c6, iS6, hKn6⟩ := u_known (C := RX6) (T := TX6) (N := 12) (n := 12) hts inX6 (T 677 (.instantiable RX6 12) (by decide +kernel))
  obtain ⟨dC, dI, hKc⟩ : ∃ (dC : Nat → ClassId) (dI : Nat → Nat → Nat), ∀ (k : Nat) (q : vw_C), vwCl[k]? = some q → u_Kn s q.1 q.2.1 q.2.2 (dC k) (dI k) := by
    refine ⟨fun k => if k = 0 then c0 else if k = 1 then c1 else if k = 2 then c2 else if k = 3 then c3 else if k = 4 then c4 else if k = 5 then c5 else c6, fun k => if k = 0 then iS0 else if k = 1 then iS1 else if k = 2 then iS2 else if k = 3 then iS3 else if k = 4 then iS4 else if k = 5 then iS5 else iS6, ?_⟩
    intro k q hq
    match k, hq with
    | 0, hq => cases hq; exact hKn0
    | 1, hq => cases hq; exact hKn1
    | 2, hq => cases hq; exact hKn2
    | 3, hq => cases hq; exact hKn3
    | 4, hq => cases hq; exact hKn4
    | 5, hq => cases hq; exact hKn5
    | 6, hq => cases hq; exact hKn6
    | k + 7, hq => simp [vwCl] at hq
  obtain ⟨aI, haI1, haI2⟩ := z_arrI (T 46 (.arrayClass .int) (by decide +kernel))
  obtain ⟨aC, haC1, haC2⟩ := z_arrC (T 115 (.arrayClass .char) (by decide +kernel))
  obtain ⟨aL, haL1, haL2⟩ := z_arrL (T 1038 (.arrayClass .long) (by decide +kernel))
  obtain ⟨aD, haD1, haD2⟩ := z_arrD (T 1039 (.arrayClass .double) (by decide +kernel))
  obtain ⟨aJ, haJ1, haJ2⟩ := z_arrO (C := "SettlingJars$Jar") (T 48 (.arrayOver (.object "SettlingJars$Jar")) (by decide +kernel))
  obtain ⟨aS, haS1, haS2⟩ := z_arrO (C := "SettlingJars$State") (T 90 (.arrayOver (.object "SettlingJars$State")) (by decide +kernel))
  have hK : va_K (dC, dI) vwCl (zTy (fun k => if k = 0 then aI else if k = 1 then aC else if k = 2 then aJ else if k = 3 then aS else if k = 4 then aL else aD)) s := by
    refine ⟨hKc, fun k q hq => ?_⟩
    match k, hq with
    | 0, hq => cases hq; exact ⟨haI1, haI2⟩
    | 1, hq => cases hq; exact ⟨haC1, haC2⟩
    | 2, hq => cases hq; exact ⟨haJ1, haJ2⟩
    | 3, hq => cases hq; exact ⟨haS1, haS2⟩
    | 4, hq => cases hq; exact ⟨haL1, haL2⟩
    | 5, hq => cases hq; exact ⟨haD1, haD2⟩
    | k + 6, hq => simp [zTy] at hq
  obtain ⟨tl, htl1, htl2⟩ := va_Tof (args := #[Value.ref b]) (s := s) (tm := .static "SettlingJars$Settings" "LEAST" "[I") (ty := .int) (N := 4) (f := fun j => .int (qLo j)) (A := fun q : Nat => s.heap.size ≤ q) (by decide) (G (.arrayOf (.static "SettlingJars$Settings" "LEAST" "[I") .int) (by decide +kernel)) (va_eqt (G (.eq (.length (.static "SettlingJars$Settings" "LEAST" "[I")) (.int (Int32.ofNat 4))) (by decide +kernel))) (fun j hj => by
    rcases z_cases4 hj with rfl | rfl | rfl | rfl
    · exact va_eqt (z := qLo 0) (G (.eq (.elem (.static "SettlingJars$Settings" "LEAST" "[I") (.int (Int32.ofNat 0))) (.int (qLo 0))) (by decide +kernel))
    · exact va_eqt (z := qLo 1) (G (.eq (.elem (.static "SettlingJars$Settings" "LEAST" "[I") (.int (Int32.ofNat 1))) (.int (qLo 1))) (by decide +kernel))
    · exact va_eqt (z := qLo 2) (G (.eq (.elem (.static "SettlingJars$Settings" "LEAST" "[I") (.int (Int32.ofNat 2))) (.int (qLo 2))) (by decide +kernel))
    · exact va_eqt (z := qLo 3) (G (.eq (.elem (.static "SettlingJars$Settings" "LEAST" "[I") (.int (Int32.ofNat 3))) (.int (qLo 3))) (by decide +kernel))) hnA
  obtain ⟨tg, htg1, htg2⟩ := va_Tof (args := #[Value.ref b]) (s := s) (tm := .static "SettlingJars$Settings" "GREATEST" "[I") (ty := .int) (N := 4) (f := fun j => .int (qUp j)) (A := fun q : Nat => s.heap.size ≤ q) (by decide) (G (.arrayOf (.static "SettlingJars$Settings" "GREATEST" "[I") .int) (by decide +kernel)) (va_eqt (G (.eq (.length (.static "SettlingJars$Settings" "GREATEST" "[I")) (.int (Int32.ofNat 4))) (by decide +kernel))) (fun j hj => by
    rcases z_cases4 hj with rfl | rfl | rfl | rfl
    · exact va_eqt (z := qUp 0) (G (.eq (.elem (.static "SettlingJars$Settings" "GREATEST" "[I") (.int (Int32.ofNat 0))) (.int (qUp 0))) (by decide +kernel))
    · exact va_eqt (z := qUp 1) (G (.eq (.elem (.static "SettlingJars$Settings" "GREATEST" "[I") (.int (Int32.ofNat 1))) (.int (qUp 1))) (by decide +kernel))
    · exact va_eqt (z := qUp 2) (G (.eq (.elem (.static "SettlingJars$Settings" "GREATEST" "[I") (.int (Int32.ofNat 2))) (.int (qUp 2))) (by decide +kernel))
    · exact va_eqt (z := qUp 3) (G (.eq (.elem (.static "SettlingJars$Settings" "GREATEST" "[I") (.int (Int32.ofNat 3))) (.int (qUp 3))) (by decide +kernel))) hnA
  refine ⟨(dC, dI), _, tl, tg, ⟨⟨hx, hb, hml, hown, fun w h => hts w (wsL_law_in w h)⟩, hK, fun _ h => h, ⟨hX, hbl, Nat.not_le.mpr hbl, hL⟩, ?_, ⟨?_, ?_⟩, ?_, ?_, ⟨?_, ?_, htl2, htg2⟩, ?_⟩, ?_⟩
  · unfold Launch.stackTraces
    rw [hflags]
    decide
  · exact vx_Zqof (T 203 (.laysStatic Bundle.tN "UNASSIGNED_STACK" Bundle.steD) (by decide +kernel)) (T 8 (.initialized Bundle.tN) (by decide +kernel)) (G (.isRef (.static Bundle.tN "UNASSIGNED_STACK" Bundle.steD)) (by decide +kernel)) hnA
  · exact vx_Zqof (T 205 (.laysStatic Bundle.tN "SUPPRESSED_SENTINEL" Bundle.listD) (by decide +kernel)) (T 8 (.initialized Bundle.tN) (by decide +kernel)) (G (.isRef (.static Bundle.tN "SUPPRESSED_SENTINEL" Bundle.listD)) (by decide +kernel)) hnA
  · have d1 := va_Nw.of rfl (T 180 (.declares (Bundle.initS "java/lang/RuntimeException")) (by decide +kernel))
    have d2 := va_Nw.of rfl (T 182 (.declares (Bundle.initS "java/lang/Exception")) (by decide +kernel))
    have d3 := va_Nw.of rfl (T 184 (.declares (Bundle.initS Bundle.tN)) (by decide +kernel))
    exact List.forall_mem_cons.mpr ⟨⟨va_Nw.of rfl (T 301 (.castable "java/lang/IndexOutOfBoundsException" "java/lang/IndexOutOfBoundsException") (by decide +kernel)), d1, d2, d3⟩, List.forall_mem_cons.mpr ⟨⟨va_Nw.of rfl (T 178 (.castable "java/lang/IllegalArgumentException" "java/lang/IllegalArgumentException") (by decide +kernel)), d1, d2, d3⟩, List.forall_mem_cons.mpr ⟨⟨va_Nw.of rfl (T 489 (.castable "java/lang/IllegalStateException" "java/lang/IllegalStateException") (by decide +kernel)), d1, d2, d3⟩, fun _ h => absurd h List.not_mem_nil⟩⟩⟩
  · exact ⟨va_Nc.of (G (.not (.castable "java/lang/IllegalArgumentException" "java/lang/IndexOutOfBoundsException")) (by decide +kernel)), va_Nc.of (G (.not (.castable "java/lang/IllegalStateException" "java/lang/IndexOutOfBoundsException")) (by decide +kernel)), va_Nc.of (G (.not (.castable "java/lang/IllegalStateException" "java/lang/IllegalArgumentException")) (by decide +kernel))⟩
  · exact va_Zref (T 448 (.laysStatic "SettlingJars$Settings" "LEAST" "[I") (by decide +kernel)) (T 3 (.initialized "SettlingJars$Settings") (by decide +kernel)) htl1 hnA
  · exact va_Zref (T 450 (.laysStatic "SettlingJars$Settings" "GREATEST" "[I") (by decide +kernel)) (T 3 (.initialized "SettlingJars$Settings") (by decide +kernel)) htg1 hnA
  · exact List.forall_mem_cons.mpr ⟨z_str (T 531 (.stringRef RX5 102 "a jar is not poured into itself") (by decide +kernel)) (G (.exactly (.string RX5 102) "java/lang/String") (by decide +kernel)), List.forall_mem_cons.mpr ⟨z_str (T 556 (.stringRef RX5 126 "no more steps are left") (by decide +kernel)) (G (.exactly (.string RX5 126) "java/lang/String") (by decide +kernel)), List.forall_mem_cons.mpr ⟨z_str (T 573 (.stringRef RX5 140 "the buffer is full") (by decide +kernel)) (G (.exactly (.string RX5 140) "java/lang/String") (by decide +kernel)), List.forall_mem_cons.mpr ⟨z_str (T 589 (.stringRef RX5 159 "the buffer is not a complete charge") (by decide +kernel)) (G (.exactly (.string RX5 159) "java/lang/String") (by decide +kernel)), List.forall_mem_cons.mpr ⟨z_str (T 611 (.stringRef RX5 175 "there is no saved state") (by decide +kernel)) (G (.exactly (.string RX5 175) "java/lang/String") (by decide +kernel)), List.forall_mem_cons.mpr ⟨z_str (T 308 (.stringRef RX5 255 "there is no such jar, slice, class or setting") (by decide +kernel)) (G (.exactly (.string RX5 255) "java/lang/String") (by decide +kernel)), List.forall_mem_cons.mpr ⟨z_str (T 217 (.stringRef RX5 258 "an argument is out of range") (by decide +kernel)) (G (.exactly (.string RX5 258) "java/lang/String") (by decide +kernel)), List.forall_mem_cons.mpr ⟨z_str (T 496 (.stringRef RX5 260 "the jar would hold too many grains") (by decide +kernel)) (G (.exactly (.string RX5 260) "java/lang/String") (by decide +kernel)), fun _ h => absurd h List.not_mem_nil⟩⟩⟩⟩⟩⟩⟩⟩
  · exact ⟨⟨va_Nw.of rfl (T 33 (.methodLinkNest RX4 11 yX3_init "SettlingJars") (by decide +kernel)), va_Nw.of rfl (T 50 (.methodLinkNest RX4 31 yX2_init "SettlingJars") (by decide +kernel)), va_Nw.of rfl (T 104 (.methodLinkNest RX5 25 yX0_init "SettlingJars") (by decide +kernel)), va_Nw.of rfl (T 117 (.methodLinkNest RX5 32 yX2_init "SettlingJars") (by decide +kernel))⟩, va_AO.of (T 48 (.arrayOver (.object "SettlingJars$Jar")) (by decide +kernel)), va_AO.of (T 90 (.arrayOver (.object "SettlingJars$State")) (by decide +kernel))⟩
theorem zI0_good : mGood zI0 := by
  have e0 : (0 : Int32).toInt = 0 := by decide
  refine ⟨fun k hk => by rw [zI0_no (Or.inl hk)]; decide, fun j hj => ?_, by decide, by decide, by decide, by decide, fun c hc => by rcases z_cases4 hc with rfl | rfl | rfl | rfl <;> decide, by decide⟩
  have e : fb_si (fun k => (zI0 (48 * j + k)).toInt) 48 = fb_si (fun _ => 0) 48 := fb_si_cong (fun k hk => by rw [zI0_no (Or.inl (by omega))]; exact e0)
  rw [e]
  decide
section ZNW
variable {p : Program} {l : Launch} {e : Env} {R : Room} {s : State} {m : MethodId} {args : Array Value} {below : List Frame} {meth : Method} {c : Code} {H H0 : Heap} {locs : List Loc} {cells slots : Nat} {Q : State → Prop}
variable {pc : Nat} {ls : Array Slot} {rest st0 : List Value} {cc : ByteArray} {D : va_G} {ac : Nat → ClassId} {w : va_W} {A : Nat → Prop}
theorem z_newL (hx : p.tables.exec = Jvm.exec) (hb : c.code = cc) (harr : (Cond.arrayClass .long).before args s = true) (hK : va_K D vwCl (zTy ac) s) (hP : va_P D vwCl w H) (hD : va_D A w) (hS : va_S A H0 H locs) (hA : ∀ q, H0.size ≤ q → A q) {n : Int32} {N : Nat} (hn : n = nI N) (hN : N < 2 ^ 20) (hcells : cells + 1 ≤ R.cells) (hslots : slots + N ≤ R.slots) (hdg : decode cc pc = .ok (.newarray .long, 2))
    (kk : ∀ (q : Nat) (H1 : Heap), va_P D vwCl (w ++ [(q, .inl (ac 4, N, .inr (.inl (fun _ => 0))))]) H1 → va_D A (w ++ [(q, .inl (ac 4, N, .inr (.inl (fun _ => 0))))]) → va_S A H0 H1 locs → W p l e R s m args below meth c H1 locs (cells + 1) (slots + N) Q (F0 m (pc + 2) ls (.ref q :: rest))) : W p l e R s m args below meth c H locs cells slots Q (F0 m pc ls (.int n :: rest)) := by
  subst hn
  refine va_newa (atype := .long) hx hb harr (ty := .long) rfl hK hP hD hS hA (N' := N) (a0 := (N, .inr (.inl (fun _ => 0)))) (fun cA => by rw [vp_cell_l]; rfl) (nI_pos (by omega)) (nI_clamp (by omega)) (by show N * 8 ≤ 536870912; omega) hcells hslots hdg (fun q cA H1 hK1 hP1 hD1 hS1 => ?_)
  have h1 : s.vm.findClass ("[" ++ FieldType.long.toString) = some cA := (hK1.2 6 (cA, .long) rfl).2
  have h0 : s.vm.findClass ("[" ++ FieldType.long.toString) = some (ac 4) := (hK.2 4 (ac 4, .long) rfl).2
  have e : cA = ac 4 := Option.some.inj (h1.symm.trans h0)
  subst e
  exact kk q H1 hP1 hD1 hS1
theorem z_newD (hx : p.tables.exec = Jvm.exec) (hb : c.code = cc) (harr : (Cond.arrayClass .double).before args s = true) (hK : va_K D vwCl (zTy ac) s) (hP : va_P D vwCl w H) (hD : va_D A w) (hS : va_S A H0 H locs) (hA : ∀ q, H0.size ≤ q → A q) {n : Int32} {N : Nat} (hn : n = nI N) (hN : N < 2 ^ 20) (hcells : cells + 1 ≤ R.cells) (hslots : slots + N ≤ R.slots) (hdg : decode cc pc = .ok (.newarray .double, 2))
    (kk : ∀ (q : Nat) (H1 : Heap), va_P D vwCl (w ++ [(q, .inl (ac 5, N, .inr (.inr (.inr (.inl (fun _ => 0))))))]) H1 → va_D A (w ++ [(q, .inl (ac 5, N, .inr (.inr (.inr (.inl (fun _ => 0))))))]) → va_S A H0 H1 locs → W p l e R s m args below meth c H1 locs (cells + 1) (slots + N) Q (F0 m (pc + 2) ls (.ref q :: rest))) : W p l e R s m args below meth c H locs cells slots Q (F0 m pc ls (.int n :: rest)) := by
  subst hn
  refine va_newa (atype := .double) hx hb harr (ty := .double) rfl hK hP hD hS hA (N' := N) (a0 := (N, .inr (.inr (.inr (.inl (fun _ => 0)))))) (fun cA => by rw [vp_cell_d]; rfl) (nI_pos (by omega)) (nI_clamp (by omega)) (by show N * 8 ≤ 536870912; omega) hcells hslots hdg (fun q cA H1 hK1 hP1 hD1 hS1 => ?_)
  have h1 : s.vm.findClass ("[" ++ FieldType.double.toString) = some cA := (hK1.2 6 (cA, .double) rfl).2
  have h0 : s.vm.findClass ("[" ++ FieldType.double.toString) = some (ac 5) := (hK.2 5 (ac 5, .double) rfl).2
  have e : cA = ac 5 := Option.some.inj (h1.symm.trans h0)
  subst e
  exact kk q H1 hP1 hD1 hS1
end ZNW
set_option maxRecDepth 100000 in
set_option maxHeartbeats 4000000 in
/-- from the entry, for every script of at most 2560 ints, the law comes to its end with true -/
theorem whole_start {p : Program} {e : Env} {s : State} {m : MethodId} {below : List Frame} {meth : Method} {c : Code} (l : Launch) (hflags : l.flags = flags0) {b L : Nat} {xs : Nat → Int32} (hL : L ≤ 2560) (C0 : lw_At p s m meth c b L xs) : W p l e room_1 s m #[Value.ref b] below meth c s.heap [] 0 0 (lw_Z below #[Value.ref b] s) (entryFrame m ([Value.ref b] : List Value).toArray 9) := by
  obtain ⟨hx, hb, hr, hml, hown, hts, hX, hbl, hlocks, hgv⟩ := id C0
  have hd0 := Drawn.sameBut.refl s.drawn lw_cs
  obtain ⟨D, ac, tl, tg, C, hN⟩ := lw_ctx l hflags hL C0
  obtain ⟨A, hAe⟩ : ∃ A : Nat → Prop, A = fun q : Nat => s.heap.size ≤ q := ⟨_, rfl⟩
  rw [← hAe] at C
  have hA : ∀ q : Nat, s.heap.size ≤ q → A q := C.2.2.1
  have hK := C.2.1
  have T := lw_T hts
  have htsL := C.1.2.2.2.2
  have hS : va_S A s.heap s.heap [] := va_S.rf
  have hP : va_P D vwCl [] s.heap := fun k q h => by simp at h
  have hD : va_D A [] := ⟨fun i j p q h => by simp at h, fun k q h => by simp at h⟩
  have hl := lv_entry ([.ref b]) (n := 9) (Nat.le_of_ble_eq_true rfl)
  rw [lg_entry_eq]
  generalize (lg_sl ([.ref b]) ++ List.replicate (9 - (lg_sl ([.ref b])).length) Slot.unset).toArray = ls at hl ⊢
  have hl : lv_has ls 9 [(0, .ref b)] := hl
  refine va_new (ci := 5) (fs := [.null, .null, .null, .null]) (C := RX5) (T := TX5) (N := 4) hx hb htsL inlX5 tyX5 tyX5_ok hown (T 17 (.classLink RL 8 RX5) (by decide +kernel)) (T 18 (.instantiable RX5 4) (by decide +kernel)) (T 1 (.initialized RX5) (by decide +kernel)) hK hP hD hS hA rfl (fun j hj => by rcases z_cases4 hj with rfl | rfl | rfl | rfl <;> rfl) (Nat.le_of_ble_eq_true rfl) (Nat.le_of_ble_eq_true rfl) dL_law_0 (fun x0 H hP hD hS => ?_)
  refine lv_dup hx hb dL_law_3 rfl ?_
  refine z_ctor (w := []) (va_runI (As := []) (rest := [.ref x0]) ⟨hx, hb, hml, hown, htsL⟩ (metX5_init l D ac _ x0) (cwI 0 htsL gL_law_X5_init rfl rfl rfl (T 1 (.initialized RX5) (by decide +kernel)) (T 19 (.methodLink RL 87 yX5_init) (by decide +kernel)) (htsL (.instanceMethod yX5_init) (by decide +kernel)) rfl (by decide +kernel) ⟨Nat.le_of_ble_eq_true rfl, Nat.le_of_ble_eq_true rfl⟩) (z_preCN hN hK hP hD) rfl rfl hl.1 rfl (lv_room (Nat.le_of_ble_eq_true rfl)) dL_law_4 ⟨Nat.le_of_ble_eq_true rfl, Nat.le_of_ble_eq_true rfl⟩) hP hD hS hA (fun u5 H locs hP hD hS => ?_)
  obtain ⟨n, aa, au⟩ := u5
  refine lv_astore_n (lv' := [(1, .ref x0), (0, .ref b)]) hx hb dL_law_7 rfl hl (by decide) rfl (fun ls hl => ?_)
  refine va_new (ci := 6) (fs := [.int 0, .null, .int 0, .null, .int 0, .null, .null, .int 0, .int 0, .int 0, .null, .long 0]) (C := RX6) (T := TX6) (N := 12) hx hb htsL inlX6 tyX6 tyX6_ok hown (T 676 (.classLink RL 88 RX6) (by decide +kernel)) (T 677 (.instantiable RX6 12) (by decide +kernel)) (T 7 (.initialized RX6) (by decide +kernel)) hK hP hD hS hA rfl (fun j hj => by rcases (show j = 0 ∨ j = 1 ∨ j = 2 ∨ j = 3 ∨ j = 4 ∨ j = 5 ∨ j = 6 ∨ j = 7 ∨ j = 8 ∨ j = 9 ∨ j = 10 ∨ j = 11 by omega) with rfl | rfl | rfl | rfl | rfl | rfl | rfl | rfl | rfl | rfl | rfl | rfl <;> rfl) (Nat.le_of_ble_eq_true rfl) (Nat.le_of_ble_eq_true rfl) dL_law_8 (fun m0 H hP hD hS => ?_)
  refine lv_dup hx hb dL_law_11 rfl ?_
  refine z_ctor (va_runI (As := []) (rest := [.ref m0]) ⟨hx, hb, hml, hown, htsL⟩ (metX6_init l D ac _ m0) (cwI 0 htsL gL_law_X6_init rfl rfl rfl (T 7 (.initialized RX6) (by decide +kernel)) (T 678 (.methodLink RL 90 yX6_init) (by decide +kernel)) (htsL (.instanceMethod yX6_init) (by decide +kernel)) rfl (by decide +kernel) ⟨Nat.le_of_ble_eq_true rfl, Nat.le_of_ble_eq_true rfl⟩) (z_preC hK hP hD) rfl rfl hl.1 rfl (lv_room (Nat.le_of_ble_eq_true rfl)) dL_law_12 ⟨Nat.le_of_ble_eq_true rfl, Nat.le_of_ble_eq_true rfl⟩) hP hD hS hA (fun u6 H locs hP hD hS => ?_)
  refine lv_astore_n (lv' := [(2, .ref m0), (1, .ref x0), (0, .ref b)]) hx hb dL_law_15 rfl hl (by decide) rfl (fun ls hl => ?_)
  refine lv_iconst (v := 1) hx hb dL_law_16 (by decide) ?_
  refine z_newL hx hb (T 1038 (.arrayClass .long) (by decide +kernel)) hK hP hD hS hA (N := 1) rfl (by decide) (Nat.le_of_ble_eq_true rfl) (Nat.le_of_ble_eq_true rfl) dL_law_17 (fun ou H hP hD hS => ?_)
  refine lv_astore_n (lv' := [(3, .ref ou), (2, .ref m0), (1, .ref x0), (0, .ref b)]) hx hb dL_law_19 rfl hl (by decide) rfl (fun ls hl => ?_)
  refine lv_iconst (v := 1) hx hb dL_law_20 (by decide) ?_
  refine z_newD hx hb (T 1039 (.arrayClass .double) (by decide +kernel)) hK hP hD hS hA (N := 1) rfl (by decide) (Nat.le_of_ble_eq_true rfl) (Nat.le_of_ble_eq_true rfl) dL_law_21 (fun oD H hP hD hS => ?_)
  refine lv_astore (lv' := [(4, .ref oD), (3, .ref ou), (2, .ref m0), (1, .ref x0), (0, .ref b)]) hx hb dL_law_23 hl (by decide) rfl (fun ls hl => ?_)
  refine lv_iconst (v := nI 0) hx hb dL_law_25 (by decide) ?_
  refine lv_istore (lv' := [(5, .int (nI 0)), (4, .ref oD), (3, .ref ou), (2, .ref m0), (1, .ref x0), (0, .ref b)]) hx hb dL_law_26 hl (by decide) rfl (fun ls hl => ?_)
  obtain ⟨ad, had⟩ : ∃ ad : Nat → Nat, ad = lU [x0, au 1, au 2, au 3, au 4, au 5, au 6, ou, oD, m0, u6 0, u6 1, u6 2, u6 3, u6 4] := ⟨_, rfl⟩
  have hP1 : va_P D vwCl (lW ac (lU [x0, au 1, au 2, au 3, au 4, au 5, au 6, ou, oD, m0, u6 0, u6 1, u6 2, u6 3, u6 4]) n (fun i => if i < 6 then some (aa i 0) else none) 0 0 0 (fun _ => 0) (fun _ => 0) (fun _ => 0) (fun _ => 0) 0 0 0 0 0 zI0 (fun _ => 0) (fun _ => 0) (fun _ => 0) ++ (List.range 6).flatMap (fun i => lB ac (aa i) zI0)) H := hP.sub [0, 14, 15, 94, 95, 96, 97, 1, 2, 3, 4, 5, 6, 7, 8, 9, 10, 11, 12, 13, 104, 105, 98, 99, 100, 101, 102, 103, 16, 17, 18, 19, 20, 21, 22, 23, 24, 25, 26, 27, 28, 29, 30, 31, 32, 33, 34, 35, 36, 37, 38, 39, 40, 41, 42, 43, 44, 45, 46, 47, 48, 49, 50, 51, 52, 53, 54, 55, 56, 57, 58, 59, 60, 61, 62, 63, 64, 65, 66, 67, 68, 69, 70, 71, 72, 73, 74, 75, 76, 77, 78, 79, 80, 81, 82, 83, 84, 85, 86, 87, 88, 89, 90, 91, 92, 93] rfl
  have hD1 : va_D A (lW ac (lU [x0, au 1, au 2, au 3, au 4, au 5, au 6, ou, oD, m0, u6 0, u6 1, u6 2, u6 3, u6 4]) n (fun i => if i < 6 then some (aa i 0) else none) 0 0 0 (fun _ => 0) (fun _ => 0) (fun _ => 0) (fun _ => 0) 0 0 0 0 0 zI0 (fun _ => 0) (fun _ => 0) (fun _ => 0) ++ (List.range 6).flatMap (fun i => lB ac (aa i) zI0)) := hD.sub [0, 14, 15, 94, 95, 96, 97, 1, 2, 3, 4, 5, 6, 7, 8, 9, 10, 11, 12, 13, 104, 105, 98, 99, 100, 101, 102, 103, 16, 17, 18, 19, 20, 21, 22, 23, 24, 25, 26, 27, 28, 29, 30, 31, 32, 33, 34, 35, 36, 37, 38, 39, 40, 41, 42, 43, 44, 45, 46, 47, 48, 49, 50, 51, 52, 53, 54, 55, 56, 57, 58, 59, 60, 61, 62, 63, 64, 65, 66, 67, 68, 69, 70, 71, 72, 73, 74, 75, 76, 77, 78, 79, 80, 81, 82, 83, 84, 85, 86, 87, 88, 89, 90, 91, 92, 93] (by decide +kernel) rfl
  rw [← had] at hP1 hD1
  have hpm := List.Perm.append_left (lW ac ad n (fun i => if i < 6 then some (aa i 0) else none) 0 0 0 (fun _ => 0) (fun _ => 0) (fun _ => 0) (fun _ => 0) 0 0 0 0 0 zI0 (fun _ => 0) (fun _ => 0) (fun _ => 0)) (lR_perm ac aa (fun _ => zI0) (r := 0) (by decide))
  have hV : lV D ac A ad n (fun i => if i < 6 then some (aa i 0) else none) aa s.heap H locs := ⟨zI0, fun _ => 0, fun _ => 0, fun _ => zI0, 0, 0, 0, 0, zI0_good, fun _ _ => zI0_good, fun i hi => absurd hi (Nat.not_lt_zero i), by decide, by decide, by decide, by decide, fun _ => 0, fun _ => 0, fun _ => 0, fun _ => 0, fun _ => 0, 0, 0, 0, 0, 0, z_Pperm hpm hP1, z_Dperm hpm hD1, hS⟩
  have hl2 : lv_has ls 9 (lv0 b ad (5 * 0)) := by
    subst had
    exact lv_sub hl [5, 4, 3, 2, 1, 0] rfl
  refine W.widen (k := 106 + 0) (n := 2775 + 6 * 0) (Nat.le_of_ble_eq_true rfl) (Nat.le_of_ble_eq_true rfl) ?_
  exact law_loop C (fun q hq => if_pos hq) (K0 := 106) (S0 := 2775) (Nat.le_of_ble_eq_true rfl) (Nat.le_of_ble_eq_true rfl) (fun H locs ls hS => va_forget (fun q hq => by have h9 := hS.2.2 q hq; rw [hAe] at h9; exact h9) (lw_ret hd0 hx hb hr hlocks dL_law_1700)) 513 0 rfl H locs ls hV hl2
