/-! the world of the law -/
def lF (ac : Nat → ClassId) (ad n : Nat → Nat) (hf : Nat → Option Nat) (od sz ln : Nat) (tx gs v w ga gb gc pd dr : Nat → Int32) (tp fl : Int32) (of : Nat → Int64) (og : Nat → UInt64) (th : Int32) (sv lm stp po : Nat) (tl : Int32) (hh : Int64) (z sd tm az rd : Nat → Int32) : va_W :=
  [(ad 0, .inr (5, [.ref (n 0), .ref (ad 1), .ref (ad 3), .ref (ad 5)])), (ad 1, .inr (1, [.ref (ad 2), .int (nI od), .int (nI sz)])), (ad 2, .inl (ac 3, 6, .inr (.inr (.inr (.inr hf))))),
   (ad 3, .inr (0, [.ref (ad 4), .int (nI ln)])), (ad 4, .inl (ac 1, 60, .inl tx)), (ad 5, .inr (2, [.ref (ad 6)])), (ad 6, .inl (ac 0, 48, .inl gs)),
   (n 0, .inr (4, [.ref (n 1), .ref (n 4), .ref (n 11), .ref (n 12), .int tp, .int fl])), (n 1, .inr (3, [.ref (n 2), .ref (n 3)])), (n 2, .inl (ac 0, 4, .inl v)), (n 3, .inl (ac 0, 4, .inl w)),
   (n 4, .inl (ac 2, 3, .inr (.inr (.inr (.inr (zJ3 (n 5) (n 6) (n 7))))))), (n 5, .inr (2, [.ref (n 8)])), (n 8, .inl (ac 0, 48, .inl ga)), (n 6, .inr (2, [.ref (n 9)])), (n 9, .inl (ac 0, 48, .inl gb)), (n 7, .inr (2, [.ref (n 10)])), (n 10, .inl (ac 0, 48, .inl gc)), (n 11, .inl (ac 0, 4, .inl pd)), (n 12, .inl (ac 0, 4, .inl dr)),
   (ad 7, .inl (ac 4, 1, .inr (.inl of))), (ad 8, .inl (ac 5, 1, .inr (.inr (.inr (.inl og))))),
   (ad 9, .inr (6, [.int th, .ref (ad 10), .int (nI sv), .ref (ad 11), .int (nI lm), .ref (ad 12), .ref (ad 13), .int (nI stp), .int (nI po), .int tl, .ref (ad 14), .long hh])), (ad 10, .inl (ac 0, 162, .inl z)), (ad 11, .inl (ac 0, 972, .inl sd)), (ad 12, .inl (ac 0, 60, .inl tm)), (ad 13, .inl (ac 0, 162, .inl az)), (ad 14, .inl (ac 0, 63, .inl rd))]
/-- a saved state -/
def lA (ac : Nat → ClassId) (a : Nat → Nat) (v w ga gb gc pd dr : Nat → Int32) (tp fl : Int32) : va_W :=
  [(a 0, .inr (4, [.ref (a 1), .ref (a 4), .ref (a 11), .ref (a 12), .int tp, .int fl])), (a 1, .inr (3, [.ref (a 2), .ref (a 3)])), (a 2, .inl (ac 0, 4, .inl v)), (a 3, .inl (ac 0, 4, .inl w)),
   (a 4, .inl (ac 2, 3, .inr (.inr (.inr (.inr (zJ3 (a 5) (a 6) (a 7))))))), (a 5, .inr (2, [.ref (a 8)])), (a 8, .inl (ac 0, 48, .inl ga)), (a 6, .inr (2, [.ref (a 9)])), (a 9, .inl (ac 0, 48, .inl gb)), (a 7, .inr (2, [.ref (a 10)])), (a 10, .inl (ac 0, 48, .inl gc)), (a 11, .inl (ac 0, 4, .inl pd)), (a 12, .inl (ac 0, 4, .inl dr))]
def lB (ac : Nat → ClassId) (a : Nat → Nat) (z : Nat → Int32) : va_W := lA ac a (cV z) (cW z) (qV z 0) (qV z 1) (qV z 2) (cP z) (cR z) (z 160) (z 161)
/-- at the loop's head: the class's state is the reference's row -/
def lW (ac : Nat → ClassId) (ad n : Nat → Nat) (hf : Nat → Option Nat) (od sv ln : Nat) (tx gs : Nat → Int32) (of : Nat → Int64) (og : Nat → UInt64) (th : Int32) (stp po : Nat) (tl : Int32) (hh : Int64) (z sd az rd : Nat → Int32) : va_W :=
  lF ac ad n hf od sv ln tx gs (cV z) (cW z) (qV z 0) (qV z 1) (qV z 2) (cP z) (cR z) (z 160) (z 161) of og th sv ln stp po tl hh z sd tx az rd
theorem lF_fst {ac : Nat → ClassId} {ad n : Nat → Nat} {hf hf2 : Nat → Option Nat} {od sz ln od2 sz2 ln2 : Nat} {tx gs v w ga gb gc pd dr tx2 gs2 v2 w2 ga2 gb2 gc2 pd2 dr2 : Nat → Int32} {tp fl tp2 fl2 : Int32} {of of2 : Nat → Int64} {og og2 : Nat → UInt64} {th th2 : Int32} {sv lm stp po sv2 lm2 stp2 po2 : Nat} {tl tl2 : Int32} {hh hh2 : Int64} {z sd tm az rd z2 sd2 tm2 az2 rd2 : Nat → Int32} :
    (lF ac ad n hf od sz ln tx gs v w ga gb gc pd dr tp fl of og th sv lm stp po tl hh z sd tm az rd).map Prod.fst = (lF ac ad n hf2 od2 sz2 ln2 tx2 gs2 v2 w2 ga2 gb2 gc2 pd2 dr2 tp2 fl2 of2 og2 th2 sv2 lm2 stp2 po2 tl2 hh2 z2 sd2 tm2 az2 rd2).map Prod.fst := rfl
theorem lA_fst {ac : Nat → ClassId} {a : Nat → Nat} {v w ga gb gc pd dr v2 w2 ga2 gb2 gc2 pd2 dr2 : Nat → Int32} {tp fl tp2 fl2 : Int32} : (lA ac a v w ga gb gc pd dr tp fl).map Prod.fst = (lA ac a v2 w2 ga2 gb2 gc2 pd2 dr2 tp2 fl2).map Prod.fst := rfl
theorem lFA_fst {ac : Nat → ClassId} {ad n a : Nat → Nat} {hf hf2 : Nat → Option Nat} {od sz ln od2 sz2 ln2 : Nat} {tx gs v w ga gb gc pd dr tx2 gs2 v2 w2 ga2 gb2 gc2 pd2 dr2 : Nat → Int32} {tp fl tp2 fl2 : Int32} {of of2 : Nat → Int64} {og og2 : Nat → UInt64} {th th2 : Int32} {sv lm stp po sv2 lm2 stp2 po2 : Nat} {tl tl2 : Int32} {hh hh2 : Int64} {z sd tm az rd z2 sd2 tm2 az2 rd2 v3 w3 ga3 gb3 gc3 pd3 dr3 v4 w4 ga4 gb4 gc4 pd4 dr4 : Nat → Int32} {tp3 fl3 tp4 fl4 : Int32} :
    (lF ac ad n hf od sz ln tx gs v w ga gb gc pd dr tp fl of og th sv lm stp po tl hh z sd tm az rd ++ lA ac a v3 w3 ga3 gb3 gc3 pd3 dr3 tp3 fl3).map Prod.fst = (lF ac ad n hf2 od2 sz2 ln2 tx2 gs2 v2 w2 ga2 gb2 gc2 pd2 dr2 tp2 fl2 of2 og2 th2 sv2 lm2 stp2 po2 tl2 hh2 z2 sd2 tm2 az2 rd2 ++ lA ac a v4 w4 ga4 gb4 gc4 pd4 dr4 tp4 fl4).map Prod.fst := rfl
def vEq (v w ga gb gc pd dr : Nat → Int32) (tp fl : Int32) (y : Nat → Int32) : Prop :=
  (∀ k, k < 4 → v k = cV y k) ∧ (∀ k, k < 4 → w k = cW y k) ∧ (∀ k, k < 48 → ga k = qV y 0 k) ∧ (∀ k, k < 48 → gb k = qV y 1 k) ∧ (∀ k, k < 48 → gc k = qV y 2 k) ∧ (∀ k, k < 4 → pd k = cP y k) ∧ (∀ k, k < 4 → dr k = cR y k) ∧ tp = y 160 ∧ fl = y 161
/-- contents that are alike on their range -/
theorem lF_view {D : va_G} {ac : Nat → ClassId} {ad n : Nat → Nat} {hf : Nat → Option Nat} {od sz ln : Nat} {tx gs v w ga gb gc pd dr : Nat → Int32} {tp fl : Int32} {of : Nat → Int64} {og : Nat → UInt64} {th : Int32} {sv lm stp po : Nat} {tl : Int32} {hh : Int64} {z sd tm az rd y : Nat → Int32} {wr : va_W} {H : Heap} (h : vEq v w ga gb gc pd dr tp fl y)
    (hP : va_P D vwCl (lF ac ad n hf od sz ln tx gs v w ga gb gc pd dr tp fl of og th sv lm stp po tl hh z sd tm az rd ++ wr) H) :
    va_P D vwCl (lF ac ad n hf od sz ln tx gs (cV y) (cW y) (qV y 0) (qV y 1) (qV y 2) (cP y) (cR y) (y 160) (y 161) of og th sv lm stp po tl hh z sd tm az rd ++ wr) H := by
  obtain ⟨h1, h2, h3, h4, h5, h6, h7, rfl, rfl⟩ := h
  have hQ := z_Pl hP
  have a1 : va_P D vwCl (lF ac ad n hf od sz ln tx gs (cV y) w ga gb gc pd dr (y 160) (y 161) of og th sv lm stp po tl hh z sd tm az rd) H := z_pext 9 rfl h1 hQ
  have a2 : va_P D vwCl (lF ac ad n hf od sz ln tx gs (cV y) (cW y) ga gb gc pd dr (y 160) (y 161) of og th sv lm stp po tl hh z sd tm az rd) H := z_pext 10 rfl h2 a1
  have a3 : va_P D vwCl (lF ac ad n hf od sz ln tx gs (cV y) (cW y) (qV y 0) gb gc pd dr (y 160) (y 161) of og th sv lm stp po tl hh z sd tm az rd) H := z_pext 13 rfl h3 a2
  have a4 : va_P D vwCl (lF ac ad n hf od sz ln tx gs (cV y) (cW y) (qV y 0) (qV y 1) gc pd dr (y 160) (y 161) of og th sv lm stp po tl hh z sd tm az rd) H := z_pext 15 rfl h4 a3
  have a5 : va_P D vwCl (lF ac ad n hf od sz ln tx gs (cV y) (cW y) (qV y 0) (qV y 1) (qV y 2) pd dr (y 160) (y 161) of og th sv lm stp po tl hh z sd tm az rd) H := z_pext 17 rfl h5 a4
  have a6 : va_P D vwCl (lF ac ad n hf od sz ln tx gs (cV y) (cW y) (qV y 0) (qV y 1) (qV y 2) (cP y) dr (y 160) (y 161) of og th sv lm stp po tl hh z sd tm az rd) H := z_pext 18 rfl h6 a5
  have a7 : va_P D vwCl (lF ac ad n hf od sz ln tx gs (cV y) (cW y) (qV y 0) (qV y 1) (qV y 2) (cP y) (cR y) (y 160) (y 161) of og th sv lm stp po tl hh z sd tm az rd) H := z_pext 19 rfl h7 a6
  exact z_Papp a7 (z_Pr hP)
/-- what the loop keeps: the world with its changing numbers, some of no account -/
def lI (D : va_G) (ac : Nat → ClassId) (A : Nat → Prop) (ad n : Nat → Nat) (hf : Nat → Option Nat) (H0 : Heap) (wr : va_W) (od sv ln : Nat) (z sd tx : Nat → Int32) (H : Heap) (locs : List Loc) : Prop :=
  ∃ (gs az rd : Nat → Int32) (of : Nat → Int64) (og : Nat → UInt64) (th tl : Int32) (stp po : Nat) (hh : Int64), va_P D vwCl (lW ac ad n hf od sv ln tx gs of og th stp po tl hh z sd az rd ++ wr) H ∧ va_D A (lW ac ad n hf od sv ln tx gs of og th stp po tl hh z sd az rd ++ wr) ∧ va_S A H0 H locs
abbrev lv0 (b : Nat) (ad : Nat → Nat) (i : Nat) : List (Nat × Value) := [(0, .ref b), (1, .ref (ad 0)), (2, .ref (ad 9)), (3, .ref (ad 7)), (4, .ref (ad 8)), (5, .int (nI i))]
theorem lI_mk {D : va_G} {ac : Nat → ClassId} {A : Nat → Prop} {ad n : Nat → Nat} {hf : Nat → Option Nat} {H0 : Heap} {wr : va_W} {od sv ln : Nat} {z sd tx : Nat → Int32} {H : Heap} {locs : List Loc} {gs v w ga gb gc pd dr az rd : Nat → Int32} {tp fl : Int32} {of : Nat → Int64} {og : Nat → UInt64} {th tl : Int32} {stp po : Nat} {hh : Int64} (h : vEq v w ga gb gc pd dr tp fl z)
    (hP : va_P D vwCl (lF ac ad n hf od sv ln tx gs v w ga gb gc pd dr tp fl of og th sv ln stp po tl hh z sd tx az rd ++ wr) H) (hD : va_D A (lF ac ad n hf od sv ln tx gs v w ga gb gc pd dr tp fl of og th sv ln stp po tl hh z sd tx az rd ++ wr)) (hS : va_S A H0 H locs) : lI D ac A ad n hf H0 wr od sv ln z sd tx H locs :=
  ⟨gs, az, rd, of, og, th, tl, stp, po, hh, lF_view h hP, z_Dfst (by rw [List.map_append, List.map_append]; exact congrArg (fun x => x ++ wr.map Prod.fst) lF_fst) hD, hS⟩
theorem vEq_refl (z : Nat → Int32) : vEq (cV z) (cW z) (qV z 0) (qV z 1) (qV z 2) (cP z) (cR z) (z 160) (z 161) z := ⟨fun _ _ => rfl, fun _ _ => rfl, fun _ _ => rfl, fun _ _ => rfl, fun _ _ => rfl, fun _ _ => rfl, fun _ _ => rfl, rfl, rfl⟩
/-- the ring but its state r -/
def lR (ac : Nat → ClassId) (aa : Nat → Nat → Nat) (Z : Nat → Nat → Int32) (r : Nat) : va_W := ((List.range 6).erase r).flatMap (fun i => lB ac (aa i) (Z i))
theorem z_Pperm {D : va_G} {cl : List vw_C} {w w2 : va_W} {H : Heap} (h : w.Perm w2) (hP : va_P D cl w H) : va_P D cl w2 H := fun k q hk => by
  obtain ⟨j, hj⟩ := List.mem_iff_getElem?.mp (h.mem_iff.mpr (List.mem_of_getElem? hk))
  exact hP j q hj
theorem z_Dpair {A : Nat → Prop} {w : va_W} : va_D A w ↔ (w.Pairwise (fun p q => p.1 ≠ q.1) ∧ ∀ q ∈ w, A q.1) := by
  constructor
  · intro h
    refine ⟨List.pairwise_iff_getElem.mpr (fun i j hi hj hij e => ?_), fun q hq => ?_⟩
    · have h1 := h.1 i j w[i] w[j] (List.getElem?_eq_getElem hi) (List.getElem?_eq_getElem hj) e
      omega
    · obtain ⟨k, hk⟩ := List.mem_iff_getElem?.mp hq
      exact h.2 k q hk
  · intro h
    have key : ∀ (i j : Nat) (p q : Nat × va_E), i < j → w[i]? = some p → w[j]? = some q → p.1 ≠ q.1 := by
      intro i j p q hij hi hj
      obtain ⟨a1, a2⟩ := List.getElem?_eq_some_iff.mp hi
      obtain ⟨b1, b2⟩ := List.getElem?_eq_some_iff.mp hj
      have := List.pairwise_iff_getElem.mp h.1 i j a1 b1 hij
      rw [a2, b2] at this
      exact this
    refine ⟨fun i j p q hi hj e => ?_, fun k q hk => h.2 q (List.mem_of_getElem? hk)⟩
    rcases Nat.lt_trichotomy i j with c | c | c
    · exact absurd e (key i j p q c hi hj)
    · exact c
    · exact absurd e.symm (key j i q p c hj hi)
theorem z_Dperm {A : Nat → Prop} {w w2 : va_W} (h : w.Perm w2) (hD : va_D A w) : va_D A w2 := by
  obtain ⟨h1, h2⟩ := z_Dpair.mp hD
  exact z_Dpair.mpr ⟨(h.pairwise_iff (fun {x y} (q : x.1 ≠ y.1) => fun e => q e.symm)).mp h1, fun q hq => h2 q (h.mem_iff.mpr hq)⟩
theorem lR_perm (ac : Nat → ClassId) (aa : Nat → Nat → Nat) (Z : Nat → Nat → Int32) {r : Nat} (hr : r < 6) : ((List.range 6).flatMap (fun i => lB ac (aa i) (Z i))).Perm (lB ac (aa r) (Z r) ++ lR ac aa Z r) := by
  have h : (List.range 6).Perm (r :: (List.range 6).erase r) := List.perm_cons_erase (List.mem_range.mpr hr)
  exact h.flatMap_right (fun i => lB ac (aa i) (Z i))
/-- another state of the ring at the front -/
theorem lR_front {ac : Nat → ClassId} {aa : Nat → Nat → Nat} {Z : Nat → Nat → Int32} {r t : Nat} (hr : r < 6) (ht : t < 6) : (lB ac (aa r) (Z r) ++ lR ac aa Z r).Perm (lB ac (aa t) (Z t) ++ lR ac aa Z t) := (lR_perm ac aa Z hr).symm.trans (lR_perm ac aa Z ht)
theorem lI_front {D : va_G} {ac : Nat → ClassId} {A : Nat → Prop} {ad n : Nat → Nat} {hf : Nat → Option Nat} {H0 : Heap} {aa : Nat → Nat → Nat} {Z : Nat → Nat → Int32} {r od sv ln : Nat} {z sd tx : Nat → Int32} {H : Heap} {locs : List Loc} (hr : r < 6) (t : Nat) (ht : t < 6) (h : lI D ac A ad n hf H0 (lB ac (aa r) (Z r) ++ lR ac aa Z r) od sv ln z sd tx H locs) : lI D ac A ad n hf H0 (lB ac (aa t) (Z t) ++ lR ac aa Z t) od sv ln z sd tx H locs := by
  obtain ⟨gs, az, rd, of, og, th, tl, stp, po, hh, hP, hD, hS⟩ := h
  have hp := List.Perm.append_left (lW ac ad n hf od sv ln tx gs of og th stp po tl hh z sd az rd) (lR_front (ac := ac) (aa := aa) (Z := Z) hr ht)
  exact ⟨gs, az, rd, of, og, th, tl, stp, po, hh, z_Pperm hp hP, z_Dperm hp hD, hS⟩
theorem lR_upd {ac : Nat → ClassId} {aa : Nat → Nat → Nat} {Z : Nat → Nat → Int32} {r : Nat} (z : Nat → Int32) : lR ac aa (fun i => if i = r then z else Z i) r = lR ac aa Z r := by
  unfold lR
  have h : ∀ i ∈ (List.range 6).erase r, lB ac (aa i) (if i = r then z else Z i) = lB ac (aa i) (Z i) := by
    intro i hi
    have hne : i ≠ r := fun e => by
      rw [e] at hi
      exact absurd hi (List.Nodup.not_mem_erase List.nodup_range)
    rw [if_neg hne]
  rw [List.flatMap_def, List.flatMap_def]
  exact congrArg List.flatten (List.map_congr_left h)
/-- the loop's invariant -/
def lV (D : va_G) (ac : Nat → ClassId) (A : Nat → Prop) (ad n : Nat → Nat) (hf : Nat → Option Nat) (aa : Nat → Nat → Nat) (H0 : Heap) (H : Heap) (locs : List Loc) : Prop :=
  ∃ (z sd tx : Nat → Int32) (Z : Nat → Nat → Int32) (od sv ln r : Nat), mGood z ∧ (∀ i, i < 6 → mGood (Z i)) ∧ zRing sd Z od sv ∧ od < 6 ∧ sv ≤ 6 ∧ ln ≤ 60 ∧ r < 6 ∧ lI D ac A ad n hf H0 (lB ac (aa r) (Z r) ++ lR ac aa Z r) od sv ln z sd tx H locs
section ZV
variable {D : va_G} {ac : Nat → ClassId} {A : Nat → Prop} {ad n : Nat → Nat} {hf : Nat → Option Nat} {aa : Nat → Nat → Nat} {H0 H : Heap} {locs : List Loc} {z sd tx : Nat → Int32} {Z : Nat → Nat → Int32} {od sv ln r : Nat}
theorem k_od (h : od < 6) : kOd od sv < 6 := by
  unfold kOd
  split
  · exact h
  · exact Nat.mod_lt _ (by decide)
theorem m_sv1 (h : sv ≤ 6) : mSv sv + 1 ≤ 6 := by
  unfold mSv
  split <;> omega
theorem lV_save {y : Nat → Int32} (hG : mGood z) (hGZ : ∀ i, i < 6 → mGood (Z i)) (hR : zRing sd Z od sv) (hod : od < 6) (hsv : sv ≤ 6) (hln : ln ≤ 60) (hy : mGood y)
    (h : lI D ac A ad n hf H0 (lB ac (aa ((od + sv) % 6)) z ++ lR ac aa Z ((od + sv) % 6)) (kOd od sv) (mSv sv + 1) ln y (mSave sd z sv) tx H locs) : lV D ac A ad n hf aa H0 H locs := by
  refine ⟨y, mSave sd z sv, tx, fun i => if i = (od + sv) % 6 then z else Z i, kOd od sv, mSv sv + 1, ln, (od + sv) % 6, hy, fun i hi => ?_, ring_save hR hod hsv, k_od hod, m_sv1 hsv, hln, Nat.mod_lt _ (by decide), ?_⟩
  · show mGood (if i = (od + sv) % 6 then z else Z i)
    split
    · exact hG
    · exact hGZ i hi
  · rw [lR_upd]
    show lI D ac A ad n hf H0 (lB ac (aa ((od + sv) % 6)) (if (od + sv) % 6 = (od + sv) % 6 then z else Z ((od + sv) % 6)) ++ _) _ _ _ _ _ _ _ _
    rw [if_pos rfl]
    exact h
end ZV
