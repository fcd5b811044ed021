/-! the saved states -/
/-- a saved state -/
def lA (ac : Nat → ClassId) (a : Nat → Nat) (v w ga gb gc pd dr : Nat → Int32) (tp fl : Int32) : va_W :=
  [(a 0, .inr (4, [.ref (a 1), .ref (a 4), .ref (a 11), .ref (a 12), .int tp, .int fl])), (a 1, .inr (3, [.ref (a 2), .ref (a 3)])), (a 2, .inl (ac 0, 4, .inl v)), (a 3, .inl (ac 0, 4, .inl w)),
   (a 4, .inl (ac 2, 3, .inr (.inr (.inr (.inr (zJ3 (a 5) (a 6) (a 7))))))), (a 5, .inr (2, [.ref (a 8)])), (a 8, .inl (ac 0, 48, .inl ga)), (a 6, .inr (2, [.ref (a 9)])), (a 9, .inl (ac 0, 48, .inl gb)), (a 7, .inr (2, [.ref (a 10)])), (a 10, .inl (ac 0, 48, .inl gc)), (a 11, .inl (ac 0, 4, .inl pd)), (a 12, .inl (ac 0, 4, .inl dr))]
def lB (ac : Nat → ClassId) (a : Nat → Nat) (z : Nat → Int32) : va_W := lA ac a (cV z) (cW z) (qV z 0) (qV z 1) (qV z 2) (cP z) (cR z) (z 160) (z 161)
theorem lA_fst {ac : Nat → ClassId} {a : Nat → Nat} {v w ga gb gc pd dr v2 w2 ga2 gb2 gc2 pd2 dr2 : Nat → Int32} {tp fl tp2 fl2 : Int32} : (lA ac a v w ga gb gc pd dr tp fl).map Prod.fst = (lA ac a v2 w2 ga2 gb2 gc2 pd2 dr2 tp2 fl2).map Prod.fst := rfl
def vEq (v w ga gb gc pd dr : Nat → Int32) (tp fl : Int32) (y : Nat → Int32) : Prop :=
  (∀ k, k < 4 → v k = cV y k) ∧ (∀ k, k < 4 → w k = cW y k) ∧ (∀ k, k < 48 → ga k = qV y 0 k) ∧ (∀ k, k < 48 → gb k = qV y 1 k) ∧ (∀ k, k < 48 → gc k = qV y 2 k) ∧ (∀ k, k < 4 → pd k = cP y k) ∧ (∀ k, k < 4 → dr k = cR y k) ∧ tp = y 160 ∧ fl = y 161
theorem vEq_refl (z : Nat → Int32) : vEq (cV z) (cW z) (qV z 0) (qV z 1) (qV z 2) (cP z) (cR z) (z 160) (z 161) z := ⟨fun _ _ => rfl, fun _ _ => rfl, fun _ _ => rfl, fun _ _ => rfl, fun _ _ => rfl, fun _ _ => rfl, fun _ _ => rfl, rfl, rfl⟩
/-- the ring but its state r -/
def lR (ac : Nat → ClassId) (aa : Nat → Nat → Nat) (Z : Nat → Nat → Int32) (r : Nat) : va_W := ((List.range 6).erase r).flatMap (fun i => lB ac (aa i) (Z i))
theorem z_Pperm {D : va_G} {cl : List vw_C} {w w2 : va_W} {H : Heap} (h : w.Perm w2) (hP : va_P D cl w H) : va_P D cl w2 H := fun k q hk => by
  obtain ⟨j, hj⟩ := List.mem_iff_getElem?.mp (h.mem_iff.mpr (List.mem_of_getElem? hk))
  exact hP j q hj
theorem z_Dpair {A : Nat → Prop} {w : va_W} : va_D A w ↔ (w.Pairwise (fun p q => p.1 ≠ q.1) ∧ ∀ q ∈ w, A q.1) := by
  constructor
  · intro h
    refine ⟨List.pairwise_iff_getElem.mpr (fun i j hi hj hij e => ?_), fun q hq => ?_⟩
    · have h1 := h.1 i j w[i] w[j] (List.getElem?_eq_getElem hi) (List.getElem?_eq_getElem hj) e
      omega
    · obtain ⟨k, hk⟩ := List.mem_iff_getElem?.mp hq
      exact h.2 k q hk
  · intro h
    have key : ∀ (i j : Nat) (p q : Nat × va_E), i < j → w[i]? = some p → w[j]? = some q → p.1 ≠ q.1 := by
      intro i j p q hij hi hj
      obtain ⟨a1, a2⟩ := List.getElem?_eq_some_iff.mp hi
      obtain ⟨b1, b2⟩ := List.getElem?_eq_some_iff.mp hj
      have := List.pairwise_iff_getElem.mp h.1 i j a1 b1 hij
      rw [a2, b2] at this
      exact this
    refine ⟨fun i j p q hi hj e => ?_, fun k q hk => h.2 q (List.mem_of_getElem? hk)⟩
    rcases Nat.lt_trichotomy i j with c | c | c
    · exact absurd e (key i j p q c hi hj)
    · exact c
    · exact absurd e.symm (key j i q p c hj hi)
theorem z_Dperm {A : Nat → Prop} {w w2 : va_W} (h : w.Perm w2) (hD : va_D A w) : va_D A w2 := by
  obtain ⟨h1, h2⟩ := z_Dpair.mp hD
  exact z_Dpair.mpr ⟨(h.pairwise_iff (fun {x y} (q : x.1 ≠ y.1) => fun e => q e.symm)).mp h1, fun q hq => h2 q (h.mem_iff.mpr hq)⟩
theorem lR_perm (ac : Nat → ClassId) (aa : Nat → Nat → Nat) (Z : Nat → Nat → Int32) {r : Nat} (hr : r < 6) : ((List.range 6).flatMap (fun i => lB ac (aa i) (Z i))).Perm (lB ac (aa r) (Z r) ++ lR ac aa Z r) := by
  have h : (List.range 6).Perm (r :: (List.range 6).erase r) := List.perm_cons_erase (List.mem_range.mpr hr)
  exact h.flatMap_right (fun i => lB ac (aa i) (Z i))
/-- another state of the ring at the front -/
theorem lR_front {ac : Nat → ClassId} {aa : Nat → Nat → Nat} {Z : Nat → Nat → Int32} {r t : Nat} (hr : r < 6) (ht : t < 6) : (lB ac (aa r) (Z r) ++ lR ac aa Z r).Perm (lB ac (aa t) (Z t) ++ lR ac aa Z t) := (lR_perm ac aa Z hr).symm.trans (lR_perm ac aa Z ht)
theorem lR_upd {ac : Nat → ClassId} {aa : Nat → Nat → Nat} {Z : Nat → Nat → Int32} {r : Nat} (z : Nat → Int32) : lR ac aa (fun i => if i = r then z else Z i) r = lR ac aa Z r := by
  unfold lR
  have h : ∀ i ∈ (List.range 6).erase r, lB ac (aa i) (if i = r then z else Z i) = lB ac (aa i) (Z i) := by
    intro i hi
    have hne : i ≠ r := fun e => by
      rw [e] at hi
      exact absurd hi (List.Nodup.not_mem_erase List.nodup_range)
    rw [if_neg hne]
  rw [List.flatMap_def, List.flatMap_def]
  exact congrArg List.flatten (List.map_congr_left h)
theorem k_od {od sv : Nat} (h : od < 6) : kOd od sv < 6 := by
  unfold kOd
  split
  · exact h
  · exact Nat.mod_lt _ (by decide)
