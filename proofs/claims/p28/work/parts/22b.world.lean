/-! the law's world: the class beside the law's rows -/
def lF (ac : Nat → ClassId) (ad n : Nat → Nat) (hf : Nat → Option Nat) (od sz : Nat) (gs v w ga gb gc pd dr : Nat → Int32) (tp fl : Int32) (ja jb jc je jd : Nat → Int32) : va_W :=
  [(ad 0, .inr (5, [.ref (n 0), .ref (ad 1), .ref (ad 3), .ref (ad 5)])), (ad 1, .inr (1, [.ref (ad 2), .int (nI od), .int (nI sz)])), (ad 2, .inl (ac 3, 6, .inr (.inr (.inr (.inr hf))))), (ad 5, .inr (2, [.ref (ad 6)])), (ad 6, .inl (ac 0, 48, .inl gs)),
   (n 0, .inr (4, [.ref (n 1), .ref (n 4), .ref (n 11), .ref (n 12), .int tp, .int fl])), (n 1, .inr (3, [.ref (n 2), .ref (n 3)])), (n 2, .inl (ac 0, 4, .inl v)), (n 3, .inl (ac 0, 4, .inl w)), (n 4, .inl (ac 2, 3, .inr (.inr (.inr (.inr (zJ3 (n 5) (n 6) (n 7))))))),
   (n 5, .inr (2, [.ref (n 8)])), (n 8, .inl (ac 0, 48, .inl ga)), (n 6, .inr (2, [.ref (n 9)])), (n 9, .inl (ac 0, 48, .inl gb)), (n 7, .inr (2, [.ref (n 10)])), (n 10, .inl (ac 0, 48, .inl gc)), (n 11, .inl (ac 0, 4, .inl pd)), (n 12, .inl (ac 0, 4, .inl dr)),
   (ad 7, .inl (ac 0, 48, .inl ja)), (ad 8, .inl (ac 0, 48, .inl jb)), (ad 9, .inl (ac 0, 48, .inl jc)), (ad 10, .inl (ac 0, 16, .inl je)), (ad 11, .inl (ac 0, 2, .inl jd))]
/-- class and rows say the same -/
def lW (ac : Nat → ClassId) (ad n : Nat → Nat) (hf : Nat → Option Nat) (od sz : Nat) (gs z : Nat → Int32) : va_W :=
  lF ac ad n hf od sz gs (cV z) (cW z) (qV z 0) (qV z 1) (qV z 2) (cP z) (cR z) (z 160) (z 161) (qV z 0) (qV z 1) (qV z 2) (cV z) (lD z)
section LWD
variable {D : va_G} {ac : Nat → ClassId} {A : Nat → Prop} {ad n : Nat → Nat} {hf : Nat → Option Nat} {aa : Nat → Nat → Nat} {H0 H : Heap} {locs : List Loc} {od sz k r : Nat} {gs v w ga gb gc pd dr ja jb jc je jd y z : Nat → Int32} {tp fl : Int32} {wr : va_W} {Z : Nat → Nat → Int32}
theorem lF_fst {od2 sz2 : Nat} {gs2 v2 w2 ga2 gb2 gc2 pd2 dr2 ja2 jb2 jc2 je2 jd2 : Nat → Int32} {tp2 fl2 : Int32} : (lF ac ad n hf od sz gs v w ga gb gc pd dr tp fl ja jb jc je jd).map Prod.fst = (lF ac ad n hf od2 sz2 gs2 v2 w2 ga2 gb2 gc2 pd2 dr2 tp2 fl2 ja2 jb2 jc2 je2 jd2).map Prod.fst := rfl
theorem lFA_fst {a : Nat → Nat} {od2 sz2 : Nat} {gs2 v2 w2 ga2 gb2 gc2 pd2 dr2 ja2 jb2 jc2 je2 jd2 v3 w3 ga3 gb3 gc3 pd3 dr3 v4 w4 ga4 gb4 gc4 pd4 dr4 : Nat → Int32} {tp2 fl2 tp3 fl3 tp4 fl4 : Int32} : (lF ac ad n hf od sz gs v w ga gb gc pd dr tp fl ja jb jc je jd ++ lA ac a v3 w3 ga3 gb3 gc3 pd3 dr3 tp3 fl3).map Prod.fst = (lF ac ad n hf od2 sz2 gs2 v2 w2 ga2 gb2 gc2 pd2 dr2 tp2 fl2 ja2 jb2 jc2 je2 jd2 ++ lA ac a v4 w4 ga4 gb4 gc4 pd4 dr4 tp4 fl4).map Prod.fst := rfl
/-- contents that are alike on their range -/
theorem lF_view (h : vEq v w ga gb gc pd dr tp fl y) (hr : lRow v w ga gb gc pd dr tp fl ja jb jc je jd) (hP : va_P D vwCl (lF ac ad n hf od sz gs v w ga gb gc pd dr tp fl ja jb jc je jd ++ wr) H) : va_P D vwCl (lW ac ad n hf od sz gs y ++ wr) H := by
  obtain ⟨r1, r2, r3, r4, r5⟩ := row_of h hr
  obtain ⟨h1, h2, h3, h4, h5, h6, h7, rfl, rfl⟩ := h
  have hQ := z_Pl hP
  have a1 : va_P D vwCl (lF ac ad n hf od sz gs (cV y) w ga gb gc pd dr (y 160) (y 161) ja jb jc je jd) H := z_pext 7 rfl h1 hQ
  have a2 : va_P D vwCl (lF ac ad n hf od sz gs (cV y) (cW y) ga gb gc pd dr (y 160) (y 161) ja jb jc je jd) H := z_pext 8 rfl h2 a1
  have a3 : va_P D vwCl (lF ac ad n hf od sz gs (cV y) (cW y) (qV y 0) gb gc pd dr (y 160) (y 161) ja jb jc je jd) H := z_pext 11 rfl h3 a2
  have a4 : va_P D vwCl (lF ac ad n hf od sz gs (cV y) (cW y) (qV y 0) (qV y 1) gc pd dr (y 160) (y 161) ja jb jc je jd) H := z_pext 13 rfl h4 a3
  have a5 : va_P D vwCl (lF ac ad n hf od sz gs (cV y) (cW y) (qV y 0) (qV y 1) (qV y 2) pd dr (y 160) (y 161) ja jb jc je jd) H := z_pext 15 rfl h5 a4
  have a6 : va_P D vwCl (lF ac ad n hf od sz gs (cV y) (cW y) (qV y 0) (qV y 1) (qV y 2) (cP y) dr (y 160) (y 161) ja jb jc je jd) H := z_pext 16 rfl h6 a5
  have a7 : va_P D vwCl (lF ac ad n hf od sz gs (cV y) (cW y) (qV y 0) (qV y 1) (qV y 2) (cP y) (cR y) (y 160) (y 161) ja jb jc je jd) H := z_pext 17 rfl h7 a6
  have b1 : va_P D vwCl (lF ac ad n hf od sz gs (cV y) (cW y) (qV y 0) (qV y 1) (qV y 2) (cP y) (cR y) (y 160) (y 161) (qV y 0) jb jc je jd) H := z_pext 18 rfl r1 a7
  have b2 : va_P D vwCl (lF ac ad n hf od sz gs (cV y) (cW y) (qV y 0) (qV y 1) (qV y 2) (cP y) (cR y) (y 160) (y 161) (qV y 0) (qV y 1) jc je jd) H := z_pext 19 rfl r2 b1
  have b3 : va_P D vwCl (lF ac ad n hf od sz gs (cV y) (cW y) (qV y 0) (qV y 1) (qV y 2) (cP y) (cR y) (y 160) (y 161) (qV y 0) (qV y 1) (qV y 2) je jd) H := z_pext 20 rfl r3 b2
  have b4 : va_P D vwCl (lF ac ad n hf od sz gs (cV y) (cW y) (qV y 0) (qV y 1) (qV y 2) (cP y) (cR y) (y 160) (y 161) (qV y 0) (qV y 1) (qV y 2) (cV y) jd) H := z_pext 21 rfl r4 b3
  have b5 : va_P D vwCl (lF ac ad n hf od sz gs (cV y) (cW y) (qV y 0) (qV y 1) (qV y 2) (cP y) (cR y) (y 160) (y 161) (qV y 0) (qV y 1) (qV y 2) (cV y) (lD y)) H := z_pext 22 rfl r5 b4
  exact z_Papp b5 (z_Pr hP)
/-- the loop's invariant, k turns done -/
def lV (D : va_G) (ac : Nat → ClassId) (A : Nat → Prop) (ad n : Nat → Nat) (hf : Nat → Option Nat) (aa : Nat → Nat → Nat) (k : Nat) (H0 : Heap) (H : Heap) (locs : List Loc) : Prop :=
  ∃ (z gs : Nat → Int32) (Z : Nat → Nat → Int32) (od sz r : Nat), mGood z ∧ lCons z ∧ (z 160).toInt ≤ 100 * (k : Int) ∧ (k = 0 → ∀ j, j < 3 → qAll (qV z j) = 0) ∧ (1 ≤ k → 1 ≤ sz) ∧ od < 6 ∧ sz ≤ 6 ∧ r < 6 ∧ va_P D vwCl (lW ac ad n hf od sz gs z ++ (lB ac (aa r) (Z r) ++ lR ac aa Z r)) H ∧ va_D A (lW ac ad n hf od sz gs z ++ (lB ac (aa r) (Z r) ++ lR ac aa Z r)) ∧ va_S A H0 H locs
theorem lV_S (h : lV D ac A ad n hf aa k H0 H locs) : va_S A H0 H locs := by
  obtain ⟨z, gs, Z, od, sz, r, -, -, -, -, -, -, -, -, -, -, hS⟩ := h
  exact hS
theorem kSz1 (h : sz ≤ 6) : 1 ≤ kSz sz := by
  unfold kSz
  split <;> omega
theorem kSz6 (h : sz ≤ 6) : kSz sz ≤ 6 := by
  unfold kSz
  split <;> omega
/-- behind an act that did something -/
theorem lV_done (hod : od < 6) (hsz : sz ≤ 6) (hy : mGood y) (hc : lCons y) (h160 : tp.toInt ≤ 100 * (k : Int) + 100) (hv : vEq v w ga gb gc pd dr tp fl y) (hr : lRow v w ga gb gc pd dr tp fl ja jb jc je jd)
    (hP : va_P D vwCl (lF ac ad n hf (kOd od sz) (kSz sz) gs v w ga gb gc pd dr tp fl ja jb jc je jd ++ (lB ac (aa ((od + sz) % 6)) z ++ lR ac aa Z ((od + sz) % 6))) H) (hD : va_D A (lF ac ad n hf (kOd od sz) (kSz sz) gs v w ga gb gc pd dr tp fl ja jb jc je jd ++ (lB ac (aa ((od + sz) % 6)) z ++ lR ac aa Z ((od + sz) % 6)))) (hS : va_S A H0 H locs) : lV D ac A ad n hf aa (k + 1) H0 H locs := by
  have e160 : y 160 = tp := hv.2.2.2.2.2.2.2.1.symm
  have hP2 := lF_view hv hr hP
  have hD2 : va_D A (lW ac ad n hf (kOd od sz) (kSz sz) gs y ++ (lB ac (aa ((od + sz) % 6)) z ++ lR ac aa Z ((od + sz) % 6))) := z_Dfst (by rw [List.map_append, List.map_append]; exact congrArg (fun x => x ++ (lB ac (aa ((od + sz) % 6)) z ++ lR ac aa Z ((od + sz) % 6)).map Prod.fst) lF_fst) hD
  refine ⟨y, gs, fun i => if i = (od + sz) % 6 then z else Z i, kOd od sz, kSz sz, (od + sz) % 6, hy, hc, ?_, fun h => absurd h (by omega), fun _ => kSz1 hsz, k_od hod, kSz6 hsz, Nat.mod_lt _ (by decide), ?_, ?_, hS⟩
  · rw [e160]
    omega
  · rw [lR_upd]
    show va_P D vwCl (lW ac ad n hf (kOd od sz) (kSz sz) gs y ++ (lB ac (aa ((od + sz) % 6)) (if (od + sz) % 6 = (od + sz) % 6 then z else Z ((od + sz) % 6)) ++ lR ac aa Z ((od + sz) % 6))) H
    rw [if_pos rfl]
    exact hP2
  · rw [lR_upd]
    show va_D A (lW ac ad n hf (kOd od sz) (kSz sz) gs y ++ (lB ac (aa ((od + sz) % 6)) (if (od + sz) % 6 = (od + sz) % 6 then z else Z ((od + sz) % 6)) ++ lR ac aa Z ((od + sz) % 6)))
    rw [if_pos rfl]
    exact hD2
/-- the state that is saved next, in front -/
theorem lV_front {r2 : Nat} (hr : r < 6) (hr2 : r2 < 6) (hP : va_P D vwCl (lW ac ad n hf od sz gs z ++ (lB ac (aa r) (Z r) ++ lR ac aa Z r)) H) (hD : va_D A (lW ac ad n hf od sz gs z ++ (lB ac (aa r) (Z r) ++ lR ac aa Z r))) : va_P D vwCl (lW ac ad n hf od sz gs z ++ (lB ac (aa r2) (Z r2) ++ lR ac aa Z r2)) H ∧ va_D A (lW ac ad n hf od sz gs z ++ (lB ac (aa r2) (Z r2) ++ lR ac aa Z r2)) := by
  have hp := List.Perm.append_left (lW ac ad n hf od sz gs z) (lR_front (ac := ac) (aa := aa) (Z := Z) hr hr2)
  exact ⟨z_Pperm hp hP, z_Dperm hp hD⟩
end LWD
