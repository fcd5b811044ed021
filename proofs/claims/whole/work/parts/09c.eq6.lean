/-! the text as a whole -/
/-- the portions put onto g -/
def rG (g rd : Nat → Int32) : Nat → Nat → Int32
  | 0 => g
  | i + 1 => qPut (rG g rd i) (rd (3 * i + 2)).toNatClampNeg (rd (3 * i + 1)).toNatClampNeg (rd (3 * i))
theorem rG_cong {g rd rd2 : Nat → Int32} : ∀ {n : Nat}, (∀ i, i < 3 * n → rd i = rd2 i) → rG g rd n = rG g rd2 n
  | 0, _ => rfl
  | n + 1, h => by
    show qPut (rG g rd n) _ _ _ = qPut (rG g rd2 n) _ _ _
    rw [rG_cong (n := n) (fun i hi => h i (by omega)), h (3 * n + 2) (by omega), h (3 * n + 1) (by omega), h (3 * n) (by omega)]
/-- a portion's numbers are in their ranges -/
def tR (rd : Nat → Int32) (i : Nat) : Prop := (∃ c, rd (3 * i + 1) = nI c ∧ c < 4) ∧ (∃ s, rd (3 * i + 2) = nI s ∧ s < 12) ∧ ∃ u, rd (3 * i) = nI u ∧ 1 ≤ u ∧ u ≤ 999
theorem tR_cong {rd rd2 : Nat → Int32} {i n : Nat} (h : ∀ i, i < 3 * n → rd i = rd2 i) (hi : i < n) (hr : tR rd i) : tR rd2 i := by
  unfold tR
  rw [← h (3 * i + 1) (by omega), ← h (3 * i + 2) (by omega), ← h (3 * i) (by omega)]
  exact hr
/-- the end of a portion -/
theorem t_end {tx : Nat → Int32} {k a b : Nat} {q : mT} (h : tSt tx k q a b) (hb : b = 4 ∨ b = 6 ∨ b = 7) : rMany tx a k = q.2.2.2 (3 * q.2.1) ∧ rCls tx a k = q.2.2.2 (3 * q.2.1 + 1) ∧ rSl tx a k = q.2.2.2 (3 * q.2.1 + 2) ∧ tR q.2.2.2 q.2.1 := by
  have gen : ∀ e, e < k → tP tx q.2.2.2 a e q.2.1 → rSum tx (e + 2) (k - (e + 2)) = q.2.2.2 (3 * q.2.1 + 2) → (∃ s, q.2.2.2 (3 * q.2.1 + 2) = nI s ∧ s < 12) → rMany tx a k = q.2.2.2 (3 * q.2.1) ∧ rCls tx a k = q.2.2.2 (3 * q.2.1 + 1) ∧ rSl tx a k = q.2.2.2 (3 * q.2.1 + 2) ∧ tR q.2.2.2 q.2.1 := by
    intro e he hP hs hr
    obtain ⟨-, p2, p3, p4, p5, u, p6, p7, p8⟩ := hP
    have e1 := p2 k he
    have e2 : rEnd tx a k = e := congrArg Prod.fst e1
    have e3 : rMany tx a k = q.2.2.2 (3 * q.2.1) := congrArg Prod.snd e1
    obtain ⟨v, ev, hv⟩ := t_let ⟨p4, p5⟩
    refine ⟨e3, ?_, ?_, ⟨v, ?_, by omega⟩, hr, u, p6, p7, p8⟩
    · unfold rCls
      rw [e2, if_pos he, p3]
    · unfold rSl
      rw [e2]
      exact hs
    · rw [p3, ev, show (97 : Int32) = nI 97 from rfl, pk_sub (by omega)]
      exact congrArg nI (by omega)
  rcases h with ⟨rfl, -⟩ | ⟨-, -, -, -, u, -, hb2⟩ | ⟨-, -, e, hk, hP, h4⟩ | ⟨rfl, -⟩ | ⟨-, -, e, hk, hP, h4, h5⟩ | ⟨-, -, e, hk, hP, h4, s, h5, h6, -⟩
  · omega
  · omega
  · refine gen e (by omega) hP ?_ ⟨0, h4, by omega⟩
    rw [show k - (e + 2) = 0 by omega, h4]
    rfl
  · omega
  · refine gen e (by omega) hP ?_ ⟨1, h4, by omega⟩
    rw [show k - (e + 2) = 1 by omega, h4]
    show (0 : Int32) * 10 + (tx (e + 2 + 0) - 48) = 1
    rw [show e + 2 + 0 = e + 2 by omega, h5]
    decide
  · exact gen e (by omega) hP h4 ⟨s, h5, h6⟩
theorem t_put {tx g : Nat → Int32} {k a b : Nat} {q : mT} (h : tSt tx k q a b) (hb : b = 4 ∨ b = 6 ∨ b = 7) : rPut tx a k (rG g q.2.2.2 q.2.1) = rG g q.2.2.2 (q.2.1 + 1) ∧ rOk tx a k := by
  obtain ⟨e1, e2, e3, ⟨c, hc, hc4⟩, ⟨s, hs, hs12⟩, -⟩ := t_end h hb
  refine ⟨?_, ?_⟩
  · unfold rPut
    rw [e1, e2, e3]
    rfl
  · unfold rOk
    rw [e2, e3, hc, hs, nI_clamp (by omega), nI_clamp (by omega)]
    exact ⟨rfl, hs12, rfl, hc4⟩
def tInv (tx g : Nat → Int32) (ln k : Nat) (q : mT) (a : Nat) : Prop :=
  (rInto tx ln 0 0 g = rInto tx (ln - k) k a (rG g q.2.2.2 q.2.1)) ∧ (rOkAll tx (ln - k) k a → rOkAll tx ln 0 0) ∧ (q.2.2.1 = qS (fun i => q.2.2.2 (3 * i)) q.2.1) ∧ (∀ i, i < q.2.1 → tR q.2.2.2 i)
theorem q_pls_none (tx : Nat → Int32) {k : Nat} (h : qPls tx k = none) : ∀ n, qPls tx (k + n) = none
  | 0 => h
  | n + 1 => by
    show qPl (qPls tx (k + n)) (tx (k + n)) = none
    rw [q_pls_none tx h n]
    rfl
theorem mEnd_lt (q : mT) {i : Nat} (hi : i < 3 * (q.2.1 + 1)) : (mEnd q).2.2.2 i = q.2.2.2 i := by
  show upd (upd q.2.2.2 (3 * (q.2.1 + 1)) 0) (3 * (q.2.1 + 1) + 2) 0 i = q.2.2.2 i
  unfold upd
  rw [if_neg (by omega), if_neg (by omega)]
theorem mEnd_sum {q : mT} (h : q.2.2.1 = qS (fun i => q.2.2.2 (3 * i)) q.2.1) : (mEnd q).2.2.1 = qS (fun i => (mEnd q).2.2.2 (3 * i)) (q.2.1 + 1) := by
  show q.2.2.1 + q.2.2.2 (3 * q.2.1) = qS (fun i => (mEnd q).2.2.2 (3 * i)) q.2.1 + (mEnd q).2.2.2 (3 * q.2.1)
  rw [mEnd_lt q (by omega), h]
  exact congrArg (fun x => x + q.2.2.2 (3 * q.2.1)) (s_cong (fun i hi => (mEnd_lt q (by omega)).symm))
theorem t_main {tx g : Nat → Int32} {ln : Nat} : ∀ (n k : Nat) (q : mT) (a b : Nat), k + n = ln → tSt tx k q a b → qPls tx k = some b → tInv tx g ln k q a → qFw tx n k = (mRd tx n k q).1 ∧ ((mRd tx n k q).1 = ln → ∃ a b, qPls tx ln = some b ∧ tSt tx ln (mRd tx n k q).2 a b ∧ tInv tx g ln ln (mRd tx n k q).2 a) ∧ (¬ (mRd tx n k q).1 = ln → qPls tx ln = none)
  | 0, k, q, a, b, hk, hS, hp, hI => by
    have e : k = ln := by omega
    subst e
    exact ⟨rfl, fun _ => ⟨a, b, hp, hS, hI⟩, fun w => absurd rfl w⟩
  | n + 1, k, q, a, b, hk, hS, hp, hI => by
    have hstep : qPls tx (k + 1) = qPl (some b) (tx k) := by
      show qPl (qPls tx k) (tx k) = _
      rw [hp]
    have hr := t_res hS
    obtain ⟨i1, i2, i3, i4⟩ := hI
    rw [show ln - k = n + 1 by omega] at i1 i2
    rcases hr with ⟨r1, r2⟩ | ⟨b2, r1, r2, r3, ⟨k1, k2, k3⟩, r5⟩ | ⟨r1, r2, r3, r4⟩
    · have e1 : mRd tx (n + 1) k q = (k, (mTk q (tx k)).2) := if_neg (by rw [r2]; exact fun w => by cases w)
      have e2 : qFw tx (n + 1) k = k := if_pos (hstep.trans r1)
      rw [e1, e2]
      refine ⟨rfl, fun w => ?_, fun _ => ?_⟩
      · have w2 : k = ln := w
        omega
      · have w3 := q_pls_none tx (hstep.trans r1) n
        rw [show k + 1 + n = ln by omega] at w3
        exact w3
    · have e1 : mRd tx (n + 1) k q = mRd tx n (k + 1) (mTk q (tx k)).2 := if_pos r2
      have e2 : qFw tx (n + 1) k = qFw tx n (k + 1) := if_neg (by rw [hstep, r1]; exact fun w => by cases w)
      rw [e1, e2]
      refine t_main n (k + 1) (mTk q (tx k)).2 a b2 (by omega) r3 (hstep.trans r1) ⟨?_, ?_, ?_, ?_⟩
      · rw [show ln - (k + 1) = n by omega, k1, rG_cong (rd2 := q.2.2.2) k3]
        exact i1.trans (if_neg r5)
      · intro w
        rw [show ln - (k + 1) = n by omega] at w
        exact i2 (Eq.mpr (if_neg r5) w)
      · rw [k1, k2, i3]
        exact s_cong (fun i hi => (k3 (3 * i) (by omega)).symm)
      · rw [k1]
        exact fun i hi => tR_cong (fun i hi => (k3 i hi).symm) hi (i4 i hi)
    · have e1 : mRd tx (n + 1) k q = mRd tx n (k + 1) (0, (mEnd q).2) := by
        show (if (mTk q (tx k)).1 = true then mRd tx n (k + 1) (mTk q (tx k)).2 else (k, (mTk q (tx k)).2)) = _
        rw [r4]
        exact if_pos rfl
      have e2 : qFw tx (n + 1) k = qFw tx n (k + 1) := if_neg (by rw [hstep, r3]; exact fun w => by cases w)
      obtain ⟨p1, p2⟩ := t_put (g := g) hS r1
      obtain ⟨-, -, -, p3⟩ := t_end hS r1
      have eG : rG g (mEnd q).2.2.2 (q.2.1 + 1) = rG g q.2.2.2 (q.2.1 + 1) := rG_cong (fun i hi => mEnd_lt q hi)
      rw [e1, e2]
      refine t_main n (k + 1) (0, (mEnd q).2) (k + 1) 0 (by omega) (Or.inl ⟨rfl, rfl, rfl, ?_, if_pos rfl⟩) (hstep.trans r3) ⟨?_, ?_, mEnd_sum i3, ?_⟩
      · show upd (upd q.2.2.2 (3 * (q.2.1 + 1)) 0) (3 * (q.2.1 + 1) + 2) 0 (3 * (q.2.1 + 1)) = 0
        unfold upd
        rw [if_neg (by omega), if_pos rfl]
      · rw [show ln - (k + 1) = n by omega]
        show rInto tx ln 0 0 g = rInto tx n (k + 1) (k + 1) (rG g (mEnd q).2.2.2 (q.2.1 + 1))
        rw [eG, ← p1]
        exact i1.trans (if_pos r2)
      · intro w
        rw [show ln - (k + 1) = n by omega] at w
        exact i2 (Eq.mpr (if_pos r2) ⟨p2, w⟩)
      · intro i hi
        have hi2 : i < q.2.1 + 1 := hi
        refine tR_cong (n := q.2.1 + 1) (fun i hi => (mEnd_lt q hi).symm) hi2 ?_
        by_cases c : i = q.2.1
        · rw [c]; exact p3
        · exact i4 i (by omega)
theorem t_start (tx g rd : Nat → Int32) (ln : Nat) : tSt tx 0 (mQ0 rd) 0 0 ∧ tInv tx g ln 0 (mQ0 rd) 0 :=
  ⟨Or.inl ⟨rfl, rfl, rfl, rfl, rfl⟩, rfl, fun w => w, rfl, fun i hi => absurd hi (Nat.not_lt_zero i)⟩
/-- the first error -/
theorem e_fw (tx rd : Nat → Int32) (ln : Nat) : (mText tx ln rd).1 = qFw tx ln 0 :=
  (t_main (g := tx) ln 0 (mQ0 rd) 0 0 (by omega) (t_start tx tx rd ln).1 rfl (t_start tx tx rd ln).2).1.symm
/-- a complete charge -/
theorem e_full (tx rd g : Nat → Int32) (ln : Nat) : (((mText tx ln rd).1 = ln ∧ ((mText tx ln rd).2.1 = 2 ∨ (mText tx ln rd).2.1 = 4)) ↔ (qPls tx ln = some 4 ∨ qPls tx ln = some 6 ∨ qPls tx ln = some 7)) ∧
    (((mText tx ln rd).1 = ln ∧ ((mText tx ln rd).2.1 = 2 ∨ (mText tx ln rd).2.1 = 4)) → rInto tx ln 0 0 g = rG g (mEnd (mText tx ln rd).2).2.2.2 ((mText tx ln rd).2.2.1 + 1) ∧ rOkAll tx ln 0 0 ∧ (mEnd (mText tx ln rd).2).2.2.1 = qS (fun i => (mEnd (mText tx ln rd).2).2.2.2 (3 * i)) ((mText tx ln rd).2.2.1 + 1) ∧ ∀ i, i < (mText tx ln rd).2.2.1 + 1 → tR (mEnd (mText tx ln rd).2).2.2.2 i) := by
  obtain ⟨-, h2, h3⟩ := t_main (g := g) ln 0 (mQ0 rd) 0 0 (by omega) (t_start tx g rd ln).1 rfl (t_start tx g rd ln).2
  have h2 : (mText tx ln rd).1 = ln → ∃ a b, qPls tx ln = some b ∧ tSt tx ln (mText tx ln rd).2 a b ∧ tInv tx g ln ln (mText tx ln rd).2 a := h2
  have h3 : ¬ (mText tx ln rd).1 = ln → qPls tx ln = none := h3
  generalize mText tx ln rd = R at h2 h3 ⊢
  have hb : R.1 = ln → (R.2.1 = 2 ∨ R.2.1 = 4) → ∃ a b, (b = 4 ∨ b = 6 ∨ b = 7) ∧ qPls tx ln = some b ∧ tSt tx ln R.2 a b ∧ tInv tx g ln ln R.2 a := by
    intro w1 w2
    obtain ⟨a, b, p1, p2, p3⟩ := h2 w1
    refine ⟨a, b, ?_, p1, p2, p3⟩
    rcases p2 with ⟨-, q1, -⟩ | ⟨q1, -⟩ | ⟨q0, -⟩ | ⟨-, q1, -⟩ | ⟨q0, -⟩ | ⟨q0, -⟩ <;> omega
  refine ⟨⟨fun w => ?_, fun w => ?_⟩, fun w => ?_⟩
  · obtain ⟨a, b, p0, p1, -⟩ := hb w.1 w.2
    rw [p1]
    rcases p0 with rfl | rfl | rfl
    · exact Or.inl rfl
    · exact Or.inr (Or.inl rfl)
    · exact Or.inr (Or.inr rfl)
  · have w1 : R.1 = ln := Classical.byContradiction fun v => by
      rw [h3 v] at w
      rcases w with w | w | w <;> cases w
    obtain ⟨a, b, p1, p2, -⟩ := h2 w1
    refine ⟨w1, ?_⟩
    rw [p1] at w
    have p0 : b = 4 ∨ b = 6 ∨ b = 7 := by
      rcases w with w | w | w
      · exact Or.inl (Option.some.inj w)
      · exact Or.inr (Or.inl (Option.some.inj w))
      · exact Or.inr (Or.inr (Option.some.inj w))
    rcases p2 with ⟨q0, -⟩ | ⟨-, -, -, -, u, -, hb2⟩ | ⟨-, q1, -⟩ | ⟨q0, -⟩ | ⟨-, q1, -⟩ | ⟨-, q1, -⟩ <;> omega
  · obtain ⟨a, b, p0, -, p2, i1, i2, i3, i4⟩ := hb w.1 w.2
    obtain ⟨s1, s2⟩ := t_put (g := g) p2 p0
    obtain ⟨-, -, -, s3⟩ := t_end p2 p0
    rw [Nat.sub_self] at i1 i2
    refine ⟨?_, i2 s2, mEnd_sum i3, fun i hi => ?_⟩
    · rw [rG_cong (rd2 := R.2.2.2.2) (fun i hi => mEnd_lt R.2 hi), ← s1]
      exact i1
    · refine tR_cong (n := R.2.2.1 + 1) (fun i hi => (mEnd_lt R.2 hi).symm) hi ?_
      by_cases c : i = R.2.2.1
      · rw [c]; exact s3
      · exact i4 i (by omega)
