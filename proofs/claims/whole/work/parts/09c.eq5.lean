/-! the text: each place -/
/-- what a sign does: wrong for both; taken by both within the portion; the end of the portion -/
def tRes (tx : Nat → Int32) (k : Nat) (q : mT) (a b : Nat) : Prop :=
  (qPl (some b) (tx k) = none ∧ (mTk q (tx k)).1 = false) ∨
  (∃ b2, qPl (some b) (tx k) = some b2 ∧ (mTk q (tx k)).1 = true ∧ tSt tx (k + 1) (mTk q (tx k)).2 a b2 ∧ tKeep q (mTk q (tx k)).2 ∧ ¬ tx k = 43) ∨
  ((b = 4 ∨ b = 6 ∨ b = 7) ∧ tx k = 43 ∧ qPl (some b) (tx k) = some 0 ∧ mTk q (tx k) = (true, 0, (mEnd q).2))
theorem t_tk0 {q : mT} {x : Int32} (h : q.1 = 0) : mTk q x = mNum q x := by unfold mTk; rw [if_pos h]
theorem t_tk1 {q : mT} {x : Int32} (h : q.1 = 1) : mTk q x = mOr (mNum q x) (fun r => mLet r x) := by unfold mTk; rw [if_neg (by omega), if_pos h]
theorem t_tk2 {q : mT} {x : Int32} (h : q.1 = 2) : mTk q x = mOr (mAt q x) (fun r => mPls r x) := by unfold mTk; rw [if_neg (by omega), if_neg (by omega), if_pos h]
theorem t_tk3 {q : mT} {x : Int32} (h : q.1 = 3) : mTk q x = mSli q x := by unfold mTk; rw [if_neg (by omega), if_neg (by omega), if_neg (by omega), if_pos h]
theorem t_tk4 {q : mT} {x : Int32} (h : q.1 = 4) : mTk q x = mOr (mSli q x) (fun r => mPls r x) := by unfold mTk; rw [if_neg (by omega), if_neg (by omega), if_neg (by omega), if_neg (by omega)]
theorem t_or_no {r : Bool × mT} {f : mT → Bool × mT} {q : mT} (h : r = (false, q)) : mOr r f = f q := by rw [h]; exact if_neg (fun w => by cases w)
theorem t_or_yes {r : Bool × mT} {f : mT → Bool × mT} (h : r.1 = true) : mOr r f = r := if_pos h
theorem t_n48 {x : Int32} {v : Nat} (e : x = nI (48 + v)) (hv : v ≤ 9) (n : Nat) (hn : n < 2 ^ 31) : x = nI n ↔ 48 + v = n := by rw [e]; exact nI_eq (by omega) hn
theorem t_p0 {tx : Nat → Int32} {k a : Nat} {q : mT} (h1 : q.1 = 0) (h2 : a = k) (h3 : q.2.2.2 (3 * q.2.1) = 0) (h4 : q.2.2.2 (3 * q.2.1 + 2) = 0) : tRes tx k q a 0 := by
  unfold tRes
  rw [t_tk0 h1]
  have hp : qPl (some 0) (tx k) = if (48 ≤ tx k ∧ tx k ≤ 57) ∧ ¬ tx k = 48 then some 1 else none := rfl
  rw [hp]
  by_cases h : (48 ≤ tx k ∧ tx k ≤ 57) ∧ ¬ tx k = 48
  · obtain ⟨v, e, hv⟩ := t_dig h.1
    have hv0 : ¬ v = 0 := fun w => h.2 ((t_n48 e hv 48 (by omega)).mpr (by omega))
    have en := t_num_yes (q := q) (u := 0) (v := v) h3 (by omega) hv (by omega)
    have eD := tD_s (tD_0 tx k) (Nat.le_refl k) h.1
    have ec : (0 : Int32) * 10 + (tx k - 48) = nI (10 * 0 + v) := by rw [e]; exact t_cx 0 v
    rw [ec] at eD
    rw [if_pos h, e, en]
    have x0 : (upd q.2.2.2 (3 * q.2.1) (nI (10 * 0 + v))) (3 * q.2.1) = nI (10 * 0 + v) := if_pos rfl
    have x2 : (upd q.2.2.2 (3 * q.2.1) (nI (10 * 0 + v))) (3 * q.2.1 + 2) = q.2.2.2 (3 * q.2.1 + 2) := if_neg (by omega)
    refine Or.inr (Or.inl ⟨1, rfl, rfl, Or.inr (Or.inl ⟨rfl, by omega, ?_, x2.trans h4, 10 * 0 + v, x0, Or.inl ⟨rfl, by omega, by omega⟩⟩), ⟨rfl, rfl, fun i hi => if_neg (by omega)⟩, fun w => ?_⟩)
    · show tD tx a (k + 1) ((upd q.2.2.2 (3 * q.2.1) (nI (10 * 0 + v))) (3 * q.2.1))
      rw [x0, h2]
      exact eD
    · have w2 := (nI_eq (a := 48 + v) (b := 43) (by omega) (by omega)).mp w
      omega
  · have en := t_num_no (q := q) (x := tx k) (u := 0) h3 (by omega) (fun v hv e w => h ⟨by rw [e]; exact t_digI hv, fun w2 => by
      have w3 := (t_n48 e hv 48 (by omega)).mp w2
      omega⟩)
    rw [if_neg h, en]
    exact Or.inl ⟨rfl, rfl⟩
theorem t_p1 {tx : Nat → Int32} {k a b u : Nat} {q : mT} (h1 : q.1 = 1) (h2 : a ≤ k) (h3 : tD tx a k (q.2.2.2 (3 * q.2.1))) (h4 : q.2.2.2 (3 * q.2.1 + 2) = 0) (hu : q.2.2.2 (3 * q.2.1) = nI u) (hb : (b = 1 ∧ 1 ≤ u ∧ u ≤ 9) ∨ (b = 2 ∧ 10 ≤ u ∧ u ≤ 99) ∨ (b = 3 ∧ 100 ≤ u ∧ u ≤ 999)) : tRes tx k q a b := by
  unfold tRes
  rw [t_tk1 h1]
  by_cases h : (48 ≤ tx k ∧ tx k ≤ 57) ∧ ¬ b = 3
  · obtain ⟨v, e, hv⟩ := t_dig h.1
    have en := t_num_yes (q := q) (u := u) (v := v) hu (by omega) hv (by omega)
    have eD := tD_s h3 h2 h.1
    have ec : q.2.2.2 (3 * q.2.1) * 10 + (tx k - 48) = nI (10 * u + v) := by rw [hu, e]; exact t_cx u v
    rw [ec] at eD
    have hp : qPl (some b) (tx k) = some (b + 1) := by
      rcases hb with ⟨rfl, -⟩ | ⟨rfl, -⟩ | ⟨rfl, -⟩
      · exact if_pos h.1
      · exact if_pos h.1
      · exact absurd rfl h.2
    have x0 : (upd q.2.2.2 (3 * q.2.1) (nI (10 * u + v))) (3 * q.2.1) = nI (10 * u + v) := if_pos rfl
    have x2 : (upd q.2.2.2 (3 * q.2.1) (nI (10 * u + v))) (3 * q.2.1 + 2) = q.2.2.2 (3 * q.2.1 + 2) := if_neg (by omega)
    rw [hp, e, t_or_yes (by rw [en]), en]
    refine Or.inr (Or.inl ⟨b + 1, rfl, rfl, Or.inr (Or.inl ⟨rfl, by omega, ?_, x2.trans h4, 10 * u + v, x0, by omega⟩), ⟨rfl, rfl, fun i hi => if_neg (by omega)⟩, fun w => ?_⟩)
    · show tD tx a (k + 1) ((upd q.2.2.2 (3 * q.2.1) (nI (10 * u + v))) (3 * q.2.1))
      rw [x0]
      exact eD
    · have w2 := (nI_eq (a := 48 + v) (b := 43) (by omega) (by omega)).mp w
      omega
  · have en := t_num_no (q := q) (x := tx k) (u := u) hu (by omega) (fun v hv e w => h ⟨by rw [e]; exact t_digI hv, by omega⟩)
    have hp : qPl (some b) (tx k) = qPn (tx k) := by
      rcases hb with ⟨rfl, -⟩ | ⟨rfl, -⟩ | ⟨rfl, -⟩
      · exact if_neg (fun w => h ⟨w, by omega⟩)
      · exact if_neg (fun w => h ⟨w, by omega⟩)
      · rfl
    rw [hp, t_or_no en]
    rcases t_letter (q := q) h2 h3 h4 hu (by omega) (by omega) with ⟨w1, w2⟩ | ⟨w1, w2, w3, w4, w5⟩
    · exact Or.inl ⟨w1, w2⟩
    · exact Or.inr (Or.inl ⟨4, w1, w2, w3, w4, w5⟩)
/-- '+' or nothing -/
theorem t_plus {tx : Nat → Int32} {k a b : Nat} {q : mT} (hb : b = 4 ∨ b = 6 ∨ b = 7) (hp : qPl (some b) (tx k) = qPp (tx k)) (hm : mTk q (tx k) = mPls q (tx k)) : tRes tx k q a b := by
  unfold tRes
  rw [hm]
  by_cases h : tx k = 43
  · refine Or.inr (Or.inr ⟨hb, h, ?_, if_pos h⟩)
    rw [hp]
    exact if_pos h
  · refine Or.inl ⟨?_, ?_⟩
    · rw [hp]
      exact if_neg h
    · have e : mPls q (tx k) = (false, q) := if_neg h
      rw [e]
theorem t_p4 {tx : Nat → Int32} {k a e : Nat} {q : mT} (h1 : q.1 = 2) (hk : k = e + 1) (hP : tP tx q.2.2.2 a e q.2.1) (h4 : q.2.2.2 (3 * q.2.1 + 2) = 0) : tRes tx k q a 4 := by
  by_cases h : tx k = 64
  · unfold tRes
    have em : mAt q (tx k) = (true, 3, q.2) := if_pos h
    have hp : qPl (some 4) (tx k) = some 5 := if_pos h
    rw [t_tk2 h1, hp, t_or_yes (by rw [em]), em]
    refine Or.inr (Or.inl ⟨5, rfl, rfl, Or.inr (Or.inr (Or.inr (Or.inl ⟨rfl, rfl, e, by omega, hP, h4⟩))), ⟨rfl, rfl, fun i hi => rfl⟩, fun w => ?_⟩)
    exact absurd (h.symm.trans w) (by decide)
  · exact t_plus (Or.inl rfl) (if_neg h) ((t_tk2 h1).trans (t_or_no (if_neg h)))
theorem t_p5 {tx : Nat → Int32} {k a e : Nat} {q : mT} (h1 : q.1 = 3) (hk : k = e + 2) (hP : tP tx q.2.2.2 a e q.2.1) (h4 : q.2.2.2 (3 * q.2.1 + 2) = 0) : tRes tx k q a 5 := by
  unfold tRes
  rw [t_tk3 h1]
  have hp : qPl (some 5) (tx k) = if tx k = 49 then some 6 else if 48 ≤ tx k ∧ tx k ≤ 57 then some 7 else none := rfl
  by_cases h : 48 ≤ tx k ∧ tx k ≤ 57
  · obtain ⟨v, ev, hv⟩ := t_dig h
    have en := t_sli_yes (q := q) (u := 0) (v := v) h4 hv (by omega) (Or.inl h1)
    have y0 : (upd q.2.2.2 (3 * q.2.1 + 2) (nI (10 * 0 + v))) (3 * q.2.1) = q.2.2.2 (3 * q.2.1) := if_neg (by omega)
    have y1 : (upd q.2.2.2 (3 * q.2.1 + 2) (nI (10 * 0 + v))) (3 * q.2.1 + 1) = q.2.2.2 (3 * q.2.1 + 1) := if_neg (by omega)
    have y2 : (upd q.2.2.2 (3 * q.2.1 + 2) (nI (10 * 0 + v))) (3 * q.2.1 + 2) = nI (10 * 0 + v) := if_pos rfl
    have hP2 : tP tx (upd q.2.2.2 (3 * q.2.1 + 2) (nI (10 * 0 + v))) a e q.2.1 := by
      unfold tP
      rw [y0, y1]
      exact hP
    have e43 : ¬ nI (48 + v) = 43 := fun w => by
      have w2 := (nI_eq (a := 48 + v) (b := 43) (by omega) (by omega)).mp w
      omega
    by_cases h9 : tx k = 49
    · have hv1 := (t_n48 ev hv 49 (by omega)).mp h9
      rw [hp, if_pos h9, ev, en]
      refine Or.inr (Or.inl ⟨6, rfl, rfl, Or.inr (Or.inr (Or.inr (Or.inr (Or.inl ⟨rfl, rfl, e, by omega, hP2, y2.trans (by rw [show 10 * 0 + v = 1 by omega]; rfl), ?_⟩)))), ⟨rfl, rfl, fun i hi => if_neg (by omega)⟩, e43⟩)
      rw [← hk]
      exact h9
    · have hv1 : ¬ v = 1 := fun w => h9 ((t_n48 ev hv 49 (by omega)).mpr (by omega))
      have es : rSum tx (e + 2) (k + 1 - (e + 2)) = nI (10 * 0 + v) := by
        rw [show k + 1 - (e + 2) = 1 by omega]
        show (0 : Int32) * 10 + (tx (e + 2 + 0) - 48) = _
        rw [show e + 2 + 0 = k by omega, ev]
        exact t_cx 0 v
      rw [hp, if_neg h9, if_pos h, ev, en]
      exact Or.inr (Or.inl ⟨7, rfl, rfl, Or.inr (Or.inr (Or.inr (Or.inr (Or.inr ⟨rfl, rfl, e, by omega, hP2, es.trans y2.symm, 10 * 0 + v, y2, by omega, by omega⟩)))), ⟨rfl, rfl, fun i hi => if_neg (by omega)⟩, e43⟩)
  · have en := t_sli_no (q := q) (x := tx k) (u := 0) h4 (by omega) (fun v hv e w => h (by rw [e]; exact t_digI hv))
    have h9 : ¬ tx k = 49 := fun w => h (by rw [w]; decide)
    rw [hp, if_neg h9, if_neg h, en]
    exact Or.inl ⟨rfl, rfl⟩
theorem t_p6 {tx : Nat → Int32} {k a e : Nat} {q : mT} (h1 : q.1 = 4) (hk : k = e + 3) (hP : tP tx q.2.2.2 a e q.2.1) (h4 : q.2.2.2 (3 * q.2.1 + 2) = 1) (h5 : tx (e + 2) = 49) : tRes tx k q a 6 := by
  have hp : qPl (some 6) (tx k) = if tx k = 48 ∨ tx k = 49 then some 7 else qPp (tx k) := rfl
  by_cases h : tx k = 48 ∨ tx k = 49
  · unfold tRes
    obtain ⟨v, ev, hv⟩ : ∃ v, tx k = nI (48 + v) ∧ v ≤ 1 := h.elim (fun w => ⟨0, w, by omega⟩) (fun w => ⟨1, w, by omega⟩)
    have en := t_sli_yes (q := q) (u := 1) (v := v) h4 (by omega) (by omega) (Or.inr rfl)
    have y0 : (upd q.2.2.2 (3 * q.2.1 + 2) (nI (10 * 1 + v))) (3 * q.2.1) = q.2.2.2 (3 * q.2.1) := if_neg (by omega)
    have y1 : (upd q.2.2.2 (3 * q.2.1 + 2) (nI (10 * 1 + v))) (3 * q.2.1 + 1) = q.2.2.2 (3 * q.2.1 + 1) := if_neg (by omega)
    have y2 : (upd q.2.2.2 (3 * q.2.1 + 2) (nI (10 * 1 + v))) (3 * q.2.1 + 2) = nI (10 * 1 + v) := if_pos rfl
    have hP2 : tP tx (upd q.2.2.2 (3 * q.2.1 + 2) (nI (10 * 1 + v))) a e q.2.1 := by
      unfold tP
      rw [y0, y1]
      exact hP
    have e43 : ¬ nI (48 + v) = 43 := fun w => by
      have w2 := (nI_eq (a := 48 + v) (b := 43) (by omega) (by omega)).mp w
      omega
    have es : rSum tx (e + 2) (k + 1 - (e + 2)) = nI (10 * 1 + v) := by
      rw [show k + 1 - (e + 2) = 2 by omega]
      show ((0 : Int32) * 10 + (tx (e + 2 + 0) - 48)) * 10 + (tx (e + 2 + 1) - 48) = _
      rw [show e + 2 + 0 = e + 2 by omega, h5, show e + 2 + 1 = k by omega, ev, show (0 : Int32) * 10 + (49 - 48) = nI 1 by decide]
      exact t_cx 1 v
    rw [t_tk4 h1, hp, if_pos h, ev, t_or_yes (by rw [en]), en]
    exact Or.inr (Or.inl ⟨7, rfl, rfl, Or.inr (Or.inr (Or.inr (Or.inr (Or.inr ⟨rfl, rfl, e, by omega, hP2, es.trans y2.symm, 10 * 1 + v, y2, by omega, by omega⟩)))), ⟨rfl, rfl, fun i hi => if_neg (by omega)⟩, e43⟩)
  · refine t_plus (Or.inr (Or.inl rfl)) (if_neg h) ((t_tk4 h1).trans (t_or_no (t_sli_no (u := 1) h4 (by omega) (fun v hv e w => h ?_))))
    have hv1 : v = 0 ∨ v = 1 := by omega
    rcases hv1 with rfl | rfl
    · exact Or.inl e
    · exact Or.inr e
theorem t_p7 {tx : Nat → Int32} {k a s : Nat} {q : mT} (h1 : q.1 = 4) (h4 : q.2.2.2 (3 * q.2.1 + 2) = nI s) (hs : s < 12) (hs1 : ¬ s = 1) : tRes tx k q a 7 :=
  t_plus (Or.inr (Or.inr rfl)) rfl ((t_tk4 h1).trans (t_or_no (t_sli_no (u := s) h4 hs (fun v hv e w => by rcases w.2 with w2 | w2 <;> omega))))
theorem t_res {tx : Nat → Int32} {k a b : Nat} {q : mT} (h : tSt tx k q a b) : tRes tx k q a b := by
  rcases h with ⟨rfl, h1, h2, h3, h4⟩ | ⟨h1, h2, h3, h4, u, hu, hb⟩ | ⟨rfl, h1, e, hk, hP, h4⟩ | ⟨rfl, h1, e, hk, hP, h4⟩ | ⟨rfl, h1, e, hk, hP, h4, h5⟩ | ⟨rfl, h1, e, hk, hP, h4, s, h5, h6, h7⟩
  · exact t_p0 h1 h2 h3 h4
  · exact t_p1 h1 h2 h3 h4 hu hb
  · exact t_p4 h1 hk hP h4
  · exact t_p5 h1 hk hP h4
  · exact t_p6 h1 hk hP h4 h5
  · exact t_p7 h1 h5 h6 h7
