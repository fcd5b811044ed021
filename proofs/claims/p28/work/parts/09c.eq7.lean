/-! what the calls do: sums of jars, and rows that stay good -/
def jS (z : Nat → Int32) (j : Nat) : Int := fb_si (fun k => (z (48 * j + k)).toInt) 48
theorem jS_upd {z : Nat → Int32} {j p : Nat} (x : Int32) (hp : p < 48) : jS (upd z (48 * j + p) x) j = jS z j - (z (48 * j + p)).toInt + x.toInt := by
  have h := fb_si_upd (fun k => (z (48 * j + k)).toInt) x.toInt hp
  refine Eq.trans (fb_si_cong (fun k hk => ?_)) h
  show (if 48 * j + k = 48 * j + p then x else z (48 * j + k)).toInt = if k = p then x.toInt else (z (48 * j + k)).toInt
  by_cases e : k = p
  · rw [if_pos e, if_pos (by omega)]
  · rw [if_neg e, if_neg (by omega)]
theorem jS_other {z : Nat → Int32} {i j p : Nat} (x : Int32) (hi : ¬ i = j) (hp : p < 48) : jS (upd z (48 * j + p) x) i = jS z i := fb_si_cong (fun k hk => by
  show (if 48 * i + k = 48 * j + p then x else z (48 * i + k)).toInt = _
  rw [if_neg (by omega)])
theorem jS_hi {z : Nat → Int32} {i q : Nat} (x : Int32) (hi : i < 3) (hq : 144 ≤ q) : jS (upd z q x) i = jS z i := fb_si_cong (fun k hk => by
  show (if 48 * i + k = q then x else z (48 * i + k)).toInt = _
  rw [if_neg (by omega)])
theorem g_all {z : Nat → Int32} {j : Nat} (hG : mGood z) (hj : j < 3) : (qAll (qV z j)).toInt = jS z j := by
  have h1 : ∀ s, s < 12 → (qIn (qV z j) s).toInt = fb_si (fun c => (z (48 * j + (4 * s + c))).toInt) 4 := fun s hs => (g_in hG hj hs).1
  have h2 : fb_si (fun s => (qIn (qV z j) s).toInt) 12 = jS z j := by
    refine Eq.trans (fb_si_cong h1) ?_
    exact (g_four (fun k => (z (48 * j + k)).toInt) 12).symm
  have h3 : jS z j ≤ 5000 := hG.2.1 j hj
  have h4 : (qS (fun s => qIn (qV z j) s) 12).toInt = fb_si (fun s => (qIn (qV z j) s).toInt) 12 := g_qS (f := fun s => qIn (qV z j) s) (fun s hs => (g_in hG hj hs).2.1) (by rw [h2]; omega)
  exact h4.trans h2
theorem g_cell {z : Nat → Int32} {j p : Nat} (hG : mGood z) (hj : j < 3) (hp : p < 48) : 0 ≤ (z (48 * j + p)).toInt ∧ (z (48 * j + p)).toInt ≤ jS z j ∧ jS z j ≤ 5000 :=
  ⟨hG.1 _ (by omega), g_part (f := fun k => (z (48 * j + k)).toInt) (fun k hk => hG.1 _ (by omega)) hp, hG.2.1 j hj⟩
theorem m_good_cell {z : Nat → Int32} {j p : Nat} {x : Int32} (hG : mGood z) (hj : j < 3) (hp : p < 48) (hx : 0 ≤ x.toInt) (h : jS z j - (z (48 * j + p)).toInt + x.toInt ≤ 5000) : mGood (upd z (48 * j + p) x) := by
  have out : ∀ k, 144 ≤ k → upd z (48 * j + p) x k = z k := fun k hk => if_neg (by omega)
  refine ⟨fun k hk => ?_, fun i hi => ?_, ?_, ?_, ?_, ?_, fun c hc => ?_, ?_⟩
  · show 0 ≤ (if k = 48 * j + p then x else z k).toInt
    split
    · exact hx
    · exact hG.1 k hk
  · show jS (upd z (48 * j + p) x) i ≤ 5000
    by_cases e : i = j
    · rw [e, jS_upd x hp]; exact h
    · rw [jS_other x e hp]; exact hG.2.1 i hi
  · rw [out 144 (by omega)]; exact hG.2.2.1
  · rw [out 145 (by omega)]; exact hG.2.2.2.1
  · rw [out 146 (by omega)]; exact hG.2.2.2.2.1
  · rw [out 147 (by omega)]; exact hG.2.2.2.2.2.1
  · rw [out (148 + c) (by omega)]; exact hG.2.2.2.2.2.2.1 c hc
  · rw [out 160 (by omega)]; exact hG.2.2.2.2.2.2.2
theorem m_good_hi {z : Nat → Int32} {q : Nat} {x : Int32} (hG : mGood z) (hq : 144 ≤ q) (h0 : q = 144 → 0 ≤ x.toInt ∧ x.toInt ≤ 1000) (h1 : q = 145 → 10 ≤ x.toInt ∧ x.toInt ≤ 1000) (h2 : q = 146 → 0 ≤ x.toInt ∧ x.toInt ≤ 50) (h3 : q = 147 → 0 ≤ x.toInt ∧ x.toInt ≤ 9) (h4 : 148 ≤ q → q < 152 → 1 ≤ x.toInt ∧ x.toInt ≤ 100) (h5 : q = 160 → 0 ≤ x.toInt ∧ x.toInt ≤ 10000) : mGood (upd z q x) := by
  have sel : ∀ (k : Nat) (P : Int32 → Prop), (k = q → P x) → P (z k) → P (upd z q x k) := fun k P a b => by
    show P (if k = q then x else z k)
    by_cases e : k = q
    · rw [if_pos e]; exact a e
    · rw [if_neg e]; exact b
  refine ⟨fun k hk => ?_, fun i hi => ?_, ?_, ?_, ?_, ?_, fun c hc => ?_, ?_⟩
  · exact sel k (fun y => 0 ≤ y.toInt) (fun e => by omega) (hG.1 k hk)
  · show jS (upd z q x) i ≤ 5000
    rw [jS_hi x hi hq]; exact hG.2.1 i hi
  · exact sel 144 (fun y => 0 ≤ y.toInt ∧ y.toInt ≤ 1000) (fun e => h0 e.symm) hG.2.2.1
  · exact sel 145 (fun y => 10 ≤ y.toInt ∧ y.toInt ≤ 1000) (fun e => h1 e.symm) hG.2.2.2.1
  · exact sel 146 (fun y => 0 ≤ y.toInt ∧ y.toInt ≤ 50) (fun e => h2 e.symm) hG.2.2.2.2.1
  · exact sel 147 (fun y => 0 ≤ y.toInt ∧ y.toInt ≤ 9) (fun e => h3 e.symm) hG.2.2.2.2.2.1
  · exact sel (148 + c) (fun y => 1 ≤ y.toInt ∧ y.toInt ≤ 100) (fun e => h4 (by omega) (by omega)) (hG.2.2.2.2.2.2.1 c hc)
  · exact sel 160 (fun y => 0 ≤ y.toInt ∧ y.toInt ≤ 10000) (fun e => h5 e.symm) hG.2.2.2.2.2.2.2
/-- accounts may hold anything -/
theorem m_good_acc {z : Nat → Int32} {q : Nat} {x : Int32} (hG : mGood z) (hq : (152 ≤ q ∧ q < 160) ∨ q = 161) : mGood (upd z q x) :=
  m_good_hi hG (by omega) (fun e => by omega) (fun e => by omega) (fun e => by omega) (fun e => by omega) (fun a b => by omega) (fun e => by omega)
theorem m_good_bring {z : Nat → Int32} {j s c : Nat} {x : Int32} (hG : mGood z) (hj : j < 3) (hs : s < 12) (hc : c < 4) (hx : 0 ≤ x.toInt) (hx2 : x.toInt ≤ 5000) (hr : qAll (qV z j) + x ≤ 5000) : mGood (mBring z j s c x) := by
  obtain ⟨a1, a2, a3⟩ := g_cell (p := 4 * s + c) hG hj (by omega)
  have e5 : (5000 : Int32).toInt = 5000 := by decide
  have h1 := Int32.le_iff_toInt_le.mp hr
  rw [fb_addI (by rw [g_all hG hj]; omega) (by rw [g_all hG hj]; omega), g_all hG hj, e5] at h1
  have e1 : (z (48 * j + (4 * s + c)) + x).toInt = (z (48 * j + (4 * s + c))).toInt + x.toInt := fb_addI (by omega) (by omega)
  exact m_good_acc (m_good_cell hG hj (by omega) (by rw [e1]; omega) (by rw [e1]; omega)) (by omega)
theorem v_bring {z : Nat → Int32} {j s c : Nat} {x : Int32} (hj : j < 3) (hs : s < 12) (hc : c < 4) : (∀ i k, i < 3 → k < 48 → mBring z j s c x (48 * i + k) = if i = j then qPut (qV z j) s c x k else z (48 * i + k)) ∧ ∀ k, 144 ≤ k → mBring z j s c x k = if k = 152 + c then z (152 + c) + x else z k := by
  refine ⟨fun i k hi hk => ?_, fun k hk => ?_⟩
  · show upd (upd z (48 * j + (4 * s + c)) (z (48 * j + (4 * s + c)) + x)) (152 + c) _ (48 * i + k) = _
    have e1 : upd (upd z (48 * j + (4 * s + c)) (z (48 * j + (4 * s + c)) + x)) (152 + c) (upd z (48 * j + (4 * s + c)) (z (48 * j + (4 * s + c)) + x) (152 + c) + x) (48 * i + k) = upd z (48 * j + (4 * s + c)) (z (48 * j + (4 * s + c)) + x) (48 * i + k) := if_neg (by omega)
    rw [e1]
    by_cases e : i = j
    · rw [if_pos e, e, ← e_put z j s c x]
      rfl
    · rw [if_neg e]
      exact if_neg (by omega)
  · show upd (upd z (48 * j + (4 * s + c)) (z (48 * j + (4 * s + c)) + x)) (152 + c) (upd z (48 * j + (4 * s + c)) (z (48 * j + (4 * s + c)) + x) (152 + c) + x) k = _
    have e1 : ∀ k, 144 ≤ k → upd z (48 * j + (4 * s + c)) (z (48 * j + (4 * s + c)) + x) k = z k := fun k hk => if_neg (by omega)
    rw [e1 (152 + c) (by omega)]
    show (if k = 152 + c then _ else _) = _
    rw [e1 k hk]
/-! turning -/
theorem i_ts (a b : Int32) : a + (b - a) = b := by rw [Int32.add_comm, Int32.sub_add_cancel]
theorem i_tn (a b : Int32) : b + -(b - a) = a := by rw [Int32.neg_sub, i_ts]
theorem e_tn (z : Nat → Int32) {j s : Nat} (hs : s < 6) : ∀ c, c ≤ 4 → qV (mTn z j s c) j = qTn (qV z j) s c
  | 0, _ => rfl
  | c + 1, hc => by
    have ih := e_tn z (j := j) hs c (by omega)
    show qV (upd (upd (mTn z j s c) (48 * j + (4 * s + c)) (mTn z j s c (48 * j + (4 * (11 - s) + c)))) (48 * j + (4 * (11 - s) + c)) (mTn z j s c (48 * j + (4 * s + c)))) j = qPut (qPut (qTn (qV z j) s c) s c (qTn (qV z j) s c (4 * (11 - s) + c) - qTn (qV z j) s c (4 * s + c))) (11 - s) c (-(qTn (qV z j) s c (4 * (11 - s) + c) - qTn (qV z j) s c (4 * s + c)))
    rw [← ih, e_v_upd, e_v_upd]
    have e1 : qPut (qV (mTn z j s c) j) s c (qV (mTn z j s c) j (4 * (11 - s) + c) - qV (mTn z j s c) j (4 * s + c)) = upd (qV (mTn z j s c) j) (4 * s + c) (qV (mTn z j s c) j (4 * (11 - s) + c)) := by
      show upd (qV (mTn z j s c) j) (4 * s + c) (qV (mTn z j s c) j (4 * s + c) + (qV (mTn z j s c) j (4 * (11 - s) + c) - qV (mTn z j s c) j (4 * s + c))) = _
      rw [i_ts]
    rw [e1]
    have e2 : upd (qV (mTn z j s c) j) (4 * s + c) (qV (mTn z j s c) j (4 * (11 - s) + c)) (4 * (11 - s) + c) = qV (mTn z j s c) j (4 * (11 - s) + c) := if_neg (by omega)
    show _ = upd (upd (qV (mTn z j s c) j) (4 * s + c) (qV (mTn z j s c) j (4 * (11 - s) + c))) (4 * (11 - s) + c) (upd (qV (mTn z j s c) j) (4 * s + c) (qV (mTn z j s c) j (4 * (11 - s) + c)) (4 * (11 - s) + c) + -(qV (mTn z j s c) j (4 * (11 - s) + c) - qV (mTn z j s c) j (4 * s + c)))
    rw [e2, i_tn]
    rfl
theorem e_turn (z : Nat → Int32) (j : Nat) : ∀ t, t ≤ 6 → qV (mTurn z j t) j = qTurn (qV z j) t
  | 0, _ => rfl
  | t + 1, ht => by
    show qV (mTn (mTurn z j t) j t 4) j = qTn (qTurn (qV z j) t) t 4
    rw [e_tn _ (by omega) 4 (Nat.le_refl 4), e_turn z j t (by omega)]
theorem m_good_swap {z : Nat → Int32} {j p p2 : Nat} (hG : mGood z) (hj : j < 3) (hp : p < 48) (hp2 : p2 < 48) (hne : ¬ p2 = p) : mGood (upd (upd z (48 * j + p) (z (48 * j + p2))) (48 * j + p2) (z (48 * j + p))) := by
  have out : ∀ k, 144 ≤ k → upd (upd z (48 * j + p) (z (48 * j + p2))) (48 * j + p2) (z (48 * j + p)) k = z k := fun k hk => by
    unfold upd
    rw [if_neg (by omega), if_neg (by omega)]
  refine ⟨fun k hk => ?_, fun i hi => ?_, ?_, ?_, ?_, ?_, fun c hc => ?_, ?_⟩
  · show 0 ≤ (if k = 48 * j + p2 then z (48 * j + p) else if k = 48 * j + p then z (48 * j + p2) else z k).toInt
    split
    · exact hG.1 _ (by omega)
    · split
      · exact hG.1 _ (by omega)
      · exact hG.1 k hk
  · show jS (upd (upd z (48 * j + p) (z (48 * j + p2))) (48 * j + p2) (z (48 * j + p))) i ≤ 5000
    by_cases e : i = j
    · have h5 : jS z j ≤ 5000 := hG.2.1 j hj
      rw [e, jS_upd _ hp2, jS_upd _ hp]
      have e1 : upd z (48 * j + p) (z (48 * j + p2)) (48 * j + p2) = z (48 * j + p2) := if_neg (by omega)
      rw [e1]
      omega
    · rw [jS_other _ e hp2, jS_other _ e hp]; exact hG.2.1 i hi
  · rw [out 144 (by omega)]; exact hG.2.2.1
  · rw [out 145 (by omega)]; exact hG.2.2.2.1
  · rw [out 146 (by omega)]; exact hG.2.2.2.2.1
  · rw [out 147 (by omega)]; exact hG.2.2.2.2.2.1
  · rw [out (148 + c) (by omega)]; exact hG.2.2.2.2.2.2.1 c hc
  · rw [out 160 (by omega)]; exact hG.2.2.2.2.2.2.2
theorem m_tn {z : Nat → Int32} {j s : Nat} (hG : mGood z) (hj : j < 3) (hs : s < 6) : ∀ c, c ≤ 4 → mGood (mTn z j s c) ∧ ∀ k, (k < 48 * j ∨ 48 * j + 48 ≤ k) → mTn z j s c k = z k
  | 0, _ => ⟨hG, fun _ _ => rfl⟩
  | c + 1, hc => by
    obtain ⟨h1, h2⟩ := m_tn hG hj hs c (by omega)
    refine ⟨m_good_swap h1 hj (by omega) (by omega) (by omega), fun k hk => ?_⟩
    rw [← h2 k hk]
    show upd (upd (mTn z j s c) (48 * j + (4 * s + c)) (mTn z j s c (48 * j + (4 * (11 - s) + c)))) (48 * j + (4 * (11 - s) + c)) (mTn z j s c (48 * j + (4 * s + c))) k = _
    unfold upd
    rw [if_neg (by omega), if_neg (by omega)]
theorem m_turn {z : Nat → Int32} {j : Nat} (hG : mGood z) (hj : j < 3) : ∀ t, t ≤ 6 → mGood (mTurn z j t) ∧ ∀ k, (k < 48 * j ∨ 48 * j + 48 ≤ k) → mTurn z j t k = z k
  | 0, _ => ⟨hG, fun _ _ => rfl⟩
  | t + 1, ht => by
    obtain ⟨h1, h2⟩ := m_turn hG hj t (by omega)
    obtain ⟨h3, h4⟩ := m_tn (s := t) h1 hj (by omega) 4 (Nat.le_refl 4)
    exact ⟨h3, fun k hk => (h4 k hk).trans (h2 k hk)⟩
