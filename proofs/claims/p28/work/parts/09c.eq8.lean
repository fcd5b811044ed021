/-! drawing off -/
theorem i_pct {u w : Nat} (hu : u ≤ 5000) (hw : w ≤ 100) : nI u * nI w / 100 = nI (u * w / 100) ∧ u * w / 100 ≤ u := by
  have h1 : u * w ≤ 5000 * 100 := Nat.mul_le_mul hu hw
  have h2 : u * w ≤ u * 100 := Nat.mul_le_mul_left u hw
  refine ⟨?_, by omega⟩
  rw [pk_mul, show (100 : Int32) = nI 100 from rfl, pk_div (by omega) (by omega) (by omega)]
theorem e_draw {z : Nat → Int32} {j s w : Nat} (hG : mGood z) (hj : j < 3) (hs : s < 12) (hw : w ≤ 100) : ∀ c, c ≤ 4 → (∀ k, k < 48 → (mDraw z j s (nI w) c).1 (48 * j + k) = (qDraw (qV z j) (cR z) s (nI w) c).1 k) ∧ (∀ k, k < 4 → (mDraw z j s (nI w) c).1 (156 + k) = (qDraw (qV z j) (cR z) s (nI w) c).2.1 k) ∧ (mDraw z j s (nI w) c).2 = (qDraw (qV z j) (cR z) s (nI w) c).2.2 ∧ mGood (mDraw z j s (nI w) c).1 ∧ ∀ k, (k < 48 * j ∨ 48 * j + 48 ≤ k) → (k < 156 ∨ 160 ≤ k) → (mDraw z j s (nI w) c).1 k = z k
  | 0, _ => ⟨fun _ _ => rfl, fun _ _ => rfl, rfl, hG, fun _ _ _ => rfl⟩
  | c + 1, hc => by
    obtain ⟨h1, h2, h3, h4, h5⟩ := e_draw hG hj hs hw c (by omega)
    have em : mDraw z j s (nI w) (c + 1) = mDr1 j s c (mDraw z j s (nI w) c) ((mDraw z j s (nI w) c).1 (48 * j + (4 * s + c)) * nI w / 100) := rfl
    have eq : qDraw (qV z j) (cR z) s (nI w) (c + 1) = qDr1 s c (qDraw (qV z j) (cR z) s (nI w) c) ((qDraw (qV z j) (cR z) s (nI w) c).1 (4 * s + c) * nI w / 100) := rfl
    rw [em, eq, ← h1 (4 * s + c) (by omega)]
    generalize mDraw z j s (nI w) c = Q at h1 h2 h3 h4 h5 ⊢
    generalize qDraw (qV z j) (cR z) s (nI w) c = R at h1 h2 h3 ⊢
    obtain ⟨a1, a2, a3⟩ := g_cell (p := 4 * s + c) h4 hj (by omega)
    obtain ⟨u, hu, hu5⟩ : ∃ u, Q.1 (48 * j + (4 * s + c)) = nI u ∧ u ≤ 5000 := ⟨_, g_nI a1, by omega⟩
    obtain ⟨d1, d2⟩ := i_pct hu5 hw
    have ed : Q.1 (48 * j + (4 * s + c)) * nI w / 100 = nI (u * w / 100) := by rw [hu]; exact d1
    rw [ed]
    have au : (Q.1 (48 * j + (4 * s + c))).toInt = u := by rw [hu]; exact nI_toInt (by omega)
    have e0 : Q.1 (48 * j + (4 * s + c)) - nI (u * w / 100) = nI (u - u * w / 100) := by rw [hu, pk_sub d2]
    have e0i : (Q.1 (48 * j + (4 * s + c)) - nI (u * w / 100)).toInt = ((u - u * w / 100 : Nat) : Int) := by rw [e0]; exact nI_toInt (by omega)
    have out : ∀ k, k ≠ 48 * j + (4 * s + c) → upd Q.1 (48 * j + (4 * s + c)) (Q.1 (48 * j + (4 * s + c)) - nI (u * w / 100)) k = Q.1 k := fun k hk => if_neg hk
    refine ⟨fun k hk => ?_, fun k hk => ?_, ?_, ?_, fun k hk hk2 => ?_⟩
    · have e1 : (mDr1 j s c Q (nI (u * w / 100))).1 (48 * j + k) = upd Q.1 (48 * j + (4 * s + c)) (Q.1 (48 * j + (4 * s + c)) - nI (u * w / 100)) (48 * j + k) := if_neg (by omega)
      rw [e1]
      show (if 48 * j + k = 48 * j + (4 * s + c) then Q.1 (48 * j + (4 * s + c)) - nI (u * w / 100) else Q.1 (48 * j + k)) = if k = 4 * s + c then R.1 (4 * s + c) + -(nI (u * w / 100)) else R.1 k
      by_cases e : k = 4 * s + c
      · rw [if_pos e, if_pos (by omega), ← h1 (4 * s + c) (by omega), Int32.sub_eq_add_neg]
      · rw [if_neg e, if_neg (by omega), h1 k hk]
    · show (if 156 + k = 156 + c then upd Q.1 (48 * j + (4 * s + c)) (Q.1 (48 * j + (4 * s + c)) - nI (u * w / 100)) (156 + c) + nI (u * w / 100) else upd Q.1 (48 * j + (4 * s + c)) (Q.1 (48 * j + (4 * s + c)) - nI (u * w / 100)) (156 + k)) = if k = c then R.2.1 c + nI (u * w / 100) else R.2.1 k
      rw [out (156 + c) (by omega), out (156 + k) (by omega)]
      by_cases e : k = c
      · rw [if_pos e, if_pos (by omega), h2 c (by omega)]
      · rw [if_neg e, if_neg (by omega), h2 k hk]
    · show Q.2 + nI (u * w / 100) = R.2.2 + nI (u * w / 100)
      rw [h3]
    · exact m_good_acc (m_good_cell h4 hj (by omega) (by rw [e0i]; omega) (by rw [e0i, au]; omega)) (by omega)
    · rw [← h5 k hk hk2]
      have e1 : (mDr1 j s c Q (nI (u * w / 100))).1 k = upd Q.1 (48 * j + (4 * s + c)) (Q.1 (48 * j + (4 * s + c)) - nI (u * w / 100)) k := if_neg (by omega)
      rw [e1]
      exact out k (by omega)
/-! pouring over -/
theorem qOv_at (g o : Nat → Int32) (s : Nat) : ∀ c, c ≤ 4 → ∀ k, (qOv g o s c).1 k = (if 4 * s ≤ k ∧ k < 4 * s + c then 0 else g k) ∧ (qOv g o s c).2 k = (if 4 * s ≤ k ∧ k < 4 * s + c then o k + g k else o k)
  | 0, _, k => ⟨(if_neg (by omega)).symm, (if_neg (by omega)).symm⟩
  | c + 1, hc, k => by
    have ih := qOv_at g o s c (by omega)
    obtain ⟨b1, b2⟩ := ih (4 * s + c)
    rw [if_neg (by omega)] at b1 b2
    obtain ⟨k1, k2⟩ := ih k
    refine ⟨?_, ?_⟩
    · show (if k = 4 * s + c then (qOv g o s c).1 (4 * s + c) + -((qOv g o s c).1 (4 * s + c)) else (qOv g o s c).1 k) = _
      by_cases e : k = 4 * s + c
      · rw [if_pos e, if_pos (by omega), Int32.add_right_neg]
      · rw [if_neg e, k1]
        by_cases e2 : 4 * s ≤ k ∧ k < 4 * s + c
        · rw [if_pos e2, if_pos (by omega)]
        · rw [if_neg e2, if_neg (by omega)]
    · show (if k = 4 * s + c then (qOv g o s c).2 (4 * s + c) + (qOv g o s c).1 (4 * s + c) else (qOv g o s c).2 k) = _
      by_cases e : k = 4 * s + c
      · rw [if_pos e, if_pos (by omega), b1, b2, e]
      · rw [if_neg e, k2]
        by_cases e2 : 4 * s ≤ k ∧ k < 4 * s + c
        · rw [if_pos e2, if_pos (by omega)]
        · rw [if_neg e2, if_neg (by omega)]
theorem qOver_at (g o : Nat → Int32) : ∀ t, ∀ k, (qOver g o t).1 k = (if k < 4 * t then 0 else g k) ∧ (qOver g o t).2 k = (if k < 4 * t then o k + g k else o k)
  | 0, k => ⟨(if_neg (by omega)).symm, (if_neg (by omega)).symm⟩
  | t + 1, k => by
    obtain ⟨a1, a2⟩ := qOv_at (qOver g o t).1 (qOver g o t).2 t 4 (Nat.le_refl 4) k
    obtain ⟨b1, b2⟩ := qOver_at g o t k
    refine ⟨?_, ?_⟩
    · show (qOv (qOver g o t).1 (qOver g o t).2 t 4).1 k = _
      rw [a1, b1]
      by_cases e : 4 * t ≤ k ∧ k < 4 * t + 4
      · rw [if_pos e, if_pos (by omega)]
      · rw [if_neg e]
        by_cases e2 : k < 4 * t
        · rw [if_pos e2, if_pos (by omega)]
        · rw [if_neg e2, if_neg (by omega)]
    · show (qOv (qOver g o t).1 (qOver g o t).2 t 4).2 k = _
      rw [a2, b1, b2]
      by_cases e : 4 * t ≤ k ∧ k < 4 * t + 4
      · rw [if_pos e, if_neg (show ¬ k < 4 * t by omega), if_neg (show ¬ k < 4 * t by omega), if_pos (by omega)]
      · rw [if_neg e]
        by_cases e2 : k < 4 * t
        · rw [if_pos e2, if_pos (by omega)]
        · rw [if_neg e2, if_neg (by omega)]
theorem mDec_at (z : Nat → Int32) {a b : Nat} (ha : a < 3) (hb : b < 3) (hab : ¬ a = b) : ∀ n, n ≤ 48 → (∀ k, k < 48 → mDec z a b n (48 * a + k) = if k < n then 0 else z (48 * a + k)) ∧ (∀ k, k < 48 → mDec z a b n (48 * b + k) = if k < n then z (48 * b + k) + z (48 * a + k) else z (48 * b + k)) ∧ ∀ k, (k < 48 * a ∨ 48 * a + 48 ≤ k) → (k < 48 * b ∨ 48 * b + 48 ≤ k) → mDec z a b n k = z k
  | 0, _ => ⟨fun k _ => (if_neg (by omega)).symm, fun k _ => (if_neg (by omega)).symm, fun _ _ _ => rfl⟩
  | n + 1, hn => by
    obtain ⟨h1, h2, h3⟩ := mDec_at z ha hb hab n (by omega)
    have n1 := h1 n (by omega)
    have n2 := h2 n (by omega)
    rw [if_neg (by omega)] at n1 n2
    have ex : ∀ k, mDec z a b (n + 1) k = if k = 48 * a + n then 0 else if k = 48 * b + n then z (48 * b + n) + z (48 * a + n) else mDec z a b n k := fun k => by
      show (if k = 48 * a + n then 0 else if k = 48 * b + n then mDec z a b n (48 * b + n) + mDec z a b n (48 * a + n) else mDec z a b n k) = _
      rw [n1, n2]
    refine ⟨fun k hk => ?_, fun k hk => ?_, fun k ka kb => ?_⟩
    · rw [ex]
      by_cases e : k = n
      · rw [if_pos (by omega), if_pos (by omega)]
      · rw [if_neg (by omega), if_neg (by omega), h1 k hk]
        by_cases e2 : k < n
        · rw [if_pos e2, if_pos (by omega)]
        · rw [if_neg e2, if_neg (by omega)]
    · rw [ex, if_neg (by omega)]
      by_cases e : k = n
      · rw [if_pos (by omega), if_pos (by omega), e]
      · rw [if_neg (by omega), h2 k hk]
        by_cases e2 : k < n
        · rw [if_pos e2, if_pos (by omega)]
        · rw [if_neg e2, if_neg (by omega)]
    · rw [ex, if_neg (by omega), if_neg (by omega), h3 k ka kb]
theorem e_dec (z : Nat → Int32) {a b t : Nat} (ha : a < 3) (hb : b < 3) (hab : ¬ a = b) (ht : t ≤ 12) : (∀ k, k < 48 → mDec z a b (4 * t) (48 * a + k) = (qOver (qV z a) (qV z b) t).1 k) ∧ (∀ k, k < 48 → mDec z a b (4 * t) (48 * b + k) = (qOver (qV z a) (qV z b) t).2 k) := by
  obtain ⟨h1, h2, -⟩ := mDec_at z ha hb hab (4 * t) (by omega)
  refine ⟨fun k hk => ?_, fun k hk => ?_⟩
  · rw [h1 k hk, (qOver_at (qV z a) (qV z b) t k).1]
    rfl
  · rw [h2 k hk, (qOver_at (qV z a) (qV z b) t k).2]
    rfl
theorem g_to {z : Nat → Int32} {j : Nat} (hG : mGood z) (hj : j < 3) {n : Nat} (hn : n ≤ 12) : (qTo (qV z j) n).toInt = fb_si (fun k => (z (48 * j + k)).toInt) (4 * n) := by
  have h1 : ∀ s, s < n → (qIn (qV z j) s).toInt = fb_si (fun c => (z (48 * j + (4 * s + c))).toInt) 4 := fun s hs => (g_in hG hj (by omega)).1
  have h2 : fb_si (fun s => (qIn (qV z j) s).toInt) n = fb_si (fun k => (z (48 * j + k)).toInt) (4 * n) := (fb_si_cong h1).trans (g_four (fun k => (z (48 * j + k)).toInt) n).symm
  have h3 : jS z j ≤ 5000 := hG.2.1 j hj
  have h4 := fb_si_split (fun k => (z (48 * j + k)).toInt) (4 * n) (48 - 4 * n)
  rw [show 4 * n + (48 - 4 * n) = 48 by omega] at h4
  have h5 : 0 ≤ fb_si (fun k => (z (48 * j + (4 * n + k))).toInt) (48 - 4 * n) := g_nn (fun k hk => hG.1 _ (by omega))
  have h6 : fb_si (fun k => (z (48 * j + k)).toInt) (4 * n) ≤ 5000 := by
    have : jS z j = fb_si (fun k => (z (48 * j + k)).toInt) (4 * n) + fb_si (fun k => (z (48 * j + (4 * n + k))).toInt) (48 - 4 * n) := h4
    omega
  exact (g_qS (f := fun s => qIn (qV z j) s) (fun s hs => (g_in hG hj (by omega)).2.1) (by rw [h2]; omega)).trans h2
theorem m_good_dec {z : Nat → Int32} {a b N : Nat} (hG : mGood z) (ha : a < 3) (hb : b < 3) (hab : ¬ a = b) (hN : N ≤ 48) (hs : jS z b + fb_si (fun k => (z (48 * a + k)).toInt) N ≤ 5000) : ∀ n, n ≤ N → mGood (mDec z a b n) ∧ jS (mDec z a b n) b = jS z b + fb_si (fun k => (z (48 * a + k)).toInt) n
  | 0, _ => ⟨hG, (Int.add_zero _).symm⟩
  | n + 1, hn => by
    obtain ⟨h1, h2⟩ := m_good_dec hG ha hb hab hN hs n (by omega)
    obtain ⟨d1, d2, -⟩ := mDec_at z ha hb hab n (by omega)
    have n1 := d1 n (by omega)
    have n2 := d2 n (by omega)
    rw [if_neg (by omega)] at n1 n2
    have sp := fb_si_split (fun k => (z (48 * a + k)).toInt) (n + 1) (N - (n + 1))
    rw [show n + 1 + (N - (n + 1)) = N by omega] at sp
    have s5 : 0 ≤ fb_si (fun k => (z (48 * a + (n + 1 + k))).toInt) (N - (n + 1)) := g_nn (fun k hk => hG.1 _ (by omega))
    have s1 : fb_si (fun k => (z (48 * a + k)).toInt) (n + 1) = fb_si (fun k => (z (48 * a + k)).toInt) n + (z (48 * a + n)).toInt := rfl
    have s6 : fb_si (fun k => (z (48 * a + k)).toInt) N = fb_si (fun k => (z (48 * a + k)).toInt) (n + 1) + fb_si (fun k => (z (48 * a + (n + 1 + k))).toInt) (N - (n + 1)) := sp
    obtain ⟨a1, a2, a3⟩ := g_cell (p := n) hG ha (by omega)
    obtain ⟨b1, b2, b3⟩ := g_cell (p := n) hG hb (by omega)
    have e1 : (z (48 * b + n) + z (48 * a + n)).toInt = (z (48 * b + n)).toInt + (z (48 * a + n)).toInt := fb_addI (by omega) (by omega)
    have g1 : mGood (upd (mDec z a b n) (48 * b + n) (mDec z a b n (48 * b + n) + mDec z a b n (48 * a + n))) := by
      rw [n1, n2]
      exact m_good_cell h1 hb (by omega) (by rw [e1]; omega) (by rw [n2, e1, h2]; omega)
    have q1 : 0 ≤ (upd (mDec z a b n) (48 * b + n) (mDec z a b n (48 * b + n) + mDec z a b n (48 * a + n)) (48 * a + n)).toInt := g1.1 _ (by omega)
    have q2 := g1.2.1 a ha
    have z0 : (0 : Int32).toInt = 0 := by decide
    refine ⟨m_good_cell g1 ha (by omega) (by rw [z0]; omega) (by
      show jS (upd (mDec z a b n) (48 * b + n) (mDec z a b n (48 * b + n) + mDec z a b n (48 * a + n))) a - _ + _ ≤ 5000
      have q3 : jS (upd (mDec z a b n) (48 * b + n) (mDec z a b n (48 * b + n) + mDec z a b n (48 * a + n))) a ≤ 5000 := q2
      rw [z0]
      omega), ?_⟩
    show jS (upd (upd (mDec z a b n) (48 * b + n) (mDec z a b n (48 * b + n) + mDec z a b n (48 * a + n))) (48 * a + n) 0) b = _
    rw [jS_other 0 (fun w => hab w.symm) (by omega), jS_upd _ (by omega), n1, n2, e1, h2, s1]
    omega
