/-! the class's words and the reference's say the same: falls and steps -/
def cV (z : Nat → Int32) : Nat → Int32 := fun k => z (144 + k)
def cW (z : Nat → Int32) : Nat → Int32 := fun k => z (148 + k)
theorem e_v_upd (z : Nat → Int32) (j p : Nat) (x : Int32) : qV (upd z (48 * j + p) x) j = upd (qV z j) p x := by
  funext k
  show (if 48 * j + k = 48 * j + p then x else z (48 * j + k)) = if k = p then x else z (48 * j + k)
  by_cases h : k = p
  · rw [if_pos h, if_pos (by omega)]
  · rw [if_neg h, if_neg (by omega)]
theorem e_put (z : Nat → Int32) (j s c : Nat) (x : Int32) : qV (upd z (48 * j + (4 * s + c)) (z (48 * j + (4 * s + c)) + x)) j = qPut (qV z j) s c x := e_v_upd z j (4 * s + c) _
theorem e_mput (j s c : Nat) (q : (Nat → Int32) × Int32) (x : Int32) : qV (mPut j s c q x).1 j = qPut (qPut (qV q.1 j) s c (-x)) (s + 1) c x := by
  have e1 : qV (upd q.1 (48 * j + (4 * s + c)) (q.1 (48 * j + (4 * s + c)) - x)) j = qPut (qV q.1 j) s c (-x) := by
    rw [Int32.sub_eq_add_neg]
    exact e_put q.1 j s c (-x)
  rw [← e1]
  exact e_put (upd q.1 (48 * j + (4 * s + c)) (q.1 (48 * j + (4 * s + c)) - x)) j (s + 1) c x
theorem s_cong {f g : Nat → Int32} : ∀ {n : Nat}, (∀ k, k < n → f k = g k) → qS f n = qS g n
  | 0, _ => rfl
  | n + 1, h => by
    show qS f n + f n = qS g n + g n
    rw [s_cong (fun k hk => h k (by omega)), h n (Nat.lt_succ_self n)]
theorem s_add {f : Nat → Int32} {x : Int32} {i : Nat} : ∀ {n : Nat}, i < n → qS (fun k => if k = i then f k + x else f k) n = qS f n + x
  | 0, h => absurd h (Nat.not_lt_zero i)
  | n + 1, h => by
    show qS (fun k => if k = i then f k + x else f k) n + (if n = i then f n + x else f n) = qS f n + f n + x
    by_cases e : n = i
    · rw [if_pos e, s_cong (g := f) (fun k hk => if_neg (by omega)), Int32.add_assoc]
    · rw [if_neg e, s_add (show i < n by omega), Int32.add_assoc, Int32.add_assoc, Int32.add_comm x]
theorem in_put {g : Nat → Int32} {s c : Nat} {x : Int32} (hc : c < 4) : qIn (qPut g s c x) s = qIn g s + x := by
  show qS (fun k => qPut g s c x (4 * s + k)) 4 = qS (fun k => g (4 * s + k)) 4 + x
  rw [← s_add (f := fun k => g (4 * s + k)) (x := x) hc]
  refine s_cong (fun k _ => ?_)
  show (if 4 * s + k = 4 * s + c then g (4 * s + c) + x else g (4 * s + k)) = if k = c then g (4 * s + k) + x else g (4 * s + k)
  by_cases e : k = c
  · rw [if_pos e, if_pos (by omega), e]
  · rw [if_neg e, if_neg (by omega)]
theorem in_put_ne {g : Nat → Int32} {s s2 c : Nat} {x : Int32} (hc : c < 4) (h : s2 ≠ s) : qIn (qPut g s c x) s2 = qIn g s2 := s_cong (fun k hk => if_neg (by omega))
theorem e_fac {z : Nat → Int32} {j s : Nat} (hG : mGood z) (hj : j < 3) (hs : s < 12) : mFac z j s = qFac (z 144) (qIn (qV z j) s) := by
  obtain ⟨d, h1, h2, e⟩ := g_fac hG hj hs
  show 1000000 / (1000 + qIn (qV z j) s * z 144 / 10) = 1000000 / (if 1 < 1000 + qIn (qV z j) s * z 144 / 10 then 1000 + qIn (qV z j) s * z 144 / 10 else 1)
  rw [e, if_pos (show (1 : Int32) < nI d from (nI_ltI (a := 1) (by omega) (by omega)).mpr (by omega))]
theorem i_cases (x y : Int32) : x < y ∨ x = y ∨ y < x := by
  rcases Int.lt_trichotomy x.toInt y.toInt with h | h | h
  · exact Or.inl (Int32.lt_iff_toInt_lt.mpr h)
  · exact Or.inr (Or.inl (Int32.toInt_inj.mp h))
  · exact Or.inr (Or.inr (Int32.lt_iff_toInt_lt.mpr h))
theorem i_asym {x y : Int32} (h : x < y) : ¬ y < x := fun q => by
  have h1 := Int32.lt_iff_toInt_lt.mp h
  have h2 := Int32.lt_iff_toInt_lt.mp q
  omega
theorem i_irr (x : Int32) : ¬ x < x := fun q => i_asym q q
theorem i_min (x y : Int32) : (if x < y then x else y) = if y < x then y else x := by
  rcases i_cases x y with h | h | h
  · rw [if_pos h, if_neg (i_asym h)]
  · subst h; rfl
  · rw [if_pos h, if_neg (i_asym h)]
theorem e_room (p a : Int32) : qRoomM p a = qRoom p a := by
  unfold qRoomM qRoom
  rcases i_cases (p - a) 0 with h | h | h
  · rw [if_pos h, if_neg (i_asym h)]
  · rw [h]
  · rw [if_pos h, if_neg (i_asym h)]
theorem e_want {v r n f : Int32} (hr : 0 ≤ r.toInt) : qWant v r n f = qWish v r n f := by
  rw [q_wish]
  unfold qWant
  by_cases h : n * v * f / 100000 = 0 ∧ r < n
  · rw [if_pos h, if_pos h]
    have h1 := Int32.lt_iff_toInt_lt.mp h.2
    by_cases h2 : (1 : Int32) < n
    · rw [if_pos h2]
    · rw [if_neg h2]
      apply Int32.toInt_inj.mp
      have h3 : ¬ (1 : Int32).toInt < n.toInt := fun q => h2 (Int32.lt_iff_toInt_lt.mpr q)
      have h4 : (1 : Int32).toInt = 1 := by decide
      omega
  · rw [if_neg h, if_neg h]
    exact i_min n _
theorem upd_self (f : Nat → Int32) (p : Nat) : upd f p (f p) = f := by
  funext k
  show (if k = p then f p else f k) = f k
  by_cases h : k = p
  · rw [if_pos h, h]
  · rw [if_neg h]
theorem m_put0 (j s c : Nat) (q : (Nat → Int32) × Int32) : (mPut j s c q (nI 0)).1 = q.1 := by
  show upd (upd q.1 (48 * j + (4 * s + c)) (q.1 (48 * j + (4 * s + c)) - 0)) (48 * j + (4 * (s + 1) + c)) (upd q.1 (48 * j + (4 * s + c)) (q.1 (48 * j + (4 * s + c)) - 0) (48 * j + (4 * (s + 1) + c)) + 0) = q.1
  rw [Int32.sub_zero, Int32.add_zero, upd_self, upd_self]
theorem e_fa {z : Nat → Int32} {j s p a : Nat} (hG : mGood z) (hj : j < 3) (hs : s < 11) (hp : z 145 = nI p) (hp5 : p ≤ 5000) (ha : qIn (qV z j) (s + 1) = nI a) (ha5 : a ≤ 5000) : ∀ c, c ≤ 4 → ∃ x : Nat, x ≤ p - a ∧ qV (mFa z j s (mFac z j s) c).1 j = (qFa (qV z j) (cV z) (cW z) s c).1 ∧ (mFa z j s (mFac z j s) c).2 = nI x ∧ (qFa (qV z j) (cV z) (cW z) s c).2 = nI x ∧ qIn (qV (mFa z j s (mFac z j s) c).1 j) (s + 1) = nI (a + x) ∧ (x = 0 → (mFa z j s (mFac z j s) c).1 = z)
  | 0, _ => ⟨0, Nat.zero_le _, rfl, rfl, rfl, ha, fun _ => rfl⟩
  | c + 1, hc => by
    obtain ⟨x, hx, h1, h2, h3, h4, h5⟩ := e_fa hG hj hs hp hp5 ha ha5 c (by omega)
    obtain ⟨f, hf, ef⟩ := g_mfac hG hj (show s < 12 by omega)
    have hZ : mGood (mFa z j s (mFac z j s) c).1 := by rw [ef]; exact g_fa hG hj hs hf c (by omega)
    have out := fun k hk => m_fa_out (z := z) (f := mFac z j s) hj hs k hk c (by omega)
    generalize hQ : mFa z j s (mFac z j s) c = Q at h1 h2 h4 h5 hZ out
    generalize hq : qFa (qV z j) (cV z) (cW z) s c = q at h1 h3
    have hn := g_pos hZ hj (show s < 12 by omega) (show c < 4 by omega)
    have hn5 : (Q.1 (48 * j + (4 * s + c))).toInt ≤ 5000 := by
      have a1 : ∀ k, k < 48 → 0 ≤ (Q.1 (48 * j + k)).toInt := fun k hk => hZ.1 _ (by omega)
      have a2 : (Q.1 (48 * j + (4 * s + c))).toInt ≤ fb_si (fun k => (Q.1 (48 * j + k)).toInt) 48 := g_part (f := fun k => (Q.1 (48 * j + k)).toInt) a1 (by omega)
      have a3 := hZ.2.1 j hj
      omega
    have hv := hZ.2.2.2.2.2.2.1 c (by omega)
    have hr := hZ.2.2.2.2.2.1
    obtain ⟨w, hw1, hw2, -⟩ := g_wish (n := (Q.1 (48 * j + (4 * s + c))).toInt.toNat) (v := (Q.1 (148 + c)).toInt.toNat) (r := (Q.1 147).toInt.toNat) (f := f) (by omega) (by omega) hf (by omega)
    rw [← g_nI hn, ← g_nI (by omega), ← g_nI (by omega)] at hw2
    have ew : mWish Q.1 j s c (mFac z j s) = nI w := by rw [ef]; exact hw2
    have er : mRoom Q.1 j (s + 1) = nI (p - (a + x)) := by
      show qRoomM (Q.1 145) (qIn (qV Q.1 j) (s + 1)) = _
      rw [h4, out 145 (by omega), hp]
      exact g_roomM (by omega) (by omega)
    have ed : ∃ d : Nat, d ≤ p - (a + x) ∧ mDrop Q.1 j s c (mFac z j s) = nI d ∧ qDrop (cW z) (cV z) (qFac (cV z 0) (qIn (qV z j) s)) (qRoom (cV z 1) (qIn (qV z j) (s + 1))) s c q = nI d := by
      have eq1 : qRoom (cV z 1) (qIn (qV z j) (s + 1)) - q.2 = nI (p - (a + x)) := by
        rw [h3, ha, show cV z 1 = nI p from hp, g_room (by omega) (by omega), pk_sub (by omega), Nat.sub_sub]
      have eq2 : qWant (cW z c) (cV z 3) (q.1 (4 * s + c)) (qFac (cV z 0) (qIn (qV z j) s)) = nI w := by
        rw [← ew, ← h1, e_want (r := cV z 3) (show 0 ≤ (z 147).toInt from hG.2.2.2.2.2.1.1), show qFac (cV z 0) (qIn (qV z j) s) = mFac z j s from (e_fac hG hj (by omega)).symm]
        show qWish (z (148 + c)) (z 147) _ _ = qWish (Q.1 (148 + c)) (Q.1 147) _ _
        rw [out (148 + c) (by omega), out 147 (by omega)]
      unfold mDrop qDrop
      rw [ew, er, eq1, eq2, i_min]
      by_cases h : p - (a + x) < w
      · rw [if_pos ((nI_ltI (by omega) (by omega)).mpr h)]
        exact ⟨_, Nat.le_refl _, rfl, rfl⟩
      · rw [if_neg (fun b => h ((nI_ltI (by omega) (by omega)).mp b))]
        exact ⟨w, by omega, rfl, rfl⟩
    obtain ⟨d, hd, e1, e2⟩ := ed
    have em : mFa z j s (mFac z j s) (c + 1) = mPut j s c Q (nI d) := by
      show mPut j s c (mFa z j s (mFac z j s) c) (mDrop (mFa z j s (mFac z j s) c).1 j s c (mFac z j s)) = _
      rw [hQ, e1]
    have eq : qFa (qV z j) (cV z) (cW z) s (c + 1) = (qPut (qPut q.1 s c (-(nI d))) (s + 1) c (nI d), q.2 + nI d) := by
      show (qPut (qPut (qFa (qV z j) (cV z) (cW z) s c).1 s c (-(qDrop (cW z) (cV z) (qFac (cV z 0) (qIn (qV z j) s)) (qRoom (cV z 1) (qIn (qV z j) (s + 1))) s c (qFa (qV z j) (cV z) (cW z) s c)))) (s + 1) c (qDrop (cW z) (cV z) (qFac (cV z 0) (qIn (qV z j) s)) (qRoom (cV z 1) (qIn (qV z j) (s + 1))) s c (qFa (qV z j) (cV z) (cW z) s c)), (qFa (qV z j) (cV z) (cW z) s c).2 + qDrop (cW z) (cV z) (qFac (cV z 0) (qIn (qV z j) s)) (qRoom (cV z 1) (qIn (qV z j) (s + 1))) s c (qFa (qV z j) (cV z) (cW z) s c)) = _
      rw [hq, e2]
    refine ⟨x + d, by omega, ?_, ?_, ?_, ?_, ?_⟩
    · rw [em, eq, e_mput, h1]
    · rw [em]
      show Q.2 + nI d = _
      rw [h2, nI_add]
    · rw [eq]
      show q.2 + nI d = _
      rw [h3, nI_add]
    · rw [em, e_mput, in_put (by omega), in_put_ne (by omega) (by omega), h4, nI_add, Nat.add_assoc]
    · intro h0
      have d0 : d = 0 := by omega
      rw [em, d0]
      exact (m_put0 j s c Q).trans (h5 (by omega))
theorem e_fall {z : Nat → Int32} {j s : Nat} (hG : mGood z) (hj : j < 3) (hs : s < 11) : qV (mFall z j s).1 j = (qFall (qV z j) (cV z) (cW z) s).1 ∧ (mFall z j s).2 = (qFall (qV z j) (cV z) (cW z) s).2 ∧ ∃ x : Nat, x ≤ 5000 ∧ (mFall z j s).2 = nI x ∧ (x = 0 → (mFall z j s).1 = z) := by
  obtain ⟨-, h4, h5⟩ := g_in hG hj (show s + 1 < 12 by omega)
  have hk := hG.2.2.2.1
  obtain ⟨x, hx, h1, h2, h3, -, h6⟩ := e_fa (p := (z 145).toInt.toNat) (a := (qIn (qV z j) (s + 1)).toInt.toNat) hG hj hs (g_nI (by omega)) (by omega) (g_nI h4) (by omega) 4 (Nat.le_refl 4)
  exact ⟨h1, h2.trans h3.symm, x, by omega, h2, h6⟩
theorem e_set {z : Nat → Int32} {j : Nat} (hj : j < 3) {s : Nat} (hs : s < 11) : cV (mFall z j s).1 = cV z ∧ cW (mFall z j s).1 = cW z := ⟨funext fun k => m_fa_out hj hs (144 + k) (by omega) 4 (Nat.le_refl 4), funext fun k => m_fa_out hj hs (148 + k) (by omega) 4 (Nat.le_refl 4)⟩
theorem e_st {z : Nat → Int32} {j : Nat} (hG : mGood z) (hj : j < 3) : ∀ i, i ≤ 11 → qV (mSt z j i).1 j = (qSt (qV z j) (cV z) (cW z) i).1 ∧ (mSt z j i).2 = (qSt (qV z j) (cV z) (cW z) i).2 ∧ (cV (mSt z j i).1 = cV z ∧ cW (mSt z j i).1 = cW z) ∧ ∃ x : Nat, x ≤ 5000 * i ∧ (mSt z j i).2 = nI x ∧ (x = 0 → (mSt z j i).1 = z)
  | 0, _ => ⟨rfl, rfl, ⟨rfl, rfl⟩, 0, by omega, rfl, fun _ => rfl⟩
  | i + 1, hi => by
    obtain ⟨h1, h2, ⟨h3, h4⟩, x, hx, h5, h6⟩ := e_st hG hj i (by omega)
    have hZ := m_good_st hG hj (show i ≤ 11 by omega)
    obtain ⟨a1, a2, y, hy, a3, a4⟩ := e_fall hZ hj (show 10 - i < 11 by omega)
    obtain ⟨b1, b2⟩ := e_set (z := (mSt z j i).1) hj (show 10 - i < 11 by omega)
    rw [h1, h3, h4] at a1 a2
    refine ⟨a1, ?_, ⟨b1.trans h3, b2.trans h4⟩, x + y, by omega, ?_, fun h0 => (a4 (by omega)).trans (h6 (by omega))⟩
    · show (mSt z j i).2 + (mFall (mSt z j i).1 j (10 - i)).2 = _
      rw [h2, a2]
      rfl
    · show (mSt z j i).2 + (mFall (mSt z j i).1 j (10 - i)).2 = _
      rw [h5, a3, nI_add]
/-- a step -/
theorem e_step {z : Nat → Int32} {j : Nat} (hG : mGood z) (hj : j < 3) : qV (mStep z j).1 j = (qStep (qV z j) (cV z) (cW z)).1 ∧ (mStep z j).2 = (qStep (qV z j) (cV z) (cW z)).2 ∧ (cV (mStep z j).1 = cV z ∧ cW (mStep z j).1 = cW z) ∧ ∃ x : Nat, x ≤ 55000 ∧ (mStep z j).2 = nI x ∧ (x = 0 → (mStep z j).1 = z) := e_st hG hj 11 (Nat.le_refl 11)
