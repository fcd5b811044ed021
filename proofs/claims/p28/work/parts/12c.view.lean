theorem m_good_cong {z y : Nat → Int32} (h : ∀ k, k < 162 → z k = y k) (hG : mGood z) : mGood y := by
  refine ⟨fun k hk => ?_, fun j hj => ?_, ?_, ?_, ?_, ?_, fun c hc => ?_, ?_⟩
  · rw [← h k (by omega)]; exact hG.1 k hk
  · refine Int.le_trans (Int.le_of_eq (fb_si_cong (fun k hk => ?_))) (hG.2.1 j hj)
    rw [← h (48 * j + k) (by omega)]
  · rw [← h 144 (by omega)]; exact hG.2.2.1
  · rw [← h 145 (by omega)]; exact hG.2.2.2.1
  · rw [← h 146 (by omega)]; exact hG.2.2.2.2.1
  · rw [← h 147 (by omega)]; exact hG.2.2.2.2.2.1
  · rw [← h (148 + c) (by omega)]; exact hG.2.2.2.2.2.2.1 c hc
  · rw [← h 160 (by omega)]; exact hG.2.2.2.2.2.2.2
/-! what each call leaves: the class's state is the reference's row again -/
section ZVW
theorem w_mono {f : Nat → Int} {m n : Nat} (h : ∀ k, k < n → 0 ≤ f k) (hm : m ≤ n) : fb_si f m ≤ fb_si f n := by
  have e := fb_si_split f m (n - m)
  rw [show m + (n - m) = n by omega] at e
  have h2 := g_nn (f := fun k => f (m + k)) (n := n - m) (fun k hk => h (m + k) (by omega))
  omega
variable {z y : Nat → Int32} {j : Nat}
/-- one jar changed -/
theorem v_sel (g : (Nat → Int32) → Nat → Int32) (hj : j < 3) (h1 : ∀ k, k < 48 → y (48 * j + k) = g (qV z j) k) (h2 : ∀ i k, i < 3 → ¬ i = j → k < 48 → y (48 * i + k) = z (48 * i + k)) :
    (∀ k, k < 48 → (if j = 0 then g (qV z 0) else qV z 0) k = qV y 0 k) ∧ (∀ k, k < 48 → (if j = 1 then g (qV z 1) else qV z 1) k = qV y 1 k) ∧ (∀ k, k < 48 → (if j = 2 then g (qV z 2) else qV z 2) k = qV y 2 k) := by
  have key : ∀ i k, i < 3 → k < 48 → (if j = i then g (qV z i) else qV z i) k = qV y i k := by
    intro i k hi hk
    by_cases e : j = i
    · rw [if_pos e, ← e]
      exact (h1 k hk).symm
    · rw [if_neg e]
      exact (h2 i k hi (fun q => e q.symm) hk).symm
  exact ⟨fun k hk => key 0 k (by omega) hk, fun k hk => key 1 k (by omega) hk, fun k hk => key 2 k (by omega) hk⟩
theorem z_g {x : Int32} (h : 0 ≤ x) : 0 ≤ x.toInt := Int32.le_iff_toInt_le.mp h
theorem z_gl {x c : Int32} (h : x ≤ c) : x.toInt ≤ c.toInt := Int32.le_iff_toInt_le.mp h
theorem z_sg {x c : Int32} (h : c ≤ x) : c.toInt ≤ x.toInt := Int32.le_iff_toInt_le.mp h
/-- a place told by its bounds -/
theorem z_nat {x : Int32} {k : Nat} (hk : k < 2 ^ 31) (h : 0 ≤ x ∧ x ≤ nI k) : ∃ j : Nat, j < k + 1 ∧ x = nI j := by
  have h1 := z_g h.1
  have h2 := z_gl h.2
  rw [nI_toInt hk] at h2
  exact ⟨x.toInt.toNat, by omega, g_nI h1⟩
/-- settings -/
theorem w_hi {q : Nat} {x : Int32} (hq : 144 ≤ q) : (∀ i k, i < 3 → k < 48 → upd z q x (48 * i + k) = z (48 * i + k)) := fun i k hi hk => if_neg (by omega)
theorem w_set {k1 : Nat} {x2 : Int32} (hG : mGood z) (hk : k1 < 4) (h2 : qLo k1 ≤ x2 ∧ x2 ≤ qUp k1) : vEq (upd (cV z) k1 x2) (cW z) (qV z 0) (qV z 1) (qV z 2) (cP z) (cR z) (z 160) (z 161) (upd z (144 + k1) x2) ∧ mGood (upd z (144 + k1) x2) := by
  have hi := w_hi (z := z) (q := 144 + k1) (x := x2) (by omega)
  refine ⟨⟨fun k _ => ?_, fun k hk => ?_, fun k hk => (hi 0 k (by omega) hk).symm, fun k hk => (hi 1 k (by omega) hk).symm, fun k hk => (hi 2 k (by omega) hk).symm, fun k hk => ?_, fun k hk => ?_, (if_neg (by omega)).symm, (if_neg (by omega)).symm⟩, ?_⟩
  · show (if k = k1 then x2 else z (144 + k)) = if 144 + k = 144 + k1 then x2 else z (144 + k)
    by_cases e : k = k1
    · rw [if_pos e, if_pos (by omega)]
    · rw [if_neg e, if_neg (by omega)]
  · exact (if_neg (show ¬ 148 + k = 144 + k1 by omega)).symm
  · exact (if_neg (show ¬ 152 + k = 144 + k1 by omega)).symm
  · exact (if_neg (show ¬ 156 + k = 144 + k1 by omega)).symm
  · have a1 := z_sg h2.1
    have a2 := z_gl h2.2
    rcases z_cases4 hk with rfl | rfl | rfl | rfl
    · have b1 : (qLo 0).toInt = 0 := by decide
      have b2 : (qUp 0).toInt = 1000 := by decide
      exact m_good_hi hG (by omega) (fun _ => by omega) (fun e => by omega) (fun e => by omega) (fun e => by omega) (fun a b => by omega) (fun e => by omega)
    · have b1 : (qLo 1).toInt = 10 := by decide
      have b2 : (qUp 1).toInt = 1000 := by decide
      exact m_good_hi hG (by omega) (fun e => by omega) (fun _ => by omega) (fun e => by omega) (fun e => by omega) (fun a b => by omega) (fun e => by omega)
    · have b1 : (qLo 2).toInt = 0 := by decide
      have b2 : (qUp 2).toInt = 50 := by decide
      exact m_good_hi hG (by omega) (fun e => by omega) (fun e => by omega) (fun _ => by omega) (fun e => by omega) (fun a b => by omega) (fun e => by omega)
    · have b1 : (qLo 3).toInt = 0 := by decide
      have b2 : (qUp 3).toInt = 9 := by decide
      exact m_good_hi hG (by omega) (fun e => by omega) (fun e => by omega) (fun e => by omega) (fun _ => by omega) (fun a b => by omega) (fun e => by omega)
theorem w_setSpeed {k1 : Nat} {x2 : Int32} (hG : mGood z) (hk : k1 < 4) (h2 : 1 ≤ x2 ∧ x2 ≤ 100) : vEq (cV z) (upd (cW z) k1 x2) (qV z 0) (qV z 1) (qV z 2) (cP z) (cR z) (z 160) (z 161) (upd z (148 + k1) x2) ∧ mGood (upd z (148 + k1) x2) := by
  have hi := w_hi (z := z) (q := 148 + k1) (x := x2) (by omega)
  refine ⟨⟨fun k hk => ?_, fun k _ => ?_, fun k hk => (hi 0 k (by omega) hk).symm, fun k hk => (hi 1 k (by omega) hk).symm, fun k hk => (hi 2 k (by omega) hk).symm, fun k hk => ?_, fun k hk => ?_, (if_neg (by omega)).symm, (if_neg (by omega)).symm⟩, ?_⟩
  · exact (if_neg (show ¬ 144 + k = 148 + k1 by omega)).symm
  · show (if k = k1 then x2 else z (148 + k)) = if 148 + k = 148 + k1 then x2 else z (148 + k)
    by_cases e : k = k1
    · rw [if_pos e, if_pos (by omega)]
    · rw [if_neg e, if_neg (by omega)]
  · exact (if_neg (show ¬ 152 + k = 148 + k1 by omega)).symm
  · exact (if_neg (show ¬ 156 + k = 148 + k1 by omega)).symm
  · have a1 := z_sg h2.1
    have a2 := z_gl h2.2
    have b1 : (1 : Int32).toInt = 1 := by decide
    have b2 : (100 : Int32).toInt = 100 := by decide
    exact m_good_hi hG (by omega) (fun e => by omega) (fun e => by omega) (fun e => by omega) (fun e => by omega) (fun a b => by omega) (fun e => by omega)
/-- what stays where only a jar's cells and some of a row change -/
theorem v_lo {y z : Nat → Int32} (h : ∀ k, 144 ≤ k → y k = z k) : (∀ k, k < 4 → cV z k = cV y k) ∧ (∀ k, k < 4 → cW z k = cW y k) ∧ (∀ k, k < 4 → cP z k = cP y k) ∧ (∀ k, k < 4 → cR z k = cR y k) ∧ z 160 = y 160 ∧ z 161 = y 161 :=
  ⟨fun k _ => (h (144 + k) (by omega)).symm, fun k _ => (h (148 + k) (by omega)).symm, fun k _ => (h (152 + k) (by omega)).symm, fun k _ => (h (156 + k) (by omega)).symm, (h 160 (by omega)).symm, (h 161 (by omega)).symm⟩
theorem w_pour {j1 s1 k1 : Nat} {x4 : Int32} (hG : mGood z) (hj : j1 < 3) (hs : s1 < 12) (hk : k1 < 4) (h2 : 1 ≤ x4 ∧ x4 ≤ 999) (h3 : qAll (qV z j1) + x4 ≤ 5000) :
    vEq (cV z) (cW z) (if j1 = 0 then qPut (qV z 0) s1 k1 x4 else qV z 0) (if j1 = 1 then qPut (qV z 1) s1 k1 x4 else qV z 1) (if j1 = 2 then qPut (qV z 2) s1 k1 x4 else qV z 2) (upd (cP z) k1 (cP z k1 + x4)) (cR z) (z 160) (z 161) (mBring z j1 s1 k1 x4) ∧ mGood (mBring z j1 s1 k1 x4) ∧ qIn (qPut (zG j1 (qV z 0) (qV z 1) (qV z 2)) s1 k1 x4) s1 = qIn (qV (mBring z j1 s1 k1 x4) j1) s1 := by
  obtain ⟨a, b⟩ := v_bring (z := z) (x := x4) hj hs hk
  have hsel := v_sel (z := z) (y := mBring z j1 s1 k1 x4) (fun f => qPut f s1 k1 x4) hj (fun k hk => (a j1 k hj hk).trans (if_pos rfl)) (fun i k hi hne hk => (a i k hi hk).trans (if_neg hne))
  have b' : ∀ k, 144 ≤ k → ¬ k = 152 + k1 → mBring z j1 s1 k1 x4 k = z k := fun k h e => (b k h).trans (if_neg e)
  have c1 := z_sg h2.1
  have c2 := z_gl h2.2
  have d1 : (1 : Int32).toInt = 1 := by decide
  have d2 : (999 : Int32).toInt = 999 := by decide
  refine ⟨⟨fun k hk => (b' _ (by omega) (by omega)).symm, fun k hk => (b' _ (by omega) (by omega)).symm, hsel.1, hsel.2.1, hsel.2.2, fun k hk4 => ?_, fun k hk => (b' _ (by omega) (by omega)).symm, (b' _ (by omega) (by omega)).symm, (b' _ (by omega) (by omega)).symm⟩, m_good_bring hG hj hs hk (by omega) (by omega) h3, ?_⟩
  · show (if k = k1 then z (152 + k1) + x4 else z (152 + k)) = mBring z j1 s1 k1 x4 (152 + k)
    rw [b (152 + k) (by omega)]
    by_cases e : k = k1
    · rw [if_pos e, if_pos (by omega)]
    · rw [if_neg e, if_neg (by omega)]
  · have e1 : zG j1 (qV z 0) (qV z 1) (qV z 2) = qV z j1 := by rcases z_cases3 hj with rfl | rfl | rfl <;> rfl
    rw [e1]
    refine s_cong (fun c hc => ?_)
    exact ((a j1 (4 * s1 + c) hj (by omega)).trans (if_pos rfl)).symm
theorem w_zG {j1 : Nat} (hj : j1 < 3) : zG j1 (qV z 0) (qV z 1) (qV z 2) = qV z j1 := by rcases z_cases3 hj with rfl | rfl | rfl <;> rfl
/-- a jar's cells alone -/
theorem w_jar {y z : Nat → Int32} {j : Nat} (hj : j < 3) (g : (Nat → Int32) → Nat → Int32) (h1 : ∀ k, k < 48 → y (48 * j + k) = g (qV z j) k) (h2 : ∀ k, (k < 48 * j ∨ 48 * j + 48 ≤ k) → y k = z k) :
    vEq (cV z) (cW z) (if j = 0 then g (qV z 0) else qV z 0) (if j = 1 then g (qV z 1) else qV z 1) (if j = 2 then g (qV z 2) else qV z 2) (cP z) (cR z) (z 160) (z 161) y := by
  have hsel := v_sel (z := z) (y := y) g hj h1 (fun i k hi hne hk => h2 _ (by omega))
  obtain ⟨c1, c2, c3, c4, c5, c6⟩ := v_lo (y := y) (z := z) (fun k hk => h2 k (by omega))
  exact ⟨c1, c2, hsel.1, hsel.2.1, hsel.2.2, c3, c4, c5, c6⟩
theorem w_turn {j1 : Nat} (hG : mGood z) (hj : j1 < 3) : vEq (cV z) (cW z) (if j1 = 0 then qTurn (qV z 0) 6 else qV z 0) (if j1 = 1 then qTurn (qV z 1) 6 else qV z 1) (if j1 = 2 then qTurn (qV z 2) 6 else qV z 2) (cP z) (cR z) (z 160) (z 161) (mTurn z j1 6) ∧ mGood (mTurn z j1 6) ∧ qPkd (qTurn (zG j1 (qV z 0) (qV z 1) (qV z 2)) 6) (cV z 1) 12 = qPkd (qV (mTurn z j1 6) j1) (mTurn z j1 6 145) 12 := by
  obtain ⟨a, b⟩ := m_turn hG hj 6 (Nat.le_refl 6)
  have e := e_turn z j1 6 (Nat.le_refl 6)
  refine ⟨w_jar hj (fun f => qTurn f 6) (fun k _ => congrFun e k) b, a, ?_⟩
  rw [w_zG hj, e, b 145 (by omega)]
  rfl
theorem w_stir {j1 a b : Nat} (hG : mGood z) (hj : j1 < 3) (hab : a ≤ b) (hb : b < 12) : vEq (cV z) (cW z) (if j1 = 0 then qStir (qV z 0) a b 4 else qV z 0) (if j1 = 1 then qStir (qV z 1) a b 4 else qV z 1) (if j1 = 2 then qStir (qV z 2) a b 4 else qV z 2) (cP z) (cR z) (z 160) (z 161) (mStir z j1 a b 4).1 ∧ mGood (mStir z j1 a b 4).1 ∧ qSm4 (zG j1 (qV z 0) (qV z 1) (qV z 2)) a b 4 = (mStir z j1 a b 4).2 := by
  obtain ⟨e1, e2, e3, e4⟩ := e_stir hG hj hab hb 4 (Nat.le_refl 4)
  refine ⟨w_jar hj (fun f => qStir f a b 4) (fun k _ => congrFun e1 k) e4, e3, ?_⟩
  rw [w_zG hj, e2]
theorem w_draw {j1 s1 : Nat} {x3 : Int32} (hG : mGood z) (hj : j1 < 3) (hs : s1 < 12) (h2 : 1 ≤ x3 ∧ x3 ≤ 100) :
    vEq (cV z) (cW z) (if j1 = 0 then (qDraw (qV z 0) (cR z) s1 x3 4).1 else qV z 0) (if j1 = 1 then (qDraw (qV z 1) (cR z) s1 x3 4).1 else qV z 1) (if j1 = 2 then (qDraw (qV z 2) (cR z) s1 x3 4).1 else qV z 2) (cP z) (qDraw (zG j1 (qV z 0) (qV z 1) (qV z 2)) (cR z) s1 x3 4).2.1 (z 160) (z 161) (mDraw z j1 s1 x3 4).1 ∧ mGood (mDraw z j1 s1 x3 4).1 ∧ (qDraw (zG j1 (qV z 0) (qV z 1) (qV z 2)) (cR z) s1 x3 4).2.2 = (mDraw z j1 s1 x3 4).2 := by
  have c1 := z_sg h2.1
  have c2 := z_gl h2.2
  have d1 : (1 : Int32).toInt = 1 := by decide
  have d2 : (100 : Int32).toInt = 100 := by decide
  obtain ⟨w, hw, rfl⟩ : ∃ w : Nat, w ≤ 100 ∧ x3 = nI w := ⟨x3.toInt.toNat, by omega, g_nI (by omega)⟩
  obtain ⟨e1, e2, e3, e4, e5⟩ := e_draw hG hj hs hw 4 (Nat.le_refl 4)
  have hsel := v_sel (z := z) (y := (mDraw z j1 s1 (nI w) 4).1) (fun f => (qDraw f (cR z) s1 (nI w) 4).1) hj e1 (fun i k hi hne hk => e5 _ (by omega) (by omega))
  rw [w_zG hj]
  exact ⟨⟨fun k hk => (e5 _ (by omega) (by omega)).symm, fun k hk => (e5 _ (by omega) (by omega)).symm, hsel.1, hsel.2.1, hsel.2.2, fun k hk => (e5 _ (by omega) (by omega)).symm, fun k hk => (e2 k hk).symm, (e5 _ (by omega) (by omega)).symm, (e5 _ (by omega) (by omega)).symm⟩, e4, e3.symm⟩
theorem w_decant {j1 j2 t : Nat} (hG : mGood z) (hj : j1 < 3) (hj2 : j2 < 3) (ht : t < 12) (hne : ¬ j1 = j2) (h3 : qAll (qV z j2) + qTo (qV z j1) (t + 1) ≤ 5000) :
    vEq (cV z) (cW z) (qDec (qV z 0) (qV z 1) (qV z 2) j1 j2 (t + 1) 0) (qDec (qV z 0) (qV z 1) (qV z 2) j1 j2 (t + 1) 1) (qDec (qV z 0) (qV z 1) (qV z 2) j1 j2 (t + 1) 2) (cP z) (cR z) (z 160) (z 161) (mDec z j1 j2 (4 * (t + 1))) ∧ mGood (mDec z j1 j2 (4 * (t + 1))) ∧ qTo (zG j1 (qV z 0) (qV z 1) (qV z 2)) (t + 1) = qTo (qV z j1) (t + 1) := by
  obtain ⟨a1, a2⟩ := e_dec z hj hj2 hne (show t + 1 ≤ 12 by omega)
  obtain ⟨-, -, a3⟩ := mDec_at z hj hj2 hne (4 * (t + 1)) (by omega)
  have key : ∀ i k, i < 3 → k < 48 → qDec (qV z 0) (qV z 1) (qV z 2) j1 j2 (t + 1) i k = qV (mDec z j1 j2 (4 * (t + 1))) i k := by
    intro i k hi hk
    unfold qDec
    rw [w_zG hj, w_zG hj2]
    by_cases e1 : i = j1
    · rw [if_pos e1, e1]; exact (a1 k hk).symm
    · rw [if_neg e1]
      by_cases e2 : i = j2
      · rw [if_pos e2, e2]; exact (a2 k hk).symm
      · rw [if_neg e2, w_zG hi]
        exact (a3 (48 * i + k) (by omega) (by omega)).symm
  obtain ⟨c1, c2, c3, c4, c5, c6⟩ := v_lo (y := mDec z j1 j2 (4 * (t + 1))) (z := z) (fun k hk => a3 k (by omega) (by omega))
  have s1 := g_all hG hj2
  have s2 := g_to hG hj (show t + 1 ≤ 12 by omega)
  have s3 : jS z j2 ≤ 5000 := hG.2.1 j2 hj2
  have s4 : jS z j1 ≤ 5000 := hG.2.1 j1 hj
  have s5 := z_gl h3
  have s6 : (5000 : Int32).toInt = 5000 := by decide
  have s7 : 0 ≤ fb_si (fun k => (z (48 * j1 + k)).toInt) (4 * (t + 1)) := g_nn (f := fun k => (z (48 * j1 + k)).toInt) (fun k hk => hG.1 (48 * j1 + k) (by omega))
  have s8 : fb_si (fun k => (z (48 * j1 + k)).toInt) (4 * (t + 1)) ≤ jS z j1 := w_mono (f := fun k => (z (48 * j1 + k)).toInt) (fun k hk => hG.1 (48 * j1 + k) (by omega)) (by omega)
  have s9 : 0 ≤ jS z j2 := g_nn (f := fun k => (z (48 * j2 + k)).toInt) (fun k hk => hG.1 (48 * j2 + k) (by omega))
  rw [fb_addI (by omega) (by omega), s1, s2] at s5
  exact ⟨⟨c1, c2, fun k hk => key 0 k (by omega) hk, fun k hk => key 1 k (by omega) hk, fun k hk => key 2 k (by omega) hk, c3, c4, c5, c6⟩, (m_good_dec hG hj hj2 hne (show 4 * (t + 1) ≤ 48 by omega) (by omega) (4 * (t + 1)) (Nat.le_refl _)).1, by rw [w_zG hj]⟩
theorem w_settle {t : Nat} (hG : mGood z) (h1 : 1 ≤ t ∧ t ≤ 100) (h2 : z 160 + nI t ≤ 10000) :
    vEq (cV z) (cW z) (qGo (cV z) (cW z) t (qV z 0, 0)).1 (qGo (cV z) (cW z) t (qV z 1, 0)).1 (qGo (cV z) (cW z) t (qV z 2, 0)).1 (cP z) (cR z) (z 160 + nI t) (z 161 + ((0 : Int32) + (qGo (cV z) (cW z) t (qV z 0, 0)).2 + (qGo (cV z) (cW z) t (qV z 1, 0)).2 + (qGo (cV z) (cW z) t (qV z 2, 0)).2)) (mSettle z t) ∧ mGood (mSettle z t) ∧ (0 : Int32) + (qGo (cV z) (cW z) t (qV z 0, 0)).2 + (qGo (cV z) (cW z) t (qV z 1, 0)).2 + (qGo (cV z) (cW z) t (qV z 2, 0)).2 = (mRun z (3 * t)).2 := by
  obtain ⟨r1, r2, r3⟩ := e_run hG t
  have g0 := e_go (show 0 < 3 by omega) t z 0 hG
  have g1 := e_go (show 1 < 3 by omega) t z 0 hG
  have g2 := e_go (show 2 < 3 by omega) t z 0 hG
  have hs : (0 : Int32) + (qGo (cV z) (cW z) t (qV z 0, 0)).2 + (qGo (cV z) (cW z) t (qV z 1, 0)).2 + (qGo (cV z) (cW z) t (qV z 2, 0)).2 = (mRun z (3 * t)).2 := by
    rw [g0.2, g1.2, g2.2, r2, Int32.zero_add, Int32.zero_add, Int32.zero_add, Int32.zero_add]
  have hlo : ∀ i k, i < 3 → k < 48 → mSettle z t (48 * i + k) = (mRun z (3 * t)).1 (48 * i + k) := by
    intro i k hi hk
    show upd (upd (mRun z (3 * t)).1 160 _) 161 _ (48 * i + k) = _
    unfold upd
    rw [if_neg (by omega), if_neg (by omega)]
  have hhi : ∀ k, 144 ≤ k → ¬ k = 160 → ¬ k = 161 → mSettle z t k = z k := by
    intro k h a b
    show upd (upd (mRun z (3 * t)).1 160 _) 161 _ k = _
    unfold upd
    rw [if_neg b, if_neg a]
    exact r3 k h
  have jar : ∀ i, i < 3 → ∀ k, k < 48 → qV (mSteps z i t) i k = qV (mSettle z t) i k := fun i hi k hk => ((r1 i hi).1 k hk).symm.trans (hlo i k hi hk).symm
  have e160 : mSettle z t 160 = z 160 + nI t := by
    show upd (upd (mRun z (3 * t)).1 160 _) 161 _ 160 = _
    unfold upd
    rw [if_neg (by decide), if_pos rfl, r3 160 (by omega)]
  have e161 : mSettle z t 161 = z 161 + (mRun z (3 * t)).2 := by
    show upd (upd (mRun z (3 * t)).1 160 _) 161 _ 161 = _
    unfold upd
    rw [if_pos rfl, if_neg (by decide), r3 161 (by omega)]
  refine ⟨⟨fun k hk => (hhi _ (by omega) (by omega) (by omega)).symm, fun k hk => (hhi _ (by omega) (by omega) (by omega)).symm, fun k hk => (congrFun g0.1 k).trans (jar 0 (by omega) k hk), fun k hk => (congrFun g1.1 k).trans (jar 1 (by omega) k hk), fun k hk => (congrFun g2.1 k).trans (jar 2 (by omega) k hk), fun k hk => (hhi _ (by omega) (by omega) (by omega)).symm, fun k hk => (hhi _ (by omega) (by omega) (by omega)).symm, e160.symm, ?_⟩, ?_, hs⟩
  · rw [hs]; exact e161.symm
  · have m1 := m_good_run hG (3 * t)
    have b0 := hG.2.2.2.2.2.2.2
    have b1 := z_gl h2
    have b2 : (10000 : Int32).toInt = 10000 := by decide
    have b3 : (nI t).toInt = (t : Int) := nI_toInt (by omega)
    have b4 : (z 160 + nI t).toInt = (z 160).toInt + t := by rw [fb_addI (by omega) (by omega), b3]
    have m2 : mGood (upd (mRun z (3 * t)).1 160 ((mRun z (3 * t)).1 160 + nI t)) := by
      rw [r3 160 (by omega)]
      exact m_good_hi m1 (by omega) (fun e => by omega) (fun e => by omega) (fun e => by omega) (fun e => by omega) (fun a b => by omega) (fun e => by omega)
    exact m_good_acc m2 (Or.inr rfl)
end ZVW
