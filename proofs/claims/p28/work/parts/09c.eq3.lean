/-! the purest slice, accounts, counts -/
theorem e_pu {z : Nat → Int32} {j c : Nat} (hG : mGood z) (hj : j < 3) (hc : c < 4) : ∀ k, k ≤ 12 → (mPu z j c k = none ∧ qPu (qV z j) c k = (-1, 0, 1)) ∨ ∃ b, b < k ∧ mPu z j c k = some b ∧ qPu (qV z j) c k = (nI b, qV z j (4 * b + c), qIn (qV z j) b)
  | 0, _ => Or.inl ⟨rfl, rfl⟩
  | k + 1, hk => by
    have hgk : 0 ≤ (qV z j (4 * k + c)).toInt := g_pos hG hj (by omega) hc
    have cases0 : ¬ 0 < qV z j (4 * k + c) → qV z j (4 * k + c) = 0 := fun h => by
      apply Int32.toInt_inj.mp
      have h1 : ¬ (0 : Int32).toInt < (qV z j (4 * k + c)).toInt := fun q => h (Int32.lt_iff_toInt_lt.mpr q)
      have h0 : (0 : Int32).toInt = 0 := by decide
      omega
    rcases e_pu hG hj hc k (by omega) with ⟨h1, h2⟩ | ⟨b, hb, h1, h2⟩
    · by_cases h : 0 < qV z j (4 * k + c)
      · refine Or.inr ⟨k, Nat.lt_succ_self k, m_pu_yes (by rw [h1]; exact ⟨h, Or.inl rfl⟩), ?_⟩
        show (if (qPu (qV z j) c k).2.1 * qIn (qV z j) k < qV z j (4 * k + c) * (qPu (qV z j) c k).2.2 then (nI k, qV z j (4 * k + c), qIn (qV z j) k) else qPu (qV z j) c k) = _
        rw [h2]
        exact if_pos (by show (0 : Int32) * qIn (qV z j) k < qV z j (4 * k + c) * 1; rw [Int32.zero_mul, Int32.mul_one]; exact h)
      · refine Or.inl ⟨(m_pu_no (fun q => h q.1)).trans h1, ?_⟩
        show (if (qPu (qV z j) c k).2.1 * qIn (qV z j) k < qV z j (4 * k + c) * (qPu (qV z j) c k).2.2 then (nI k, qV z j (4 * k + c), qIn (qV z j) k) else qPu (qV z j) c k) = _
        rw [h2]
        exact if_neg (by show ¬ (0 : Int32) * qIn (qV z j) k < qV z j (4 * k + c) * 1; rw [Int32.zero_mul, Int32.mul_one]; exact h)
    · have hi := g_in hG hj (show k < 12 by omega)
      have hbb : 0 ≤ (qV z j (4 * b + c)).toInt := g_pos hG hj (by omega) hc
      have hb5 : (qV z j (4 * b + c)).toInt ≤ 5000 := by
        have a1 : ∀ k, k < 48 → 0 ≤ (z (48 * j + k)).toInt := fun k hk => hG.1 _ (by omega)
        have a2 : (z (48 * j + (4 * b + c))).toInt ≤ fb_si (fun k => (z (48 * j + k)).toInt) 48 := g_part (f := fun k => (z (48 * j + k)).toInt) a1 (by omega)
        have a3 := hG.2.1 j hj
        show (z (48 * j + (4 * b + c))).toInt ≤ 5000
        omega
      by_cases h : qV z j (4 * b + c) * qIn (qV z j) k < qV z j (4 * k + c) * qIn (qV z j) b
      · have hp : 0 < qV z j (4 * k + c) := by
          apply Classical.byContradiction
          intro q
          rw [cases0 q, Int32.zero_mul, g_nI hbb, g_nI hi.2.1, pk_mul] at h
          have e1 : (qV z j (4 * b + c)).toInt.toNat * (qIn (qV z j) k).toInt.toNat ≤ 5000 * 5000 := Nat.mul_le_mul (by omega) (by omega)
          exact nI_pos (by omega) h
        refine Or.inr ⟨k, Nat.lt_succ_self k, m_pu_yes (by rw [h1]; exact ⟨hp, Or.inr ⟨b, rfl, h⟩⟩), ?_⟩
        show (if (qPu (qV z j) c k).2.1 * qIn (qV z j) k < qV z j (4 * k + c) * (qPu (qV z j) c k).2.2 then (nI k, qV z j (4 * k + c), qIn (qV z j) k) else qPu (qV z j) c k) = _
        rw [h2]
        exact if_pos h
      · refine Or.inr ⟨b, by omega, (m_pu_no (fun q => ?_)).trans h1, ?_⟩
        · rw [h1] at q
          rcases q.2 with w9 | ⟨b9, w9, w8⟩
          · cases w9
          · cases w9
            exact h w8
        · show (if (qPu (qV z j) c k).2.1 * qIn (qV z j) k < qV z j (4 * k + c) * (qPu (qV z j) c k).2.2 then (nI k, qV z j (4 * k + c), qIn (qV z j) k) else qPu (qV z j) c k) = _
          rw [h2]
          exact if_neg h
theorem e_purest {z : Nat → Int32} {j c : Nat} (hG : mGood z) (hj : j < 3) (hc : c < 4) : zOI (mPu z j c 12) = (qPu (qV z j) c 12).1 := by
  rcases e_pu hG hj hc 12 (Nat.le_refl 12) with ⟨h1, h2⟩ | ⟨b, hb, h1, h2⟩
  · rw [h1, h2]; rfl
  · rw [h1, h2]; rfl
def cP (z : Nat → Int32) : Nat → Int32 := fun k => z (152 + k)
def cR (z : Nat → Int32) : Nat → Int32 := fun k => z (156 + k)
theorem e_gr (z : Nat → Int32) (c k : Nat) : mGr z c k = xGr (cW z) (qV z 0) (qV z 1) (qV z 2) (cP z) (cR z) c k := by
  match k with
  | 0 => rfl
  | 1 => rfl
  | 2 =>
    show qOf (qV z 0) c + qOf (qV z 1) c + qOf (qV z 2) c = (0 : Int32) + qOf (qV z 0) c + qOf (qV z 1) c + qOf (qV z 2) c
    rw [Int32.zero_add]
  | k + 3 => rfl
theorem e_cnt (z : Nat → Int32) (sv k : Nat) : mCnt z sv k = xCnt (cV z) (qV z 0) (qV z 1) (qV z 2) (z 160) (z 161) sv k := by
  match k with
  | 0 => rfl
  | 1 =>
    show qAll (qV z 0) + qAll (qV z 1) + qAll (qV z 2) = (0 : Int32) + qAll (qV z 0) + qAll (qV z 1) + qAll (qV z 2)
    rw [Int32.zero_add]
  | 2 =>
    show qPkd (qV z 0) (z 145) 12 + qPkd (qV z 1) (z 145) 12 + qPkd (qV z 2) (z 145) 12 = (0 : Int32) + qPkd (qV z 0) (z 145) 12 + qPkd (qV z 1) (z 145) 12 + qPkd (qV z 2) (z 145) 12
    rw [Int32.zero_add]
  | 3 =>
    show mClr z 36 = (0 : Int32) + qClrs (qV z 0) (z 146) 12 + qClrs (qV z 1) (z 146) 12 + qClrs (qV z 2) (z 146) 12
    have h1 := s_split (fun k => if qIn (qV z (k / 12)) (k % 12) ≤ z 146 then (1 : Int32) else 0) 12 24
    have h2 := s_split (fun i => if qIn (qV z ((12 + i) / 12)) ((12 + i) % 12) ≤ z 146 then (1 : Int32) else 0) 12 12
    rw [Int32.zero_add]
    refine h1.trans ((congrArg (fun x => qS (fun k => if qIn (qV z (k / 12)) (k % 12) ≤ z 146 then (1 : Int32) else 0) 12 + x) h2).trans ?_)
    rw [← Int32.add_assoc]
    have e0 : qS (fun k => if qIn (qV z (k / 12)) (k % 12) ≤ z 146 then (1 : Int32) else 0) 12 = qClrs (qV z 0) (z 146) 12 := s_cong (fun k hk => by
      show (if qIn (qV z (k / 12)) (k % 12) ≤ z 146 then (1 : Int32) else 0) = if qIn (qV z 0) k ≤ z 146 then 1 else 0
      rw [show k / 12 = 0 by omega, show k % 12 = k by omega])
    have e1 : qS (fun i => if qIn (qV z ((12 + i) / 12)) ((12 + i) % 12) ≤ z 146 then (1 : Int32) else 0) 12 = qClrs (qV z 1) (z 146) 12 := s_cong (fun k hk => by
      show (if qIn (qV z ((12 + k) / 12)) ((12 + k) % 12) ≤ z 146 then (1 : Int32) else 0) = if qIn (qV z 1) k ≤ z 146 then 1 else 0
      rw [show (12 + k) / 12 = 1 by omega, show (12 + k) % 12 = k by omega])
    have e2 : qS (fun i => if qIn (qV z ((12 + (12 + i)) / 12)) ((12 + (12 + i)) % 12) ≤ z 146 then (1 : Int32) else 0) 12 = qClrs (qV z 2) (z 146) 12 := s_cong (fun k hk => by
      show (if qIn (qV z ((12 + (12 + k)) / 12)) ((12 + (12 + k)) % 12) ≤ z 146 then (1 : Int32) else 0) = if qIn (qV z 2) k ≤ z 146 then 1 else 0
      rw [show (12 + (12 + k)) / 12 = 2 by omega, show (12 + (12 + k)) % 12 = k by omega])
    rw [e0, e1, e2]
  | 4 => rfl
  | k + 5 => rfl
/-! steps see one jar alone -/
theorem l_in {g g2 : Nat → Int32} (h : ∀ k, k < 48 → g k = g2 k) {s : Nat} (hs : s < 12) : qIn g s = qIn g2 s := s_cong (fun c hc => h _ (by omega))
theorem l_put {g g2 : Nat → Int32} (h : ∀ k, k < 48 → g k = g2 k) {s c : Nat} {x : Int32} (hs : s < 12) (hc : c < 4) : ∀ k, k < 48 → qPut g s c x k = qPut g2 s c x k := fun k hk => by
  show (if k = 4 * s + c then g (4 * s + c) + x else g k) = if k = 4 * s + c then g2 (4 * s + c) + x else g2 k
  rw [h k hk, h (4 * s + c) (by omega)]
theorem l_fa {g g2 v v2 w w2 : Nat → Int32} (h : ∀ k, k < 48 → g k = g2 k) (hv : ∀ k, k < 4 → v k = v2 k) (hw : ∀ k, k < 4 → w k = w2 k) {s : Nat} (hs : s < 11) : ∀ c, c ≤ 4 → (∀ k, k < 48 → (qFa g v w s c).1 k = (qFa g2 v2 w2 s c).1 k) ∧ (qFa g v w s c).2 = (qFa g2 v2 w2 s c).2
  | 0, _ => ⟨h, rfl⟩
  | c + 1, hc => by
    obtain ⟨h1, h2⟩ := l_fa h hv hw hs c (by omega)
    have e0 : qDrop w v (qFac (v 0) (qIn g s)) (qRoom (v 1) (qIn g (s + 1))) s c (qFa g v w s c) = qDrop w2 v2 (qFac (v2 0) (qIn g2 s)) (qRoom (v2 1) (qIn g2 (s + 1))) s c (qFa g2 v2 w2 s c) := by
      unfold qDrop
      rw [h2, h1 (4 * s + c) (by omega), l_in h (show s < 12 by omega), l_in h (show s + 1 < 12 by omega), hv 0 (by omega), hv 1 (by omega), hv 3 (by omega), hw c (by omega)]
    refine ⟨fun k hk => ?_, ?_⟩
    · show qPut (qPut (qFa g v w s c).1 s c (-(qDrop w v (qFac (v 0) (qIn g s)) (qRoom (v 1) (qIn g (s + 1))) s c (qFa g v w s c)))) (s + 1) c (qDrop w v (qFac (v 0) (qIn g s)) (qRoom (v 1) (qIn g (s + 1))) s c (qFa g v w s c)) k = qPut (qPut (qFa g2 v2 w2 s c).1 s c (-(qDrop w2 v2 (qFac (v2 0) (qIn g2 s)) (qRoom (v2 1) (qIn g2 (s + 1))) s c (qFa g2 v2 w2 s c)))) (s + 1) c (qDrop w2 v2 (qFac (v2 0) (qIn g2 s)) (qRoom (v2 1) (qIn g2 (s + 1))) s c (qFa g2 v2 w2 s c)) k
      rw [e0]
      exact l_put (l_put h1 (by omega) (by omega)) (by omega) (by omega) k hk
    · show (qFa g v w s c).2 + qDrop w v (qFac (v 0) (qIn g s)) (qRoom (v 1) (qIn g (s + 1))) s c (qFa g v w s c) = (qFa g2 v2 w2 s c).2 + qDrop w2 v2 (qFac (v2 0) (qIn g2 s)) (qRoom (v2 1) (qIn g2 (s + 1))) s c (qFa g2 v2 w2 s c)
      rw [e0, h2]
theorem l_st {g g2 v v2 w w2 : Nat → Int32} (h : ∀ k, k < 48 → g k = g2 k) (hv : ∀ k, k < 4 → v k = v2 k) (hw : ∀ k, k < 4 → w k = w2 k) : ∀ i, i ≤ 11 → (∀ k, k < 48 → (qSt g v w i).1 k = (qSt g2 v2 w2 i).1 k) ∧ (qSt g v w i).2 = (qSt g2 v2 w2 i).2
  | 0, _ => ⟨h, rfl⟩
  | i + 1, hi => by
    obtain ⟨h1, h2⟩ := l_st h hv hw i (by omega)
    obtain ⟨a1, a2⟩ := l_fa h1 hv hw (show 10 - i < 11 by omega) 4 (Nat.le_refl 4)
    refine ⟨a1, ?_⟩
    show (qSt g v w i).2 + (qFa (qSt g v w i).1 v w (10 - i) 4).2 = (qSt g2 v2 w2 i).2 + (qFa (qSt g2 v2 w2 i).1 v2 w2 (10 - i) 4).2
    rw [h2, a2]
/-- alike for jar j: its grains, settings and speeds -/
def zEq (j : Nat) (z y : Nat → Int32) : Prop := (∀ k, k < 48 → z (48 * j + k) = y (48 * j + k)) ∧ (∀ k, k < 8 → z (144 + k) = y (144 + k))
theorem zEq_step {j : Nat} {z y : Nat → Int32} (hG : mGood z) (hY : mGood y) (hj : j < 3) (h : zEq j z y) : zEq j (mStep z j).1 (mStep y j).1 ∧ (mStep z j).2 = (mStep y j).2 := by
  obtain ⟨a1, a2, -⟩ := e_step hG hj
  obtain ⟨b1, b2, -⟩ := e_step hY hj
  obtain ⟨c1, c2⟩ := l_st (g := qV z j) (g2 := qV y j) (v := cV z) (v2 := cV y) (w := cW z) (w2 := cW y) h.1 (fun k hk => h.2 k (by omega)) (fun k hk => by
    have q := h.2 (4 + k) (by omega)
    show z (148 + k) = y (148 + k)
    rw [show 148 + k = 144 + (4 + k) by omega]
    exact q) 11 (Nat.le_refl 11)
  refine ⟨⟨fun k hk => ?_, fun k hk => ?_⟩, ?_⟩
  · have e1 := congrFun a1 k
    have e2 := congrFun b1 k
    exact e1.trans ((c1 k hk).trans e2.symm)
  · exact (m_st_out hj (144 + k) (by omega) 11 (Nat.le_refl 11)).trans ((h.2 k hk).trans (m_st_out hj (144 + k) (by omega) 11 (Nat.le_refl 11)).symm)
  · rw [a2, b2]
    exact c2
theorem m_put_other {i j s c : Nat} (hj : j < 3) (hij : ¬ i = j) (hs : s < 11) (hc : c < 4) (q : (Nat → Int32) × Int32) (x : Int32) (k : Nat) (hk : k < 48) : (mPut j s c q x).1 (48 * i + k) = q.1 (48 * i + k) := by
  show upd (upd q.1 _ _) _ _ (48 * i + k) = q.1 (48 * i + k)
  unfold upd
  rw [if_neg (by omega), if_neg (by omega)]
theorem m_st_other {z : Nat → Int32} {i j : Nat} (hj : j < 3) (hij : ¬ i = j) (k : Nat) (hk : k < 48) : ∀ n, n ≤ 11 → (mSt z j n).1 (48 * i + k) = z (48 * i + k)
  | 0, _ => rfl
  | n + 1, hn => by
    have h := m_st_other (z := z) hj hij k hk n (by omega)
    have f : ∀ c, c ≤ 4 → (mFa (mSt z j n).1 j (10 - n) (mFac (mSt z j n).1 j (10 - n)) c).1 (48 * i + k) = (mSt z j n).1 (48 * i + k) := by
      intro c
      induction c with
      | zero => intro _; rfl
      | succ c ih => intro hc; exact (m_put_other hj hij (by omega) (by omega) _ _ k hk).trans (ih (by omega))
    exact (f 4 (Nat.le_refl 4)).trans h
theorem zEq_other {i j : Nat} {z y : Nat → Int32} (hj : j < 3) (hij : ¬ i = j) (h : zEq i z y) : zEq i (mStep z j).1 y :=
  ⟨fun k hk => (m_st_other hj hij k hk 11 (Nat.le_refl 11)).trans (h.1 k hk), fun k hk => (m_st_out hj (144 + k) (by omega) 11 (Nat.le_refl 11)).trans (h.2 k hk)⟩
theorem i_six (a b c d e f : Int32) : a + b + c + d + e + f = a + d + (b + e) + (c + f) := by ac_rfl
theorem e_run {z : Nat → Int32} (hG : mGood z) : ∀ t : Nat, (∀ j, j < 3 → zEq j (mRun z (3 * t)).1 (mSteps z j t)) ∧ (mRun z (3 * t)).2 = mTot z 0 t + mTot z 1 t + mTot z 2 t ∧ ∀ k, 144 ≤ k → (mRun z (3 * t)).1 k = z k
  | 0 => ⟨fun j _ => ⟨fun _ _ => rfl, fun _ _ => rfl⟩, rfl, fun _ _ => rfl⟩
  | t + 1 => by
    obtain ⟨h1, h2, h3⟩ := e_run hG t
    have hZ := m_good_run hG (3 * t)
    have e1 : mRun z (3 * t + 1) = ((mStep (mRun z (3 * t)).1 0).1, (mRun z (3 * t)).2 + (mStep (mRun z (3 * t)).1 0).2) := by
      show ((mStep (mRun z (3 * t)).1 (3 * t % 3)).1, (mRun z (3 * t)).2 + (mStep (mRun z (3 * t)).1 (3 * t % 3)).2) = _
      rw [show 3 * t % 3 = 0 by omega]
    have e2 : mRun z (3 * t + 2) = ((mStep (mRun z (3 * t + 1)).1 1).1, (mRun z (3 * t + 1)).2 + (mStep (mRun z (3 * t + 1)).1 1).2) := by
      show ((mStep (mRun z (3 * t + 1)).1 ((3 * t + 1) % 3)).1, (mRun z (3 * t + 1)).2 + (mStep (mRun z (3 * t + 1)).1 ((3 * t + 1) % 3)).2) = _
      rw [show (3 * t + 1) % 3 = 1 by omega]
    have e3 : mRun z (3 * (t + 1)) = ((mStep (mRun z (3 * t + 2)).1 2).1, (mRun z (3 * t + 2)).2 + (mStep (mRun z (3 * t + 2)).1 2).2) := by
      show ((mStep (mRun z (3 * t + 2)).1 ((3 * t + 2) % 3)).1, (mRun z (3 * t + 2)).2 + (mStep (mRun z (3 * t + 2)).1 ((3 * t + 2) % 3)).2) = _
      rw [show (3 * t + 2) % 3 = 2 by omega]
    rw [e1] at e2
    have g1 : mGood (mStep (mRun z (3 * t)).1 0).1 := m_good_st hZ (show 0 < 3 by omega) (Nat.le_refl 11)
    have g2 : mGood (mStep (mStep (mRun z (3 * t)).1 0).1 1).1 := m_good_st g1 (show 1 < 3 by omega) (Nat.le_refl 11)
    obtain ⟨a1, a2⟩ := zEq_step hZ (m_good_steps hG (show 0 < 3 by omega) t) (show 0 < 3 by omega) (h1 0 (by omega))
    have b0 := zEq_other (i := 1) (show 0 < 3 by omega) (by omega) (h1 1 (by omega))
    obtain ⟨b1, b2⟩ := zEq_step g1 (m_good_steps hG (show 1 < 3 by omega) t) (show 1 < 3 by omega) b0
    have c0 := zEq_other (i := 2) (show 1 < 3 by omega) (by omega) (zEq_other (i := 2) (show 0 < 3 by omega) (by omega) (h1 2 (by omega)))
    obtain ⟨c1, c2⟩ := zEq_step g2 (m_good_steps hG (show 2 < 3 by omega) t) (show 2 < 3 by omega) c0
    have f1 : (mRun z (3 * (t + 1))).1 = (mStep (mStep (mStep (mRun z (3 * t)).1 0).1 1).1 2).1 := by simp only [e3, e2]
    have f2 : (mRun z (3 * (t + 1))).2 = (mRun z (3 * t)).2 + (mStep (mRun z (3 * t)).1 0).2 + (mStep (mStep (mRun z (3 * t)).1 0).1 1).2 + (mStep (mStep (mStep (mRun z (3 * t)).1 0).1 1).1 2).2 := by simp only [e3, e2]
    have t0 : ∀ j, mSteps z j (t + 1) = (mStep (mSteps z j t) j).1 := fun _ => rfl
    have u0 : ∀ j, mTot z j (t + 1) = mTot z j t + (mStep (mSteps z j t) j).2 := fun _ => rfl
    refine ⟨fun j hj => ?_, ?_, fun k hk => ?_⟩
    · rw [f1, t0]
      obtain rfl | rfl | rfl := z_cases3 hj
      · exact zEq_other (show 2 < 3 by omega) (by omega) (zEq_other (show 1 < 3 by omega) (by omega) a1)
      · exact zEq_other (show 2 < 3 by omega) (by omega) b1
      · exact c1
    · rw [f2, u0, u0, u0, h2, a2, b2, c2]
      exact i_six _ _ _ _ _ _
    · rw [f1]
      have k1 := m_st_out (z := (mStep (mStep (mRun z (3 * t)).1 0).1 1).1) (show 2 < 3 by omega) k hk 11 (Nat.le_refl 11)
      have k2 := m_st_out (z := (mStep (mRun z (3 * t)).1 0).1) (show 1 < 3 by omega) k hk 11 (Nat.le_refl 11)
      have k3 := m_st_out (z := (mRun z (3 * t)).1) (show 0 < 3 by omega) k hk 11 (Nat.le_refl 11)
      exact k1.trans (k2.trans (k3.trans (h3 k hk)))
