/-! runs of steps -/
theorem e_nI0 {x : Nat} (h : x < 2 ^ 31) : nI x = 0 ↔ x = 0 := by
  rw [show (0 : Int32) = nI 0 from rfl]
  exact nI_eq h (by omega)
theorem e_nIp {x : Nat} (h : x < 2 ^ 31) : (0 : Int32) < nI x ↔ ¬ x = 0 := by
  rw [show (0 : Int32) = nI 0 from rfl, nI_ltI (by omega) h]
  omega
/-- a step in which nothing falls -/
theorem e_still {z : Nat → Int32} {j : Nat} (hG : mGood z) (hj : j < 3) (h : (mStep z j).2 = 0) : (mStep z j).1 = z := by
  obtain ⟨-, -, -, x, hx, h1, h2⟩ := e_step hG hj
  exact h2 ((e_nI0 (by omega)).mp (h1.symm.trans h))
theorem e_pos {z : Nat → Int32} {j : Nat} (hG : mGood z) (hj : j < 3) : (0 < (mStep z j).2) ↔ ¬ (mStep z j).2 = 0 := by
  obtain ⟨-, -, -, x, hx, h1, -⟩ := e_step hG hj
  rw [h1, e_nI0 (by omega), e_nIp (by omega)]
theorem e_front (z : Nat → Int32) (j : Nat) : ∀ t, mSteps z j (t + 1) = mSteps (mStep z j).1 j t
  | 0 => rfl
  | t + 1 => by
    show (mStep (mSteps z j (t + 1)) j).1 = (mStep (mSteps (mStep z j).1 j t) j).1
    rw [e_front z j t]
/-- how many fell in t steps -/
def mTot (z : Nat → Int32) (j : Nat) : Nat → Int32
  | 0 => 0
  | t + 1 => mTot z j t + (mStep (mSteps z j t) j).2
theorem e_tot (z : Nat → Int32) (j : Nat) : ∀ t, mTot z j (t + 1) = (mStep z j).2 + mTot (mStep z j).1 j t
  | 0 => by show 0 + (mStep z j).2 = (mStep z j).2 + 0; rw [Int32.zero_add, Int32.add_zero]
  | t + 1 => by
    show mTot z j (t + 1) + (mStep (mSteps z j (t + 1)) j).2 = (mStep z j).2 + (mTot (mStep z j).1 j t + (mStep (mSteps (mStep z j).1 j t) j).2)
    rw [e_tot z j t, e_front z j t, Int32.add_assoc]
theorem e_rest {z : Nat → Int32} {j : Nat} (hG : mGood z) (hj : j < 3) (h : (mStep z j).2 = 0) : ∀ t, mSteps z j t = z ∧ mTot z j t = 0
  | 0 => ⟨rfl, rfl⟩
  | t + 1 => by
    have h1 := e_still hG hj h
    obtain ⟨a, b⟩ := e_rest hG hj h t
    refine ⟨?_, ?_⟩
    · rw [e_front, h1, a]
    · rw [e_tot, h1, b, h, Int32.add_zero]
theorem e_go {j : Nat} (hj : j < 3) : ∀ (t : Nat) (z : Nat → Int32) (y : Int32), mGood z → (qGo (cV z) (cW z) t (qV z j, y)).1 = qV (mSteps z j t) j ∧ (qGo (cV z) (cW z) t (qV z j, y)).2 = y + mTot z j t
  | 0, z, y, _ => ⟨rfl, (Int32.add_zero y).symm⟩
  | t + 1, z, y, hG => by
    obtain ⟨h1, h2, ⟨h3, h4⟩, -⟩ := e_step hG hj
    show (if (qStep (qV z j) (cV z) (cW z)).2 = 0 then ((qStep (qV z j) (cV z) (cW z)).1, y) else qGo (cV z) (cW z) t ((qStep (qV z j) (cV z) (cW z)).1, y + (qStep (qV z j) (cV z) (cW z)).2)).1 = _ ∧ (if (qStep (qV z j) (cV z) (cW z)).2 = 0 then ((qStep (qV z j) (cV z) (cW z)).1, y) else qGo (cV z) (cW z) t ((qStep (qV z j) (cV z) (cW z)).1, y + (qStep (qV z j) (cV z) (cW z)).2)).2 = _
    rw [← h1, ← h2]
    by_cases h : (mStep z j).2 = 0
    · obtain ⟨a, b⟩ := e_rest hG hj h (t + 1)
      rw [if_pos h, a, b, e_still hG hj h, Int32.add_zero]
      exact ⟨rfl, rfl⟩
    · rw [if_neg h]
      obtain ⟨a, b⟩ := e_go hj t (mStep z j).1 (y + (mStep z j).2) (m_good_st hG hj (Nat.le_refl 11))
      rw [h3, h4] at a b
      rw [a, b, e_front, e_tot, Int32.add_assoc]
      exact ⟨rfl, rfl⟩
/-- till nothing falls, till it is clear -/
theorem e_ri {j : Nat} (hj : j < 3) : ∀ (n i : Nat) (z : Nat → Int32), mGood z → (qRi (cV z) (cW z) n i (qV z j)).1 = if mRn j n i z < i + n then nI (mRn j n i z) else -1
  | 0, i, z, _ => by
    show (-1 : Int32) = if i < i + 0 then nI i else -1
    rw [if_neg (by omega)]
  | n + 1, i, z, hG => by
    obtain ⟨h1, h2, ⟨h3, h4⟩, -⟩ := e_step hG hj
    show (if (qStep (qV z j) (cV z) (cW z)).2 = 0 then (nI i, (qStep (qV z j) (cV z) (cW z)).1) else qRi (cV z) (cW z) n (i + 1) (qStep (qV z j) (cV z) (cW z)).1).1 = if (if 0 < (mStep z j).2 then mRn j n (i + 1) (mStep z j).1 else i) < i + (n + 1) then nI (if 0 < (mStep z j).2 then mRn j n (i + 1) (mStep z j).1 else i) else -1
    rw [← h1, ← h2]
    by_cases h : (mStep z j).2 = 0
    · rw [if_pos h, if_neg (fun q => (e_pos hG hj).mp q h), if_pos (by omega)]
    · rw [if_neg h, if_pos ((e_pos hG hj).mpr h)]
      have a := e_ri hj n (i + 1) (mStep z j).1 (m_good_st hG hj (Nat.le_refl 11))
      rw [h3, h4] at a
      rw [a, show i + (n + 1) = i + 1 + n by omega]
theorem e_cn_still {j sl : Nat} (hj : j < 3) {z : Nat → Int32} (hG : mGood z) (h : (mStep z j).2 = 0) (hc : qClr (qV z j) (z 146) < sl) : ∀ (n i : Nat), mCn j sl n i z = i + n
  | 0, _ => rfl
  | n + 1, i => by
    show (if qClr (qV z j) (z 146) < sl then mCn j sl n (i + 1) (mStep z j).1 else i) = _
    rw [if_pos hc, e_still hG hj h, e_cn_still hj hG h hc n (i + 1)]
    omega
theorem e_ci {j sl : Nat} (hj : j < 3) : ∀ (n i : Nat) (z : Nat → Int32), mGood z → (qCi (cV z) (cW z) sl n i (qV z j)).1 = if mCn j sl n i z < i + n then nI (mCn j sl n i z) else -1
  | 0, i, z, _ => by
    show (-1 : Int32) = if i < i + 0 then nI i else -1
    rw [if_neg (by omega)]
  | n + 1, i, z, hG => by
    obtain ⟨h1, h2, ⟨h3, h4⟩, -⟩ := e_step hG hj
    show (if sl ≤ qClr (qV z j) (z 146) then (nI i, qV z j) else if (qStep (qV z j) (cV z) (cW z)).2 = 0 then (-1, (qStep (qV z j) (cV z) (cW z)).1) else qCi (cV z) (cW z) sl n (i + 1) (qStep (qV z j) (cV z) (cW z)).1).1 = if (mCn j sl (n + 1) i z) < i + (n + 1) then nI (mCn j sl (n + 1) i z) else -1
    by_cases hc : sl ≤ qClr (qV z j) (z 146)
    · have e : mCn j sl (n + 1) i z = i := if_neg (by omega)
      rw [if_pos hc, e, if_pos (by omega)]
    · rw [if_neg hc, ← h1, ← h2]
      by_cases h : (mStep z j).2 = 0
      · rw [if_pos h, e_cn_still hj hG h (by omega), if_neg (by omega)]
      · rw [if_neg h]
        have a := e_ci (sl := sl) hj n (i + 1) (mStep z j).1 (m_good_st hG hj (Nat.le_refl 11))
        rw [h3, h4] at a
        have e : mCn j sl (n + 1) i z = mCn j sl n (i + 1) (mStep z j).1 := if_pos (by omega)
        rw [a, e, show i + (n + 1) = i + 1 + n by omega]
/-! why a grain stays, rest, the properties -/
theorem e_why {z : Nat → Int32} {j s c : Nat} (hG : mGood z) (hj : j < 3) (hs : s < 12) : mWhy z j s c = qWhy (qV z j) (cV z) (cW z) s c := by
  show (if s = 11 then 1 else if qV z j (4 * s + c) = 0 then 2 else if qRoomM (z 145) (qIn (qV z j) (s + 1)) = 0 then 3 else if qWish (z (148 + c)) (z 147) (qV z j (4 * s + c)) (mFac z j s) = 0 then 4 else 0) = (if s = 11 then 1 else if qV z j (4 * s + c) = 0 then 2 else if qRoom (z 145) (qIn (qV z j) (s + 1)) = 0 then 3 else if qWant (z (148 + c)) (z 147) (qV z j (4 * s + c)) (qFac (z 144) (qIn (qV z j) s)) = 0 then 4 else 0)
  rw [e_room, e_fac hG hj hs, e_want hG.2.2.2.2.2.1.1]
theorem e_why_pos (g v w : Nat → Int32) (s c : Nat) : decide (0 < qWhy g v w s c) = !decide (qWhy g v w s c = 0) := by
  unfold qWhy
  split
  · decide
  split
  · decide
  split
  · decide
  split
  · decide
  · decide
theorem e_allB {p q : Nat → Bool} : ∀ {n : Nat}, (∀ k, k < n → p k = q k) → qAllB p n = qAllB q n
  | 0, _ => rfl
  | n + 1, h => by
    show (qAllB p n && p n) = (qAllB q n && q n)
    rw [e_allB (fun k hk => h k (by omega)), h n (Nat.lt_succ_self n)]
theorem e_stay {z : Nat → Int32} {j s : Nat} (hG : mGood z) (hj : j < 3) (hs : s < 12) : mStay z j s 4 = qAllB (fun c => !decide (qWhy (qV z j) (cV z) (cW z) s c = 0)) 4 := e_allB (fun c _ => by rw [e_why hG hj hs, e_why_pos])
theorem e_atrest {z : Nat → Int32} {j : Nat} (hG : mGood z) (hj : j < 3) : mRest z j 12 = qRest (qV z j) (cV z) (cW z) := by
  show (qAllB (fun s => mStay z j s 4) 11 && mStay z j 11 4) = qAllB (fun s => qAllB (fun c => !decide (qWhy (qV z j) (cV z) (cW z) s c = 0)) 4) 11
  have h : mStay z j 11 4 = true := by
    rw [e_stay hG hj (by omega)]
    exact (e_allB (q := fun _ => true) (fun c _ => rfl)).trans rfl
  rw [h, Bool.and_true]
  exact e_allB (fun s hs => e_stay hG hj (by omega))
theorem s_split (f : Nat → Int32) (m : Nat) : ∀ n, qS f (m + n) = qS f m + qS (fun i => f (m + i)) n
  | 0 => (Int32.add_zero _).symm
  | n + 1 => by
    show qS f (m + n) + f (m + n) = qS f m + (qS (fun i => f (m + i)) n + f (m + n))
    rw [s_split f m n, Int32.add_assoc]
theorem e_bed (z : Nat → Int32) (j : Nat) : mIn z j (mBed z j) = qAll (qV z j) - qTo (qV z j) (12 - mBed z j) := by
  have hb : mBed z j ≤ 12 := q_bed_le _ _
  have h := s_split (fun s => qIn (qV z j) s) (12 - mBed z j) (mBed z j)
  rw [show 12 - mBed z j + mBed z j = 12 by omega] at h
  show qS (fun i => qIn (qV z j) (12 - mBed z j + i)) (mBed z j) = qS (fun s => qIn (qV z j) s) 12 - qS (fun s => qIn (qV z j) s) (12 - mBed z j)
  rw [h, Int32.add_comm, Int32.add_sub_cancel]
theorem e_jar {z : Nat → Int32} {j : Nat} (hG : mGood z) (hj : j < 3) (k : Nat) : mJar z j k = qJar (qV z j) (cV z) (cW z) k := by
  match k with
  | 0 => rfl
  | 1 => rfl
  | 2 => rfl
  | 3 => rfl
  | 4 => rfl
  | 5 => rfl
  | 6 => rfl
  | 7 => exact e_bed z j
  | 8 => rfl
  | 9 =>
    show (if mRest z j 12 = true then (1 : Int32) else 0) = if qRest (qV z j) (cV z) (cW z) = true then 1 else 0
    rw [e_atrest hG hj]
  | k + 10 => rfl
theorem e_slice {z : Nat → Int32} {j s : Nat} (hG : mGood z) (hj : j < 3) (hs : s < 12) (k : Nat) : mSlice z j s k = qSlice (qV z j) (cV z) (cW z) s k := by
  match k with
  | 0 => rfl
  | 1 => rfl
  | 2 => rfl
  | 3 => rfl
  | 4 => rfl
  | 5 => rfl
  | 6 => rfl
  | 7 => rfl
  | 8 => exact e_fac hG hj hs
  | 9 => exact e_room (z 145) (qIn (qV z j) s)
  | k + 10 => rfl
