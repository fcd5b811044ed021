/-! the saved states: a ring of six against rows laid one behind another -/
theorem m_shift_at (sd : Nat → Int32) : ∀ n k, mShift sd n k = if k < n then sd (162 + k) else sd k
  | 0, k => (if_neg (by omega)).symm
  | n + 1, k => by
    show (if k = n then mShift sd n (162 + n) else mShift sd n k) = _
    rw [m_shift_at sd n (162 + n), m_shift_at sd n k, if_neg (show ¬ 162 + n < n by omega)]
    by_cases e : k = n
    · rw [if_pos e, if_pos (by omega), e]
    · rw [if_neg e]
      by_cases e2 : k < n
      · rw [if_pos e2, if_pos (by omega)]
      · rw [if_neg e2, if_neg (by omega)]
theorem q_at_at (sd z : Nat → Int32) (o : Nat) : ∀ n k, qAt sd z o n k = if 162 * o ≤ k ∧ k < 162 * o + n then z (k - 162 * o) else sd k
  | 0, k => (if_neg (by omega)).symm
  | n + 1, k => by
    show (if k = 162 * o + n then z n else qAt sd z o n k) = _
    rw [q_at_at sd z o n k]
    by_cases e : k = 162 * o + n
    · rw [if_pos e, if_pos (by omega), show k - 162 * o = n by omega]
    · rw [if_neg e]
      by_cases e2 : 162 * o ≤ k ∧ k < 162 * o + n
      · rw [if_pos e2, if_pos (by omega)]
      · rw [if_neg e2, if_neg (by omega)]
theorem m_save_new {sd z : Nat → Int32} {sv k : Nat} (hk : k < 162) : mSave sd z sv (162 * mSv sv + k) = z k := by
  show qAt (mBase sd sv) z (mSv sv) 162 (162 * mSv sv + k) = z k
  rw [q_at_at, if_pos (by omega)]
  exact congrArg z (by omega)
theorem m_save_old {sd z : Nat → Int32} {sv i k : Nat} (hsv : sv ≤ 6) (hi : i < mSv sv) (hk : k < 162) : mSave sd z sv (162 * i + k) = if sv = 6 then sd (162 * (i + 1) + k) else sd (162 * i + k) := by
  show qAt (mBase sd sv) z (mSv sv) 162 (162 * i + k) = _
  rw [q_at_at, if_neg (by omega)]
  unfold mBase
  unfold mSv at hi
  by_cases e : sv = 6
  · rw [if_pos e] at hi
    rw [if_pos e, if_pos e, m_shift_at, if_pos (by omega)]
    exact congrArg sd (by omega)
  · rw [if_neg e, if_neg e]
theorem m_undo_at (sd z : Nat → Int32) (o : Nat) : ∀ n k, mUndo sd z o n k = if k < n then sd (162 * o + k) else z k
  | 0, k => (if_neg (by omega)).symm
  | n + 1, k => by
    show (if k = n then sd (162 * o + n) else mUndo sd z o n k) = _
    rw [m_undo_at sd z o n k]
    by_cases e : k = n
    · rw [if_pos e, if_pos (by omega), e]
    · rw [if_neg e]
      by_cases e2 : k < n
      · rw [if_pos e2, if_pos (by omega)]
      · rw [if_neg e2, if_neg (by omega)]
/-- state r of the ring holds what row R r holds; the i-th saved row is the state (od + i) % 6 -/
def zRing (sd : Nat → Int32) (R : Nat → Nat → Int32) (od sv : Nat) : Prop := ∀ i, i < sv → ∀ k, k < 162 → sd (162 * i + k) = R ((od + i) % 6) k
theorem k_sz {sv : Nat} (h : sv ≤ 6) : kSz sv = mSv sv + 1 := by
  unfold kSz mSv
  by_cases e : sv = 6
  · rw [if_pos e, if_neg (by omega), e]
  · rw [if_neg e, if_pos (by omega)]
theorem ring_save {sd z : Nat → Int32} {R : Nat → Nat → Int32} {od sv : Nat} (h : zRing sd R od sv) (hod : od < 6) (hsv : sv ≤ 6) : zRing (mSave sd z sv) (fun r => if r = (od + sv) % 6 then z else R r) (kOd od sv) (mSv sv + 1) := by
  intro i hi k hk
  by_cases e : sv = 6
  · have e1 : mSv sv = 5 := if_pos e
    have e2 : kOd od sv = (od + 1) % 6 := if_neg (by omega)
    rw [e2]
    by_cases c : i = 5
    · have q : ((od + 1) % 6 + i) % 6 = (od + sv) % 6 := by omega
      show mSave sd z sv (162 * i + k) = (if ((od + 1) % 6 + i) % 6 = (od + sv) % 6 then z else R (((od + 1) % 6 + i) % 6)) k
      rw [if_pos q, show i = mSv sv by omega]
      exact m_save_new hk
    · have q : ¬ ((od + 1) % 6 + i) % 6 = (od + sv) % 6 := by omega
      show mSave sd z sv (162 * i + k) = (if ((od + 1) % 6 + i) % 6 = (od + sv) % 6 then z else R (((od + 1) % 6 + i) % 6)) k
      rw [if_neg q, m_save_old hsv (by omega) hk, if_pos e, h (i + 1) (by omega) k hk, show ((od + 1) % 6 + i) % 6 = (od + (i + 1)) % 6 by omega]
  · have e1 : mSv sv = sv := if_neg e
    have e2 : kOd od sv = od := if_pos (by omega)
    rw [e2]
    by_cases c : i = sv
    · show mSave sd z sv (162 * i + k) = (if (od + i) % 6 = (od + sv) % 6 then z else R ((od + i) % 6)) k
      rw [if_pos (by rw [c]), show i = mSv sv by omega]
      exact m_save_new hk
    · have q : ¬ (od + i) % 6 = (od + sv) % 6 := by omega
      show mSave sd z sv (162 * i + k) = (if (od + i) % 6 = (od + sv) % 6 then z else R ((od + i) % 6)) k
      rw [if_neg q, m_save_old hsv (by omega) hk, if_neg e, h i (by omega) k hk]
theorem ring_undo {sd z : Nat → Int32} {R : Nat → Nat → Int32} {od sv : Nat} (h : zRing sd R od (sv + 1)) : zRing sd R od sv ∧ ∀ k, k < 162 → mUndo sd z sv 162 k = R ((od + sv) % 6) k :=
  ⟨fun i hi k hk => h i (by omega) k hk, fun k hk => by rw [m_undo_at, if_pos hk]; exact h sv (by omega) k hk⟩
/-- a good row is told by its 162 numbers -/
theorem m_good_cong {z y : Nat → Int32} (h : ∀ k, k < 162 → z k = y k) (hG : mGood z) : mGood y := by
  refine ⟨fun k hk => ?_, fun j hj => ?_, ?_, ?_, ?_, ?_, fun c hc => ?_, ?_⟩
  · rw [← h k (by omega)]; exact hG.1 k hk
  · refine Int.le_trans (Int.le_of_eq (fb_si_cong (fun k hk => ?_))) (hG.2.1 j hj)
    rw [← h (48 * j + k) (by omega)]
  · rw [← h 144 (by omega)]; exact hG.2.2.1
  · rw [← h 145 (by omega)]; exact hG.2.2.2.1
  · rw [← h 146 (by omega)]; exact hG.2.2.2.2.1
  · rw [← h 147 (by omega)]; exact hG.2.2.2.2.2.1
  · rw [← h (148 + c) (by omega)]; exact hG.2.2.2.2.2.2.1 c hc
  · rw [← h 160 (by omega)]; exact hG.2.2.2.2.2.2.2
