/-! what is told of all jars; what would be; what is done -/
def lD (z : Nat → Int32) : Nat → Int32 := fun k => z (160 + k)
def lCons (z : Nat → Int32) : Prop := ∀ c, c < 4 → qOf (qV z 0) c + qOf (qV z 1) c + qOf (qV z 2) c = z (152 + c) - z (156 + c)
theorem l_c4 (z : Nat → Int32) (k : Nat) : cW z k = cV z (4 + k) := congrArg z (show 148 + k = 144 + (4 + k) by omega)
theorem l_c8 (z : Nat → Int32) (k : Nat) : cP z k = cV z (8 + k) := congrArg z (show 152 + k = 144 + (8 + k) by omega)
theorem l_c12 (z : Nat → Int32) (k : Nat) : cR z k = cV z (12 + k) := congrArg z (show 156 + k = 144 + (12 + k) by omega)
theorem l_con {z : Nat → Int32} {i : Nat} (h : lCons z) (hi : i < 4) : cV z (8 + i) - cV z (12 + i) = qOf (qV z 0) i + qOf (qV z 1) i + qOf (qV z 2) i := by
  rw [h i hi, ← l_c8, ← l_c12]
  rfl
theorem l_z3 (a b c : Int32) : (0 : Int32) + a + b + c = a + b + c := by rw [Int32.zero_add]
def mPk (z : Nat → Int32) : Nat → Int32 := qS (fun k => if z 145 ≤ qIn (qV z (k / 12)) (k % 12) then 1 else 0)
theorem l_pk36 (z : Nat → Int32) (sv : Nat) : xCnt (cV z) (qV z 0) (qV z 1) (qV z 2) (z 160) (z 161) sv 2 = mPk z 36 := by
  rw [← e_cnt]
  show qPkd (qV z 0) (z 145) 12 + qPkd (qV z 1) (z 145) 12 + qPkd (qV z 2) (z 145) 12 = mPk z 36
  have h1 := s_split (fun k => if z 145 ≤ qIn (qV z (k / 12)) (k % 12) then (1 : Int32) else 0) 12 24
  have h2 := s_split (fun i => if z 145 ≤ qIn (qV z ((12 + i) / 12)) ((12 + i) % 12) then (1 : Int32) else 0) 12 12
  refine Eq.symm (h1.trans ((congrArg (fun x => qS (fun k => if z 145 ≤ qIn (qV z (k / 12)) (k % 12) then (1 : Int32) else 0) 12 + x) h2).trans ?_))
  rw [← Int32.add_assoc]
  have e0 : qS (fun k => if z 145 ≤ qIn (qV z (k / 12)) (k % 12) then (1 : Int32) else 0) 12 = qPkd (qV z 0) (z 145) 12 := s_cong (fun k hk => by
    show (if z 145 ≤ qIn (qV z (k / 12)) (k % 12) then (1 : Int32) else 0) = if z 145 ≤ qIn (qV z 0) k then 1 else 0
    rw [show k / 12 = 0 by omega, show k % 12 = k by omega])
  have e1 : qS (fun i => if z 145 ≤ qIn (qV z ((12 + i) / 12)) ((12 + i) % 12) then (1 : Int32) else 0) 12 = qPkd (qV z 1) (z 145) 12 := s_cong (fun k hk => by
    show (if z 145 ≤ qIn (qV z ((12 + k) / 12)) ((12 + k) % 12) then (1 : Int32) else 0) = if z 145 ≤ qIn (qV z 1) k then 1 else 0
    rw [show (12 + k) / 12 = 1 by omega, show (12 + k) % 12 = k by omega])
  have e2 : qS (fun i => if z 145 ≤ qIn (qV z ((12 + (12 + i)) / 12)) ((12 + (12 + i)) % 12) then (1 : Int32) else 0) 12 = qPkd (qV z 2) (z 145) 12 := s_cong (fun k hk => by
    show (if z 145 ≤ qIn (qV z ((12 + (12 + k)) / 12)) ((12 + (12 + k)) % 12) then (1 : Int32) else 0) = if z 145 ≤ qIn (qV z 2) k then 1 else 0
    rw [show (12 + (12 + k)) / 12 = 2 by omega, show (12 + (12 + k)) % 12 = k by omega])
  rw [e0, e1, e2]
theorem l_cl36 (z : Nat → Int32) (sv : Nat) : xCnt (cV z) (qV z 0) (qV z 1) (qV z 2) (z 160) (z 161) sv 3 = mClr z 36 := (e_cnt z sv 3).symm
/-! looking ahead -/
section LAH
variable {z : Nat → Int32} {j : Nat}
theorem w_steps_out (hj : j < 3) {k : Nat} (hk : 144 ≤ k) : ∀ t, mSteps z j t k = z k
  | 0 => rfl
  | t + 1 => (m_st_out (z := mSteps z j t) hj k hk 11 (Nat.le_refl 11)).trans (w_steps_out hj hk t)
theorem l_cV_steps (hj : j < 3) (i : Nat) : cV (mSteps z j i) = cV z := funext fun k => w_steps_out hj (by omega) i
theorem w_clearIn {sl : Nat} (hG : mGood z) (hj : j < 3) : (qCi (cV z) (cW z) sl 301 0 (qV z j)).1 = if mCn j sl 301 0 z ≤ 300 then nI (mCn j sl 301 0 z) else -1 := by
  rw [e_ci hj 301 0 z hG]
  by_cases h : mCn j sl 301 0 z ≤ 300
  · rw [if_pos h, if_pos (by omega)]
  · rw [if_neg h, if_neg (by omega)]
theorem w_restIn (hG : mGood z) (hj : j < 3) : (qRi (cV z) (cW z) 601 0 (qV z j)).1 = if mRn j 601 0 z ≤ 600 then nI (mRn j 601 0 z) else -1 := by
  rw [e_ri hj 601 0 z hG]
  by_cases h : mRn j 601 0 z ≤ 600
  · rw [if_pos h, if_pos (by omega)]
  · rw [if_neg h, if_neg (by omega)]
theorem l_ifs (hG : mGood z) (hj : j < 3) (t k : Nat) : qJar (qGo (cV z) (cW z) t (qV z j, 0)).1 (cV z) (cW z) k = qJar (qV (mSteps z j t) j) (cV z) (cW z) k := by
  rw [(e_go hj t z 0 hG).1]
/-- what is known of the first clear step, at the i-th step's beginning; and once it has been looked at -/
def lClr (z : Nat → Int32) (j sl i : Nat) : Option Nat → Prop
  | none => (i ≤ 301 ∧ mCn j sl 301 0 z = mCn j sl (301 - i) i (mSteps z j i)) ∨ (301 < i ∧ mCn j sl 301 0 z = 301)
  | some c => c ≤ 300 ∧ mCn j sl 301 0 z = c
def lCk (z : Nat → Int32) (j sl i : Nat) : Option Nat → Prop
  | none => (i < 301 ∧ qClr (qV (mSteps z j i) j) (z 146) < sl ∧ mCn j sl 301 0 z = mCn j sl (301 - i) i (mSteps z j i)) ∨ (301 ≤ i ∧ mCn j sl 301 0 z = 301)
  | some c => c ≤ 300 ∧ mCn j sl 301 0 z = c
variable {sl i : Nat}
theorem l_cl_0 (z : Nat → Int32) (j sl : Nat) : lClr z j sl 0 none := Or.inl ⟨by omega, rfl⟩
theorem l_ck_late (h : lClr z j sl i none) (hi : 301 ≤ i) : lCk z j sl i none := by
  rcases h with ⟨h1, h2⟩ | ⟨h1, h2⟩
  · have e : i = 301 := by omega
    subst e
    exact Or.inr ⟨hi, h2⟩
  · exact Or.inr ⟨hi, h2⟩
theorem l_ck_no (h : lClr z j sl i none) (hi : i < 301) (hc : qClr (qV (mSteps z j i) j) (z 146) < sl) : lCk z j sl i none := by
  rcases h with ⟨h1, h2⟩ | ⟨h1, h2⟩
  · exact Or.inl ⟨hi, hc, h2⟩
  · omega
theorem l_cn_s (hj : j < 3) (hi : i < 301) : mCn j sl (301 - i) i (mSteps z j i) = if qClr (qV (mSteps z j i) j) (z 146) < sl then mCn j sl (301 - (i + 1)) (i + 1) (mSteps z j (i + 1)) else i := by
  have e : 301 - i = 301 - (i + 1) + 1 := by omega
  rw [e, mCn, w_steps_out hj (show 144 ≤ 146 by omega) i]
  rfl
theorem l_ck_now (hj : j < 3) (h : lClr z j sl i none) (hi : i < 301) (hc : sl ≤ qClr (qV (mSteps z j i) j) (z 146)) : lCk z j sl i (some i) := by
  rcases h with ⟨h1, h2⟩ | ⟨h1, h2⟩
  · rw [l_cn_s hj hi, if_neg (by omega)] at h2
    exact ⟨by omega, h2⟩
  · omega
theorem l_ck_next (hj : j < 3) {o : Option Nat} (h : lCk z j sl i o) : lClr z j sl (i + 1) o := by
  cases o with
  | none =>
    rcases h with ⟨h1, h2, h3⟩ | ⟨h1, h2⟩
    · rw [l_cn_s hj h1, if_pos h2] at h3
      exact Or.inl ⟨by omega, h3⟩
    · exact Or.inr ⟨by omega, h2⟩
  | some b => exact h
theorem l_le0 (hG : mGood z) (hj : j < 3) (h : (mStep z j).2 ≤ 0) : (mStep z j).2 = 0 := by
  by_cases q : (mStep z j).2 = 0
  · exact q
  · exact absurd ((e_pos hG hj).mpr q) (Int32.not_lt.mpr h)
theorem l_ck_end (hG : mGood z) (hj : j < 3) {o : Option Nat} (h : lCk z j sl i o) (hs : (mStep (mSteps z j i) j).2 ≤ 0) : (if mCn j sl 301 0 z ≤ 300 then nI (mCn j sl 301 0 z) else -1) = zOI o := by
  cases o with
  | none =>
    have e : mCn j sl 301 0 z = 301 := by
      rcases h with ⟨h1, h2, h3⟩ | ⟨h1, h2⟩
      · have hGi := m_good_steps hG hj i
        rw [h3, e_cn_still hj hGi (l_le0 hGi hj hs) (by rw [w_steps_out hj (show 144 ≤ 146 by omega) i]; exact h2)]
        omega
      · exact h2
    rw [e, if_neg (by omega)]
    rfl
  | some b =>
    obtain ⟨h1, h2⟩ : b ≤ 300 ∧ mCn j sl 301 0 z = b := h
    rw [h2, if_pos h1]
    rfl
theorem l_cl_end {o : Option Nat} (h : lClr z j sl 601 o) : (if mCn j sl 301 0 z ≤ 300 then nI (mCn j sl 301 0 z) else -1) = zOI o := by
  cases o with
  | none =>
    rcases h with ⟨h1, h2⟩ | ⟨h1, h2⟩
    · omega
    · rw [h2, if_neg (by omega)]
      rfl
  | some b =>
    obtain ⟨h1, h2⟩ : b ≤ 300 ∧ mCn j sl 301 0 z = b := h
    rw [h2, if_pos h1]
    rfl
theorem l_rn_now {n : Nat} (h : mRn j 601 0 z = mRn j (n + 1) i (mSteps z j i)) (hs : (mStep (mSteps z j i) j).2 ≤ 0) (hi : i ≤ 600) : (if mRn j 601 0 z ≤ 600 then nI (mRn j 601 0 z) else -1) = nI i := by
  have e : mRn j (n + 1) i (mSteps z j i) = i := if_neg (Int32.not_lt.mpr hs)
  rw [h, e, if_pos hi]
theorem l_rn_end (h : mRn j 601 0 z = mRn j 0 601 (mSteps z j 601)) : (if mRn j 601 0 z ≤ 600 then nI (mRn j 601 0 z) else -1) = (-1 : Int32) := by
  have e : mRn j 0 601 (mSteps z j 601) = 601 := rfl
  rw [h, e, if_neg (by omega)]
end LAH
/-! what is done -/
theorem l_if0 {m X a b : Nat} (h : m = if X = 0 then a else b) (h0 : nI X = 0) (hX : X < 2 ^ 31) : a = m := by
  rw [h, if_pos ((e_nI0 hX).mp h0)]
theorem l_if1 {m X a b : Nat} (h : m = if X = 0 then a else b) (h0 : ¬ nI X = 0) (hX : X < 2 ^ 31) : b = m := by
  rw [h, if_neg (fun q => h0 ((e_nI0 hX).mpr q))]
def lTot (z : Nat → Int32) : Nat → Int32
  | 0 => 0
  | i + 1 => lTot z i + ((mStep (mSteps z 0 i) 0).2 + (mStep (mSteps z 1 i) 1).2 + (mStep (mSteps z 2 i) 2).2)
theorem i_6 (a b c x y w : Int32) : (a + b + c) + (x + y + w) = (a + x) + (b + y) + (c + w) := by ac_rfl
theorem l_tot3 (z : Nat → Int32) : ∀ t, lTot z t = mTot z 0 t + mTot z 1 t + mTot z 2 t
  | 0 => (by decide : (0 : Int32) = 0 + 0 + 0)
  | t + 1 => by
    show lTot z t + ((mStep (mSteps z 0 t) 0).2 + (mStep (mSteps z 1 t) 1).2 + (mStep (mSteps z 2 t) 2).2) = (mTot z 0 t + (mStep (mSteps z 0 t) 0).2) + (mTot z 1 t + (mStep (mSteps z 1 t) 1).2) + (mTot z 2 t + (mStep (mSteps z 2 t) 2).2)
    rw [l_tot3 z t]
    exact i_6 _ _ _ _ _ _
theorem l_tot {z : Nat → Int32} (hG : mGood z) (t : Nat) : (0 : Int32) + (qGo (cV z) (cW z) t (qV z 0, 0)).2 + (qGo (cV z) (cW z) t (qV z 1, 0)).2 + (qGo (cV z) (cW z) t (qV z 2, 0)).2 = lTot z t := by
  rw [(e_go (show 0 < 3 by omega) t z 0 hG).2, (e_go (show 1 < 3 by omega) t z 0 hG).2, (e_go (show 2 < 3 by omega) t z 0 hG).2, l_tot3, Int32.zero_add, Int32.zero_add, Int32.zero_add, Int32.zero_add]
theorem l_addsub (a : Int32) {b c : Nat} (h : c ≤ b) (hb : b < 2 ^ 31) : a + nI b - nI c = a + nI (b - c) := by
  rw [Int32.sub_eq_add_neg, Int32.add_assoc, ← Int32.sub_eq_add_neg, pk_sub h]
theorem l_sp1 (g : Nat → Int32) (a b c : Nat) (all : Int32) (i : Nat) : (qSp g a b c all (i + 1)).1 = upd (qSp g a b c all i).1 (4 * (a + i) + c) (((qSp g a b c all i).2 + nI (b - (a + i))) / nI (b - (a + i) + 1)) := by
  show qPut (qSp g a b c all i).1 (a + i) c (((qSp g a b c all i).2 + nI (b - (a + i))) / nI (b - (a + i) + 1) - (qSp g a b c all i).1 (4 * (a + i) + c)) = _
  unfold qPut
  rw [i_ts]
theorem l_sp2 (g : Nat → Int32) (a b c : Nat) (all : Int32) (i : Nat) : (qSp g a b c all i).2 - (qSp g a b c all (i + 1)).1 (4 * (a + i) + c) = (qSp g a b c all (i + 1)).2 := by
  rw [l_sp1]
  show (qSp g a b c all i).2 - upd (qSp g a b c all i).1 (4 * (a + i) + c) (((qSp g a b c all i).2 + nI (b - (a + i))) / nI (b - (a + i) + 1)) (4 * (a + i) + c) = (qSp g a b c all i).2 - ((qSp g a b c all i).2 + nI (b - (a + i))) / nI (b - (a + i) + 1)
  rw [pk_us]
theorem l_dr1 (g dr : Nat → Int32) (s : Nat) (p : Int32) (c : Nat) : (qDraw g dr s p (c + 1)).1 = upd (qDraw g dr s p c).1 (4 * s + c) ((qDraw g dr s p c).1 (4 * s + c) - (qDraw g dr s p c).1 (4 * s + c) * p / 100) := by
  show qPut (qDraw g dr s p c).1 s c (-((qDraw g dr s p c).1 (4 * s + c) * p / 100)) = _
  unfold qPut
  rw [← Int32.sub_eq_add_neg]
/-- the row of sixteen with another drawn -/
def lSd (z d : Nat → Int32) : Nat → Int32 := fun k => if k < 12 then z (144 + k) else d (k - 12)
theorem l_sd0 {z : Nat → Int32} : lSd z (cR z) = cV z := by
  funext k
  show (if k < 12 then z (144 + k) else z (156 + (k - 12))) = z (144 + k)
  by_cases h : k < 12
  · rw [if_pos h]
  · rw [if_neg h, show 156 + (k - 12) = 144 + k by omega]
theorem l_sd1 (z d : Nat → Int32) (c : Nat) (x : Int32) : upd (lSd z d) (12 + c) x = lSd z (upd d c x) := by
  funext k
  show (if k = 12 + c then x else if k < 12 then z (144 + k) else d (k - 12)) = if k < 12 then z (144 + k) else if k - 12 = c then x else d (k - 12)
  by_cases h : k < 12
  · rw [if_neg (by omega), if_pos h, if_pos h]
  · rw [if_neg h, if_neg h]
    by_cases e : k = 12 + c
    · rw [if_pos e, if_pos (by omega)]
    · rw [if_neg e, if_neg (by omega)]
theorem l_dr2 (z g dr : Nat → Int32) (s : Nat) (p : Int32) (c : Nat) : lSd z (qDraw g dr s p (c + 1)).2.1 = upd (lSd z (qDraw g dr s p c).2.1) (12 + c) (lSd z (qDraw g dr s p c).2.1 (12 + c) + (qDraw g dr s p c).1 (4 * s + c) * p / 100) := by
  rw [l_sd1]
  show lSd z (upd (qDraw g dr s p c).2.1 c ((qDraw g dr s p c).2.1 c + (qDraw g dr s p c).1 (4 * s + c) * p / 100)) = _
  have e : lSd z (qDraw g dr s p c).2.1 (12 + c) = (qDraw g dr s p c).2.1 c := by
    show (if 12 + c < 12 then z (144 + (12 + c)) else (qDraw g dr s p c).2.1 (12 + c - 12)) = _
    rw [if_neg (by omega), show 12 + c - 12 = c by omega]
  rw [e]
def lOv1 (g : Nat → Int32) (n : Nat) : Nat → Int32 := fun k => if k < n then 0 else g k
def lOv2 (o g : Nat → Int32) (n : Nat) : Nat → Int32 := fun k => if k < n then o k + g k else o k
theorem l_ov10 {g : Nat → Int32} : lOv1 g 0 = g := funext fun k => if_neg (Nat.not_lt_zero k)
theorem l_ov20 {o g : Nat → Int32} : lOv2 o g 0 = o := funext fun k => if_neg (Nat.not_lt_zero k)
theorem l_ov1 (g : Nat → Int32) (i : Nat) : lOv1 g (i + 1) = upd (lOv1 g i) i 0 := by
  funext k
  show (if k < i + 1 then 0 else g k) = if k = i then 0 else if k < i then 0 else g k
  by_cases e : k = i
  · rw [if_pos e, if_pos (by omega)]
  · rw [if_neg e]
    by_cases h : k < i
    · rw [if_pos h, if_pos (by omega)]
    · rw [if_neg h, if_neg (by omega)]
theorem l_ov2 (o g : Nat → Int32) (i : Nat) : lOv2 o g (i + 1) = upd (lOv2 o g i) i (lOv2 o g i i + lOv1 g i i) := by
  funext k
  have e1 : lOv2 o g i i = o i := if_neg (Nat.lt_irrefl i)
  have e2 : lOv1 g i i = g i := if_neg (Nat.lt_irrefl i)
  rw [e1, e2]
  show (if k < i + 1 then o k + g k else o k) = if k = i then o i + g i else if k < i then o k + g k else o k
  by_cases e : k = i
  · rw [if_pos e, if_pos (by omega), e]
  · rw [if_neg e]
    by_cases h : k < i
    · rw [if_pos h, if_pos (by omega)]
    · rw [if_neg h, if_neg (by omega)]
/-- decanted: row i of the three -/
def lDe (z : Nat → Int32) (a b s i : Nat) : Nat → Int32 := if i = a then lOv1 (qV z a) (4 * s + 4) else if i = b then lOv2 (qV z b) (qV z a) (4 * s + 4) else qV z i
def lE (n : Nat) : Nat := 4 * (11 - n / 4) + n % 4
theorem l_e48 {i : Nat} (h : i < 24) : lE i < 48 := by unfold lE; omega
def lTn (g : Nat → Int32) : Nat → Nat → Int32
  | 0 => g
  | n + 1 => upd (upd (lTn g n) n (lTn g n (lE n))) (lE n) (lTn g n n)
theorem l_tn1 (R : Nat → Int32) {s c : Nat} (hs : s < 6) : qPut (qPut R s c (R (4 * (11 - s) + c) - R (4 * s + c))) (11 - s) c (-(R (4 * (11 - s) + c) - R (4 * s + c))) = upd (upd R (4 * s + c) (R (4 * (11 - s) + c))) (4 * (11 - s) + c) (R (4 * s + c)) := by
  unfold qPut
  rw [i_ts]
  have e : upd R (4 * s + c) (R (4 * (11 - s) + c)) (4 * (11 - s) + c) = R (4 * (11 - s) + c) := pk_un (by omega)
  rw [e, i_tn]
theorem l_tn4 (g : Nat → Int32) {s : Nat} (hs : s < 6) (h : lTn g (4 * s) = qTurn g s) : ∀ c, c ≤ 4 → lTn g (4 * s + c) = qTn (qTurn g s) s c
  | 0, _ => h
  | c + 1, hc => by
    have ih := l_tn4 g hs h c (by omega)
    have e : lE (4 * s + c) = 4 * (11 - s) + c := by unfold lE; omega
    show upd (upd (lTn g (4 * s + c)) (4 * s + c) (lTn g (4 * s + c) (lE (4 * s + c)))) (lE (4 * s + c)) (lTn g (4 * s + c) (4 * s + c)) = qPut (qPut (qTn (qTurn g s) s c) s c (qTn (qTurn g s) s c (4 * (11 - s) + c) - qTn (qTurn g s) s c (4 * s + c))) (11 - s) c (-(qTn (qTurn g s) s c (4 * (11 - s) + c) - qTn (qTurn g s) s c (4 * s + c)))
    rw [ih, e]
    exact (l_tn1 _ hs).symm
theorem l_tnS (g : Nat → Int32) : ∀ s, s ≤ 6 → lTn g (4 * s) = qTurn g s
  | 0, _ => rfl
  | s + 1, h => l_tn4 g (show s < 6 by omega) (l_tnS g s (by omega)) 4 (Nat.le_refl 4)
theorem l_turn (g : Nat → Int32) : lTn g 24 = qTurn g 6 := l_tnS g 6 (Nat.le_refl 6)
