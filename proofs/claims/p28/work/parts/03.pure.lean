/-! What the methods answer and do, as functions on rows of numbers. -/
/-- the sum of the first n -/
def qS (f : Nat → Int32) : Nat → Int32
  | 0 => 0
  | n + 1 => qS f n + f n
/-- all grains of a slice, of a class, of the first n slices, of the jar -/
def qIn (g : Nat → Int32) (s : Nat) : Int32 := qS (fun c => g (4 * s + c)) 4
def qOf (g : Nat → Int32) (c : Nat) : Int32 := qS (fun s => g (4 * s + c)) 12
def qTo (g : Nat → Int32) (n : Nat) : Int32 := qS (fun s => qIn g s) n
def qAll (g : Nat → Int32) : Int32 := qTo g 12
def qDep (g : Nat → Int32) : Int32 := qS (fun s => nI s * qIn g s) 12
/-- all before n -/
def qAllB (p : Nat → Bool) : Nat → Bool
  | 0 => true
  | n + 1 => qAllB p n && p n
theorem q_allB_at {p : Nat → Bool} {i : Nat} : ∀ {n : Nat}, qAllB p n = true → i < n → p i = true
  | 0, _, h => absurd h (Nat.not_lt_zero i)
  | n + 1, h, hi => by
    rw [qAllB, Bool.and_eq_true] at h
    by_cases e : i = n
    · rw [e]; exact h.2
    · exact q_allB_at h.1 (by omega)
theorem z_ndec {P : Prop} [Decidable P] (h : (!decide P) = true) : ¬ P := by simpa using h
theorem z_ndec2 {P : Prop} [Decidable P] (h : ¬ P) : (!decide P) = true := by simpa using h
/-- the factor (h: hindrance, a: all grains), the room (p: packing), what wants to fall (v: speed, f: factor, r: residue, n: grains) -/
def qFac (h a : Int32) : Int32 := 1000000 / (if 1 < 1000 + a * h / 10 then 1000 + a * h / 10 else 1)
def qRoom (p a : Int32) : Int32 := if 0 < p - a then p - a else 0
def qWant (v r n f : Int32) : Int32 := if n * v * f / 100000 = 0 ∧ r < n then 1 else if n < n * v * f / 100000 then n else n * v * f / 100000
/-- how many in a row, from i on, at most n -/
def qRun (p : Nat → Bool) : Nat → Nat → Nat
  | 0, i => i
  | n + 1, i => if p i = true then qRun p n (i + 1) else i
def qBed (g : Nat → Int32) (p : Int32) : Nat := qRun (fun i => decide (p ≤ qIn g (11 - i))) 12 0
def qClr (g : Nat → Int32) (p : Int32) : Nat := qRun (fun i => decide (qIn g i ≤ p)) 12 0
def qPkd (g : Nat → Int32) (p : Int32) : Nat → Int32 := qS (fun s => if p ≤ qIn g s then 1 else 0)
def qClrs (g : Nat → Int32) (p : Int32) : Nat → Int32 := qS (fun s => if qIn g s ≤ p then 1 else 0)
/-- the leading class: the leader and how many -/
def qLd (f : Nat → Int32) : Nat → Int32 × Int32
  | 0 => (-1, 0)
  | c + 1 => if (qLd f c).2 < f c then (nI c, f c) else qLd f c
def qLead (g : Nat → Int32) (s : Nat) : Int32 := (qLd (fun c => g (4 * s + c)) 4).1
/-- changes of the leader, and the last one -/
def qCh (l : Nat → Int32) : Nat → Int32 × Int32
  | 0 => (0, -1)
  | k + 1 => (if ¬ l k = -1 ∧ ¬ (qCh l k).2 = -1 ∧ ¬ l k = (qCh l k).2 then (qCh l k).1 + 1 else (qCh l k).1, if ¬ l k = -1 then l k else (qCh l k).2)
def qChg (g : Nat → Int32) : Int32 := (qCh (qLead g) 12).1
/-- the purest slice: the slice, its grains of the class, all its grains -/
def qPu (g : Nat → Int32) (c : Nat) : Nat → Int32 × Int32 × Int32
  | 0 => (-1, 0, 1)
  | k + 1 => if (qPu g c k).2.1 * qIn g k < g (4 * k + c) * (qPu g c k).2.2 then (nI k, g (4 * k + c), qIn g k) else qPu g c k
/-- why a grain stays -/
def qWhy (g v w : Nat → Int32) (s c : Nat) : Int32 :=
  if s = 11 then 1 else if g (4 * s + c) = 0 then 2 else if qRoom (v 1) (qIn g (s + 1)) = 0 then 3 else if qWant (w c) (v 3) (g (4 * s + c)) (qFac (v 0) (qIn g s)) = 0 then 4 else 0
theorem z_cases4 {k : Nat} (h : k < 4) : k = 0 ∨ k = 1 ∨ k = 2 ∨ k = 3 := by omega
theorem z_cases3 {k : Nat} (h : k < 3) : k = 0 ∨ k = 1 ∨ k = 2 := by omega
theorem z_cases6 {k : Nat} (h : k < 6) : k = 0 ∨ k = 1 ∨ k = 2 ∨ k = 3 ∨ k = 4 ∨ k = 5 := by omega
theorem z_cases10 {k : Nat} (h : k < 10) : k = 0 ∨ k = 1 ∨ k = 2 ∨ k = 3 ∨ k = 4 ∨ k = 5 ∨ k = 6 ∨ k = 7 ∨ k = 8 ∨ k = 9 := by omega
theorem z_fac_ne (x : Int32) : ¬ (if 1 < x then x else 1) = 0 := by
  split
  · rename_i h
    intro e
    rw [e] at h
    exact absurd h (by decide)
  · decide
theorem z_ltm1 {t i : Nat} (ht : t < 2 ^ 30) (hi : i < 2 ^ 30) : nI t - 1 < nI i ↔ t ≤ i := by
  have h1 : (nI t - 1).toInt = (t : Int) - 1 := pk_sub_toInt (a := t) (b := 1) ht (by decide)
  have h2 : (nI i).toInt = (i : Int) := nI_toInt (by omega)
  rw [Int32.lt_iff_toInt_lt, h1, h2]
  omega
theorem z_lts {P : Nat → Prop} {i : Nat} (h : ∀ a, a < i → P a) (hi : P i) : ∀ a, a < i + 1 → P a := lt_s h hi
theorem z_addm1 (x : Int32) : x + Int32.ofInt (-1) = x - 1 := by rw [Int32.sub_eq_add_neg]; rfl
theorem q_run_le (p : Nat → Bool) : ∀ n i, qRun p n i ≤ i + n
  | 0, i => Nat.le_refl i
  | n + 1, i => by
    rw [qRun]
    split
    · have h := q_run_le p n (i + 1)
      omega
    · omega
theorem q_bed_le (g : Nat → Int32) (p : Int32) : qBed g p ≤ 12 := q_run_le _ 12 0
theorem q_clr_le (g : Nat → Int32) (p : Int32) : qClr g p ≤ 12 := q_run_le _ 12 0
/-- put -/
def qPut (g : Nat → Int32) (s c : Nat) (x : Int32) : Nat → Int32 := upd g (4 * s + c) (g (4 * s + c) + x)
/-- spread class c over the m slices from a on: what is left is shared, slice by slice -/
def qSp (g : Nat → Int32) (a b c : Nat) (all : Int32) : Nat → (Nat → Int32) × Int32
  | 0 => (g, all)
  | i + 1 => (qPut (qSp g a b c all i).1 (a + i) c (((qSp g a b c all i).2 + nI (b - (a + i))) / nI (b - (a + i) + 1) - (qSp g a b c all i).1 (4 * (a + i) + c)), (qSp g a b c all i).2 - ((qSp g a b c all i).2 + nI (b - (a + i))) / nI (b - (a + i) + 1))
def qSum (g : Nat → Int32) (a c : Nat) (n : Nat) : Int32 := qS (fun i => g (4 * (a + i) + c)) n
/-- a slice poured over, class by class; all slices before t -/
def qOv (g o : Nat → Int32) (s : Nat) : Nat → (Nat → Int32) × (Nat → Int32)
  | 0 => (g, o)
  | c + 1 => (qPut (qOv g o s c).1 s c (-((qOv g o s c).1 (4 * s + c))), qPut (qOv g o s c).2 s c ((qOv g o s c).1 (4 * s + c)))
def qOver (g o : Nat → Int32) : Nat → (Nat → Int32) × (Nat → Int32)
  | 0 => (g, o)
  | t + 1 => qOv (qOver g o t).1 (qOver g o t).2 t 4
/-- turning over: two slices changed, class by class; all before t -/
def qTn (g : Nat → Int32) (s : Nat) : Nat → Nat → Int32
  | 0 => g
  | c + 1 => qPut (qPut (qTn g s c) s c (qTn g s c (4 * (11 - s) + c) - qTn g s c (4 * s + c))) (11 - s) c (-(qTn g s c (4 * (11 - s) + c) - qTn g s c (4 * s + c)))
def qTurn (g : Nat → Int32) : Nat → Nat → Int32
  | 0 => g
  | t + 1 => qTn (qTurn g t) t 4
/-- how many of class c fall, of the row g with so many fallen already -/
def qDrop (w v : Nat → Int32) (f r : Int32) (s c : Nat) (q : (Nat → Int32) × Int32) : Int32 :=
  if r - q.2 < qWant (w c) (v 3) (q.1 (4 * s + c)) f then r - q.2 else qWant (w c) (v 3) (q.1 (4 * s + c)) f
def qFa (g v w : Nat → Int32) (s : Nat) : Nat → (Nat → Int32) × Int32
  | 0 => (g, 0)
  | c + 1 => (qPut (qPut (qFa g v w s c).1 s c (-(qDrop w v (qFac (v 0) (qIn g s)) (qRoom (v 1) (qIn g (s + 1))) s c (qFa g v w s c)))) (s + 1) c (qDrop w v (qFac (v 0) (qIn g s)) (qRoom (v 1) (qIn g (s + 1))) s c (qFa g v w s c)), (qFa g v w s c).2 + qDrop w v (qFac (v 0) (qIn g s)) (qRoom (v 1) (qIn g (s + 1))) s c (qFa g v w s c))
def qFall (g v w : Nat → Int32) (s : Nat) : (Nat → Int32) × Int32 := qFa g v w s 4
/-- a step, slice by slice from the tenth; a run of steps that ends when nothing falls -/
def qSt (g v w : Nat → Int32) : Nat → (Nat → Int32) × Int32
  | 0 => (g, 0)
  | i + 1 => ((qFall (qSt g v w i).1 v w (10 - i)).1, (qSt g v w i).2 + (qFall (qSt g v w i).1 v w (10 - i)).2)
def qStep (g v w : Nat → Int32) : (Nat → Int32) × Int32 := qSt g v w 11
def qGo (v w : Nat → Int32) : Nat → (Nat → Int32) × Int32 → (Nat → Int32) × Int32
  | 0, q => q
  | n + 1, q => if (qStep q.1 v w).2 = 0 then ((qStep q.1 v w).1, q.2) else qGo v w n ((qStep q.1 v w).1, q.2 + (qStep q.1 v w).2)
/-- all zero before n -/
def qZero (g : Nat → Int32) : Nat → Nat → Int32
  | 0 => g
  | n + 1 => upd (qZero g n) n 0
/-- what a slice is asked, what a jar is asked -/
def qSlice (g v w : Nat → Int32) (s : Nat) : Nat → Int32
  | 4 => qIn g s
  | 5 => if v 1 ≤ qIn g s then 1 else 0
  | 6 => if qIn g s ≤ v 2 then 1 else 0
  | 7 => qLead g s
  | 8 => qFac (v 0) (qIn g s)
  | 9 => qRoom (v 1) (qIn g s)
  | k => g (4 * s + k)
def qRest (g v w : Nat → Int32) : Bool := qAllB (fun s => qAllB (fun c => !decide (qWhy g v w s c = 0)) 4) 11
theorem q_rest_no {g v w : Nat → Int32} {i j : Nat} (hi : i < 11) (hj : j < 4) (h : qWhy g v w i j = 0) : ¬ qRest g v w = true := fun q => z_ndec (q_allB_at (p := fun c => !decide (qWhy g v w i c = 0)) (q_allB_at (p := fun s => qAllB (fun c => !decide (qWhy g v w s c = 0)) 4) q hi) hj) h
def qJar (g v w : Nat → Int32) : Nat → Int32
  | 0 => qAll g
  | 5 => nI (qBed g (v 1))
  | 6 => nI (qClr g (v 2))
  | 7 => qAll g - qTo g (12 - qBed g (v 1))
  | 8 => qChg g
  | 9 => if qRest g v w = true then 1 else 0
  | k + 1 => qOf g k
theorem z_bedm {b : Nat} (h : b ≤ 12) : 11 - nI b = nI (12 - b) - 1 := by
  have h1 : (11 - nI b).toInt = (11 : Int) - b := pk_sub_toInt (a := 11) (b := b) (by decide) (by omega)
  have h2 : (nI (12 - b) - 1).toInt = ((12 - b : Nat) : Int) - 1 := pk_sub_toInt (a := 12 - b) (b := 1) (by omega) (by decide)
  apply Int32.toInt_inj.mp
  rw [h1, h2]
  omega
/-! the reference's own words -/
/-- jar j of the row z; its settings; its speeds -/
def qV (z : Nat → Int32) (j : Nat) : Nat → Int32 := fun k => z (48 * j + k)
def qFacM (h a : Int32) : Int32 := 1000000 / (1000 + a * h / 10)
def qRoomM (p a : Int32) : Int32 := if p - a < 0 then 0 else p - a
def qWish (v r n f : Int32) : Int32 := if (if n * v * f / 100000 = 0 ∧ r < n then 1 else n * v * f / 100000) < n then (if n * v * f / 100000 = 0 ∧ r < n then 1 else n * v * f / 100000) else n
def mWish (z : Nat → Int32) (j s c : Nat) (f : Int32) : Int32 := qWish (z (148 + c)) (z 147) (qV z j (4 * s + c)) f
def mRoom (z : Nat → Int32) (j s : Nat) : Int32 := qRoomM (z 145) (qIn (qV z j) s)
def mFac (z : Nat → Int32) (j s : Nat) : Int32 := qFacM (z 144) (qIn (qV z j) s)
def mDrop (z : Nat → Int32) (j s c : Nat) (f : Int32) : Int32 := if mWish z j s c f < mRoom z j (s + 1) then mWish z j s c f else mRoom z j (s + 1)
def mPut (j s c : Nat) (q : (Nat → Int32) × Int32) (x : Int32) : (Nat → Int32) × Int32 :=
  (upd (upd q.1 (48 * j + (4 * s + c)) (q.1 (48 * j + (4 * s + c)) - x)) (48 * j + (4 * (s + 1) + c)) ((upd q.1 (48 * j + (4 * s + c)) (q.1 (48 * j + (4 * s + c)) - x)) (48 * j + (4 * (s + 1) + c)) + x), q.2 + x)
def mFa (z : Nat → Int32) (j s : Nat) (f : Int32) : Nat → (Nat → Int32) × Int32
  | 0 => (z, 0)
  | c + 1 => mPut j s c (mFa z j s f c) (mDrop (mFa z j s f c).1 j s c f)
def mFall (z : Nat → Int32) (j s : Nat) : (Nat → Int32) × Int32 := mFa z j s (mFac z j s) 4
def mSt (z : Nat → Int32) (j : Nat) : Nat → (Nat → Int32) × Int32
  | 0 => (z, 0)
  | i + 1 => ((mFall (mSt z j i).1 j (10 - i)).1, (mSt z j i).2 + (mFall (mSt z j i).1 j (10 - i)).2)
def mStep (z : Nat → Int32) (j : Nat) : (Nat → Int32) × Int32 := mSt z j 11
/-- f copied over g, the first n -/
def qCp (f g : Nat → Int32) : Nat → Nat → Int32
  | 0 => g
  | n + 1 => upd (qCp f g n) n (f n)
def mWhy (z : Nat → Int32) (j s c : Nat) : Int32 :=
  if s = 11 then 1 else if qV z j (4 * s + c) = 0 then 2 else if mRoom z j (s + 1) = 0 then 3 else if mWish z j s c (mFac z j s) = 0 then 4 else 0
def mStay (z : Nat → Int32) (j s : Nat) : Nat → Bool := qAllB (fun c => decide (0 < mWhy z j s c))
def mRest (z : Nat → Int32) (j : Nat) : Nat → Bool := qAllB (fun s => mStay z j s 4)
def mBed (z : Nat → Int32) (j : Nat) : Nat := qBed (qV z j) (z 145)
def mIn (z : Nat → Int32) (j : Nat) : Nat → Int32 := qS (fun i => qIn (qV z j) (12 - mBed z j + i))
def mSlice (z : Nat → Int32) (j s : Nat) : Nat → Int32
  | 4 => qIn (qV z j) s
  | 5 => if z 145 ≤ qIn (qV z j) s then 1 else 0
  | 6 => if qIn (qV z j) s ≤ z 146 then 1 else 0
  | 7 => qLead (qV z j) s
  | 8 => mFac z j s
  | 9 => mRoom z j s
  | k => qV z j (4 * s + k)
def mJar (z : Nat → Int32) (j : Nat) : Nat → Int32
  | 0 => qAll (qV z j)
  | 5 => nI (mBed z j)
  | 6 => nI (qClr (qV z j) (z 146))
  | 7 => mIn z j (mBed z j)
  | 8 => qChg (qV z j)
  | 9 => if mRest z j 12 = true then 1 else 0
  | k + 1 => qOf (qV z j) k
def mClr (z : Nat → Int32) : Nat → Int32 := qS (fun k => if qIn (qV z (k / 12)) (k % 12) ≤ z 146 then 1 else 0)
def mGr (z : Nat → Int32) (c : Nat) : Nat → Int32
  | 0 => z (152 + c)
  | 1 => z (156 + c)
  | 2 => qOf (qV z 0) c + qOf (qV z 1) c + qOf (qV z 2) c
  | _ => z (148 + c)
def mCnt (z : Nat → Int32) (sv : Nat) : Nat → Int32
  | 0 => z 160
  | 1 => qAll (qV z 0) + qAll (qV z 1) + qAll (qV z 2)
  | 2 => qPkd (qV z 0) (z 145) 12 + qPkd (qV z 1) (z 145) 12 + qPkd (qV z 2) (z 145) 12
  | 3 => mClr z 36
  | 4 => z 161
  | _ => nI sv
/-- what holds of every row that a run of calls comes to -/
def mGood (z : Nat → Int32) : Prop :=
  (∀ k, k < 144 → 0 ≤ (z k).toInt) ∧ (∀ j, j < 3 → fb_si (fun k => (z (48 * j + k)).toInt) 48 ≤ 5000) ∧
  (0 ≤ (z 144).toInt ∧ (z 144).toInt ≤ 1000) ∧ (10 ≤ (z 145).toInt ∧ (z 145).toInt ≤ 1000) ∧ (0 ≤ (z 146).toInt ∧ (z 146).toInt ≤ 50) ∧ (0 ≤ (z 147).toInt ∧ (z 147).toInt ≤ 9) ∧
  (∀ c, c < 4 → 1 ≤ (z (148 + c)).toInt ∧ (z (148 + c)).toInt ≤ 100) ∧ (0 ≤ (z 160).toInt ∧ (z 160).toInt ≤ 10000)
theorem z_nb (P : Prop) [Decidable P] : narrow .boolean (.int (if P then 1 else 0)) = .int (if P then 1 else 0) := by split <;> rfl
theorem q_cp_at (f g : Nat → Int32) : ∀ n k, k < n → qCp f g n k = f k
  | 0, k, h => absurd h (Nat.not_lt_zero k)
  | n + 1, k, h => by
    show upd (qCp f g n) n (f n) k = f k
    by_cases e : k = n
    · subst e; simp [upd]
    · simp only [upd, if_neg e]; exact q_cp_at f g n k (by omega)
theorem q_cp_out (f g : Nat → Int32) : ∀ n k, n ≤ k → qCp f g n k = g k
  | 0, k, h => rfl
  | n + 1, k, h => by
    show upd (qCp f g n) n (f n) k = g k
    simp only [upd, if_neg (show ¬ k = n by omega)]
    exact q_cp_out f g n k (by omega)
theorem q_back {y a z : Nat → Int32} (h : ∀ k, 162 ≤ k → z k = y k) : qCp (qCp y a 162) z 162 = y := by
  funext k
  by_cases e : k < 162
  · rw [q_cp_at _ _ _ _ e, q_cp_at _ _ _ _ e]
  · rw [q_cp_out _ _ _ _ (by omega)]
    exact h k (by omega)
def qLo (k : Nat) : Int32 := if k = 1 then 10 else 0
def qUp (k : Nat) : Int32 := if k = 0 then 1000 else if k = 1 then 1000 else if k = 2 then 50 else 9
/-- the saved rows: pushed down by one row, then row o laid -/
def mShift (sd : Nat → Int32) : Nat → Nat → Int32
  | 0 => sd
  | n + 1 => upd (mShift sd n) n (mShift sd n (162 + n))
def qAt (sd z : Nat → Int32) (o : Nat) : Nat → Nat → Int32
  | 0 => sd
  | n + 1 => upd (qAt sd z o n) (162 * o + n) (z n)
def mSv (sv : Nat) : Nat := if sv = 6 then 5 else sv
def mBase (sd : Nat → Int32) (sv : Nat) : Nat → Int32 := if sv = 6 then mShift sd 810 else sd
def mSave (sd z : Nat → Int32) (sv : Nat) : Nat → Int32 := qAt (mBase sd sv) z (mSv sv) 162
/-- taken back from row o -/
def mUndo (sd z : Nat → Int32) (o : Nat) : Nat → Nat → Int32
  | 0 => z
  | n + 1 => upd (mUndo sd z o n) n (sd (162 * o + n))
def mSteps (z : Nat → Int32) (j : Nat) : Nat → Nat → Int32
  | 0 => z
  | i + 1 => (mStep (mSteps z j i) j).1
def mCn (j sl : Nat) : Nat → Nat → (Nat → Int32) → Nat
  | 0, i, _ => i
  | n + 1, i, Z => if qClr (qV Z j) (Z 146) < sl then mCn j sl n (i + 1) (mStep Z j).1 else i
def mRn (j : Nat) : Nat → Nat → (Nat → Int32) → Nat
  | 0, i, _ => i
  | n + 1, i, Z => if 0 < (mStep Z j).2 then mRn j n (i + 1) (mStep Z j).1 else i
def mRun (z : Nat → Int32) : Nat → (Nat → Int32) × Int32
  | 0 => (z, 0)
  | k + 1 => ((mStep (mRun z k).1 (k % 3)).1, (mRun z k).2 + (mStep (mRun z k).1 (k % 3)).2)
def mSettle (z : Nat → Int32) (t : Nat) : Nat → Int32 :=
  upd (upd (mRun z (3 * t)).1 160 ((mRun z (3 * t)).1 160 + nI t)) 161 ((upd (mRun z (3 * t)).1 160 ((mRun z (3 * t)).1 160 + nI t)) 161 + (mRun z (3 * t)).2)
def mBring (z : Nat → Int32) (j s c : Nat) (x : Int32) : Nat → Int32 :=
  upd (upd z (48 * j + (4 * s + c)) (z (48 * j + (4 * s + c)) + x)) (152 + c) ((upd z (48 * j + (4 * s + c)) (z (48 * j + (4 * s + c)) + x)) (152 + c) + x)
def mDr1 (j s c : Nat) (q : (Nat → Int32) × Int32) (x : Int32) : (Nat → Int32) × Int32 :=
  (upd (upd q.1 (48 * j + (4 * s + c)) (q.1 (48 * j + (4 * s + c)) - x)) (156 + c) ((upd q.1 (48 * j + (4 * s + c)) (q.1 (48 * j + (4 * s + c)) - x)) (156 + c) + x), q.2 + x)
def mDraw (z : Nat → Int32) (j s : Nat) (p : Int32) : Nat → (Nat → Int32) × Int32
  | 0 => (z, 0)
  | c + 1 => mDr1 j s c (mDraw z j s p c) ((mDraw z j s p c).1 (48 * j + (4 * s + c)) * p / 100)
def mDec (z : Nat → Int32) (a b : Nat) : Nat → Nat → Int32
  | 0 => z
  | k + 1 => upd (upd (mDec z a b k) (48 * b + k) (mDec z a b k (48 * b + k) + mDec z a b k (48 * a + k))) (48 * a + k) 0
def mTn (z : Nat → Int32) (j s : Nat) : Nat → Nat → Int32
  | 0 => z
  | c + 1 => upd (upd (mTn z j s c) (48 * j + (4 * s + c)) (mTn z j s c (48 * j + (4 * (11 - s) + c)))) (48 * j + (4 * (11 - s) + c)) (mTn z j s c (48 * j + (4 * s + c)))
def mTurn (z : Nat → Int32) (j : Nat) : Nat → Nat → Int32
  | 0 => z
  | s + 1 => mTn (mTurn z j s) j s 4
def mSum (z : Nat → Int32) (j a c : Nat) : Nat → Int32 := qS (fun i => qV z j (4 * (a + i) + c))
def mLay (z : Nat → Int32) (j a c : Nat) (n m : Int32) : Nat → Nat → Int32
  | 0 => z
  | i + 1 => upd (mLay z j a c n m i) (48 * j + (4 * (a + i) + c)) (n / m + (if nI i < n - n / m * m then 1 else 0))
def mStir (z : Nat → Int32) (j a b : Nat) : Nat → (Nat → Int32) × Int32
  | 0 => (z, 0)
  | c + 1 => (mLay (mStir z j a b c).1 j a c (mSum (mStir z j a b c).1 j a c (b - a + 1)) (nI (b - a + 1)) (b - a + 1), (mStir z j a b c).2 + mSum (mStir z j a b c).1 j a c (b - a + 1))
/-- the purest slice -/
def zOI (o : Option Nat) : Int32 := match o with
  | none => -1
  | some b => nI b
def mBet (z : Nat → Int32) (j c k : Nat) (o : Option Nat) : Prop := 0 < qV z j (4 * k + c) ∧ (o = none ∨ ∃ b, o = some b ∧ qV z j (4 * b + c) * qIn (qV z j) k < qV z j (4 * k + c) * qIn (qV z j) b)
noncomputable def mPu (z : Nat → Int32) (j c : Nat) : Nat → Option Nat
  | 0 => none
  | k + 1 => @ite _ (mBet z j c k (mPu z j c k)) (Classical.propDecidable _) (some k) (mPu z j c k)
theorem m_pu_yes {z : Nat → Int32} {j c k : Nat} (h : mBet z j c k (mPu z j c k)) : mPu z j c (k + 1) = some k := by
  rw [mPu]
  exact if_pos h
theorem m_pu_no {z : Nat → Int32} {j c k : Nat} (h : ¬ mBet z j c k (mPu z j c k)) : mPu z j c (k + 1) = mPu z j c k := by
  rw [mPu]
  exact if_neg h
theorem z_nm1 {b : Nat} (h : b < 2 ^ 31) : ¬ nI b = -1 := by
  intro q
  have h1 := congrArg Int32.toInt q
  rw [nI_toInt h] at h1
  have h2 : (-1 : Int32).toInt = -1 := by decide
  omega
theorem z_in {k n : Nat} (h : k ≤ n ∧ n < 2 ^ 31) : 0 ≤ nI k ∧ nI k ≤ nI n := ⟨nI_pos' (by omega), nI_le h.1 h.2⟩
/-! the reference's reading of the text: (step, portions, told, read) -/
abbrev mT : Type := Nat × Nat × Int32 × (Nat → Int32)
def mEnd (q : mT) : mT := (q.1, q.2.1 + 1, q.2.2.1 + q.2.2.2 (3 * q.2.1), upd (upd q.2.2.2 (3 * (q.2.1 + 1)) 0) (3 * (q.2.1 + 1) + 2) 0)
def mNx (q : mT) (x : Int32) : Int32 := 10 * q.2.2.2 (3 * q.2.1) + x - 48
def mSx (q : mT) (x : Int32) : Int32 := 10 * q.2.2.2 (3 * q.2.1 + 2) + x - 48
def mNum (q : mT) (x : Int32) : Bool × mT :=
  if (48 ≤ x ∧ x ≤ 57) ∧ (1 ≤ mNx q x ∧ mNx q x ≤ 999) then (true, 1, q.2.1, q.2.2.1, upd q.2.2.2 (3 * q.2.1) (mNx q x)) else (false, q.1, q.2.1, q.2.2.1, upd q.2.2.2 (3 * q.2.1) (q.2.2.2 (3 * q.2.1)))
def mLet (q : mT) (x : Int32) : Bool × mT :=
  if 97 ≤ x ∧ x ≤ 100 then (true, 2, q.2.1, q.2.2.1, upd q.2.2.2 (3 * q.2.1 + 1) (x - 97)) else (false, q.1, q.2.1, q.2.2.1, upd q.2.2.2 (3 * q.2.1 + 1) (x - 97))
def mPls (q : mT) (x : Int32) : Bool × mT := if x = 43 then (true, 0, (mEnd q).2) else (false, q)
def mAt (q : mT) (x : Int32) : Bool × mT := if x = 64 then (true, 3, q.2) else (false, q)
def mSli (q : mT) (x : Int32) : Bool × mT :=
  if (48 ≤ x ∧ x ≤ 57) ∧ mSx q x < 12 ∧ (q.1 = 3 ∨ q.2.2.2 (3 * q.2.1 + 2) = 1) then (true, 4, q.2.1, q.2.2.1, upd q.2.2.2 (3 * q.2.1 + 2) (mSx q x)) else (false, q.1, q.2.1, q.2.2.1, upd q.2.2.2 (3 * q.2.1 + 2) (q.2.2.2 (3 * q.2.1 + 2)))
/-- the one, and if it doesn't take the sign, the other -/
def mOr (r : Bool × mT) (f : mT → Bool × mT) : Bool × mT := if r.1 = true then r else f r.2
def mTk (q : mT) (x : Int32) : Bool × mT :=
  if q.1 = 0 then mNum q x else if q.1 = 1 then mOr (mNum q x) (fun r => mLet r x) else if q.1 = 2 then mOr (mAt q x) (fun r => mPls r x) else if q.1 = 3 then mSli q x else mOr (mSli q x) (fun r => mPls r x)
/-- read from sign k on, n signs at most: the place, and the state behind -/
def mRd (tx : Nat → Int32) : Nat → Nat → mT → Nat × mT
  | 0, k, q => (k, q)
  | n + 1, k, q => if (mTk q (tx k)).1 = true then mRd tx n (k + 1) (mTk q (tx k)).2 else (k, (mTk q (tx k)).2)
def mQ0 (rd : Nat → Int32) : mT := (0, 0, 0, upd (upd rd 0 0) 2 0)
def mText (tx : Nat → Int32) (ln : Nat) (rd : Nat → Int32) : Nat × mT := mRd tx ln 0 (mQ0 rd)
/-- the portions brought -/
def mLoad (z rd : Nat → Int32) (j : Nat) : Nat → Nat → Int32
  | 0 => z
  | k + 1 => mBring (mLoad z rd j k) j (rd (3 * k + 2)).toNatClampNeg (rd (3 * k + 1)).toNatClampNeg (rd (3 * k))
/-- a hash over the first n -/
def qMix (h : Int64) (f : Nat → Int32) : Nat → Int64
  | 0 => h
  | n + 1 => 31 * qMix h f n + (f n).toInt64
theorem z_cases5 {k : Nat} (h : k < 5) : k = 0 ∨ k = 1 ∨ k = 2 ∨ k = 3 ∨ k = 4 := by omega
theorem m_num_po (q : mT) (x : Int32) : (mNum q x).2.2.1 = q.2.1 := by unfold mNum; split <;> rfl
theorem m_at_po (q : mT) (x : Int32) : (mAt q x).2.2.1 = q.2.1 := by unfold mAt; split <;> rfl
theorem m_sli_po (q : mT) (x : Int32) : (mSli q x).2.2.1 = q.2.1 := by unfold mSli; split <;> rfl
theorem m_num_st {q : mT} {x : Int32} (h : ¬ (mNum q x).1 = true) : (mNum q x).2.1 = q.1 := by
  unfold mNum at h ⊢
  split
  · rename_i c; rw [if_pos c] at h; exact absurd rfl h
  · rfl
theorem m_num_in {q : mT} {x : Int32} (h : (mNum q x).1 = true) : (mNum q x).2.1 = 1 := by
  unfold mNum at h ⊢
  split
  · rfl
  · rename_i c; rw [if_neg c] at h; cases h
theorem m_let_in {q : mT} {x : Int32} (h : (mLet q x).1 = true) : (mLet q x).2.1 = 2 ∧ (mLet q x).2.2.1 = q.2.1 := by
  unfold mLet at h ⊢
  split
  · exact ⟨rfl, rfl⟩
  · rename_i c; rw [if_neg c] at h; cases h
theorem m_at_in {q : mT} {x : Int32} (h : (mAt q x).1 = true) : (mAt q x).2.1 = 3 := by
  unfold mAt at h ⊢
  split
  · rfl
  · rename_i c; rw [if_neg c] at h; cases h
theorem m_at_no {q : mT} {x : Int32} (h : ¬ (mAt q x).1 = true) : (mAt q x).2 = q := by
  unfold mAt at h ⊢
  split
  · rename_i c; rw [if_pos c] at h; exact absurd rfl h
  · rfl
theorem m_pls_in {q : mT} {x : Int32} (h : (mPls q x).1 = true) : (mPls q x).2.1 = 0 ∧ (mPls q x).2.2.1 = q.2.1 + 1 := by
  unfold mPls at h ⊢
  split
  · exact ⟨rfl, rfl⟩
  · rename_i c; rw [if_neg c] at h; cases h
theorem m_sli_in {q : mT} {x : Int32} (h : (mSli q x).1 = true) : (mSli q x).2.1 = 4 := by
  unfold mSli at h ⊢
  split
  · rfl
  · rename_i c; rw [if_neg c] at h; cases h
theorem m_sli_no {q : mT} {x : Int32} (h : ¬ (mSli q x).1 = true) : (mSli q x).2.1 = q.1 := by
  unfold mSli at h ⊢
  split
  · rename_i c; rw [if_pos c] at h; exact absurd rfl h
  · rfl
/-- a sign taken: the places of the row of portions -/
theorem m_tk_inv {q : mT} {x : Int32} {k : Nat} (hq : q.1 < 5 ∧ 3 * q.2.1 + q.1 ≤ k) (h : (mTk q x).1 = true) : (mTk q x).2.1 < 5 ∧ 3 * (mTk q x).2.2.1 + (mTk q x).2.1 ≤ k + 1 := by
  obtain ⟨h5, hk⟩ := hq
  unfold mTk at h ⊢
  split
  · rename_i c; rw [if_pos c] at h
    rw [m_num_in h, m_num_po]; omega
  rename_i c0; rw [if_neg c0] at h
  split
  · rename_i c; rw [if_pos c] at h
    unfold mOr at h ⊢
    split
    · rename_i c2; rw [m_num_in c2, m_num_po]; omega
    · rename_i c2; rw [if_neg c2] at h
      rw [(m_let_in h).1, (m_let_in h).2, m_num_po]; omega
  rename_i c1; rw [if_neg c1] at h
  split
  · rename_i c; rw [if_pos c] at h
    unfold mOr at h ⊢
    split
    · rename_i c2; rw [m_at_in c2, m_at_po]; omega
    · rename_i c2; rw [if_neg c2] at h
      rw [(m_pls_in h).1, (m_pls_in h).2, m_at_po]; omega
  rename_i c2; rw [if_neg c2] at h
  split
  · rename_i c; rw [if_pos c] at h
    rw [m_sli_in h, m_sli_po]; omega
  · rename_i c; rw [if_neg c] at h
    unfold mOr at h ⊢
    split
    · rename_i c3; rw [m_sli_in c3, m_sli_po]; omega
    · rename_i c3; rw [if_neg c3] at h
      rw [(m_pls_in h).1, (m_pls_in h).2, m_sli_po]; omega
theorem m_num_lt {q : mT} {x : Int32} (h : q.1 < 5) : (mNum q x).2.1 < 5 := by
  unfold mNum
  split
  · exact (by decide : (1 : Nat) < 5)
  · exact h
theorem m_let_lt {q : mT} {x : Int32} (h : q.1 < 5) : (mLet q x).2.1 < 5 := by
  unfold mLet
  split
  · exact (by decide : (2 : Nat) < 5)
  · exact h
theorem m_pls_lt {q : mT} {x : Int32} (h : q.1 < 5) : (mPls q x).2.1 < 5 := by
  unfold mPls
  split
  · exact (by decide : (0 : Nat) < 5)
  · exact h
theorem m_at_lt {q : mT} {x : Int32} (h : q.1 < 5) : (mAt q x).2.1 < 5 := by
  unfold mAt
  split
  · exact (by decide : (3 : Nat) < 5)
  · exact h
theorem m_sli_lt {q : mT} {x : Int32} (h : q.1 < 5) : (mSli q x).2.1 < 5 := by
  unfold mSli
  split
  · exact (by decide : (4 : Nat) < 5)
  · exact h
theorem m_or_lt {r : Bool × mT} {f : mT → Bool × mT} (h : r.2.1 < 5) (hf : ∀ q : mT, q.1 < 5 → (f q).2.1 < 5) : (mOr r f).2.1 < 5 := by
  unfold mOr
  split
  · exact h
  · exact hf _ h
theorem m_tk_lt {q : mT} {x : Int32} (h : q.1 < 5) : (mTk q x).2.1 < 5 := by
  unfold mTk
  split
  · exact m_num_lt h
  split
  · exact m_or_lt (m_num_lt h) (fun _ w => m_let_lt w)
  split
  · exact m_or_lt (m_at_lt h) (fun _ w => m_pls_lt w)
  split
  · exact m_sli_lt h
  · exact m_or_lt (m_sli_lt h) (fun _ w => m_pls_lt w)
theorem m_rd_le (tx : Nat → Int32) : ∀ n k q, (mRd tx n k q).1 ≤ k + n
  | 0, k, q => Nat.le_refl k
  | n + 1, k, q => by
    rw [mRd]
    split
    · have h := m_rd_le tx n (k + 1) (mTk q (tx k)).2
      omega
    · show k ≤ k + (n + 1)
      omega
theorem m_rd_lt (tx : Nat → Int32) : ∀ n k q, q.1 < 5 → (mRd tx n k q).2.1 < 5
  | 0, k, q, h => h
  | n + 1, k, q, h => by
    rw [mRd]
    split
    · exact m_rd_lt tx n (k + 1) (mTk q (tx k)).2 (m_tk_lt h)
    · exact m_tk_lt h
theorem m_rd_inv (tx : Nat → Int32) : ∀ n k q, (q.1 < 5 ∧ 3 * q.2.1 + q.1 ≤ k) → (mRd tx n k q).1 = k + n → 3 * (mRd tx n k q).2.2.1 + (mRd tx n k q).2.1 ≤ k + n
  | 0, k, q, h, _ => h.2
  | n + 1, k, q, h, e => by
    rw [mRd] at e ⊢
    split
    · rename_i c
      rw [if_pos c] at e
      have h2 := m_rd_inv tx n (k + 1) (mTk q (tx k)).2 (m_tk_inv h c) (by rw [e]; omega)
      omega
    · rename_i c
      rw [if_neg c] at e
      have e2 : k = k + (n + 1) := e
      omega
theorem m_text_le (tx : Nat → Int32) (ln : Nat) (rd : Nat → Int32) : (mText tx ln rd).1 ≤ ln := by
  have h := m_rd_le tx ln 0 (mQ0 rd)
  rw [Nat.zero_add] at h
  exact h
theorem m_text_st (tx : Nat → Int32) (ln : Nat) (rd : Nat → Int32) : (mText tx ln rd).2.1 < 5 := m_rd_lt tx ln 0 (mQ0 rd) (show (0 : Nat) < 5 by decide)
theorem m_text_po (tx : Nat → Int32) {ln : Nat} (rd : Nat → Int32) (hln : ln ≤ 60) (h : (mText tx ln rd).1 = ln ∧ ((mText tx ln rd).2.1 = 2 ∨ (mText tx ln rd).2.1 = 4)) : (mText tx ln rd).2.2.1 ≤ 19 := by
  have h2 : 3 * (mText tx ln rd).2.2.1 + (mText tx ln rd).2.1 ≤ 0 + ln := m_rd_inv tx ln 0 (mQ0 rd) ⟨show (0 : Nat) < 5 by decide, Nat.le_refl 0⟩ (by rw [Nat.zero_add]; exact h.1)
  omega
noncomputable def qMean (g : Nat → Int32) : UInt64 := if qAll g = 0 then FP.dconst0 else FP.ddiv (FP.i2d (qDep g)) (FP.i2d (qAll g))
