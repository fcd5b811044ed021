/-! the words of the law of its own, and what they are in the class's -/
theorem lq_in (f : Nat → Int32) (s : Nat) : f (4 * s) + f (4 * s + 1) + f (4 * s + 2) + f (4 * s + 3) = qIn f s := by
  show f (4 * s) + f (4 * s + 1) + f (4 * s + 2) + f (4 * s + 3) = (0 : Int32) + f (4 * s + 0) + f (4 * s + 1) + f (4 * s + 2) + f (4 * s + 3)
  rw [Int32.zero_add]
  rfl
/-- all from slice a to slice t -/
def lSm (f : Nat → Int32) (a t : Nat) : Int32 := qS (fun k => f (4 * a + k)) (4 * t + 4 - 4 * a)
def lRm (p a : Int32) : Int32 := if a < p then p - a else 0
theorem l_wish (v r n f X : Int32) (h : (if n * v * f / 100000 = 0 ∧ r < n then 1 else n * v * f / 100000) = X) : qWish v r n f = if n < X then n else X := by
  unfold qWish
  rw [h]
  exact i_min X n
theorem s_four (f : Nat → Int32) : ∀ n, qS f (4 * n) = qS (fun s => qS (fun c => f (4 * s + c)) 4) n
  | 0 => rfl
  | n + 1 => by
    rw [show 4 * (n + 1) = 4 * n + 4 from by omega, s_split f (4 * n) 4, s_four f n]
    rfl
theorem l_sum_to (f : Nat → Int32) (t : Nat) : lSm f 0 t = qTo f (t + 1) := by
  unfold lSm qTo
  rw [show 4 * t + 4 - 4 * 0 = 4 * (t + 1) by omega, s_four]
  refine s_cong (fun s _ => ?_)
  refine s_cong (fun c _ => ?_)
  rw [show 4 * 0 + (4 * s + c) = 4 * s + c by omega]
theorem l_sum_all (f : Nat → Int32) : lSm f 0 11 = qAll f := l_sum_to f 11
theorem l_bed {f : Nat → Int32} {p : Int32} {m : Nat} (h : qBed f p = m) (hm : m ≤ 12) : lSm f (12 - m) 11 = qAll f - qTo f (12 - qBed f p) := by
  rw [h]
  have e1 : qAll f = qTo f (12 - m) + qS (fun i => qIn f (12 - m + i)) m := by
    have e := s_split (fun s => qIn f s) (12 - m) m
    rw [show 12 - m + m = 12 by omega] at e
    exact e
  have e2 : lSm f (12 - m) 11 = qS (fun i => qIn f (12 - m + i)) m := by
    unfold lSm
    rw [show 4 * 11 + 4 - 4 * (12 - m) = 4 * m by omega, s_four]
    refine s_cong (fun s _ => ?_)
    refine s_cong (fun c _ => ?_)
    rw [show 4 * (12 - m) + (4 * s + c) = 4 * (12 - m + s) + c by omega]
  rw [e1, e2, Int32.add_comm, Int32.add_sub_cancel]
theorem l_bed0 {f : Nat → Int32} {p : Int32} {m : Nat} (h : qBed f p = m) (hm : 12 - m = 12) : (0 : Int32) = qAll f - qTo f (12 - qBed f p) := by
  rw [h, hm]
  exact (Int32.sub_self _).symm
theorem l_cases9 {k : Nat} (h : k < 9) : k = 0 ∨ k = 1 ∨ k = 2 ∨ k = 3 ∨ k = 4 ∨ k = 5 ∨ k = 6 ∨ k = 7 ∨ k = 8 := by omega
/-! the leading class, looked for from the last -/
def lLd (f : Nat → Int32) : Nat → Option Nat
  | 0 => none
  | i + 1 => match lLd f i with
    | none => if 0 < f (3 - i) then some (3 - i) else none
    | some b => if 0 < f (3 - i) ∧ f b ≤ f (3 - i) then some (3 - i) else some b
section LLD
variable {f : Nat → Int32} {i b : Nat}
theorem l_ld_none (ho : lLd f i = none) (h : 0 < f (3 - i)) : lLd f (i + 1) = some (3 - i) := by
  rw [lLd, ho]
  exact if_pos h
theorem l_ld_less (ho : lLd f i = some b) (h : f (3 - i) < f b) : lLd f (i + 1) = some b := by
  rw [lLd, ho]
  exact if_neg (fun q => absurd h (Int32.not_lt.mpr q.2))
theorem l_ld_more (ho : lLd f i = some b) (h0 : 0 < f (3 - i)) (h : f b ≤ f (3 - i)) : lLd f (i + 1) = some (3 - i) := by
  rw [lLd, ho]
  exact if_pos ⟨h0, h⟩
theorem l_ld_no {o : Option Nat} (ho : lLd f i = o) (h : f (3 - i) ≤ 0) : lLd f (i + 1) = o := by
  have hn : ¬ 0 < f (3 - i) := Int32.not_lt.mpr h
  rw [lLd, ho]
  cases o with
  | none => exact if_neg hn
  | some b => exact if_neg (fun q => hn q.1)
/-- the one found among the last i -/
theorem l_ld_is (f : Nat → Int32) : ∀ i, i ≤ 4 → (lLd f i = none ∧ ∀ k, 4 - i ≤ k → k < 4 → (f k).toInt ≤ 0) ∨ ∃ b, lLd f i = some b ∧ 4 - i ≤ b ∧ b < 4 ∧ 0 < (f b).toInt ∧ (∀ k, 4 - i ≤ k → k < 4 → (f k).toInt ≤ (f b).toInt) ∧ ∀ k, 4 - i ≤ k → k < b → (f k).toInt < (f b).toInt
  | 0, _ => Or.inl ⟨rfl, fun k h1 h2 => by omega⟩
  | i + 1, hi => by
    have z0 : (0 : Int32).toInt = 0 := by decide
    rcases l_ld_is f i (by omega) with ⟨h1, h2⟩ | ⟨b, h1, hb1, hb2, hb3, hb4, hb5⟩
    · by_cases c : 0 < f (3 - i)
      · refine Or.inr ⟨3 - i, l_ld_none h1 c, by omega, by omega, ?_, fun k k1 k2 => ?_, fun k k1 k2 => by omega⟩
        · rw [Int32.lt_iff_toInt_lt, z0] at c; exact c
        · rw [Int32.lt_iff_toInt_lt, z0] at c
          by_cases e : k = 3 - i
          · rw [e]; omega
          · have := h2 k (by omega) k2
            omega
      · refine Or.inl ⟨l_ld_no h1 (Int32.not_lt.mp c), fun k k1 k2 => ?_⟩
        rw [Int32.lt_iff_toInt_lt, z0] at c
        by_cases e : k = 3 - i
        · rw [e]; omega
        · exact h2 k (by omega) k2
    · by_cases c : 0 < f (3 - i)
      · by_cases d : f b ≤ f (3 - i)
        · refine Or.inr ⟨3 - i, l_ld_more h1 c d, by omega, by omega, ?_, fun k k1 k2 => ?_, fun k k1 k2 => by omega⟩
          · rw [Int32.lt_iff_toInt_lt, z0] at c; exact c
          · rw [Int32.le_iff_toInt_le] at d
            by_cases e : k = 3 - i
            · rw [e]; exact Int.le_refl _
            · have := hb4 k (by omega) k2
              omega
        · have d2 : f (3 - i) < f b := Int32.not_le.mp d
          refine Or.inr ⟨b, l_ld_less h1 d2, by omega, hb2, hb3, fun k k1 k2 => ?_, fun k k1 k2 => ?_⟩
          · rw [Int32.lt_iff_toInt_lt] at d2
            by_cases e : k = 3 - i
            · rw [e]; omega
            · exact hb4 k (by omega) k2
          · rw [Int32.lt_iff_toInt_lt] at d2
            by_cases e : k = 3 - i
            · rw [e]; exact d2
            · exact hb5 k (by omega) k2
      · refine Or.inr ⟨b, l_ld_no h1 (Int32.not_lt.mp c), by omega, hb2, hb3, fun k k1 k2 => ?_, fun k k1 k2 => ?_⟩
        · rw [Int32.lt_iff_toInt_lt, z0] at c
          by_cases e : k = 3 - i
          · rw [e]; omega
          · exact hb4 k (by omega) k2
        · rw [Int32.lt_iff_toInt_lt, z0] at c
          by_cases e : k = 3 - i
          · rw [e]; omega
          · exact hb5 k (by omega) k2
theorem l_ld_none0 : ∀ {i : Nat} {b : Nat}, lLd f i = some b → b < 4
  | 0, _, h => by cases h
  | i + 1, b, h => by
    cases ho : lLd f i with
    | none =>
      rw [lLd, ho] at h
      have h2 : (if 0 < f (3 - i) then some (3 - i) else none) = some b := h
      split at h2
      · have := Option.some.inj h2
        omega
      · cases h2
    | some b2 =>
      have hb := l_ld_none0 ho
      rw [lLd, ho] at h
      have h2 : (if 0 < f (3 - i) ∧ f b2 ≤ f (3 - i) then some (3 - i) else some b2) = some b := h
      split at h2
      · have := Option.some.inj h2
        omega
      · have := Option.some.inj h2
        omega
theorem l_ld_lt (h : lLd f i = some b) : b < 4 := l_ld_none0 h
theorem q_ld_is (f : Nat → Int32) : ∀ c, (qLd f c = (-1, 0) ∧ ∀ k, k < c → (f k).toInt ≤ 0) ∨ ∃ b, qLd f c = (nI b, f b) ∧ b < c ∧ 0 < (f b).toInt ∧ (∀ k, k < c → (f k).toInt ≤ (f b).toInt) ∧ ∀ k, k < b → (f k).toInt < (f b).toInt
  | 0 => Or.inl ⟨rfl, fun k h => absurd h (Nat.not_lt_zero k)⟩
  | c + 1 => by
    have z0 : (0 : Int32).toInt = 0 := by decide
    rcases q_ld_is f c with ⟨h1, h2⟩ | ⟨b, h1, hb2, hb3, hb4, hb5⟩
    · by_cases d : (qLd f c).2 < f c
      · refine Or.inr ⟨c, if_pos d, by omega, ?_, fun k k1 => ?_, fun k k1 => ?_⟩
        · rw [h1, Int32.lt_iff_toInt_lt] at d
          have d2 : (0 : Int32).toInt < (f c).toInt := d
          omega
        · rw [h1, Int32.lt_iff_toInt_lt] at d
          have d2 : (0 : Int32).toInt < (f c).toInt := d
          by_cases e : k = c
          · rw [e]; omega
          · have := h2 k (by omega)
            omega
        · rw [h1, Int32.lt_iff_toInt_lt] at d
          have d2 : (0 : Int32).toInt < (f c).toInt := d
          have := h2 k k1
          omega
      · refine Or.inl ⟨(if_neg d).trans h1, fun k k1 => ?_⟩
        rw [h1, Int32.lt_iff_toInt_lt] at d
        have d2 : ¬ (0 : Int32).toInt < (f c).toInt := d
        by_cases e : k = c
        · rw [e]; omega
        · exact h2 k (by omega)
    · by_cases d : (qLd f c).2 < f c
      · have d2 : (f b).toInt < (f c).toInt := by rw [h1, Int32.lt_iff_toInt_lt] at d; exact d
        refine Or.inr ⟨c, if_pos d, by omega, by omega, fun k k1 => ?_, fun k k1 => ?_⟩
        · by_cases e : k = c
          · rw [e]; omega
          · have := hb4 k (by omega)
            omega
        · have := hb4 k k1
          omega
      · have d2 : ¬ (f b).toInt < (f c).toInt := by rw [h1, Int32.lt_iff_toInt_lt] at d; exact d
        refine Or.inr ⟨b, (if_neg d).trans h1, by omega, hb3, fun k k1 => ?_, hb5⟩
        by_cases e : k = c
        · rw [e]; omega
        · exact hb4 k (by omega)
theorem l_lead {g : Nat → Int32} {s : Nat} {o : Option Nat} (ho : lLd (fun c => g (4 * s + c)) 4 = o) : zOI o = qLead g s := by
  show zOI o = (qLd (fun c => g (4 * s + c)) 4).1
  rw [← ho]
  generalize (fun c => g (4 * s + c)) = f
  rcases l_ld_is f 4 (Nat.le_refl 4) with ⟨h1, h2⟩ | ⟨b, h1, hb1, hb2, hb3, hb4, hb5⟩
  · rcases q_ld_is f 4 with ⟨k1, k2⟩ | ⟨d, k1, kd2, kd3, kd4, kd5⟩
    · rw [h1, k1]; rfl
    · have := h2 d (by omega) kd2
      omega
  · rcases q_ld_is f 4 with ⟨k1, k2⟩ | ⟨d, k1, kd2, kd3, kd4, kd5⟩
    · have := k2 b hb2
      omega
    · rw [h1, k1]
      have e : b = d := by
        rcases Nat.lt_trichotomy b d with c | c | c
        · have a1 := kd5 b c
          have a2 := hb4 d (by omega) kd2
          omega
        · exact c
        · have a1 := hb5 d (by omega) c
          have a2 := kd4 b hb2
          omega
      rw [e]
      rfl
end LLD
theorem q_lead_is (g : Nat → Int32) (s : Nat) : qLead g s = -1 ∨ 0 ≤ qLead g s := by
  rcases q_ld_is (fun c => g (4 * s + c)) 4 with ⟨k1, -⟩ | ⟨d, k1, kd2, -⟩
  · exact Or.inl (congrArg Prod.fst k1)
  · refine Or.inr ?_
    rw [show qLead g s = nI d from congrArg Prod.fst k1]
    exact nI_pos' (by omega)
/-! changes of the leader, counted from the bottom -/
def lCh (l : Nat → Int32) : Nat → Int32 × Int32
  | 0 => (0, -1)
  | i + 1 => if l (11 - i) < 0 then lCh l i else ((lCh l i).1 + (if 0 ≤ (lCh l i).2 ∧ ¬ (lCh l i).2 = l (11 - i) then 1 else 0), l (11 - i))
theorem i_neg {x : Int32} (h : x = -1 ∨ 0 ≤ x) : x < 0 ↔ x = -1 := by
  have z0 : (0 : Int32).toInt = 0 := by decide
  have z1 : (-1 : Int32).toInt = -1 := by decide
  constructor
  · intro q
    rcases h with h | h
    · exact h
    · exact absurd q (Int32.not_lt.mpr h)
  · intro q
    rw [q]
    decide
theorem l_ch_is {l : Nat → Int32} (hl : ∀ k, l k = -1 ∨ 0 ≤ l k) : ∀ i, (lCh l i).2 = -1 ∨ 0 ≤ (lCh l i).2
  | 0 => Or.inl rfl
  | i + 1 => by
    rw [lCh]
    split
    · exact l_ch_is hl i
    · exact hl _
def lDl (p f : Int32) : Int32 := if ¬ p = -1 ∧ ¬ f = -1 ∧ ¬ p = f then 1 else 0
theorem l_ch_all {l : Nat → Int32} (hl : ∀ k, l k = -1 ∨ 0 ≤ l k) : ∀ n a, a + n = 12 → (qCh l 12).1 = (qCh l a).1 + (lCh l n).1 + lDl (qCh l a).2 (lCh l n).2
  | 0, a, h => by
    have e : a = 12 := by omega
    subst e
    have e2 : lDl (qCh l 12).2 (lCh l 0).2 = 0 := if_neg (fun q => q.2.1 rfl)
    rw [e2]
    show _ = (qCh l 12).1 + 0 + 0
    rw [Int32.add_zero, Int32.add_zero]
  | n + 1, a, h => by
    have ih := l_ch_all hl n (a + 1) (by omega)
    have ea : 11 - n = a := by omega
    rw [ih]
    by_cases c : l a = -1
    · have e1 : qCh l (a + 1) = qCh l a := by
        rw [qCh, if_neg (fun q => q.1 c), if_neg (fun q => q c)]
      have e2 : lCh l (n + 1) = lCh l n := by
        rw [lCh, ea, if_pos ((i_neg (hl a)).mpr c)]
      rw [e1, e2]
    · have e1 : qCh l (a + 1) = ((qCh l a).1 + lDl (qCh l a).2 (l a), l a) := by
        rw [qCh, if_pos c]
        refine congrArg (fun x => (x, l a)) ?_
        by_cases d : ¬ l a = -1 ∧ ¬ (qCh l a).2 = -1 ∧ ¬ l a = (qCh l a).2
        · rw [if_pos d]
          rw [show lDl (qCh l a).2 (l a) = 1 from if_pos ⟨d.2.1, d.1, fun q => d.2.2 q.symm⟩]
        · rw [if_neg d, show lDl (qCh l a).2 (l a) = 0 from if_neg (fun q => d ⟨q.2.1, q.1, fun w => q.2.2 w.symm⟩), Int32.add_zero]
      have e2 : lCh l (n + 1) = ((lCh l n).1 + lDl (l a) (lCh l n).2, l a) := by
        rw [lCh, ea, if_neg (fun q => c ((i_neg (hl a)).mp q))]
        refine congrArg (fun x => ((lCh l n).1 + x, l a)) ?_
        have hf := l_ch_is hl n
        by_cases d : 0 ≤ (lCh l n).2 ∧ ¬ (lCh l n).2 = l a
        · rw [if_pos d]
          exact (if_pos ⟨c, fun q => by have h9 := d.1; rw [q] at h9; exact absurd h9 (by decide), fun q => d.2 q.symm⟩).symm
        · rw [if_neg d]
          refine (if_neg (fun q => d ⟨?_, fun w => q.2.2 w.symm⟩)).symm
          rcases hf with hf | hf
          · exact absurd hf q.2.1
          · exact hf
      rw [e1, e2]
      show (qCh l a).1 + lDl (qCh l a).2 (l a) + (lCh l n).1 + lDl (l a) (lCh l n).2 = (qCh l a).1 + ((lCh l n).1 + lDl (l a) (lCh l n).2) + lDl (qCh l a).2 (l a)
      ac_rfl
theorem l_chg (g : Nat → Int32) : (lCh (qLead g) 12).1 = qChg g := by
  have h := l_ch_all (l := qLead g) (fun k => q_lead_is g k) 12 0 (by omega)
  have e : lDl (qCh (qLead g) 0).2 (lCh (qLead g) 12).2 = 0 := if_neg (fun q => q.1 rfl)
  rw [e] at h
  have h2 : (qCh (qLead g) 12).1 = (0 : Int32) + (lCh (qLead g) 12).1 + 0 := h
  rw [Int32.add_zero, Int32.zero_add] at h2
  exact h2.symm
/-! rooms, factors, wishes, with the settings of a row of sixteen -/
theorem l_rm {p a : Nat} (hp : p ≤ 5000) (ha : a ≤ 5000) : lRm (nI p) (nI a) = nI (p - a) := by
  unfold lRm
  by_cases c : a < p
  · rw [if_pos ((nI_ltI (by omega) (by omega)).mpr c), pk_sub (by omega)]
  · rw [if_neg (fun q => c ((nI_ltI (by omega) (by omega)).mp q)), show p - a = 0 by omega]
    rfl
section LMW
variable {z y fe : Nat → Int32} {j s k : Nat}
theorem l_room (hG : mGood z) (hj : j < 3) (hs : s < 12) (hfe : cV z = fe) : lRm (fe 1) (qIn (qV z j) s) = mRoom z j s := by
  subst hfe
  obtain ⟨-, h1, h2⟩ := g_in hG hj hs
  obtain ⟨h3, h4⟩ := hG.2.2.2.1
  show lRm (z 145) (qIn (qV z j) s) = qRoomM (z 145) (qIn (qV z j) s)
  rw [g_nI h1, g_nI (show 0 ≤ (z 145).toInt by omega), l_rm (by omega) (by omega), g_roomM (by omega) (by omega)]
theorem l_room2 (hG : mGood z) (hj : j < 3) (hs : s < 12) : lRm (cV z 1) (qIn (qV z j) s) = qRoom (cV z 1) (qIn (qV z j) s) := (l_room hG hj hs rfl).trans (e_room _ _)
theorem l_roomS {i : Nat} (hi : i < 11) (hG : mGood z) (hj : j < 3) (hfe : cV z = fe) : lRm (fe 1) (qIn (qV z j) (11 - i)) = mRoom z j (10 - i + 1) := by
  rw [show 11 - i = 10 - i + 1 by omega]
  exact l_room hG hj (by omega) hfe
theorem l_div (hG : mGood z) (hj : j < 3) (hs : s < 12) (hfe : cV z = fe) : ¬ 1000 + qIn (qV z j) s * fe 0 / 10 = 0 := by
  subst hfe
  exact m_div hG hj hs
theorem l_fac (hfe : cV z = fe) : qFacM (fe 0) (qIn (qV z j) s) = mFac z j s := by
  subst hfe
  rfl
theorem l_mwish {f : Int32} (hfe : cV z = fe) : qWish (fe (4 + k)) (fe 3) (qV z j (4 * s + k)) f = mWish z j s k f := by
  subst hfe
  show qWish (z (144 + (4 + k))) (z 147) (qV z j (4 * s + k)) f = qWish (z (148 + k)) (z 147) (qV z j (4 * s + k)) f
  rw [show 144 + (4 + k) = 148 + k by omega]
theorem l_lng {n v f : Nat} (hn : n ≤ 5000) (hv : v ≤ 100) (hf : f ≤ 1000) : ((nI n).toInt64 * (nI v).toInt64 * (nI f).toInt64 / 100000).toInt32 = nI n * nI v * nI f / 100000 := by
  have e1 : n * v ≤ 5000 * 100 := Nat.mul_le_mul hn hv
  have e2 : n * v * f ≤ 5000 * 100 * 1000 := Nat.mul_le_mul e1 hf
  rw [nI_l (by omega), nI_l (by omega), nI_l (by omega), lN_mul, lN_mul, show (100000 : Int64) = lN 100000 from rfl, pk_lDiv (by omega) (by omega) (by omega), lN_i, pk_mul, pk_mul, show (100000 : Int32) = nI 100000 from rfl, pk_div (by omega) (by omega) (by omega)]
theorem l_longG (hY : mGood y) (hG : mGood z) (hj : j < 3) (hs : s < 12) (hk : k < 4) (hfe : cV z = fe) : ((qV z j (4 * s + k)).toInt64 * (fe (4 + k)).toInt64 * (mFac y j s).toInt64 / 100000).toInt32 = qV z j (4 * s + k) * fe (4 + k) * mFac y j s / 100000 := by
  subst hfe
  obtain ⟨f, hf, e⟩ := g_mfac hY hj hs
  have h1 := g_pos hG hj hs hk
  have h2 : (z (48 * j + (4 * s + k))).toInt ≤ fb_si (fun q => (z (48 * j + q)).toInt) 48 := g_part (f := fun q => (z (48 * j + q)).toInt) (fun q hq => hG.1 _ (by omega)) (by omega)
  have h3 := hG.2.1 j hj
  obtain ⟨h4, h5⟩ := hG.2.2.2.2.2.2.1 k hk
  have a1 : qV z j (4 * s + k) = nI (z (48 * j + (4 * s + k))).toInt.toNat := g_nI h1
  have a2 : cV z (4 + k) = nI (z (148 + k)).toInt.toNat := by
    show z (144 + (4 + k)) = _
    rw [show 144 + (4 + k) = 148 + k by omega]
    exact g_nI (by omega)
  rw [a1, a2, e]
  exact l_lng (by omega) (by omega) hf
theorem l_long (hG : mGood z) (hj : j < 3) (hs : s < 12) (hk : k < 4) (hfe : cV z = fe) : ((qV z j (4 * s + k)).toInt64 * (fe (4 + k)).toInt64 * (mFac z j s).toInt64 / 100000).toInt32 = qV z j (4 * s + k) * fe (4 + k) * mFac z j s / 100000 := l_longG hG hG hj hs hk hfe
theorem l_cV_st (hj : j < 3) (i : Nat) (hi : i ≤ 11) : cV (mSt z j i).1 = cV z := funext fun k => m_st_out hj (144 + k) (by omega) i hi
theorem l_cV_fa {f : Int32} (hj : j < 3) (hs : s < 11) (c : Nat) (hc : c ≤ 4) : cV (mFa z j s f c).1 = cV z := funext fun k => m_fa_out hj hs (144 + k) (by omega) c hc
theorem l_good_fa (hG : mGood z) (hj : j < 3) (hs : s < 11) (c : Nat) (hc : c ≤ 4) : mGood (mFa z j s (mFac z j s) c).1 := by
  obtain ⟨f, hf, e⟩ := g_mfac hG hj (show s < 12 by omega)
  rw [e]
  exact g_fa hG hj hs hf c hc
end LMW
theorem l_drop_v {a b : Int32} (h : a ≤ b) : a = if a < b then a else b := by
  by_cases c : a < b
  · rw [if_pos c]
  · rw [if_neg c]
    rcases i_cases a b with q | q | q
    · exact absurd q c
    · exact q
    · exact absurd h (Int32.not_le.mpr q)
theorem l_drop_r {a b : Int32} (h : ¬ a ≤ b) : b = if a < b then a else b := (if_neg (fun q => i_asym q (Int32.not_le.mp h))).symm
theorem l_mput (j s c : Nat) (q : (Nat → Int32) × Int32) (x : Int32) : qV (mPut j s c q x).1 j = upd (upd (qV q.1 j) (4 * s + c) (qV q.1 j (4 * s + c) - x)) (4 * (s + 1) + c) (upd (qV q.1 j) (4 * s + c) (qV q.1 j (4 * s + c) - x) (4 * (s + 1) + c) + x) := by
  have e1 : qV (upd q.1 (48 * j + (4 * s + c)) (q.1 (48 * j + (4 * s + c)) - x)) j = upd (qV q.1 j) (4 * s + c) (qV q.1 j (4 * s + c) - x) := e_v_upd q.1 j (4 * s + c) _
  rw [← e1]
  exact e_v_upd (upd q.1 (48 * j + (4 * s + c)) (q.1 (48 * j + (4 * s + c)) - x)) j (4 * (s + 1) + c) _
