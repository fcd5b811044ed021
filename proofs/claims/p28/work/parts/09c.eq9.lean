/-! stirring -/
/-- what the i-th of M slices gets of N grains; what is left before it -/
def sSh (N M i : Nat) : Nat := N / M + (if i < N % M then 1 else 0)
def sL (N M i : Nat) : Nat := (M - i) * (N / M) + (N % M - i)
theorem sL_0 {N M : Nat} : sL N M 0 = N := by
  unfold sL
  rw [Nat.sub_zero, Nat.sub_zero]
  exact Nat.div_add_mod N M
theorem sL_M {N M : Nat} (hM : 0 < M) : sL N M M = 0 := by
  have h := Nat.mod_lt N hM
  unfold sL
  rw [Nat.sub_self, Nat.zero_mul]
  omega
theorem sL_s {N M i : Nat} (hi : i < M) : sL N M i = sL N M (i + 1) + sSh N M i := by
  have h := Nat.mod_lt N (show 0 < M by omega)
  unfold sL sSh
  rw [show M - i = (M - (i + 1)) + 1 by omega, Nat.add_mul, Nat.one_mul]
  by_cases c : i < N % M
  · rw [if_pos c]; omega
  · rw [if_neg c]; omega
theorem sSh_div {N M i : Nat} (hi : i < M) : (sL N M i + (M - 1 - i)) / (M - 1 - i + 1) = sSh N M i := by
  have h := Nat.mod_lt N (show 0 < M by omega)
  unfold sL sSh
  generalize N / M = Q
  generalize N % M = r at h ⊢
  rw [show M - i = (M - 1 - i) + 1 by omega]
  generalize hD : M - 1 - i = D
  have hr : r - i ≤ D := by omega
  rw [Nat.add_mul, Nat.one_mul]
  by_cases c : i < r
  · rw [if_pos c]
    refine Nat.div_eq_of_lt_le ?_ ?_
    · rw [Nat.add_mul, Nat.mul_add, Nat.mul_one, Nat.mul_comm Q D, Nat.one_mul]
      omega
    · rw [Nat.add_mul, Nat.add_mul, Nat.mul_add, Nat.mul_one, Nat.mul_comm Q D, Nat.one_mul]
      omega
  · rw [if_neg c]
    refine Nat.div_eq_of_lt_le ?_ ?_
    · rw [Nat.add_zero, Nat.mul_add, Nat.mul_one, Nat.mul_comm Q D]
      omega
    · rw [Nat.add_mul, Nat.add_zero, Nat.mul_add, Nat.mul_one, Nat.mul_comm Q D, Nat.one_mul]
      omega
theorem sL_le {N M : Nat} : ∀ i, i ≤ M → sL N M i ≤ N
  | 0, _ => Nat.le_of_eq sL_0
  | i + 1, hi => by
    have h1 := sL_le (N := N) (M := M) i (by omega)
    have h2 := sL_s (N := N) (M := M) (i := i) (by omega)
    omega
/-- one class: the rows alike, and what is left -/
theorem e_sp {z : Nat → Int32} {j a b c N : Nat} (hab : a ≤ b) (hb : b < 12) (hN : N ≤ 5000) : ∀ i, i ≤ b + 1 - a → qV (mLay z j a c (nI N) (nI (b + 1 - a)) i) j = (qSp (qV z j) a b c (nI N) i).1 ∧ (qSp (qV z j) a b c (nI N) i).2 = nI (sL N (b + 1 - a) i)
  | 0, _ => ⟨rfl, by rw [sL_0]; rfl⟩
  | i + 1, hi => by
    obtain ⟨h1, h2⟩ := e_sp (z := z) (j := j) (c := c) hab hb hN i (by omega)
    have hle := sL_le (N := N) (M := b + 1 - a) i (by omega)
    have e3 : ((qSp (qV z j) a b c (nI N) i).2 + nI (b - (a + i))) / nI (b - (a + i) + 1) = nI (sSh N (b + 1 - a) i) := by
      have h3 := sSh_div (N := N) (M := b + 1 - a) (i := i) (by omega)
      rw [show b + 1 - a - 1 - i = b - (a + i) by omega] at h3
      rw [h2, nI_add, pk_div (by omega) (by omega) (by omega), h3]
    have e4 : nI N / nI (b + 1 - a) + (if nI i < nI N - nI N / nI (b + 1 - a) * nI (b + 1 - a) then 1 else 0) = nI (sSh N (b + 1 - a) i) := by
      have hm := Nat.mod_lt N (show 0 < b + 1 - a by omega)
      rw [pk_rem (by omega) (by omega) (by omega), pk_div (by omega) (by omega) (by omega)]
      unfold sSh
      by_cases q : i < N % (b + 1 - a)
      · rw [if_pos q, if_pos ((nI_ltI (by omega) (by omega)).mpr q)]
        exact nI_add _ 1
      · rw [if_neg q, if_neg (fun w => q ((nI_ltI (by omega) (by omega)).mp w))]
        exact nI_add _ 0
    refine ⟨?_, ?_⟩
    · show qV (upd (mLay z j a c (nI N) (nI (b + 1 - a)) i) (48 * j + (4 * (a + i) + c)) (nI N / nI (b + 1 - a) + (if nI i < nI N - nI N / nI (b + 1 - a) * nI (b + 1 - a) then 1 else 0))) j = qPut (qSp (qV z j) a b c (nI N) i).1 (a + i) c (((qSp (qV z j) a b c (nI N) i).2 + nI (b - (a + i))) / nI (b - (a + i) + 1) - (qSp (qV z j) a b c (nI N) i).1 (4 * (a + i) + c))
      rw [e_v_upd, e3, e4, h1]
      show _ = upd (qSp (qV z j) a b c (nI N) i).1 (4 * (a + i) + c) ((qSp (qV z j) a b c (nI N) i).1 (4 * (a + i) + c) + (nI (sSh N (b + 1 - a) i) - (qSp (qV z j) a b c (nI N) i).1 (4 * (a + i) + c)))
      rw [i_ts]
    · show (qSp (qV z j) a b c (nI N) i).2 - ((qSp (qV z j) a b c (nI N) i).2 + nI (b - (a + i))) / nI (b - (a + i) + 1) = _
      have h5 := sL_s (N := N) (M := b + 1 - a) (i := i) (by omega)
      rw [e3, h2, pk_sub (by omega)]
      exact congrArg nI (by omega)
/-- one class: nothing lost, nothing below 0 -/
theorem m_lay {z : Nat → Int32} {j a b c N : Nat} (hG : mGood z) (hj : j < 3) (hab : a ≤ b) (hb : b < 12) (hc : c < 4) (hN : N ≤ 5000) : ∀ i, i ≤ b + 1 - a → (∀ k, k < 144 → 0 ≤ (mLay z j a c (nI N) (nI (b + 1 - a)) i k).toInt) ∧ jS (mLay z j a c (nI N) (nI (b + 1 - a)) i) j = jS z j - fb_si (fun i => (qV z j (4 * (a + i) + c)).toInt) i + (N : Int) - (sL N (b + 1 - a) i : Int) ∧ (∀ k, (k < 48 * j ∨ 48 * j + 48 ≤ k) → mLay z j a c (nI N) (nI (b + 1 - a)) i k = z k) ∧ ∀ s, i ≤ s → a + s < 12 → mLay z j a c (nI N) (nI (b + 1 - a)) i (48 * j + (4 * (a + s) + c)) = z (48 * j + (4 * (a + s) + c))
  | 0, _ => ⟨hG.1, by
      rw [sL_0]
      show jS z j = jS z j - 0 + (N : Int) - (N : Int)
      omega, fun _ _ => rfl, fun _ _ _ => rfl⟩
  | i + 1, hi => by
    obtain ⟨h1, h2, h3, h4⟩ := m_lay hG hj hab hb hc hN i (by omega)
    have hle := sL_le (N := N) (M := b + 1 - a) i (by omega)
    have h5 := sL_s (N := N) (M := b + 1 - a) (i := i) (by omega)
    have hm := Nat.mod_lt N (show 0 < b + 1 - a by omega)
    have e4 : nI N / nI (b + 1 - a) + (if nI i < nI N - nI N / nI (b + 1 - a) * nI (b + 1 - a) then 1 else 0) = nI (sSh N (b + 1 - a) i) := by
      rw [pk_rem (by omega) (by omega) (by omega), pk_div (by omega) (by omega) (by omega)]
      unfold sSh
      by_cases q : i < N % (b + 1 - a)
      · rw [if_pos q, if_pos ((nI_ltI (by omega) (by omega)).mpr q)]
        exact nI_add _ 1
      · rw [if_neg q, if_neg (fun w => q ((nI_ltI (by omega) (by omega)).mp w))]
        exact nI_add _ 0
    have em : mLay z j a c (nI N) (nI (b + 1 - a)) (i + 1) = upd (mLay z j a c (nI N) (nI (b + 1 - a)) i) (48 * j + (4 * (a + i) + c)) (nI (sSh N (b + 1 - a) i)) := by
      show upd (mLay z j a c (nI N) (nI (b + 1 - a)) i) (48 * j + (4 * (a + i) + c)) (nI N / nI (b + 1 - a) + (if nI i < nI N - nI N / nI (b + 1 - a) * nI (b + 1 - a) then 1 else 0)) = _
      rw [e4]
    rw [em]
    have es : (nI (sSh N (b + 1 - a) i)).toInt = (sSh N (b + 1 - a) i : Int) := nI_toInt (by omega)
    refine ⟨fun k hk => ?_, ?_, fun k hk => ?_, fun s hs hs2 => ?_⟩
    · show 0 ≤ (if k = 48 * j + (4 * (a + i) + c) then nI (sSh N (b + 1 - a) i) else mLay z j a c (nI N) (nI (b + 1 - a)) i k).toInt
      split
      · rw [es]; omega
      · exact h1 k hk
    · rw [jS_upd _ (by omega), h2, h4 i (Nat.le_refl i) (by omega), es]
      show _ = jS z j - (fb_si (fun i => (qV z j (4 * (a + i) + c)).toInt) i + (z (48 * j + (4 * (a + i) + c))).toInt) + (N : Int) - (sL N (b + 1 - a) (i + 1) : Int)
      omega
    · rw [← h3 k hk]
      exact if_neg (by omega)
    · rw [← h4 s (by omega) hs2]
      exact if_neg (by omega)
theorem g_msum {z : Nat → Int32} {j a b c : Nat} (hG : mGood z) (hj : j < 3) (hab : a ≤ b) (hb : b < 12) (hc : c < 4) : ∃ N : Nat, N ≤ 5000 ∧ mSum z j a c (b + 1 - a) = nI N ∧ fb_si (fun i => (qV z j (4 * (a + i) + c)).toInt) (b + 1 - a) = N := by
  have h0 : ∀ i, i < b + 1 - a → 0 ≤ (qV z j (4 * (a + i) + c)).toInt := fun i hi => hG.1 _ (by omega)
  have h1 : 0 ≤ fb_si (fun i => (qV z j (4 * (a + i) + c)).toInt) (b + 1 - a) := g_nn h0
  have hm : ∀ n, n ≤ b + 1 - a → fb_si (fun i => (qV z j (4 * (a + i) + c)).toInt) n ≤ fb_si (fun s => fb_si (fun c => (z (48 * j + (4 * (a + s) + c))).toInt) 4) n := by
    intro n
    induction n with
    | zero => intro _; exact Int.le_refl 0
    | succ n ih =>
      intro hn
      have h2 := ih (by omega)
      have h3 : (z (48 * j + (4 * (a + n) + c))).toInt ≤ fb_si (fun c => (z (48 * j + (4 * (a + n) + c))).toInt) 4 := g_part (f := fun c => (z (48 * j + (4 * (a + n) + c))).toInt) (fun k hk => hG.1 _ (by omega)) hc
      show fb_si (fun i => (qV z j (4 * (a + i) + c)).toInt) n + (z (48 * j + (4 * (a + n) + c))).toInt ≤ fb_si (fun s => fb_si (fun c => (z (48 * j + (4 * (a + s) + c))).toInt) 4) n + fb_si (fun c => (z (48 * j + (4 * (a + n) + c))).toInt) 4
      omega
  have h4 := hm (b + 1 - a) (Nat.le_refl _)
  have h5 : jS z j = fb_si (fun s => fb_si (fun c => (z (48 * j + (4 * s + c))).toInt) 4) 12 := g_four (fun k => (z (48 * j + k)).toInt) 12
  have h6 := fb_si_split (fun s => fb_si (fun c => (z (48 * j + (4 * s + c))).toInt) 4) a (12 - a)
  have h7 := fb_si_split (fun i => fb_si (fun c => (z (48 * j + (4 * (a + i) + c))).toInt) 4) (b + 1 - a) (12 - a - (b + 1 - a))
  rw [show a + (12 - a) = 12 by omega] at h6
  rw [show b + 1 - a + (12 - a - (b + 1 - a)) = 12 - a by omega] at h7
  have h8 : 0 ≤ fb_si (fun s => fb_si (fun c => (z (48 * j + (4 * s + c))).toInt) 4) a := g_nn (fun s hs => g_nn (fun c hc => hG.1 _ (by omega)))
  have h9 : 0 ≤ fb_si (fun k => fb_si (fun c => (z (48 * j + (4 * (a + (b + 1 - a + k)) + c))).toInt) 4) (12 - a - (b + 1 - a)) := g_nn (fun s hs => g_nn (fun c hc => hG.1 _ (by omega)))
  have ha : jS z j ≤ 5000 := hG.2.1 j hj
  have h10 : fb_si (fun i => (qV z j (4 * (a + i) + c)).toInt) (b + 1 - a) ≤ 5000 := by omega
  have h11 : (mSum z j a c (b + 1 - a)).toInt = fb_si (fun i => (qV z j (4 * (a + i) + c)).toInt) (b + 1 - a) := g_qS (f := fun i => qV z j (4 * (a + i) + c)) h0 (by omega)
  refine ⟨(mSum z j a c (b + 1 - a)).toInt.toNat, by omega, g_nI (by omega), by omega⟩
theorem e_stir {z : Nat → Int32} {j a b : Nat} (hG : mGood z) (hj : j < 3) (hab : a ≤ b) (hb : b < 12) : ∀ c, c ≤ 4 → qV (mStir z j a b c).1 j = qStir (qV z j) a b c ∧ (mStir z j a b c).2 = qSm4 (qV z j) a b c ∧ mGood (mStir z j a b c).1 ∧ ∀ k, (k < 48 * j ∨ 48 * j + 48 ≤ k) → (mStir z j a b c).1 k = z k
  | 0, _ => ⟨rfl, rfl, hG, fun _ _ => rfl⟩
  | c + 1, hc => by
    obtain ⟨h1, h2, h3, h4⟩ := e_stir hG hj hab hb c (by omega)
    have em : mStir z j a b (c + 1) = (mLay (mStir z j a b c).1 j a c (mSum (mStir z j a b c).1 j a c (b + 1 - a)) (nI (b + 1 - a)) (b + 1 - a), (mStir z j a b c).2 + mSum (mStir z j a b c).1 j a c (b + 1 - a)) := by
      show (mLay (mStir z j a b c).1 j a c (mSum (mStir z j a b c).1 j a c (b - a + 1)) (nI (b - a + 1)) (b - a + 1), (mStir z j a b c).2 + mSum (mStir z j a b c).1 j a c (b - a + 1)) = _
      rw [show b - a + 1 = b + 1 - a by omega]
    have eq1 : qStir (qV z j) a b (c + 1) = (qSp (qStir (qV z j) a b c) a b c (qSum (qStir (qV z j) a b c) a c (b + 1 - a)) (b + 1 - a)).1 := rfl
    have eq2 : qSm4 (qV z j) a b (c + 1) = qSm4 (qV z j) a b c + qSum (qStir (qV z j) a b c) a c (b + 1 - a) := rfl
    rw [em, eq1, eq2, ← h1, ← h2]
    generalize mStir z j a b c = Q at h1 h2 h3 h4 ⊢
    obtain ⟨N, n1, n2, n3⟩ := g_msum (c := c) h3 hj hab hb (by omega)
    have n4 : qSum (qV Q.1 j) a c (b + 1 - a) = nI N := n2
    rw [n4, n2]
    obtain ⟨s1, -⟩ := e_sp (z := Q.1) (j := j) (c := c) hab hb n1 (b + 1 - a) (Nat.le_refl _)
    obtain ⟨l1, l2, l3, -⟩ := m_lay h3 hj hab hb (show c < 4 by omega) n1 (b + 1 - a) (Nat.le_refl _)
    rw [sL_M (by omega), n3] at l2
    have out : ∀ k, 144 ≤ k → mLay Q.1 j a c (nI N) (nI (b + 1 - a)) (b + 1 - a) k = Q.1 k := fun k hk => l3 k (by omega)
    refine ⟨s1, rfl, ⟨l1, fun i hi => ?_, ?_, ?_, ?_, ?_, fun c hc => ?_, ?_⟩, fun k hk => (l3 k hk).trans (h4 k hk)⟩
    · by_cases e : i = j
      · have h5 : jS Q.1 j ≤ 5000 := h3.2.1 j hj
        rw [e]
        show jS (mLay Q.1 j a c (nI N) (nI (b + 1 - a)) (b + 1 - a)) j ≤ 5000
        rw [l2]
        omega
      · refine Int.le_trans (Int.le_of_eq (fb_si_cong (fun k hk => ?_))) (h3.2.1 i hi)
        show (mLay Q.1 j a c (nI N) (nI (b + 1 - a)) (b + 1 - a) (48 * i + k)).toInt = _
        rw [l3 (48 * i + k) (by omega)]
    · rw [show (mLay Q.1 j a c (nI N) (nI (b + 1 - a)) (b + 1 - a), Q.2 + nI N).1 144 = Q.1 144 from out 144 (by omega)]; exact h3.2.2.1
    · rw [show (mLay Q.1 j a c (nI N) (nI (b + 1 - a)) (b + 1 - a), Q.2 + nI N).1 145 = Q.1 145 from out 145 (by omega)]; exact h3.2.2.2.1
    · rw [show (mLay Q.1 j a c (nI N) (nI (b + 1 - a)) (b + 1 - a), Q.2 + nI N).1 146 = Q.1 146 from out 146 (by omega)]; exact h3.2.2.2.2.1
    · rw [show (mLay Q.1 j a c (nI N) (nI (b + 1 - a)) (b + 1 - a), Q.2 + nI N).1 147 = Q.1 147 from out 147 (by omega)]; exact h3.2.2.2.2.2.1
    · rw [show (mLay Q.1 j a _ (nI N) (nI (b + 1 - a)) (b + 1 - a), Q.2 + nI N).1 (148 + c) = Q.1 (148 + c) from out (148 + c) (by omega)]; exact h3.2.2.2.2.2.2.1 c hc
    · rw [show (mLay Q.1 j a c (nI N) (nI (b + 1 - a)) (b + 1 - a), Q.2 + nI N).1 160 = Q.1 160 from out 160 (by omega)]; exact h3.2.2.2.2.2.2.2
