/-! what holds of every row stays so -/
theorem g_nn {f : Nat → Int} : ∀ {n : Nat}, (∀ k, k < n → 0 ≤ f k) → 0 ≤ fb_si f n
  | 0, _ => Int.le_refl 0
  | n + 1, h => by
    have h1 := g_nn (f := f) (n := n) (fun k hk => h k (by omega))
    have h2 := h n (Nat.lt_succ_self n)
    rw [fb_si_succ]
    omega
theorem g_part {f : Nat → Int} {i : Nat} : ∀ {n : Nat}, (∀ k, k < n → 0 ≤ f k) → i < n → f i ≤ fb_si f n
  | 0, _, h => absurd h (Nat.not_lt_zero i)
  | n + 1, h, hi => by
    rw [fb_si_succ]
    have h1 := g_nn (f := f) (n := n) (fun k hk => h k (by omega))
    by_cases e : i = n
    · subst e; omega
    · have h2 := g_part (f := f) (i := i) (n := n) (fun k hk => h k (by omega)) (by omega)
      have h3 := h n (Nat.lt_succ_self n)
      omega
theorem g_four (f : Nat → Int) : ∀ n, fb_si f (4 * n) = fb_si (fun s => fb_si (fun c => f (4 * s + c)) 4) n
  | 0 => rfl
  | n + 1 => by
    have h := fb_si_split f (4 * n) 4
    rw [show 4 * (n + 1) = 4 * n + 4 from by omega, h, g_four f n]
    rfl
theorem g_qS {f : Nat → Int32} : ∀ {n : Nat}, (∀ k, k < n → 0 ≤ (f k).toInt) → fb_si (fun k => (f k).toInt) n ≤ 1000000000 → (qS f n).toInt = fb_si (fun k => (f k).toInt) n
  | 0, _, _ => by show (0 : Int32).toInt = 0; decide
  | n + 1, h, hb => by
    have h1 : fb_si (fun k => (f k).toInt) (n + 1) = fb_si (fun k => (f k).toInt) n + (f n).toInt := rfl
    have hn := h n (Nat.lt_succ_self n)
    have h0 : 0 ≤ fb_si (fun k => (f k).toInt) n := g_nn (fun k hk => h k (by omega))
    have ih := g_qS (f := f) (n := n) (fun k hk => h k (by omega)) (by omega)
    show (qS f n + f n).toInt = _
    rw [fb_addI (by rw [ih]; omega) (by rw [ih]; omega), ih, h1]
theorem g_nI {x : Int32} (h : 0 ≤ x.toInt) : x = nI x.toInt.toNat := by
  have h2 := (fb_rng x).2
  apply Int32.toInt_inj.mp
  rw [nI_toInt (by omega)]
  omega
theorem g_toN {n : Nat} (h : n < 2 ^ 31) : (nI n).toInt.toNat = n := by rw [nI_toInt h]; rfl
theorem g_pos {z : Nat → Int32} (h : mGood z) {j s c : Nat} (hj : j < 3) (hs : s < 12) (hc : c < 4) : 0 ≤ (z (48 * j + (4 * s + c))).toInt := h.1 _ (by omega)
theorem g_in {z : Nat → Int32} {j s : Nat} (h : mGood z) (hj : j < 3) (hs : s < 12) : (qIn (qV z j) s).toInt = fb_si (fun c => (z (48 * j + (4 * s + c))).toInt) 4 ∧ 0 ≤ (qIn (qV z j) s).toInt ∧ (qIn (qV z j) s).toInt ≤ 5000 := by
  have h1 : ∀ k, k < 48 → 0 ≤ (z (48 * j + k)).toInt := fun k hk => h.1 _ (by omega)
  have h2 := h.2.1 j hj
  have h3 : fb_si (fun k => (z (48 * j + k)).toInt) 48 = fb_si (fun s => fb_si (fun c => (z (48 * j + (4 * s + c))).toInt) 4) 12 := g_four (fun k => (z (48 * j + k)).toInt) 12
  have h4 : ∀ t, t < 12 → 0 ≤ fb_si (fun c => (z (48 * j + (4 * t + c))).toInt) 4 := fun t ht => g_nn (fun c hc => h.1 _ (by omega))
  have h5 : fb_si (fun c => (z (48 * j + (4 * s + c))).toInt) 4 ≤ fb_si (fun s => fb_si (fun c => (z (48 * j + (4 * s + c))).toInt) 4) 12 := g_part (f := fun s => fb_si (fun c => (z (48 * j + (4 * s + c))).toInt) 4) h4 hs
  have h6 : (qIn (qV z j) s).toInt = fb_si (fun c => (z (48 * j + (4 * s + c))).toInt) 4 := g_qS (f := fun c => qV z j (4 * s + c)) (fun c hc => h.1 _ (by omega)) (by show fb_si (fun c => (z (48 * j + (4 * s + c))).toInt) 4 ≤ _; omega)
  have h7 := h4 s hs
  exact ⟨h6, by rw [h6]; exact h7, by rw [h6]; omega⟩
/-- the numbers of a fall, as whole numbers -/
theorem g_fac {z : Nat → Int32} {j s : Nat} (h : mGood z) (hj : j < 3) (hs : s < 12) : ∃ d : Nat, 1000 ≤ d ∧ d < 2 ^ 30 ∧ 1000 + qIn (qV z j) s * z 144 / 10 = nI d := by
  obtain ⟨-, h1, h2⟩ := g_in h hj hs
  obtain ⟨h3, h4⟩ := h.2.2.1
  generalize ha : (qIn (qV z j) s).toInt.toNat = a
  generalize hb : (z 144).toInt.toNat = b
  have ea : qIn (qV z j) s = nI a := by rw [← ha]; exact g_nI h1
  have eb : z 144 = nI b := by rw [← hb]; exact g_nI h3
  have a5 : a ≤ 5000 := by omega
  have b5 : b ≤ 1000 := by omega
  have ab : a * b ≤ 5000 * 1000 := Nat.mul_le_mul a5 b5
  refine ⟨1000 + a * b / 10, by omega, by omega, ?_⟩
  rw [ea, eb, pk_mul, show (10 : Int32) = nI 10 from rfl, pk_div (by omega) (by omega) (by omega), show (1000 : Int32) = nI 1000 from rfl, nI_add]
theorem m_div {z : Nat → Int32} {j s : Nat} (h : mGood z) (hj : j < 3) (hs : s < 12) : ¬ 1000 + qIn (qV z j) s * z 144 / 10 = 0 := by
  obtain ⟨d, h1, h2, e⟩ := g_fac h hj hs
  rw [e]
  exact nI_ne0 (by omega) (by omega)
theorem g_mfac {z : Nat → Int32} {j s : Nat} (h : mGood z) (hj : j < 3) (hs : s < 12) : ∃ f : Nat, f ≤ 1000 ∧ mFac z j s = nI f := by
  obtain ⟨d, h1, h2, e⟩ := g_fac h hj hs
  refine ⟨1000000 / d, ?_, ?_⟩
  · exact (Nat.div_le_iff_le_mul_add_pred (by omega)).mpr (by omega)
  · show 1000000 / (1000 + qIn (qV z j) s * z 144 / 10) = _
    rw [e, show (1000000 : Int32) = nI 1000000 from rfl, pk_div (by omega) (by omega) (by omega)]
theorem g_wish {n v r f : Nat} (hn : n ≤ 5000) (hv : v ≤ 100) (hf : f ≤ 1000) (hr : r < 2 ^ 31) : ∃ w : Nat, w ≤ n ∧ qWish (nI v) (nI r) (nI n) (nI f) = nI w ∧ (w = 0 ↔ (n = 0 ∨ (n * v * f / 100000 = 0 ∧ n ≤ r))) := by
  have e1 : n * v * f ≤ 5000 * 100 * 1000 := Nat.mul_le_mul (Nat.mul_le_mul hn hv) hf
  have e2 : nI n * nI v * nI f / 100000 = nI (n * v * f / 100000) := by
    rw [pk_mul, pk_mul, show (100000 : Int32) = nI 100000 from rfl, pk_div (by omega) (by omega) (by omega)]
  have e3 : n * v * f / 100000 ≤ 5000 := by omega
  generalize hm : n * v * f / 100000 = m at e2 e3 ⊢
  unfold qWish
  rw [e2]
  have z0 : (nI m = 0) ↔ m = 0 := by
    rw [show (0 : Int32) = nI 0 from rfl]
    exact nI_eq (by omega) (by omega)
  by_cases c : m = 0 ∧ r < n
  · have c2 : nI m = 0 ∧ nI r < nI n := ⟨z0.mpr c.1, (nI_ltI (by omega) (by omega)).mpr c.2⟩
    rw [if_pos c2]
    by_cases c3 : 1 < n
    · rw [if_pos (show (1 : Int32) < nI n from (nI_ltI (a := 1) (by omega) (by omega)).mpr c3)]
      exact ⟨1, by omega, rfl, by omega⟩
    · rw [if_neg (show ¬ (1 : Int32) < nI n from fun q => c3 ((nI_ltI (a := 1) (by omega) (by omega)).mp q))]
      exact ⟨n, by omega, rfl, by omega⟩
  · have c2 : ¬ (nI m = 0 ∧ nI r < nI n) := fun q => c ⟨z0.mp q.1, (nI_ltI (by omega) (by omega)).mp q.2⟩
    rw [if_neg c2]
    by_cases c3 : m < n
    · rw [if_pos ((nI_ltI (by omega) (by omega)).mpr c3)]
      exact ⟨m, by omega, rfl, by omega⟩
    · rw [if_neg (fun q => c3 ((nI_ltI (by omega) (by omega)).mp q))]
      exact ⟨n, by omega, rfl, by omega⟩
theorem g_roomM {p a : Nat} (hp : p ≤ 5000) (ha : a ≤ 5000) : qRoomM (nI p) (nI a) = nI (p - a) := by
  unfold qRoomM
  by_cases c : p < a
  · rw [if_pos (pk_sneg (by omega) c), show p - a = 0 by omega]; rfl
  · rw [if_neg (by rw [pk_sub (by omega)]; exact nI_pos (by omega)), pk_sub (by omega)]
theorem g_room {p a : Nat} (hp : p ≤ 5000) (ha : a ≤ 5000) : qRoom (nI p) (nI a) = nI (p - a) := by
  unfold qRoom
  by_cases c : a < p
  · rw [if_pos (by rw [pk_sub (by omega)]; exact (nI_ltI (a := 0) (by omega) (by omega)).mpr (by omega)), pk_sub (by omega)]
  · rw [if_neg, show p - a = 0 by omega]
    · rfl
    · intro q
      rw [Int32.lt_iff_toInt_lt, pk_sub_toInt (by omega) (by omega)] at q
      have h0 : (0 : Int32).toInt = 0 := by decide
      omega
/-- what falls is at most what is there -/
theorem g_drop {z : Nat → Int32} {j s c f : Nat} (h : mGood z) (hj : j < 3) (hs : s < 11) (hc : c < 4) (hf : f ≤ 1000) : ∃ x : Nat, (x : Int) ≤ (z (48 * j + (4 * s + c))).toInt ∧ x ≤ 5000 ∧ mDrop z j s c (nI f) = nI x := by
  have hp := g_pos h hj (show s < 12 by omega) hc
  have h1 : ∀ k, k < 48 → 0 ≤ (z (48 * j + k)).toInt := fun k hk => h.1 _ (by omega)
  have h2 := h.2.1 j hj
  have h3 : (z (48 * j + (4 * s + c))).toInt ≤ fb_si (fun k => (z (48 * j + k)).toInt) 48 := g_part (f := fun k => (z (48 * j + k)).toInt) h1 (by omega)
  have hv := h.2.2.2.2.2.2.1 c hc
  have hr := h.2.2.2.2.2.1
  have hk := h.2.2.2.1
  obtain ⟨-, h4, h5⟩ := g_in h hj (show s + 1 < 12 by omega)
  generalize hn : (z (48 * j + (4 * s + c))).toInt.toNat = n
  generalize hv2 : (z (148 + c)).toInt.toNat = v
  generalize hr2 : (z 147).toInt.toNat = r
  generalize hk2 : (z 145).toInt.toNat = k
  generalize ha2 : (qIn (qV z j) (s + 1)).toInt.toNat = a
  obtain ⟨w, hw1, hw2, -⟩ := g_wish (n := n) (v := v) (r := r) (f := f) (by omega) (by omega) hf (by omega)
  have e1 : mWish z j s c (nI f) = nI w := by
    rw [← hw2]
    show qWish (z (148 + c)) (z 147) (z (48 * j + (4 * s + c))) (nI f) = _
    rw [← hn, ← hv2, ← hr2, ← g_nI hp, ← g_nI (by omega), ← g_nI (by omega)]
  have e2 : mRoom z j (s + 1) = nI (k - a) := by
    rw [← g_roomM (p := k) (a := a) (by omega) (by omega)]
    show qRoomM (z 145) (qIn (qV z j) (s + 1)) = _
    rw [← hk2, ← ha2, ← g_nI (by omega), ← g_nI h4]
  unfold mDrop
  rw [e1, e2]
  by_cases c2 : w < k - a
  · rw [if_pos ((nI_ltI (by omega) (by omega)).mpr c2)]
    exact ⟨w, by omega, by omega, rfl⟩
  · rw [if_neg (fun q => c2 ((nI_ltI (by omega) (by omega)).mp q))]
    exact ⟨k - a, by omega, by omega, rfl⟩
theorem g_move (F : Nat → Int) (x : Int) {n p p2 : Nat} (hp : p < n) (hp2 : p2 < n) (hne : p2 ≠ p) : fb_si (fun k => if k = p2 then F p2 + x else if k = p then F p - x else F k) n = fb_si F n := by
  have h1 := fb_si_upd (fun k => if k = p then F p - x else F k) (F p2 + x) hp2
  have h2 := fb_si_upd F (F p - x) hp
  rw [h1, h2]
  show fb_si F n - F p + (F p - x) - (if p2 = p then F p - x else F p2) + (F p2 + x) = _
  rw [if_neg hne]
  omega
theorem g_mput {z : Nat → Int32} {y : Int32} {j s c x : Nat} (h : mGood z) (hj : j < 3) (hs : s < 11) (hc : c < 4) (hx : (x : Int) ≤ (z (48 * j + (4 * s + c))).toInt) (hx5 : x ≤ 5000) : mGood (mPut j s c (z, y) (nI x)).1 := by
  have hp := g_pos h hj (show s < 12 by omega) hc
  have hp2 := g_pos h hj (show s + 1 < 12 by omega) hc
  have h1 : ∀ k, k < 48 → 0 ≤ (z (48 * j + k)).toInt := fun k hk => h.1 _ (by omega)
  have h2 := h.2.1 j hj
  have h3 : (z (48 * j + (4 * s + c))).toInt ≤ fb_si (fun k => (z (48 * j + k)).toInt) 48 := g_part (f := fun k => (z (48 * j + k)).toInt) h1 (by omega)
  have h4 : (z (48 * j + (4 * (s + 1) + c))).toInt ≤ fb_si (fun k => (z (48 * j + k)).toInt) 48 := g_part (f := fun k => (z (48 * j + k)).toInt) h1 (by omega)
  have hxi : (nI x).toInt = (x : Int) := nI_toInt (by omega)
  have e1 : (z (48 * j + (4 * s + c)) - nI x).toInt = (z (48 * j + (4 * s + c))).toInt - x := by rw [fb_subI (by omega) (by omega), hxi]
  have e2 : (z (48 * j + (4 * (s + 1) + c)) + nI x).toInt = (z (48 * j + (4 * (s + 1) + c))).toInt + x := by rw [fb_addI (by omega) (by omega), hxi]
  have ev : ∀ k, ((mPut j s c (z, y) (nI x)).1 k).toInt = if k = 48 * j + (4 * (s + 1) + c) then (z (48 * j + (4 * (s + 1) + c))).toInt + x else if k = 48 * j + (4 * s + c) then (z (48 * j + (4 * s + c))).toInt - x else (z k).toInt := by
    intro k
    show (upd (upd z (48 * j + (4 * s + c)) (z (48 * j + (4 * s + c)) - nI x)) (48 * j + (4 * (s + 1) + c)) ((upd z (48 * j + (4 * s + c)) (z (48 * j + (4 * s + c)) - nI x)) (48 * j + (4 * (s + 1) + c)) + nI x) k).toInt = _
    unfold upd
    rw [if_neg (show ¬ 48 * j + (4 * (s + 1) + c) = 48 * j + (4 * s + c) by omega)]
    by_cases a : k = 48 * j + (4 * (s + 1) + c)
    · rw [if_pos a, if_pos a, e2]
    · rw [if_neg a, if_neg a]
      by_cases b : k = 48 * j + (4 * s + c)
      · rw [if_pos b, if_pos b, e1]
      · rw [if_neg b, if_neg b]
  have out : ∀ k, 144 ≤ k → (mPut j s c (z, y) (nI x)).1 k = z k := by
    intro k hk
    apply Int32.toInt_inj.mp
    rw [ev, if_neg (by omega), if_neg (by omega)]
  refine ⟨fun k hk => ?_, fun j2 hj2 => ?_, ?_, ?_, ?_, ?_, fun c2 hc2 => ?_, ?_⟩
  · rw [ev]
    have hk0 := h.1 k hk
    split
    · omega
    · split <;> omega
  · by_cases ej : j2 = j
    · subst ej
      rw [← g_move (fun k => (z (48 * j2 + k)).toInt) (x : Int) (n := 48) (p := 4 * s + c) (p2 := 4 * (s + 1) + c) (by omega) (by omega) (by omega)] at h2
      refine Int.le_trans (Int.le_of_eq (fb_si_cong (fun k hk => ?_))) h2
      show ((mPut j2 s c (z, y) (nI x)).1 (48 * j2 + k)).toInt = _
      rw [ev]
      by_cases a : k = 4 * (s + 1) + c
      · rw [if_pos (by omega), if_pos a]
      · rw [if_neg (by omega), if_neg a]
        by_cases b : k = 4 * s + c
        · rw [if_pos (by omega), if_pos b]
        · rw [if_neg (by omega), if_neg b]
    · refine Int.le_trans (Int.le_of_eq (fb_si_cong (fun k hk => ?_))) (h.2.1 j2 hj2)
      show ((mPut j s c (z, y) (nI x)).1 (48 * j2 + k)).toInt = _
      rw [ev, if_neg (by omega), if_neg (by omega)]
  · rw [out 144 (by omega)]; exact h.2.2.1
  · rw [out 145 (by omega)]; exact h.2.2.2.1
  · rw [out 146 (by omega)]; exact h.2.2.2.2.1
  · rw [out 147 (by omega)]; exact h.2.2.2.2.2.1
  · rw [out (148 + c2) (by omega)]; exact h.2.2.2.2.2.2.1 c2 hc2
  · rw [out 160 (by omega)]; exact h.2.2.2.2.2.2.2
theorem g_fa {z : Nat → Int32} {j s f : Nat} (h : mGood z) (hj : j < 3) (hs : s < 11) (hf : f ≤ 1000) : ∀ c, c ≤ 4 → mGood (mFa z j s (nI f) c).1
  | 0, _ => h
  | c + 1, hc => by
    have ih := g_fa h hj hs hf c (by omega)
    obtain ⟨x, h1, h2, e⟩ := g_drop ih hj hs (show c < 4 by omega) hf
    show mGood (mPut j s c (mFa z j s (nI f) c) (mDrop (mFa z j s (nI f) c).1 j s c (nI f))).1
    rw [e]
    exact g_mput (y := (mFa z j s (nI f) c).2) ih hj hs (by omega) h1 h2
theorem g_fall {z : Nat → Int32} {j s : Nat} (h : mGood z) (hj : j < 3) (hs : s < 11) : mGood (mFall z j s).1 := by
  obtain ⟨f, h1, e⟩ := g_mfac h hj (show s < 12 by omega)
  unfold mFall
  rw [e]
  exact g_fa h hj hs h1 4 (Nat.le_refl 4)
theorem m_good_st {z : Nat → Int32} {j : Nat} (h : mGood z) (hj : j < 3) : ∀ {i : Nat}, i ≤ 11 → mGood (mSt z j i).1
  | 0, _ => h
  | i + 1, hi => g_fall (m_good_st h hj (show i ≤ 11 by omega)) hj (by omega)
theorem m_good_run {z : Nat → Int32} (h : mGood z) : ∀ k : Nat, mGood (mRun z k).1
  | 0 => h
  | k + 1 => m_good_st (m_good_run h k) (Nat.mod_lt k (by decide)) (Nat.le_refl 11)
theorem m_good_steps {z : Nat → Int32} {j : Nat} (h : mGood z) (hj : j < 3) : ∀ i : Nat, mGood (mSteps z j i)
  | 0 => h
  | i + 1 => m_good_st (m_good_steps h hj i) hj (Nat.le_refl 11)
theorem m_put_out {j s c : Nat} (hj : j < 3) (hs : s < 11) (hc : c < 4) (q : (Nat → Int32) × Int32) (x : Int32) (k : Nat) (hk : 144 ≤ k) : (mPut j s c q x).1 k = q.1 k := by
  show upd (upd q.1 _ _) _ _ k = q.1 k
  unfold upd
  rw [if_neg (by omega), if_neg (by omega)]
theorem m_fa_out {z : Nat → Int32} {j s : Nat} {f : Int32} (hj : j < 3) (hs : s < 11) (k : Nat) (hk : 144 ≤ k) : ∀ c, c ≤ 4 → (mFa z j s f c).1 k = z k
  | 0, _ => rfl
  | c + 1, hc => (m_put_out hj hs (by omega) _ _ k hk).trans (m_fa_out hj hs k hk c (by omega))
theorem m_st_out {z : Nat → Int32} {j : Nat} (hj : j < 3) (k : Nat) (hk : 144 ≤ k) : ∀ i, i ≤ 11 → (mSt z j i).1 k = z k
  | 0, _ => rfl
  | i + 1, hi => (m_fa_out hj (show 10 - i < 11 by omega) k hk 4 (Nat.le_refl 4)).trans (m_st_out hj k hk i (by omega))
theorem m_keep {z : Nat → Int32} {j : Nat} (hj : j < 3) (k : Nat) (h : 162 ≤ k) : (mStep z j).1 k = z k := m_st_out hj k (by omega) 11 (Nat.le_refl 11)
theorem m_keep_steps {z : Nat → Int32} {j : Nat} (hj : j < 3) : ∀ (i : Nat) (k : Nat), 162 ≤ k → mSteps z j i k = z k
  | 0, _, _ => rfl
  | i + 1, k, h => (m_keep hj k h).trans (m_keep_steps hj i k h)
