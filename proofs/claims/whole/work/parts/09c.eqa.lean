/-! a charge loaded -/
theorem all_put {g : Nat → Int32} {s c : Nat} {x : Int32} (hs : s < 12) (hc : c < 4) : qAll (qPut g s c x) = qAll g + x := by
  show qS (fun t => qIn (qPut g s c x) t) 12 = qS (fun t => qIn g t) 12 + x
  rw [← s_add (f := fun t => qIn g t) (x := x) hs]
  refine s_cong (fun t _ => ?_)
  show qIn (qPut g s c x) t = if t = s then qIn g t + x else qIn g t
  by_cases e : t = s
  · rw [if_pos e, e, in_put hc]
  · rw [if_neg e, in_put_ne hc e]
theorem of_put {g : Nat → Int32} {s c d : Nat} {x : Int32} (hs : s < 12) (hc : c < 4) (hd : d < 4) : qOf (qPut g s c x) d = if d = c then qOf g d + x else qOf g d := by
  by_cases e : d = c
  · rw [if_pos e, e]
    show qS (fun t => qPut g s c x (4 * t + c)) 12 = qS (fun t => g (4 * t + c)) 12 + x
    rw [← s_add (f := fun t => g (4 * t + c)) (x := x) hs]
    refine s_cong (fun t _ => ?_)
    show (if 4 * t + c = 4 * s + c then g (4 * s + c) + x else g (4 * t + c)) = if t = s then g (4 * t + c) + x else g (4 * t + c)
    by_cases e2 : t = s
    · rw [if_pos e2, if_pos (by omega), e2]
    · rw [if_neg e2, if_neg (by omega)]
  · rw [if_neg e]
    exact s_cong (fun t _ => if_neg (by omega))
theorem q_zero_at (g : Nat → Int32) : ∀ n k, k < n → qZero g n k = 0
  | 0, k, h => absurd h (Nat.not_lt_zero k)
  | n + 1, k, h => by
    show (if k = n then 0 else qZero g n k) = 0
    by_cases e : k = n
    · rw [if_pos e]
    · rw [if_neg e]; exact q_zero_at g n k (by omega)
theorem s_zero {f : Nat → Int32} : ∀ {n : Nat}, (∀ k, k < n → f k = 0) → qS f n = 0
  | 0, _ => rfl
  | n + 1, h => by
    show qS f n + f n = 0
    rw [s_zero (fun k hk => h k (by omega)), h n (by omega), Int32.add_zero]
theorem all_zero (g : Nat → Int32) : qAll (qZero g 48) = 0 := s_zero (fun s hs => s_zero (fun c hc => q_zero_at g 48 _ (by omega)))
theorem of_zero (g : Nat → Int32) {c : Nat} (hc : c < 4) : qOf (qZero g 48) c = 0 := s_zero (fun s hs => q_zero_at g 48 _ (by omega))
theorem tR_nat {rd : Nat → Int32} {i : Nat} (h : tR rd i) : ((rd (3 * i + 2)).toNatClampNeg < 12 ∧ (rd (3 * i + 1)).toNatClampNeg < 4) ∧ (rd (3 * i + 2) = nI (rd (3 * i + 2)).toNatClampNeg ∧ rd (3 * i + 1) = nI (rd (3 * i + 1)).toNatClampNeg) := by
  obtain ⟨⟨c, hc, hc4⟩, ⟨s, hs, hs12⟩, -⟩ := h
  rw [hc, hs, nI_clamp (by omega), nI_clamp (by omega)]
  exact ⟨⟨hs12, hc4⟩, rfl, rfl⟩
theorem rG_all {g0 rd : Nat → Int32} : ∀ {n : Nat}, (∀ i, i < n → tR rd i) → qAll (rG (qZero g0 48) rd n) = qS (fun i => rd (3 * i)) n
  | 0, _ => all_zero g0
  | n + 1, h => by
    have h1 := tR_nat (h n (Nat.lt_succ_self n))
    show qAll (qPut (rG (qZero g0 48) rd n) _ _ (rd (3 * n))) = qS (fun i => rd (3 * i)) n + rd (3 * n)
    rw [all_put h1.1.1 h1.1.2, rG_all (fun i hi => h i (by omega))]
theorem qPd_at (pd g : Nat → Int32) : ∀ n k, qPd pd g n k = if k < n then pd k + qOf g k else pd k
  | 0, k => (if_neg (by omega)).symm
  | n + 1, k => by
    show (if k = n then qPd pd g n n + qOf g n else qPd pd g n k) = _
    rw [qPd_at pd g n n, qPd_at pd g n k, if_neg (show ¬ n < n by omega)]
    by_cases e : k = n
    · rw [if_pos e, if_pos (by omega), e]
    · rw [if_neg e]
      by_cases e2 : k < n
      · rw [if_pos e2, if_pos (by omega)]
      · rw [if_neg e2, if_neg (by omega)]
/-- what the reference's row holds behind a load -/
theorem e_load {z rd g0 : Nat → Int32} {j : Nat} (hj : j < 3) : ∀ n, (∀ i, i < n → tR rd i) → (∀ k, k < 48 → mLoad z rd j n (48 * j + k) = z (48 * j + k) + rG (qZero g0 48) rd n k) ∧ (∀ c, c < 4 → mLoad z rd j n (152 + c) = z (152 + c) + qOf (rG (qZero g0 48) rd n) c) ∧ ∀ k, (k < 48 * j ∨ 48 * j + 48 ≤ k) → (k < 152 ∨ 156 ≤ k) → mLoad z rd j n k = z k
  | 0, _ => ⟨fun k hk => by
      show z (48 * j + k) = z (48 * j + k) + qZero g0 48 k
      rw [q_zero_at g0 48 k hk, Int32.add_zero], fun c hc => by
      show z (152 + c) = z (152 + c) + qOf (qZero g0 48) c
      rw [of_zero g0 hc, Int32.add_zero], fun _ _ _ => rfl⟩
  | n + 1, h => by
    obtain ⟨h1, h2, h3⟩ := e_load (z := z) (rd := rd) (g0 := g0) hj n (fun i hi => h i (by omega))
    obtain ⟨⟨s12, c4⟩, -⟩ := tR_nat (h n (Nat.lt_succ_self n))
    obtain ⟨b1, b2⟩ := v_bring (z := mLoad z rd j n) (x := rd (3 * n)) hj s12 c4
    have em : mLoad z rd j (n + 1) = mBring (mLoad z rd j n) j (rd (3 * n + 2)).toNatClampNeg (rd (3 * n + 1)).toNatClampNeg (rd (3 * n)) := rfl
    have eg : rG (qZero g0 48) rd (n + 1) = qPut (rG (qZero g0 48) rd n) (rd (3 * n + 2)).toNatClampNeg (rd (3 * n + 1)).toNatClampNeg (rd (3 * n)) := rfl
    rw [em, eg]
    generalize (rd (3 * n + 2)).toNatClampNeg = s at s12 b1 b2 ⊢
    generalize (rd (3 * n + 1)).toNatClampNeg = c at c4 b1 b2 ⊢
    refine ⟨fun k hk => ?_, fun d hd => ?_, fun k hk hk2 => ?_⟩
    · rw [b1 j k hj hk, if_pos rfl]
      show (if k = 4 * s + c then mLoad z rd j n (48 * j + (4 * s + c)) + rd (3 * n) else mLoad z rd j n (48 * j + k)) = z (48 * j + k) + (if k = 4 * s + c then rG (qZero g0 48) rd n (4 * s + c) + rd (3 * n) else rG (qZero g0 48) rd n k)
      by_cases e : k = 4 * s + c
      · rw [if_pos e, if_pos e, h1 (4 * s + c) (by omega), e, Int32.add_assoc]
      · rw [if_neg e, if_neg e, h1 k hk]
    · rw [b2 (152 + d) (by omega), of_put s12 c4 hd, h2 c c4, h2 d hd]
      by_cases e : d = c
      · rw [if_pos e, if_pos (by omega), e, Int32.add_assoc]
      · rw [if_neg e, if_neg (by omega)]
    · by_cases c1 : 144 ≤ k
      · rw [b2 k c1, if_neg (by omega), h3 k hk hk2]
      · have c2 : k = 48 * (k / 48) + k % 48 := by omega
        have c3 : ¬ k / 48 = j := by omega
        have b3 := b1 (k / 48) (k % 48) (by omega) (by omega)
        rw [← c2, if_neg c3] at b3
        rw [b3, h3 k hk hk2]
theorem m_good_load {z rd g0 : Nat → Int32} {j N : Nat} (hG : mGood z) (hj : j < 3) (hr : ∀ i, i < N → tR rd i) (hN : N ≤ 20) (ht : qAll (qV z j) + qS (fun i => rd (3 * i)) N ≤ 5000) : ∀ n, n ≤ N → mGood (mLoad z rd j n) ∧ jS (mLoad z rd j n) j = jS z j + fb_si (fun i => (rd (3 * i)).toInt) n
  | 0, _ => ⟨hG, (Int.add_zero _).symm⟩
  | n + 1, hn => by
    obtain ⟨h1, h2⟩ := m_good_load (g0 := g0) hG hj hr hN ht n (by omega)
    obtain ⟨⟨s12, c4⟩, -⟩ := tR_nat (hr n (by omega))
    have u9 : ∀ i, i < N → 0 ≤ (rd (3 * i)).toInt ∧ (rd (3 * i)).toInt ≤ 999 := fun i hi => by
      obtain ⟨-, -, u, hu, u1, u2⟩ := hr i hi
      rw [hu, nI_toInt (by omega)]
      omega
    have bd : ∀ m, m ≤ N → 0 ≤ fb_si (fun i => (rd (3 * i)).toInt) m ∧ fb_si (fun i => (rd (3 * i)).toInt) m ≤ 999 * m := by
      intro m
      induction m with
      | zero => intro _; exact ⟨Int.le_refl 0, Int.le_refl 0⟩
      | succ m ih =>
        intro hm
        have a1 := ih (by omega)
        have a2 := u9 m (by omega)
        show 0 ≤ fb_si (fun i => (rd (3 * i)).toInt) m + (rd (3 * m)).toInt ∧ fb_si (fun i => (rd (3 * i)).toInt) m + (rd (3 * m)).toInt ≤ 999 * ((m + 1 : Nat) : Int)
        omega
    have eS : (qS (fun i => rd (3 * i)) N).toInt = fb_si (fun i => (rd (3 * i)).toInt) N := g_qS (f := fun i => rd (3 * i)) (fun i hi => (u9 i hi).1) (by have := (bd N (Nat.le_refl N)).2; omega)
    have j5 : jS z j ≤ 5000 := hG.2.1 j hj
    have j0 : 0 ≤ jS z j := g_nn (fun k hk => hG.1 _ (by omega))
    have t1 := Int32.le_iff_toInt_le.mp ht
    have bN := bd N (Nat.le_refl N)
    have e5 : (5000 : Int32).toInt = 5000 := by decide
    rw [fb_addI (by rw [g_all hG hj, eS]; omega) (by rw [g_all hG hj, eS]; omega), g_all hG hj, eS, e5] at t1
    have sp := fb_si_split (fun i => (rd (3 * i)).toInt) (n + 1) (N - (n + 1))
    rw [show n + 1 + (N - (n + 1)) = N by omega] at sp
    have s5 : 0 ≤ fb_si (fun k => (rd (3 * (n + 1 + k))).toInt) (N - (n + 1)) := g_nn (fun k hk => (u9 _ (by omega)).1)
    have s1 : fb_si (fun i => (rd (3 * i)).toInt) (n + 1) = fb_si (fun i => (rd (3 * i)).toInt) n + (rd (3 * n)).toInt := rfl
    have s6 : fb_si (fun i => (rd (3 * i)).toInt) N = fb_si (fun i => (rd (3 * i)).toInt) (n + 1) + fb_si (fun k => (rd (3 * (n + 1 + k))).toInt) (N - (n + 1)) := sp
    have un := u9 n (by omega)
    have bn := bd n (by omega)
    have hroom : qAll (qV (mLoad z rd j n) j) + rd (3 * n) ≤ 5000 := by
      rw [Int32.le_iff_toInt_le, fb_addI (by rw [g_all h1 hj, h2]; omega) (by rw [g_all h1 hj, h2]; omega), g_all h1 hj, h2, e5]
      omega
    refine ⟨m_good_bring h1 hj s12 c4 un.1 (by omega) hroom, ?_⟩
    have c0 := g_cell (p := 4 * (rd (3 * n + 2)).toNatClampNeg + (rd (3 * n + 1)).toNatClampNeg) h1 hj (by omega)
    show jS (upd (upd (mLoad z rd j n) (48 * j + (4 * (rd (3 * n + 2)).toNatClampNeg + (rd (3 * n + 1)).toNatClampNeg)) (mLoad z rd j n (48 * j + (4 * (rd (3 * n + 2)).toNatClampNeg + (rd (3 * n + 1)).toNatClampNeg)) + rd (3 * n))) (152 + (rd (3 * n + 1)).toNatClampNeg) _) j = _
    rw [jS_hi _ hj (by omega), jS_upd _ (by omega), h2, fb_addI (by omega) (by omega), s1]
    omega
