/-! the grains of a class: kept by all that is done, but for what is poured and drawn -/
theorem of_cong {f g : Nat → Int32} {c : Nat} (hc : c < 4) (h : ∀ k, k < 48 → f k = g k) : qOf f c = qOf g c := s_cong (fun s hs => h (4 * s + c) (by omega))
theorem of_put (g : Nat → Int32) {s c d : Nat} (x : Int32) (hs : s < 12) (hc : c < 4) (hd : d < 4) : qOf (qPut g s c x) d = if c = d then qOf g d + x else qOf g d := by
  by_cases e : c = d
  · subst e
    rw [if_pos rfl]
    refine (s_cong (f := fun t => qPut g s c x (4 * t + c)) (g := fun t => if t = s then g (4 * t + c) + x else g (4 * t + c)) (fun t ht => ?_)).trans (s_add (f := fun t => g (4 * t + c)) hs)
    show (if 4 * t + c = 4 * s + c then g (4 * s + c) + x else g (4 * t + c)) = if t = s then g (4 * t + c) + x else g (4 * t + c)
    by_cases h : t = s
    · subst h; rw [if_pos rfl, if_pos rfl]
    · rw [if_neg (by omega), if_neg h]
  · rw [if_neg e]
    refine s_cong (f := fun t => qPut g s c x (4 * t + d)) (g := fun t => g (4 * t + d)) (fun t ht => ?_)
    show (if 4 * t + d = 4 * s + c then g (4 * s + c) + x else g (4 * t + d)) = g (4 * t + d)
    rw [if_neg (by omega)]
theorem of_two (g : Nat → Int32) {s s2 c d : Nat} {x y : Int32} (h : x + y = 0) (hs : s < 12) (hs2 : s2 < 12) (hc : c < 4) (hd : d < 4) : qOf (qPut (qPut g s c x) s2 c y) d = qOf g d := by
  rw [of_put _ y hs2 hc hd, of_put g x hs hc hd]
  by_cases e : c = d
  · rw [if_pos e, if_pos e, Int32.add_assoc, h, Int32.add_zero]
  · rw [if_neg e, if_neg e]
theorem of_fa {z : Nat → Int32} {j s d : Nat} {f : Int32} (hs : s < 11) (hd : d < 4) : ∀ c, c ≤ 4 → qOf (qV (mFa z j s f c).1 j) d = qOf (qV z j) d
  | 0, _ => rfl
  | c + 1, hc => by
    have e : qV (mFa z j s f (c + 1)).1 j = qPut (qPut (qV (mFa z j s f c).1 j) s c (-(mDrop (mFa z j s f c).1 j s c f))) (s + 1) c (mDrop (mFa z j s f c).1 j s c f) := e_mput j s c (mFa z j s f c) (mDrop (mFa z j s f c).1 j s c f)
    rw [e, of_two _ (Int32.add_left_neg _) (by omega) (by omega) (by omega) hd]
    exact of_fa hs hd c (by omega)
theorem of_st {z : Nat → Int32} {j d : Nat} (hd : d < 4) : ∀ i, i ≤ 11 → qOf (qV (mSt z j i).1 j) d = qOf (qV z j) d
  | 0, _ => rfl
  | i + 1, hi => (of_fa (z := (mSt z j i).1) (s := 10 - i) (by omega) hd 4 (Nat.le_refl 4)).trans (of_st hd i (by omega))
theorem of_steps {z : Nat → Int32} {j d : Nat} (hd : d < 4) : ∀ t, qOf (qV (mSteps z j t) j) d = qOf (qV z j) d
  | 0 => rfl
  | t + 1 => (of_st (z := mSteps z j t) hd 11 (Nat.le_refl 11)).trans (of_steps hd t)
theorem of_tn {g : Nat → Int32} {s d : Nat} (hs : s < 6) (hd : d < 4) : ∀ c, c ≤ 4 → qOf (qTn g s c) d = qOf g d
  | 0, _ => rfl
  | c + 1, hc => by
    have e : qTn g s (c + 1) = qPut (qPut (qTn g s c) s c (qTn g s c (4 * (11 - s) + c) - qTn g s c (4 * s + c))) (11 - s) c (-(qTn g s c (4 * (11 - s) + c) - qTn g s c (4 * s + c))) := rfl
    rw [e, of_two _ (Int32.add_right_neg _) (by omega) (by omega) (by omega) hd]
    exact of_tn hs hd c (by omega)
theorem of_turn {g : Nat → Int32} {d : Nat} (hd : d < 4) : ∀ t, t ≤ 6 → qOf (qTurn g t) d = qOf g d
  | 0, _ => rfl
  | t + 1, ht => (of_tn (g := qTurn g t) (s := t) (by omega) hd 4 (Nat.le_refl 4)).trans (of_turn hd t (by omega))
theorem i_sp (x s g l m : Int32) : x + (s - g) + (l - s) + (m + g) = x + l + m := by
  have h1 : s = (s - g) + g := (Int32.sub_add_cancel s g).symm
  have h2 : l = (l - s) + s := (Int32.sub_add_cancel l s).symm
  generalize l - s = v at h2 ⊢
  generalize s - g = u at h1 ⊢
  rw [h2, h1]
  ac_rfl
/-- what is not yet reached stays -/
theorem sp_at (g : Nat → Int32) {a b c : Nat} (all : Int32) (hc : c < 4) : ∀ i k, 4 * (a + i) ≤ k → (qSp g a b c all i).1 k = g k
  | 0, _, _ => rfl
  | i + 1, k, hk => by
    rw [l_sp1]
    show (if k = 4 * (a + i) + c then ((qSp g a b c all i).2 + nI (b - (a + i))) / nI (b - (a + i) + 1) else (qSp g a b c all i).1 k) = g k
    rw [if_neg (by omega)]
    exact sp_at g all hc i k (by omega)
theorem of_sp (g : Nat → Int32) {a b c : Nat} (all : Int32) (hc : c < 4) (hb : b < 12) : ∀ i, i ≤ b + 1 - a → qOf (qSp g a b c all i).1 c + (qSp g a b c all i).2 + qSum g a c i = qOf g c + all
  | 0, _ => Int32.add_zero _
  | i + 1, hi => by
    have ih := of_sp g (a := a) (b := b) (c := c) all hc hb i (by omega)
    have h1 : (qSp g a b c all (i + 1)).1 = qPut (qSp g a b c all i).1 (a + i) c (((qSp g a b c all i).2 + nI (b - (a + i))) / nI (b - (a + i) + 1) - (qSp g a b c all i).1 (4 * (a + i) + c)) := rfl
    have h2 : (qSp g a b c all (i + 1)).2 = (qSp g a b c all i).2 - ((qSp g a b c all i).2 + nI (b - (a + i))) / nI (b - (a + i) + 1) := rfl
    have h3 : qSum g a c (i + 1) = qSum g a c i + g (4 * (a + i) + c) := rfl
    rw [h1, h2, h3, of_put _ _ (by omega) hc hc, if_pos rfl, sp_at g all hc i (4 * (a + i) + c) (by omega), i_sp]
    exact ih
theorem of_sp_ne (g : Nat → Int32) {a b c d : Nat} (all : Int32) (hc : c < 4) (hd : d < 4) (hne : ¬ c = d) (hb : b < 12) : ∀ i, i ≤ b + 1 - a → qOf (qSp g a b c all i).1 d = qOf g d
  | 0, _ => rfl
  | i + 1, hi => by
    have h1 : (qSp g a b c all (i + 1)).1 = qPut (qSp g a b c all i).1 (a + i) c (((qSp g a b c all i).2 + nI (b - (a + i))) / nI (b - (a + i) + 1) - (qSp g a b c all i).1 (4 * (a + i) + c)) := rfl
    rw [h1, of_put _ _ (by omega) hc hd, if_neg hne]
    exact of_sp_ne g (a := a) (b := b) (c := c) all hc hd hne hb i (by omega)
theorem of_stir {z : Nat → Int32} {j a b d : Nat} (hG : mGood z) (hj : j < 3) (hab : a ≤ b) (hb : b < 12) (hd : d < 4) : ∀ c, c ≤ 4 → qOf (qStir (qV z j) a b c) d = qOf (qV z j) d
  | 0, _ => rfl
  | c + 1, hc => by
    refine Eq.trans ?_ (of_stir hG hj hab hb hd c (by omega))
    obtain ⟨h1, h2, h3, h4⟩ := e_stir hG hj hab hb c (by omega)
    show qOf (qSp (qStir (qV z j) a b c) a b c (qSum (qStir (qV z j) a b c) a c (b + 1 - a)) (b + 1 - a)).1 d = qOf (qStir (qV z j) a b c) d
    by_cases e : c = d
    · subst e
      obtain ⟨N, n1, n2, n3⟩ := g_msum (c := c) h3 hj hab hb (by omega)
      have n4 : qSum (qStir (qV z j) a b c) a c (b + 1 - a) = nI N := by rw [← h1]; exact n2
      obtain ⟨-, s2⟩ := e_sp (z := (mStir z j a b c).1) (j := j) (c := c) hab hb n1 (b + 1 - a) (Nat.le_refl _)
      rw [sL_M (by omega), h1] at s2
      have k := of_sp (qStir (qV z j) a b c) (a := a) (b := b) (c := c) (nI N) (by omega) hb (b + 1 - a) (Nat.le_refl _)
      rw [n4, s2] at k
      rw [n4]
      have k2 : qOf (qSp (qStir (qV z j) a b c) a b c (nI N) (b + 1 - a)).1 c + nI N = qOf (qStir (qV z j) a b c) c + nI N := by
        refine Eq.trans ?_ k
        show _ = _ + (0 : Int32) + _
        rw [Int32.add_zero]
      have k3 := congrArg (fun x => x - nI N) k2
      simpa only [Int32.add_sub_cancel] using k3
    · exact of_sp_ne _ _ (by omega) hd e hb _ (Nat.le_refl _)
theorem s_plus (f g : Nat → Int32) : ∀ n, qS (fun k => f k + g k) n = qS f n + qS g n
  | 0 => rfl
  | n + 1 => by
    show qS (fun k => f k + g k) n + (f n + g n) = (qS f n + f n) + (qS g n + g n)
    rw [s_plus f g n]
    ac_rfl
theorem of_over (g o : Nat → Int32) (t d : Nat) : qOf (qOver g o t).1 d + qOf (qOver g o t).2 d = qOf g d + qOf o d := by
  show qS (fun s => (qOver g o t).1 (4 * s + d)) 12 + qS (fun s => (qOver g o t).2 (4 * s + d)) 12 = qS (fun s => g (4 * s + d)) 12 + qS (fun s => o (4 * s + d)) 12
  rw [← s_plus, ← s_plus]
  refine s_cong (fun s hs => ?_)
  obtain ⟨h1, h2⟩ := qOver_at g o t (4 * s + d)
  show (qOver g o t).1 (4 * s + d) + (qOver g o t).2 (4 * s + d) = g (4 * s + d) + o (4 * s + d)
  rw [h1, h2]
  by_cases c : 4 * s + d < 4 * t
  · rw [if_pos c, if_pos c, Int32.zero_add, Int32.add_comm]
  · rw [if_neg c, if_neg c]
theorem i_ad (q x d : Int32) : q + -x + (d + x) = q + d := by
  have h : q + -x + (d + x) = q + d + (x + -x) := by ac_rfl
  rw [h, Int32.add_right_neg, Int32.add_zero]
theorem of_draw (g dr : Nat → Int32) {s d : Nat} (p : Int32) (hs : s < 12) (hd : d < 4) : ∀ c, c ≤ 4 → qOf (qDraw g dr s p c).1 d + (qDraw g dr s p c).2.1 d = qOf g d + dr d
  | 0, _ => rfl
  | c + 1, hc => by
    have ih := of_draw g dr p hs hd c (by omega)
    have h1 : (qDraw g dr s p (c + 1)).1 = qPut (qDraw g dr s p c).1 s c (-((qDraw g dr s p c).1 (4 * s + c) * p / 100)) := rfl
    have h2 : (qDraw g dr s p (c + 1)).2.1 = upd (qDraw g dr s p c).2.1 c ((qDraw g dr s p c).2.1 c + (qDraw g dr s p c).1 (4 * s + c) * p / 100) := rfl
    rw [h1, h2, of_put _ _ hs (by omega) hd]
    generalize (qDraw g dr s p c).1 (4 * s + c) * p / 100 = x
    by_cases e : c = d
    · subst e
      rw [if_pos rfl, pk_us, i_ad]
      exact ih
    · rw [if_neg e, pk_un (fun q => e q.symm)]
      exact ih
/-! the accounts: all grains of a class are those poured less those drawn -/
section LCN
variable {v w ga gb gc pd dr y z : Nat → Int32} {tp fl : Int32}
theorem cons_of (h : vEq v w ga gb gc pd dr tp fl y) (hs : ∀ c, c < 4 → qOf ga c + qOf gb c + qOf gc c = pd c - dr c) : lCons y := fun c hc => by
  obtain ⟨h1, h2, h3, h4, h5, h6, h7, h8, h9⟩ := h
  rw [← of_cong hc h3, ← of_cong hc h4, ← of_cong hc h5, hs c hc, h6 c hc, h7 c hc]
  rfl
/-- one jar of three changed: the sum of the three grows as it does -/
theorem of_sel {j c : Nat} {g : (Nat → Int32) → Nat → Int32} {x : Int32} (hj : j < 3) (h : qOf (g (qV z j)) c = qOf (qV z j) c + x) : qOf (if j = 0 then g (qV z 0) else qV z 0) c + qOf (if j = 1 then g (qV z 1) else qV z 1) c + qOf (if j = 2 then g (qV z 2) else qV z 2) c = qOf (qV z 0) c + qOf (qV z 1) c + qOf (qV z 2) c + x := by
  rcases z_cases3 hj with rfl | rfl | rfl
  · show qOf (g (qV z 0)) c + qOf (qV z 1) c + qOf (qV z 2) c = _
    rw [h]; ac_rfl
  · show qOf (qV z 0) c + qOf (g (qV z 1)) c + qOf (qV z 2) c = _
    rw [h]; ac_rfl
  · show qOf (qV z 0) c + qOf (qV z 1) c + qOf (g (qV z 2)) c = _
    rw [h]; ac_rfl
/-- .. or stays as it is -/
theorem of_sel0 {j : Nat} {g : (Nat → Int32) → Nat → Int32} (hj : j < 3) (hc : lCons z) (h : ∀ c, c < 4 → qOf (g (qV z j)) c = qOf (qV z j) c) : ∀ c, c < 4 → qOf (if j = 0 then g (qV z 0) else qV z 0) c + qOf (if j = 1 then g (qV z 1) else qV z 1) c + qOf (if j = 2 then g (qV z 2) else qV z 2) c = cP z c - cR z c := fun c h4 => by
  rw [of_sel (x := 0) hj ((h c h4).trans (Int32.add_zero _).symm), Int32.add_zero]
  exact hc c h4
theorem i_pd (p d x : Int32) : p - d + x = p + x - d := by
  rw [Int32.sub_eq_add_neg, Int32.sub_eq_add_neg]
  ac_rfl
theorem cons_pour {j s k : Nat} {x : Int32} (hj : j < 3) (hs : s < 12) (hk : k < 4) (hc : lCons z) : ∀ c, c < 4 → qOf (if j = 0 then qPut (qV z 0) s k x else qV z 0) c + qOf (if j = 1 then qPut (qV z 1) s k x else qV z 1) c + qOf (if j = 2 then qPut (qV z 2) s k x else qV z 2) c = upd (cP z) k (cP z k + x) c - cR z c := fun c h4 => by
  have h0 : qOf (qV z 0) c + qOf (qV z 1) c + qOf (qV z 2) c = cP z c - cR z c := hc c h4
  have hp := of_put (qV z j) x hs hk h4
  by_cases e : k = c
  · subst e
    rw [if_pos rfl] at hp
    rw [of_sel (g := fun f => qPut f s k x) hj hp, h0, pk_us, i_pd]
  · rw [if_neg e] at hp
    rw [of_sel (g := fun f => qPut f s k x) (x := 0) hj (hp.trans (Int32.add_zero _).symm), h0, Int32.add_zero, pk_un (fun q => e q.symm)]
theorem i_dr {a b q q2 p d d2 : Int32} (h : q2 + d2 = q + d) (h0 : a + q + b = p - d) : a + q2 + b = p - d2 := by
  have e : a + q2 + b + d2 = p := by
    rw [show a + q2 + b + d2 = a + b + (q2 + d2) by ac_rfl, h, show a + b + (q + d) = a + q + b + d by ac_rfl, h0, Int32.sub_add_cancel]
  rw [← e, Int32.add_sub_cancel]
theorem cons_draw {j s : Nat} {x : Int32} (hj : j < 3) (hs : s < 12) (hc : lCons z) : ∀ c, c < 4 → qOf (if j = 0 then (qDraw (qV z 0) (cR z) s x 4).1 else qV z 0) c + qOf (if j = 1 then (qDraw (qV z 1) (cR z) s x 4).1 else qV z 1) c + qOf (if j = 2 then (qDraw (qV z 2) (cR z) s x 4).1 else qV z 2) c = cP z c - (qDraw (zG j (qV z 0) (qV z 1) (qV z 2)) (cR z) s x 4).2.1 c := fun c h4 => by
  have h0 : qOf (qV z 0) c + qOf (qV z 1) c + qOf (qV z 2) c = cP z c - cR z c := hc c h4
  have hp := of_draw (qV z j) (cR z) x hs h4 4 (Nat.le_refl 4)
  rw [w_zG hj]
  rcases z_cases3 hj with rfl | rfl | rfl
  · show qOf (qDraw (qV z 0) (cR z) s x 4).1 c + qOf (qV z 1) c + qOf (qV z 2) c = _
    have h1 : qOf (qV z 1) c + qOf (qV z 0) c + qOf (qV z 2) c = cP z c - cR z c := by rw [← h0]; ac_rfl
    rw [← i_dr hp h1]; ac_rfl
  · exact i_dr hp h0
  · show qOf (qV z 0) c + qOf (qV z 1) c + qOf (qDraw (qV z 2) (cR z) s x 4).1 c = _
    have h1 : qOf (qV z 0) c + qOf (qV z 2) c + qOf (qV z 1) c = cP z c - cR z c := by rw [← h0]; ac_rfl
    rw [← i_dr hp h1]; ac_rfl
theorem cons_dec {a b t : Nat} (ha : a < 3) (hb : b < 3) (hne : ¬ a = b) (hc : lCons z) : ∀ c, c < 4 → qOf (qDec (qV z 0) (qV z 1) (qV z 2) a b t 0) c + qOf (qDec (qV z 0) (qV z 1) (qV z 2) a b t 1) c + qOf (qDec (qV z 0) (qV z 1) (qV z 2) a b t 2) c = cP z c - cR z c := fun c h4 => by
  have h0 : qOf (qV z 0) c + qOf (qV z 1) c + qOf (qV z 2) c = cP z c - cR z c := hc c h4
  rw [← h0]
  rcases z_cases3 ha with rfl | rfl | rfl <;> rcases z_cases3 hb with rfl | rfl | rfl
  · exact absurd rfl hne
  · show qOf (qOver (qV z 0) (qV z 1) t).1 c + qOf (qOver (qV z 0) (qV z 1) t).2 c + qOf (qV z 2) c = _
    rw [of_over]
  · show qOf (qOver (qV z 0) (qV z 2) t).1 c + qOf (qV z 1) c + qOf (qOver (qV z 0) (qV z 2) t).2 c = _
    have h := of_over (qV z 0) (qV z 2) t c
    rw [show qOf (qOver (qV z 0) (qV z 2) t).1 c + qOf (qV z 1) c + qOf (qOver (qV z 0) (qV z 2) t).2 c = qOf (qOver (qV z 0) (qV z 2) t).1 c + qOf (qOver (qV z 0) (qV z 2) t).2 c + qOf (qV z 1) c by ac_rfl, h]; ac_rfl
  · show qOf (qOver (qV z 1) (qV z 0) t).2 c + qOf (qOver (qV z 1) (qV z 0) t).1 c + qOf (qV z 2) c = _
    have h := of_over (qV z 1) (qV z 0) t c
    rw [show qOf (qOver (qV z 1) (qV z 0) t).2 c + qOf (qOver (qV z 1) (qV z 0) t).1 c = qOf (qOver (qV z 1) (qV z 0) t).1 c + qOf (qOver (qV z 1) (qV z 0) t).2 c by ac_rfl, h]; ac_rfl
  · exact absurd rfl hne
  · show qOf (qV z 0) c + qOf (qOver (qV z 1) (qV z 2) t).1 c + qOf (qOver (qV z 1) (qV z 2) t).2 c = _
    have h := of_over (qV z 1) (qV z 2) t c
    rw [Int32.add_assoc, h]; ac_rfl
  · show qOf (qOver (qV z 2) (qV z 0) t).2 c + qOf (qV z 1) c + qOf (qOver (qV z 2) (qV z 0) t).1 c = _
    have h := of_over (qV z 2) (qV z 0) t c
    rw [show qOf (qOver (qV z 2) (qV z 0) t).2 c + qOf (qV z 1) c + qOf (qOver (qV z 2) (qV z 0) t).1 c = qOf (qOver (qV z 2) (qV z 0) t).1 c + qOf (qOver (qV z 2) (qV z 0) t).2 c + qOf (qV z 1) c by ac_rfl, h]; ac_rfl
  · show qOf (qV z 0) c + qOf (qOver (qV z 2) (qV z 1) t).2 c + qOf (qOver (qV z 2) (qV z 1) t).1 c = _
    have h := of_over (qV z 2) (qV z 1) t c
    rw [show qOf (qV z 0) c + qOf (qOver (qV z 2) (qV z 1) t).2 c + qOf (qOver (qV z 2) (qV z 1) t).1 c = qOf (qOver (qV z 2) (qV z 1) t).1 c + qOf (qOver (qV z 2) (qV z 1) t).2 c + qOf (qV z 0) c by ac_rfl, h]; ac_rfl
  · exact absurd rfl hne
theorem cons_go {t : Nat} (hG : mGood z) (hc : lCons z) : ∀ c, c < 4 → qOf (qGo (cV z) (cW z) t (qV z 0, 0)).1 c + qOf (qGo (cV z) (cW z) t (qV z 1, 0)).1 c + qOf (qGo (cV z) (cW z) t (qV z 2, 0)).1 c = cP z c - cR z c := fun c h4 => by
  rw [(e_go (show 0 < 3 by omega) t z 0 hG).1, (e_go (show 1 < 3 by omega) t z 0 hG).1, (e_go (show 2 < 3 by omega) t z 0 hG).1, of_steps h4, of_steps h4, of_steps h4]
  exact hc c h4
/-! the law's rows: the class's numbers once more -/
def lRow (v w ga gb gc pd dr : Nat → Int32) (tp fl : Int32) (ja jb jc je jd : Nat → Int32) : Prop := (∀ k, k < 48 → ja k = ga k) ∧ (∀ k, k < 48 → jb k = gb k) ∧ (∀ k, k < 48 → jc k = gc k) ∧ (∀ k, k < 4 → je k = v k ∧ je (4 + k) = w k ∧ je (8 + k) = pd k ∧ je (12 + k) = dr k) ∧ jd 0 = tp ∧ jd 1 = fl
variable {ja jb jc je jd : Nat → Int32}
theorem row_of (h : vEq v w ga gb gc pd dr tp fl y) (hr : lRow v w ga gb gc pd dr tp fl ja jb jc je jd) : (∀ k, k < 48 → ja k = qV y 0 k) ∧ (∀ k, k < 48 → jb k = qV y 1 k) ∧ (∀ k, k < 48 → jc k = qV y 2 k) ∧ (∀ k, k < 16 → je k = cV y k) ∧ ∀ k, k < 2 → jd k = lD y k := by
  obtain ⟨h1, h2, h3, h4, h5, h6, h7, h8, h9⟩ := h
  obtain ⟨r1, r2, r3, r4, r5, r6⟩ := hr
  refine ⟨fun k hk => (r1 k hk).trans (h3 k hk), fun k hk => (r2 k hk).trans (h4 k hk), fun k hk => (r3 k hk).trans (h5 k hk), fun k hk => ?_, fun k hk => ?_⟩
  · rcases Nat.lt_or_ge k 4 with q | q
    · exact (r4 k q).1.trans (h1 k q)
    rcases Nat.lt_or_ge k 8 with q2 | q2
    · obtain ⟨c, rfl⟩ : ∃ c, k = 4 + c := ⟨k - 4, by omega⟩
      exact ((r4 c (by omega)).2.1.trans (h2 c (by omega))).trans (l_c4 y c)
    rcases Nat.lt_or_ge k 12 with q3 | q3
    · obtain ⟨c, rfl⟩ : ∃ c, k = 8 + c := ⟨k - 8, by omega⟩
      exact ((r4 c (by omega)).2.2.1.trans (h6 c (by omega))).trans (l_c8 y c)
    · obtain ⟨c, rfl⟩ : ∃ c, k = 12 + c := ⟨k - 12, by omega⟩
      exact ((r4 c (by omega)).2.2.2.trans (h7 c (by omega))).trans (l_c12 y c)
  · rcases Nat.lt_or_ge k 1 with q | q
    · have e : k = 0 := by omega
      subst e
      exact r5.trans h8
    · have e : k = 1 := by omega
      subst e
      exact r6.trans h9
theorem row_self (z : Nat → Int32) : ∀ k, k < 4 → cV z k = cV z k ∧ cV z (4 + k) = cW z k ∧ cV z (8 + k) = cP z k ∧ cV z (12 + k) = cR z k := fun k _ => ⟨rfl, (l_c4 z k).symm, (l_c8 z k).symm, (l_c12 z k).symm⟩
theorem row_v {k1 : Nat} {x : Int32} (h : k1 < 4) : ∀ k, k < 4 → upd (cV z) k1 x k = upd (cV z) k1 x k ∧ upd (cV z) k1 x (4 + k) = cW z k ∧ upd (cV z) k1 x (8 + k) = cP z k ∧ upd (cV z) k1 x (12 + k) = cR z k := fun k hk => ⟨rfl, (pk_un (by omega)).trans (l_c4 z k).symm, (pk_un (by omega)).trans (l_c8 z k).symm, (pk_un (by omega)).trans (l_c12 z k).symm⟩
theorem row_w {k1 : Nat} {x : Int32} (h : k1 < 4) : ∀ k, k < 4 → upd (cV z) (4 + k1) x k = cV z k ∧ upd (cV z) (4 + k1) x (4 + k) = upd (cW z) k1 x k ∧ upd (cV z) (4 + k1) x (8 + k) = cP z k ∧ upd (cV z) (4 + k1) x (12 + k) = cR z k := fun k hk => by
  refine ⟨pk_un (by omega), ?_, (pk_un (by omega)).trans (l_c8 z k).symm, (pk_un (by omega)).trans (l_c12 z k).symm⟩
  by_cases e : k = k1
  · subst e; rw [pk_us, pk_us]
  · rw [pk_un (show ¬ 4 + k = 4 + k1 by omega), pk_un e, l_c4]
theorem row_p {k1 : Nat} {x : Int32} (h : k1 < 4) : ∀ k, k < 4 → upd (cV z) (8 + k1) x k = cV z k ∧ upd (cV z) (8 + k1) x (4 + k) = cW z k ∧ upd (cV z) (8 + k1) x (8 + k) = upd (cP z) k1 x k ∧ upd (cV z) (8 + k1) x (12 + k) = cR z k := fun k hk => by
  refine ⟨pk_un (by omega), (pk_un (by omega)).trans (l_c4 z k).symm, ?_, (pk_un (by omega)).trans (l_c12 z k).symm⟩
  by_cases e : k = k1
  · subst e; rw [pk_us, pk_us]
  · rw [pk_un (show ¬ 8 + k = 8 + k1 by omega), pk_un e, l_c8]
theorem row_d {dd : Nat → Int32} : ∀ k, k < 4 → lSd z dd k = cV z k ∧ lSd z dd (4 + k) = cW z k ∧ lSd z dd (8 + k) = cP z k ∧ lSd z dd (12 + k) = dd k := fun k hk => by
  refine ⟨if_pos (by omega), (if_pos (show 4 + k < 12 by omega)).trans (l_c4 z k).symm, (if_pos (show 8 + k < 12 by omega)).trans (l_c8 z k).symm, ?_⟩
  show (if 12 + k < 12 then z (144 + (12 + k)) else dd (12 + k - 12)) = dd k
  rw [if_neg (by omega), show 12 + k - 12 = k by omega]
/-- a decanted row of the law is the class's -/
theorem row_dec {a b s i : Nat} (ha : a < 3) (hb : b < 3) (hne : ¬ a = b) (hi : i < 3) : ∀ k, k < 48 → lDe z a b s i k = qDec (qV z 0) (qV z 1) (qV z 2) a b (s + 1) i k := fun k hk => by
  unfold lDe qDec
  obtain ⟨h1, h2⟩ := qOver_at (qV z a) (qV z b) (s + 1) k
  rw [w_zG ha, w_zG hb, w_zG hi]
  by_cases e : i = a
  · rw [if_pos e, if_pos e, h1]
    show (if k < 4 * s + 4 then 0 else qV z a k) = if k < 4 * (s + 1) then 0 else qV z a k
    rw [show 4 * s + 4 = 4 * (s + 1) by omega]
  · rw [if_neg e, if_neg e]
    by_cases e2 : i = b
    · rw [if_pos e2, if_pos e2, h2]
      show (if k < 4 * s + 4 then qV z b k + qV z a k else qV z b k) = if k < 4 * (s + 1) then qV z b k + qV z a k else qV z b k
      rw [show 4 * s + 4 = 4 * (s + 1) by omega]
    · rw [if_neg e2, if_neg e2]
end LCN
