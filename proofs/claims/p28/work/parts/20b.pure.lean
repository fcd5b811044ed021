/-! what is told of a jar: the purest slice looked for from the bottom, the mean depth, rest -/
theorem l_sl {g v w : Nat → Int32} {s k : Nat} (hk : k < 4) : qSlice g v w s k = g (4 * s + k) := by
  rcases z_cases4 hk with rfl | rfl | rfl | rfl <;> rfl
theorem l_jof {g v w : Nat → Int32} {c : Nat} (hc : c < 4) : qJar g v w (c + 1) = qOf g c := by
  rcases z_cases4 hc with rfl | rfl | rfl | rfl <;> rfl
theorem l_cmp_lt {x y : Int64} : lg_cmp x y < 0 ↔ x < y := by
  unfold lg_cmp
  by_cases h1 : y < x
  · rw [if_pos h1]
    exact ⟨fun q => absurd q (by decide), fun q => by
      rw [Int64.lt_iff_toInt_lt] at h1 q
      omega⟩
  · rw [if_neg h1]
    by_cases h2 : x = y
    · rw [if_pos h2]
      exact ⟨fun q => absurd q (by decide), fun q => by
        rw [h2] at q
        exact absurd q Int64.lt_irrefl⟩
    · rw [if_neg h2]
      refine ⟨fun _ => ?_, fun _ => by decide⟩
      rw [Int64.lt_iff_toInt_lt] at h1 ⊢
      have h3 : ¬ x.toInt = y.toInt := fun q => h2 (Int64.toInt_inj.mp q)
      omega
def lPu (g : Nat → Int32) (c : Nat) : Nat → Option Nat
  | 0 => none
  | i + 1 => match lPu g c i with
    | none => if 0 < g (4 * (11 - i) + c) then some (11 - i) else none
    | some b => if 0 < g (4 * (11 - i) + c) ∧ ¬ (g (4 * (11 - i) + c)).toInt64 * (qIn g b).toInt64 < (g (4 * b + c)).toInt64 * (qIn g (11 - i)).toInt64 then some (11 - i) else some b
section LPU
variable {g : Nat → Int32} {c i b : Nat}
theorem l_pu_none (ho : lPu g c i = none) (h : 0 < g (4 * (11 - i) + c)) : lPu g c (i + 1) = some (11 - i) := by
  rw [lPu, ho]
  exact if_pos h
theorem l_pu_less (ho : lPu g c i = some b) (h : (g (4 * (11 - i) + c)).toInt64 * (qIn g b).toInt64 < (g (4 * b + c)).toInt64 * (qIn g (11 - i)).toInt64) : lPu g c (i + 1) = some b := by
  rw [lPu, ho]
  exact if_neg (fun q => q.2 h)
theorem l_pu_more (ho : lPu g c i = some b) (h0 : 0 < g (4 * (11 - i) + c)) (h : ¬ (g (4 * (11 - i) + c)).toInt64 * (qIn g b).toInt64 < (g (4 * b + c)).toInt64 * (qIn g (11 - i)).toInt64) : lPu g c (i + 1) = some (11 - i) := by
  rw [lPu, ho]
  exact if_pos ⟨h0, h⟩
theorem l_pu_no {o : Option Nat} (ho : lPu g c i = o) (h : g (4 * (11 - i) + c) ≤ 0) : lPu g c (i + 1) = o := by
  have hn : ¬ 0 < g (4 * (11 - i) + c) := Int32.not_lt.mpr h
  rw [lPu, ho]
  cases o with
  | none => exact if_neg hn
  | some b => exact if_neg (fun q => hn q.1)
theorem l_pu_lt0 : ∀ {i : Nat} {b : Nat}, lPu g c i = some b → b < 12
  | 0, _, h => by cases h
  | i + 1, b, h => by
    cases ho : lPu g c i with
    | none =>
      rw [lPu, ho] at h
      have h2 : (if 0 < g (4 * (11 - i) + c) then some (11 - i) else none) = some b := h
      split at h2
      · have := Option.some.inj h2
        omega
      · cases h2
    | some b2 =>
      have hb := l_pu_lt0 ho
      rw [lPu, ho] at h
      have h2 : (if 0 < g (4 * (11 - i) + c) ∧ ¬ (g (4 * (11 - i) + c)).toInt64 * (qIn g b2).toInt64 < (g (4 * b2 + c)).toInt64 * (qIn g (11 - i)).toInt64 then some (11 - i) else some b2) = some b := h
      split at h2
      · have := Option.some.inj h2
        omega
      · have := Option.some.inj h2
        omega
theorem l_pu_lt (h : lPu g c i = some b) : b < 12 := l_pu_lt0 h
end LPU
theorem pu_le {a b c A B C : Int} (h1 : a * B ≤ b * A) (h2 : b * C ≤ c * B) (hB : 0 < B) (hA : 0 ≤ A) (hC : 0 ≤ C) : a * C ≤ c * A := by
  have e1 : a * B * C ≤ b * A * C := Int.mul_le_mul_of_nonneg_right h1 hC
  have e2 : b * C * A ≤ c * B * A := Int.mul_le_mul_of_nonneg_right h2 hA
  rw [Int.mul_right_comm b A C] at e1
  have e3 : a * B * C ≤ c * B * A := Int.le_trans e1 e2
  rw [Int.mul_right_comm a B C, Int.mul_right_comm c B A] at e3
  exact Int.le_of_mul_le_mul_right e3 hB
theorem pu_lt {a b c A B C : Int} (h1 : a * B ≤ b * A) (h2 : b * C < c * B) (hB : 0 < B) (hA : 0 < A) (hC : 0 ≤ C) : a * C < c * A := by
  have e1 : a * B * C ≤ b * A * C := Int.mul_le_mul_of_nonneg_right h1 hC
  have e2 : b * C * A < c * B * A := Int.mul_lt_mul_of_pos_right h2 hA
  rw [Int.mul_right_comm b A C] at e1
  have e3 : a * B * C < c * B * A := Int.lt_of_le_of_lt e1 e2
  rw [Int.mul_right_comm a B C, Int.mul_right_comm c B A] at e3
  exact Int.lt_of_mul_lt_mul_right e3 (Int.le_of_lt hB)
theorem pu_64 {x y : Int32} (hx : 0 ≤ x.toInt ∧ x.toInt ≤ 5000) (hy : 0 ≤ y.toInt ∧ y.toInt ≤ 5000) : (x.toInt64 * y.toInt64).toInt = x.toInt * y.toInt := by
  have h1 : 0 ≤ x.toInt * y.toInt := Int.mul_nonneg hx.1 hy.1
  have h2 : x.toInt * y.toInt ≤ 5000 * 5000 := Int.mul_le_mul hx.2 hy.2 hy.1 (by decide)
  rw [fb_mulL (by rw [Int32.toInt_toInt64, Int32.toInt_toInt64]; omega) (by rw [Int32.toInt_toInt64, Int32.toInt_toInt64]; omega), Int32.toInt_toInt64, Int32.toInt_toInt64]
theorem pu_32 {x y : Int32} (hx : 0 ≤ x.toInt ∧ x.toInt ≤ 5000) (hy : 0 ≤ y.toInt ∧ y.toInt ≤ 5000) : (x * y).toInt = x.toInt * y.toInt := by
  have h1 : 0 ≤ x.toInt * y.toInt := Int.mul_nonneg hx.1 hy.1
  have h2 : x.toInt * y.toInt ≤ 5000 * 5000 := Int.mul_le_mul hx.2 hy.2 hy.1 (by decide)
  exact fb_mulI (by omega) (by omega)
/-- a row whose cells and slices are in range -/
def lRg (g : Nat → Int32) (c : Nat) : Prop := ∀ k, k < 12 → 0 ≤ (g (4 * k + c)).toInt ∧ (g (4 * k + c)).toInt ≤ (qIn g k).toInt ∧ (qIn g k).toInt ≤ 5000
theorem l_rg {z : Nat → Int32} {j c : Nat} (hG : mGood z) (hj : j < 3) (hc : c < 4) : lRg (qV z j) c := fun k hk => by
  obtain ⟨h1, h2, h3⟩ := g_in hG hj hk
  refine ⟨g_pos hG hj hk hc, ?_, h3⟩
  rw [h1]
  exact g_part (f := fun q => (z (48 * j + (4 * k + q))).toInt) (fun q hq => hG.1 _ (by omega)) hc
/-- b is the best of those in the range P -/
def lBest (g : Nat → Int32) (c : Nat) (P : Nat → Prop) (b : Nat) : Prop :=
  P b ∧ b < 12 ∧ 0 < (g (4 * b + c)).toInt ∧ ∀ k, P k → k < 12 → 0 < (g (4 * k + c)).toInt → (g (4 * k + c)).toInt * (qIn g b).toInt ≤ (g (4 * b + c)).toInt * (qIn g k).toInt ∧ (k < b → (g (4 * k + c)).toInt * (qIn g b).toInt < (g (4 * b + c)).toInt * (qIn g k).toInt)
theorem l_best_one {g : Nat → Int32} {c b d : Nat} {P : Nat → Prop} (hb : lBest g c P b) (hd : lBest g c P d) : b = d := by
  obtain ⟨b1, b2, b3, b4⟩ := hb
  obtain ⟨d1, d2, d3, d4⟩ := hd
  have x1 := b4 d d1 d2 d3
  have x2 := d4 b b1 b2 b3
  rcases Nat.lt_trichotomy b d with q | q | q
  · have := x2.2 q
    omega
  · exact q
  · have := x1.2 q
    omega
theorem l_pu_is {g : Nat → Int32} {c : Nat} (hr : lRg g c) : ∀ i, i ≤ 12 → (lPu g c i = none ∧ ∀ k, 12 - i ≤ k → k < 12 → (g (4 * k + c)).toInt ≤ 0) ∨ ∃ b, lPu g c i = some b ∧ lBest g c (fun k => 12 - i ≤ k) b
  | 0, _ => Or.inl ⟨rfl, fun k h1 h2 => by omega⟩
  | i + 1, hi => by
    have z0 : (0 : Int32).toInt = 0 := by decide
    have hm : 11 - i < 12 := by omega
    obtain ⟨r1, r2, r3⟩ := hr (11 - i) hm
    by_cases p : 0 < g (4 * (11 - i) + c)
    · have p2 : 0 < (g (4 * (11 - i) + c)).toInt := by rw [Int32.lt_iff_toInt_lt, z0] at p; exact p
      rcases l_pu_is hr i (by omega) with ⟨h1, h2⟩ | ⟨b, h1, b1, b2, b3, b4⟩
      · refine Or.inr ⟨11 - i, l_pu_none h1 p, (by omega : 12 - (i + 1) ≤ 11 - i), hm, p2, fun k k1 k2 k3 => ?_⟩
        by_cases e : k = 11 - i
        · rw [e]
          exact ⟨Int.le_refl _, fun q => absurd q (Nat.lt_irrefl _)⟩
        · have k9 : 12 - (i + 1) ≤ k := k1
          have := h2 k (by omega) k2
          omega
      · obtain ⟨q1, q2, q3⟩ := hr b b2
        have m1 := pu_64 (x := g (4 * (11 - i) + c)) (y := qIn g b) ⟨r1, by omega⟩ ⟨by omega, q3⟩
        have m2 := pu_64 (x := g (4 * b + c)) (y := qIn g (11 - i)) ⟨q1, by omega⟩ ⟨by omega, r3⟩
        have b1' : 12 - i ≤ b := b1
        by_cases d : (g (4 * (11 - i) + c)).toInt64 * (qIn g b).toInt64 < (g (4 * b + c)).toInt64 * (qIn g (11 - i)).toInt64
        · have d2 : (g (4 * (11 - i) + c)).toInt * (qIn g b).toInt < (g (4 * b + c)).toInt * (qIn g (11 - i)).toInt := by
            rw [Int64.lt_iff_toInt_lt, m1, m2] at d
            exact d
          refine Or.inr ⟨b, l_pu_less h1 d, (by omega : 12 - (i + 1) ≤ b), b2, b3, fun k k1 k2 k3 => ?_⟩
          have k9 : 12 - (i + 1) ≤ k := k1
          by_cases e : k = 11 - i
          · rw [e]
            exact ⟨Int.le_of_lt d2, fun _ => d2⟩
          · exact b4 k (by omega : 12 - i ≤ k) k2 k3
        · have d2 : (g (4 * b + c)).toInt * (qIn g (11 - i)).toInt ≤ (g (4 * (11 - i) + c)).toInt * (qIn g b).toInt := by
            rw [Int64.lt_iff_toInt_lt, m1, m2] at d
            omega
          refine Or.inr ⟨11 - i, l_pu_more h1 p d, (by omega : 12 - (i + 1) ≤ 11 - i), hm, p2, fun k k1 k2 k3 => ?_⟩
          have k9 : 12 - (i + 1) ≤ k := k1
          by_cases e : k = 11 - i
          · rw [e]
            exact ⟨Int.le_refl _, fun q => absurd q (Nat.lt_irrefl _)⟩
          · obtain ⟨u1, u2, u3⟩ := hr k k2
            exact ⟨pu_le (b4 k (by omega : 12 - i ≤ k) k2 k3).1 d2 (by omega) (by omega) (by omega), fun q => by omega⟩
    · have p2 : (g (4 * (11 - i) + c)).toInt ≤ 0 := by
        rw [Int32.lt_iff_toInt_lt, z0] at p
        omega
      have hno : ∀ o, lPu g c i = o → lPu g c (i + 1) = o := fun o ho => l_pu_no ho (Int32.not_lt.mp p)
      rcases l_pu_is hr i (by omega) with ⟨h1, h2⟩ | ⟨b, h1, b1, b2, b3, b4⟩
      · refine Or.inl ⟨hno _ h1, fun k k1 k2 => ?_⟩
        by_cases e : k = 11 - i
        · rw [e]; exact p2
        · exact h2 k (by omega) k2
      · have b1' : 12 - i ≤ b := b1
        refine Or.inr ⟨b, hno _ h1, (by omega : 12 - (i + 1) ≤ b), b2, b3, fun k k1 k2 k3 => ?_⟩
        have k9 : 12 - (i + 1) ≤ k := k1
        by_cases e : k = 11 - i
        · rw [e] at k3
          omega
        · exact b4 k (by omega : 12 - i ≤ k) k2 k3
theorem q_pu_is {g : Nat → Int32} {c : Nat} (hr : lRg g c) : ∀ n, n ≤ 12 → (qPu g c n = (-1, 0, 1) ∧ ∀ k, k < n → (g (4 * k + c)).toInt ≤ 0) ∨ ∃ b, qPu g c n = (nI b, g (4 * b + c), qIn g b) ∧ lBest g c (fun k => k < n) b
  | 0, _ => Or.inl ⟨rfl, fun k h => absurd h (Nat.not_lt_zero k)⟩
  | n + 1, hn => by
    have z0 : (0 : Int32).toInt = 0 := by decide
    have z1 : (1 : Int32).toInt = 1 := by decide
    obtain ⟨r1, r2, r3⟩ := hr n (by omega)
    rcases q_pu_is hr n (by omega) with ⟨h1, h2⟩ | ⟨b, h1, b1, b2, b3, b4⟩
    · have m1 : ((0 : Int32) * qIn g n).toInt = 0 := by
        rw [pu_32 (x := 0) ⟨by omega, by omega⟩ ⟨by omega, r3⟩, z0, Int.zero_mul]
      have m2 : (g (4 * n + c) * (1 : Int32)).toInt = (g (4 * n + c)).toInt := by
        rw [pu_32 (y := 1) ⟨r1, by omega⟩ ⟨by omega, by omega⟩, z1, Int.mul_one]
      by_cases d : (qPu g c n).2.1 * qIn g n < g (4 * n + c) * (qPu g c n).2.2
      · have d2 : 0 < (g (4 * n + c)).toInt := by
          rw [h1, Int32.lt_iff_toInt_lt] at d
          have d3 : ((0 : Int32) * qIn g n).toInt < (g (4 * n + c) * (1 : Int32)).toInt := d
          omega
        refine Or.inr ⟨n, if_pos d, Nat.lt_succ_self n, by omega, d2, fun k k1 k2 k3 => ?_⟩
        by_cases e : k = n
        · rw [e]
          exact ⟨Int.le_refl _, fun q => absurd q (Nat.lt_irrefl _)⟩
        · have k9 : k < n + 1 := k1
          have := h2 k (by omega)
          omega
      · refine Or.inl ⟨(if_neg d).trans h1, fun k k1 => ?_⟩
        rw [h1, Int32.lt_iff_toInt_lt] at d
        have d3 : ¬ ((0 : Int32) * qIn g n).toInt < (g (4 * n + c) * (1 : Int32)).toInt := d
        by_cases e : k = n
        · rw [e]; omega
        · exact h2 k (by omega)
    · obtain ⟨q1, q2, q3⟩ := hr b b2
      have b1' : b < n := b1
      have m1 : (g (4 * b + c) * qIn g n).toInt = (g (4 * b + c)).toInt * (qIn g n).toInt := pu_32 ⟨q1, by omega⟩ ⟨by omega, r3⟩
      have m2 : (g (4 * n + c) * qIn g b).toInt = (g (4 * n + c)).toInt * (qIn g b).toInt := pu_32 ⟨r1, by omega⟩ ⟨by omega, q3⟩
      by_cases d : (qPu g c n).2.1 * qIn g n < g (4 * n + c) * (qPu g c n).2.2
      · have d2 : (g (4 * b + c)).toInt * (qIn g n).toInt < (g (4 * n + c)).toInt * (qIn g b).toInt := by
          rw [h1, Int32.lt_iff_toInt_lt] at d
          have d3 : (g (4 * b + c) * qIn g n).toInt < (g (4 * n + c) * qIn g b).toInt := d
          omega
        have d4 : 0 ≤ (g (4 * b + c)).toInt * (qIn g n).toInt := Int.mul_nonneg q1 (by omega)
        have d5 : 0 < (g (4 * n + c)).toInt := by
          rcases Int.lt_or_le 0 (g (4 * n + c)).toInt with q | q
          · exact q
          · have e0 : (g (4 * n + c)).toInt = 0 := by omega
            rw [e0, Int.zero_mul] at d2
            omega
        refine Or.inr ⟨n, if_pos d, Nat.lt_succ_self n, by omega, d5, fun k k1 k2 k3 => ?_⟩
        by_cases e : k = n
        · rw [e]
          exact ⟨Int.le_refl _, fun q => absurd q (Nat.lt_irrefl _)⟩
        · have k9 : k < n + 1 := k1
          obtain ⟨u1, u2, u3⟩ := hr k k2
          have x := pu_lt (b4 k (by omega : k < n) k2 k3).1 d2 (by omega) (by omega) (by omega)
          exact ⟨Int.le_of_lt x, fun _ => x⟩
      · have d2 : ¬ (g (4 * b + c)).toInt * (qIn g n).toInt < (g (4 * n + c)).toInt * (qIn g b).toInt := by
          rw [h1, Int32.lt_iff_toInt_lt] at d
          have d3 : ¬ (g (4 * b + c) * qIn g n).toInt < (g (4 * n + c) * qIn g b).toInt := d
          omega
        refine Or.inr ⟨b, (if_neg d).trans h1, (by omega : b < n + 1), b2, b3, fun k k1 k2 k3 => ?_⟩
        have k9 : k < n + 1 := k1
        by_cases e : k = n
        · rw [e]
          exact ⟨by omega, fun q => by omega⟩
        · exact b4 k (by omega : k < n) k2 k3
theorem l_purest {z : Nat → Int32} {j c : Nat} {o : Option Nat} (hG : mGood z) (hj : j < 3) (hc : c < 4) (ho : lPu (qV z j) c 12 = o) : (qPu (qV z j) c 12).1 = zOI o := by
  have hr := l_rg hG hj hc
  rw [← ho]
  rcases l_pu_is hr 12 (Nat.le_refl 12) with ⟨h1, h2⟩ | ⟨b, h1, hb⟩
  · rcases q_pu_is hr 12 (Nat.le_refl 12) with ⟨k1, k2⟩ | ⟨d, k1, d1, d2, d3, d4⟩
    · rw [h1, k1]; rfl
    · have := h2 d (by omega) d2
      omega
  · rcases q_pu_is hr 12 (Nat.le_refl 12) with ⟨k1, k2⟩ | ⟨d, k1, d1, d2, d3, d4⟩
    · have := k2 b hb.2.1
      have := hb.2.2.1
      omega
    · have e : b = d := l_best_one (P := fun k => k < 12) ⟨hb.2.1, hb.2.1, hb.2.2.1, fun k q1 q2 q3 => hb.2.2.2 k (by omega : 12 - 12 ≤ k) q2 q3⟩ ⟨d1, d2, d3, d4⟩
      rw [h1, k1, e]
      rfl
/-! the depth of all grains, as a long -/
def lDp (g : Nat → Int32) : Nat → Int64
  | 0 => 0
  | k + 1 => lDp g k + (nI k).toInt64 * (qIn g k).toInt64
theorem l_dep64 {z : Nat → Int32} {j : Nat} (hG : mGood z) (hj : j < 3) : lDp (qV z j) 12 = (qDep (qV z j)).toInt64 := by
  have a2 : jS z j ≤ 5000 := hG.2.1 j hj
  have b1 : ∀ s, s < 12 → 0 ≤ (qIn (qV z j) s).toInt ∧ (qIn (qV z j) s).toInt ≤ 5000 := fun s hs => (g_in hG hj hs).2
  have c1 : ∀ s, s < 12 → (nI s * qIn (qV z j) s).toInt = (s : Int) * (qIn (qV z j) s).toInt ∧ ((nI s).toInt64 * (qIn (qV z j) s).toInt64).toInt = (s : Int) * (qIn (qV z j) s).toInt ∧ 0 ≤ (s : Int) * (qIn (qV z j) s).toInt ∧ (s : Int) * (qIn (qV z j) s).toInt ≤ 55000 := by
    intro s hs
    have e1 : (nI s).toInt = (s : Int) := nI_toInt (by omega)
    have e2 := b1 s hs
    have e3 : 0 ≤ (s : Int) * (qIn (qV z j) s).toInt := Int.mul_nonneg (by omega) e2.1
    have e4 : (s : Int) * (qIn (qV z j) s).toInt ≤ 11 * (qIn (qV z j) s).toInt := Int.mul_le_mul_of_nonneg_right (by omega) e2.1
    have m1 := pu_32 (x := nI s) (y := qIn (qV z j) s) ⟨by omega, by omega⟩ e2
    have m2 := pu_64 (x := nI s) (y := qIn (qV z j) s) ⟨by omega, by omega⟩ e2
    rw [m1, m2, e1]
    exact ⟨rfl, rfl, e3, by omega⟩
  have key : ∀ n, n ≤ 12 → (lDp (qV z j) n).toInt = fb_si (fun s => (s : Int) * (qIn (qV z j) s).toInt) n ∧ (qS (fun s => nI s * qIn (qV z j) s) n).toInt = fb_si (fun s => (s : Int) * (qIn (qV z j) s).toInt) n ∧ 0 ≤ fb_si (fun s => (s : Int) * (qIn (qV z j) s).toInt) n ∧ fb_si (fun s => (s : Int) * (qIn (qV z j) s).toInt) n ≤ 55000 * n := by
    intro n
    induction n with
    | zero => exact fun _ => ⟨(by decide : (0 : Int64).toInt = 0), (by decide : (0 : Int32).toInt = 0), Int.le_refl 0, (by decide : (0 : Int) ≤ 55000 * ((0 : Nat) : Int))⟩
    | succ n ih =>
      intro hn
      obtain ⟨h1, h2, h3, h4⟩ := ih (by omega)
      obtain ⟨g1, g2, g3, g4⟩ := c1 n (by omega)
      refine ⟨?_, ?_, ?_, ?_⟩
      · show (lDp (qV z j) n + (nI n).toInt64 * (qIn (qV z j) n).toInt64).toInt = _
        rw [fb_addL (by omega) (by omega), h1, g2, fb_si_succ]
      · show (qS (fun s => nI s * qIn (qV z j) s) n + nI n * qIn (qV z j) n).toInt = _
        rw [fb_addI (by omega) (by omega), h2, g1, fb_si_succ]
      · rw [fb_si_succ]; omega
      · rw [fb_si_succ]; omega
  obtain ⟨h1, h2, -⟩ := key 12 (Nat.le_refl 12)
  apply Int64.toInt_inj.mp
  rw [Int32.toInt_toInt64, h1]
  exact h2.symm
theorem l_dep {z : Nat → Int32} {j : Nat} (hG : mGood z) (hj : j < 3) : FP.l2d (lDp (qV z j) 12) = FP.i2d (qDep (qV z j)) := by
  rw [l_dep64 hG hj]
  exact (Jvm.FP.Core.i2d_l2d (qDep (qV z j))).symm
theorem l_mean0 {g : Nat → Int32} (h : qAll g = 0) : Op.cmpValue (FP.dcmp (qMean g) FP.dconst0) CmpOp.l = 0 := by
  have e : qMean g = FP.dconst0 := if_pos h
  rw [e]
  exact fp_cmp0
theorem l_mean1 {g : Nat → Int32} (h : ¬ qAll g = 0) : Op.cmpValue (FP.dcmp (qMean g) (FP.ddiv (FP.i2d (qDep g)) (FP.i2d (qAll g)))) CmpOp.l = 0 := by
  have e : qMean g = FP.ddiv (FP.i2d (qDep g)) (FP.i2d (qAll g)) := if_neg h
  rw [← e]
  exact e_nz g
/-! at rest: just where a step lets nothing fall -/
theorem l_wr {z : Nat → Int32} {j s c : Nat} (hG : mGood z) (hj : j < 3) (hs : s < 11) (hc : c < 4) : ∃ w r : Nat, mWish z j s c (mFac z j s) = nI w ∧ mRoom z j (s + 1) = nI r ∧ w ≤ 5000 ∧ r ≤ 5000 ∧ (qV z j (4 * s + c) = 0 → w = 0) := by
  obtain ⟨f, hf, ef⟩ := g_mfac hG hj (show s < 12 by omega)
  have hp := g_pos hG hj (show s < 12 by omega) hc
  have h3 : (z (48 * j + (4 * s + c))).toInt ≤ fb_si (fun k => (z (48 * j + k)).toInt) 48 := g_part (f := fun k => (z (48 * j + k)).toInt) (fun k hk => hG.1 _ (by omega)) (by omega)
  have h2 := hG.2.1 j hj
  have hv := hG.2.2.2.2.2.2.1 c hc
  have hr := hG.2.2.2.2.2.1
  have hk := hG.2.2.2.1
  obtain ⟨-, h4, h5⟩ := g_in hG hj (show s + 1 < 12 by omega)
  obtain ⟨w, hw1, hw2, -⟩ := g_wish (n := (z (48 * j + (4 * s + c))).toInt.toNat) (v := (z (148 + c)).toInt.toNat) (r := (z 147).toInt.toNat) (f := f) (by omega) (by omega) hf (by omega)
  refine ⟨w, (z 145).toInt.toNat - (qIn (qV z j) (s + 1)).toInt.toNat, ?_, ?_, by omega, by omega, fun q => ?_⟩
  · rw [← hw2, ef]
    show qWish (z (148 + c)) (z 147) (z (48 * j + (4 * s + c))) (nI f) = _
    rw [← g_nI hp, ← g_nI (show 0 ≤ (z (148 + c)).toInt by omega), ← g_nI (show 0 ≤ (z 147).toInt by omega)]
  · rw [← g_roomM (p := (z 145).toInt.toNat) (a := (qIn (qV z j) (s + 1)).toInt.toNat) (by omega) (by omega)]
    show qRoomM (z 145) (qIn (qV z j) (s + 1)) = _
    rw [← g_nI (show 0 ≤ (z 145).toInt by omega), ← g_nI h4]
  · have q2 : (z (48 * j + (4 * s + c))).toInt = 0 := by
      have q3 : z (48 * j + (4 * s + c)) = 0 := q
      rw [q3]; rfl
    omega
/-- a class of a slice: nothing falls just where there is a reason -/
theorem l_why_drop {z : Nat → Int32} {j s c : Nat} (hG : mGood z) (hj : j < 3) (hs : s < 11) (hc : c < 4) : (0 < mWhy z j s c ↔ mDrop z j s c (mFac z j s) = nI 0) := by
  obtain ⟨w, r, e1, e2, hw, hr, h0⟩ := l_wr hG hj hs hc
  have ed : mDrop z j s c (mFac z j s) = nI (if w < r then w else r) := by
    unfold mDrop
    rw [e1, e2]
    by_cases q : w < r
    · rw [if_pos ((nI_ltI (by omega) (by omega)).mpr q), if_pos q]
    · rw [if_neg (fun x => q ((nI_ltI (by omega) (by omega)).mp x)), if_neg q]
  have ew : (nI w = 0) ↔ w = 0 := e_nI0 (by omega)
  have er : (nI r = 0) ↔ r = 0 := e_nI0 (by omega)
  rw [ed]
  have e0 : (nI (if w < r then w else r) = nI 0) ↔ (if w < r then w else r) = 0 := nI_eq (by split <;> omega) (by omega)
  rw [e0]
  unfold mWhy
  rw [if_neg (show ¬ s = 11 by omega), e2, e1]
  by_cases a : qV z j (4 * s + c) = 0
  · rw [if_pos a]
    have := h0 a
    exact ⟨fun _ => by split <;> omega, fun _ => by decide⟩
  · rw [if_neg a]
    by_cases b : nI r = 0
    · rw [if_pos b]
      have := er.mp b
      exact ⟨fun _ => by split <;> omega, fun _ => by decide⟩
    · rw [if_neg b]
      by_cases d : nI w = 0
      · rw [if_pos d]
        have := ew.mp d
        exact ⟨fun _ => by split <;> omega, fun _ => by decide⟩
      · rw [if_neg d]
        have b2 : ¬ r = 0 := fun q => b (er.mpr q)
        have d2 : ¬ w = 0 := fun q => d (ew.mpr q)
        exact ⟨fun q => absurd q (by decide), fun q => by split at q <;> omega⟩
theorem l_still_fa {z : Nat → Int32} {j s : Nat} (hG : mGood z) (hj : j < 3) (hs : s < 11) (h : ∀ c, c < 4 → 0 < mWhy z j s c) : ∀ c, c ≤ 4 → mFa z j s (mFac z j s) c = (z, 0)
  | 0, _ => rfl
  | c + 1, hc => by
    have ih := l_still_fa hG hj hs h c (by omega)
    have e := (l_why_drop hG hj hs (show c < 4 by omega)).mp (h c (by omega))
    have e1 : mFa z j s (mFac z j s) (c + 1) = mPut j s c (mFa z j s (mFac z j s) c) (mDrop (mFa z j s (mFac z j s) c).1 j s c (mFac z j s)) := rfl
    rw [e1, ih]
    show mPut j s c (z, 0) (mDrop z j s c (mFac z j s)) = (z, 0)
    rw [e]
    exact Prod.ext (m_put0 j s c (z, 0)) rfl
theorem l_still_st {z : Nat → Int32} {j : Nat} (hG : mGood z) (hj : j < 3) (h : ∀ s c, s < 11 → c < 4 → 0 < mWhy z j s c) : ∀ i, i ≤ 11 → mSt z j i = (z, 0)
  | 0, _ => rfl
  | i + 1, hi => by
    have ih := l_still_st hG hj h i (by omega)
    have e1 : mSt z j (i + 1) = ((mFall (mSt z j i).1 j (10 - i)).1, (mSt z j i).2 + (mFall (mSt z j i).1 j (10 - i)).2) := rfl
    have e2 : mFall z j (10 - i) = (z, 0) := l_still_fa hG hj (by omega) (fun c hc => h (10 - i) c (by omega) hc) 4 (Nat.le_refl 4)
    rw [e1, ih]
    show ((mFall z j (10 - i)).1, (0 : Int32) + (mFall z j (10 - i)).2) = (z, 0)
    rw [e2]
    rfl
/-- a fall of nothing: each class of the slice has its reason -/
theorem l_fa_zero {z : Nat → Int32} {j s : Nat} (hG : mGood z) (hj : j < 3) (hs : s < 11) (h : (mFall z j s).2 = 0) : ∀ c, c < 4 → 0 < mWhy z j s c := by
  obtain ⟨f, hf, ef⟩ := g_mfac hG hj (show s < 12 by omega)
  have key : ∀ c, c ≤ 4 → ∃ x : Nat, x ≤ 5000 * c ∧ (mFa z j s (mFac z j s) c).2 = nI x ∧ (x = 0 → mFa z j s (mFac z j s) c = (z, 0) ∧ ∀ d, d < c → 0 < mWhy z j s d) := by
    intro c
    induction c with
    | zero => exact fun _ => ⟨0, by omega, rfl, fun _ => ⟨rfl, fun d hd => absurd hd (Nat.not_lt_zero d)⟩⟩
    | succ c ih =>
      intro hc
      obtain ⟨x, h1, h2, h3⟩ := ih (by omega)
      have hGc := l_good_fa hG hj hs c (by omega)
      obtain ⟨d, d1, d2, d3⟩ := g_drop hGc hj hs (show c < 4 by omega) hf
      rw [← ef] at d3
      have e1 : mFa z j s (mFac z j s) (c + 1) = mPut j s c (mFa z j s (mFac z j s) c) (mDrop (mFa z j s (mFac z j s) c).1 j s c (mFac z j s)) := rfl
      refine ⟨x + d, by omega, ?_, fun q => ?_⟩
      · rw [e1, d3]
        show (mFa z j s (mFac z j s) c).2 + nI d = nI (x + d)
        rw [h2, nI_add]
      · obtain ⟨g1, g2⟩ := h3 (by omega)
        have d0 : d = 0 := by omega
        rw [d0] at d3
        rw [g1] at d3
        have w := (l_why_drop hG hj hs (show c < 4 by omega)).mpr d3
        refine ⟨?_, fun k hk => ?_⟩
        · rw [e1, g1]
          show mPut j s c (z, 0) (mDrop z j s c (mFac z j s)) = (z, 0)
          rw [show mDrop z j s c (mFac z j s) = nI 0 from d3]
          exact Prod.ext (m_put0 j s c (z, 0)) rfl
        · by_cases e : k = c
          · rw [e]; exact w
          · exact g2 k (by omega)
  obtain ⟨x, h1, h2, h3⟩ := key 4 (Nat.le_refl 4)
  have e : (mFa z j s (mFac z j s) 4).2 = 0 := h
  rw [h2] at e
  exact (h3 ((e_nI0 (by omega)).mp e)).2
theorem l_rest_iff {z : Nat → Int32} {j : Nat} (hG : mGood z) (hj : j < 3) : (qRest (qV z j) (cV z) (cW z) = true ↔ (mStep z j).2 = 0) := by
  rw [← e_atrest hG hj]
  have all : mRest z j 12 = true ↔ ∀ s c, s < 11 → c < 4 → 0 < mWhy z j s c := by
    constructor
    · intro h s c hs hc
      have h1 := q_allB_at (p := fun s => mStay z j s 4) (i := s) (n := 12) h (by omega)
      have h2 := q_allB_at (p := fun c => decide (0 < mWhy z j s c)) (i := c) (n := 4) h1 hc
      exact of_decide_eq_true h2
    · intro h
      have st : ∀ s, s < 12 → mStay z j s 4 = true := by
        intro s hs
        have one : ∀ c, c < 4 → decide (0 < mWhy z j s c) = true := by
          intro c hc
          by_cases e : s = 11
          · rw [e]
            exact decide_eq_true (show (0 : Int32) < mWhy z j 11 c by
              rw [show mWhy z j 11 c = 1 from if_pos rfl]; decide)
          · exact decide_eq_true (h s c (by omega) hc)
        show ((((true && decide (0 < mWhy z j s 0)) && decide (0 < mWhy z j s 1)) && decide (0 < mWhy z j s 2)) && decide (0 < mWhy z j s 3)) = true
        rw [one 0 (by omega), one 1 (by omega), one 2 (by omega), one 3 (by omega)]
        rfl
      have al : ∀ n, n ≤ 12 → qAllB (fun s => mStay z j s 4) n = true := by
        intro n
        induction n with
        | zero => exact fun _ => rfl
        | succ n ih =>
          intro hn
          show (qAllB (fun s => mStay z j s 4) n && mStay z j n 4) = true
          rw [ih (by omega), st n (by omega)]
          rfl
      exact al 12 (Nat.le_refl 12)
  rw [all]
  constructor
  · intro h
    show (mSt z j 11).2 = 0
    rw [l_still_st hG hj h 11 (Nat.le_refl 11)]
  · intro h s c hs hc
    have key : ∀ i, i ≤ 11 → ∃ x : Nat, x ≤ 5000 * i ∧ (mSt z j i).2 = nI x ∧ (x = 0 → (mSt z j i).1 = z ∧ ∀ t, 11 - i ≤ t → t < 11 → (mFall z j t).2 = 0) := by
      intro i
      induction i with
      | zero => exact fun _ => ⟨0, by omega, rfl, fun _ => ⟨rfl, fun t h1 h2 => by omega⟩⟩
      | succ i ih =>
        intro hi
        obtain ⟨x, h1, h2, h3⟩ := ih (by omega)
        have hGi := m_good_st hG hj (show i ≤ 11 by omega)
        obtain ⟨-, -, y, y1, y2, y3⟩ := e_fall hGi hj (show 10 - i < 11 by omega)
        refine ⟨x + y, by omega, ?_, fun q => ?_⟩
        · show (mSt z j i).2 + (mFall (mSt z j i).1 j (10 - i)).2 = nI (x + y)
          rw [h2, y2, nI_add]
        · obtain ⟨g1, g2⟩ := h3 (by omega)
          have y0 : y = 0 := by omega
          refine ⟨?_, fun t t1 t2 => ?_⟩
          · show (mFall (mSt z j i).1 j (10 - i)).1 = z
            rw [y3 y0, g1]
          · by_cases e : t = 10 - i
            · rw [e, ← g1, y2, y0]
              rfl
            · exact g2 t (by omega) t2
    obtain ⟨x, h1, h2, h3⟩ := key 11 (Nat.le_refl 11)
    have e : (mSt z j 11).2 = 0 := h
    rw [h2] at e
    exact l_fa_zero hG hj hs ((h3 ((e_nI0 (by omega)).mp e)).2 s (by omega) hs) c hc
theorem l_rest9 {z : Nat → Int32} {j : Nat} (hG : mGood z) (hj : j < 3) : qJar (qV z j) (cV z) (cW z) 9 = if (mStep z j).2 = 0 then 1 else 0 := by
  show (if qRest (qV z j) (cV z) (cW z) = true then (1 : Int32) else 0) = _
  by_cases h : (mStep z j).2 = 0
  · rw [if_pos h, if_pos ((l_rest_iff hG hj).mpr h)]
  · rw [if_neg h, if_neg (fun q => h ((l_rest_iff hG hj).mp q))]
