/-! the digest -/
theorem mix_cong {f g : Nat → Int32} {h : Int64} : ∀ {n : Nat}, (∀ k, k < n → f k = g k) → qMix h f n = qMix h g n
  | 0, _ => rfl
  | n + 1, e => by
    show 31 * qMix h f n + (f n).toInt64 = 31 * qMix h g n + (g n).toInt64
    rw [mix_cong (fun k hk => e k (by omega)), e n (Nat.lt_succ_self n)]
theorem mix_split (h : Int64) (f : Nat → Int32) (m : Nat) : ∀ n, qMix h f (m + n) = qMix (qMix h f m) (fun i => f (m + i)) n
  | 0 => rfl
  | n + 1 => by
    show 31 * qMix h f (m + n) + (f (m + n)).toInt64 = 31 * qMix (qMix h f m) (fun i => f (m + i)) n + (f (m + n)).toInt64
    rw [mix_split h f m n]
theorem mixS_eq (h : Int64) (g v w : Nat → Int32) : ∀ s, qMix h (fun k => qSlice g v w (k / 10) (k % 10)) (10 * s) = qMixS h g v w s
  | 0 => rfl
  | s + 1 => by
    rw [show 10 * (s + 1) = 10 * s + 10 by omega, mix_split, mixS_eq h g v w s]
    show _ = qMix (qMixS h g v w s) (qSlice g v w s) 10
    refine mix_cong (fun k hk => ?_)
    show qSlice g v w ((10 * s + k) / 10) ((10 * s + k) % 10) = qSlice g v w s k
    rw [show (10 * s + k) / 10 = s by omega, show (10 * s + k) % 10 = k by omega]
theorem mixG_eq (h : Int64) (w ga gb gc pd dr : Nat → Int32) : ∀ c, qMix h (fun k => xGr w ga gb gc pd dr (k / 4) (k % 4)) (4 * c) = qMixG h w ga gb gc pd dr c
  | 0 => rfl
  | c + 1 => by
    rw [show 4 * (c + 1) = 4 * c + 4 by omega, mix_split, mixG_eq h w ga gb gc pd dr c]
    show _ = qMix (qMixG h w ga gb gc pd dr c) (xGr w ga gb gc pd dr c) 4
    refine mix_cong (fun k hk => ?_)
    show xGr w ga gb gc pd dr ((4 * c + k) / 4) ((4 * c + k) % 4) = xGr w ga gb gc pd dr c k
    rw [show (4 * c + k) / 4 = c by omega, show (4 * c + k) % 4 = k by omega]
theorem i_ite {a b : Nat} (x y : Int32) (h : b = a + 1) (n : Nat) : (if n ≤ a then x else y) = if n < b then x else y := by
  by_cases c : n ≤ a
  · rw [if_pos c, if_pos (by omega)]
  · rw [if_neg c, if_neg (by omega)]
theorem e_hj {z : Nat → Int32} {j : Nat} (hG : mGood z) (hj : j < 3) (hh : Int64) : mHj z j hh = qHj (cV z) (cW z) (qV z j) hh := by
  have e1 : qMix hh (mJar z j) 10 = qMix hh (qJar (qV z j) (cV z) (cW z)) 10 := mix_cong (fun k _ => e_jar hG hj k)
  have e2 : ∀ X, qMix X (fun k => mSlice z j (k / 10) (k % 10)) 120 = qMixS X (qV z j) (cV z) (cW z) 12 := fun X =>
    (mix_cong (fun k hk => e_slice hG hj (show k / 10 < 12 by omega) (k % 10))).trans (mixS_eq X (qV z j) (cV z) (cW z) 12)
  have e3 : ∀ X, qMix X (fun c => zOI (mPu z j c 12)) 4 = qMix X (fun c => (qPu (qV z j) c 12).1) 4 := fun X => mix_cong (fun c hc => e_purest hG hj hc)
  have e4 : (if mCn j 3 301 0 z ≤ 300 then nI (mCn j 3 301 0 z) else -1 : Int32) = (qCi (cV z) (cW z) 3 301 0 (qV z j)).1 := by
    rw [e_ci hj 301 0 z hG]
    exact i_ite _ _ (by omega) _
  have e5 : (if mRn j 601 0 z ≤ 600 then nI (mRn j 601 0 z) else -1 : Int32) = (qRi (cV z) (cW z) 601 0 (qV z j)).1 := by
    rw [e_ri hj 601 0 z hG]
    exact i_ite _ _ (by omega) _
  unfold mHj qHj
  rw [e1, e2, e3, e4, e5]
  rfl
theorem e_digest {z tx : Nat → Int32} {sv ln : Nat} (hG : mGood z) : qMix (31 * mHj z 2 (mHj z 1 (mHj z 0 (qMix (qMix (qMix 2207 (mCnt z sv) 6) (fun k => z (144 + k)) 4) (fun k => mGr z (k / 4) (k % 4)) 16))) + (nI ln).toInt64) tx ln = qMix (31 * qHj (cV z) (cW z) (qV z 2) (qHj (cV z) (cW z) (qV z 1) (qHj (cV z) (cW z) (qV z 0) (qMixG (qMix (qMix 2207 (xCnt (cV z) (qV z 0) (qV z 1) (qV z 2) (z 160) (z 161) sv) 6) (cV z) 4) (cW z) (qV z 0) (qV z 1) (qV z 2) (cP z) (cR z) 4))) + (nI ln).toInt64) tx ln := by
  have e1 : qMix 2207 (mCnt z sv) 6 = qMix 2207 (xCnt (cV z) (qV z 0) (qV z 1) (qV z 2) (z 160) (z 161) sv) 6 := mix_cong (fun k _ => e_cnt z sv k)
  have e2 : ∀ X, qMix X (fun k => mGr z (k / 4) (k % 4)) 16 = qMixG X (cW z) (qV z 0) (qV z 1) (qV z 2) (cP z) (cR z) 4 := fun X =>
    (mix_cong (fun k _ => e_gr z (k / 4) (k % 4))).trans (mixG_eq X (cW z) (qV z 0) (qV z 1) (qV z 2) (cP z) (cR z) 4)
  rw [e_hj hG (show 2 < 3 by omega), e_hj hG (show 1 < 3 by omega), e_hj hG (show 0 < 3 by omega), e1, e2]
  rfl
