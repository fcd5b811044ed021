/-! the text: each sign leads the class's place and the reference's step alike -/
theorem t_dig {x : Int32} (h : 48 ≤ x ∧ x ≤ 57) : ∃ v, x = nI (48 + v) ∧ v ≤ 9 := by
  have h1 := Int32.le_iff_toInt_le.mp h.1
  have h2 := Int32.le_iff_toInt_le.mp h.2
  have e1 : (48 : Int32).toInt = 48 := by decide
  have e2 : (57 : Int32).toInt = 57 := by decide
  refine ⟨(x.toInt - 48).toNat, ?_, by omega⟩
  apply Int32.toInt_inj.mp
  rw [nI_toInt (by omega)]
  omega
theorem t_digI {v : Nat} (h : v ≤ 9) : 48 ≤ nI (48 + v) ∧ nI (48 + v) ≤ 57 := ⟨nI_le (a := 48) (by omega) (by omega), nI_le (b := 57) (by omega) (by omega)⟩
theorem t_nx (u v : Nat) : (10 : Int32) * nI u + nI (48 + v) - 48 = nI (10 * u + v) := by
  rw [show (10 : Int32) = nI 10 from rfl, pk_mul, nI_add, show (48 : Int32) = nI 48 from rfl, pk_sub (by omega)]
  exact congrArg nI (by omega)
theorem t_cx (u v : Nat) : nI u * 10 + (nI (48 + v) - 48) = nI (10 * u + v) := by
  rw [show (10 : Int32) = nI 10 from rfl, pk_mul, show (48 : Int32) = nI 48 from rfl, pk_sub (by omega), nI_add]
  exact congrArg nI (by omega)
theorem t_rg {w lo up : Nat} (hw : w < 2 ^ 31) (hlo : lo < 2 ^ 31) (hup : up < 2 ^ 31) : (nI lo ≤ nI w ∧ nI w ≤ nI up) ↔ (lo ≤ w ∧ w ≤ up) := by
  rw [nI_leI hlo hw, nI_leI hw hup]
/-- the number of the portion begun at a, read up to k -/
def tD (tx : Nat → Int32) (a k : Nat) (y : Int32) : Prop := ∀ b n, rNum tx b (n + (k - a)) a 0 = rNum tx b n k y
theorem tD_0 (tx : Nat → Int32) (a : Nat) : tD tx a a 0 := fun b n => by rw [Nat.sub_self, Nat.add_zero]
theorem tD_s {tx : Nat → Int32} {a k : Nat} {y : Int32} (h : tD tx a k y) (ha : a ≤ k) (hd : 48 ≤ tx k ∧ tx k ≤ 57) : tD tx a (k + 1) (y * 10 + (tx k - 48)) := fun b n => by
  have h1 := h b (n + 1)
  rw [show n + (k + 1 - a) = n + 1 + (k - a) by omega, h1]
  exact if_pos hd
theorem tD_e {tx : Nat → Int32} {a e : Nat} {y : Int32} (h : tD tx a e y) (ha : a ≤ e) (hd : ¬ (48 ≤ tx e ∧ tx e ≤ 57)) : ∀ K, e < K → rNum tx K (K - a) a 0 = (e, y) := fun K hK => by
  obtain ⟨r, hr⟩ : ∃ r, K - e = r + 1 := ⟨K - e - 1, by omega⟩
  have h1 := h K (r + 1)
  rw [show K - a = r + 1 + (e - a) by omega, h1]
  exact if_neg hd
/-- a portion read up to its class, at e -/
def tP (tx rd : Nat → Int32) (a e po : Nat) : Prop := a ≤ e ∧ (∀ K, e < K → rNum tx K (K - a) a 0 = (e, rd (3 * po))) ∧ rd (3 * po + 1) = tx e - 97 ∧ 97 ≤ tx e ∧ tx e ≤ 100 ∧ ∃ u, rd (3 * po) = nI u ∧ 1 ≤ u ∧ u ≤ 999
/-- at sign k: the class's place b, the reference's state q, the portion begun at a -/
def tSt (tx : Nat → Int32) (k : Nat) (q : mT) (a b : Nat) : Prop :=
  (b = 0 ∧ q.1 = 0 ∧ a = k ∧ q.2.2.2 (3 * q.2.1) = 0 ∧ q.2.2.2 (3 * q.2.1 + 2) = 0) ∨
  (q.1 = 1 ∧ a ≤ k ∧ tD tx a k (q.2.2.2 (3 * q.2.1)) ∧ q.2.2.2 (3 * q.2.1 + 2) = 0 ∧ ∃ u, q.2.2.2 (3 * q.2.1) = nI u ∧ ((b = 1 ∧ 1 ≤ u ∧ u ≤ 9) ∨ (b = 2 ∧ 10 ≤ u ∧ u ≤ 99) ∨ (b = 3 ∧ 100 ≤ u ∧ u ≤ 999))) ∨
  (b = 4 ∧ q.1 = 2 ∧ ∃ e, k = e + 1 ∧ tP tx q.2.2.2 a e q.2.1 ∧ q.2.2.2 (3 * q.2.1 + 2) = 0) ∨
  (b = 5 ∧ q.1 = 3 ∧ ∃ e, k = e + 2 ∧ tP tx q.2.2.2 a e q.2.1 ∧ q.2.2.2 (3 * q.2.1 + 2) = 0) ∨
  (b = 6 ∧ q.1 = 4 ∧ ∃ e, k = e + 3 ∧ tP tx q.2.2.2 a e q.2.1 ∧ q.2.2.2 (3 * q.2.1 + 2) = 1 ∧ tx (e + 2) = 49) ∨
  (b = 7 ∧ q.1 = 4 ∧ ∃ e, e + 3 ≤ k ∧ tP tx q.2.2.2 a e q.2.1 ∧ rSum tx (e + 2) (k - (e + 2)) = q.2.2.2 (3 * q.2.1 + 2) ∧ ∃ s, q.2.2.2 (3 * q.2.1 + 2) = nI s ∧ s < 12 ∧ ¬ s = 1)
theorem t_num_yes {q : mT} {u v : Nat} (hu : q.2.2.2 (3 * q.2.1) = nI u) (hu5 : u ≤ 999) (hv : v ≤ 9) (h : 1 ≤ 10 * u + v ∧ 10 * u + v ≤ 999) : mNum q (nI (48 + v)) = (true, 1, q.2.1, q.2.2.1, upd q.2.2.2 (3 * q.2.1) (nI (10 * u + v))) := by
  have e : mNx q (nI (48 + v)) = nI (10 * u + v) := by unfold mNx; rw [hu, t_nx]
  unfold mNum
  rw [e]
  exact if_pos ⟨t_digI hv, (t_rg (lo := 1) (up := 999) (by omega) (by omega) (by omega)).mpr h⟩
theorem t_num_no {q : mT} {x : Int32} {u : Nat} (hu : q.2.2.2 (3 * q.2.1) = nI u) (hu5 : u ≤ 999) (h : ∀ v, v ≤ 9 → x = nI (48 + v) → ¬ (1 ≤ 10 * u + v ∧ 10 * u + v ≤ 999)) : mNum q x = (false, q) := by
  have e : mNum q x = (false, q.1, q.2.1, q.2.2.1, upd q.2.2.2 (3 * q.2.1) (q.2.2.2 (3 * q.2.1))) := by
    unfold mNum
    refine if_neg (fun w => ?_)
    obtain ⟨v, e1, hv⟩ := t_dig w.1
    have e2 : mNx q x = nI (10 * u + v) := by unfold mNx; rw [hu, e1, t_nx]
    rw [e2] at w
    exact h v hv e1 ((t_rg (lo := 1) (up := 999) (by omega) (by omega) (by omega)).mp w.2)
  rw [e, upd_self]
theorem t_sli_yes {q : mT} {u v : Nat} (hu : q.2.2.2 (3 * q.2.1 + 2) = nI u) (hv : v ≤ 9) (h : 10 * u + v < 12) (hq : q.1 = 3 ∨ u = 1) : mSli q (nI (48 + v)) = (true, 4, q.2.1, q.2.2.1, upd q.2.2.2 (3 * q.2.1 + 2) (nI (10 * u + v))) := by
  have e : mSx q (nI (48 + v)) = nI (10 * u + v) := by unfold mSx; rw [hu, t_nx]
  unfold mSli
  rw [e]
  exact if_pos ⟨t_digI hv, (nI_ltI (b := 12) (by omega) (by omega)).mpr h, hq.elim Or.inl (fun w => Or.inr (by rw [hu, w]; rfl))⟩
theorem t_sli_no {q : mT} {x : Int32} {u : Nat} (hu : q.2.2.2 (3 * q.2.1 + 2) = nI u) (hu5 : u < 12) (h : ∀ v, v ≤ 9 → x = nI (48 + v) → ¬ (10 * u + v < 12 ∧ (q.1 = 3 ∨ u = 1))) : mSli q x = (false, q) := by
  have e : mSli q x = (false, q.1, q.2.1, q.2.2.1, upd q.2.2.2 (3 * q.2.1 + 2) (q.2.2.2 (3 * q.2.1 + 2))) := by
    unfold mSli
    refine if_neg (fun w => ?_)
    obtain ⟨v, e1, hv⟩ := t_dig w.1
    have e2 : mSx q x = nI (10 * u + v) := by unfold mSx; rw [hu, e1, t_nx]
    rw [e2, hu] at w
    exact h v hv e1 ⟨(nI_ltI (b := 12) (by omega) (by omega)).mp w.2.1, w.2.2.imp id (fun a => (nI_eq (b := 1) (by omega) (by omega)).mp a)⟩
  rw [e, upd_self]
theorem t_not {x : Int32} {n : Nat} (h : x = nI n) (hn : n < 2 ^ 31) (ho : n < 48 ∨ 57 < n) : ¬ (48 ≤ x ∧ x ≤ 57) := fun w => by
  obtain ⟨v, e1, hv⟩ := t_dig w
  have e2 := (nI_eq hn (by omega)).mp (h.symm.trans e1)
  omega
theorem t_let {x : Int32} (h : 97 ≤ x ∧ x ≤ 100) : ∃ v, x = nI (97 + v) ∧ v ≤ 3 := by
  have h1 := Int32.le_iff_toInt_le.mp h.1
  have h2 := Int32.le_iff_toInt_le.mp h.2
  have e1 : (97 : Int32).toInt = 97 := by decide
  have e2 : (100 : Int32).toInt = 100 := by decide
  refine ⟨(x.toInt - 97).toNat, ?_, by omega⟩
  apply Int32.toInt_inj.mp
  rw [nI_toInt (by omega)]
  omega
theorem t_pn (x : Int32) : qPn x = if 97 ≤ x ∧ x ≤ 100 then some 4 else none := by
  unfold qPn
  have e : (97 ≤ x ∧ x < 101) ↔ (97 ≤ x ∧ x ≤ 100) := by
    have a1 : (101 : Int32).toInt = 101 := by decide
    have a2 : (100 : Int32).toInt = 100 := by decide
    have e2 : x < 101 ↔ x ≤ 100 := by
      rw [Int32.lt_iff_toInt_lt, Int32.le_iff_toInt_le, a1, a2]
      omega
    rw [e2]
  by_cases h : 97 ≤ x ∧ x ≤ 100
  · rw [if_pos h, if_pos (e.mpr h)]
  · rw [if_neg h, if_neg (fun q => h (e.mp q))]
/-- nothing of the portions before is changed -/
def tKeep (q r : mT) : Prop := r.2.1 = q.2.1 ∧ r.2.2.1 = q.2.2.1 ∧ ∀ i, i < 3 * q.2.1 → r.2.2.2 i = q.2.2.2 i
/-- the letter behind a number -/
theorem t_letter {tx : Nat → Int32} {k a : Nat} {q : mT} (ha : a ≤ k) (hD : tD tx a k (q.2.2.2 (3 * q.2.1))) (h2 : q.2.2.2 (3 * q.2.1 + 2) = 0) {u : Nat} (hu : q.2.2.2 (3 * q.2.1) = nI u) (hu1 : 1 ≤ u) (hu5 : u ≤ 999) : (qPn (tx k) = none ∧ (mLet q (tx k)).1 = false) ∨ (qPn (tx k) = some 4 ∧ (mLet q (tx k)).1 = true ∧ tSt tx (k + 1) (mLet q (tx k)).2 a 4 ∧ tKeep q (mLet q (tx k)).2 ∧ ¬ tx k = 43) := by
  rw [t_pn]
  by_cases h : 97 ≤ tx k ∧ tx k ≤ 100
  · obtain ⟨v, e1, hv⟩ := t_let h
    have e : mLet q (tx k) = (true, 2, q.2.1, q.2.2.1, upd q.2.2.2 (3 * q.2.1 + 1) (tx k - 97)) := if_pos h
    rw [if_pos h, e]
    have hn : ¬ (48 ≤ tx k ∧ tx k ≤ 57) := t_not e1 (by omega) (by omega)
    have x0 : (upd q.2.2.2 (3 * q.2.1 + 1) (tx k - 97)) (3 * q.2.1) = q.2.2.2 (3 * q.2.1) := if_neg (by omega)
    have x1 : (upd q.2.2.2 (3 * q.2.1 + 1) (tx k - 97)) (3 * q.2.1 + 1) = tx k - 97 := if_pos rfl
    have x2 : (upd q.2.2.2 (3 * q.2.1 + 1) (tx k - 97)) (3 * q.2.1 + 2) = q.2.2.2 (3 * q.2.1 + 2) := if_neg (by omega)
    refine Or.inr ⟨rfl, rfl, Or.inr (Or.inr (Or.inl ⟨rfl, rfl, k, rfl, ⟨ha, ?_, x1, h.1, h.2, u, ?_, hu1, hu5⟩, ?_⟩)), ⟨rfl, rfl, fun i hi => if_neg (by omega)⟩, fun w => ?_⟩
    · show ∀ K, k < K → rNum tx K (K - a) a 0 = (k, (upd q.2.2.2 (3 * q.2.1 + 1) (tx k - 97)) (3 * q.2.1))
      rw [x0]
      exact tD_e hD ha hn
    · exact x0.trans hu
    · exact x2.trans h2
    · have e2 := (nI_eq (a := 97 + v) (b := 43) (by omega) (by omega)).mp (e1.symm.trans w)
      omega
  · rw [if_neg h]
    have e : mLet q (tx k) = (false, q.1, q.2.1, q.2.2.1, upd q.2.2.2 (3 * q.2.1 + 1) (tx k - 97)) := if_neg h
    rw [e]
    exact Or.inl ⟨rfl, rfl⟩
