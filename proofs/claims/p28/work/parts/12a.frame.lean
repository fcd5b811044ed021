/-! a call that touches a part of the world -/
section ZA
theorem z_Pl {D : va_G} {cl : List vw_C} {F wr : va_W} {H : Heap} (h : va_P D cl (F ++ wr) H) : va_P D cl F H := fun k q hk => h k q (by rw [List.getElem?_append_left (List.getElem?_eq_some_iff.mp hk).1]; exact hk)
theorem z_Pr {D : va_G} {cl : List vw_C} {F wr : va_W} {H : Heap} (h : va_P D cl (F ++ wr) H) : va_P D cl wr H := fun k q hk => h (F.length + k) q (by rw [List.getElem?_append_right (Nat.le_add_right _ _), Nat.add_sub_cancel_left]; exact hk)
theorem z_Papp {D : va_G} {cl : List vw_C} {F wr : va_W} {H : Heap} (h1 : va_P D cl F H) (h2 : va_P D cl wr H) : va_P D cl (F ++ wr) H := by
  intro k q hk
  by_cases c : k < F.length
  · rw [List.getElem?_append_left c] at hk
    exact h1 k q hk
  · rw [List.getElem?_append_right (Nat.le_of_not_lt c)] at hk
    exact h2 _ q hk
theorem z_Dfst {A : Nat → Prop} {w w2 : va_W} (h : w2.map Prod.fst = w.map Prod.fst) (hD : va_D A w) : va_D A w2 := by
  have key : ∀ (k : Nat) (q : Nat × va_E), w2[k]? = some q → ∃ q0 : Nat × va_E, w[k]? = some q0 ∧ q0.1 = q.1 := by
    intro k q hk
    have h1 : (w2.map Prod.fst)[k]? = some q.1 := by rw [List.getElem?_map, hk]; rfl
    rw [h, List.getElem?_map] at h1
    cases hw : w[k]? with
    | none => rw [hw] at h1; cases h1
    | some q0 => rw [hw] at h1; exact ⟨q0, rfl, Option.some.inj h1⟩
  refine ⟨fun i j p q hi hj e => ?_, fun k q hk => ?_⟩
  · obtain ⟨p0, a1, a2⟩ := key i p hi
    obtain ⟨q0, b1, b2⟩ := key j q hj
    exact hD.1 i j p0 q0 a1 b1 (by rw [a2, b2]; exact e)
  · obtain ⟨q0, a1, a2⟩ := key k q hk
    rw [← a2]
    exact hD.2 k q0 a1
/-- where a cell of the new world comes from: the old one, or what the call left -/
def zPk (F w : va_W) : Nat ⊕ Nat → Option (Nat × va_E)
  | .inl k => F[k]?
  | .inr p => w[p]?
def zOkC : Nat → List (Nat ⊕ Nat) → List Nat → Bool
  | _, [], _ => true
  | k, .inl j :: cs, is => (j == k) && (!(is.contains k) && zOkC (k + 1) cs is)
  | k, .inr _ :: cs, is => zOkC (k + 1) cs is
def zC3 (j : Nat) (a b c : List (Nat ⊕ Nat)) : List (Nat ⊕ Nat) := match j with
  | 0 => a
  | 1 => b
  | _ => c
theorem z_okAt : ∀ (cs : List (Nat ⊕ Nat)) (is : List Nat) (k0 k j : Nat), zOkC k0 cs is = true → cs[k]? = some (.inl j) → j = k0 + k ∧ k0 + k ∉ is
  | [], _, _, _, _, _, h => by simp at h
  | .inl i :: cs, is, k0, 0, j, h, hk => by
    rw [zOkC, Bool.and_eq_true, Bool.and_eq_true] at h
    have e : i = j := Sum.inl.inj (Option.some.inj hk)
    have e2 : i = k0 := of_decide_eq_true h.1
    refine ⟨by omega, fun hm => ?_⟩
    have h3 := h.2.1
    have hm2 : k0 ∈ is := hm
    rw [List.contains_iff_mem.mpr hm2] at h3
    exact absurd h3 (by decide)
  | .inl i :: cs, is, k0, k + 1, j, h, hk => by
    rw [zOkC, Bool.and_eq_true, Bool.and_eq_true] at h
    have q := z_okAt cs is (k0 + 1) k j h.2.2 hk
    rw [show k0 + (k + 1) = k0 + 1 + k by omega]
    exact q
  | .inr i :: cs, is, k0, 0, j, h, hk => by cases hk
  | .inr i :: cs, is, k0, k + 1, j, h, hk => by
    have q := z_okAt cs is (k0 + 1) k j h hk
    rw [show k0 + (k + 1) = k0 + 1 + k by omega]
    exact q
theorem z_mapAt {F wc : va_W} {is : List Nat} (h : is.map (fun i => F[i]?) = wc.map some) {k : Nat} {q : Nat × va_E} (hk : wc[k]? = some q) : ∃ i : Nat, i ∈ is ∧ F[i]? = some q := by
  have h1 : (is.map (fun i => F[i]?))[k]? = some (some q) := by rw [h, List.getElem?_map, hk]; rfl
  rw [List.getElem?_map] at h1
  cases hi : is[k]? with
  | none => rw [hi] at h1; cases h1
  | some i => rw [hi] at h1; exact ⟨i, List.mem_of_getElem? hi, Option.some.inj h1⟩
/-- behind a call that changes what the cells at the places is hold -/
theorem z_upd {A : Nat → Prop} {D : va_G} {cl : List vw_C} {F F2 wr wc w1 : va_W} {H H1 : Heap} (hP : va_P D cl (F ++ wr) H) (hD : va_D A (F ++ wr)) (is : List Nat) (hC : is.map (fun i => F[i]?) = wc.map some) (cs : List (Nat ⊕ Nat)) (hcs : zOkC 0 cs is = true) (hF2 : cs.map (zPk F w1) = F2.map some) (hfst : F2.map Prod.fst = F.map Prod.fst)
    (hk : ∀ q : Nat, q < H.size → ¬ va_A wc H.size q → H1[q]? = H[q]?) (hP1 : va_P D cl w1 H1) : va_P D cl (F2 ++ wr) H1 ∧ va_D A (F2 ++ wr) := by
  have keep : ∀ (k : Nat) (q : Nat × va_E), (F ++ wr)[k]? = some q → k ∉ is → H1[q.1]? = H[q.1]? := by
    intro k q hq hn
    have hlt : q.1 < H.size := (hP k q hq).lt
    refine hk q.1 hlt (fun z => ?_)
    rcases z with ⟨k2, e, hw⟩ | z
    · obtain ⟨i, hi, hFi⟩ := z_mapAt hC hw
      have h2 : (F ++ wr)[i]? = some (q.1, e) := by rw [List.getElem?_append_left (List.getElem?_eq_some_iff.mp hFi).1]; exact hFi
      have h3 := hD.1 k i q (q.1, e) hq h2 rfl
      exact hn (by rw [h3]; exact hi)
    · exact absurd hlt (Nat.not_lt.mpr z)
  have hin : ∀ i ∈ is, i < F.length := by
    intro i hi
    obtain ⟨k, hk2⟩ := List.mem_iff_getElem?.mp hi
    have a : (is.map (fun i => F[i]?))[k]? = some (F[i]?) := by rw [List.getElem?_map, hk2]; rfl
    rw [hC, List.getElem?_map] at a
    cases hw : wc[k]? with
    | none => rw [hw] at a; cases a
    | some q => rw [hw] at a; exact (List.getElem?_eq_some_iff.mp (Option.some.inj a).symm).1
  refine ⟨z_Papp (fun k q hq => ?_) (fun k q hq => ?_), z_Dfst (by rw [List.map_append, List.map_append, hfst]) hD⟩
  · have a : (F2.map some)[k]? = some (some q) := by rw [List.getElem?_map, hq]; rfl
    rw [← hF2, List.getElem?_map] at a
    cases hc : cs[k]? with
    | none => rw [hc] at a; cases a
    | some c =>
      rw [hc] at a
      have a2 : zPk F w1 c = some q := Option.some.inj a
      cases c with
      | inl j =>
        obtain ⟨e1, e2⟩ := z_okAt cs is 0 k j hcs hc
        rw [Nat.zero_add] at e1 e2
        subst e1
        have h2 : (F ++ wr)[j]? = some q := by rw [List.getElem?_append_left (List.getElem?_eq_some_iff.mp a2).1]; exact a2
        exact (hP j q h2).kept (keep j q h2 e2)
      | inr p => exact hP1 p q a2
  · have h2 : (F ++ wr)[F.length + k]? = some q := by rw [List.getElem?_append_right (Nat.le_add_right _ _), Nat.add_sub_cancel_left]; exact hq
    exact (hP _ q h2).kept (keep _ q h2 (fun z => absurd (hin _ z) (by omega)))
end ZA
