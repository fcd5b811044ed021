/-! the law: one world over class and reference, calls that touch a part of it -/
section ZA
theorem z_Pl {D : va_G} {cl : List vw_C} {F wr : va_W} {H : Heap} (h : va_P D cl (F ++ wr) H) : va_P D cl F H := fun k q hk => h k q (by rw [List.getElem?_append_left (List.getElem?_eq_some_iff.mp hk).1]; exact hk)
theorem z_Pr {D : va_G} {cl : List vw_C} {F wr : va_W} {H : Heap} (h : va_P D cl (F ++ wr) H) : va_P D cl wr H := fun k q hk => h (F.length + k) q (by rw [List.getElem?_append_right (Nat.le_add_right _ _), Nat.add_sub_cancel_left]; exact hk)
theorem z_Papp {D : va_G} {cl : List vw_C} {F wr : va_W} {H : Heap} (h1 : va_P D cl F H) (h2 : va_P D cl wr H) : va_P D cl (F ++ wr) H := by
  intro k q hk
  by_cases c : k < F.length
  · rw [List.getElem?_append_left c] at hk
    exact h1 k q hk
  · rw [List.getElem?_append_right (Nat.le_of_not_lt c)] at hk
    exact h2 _ q hk
theorem z_Dfst {A : Nat → Prop} {w w2 : va_W} (h : w2.map Prod.fst = w.map Prod.fst) (hD : va_D A w) : va_D A w2 := by
  have key : ∀ (k : Nat) (q : Nat × va_E), w2[k]? = some q → ∃ q0 : Nat × va_E, w[k]? = some q0 ∧ q0.1 = q.1 := by
    intro k q hk
    have h1 : (w2.map Prod.fst)[k]? = some q.1 := by rw [List.getElem?_map, hk]; rfl
    rw [h, List.getElem?_map] at h1
    cases hw : w[k]? with
    | none => rw [hw] at h1; cases h1
    | some q0 => rw [hw] at h1; exact ⟨q0, rfl, Option.some.inj h1⟩
  refine ⟨fun i j p q hi hj e => ?_, fun k q hk => ?_⟩
  · obtain ⟨p0, a1, a2⟩ := key i p hi
    obtain ⟨q0, b1, b2⟩ := key j q hj
    exact hD.1 i j p0 q0 a1 b1 (by rw [a2, b2]; exact e)
  · obtain ⟨q0, a1, a2⟩ := key k q hk
    rw [← a2]
    exact hD.2 k q0 a1
/-- where a cell of the new world comes from: the old one, or what the call left -/
def zPk (F w : va_W) : Nat ⊕ Nat → Option (Nat × va_E)
  | .inl k => F[k]?
  | .inr p => w[p]?
def zOkC : Nat → List (Nat ⊕ Nat) → List Nat → Bool
  | _, [], _ => true
  | k, .inl j :: cs, is => (j == k) && (!(is.contains k) && zOkC (k + 1) cs is)
  | k, .inr _ :: cs, is => zOkC (k + 1) cs is
def zC3 (j : Nat) (a b c : List (Nat ⊕ Nat)) : List (Nat ⊕ Nat) := match j with
  | 0 => a
  | 1 => b
  | _ => c
theorem z_okAt : ∀ (cs : List (Nat ⊕ Nat)) (is : List Nat) (k0 k j : Nat), zOkC k0 cs is = true → cs[k]? = some (.inl j) → j = k0 + k ∧ k0 + k ∉ is
  | [], _, _, _, _, _, h => by simp at h
  | .inl i :: cs, is, k0, 0, j, h, hk => by
    rw [zOkC, Bool.and_eq_true, Bool.and_eq_true] at h
    have e : i = j := Sum.inl.inj (Option.some.inj hk)
    have e2 : i = k0 := of_decide_eq_true h.1
    refine ⟨by omega, fun hm => ?_⟩
    have h3 := h.2.1
    have hm2 : k0 ∈ is := hm
    rw [List.contains_iff_mem.mpr hm2] at h3
    exact absurd h3 (by decide)
  | .inl i :: cs, is, k0, k + 1, j, h, hk => by
    rw [zOkC, Bool.and_eq_true, Bool.and_eq_true] at h
    have q := z_okAt cs is (k0 + 1) k j h.2.2 hk
    rw [show k0 + (k + 1) = k0 + 1 + k by omega]
    exact q
  | .inr i :: cs, is, k0, 0, j, h, hk => by cases hk
  | .inr i :: cs, is, k0, k + 1, j, h, hk => by
    have q := z_okAt cs is (k0 + 1) k j h hk
    rw [show k0 + (k + 1) = k0 + 1 + k by omega]
    exact q
theorem z_mapAt {F wc : va_W} {is : List Nat} (h : is.map (fun i => F[i]?) = wc.map some) {k : Nat} {q : Nat × va_E} (hk : wc[k]? = some q) : ∃ i : Nat, i ∈ is ∧ F[i]? = some q := by
  have h1 : (is.map (fun i => F[i]?))[k]? = some (some q) := by rw [h, List.getElem?_map, hk]; rfl
  rw [List.getElem?_map] at h1
  cases hi : is[k]? with
  | none => rw [hi] at h1; cases h1
  | some i => rw [hi] at h1; exact ⟨i, List.mem_of_getElem? hi, Option.some.inj h1⟩
/-- behind a call that changes what the cells at the places is hold -/
theorem z_upd {A : Nat → Prop} {D : va_G} {cl : List vw_C} {F F2 wr wc w1 : va_W} {H H1 : Heap} (hP : va_P D cl (F ++ wr) H) (hD : va_D A (F ++ wr)) (is : List Nat) (hC : is.map (fun i => F[i]?) = wc.map some) (cs : List (Nat ⊕ Nat)) (hcs : zOkC 0 cs is = true) (hF2 : cs.map (zPk F w1) = F2.map some) (hfst : F2.map Prod.fst = F.map Prod.fst)
    (hk : ∀ q : Nat, q < H.size → ¬ va_A wc H.size q → H1[q]? = H[q]?) (hP1 : va_P D cl w1 H1) : va_P D cl (F2 ++ wr) H1 ∧ va_D A (F2 ++ wr) := by
  have keep : ∀ (k : Nat) (q : Nat × va_E), (F ++ wr)[k]? = some q → k ∉ is → H1[q.1]? = H[q.1]? := by
    intro k q hq hn
    have hlt : q.1 < H.size := (hP k q hq).lt
    refine hk q.1 hlt (fun z => ?_)
    rcases z with ⟨k2, e, hw⟩ | z
    · obtain ⟨i, hi, hFi⟩ := z_mapAt hC hw
      have h2 : (F ++ wr)[i]? = some (q.1, e) := by rw [List.getElem?_append_left (List.getElem?_eq_some_iff.mp hFi).1]; exact hFi
      have h3 := hD.1 k i q (q.1, e) hq h2 rfl
      exact hn (by rw [h3]; exact hi)
    · exact absurd hlt (Nat.not_lt.mpr z)
  have hin : ∀ i ∈ is, i < F.length := by
    intro i hi
    obtain ⟨k, hk2⟩ := List.mem_iff_getElem?.mp hi
    have a : (is.map (fun i => F[i]?))[k]? = some (F[i]?) := by rw [List.getElem?_map, hk2]; rfl
    rw [hC, List.getElem?_map] at a
    cases hw : wc[k]? with
    | none => rw [hw] at a; cases a
    | some q => rw [hw] at a; exact (List.getElem?_eq_some_iff.mp (Option.some.inj a).symm).1
  refine ⟨z_Papp (fun k q hq => ?_) (fun k q hq => ?_), z_Dfst (by rw [List.map_append, List.map_append, hfst]) hD⟩
  · have a : (F2.map some)[k]? = some (some q) := by rw [List.getElem?_map, hq]; rfl
    rw [← hF2, List.getElem?_map] at a
    cases hc : cs[k]? with
    | none => rw [hc] at a; cases a
    | some c =>
      rw [hc] at a
      have a2 : zPk F w1 c = some q := Option.some.inj a
      cases c with
      | inl j =>
        obtain ⟨e1, e2⟩ := z_okAt cs is 0 k j hcs hc
        rw [Nat.zero_add] at e1 e2
        subst e1
        have h2 : (F ++ wr)[j]? = some q := by rw [List.getElem?_append_left (List.getElem?_eq_some_iff.mp a2).1]; exact a2
        exact (hP j q h2).kept (keep j q h2 e2)
      | inr p => exact hP1 p q a2
  · have h2 : (F ++ wr)[F.length + k]? = some q := by rw [List.getElem?_append_right (Nat.le_add_right _ _), Nat.add_sub_cancel_left]; exact hq
    exact (hP _ q h2).kept (keep _ q h2 (fun z => absurd (hin _ z) (by omega)))
end ZA
/-- all texts that the class throws with, by their places in its pool; the exceptions -/
def lTx : List (Nat × String) := [(102, "a jar is not poured into itself"), (126, "no more steps are left"), (140, "the buffer is full"), (159, "the buffer is not a complete charge"), (175, "there is no saved state"), (255, "there is no such jar, slice, class or setting"), (258, "an argument is out of range"), (260, "the jar would hold too many grains")]
def lEx : List String := ["java/lang/IndexOutOfBoundsException", "java/lang/IllegalArgumentException", "java/lang/IllegalStateException"]
/-- what stands through the law's run -/
def lCx (p : Program) (l : Launch) (s : State) (m : MethodId) (args : Array Value) (c : Code) (b L : Nat) (xs : Nat → Int32) (D : va_G) (ac : Nat → ClassId) (A : Nat → Prop) (tl tg : Nat) : Prop :=
  (p.tables.exec = Jvm.exec ∧ c.code = code ∧ c.maxLocals = 9 ∧ s.vm.findClass RL = some m.cls ∧ ∀ w ∈ wsL_law, w.before args s = true) ∧ va_K D vwCl (zTy ac) s ∧ (∀ q : Nat, s.heap.size ≤ q → A q) ∧ (va_X b L xs s s.heap ∧ b < s.heap.size ∧ ¬ A b ∧ L ≤ 2560) ∧ l.stackTraces = false ∧ zZq A s s.heap ∧ (∀ E0 ∈ lEx, zBd E0 s) ∧ zNc s ∧ zSt tl tg A s s.heap ∧ ∀ q ∈ lTx, ∃ sa : Nat, vk_R RX5 q.1 q.2 sa s
section ZB
variable {p : Program} {l : Launch} {e : Env} {s : State} {m : MethodId} {args : Array Value} {below : List Frame} {meth : Method} {c : Code} {H : Heap} {locs : List Loc} {cells slots : Nat} {Q : State → Prop}
variable {pc : Nat} {ls : Array Slot} {rest st0 : List Value} {D : va_G} {ac : Nat → ClassId} {A : Nat → Prop} {b L tl tg : Nat} {xs : Nat → Int32}
variable {F F2 wr wc w1 : va_W}
/-- an argument out of the script -/
theorem lg_arg (C : lCx p l s m args c b L xs D ac A tl tg) (hS : va_S A s.heap H locs) {i : Nat} (j : Nat) (hi : i + 5 ≤ L) (hj : j < 5) (h0 : ls[0]? = some (.val (.ref b))) (h5 : ls[5]? = some (.val (.int (nI i)))) {v : Int32} (hv : xs (i + j) = v) {kI : Int} (hkI : Int32.ofInt kI = nI j)
    (d1 : decode code pc = .ok (.aload_n 0, 1)) (d2 : decode code (pc + 1) = .ok (.iload 5, 2)) (d3 : decode code (pc + 3) = .ok (.iconst kI, 1)) (d4 : decode code (pc + 4) = .ok (.iadd, 1)) (d5 : decode code (pc + 5) = .ok (.iaload, 1))
    (kk : W p l e room_1 s m args below meth c H locs cells slots Q (F0 m (pc + 6) ls (.int v :: rest))) : W p l e room_1 s m args below meth c H locs cells slots Q (F0 m pc ls rest) := by
  obtain ⟨⟨hx, hb, hml, hown, hts⟩, hK, hA, ⟨hX, hbl, hbA, hL⟩, -⟩ := C
  subst hv
  refine lv_aload_n hx hb d1 rfl h0 ?_
  refine lv_iload hx hb d2 h5 ?_
  refine lv_iconst (v := nI j) hx hb d3 hkI ?_
  refine lv_iadd hx hb d4 ?_
  have e : nI i + nI j = nI (i + j) := nI_add i j
  rw [e]
  refine va_sld hx hb hX hbl hbA hS (vp_in_nI (by omega) (by omega)) d5 ?_
  rw [nI_clamp (by omega)]
  exact kk
theorem lg_arg0 (C : lCx p l s m args c b L xs D ac A tl tg) (hS : va_S A s.heap H locs) {i : Nat} (hi : i + 5 ≤ L) (h0 : ls[0]? = some (.val (.ref b))) (h5 : ls[5]? = some (.val (.int (nI i))))
    (d1 : decode code pc = .ok (.aload_n 0, 1)) (d2 : decode code (pc + 1) = .ok (.iload 5, 2)) (d3 : decode code (pc + 3) = .ok (.iaload, 1))
    (kk : W p l e room_1 s m args below meth c H locs cells slots Q (F0 m (pc + 4) ls (.int (xs i) :: rest))) : W p l e room_1 s m args below meth c H locs cells slots Q (F0 m pc ls rest) := by
  obtain ⟨⟨hx, hb, hml, hown, hts⟩, hK, hA, ⟨hX, hbl, hbA, hL⟩, -⟩ := C
  refine lv_aload_n hx hb d1 rfl h0 ?_
  refine lv_iload hx hb d2 h5 ?_
  refine va_sld hx hb hX hbl hbA hS (vp_in_nI (by omega) (by omega)) d3 ?_
  rw [nI_clamp (by omega)]
  exact kk
theorem pre_P (hP : va_P D vwCl (F ++ wr) H) (is : List Nat) (hC : is.map (fun i => F[i]?) = wc.map some) : va_P D vwCl wc H := fun k q hk => by
  obtain ⟨i, -, hi⟩ := z_mapAt hC hk
  exact z_Pl hP i q hi
theorem pre_F (hD : va_D A (F ++ wr)) (hS : va_S A s.heap H locs) (hA : ∀ q : Nat, s.heap.size ≤ q → A q) (is : List Nat) (hC : is.map (fun i => F[i]?) = wc.map some) : ∀ q, va_A wc H.size q → A q := by
  intro q h
  rcases h with ⟨k, e, h⟩ | h
  · obtain ⟨i, -, hi⟩ := z_mapAt hC h
    exact hD.2 i (q, e) (by rw [List.getElem?_append_left (List.getElem?_eq_some_iff.mp hi).1]; exact hi)
  · exact hA q (Nat.le_trans hS.1 h)
theorem pre_D (hD : va_D A (F ++ wr)) (is : List Nat) (hn : va_nd is = true) (hC : is.map (fun i => F[i]?) = wc.map some) : va_D A wc := by
  have h1 : va_D A F := ⟨fun i j p q hi hj e => hD.1 i j p q (by rw [List.getElem?_append_left (List.getElem?_eq_some_iff.mp hi).1]; exact hi) (by rw [List.getElem?_append_left (List.getElem?_eq_some_iff.mp hj).1]; exact hj) e, fun k q hk => hD.2 k q (by rw [List.getElem?_append_left (List.getElem?_eq_some_iff.mp hk).1]; exact hk)⟩
  exact h1.sub (ws' := wc) is hn hC
theorem pre_S (hK : va_K D vwCl (zTy ac) s) (hP : va_P D vwCl (F ++ wr) H) (hD : va_D A (F ++ wr)) (is : List Nat) (hC : is.map (fun i => F[i]?) = wc.map some) (hn : va_nd is = true) {av : List Value} : PreS s H (va_Pc av (zS D ac wc H.size)) av :=
  ⟨zS_blind, fun U hU hWm => ⟨rfl, by rw [hU], ⟨by rw [hU]; exact pre_P hP is hC, va_K.moved hWm.alike hK⟩, (pre_D hD is hn hC).weaken (fun _ _ _ _ => trivial)⟩⟩
theorem pre_SE {tl tg : Nat} (hE : zSt tl tg A s s.heap) (hS : va_S A s.heap H locs) (hA : ∀ q : Nat, s.heap.size ≤ q → A q) (hK : va_K D vwCl (zTy ac) s) (hP : va_P D vwCl (F ++ wr) H) (hD : va_D A (F ++ wr)) (is : List Nat) (hC : is.map (fun i => F[i]?) = wc.map some) (hn : va_nd is = true) {av : List Value} : PreS s H (va_Pc av (zSE D ac wc H.size tl tg)) av :=
  ⟨zSE_blind, fun U hU hWm => ⟨rfl, ((pre_S hK hP hD is hC hn (av := av)).2 U hU hWm).2, by rw [hU]; exact ((hE.kept hS.2.1).moved hWm.alike).narrow (pre_F hD hS hA is hC)⟩⟩
theorem zZq.at {B : Nat → Prop} {U : State} (hq : zZq A s s.heap) (hS : va_S A s.heap H locs) (hU : U.heap = H) (hvm : s.vm.Alike U.vm) (hB : ∀ q, B q → A q) : zZq B U U.heap :=
  ⟨by rw [hU]; exact ((hq.1.kept hS.2.1).moved hvm).narrow hB, by rw [hU]; exact ((hq.2.kept hS.2.1).moved hvm).narrow hB⟩
theorem zNc.moved {u U : State} (hvm : u.vm.Alike U.vm) (h : zNc u) : zNc U := ⟨h.1.moved hvm, h.2.1.moved hvm, h.2.2.moved hvm⟩
theorem zHS_blind {av : List Value} {w : va_W} {own tx E0 : String} {k sa sz : Nat} : FrameBlind (va_Pc av (zHS D ac w sz own k tx sa E0)) := fun a U g mk q =>
  ⟨q.1, (zS_blind (av := av) a U g mk ⟨q.1, q.2.1⟩).2, ⟨q.2.2.1.1.moved (u := U) (U := U.calling g mk a) (Vm.Alike.refl U.vm), q.2.2.1.2.moved (u := U) (U := U.calling g mk a) (Vm.Alike.refl U.vm)⟩, vk_R.same (u := U) (U := U.calling g mk a) rfl q.2.2.2.1, zBd.same (rfl : U.vm = (U.calling g mk a).vm) q.2.2.2.2.1, zNc.moved (u := U) (U := U.calling g mk a) (Vm.Alike.refl U.vm) q.2.2.2.2.2⟩
theorem zHE_blind {av : List Value} {w : va_W} {own tx E0 : String} {k sa sz tl tg : Nat} : FrameBlind (va_Pc av (zHE D ac w sz own k tx sa E0 tl tg)) := fun a U g mk q =>
  ⟨q.1, (zS_blind (av := av) a U g mk ⟨q.1, q.2.1⟩).2, ⟨q.2.2.1.1.moved (u := U) (U := U.calling g mk a) (Vm.Alike.refl U.vm), q.2.2.1.2.moved (u := U) (U := U.calling g mk a) (Vm.Alike.refl U.vm)⟩, vk_R.same (u := U) (U := U.calling g mk a) rfl q.2.2.2.1, zBd.same (rfl : U.vm = (U.calling g mk a).vm) q.2.2.2.2.1, zNc.moved (u := U) (U := U.calling g mk a) (Vm.Alike.refl U.vm) q.2.2.2.2.2.1, zSt.moved (u := U) (U := U.calling g mk a) (Vm.Alike.refl U.vm) q.2.2.2.2.2.2⟩
theorem pre_HS {tx E0 : String} {k sa : Nat} (C : lCx p l s m args c b L xs D ac A tl tg) (hR : vk_R RX5 k tx sa s) (hE0 : E0 ∈ lEx) (hS : va_S A s.heap H locs) (hP : va_P D vwCl (F ++ wr) H) (hD : va_D A (F ++ wr)) (is : List Nat) (hC : is.map (fun i => F[i]?) = wc.map some) (hn : va_nd is = true) {av : List Value} : PreS s H (va_Pc av (zHS D ac wc H.size RX5 k tx sa E0)) av := by
  obtain ⟨-, hK, hA, -, -, hq, hB, hN, -⟩ := C
  exact ⟨zHS_blind, fun U hU hWm => ⟨rfl, ((pre_S hK hP hD is hC hn (av := av)).2 U hU hWm).2, hq.at hS hU hWm.alike (pre_F hD hS hA is hC), vk_R.warm hWm hR, zBd.warm hWm (hB E0 hE0), hN.moved hWm.alike⟩⟩
theorem pre_HE {tx E0 : String} {k sa : Nat} (C : lCx p l s m args c b L xs D ac A tl tg) (hR : vk_R RX5 k tx sa s) (hE0 : E0 ∈ lEx) (hS : va_S A s.heap H locs) (hP : va_P D vwCl (F ++ wr) H) (hD : va_D A (F ++ wr)) (is : List Nat) (hC : is.map (fun i => F[i]?) = wc.map some) (hn : va_nd is = true) {av : List Value} : PreS s H (va_Pc av (zHE D ac wc H.size RX5 k tx sa E0 tl tg)) av := by
  have C0 := C
  obtain ⟨-, hK, hA, -, -, hq, hB, hN, hE, -⟩ := C
  exact ⟨zHE_blind, fun U hU hWm => ⟨rfl, ((pre_S hK hP hD is hC hn (av := av)).2 U hU hWm).2, hq.at hS hU hWm.alike (pre_F hD hS hA is hC), vk_R.warm hWm hR, zBd.warm hWm (hB E0 hE0), hN.moved hWm.alike, by rw [hU]; exact ((hE.kept hS.2.1).moved hWm.alike).narrow (pre_F hD hS hA is hC)⟩⟩
variable {y : MethodName} {bytes : ByteArray} {maxL index mc ms : Nat} {ret : Option FieldType} {hh : List (Nat × Nat × Nat × Nat)} {ws ws' : List Cond} {rm : Room} {As : List Value} {B : State → Prop} {X : Int32} {XL : Int64} {XD : UInt64}
/-- a helper's call -/
theorem lg_h (C : lCx p l s m args c b L xs D ac A tl tg) (hls : ls.size = 9) (hP : va_P D vwCl (F ++ wr) H) (hD : va_D A (F ++ wr)) (hS : va_S A s.heap H locs)
    (hM : Met l y ws rm (va_Pc As B) (zQi D ac wc w1 H.size X) mc ms (va_A wc H.size)) (is : List Nat) (hC : is.map (fun i => F[i]?) = wc.map some) (hp : PreS s H (va_Pc As B) As)
    (hG : GoodIn wsL_law (va_wsS RL index y ws)) (hw : ws = Cond.codeWith y bytes maxL ret hh :: ws') (n : Nat) (hd : y.cls ≠ "java/lang/invoke/MethodHandle" ∧ y.cls ≠ "java/lang/invoke/VarHandle" ∧ (parseMethodDescriptor y.desc).map (fun d => d.parameters.length) = some n) (hR : rm.cells = mc ∧ rm.slots = ms ∧ rm.frames + 1 ≤ room_1.frames ∧ 8 + (maxL + 11) + rm.locals ≤ room_1.locals)
    (hn : As.length = n) (hst : st0 = As.reverse ++ []) (hdg : decode code pc = .ok (.invokestatic index, 3)) (hf : cells + mc ≤ room_1.cells ∧ slots + ms ≤ room_1.slots) (cs : List (Nat ⊕ Nat)) (hcs : zOkC 0 cs is = true) (hF2 : cs.map (zPk F w1) = F2.map some) (hfst : F2.map Prod.fst = F.map Prod.fst)
    (kk : ∀ (H1 : Heap) (locs1 : List Loc), va_P D vwCl (F2 ++ wr) H1 → va_D A (F2 ++ wr) → va_S A s.heap H1 locs1 → W p l e room_1 s m args below meth c H1 locs1 (cells + mc) (slots + ms) Q (F0 m (pc + 3) ls [.int X])) : W p l e room_1 s m args below meth c H locs cells slots Q (F0 m pc ls st0) := by
  obtain ⟨⟨hx, hb, hml, hown, hts⟩, hK, hA, -⟩ := C
  have hF := pre_F hD hS hA is hC
  refine va_calli (rest := []) (vx_runSW ⟨hx, hb, hml, hown, hts⟩ hM (vx_cwSW n hts hG hw hR.1 hR.2.1 hd hR.2.2) hp rfl hn hls hst (lv_room (Nat.zero_le _)) hdg hf) hS (fun q _ h => hF q h) hF (fun r u t H1 locs1 ht hvm hw hB hz1 hk1 hS1 => ?_)
  obtain ⟨⟨q1, q2⟩, q3⟩ := hB
  rw [ht] at q1
  obtain ⟨a1, a2⟩ := z_upd hP hD is hC cs hcs hF2 hfst hk1 q1
  subst hw
  exact kk H1 locs1 a1 a2 hS1
variable {b0 q0 ci : Nat} {fs : List Value} {q : vw_C} {CC : String}
theorem lg_preV (hK : va_K D vwCl (zTy ac) s) (hP : va_P D vwCl (F ++ wr) H) (hD : va_D A (F ++ wr)) (is : List Nat) (hC : is.map (fun i => F[i]?) = wc.map some) (hnd : va_nd is = true) (q0 ci : Nat) (hci : vwCl[ci]? = some q) (hqC : q.1 = CC) (hq0 : F[q0]? = some (b0, .inr (ci, fs))) : PreV s H CC b0 (va_Pc (.ref b0 :: As) (zS D ac wc H.size)) As :=
  ⟨zS_blind, by rw [← hqC]; exact va_recv hK (z_Pl hP) hci hq0, (pre_S hK hP hD is hC hnd (av := .ref b0 :: As)).2⟩
/-- a call of an object's method that writes -/
theorem lg_mi (C : lCx p l s m args c b L xs D ac A tl tg) (hls : ls.size = 9) (hP : va_P D vwCl (F ++ wr) H) (hD : va_D A (F ++ wr)) (hS : va_S A s.heap H locs)
    (hM : Met l y ws rm (va_Pc (.ref b0 :: As) (zS D ac wc H.size)) (zQi D ac wc w1 H.size X) mc ms (va_A wc H.size)) (is : List Nat) (hC : is.map (fun i => F[i]?) = wc.map some) (hnd : va_nd is = true)
    (hG : GoodIn wsL_law (wsV RL index CC y ws)) (hw : ws = Cond.code y bytes maxL ret :: ws') (n : Nat) (hd : y.cls = CC ∧ y.cls ≠ "java/lang/invoke/MethodHandle" ∧ y.cls ≠ "java/lang/invoke/VarHandle" ∧ (parseMethodDescriptor y.desc).map (fun d => d.parameters.length) = some n) (hR : rm.cells = mc ∧ rm.slots = ms ∧ rm.frames + 1 ≤ room_1.frames ∧ 8 + (maxL + 11) + rm.locals ≤ room_1.locals)
    (q0 ci : Nat) (hci : vwCl[ci]? = some q) (hqC : q.1 = CC) (hq0 : F[q0]? = some (b0, .inr (ci, fs))) (hn : As.length = n) (hst : st0 = As.reverse ++ .ref b0 :: rest) (hW : (rest.map fun v => v.category).sum ≤ 8) (hdg : decode code pc = .ok (.invokevirtual index, 3)) (hf : cells + mc ≤ room_1.cells ∧ slots + ms ≤ room_1.slots) (cs : List (Nat ⊕ Nat)) (hcs : zOkC 0 cs is = true) (hF2 : cs.map (zPk F w1) = F2.map some) (hfst : F2.map Prod.fst = F.map Prod.fst)
    (kk : ∀ (H1 : Heap) (locs1 : List Loc), va_P D vwCl (F2 ++ wr) H1 → va_D A (F2 ++ wr) → va_S A s.heap H1 locs1 → W p l e room_1 s m args below meth c H1 locs1 (cells + mc) (slots + ms) Q (F0 m (pc + 3) ls (.int X :: rest))) : W p l e room_1 s m args below meth c H locs cells slots Q (F0 m pc ls st0) := by
  obtain ⟨⟨hx, hb, hml, hown, hts⟩, hK, hA, -⟩ := C
  have hF := pre_F hD hS hA is hC
  refine va_calli (rest := rest) (va_runV ⟨hx, hb, hml, hown, hts⟩ hM (cwV n hts hG hw hR.1 hR.2.1 hd hR.2.2) (lg_preV hK hP hD is hC hnd q0 ci hci hqC hq0) rfl hn hls hst (lv_room hW) hdg hf) hS (fun q _ h => hF q h) hF (fun r u t H1 locs1 ht hvm hw hB hz1 hk1 hS1 => ?_)
  obtain ⟨⟨q1, q2⟩, q3⟩ := hB
  rw [ht] at q1
  obtain ⟨a1, a2⟩ := z_upd hP hD is hC cs hcs hF2 hfst hk1 q1
  subst hw
  exact kk H1 locs1 a1 a2 hS1
theorem lg_ml (C : lCx p l s m args c b L xs D ac A tl tg) (hls : ls.size = 9) (hP : va_P D vwCl (F ++ wr) H) (hD : va_D A (F ++ wr)) (hS : va_S A s.heap H locs)
    (hM : Met l y ws rm (va_Pc (.ref b0 :: As) (zS D ac wc H.size)) (zQl D ac wc w1 H.size XL) mc ms (va_A wc H.size)) (is : List Nat) (hC : is.map (fun i => F[i]?) = wc.map some) (hnd : va_nd is = true)
    (hG : GoodIn wsL_law (wsV RL index CC y ws)) (hw : ws = Cond.code y bytes maxL ret :: ws') (n : Nat) (hd : y.cls = CC ∧ y.cls ≠ "java/lang/invoke/MethodHandle" ∧ y.cls ≠ "java/lang/invoke/VarHandle" ∧ (parseMethodDescriptor y.desc).map (fun d => d.parameters.length) = some n) (hR : rm.cells = mc ∧ rm.slots = ms ∧ rm.frames + 1 ≤ room_1.frames ∧ 8 + (maxL + 11) + rm.locals ≤ room_1.locals)
    (q0 ci : Nat) (hci : vwCl[ci]? = some q) (hqC : q.1 = CC) (hq0 : F[q0]? = some (b0, .inr (ci, fs))) (hn : As.length = n) (hst : st0 = As.reverse ++ .ref b0 :: rest) (hW : (rest.map fun v => v.category).sum ≤ 8) (hdg : decode code pc = .ok (.invokevirtual index, 3)) (hf : cells + mc ≤ room_1.cells ∧ slots + ms ≤ room_1.slots) (cs : List (Nat ⊕ Nat)) (hcs : zOkC 0 cs is = true) (hF2 : cs.map (zPk F w1) = F2.map some) (hfst : F2.map Prod.fst = F.map Prod.fst)
    (kk : ∀ (H1 : Heap) (locs1 : List Loc), va_P D vwCl (F2 ++ wr) H1 → va_D A (F2 ++ wr) → va_S A s.heap H1 locs1 → W p l e room_1 s m args below meth c H1 locs1 (cells + mc) (slots + ms) Q (F0 m (pc + 3) ls (.long XL :: rest))) : W p l e room_1 s m args below meth c H locs cells slots Q (F0 m pc ls st0) := by
  obtain ⟨⟨hx, hb, hml, hown, hts⟩, hK, hA, -⟩ := C
  have hF := pre_F hD hS hA is hC
  refine va_calll (rest := rest) (va_runV ⟨hx, hb, hml, hown, hts⟩ hM (cwV n hts hG hw hR.1 hR.2.1 hd hR.2.2) (lg_preV hK hP hD is hC hnd q0 ci hci hqC hq0) rfl hn hls hst (lv_room hW) hdg hf) hS (fun q _ h => hF q h) hF (fun r u t H1 locs1 ht hvm hw hB hz1 hk1 hS1 => ?_)
  obtain ⟨⟨q1, q2⟩, q3⟩ := hB
  rw [ht] at q1
  obtain ⟨a1, a2⟩ := z_upd hP hD is hC cs hcs hF2 hfst hk1 q1
  subst hw
  exact kk H1 locs1 a1 a2 hS1
theorem lg_md (C : lCx p l s m args c b L xs D ac A tl tg) (hls : ls.size = 9) (hP : va_P D vwCl (F ++ wr) H) (hD : va_D A (F ++ wr)) (hS : va_S A s.heap H locs)
    (hM : Met l y ws rm (va_Pc (.ref b0 :: As) (zS D ac wc H.size)) (zQd D ac wc w1 H.size XD) mc ms (va_A wc H.size)) (is : List Nat) (hC : is.map (fun i => F[i]?) = wc.map some) (hnd : va_nd is = true)
    (hG : GoodIn wsL_law (wsV RL index CC y ws)) (hw : ws = Cond.code y bytes maxL ret :: ws') (n : Nat) (hd : y.cls = CC ∧ y.cls ≠ "java/lang/invoke/MethodHandle" ∧ y.cls ≠ "java/lang/invoke/VarHandle" ∧ (parseMethodDescriptor y.desc).map (fun d => d.parameters.length) = some n) (hR : rm.cells = mc ∧ rm.slots = ms ∧ rm.frames + 1 ≤ room_1.frames ∧ 8 + (maxL + 11) + rm.locals ≤ room_1.locals)
    (q0 ci : Nat) (hci : vwCl[ci]? = some q) (hqC : q.1 = CC) (hq0 : F[q0]? = some (b0, .inr (ci, fs))) (hn : As.length = n) (hst : st0 = As.reverse ++ .ref b0 :: rest) (hW : (rest.map fun v => v.category).sum ≤ 8) (hdg : decode code pc = .ok (.invokevirtual index, 3)) (hf : cells + mc ≤ room_1.cells ∧ slots + ms ≤ room_1.slots) (cs : List (Nat ⊕ Nat)) (hcs : zOkC 0 cs is = true) (hF2 : cs.map (zPk F w1) = F2.map some) (hfst : F2.map Prod.fst = F.map Prod.fst)
    (kk : ∀ (H1 : Heap) (locs1 : List Loc), va_P D vwCl (F2 ++ wr) H1 → va_D A (F2 ++ wr) → va_S A s.heap H1 locs1 → W p l e room_1 s m args below meth c H1 locs1 (cells + mc) (slots + ms) Q (F0 m (pc + 3) ls (.double XD :: rest))) : W p l e room_1 s m args below meth c H locs cells slots Q (F0 m pc ls st0) := by
  obtain ⟨⟨hx, hb, hml, hown, hts⟩, hK, hA, -⟩ := C
  have hF := pre_F hD hS hA is hC
  refine va_calld (rest := rest) (va_runV ⟨hx, hb, hml, hown, hts⟩ hM (cwV n hts hG hw hR.1 hR.2.1 hd hR.2.2) (lg_preV hK hP hD is hC hnd q0 ci hci hqC hq0) rfl hn hls hst (lv_room hW) hdg hf) hS (fun q _ h => hF q h) hF (fun r u t H1 locs1 ht hvm hw hB hz1 hk1 hS1 => ?_)
  obtain ⟨⟨q1, q2⟩, q3⟩ := hB
  rw [ht] at q1
  obtain ⟨a1, a2⟩ := z_upd hP hD is hC cs hcs hF2 hfst hk1 q1
  subst hw
  exact kk H1 locs1 a1 a2 hS1
theorem z_cmp0 (x : Int64) : lg_cmp x x = 0 := by
  unfold lg_cmp
  rw [if_neg (fun h => Int64.lt_irrefl h), if_pos rfl]
end ZB
section ZC9
variable {p : Program} {l : Launch} {e : Env} {s : State} {m : MethodId} {args : Array Value} {below : List Frame} {meth : Method} {c : Code} {H : Heap} {locs : List Loc} {cells slots : Nat} {Q : State → Prop}
variable {pc : Nat} {ls : Array Slot} {st0 : List Value} {D : va_G} {ac : Nat → ClassId} {A : Nat → Prop} {b L tl tg : Nat} {xs : Nat → Int32}
variable {F F2 wr wc w1 : va_W} {y : MethodName} {bytes : ByteArray} {maxL index mc ms : Nat} {ret : Option FieldType} {hh : List (Nat × Nat × Nat × Nat)} {ws ws' : List Cond} {rm : Room} {As : List Value} {X : Int32}
theorem lg_hS (C : lCx p l s m args c b L xs D ac A tl tg) (hls : ls.size = 9) (hP : va_P D vwCl (F ++ wr) H) (hD : va_D A (F ++ wr)) (hS : va_S A s.heap H locs)
    (hM : Met l y ws rm (va_Pc As (zS D ac wc H.size)) (zQi D ac wc w1 H.size X) mc ms (va_A wc H.size)) (is : List Nat) (hC : is.map (fun i => F[i]?) = wc.map some) (hnd : va_nd is = true)
    (hG : GoodIn wsL_law (va_wsS RL index y ws)) (hw : ws = Cond.codeWith y bytes maxL ret hh :: ws') (n : Nat) (hd : y.cls ≠ "java/lang/invoke/MethodHandle" ∧ y.cls ≠ "java/lang/invoke/VarHandle" ∧ (parseMethodDescriptor y.desc).map (fun d => d.parameters.length) = some n) (hR : rm.cells = mc ∧ rm.slots = ms ∧ rm.frames + 1 ≤ room_1.frames ∧ 8 + (maxL + 11) + rm.locals ≤ room_1.locals)
    (hn : As.length = n) (hst : st0 = As.reverse ++ []) (hdg : decode code pc = .ok (.invokestatic index, 3)) (hf : cells + mc ≤ room_1.cells ∧ slots + ms ≤ room_1.slots) (cs : List (Nat ⊕ Nat)) (hcs : zOkC 0 cs is = true) (hF2 : cs.map (zPk F w1) = F2.map some) (hfst : F2.map Prod.fst = F.map Prod.fst)
    (kk : ∀ (H1 : Heap) (locs1 : List Loc), va_P D vwCl (F2 ++ wr) H1 → va_D A (F2 ++ wr) → va_S A s.heap H1 locs1 → W p l e room_1 s m args below meth c H1 locs1 (cells + mc) (slots + ms) Q (F0 m (pc + 3) ls [.int X])) : W p l e room_1 s m args below meth c H locs cells slots Q (F0 m pc ls st0) :=
  lg_h C hls hP hD hS hM is hC (pre_S C.2.1 hP hD is hC hnd) hG hw n hd hR hn hst hdg hf cs hcs hF2 hfst kk
theorem lg_hE (C : lCx p l s m args c b L xs D ac A tl tg) (hls : ls.size = 9) (hP : va_P D vwCl (F ++ wr) H) (hD : va_D A (F ++ wr)) (hS : va_S A s.heap H locs)
    (hM : Met l y ws rm (va_Pc As (zSE D ac wc H.size tl tg)) (zQi D ac wc w1 H.size X) mc ms (va_A wc H.size)) (is : List Nat) (hC : is.map (fun i => F[i]?) = wc.map some) (hnd : va_nd is = true)
    (hG : GoodIn wsL_law (va_wsS RL index y ws)) (hw : ws = Cond.codeWith y bytes maxL ret hh :: ws') (n : Nat) (hd : y.cls ≠ "java/lang/invoke/MethodHandle" ∧ y.cls ≠ "java/lang/invoke/VarHandle" ∧ (parseMethodDescriptor y.desc).map (fun d => d.parameters.length) = some n) (hR : rm.cells = mc ∧ rm.slots = ms ∧ rm.frames + 1 ≤ room_1.frames ∧ 8 + (maxL + 11) + rm.locals ≤ room_1.locals)
    (hn : As.length = n) (hst : st0 = As.reverse ++ []) (hdg : decode code pc = .ok (.invokestatic index, 3)) (hf : cells + mc ≤ room_1.cells ∧ slots + ms ≤ room_1.slots) (cs : List (Nat ⊕ Nat)) (hcs : zOkC 0 cs is = true) (hF2 : cs.map (zPk F w1) = F2.map some) (hfst : F2.map Prod.fst = F.map Prod.fst)
    (kk : ∀ (H1 : Heap) (locs1 : List Loc), va_P D vwCl (F2 ++ wr) H1 → va_D A (F2 ++ wr) → va_S A s.heap H1 locs1 → W p l e room_1 s m args below meth c H1 locs1 (cells + mc) (slots + ms) Q (F0 m (pc + 3) ls [.int X])) : W p l e room_1 s m args below meth c H locs cells slots Q (F0 m pc ls st0) :=
  lg_h C hls hP hD hS hM is hC (pre_SE C.2.2.2.2.2.2.2.2.1 hS C.2.2.1 C.2.1 hP hD is hC hnd) hG hw n hd hR hn hst hdg hf cs hcs hF2 hfst kk
theorem lg_hT {k : Nat} {tx E0 : String} {sa : Nat} (hRR : vk_R RX5 k tx sa s) (hE0 : E0 ∈ lEx) (C : lCx p l s m args c b L xs D ac A tl tg) (hls : ls.size = 9) (hP : va_P D vwCl (F ++ wr) H) (hD : va_D A (F ++ wr)) (hS : va_S A s.heap H locs)
    (hM : Met l y ws rm (va_Pc As (zHS D ac wc H.size RX5 k tx sa E0)) (zQi D ac wc w1 H.size X) mc ms (va_A wc H.size)) (is : List Nat) (hC : is.map (fun i => F[i]?) = wc.map some) (hnd : va_nd is = true)
    (hG : GoodIn wsL_law (va_wsS RL index y ws)) (hw : ws = Cond.codeWith y bytes maxL ret hh :: ws') (n : Nat) (hd : y.cls ≠ "java/lang/invoke/MethodHandle" ∧ y.cls ≠ "java/lang/invoke/VarHandle" ∧ (parseMethodDescriptor y.desc).map (fun d => d.parameters.length) = some n) (hR : rm.cells = mc ∧ rm.slots = ms ∧ rm.frames + 1 ≤ room_1.frames ∧ 8 + (maxL + 11) + rm.locals ≤ room_1.locals)
    (hn : As.length = n) (hst : st0 = As.reverse ++ []) (hdg : decode code pc = .ok (.invokestatic index, 3)) (hf : cells + mc ≤ room_1.cells ∧ slots + ms ≤ room_1.slots) (cs : List (Nat ⊕ Nat)) (hcs : zOkC 0 cs is = true) (hF2 : cs.map (zPk F w1) = F2.map some) (hfst : F2.map Prod.fst = F.map Prod.fst)
    (kk : ∀ (H1 : Heap) (locs1 : List Loc), va_P D vwCl (F2 ++ wr) H1 → va_D A (F2 ++ wr) → va_S A s.heap H1 locs1 → W p l e room_1 s m args below meth c H1 locs1 (cells + mc) (slots + ms) Q (F0 m (pc + 3) ls [.int X])) : W p l e room_1 s m args below meth c H locs cells slots Q (F0 m pc ls st0) :=
  lg_h C hls hP hD hS hM is hC (pre_HS C hRR hE0 hS hP hD is hC hnd) hG hw n hd hR hn hst hdg hf cs hcs hF2 hfst kk
theorem lg_hTE {k : Nat} {tx E0 : String} {sa : Nat} (hRR : vk_R RX5 k tx sa s) (hE0 : E0 ∈ lEx) (C : lCx p l s m args c b L xs D ac A tl tg) (hls : ls.size = 9) (hP : va_P D vwCl (F ++ wr) H) (hD : va_D A (F ++ wr)) (hS : va_S A s.heap H locs)
    (hM : Met l y ws rm (va_Pc As (zHE D ac wc H.size RX5 k tx sa E0 tl tg)) (zQi D ac wc w1 H.size X) mc ms (va_A wc H.size)) (is : List Nat) (hC : is.map (fun i => F[i]?) = wc.map some) (hnd : va_nd is = true)
    (hG : GoodIn wsL_law (va_wsS RL index y ws)) (hw : ws = Cond.codeWith y bytes maxL ret hh :: ws') (n : Nat) (hd : y.cls ≠ "java/lang/invoke/MethodHandle" ∧ y.cls ≠ "java/lang/invoke/VarHandle" ∧ (parseMethodDescriptor y.desc).map (fun d => d.parameters.length) = some n) (hR : rm.cells = mc ∧ rm.slots = ms ∧ rm.frames + 1 ≤ room_1.frames ∧ 8 + (maxL + 11) + rm.locals ≤ room_1.locals)
    (hn : As.length = n) (hst : st0 = As.reverse ++ []) (hdg : decode code pc = .ok (.invokestatic index, 3)) (hf : cells + mc ≤ room_1.cells ∧ slots + ms ≤ room_1.slots) (cs : List (Nat ⊕ Nat)) (hcs : zOkC 0 cs is = true) (hF2 : cs.map (zPk F w1) = F2.map some) (hfst : F2.map Prod.fst = F.map Prod.fst)
    (kk : ∀ (H1 : Heap) (locs1 : List Loc), va_P D vwCl (F2 ++ wr) H1 → va_D A (F2 ++ wr) → va_S A s.heap H1 locs1 → W p l e room_1 s m args below meth c H1 locs1 (cells + mc) (slots + ms) Q (F0 m (pc + 3) ls [.int X])) : W p l e room_1 s m args below meth c H locs cells slots Q (F0 m pc ls st0) :=
  lg_h C hls hP hD hS hM is hC (pre_HE C hRR hE0 hS hP hD is hC hnd) hG hw n hd hR hn hst hdg hf cs hcs hF2 hfst kk
end ZC9
