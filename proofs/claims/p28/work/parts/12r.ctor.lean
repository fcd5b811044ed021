/-! constructors of the class: objects made in a loop, their places told by a function -/
/-- the links of the private constructors, and the classes of rows of objects -/
def zNL (U : State) : Prop := (va_Nw (.methodLinkNest RX4 11 yX3_init "SettlingJars") U ∧ va_Nw (.methodLinkNest RX4 31 yX2_init "SettlingJars") U ∧ va_Nw (.methodLinkNest RX5 25 yX0_init "SettlingJars") U ∧ va_Nw (.methodLinkNest RX5 32 yX2_init "SettlingJars") U) ∧ va_AO "SettlingJars$Jar" U ∧ va_AO "SettlingJars$State" U
theorem zNL.warm {s U : State} (hW : s.WarmedH U.vm) (h : zNL s) : zNL U := ⟨⟨va_Nw.warmM hW h.1.1, va_Nw.warmM hW h.1.2.1, va_Nw.warmM hW h.1.2.2.1, va_Nw.warmM hW h.1.2.2.2⟩, h.2.1.moved hW.alike, h.2.2.moved hW.alike⟩
theorem zNL.same {s U : State} (hv : s.vm = U.vm) (h : zNL s) : zNL U := ⟨⟨va_tabs rfl hv h.1.1, va_tabs rfl hv h.1.2.1, va_tabs rfl hv h.1.2.2.1, va_tabs rfl hv h.1.2.2.2⟩, h.2.1.moved (by rw [hv]; exact Vm.Alike.refl U.vm), h.2.2.moved (by rw [hv]; exact Vm.Alike.refl U.vm)⟩
def zSN (D : va_G) (ac : Nat → ClassId) (w : va_W) (sz : Nat) (U : State) : Prop := zS D ac w sz U ∧ zNL U
theorem zSN_blind {av : List Value} {D : va_G} {ac : Nat → ClassId} {w : va_W} {sz : Nat} : FrameBlind (va_Pc av (zSN D ac w sz)) := fun a U g mk q =>
  ⟨q.1, (zS_blind (av := av) a U g mk ⟨q.1, q.2.1⟩).2, zNL.same (rfl : U.vm = (U.calling g mk a).vm) q.2.2⟩
abbrev zQs {S : Type} (D : va_G) (ac : Nat → ClassId) (w : va_W) (W2 : S → va_W) (sz : Nat) : Array Value → State → Outcome → State → Prop := va_Qv (fun (_ : S) => True) (fun u U => zW D ac (W2 u) U ∧ va_D (va_A w sz) (W2 u)) (va_A w sz)
theorem z_rwN {l : Launch} {y : MethodName} {ws ws' : List Cond} {rm : Room} {cc : ByteArray} {maxL : Nat} {ret : Option FieldType} {av : List Value} {D : va_G} {ac : Nat → ClassId} {w : va_W} {sz mc ms : Nat} {Qc : Array Value → State → Outcome → State → Prop}
    (hy : plainName y.cls = true) (hw : ws = Cond.code y cc maxL ret :: ws') (hn : (lg_sl av).length ≤ maxL) {lv : List (Nat × Value)} (hlv : lv_args 0 av = lv)
    (body : ∀ (p : Program) (e : Env) (s : State) (m : MethodId) (args : Array Value) (below : List Frame) (meth : Method) (c : Code) (ls : Array Slot) (A : Nat → Prop), p.tables.exec = Jvm.exec → c.code = cc → meth.sig.returnType = ret → c.maxLocals = maxL → s.vm.findClass y.cls = some m.cls → (∀ w ∈ ws, w.before args s = true) → meth.locks = false → lv_has ls maxL lv → va_K D vwCl (zTy ac) s → va_P D vwCl w s.heap → s.heap.size = sz → A = va_A w sz → (∀ q : Nat, s.heap.size ≤ q → A q) → va_D A w → va_S A s.heap s.heap [] → meth.name = y.name → zNL s → W p l e rm s m args below meth c s.heap [] 0 0 (MQ below Qc args s mc ms A) (F0 m 0 ls [])) : Met l y ws rm (va_Pc av (zSN D ac w sz)) Qc mc ms (va_A w sz) := by
  refine Met.ofW (cc := cc) (maxL := maxL) (ret := ret) hy hw ?_
  intro p e s m args below meth c s₁ B hml hv
  obtain ⟨rfl, ⟨hsz, ⟨hP, hK⟩, hD0⟩, hN⟩ := hv
  rw [lg_entry_eq]
  have hl := lv_entry av (n := maxL) hn
  rw [hlv] at hl
  subst hsz
  exact body p e s m _ below meth c _ _ B.exec B.bytes B.returns hml (findClass_of_methodNamed B.named) (atoms_spec (ws := ws) B.pre) B.notSynchronized hl hK hP rfl rfl (fun q h => Or.inr h) (hD0.self (sz := s.heap.size)) va_S.rf (name_of_methodNamed B.named B.method).1 hN
theorem z_Dr {A : Nat → Prop} {F wr : va_W} (h : va_D A (F ++ wr)) : va_D A wr := by
  have key : ∀ (k : Nat) (q : Nat × va_E), wr[k]? = some q → (F ++ wr)[F.length + k]? = some q := fun k q hk => by rw [List.getElem?_append_right (Nat.le_add_right _ _), Nat.add_sub_cancel_left]; exact hk
  exact ⟨fun i j p q hi hj e => Nat.add_left_cancel (h.1 _ _ p q (key i p hi) (key j q hj) e), fun k q hk => h.2 _ q (key k q hk)⟩
theorem z_Dl {A : Nat → Prop} {F wr : va_W} (h : va_D A (F ++ wr)) : va_D A F := by
  have key : ∀ (k : Nat) (q : Nat × va_E), F[k]? = some q → (F ++ wr)[k]? = some q := fun k q hk => by rw [List.getElem?_append_left (List.getElem?_eq_some_iff.mp hk).1]; exact hk
  exact ⟨fun i j p q hi hj e => h.1 _ _ p q (key i p hi) (key j q hj) e, fun k q hk => h.2 _ q (key k q hk)⟩
theorem z_Dx {A : Nat → Prop} {F wr : va_W} (h : va_D A (F ++ wr)) {i j : Nat} {p q : Nat × va_E} (hi : F[i]? = some p) (hj : wr[j]? = some q) : p.1 ≠ q.1 := by
  intro e
  have hlt := (List.getElem?_eq_some_iff.mp hi).1
  have h1 : (F ++ wr)[i]? = some p := by rw [List.getElem?_append_left hlt]; exact hi
  have h2 : (F ++ wr)[F.length + j]? = some q := by rw [List.getElem?_append_right (Nat.le_add_right _ _), Nat.add_sub_cancel_left]; exact hj
  have := h.1 _ _ p q h1 h2 e
  omega
/-- behind a call that was given the last cells -/
theorem z_joinA {A : Nat → Prop} {D : va_G} {cl : List vw_C} {w wc w1 : va_W} {H H1 : Heap} (hP : va_P D cl (w ++ wc) H) (hD : va_D A (w ++ wc)) (hF : ∀ q, va_A wc H.size q → A q) (hk : ∀ q : Nat, q < H.size → ¬ va_A wc H.size q → H1[q]? = H[q]?) (hP1 : va_P D cl w1 H1) (hD1 : va_D (va_A wc H.size) w1) : va_P D cl (w ++ w1) H1 ∧ va_D A (w ++ w1) := by
  have out : ∀ (k : Nat) (q : Nat × va_E), w[k]? = some q → ¬ va_A wc H.size q.1 := by
    intro k q hq z
    rcases z with ⟨k2, e, hw⟩ | z
    · exact z_Dx hD hq hw rfl
    · exact absurd ((z_Pl hP) k q hq).lt (Nat.not_lt.mpr z)
  refine ⟨z_Papp ((z_Pl hP).kept (fun k q hq => hk q.1 ((z_Pl hP) k q hq).lt (out k q hq))) hP1, (z_Dl hD).app (hD1.weaken (fun _ q _ h => hF q.1 h)) (fun i j p q hi hj e => ?_)⟩
  exact out i p hi (by rw [e]; exact hD1.2 j q hj)
section ZK
variable {p : Program} {l : Launch} {e : Env} {R : Room} {s : State} {m : MethodId} {args : Array Value} {below : List Frame} {meth : Method} {c : Code} {H H0 : Heap} {locs : List Loc} {cells slots mc ms : Nat} {Q : State → Prop}
variable {pc : Nat} {ls : Array Slot} {rest st0 : List Value} {cc : ByteArray} {D : va_G} {ac : Nat → ClassId} {w wc : va_W} {A : Nat → Prop}
theorem z_preC (hK : va_K D vwCl (zTy ac) s) (hP : va_P D vwCl (w ++ wc) H) (hD : va_D A (w ++ wc)) {av : List Value} : PreS s H (va_Pc av (zS D ac wc H.size)) av :=
  ⟨zS_blind, fun U hU hWm => ⟨rfl, by rw [hU], ⟨by rw [hU]; exact z_Pr hP, va_K.moved hWm.alike hK⟩, (z_Dr hD).weaken (fun _ _ _ _ => trivial)⟩⟩
theorem z_preCN (hN : zNL s) (hK : va_K D vwCl (zTy ac) s) (hP : va_P D vwCl (w ++ wc) H) (hD : va_D A (w ++ wc)) {av : List Value} : PreS s H (va_Pc av (zSN D ac wc H.size)) av :=
  ⟨zSN_blind, fun U hU hWm => ⟨rfl, ((z_preC hK hP hD (av := av)).2 U hU hWm).2, hN.warm hWm⟩⟩
theorem z_ctor {S : Type} {W2 : S → va_W} {a : Array Value} (hr : va_Run p l e R s m args below meth c H locs cells slots mc ms (F0 m pc ls st0) rest (zQs D ac wc W2 H.size a) (va_A wc H.size)) (hP : va_P D vwCl (w ++ wc) H) (hD : va_D A (w ++ wc)) (hS : va_S A H0 H locs) (hA : ∀ q : Nat, H0.size ≤ q → A q)
    (k : ∀ (u : S) (H1 : Heap) (locs1 : List Loc), va_P D vwCl (w ++ W2 u) H1 → va_D A (w ++ W2 u) → va_S A H0 H1 locs1 → W p l e R s m args below meth c H1 locs1 (cells + mc) (slots + ms) Q (F0 m (pc + 3) ls rest)) : W p l e R s m args below meth c H locs cells slots Q (F0 m pc ls st0) := by
  have hF : ∀ q, va_A wc H.size q → A q := by
    intro q h
    rcases h with ⟨k2, e, hw⟩ | h
    · exact (z_Dr hD).2 k2 (q, e) hw
    · exact hA q (Nat.le_trans hS.1 h)
  refine va_callv hr hS (fun q _ h => hF q h) hF (fun u t H1 locs1 ht hvm hw hB hz1 hk1 hS1 => ?_)
  obtain ⟨⟨q1, q2⟩, q3⟩ := hB
  rw [ht] at q1
  obtain ⟨a1, a2⟩ := z_joinA hP hD hF hk1 q1 q3
  exact k u H1 locs1 a1 a2 hS1
theorem z_newQ {own C : String} {index : Nat} (hx : p.tables.exec = Jvm.exec) (hb : c.code = cc) (hown : s.vm.findClass own = some m.cls) (hclink : (Cond.classLink own index C).before args s = true) (hover : va_AO C s) (hK : va_K D vwCl (zTy ac) s) (hP : va_P D vwCl w H) (hD : va_D A w) (hS : va_S A H0 H locs) (hA : ∀ q, H0.size ≤ q → A q) {n : Int32} {N : Nat} (hn : n = nI N) (hN : N < 2 ^ 20) (t : Nat) {cA : ClassId} (ht : (zTy ac)[t]? = some (cA, .object C)) (hcells : cells + 1 ≤ R.cells) (hslots : slots + N ≤ R.slots) (hdg : decode cc pc = .ok (.anewarray index, 3))
    (kk : ∀ (q : Nat) (H1 : Heap), va_P D vwCl (w ++ [(q, .inl (cA, N, .inr (.inr (.inr (.inr (fun _ => none))))))]) H1 → va_D A (w ++ [(q, .inl (cA, N, .inr (.inr (.inr (.inr (fun _ => none))))))]) → va_S A H0 H1 locs → W p l e R s m args below meth c H1 locs (cells + 1) (slots + N) Q (F0 m (pc + 3) ls (.ref q :: rest))) : W p l e R s m args below meth c H locs cells slots Q (F0 m pc ls (.int n :: rest)) := by
  subst hn
  refine va_newq hx hb hown hclink hover hK hP hD hS hA (N' := N) (nI_pos (by omega)) (nI_clamp (by omega)) (by omega) hcells hslots hdg (fun q cB H1 hK1 hP1 hD1 hS1 => ?_)
  obtain ⟨k1, c1, -, -, -, f1⟩ := (hK1.2 4 (cB, .object C) rfl).2
  obtain ⟨k2, c2, -, -, -, f2⟩ := (hK.2 t (cA, .object C) ht).2
  have e : cB = cA := Option.some.inj (f1.symm.trans f2)
  subst e
  exact kk q H1 hP1 hD1 hS1
theorem z_astQ (hx : p.tables.exec = Jvm.exec) (hb : c.code = cc) (hK : va_K D vwCl (zTy ac) s) (hP : va_P D vwCl w H) (hD : va_D A w) (hS : va_S A H0 H locs) (q0 t0 qk ci : Nat) {a : Nat} {cA : ClassId} {r : vw_C} {n v : Nat} {vs : List Value} {f : Nat → Option Nat} (ha : w[q0]? = some (a, .inl (cA, n, .inr (.inr (.inr (.inr f)))))) (ht : (zTy ac)[t0]? = some (cA, .object r.1)) (hv : w[qk]? = some (v, .inr (ci, vs))) (hc : vwCl[ci]? = some r) (k : Nat) {i : Int32} (hi : i = nI k) (hk : k < n) (hn : n < 2 ^ 31) (hdg : decode cc pc = .ok (.aastore, 1))
    (kk : ∀ (H1 : Heap) (locs1 : List Loc), va_P D vwCl (w.set q0 (a, .inl (cA, n, .inr (.inr (.inr (.inr (va_up f k (some v)))))))) H1 → va_D A (w.set q0 (a, .inl (cA, n, .inr (.inr (.inr (.inr (va_up f k (some v)))))))) → va_S A H0 H1 locs1 → W p l e R s m args below meth c H1 locs1 cells slots Q (F0 m (pc + 1) ls rest)) : W p l e R s m args below meth c H locs cells slots Q (F0 m pc ls (.ref v :: .int i :: .ref a :: rest)) := by
  subst hi
  refine va_astq hx hb hK hP hD hS q0 t0 qk ci ha ht hv hc (vp_in_nI hk hn) hdg ?_
  rw [nI_clamp (Nat.lt_trans hk hn)]
  exact kk
theorem z_vretS {S : Type} {sz : Nat} {w0 : va_W} {W2 : S → va_W} (u : S) (hx : p.tables.exec = Jvm.exec) (hb : c.code = cc) (hr : meth.sig.returnType = none) (hlocks : meth.locks = false) (hK : va_K D vwCl (zTy ac) s) (hP : va_P D vwCl (W2 u) H) (hD : va_D A (W2 u)) (hS : va_S A s.heap H locs) (hA : A = va_A w0 sz) (hdg : decode cc pc = .ok (.return_, 1)) : W p l e R s m args below meth c H locs cells slots (MQ below (zQs D ac w0 W2 sz) args s cells slots A) (F0 m pc ls []) :=
  W.vret hx hb hr (fun t ht hW => ⟨⟨u, rfl, trivial, ⟨by rw [ht]; exact hP, va_K.moved hW.alike hK⟩, by rw [← hA]; exact hD⟩, by rw [← hA]; exact hS.F ht⟩) hS.2.2 hdg hlocks
end ZK
theorem z_cellq (cA : ClassId) {n : Nat} {f f2 : Nat → Option Nat} (h : ∀ k, k < n → f k = f2 k) : vp_cell cA (n, .inr (.inr (.inr (.inr f)))) = vp_cell cA (n, .inr (.inr (.inr (.inr f2)))) := by
  rw [vp_cell_q, vp_cell_q]
  have e : (fun j : Fin n => va_rf (f j.val)) = (fun j : Fin n => va_rf (f2 j.val)) := funext (fun j => by rw [h j.val j.isLt])
  unfold arrV
  rw [e]
theorem z_pextq {D : va_G} {cl : List vw_C} {w : va_W} {H : Heap} (q0 : Nat) {a n : Nat} {cA : ClassId} {f f2 : Nat → Option Nat} (ha : w[q0]? = some (a, .inl (cA, n, .inr (.inr (.inr (.inr f)))))) (h : ∀ k, k < n → f k = f2 k) (hP : va_P D cl w H) : va_P D cl (w.set q0 (a, .inl (cA, n, .inr (.inr (.inr (.inr f2)))))) H := by
  intro k q hk
  rw [List.getElem?_set] at hk
  split at hk
  · rename_i e
    split at hk
    · cases hk
      have h1 := hP q0 _ ha
      show H[a]? = some (vp_cell cA (n, .inr (.inr (.inr (.inr f2)))))
      rw [← z_cellq cA h]
      exact h1
    · cases hk
  · exact hP k q hk
/-- the row that a new object stands for -/
def zI0 : Nat → Int32 := upd (upd (upd (upd (upd (upd (upd (fun _ => 0) 144 100) 145 200) 146 3) 148 40) 149 20) 150 10) 151 5
theorem zI0_no {k : Nat} (h : k < 144 ∨ 152 ≤ k) : zI0 k = 0 := by
  unfold zI0 upd
  rw [if_neg (by omega), if_neg (by omega), if_neg (by omega), if_neg (by omega), if_neg (by omega), if_neg (by omega), if_neg (by omega)]
theorem zI0_view : vEq (upd (upd (upd (upd (fun _ => 0) 0 100) 1 200) 2 3) 3 0) (upd (upd (upd (upd (fun _ => 0) 0 40) 1 20) 2 10) 3 5) (fun _ => 0) (fun _ => 0) (fun _ => 0) (fun _ => 0) (fun _ => 0) 0 0 zI0 := by
  refine ⟨fun k hk => ?_, fun k hk => ?_, fun k hk => (zI0_no (by omega)).symm, fun k hk => (zI0_no (by omega)).symm, fun k hk => (zI0_no (by omega)).symm, fun k hk => (zI0_no (by omega)).symm, fun k hk => (zI0_no (by omega)).symm, (zI0_no (by omega)).symm, (zI0_no (by omega)).symm⟩
  · rcases z_cases4 hk with rfl | rfl | rfl | rfl <;> rfl
  · rcases z_cases4 hk with rfl | rfl | rfl | rfl <;> rfl
theorem lA_view {D : va_G} {ac : Nat → ClassId} {a : Nat → Nat} {v w ga gb gc pd dr y : Nat → Int32} {tp fl : Int32} {H : Heap} (h : vEq v w ga gb gc pd dr tp fl y) (hQ : va_P D vwCl (lA ac a v w ga gb gc pd dr tp fl) H) : va_P D vwCl (lB ac a y) H := by
  obtain ⟨h1, h2, h3, h4, h5, h6, h7, rfl, rfl⟩ := h
  have a1 : va_P D vwCl (lA ac a (cV y) w ga gb gc pd dr (y 160) (y 161)) H := z_pext 2 rfl h1 hQ
  have a2 : va_P D vwCl (lA ac a (cV y) (cW y) ga gb gc pd dr (y 160) (y 161)) H := z_pext 3 rfl h2 a1
  have a3 : va_P D vwCl (lA ac a (cV y) (cW y) (qV y 0) gb gc pd dr (y 160) (y 161)) H := z_pext 6 rfl h3 a2
  have a4 : va_P D vwCl (lA ac a (cV y) (cW y) (qV y 0) (qV y 1) gc pd dr (y 160) (y 161)) H := z_pext 8 rfl h4 a3
  have a5 : va_P D vwCl (lA ac a (cV y) (cW y) (qV y 0) (qV y 1) (qV y 2) pd dr (y 160) (y 161)) H := z_pext 10 rfl h5 a4
  have a6 : va_P D vwCl (lA ac a (cV y) (cW y) (qV y 0) (qV y 1) (qV y 2) (cP y) dr (y 160) (y 161)) H := z_pext 11 rfl h6 a5
  exact z_pext 12 rfl h7 a6
def z_at0 (h : Nat) (u : Nat → Nat) : Nat → Nat := fun k => if k = 0 then h else u k
def lU (x : List Nat) : Nat → Nat := fun k => x.getD k 0
set_option maxRecDepth 100000 in
set_option maxHeartbeats 4000000 in
theorem metX4_init (l : Launch) (D : va_G) (ac : Nat → ClassId) (sz : Nat) (h0 : Nat) : Met l yX4_init wsX4_init ({ frames := 2, cells := 12, slots := 168, locals := 32 } : Room) (va_Pc [.ref h0] (zSN D ac [(h0, .inr (4, [.null, .null, .null, .null, .int 0, .int 0]))] sz)) (zQs D ac [(h0, .inr (4, [.null, .null, .null, .null, .int 0, .int 0]))] (fun u : Nat → Nat => lB ac (z_at0 h0 u) zI0) sz) 12 168 (va_A [(h0, .inr (4, [.null, .null, .null, .null, .int 0, .int 0]))] sz) := by
  refine z_rwN (cc := cX4_init) (maxL := 2) (ret := none) (lv := [(0, .ref h0)]) (by decide) rfl (Nat.le_of_ble_eq_true rfl) rfl ?_
  intro p e s m args below meth c ls A hx hb hr hml hown hts hlocks hl hK hP hsz hAe hA hD hS hnm hN
  refine lv_aload_n hx hb dX4_init_0 rfl (lv_at hl 0 rfl) ?_
  refine z_obj (own := RX4) hx hb hown (hts (.methodLink RX4 3 objectInit) (by decide +kernel)) (hts (.instanceMethod objectInit) (by decide +kernel)) (hts (.code objectInit ⟨#[0xb1]⟩ 1 none) (by decide +kernel)) (hl.1.trans hml.symm) dX4_init_1 (Nat.le_of_ble_eq_true rfl) (Nat.le_of_ble_eq_true rfl) ?_
  refine lv_aload_n hx hb dX4_init_4 rfl (lv_at hl 0 rfl) ?_
  refine va_new (ci := 3) (fs := [.null, .null]) (C := RX3) (T := TX3) (N := 2) hx hb hts (by decide +kernel) tyX3 tyX3_ok hown (hts (.classLink RX4 9 RX3) (by decide +kernel)) (hts (.instantiable RX3 2) (by decide +kernel)) (hts (.initialized RX3) (by decide +kernel)) hK hP hD hS hA rfl (fun j hj => by rcases (show j = 0 ∨ j = 1 by omega) with rfl | rfl <;> rfl) (Nat.le_of_ble_eq_true rfl) (Nat.le_of_ble_eq_true rfl) dX4_init_5 (fun r1 H hP hD hS => ?_)
  have hP : va_P D vwCl ([(h0, .inr (4, [.null, .null, .null, .null, .int 0, .int 0]))] ++ [(r1, .inr (3, [.null, .null]))]) H := hP
  have hD : va_D A ([(h0, .inr (4, [.null, .null, .null, .null, .int 0, .int 0]))] ++ [(r1, .inr (3, [.null, .null]))]) := hD
  refine lv_dup hx hb dX4_init_8 rfl ?_
  refine z_ctor (w := [(h0, .inr (4, [.null, .null, .null, .null, .int 0, .int 0]))]) (va_runIN (As := []) (rest := [.ref r1, .ref h0]) ⟨hx, hb, hml, hown, hts⟩ (metX3_init l D ac _ r1) ⟨va_cnB 0 hts gX4_init_X3_init_n11 rfl rfl rfl hN.1.1 (hts (.initialized RX3) (by decide +kernel)) (by decide +kernel) ⟨Nat.le_of_ble_eq_true rfl, Nat.le_of_ble_eq_true rfl⟩, rfl, hts (.instanceMethod yX3_init) (by decide +kernel)⟩ (z_preC hK hP hD) rfl rfl hl.1 rfl (lv_room (Nat.le_of_ble_eq_true rfl)) dX4_init_9 ⟨Nat.le_of_ble_eq_true rfl, Nat.le_of_ble_eq_true rfl⟩) hP hD hS hA (fun u1 H locs hP hD hS => ?_)
  have hP : va_P D vwCl ([(h0, .inr (4, [.null, .null, .null, .null, .int 0, .int 0])), (r1, .inr (3, [.ref (u1 0), .ref (u1 1)])), (u1 0, .inl (ac 0, 4, .inl (upd (upd (upd (upd (fun _ => 0) 0 100) 1 200) 2 3) 3 0))), (u1 1, .inl (ac 0, 4, .inl (upd (upd (upd (upd (fun _ => 0) 0 40) 1 20) 2 10) 3 5)))]) H := hP
  have hD : va_D A ([(h0, .inr (4, [.null, .null, .null, .null, .int 0, .int 0])), (r1, .inr (3, [.ref (u1 0), .ref (u1 1)])), (u1 0, .inl (ac 0, 4, .inl (upd (upd (upd (upd (fun _ => 0) 0 100) 1 200) 2 3) 3 0))), (u1 1, .inl (ac 0, 4, .inl (upd (upd (upd (upd (fun _ => 0) 0 40) 1 20) 2 10) 3 5)))]) := hD
  refine va_putF (ci := 4) (v := .ref r1) (ty := tyX4 0) (C := RX4) (T := TX4) (N := 6) hx hb hts (by decide +kernel) tyX4 tyX4_ok nmX4 hown hK hP hD hS 0 rfl rfl 0 (by decide) (hts (.fieldLink RX4 12 "SettlingJars$State" "settings" "LSettlingJars$Settings;") (by decide +kernel)) (fun _ h9 => h9) rfl hnm rfl (tyX4_ok 0 (by decide)) rfl rfl (Nat.le_of_ble_eq_true rfl) dX4_init_12 (fun H locs hP hD hS => ?_)
  have hP : va_P D vwCl ([(h0, .inr (4, [.ref r1, .null, .null, .null, .int 0, .int 0])), (r1, .inr (3, [.ref (u1 0), .ref (u1 1)])), (u1 0, .inl (ac 0, 4, .inl (upd (upd (upd (upd (fun _ => 0) 0 100) 1 200) 2 3) 3 0))), (u1 1, .inl (ac 0, 4, .inl (upd (upd (upd (upd (fun _ => 0) 0 40) 1 20) 2 10) 3 5)))]) H := hP
  have hD : va_D A ([(h0, .inr (4, [.ref r1, .null, .null, .null, .int 0, .int 0])), (r1, .inr (3, [.ref (u1 0), .ref (u1 1)])), (u1 0, .inl (ac 0, 4, .inl (upd (upd (upd (upd (fun _ => 0) 0 100) 1 200) 2 3) 3 0))), (u1 1, .inl (ac 0, 4, .inl (upd (upd (upd (upd (fun _ => 0) 0 40) 1 20) 2 10) 3 5)))]) := hD
  refine lv_aload_n hx hb dX4_init_15 rfl (lv_at hl 0 rfl) ?_
  refine lv_iconst (v := 3) hx hb dX4_init_16 (by decide) ?_
  refine z_newQ (C := "SettlingJars$Jar") hx hb hown (hts (.classLink RX4 18 RX2) (by decide +kernel)) hN.2.1 hK hP hD hS hA (N := 3) rfl (by decide) 2 rfl (Nat.le_of_ble_eq_true rfl) (Nat.le_of_ble_eq_true rfl) dX4_init_17 (fun rj H hP hD hS => ?_)
  have hP : va_P D vwCl ([(h0, .inr (4, [.ref r1, .null, .null, .null, .int 0, .int 0])), (r1, .inr (3, [.ref (u1 0), .ref (u1 1)])), (u1 0, .inl (ac 0, 4, .inl (upd (upd (upd (upd (fun _ => 0) 0 100) 1 200) 2 3) 3 0))), (u1 1, .inl (ac 0, 4, .inl (upd (upd (upd (upd (fun _ => 0) 0 40) 1 20) 2 10) 3 5))), (rj, .inl (ac 2, 3, .inr (.inr (.inr (.inr (fun _ => none))))))]) H := hP
  have hD : va_D A ([(h0, .inr (4, [.ref r1, .null, .null, .null, .int 0, .int 0])), (r1, .inr (3, [.ref (u1 0), .ref (u1 1)])), (u1 0, .inl (ac 0, 4, .inl (upd (upd (upd (upd (fun _ => 0) 0 100) 1 200) 2 3) 3 0))), (u1 1, .inl (ac 0, 4, .inl (upd (upd (upd (upd (fun _ => 0) 0 40) 1 20) 2 10) 3 5))), (rj, .inl (ac 2, 3, .inr (.inr (.inr (.inr (fun _ => none))))))]) := hD
  refine va_putF (ci := 4) (v := .ref rj) (ty := tyX4 1) (C := RX4) (T := TX4) (N := 6) hx hb hts (by decide +kernel) tyX4 tyX4_ok nmX4 hown hK hP hD hS 0 rfl rfl 1 (by decide) (hts (.fieldLink RX4 20 "SettlingJars$State" "jars" "[LSettlingJars$Jar;") (by decide +kernel)) (fun _ h9 => h9) rfl hnm rfl (tyX4_ok 1 (by decide)) rfl rfl (Nat.le_of_ble_eq_true rfl) dX4_init_20 (fun H locs hP hD hS => ?_)
  have hP : va_P D vwCl ([(h0, .inr (4, [.ref r1, .ref rj, .null, .null, .int 0, .int 0])), (r1, .inr (3, [.ref (u1 0), .ref (u1 1)])), (u1 0, .inl (ac 0, 4, .inl (upd (upd (upd (upd (fun _ => 0) 0 100) 1 200) 2 3) 3 0))), (u1 1, .inl (ac 0, 4, .inl (upd (upd (upd (upd (fun _ => 0) 0 40) 1 20) 2 10) 3 5))), (rj, .inl (ac 2, 3, .inr (.inr (.inr (.inr (fun _ => none))))))]) H := hP
  have hD : va_D A ([(h0, .inr (4, [.ref r1, .ref rj, .null, .null, .int 0, .int 0])), (r1, .inr (3, [.ref (u1 0), .ref (u1 1)])), (u1 0, .inl (ac 0, 4, .inl (upd (upd (upd (upd (fun _ => 0) 0 100) 1 200) 2 3) 3 0))), (u1 1, .inl (ac 0, 4, .inl (upd (upd (upd (upd (fun _ => 0) 0 40) 1 20) 2 10) 3 5))), (rj, .inl (ac 2, 3, .inr (.inr (.inr (.inr (fun _ => none))))))]) := hD
  refine lv_aload_n hx hb dX4_init_23 rfl (lv_at hl 0 rfl) ?_
  refine lv_iconst (v := 4) hx hb dX4_init_24 (by decide) ?_
  refine z_newI hx hb (hts (.arrayClass .int) (by decide +kernel)) hK hP hD hS hA (N := 4) rfl (by decide) (Nat.le_of_ble_eq_true rfl) (Nat.le_of_ble_eq_true rfl) dX4_init_25 (fun rp H hP hD hS => ?_)
  have hP : va_P D vwCl ([(h0, .inr (4, [.ref r1, .ref rj, .null, .null, .int 0, .int 0])), (r1, .inr (3, [.ref (u1 0), .ref (u1 1)])), (u1 0, .inl (ac 0, 4, .inl (upd (upd (upd (upd (fun _ => 0) 0 100) 1 200) 2 3) 3 0))), (u1 1, .inl (ac 0, 4, .inl (upd (upd (upd (upd (fun _ => 0) 0 40) 1 20) 2 10) 3 5))), (rj, .inl (ac 2, 3, .inr (.inr (.inr (.inr (fun _ => none)))))), (rp, .inl (ac 0, 4, .inl (fun _ => 0)))]) H := hP
  have hD : va_D A ([(h0, .inr (4, [.ref r1, .ref rj, .null, .null, .int 0, .int 0])), (r1, .inr (3, [.ref (u1 0), .ref (u1 1)])), (u1 0, .inl (ac 0, 4, .inl (upd (upd (upd (upd (fun _ => 0) 0 100) 1 200) 2 3) 3 0))), (u1 1, .inl (ac 0, 4, .inl (upd (upd (upd (upd (fun _ => 0) 0 40) 1 20) 2 10) 3 5))), (rj, .inl (ac 2, 3, .inr (.inr (.inr (.inr (fun _ => none)))))), (rp, .inl (ac 0, 4, .inl (fun _ => 0)))]) := hD
  refine va_putF (ci := 4) (v := .ref rp) (ty := tyX4 2) (C := RX4) (T := TX4) (N := 6) hx hb hts (by decide +kernel) tyX4 tyX4_ok nmX4 hown hK hP hD hS 0 rfl rfl 2 (by decide) (hts (.fieldLink RX4 24 "SettlingJars$State" "poured" "[I") (by decide +kernel)) (fun _ h9 => h9) rfl hnm rfl (tyX4_ok 2 (by decide)) rfl rfl (Nat.le_of_ble_eq_true rfl) dX4_init_27 (fun H locs hP hD hS => ?_)
  have hP : va_P D vwCl ([(h0, .inr (4, [.ref r1, .ref rj, .ref rp, .null, .int 0, .int 0])), (r1, .inr (3, [.ref (u1 0), .ref (u1 1)])), (u1 0, .inl (ac 0, 4, .inl (upd (upd (upd (upd (fun _ => 0) 0 100) 1 200) 2 3) 3 0))), (u1 1, .inl (ac 0, 4, .inl (upd (upd (upd (upd (fun _ => 0) 0 40) 1 20) 2 10) 3 5))), (rj, .inl (ac 2, 3, .inr (.inr (.inr (.inr (fun _ => none)))))), (rp, .inl (ac 0, 4, .inl (fun _ => 0)))]) H := hP
  have hD : va_D A ([(h0, .inr (4, [.ref r1, .ref rj, .ref rp, .null, .int 0, .int 0])), (r1, .inr (3, [.ref (u1 0), .ref (u1 1)])), (u1 0, .inl (ac 0, 4, .inl (upd (upd (upd (upd (fun _ => 0) 0 100) 1 200) 2 3) 3 0))), (u1 1, .inl (ac 0, 4, .inl (upd (upd (upd (upd (fun _ => 0) 0 40) 1 20) 2 10) 3 5))), (rj, .inl (ac 2, 3, .inr (.inr (.inr (.inr (fun _ => none)))))), (rp, .inl (ac 0, 4, .inl (fun _ => 0)))]) := hD
  refine lv_aload_n hx hb dX4_init_30 rfl (lv_at hl 0 rfl) ?_
  refine lv_iconst (v := 4) hx hb dX4_init_31 (by decide) ?_
  refine z_newI hx hb (hts (.arrayClass .int) (by decide +kernel)) hK hP hD hS hA (N := 4) rfl (by decide) (Nat.le_of_ble_eq_true rfl) (Nat.le_of_ble_eq_true rfl) dX4_init_32 (fun rd H hP hD hS => ?_)
  have hP : va_P D vwCl ([(h0, .inr (4, [.ref r1, .ref rj, .ref rp, .null, .int 0, .int 0])), (r1, .inr (3, [.ref (u1 0), .ref (u1 1)])), (u1 0, .inl (ac 0, 4, .inl (upd (upd (upd (upd (fun _ => 0) 0 100) 1 200) 2 3) 3 0))), (u1 1, .inl (ac 0, 4, .inl (upd (upd (upd (upd (fun _ => 0) 0 40) 1 20) 2 10) 3 5))), (rj, .inl (ac 2, 3, .inr (.inr (.inr (.inr (fun _ => none)))))), (rp, .inl (ac 0, 4, .inl (fun _ => 0))), (rd, .inl (ac 0, 4, .inl (fun _ => 0)))]) H := hP
  have hD : va_D A ([(h0, .inr (4, [.ref r1, .ref rj, .ref rp, .null, .int 0, .int 0])), (r1, .inr (3, [.ref (u1 0), .ref (u1 1)])), (u1 0, .inl (ac 0, 4, .inl (upd (upd (upd (upd (fun _ => 0) 0 100) 1 200) 2 3) 3 0))), (u1 1, .inl (ac 0, 4, .inl (upd (upd (upd (upd (fun _ => 0) 0 40) 1 20) 2 10) 3 5))), (rj, .inl (ac 2, 3, .inr (.inr (.inr (.inr (fun _ => none)))))), (rp, .inl (ac 0, 4, .inl (fun _ => 0))), (rd, .inl (ac 0, 4, .inl (fun _ => 0)))]) := hD
  refine va_putF (ci := 4) (v := .ref rd) (ty := tyX4 3) (C := RX4) (T := TX4) (N := 6) hx hb hts (by decide +kernel) tyX4 tyX4_ok nmX4 hown hK hP hD hS 0 rfl rfl 3 (by decide) (hts (.fieldLink RX4 28 "SettlingJars$State" "drawn" "[I") (by decide +kernel)) (fun _ h9 => h9) rfl hnm rfl (tyX4_ok 3 (by decide)) rfl rfl (Nat.le_of_ble_eq_true rfl) dX4_init_34 (fun H locs hP hD hS => ?_)
  have hP : va_P D vwCl ([(h0, .inr (4, [.ref r1, .ref rj, .ref rp, .ref rd, .int 0, .int 0])), (r1, .inr (3, [.ref (u1 0), .ref (u1 1)])), (u1 0, .inl (ac 0, 4, .inl (upd (upd (upd (upd (fun _ => 0) 0 100) 1 200) 2 3) 3 0))), (u1 1, .inl (ac 0, 4, .inl (upd (upd (upd (upd (fun _ => 0) 0 40) 1 20) 2 10) 3 5))), (rj, .inl (ac 2, 3, .inr (.inr (.inr (.inr (fun _ => none)))))), (rp, .inl (ac 0, 4, .inl (fun _ => 0))), (rd, .inl (ac 0, 4, .inl (fun _ => 0)))]) H := hP
  have hD : va_D A ([(h0, .inr (4, [.ref r1, .ref rj, .ref rp, .ref rd, .int 0, .int 0])), (r1, .inr (3, [.ref (u1 0), .ref (u1 1)])), (u1 0, .inl (ac 0, 4, .inl (upd (upd (upd (upd (fun _ => 0) 0 100) 1 200) 2 3) 3 0))), (u1 1, .inl (ac 0, 4, .inl (upd (upd (upd (upd (fun _ => 0) 0 40) 1 20) 2 10) 3 5))), (rj, .inl (ac 2, 3, .inr (.inr (.inr (.inr (fun _ => none)))))), (rp, .inl (ac 0, 4, .inl (fun _ => 0))), (rd, .inl (ac 0, 4, .inl (fun _ => 0)))]) := hD
  refine lv_iconst (v := 0) hx hb dX4_init_37 (by decide) ?_
  refine lv_istore_n (lv' := [(1, .int 0), (0, .ref h0)]) hx hb dX4_init_38 rfl hl (by decide) rfl (fun ls hl => ?_)
  have hit : ∀ (i : Nat), i < 3 → ∀ (f : Nat → Option Nat) (wr : va_W) (H : Heap) (locs : List Loc) (cs sl : Nat) (ls : Array Slot), cs + 2 ≤ 12 → sl + 49 ≤ 168 → va_P D vwCl ([(h0, .inr (4, [.ref r1, .ref rj, .ref rp, .ref rd, .int 0, .int 0])), (rj, .inl (ac 2, 3, .inr (.inr (.inr (.inr f)))))] ++ wr) H → va_D A ([(h0, .inr (4, [.ref r1, .ref rj, .ref rp, .ref rd, .int 0, .int 0])), (rj, .inl (ac 2, 3, .inr (.inr (.inr (.inr f)))))] ++ wr) → va_S A s.heap H locs → lv_has ls 2 [(1, .int (nI i)), (0, .ref h0)] → (∀ (q q1 : Nat) (H : Heap) (locs : List Loc) (ls : Array Slot), va_P D vwCl ([(h0, .inr (4, [.ref r1, .ref rj, .ref rp, .ref rd, .int 0, .int 0])), (rj, .inl (ac 2, 3, .inr (.inr (.inr (.inr (va_up f i (some q)))))))] ++ ([(q, .inr (2, [.ref q1])), (q1, .inl (ac 0, 48, .inl (fun _ => 0)))] ++ wr)) H → va_D A ([(h0, .inr (4, [.ref r1, .ref rj, .ref rp, .ref rd, .int 0, .int 0])), (rj, .inl (ac 2, 3, .inr (.inr (.inr (.inr (va_up f i (some q)))))))] ++ ([(q, .inr (2, [.ref q1])), (q1, .inl (ac 0, 48, .inl (fun _ => 0)))] ++ wr)) → va_S A s.heap H locs → lv_has ls 2 [(1, .int (nI (i + 1))), (0, .ref h0)] → W p l e ({ frames := 2, cells := 12, slots := 168, locals := 32 } : Room) s m args below meth c H locs (cs + 2) (sl + 49) (MQ below (zQs D ac [(h0, .inr (4, [.null, .null, .null, .null, .int 0, .int 0]))] (fun u : Nat → Nat => lB ac (z_at0 h0 u) zI0) sz) args s 12 168 A) (F0 m 39 ls [])) → W p l e ({ frames := 2, cells := 12, slots := 168, locals := 32 } : Room) s m args below meth c H locs cs sl (MQ below (zQs D ac [(h0, .inr (4, [.null, .null, .null, .null, .int 0, .int 0]))] (fun u : Nat → Nat => lB ac (z_at0 h0 u) zI0) sz) args s 12 168 A) (F0 m 39 ls []) := by
    intro i hi f wr H locs cs sl ls hcs hsl hP hD hS hl kk
    refine lv_iload_n hx hb dX4_init_39 rfl (lv_at hl 0 rfl) ?_
    refine lv_iconst (v := 3) hx hb dX4_init_40 (by decide) ?_
    refine z_icmp_ge hx hb i 3 (tgt := 63) dX4_init_41 (by decide) (by omega) (by decide) rfl rfl (fun q => absurd q (by omega)) (fun _ => ?_)
    refine lv_aload_n hx hb dX4_init_44 rfl (lv_at hl 1 rfl) ?_
    refine va_get (ci := 4) (v := .ref rj) (C := RX4) (T := TX4) (N := 6) hx hb hts (by decide +kernel) hown hK hP 0 rfl rfl 1 (by decide) (hts (.fieldLink RX4 20 "SettlingJars$State" "jars" "[LSettlingJars$Jar;") (by decide +kernel)) (fun _ h9 => h9) rfl dX4_init_45 ?_
    refine lv_iload_n hx hb dX4_init_48 rfl (lv_at hl 0 rfl) ?_
    refine va_new (ci := 2) (fs := [.null]) (C := RX2) (T := TX2) (N := 1) hx hb hts (by decide +kernel) tyX2 tyX2_ok hown (hts (.classLink RX4 18 RX2) (by decide +kernel)) (hts (.instantiable RX2 1) (by decide +kernel)) (hts (.initialized RX2) (by decide +kernel)) hK hP hD hS hA rfl (fun j hj => by rcases (show j = 0 by omega) with rfl <;> rfl) (by show cs + 1 ≤ 12; omega) (by show sl + 1 ≤ 168; omega) dX4_init_49 (fun q H hP hD hS => ?_)
    refine lv_dup hx hb dX4_init_52 rfl ?_
    refine z_ctor (w := [(h0, .inr (4, [.ref r1, .ref rj, .ref rp, .ref rd, .int 0, .int 0])), (rj, .inl (ac 2, 3, .inr (.inr (.inr (.inr f)))))] ++ wr) (va_runIN (As := []) (rest := [.ref q, .int (nI i), .ref rj]) ⟨hx, hb, hml, hown, hts⟩ (metX2_init l D ac _ q) ⟨va_cnB 0 hts gX4_init_X2_init_n31 rfl rfl rfl hN.1.2.1 (hts (.initialized RX2) (by decide +kernel)) (by decide +kernel) ⟨Nat.le_of_ble_eq_true rfl, Nat.le_of_ble_eq_true rfl⟩, rfl, hts (.instanceMethod yX2_init) (by decide +kernel)⟩ (z_preC hK hP hD) rfl rfl hl.1 rfl (lv_room (Nat.le_of_ble_eq_true rfl)) dX4_init_53 ⟨by show cs + 1 + 1 ≤ 12; omega, by show sl + 1 + 48 ≤ 168; omega⟩) hP hD hS hA (fun u2 H locs hP hD hS => ?_)
    have hpm : List.Perm ((([(h0, .inr (4, [.ref r1, .ref rj, .ref rp, .ref rd, .int 0, .int 0])), (rj, .inl (ac 2, 3, .inr (.inr (.inr (.inr f)))))] ++ wr) ++ [(q, .inr (2, [.ref (u2 0)])), ((u2 0), .inl (ac 0, 48, .inl (fun _ => 0)))] : va_W)) ([(h0, .inr (4, [.ref r1, .ref rj, .ref rp, .ref rd, .int 0, .int 0])), (rj, .inl (ac 2, 3, .inr (.inr (.inr (.inr f)))))] ++ ([(q, .inr (2, [.ref (u2 0)])), ((u2 0), .inl (ac 0, 48, .inl (fun _ => 0)))] ++ wr)) := by rw [List.append_assoc]; exact List.Perm.append_left _ List.perm_append_comm
    replace hP := z_Pperm hpm hP
    replace hD := z_Dperm hpm hD
    refine z_astQ hx hb hK hP hD hS 1 2 2 2 (r := (RX2, TX2, 1)) rfl rfl rfl rfl i rfl hi (by decide) dX4_init_56 (fun H locs hP hD hS => ?_)
    refine lv_iinc (v := nI (i + 1)) (lv' := [(1, .int (nI (i + 1))), (0, .ref h0)]) hx hb dX4_init_57 hl (k := 0) rfl (nI_add i 1) (by decide) rfl (fun ls hl => ?_)
    refine lv_goto (tgt := 39) hx hb dX4_init_60 (by decide) ?_
    exact kk q (u2 0) H locs ls hP hD hS hl
  have hP0 : va_P D vwCl ([(h0, .inr (4, [.ref r1, .ref rj, .ref rp, .ref rd, .int 0, .int 0])), (rj, .inl (ac 2, 3, .inr (.inr (.inr (.inr (fun _ => none))))))] ++ [(r1, .inr (3, [.ref (u1 0), .ref (u1 1)])), (u1 0, .inl (ac 0, 4, .inl (upd (upd (upd (upd (fun _ => 0) 0 100) 1 200) 2 3) 3 0))), (u1 1, .inl (ac 0, 4, .inl (upd (upd (upd (upd (fun _ => 0) 0 40) 1 20) 2 10) 3 5))), (rp, .inl (ac 0, 4, .inl (fun _ => 0))), (rd, .inl (ac 0, 4, .inl (fun _ => 0)))]) H := hP.sub [0, 4, 1, 2, 3, 5, 6] rfl
  have hD0 : va_D A ([(h0, .inr (4, [.ref r1, .ref rj, .ref rp, .ref rd, .int 0, .int 0])), (rj, .inl (ac 2, 3, .inr (.inr (.inr (.inr (fun _ => none))))))] ++ [(r1, .inr (3, [.ref (u1 0), .ref (u1 1)])), (u1 0, .inl (ac 0, 4, .inl (upd (upd (upd (upd (fun _ => 0) 0 100) 1 200) 2 3) 3 0))), (u1 1, .inl (ac 0, 4, .inl (upd (upd (upd (upd (fun _ => 0) 0 40) 1 20) 2 10) 3 5))), (rp, .inl (ac 0, 4, .inl (fun _ => 0))), (rd, .inl (ac 0, 4, .inl (fun _ => 0)))]) := hD.sub [0, 4, 1, 2, 3, 5, 6] (by decide) rfl
  refine hit 0 (by decide) _ _ H locs _ _ ls (Nat.le_of_ble_eq_true rfl) (Nat.le_of_ble_eq_true rfl) hP0 hD0 hS hl (fun q0 g0 H locs ls hP hD hS hl => ?_)
  refine hit 1 (by decide) _ _ H locs _ _ ls (Nat.le_of_ble_eq_true rfl) (Nat.le_of_ble_eq_true rfl) hP hD hS hl (fun q1 g1 H locs ls hP hD hS hl => ?_)
  refine hit 2 (by decide) _ _ H locs _ _ ls (Nat.le_of_ble_eq_true rfl) (Nat.le_of_ble_eq_true rfl) hP hD hS hl (fun q2 g2 H locs ls hP hD hS hl => ?_)
  refine lv_iload_n hx hb dX4_init_39 rfl (lv_at hl 0 rfl) ?_
  refine lv_iconst (v := 3) hx hb dX4_init_40 (by decide) ?_
  refine z_icmp_ge hx hb 3 3 (tgt := 63) dX4_init_41 (by decide) (by decide) (by decide) rfl rfl (fun _ => ?_) (fun q => absurd q (by omega))
  have hP1 := z_pextq (f2 := zJ3 q0 q1 q2) 1 rfl (fun k hk => by rcases z_cases3 hk with rfl | rfl | rfl <;> rfl) hP
  have hP2 : va_P D vwCl (lA ac (z_at0 h0 (lU [0, r1, u1 0, u1 1, rj, q0, q1, q2, g0, g1, g2, rp, rd])) (upd (upd (upd (upd (fun _ => 0) 0 100) 1 200) 2 3) 3 0) (upd (upd (upd (upd (fun _ => 0) 0 40) 1 20) 2 10) 3 5) (fun _ => 0) (fun _ => 0) (fun _ => 0) (fun _ => 0) (fun _ => 0) 0 0) H := hP1.sub [0, 8, 9, 10, 1, 6, 7, 4, 5, 2, 3, 11, 12] rfl
  have hP3 := lA_view zI0_view hP2
  have hD1 : va_D A ([(h0, .inr (4, [.ref r1, .ref rj, .ref rp, .ref rd, .int 0, .int 0])), (rj, .inl (ac 2, 3, .inr (.inr (.inr (.inr (zJ3 q0 q1 q2))))))] ++ ([(q2, .inr (2, [.ref g2])), (g2, .inl (ac 0, 48, .inl (fun _ => 0)))] ++ ([(q1, .inr (2, [.ref g1])), (g1, .inl (ac 0, 48, .inl (fun _ => 0)))] ++ ([(q0, .inr (2, [.ref g0])), (g0, .inl (ac 0, 48, .inl (fun _ => 0)))] ++ [(r1, .inr (3, [.ref (u1 0), .ref (u1 1)])), (u1 0, .inl (ac 0, 4, .inl (upd (upd (upd (upd (fun _ => 0) 0 100) 1 200) 2 3) 3 0))), (u1 1, .inl (ac 0, 4, .inl (upd (upd (upd (upd (fun _ => 0) 0 40) 1 20) 2 10) 3 5))), (rp, .inl (ac 0, 4, .inl (fun _ => 0))), (rd, .inl (ac 0, 4, .inl (fun _ => 0)))])))) := z_Dfst (by rfl) hD
  have hD2 : va_D A (lA ac (z_at0 h0 (lU [0, r1, u1 0, u1 1, rj, q0, q1, q2, g0, g1, g2, rp, rd])) (upd (upd (upd (upd (fun _ => 0) 0 100) 1 200) 2 3) 3 0) (upd (upd (upd (upd (fun _ => 0) 0 40) 1 20) 2 10) 3 5) (fun _ => 0) (fun _ => 0) (fun _ => 0) (fun _ => 0) (fun _ => 0) 0 0) := hD1.sub [0, 8, 9, 10, 1, 6, 7, 4, 5, 2, 3, 11, 12] (by decide) rfl
  have hD3 : va_D A (lB ac (z_at0 h0 (lU [0, r1, u1 0, u1 1, rj, q0, q1, q2, g0, g1, g2, rp, rd])) zI0) := z_Dfst lA_fst hD2
  exact z_vretS (lU [0, r1, u1 0, u1 1, rj, q0, q1, q2, g0, g1, g2, rp, rd]) hx hb hr hlocks hK hP3 hD3 hS hAe dX4_init_63
set_option maxRecDepth 100000 in
set_option maxHeartbeats 4000000 in
theorem metX1_init (l : Launch) (D : va_G) (ac : Nat → ClassId) (sz : Nat) (h0 : Nat) : Met l yX1_init wsX1_init ({ frames := 3, cells := 79, slots := 1050, locals := 53 } : Room) (va_Pc [.ref h0] (zSN D ac [(h0, .inr (1, [.null, .int 0, .int 0]))] sz)) (zQs D ac [(h0, .inr (1, [.null, .int 0, .int 0]))] (fun u : Nat × (Nat → Nat → Nat) => [(h0, .inr (1, [.ref u.1, .int 0, .int 0])), (u.1, .inl (ac 3, 6, .inr (.inr (.inr (.inr (fun i => if i < 6 then some (u.2 i 0) else none))))))] ++ (List.range 6).flatMap (fun i => lB ac (u.2 i) zI0)) sz) 79 1050 (va_A [(h0, .inr (1, [.null, .int 0, .int 0]))] sz) := by
  refine z_rwN (cc := cX1_init) (maxL := 2) (ret := none) (lv := [(0, .ref h0)]) (by decide) rfl (Nat.le_of_ble_eq_true rfl) rfl ?_
  intro p e s m args below meth c ls A hx hb hr hml hown hts hlocks hl hK hP hsz hAe hA hD hS hnm hN
  refine lv_aload_n hx hb dX1_init_0 rfl (lv_at hl 0 rfl) ?_
  refine z_obj (own := RX1) hx hb hown (hts (.methodLink RX1 1 objectInit) (by decide +kernel)) (hts (.instanceMethod objectInit) (by decide +kernel)) (hts (.code objectInit ⟨#[0xb1]⟩ 1 none) (by decide +kernel)) (hl.1.trans hml.symm) dX1_init_1 (Nat.le_of_ble_eq_true rfl) (Nat.le_of_ble_eq_true rfl) ?_
  refine lv_aload_n hx hb dX1_init_4 rfl (lv_at hl 0 rfl) ?_
  refine lv_bipush (v := 6) hx hb dX1_init_5 (by decide) ?_
  refine z_newQ (C := "SettlingJars$State") hx hb hown (hts (.classLink RX1 9 RX4) (by decide +kernel)) hN.2.2 hK hP hD hS hA (N := 6) rfl (by decide) 3 rfl (Nat.le_of_ble_eq_true rfl) (Nat.le_of_ble_eq_true rfl) dX1_init_7 (fun r H hP hD hS => ?_)
  have hP : va_P D vwCl ([(h0, .inr (1, [.null, .int 0, .int 0])), (r, .inl (ac 3, 6, .inr (.inr (.inr (.inr (fun _ => none))))))]) H := hP
  have hD : va_D A ([(h0, .inr (1, [.null, .int 0, .int 0])), (r, .inl (ac 3, 6, .inr (.inr (.inr (.inr (fun _ => none))))))]) := hD
  refine va_putF (ci := 1) (v := .ref r) (ty := tyX1 0) (C := RX1) (T := TX1) (N := 3) hx hb hts (by decide +kernel) tyX1 tyX1_ok nmX1 hown hK hP hD hS 0 rfl rfl 0 (by decide) (hts (.fieldLink RX1 11 "SettlingJars$History" "saved" "[LSettlingJars$State;") (by decide +kernel)) (fun _ h9 => h9) rfl hnm rfl (tyX1_ok 0 (by decide)) rfl rfl (Nat.le_of_ble_eq_true rfl) dX1_init_10 (fun H locs hP hD hS => ?_)
  have hP : va_P D vwCl ([(h0, .inr (1, [.ref r, .int 0, .int 0])), (r, .inl (ac 3, 6, .inr (.inr (.inr (.inr (fun _ => none))))))] ++ []) H := hP
  have hD : va_D A ([(h0, .inr (1, [.ref r, .int 0, .int 0])), (r, .inl (ac 3, 6, .inr (.inr (.inr (.inr (fun _ => none))))))] ++ []) := hD
  refine lv_iconst (v := 0) hx hb dX1_init_13 (by decide) ?_
  refine lv_istore_n (lv' := [(1, .int 0), (0, .ref h0)]) hx hb dX1_init_14 rfl hl (by decide) rfl (fun ls hl => ?_)
  have hit : ∀ (i : Nat), i < 6 → ∀ (f : Nat → Option Nat) (wr : va_W) (H : Heap) (locs : List Loc) (cs sl : Nat) (ls : Array Slot), cs + 13 ≤ 79 → sl + 174 ≤ 1050 → va_P D vwCl ([(h0, .inr (1, [.ref r, .int 0, .int 0])), (r, .inl (ac 3, 6, .inr (.inr (.inr (.inr (f))))))] ++ wr) H → va_D A ([(h0, .inr (1, [.ref r, .int 0, .int 0])), (r, .inl (ac 3, 6, .inr (.inr (.inr (.inr (f))))))] ++ wr) → va_S A s.heap H locs → lv_has ls 2 [(1, .int (nI i)), (0, .ref h0)] → (∀ (t : Nat → Nat) (H : Heap) (locs : List Loc) (ls : Array Slot), va_P D vwCl ([(h0, .inr (1, [.ref r, .int 0, .int 0])), (r, .inl (ac 3, 6, .inr (.inr (.inr (.inr (va_up f i (some (t 0))))))))] ++ (lB ac t zI0 ++ wr)) H → va_D A ([(h0, .inr (1, [.ref r, .int 0, .int 0])), (r, .inl (ac 3, 6, .inr (.inr (.inr (.inr (va_up f i (some (t 0))))))))] ++ (lB ac t zI0 ++ wr)) → va_S A s.heap H locs → lv_has ls 2 [(1, .int (nI (i + 1))), (0, .ref h0)] → W p l e ({ frames := 3, cells := 79, slots := 1050, locals := 53 } : Room) s m args below meth c H locs (cs + 13) (sl + 174) (MQ below (zQs D ac [(h0, .inr (1, [.null, .int 0, .int 0]))] (fun u : Nat × (Nat → Nat → Nat) => [(h0, .inr (1, [.ref u.1, .int 0, .int 0])), (u.1, .inl (ac 3, 6, .inr (.inr (.inr (.inr (fun i => if i < 6 then some (u.2 i 0) else none))))))] ++ (List.range 6).flatMap (fun i => lB ac (u.2 i) zI0)) sz) args s 79 1050 A) (F0 m 15 ls [])) → W p l e ({ frames := 3, cells := 79, slots := 1050, locals := 53 } : Room) s m args below meth c H locs cs sl (MQ below (zQs D ac [(h0, .inr (1, [.null, .int 0, .int 0]))] (fun u : Nat × (Nat → Nat → Nat) => [(h0, .inr (1, [.ref u.1, .int 0, .int 0])), (u.1, .inl (ac 3, 6, .inr (.inr (.inr (.inr (fun i => if i < 6 then some (u.2 i 0) else none))))))] ++ (List.range 6).flatMap (fun i => lB ac (u.2 i) zI0)) sz) args s 79 1050 A) (F0 m 15 ls []) := by
    intro i hi f wr H locs cs sl ls hcs hsl hP hD hS hl kk
    refine lv_iload_n hx hb dX1_init_15 rfl (lv_at hl 0 rfl) ?_
    refine lv_bipush (v := 6) hx hb dX1_init_16 (by decide) ?_
    refine z_icmp_ge hx hb i 6 (tgt := 40) dX1_init_18 (by decide) (by omega) (by decide) rfl rfl (fun q => absurd q (by omega)) (fun _ => ?_)
    refine lv_aload_n hx hb dX1_init_21 rfl (lv_at hl 1 rfl) ?_
    refine va_get (ci := 1) (v := .ref r) (C := RX1) (T := TX1) (N := 3) hx hb hts (by decide +kernel) hown hK hP 0 rfl rfl 0 (by decide) (hts (.fieldLink RX1 11 "SettlingJars$History" "saved" "[LSettlingJars$State;") (by decide +kernel)) (fun _ h9 => h9) rfl dX1_init_22 ?_
    refine lv_iload_n hx hb dX1_init_25 rfl (lv_at hl 0 rfl) ?_
    refine va_new (ci := 4) (fs := [.null, .null, .null, .null, .int 0, .int 0]) (C := RX4) (T := TX4) (N := 6) hx hb hts (by decide +kernel) tyX4 tyX4_ok hown (hts (.classLink RX1 9 RX4) (by decide +kernel)) (hts (.instantiable RX4 6) (by decide +kernel)) (hts (.initialized RX4) (by decide +kernel)) hK hP hD hS hA rfl (fun j hj => by rcases (show j = 0 ∨ j = 1 ∨ j = 2 ∨ j = 3 ∨ j = 4 ∨ j = 5 by omega) with rfl | rfl | rfl | rfl | rfl | rfl <;> rfl) (by show cs + 1 ≤ 79; omega) (by show sl + 6 ≤ 1050; omega) dX1_init_26 (fun q H hP hD hS => ?_)
    refine lv_dup hx hb dX1_init_29 rfl ?_
    refine z_ctor (w := [(h0, .inr (1, [.ref r, .int 0, .int 0])), (r, .inl (ac 3, 6, .inr (.inr (.inr (.inr (f))))))] ++ wr) (va_runI (As := []) (rest := [.ref q, .int (nI i), .ref r]) ⟨hx, hb, hml, hown, hts⟩ (metX4_init l D ac _ q) (cwI 0 hts gX1_init_X4_init rfl rfl rfl (hts (.initialized RX4) (by decide +kernel)) (hts (.methodLink RX1 15 yX4_init) (by decide +kernel)) (hts (.instanceMethod yX4_init) (by decide +kernel)) rfl (by decide +kernel) ⟨Nat.le_of_ble_eq_true rfl, Nat.le_of_ble_eq_true rfl⟩) (z_preCN hN hK hP hD) rfl rfl hl.1 rfl (lv_room (Nat.le_of_ble_eq_true rfl)) dX1_init_30 ⟨by show cs + 1 + 12 ≤ 79; omega, by show sl + 6 + 168 ≤ 1050; omega⟩) hP hD hS hA (fun u2 H locs hP hD hS => ?_)
    have hpm : List.Perm ((([(h0, .inr (1, [.ref r, .int 0, .int 0])), (r, .inl (ac 3, 6, .inr (.inr (.inr (.inr (f))))))] ++ wr) ++ lB ac (z_at0 q u2) zI0 : va_W)) ([(h0, .inr (1, [.ref r, .int 0, .int 0])), (r, .inl (ac 3, 6, .inr (.inr (.inr (.inr (f))))))] ++ (lB ac (z_at0 q u2) zI0 ++ wr)) := by rw [List.append_assoc]; exact List.Perm.append_left _ List.perm_append_comm
    replace hP := z_Pperm hpm hP
    replace hD := z_Dperm hpm hD
    refine z_astQ hx hb hK hP hD hS 1 3 2 4 (r := (RX4, TX4, 6)) rfl rfl rfl rfl i rfl hi (by decide) dX1_init_33 (fun H locs hP hD hS => ?_)
    refine lv_iinc (v := nI (i + 1)) (lv' := [(1, .int (nI (i + 1))), (0, .ref h0)]) hx hb dX1_init_34 hl (k := 0) rfl (nI_add i 1) (by decide) rfl (fun ls hl => ?_)
    refine lv_goto (tgt := 15) hx hb dX1_init_37 (by decide) ?_
    exact kk (z_at0 q u2) H locs ls hP hD hS hl
  refine hit 0 (by decide) _ _ H locs _ _ ls (Nat.le_of_ble_eq_true rfl) (Nat.le_of_ble_eq_true rfl) hP hD hS hl (fun t0 H locs ls hP hD hS hl => ?_)
  refine hit 1 (by decide) _ _ H locs _ _ ls (Nat.le_of_ble_eq_true rfl) (Nat.le_of_ble_eq_true rfl) hP hD hS hl (fun t1 H locs ls hP hD hS hl => ?_)
  refine hit 2 (by decide) _ _ H locs _ _ ls (Nat.le_of_ble_eq_true rfl) (Nat.le_of_ble_eq_true rfl) hP hD hS hl (fun t2 H locs ls hP hD hS hl => ?_)
  refine hit 3 (by decide) _ _ H locs _ _ ls (Nat.le_of_ble_eq_true rfl) (Nat.le_of_ble_eq_true rfl) hP hD hS hl (fun t3 H locs ls hP hD hS hl => ?_)
  refine hit 4 (by decide) _ _ H locs _ _ ls (Nat.le_of_ble_eq_true rfl) (Nat.le_of_ble_eq_true rfl) hP hD hS hl (fun t4 H locs ls hP hD hS hl => ?_)
  refine hit 5 (by decide) _ _ H locs _ _ ls (Nat.le_of_ble_eq_true rfl) (Nat.le_of_ble_eq_true rfl) hP hD hS hl (fun t5 H locs ls hP hD hS hl => ?_)
  refine lv_iload_n hx hb dX1_init_15 rfl (lv_at hl 0 rfl) ?_
  refine lv_bipush (v := 6) hx hb dX1_init_16 (by decide) ?_
  refine z_icmp_ge hx hb 6 6 (tgt := 40) dX1_init_18 (by decide) (by decide) (by decide) rfl rfl (fun _ => ?_) (fun q => absurd q (by omega))
  obtain ⟨aa, haa⟩ : ∃ aa : Nat → Nat → Nat, aa = fun i => [t0, t1, t2, t3, t4, t5].getD i t0 := ⟨_, rfl⟩
  have hP1 := z_pextq (f2 := fun i => if i < 6 then some (aa i 0) else none) 1 rfl (fun k hk => by rw [haa]; rcases z_cases6 hk with rfl | rfl | rfl | rfl | rfl | rfl <;> rfl) hP
  have hP2 : va_P D vwCl ([(h0, .inr (1, [.ref r, .int 0, .int 0])), (r, .inl (ac 3, 6, .inr (.inr (.inr (.inr (fun i => if i < 6 then some (aa i 0) else none))))))] ++ (lB ac t5 zI0 ++ (lB ac t4 zI0 ++ (lB ac t3 zI0 ++ (lB ac t2 zI0 ++ (lB ac t1 zI0 ++ (lB ac t0 zI0 ++ []))))))) H := hP1
  have hD2 : va_D A ([(h0, .inr (1, [.ref r, .int 0, .int 0])), (r, .inl (ac 3, 6, .inr (.inr (.inr (.inr (fun i => if i < 6 then some (aa i 0) else none))))))] ++ (lB ac t5 zI0 ++ (lB ac t4 zI0 ++ (lB ac t3 zI0 ++ (lB ac t2 zI0 ++ (lB ac t1 zI0 ++ (lB ac t0 zI0 ++ []))))))) := z_Dfst (by rfl) hD
  have hpm : List.Perm (lB ac t5 zI0 ++ (lB ac t4 zI0 ++ (lB ac t3 zI0 ++ (lB ac t2 zI0 ++ (lB ac t1 zI0 ++ (lB ac t0 zI0 ++ []))))) : va_W) ((List.range 6).flatMap (fun i => lB ac (aa i) zI0)) := by
    subst haa
    exact (List.reverse_perm [t0, t1, t2, t3, t4, t5]).flatMap_right (fun t => lB ac t zI0)
  have hpm2 := List.Perm.append_left [(h0, .inr (1, [.ref r, .int 0, .int 0])), (r, .inl (ac 3, 6, .inr (.inr (.inr (.inr (fun i => if i < 6 then some (aa i 0) else none))))))] hpm
  exact z_vretS (r, aa) hx hb hr hlocks hK (z_Pperm hpm2 hP2) (z_Dperm hpm2 hD2) hS hAe dX1_init_40
set_option maxRecDepth 100000 in
set_option maxHeartbeats 4000000 in
theorem metX5_init (l : Launch) (D : va_G) (ac : Nat → ClassId) (sz : Nat) (h0 : Nat) : Met l yX5_init wsX5_init ({ frames := 4, cells := 97, slots := 1338, locals := 74 } : Room) (va_Pc [.ref h0] (zSN D ac [(h0, .inr (5, [.null, .null, .null, .null]))] sz)) (zQs D ac [(h0, .inr (5, [.null, .null, .null, .null]))] (fun u : (Nat → Nat) × (Nat → Nat → Nat) × (Nat → Nat) => ((([(h0, .inr (5, [.ref (u.1 0), .ref (u.2.2 1), .ref (u.2.2 3), .ref (u.2.2 5)]))] ++ lB ac u.1 zI0) ++ ([(u.2.2 1, .inr (1, [.ref (u.2.2 2), .int 0, .int 0])), ((u.2.2 2), .inl (ac 3, 6, .inr (.inr (.inr (.inr (fun i => if i < 6 then some (u.2.1 i 0) else none))))))] ++ (List.range 6).flatMap (fun i => lB ac (u.2.1 i) zI0))) ++ [(u.2.2 3, .inr (0, [.ref (u.2.2 4), .int 0])), ((u.2.2 4), .inl (ac 1, 60, .inl (fun _ => 0)))]) ++ [(u.2.2 5, .inr (2, [.ref (u.2.2 6)])), ((u.2.2 6), .inl (ac 0, 48, .inl (fun _ => 0)))]) sz) 97 1338 (va_A [(h0, .inr (5, [.null, .null, .null, .null]))] sz) := by
  refine z_rwN (cc := cX5_init) (maxL := 1) (ret := none) (lv := [(0, .ref h0)]) (by decide) rfl (Nat.le_of_ble_eq_true rfl) rfl ?_
  intro p e s m args below meth c ls A hx hb hr hml hown hts hlocks hl hK hP hsz hAe hA hD hS hnm hN
  refine lv_aload_n hx hb dX5_init_0 rfl (lv_at hl 0 rfl) ?_
  refine z_obj (own := RX5) hx hb hown (hts (.methodLink RX5 3 objectInit) (by decide +kernel)) (hts (.instanceMethod objectInit) (by decide +kernel)) (hts (.code objectInit ⟨#[0xb1]⟩ 1 none) (by decide +kernel)) (hl.1.trans hml.symm) dX5_init_1 (Nat.le_of_ble_eq_true rfl) (Nat.le_of_ble_eq_true rfl) ?_
  refine lv_aload_n hx hb dX5_init_4 rfl (lv_at hl 0 rfl) ?_
  refine va_new (ci := 4) (fs := [.null, .null, .null, .null, .int 0, .int 0]) (C := RX4) (T := TX4) (N := 6) hx hb hts (by decide +kernel) tyX4 tyX4_ok hown (hts (.classLink RX5 9 RX4) (by decide +kernel)) (hts (.instantiable RX4 6) (by decide +kernel)) (hts (.initialized RX4) (by decide +kernel)) hK hP hD hS hA rfl (fun j hj => by rcases (show j = 0 ∨ j = 1 ∨ j = 2 ∨ j = 3 ∨ j = 4 ∨ j = 5 by omega) with rfl | rfl | rfl | rfl | rfl | rfl <;> rfl) (Nat.le_of_ble_eq_true rfl) (Nat.le_of_ble_eq_true rfl) dX5_init_5 (fun n0 H hP hD hS => ?_)
  have hP : va_P D vwCl (([(h0, .inr (5, [.null, .null, .null, .null]))]) ++ [(n0, .inr (4, [.null, .null, .null, .null, .int 0, .int 0]))]) H := hP
  have hD : va_D A (([(h0, .inr (5, [.null, .null, .null, .null]))]) ++ [(n0, .inr (4, [.null, .null, .null, .null, .int 0, .int 0]))]) := hD
  refine lv_dup hx hb dX5_init_8 rfl ?_
  refine z_ctor (w := [(h0, .inr (5, [.null, .null, .null, .null]))]) (va_runI (As := []) (rest := [.ref n0, .ref h0]) ⟨hx, hb, hml, hown, hts⟩ (metX4_init l D ac _ n0) (cwI 0 hts gX5_init_X4_init rfl rfl rfl (hts (.initialized RX4) (by decide +kernel)) (hts (.methodLink RX5 11 yX4_init) (by decide +kernel)) (hts (.instanceMethod yX4_init) (by decide +kernel)) rfl (by decide +kernel) ⟨Nat.le_of_ble_eq_true rfl, Nat.le_of_ble_eq_true rfl⟩) (z_preCN hN hK hP hD) rfl rfl hl.1 rfl (lv_room (Nat.le_of_ble_eq_true rfl)) dX5_init_9 ⟨Nat.le_of_ble_eq_true rfl, Nat.le_of_ble_eq_true rfl⟩) hP hD hS hA (fun u1 H locs hP hD hS => ?_)
  have hP : va_P D vwCl (([(h0, .inr (5, [.null, .null, .null, .null]))]) ++ lB ac (z_at0 n0 u1) zI0) H := hP
  have hD : va_D A (([(h0, .inr (5, [.null, .null, .null, .null]))]) ++ lB ac (z_at0 n0 u1) zI0) := hD
  refine va_putF (ci := 5) (v := .ref n0) (ty := tyX5 0) (C := RX5) (T := TX5) (N := 4) hx hb hts (by decide +kernel) tyX5 tyX5_ok nmX5 hown hK hP hD hS 0 rfl rfl 0 (by decide) (hts (.fieldLink RX5 12 "SettlingJars" "now" "LSettlingJars$State;") (by decide +kernel)) (fun _ h9 => h9) rfl hnm rfl (tyX5_ok 0 (by decide)) rfl rfl (Nat.le_of_ble_eq_true rfl) dX5_init_12 (fun H locs hP hD hS => ?_)
  have hP : va_P D vwCl (([(h0, .inr (5, [.ref n0, .null, .null, .null]))]) ++ lB ac (z_at0 n0 u1) zI0) H := hP
  have hD : va_D A (([(h0, .inr (5, [.ref n0, .null, .null, .null]))]) ++ lB ac (z_at0 n0 u1) zI0) := hD
  refine lv_aload_n hx hb dX5_init_15 rfl (lv_at hl 0 rfl) ?_
  refine va_new (ci := 1) (fs := [.null, .int 0, .int 0]) (C := RX1) (T := TX1) (N := 3) hx hb hts (by decide +kernel) tyX1 tyX1_ok hown (hts (.classLink RX5 16 RX1) (by decide +kernel)) (hts (.instantiable RX1 3) (by decide +kernel)) (hts (.initialized RX1) (by decide +kernel)) hK hP hD hS hA rfl (fun j hj => by rcases (show j = 0 ∨ j = 1 ∨ j = 2 by omega) with rfl | rfl | rfl <;> rfl) (Nat.le_of_ble_eq_true rfl) (Nat.le_of_ble_eq_true rfl) dX5_init_16 (fun y0 H hP hD hS => ?_)
  refine lv_dup hx hb dX5_init_19 rfl ?_
  refine z_ctor (w := ([(h0, .inr (5, [.ref n0, .null, .null, .null]))]) ++ lB ac (z_at0 n0 u1) zI0) (va_runI (As := []) (rest := [.ref y0, .ref h0]) ⟨hx, hb, hml, hown, hts⟩ (metX1_init l D ac _ y0) (cwI 0 hts gX5_init_X1_init rfl rfl rfl (hts (.initialized RX1) (by decide +kernel)) (hts (.methodLink RX5 18 yX1_init) (by decide +kernel)) (hts (.instanceMethod yX1_init) (by decide +kernel)) rfl (by decide +kernel) ⟨Nat.le_of_ble_eq_true rfl, Nat.le_of_ble_eq_true rfl⟩) (z_preCN hN hK hP hD) rfl rfl hl.1 rfl (lv_room (Nat.le_of_ble_eq_true rfl)) dX5_init_20 ⟨Nat.le_of_ble_eq_true rfl, Nat.le_of_ble_eq_true rfl⟩) hP hD hS hA (fun u2 H locs hP hD hS => ?_)
  have hP : va_P D vwCl ((([(h0, .inr (5, [.ref n0, .null, .null, .null]))]) ++ lB ac (z_at0 n0 u1) zI0) ++ ([(y0, .inr (1, [.ref u2.1, .int 0, .int 0])), (u2.1, .inl (ac 3, 6, .inr (.inr (.inr (.inr (fun i => if i < 6 then some (u2.2 i 0) else none))))))] ++ (List.range 6).flatMap (fun i => lB ac (u2.2 i) zI0))) H := hP
  have hD : va_D A ((([(h0, .inr (5, [.ref n0, .null, .null, .null]))]) ++ lB ac (z_at0 n0 u1) zI0) ++ ([(y0, .inr (1, [.ref u2.1, .int 0, .int 0])), (u2.1, .inl (ac 3, 6, .inr (.inr (.inr (.inr (fun i => if i < 6 then some (u2.2 i 0) else none))))))] ++ (List.range 6).flatMap (fun i => lB ac (u2.2 i) zI0))) := hD
  refine va_putF (ci := 5) (v := .ref y0) (ty := tyX5 1) (C := RX5) (T := TX5) (N := 4) hx hb hts (by decide +kernel) tyX5 tyX5_ok nmX5 hown hK hP hD hS 0 rfl rfl 1 (by decide) (hts (.fieldLink RX5 19 "SettlingJars" "history" "LSettlingJars$History;") (by decide +kernel)) (fun _ h9 => h9) rfl hnm rfl (tyX5_ok 1 (by decide)) rfl rfl (Nat.le_of_ble_eq_true rfl) dX5_init_23 (fun H locs hP hD hS => ?_)
  have hP : va_P D vwCl ((([(h0, .inr (5, [.ref n0, .ref y0, .null, .null]))]) ++ lB ac (z_at0 n0 u1) zI0) ++ ([(y0, .inr (1, [.ref u2.1, .int 0, .int 0])), (u2.1, .inl (ac 3, 6, .inr (.inr (.inr (.inr (fun i => if i < 6 then some (u2.2 i 0) else none))))))] ++ (List.range 6).flatMap (fun i => lB ac (u2.2 i) zI0))) H := hP
  have hD : va_D A ((([(h0, .inr (5, [.ref n0, .ref y0, .null, .null]))]) ++ lB ac (z_at0 n0 u1) zI0) ++ ([(y0, .inr (1, [.ref u2.1, .int 0, .int 0])), (u2.1, .inl (ac 3, 6, .inr (.inr (.inr (.inr (fun i => if i < 6 then some (u2.2 i 0) else none))))))] ++ (List.range 6).flatMap (fun i => lB ac (u2.2 i) zI0))) := hD
  refine lv_aload_n hx hb dX5_init_26 rfl (lv_at hl 0 rfl) ?_
  refine va_new (ci := 0) (fs := [.null, .int 0]) (C := RX0) (T := TX0) (N := 2) hx hb hts (by decide +kernel) tyX0 tyX0_ok hown (hts (.classLink RX5 23 RX0) (by decide +kernel)) (hts (.instantiable RX0 2) (by decide +kernel)) (hts (.initialized RX0) (by decide +kernel)) hK hP hD hS hA rfl (fun j hj => by rcases (show j = 0 ∨ j = 1 by omega) with rfl | rfl <;> rfl) (Nat.le_of_ble_eq_true rfl) (Nat.le_of_ble_eq_true rfl) dX5_init_27 (fun ch H hP hD hS => ?_)
  refine lv_dup hx hb dX5_init_30 rfl ?_
  refine z_ctor (w := (([(h0, .inr (5, [.ref n0, .ref y0, .null, .null]))]) ++ lB ac (z_at0 n0 u1) zI0) ++ ([(y0, .inr (1, [.ref u2.1, .int 0, .int 0])), (u2.1, .inl (ac 3, 6, .inr (.inr (.inr (.inr (fun i => if i < 6 then some (u2.2 i 0) else none))))))] ++ (List.range 6).flatMap (fun i => lB ac (u2.2 i) zI0))) (va_runIN (As := []) (rest := [.ref ch, .ref h0]) ⟨hx, hb, hml, hown, hts⟩ (metX0_init l D ac _ ch) ⟨va_cnB 0 hts gX5_init_X0_init_n25 rfl rfl rfl hN.1.2.2.1 (hts (.initialized RX0) (by decide +kernel)) (by decide +kernel) ⟨Nat.le_of_ble_eq_true rfl, Nat.le_of_ble_eq_true rfl⟩, rfl, hts (.instanceMethod yX0_init) (by decide +kernel)⟩ (z_preC hK hP hD) rfl rfl hl.1 rfl (lv_room (Nat.le_of_ble_eq_true rfl)) dX5_init_31 ⟨Nat.le_of_ble_eq_true rfl, Nat.le_of_ble_eq_true rfl⟩) hP hD hS hA (fun u3 H locs hP hD hS => ?_)
  have hP : va_P D vwCl (((([(h0, .inr (5, [.ref n0, .ref y0, .null, .null]))]) ++ lB ac (z_at0 n0 u1) zI0) ++ ([(y0, .inr (1, [.ref u2.1, .int 0, .int 0])), (u2.1, .inl (ac 3, 6, .inr (.inr (.inr (.inr (fun i => if i < 6 then some (u2.2 i 0) else none))))))] ++ (List.range 6).flatMap (fun i => lB ac (u2.2 i) zI0))) ++ [(ch, .inr (0, [.ref (u3 0), .int 0])), ((u3 0), .inl (ac 1, 60, .inl (fun _ => 0)))]) H := hP
  have hD : va_D A (((([(h0, .inr (5, [.ref n0, .ref y0, .null, .null]))]) ++ lB ac (z_at0 n0 u1) zI0) ++ ([(y0, .inr (1, [.ref u2.1, .int 0, .int 0])), (u2.1, .inl (ac 3, 6, .inr (.inr (.inr (.inr (fun i => if i < 6 then some (u2.2 i 0) else none))))))] ++ (List.range 6).flatMap (fun i => lB ac (u2.2 i) zI0))) ++ [(ch, .inr (0, [.ref (u3 0), .int 0])), ((u3 0), .inl (ac 1, 60, .inl (fun _ => 0)))]) := hD
  refine va_putF (ci := 5) (v := .ref ch) (ty := tyX5 2) (C := RX5) (T := TX5) (N := 4) hx hb hts (by decide +kernel) tyX5 tyX5_ok nmX5 hown hK hP hD hS 0 rfl rfl 2 (by decide) (hts (.fieldLink RX5 26 "SettlingJars" "charge" "LSettlingJars$Charge;") (by decide +kernel)) (fun _ h9 => h9) rfl hnm rfl (tyX5_ok 2 (by decide)) rfl rfl (Nat.le_of_ble_eq_true rfl) dX5_init_34 (fun H locs hP hD hS => ?_)
  have hP : va_P D vwCl (((([(h0, .inr (5, [.ref n0, .ref y0, .ref ch, .null]))]) ++ lB ac (z_at0 n0 u1) zI0) ++ ([(y0, .inr (1, [.ref u2.1, .int 0, .int 0])), (u2.1, .inl (ac 3, 6, .inr (.inr (.inr (.inr (fun i => if i < 6 then some (u2.2 i 0) else none))))))] ++ (List.range 6).flatMap (fun i => lB ac (u2.2 i) zI0))) ++ [(ch, .inr (0, [.ref (u3 0), .int 0])), ((u3 0), .inl (ac 1, 60, .inl (fun _ => 0)))]) H := hP
  have hD : va_D A (((([(h0, .inr (5, [.ref n0, .ref y0, .ref ch, .null]))]) ++ lB ac (z_at0 n0 u1) zI0) ++ ([(y0, .inr (1, [.ref u2.1, .int 0, .int 0])), (u2.1, .inl (ac 3, 6, .inr (.inr (.inr (.inr (fun i => if i < 6 then some (u2.2 i 0) else none))))))] ++ (List.range 6).flatMap (fun i => lB ac (u2.2 i) zI0))) ++ [(ch, .inr (0, [.ref (u3 0), .int 0])), ((u3 0), .inl (ac 1, 60, .inl (fun _ => 0)))]) := hD
  refine lv_aload_n hx hb dX5_init_37 rfl (lv_at hl 0 rfl) ?_
  refine va_new (ci := 2) (fs := [.null]) (C := RX2) (T := TX2) (N := 1) hx hb hts (by decide +kernel) tyX2 tyX2_ok hown (hts (.classLink RX5 30 RX2) (by decide +kernel)) (hts (.instantiable RX2 1) (by decide +kernel)) (hts (.initialized RX2) (by decide +kernel)) hK hP hD hS hA rfl (fun j hj => by rcases (show j = 0 by omega) with rfl <;> rfl) (Nat.le_of_ble_eq_true rfl) (Nat.le_of_ble_eq_true rfl) dX5_init_38 (fun sp H hP hD hS => ?_)
  refine lv_dup hx hb dX5_init_41 rfl ?_
  refine z_ctor (w := ((([(h0, .inr (5, [.ref n0, .ref y0, .ref ch, .null]))]) ++ lB ac (z_at0 n0 u1) zI0) ++ ([(y0, .inr (1, [.ref u2.1, .int 0, .int 0])), (u2.1, .inl (ac 3, 6, .inr (.inr (.inr (.inr (fun i => if i < 6 then some (u2.2 i 0) else none))))))] ++ (List.range 6).flatMap (fun i => lB ac (u2.2 i) zI0))) ++ [(ch, .inr (0, [.ref (u3 0), .int 0])), ((u3 0), .inl (ac 1, 60, .inl (fun _ => 0)))]) (va_runIN (As := []) (rest := [.ref sp, .ref h0]) ⟨hx, hb, hml, hown, hts⟩ (metX2_init l D ac _ sp) ⟨va_cnB 0 hts gX5_init_X2_init_n32 rfl rfl rfl hN.1.2.2.2 (hts (.initialized RX2) (by decide +kernel)) (by decide +kernel) ⟨Nat.le_of_ble_eq_true rfl, Nat.le_of_ble_eq_true rfl⟩, rfl, hts (.instanceMethod yX2_init) (by decide +kernel)⟩ (z_preC hK hP hD) rfl rfl hl.1 rfl (lv_room (Nat.le_of_ble_eq_true rfl)) dX5_init_42 ⟨Nat.le_of_ble_eq_true rfl, Nat.le_of_ble_eq_true rfl⟩) hP hD hS hA (fun u4 H locs hP hD hS => ?_)
  have hP : va_P D vwCl ((((([(h0, .inr (5, [.ref n0, .ref y0, .ref ch, .null]))]) ++ lB ac (z_at0 n0 u1) zI0) ++ ([(y0, .inr (1, [.ref u2.1, .int 0, .int 0])), (u2.1, .inl (ac 3, 6, .inr (.inr (.inr (.inr (fun i => if i < 6 then some (u2.2 i 0) else none))))))] ++ (List.range 6).flatMap (fun i => lB ac (u2.2 i) zI0))) ++ [(ch, .inr (0, [.ref (u3 0), .int 0])), ((u3 0), .inl (ac 1, 60, .inl (fun _ => 0)))]) ++ [(sp, .inr (2, [.ref (u4 0)])), ((u4 0), .inl (ac 0, 48, .inl (fun _ => 0)))]) H := hP
  have hD : va_D A ((((([(h0, .inr (5, [.ref n0, .ref y0, .ref ch, .null]))]) ++ lB ac (z_at0 n0 u1) zI0) ++ ([(y0, .inr (1, [.ref u2.1, .int 0, .int 0])), (u2.1, .inl (ac 3, 6, .inr (.inr (.inr (.inr (fun i => if i < 6 then some (u2.2 i 0) else none))))))] ++ (List.range 6).flatMap (fun i => lB ac (u2.2 i) zI0))) ++ [(ch, .inr (0, [.ref (u3 0), .int 0])), ((u3 0), .inl (ac 1, 60, .inl (fun _ => 0)))]) ++ [(sp, .inr (2, [.ref (u4 0)])), ((u4 0), .inl (ac 0, 48, .inl (fun _ => 0)))]) := hD
  refine va_putF (ci := 5) (v := .ref sp) (ty := tyX5 3) (C := RX5) (T := TX5) (N := 4) hx hb hts (by decide +kernel) tyX5 tyX5_ok nmX5 hown hK hP hD hS 0 rfl rfl 3 (by decide) (hts (.fieldLink RX5 33 "SettlingJars" "spare" "LSettlingJars$Jar;") (by decide +kernel)) (fun _ h9 => h9) rfl hnm rfl (tyX5_ok 3 (by decide)) rfl rfl (Nat.le_of_ble_eq_true rfl) dX5_init_45 (fun H locs hP hD hS => ?_)
  have hP : va_P D vwCl ((((([(h0, .inr (5, [.ref n0, .ref y0, .ref ch, .ref sp]))]) ++ lB ac (z_at0 n0 u1) zI0) ++ ([(y0, .inr (1, [.ref u2.1, .int 0, .int 0])), (u2.1, .inl (ac 3, 6, .inr (.inr (.inr (.inr (fun i => if i < 6 then some (u2.2 i 0) else none))))))] ++ (List.range 6).flatMap (fun i => lB ac (u2.2 i) zI0))) ++ [(ch, .inr (0, [.ref (u3 0), .int 0])), ((u3 0), .inl (ac 1, 60, .inl (fun _ => 0)))]) ++ [(sp, .inr (2, [.ref (u4 0)])), ((u4 0), .inl (ac 0, 48, .inl (fun _ => 0)))]) H := hP
  have hD : va_D A ((((([(h0, .inr (5, [.ref n0, .ref y0, .ref ch, .ref sp]))]) ++ lB ac (z_at0 n0 u1) zI0) ++ ([(y0, .inr (1, [.ref u2.1, .int 0, .int 0])), (u2.1, .inl (ac 3, 6, .inr (.inr (.inr (.inr (fun i => if i < 6 then some (u2.2 i 0) else none))))))] ++ (List.range 6).flatMap (fun i => lB ac (u2.2 i) zI0))) ++ [(ch, .inr (0, [.ref (u3 0), .int 0])), ((u3 0), .inl (ac 1, 60, .inl (fun _ => 0)))]) ++ [(sp, .inr (2, [.ref (u4 0)])), ((u4 0), .inl (ac 0, 48, .inl (fun _ => 0)))]) := hD
  exact z_vretS (S := (Nat → Nat) × (Nat → Nat → Nat) × (Nat → Nat)) (z_at0 n0 u1, u2.2, lU [0, y0, u2.1, ch, u3 0, sp, u4 0]) hx hb hr hlocks hK hP hD hS hAe dX5_init_48
