/-! load, where the jar would hold too many: the spare jar is written, then it throws -/
def zTS (D : va_G) (ac : Nat → ClassId) (w : va_W) (sz : Nat) (own : String) (k : Nat) (tx : String) (sa : Nat) (E0 : String) (U : State) : Prop := zS D ac w sz U ∧ zZq (va_A w sz) U U.heap ∧ vk_R own k tx sa U ∧ zBd E0 U
abbrev zTW (E0 : String) (D : va_G) (ac : Nat → ClassId) (w w2 : va_W) (sz : Nat) : String → State → State → Prop := vx_X (fun _ : Unit => True) (fun E _ t => E = E0 ∧ (zW D ac w2 t ∧ va_D (va_A w sz) w2)) (va_A w sz)
theorem zTS_blind {av : List Value} {D : va_G} {ac : Nat → ClassId} {w : va_W} {sz : Nat} {own tx E0 : String} {k sa : Nat} : FrameBlind (va_Pc av (zTS D ac w sz own k tx sa E0)) := fun a U g mk q =>
  ⟨q.1, (zS_blind (av := av) a U g mk ⟨q.1, q.2.1⟩).2, ⟨q.2.2.1.1.moved (u := U) (U := U.calling g mk a) (Vm.Alike.refl U.vm), q.2.2.1.2.moved (u := U) (U := U.calling g mk a) (Vm.Alike.refl U.vm)⟩, vk_R.same (u := U) (U := U.calling g mk a) rfl q.2.2.2.1, zBd.same (rfl : U.vm = (U.calling g mk a).vm) q.2.2.2.2⟩
/-- a method that writes and then throws -/
theorem z_thW {l : Launch} {y : MethodName} {ws ws' : List Cond} {rm : Room} {cc : ByteArray} {maxL : Nat} {ret : Option FieldType} {av : List Value} {D : va_G} {ac : Nat → ClassId} {w : va_W} {own tx E0 : String} {k sa sz : Nat} {XC : String → State → State → Prop} {mc ms : Nat} 
    (hy : plainName y.cls = true) (hw : ws = Cond.code y cc maxL ret :: ws') (hn : (lg_sl av).length ≤ maxL) {lv : List (Nat × Value)} (hlv : lv_args 0 av = lv)
    (body : ∀ (p : Program) (e : Env) (s : State) (m : MethodId) (args : Array Value) (below : List Frame) (meth : Method) (c : Code) (ls : Array Slot) (A : Nat → Prop), p.tables.exec = Jvm.exec → c.code = cc → c.maxLocals = maxL → s.vm.findClass y.cls = some m.cls → (∀ w ∈ ws, w.before args s = true) → meth.locks = false → (∀ x ∈ c.exceptionTable.toList, False) → lv_has ls maxL lv → va_K D vwCl (zTy ac) s → va_P D vwCl w s.heap → s.heap.size = sz → A = va_A w sz → (∀ q : Nat, s.heap.size ≤ q → A q) → va_D A w → va_S A s.heap s.heap [] → zZq A s s.heap → vk_R own k tx sa s → zBd E0 s → W p l e rm s m args below meth c s.heap [] 0 0 (vx_MQ below zF XC args s mc ms A) (F0 m 0 ls [])) : vx_Met l y ws rm (va_Pc av (zTS D ac w sz own k tx sa E0)) zF XC mc ms (va_A w sz) := by
  refine vx_ofW (cc := cc) (maxL := maxL) (ret := ret) hy hw ?_
  intro p e s m args below meth c s₁ B hml hnx hv
  obtain ⟨rfl, ⟨hsz, ⟨hP, hK⟩, hD0⟩, hq, hR, hc⟩ := hv
  rw [lg_entry_eq]
  have hl := lv_entry av (n := maxL) hn
  rw [hlv] at hl
  subst hsz
  exact body p e s m _ below meth c _ _ B.exec B.bytes hml (findClass_of_methodNamed B.named) (atoms_spec (ws := ws) B.pre) B.notSynchronized hnx hl hK hP rfl rfl (fun q h => Or.inr h) (hD0.self (sz := s.heap.size)) va_S.rf hq hR hc
section ZTL
variable {p : Program} {l : Launch} {e : Env} {R : Room} {s : State} {m : MethodId} {args : Array Value} {below : List Frame} {meth : Method} {c : Code} {H H0 : Heap} {locs : List Loc} {cells slots : Nat} {Q : State → Prop}
variable {pc : Nat} {ls : Array Slot} {rest st0 : List Value} {cc : ByteArray} {D : va_G} {ac : Nat → ClassId} {w wc : va_W} {A0 : Nat → Prop}
variable {y : MethodName} {bytes : ByteArray} {maxL nL n index : Nat} {ret : Option FieldType} {ws ws' Ts : List Cond} {rm : Room} {own C : String} {b : Nat} {As : List Value}
/-- a throwing call of a static method, let go on by a method without handlers -/
theorem z_tSW {w0 : va_W} {sz : Nat} {A : Nat → Prop} {E0 ow tx : String} {k sa : Nat} (hx : p.tables.exec = Jvm.exec) (hb : c.code = cc) (hml : c.maxLocals = nL) (hown : s.vm.findClass own = some m.cls) (hts : ∀ w ∈ Ts, w.before args s = true) (hls : ls.size = nL) (hlocks : meth.locks = false) (hnx : ∀ x ∈ c.exceptionTable.toList, False) (hK : va_K D vwCl (zTy ac) s) (hP : va_P D vwCl w H) (hD : va_D A w) (hS : va_S A s.heap H locs) (hAe : A = va_A w0 sz) (hq : zZq A s s.heap) (hR : vk_R ow k tx sa s) (hc : zBd E0 s) (isC : List Nat) (hC : isC.filterMap (fun i => w[i]?) = wc)
    (hM : vx_Met l y ws rm (va_Pc As (zQW D ac wc ow k tx sa E0)) zF (zT E0) 1 6 (fun _ => False)) (hG : GoodIn Ts (va_wsS own index y ws)) (hw : ws = Cond.code y bytes maxL ret :: ws') (n : Nat) (hd : y.cls ≠ "java/lang/invoke/MethodHandle" ∧ y.cls ≠ "java/lang/invoke/VarHandle" ∧ (parseMethodDescriptor y.desc).map (fun d => d.parameters.length) = some n) (hRm : rm.cells = 1 ∧ rm.slots = 6 ∧ rm.frames + 1 ≤ R.frames ∧ 8 + (maxL + 11) + rm.locals ≤ R.locals)
    (hn : As.length = n) (hst : st0 = As.reverse ++ rest) (hW : (rest.map fun v => v.category).sum ≤ 8) (hdg : decode cc pc = .ok (.invokestatic index, 3)) (hf : 0 + 1 ≤ R.cells ∧ 0 + 6 ≤ R.slots) :
    W p l e R s m args below meth c H locs 0 0 (vx_MQ below zF (zTW E0 D ac w0 w sz) args s 1 6 A) (F0 m pc ls st0) := by
  have hr := vx_runS (e := e) (below := below) (meth := meth) (cells := 0) (slots := 0) (locs := locs) (g := F0 m pc ls st0) (rest := rest) ⟨hx, hb, hml, hown, hts⟩ hM (va_cwS n hts hG hw hRm.1 hRm.2.1 hd hRm.2.2) (z_preT (av := As) (AS := A) hK hP isC hC hq hS hR hc) rfl hn hls hst (lv_room hW) hdg hf
  refine z_thr (rest := rest) (E0 := E0) (AX := fun _ => False) (B := fun _ => True) (A0 := A) (mc := 1) (ms := 6) (free := fun _ => False) (fun T hT X => ?_) hS (fun _ h => h.elim) (fun _ _ h => h.elim) (fun ce q9 t H1 locs1 e1 e2 _ k1 k2 k3 h1 h2 h3 => ?_)
  · rcases hr T hT X with h | ⟨q, st₀, t, T', L, E, ce, h0, X', hL, e1, e2, hxc, hrest⟩
    · exact Or.inl h
    · exact Or.inr ⟨q, st₀, t, T', L, E, ce, h0, X', hL, e1, e2, zT_B hxc, hrest⟩
  · exact vx_out (fun x h => (hnx x h).elim) hlocks h1 h2 h3 (fun t ht ha => ⟨(), trivial, ⟨rfl, ⟨by rw [ht]; exact hP.kept (fun k q hk => k2 q.1 ((hP k q hk).lt) (fun h => h)), va_K.moved ha hK⟩, by rw [← hAe]; exact hD⟩, by rw [← hAe]; exact k3.F ht⟩) k3.2.2 (Nat.le_refl _) (Nat.le_refl _)
end ZTL
section ZH
variable {p : Program} {l : Launch} {e : Env} {R : Room} {s : State} {m : MethodId} {args : Array Value} {below : List Frame} {meth : Method} {c : Code} {Q : State → Prop}
variable {pc : Nat} {ls : Array Slot} {rest st0 : List Value} {cc : ByteArray} {D : va_G} {ac : Nat → ClassId} {w wc : va_W} {A : Nat → Prop}
variable {y : MethodName} {bytes : ByteArray} {maxL nL n index : Nat} {ret : Option FieldType} {ws ws' Ts : List Cond} {rm : Room} {own C : String} {b : Nat} {As : List Value}
/-- a throwing call of a method of an object, caught here -/
theorem z_tVW {w1 w2 : va_W} {E0 ow tx : String} {k sa : Nat} (hx : p.tables.exec = Jvm.exec) (hb : c.code = cc) (hml : c.maxLocals = nL) (hown : s.vm.findClass own = some m.cls) (hts : ∀ w ∈ Ts, w.before args s = true) (hls : ls.size = nL) (hK : va_K D vwCl (zTy ac) s) (hP : va_P D vwCl w s.heap) (hD : va_D A w) (hA : ∀ q : Nat, s.heap.size ≤ q → A q) (hq : zZq A s s.heap) (hR : vk_R ow k tx sa s) (hc : zBd E0 s) (isC : List Nat) (hC : isC.map (fun i => w[i]?) = wc.map some) (hnC : va_nd isC = true)
    (hM : vx_Met l y ws rm (va_Pc (.ref b :: As) (zTS D ac wc s.heap.size ow k tx sa E0)) zF (zTW E0 D ac wc w1 s.heap.size) 1 6 (va_A wc s.heap.size)) (hG : GoodIn Ts (wsV own index C y ws)) (hw : ws = Cond.code y bytes maxL ret :: ws') (n : Nat) (hd : y.cls = C ∧ y.cls ≠ "java/lang/invoke/MethodHandle" ∧ y.cls ≠ "java/lang/invoke/VarHandle" ∧ (parseMethodDescriptor y.desc).map (fun d => d.parameters.length) = some n) (hRm : rm.cells = 1 ∧ rm.slots = 6 ∧ rm.frames + 1 ≤ R.frames ∧ 8 + (maxL + 11) + rm.locals ≤ R.locals)
    (q0 ci : Nat) {fs : List Value} {qq : vw_C} (hci : vwCl[ci]? = some qq) (hqC : qq.1 = C) (hq0 : w[q0]? = some (b, .inr (ci, fs))) (hn : As.length = n) (hst : st0 = As.reverse ++ .ref b :: rest) (hW : (rest.map fun v => v.category).sum ≤ 8) (hdg : decode cc pc = .ok (.invokevirtual index, 3)) (hf : 0 + 1 ≤ R.cells ∧ 0 + 6 ≤ R.slots)
    (pre : List ExceptionTableEntry) (x : ExceptionTableEntry) (suf : List ExceptionTableEntry) (hsplit : c.exceptionTable.toList = pre ++ x :: suf) (hpass : ∀ z ∈ pre, covers z pc = false ∨ (z.catchType ≠ 0 ∧ ∃ nm : String, (Cond.classLink own z.catchType nm).before args s = true ∧ va_Nc E0 nm s)) (hxc : covers x pc = true) (h0 : x.catchType ≠ 0) (hlink : (Cond.classLink own x.catchType E0).before args s = true)
    (isR perm : List Nat) (hRr : isR.map (fun i => w[i]?) = (isR.filterMap (fun i => w[i]?)).map some) (hnR : va_nd isR = true) (hdis : ∀ i ∈ isR, i ∉ isC) (hpn : va_nd perm = true) (hpm : perm.map (fun i => ((isR.filterMap (fun i => w[i]?)) ++ w1)[i]?) = w2.map some)
    (kk : ∀ (H1 : Heap) (locs1 : List Loc) (q9 : Nat), va_P D vwCl w2 H1 → va_D A w2 → va_S A s.heap H1 locs1 → W p l e R s m args below meth c H1 locs1 1 6 Q (F0 m x.handlerPc ls [.ref q9])) :
    W p l e R s m args below meth c s.heap [] 0 0 Q (F0 m pc ls st0) := by
  have hPc : va_P D vwCl wc s.heap := by
    intro k q hk
    have h1 : (isC.map (fun i => w[i]?))[k]? = some (some q) := by rw [hC, List.getElem?_map, hk]; rfl
    rw [List.getElem?_map] at h1
    cases hi : isC[k]? with
    | none => rw [hi] at h1; cases h1
    | some i => rw [hi] at h1; exact hP i q (Option.some.inj h1)
  have hDc := hD.sub (ws' := wc) isC hnC hC
  have hF : ∀ q, va_A wc s.heap.size q → A q := va_free hD va_S.rf hA isC hC
  have hr := vx_runV (e := e) (below := below) (meth := meth) (cells := 0) (slots := 0) (locs := []) (g := F0 m pc ls st0) (rest := rest) ⟨hx, hb, hml, hown, hts⟩ hM (cwV n hts hG hw hRm.1 hRm.2.1 hd hRm.2.2) ⟨zTS_blind, by rw [← hqC]; exact va_recv hK hP hci hq0, fun U hU hWm => ⟨rfl, ⟨by rw [hU], ⟨by rw [hU]; exact hPc, va_K.moved hWm.alike hK⟩, hDc.weaken (fun _ _ _ _ => trivial)⟩, ⟨by rw [hU]; exact (hq.1.moved hWm.alike).narrow hF, by rw [hU]; exact (hq.2.moved hWm.alike).narrow hF⟩, vk_R.warm hWm hR, zBd.warm hWm hc⟩⟩ rfl hn hls hst (lv_room hW) hdg hf
  refine z_thr (rest := rest) (E0 := E0) (AX := va_A wc s.heap.size) (B := fun t => zW D ac w1 t ∧ va_D (va_A wc s.heap.size) w1) (A0 := A) (mc := 1) (ms := 6) (free := va_A wc s.heap.size) hr va_S.rf hF (fun q _ h => hF q h) (fun ce q9 t H1 locs1 e1 e2 hB k1 k2 k3 h1 h2 h3 => ?_)
  obtain ⟨⟨b1, b2⟩, b3⟩ := hB
  rw [e1] at b1
  obtain ⟨a1, a2⟩ := z_join hP hD isC isR perm hC hRr hnR hdis hF hpn hpm k2 b1 b3
  exact vx_catch hown pre x suf hsplit hpass hxc h0 hlink (va_Nw.use rfl hc.1) h1 h2 h3 (kk H1 locs1 q9 a1 a2 k3)
end ZH
