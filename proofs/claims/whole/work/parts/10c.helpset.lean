/-! set's helper -/
section ZVE
variable {p : Program} {l : Launch} {e : Env} {R : Room} {s : State} {m : MethodId} {args : Array Value} {below : List Frame} {meth : Method} {c : Code} {H H0 : Heap} {locs : List Loc} {cells slots : Nat} {Q : State → Prop}
variable {pc : Nat} {ls : Array Slot} {rest st0 : List Value} {cc : ByteArray} {D : va_G} {ac : Nat → ClassId} {w w2 wc w1 : va_W} {A : Nat → Prop}
variable {y : MethodName} {bytes : ByteArray} {maxL nL index : Nat} {ret : Option FieldType} {ws ws' : List Cond} {rm : Room} {Ts : List Cond} {own C : String} {b : Addr} {As : List Value} {mc ms : Nat}
/-- a call of a method that writes and reads the rows of bounds -/
theorem z_vrunE {sz tl tg : Nat} {Qc : Array Value → State → Outcome → State → Prop} (hE : zSt tl tg A s s.heap) (hS : va_S A s.heap H locs) (hA : ∀ q : Nat, s.heap.size ≤ q → A q) (hx : p.tables.exec = Jvm.exec) (hb : c.code = cc) (hml : c.maxLocals = nL) (hown : s.vm.findClass own = some m.cls) (hts : ∀ w ∈ Ts, w.before args s = true) (hls : ls.size = nL) (hK : va_K D vwCl (zTy ac) s) (hP : va_P D vwCl w H) (hD : va_D A w) (isC : List Nat) (hC : isC.map (fun i => w[i]?) = wc.map some) (hnC : va_nd isC = true) (hsz : H.size = sz)
    (hM : Met l y ws rm (va_Pc (.ref b :: As) (zSE D ac wc sz tl tg)) Qc mc ms (va_A wc sz)) (hG : GoodIn Ts (wsV own index C y ws)) (hw : ws = Cond.code y bytes maxL ret :: ws') (n : Nat) (hd : y.cls = C ∧ y.cls ≠ "java/lang/invoke/MethodHandle" ∧ y.cls ≠ "java/lang/invoke/VarHandle" ∧ (parseMethodDescriptor y.desc).map (fun d => d.parameters.length) = some n) (hR : rm.cells = mc ∧ rm.slots = ms ∧ rm.frames + 1 ≤ R.frames ∧ 8 + (maxL + 11) + rm.locals ≤ R.locals)
    (q0 ci : Nat) {fs : List Value} {q : vw_C} (hci : vwCl[ci]? = some q) (hqC : q.1 = C) (hq0 : w[q0]? = some (b, .inr (ci, fs))) (hn : As.length = n) (hst : st0 = As.reverse ++ .ref b :: rest) (hW : (rest.map fun v => v.category).sum ≤ 8) (hdg : decode cc pc = .ok (.invokevirtual index, 3)) (hf : cells + mc ≤ R.cells ∧ slots + ms ≤ R.slots) :
    va_Run p l e R s m args below meth c H locs cells slots mc ms (F0 m pc ls st0) rest (Qc (Value.ref b :: As).toArray) (va_A wc sz) := by
  subst hsz
  have hPc : va_P D vwCl wc H := by
    intro k q hk
    have h1 : (isC.map (fun i => w[i]?))[k]? = some (some q) := by rw [hC, List.getElem?_map, hk]; rfl
    rw [List.getElem?_map] at h1
    cases hi : isC[k]? with
    | none => rw [hi] at h1; cases h1
    | some i => rw [hi] at h1; exact hP i q (Option.some.inj h1)
  have hDc := hD.sub (ws' := wc) isC hnC hC
  refine va_runV ⟨hx, hb, hml, hown, hts⟩ hM (cwV n hts hG hw hR.1 hR.2.1 hd hR.2.2) ⟨zSE_blind, by rw [← hqC]; exact va_recv hK hP hci hq0, fun U hU hWm => ⟨rfl, ⟨by rw [hU], ⟨by rw [hU]; exact hPc, va_K.moved hWm.alike hK⟩, hDc.weaken (fun _ _ _ _ => trivial)⟩, by rw [hU]; exact ((hE.kept hS.2.1).moved hWm.alike).narrow (fun q h => va_free hD hS hA isC hC q h)⟩⟩ rfl hn hls hst (lv_room hW) hdg hf
end ZVE
def zHE (D : va_G) (ac : Nat → ClassId) (w : va_W) (sz : Nat) (own : String) (k : Nat) (tx : String) (sa : Nat) (E0 : String) (tl tg : Nat) (U : State) : Prop := zS D ac w sz U ∧ zZq (va_A w sz) U U.heap ∧ vk_R own k tx sa U ∧ zBd E0 U ∧ zNc U ∧ zSt tl tg (va_A w sz) U U.heap
theorem z_hTE {l : Launch} {y : MethodName} {ws ws' : List Cond} {rm : Room} {cc : ByteArray} {maxL : Nat} {ret : Option FieldType} {hh : List (Nat × Nat × Nat × Nat)} {av : List Value} {D : va_G} {ac : Nat → ClassId} {w : va_W} {own tx E0 : String} {k sa sz mc ms tl tg : Nat} {Qc : Array Value → State → Outcome → State → Prop}
    (hy : plainName y.cls = true) (hw : ws = Cond.codeWith y cc maxL ret hh :: ws') (hn : (lg_sl av).length ≤ maxL) {lv : List (Nat × Value)} (hlv : lv_args 0 av = lv)
    (body : ∀ (p : Program) (e : Env) (s : State) (m : MethodId) (args : Array Value) (below : List Frame) (meth : Method) (c : Code) (ls : Array Slot) (A : Nat → Prop), p.tables.exec = Jvm.exec → c.code = cc → meth.sig.returnType = ret → c.maxLocals = maxL → s.vm.findClass y.cls = some m.cls → (∀ w ∈ ws, w.before args s = true) → meth.locks = false → c.exceptionTable.toList = tableOf hh → lv_has ls maxL lv → va_K D vwCl (zTy ac) s → va_P D vwCl w s.heap → s.heap.size = sz → A = va_A w sz → (∀ q : Nat, s.heap.size ≤ q → A q) → va_D A w → va_S A s.heap s.heap [] → zZq A s s.heap → vk_R own k tx sa s → zBd E0 s → zNc s → zSt tl tg A s s.heap → W p l e rm s m args below meth c s.heap [] 0 0 (MQ below Qc args s mc ms A) (F0 m 0 ls [])) : Met l y ws rm (va_Pc av (zHE D ac w sz own k tx sa E0 tl tg)) Qc mc ms (va_A w sz) := by
  refine va_MetW (cc := cc) (maxL := maxL) (ret := ret) (hh := hh) hy hw ?_
  intro p e s m args below meth c s₁ B hml hv
  obtain ⟨rfl, ⟨hsz, ⟨hP, hK⟩, hD0⟩, hq, hR, hc, hn9, hE⟩ := hv
  rw [lg_entry_eq]
  have hl := lv_entry av (n := maxL) hn
  rw [hlv] at hl
  subst hsz
  have hts : ∀ w ∈ ws, w.before _ s = true := atoms_spec (ws := ws) B.pre
  exact body p e s m _ below meth c _ _ B.exec B.bytes B.returns hml (findClass_of_methodNamed B.named) hts B.notSynchronized (vx_table (x := y) B (hts _ (by rw [hw]; exact List.mem_cons_self))) hl hK hP rfl rfl (fun q h => Or.inr h) (hD0.self (sz := s.heap.size)) va_S.rf hq hR hc hn9 hE
section ZH
variable {p : Program} {l : Launch} {e : Env} {R : Room} {s : State} {m : MethodId} {args : Array Value} {below : List Frame} {meth : Method} {c : Code} {Q : State → Prop}
variable {pc : Nat} {ls : Array Slot} {rest st0 : List Value} {cc : ByteArray} {D : va_G} {ac : Nat → ClassId} {w wc : va_W} {A : Nat → Prop}
variable {y : MethodName} {bytes : ByteArray} {maxL nL n index : Nat} {ret : Option FieldType} {ws ws' Ts : List Cond} {rm : Room} {own C : String} {b : Nat} {As : List Value}
/-- a throwing call of a method of an object, caught here -/
theorem z_tVE {E0 ow tx : String} {k sa tl tg : Nat} (hx : p.tables.exec = Jvm.exec) (hb : c.code = cc) (hml : c.maxLocals = nL) (hown : s.vm.findClass own = some m.cls) (hts : ∀ w ∈ Ts, w.before args s = true) (hls : ls.size = nL) (hK : va_K D vwCl (zTy ac) s) (hP : va_P D vwCl w s.heap) (hD : va_D A w) (hq : zZq A s s.heap) (hR : vk_R ow k tx sa s) (hc : zBd E0 s) (hE : zSt tl tg A s s.heap) (isC : List Nat) (hC : isC.filterMap (fun i => w[i]?) = wc)
    (hM : vx_Met l y ws rm (va_Pc (.ref b :: As) (zQE D ac wc ow k tx sa E0 tl tg)) zF (zT E0) 1 6 (fun _ => False)) (hG : GoodIn Ts (wsV own index C y ws)) (hw : ws = Cond.code y bytes maxL ret :: ws') (n : Nat) (hd : y.cls = C ∧ y.cls ≠ "java/lang/invoke/MethodHandle" ∧ y.cls ≠ "java/lang/invoke/VarHandle" ∧ (parseMethodDescriptor y.desc).map (fun d => d.parameters.length) = some n) (hRm : rm.cells = 1 ∧ rm.slots = 6 ∧ rm.frames + 1 ≤ R.frames ∧ 8 + (maxL + 11) + rm.locals ≤ R.locals)
    (q0 ci : Nat) {fs : List Value} {qq : vw_C} (hci : vwCl[ci]? = some qq) (hqC : qq.1 = C) (hq0 : w[q0]? = some (b, .inr (ci, fs))) (hn : As.length = n) (hst : st0 = As.reverse ++ .ref b :: rest) (hW : (rest.map fun v => v.category).sum ≤ 8) (hdg : decode cc pc = .ok (.invokevirtual index, 3)) (hf : 0 + 1 ≤ R.cells ∧ 0 + 6 ≤ R.slots)
    (pre : List ExceptionTableEntry) (x : ExceptionTableEntry) (suf : List ExceptionTableEntry) (hsplit : c.exceptionTable.toList = pre ++ x :: suf) (hpass : ∀ z ∈ pre, covers z pc = false ∨ (z.catchType ≠ 0 ∧ ∃ nm : String, (Cond.classLink own z.catchType nm).before args s = true ∧ va_Nc E0 nm s)) (hxc : covers x pc = true) (h0 : x.catchType ≠ 0) (hlink : (Cond.classLink own x.catchType E0).before args s = true)
    (kk : ∀ (H1 : Heap) (locs1 : List Loc) (q9 : Nat), va_P D vwCl w H1 → va_D A w → va_S A s.heap H1 locs1 → W p l e R s m args below meth c H1 locs1 1 6 Q (F0 m x.handlerPc ls [.ref q9])) :
    W p l e R s m args below meth c s.heap [] 0 0 Q (F0 m pc ls st0) := by
  have hpr := z_preT (av := .ref b :: As) (AS := A) hK hP isC hC hq va_S.rf hR hc
  have hr := vx_runV (e := e) (below := below) (meth := meth) (cells := 0) (slots := 0) (locs := []) (g := F0 m pc ls st0) (rest := rest) ⟨hx, hb, hml, hown, hts⟩ hM (cwV n hts hG hw hRm.1 hRm.2.1 hd hRm.2.2) ⟨zQE_blind, by rw [← hqC]; exact va_recv hK hP hci hq0, fun U hU hWm => ⟨rfl, (hpr.2 U hU hWm).2, by rw [hU]; exact (hE.moved hWm.alike).narrow (fun _ h => h.elim)⟩⟩ rfl hn hls hst (lv_room hW) hdg hf
  refine z_thr (rest := rest) (E0 := E0) (AX := fun _ => False) (B := fun _ => True) (A0 := A) (mc := 1) (ms := 6) (free := fun _ => False) (fun T hT X => ?_) va_S.rf (fun _ h => h.elim) (fun _ _ h => h.elim) (fun ce q9 t H1 locs1 e1 e2 _ k1 k2 k3 h1 h2 h3 => ?_)
  · rcases hr T hT X with h | ⟨q, st₀, t, T', L, E, ce, h0, X', hL, e1, e2, hxc, hrest⟩
    · exact Or.inl h
    · exact Or.inr ⟨q, st₀, t, T', L, E, ce, h0, X', hL, e1, e2, zT_B hxc, hrest⟩
  · exact vx_catch hown pre x suf hsplit hpass hxc h0 hlink (va_Nw.use rfl hc.1) h1 h2 h3 (kk H1 locs1 q9 (hP.kept (fun k q hk => k2 q.1 ((hP k q hk).lt) (fun h => h))) hD k3)
end ZH
