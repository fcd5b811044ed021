/-! the two rows of bounds, static -/
def zSt (tl tg : Nat) (A : Nat → Prop) (U : State) (H : Heap) : Prop := va_Z "SettlingJars$Settings" "LEAST" "[I" (.ref tl) A U H ∧ va_Z "SettlingJars$Settings" "GREATEST" "[I" (.ref tg) A U H ∧ va_T .int tl 4 (fun j => .int (qLo j)) A U H ∧ va_T .int tg 4 (fun j => .int (qUp j)) A U H
def zSE (D : va_G) (ac : Nat → ClassId) (w : va_W) (sz tl tg : Nat) (U : State) : Prop := zS D ac w sz U ∧ zSt tl tg (va_A w sz) U U.heap
theorem zSt.moved {tl tg : Nat} {A : Nat → Prop} {u U : State} {H : Heap} (hvm : u.vm.Alike U.vm) (h : zSt tl tg A u H) : zSt tl tg A U H := ⟨h.1.moved hvm, h.2.1.moved hvm, h.2.2.1.moved hvm, h.2.2.2.moved hvm⟩
theorem zSt.kept {tl tg : Nat} {A : Nat → Prop} {U : State} {H H1 : Heap} (h : zSt tl tg A U H) (hq : ∀ a : Nat, a < H.size → ¬ A a → H1[a]? = H[a]?) : zSt tl tg A U H1 := ⟨h.1.kept hq, h.2.1.kept hq, h.2.2.1.kept hq, h.2.2.2.kept hq⟩
theorem zSt.narrow {tl tg : Nat} {A B : Nat → Prop} {U : State} {H : Heap} (h : zSt tl tg A U H) (hAB : ∀ q, B q → A q) : zSt tl tg B U H := ⟨h.1.narrow hAB, h.2.1.narrow hAB, h.2.2.1.narrow hAB, h.2.2.2.narrow hAB⟩
theorem zSE_blind {av : List Value} {D : va_G} {ac : Nat → ClassId} {w : va_W} {sz tl tg : Nat} : FrameBlind (va_Pc av (zSE D ac w sz tl tg)) := fun a U g mk q =>
  ⟨q.1, (zS_blind (av := av) a U g mk ⟨q.1, q.2.1⟩).2, zSt.moved (u := U) (U := U.calling g mk a) (Vm.Alike.refl U.vm) q.2.2⟩
/-- a method that writes -/
theorem z_rwE {l : Launch} {y : MethodName} {ws ws' : List Cond} {rm : Room} {cc : ByteArray} {maxL : Nat} {ret : Option FieldType} {av : List Value} {D : va_G} {ac : Nat → ClassId} {w : va_W} {sz mc ms tl tg : Nat} {Qc : Array Value → State → Outcome → State → Prop}
    (hy : plainName y.cls = true) (hw : ws = Cond.code y cc maxL ret :: ws') (hn : (lg_sl av).length ≤ maxL) {lv : List (Nat × Value)} (hlv : lv_args 0 av = lv)
    (body : ∀ (p : Program) (e : Env) (s : State) (m : MethodId) (args : Array Value) (below : List Frame) (meth : Method) (c : Code) (ls : Array Slot) (A : Nat → Prop), p.tables.exec = Jvm.exec → c.code = cc → meth.sig.returnType = ret → c.maxLocals = maxL → s.vm.findClass y.cls = some m.cls → (∀ w ∈ ws, w.before args s = true) → meth.locks = false → lv_has ls maxL lv → va_K D vwCl (zTy ac) s → va_P D vwCl w s.heap → s.heap.size = sz → A = va_A w sz → (∀ q : Nat, s.heap.size ≤ q → A q) → va_D A w → va_S A s.heap s.heap [] → zSt tl tg A s s.heap → W p l e rm s m args below meth c s.heap [] 0 0 (MQ below Qc args s mc ms A) (F0 m 0 ls [])) : Met l y ws rm (va_Pc av (zSE D ac w sz tl tg)) Qc mc ms (va_A w sz) := by
  refine Met.ofW (cc := cc) (maxL := maxL) (ret := ret) hy hw ?_
  intro p e s m args below meth c s₁ B hml hv
  obtain ⟨rfl, ⟨hsz, ⟨hP, hK⟩, hD0⟩, hE⟩ := hv
  rw [lg_entry_eq]
  have hl := lv_entry av (n := maxL) hn
  rw [hlv] at hl
  subst hsz
  exact body p e s m _ below meth c _ _ B.exec B.bytes B.returns hml (findClass_of_methodNamed B.named) (atoms_spec (ws := ws) B.pre) B.notSynchronized hl hK hP rfl rfl (fun q h => Or.inr h) (hD0.self (sz := s.heap.size)) va_S.rf hE
section ZVE
variable {p : Program} {l : Launch} {e : Env} {R : Room} {s : State} {m : MethodId} {args : Array Value} {below : List Frame} {meth : Method} {c : Code} {H H0 : Heap} {locs : List Loc} {cells slots : Nat} {Q : State → Prop}
variable {pc : Nat} {ls : Array Slot} {rest st0 : List Value} {cc : ByteArray} {D : va_G} {ac : Nat → ClassId} {w w2 wc w1 : va_W} {A : Nat → Prop}
variable {y : MethodName} {bytes : ByteArray} {maxL nL index : Nat} {ret : Option FieldType} {ws ws' : List Cond} {rm : Room} {Ts : List Cond} {own C : String} {b : Addr} {As : List Value} {mc ms : Nat}
/-- a call of a method that writes and reads the rows of bounds -/
theorem z_vrunE {sz tl tg : Nat} {Qc : Array Value → State → Outcome → State → Prop} (hE : zSt tl tg A s s.heap) (hS : va_S A s.heap H locs) (hA : ∀ q : Nat, s.heap.size ≤ q → A q) (hx : p.tables.exec = Jvm.exec) (hb : c.code = cc) (hml : c.maxLocals = nL) (hown : s.vm.findClass own = some m.cls) (hts : ∀ w ∈ Ts, w.before args s = true) (hls : ls.size = nL) (hK : va_K D vwCl (zTy ac) s) (hP : va_P D vwCl w H) (hD : va_D A w) (isC : List Nat) (hC : isC.map (fun i => w[i]?) = wc.map some) (hnC : va_nd isC = true) (hsz : H.size = sz)
    (hM : Met l y ws rm (va_Pc (.ref b :: As) (zSE D ac wc sz tl tg)) Qc mc ms (va_A wc sz)) (hG : GoodIn Ts (wsV own index C y ws)) (hw : ws = Cond.code y bytes maxL ret :: ws') (n : Nat) (hd : y.cls = C ∧ y.cls ≠ "java/lang/invoke/MethodHandle" ∧ y.cls ≠ "java/lang/invoke/VarHandle" ∧ (parseMethodDescriptor y.desc).map (fun d => d.parameters.length) = some n) (hR : rm.cells = mc ∧ rm.slots = ms ∧ rm.frames + 1 ≤ R.frames ∧ 8 + (maxL + 11) + rm.locals ≤ R.locals)
    (q0 ci : Nat) {fs : List Value} {q : vw_C} (hci : vwCl[ci]? = some q) (hqC : q.1 = C) (hq0 : w[q0]? = some (b, .inr (ci, fs))) (hn : As.length = n) (hst : st0 = As.reverse ++ .ref b :: rest) (hW : (rest.map fun v => v.category).sum ≤ 8) (hdg : decode cc pc = .ok (.invokevirtual index, 3)) (hf : cells + mc ≤ R.cells ∧ slots + ms ≤ R.slots) :
    va_Run p l e R s m args below meth c H locs cells slots mc ms (F0 m pc ls st0) rest (Qc (Value.ref b :: As).toArray) (va_A wc sz) := by
  subst hsz
  have hPc : va_P D vwCl wc H := by
    intro k q hk
    have h1 : (isC.map (fun i => w[i]?))[k]? = some (some q) := by rw [hC, List.getElem?_map, hk]; rfl
    rw [List.getElem?_map] at h1
    cases hi : isC[k]? with
    | none => rw [hi] at h1; cases h1
    | some i => rw [hi] at h1; exact hP i q (Option.some.inj h1)
  have hDc := hD.sub (ws' := wc) isC hnC hC
  refine va_runV ⟨hx, hb, hml, hown, hts⟩ hM (cwV n hts hG hw hR.1 hR.2.1 hd hR.2.2) ⟨zSE_blind, by rw [← hqC]; exact va_recv hK hP hci hq0, fun U hU hWm => ⟨rfl, ⟨by rw [hU], ⟨by rw [hU]; exact hPc, va_K.moved hWm.alike hK⟩, hDc.weaken (fun _ _ _ _ => trivial)⟩, by rw [hU]; exact ((hE.kept hS.2.1).moved hWm.alike).narrow (fun q h => va_free hD hS hA isC hC q h)⟩⟩ rfl hn hls hst (lv_room hW) hdg hf
end ZVE
