/-! the two rows of bounds, static -/
def zSt (tl tg : Nat) (A : Nat → Prop) (U : State) (H : Heap) : Prop := va_Z "SettlingJars$Settings" "LEAST" "[I" (.ref tl) A U H ∧ va_Z "SettlingJars$Settings" "GREATEST" "[I" (.ref tg) A U H ∧ va_T .int tl 4 (fun j => .int (qLo j)) A U H ∧ va_T .int tg 4 (fun j => .int (qUp j)) A U H
def zSE (D : va_G) (ac : Nat → ClassId) (w : va_W) (sz tl tg : Nat) (U : State) : Prop := zS D ac w sz U ∧ zSt tl tg (va_A w sz) U U.heap
def zQE (D : va_G) (ac : Nat → ClassId) (w : va_W) (own : String) (k : Nat) (tx : String) (sa : Nat) (E0 : String) (tl tg : Nat) (U : State) : Prop := zQW D ac w own k tx sa E0 U ∧ zSt tl tg (fun _ => False) U U.heap
theorem zSt.moved {tl tg : Nat} {A : Nat → Prop} {u U : State} {H : Heap} (hvm : u.vm.Alike U.vm) (h : zSt tl tg A u H) : zSt tl tg A U H := ⟨h.1.moved hvm, h.2.1.moved hvm, h.2.2.1.moved hvm, h.2.2.2.moved hvm⟩
theorem zSt.kept {tl tg : Nat} {A : Nat → Prop} {U : State} {H H1 : Heap} (h : zSt tl tg A U H) (hq : ∀ a : Nat, a < H.size → ¬ A a → H1[a]? = H[a]?) : zSt tl tg A U H1 := ⟨h.1.kept hq, h.2.1.kept hq, h.2.2.1.kept hq, h.2.2.2.kept hq⟩
theorem zSt.narrow {tl tg : Nat} {A B : Nat → Prop} {U : State} {H : Heap} (h : zSt tl tg A U H) (hAB : ∀ q, B q → A q) : zSt tl tg B U H := ⟨h.1.narrow hAB, h.2.1.narrow hAB, h.2.2.1.narrow hAB, h.2.2.2.narrow hAB⟩
theorem zSE_blind {av : List Value} {D : va_G} {ac : Nat → ClassId} {w : va_W} {sz tl tg : Nat} : FrameBlind (va_Pc av (zSE D ac w sz tl tg)) := fun a U g mk q =>
  ⟨q.1, (zS_blind (av := av) a U g mk ⟨q.1, q.2.1⟩).2, zSt.moved (u := U) (U := U.calling g mk a) (Vm.Alike.refl U.vm) q.2.2⟩
theorem zQE_blind {av : List Value} {D : va_G} {ac : Nat → ClassId} {w : va_W} {own tx E0 : String} {k sa tl tg : Nat} : FrameBlind (va_Pc av (zQE D ac w own k tx sa E0 tl tg)) := fun a U g mk q =>
  ⟨q.1, (zQW_blind (av := av) a U g mk ⟨q.1, q.2.1⟩).2, zSt.moved (u := U) (U := U.calling g mk a) (Vm.Alike.refl U.vm) q.2.2⟩
/-- a method that writes -/
theorem z_rwE {l : Launch} {y : MethodName} {ws ws' : List Cond} {rm : Room} {cc : ByteArray} {maxL : Nat} {ret : Option FieldType} {av : List Value} {D : va_G} {ac : Nat → ClassId} {w : va_W} {sz mc ms tl tg : Nat} {Qc : Array Value → State → Outcome → State → Prop}
    (hy : plainName y.cls = true) (hw : ws = Cond.code y cc maxL ret :: ws') (hn : (lg_sl av).length ≤ maxL) {lv : List (Nat × Value)} (hlv : lv_args 0 av = lv)
    (body : ∀ (p : Program) (e : Env) (s : State) (m : MethodId) (args : Array Value) (below : List Frame) (meth : Method) (c : Code) (ls : Array Slot) (A : Nat → Prop), p.tables.exec = Jvm.exec → c.code = cc → meth.sig.returnType = ret → c.maxLocals = maxL → s.vm.findClass y.cls = some m.cls → (∀ w ∈ ws, w.before args s = true) → meth.locks = false → lv_has ls maxL lv → va_K D vwCl (zTy ac) s → va_P D vwCl w s.heap → s.heap.size = sz → A = va_A w sz → (∀ q : Nat, s.heap.size ≤ q → A q) → va_D A w → va_S A s.heap s.heap [] → zSt tl tg A s s.heap → W p l e rm s m args below meth c s.heap [] 0 0 (MQ below Qc args s mc ms A) (F0 m 0 ls [])) : Met l y ws rm (va_Pc av (zSE D ac w sz tl tg)) Qc mc ms (va_A w sz) := by
  refine Met.ofW (cc := cc) (maxL := maxL) (ret := ret) hy hw ?_
  intro p e s m args below meth c s₁ B hml hv
  obtain ⟨rfl, ⟨hsz, ⟨hP, hK⟩, hD0⟩, hE⟩ := hv
  rw [lg_entry_eq]
  have hl := lv_entry av (n := maxL) hn
  rw [hlv] at hl
  subst hsz
  exact body p e s m _ below meth c _ _ B.exec B.bytes B.returns hml (findClass_of_methodNamed B.named) (atoms_spec (ws := ws) B.pre) B.notSynchronized hl hK hP rfl rfl (fun q h => Or.inr h) (hD0.self (sz := s.heap.size)) va_S.rf hE
/-- a method that throws -/
theorem z_thE {l : Launch} {y : MethodName} {ws ws' : List Cond} {rm : Room} {cc : ByteArray} {maxL : Nat} {ret : Option FieldType} {av : List Value} {D : va_G} {ac : Nat → ClassId} {w : va_W} {own tx E0 : String} {k sa tl tg : Nat} {XC : String → State → State → Prop} {mc ms : Nat} {free : Addr → Prop}
    (hy : plainName y.cls = true) (hw : ws = Cond.code y cc maxL ret :: ws') (hn : (lg_sl av).length ≤ maxL) {lv : List (Nat × Value)} (hlv : lv_args 0 av = lv)
    (body : ∀ (p : Program) (e : Env) (s : State) (m : MethodId) (args : Array Value) (below : List Frame) (meth : Method) (c : Code) (ls : Array Slot), p.tables.exec = Jvm.exec → c.code = cc → c.maxLocals = maxL → s.vm.findClass y.cls = some m.cls → (∀ w ∈ ws, w.before args s = true) → meth.locks = false → (∀ x ∈ c.exceptionTable.toList, False) → lv_has ls maxL lv → va_K D vwCl (zTy ac) s → va_P D vwCl w s.heap → zQ s → vk_R own k tx sa s → zBd E0 s → zSt tl tg (fun _ => False) s s.heap → W p l e rm s m args below meth c s.heap [] 0 0 (vx_MQ below zF XC args s mc ms free) (F0 m 0 ls [])) : vx_Met l y ws rm (va_Pc av (zQE D ac w own k tx sa E0 tl tg)) zF XC mc ms free := by
  refine vx_ofW (cc := cc) (maxL := maxL) (ret := ret) hy hw ?_
  intro p e s m args below meth c s₁ B hml hnx hv
  obtain ⟨rfl, ⟨⟨hP, hK⟩, hq, hR, hc⟩, hE⟩ := hv
  rw [lg_entry_eq]
  have hl := lv_entry av (n := maxL) hn
  rw [hlv] at hl
  exact body p e s m _ below meth c _ B.exec B.bytes hml (findClass_of_methodNamed B.named) (atoms_spec (ws := ws) B.pre) B.notSynchronized hnx hl hK hP hq hR hc hE
