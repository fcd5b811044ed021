/-! throwing: what it needs of the machine (two statics of Throwable, the text), and contracts of methods that throw -/
def zQ (U : State) : Prop := vx_Zq Bundle.tN "UNASSIGNED_STACK" Bundle.steD (fun _ => False) U U.heap ∧ vx_Zq Bundle.tN "SUPPRESSED_SENTINEL" Bundle.listD (fun _ => False) U U.heap
/-- the words of a throw that outlast no step by themselves -/
def zBd (E0 : String) (U : State) : Prop := va_Nw (.castable E0 E0) U ∧ va_Nw (.declares (Bundle.initS "java/lang/RuntimeException")) U ∧ va_Nw (.declares (Bundle.initS "java/lang/Exception")) U ∧ va_Nw (.declares (Bundle.initS Bundle.tN)) U
theorem z_decl {x : MethodName} {s U : State} (hW : s.WarmedH U.vm) (h : va_Nw (.declares x) s) : va_Nw (.declares x) U := va_tabs rfl (rfl : (s.setVm U.vm).vm = U.vm) (by rw [Cond.declares_setVm hW.alike]; exact h)
theorem zBd.warm {E0 : String} {s U : State} (hW : s.WarmedH U.vm) (h : zBd E0 s) : zBd E0 U := ⟨va_Nw.warmC hW h.1, z_decl hW h.2.1, z_decl hW h.2.2.1, z_decl hW h.2.2.2⟩
theorem zBd.same {E0 : String} {s U : State} (hv : s.vm = U.vm) (h : zBd E0 s) : zBd E0 U := ⟨va_tabs rfl hv h.1, va_tabs rfl hv h.2.1, va_tabs rfl hv h.2.2.1, va_tabs rfl hv h.2.2.2⟩
def zQW (D : va_G) (ac : Nat → ClassId) (w : va_W) (own : String) (k : Nat) (tx : String) (sa : Nat) (E0 : String) (U : State) : Prop := zW D ac w U ∧ zQ U ∧ vk_R own k tx sa U ∧ zBd E0 U
def zF : Array Value → State → Outcome → State → Prop := fun _ _ _ _ => False
abbrev zT (E0 : String) : String → State → State → Prop := vx_X (fun _ : Unit => True) (fun E _ _ => E = E0) (fun _ => False)
theorem zQ_moved {u U : State} (hvm : u.vm.Alike U.vm) (hh : U.heap = u.heap) (h : zQ u) : zQ U := ⟨by rw [hh]; exact h.1.moved hvm, by rw [hh]; exact h.2.moved hvm⟩
theorem zQW_blind {av : List Value} {D : va_G} {ac : Nat → ClassId} {w : va_W} {own tx E0 : String} {k sa : Nat} : FrameBlind (va_Pc av (zQW D ac w own k tx sa E0)) := fun a U g mk q =>
  ⟨q.1, ⟨q.2.1.1, va_K.moved (u := U) (U := U.calling g mk a) (Vm.Alike.refl U.vm) q.2.1.2⟩, zQ_moved (u := U) (U := U.calling g mk a) (Vm.Alike.refl U.vm) rfl q.2.2.1, vk_R.same (u := U) (U := U.calling g mk a) rfl q.2.2.2.1, zBd.same (rfl : U.vm = (U.calling g mk a).vm) q.2.2.2.2⟩
theorem z_at {args : Array Value} {s : State} {Ts L : List Cond} {E0 : String} (h : (L.filter goodWord).all (fun w => decide (w ∈ Ts)) = true) (h2 : (L.filter (fun w => !goodWord w)).all (fun w => decide (w ∈ [Cond.castable E0 E0, Cond.declares (Bundle.initS "java/lang/RuntimeException"), Cond.declares (Bundle.initS "java/lang/Exception"), Cond.declares (Bundle.initS Bundle.tN)])) = true) (hts : ∀ w ∈ Ts, w.before args s = true) (hc : zBd E0 s) : ∀ w ∈ L, w.before args s = true :=
  vx_hat (B := [Cond.castable E0 E0, Cond.declares (Bundle.initS "java/lang/RuntimeException"), Cond.declares (Bundle.initS "java/lang/Exception"), Cond.declares (Bundle.initS Bundle.tN)]) (fun w hw => hts w (of_decide_eq_true (List.all_eq_true.mp h w hw))) (fun w hw => of_decide_eq_true (List.all_eq_true.mp h2 w hw)) (vx_c (va_Nw.use rfl hc.1) (vx_c (va_Nw.use rfl hc.2.1) (vx_c (va_Nw.use rfl hc.2.2.1) (vx_c (va_Nw.use rfl hc.2.2.2) vx_n))))
/-- a method that throws -/
theorem z_th {l : Launch} {y : MethodName} {ws ws' : List Cond} {rm : Room} {cc : ByteArray} {maxL : Nat} {ret : Option FieldType} {av : List Value} {D : va_G} {ac : Nat → ClassId} {w : va_W} {own tx E0 : String} {k sa : Nat} {XC : String → State → State → Prop} {mc ms : Nat} {free : Addr → Prop}
    (hy : plainName y.cls = true) (hw : ws = Cond.code y cc maxL ret :: ws') (hn : (lg_sl av).length ≤ maxL) {lv : List (Nat × Value)} (hlv : lv_args 0 av = lv)
    (body : ∀ (p : Program) (e : Env) (s : State) (m : MethodId) (args : Array Value) (below : List Frame) (meth : Method) (c : Code) (ls : Array Slot), p.tables.exec = Jvm.exec → c.code = cc → c.maxLocals = maxL → s.vm.findClass y.cls = some m.cls → (∀ w ∈ ws, w.before args s = true) → meth.locks = false → (∀ x ∈ c.exceptionTable.toList, False) → lv_has ls maxL lv → va_K D vwCl (zTy ac) s → va_P D vwCl w s.heap → zQ s → vk_R own k tx sa s → zBd E0 s → W p l e rm s m args below meth c s.heap [] 0 0 (vx_MQ below zF XC args s mc ms free) (F0 m 0 ls [])) : vx_Met l y ws rm (va_Pc av (zQW D ac w own k tx sa E0)) zF XC mc ms free := by
  refine vx_ofW (cc := cc) (maxL := maxL) (ret := ret) hy hw ?_
  intro p e s m args below meth c s₁ B hml hnx hv
  obtain ⟨rfl, ⟨hP, hK⟩, hq, hR, hc⟩ := hv
  rw [lg_entry_eq]
  have hl := lv_entry av (n := maxL) hn
  rw [hlv] at hl
  exact body p e s m _ below meth c _ B.exec B.bytes hml (findClass_of_methodNamed B.named) (atoms_spec (ws := ws) B.pre) B.notSynchronized hnx hl hK hP hq hR hc
section ZT
variable {p : Program} {l : Launch} {e : Env} {R : Room} {s : State} {m : MethodId} {args : Array Value} {below : List Frame} {meth : Method} {c : Code} {H H0 : Heap} {locs : List Loc} {cells slots : Nat} {Q : State → Prop}
variable {pc : Nat} {ls : Array Slot} {rest st0 : List Value} {cc : ByteArray} {D : va_G} {ac : Nat → ClassId} {w wc : va_W} {A0 : Nat → Prop}
/-- a call that throws -/
theorem z_thr {E0 : String} {AX : Nat → Prop} {B : State → Prop} {mc ms : Nat} {free : Addr → Prop} (hr : vx_Run p l e R s m args below meth c H locs cells slots mc ms (F0 m pc ls st0) rest (fun _ _ _ => False) (vx_X (fun _ : Unit => True) (fun E _ t => E = E0 ∧ B t) AX) free) (hS : va_S A0 H0 H locs) (hf : ∀ q, free q → A0 q) (hAX : ∀ q, q < H.size → AX q → A0 q)
    (kx : ∀ (ce : Cell) (q9 : Addr) (t : State) (H1 : Heap) (locs1 : List Loc), t.heap = H1 → s.vm.Alike t.vm → B t → H.size ≤ H1.size → (∀ q : Nat, q < H.size → ¬ AX q → H1[q]? = H[q]?) → va_S A0 H0 H1 locs1 → H1[q9]? = some ce → ce.vm = .none → s.vm.findClass E0 = some ce.cls → vx_W p l e R s m args below meth c H1 locs1 (cells + mc) (slots + ms) Q (F0 m pc ls rest) q9) : W p l e R s m args below meth c H locs cells slots Q (F0 m pc ls st0) := by
  intro T hT X
  rcases hr T hT X with ⟨v, st₀, t, T', L, h0, X', hL, e1, e2, hF, st⟩ | ⟨q, st₀, t, T', L, E, ce, h0, X', hL, e1, e2, ⟨u, hp, ⟨rfl, hb⟩, hF⟩, hce, hcv, hcl, st⟩
  · exact hF.elim
  · obtain ⟨k1, k2, k3⟩ := vx_keep h0 e1 hS hAX hf hL hF
    obtain ⟨t2, a1, b1⟩ := kx ce q t T'.heap (locs ++ L) e1.symm (by rw [← e2]; exact X'.warmed.alike) hb k1 k2 k3 (by rw [e1]; exact hce) hcv hcl T' rfl X'
    exact ⟨t2, st.trans a1, b1⟩
theorem zT_B {E0 : String} {E : String} {st t : State} (h : zT E0 E st t) : vx_X (fun _ : Unit => True) (fun E _ t => E = E0 ∧ True) (fun _ => False) E st t := by
  obtain ⟨u, h1, h2, h3⟩ := h
  exact ⟨u, h1, ⟨h2, trivial⟩, h3⟩
section ZTS
variable {y : MethodName} {bytes : ByteArray} {maxL nL n index : Nat} {ret : Option FieldType} {ws ws' Ts : List Cond} {rm : Room} {own C : String} {b : Nat} {As : List Value}
theorem z_preT {ow tx E0 : String} {k sa : Nat} (hK : va_K D vwCl (zTy ac) s) (hP : va_P D vwCl w H) (isC : List Nat) (hC : isC.filterMap (fun i => w[i]?) = wc) {AS : Nat → Prop} (hq : vx_Zq Bundle.tN "UNASSIGNED_STACK" Bundle.steD AS s s.heap ∧ vx_Zq Bundle.tN "SUPPRESSED_SENTINEL" Bundle.listD AS s s.heap) (hS : va_S AS s.heap H locs) (hR : vk_R ow k tx sa s) (hc : zBd E0 s) {av : List Value} : PreS s H (va_Pc av (zQW D ac wc ow k tx sa E0)) av := by
  refine ⟨zQW_blind, fun U hU hWm => ⟨rfl, ⟨by rw [hU]; exact hP.sub isC hC, va_K.moved hWm.alike hK⟩, ⟨?_, ?_⟩, vk_R.warm hWm hR, zBd.warm hWm hc⟩⟩
  · rw [hU]; exact ((hq.1.kept hS.2.1).moved hWm.alike).narrow (fun _ h => h.elim)
  · rw [hU]; exact ((hq.2.kept hS.2.1).moved hWm.alike).narrow (fun _ h => h.elim)
/-- a throwing call of a static method, let go on by a method without handlers -/
theorem z_tS {E0 ow tx : String} {k sa : Nat} (hx : p.tables.exec = Jvm.exec) (hb : c.code = cc) (hml : c.maxLocals = nL) (hown : s.vm.findClass own = some m.cls) (hts : ∀ w ∈ Ts, w.before args s = true) (hls : ls.size = nL) (hlocks : meth.locks = false) (hnx : ∀ x ∈ c.exceptionTable.toList, False) (hK : va_K D vwCl (zTy ac) s) (hP : va_P D vwCl w s.heap) (hq : zQ s) (hR : vk_R ow k tx sa s) (hc : zBd E0 s) (isC : List Nat) (hC : isC.filterMap (fun i => w[i]?) = wc)
    (hM : vx_Met l y ws rm (va_Pc As (zQW D ac wc ow k tx sa E0)) zF (zT E0) 1 6 (fun _ => False)) (hG : GoodIn Ts (va_wsS own index y ws)) (hw : ws = Cond.code y bytes maxL ret :: ws') (n : Nat) (hd : y.cls ≠ "java/lang/invoke/MethodHandle" ∧ y.cls ≠ "java/lang/invoke/VarHandle" ∧ (parseMethodDescriptor y.desc).map (fun d => d.parameters.length) = some n) (hRm : rm.cells = 1 ∧ rm.slots = 6 ∧ rm.frames + 1 ≤ R.frames ∧ 8 + (maxL + 11) + rm.locals ≤ R.locals)
    (hn : As.length = n) (hst : st0 = As.reverse ++ rest) (hW : (rest.map fun v => v.category).sum ≤ 8) (hdg : decode cc pc = .ok (.invokestatic index, 3)) (hf : 0 + 1 ≤ R.cells ∧ 0 + 6 ≤ R.slots) :
    W p l e R s m args below meth c s.heap [] 0 0 (vx_MQ below zF (zT E0) args s 1 6 (fun _ => False)) (F0 m pc ls st0) := by
  have hr := vx_runS (e := e) (below := below) (meth := meth) (cells := 0) (slots := 0) (locs := []) (g := F0 m pc ls st0) (rest := rest) ⟨hx, hb, hml, hown, hts⟩ hM (va_cwS n hts hG hw hRm.1 hRm.2.1 hd hRm.2.2) (z_preT (av := As) (AS := fun _ => False) hK hP isC hC hq va_S.rf hR hc) rfl hn hls hst (lv_room hW) hdg hf
  refine z_thr (rest := rest) (E0 := E0) (AX := fun _ => False) (B := fun _ => True) (A0 := fun _ => False) (mc := 1) (ms := 6) (free := fun _ => False) (fun T hT X => ?_) va_S.rf (fun _ h => h) (fun _ _ h => h) (fun ce q9 t H1 locs1 e1 e2 _ k1 k2 k3 h1 h2 h3 => ?_)
  · rcases hr T hT X with h | ⟨q, st₀, t, T', L, E, ce, h0, X', hL, e1, e2, hxc, hrest⟩
    · exact Or.inl h
    · exact Or.inr ⟨q, st₀, t, T', L, E, ce, h0, X', hL, e1, e2, zT_B hxc, hrest⟩
  · exact vx_out (fun x h => (hnx x h).elim) hlocks h1 h2 h3 (fun t ht ha => ⟨(), trivial, rfl, by rw [ht]; exact k1, fun q a b => by rw [ht]; exact k2 q a b⟩) (fun z h => (k3.2.2 z h).elim) (Nat.le_refl _) (Nat.le_refl _)
end ZTS
end ZT
theorem z_ltle {x : Int32} {n : Nat} (hn : n + 1 < 2 ^ 31) (h : x < nI (n + 1)) : x ≤ nI n := by
  rw [Int32.lt_iff_toInt_lt, nI_toInt hn] at h
  rw [Int32.le_iff_toInt_le, nI_toInt (by omega)]
  omega
theorem z_dec (x : Int32) {n : Nat} (hn : n < 2 ^ 31) : ¬ (0 ≤ x ∧ x ≤ nI n) ∨ ∃ k, x = nI k ∧ k < n + 1 := by
  by_cases h : 0 ≤ x ∧ x ≤ nI n
  · have h1 := Int32.le_iff_toInt_le.mp h.1
    have h2 := Int32.le_iff_toInt_le.mp h.2
    have h0 : (0 : Int32).toInt = 0 := by decide
    rw [nI_toInt hn] at h2
    rw [h0] at h1
    refine Or.inr ⟨x.toInt.toNat, ?_, by omega⟩
    apply Int32.toInt_inj.mp
    rw [nI_toInt (by omega)]
    omega
  · exact Or.inl h
theorem z_dec2 (x y : Int32) {n u : Nat} (hn : n < 2 ^ 31) (hu : u < 2 ^ 31) : ¬ ((0 ≤ x ∧ x ≤ nI n) ∧ (0 ≤ y ∧ y ≤ nI u)) ∨ ∃ a b, x = nI a ∧ y = nI b ∧ a < n + 1 ∧ b < u + 1 := by
  rcases z_dec x hn with h | ⟨a, e1, h1⟩
  · exact Or.inl (fun q => h q.1)
  · rcases z_dec y hu with h | ⟨b, e2, h2⟩
    · exact Or.inl (fun q => h q.2)
    · exact Or.inr ⟨a, b, e1, e2, h1, h2⟩
