section
-- ===== PART A: goes FIRST, ahead of the names: the tables' words, and 'selects' of the private methods out of them =====
/-- a private method of a class that the tables say can be made, by its rows of tables_1 -/
def lw_okq (q : MethodName × Nat) : Prop := (q.1.cls ≠ "java/lang/invoke/MethodHandle" ∧ q.1.cls ≠ "java/lang/invoke/VarHandle") ∧ Cond.instantiable q.1.cls q.2 ∈ tables_1 ∧ Cond.privateMethod q.1 ∈ tables_1 ∧ Cond.instanceMethod q.1 ∈ tables_1
theorem lw_p0 : lw_okq (⟨"java/lang/Throwable", "fillInStackTrace", "(I)Ljava/lang/Throwable;"⟩, 6) := ⟨⟨by decide +kernel, by decide +kernel⟩, List.mem_of_getElem? (i := 174) (by decide +kernel), List.mem_of_getElem? (i := 172) (by decide +kernel), List.mem_of_getElem? (i := 173) (by decide +kernel)⟩
theorem lw_p1 : lw_okq (⟨"SettlingJars$Jar", "leadingClass", "(I)I"⟩, 1) := ⟨⟨by decide +kernel, by decide +kernel⟩, List.mem_of_getElem? (i := 47) (by decide +kernel), List.mem_of_getElem? (i := 295) (by decide +kernel), List.mem_of_getElem? (i := 296) (by decide +kernel)⟩
theorem lw_p2 : lw_okq (⟨"SettlingJars$Jar", "bedSlices", "(LSettlingJars$Settings;)I"⟩, 1) := ⟨⟨by decide +kernel, by decide +kernel⟩, List.mem_of_getElem? (i := 47) (by decide +kernel), List.mem_of_getElem? (i := 356) (by decide +kernel), List.mem_of_getElem? (i := 357) (by decide +kernel)⟩
theorem lw_p3 : lw_okq (⟨"SettlingJars$Jar", "changesOfLeader", "()I"⟩, 1) := ⟨⟨by decide +kernel, by decide +kernel⟩, List.mem_of_getElem? (i := 47) (by decide +kernel), List.mem_of_getElem? (i := 364) (by decide +kernel), List.mem_of_getElem? (i := 365) (by decide +kernel)⟩
theorem lw_p4 : lw_okq (⟨"SettlingJars$Jar", "isAtRest", "(LSettlingJars$Settings;)Z"⟩, 1) := ⟨⟨by decide +kernel, by decide +kernel⟩, List.mem_of_getElem? (i := 47) (by decide +kernel), List.mem_of_getElem? (i := 368) (by decide +kernel), List.mem_of_getElem? (i := 369) (by decide +kernel)⟩
theorem lw_p5 : lw_okq (⟨"SettlingJars$Jar", "fallFrom", "(ILSettlingJars$Settings;)I"⟩, 1) := ⟨⟨by decide +kernel, by decide +kernel⟩, List.mem_of_getElem? (i := 47) (by decide +kernel), List.mem_of_getElem? (i := 438) (by decide +kernel), List.mem_of_getElem? (i := 439) (by decide +kernel)⟩
def lw_privs_1 : List (MethodName × Nat) := [(⟨"java/lang/Throwable", "fillInStackTrace", "(I)Ljava/lang/Throwable;"⟩, 6), (⟨"SettlingJars$Jar", "leadingClass", "(I)I"⟩, 1), (⟨"SettlingJars$Jar", "bedSlices", "(LSettlingJars$Settings;)I"⟩, 1), (⟨"SettlingJars$Jar", "changesOfLeader", "()I"⟩, 1), (⟨"SettlingJars$Jar", "isAtRest", "(LSettlingJars$Settings;)Z"⟩, 1), (⟨"SettlingJars$Jar", "fallFrom", "(ILSettlingJars$Settings;)I"⟩, 1)]
theorem lw_r1 : ∀ q ∈ lw_privs_1, lw_okq q := List.forall_mem_cons.mpr ⟨lw_p0, List.forall_mem_cons.mpr ⟨lw_p1, List.forall_mem_cons.mpr ⟨lw_p2, List.forall_mem_cons.mpr ⟨lw_p3, List.forall_mem_cons.mpr ⟨lw_p4, List.forall_mem_cons.mpr ⟨lw_p5, fun _ h => absurd h List.not_mem_nil⟩⟩⟩⟩⟩⟩
def lw_privs : List (MethodName × Nat) := lw_privs_1
def lw_tbl : List Cond := k2_sels lw_privs ++ tables_1
theorem lw_privs_ok : ∀ q ∈ lw_privs, lw_okq q := lw_r1
/-- the streams that the claim lets the run draw from -/
abbrev lw_cs : List Choice := [Jvm.Choice.named "NaN.bits"]
theorem lw_bits : nanBits ∈ lw_cs := by first | decide | exact List.mem_cons_self | simp [lw_cs, nanBits]
end
section
/-! doubles -/
theorem fp_n64 {r : UInt64} (h : r.toNat % 2 ^ 63 ≤ 9218868437227405312) : vf_n64 r := by
  unfold vf_n64
  rw [UInt64.le_iff_toNat_le, UInt64.toNat_and, show (0x7fffffffffffffff : UInt64).toNat = 2 ^ 63 - 1 by decide, Nat.and_two_pow_sub_one_eq_mod, show (0x7ff0000000000000 : UInt64).toNat = 9218868437227405312 by decide]
  exact h
theorem fp_mul1 (x : Int32) : FP.dmul FP.dconst1 (FP.i2d x) = FP.i2d x := by
  show Jvm.FP.Core.dmul Jvm.FP.Core.dconst1 (Jvm.FP.Core.i2d x) = Jvm.FP.Core.i2d x
  rw [Jvm.FP.Core.dmul_comm]
  exact Jvm.FP.Core.dmul_one ((Jvm.FP.Core.ne_nan _).mpr (by have h := Jvm.FP.Core.i2d_mag x; omega))
theorem fp_nn (x : Int32) : vf_n64 (FP.i2d x) := fp_n64 (by
  have h := Jvm.FP.Core.i2d_mag x
  show (Jvm.FP.Core.i2d x).toNat % 2 ^ 63 ≤ 9218868437227405312
  omega)
theorem fp_nn_div (x : Int32) {y : Int32} (h : ¬ y = 0) : vf_n64 (FP.ddiv (FP.i2d x) (FP.i2d y)) := fp_n64 (by
  have h1 := Jvm.FP.Core.i2d_mag x
  obtain ⟨h2, h3⟩ := Jvm.FP.Core.i2d_big (v := y) (fun q => h (Int32.toInt_inj.mp (q.trans (by decide))))
  have h4 := Jvm.FP.Core.ddiv_mag (a := Jvm.FP.Core.i2d x) (b := Jvm.FP.Core.i2d y) (K := 1056) (L := 1023) h1 h2 h3 (by omega) (by omega)
  show (Jvm.FP.Core.ddiv (Jvm.FP.Core.i2d x) (Jvm.FP.Core.i2d y)).toNat % 2 ^ 63 ≤ 9218868437227405312
  omega)
theorem fp_div_mag (x : Int32) {y : Int32} (h : ¬ y = 0) : (FP.ddiv (FP.i2d x) (FP.i2d y)).toNat % 2 ^ 63 ≤ 9218868437227405312 := by
  have h1 := Jvm.FP.Core.i2d_mag x
  obtain ⟨h2, h3⟩ := Jvm.FP.Core.i2d_big (v := y) (fun q => h (Int32.toInt_inj.mp (q.trans (by decide))))
  have h4 := Jvm.FP.Core.ddiv_mag (a := Jvm.FP.Core.i2d x) (b := Jvm.FP.Core.i2d y) (K := 1056) (L := 1023) h1 h2 h3 (by omega) (by omega)
  show (Jvm.FP.Core.ddiv (Jvm.FP.Core.i2d x) (Jvm.FP.Core.i2d y)).toNat % 2 ^ 63 ≤ 9218868437227405312
  omega
/-- a number that is one, against itself -/
theorem fp_cmp {r : UInt64} (h : r.toNat % 2 ^ 63 ≤ 9218868437227405312) : Op.cmpValue (FP.dcmp r r) CmpOp.l = 0 := by
  show Op.cmpValue (Jvm.FP.Core.dcmp r r) CmpOp.l = 0
  rw [Jvm.FP.Core.dcmp_self ((Jvm.FP.Core.ne_nan r).mpr h)]
  rfl
theorem fp_cmp0 : Op.cmpValue (FP.dcmp FP.dconst0 FP.dconst0) CmpOp.l = 0 := fp_cmp (by decide)
end
section
/-! ===== BEGIN words of one list among another's, by their places ===== -/
theorem goodIn_r {big : List Cond} (ws : List Cond) (ps : List Nat) (hp : ws = ps.filterMap (fun i => big[i]?)) (h : ws.all goodWord = true) : GoodIn big ws := by
  intro w hw
  have h1 := List.all_eq_true.mp h w hw
  rw [hp] at hw
  obtain ⟨i, -, hi⟩ := List.mem_filterMap.mp hw
  have hm : w ∈ big := by first | exact List.mem_of_getElem? hi | exact List.getElem?_mem hi
  exact ⟨hm, good_of_word h1⟩
theorem goodIn_app {big a b : List Cond} (ha : GoodIn big a) (hb : GoodIn big b) : GoodIn big (a ++ b) := fun w h => (List.mem_append.mp h).elim (ha w) (hb w)
theorem goodIn_ca {big a b : List Cond} {c : Cond} (ha : GoodIn big (c :: a)) (hb : GoodIn big b) : GoodIn big (c :: (a ++ b)) := fun w h => (List.mem_cons.mp h).elim (fun e => ha w (List.mem_cons.mpr (Or.inl e))) (fun h => (List.mem_append.mp h).elim (fun h => ha w (List.mem_cons.mpr (Or.inr h))) (hb w))
theorem goodIn_sub {big ws : List Cond} (hm : ∀ w ∈ ws, w ∈ big) (h : ws.all goodWord = true) : GoodIn big ws := fun w hw => ⟨hm w hw, good_of_word (List.all_eq_true.mp h w hw)⟩
/-! ===== END ===== -/

/-! ===== BEGIN exceptions that leave a method, and their catching by the caller (launches without stack traces) ===== -/
section VXA
/-! The laws vx_back, vx_callV, vx_callS, vx_callSW, vx_throw0, vx_throwS follow proofs of the library, with one case more: JvmDerived/Free/Laws.lean (Back.of_free), Shelf42/LK1.lean (callV, callS), Shelf/KitTraced.lean (throwNew0V, throwNewS). -/
/-- where a method has thrown q: the class by its name, the cell, what was written, the world -/
def vx_T (XC : String → State → State → Prop) (st : State) (q : Addr) (t : State) (mc ms : Nat) (free : Addr → Prop) : Prop :=
  ∃ (E : String) (ce : Cell) (L : List Loc), XC E st t ∧ t.heap[q]? = some ce ∧ ce.vm = .none ∧ st.vm.findClass E = some ce.cls ∧ st.WarmedH t.vm ∧ st.sameButNew ({ t with vm := st.vm } : State) L mc ms ∧ ∀ z ∈ L, free z.base
def vx_Q (Qc : Array Value → State → Outcome → State → Prop) (XC : String → State → State → Prop) (mc ms : Nat) (free : Addr → Prop) : Array Value → State → Outcome → State → Prop := fun a st o t =>
  (Qc a st o t ∧ ∃ L, FrameEnd st o t L mc ms ∧ ∀ q ∈ L, free q.base) ∨ ∃ q, o = .threw q ∧ vx_T XC st q t mc ms free
/-- a callee that returns or throws -/
def vx_Met (l : Launch) (y : MethodName) (ws : List Cond) (rm : Room) (Pc : Array Value → State → Prop) (Qc : Array Value → State → Outcome → State → Prop) (XC : String → State → State → Prop) (mc ms : Nat) (free : Addr → Prop) : Prop :=
  MetFree l y (headSpec ws rm) Pc (fun _ _ _ _ _ => True) (vx_Q Qc XC mc ms free)
def vx_Post (XC : String → State → State → Prop) (mc ms : Nat) (free : Addr → Prop) : Pt → Array Value → Addr → Pt → Prop := fun A a q B =>
  ∃ (g : JFrame) (mk : MethodId) (t : State) (L : List Loc) (E : String) (ce : Cell), B.U.heap = t.heap ∧ B.U.vm = t.vm ∧ XC E (A.U.calling g mk a) t ∧ t.heap[q]? = some ce ∧ ce.vm = .none ∧ A.U.vm.findClass E = some ce.cls ∧ B.locs = A.locs ++ L ∧ (∀ z ∈ L, free z.base) ∧ B.cells = A.cells + mc ∧ B.slots = A.slots + ms
def vx_Back (l : Launch) (R : Room) (p : Program) (e : Env) (below : List Frame) (s : State) (sargs : Array Value) (y : MethodName) (len W9 : Nat)
    (Pre : Pt → Array Value → Prop) (Post : Pt → Array Value → Option Value → Pt → Prop) (PostX : Pt → Array Value → Addr → Pt → Prop) : Prop :=
  ∀ (m : MethodId) (meth : Method) (c : Code) (A : Pt) (g : JFrame) (ig : Instr) (mk : MethodId) (a : Array Value),
    Stand p l e R s m sargs below meth c A.U A.locs A.cells A.slots → g.method = m → g.locals.size = c.maxLocals → decode c.code g.pc = .ok (ig, len) →
    2 * g.monitorRoom + (g.stack.map fun v => v.category).sum ≤ W9 → A.U.methodNamed? y = some mk → Pre A a →
    (∃ (v : Option Value) (B : Pt), Stand p l e R s m sargs below meth c B.U B.locs B.cells B.slots ∧ Post A a v B ∧
      Steps p.tables e below (doInvoke e (A.U.setTop g) [] mk a).1 (B.U.setTop { g with pc := g.pc + len, stack := v.toList ++ g.stack })) ∨
    (∃ (q : Addr) (B : Pt), Stand p l e R s m sargs below meth c B.U B.locs B.cells B.slots ∧ PostX A a q B ∧
      Steps p.tables e below (doInvoke e (A.U.setTop g) [] mk a).1 ((B.U.setTop g).pushFrame (.throwing q)))
section Payer
variable {l : Launch} {R : Room} {p : Program} {e : Env} {below : List Frame} {s : State} {sargs : Array Value} {y : MethodName} {len W9 : Nat}
theorem vx_back {ws : List Cond} {rm : Room} {Pc : Array Value → State → Prop} {Qc : Array Value → State → Outcome → State → Prop} {XC : String → State → State → Prop} {mc ms : Nat} {free : Addr → Prop} {bytes : ByteArray} {maxL : Nat} {ret : Option FieldType}
    (hM : vx_Met l y ws rm Pc Qc XC mc ms free) (hblind : FrameBlind Pc) (hrc : rm.cells = mc) (hrs : rm.slots = ms)
    (hframes : rm.frames + 1 ≤ R.frames) (hlocals : W9 + (maxL + 11) + rm.locals ≤ R.locals)
    (hws : ∀ w ∈ ws, ∀ a' U, s.WarmedH U.vm → w.before a' U = true) (hcode : Cond.code y bytes maxL ret ∈ ws) (hinit : ∀ a' U, s.WarmedH U.vm → (Cond.initialized y.cls).before a' U = true) :
    vx_Back l R p e below s sargs y len W9 (PreOf R mc ms Pc) (PostOf Qc mc ms free) (vx_Post XC mc ms free) := by
  intro m meth c A g ig mk a X hg hsize hdg hW hn hp
  have h1 : (headSpec ws rm).pre.before a A.U = true := atoms_intro fun w hw => hws w hw _ _ X.warmed
  have h2 : (Cond.code y bytes maxL ret).before a A.U = true := hws _ hcode _ _ X.warmed
  have h3 : (Cond.initialized y.cls).before a A.U = true := hinit _ _ X.warmed
  have h4 : A.cells + (headSpec ws rm).room.cells ≤ R.cells := by rw [show (headSpec ws rm).room.cells = mc from hrc]; exact hp.1
  have h5 : A.slots + (headSpec ws rm).room.slots ≤ R.slots := by rw [show (headSpec ws rm).room.slots = ms from hrs]; exact hp.2.1
  have hPc : Pc a (A.U.calling g mk a) := hblind _ _ _ _ hp.2.2
  obtain ⟨U, Ls, c0, s0⟩ := A
  dsimp only [Pt.U, Pt.locs, Pt.cells, Pt.slots] at h1 h2 h3 h4 h5 X hn hPc ⊢
  obtain ⟨methY, cY, hmY, hcY, -, hlY, -, -, -, -⟩ := Cond.code_spec hn h2
  obtain ⟨kY, hkY, -⟩ := className_of_methodNamed hn
  have hinitY : kY.init = .initialized := Cond.initialized_spec (findClass_of_methodNamed hn) hkY h3
  have h : At U g.method c below := by rw [hg]; exact X.here
  have hlocals9 : W9 + (maxL + 11) + (headSpec ws rm).room.locals ≤ R.locals := hlocals
  have happ : (headSpec ws rm).appliesLoose y e.platform (U.calling g mk a) = true :=
    Spec.appliesLoose_calling (g := g) h hdg hn hkY hinitY
      (X.room_calling (g := g) (R' := (headSpec ws rm).room) hsize hmY hcY hframes (by rw [hlY]; omega) h4 h5) h1
  obtain ⟨mid, hmid⟩ := h.above
  have hfr : (U.setTop g).frames = (.java g :: mid) ++ below := by rw [State.frames_setTop' g h.top, hmid]; rfl
  obtain ⟨o, s₂, hsteps, -, hend, hq⟩ := Steps.callFree hM p X.admits X.cas X.clock (acts := []) hfr happ hPc trivial
  have hq' : vx_Q Qc XC mc ms free a (U.calling g mk a) o s₂ := hq
  rw [State.frames_setTop' g h.top] at hend
  obtain ⟨g₀, hg0⟩ := Option.isSome_iff_exists.mp h.top
  obtain ⟨r, hr⟩ := State.topJava?_eq_some.mp hg0
  have hr' : (({ U with heap := s₂.heap, slotsUsed := s₂.slotsUsed } : State).setVm s₂.vm).frames = .java g₀ :: r := hr
  rcases hq' with ⟨hqc, L, hfe, hL⟩ | ⟨q, rfl, E, ce, L, hx, hce, hcv, hcl, hW₂, hsm, hL⟩
  · obtain ⟨⟨v, rfl⟩, hW₂, e2, q2, q3, q4, q5, q6⟩ := id hfe
    have e3 : s₂ = ({ (U.calling g mk a).setFrames s₂.frames with heap := s₂.heap, slotsUsed := s₂.slotsUsed } : State).setVm s₂.vm := by
      have : s₂ = ({ s₂ with vm := (U.calling g mk a).vm } : State).setVm s₂.vm := rfl
      rw [e2] at this
      exact this
    obtain ⟨c₂, i₂, len₂, hc₂, hd₂, hf₂⟩ := hend
    have hW' : U.WarmedH s₂.vm := hW₂
    have hcc : c₂ = c := by
      have h1 : s₂.code? g.method = U.code? g.method := by
        rw [State.code?_eq, State.code?_eq, hW'.alike.method?]
      exact Option.some.inj (hc₂.symm.trans (h1.trans h.code))
    subst hcc
    have hlen : len₂ = len := by rw [hdg] at hd₂; cases hd₂; rfl
    subst hlen
    have hs₂ : s₂ = (({ U with heap := s₂.heap, slotsUsed := s₂.slotsUsed } : State).setVm s₂.vm).setTop { g with pc := g.pc + len₂, stack := v.toList ++ g.stack } := by
      refine e3.trans ?_
      rw [hf₂, State.calling_eq h.top, State.setFrames_setFrames, State.setTop_of_frames _ hr', hr]
      rfl
    have hsame : U.sameButNew ({ U with heap := s₂.heap, slotsUsed := s₂.slotsUsed } : State) L mc ms := by
      refine ⟨?_, q2, q3, q4, q5, q6⟩
      obtain ⟨t, ht, -⟩ := State.frames_cons hr
      show ({ U with heap := s₂.heap, slotsUsed := s₂.slotsUsed } : State) = { U.setFrames U.frames with heap := s₂.heap, slotsUsed := s₂.slotsUsed }
      rw [State.setFrames_self ht]
    subst hg
    refine Or.inl ⟨v, ⟨(({ U with heap := s₂.heap, slotsUsed := s₂.slotsUsed } : State).setVm s₂.vm), Ls ++ L, c0 + mc, s0 + ms⟩,
      ⟨X.admits, X.cas, X.clock, X.frames, X.room, X.hears, X.method, X.code, (X.here.setHeapUsed s₂.heap s₂.slotsUsed).setVm hW'.alike, X.tail, State.WarmedH.trans X.warmed hW', X.limits, X.bytes, X.same.trans (hsame.setVm s.vm)⟩,
      ⟨g, mk, s₂, L, rfl, rfl, hqc, rfl, hL, rfl, rfl⟩, ?_⟩
    show Steps p.tables e below _ ((({ U with heap := s₂.heap, slotsUsed := s₂.slotsUsed } : State).setVm s₂.vm).setTop { g with pc := g.pc + len₂, stack := v.toList ++ g.stack })
    rw [← hs₂]
    exact hsteps
  · obtain ⟨e2, q2, q3, q4, q5, q6⟩ := id hsm
    have e3 : s₂ = ({ (U.calling g mk a).setFrames s₂.frames with heap := s₂.heap, slotsUsed := s₂.slotsUsed } : State).setVm s₂.vm := by
      have : s₂ = ({ s₂ with vm := (U.calling g mk a).vm } : State).setVm s₂.vm := rfl
      rw [e2] at this
      exact this
    have hf₂ : s₂.frames = .throwing q :: .java g :: U.frames.tail := hend
    have hW' : U.WarmedH s₂.vm := hW₂
    have hs₂ : s₂ = ((({ U with heap := s₂.heap, slotsUsed := s₂.slotsUsed } : State).setVm s₂.vm).setTop g).pushFrame (.throwing q) := by
      refine e3.trans ?_
      rw [hf₂, State.calling_eq h.top, State.setFrames_setFrames, State.pushFrame, State.frames_setTop _ hr', State.setTop_of_frames _ hr', State.setFrames_setFrames, hr]
      rfl
    have hsame : U.sameButNew ({ U with heap := s₂.heap, slotsUsed := s₂.slotsUsed } : State) L mc ms := by
      refine ⟨?_, q2, q3, q4, q5, q6⟩
      obtain ⟨t, ht, -⟩ := State.frames_cons hr
      show ({ U with heap := s₂.heap, slotsUsed := s₂.slotsUsed } : State) = { U.setFrames U.frames with heap := s₂.heap, slotsUsed := s₂.slotsUsed }
      rw [State.setFrames_self ht]
    subst hg
    refine Or.inr ⟨q, ⟨(({ U with heap := s₂.heap, slotsUsed := s₂.slotsUsed } : State).setVm s₂.vm), Ls ++ L, c0 + mc, s0 + ms⟩,
      ⟨X.admits, X.cas, X.clock, X.frames, X.room, X.hears, X.method, X.code, (X.here.setHeapUsed s₂.heap s₂.slotsUsed).setVm hW'.alike, X.tail, State.WarmedH.trans X.warmed hW', X.limits, X.bytes, X.same.trans (hsame.setVm s.vm)⟩,
      ⟨g, mk, s₂, L, E, ce, rfl, rfl, hx, hce, hcv, hcl, rfl, hL, rfl, rfl⟩, ?_⟩
    show Steps p.tables e below _ (((({ U with heap := s₂.heap, slotsUsed := s₂.slotsUsed } : State).setVm s₂.vm).setTop g).pushFrame (.throwing q))
    rw [← hs₂]
    exact hsteps
end Payer
section Calls
variable {p : Program} {l : Launch} {e : Env} {R : Room} {s : State} {m : MethodId} {args : Array Value} {below : List Frame} {meth : Method} {c : Code} {T : State} {locs : List Loc} {cells slots : Nat}
theorem vx_callV (X : Stand p l e R s m args below meth c T locs cells slots) (hexec : p.tables.exec = Jvm.exec) {own C : String} {index : Nat} {y : MethodName} {bytes : ByteArray} {maxL : Nat} {ret : Option FieldType}
    (hown : s.vm.findClass own = some m.cls) (hlink : (Cond.methodLink own index y).before args s = true) (hinst : (Cond.instanceMethod y).before args s = true) (hsel : (Cond.selects C y y).before args s = true)
    (hcode : (Cond.code y bytes maxL ret).before args s = true) (hy : y.cls ≠ "java/lang/invoke/MethodHandle" ∧ y.cls ≠ "java/lang/invoke/VarHandle")
    {W9 : Nat} {Pre : Pt → Array Value → Prop} {Post : Pt → Array Value → Option Value → Pt → Prop} {PostX : Pt → Array Value → Addr → Pt → Prop} (hK : vx_Back l R p e below s args y 3 W9 Pre Post PostX)
    {b : Addr} {cellB : Cell} (hcell : T.heap[b]? = some cellB) (hobj : cellB.vm.isStatics = false) (hcls : s.vm.findClass C = some cellB.cls)
    {g : JFrame} (hg : g.method = m) (hsize : g.locals.size = c.maxLocals) {argsL rest : List Value} (hlen : ∀ sig, parseMethodDescriptor y.desc = some sig → argsL.length = sig.parameters.length)
    (hstack : g.stack = argsL.reverse ++ .ref b :: rest) (hW : 2 * g.monitorRoom + (rest.map fun v => v.category).sum ≤ W9) (hdg : decode c.code g.pc = .ok (.invokevirtual index, 3))
    (hpre : ∀ vm₁, s.WarmedH vm₁ → Pre ⟨T.setVm vm₁, locs, cells, slots⟩ (Value.ref b :: argsL).toArray) :
    (∃ (v : Option Value) (vm₁ : Vm) (B : Pt), s.WarmedH vm₁ ∧ Stand p l e R s m args below meth c B.U B.locs B.cells B.slots ∧ Post ⟨T.setVm vm₁, locs, cells, slots⟩ (Value.ref b :: argsL).toArray v B ∧
      ∀ target, Steps p.tables e below (B.U.setTop { g with pc := g.pc + 3, stack := v.toList ++ rest }) target → Steps p.tables e below (T.setTop g) target) ∨
    (∃ (q : Addr) (vm₁ : Vm) (B : Pt), s.WarmedH vm₁ ∧ Stand p l e R s m args below meth c B.U B.locs B.cells B.slots ∧ PostX ⟨T.setVm vm₁, locs, cells, slots⟩ (Value.ref b :: argsL).toArray q B ∧
      Steps p.tables e below (T.setTop g) ((B.U.setTop { g with stack := rest }).pushFrame (.throwing q))) := by
  obtain ⟨mk, methM, hnamed, hmethM, hstM, habM⟩ := Cond.instanceMethod_spec hinst
  obtain ⟨methM', cM, hmethM', -, -, -, -, -, -, hsigM⟩ := Cond.code_spec hnamed hcode
  cases hmethM.symm.trans hmethM'
  obtain ⟨c2, r2, m2, q1, q2, q3, q4, kP, hkP, hkPi⟩ := Cond.selects_spec hsel
  cases hcls.symm.trans q1
  cases (State.methodFound?_of_named hnamed hy).symm.trans q2
  cases hnamed.symm.trans q3
  have hselP : selectMethod e.platform s.vm cellB.cls mk = .method mk := by rw [Launch.admits_selectMethod X.admits]; exact q4
  obtain ⟨vm₁, X₁, hstep₁⟩ := X.invokevirtual hexec hown hlink hnamed hmethM hstM hkP hkPi hy (a := b) (cell := cellB) hcell
    (fun z h => by rw [h] at hobj; cases hobj) hselP hmethM habM hkP hkPi (g := g) hg (argsL := argsL) (rest := rest) (hlen _ hsigM) hstack hdg
  rcases hK m meth c ⟨T.setVm vm₁, locs, cells, slots⟩ { g with stack := rest } (.invokevirtual index) mk (Value.ref b :: argsL).toArray X₁ hg hsize hdg hW (X₁.named hnamed) (hpre vm₁ X₁.warmed) with ⟨v, B, X', hpost, hsteps⟩ | ⟨q, B, X', hpost, hsteps⟩
  · exact Or.inl ⟨v, vm₁, B, X₁.warmed, X', hpost, fun target h => hstep₁ _ fun acts => by rw [doInvoke_state]; exact hsteps.trans h⟩
  · exact Or.inr ⟨q, vm₁, B, X₁.warmed, X', hpost, hstep₁ _ fun acts => by rw [doInvoke_state]; exact hsteps⟩
theorem vx_callS (X : Stand p l e R s m args below meth c T locs cells slots) (hexec : p.tables.exec = Jvm.exec) {own : String} {index : Nat} {y : MethodName} {bytes : ByteArray} {maxL : Nat} {ret : Option FieldType}
    (hown : s.vm.findClass own = some m.cls) (hlink : (Cond.methodLink own index y).before args s = true) (hstat : (Cond.static y).before args s = true) (hinit : (Cond.initialized y.cls).before args s = true)
    (hcode : (Cond.code y bytes maxL ret).before args s = true) (hy : y.cls ≠ "java/lang/invoke/MethodHandle" ∧ y.cls ≠ "java/lang/invoke/VarHandle")
    {W9 : Nat} {Pre : Pt → Array Value → Prop} {Post : Pt → Array Value → Option Value → Pt → Prop} {PostX : Pt → Array Value → Addr → Pt → Prop} (hK : vx_Back l R p e below s args y 3 W9 Pre Post PostX)
    {g : JFrame} (hg : g.method = m) (hsize : g.locals.size = c.maxLocals) {argsL rest : List Value} (hlen : ∀ sig, parseMethodDescriptor y.desc = some sig → argsL.length = sig.parameters.length)
    (hstack : g.stack = argsL.reverse ++ rest) (hW : 2 * g.monitorRoom + (rest.map fun v => v.category).sum ≤ W9) (hdg : decode c.code g.pc = .ok (.invokestatic index, 3))
    (hpre : ∀ vm₁, s.WarmedH vm₁ → Pre ⟨T.setVm vm₁, locs, cells, slots⟩ argsL.toArray) :
    (∃ (v : Option Value) (vm₁ : Vm) (B : Pt), s.WarmedH vm₁ ∧ Stand p l e R s m args below meth c B.U B.locs B.cells B.slots ∧ Post ⟨T.setVm vm₁, locs, cells, slots⟩ argsL.toArray v B ∧
      ∀ target, Steps p.tables e below (B.U.setTop { g with pc := g.pc + 3, stack := v.toList ++ rest }) target → Steps p.tables e below (T.setTop g) target) ∨
    (∃ (q : Addr) (vm₁ : Vm) (B : Pt), s.WarmedH vm₁ ∧ Stand p l e R s m args below meth c B.U B.locs B.cells B.slots ∧ PostX ⟨T.setVm vm₁, locs, cells, slots⟩ argsL.toArray q B ∧
      Steps p.tables e below (T.setTop g) ((B.U.setTop { g with stack := rest }).pushFrame (.throwing q))) := by
  obtain ⟨mk, hnamed⟩ := Cond.code_named hcode
  obtain ⟨methM, cM, hmethM, -, -, -, -, -, -, hsigM⟩ := Cond.code_spec hnamed hcode
  have hstatic : methM.isStatic = true := Cond.static_spec hnamed hmethM hstat
  obtain ⟨kP, hkP, -⟩ := className_of_methodNamed hnamed
  have hinitP : kP.init = .initialized := Cond.initialized_spec (findClass_of_methodNamed hnamed) hkP hinit
  obtain ⟨vm₁, X₁, hstep₁⟩ := X.invokestatic hexec hown hlink hnamed hmethM hstatic hkP hinitP hy (g := g) hg (argsL := argsL) (rest := rest) (hlen _ hsigM) hstack hdg
  rcases hK m meth c ⟨T.setVm vm₁, locs, cells, slots⟩ { g with stack := rest } (.invokestatic index) mk argsL.toArray X₁ hg hsize hdg hW (X₁.named hnamed) (hpre vm₁ X₁.warmed) with ⟨v, B, X', hpost, hsteps⟩ | ⟨q, B, X', hpost, hsteps⟩
  · exact Or.inl ⟨v, vm₁, B, X₁.warmed, X', hpost, fun target h => hstep₁ _ fun acts => by rw [doInvoke_state]; exact hsteps.trans h⟩
  · exact Or.inr ⟨q, vm₁, B, X₁.warmed, X', hpost, hstep₁ _ fun acts => by rw [doInvoke_state]; exact hsteps⟩
end Calls
theorem vx_cls {s : State} {T : State} {vm₁ : Vm} {E : String} {k : ClassId} (hW : s.WarmedH vm₁) (h : (T.setVm vm₁).vm.findClass E = some k) : s.vm.findClass E = some k := by
  have h1 : vm₁.findClass E = some k := h
  rw [hW.alike.findClass] at h1
  exact h1
/-- the method's frame g, with q thrown over it -/
def vx_W (p : Program) (l : Launch) (e : Env) (R : Room) (s : State) (m : MethodId) (args : Array Value) (below : List Frame) (meth : Method) (c : Code) (H : Heap) (locs : List Loc) (cells slots : Nat) (Q : State → Prop) (g : JFrame) (q : Addr) : Prop :=
  ∀ T : State, T.heap = H → Stand p l e R s m args below meth c T locs cells slots → ∃ t, Steps p.tables e below ((T.setTop g).pushFrame (.throwing q)) t ∧ Q t
def vx_Run (p : Program) (l : Launch) (e : Env) (R : Room) (s : State) (m : MethodId) (args : Array Value) (below : List Frame) (meth : Method) (c : Code) (H : Heap) (locs : List Loc) (cells slots mc ms : Nat) (g : JFrame) (rest : List Value) (Qa : State → Outcome → State → Prop) (XC : String → State → State → Prop) (free : Addr → Prop) : Prop :=
  ∀ T : State, T.heap = H → Stand p l e R s m args below meth c T locs cells slots →
    (∃ (v : Option Value) (st₀ t T' : State) (L : List Loc), st₀.heap = H ∧ Stand p l e R s m args below meth c T' (locs ++ L) (cells + mc) (slots + ms) ∧ (∀ q ∈ L, free q.base) ∧ T'.heap = t.heap ∧ T'.vm = t.vm ∧ Qa st₀ (.returned v) t ∧
      Goes p e below T g T' { g with pc := g.pc + 3, stack := v.toList ++ rest }) ∨
    (∃ (q : Addr) (st₀ t T' : State) (L : List Loc) (E : String) (ce : Cell), st₀.heap = H ∧ Stand p l e R s m args below meth c T' (locs ++ L) (cells + mc) (slots + ms) ∧ (∀ z ∈ L, free z.base) ∧ T'.heap = t.heap ∧ T'.vm = t.vm ∧ XC E st₀ t ∧ t.heap[q]? = some ce ∧ ce.vm = .none ∧ s.vm.findClass E = some ce.cls ∧
      Steps p.tables e below (T.setTop g) ((T'.setTop { g with stack := rest }).pushFrame (.throwing q)))
def vx_X {S : Type} (px : S → Prop) (B : String → S → State → Prop) (A : Nat → Prop) : String → State → State → Prop := fun E st t => ∃ u : S, px u ∧ B E u t ∧ va_F A st t
section Runs
variable {p : Program} {l : Launch} {e : Env} {R : Room} {s : State} {m : MethodId} {args : Array Value} {below : List Frame} {meth : Method} {c : Code} {H : Heap} {locs : List Loc} {cells slots : Nat}
variable {y : MethodName} {bytes cc : ByteArray} {maxL nL mc ms n index : Nat} {ret : Option FieldType} {ws : List Cond} {rm : Room} {Pc : Array Value → State → Prop} {Qc : Array Value → State → Outcome → State → Prop} {XC : String → State → State → Prop} {free : Addr → Prop} {Ts : List Cond} {own C : String} {b : Addr} {As rest : List Value} {g : JFrame}
theorem vx_callBack (cb : CallB R s args own index y bytes maxL ret ws rm mc ms n) (hM : vx_Met l y ws rm Pc Qc XC mc ms free) (hbl : FrameBlind Pc) : vx_Back l R p e below s args y 3 8 (PreOf R mc ms Pc) (PostOf Qc mc ms free) (vx_Post XC mc ms free) := by
  obtain ⟨hrc, hrs, hfr, hlo, hws, hcw, -, hini, -⟩ := cb
  exact vx_back (bytes := bytes) (maxL := maxL) (ret := ret) hM hbl hrc hrs hfr hlo hws hcw (fun a' U hW => word_at hW (Or.inl (by first | rfl | simp [Cond.onTables, Cond.keeps, Cond.steady])) hini)
theorem vx_runV (S : CallFix p m c cc nL s args Ts own) (hM : vx_Met l y ws rm Pc Qc XC mc ms free) (cw : CallW R s args own C index y bytes maxL ret ws rm mc ms n) (hp : PreV s H C b Pc As)
    (hg : g.method = m) (hn : As.length = n) (hsize : g.locals.size = nL) (hstack : g.stack = As.reverse ++ .ref b :: rest) (hW : 2 * g.monitorRoom + (rest.map fun v => v.category).sum ≤ 8) (hdg : decode cc g.pc = .ok (.invokevirtual index, 3)) (hf : cells + mc ≤ R.cells ∧ slots + ms ≤ R.slots) :
    vx_Run p l e R s m args below meth c H locs cells slots mc ms g rest (Qc (Value.ref b :: As).toArray) XC free := by
  have hK : vx_Back l R p e below s args y 3 8 (PreOf R mc ms Pc) (PostOf Qc mc ms free) (vx_Post XC mc ms free) := vx_callBack cw.1 hM hp.1
  obtain ⟨⟨-, -, -, -, -, -, hcode, -, hy, hlen, hl⟩, hin, hse⟩ := cw
  obtain ⟨hx, hb, hml, ho, -⟩ := S
  obtain ⟨-, ⟨cellB, hcB, hoB, hclB⟩, hPc⟩ := hp
  intro T hT X
  rcases vx_callV X hx (C := C) (bytes := bytes) (maxL := maxL) (ret := ret) ho hl hin hse hcode hy hK (by rw [hT]; exact hcB) hoB hclB hg (hsize.trans hml.symm) (argsL := As) (rest := rest) (fun sig h => hn.trans (hlen sig h)) hstack hW (by rw [hb]; exact hdg)
    (fun vm₁ hW₁ => ⟨hf.1, hf.2, hPc (T.setVm vm₁) hT hW₁⟩) with ⟨v, vm₁, ⟨U', l2, c2, s2⟩, hW₁, X', ⟨g', mk, t, L, e1, e2, hq, h1, hL, h2, h3⟩, st⟩ | ⟨q, vm₁, ⟨U', l2, c2, s2⟩, hW₁, X', ⟨g', mk, t, L, E, ce, e1, e2, hq, hce, hcv, hcl, h1, hL, h2, h3⟩, st⟩
  · dsimp only [Pt.U, Pt.locs, Pt.cells, Pt.slots] at X' e1 e2 h1 h2 h3 st
    subst h1; subst h2; subst h3
    exact Or.inl ⟨v, (T.setVm vm₁).calling g' mk (Value.ref b :: As).toArray, t, U', L, hT, X', hL, e1, e2, hq, st⟩
  · dsimp only [Pt.U, Pt.locs, Pt.cells, Pt.slots] at X' e1 e2 h1 h2 h3 st hcl
    subst h1; subst h2; subst h3
    exact Or.inr ⟨q, (T.setVm vm₁).calling g' mk (Value.ref b :: As).toArray, t, U', L, E, ce, hT, X', hL, e1, e2, hq, hce, hcv, vx_cls hW₁ hcl, st⟩
theorem vx_runS (S : CallFix p m c cc nL s args Ts own) (hM : vx_Met l y ws rm Pc Qc XC mc ms free) (cw : CallB R s args own index y bytes maxL ret ws rm mc ms n ∧ (Cond.static y).before args s = true) (hp : PreS s H Pc As)
    (hg : g.method = m) (hn : As.length = n) (hsize : g.locals.size = nL) (hstack : g.stack = As.reverse ++ rest) (hW : 2 * g.monitorRoom + (rest.map fun v => v.category).sum ≤ 8) (hdg : decode cc g.pc = .ok (.invokestatic index, 3)) (hf : cells + mc ≤ R.cells ∧ slots + ms ≤ R.slots) :
    vx_Run p l e R s m args below meth c H locs cells slots mc ms g rest (Qc As.toArray) XC free := by
  have hK : vx_Back l R p e below s args y 3 8 (PreOf R mc ms Pc) (PostOf Qc mc ms free) (vx_Post XC mc ms free) := vx_callBack cw.1 hM hp.1
  obtain ⟨⟨-, -, -, -, -, -, hcode, hini, hy, hlen, hl⟩, hstt⟩ := cw
  obtain ⟨hx, hb, hml, ho, -⟩ := S
  intro T hT X
  rcases vx_callS X hx (bytes := bytes) (maxL := maxL) (ret := ret) ho hl hstt hini hcode hy hK hg (hsize.trans hml.symm) (argsL := As) (rest := rest) (fun sig h => hn.trans (hlen sig h)) hstack hW (by rw [hb]; exact hdg)
    (fun vm₁ hW₁ => ⟨hf.1, hf.2, hp.2 (T.setVm vm₁) hT hW₁⟩) with ⟨v, vm₁, ⟨U', l2, c2, s2⟩, hW₁, X', ⟨g', mk, t, L, e1, e2, hq, h1, hL, h2, h3⟩, st⟩ | ⟨q, vm₁, ⟨U', l2, c2, s2⟩, hW₁, X', ⟨g', mk, t, L, E, ce, e1, e2, hq, hce, hcv, hcl, h1, hL, h2, h3⟩, st⟩
  · dsimp only [Pt.U, Pt.locs, Pt.cells, Pt.slots] at X' e1 e2 h1 h2 h3 st
    subst h1; subst h2; subst h3
    exact Or.inl ⟨v, (T.setVm vm₁).calling g' mk As.toArray, t, U', L, hT, X', hL, e1, e2, hq, st⟩
  · dsimp only [Pt.U, Pt.locs, Pt.cells, Pt.slots] at X' e1 e2 h1 h2 h3 st hcl
    subst h1; subst h2; subst h3
    exact Or.inr ⟨q, (T.setVm vm₁).calling g' mk As.toArray, t, U', L, E, ce, hT, X', hL, e1, e2, hq, hce, hcv, vx_cls hW₁ hcl, st⟩
end Runs
section Rows
variable {p : Program} {l : Launch} {e : Env} {R : Room} {s : State} {m : MethodId} {args : Array Value} {below : List Frame} {meth : Method} {c : Code} {H : Heap} {locs : List Loc} {cells slots : Nat} {Q : State → Prop}
variable {mc ms : Nat} {free : Addr → Prop} {A0 A1 : Nat → Prop} {H0 : Heap} {a : Array Value} {pc : Nat} {ls : Array Slot} {st0 rest : List Value}
theorem vx_keep {st₀ t T' : State} {L : List Loc} (h0 : st₀.heap = H) (e1 : T'.heap = t.heap) (hS : va_S A0 H0 H locs) (hA : ∀ q, q < H.size → A1 q → A0 q) (hf : ∀ q, free q → A0 q) (hL : ∀ q ∈ L, free q.base) (hF : va_F A1 st₀ t) :
    H.size ≤ T'.heap.size ∧ (∀ q : Nat, q < H.size → ¬ A1 q → T'.heap[q]? = H[q]?) ∧ va_S A0 H0 T'.heap (locs ++ L) := by
  obtain ⟨hz, hk⟩ := hF
  rw [h0] at hz hk
  exact ⟨by rw [e1]; exact hz, fun q h1 h2 => by rw [e1]; exact hk q h1 h2,
    ⟨Nat.le_trans hS.1 (by rw [e1]; exact hz), fun q h1 h2 => by rw [e1, hk q (Nat.lt_of_lt_of_le h1 hS.1) (fun z => h2 (hA q (Nat.lt_of_lt_of_le h1 hS.1) z))]; exact hS.2.1 q h1 h2, fun q hq => by
      rcases List.mem_append.mp hq with h | h
      · exact hS.2.2 q h
      · exact hf _ (hL q h)⟩⟩
theorem vx_calli {S SX : Type} {post : Int32 → S → Prop} {px : SX → Prop} {B : S → State → Prop} {BX : String → SX → State → Prop} {AX : Nat → Prop} (hr : vx_Run p l e R s m args below meth c H locs cells slots mc ms (F0 m pc ls st0) rest (va_Qi post B A1 a) (vx_X px BX AX) free) (hS : va_S A0 H0 H locs) (hA : ∀ q, q < H.size → A1 q → A0 q) (hf : ∀ q, free q → A0 q) (hAX : ∀ q, q < H.size → AX q → A0 q)
    (kx : ∀ (E : String) (ce : Cell) (q9 : Addr) (u : SX) (t : State) (H1 : Heap) (locs1 : List Loc), t.heap = H1 → s.vm.Alike t.vm → px u → BX E u t → H.size ≤ H1.size → (∀ q : Nat, q < H.size → ¬ AX q → H1[q]? = H[q]?) → va_S A0 H0 H1 locs1 → H1[q9]? = some ce → ce.vm = .none → s.vm.findClass E = some ce.cls → vx_W p l e R s m args below meth c H1 locs1 (cells + mc) (slots + ms) Q (F0 m pc ls rest) q9)
    (kk : ∀ (r : Int32) (u : S) (t : State) (H1 : Heap) (locs1 : List Loc), t.heap = H1 → s.vm.Alike t.vm → post r u → B u t → H.size ≤ H1.size → (∀ q : Nat, q < H.size → ¬ A1 q → H1[q]? = H[q]?) → va_S A0 H0 H1 locs1 → W p l e R s m args below meth c H1 locs1 (cells + mc) (slots + ms) Q (F0 m (pc + 3) ls (.int r :: rest))) : W p l e R s m args below meth c H locs cells slots Q (F0 m pc ls st0) := by
  intro T hT X
  rcases hr T hT X with ⟨v, st₀, t, T', L, h0, X', hL, e1, e2, ⟨⟨r, u, hv, hp, hb⟩, hF⟩, st⟩ | ⟨q, st₀, t, T', L, E, ce, h0, X', hL, e1, e2, ⟨u, hp, hb, hF⟩, hce, hcv, hcl, st⟩
  · cases hv
    obtain ⟨k1, k2, k3⟩ := vx_keep h0 e1 hS hA hf hL hF
    obtain ⟨t2, a1, b1⟩ := kk r u t T'.heap (locs ++ L) e1.symm (by rw [← e2]; exact X'.warmed.alike) hp hb k1 k2 k3 T' rfl X'
    exact ⟨t2, st t2 a1, b1⟩
  · obtain ⟨k1, k2, k3⟩ := vx_keep h0 e1 hS hAX hf hL hF
    obtain ⟨t2, a1, b1⟩ := kx E ce q u t T'.heap (locs ++ L) e1.symm (by rw [← e2]; exact X'.warmed.alike) hp hb k1 k2 k3 (by rw [e1]; exact hce) hcv hcl T' rfl X'
    exact ⟨t2, st.trans a1, b1⟩
theorem vx_calll {S SX : Type} {post : Int64 → S → Prop} {px : SX → Prop} {B : S → State → Prop} {BX : String → SX → State → Prop} {AX : Nat → Prop} (hr : vx_Run p l e R s m args below meth c H locs cells slots mc ms (F0 m pc ls st0) rest (va_Ql post B A1 a) (vx_X px BX AX) free) (hS : va_S A0 H0 H locs) (hA : ∀ q, q < H.size → A1 q → A0 q) (hf : ∀ q, free q → A0 q) (hAX : ∀ q, q < H.size → AX q → A0 q)
    (kx : ∀ (E : String) (ce : Cell) (q9 : Addr) (u : SX) (t : State) (H1 : Heap) (locs1 : List Loc), t.heap = H1 → s.vm.Alike t.vm → px u → BX E u t → H.size ≤ H1.size → (∀ q : Nat, q < H.size → ¬ AX q → H1[q]? = H[q]?) → va_S A0 H0 H1 locs1 → H1[q9]? = some ce → ce.vm = .none → s.vm.findClass E = some ce.cls → vx_W p l e R s m args below meth c H1 locs1 (cells + mc) (slots + ms) Q (F0 m pc ls rest) q9)
    (kk : ∀ (r : Int64) (u : S) (t : State) (H1 : Heap) (locs1 : List Loc), t.heap = H1 → s.vm.Alike t.vm → post r u → B u t → H.size ≤ H1.size → (∀ q : Nat, q < H.size → ¬ A1 q → H1[q]? = H[q]?) → va_S A0 H0 H1 locs1 → W p l e R s m args below meth c H1 locs1 (cells + mc) (slots + ms) Q (F0 m (pc + 3) ls (.long r :: rest))) : W p l e R s m args below meth c H locs cells slots Q (F0 m pc ls st0) := by
  intro T hT X
  rcases hr T hT X with ⟨v, st₀, t, T', L, h0, X', hL, e1, e2, ⟨⟨r, u, hv, hp, hb⟩, hF⟩, st⟩ | ⟨q, st₀, t, T', L, E, ce, h0, X', hL, e1, e2, ⟨u, hp, hb, hF⟩, hce, hcv, hcl, st⟩
  · cases hv
    obtain ⟨k1, k2, k3⟩ := vx_keep h0 e1 hS hA hf hL hF
    obtain ⟨t2, a1, b1⟩ := kk r u t T'.heap (locs ++ L) e1.symm (by rw [← e2]; exact X'.warmed.alike) hp hb k1 k2 k3 T' rfl X'
    exact ⟨t2, st t2 a1, b1⟩
  · obtain ⟨k1, k2, k3⟩ := vx_keep h0 e1 hS hAX hf hL hF
    obtain ⟨t2, a1, b1⟩ := kx E ce q u t T'.heap (locs ++ L) e1.symm (by rw [← e2]; exact X'.warmed.alike) hp hb k1 k2 k3 (by rw [e1]; exact hce) hcv hcl T' rfl X'
    exact ⟨t2, st.trans a1, b1⟩
theorem vx_callf {S SX : Type} {post : UInt32 → S → Prop} {px : SX → Prop} {B : S → State → Prop} {BX : String → SX → State → Prop} {AX : Nat → Prop} (hr : vx_Run p l e R s m args below meth c H locs cells slots mc ms (F0 m pc ls st0) rest (va_Qf post B A1 a) (vx_X px BX AX) free) (hS : va_S A0 H0 H locs) (hA : ∀ q, q < H.size → A1 q → A0 q) (hf : ∀ q, free q → A0 q) (hAX : ∀ q, q < H.size → AX q → A0 q)
    (kx : ∀ (E : String) (ce : Cell) (q9 : Addr) (u : SX) (t : State) (H1 : Heap) (locs1 : List Loc), t.heap = H1 → s.vm.Alike t.vm → px u → BX E u t → H.size ≤ H1.size → (∀ q : Nat, q < H.size → ¬ AX q → H1[q]? = H[q]?) → va_S A0 H0 H1 locs1 → H1[q9]? = some ce → ce.vm = .none → s.vm.findClass E = some ce.cls → vx_W p l e R s m args below meth c H1 locs1 (cells + mc) (slots + ms) Q (F0 m pc ls rest) q9)
    (kk : ∀ (r : UInt32) (u : S) (t : State) (H1 : Heap) (locs1 : List Loc), t.heap = H1 → s.vm.Alike t.vm → post r u → B u t → H.size ≤ H1.size → (∀ q : Nat, q < H.size → ¬ A1 q → H1[q]? = H[q]?) → va_S A0 H0 H1 locs1 → W p l e R s m args below meth c H1 locs1 (cells + mc) (slots + ms) Q (F0 m (pc + 3) ls (.float r :: rest))) : W p l e R s m args below meth c H locs cells slots Q (F0 m pc ls st0) := by
  intro T hT X
  rcases hr T hT X with ⟨v, st₀, t, T', L, h0, X', hL, e1, e2, ⟨⟨r, u, hv, hp, hb⟩, hF⟩, st⟩ | ⟨q, st₀, t, T', L, E, ce, h0, X', hL, e1, e2, ⟨u, hp, hb, hF⟩, hce, hcv, hcl, st⟩
  · cases hv
    obtain ⟨k1, k2, k3⟩ := vx_keep h0 e1 hS hA hf hL hF
    obtain ⟨t2, a1, b1⟩ := kk r u t T'.heap (locs ++ L) e1.symm (by rw [← e2]; exact X'.warmed.alike) hp hb k1 k2 k3 T' rfl X'
    exact ⟨t2, st t2 a1, b1⟩
  · obtain ⟨k1, k2, k3⟩ := vx_keep h0 e1 hS hAX hf hL hF
    obtain ⟨t2, a1, b1⟩ := kx E ce q u t T'.heap (locs ++ L) e1.symm (by rw [← e2]; exact X'.warmed.alike) hp hb k1 k2 k3 (by rw [e1]; exact hce) hcv hcl T' rfl X'
    exact ⟨t2, st.trans a1, b1⟩
theorem vx_calld {S SX : Type} {post : UInt64 → S → Prop} {px : SX → Prop} {B : S → State → Prop} {BX : String → SX → State → Prop} {AX : Nat → Prop} (hr : vx_Run p l e R s m args below meth c H locs cells slots mc ms (F0 m pc ls st0) rest (va_Qd post B A1 a) (vx_X px BX AX) free) (hS : va_S A0 H0 H locs) (hA : ∀ q, q < H.size → A1 q → A0 q) (hf : ∀ q, free q → A0 q) (hAX : ∀ q, q < H.size → AX q → A0 q)
    (kx : ∀ (E : String) (ce : Cell) (q9 : Addr) (u : SX) (t : State) (H1 : Heap) (locs1 : List Loc), t.heap = H1 → s.vm.Alike t.vm → px u → BX E u t → H.size ≤ H1.size → (∀ q : Nat, q < H.size → ¬ AX q → H1[q]? = H[q]?) → va_S A0 H0 H1 locs1 → H1[q9]? = some ce → ce.vm = .none → s.vm.findClass E = some ce.cls → vx_W p l e R s m args below meth c H1 locs1 (cells + mc) (slots + ms) Q (F0 m pc ls rest) q9)
    (kk : ∀ (r : UInt64) (u : S) (t : State) (H1 : Heap) (locs1 : List Loc), t.heap = H1 → s.vm.Alike t.vm → post r u → B u t → H.size ≤ H1.size → (∀ q : Nat, q < H.size → ¬ A1 q → H1[q]? = H[q]?) → va_S A0 H0 H1 locs1 → W p l e R s m args below meth c H1 locs1 (cells + mc) (slots + ms) Q (F0 m (pc + 3) ls (.double r :: rest))) : W p l e R s m args below meth c H locs cells slots Q (F0 m pc ls st0) := by
  intro T hT X
  rcases hr T hT X with ⟨v, st₀, t, T', L, h0, X', hL, e1, e2, ⟨⟨r, u, hv, hp, hb⟩, hF⟩, st⟩ | ⟨q, st₀, t, T', L, E, ce, h0, X', hL, e1, e2, ⟨u, hp, hb, hF⟩, hce, hcv, hcl, st⟩
  · cases hv
    obtain ⟨k1, k2, k3⟩ := vx_keep h0 e1 hS hA hf hL hF
    obtain ⟨t2, a1, b1⟩ := kk r u t T'.heap (locs ++ L) e1.symm (by rw [← e2]; exact X'.warmed.alike) hp hb k1 k2 k3 T' rfl X'
    exact ⟨t2, st t2 a1, b1⟩
  · obtain ⟨k1, k2, k3⟩ := vx_keep h0 e1 hS hAX hf hL hF
    obtain ⟨t2, a1, b1⟩ := kx E ce q u t T'.heap (locs ++ L) e1.symm (by rw [← e2]; exact X'.warmed.alike) hp hb k1 k2 k3 (by rw [e1]; exact hce) hcv hcl T' rfl X'
    exact ⟨t2, st.trans a1, b1⟩
theorem vx_callv {S SX : Type} {post : S → Prop} {px : SX → Prop} {B : S → State → Prop} {BX : String → SX → State → Prop} {AX : Nat → Prop} (hr : vx_Run p l e R s m args below meth c H locs cells slots mc ms (F0 m pc ls st0) rest (va_Qv post B A1 a) (vx_X px BX AX) free) (hS : va_S A0 H0 H locs) (hA : ∀ q, q < H.size → A1 q → A0 q) (hf : ∀ q, free q → A0 q) (hAX : ∀ q, q < H.size → AX q → A0 q)
    (kx : ∀ (E : String) (ce : Cell) (q9 : Addr) (u : SX) (t : State) (H1 : Heap) (locs1 : List Loc), t.heap = H1 → s.vm.Alike t.vm → px u → BX E u t → H.size ≤ H1.size → (∀ q : Nat, q < H.size → ¬ AX q → H1[q]? = H[q]?) → va_S A0 H0 H1 locs1 → H1[q9]? = some ce → ce.vm = .none → s.vm.findClass E = some ce.cls → vx_W p l e R s m args below meth c H1 locs1 (cells + mc) (slots + ms) Q (F0 m pc ls rest) q9)
    (kk : ∀ (u : S) (t : State) (H1 : Heap) (locs1 : List Loc), t.heap = H1 → s.vm.Alike t.vm → post u → B u t → H.size ≤ H1.size → (∀ q : Nat, q < H.size → ¬ A1 q → H1[q]? = H[q]?) → va_S A0 H0 H1 locs1 → W p l e R s m args below meth c H1 locs1 (cells + mc) (slots + ms) Q (F0 m (pc + 3) ls (rest))) : W p l e R s m args below meth c H locs cells slots Q (F0 m pc ls st0) := by
  intro T hT X
  rcases hr T hT X with ⟨v, st₀, t, T', L, h0, X', hL, e1, e2, ⟨⟨u, hv, hp, hb⟩, hF⟩, st⟩ | ⟨q, st₀, t, T', L, E, ce, h0, X', hL, e1, e2, ⟨u, hp, hb, hF⟩, hce, hcv, hcl, st⟩
  · cases hv
    obtain ⟨k1, k2, k3⟩ := vx_keep h0 e1 hS hA hf hL hF
    obtain ⟨t2, a1, b1⟩ := kk u t T'.heap (locs ++ L) e1.symm (by rw [← e2]; exact X'.warmed.alike) hp hb k1 k2 k3 T' rfl X'
    exact ⟨t2, st t2 a1, b1⟩
  · obtain ⟨k1, k2, k3⟩ := vx_keep h0 e1 hS hAX hf hL hF
    obtain ⟨t2, a1, b1⟩ := kx E ce q u t T'.heap (locs ++ L) e1.symm (by rw [← e2]; exact X'.warmed.alike) hp hb k1 k2 k3 (by rw [e1]; exact hce) hcv hcl T' rfl X'
    exact ⟨t2, st.trans a1, b1⟩
/-- caught by the row x of this method's table; the rows ahead don't take it -/
theorem vx_catch {own name : String} {E : String} {ce : Cell} {q : Addr} (hown : s.vm.findClass own = some m.cls) (pre : List ExceptionTableEntry) (x : ExceptionTableEntry) (suf : List ExceptionTableEntry) (hsplit : c.exceptionTable.toList = pre ++ x :: suf)
    (hpass : ∀ z ∈ pre, covers z pc = false ∨ (z.catchType ≠ 0 ∧ ∃ nm : String, (Cond.classLink own z.catchType nm).before args s = true ∧ va_Nc E nm s)) (hx : covers x pc = true) (h0 : x.catchType ≠ 0)
    (hlink : (Cond.classLink own x.catchType name).before args s = true) (hcast : (Cond.castable E name).before args s = true) (hcell : H[q]? = some ce) (hv : ce.vm = .none) (hcl : s.vm.findClass E = some ce.cls)
    (kk : W p l e R s m args below meth c H locs cells slots Q (F0 m x.handlerPc ls [.ref q])) : vx_W p l e R s m args below meth c H locs cells slots Q (F0 m pc ls rest) q := by
  intro T hT X
  have hpl : e.platform.magicAccessors = ({} : Platform).magicAccessors := by rw [X.admits.platform]
  obtain ⟨c3, c4, hc3, hc4, hasg⟩ := Cond.castable_spec hcast
  cases Option.some.inj (hc3.symm.trans hcl)
  obtain ⟨c5, hc5, hcl5⟩ := Cond.classLink_spec hown hlink e.platform hpl
  cases Option.some.inj (hc4.symm.trans hc5)
  obtain ⟨vm', X', st⟩ := X.thenCaughtThrough q (g := F0 m pc ls rest) rfl (Steps.refl _) (by rw [hT]; exact hcell) (by rw [hv]; rfl) (by obtain ⟨k9, h9, -⟩ := Vm.findClass_spec hcl; exact ⟨k9, h9⟩) pre x suf hsplit
    (fun z hz => by
      rcases hpass z hz with h | ⟨hz0, nm, hl1, hn1⟩
      · exact Or.inl h
      · obtain ⟨c6, hc6, hcl6⟩ := Cond.classLink_spec hown hl1 e.platform hpl
        obtain ⟨a8, b8, h1, h2, h3⟩ := hn1
        cases Option.some.inj (h1.symm.trans hcl)
        cases Option.some.inj (h2.symm.trans hc6)
        exact Or.inr ⟨hz0, _, hcl6, h3⟩) hx (Or.inr ⟨h0, c4, hcl5, hasg⟩)
  obtain ⟨t, a1, b1⟩ := kk (T.setVm vm') hT X'
  exact ⟨t, st.trans a1, b1⟩
end Rows
section Ends
variable {p : Program} {l : Launch} {e : Env} {R : Room} {s : State} {m : MethodId} {args : Array Value} {below : List Frame} {meth : Method} {c : Code} {H : Heap} {locs : List Loc} {cells slots : Nat} {Q : State → Prop}
variable {mc ms : Nat} {free : Addr → Prop} {A0 A1 : Nat → Prop} {H0 : Heap} {a : Array Value} {ls : Array Slot} {st0 rest : List Value}
variable {Qc : Array Value → State → Outcome → State → Prop} {XC : String → State → State → Prop}
/-- what a body that may throw owes at its end -/
def vx_MQ (below : List Frame) (Qc : Array Value → State → Outcome → State → Prop) (XC : String → State → State → Prop) (a : Array Value) (s : State) (mc ms : Nat) (free : Addr → Prop) : State → Prop := fun t =>
  ∃ o, t.status = .running ∧ Ended t below o ∧ vx_Q Qc XC mc ms free a s o t
theorem vx_ret {g : JFrame} {mc ms : Nat} (k : W p l e R s m args below meth c H locs cells slots (MQ below Qc args s mc ms free) g) : W p l e R s m args below meth c H locs cells slots (vx_MQ below Qc XC args s mc ms free) g := by
  intro T hT X
  obtain ⟨t, a1, o, b1, b2, b3, b4⟩ := k T hT X
  exact ⟨t, a1, o, b1, b2, Or.inl ⟨b3, b4⟩⟩
/-- not caught here: it goes on to the caller -/
theorem vx_widen {g : JFrame} {q : Addr} {k n : Nat} (h1 : cells ≤ k) (h2 : slots ≤ n) (kk : vx_W p l e R s m args below meth c H locs k n Q g q) : vx_W p l e R s m args below meth c H locs cells slots Q g q := fun T hT X => kk T hT (stand_widen X h1 h2)
theorem vx_out {pc : Nat} {E : String} {ce : Cell} {q : Addr} {mc ms : Nat} (hout : ∀ x ∈ c.exceptionTable.toList, covers x pc = false) (hlocks : meth.locks = false) (hcell : H[q]? = some ce) (hv : ce.vm = .none) (hcl : s.vm.findClass E = some ce.cls)
    (hx : ∀ t : State, t.heap = H → s.vm.Alike t.vm → XC E s t) (hf : ∀ z ∈ locs, free z.base) (hc : cells ≤ mc) (hs : slots ≤ ms) :
    vx_W p l e R s m args below meth c H locs cells slots (vx_MQ below Qc XC args s mc ms free) (F0 m pc ls rest) q := by
  intro T hT X
  obtain ⟨st1, hrun, hend, hW, hsm⟩ := X.leaveThrown q (g := F0 m pc ls rest) rfl rfl rfl hout hlocks
  have hcell9 : (T.setFrames (.throwing q :: below)).heap[q]? = some ce := by
    show T.heap[q]? = some ce
    rw [hT]; exact hcell
  exact ⟨_, st1, .threw q, hrun, hend, Or.inr ⟨q, rfl, E, ce, locs, hx _ hT hW.alike, hcell9, hv, hcl, hW, hsm.mono hc hs, hf⟩⟩
theorem vx_frame {U : State} {k n : Nat} (h : s.sameButNew ({ U with vm := s.vm } : State) locs k n) : s.heap.size ≤ U.heap.size ∧ ∀ q : Nat, q < s.heap.size → (∀ z ∈ locs, z.base ≠ q) → U.heap[q]? = s.heap[q]? := by
  obtain ⟨-, h2, -, -, -, h6⟩ := h
  refine ⟨h2, fun q hq hz => ?_⟩
  obtain ⟨c9, e1, e2, e3, e4⟩ := h6 q _ (Array.getElem?_eq_getElem hq)
  have hs : c9.slots = (s.heap[q]).slots := Array.ext_getElem? fun i => e4 i fun hm => hz _ hm rfl
  have h9 : c9 = s.heap[q] := by
    rw [hs] at e2
    exact e2
  have e5 : U.heap[q]? = some c9 := e1
  rw [e5, h9, Array.getElem?_eq_getElem hq]
/-- the words of a throw but the four that speak of the heap -/
def vx_no (w : Cond) : Bool := decide (w ≠ .isRef (.static Bundle.tN "UNASSIGNED_STACK" Bundle.steD)) && decide (w ≠ .isRef (.static Bundle.tN "SUPPRESSED_SENTINEL" Bundle.listD)) && decide (w ≠ .laysStatic Bundle.tN "UNASSIGNED_STACK" Bundle.steD) && decide (w ≠ .laysStatic Bundle.tN "SUPPRESSED_SENTINEL" Bundle.listD)
def vx_at0 (own : String) (ic : Nat) (X : String) (names : List String) : List Cond := (Bundle.ownAtoms0 own ic X names).filter vx_no
def vx_atS (own : String) (ic : Nat) (X : String) (names : List String) : List Cond := (Bundle.ownAtoms own ic X names).filter vx_no
/-- a word that the tables alone decide, or a good one -/
def vx_ot (w : Cond) : Bool := w.onTables || goodWord w
theorem vx_ot_at {args a' : Array Value} {s U : State} {w : Cond} (hW : s.WarmedH U.vm) (hvm : s.vm = U.vm) (hg : vx_ot w = true) (h : w.before args s = true) : w.before a' U = true := by
  simp only [vx_ot, Bool.or_eq_true] at hg
  rcases hg with hg | hg
  · exact va_tabs hg hvm h
  · exact word_at hW (good_of_word hg) h
/-- a list's words: the good ones out of the method's own list, the others by premises of their own -/
theorem vx_hat {args : Array Value} {s : State} {L B : List Cond} (h1 : ∀ w ∈ L.filter goodWord, w.before args s = true) (h2 : ∀ w ∈ L.filter (fun w => !goodWord w), w ∈ B) (h3 : ∀ w ∈ B, w.before args s = true) : ∀ w ∈ L, w.before args s = true := by
  intro w hw
  by_cases g : goodWord w = true
  · exact h1 w (List.mem_filter.mpr ⟨hw, g⟩)
  · refine h3 w (h2 w (List.mem_filter.mpr ⟨hw, ?_⟩))
    show (!goodWord w) = true
    cases hgw : goodWord w
    · rfl
    · exact absurd hgw g
theorem vx_c {args : Array Value} {s : State} {w : Cond} {B : List Cond} (h : w.before args s = true) (t : ∀ w ∈ B, w.before args s = true) : ∀ w' ∈ w :: B, w'.before args s = true := fun w' h' => (List.mem_cons.mp h').elim (fun e => by rw [e]; exact h) (t w')
theorem vx_n {args : Array Value} {s : State} : ∀ w ∈ ([] : List Cond), w.before args s = true := fun _ h => nomatch h
theorem vx_own {args : Array Value} {s : State} {L : List Cond} (h1 : ∀ w ∈ L.filter vx_no, w.before args s = true)
    (hU : (Cond.isRef (.static Bundle.tN "UNASSIGNED_STACK" Bundle.steD)).before args s = true) (hN : (Cond.isRef (.static Bundle.tN "SUPPRESSED_SENTINEL" Bundle.listD)).before args s = true)
    (lU : (Cond.laysStatic Bundle.tN "UNASSIGNED_STACK" Bundle.steD).before args s = true) (lN : (Cond.laysStatic Bundle.tN "SUPPRESSED_SENTINEL" Bundle.listD).before args s = true) : ∀ w ∈ L, w.before args s = true := by
  intro w hw
  by_cases e1 : w = .isRef (.static Bundle.tN "UNASSIGNED_STACK" Bundle.steD)
  · rw [e1]; exact hU
  · by_cases e2 : w = .isRef (.static Bundle.tN "SUPPRESSED_SENTINEL" Bundle.listD)
    · rw [e2]; exact hN
    · by_cases e3 : w = .laysStatic Bundle.tN "UNASSIGNED_STACK" Bundle.steD
      · rw [e3]; exact lU
      · by_cases e4 : w = .laysStatic Bundle.tN "SUPPRESSED_SENTINEL" Bundle.listD
        · rw [e4]; exact lN
        · exact h1 w (List.mem_filter.mpr ⟨hw, by unfold vx_no; rw [decide_eq_true e1, decide_eq_true e2, decide_eq_true e3, decide_eq_true e4]; rfl⟩)
/-- where a static field lies, its class's statics cell in H -/
def vx_L (C n d : String) (A : Nat → Prop) (U : State) (H : Heap) : Prop := ∃ (c : ClassId) (k : Class) (i : Nat) (f : Field) (a : Nat) (cell : Cell), U.vm.findClass C = some c ∧ U.fieldFound? C n d = some (c, k, i, f) ∧ f.isStatic = true ∧ k.statics = some a ∧ H[a]? = some cell ∧ cell.vm.isStatics = true ∧ cell.cls = c ∧ f.slot < cell.slots.size ∧ k.staticTypes[f.slot]? = some f.type ∧ ¬ A a
theorem vx_L.moved {C n d : String} {A : Nat → Prop} {u U : State} {H : Heap} (hvm : u.vm.Alike U.vm) (h : vx_L C n d A u H) : vx_L C n d A U H := by
  obtain ⟨c, k, i, f, a, cell, h1, h2, h3, h4, h5, h6, h7, h8, h9, h10⟩ := h
  obtain ⟨k', hi', he⟩ := State.fieldFound?_setVm hvm h2
  exact ⟨c, k', i, f, a, cell, by rw [hvm.findClass]; exact h1, hi', h3, by rw [he]; exact h4, h5, h6, h7, h8, by rw [he]; exact h9, h10⟩
theorem vx_L.kept {C n d : String} {A : Nat → Prop} {U : State} {H H1 : Heap} (h : vx_L C n d A U H) (hq : ∀ a : Nat, a < H.size → ¬ A a → H1[a]? = H[a]?) : vx_L C n d A U H1 := by
  obtain ⟨c, k, i, f, a, cell, h1, h2, h3, h4, h5, h6, h7, h8, h9, h10⟩ := h
  exact ⟨c, k, i, f, a, cell, h1, h2, h3, h4, by rw [hq a (Array.getElem?_eq_some_iff.mp h5).1 h10]; exact h5, h6, h7, h8, h9, h10⟩
theorem vx_L.narrow {C n d : String} {A B : Nat → Prop} {U : State} {H : Heap} (h : vx_L C n d A U H) (hAB : ∀ q, B q → A q) : vx_L C n d B U H := by
  obtain ⟨c, k, i, f, a, cell, h1, h2, h3, h4, h5, h6, h7, h8, h9, h10⟩ := h
  exact ⟨c, k, i, f, a, cell, h1, h2, h3, h4, h5, h6, h7, h8, h9, fun z => h10 (hAB _ z)⟩
theorem vx_L.word {C n d : String} {A : Nat → Prop} {s : State} {args : Array Value} (h : vx_L C n d A s s.heap) : (Cond.laysStatic C n d).before args s = true := by
  obtain ⟨c, k, i, f, a, cell, h1, h2, h3, h4, h5, h6, h7, h8, h9, -⟩ := h
  show (Cond.laysStatic C n d).holds args s none s [] = true
  exact Cond.laysStatic_of h1 h2 h3 h4 h5 h6 h7 h8 h9
/-- .. and what it holds: null or some reference -/
def vx_Zq (C n d : String) (A : Nat → Prop) (U : State) (H : Heap) : Prop := va_Zq C n d A U H ∧ vx_L C n d A U H
theorem vx_Zq.moved {C n d : String} {A : Nat → Prop} {u U : State} {H : Heap} (hvm : u.vm.Alike U.vm) (h : vx_Zq C n d A u H) : vx_Zq C n d A U H := ⟨va_Zq.moved hvm h.1, vx_L.moved hvm h.2⟩
theorem vx_Zq.kept {C n d : String} {A : Nat → Prop} {U : State} {H H1 : Heap} (h : vx_Zq C n d A U H) (hq : ∀ a : Nat, a < H.size → ¬ A a → H1[a]? = H[a]?) : vx_Zq C n d A U H1 := ⟨va_Zq.kept h.1 hq, vx_L.kept h.2 hq⟩
theorem vx_Zq.narrow {C n d : String} {A B : Nat → Prop} {U : State} {H : Heap} (h : vx_Zq C n d A U H) (hAB : ∀ q, B q → A q) : vx_Zq C n d B U H := ⟨va_Zq.narrow h.1 hAB, vx_L.narrow h.2 hAB⟩
theorem vx_Zqof {args : Array Value} {s : State} {C n d : String} {A : Nat → Prop} (hl : (Cond.laysStatic C n d).before args s = true) (hini : (Cond.initialized C).before args s = true) (h : (Cond.isRef (.static C n d)).before args s = true) (hA : ∀ a : Nat, a < s.heap.size → ¬ A a) : vx_Zq C n d A s s.heap := by
  refine ⟨va_Zqof hl hini h hA, ?_⟩
  obtain ⟨c, k, i, f, a, cell, h1, h2, h3, h4, h5, h6, h7, h8, h9⟩ := Cond.laysStatic_spec hl
  exact ⟨c, k, i, f, a, cell, h1, h2, h3, h4, h5, h6, h7, h8, h9, hA a (Array.getElem?_eq_some_iff.mp h5).1⟩
theorem vx_isRef {C n d : String} {v : Value} {A : Nat → Prop} {s : State} {args : Array Value} (h : va_Z C n d v A s s.heap) (hv : v.isRef = true) : (Cond.isRef (.static C n d)).before args s = true := by
  obtain ⟨cf, kf, fi, f, a, cell, h1, h2, h3, h4, h5, h6, h7, -⟩ := h
  have he : (Term.static C n d).eval args s none [] s = some v := by
    simp [Term.eval, State.fieldNamed?, h1, h2, h4, h5, h6, h7]
  simp only [Cond.before, Cond.holds, Cond.value, he]
  cases v <;> simp_all [Value.isRef]
theorem vx_isRefq {C n d : String} {A : Nat → Prop} {s : State} {args : Array Value} (h : va_Zq C n d A s s.heap) : (Cond.isRef (.static C n d)).before args s = true := by
  rcases h with h | ⟨t, h⟩
  · exact vx_isRef h rfl
  · exact vx_isRef h rfl
/-- the same frame, seen from here: as if the method were called anew in this heap -/
theorem vx_rebase {T : State} (X : Stand p l e R s m args below meth c T locs cells slots) {R' : Room} (hf : R'.frames ≤ R.frames) (hl : R'.locals ≤ R.locals) (hc : cells + R'.cells ≤ R.cells) (hs : slots + R'.slots ≤ R.slots) :
    Stand p l e R' ((T.setVm s.vm).setFrames (.invoking m args :: below)) m args below meth c T [] 0 0 := by
  have htop : (T.setVm s.vm).topJava?.isSome := X.here.top
  have hF : ((T.setVm s.vm).setFrames (.invoking m args :: below)).frames = .invoking m args :: below := State.frames_setFrames _ (State.cur_lt_of_top htop)
  obtain ⟨g₀, hg0⟩ := Option.isSome_iff_exists.mp htop
  obtain ⟨r, hr⟩ := State.topJava?_eq_some.mp hg0
  have hl9 : e.platform.stackLimits (T.setVm s.vm).me = e.platform.stackLimits s.me := X.limits
  have hb9 : (T.setVm s.vm).me.stackBytes = s.me.stackBytes := X.bytes
  refine ⟨X.admits, X.cas, X.clock, hF, ?_, X.hears, X.method, X.code, X.here, X.tail, X.warmed, ?_, ?_, ?_⟩
  · have h := X.room
    have hU : ((T.setVm s.vm).setFrames (.invoking m args :: below)).localsInUse = s.localsInUse := by
      rw [State.localsInUse_invoking hF (meth := meth) (c := c) X.method X.code, State.localsInUse_invoking X.frames X.method X.code]
    simp only [State.hasRoom, Bool.and_eq_true, decide_eq_true_eq] at h ⊢
    obtain ⟨⟨⟨⟨h1, h2, h3, h4, h5, h6⟩, h7⟩, h8⟩, h9⟩ := h
    rw [X.frames, List.length_cons] at h2 h3
    have q1 := X.heapSize
    have q2 := X.used
    simp only [hF, hU, List.length_cons, State.stackLimits_setFrames, State.stackBytes_setFrames, hl9, hb9]
    refine ⟨⟨⟨⟨by omega, by omega, by omega, by omega, by omega, h6⟩, ?_⟩, ?_⟩, X.book⟩
    · show T.heap.size + R'.cells ≤ e.platform.maxCells
      omega
    · show T.slotsUsed + R'.slots ≤ e.platform.maxSlots
      omega
  · rw [State.stackLimits_setFrames]; rfl
  · rw [State.stackBytes_setFrames]; rfl
  · refine ⟨?_, Nat.le_refl _, Nat.le_refl _, ?_, ?_, fun a c9 h9 => ⟨c9, h9, rfl, rfl, fun _ _ => rfl⟩⟩
    · obtain ⟨t, ht, -⟩ := State.frames_cons hr
      show T.setVm s.vm = { ((T.setVm s.vm).setFrames (.invoking m args :: below)).setFrames (T.setVm s.vm).frames with heap := T.heap, slotsUsed := T.slotsUsed }
      rw [State.setFrames_setFrames, State.setFrames_self ht]
      rfl
    · show T.slotsUsed = T.slotsUsed + ((T.heap.toList.drop T.heap.size).map (·.slots.size)).sum
      rw [List.drop_eq_nil_of_le (Nat.le_of_eq Array.length_toList)]
      rfl
    · show ((T.heap.toList.drop T.heap.size).map (·.slots.size)).sum ≤ 0
      rw [List.drop_eq_nil_of_le (Nat.le_of_eq Array.length_toList)]
      exact Nat.le_refl _
/-- 'throw new E()': new; dup; invokespecial; athrow -/
theorem vx_throw0 {cc : ByteArray} {pc : Nat} (hexec : p.tables.exec = Jvm.exec) (hb : c.code = cc) (hl : l.stackTraces = false) {own cls : String} {names : List String} {ik ic mc ms : Nat} {A : Nat → Prop}
    (hown : s.vm.findClass own = some m.cls) (hcls : Bundle.fit cls = true) (hnames : ∀ n ∈ names, Bundle.fit n = true)
    (hk : (Cond.classLink own ik cls).before args s = true) (hini : (Cond.initialized cls).before args s = true) (hat : ∀ w ∈ vx_at0 own ic cls names, w.before args s = true)
    (hgood : ∀ w ∈ Cond.classLink own ik cls :: Cond.initialized cls :: vx_at0 own ic cls names, vx_ot w = true)
    (hU : vx_Zq Bundle.tN "UNASSIGNED_STACK" Bundle.steD A s s.heap) (hN : vx_Zq Bundle.tN "SUPPRESSED_SENTINEL" Bundle.listD A s s.heap) (hS : va_S A s.heap H locs) (hsize : ls.size = c.maxLocals)
    (d0 : decode cc pc = .ok (.new ik, 3)) (d3 : decode cc (pc + 3) = .ok (.dup, 1)) (d4 : decode cc (pc + 4) = .ok (.invokespecial ic, 3)) (d7 : decode cc (pc + 7) = .ok (.athrow, 1))
    (hout : ∀ x ∈ c.exceptionTable.toList, covers x (pc + 7) = false)
    (hRframes : names.length + 3 < R.frames) (hRlocals : (rest.map fun v => v.category).sum + (13 * (names.length + 1) + 42) ≤ R.locals) (hRcells : cells + 1 ≤ R.cells) (hRslots : slots + 6 ≤ R.slots) (hlocks : meth.locks = false)
    (hx : ∀ t : State, s.vm.Alike t.vm → H.size ≤ t.heap.size → (∀ q : Nat, q < H.size → t.heap[q]? = H[q]?) → XC cls s t)
    (hf : ∀ z ∈ locs, free z.base) (hc : cells + 1 ≤ mc) (hs : slots + 6 ≤ ms) :
    W p l e R s m args below meth c H locs cells slots (vx_MQ below Qc XC args s mc ms free) (F0 m pc ls rest) := by
  intro T hT X
  have htr : e.platform.stackTraces = false := (show e.platform.stackTraces = l.stackTraces by rw [X.admits.platform]).trans hl
  have Y := vx_rebase X (R' := { frames := R.frames, locals := R.locals, cells := 1, slots := 6 }) (Nat.le_refl _) (Nat.le_refl _) hRcells hRslots
  obtain ⟨s', hA⟩ : ∃ z, z = (T.setVm s.vm).setFrames (.invoking m args :: below) := ⟨_, rfl⟩
  rw [← hA] at Y
  have hvm : s'.vm = s.vm := by rw [hA]; rfl
  have hhp : s'.heap = H := by rw [hA]; exact hT
  have hW0 : s.WarmedH s'.vm := by rw [hvm]; exact State.WarmedH.refl s
  have hat' : ∀ w ∈ vx_at0 own ic cls names, w.before args s' = true := fun w hw => vx_ot_at hW0 hvm.symm (hgood w (List.mem_cons_of_mem _ (List.mem_cons_of_mem _ hw))) (hat w hw)
  have hk' : (Cond.classLink own ik cls).before args s' = true := vx_ot_at hW0 hvm.symm (hgood _ List.mem_cons_self) hk
  have hini' : (Cond.initialized cls).before args s' = true := vx_ot_at hW0 hvm.symm (hgood _ (List.mem_cons_of_mem _ List.mem_cons_self)) hini
  have hU' : vx_Zq Bundle.tN "UNASSIGNED_STACK" Bundle.steD A s' s'.heap := by rw [hhp]; exact vx_Zq.moved hW0.alike (hU.kept hS.2.1)
  have hN' : vx_Zq Bundle.tN "SUPPRESSED_SENTINEL" Bundle.listD A s' s'.heap := by rw [hhp]; exact vx_Zq.moved hW0.alike (hN.kept hS.2.1)
  have h : ∀ w ∈ Bundle.ownAtoms0 own ic cls names, w.before args s' = true := vx_own hat' (vx_isRefq hU'.1) (vx_isRefq hN'.1) hU'.2.word hN'.2.word
  have hown' : s'.vm.findClass own = some m.cls := by rw [hvm]; exact hown
  have hins : (Cond.instantiable cls 6).before args s' = true := h _ (by simp [Bundle.ownAtoms0])
  obtain ⟨vm₁, cX, kX, hfX, hkX, -, -, X₁, st1⟩ := Y.newCold hexec (own := own) (C := cls) (index := ik) (n := 6) hown' hk' hins hini'
    (g := F0 m pc ls rest) rfl (by rw [hb]; exact d0) (Nat.le_refl _) (Nat.le_refl _)
  generalize hT1 : (T.setVm vm₁).pushCell { cls := cX, slots := kX.instanceTypes.map defaultValue, vm := .none } = T1 at X₁ st1
  have hcat : (Value.ref T.heap.size).category = 1 := rfl
  have hcellA : T1.heap[T.heap.size]? = some (freshCell cX kX) := by rw [← hT1]; exact State.heap_pushCell_size _ _
  have d3' : decode c.code (pc + 3) = .ok (.dup, 1) := by rw [hb]; exact d3
  obtain ⟨U, hsteps, hrun, hend, hW, hsame, ce, hce, hO⟩ := X₁.ctorThrow0 hexec htr (own := own) (cls := cls) (names := names) (ic := ic) hown' hcls hnames h (fun x hx => nomatch hx) hfX hkX hcellA (by rw [hhp, hT]; exact Nat.le_refl _)
    (g := { method := m, pc := pc + 4, locals := ls, stack := .ref T.heap.size :: .ref T.heap.size :: rest, locked := none }) rfl hsize rfl rfl (rest := rest) rfl
    (by rw [hb]; exact d4) (by rw [hb]; exact d7) hout hRframes (by simp only [List.map_cons, List.sum_cons, hcat]; omega) hlocks
  obtain ⟨f1, f2⟩ := vx_frame hsame
  rw [hhp] at f1 f2
  have hWs : s.WarmedH U.vm := State.WarmedH.trans hW0 hW
  have hcl : s.vm.findClass cls = some ce.cls := by
    have h9 := hO.cls
    rw [hvm] at h9
    exact h9
  have hall : s.sameButNew ({ U with vm := s.vm } : State) locs mc ms := by
    subst hA
    obtain ⟨e1, e2⟩ := hsame
    rw [State.setFrames_setFrames] at e1
    have h2 : (T.setVm s.vm).sameButNew ({ U with vm := s.vm } : State) [] (0 + 1) (0 + 6) := ⟨e1, e2⟩
    have h3 := X.same.trans h2
    rw [List.append_nil] at h3
    exact h3.mono hc hs
  refine ⟨U, ?_, .threw T.heap.size, hrun, hend, Or.inr ⟨T.heap.size, rfl, cls, ce, locs, hx U hWs.alike f1 (fun q hq => f2 q hq (fun z hz => nomatch hz)), hce, hO.vm, hcl, hWs, hall, hf⟩⟩
  refine st1 _ ?_
  show Steps p.tables e below (T1.setTop { method := m, pc := pc + 3, locals := ls, stack := .ref T.heap.size :: rest, locked := none }) _
  jvm_step X₁.here [X₁.here.top, hexec, d3', Value.category]
  exact hsteps
/-- 'throw new E("text")': new; dup; ldc; invokespecial; athrow -/
theorem vx_throwS {cc : ByteArray} {pc : Nat} (hexec : p.tables.exec = Jvm.exec) (hb : c.code = cc) (hl : l.stackTraces = false) {own cls text : String} {names : List String} {ik is ic mc ms sa : Nat} {A : Nat → Prop}
    (hown : s.vm.findClass own = some m.cls) (hcls : Bundle.fit cls = true) (hnames : ∀ n ∈ names, Bundle.fit n = true)
    (hk : (Cond.classLink own ik cls).before args s = true) (hini : (Cond.initialized cls).before args s = true) (hstr : vk_R own is text sa s) (hat : ∀ w ∈ vx_atS own ic cls names, w.before args s = true)
    (hgood : ∀ w ∈ Cond.classLink own ik cls :: Cond.initialized cls :: vx_atS own ic cls names, vx_ot w = true)
    (hU : vx_Zq Bundle.tN "UNASSIGNED_STACK" Bundle.steD A s s.heap) (hN : vx_Zq Bundle.tN "SUPPRESSED_SENTINEL" Bundle.listD A s s.heap) (hS : va_S A s.heap H locs) (hsize : ls.size = c.maxLocals)
    (d0 : decode cc pc = .ok (.new ik, 3)) (d3 : decode cc (pc + 3) = .ok (.dup, 1)) (d4 : decode cc (pc + 4) = .ok (.ldc is, 2)) (d6 : decode cc (pc + 6) = .ok (.invokespecial ic, 3)) (d9 : decode cc (pc + 9) = .ok (.athrow, 1))
    (hout : ∀ x ∈ c.exceptionTable.toList, covers x (pc + 9) = false)
    (hRframes : names.length + 3 < R.frames) (hRlocals : (rest.map fun v => v.category).sum + (13 * (names.length + 1) + 43) ≤ R.locals) (hRcells : cells + 1 ≤ R.cells) (hRslots : slots + 6 ≤ R.slots) (hlocks : meth.locks = false)
    (hx : ∀ t : State, s.vm.Alike t.vm → H.size ≤ t.heap.size → (∀ q : Nat, q < H.size → t.heap[q]? = H[q]?) → XC cls s t)
    (hf : ∀ z ∈ locs, free z.base) (hc : cells + 1 ≤ mc) (hs : slots + 6 ≤ ms) :
    W p l e R s m args below meth c H locs cells slots (vx_MQ below Qc XC args s mc ms free) (F0 m pc ls rest) := by
  intro T hT X
  have htr : e.platform.stackTraces = false := (show e.platform.stackTraces = l.stackTraces by rw [X.admits.platform]).trans hl
  have Y := vx_rebase X (R' := { frames := R.frames, locals := R.locals, cells := 1, slots := 6 }) (Nat.le_refl _) (Nat.le_refl _) hRcells hRslots
  obtain ⟨s', hA⟩ : ∃ z, z = (T.setVm s.vm).setFrames (.invoking m args :: below) := ⟨_, rfl⟩
  rw [← hA] at Y
  have hvm : s'.vm = s.vm := by rw [hA]; rfl
  have hhp : s'.heap = H := by rw [hA]; exact hT
  have hW0 : s.WarmedH s'.vm := by rw [hvm]; exact State.WarmedH.refl s
  have hat' : ∀ w ∈ vx_atS own ic cls names, w.before args s' = true := fun w hw => vx_ot_at hW0 hvm.symm (hgood w (List.mem_cons_of_mem _ (List.mem_cons_of_mem _ hw))) (hat w hw)
  have hk' : (Cond.classLink own ik cls).before args s' = true := vx_ot_at hW0 hvm.symm (hgood _ List.mem_cons_self) hk
  have hini' : (Cond.initialized cls).before args s' = true := vx_ot_at hW0 hvm.symm (hgood _ (List.mem_cons_of_mem _ List.mem_cons_self)) hini
  have hU' : vx_Zq Bundle.tN "UNASSIGNED_STACK" Bundle.steD A s' s'.heap := by rw [hhp]; exact vx_Zq.moved hW0.alike (hU.kept hS.2.1)
  have hN' : vx_Zq Bundle.tN "SUPPRESSED_SENTINEL" Bundle.listD A s' s'.heap := by rw [hhp]; exact vx_Zq.moved hW0.alike (hN.kept hS.2.1)
  have h : ∀ w ∈ Bundle.ownAtoms own ic cls names, w.before args s' = true := vx_own hat' (vx_isRefq hU'.1) (vx_isRefq hN'.1) hU'.2.word hN'.2.word
  have hown' : s'.vm.findClass own = some m.cls := by rw [hvm]; exact hown
  have hins : (Cond.instantiable cls 6).before args s' = true := h _ (by simp [Bundle.ownAtoms])
  obtain ⟨vm₁, cX, kX, hfX, hkX, -, -, X₁, st1⟩ := Y.newCold hexec (own := own) (C := cls) (index := ik) (n := 6) hown' hk' hins hini'
    (g := F0 m pc ls rest) rfl (by rw [hb]; exact d0) (Nat.le_refl _) (Nat.le_refl _)
  generalize hT1 : (T.setVm vm₁).pushCell { cls := cX, slots := kX.instanceTypes.map defaultValue, vm := .none } = T1 at X₁ st1
  have hcat : (Value.ref T.heap.size).category = 1 := rfl
  have hcellA : T1.heap[T.heap.size]? = some (freshCell cX kX) := by rw [← hT1]; exact State.heap_pushCell_size _ _
  have d3' : decode c.code (pc + 3) = .ok (.dup, 1) := by rw [hb]; exact d3
  have d4' : decode c.code (pc + 4) = .ok (.ldc is, 2) := by rw [hb]; exact d4
  have hstr' : vk_R own is text sa s' := vk_R.warm hW0 hstr
  obtain ⟨U, hsteps, hrun, hend, hW, hsame, ce, hce, hO⟩ := X₁.ctorThrowS hexec htr (own := own) (cls := cls) (names := names) (ic := ic) hown' hcls hnames h (fun x hx => nomatch hx) hfX hkX hcellA (by rw [hhp, hT]; exact Nat.le_refl _) (msg := .ref sa) rfl
    (g := { method := m, pc := pc + 6, locals := ls, stack := .ref sa :: .ref T.heap.size :: .ref T.heap.size :: rest, locked := none }) rfl hsize rfl rfl (rest := rest) rfl
    (by rw [hb]; exact d6) (by rw [hb]; exact d9) hout hRframes (by simp only [List.map_cons, List.sum_cons, hcat]; omega) hlocks
  obtain ⟨f1, f2⟩ := vx_frame hsame
  rw [hhp] at f1 f2
  have hWs : s.WarmedH U.vm := State.WarmedH.trans hW0 hW
  have hcl : s.vm.findClass cls = some ce.cls := by
    have h9 := hO.cls
    rw [hvm] at h9
    exact h9
  have hall : s.sameButNew ({ U with vm := s.vm } : State) locs mc ms := by
    subst hA
    obtain ⟨e1, e2⟩ := hsame
    rw [State.setFrames_setFrames] at e1
    have h2 : (T.setVm s.vm).sameButNew ({ U with vm := s.vm } : State) [] (0 + 1) (0 + 6) := ⟨e1, e2⟩
    have h3 := X.same.trans h2
    rw [List.append_nil] at h3
    exact h3.mono hc hs
  refine ⟨U, ?_, .threw T.heap.size, hrun, hend, Or.inr ⟨T.heap.size, rfl, cls, ce, locs, hx U hWs.alike f1 (fun q hq => f2 q hq (fun z hz => nomatch hz)), hce, hO.vm, hcl, hWs, hall, hf⟩⟩
  refine st1 _ ?_
  show Steps p.tables e below (T1.setTop { method := m, pc := pc + 3, locals := ls, stack := .ref T.heap.size :: rest, locked := none }) _
  jvm_step X₁.here [X₁.here.top, hexec, d3', Value.category]
  exact X₁.ldcString hexec (own := own) (text := text) (index := is) (a := sa) hown' hstr'.1 hstr'.2
    (g := { method := m, pc := pc + 4, locals := ls, stack := .ref T.heap.size :: .ref T.heap.size :: rest, locked := none }) rfl d4' _ hsteps
/-- 'throw new E("text")', the text by a wide index -/
theorem vx_throwSW {cc : ByteArray} {pc : Nat} (hexec : p.tables.exec = Jvm.exec) (hb : c.code = cc) (hl : l.stackTraces = false) {own cls text : String} {names : List String} {ik is ic mc ms sa : Nat} {A : Nat → Prop}
    (hown : s.vm.findClass own = some m.cls) (hcls : Bundle.fit cls = true) (hnames : ∀ n ∈ names, Bundle.fit n = true)
    (hk : (Cond.classLink own ik cls).before args s = true) (hini : (Cond.initialized cls).before args s = true) (hstr : vk_R own is text sa s) (hat : ∀ w ∈ vx_atS own ic cls names, w.before args s = true)
    (hgood : ∀ w ∈ Cond.classLink own ik cls :: Cond.initialized cls :: vx_atS own ic cls names, vx_ot w = true)
    (hU : vx_Zq Bundle.tN "UNASSIGNED_STACK" Bundle.steD A s s.heap) (hN : vx_Zq Bundle.tN "SUPPRESSED_SENTINEL" Bundle.listD A s s.heap) (hS : va_S A s.heap H locs) (hsize : ls.size = c.maxLocals)
    (d0 : decode cc pc = .ok (.new ik, 3)) (d3 : decode cc (pc + 3) = .ok (.dup, 1)) (d4 : decode cc (pc + 4) = .ok (.ldc_w is, 3)) (d7 : decode cc (pc + 7) = .ok (.invokespecial ic, 3)) (d10 : decode cc (pc + 10) = .ok (.athrow, 1))
    (hout : ∀ x ∈ c.exceptionTable.toList, covers x (pc + 10) = false)
    (hRframes : names.length + 3 < R.frames) (hRlocals : (rest.map fun v => v.category).sum + (13 * (names.length + 1) + 43) ≤ R.locals) (hRcells : cells + 1 ≤ R.cells) (hRslots : slots + 6 ≤ R.slots) (hlocks : meth.locks = false)
    (hx : ∀ t : State, s.vm.Alike t.vm → H.size ≤ t.heap.size → (∀ q : Nat, q < H.size → t.heap[q]? = H[q]?) → XC cls s t)
    (hf : ∀ z ∈ locs, free z.base) (hc : cells + 1 ≤ mc) (hs : slots + 6 ≤ ms) :
    W p l e R s m args below meth c H locs cells slots (vx_MQ below Qc XC args s mc ms free) (F0 m pc ls rest) := by
  intro T hT X
  have htr : e.platform.stackTraces = false := (show e.platform.stackTraces = l.stackTraces by rw [X.admits.platform]).trans hl
  have Y := vx_rebase X (R' := { frames := R.frames, locals := R.locals, cells := 1, slots := 6 }) (Nat.le_refl _) (Nat.le_refl _) hRcells hRslots
  obtain ⟨s', hA⟩ : ∃ z, z = (T.setVm s.vm).setFrames (.invoking m args :: below) := ⟨_, rfl⟩
  rw [← hA] at Y
  have hvm : s'.vm = s.vm := by rw [hA]; rfl
  have hhp : s'.heap = H := by rw [hA]; exact hT
  have hW0 : s.WarmedH s'.vm := by rw [hvm]; exact State.WarmedH.refl s
  have hat' : ∀ w ∈ vx_atS own ic cls names, w.before args s' = true := fun w hw => vx_ot_at hW0 hvm.symm (hgood w (List.mem_cons_of_mem _ (List.mem_cons_of_mem _ hw))) (hat w hw)
  have hk' : (Cond.classLink own ik cls).before args s' = true := vx_ot_at hW0 hvm.symm (hgood _ List.mem_cons_self) hk
  have hini' : (Cond.initialized cls).before args s' = true := vx_ot_at hW0 hvm.symm (hgood _ (List.mem_cons_of_mem _ List.mem_cons_self)) hini
  have hU' : vx_Zq Bundle.tN "UNASSIGNED_STACK" Bundle.steD A s' s'.heap := by rw [hhp]; exact vx_Zq.moved hW0.alike (hU.kept hS.2.1)
  have hN' : vx_Zq Bundle.tN "SUPPRESSED_SENTINEL" Bundle.listD A s' s'.heap := by rw [hhp]; exact vx_Zq.moved hW0.alike (hN.kept hS.2.1)
  have h : ∀ w ∈ Bundle.ownAtoms own ic cls names, w.before args s' = true := vx_own hat' (vx_isRefq hU'.1) (vx_isRefq hN'.1) hU'.2.word hN'.2.word
  have hown' : s'.vm.findClass own = some m.cls := by rw [hvm]; exact hown
  have hins : (Cond.instantiable cls 6).before args s' = true := h _ (by simp [Bundle.ownAtoms])
  obtain ⟨vm₁, cX, kX, hfX, hkX, -, -, X₁, st1⟩ := Y.newCold hexec (own := own) (C := cls) (index := ik) (n := 6) hown' hk' hins hini'
    (g := F0 m pc ls rest) rfl (by rw [hb]; exact d0) (Nat.le_refl _) (Nat.le_refl _)
  generalize hT1 : (T.setVm vm₁).pushCell { cls := cX, slots := kX.instanceTypes.map defaultValue, vm := .none } = T1 at X₁ st1
  have hcat : (Value.ref T.heap.size).category = 1 := rfl
  have hcellA : T1.heap[T.heap.size]? = some (freshCell cX kX) := by rw [← hT1]; exact State.heap_pushCell_size _ _
  have d3' : decode c.code (pc + 3) = .ok (.dup, 1) := by rw [hb]; exact d3
  have d4' : decode c.code (pc + 4) = .ok (.ldc_w is, 3) := by rw [hb]; exact d4
  have hstr' : vk_R own is text sa s' := vk_R.warm hW0 hstr
  obtain ⟨U, hsteps, hrun, hend, hW, hsame, ce, hce, hO⟩ := X₁.ctorThrowS hexec htr (own := own) (cls := cls) (names := names) (ic := ic) hown' hcls hnames h (fun x hx => nomatch hx) hfX hkX hcellA (by rw [hhp, hT]; exact Nat.le_refl _) (msg := .ref sa) rfl
    (g := { method := m, pc := pc + 7, locals := ls, stack := .ref sa :: .ref T.heap.size :: .ref T.heap.size :: rest, locked := none }) rfl hsize rfl rfl (rest := rest) rfl
    (by rw [hb]; exact d7) (by rw [hb]; exact d10) hout hRframes (by simp only [List.map_cons, List.sum_cons, hcat]; omega) hlocks
  obtain ⟨f1, f2⟩ := vx_frame hsame
  rw [hhp] at f1 f2
  have hWs : s.WarmedH U.vm := State.WarmedH.trans hW0 hW
  have hcl : s.vm.findClass cls = some ce.cls := by
    have h9 := hO.cls
    rw [hvm] at h9
    exact h9
  have hall : s.sameButNew ({ U with vm := s.vm } : State) locs mc ms := by
    subst hA
    obtain ⟨e1, e2⟩ := hsame
    rw [State.setFrames_setFrames] at e1
    have h2 : (T.setVm s.vm).sameButNew ({ U with vm := s.vm } : State) [] (0 + 1) (0 + 6) := ⟨e1, e2⟩
    have h3 := X.same.trans h2
    rw [List.append_nil] at h3
    exact h3.mono hc hs
  refine ⟨U, ?_, .threw T.heap.size, hrun, hend, Or.inr ⟨T.heap.size, rfl, cls, ce, locs, hx U hWs.alike f1 (fun q hq => f2 q hq (fun z hz => nomatch hz)), hce, hO.vm, hcl, hWs, hall, hf⟩⟩
  refine st1 _ ?_
  show Steps p.tables e below (T1.setTop { method := m, pc := pc + 3, locals := ls, stack := .ref T.heap.size :: rest, locked := none }) _
  jvm_step X₁.here [X₁.here.top, hexec, d3', Value.category]
  exact X₁.ldcStringW hexec (own := own) (text := text) (index := is) (a := sa) hown' hstr'.1 hstr'.2
    (g := { method := m, pc := pc + 4, locals := ls, stack := .ref T.heap.size :: .ref T.heap.size :: rest, locked := none }) rfl d4' _ hsteps
end Ends
section Bodies
variable {l : Launch}
theorem vx_ofW {y : MethodName} {ws ws' : List Cond} {rm : Room} {Pc : Array Value → State → Prop} {Qc : Array Value → State → Outcome → State → Prop} {XC : String → State → State → Prop} {mc ms : Nat} {free : Addr → Prop} {cc : ByteArray} {maxL : Nat} {ret : Option FieldType}
    (hy : plainName y.cls = true) (hw : ws = Cond.code y cc maxL ret :: ws')
    (body : ∀ p e s m args below meth c s₁, BodyLoose p l y (headSpec ws rm) cc maxL ret e s m args below meth c s₁ → c.maxLocals = maxL → (∀ x ∈ c.exceptionTable.toList, False) → Pc args s →
      W p l e (headSpec ws rm).room s m args below meth c s.heap [] 0 0 (vx_MQ below Qc XC args s mc ms free) (entryFrame m args maxL)) : vx_Met l y ws rm Pc Qc XC mc ms free := by
  refine MetFree.of_bodyS (code := cc) (maxLocals := maxL) (ret := ret) hy ?_ ?_
  · intro args s m h hn
    obtain ⟨meth, c, h1, h2, h3, h4, h5, h6, -, -⟩ := Cond.code_spec hn (atoms_spec (ws := ws) h _ (by rw [hw]; exact List.mem_cons_self))
    exact ⟨meth, c, h1, h2, h3, h4, h5, h6⟩
  · intro p e s m args below meth c s₁ B hml hP _
    have hh0 : s₁.heap = s.heap := by rw [B.state]; rfl
    have ht : ∀ x ∈ c.exceptionTable.toList, False := by
      obtain ⟨meth9, c9, h1, h2, -, -, -, -, h7, -⟩ := Cond.code_spec B.named (atoms_spec (ws := ws) B.pre _ (by rw [hw]; exact List.mem_cons_self))
      cases Option.some.inj (h1.symm.trans B.method)
      cases Option.some.inj (h2.symm.trans (Stand.of_body B).code)
      intro x hx
      rw [Array.isEmpty_iff.mp h7] at hx
      cases hx
    obtain ⟨t, a1, o, b1, b2, b3⟩ := body p e s m args below meth c s₁ B hml ht hP s₁ hh0 (Stand.of_body B)
    exact ⟨t, o, a1, b1, b2, b3⟩
/-- the table of a body with handlers -/
theorem vx_table {p : Program} {x y : MethodName} {S : Spec} {cc bytes : ByteArray} {maxL maxL' : Nat} {ret ret' : Option FieldType} {e : Env} {s s₁ : State} {m : MethodId} {args : Array Value} {below : List Frame} {meth : Method} {c : Code} {hh : List (Nat × Nat × Nat × Nat)}
    (B : BodyLoose p l y S cc maxL ret e s m args below meth c s₁) (h : (Cond.codeWith y bytes maxL' ret' hh).before args s = true) : c.exceptionTable.toList = tableOf hh := by
  obtain ⟨m9, meth9, c9, hn9, h1, h2, -, -, h6, -⟩ := Cond.codeWith_spec h
  cases Option.some.inj (hn9.symm.trans B.named)
  cases Option.some.inj (h1.symm.trans B.method)
  cases Option.some.inj (h2.symm.trans (Stand.of_body B).code)
  rw [← h6, table_eq]
end Bodies
end VXA
/-! ===== END ===== -/
/-! ===== BEGIN a static call of a method with an exception table ===== -/
section VXS
variable {p : Program} {l : Launch} {e : Env} {R : Room} {s : State} {m : MethodId} {args : Array Value} {below : List Frame} {meth : Method} {c : Code} {T : State} {H : Heap} {locs : List Loc} {cells slots : Nat}
abbrev vx_CSW (R : Room) (s : State) (args : Array Value) (own : String) (index : Nat) (y : MethodName) (bytes : ByteArray) (maxL : Nat) (ret : Option FieldType) (hh : List (Nat × Nat × Nat × Nat)) (ws : List Cond) (rm : Room) (mc ms n : Nat) : Prop :=
  (rm.cells = mc ∧ rm.slots = ms ∧ rm.frames + 1 ≤ R.frames ∧ 8 + (maxL + 11) + rm.locals ≤ R.locals ∧ (∀ w ∈ ws, ∀ (a' : Array Value) (U : State), s.WarmedH U.vm → w.before a' U = true) ∧ Cond.codeWith y bytes maxL ret hh ∈ ws) ∧
  (Cond.codeWith y bytes maxL ret hh).before args s = true ∧ (Cond.initialized y.cls).before args s = true ∧ (y.cls ≠ "java/lang/invoke/MethodHandle" ∧ y.cls ≠ "java/lang/invoke/VarHandle") ∧
  (∀ sig, parseMethodDescriptor y.desc = some sig → n = sig.parameters.length) ∧ (Cond.methodLink own index y).before args s = true ∧ (Cond.static y).before args s = true
theorem vx_cwSW {own : String} {index maxL mc ms : Nat} {y : MethodName} {bytes : ByteArray} {ret : Option FieldType} {hh : List (Nat × Nat × Nat × Nat)} {Ts ws ws' : List Cond} {rm : Room} (n : Nat) (ht : ∀ w ∈ Ts, w.before args s = true) (hT : GoodIn Ts (va_wsS own index y ws)) (hw : ws = Cond.codeWith y bytes maxL ret hh :: ws') (hrc : rm.cells = mc) (hrs : rm.slots = ms)
    (hd : y.cls ≠ "java/lang/invoke/MethodHandle" ∧ y.cls ≠ "java/lang/invoke/VarHandle" ∧ (parseMethodDescriptor y.desc).map (fun d => d.parameters.length) = some n) (hR : rm.frames + 1 ≤ R.frames ∧ 8 + (maxL + 11) + rm.locals ≤ R.locals) :
    vx_CSW R s args own index y bytes maxL ret hh ws rm mc ms n := by
  have ok : ∀ w ∈ va_wsS own index y ws, w.before args s = true := fun w h => ht w (hT w h).1
  have hG : GoodIn Ts ws := fun w h => hT w (by unfold va_wsS; exact List.mem_append_right _ h)
  have hc : Cond.codeWith y bytes maxL ret hh ∈ ws := by rw [hw]; exact List.mem_cons_self
  refine ⟨⟨hrc, hrs, hR.1, hR.2, pay_in ht hG, hc⟩, ht _ (hG _ hc).1, ok _ (by simp [va_wsS]), ⟨hd.1, hd.2.1⟩, fun sig h => ?_, ok _ (by simp [va_wsS]), ok _ (by simp [va_wsS])⟩
  have h2 := hd.2.2
  rw [h] at h2
  exact (Option.some.inj h2).symm
theorem vx_callSW (X : Stand p l e R s m args below meth c T locs cells slots) (hexec : p.tables.exec = Jvm.exec) {own : String} {index : Nat} {y : MethodName} {bytes : ByteArray} {maxL : Nat} {ret : Option FieldType} {hh : List (Nat × Nat × Nat × Nat)}
    (hown : s.vm.findClass own = some m.cls) (hlink : (Cond.methodLink own index y).before args s = true) (hstat : (Cond.static y).before args s = true) (hinit : (Cond.initialized y.cls).before args s = true)
    (hcode : (Cond.codeWith y bytes maxL ret hh).before args s = true) (hy : y.cls ≠ "java/lang/invoke/MethodHandle" ∧ y.cls ≠ "java/lang/invoke/VarHandle")
    {W9 : Nat} {Pre : Pt → Array Value → Prop} {Post : Pt → Array Value → Option Value → Pt → Prop} (hK : Back l R p e below s args y 3 W9 Pre Post)
    {g : JFrame} (hg : g.method = m) (hsize : g.locals.size = c.maxLocals) {argsL rest : List Value} (hlen : ∀ sig, parseMethodDescriptor y.desc = some sig → argsL.length = sig.parameters.length)
    (hstack : g.stack = argsL.reverse ++ rest) (hW : 2 * g.monitorRoom + (rest.map fun v => v.category).sum ≤ W9) (hdg : decode c.code g.pc = .ok (.invokestatic index, 3))
    (hpre : ∀ vm₁, s.WarmedH vm₁ → Pre ⟨T.setVm vm₁, locs, cells, slots⟩ argsL.toArray) :
    ∃ (v : Option Value) (vm₁ : Vm) (B : Pt), s.WarmedH vm₁ ∧ Stand p l e R s m args below meth c B.U B.locs B.cells B.slots ∧ Post ⟨T.setVm vm₁, locs, cells, slots⟩ argsL.toArray v B ∧
      ∀ target, Steps p.tables e below (B.U.setTop { g with pc := g.pc + 3, stack := v.toList ++ rest }) target → Steps p.tables e below (T.setTop g) target := by
  obtain ⟨mk, methM, cM, hnamed, hmethM, -, -, -, -, -, -, hsigM⟩ := Cond.codeWith_spec hcode
  have hstatic : methM.isStatic = true := Cond.static_spec hnamed hmethM hstat
  obtain ⟨kP, hkP, -⟩ := className_of_methodNamed hnamed
  have hinitP : kP.init = .initialized := Cond.initialized_spec (findClass_of_methodNamed hnamed) hkP hinit
  obtain ⟨vm₁, X₁, hstep₁⟩ := X.invokestatic hexec hown hlink hnamed hmethM hstatic hkP hinitP hy (g := g) hg (argsL := argsL) (rest := rest) (hlen _ hsigM) hstack hdg
  obtain ⟨v, B, X', hpost, hsteps⟩ := hK m meth c ⟨T.setVm vm₁, locs, cells, slots⟩ { g with stack := rest } (.invokestatic index) mk argsL.toArray X₁ hg hsize hdg hW (X₁.named hnamed) (hpre vm₁ X₁.warmed)
  exact ⟨v, vm₁, B, X₁.warmed, X', hpost, fun target h => hstep₁ _ fun acts => by rw [doInvoke_state]; exact hsteps.trans h⟩
theorem vx_runSW {y : MethodName} {bytes cc : ByteArray} {maxL nL mc ms n index : Nat} {ret : Option FieldType} {hh : List (Nat × Nat × Nat × Nat)} {ws : List Cond} {rm : Room} {Pc : Array Value → State → Prop} {Qc : Array Value → State → Outcome → State → Prop} {free : Addr → Prop} {Ts : List Cond} {own : String} {As rest : List Value} {g : JFrame}
    (S : CallFix p m c cc nL s args Ts own) (hM : Met l y ws rm Pc Qc mc ms free) (cw : vx_CSW R s args own index y bytes maxL ret hh ws rm mc ms n) (hp : PreS s H Pc As)
    (hg : g.method = m) (hn : As.length = n) (hsize : g.locals.size = nL) (hstack : g.stack = As.reverse ++ rest) (hW : 2 * g.monitorRoom + (rest.map fun v => v.category).sum ≤ 8) (hdg : decode cc g.pc = .ok (.invokestatic index, 3)) (hf : cells + mc ≤ R.cells ∧ slots + ms ≤ R.slots) :
    va_Run p l e R s m args below meth c H locs cells slots mc ms g rest (Qc As.toArray) (free) := by
  obtain ⟨⟨hrc, hrs, hfr, hlo, hws, hcw⟩, hcode, hini, hy, hlen, hl, hstt⟩ := cw
  have hK : Back l R p e below s args y 3 8 (PreOf R mc ms Pc) (PostOf Qc mc ms free) := va_backW (hh := hh) (bytes := bytes) (maxL := maxL) (ret := ret) hM hp.1 hrc hrs hfr hlo hws hcw (fun a' U hW => word_at hW (Or.inl (by first | rfl | simp [Cond.onTables, Cond.keeps, Cond.steady])) hini)
  obtain ⟨hx, hb, hml, ho, -⟩ := S
  intro T hT X
  obtain ⟨v, vm₁, ⟨U', l2, c2, s2⟩, hW₁, X', ⟨g', mk, t, L, e1, e2, hq, h1, hL, h2, h3⟩, st⟩ := vx_callSW X hx (hh := hh) (bytes := bytes) (maxL := maxL) (ret := ret) ho hl hstt hini hcode hy hK hg (hsize.trans hml.symm) (argsL := As) (rest := rest) (fun sig h => hn.trans (hlen sig h)) hstack hW (by rw [hb]; exact hdg)
    (fun vm₁ hW₁ => ⟨hf.1, hf.2, hp.2 (T.setVm vm₁) hT hW₁⟩)
  dsimp only [Pt.U, Pt.locs, Pt.cells, Pt.slots] at X' e1 e2 h1 h2 h3 st
  subst h1; subst h2; subst h3
  exact ⟨v, (T.setVm vm₁).calling g' mk As.toArray, t, U', L, hT, X', hL, e1, e2, hq, st⟩
/-- not caught here, past rows that name other classes: it goes on to the caller -/
theorem vx_outP {p : Program} {l : Launch} {e : Env} {R : Room} {s : State} {m : MethodId} {args : Array Value} {below : List Frame} {meth : Method} {c : Code} {H : Heap} {locs : List Loc} {cells slots : Nat} {free : Addr → Prop} {ls : Array Slot} {rest : List Value} {Qc : Array Value → State → Outcome → State → Prop} {XC : String → State → State → Prop}
    {pc : Nat} {own E : String} {ce : Cell} {q : Addr} {mc ms : Nat} (hown : s.vm.findClass own = some m.cls) (hlocks : meth.locks = false)
    (hpass : ∀ z ∈ c.exceptionTable.toList, covers z pc = false ∨ (z.catchType ≠ 0 ∧ ∃ nm : String, (Cond.classLink own z.catchType nm).before args s = true ∧ va_Nc E nm s)) (hcell : H[q]? = some ce) (hv : ce.vm = .none) (hcl : s.vm.findClass E = some ce.cls)
    (hx : ∀ t : State, t.heap = H → s.vm.Alike t.vm → XC E s t) (hf : ∀ z ∈ locs, free z.base) (hc : cells ≤ mc) (hs : slots ≤ ms) :
    vx_W p l e R s m args below meth c H locs cells slots (vx_MQ below Qc XC args s mc ms free) (F0 m pc ls rest) q := by
  intro T hT X
  have hpl : e.platform.magicAccessors = ({} : Platform).magicAccessors := by rw [X.admits.platform]
  obtain ⟨vm', hW', X', st⟩ := X.outThrough hlocks q (g := F0 m pc ls rest) rfl rfl rfl (cell := ce) (by rw [hT]; exact hcell) (by rw [hv]; rfl)
    (by obtain ⟨k9, h9, -⟩ := Vm.findClass_spec hcl; exact ⟨k9, h9⟩) (fun z hz => by
      rcases hpass z hz with h | ⟨hz0, nm, hl1, hn1⟩
      · exact Or.inl h
      · obtain ⟨c6, hc6, hcl6⟩ := Cond.classLink_spec hown hl1 e.platform hpl
        obtain ⟨a8, b8, h1, h2, h3⟩ := hn1
        cases Option.some.inj (h1.symm.trans hcl)
        cases Option.some.inj (h2.symm.trans hc6)
        exact Or.inr ⟨hz0, _, hcl6, h3⟩)
  obtain ⟨g₀, hfr⟩ := X'.frames_eq
  have hcell9 : ((T.setVm vm').setFrames (.throwing q :: below)).heap[q]? = some ce := by
    show T.heap[q]? = some ce
    rw [hT]; exact hcell
  have hend : Ended ((T.setVm vm').setFrames (.throwing q :: below)) below (.threw q) := State.frames_setFrames _ (State.cur_lt_of_frames hfr)
  refine ⟨(T.setVm vm').setFrames (.throwing q :: below), ?_, .threw q, X'.here.running, hend, Or.inr ⟨q, rfl, E, ce, locs, hx _ hT (X'.ends _).1.alike, hcell9, hv, hcl, (X'.ends _).1, (X'.ends _).2.mono hc hs, hf⟩⟩
  rw [X.pushThrowing_eq]
  exact st
/-- a thing of a world lies in the heap -/
theorem vx_lt {D : va_G} {cl : List vw_C} {ws : va_W} {H1 : Heap} (h : va_P D cl ws H1) {k : Nat} {q : Nat × va_E} (hk : ws[k]? = some q) : q.1 < H1.size := (h k q hk).lt
end VXS
/-! ===== END ===== -/
/-! ===== BEGIN methods with a table of their own: called by a name, returning or throwing ===== -/
section VXH
/-! vx_backW, vx_callVX, vx_callSX, vx_callVW, vx_runVW, vx_runVX, vx_runSX, vx_ofWH follow the same proofs as their sisters above (Free/Laws.lean, Shelf42/LK1.lean); vx_outP calls Shelf42/NT130.lean (outThrough). -/
section
variable {l : Launch} {R : Room} {p : Program} {e : Env} {below : List Frame} {s : State} {sargs : Array Value} {y : MethodName} {len W9 : Nat}
theorem vx_backW {ws : List Cond} {rm : Room} {Pc : Array Value → State → Prop} {Qc : Array Value → State → Outcome → State → Prop} {XC : String → State → State → Prop} {mc ms : Nat} {free : Addr → Prop} {bytes : ByteArray} {maxL : Nat} {ret : Option FieldType} {hh : List (Nat × Nat × Nat × Nat)}
    (hM : vx_Met l y ws rm Pc Qc XC mc ms free) (hblind : FrameBlind Pc) (hrc : rm.cells = mc) (hrs : rm.slots = ms)
    (hframes : rm.frames + 1 ≤ R.frames) (hlocals : W9 + (maxL + 11) + rm.locals ≤ R.locals)
    (hws : ∀ w ∈ ws, ∀ a' U, s.WarmedH U.vm → w.before a' U = true) (hcode : Cond.codeWith y bytes maxL ret hh ∈ ws) (hinit : ∀ a' U, s.WarmedH U.vm → (Cond.initialized y.cls).before a' U = true) :
    vx_Back l R p e below s sargs y len W9 (PreOf R mc ms Pc) (PostOf Qc mc ms free) (vx_Post XC mc ms free) := by
  intro m meth c A g ig mk a X hg hsize hdg hW hn hp
  have h1 : (headSpec ws rm).pre.before a A.U = true := atoms_intro fun w hw => hws w hw _ _ X.warmed
  have h2 : (Cond.codeWith y bytes maxL ret hh).before a A.U = true := hws _ hcode _ _ X.warmed
  have h3 : (Cond.initialized y.cls).before a A.U = true := hinit _ _ X.warmed
  have h4 : A.cells + (headSpec ws rm).room.cells ≤ R.cells := by rw [show (headSpec ws rm).room.cells = mc from hrc]; exact hp.1
  have h5 : A.slots + (headSpec ws rm).room.slots ≤ R.slots := by rw [show (headSpec ws rm).room.slots = ms from hrs]; exact hp.2.1
  have hPc : Pc a (A.U.calling g mk a) := hblind _ _ _ _ hp.2.2
  obtain ⟨U, Ls, c0, s0⟩ := A
  dsimp only [Pt.U, Pt.locs, Pt.cells, Pt.slots] at h1 h2 h3 h4 h5 X hn hPc ⊢
  obtain ⟨m9, methY, cY, hn9, hmY, hcY, -, hlY, -⟩ := Cond.codeWith_spec h2
  cases Option.some.inj (hn9.symm.trans hn)
  obtain ⟨kY, hkY, -⟩ := className_of_methodNamed hn
  have hinitY : kY.init = .initialized := Cond.initialized_spec (findClass_of_methodNamed hn) hkY h3
  have h : At U g.method c below := by rw [hg]; exact X.here
  have hlocals9 : W9 + (maxL + 11) + (headSpec ws rm).room.locals ≤ R.locals := hlocals
  have happ : (headSpec ws rm).appliesLoose y e.platform (U.calling g mk a) = true :=
    Spec.appliesLoose_calling (g := g) h hdg hn hkY hinitY
      (X.room_calling (g := g) (R' := (headSpec ws rm).room) hsize hmY hcY hframes (by rw [hlY]; omega) h4 h5) h1
  obtain ⟨mid, hmid⟩ := h.above
  have hfr : (U.setTop g).frames = (.java g :: mid) ++ below := by rw [State.frames_setTop' g h.top, hmid]; rfl
  obtain ⟨o, s₂, hsteps, -, hend, hq⟩ := Steps.callFree hM p X.admits X.cas X.clock (acts := []) hfr happ hPc trivial
  have hq' : vx_Q Qc XC mc ms free a (U.calling g mk a) o s₂ := hq
  rw [State.frames_setTop' g h.top] at hend
  obtain ⟨g₀, hg0⟩ := Option.isSome_iff_exists.mp h.top
  obtain ⟨r, hr⟩ := State.topJava?_eq_some.mp hg0
  have hr' : (({ U with heap := s₂.heap, slotsUsed := s₂.slotsUsed } : State).setVm s₂.vm).frames = .java g₀ :: r := hr
  rcases hq' with ⟨hqc, L, hfe, hL⟩ | ⟨q, rfl, E, ce, L, hx, hce, hcv, hcl, hW₂, hsm, hL⟩
  · obtain ⟨⟨v, rfl⟩, hW₂, e2, q2, q3, q4, q5, q6⟩ := id hfe
    have e3 : s₂ = ({ (U.calling g mk a).setFrames s₂.frames with heap := s₂.heap, slotsUsed := s₂.slotsUsed } : State).setVm s₂.vm := by
      have : s₂ = ({ s₂ with vm := (U.calling g mk a).vm } : State).setVm s₂.vm := rfl
      rw [e2] at this
      exact this
    obtain ⟨c₂, i₂, len₂, hc₂, hd₂, hf₂⟩ := hend
    have hW' : U.WarmedH s₂.vm := hW₂
    have hcc : c₂ = c := by
      have h1 : s₂.code? g.method = U.code? g.method := by
        rw [State.code?_eq, State.code?_eq, hW'.alike.method?]
      exact Option.some.inj (hc₂.symm.trans (h1.trans h.code))
    subst hcc
    have hlen : len₂ = len := by rw [hdg] at hd₂; cases hd₂; rfl
    subst hlen
    have hs₂ : s₂ = (({ U with heap := s₂.heap, slotsUsed := s₂.slotsUsed } : State).setVm s₂.vm).setTop { g with pc := g.pc + len₂, stack := v.toList ++ g.stack } := by
      refine e3.trans ?_
      rw [hf₂, State.calling_eq h.top, State.setFrames_setFrames, State.setTop_of_frames _ hr', hr]
      rfl
    have hsame : U.sameButNew ({ U with heap := s₂.heap, slotsUsed := s₂.slotsUsed } : State) L mc ms := by
      refine ⟨?_, q2, q3, q4, q5, q6⟩
      obtain ⟨t, ht, -⟩ := State.frames_cons hr
      show ({ U with heap := s₂.heap, slotsUsed := s₂.slotsUsed } : State) = { U.setFrames U.frames with heap := s₂.heap, slotsUsed := s₂.slotsUsed }
      rw [State.setFrames_self ht]
    subst hg
    refine Or.inl ⟨v, ⟨(({ U with heap := s₂.heap, slotsUsed := s₂.slotsUsed } : State).setVm s₂.vm), Ls ++ L, c0 + mc, s0 + ms⟩,
      ⟨X.admits, X.cas, X.clock, X.frames, X.room, X.hears, X.method, X.code, (X.here.setHeapUsed s₂.heap s₂.slotsUsed).setVm hW'.alike, X.tail, State.WarmedH.trans X.warmed hW', X.limits, X.bytes, X.same.trans (hsame.setVm s.vm)⟩,
      ⟨g, mk, s₂, L, rfl, rfl, hqc, rfl, hL, rfl, rfl⟩, ?_⟩
    show Steps p.tables e below _ ((({ U with heap := s₂.heap, slotsUsed := s₂.slotsUsed } : State).setVm s₂.vm).setTop { g with pc := g.pc + len₂, stack := v.toList ++ g.stack })
    rw [← hs₂]
    exact hsteps
  · obtain ⟨e2, q2, q3, q4, q5, q6⟩ := id hsm
    have e3 : s₂ = ({ (U.calling g mk a).setFrames s₂.frames with heap := s₂.heap, slotsUsed := s₂.slotsUsed } : State).setVm s₂.vm := by
      have : s₂ = ({ s₂ with vm := (U.calling g mk a).vm } : State).setVm s₂.vm := rfl
      rw [e2] at this
      exact this
    have hf₂ : s₂.frames = .throwing q :: .java g :: U.frames.tail := hend
    have hW' : U.WarmedH s₂.vm := hW₂
    have hs₂ : s₂ = ((({ U with heap := s₂.heap, slotsUsed := s₂.slotsUsed } : State).setVm s₂.vm).setTop g).pushFrame (.throwing q) := by
      refine e3.trans ?_
      rw [hf₂, State.calling_eq h.top, State.setFrames_setFrames, State.pushFrame, State.frames_setTop _ hr', State.setTop_of_frames _ hr', State.setFrames_setFrames, hr]
      rfl
    have hsame : U.sameButNew ({ U with heap := s₂.heap, slotsUsed := s₂.slotsUsed } : State) L mc ms := by
      refine ⟨?_, q2, q3, q4, q5, q6⟩
      obtain ⟨t, ht, -⟩ := State.frames_cons hr
      show ({ U with heap := s₂.heap, slotsUsed := s₂.slotsUsed } : State) = { U.setFrames U.frames with heap := s₂.heap, slotsUsed := s₂.slotsUsed }
      rw [State.setFrames_self ht]
    subst hg
    refine Or.inr ⟨q, ⟨(({ U with heap := s₂.heap, slotsUsed := s₂.slotsUsed } : State).setVm s₂.vm), Ls ++ L, c0 + mc, s0 + ms⟩,
      ⟨X.admits, X.cas, X.clock, X.frames, X.room, X.hears, X.method, X.code, (X.here.setHeapUsed s₂.heap s₂.slotsUsed).setVm hW'.alike, X.tail, State.WarmedH.trans X.warmed hW', X.limits, X.bytes, X.same.trans (hsame.setVm s.vm)⟩,
      ⟨g, mk, s₂, L, E, ce, rfl, rfl, hx, hce, hcv, hcl, rfl, hL, rfl, rfl⟩, ?_⟩
    show Steps p.tables e below _ (((({ U with heap := s₂.heap, slotsUsed := s₂.slotsUsed } : State).setVm s₂.vm).setTop g).pushFrame (.throwing q))
    rw [← hs₂]
    exact hsteps
end
variable {p : Program} {l : Launch} {e : Env} {R : Room} {s : State} {m : MethodId} {args : Array Value} {below : List Frame} {meth : Method} {c : Code} {T : State} {H : Heap} {locs : List Loc} {cells slots : Nat}
theorem vx_callVX (X : Stand p l e R s m args below meth c T locs cells slots) (hexec : p.tables.exec = Jvm.exec) {own C : String} {index : Nat} {y : MethodName} {bytes : ByteArray} {maxL : Nat} {ret : Option FieldType} {hh : List (Nat × Nat × Nat × Nat)}
    (hown : s.vm.findClass own = some m.cls) (hlink : (Cond.methodLink own index y).before args s = true) (hinst : (Cond.instanceMethod y).before args s = true) (hsel : (Cond.selects C y y).before args s = true)
    (hcode : (Cond.codeWith y bytes maxL ret hh).before args s = true) (hy : y.cls ≠ "java/lang/invoke/MethodHandle" ∧ y.cls ≠ "java/lang/invoke/VarHandle")
    {W9 : Nat} {Pre : Pt → Array Value → Prop} {Post : Pt → Array Value → Option Value → Pt → Prop} {PostX : Pt → Array Value → Addr → Pt → Prop} (hK : vx_Back l R p e below s args y 3 W9 Pre Post PostX)
    {b : Addr} {cellB : Cell} (hcell : T.heap[b]? = some cellB) (hobj : cellB.vm.isStatics = false) (hcls : s.vm.findClass C = some cellB.cls)
    {g : JFrame} (hg : g.method = m) (hsize : g.locals.size = c.maxLocals) {argsL rest : List Value} (hlen : ∀ sig, parseMethodDescriptor y.desc = some sig → argsL.length = sig.parameters.length)
    (hstack : g.stack = argsL.reverse ++ .ref b :: rest) (hW : 2 * g.monitorRoom + (rest.map fun v => v.category).sum ≤ W9) (hdg : decode c.code g.pc = .ok (.invokevirtual index, 3))
    (hpre : ∀ vm₁, s.WarmedH vm₁ → Pre ⟨T.setVm vm₁, locs, cells, slots⟩ (Value.ref b :: argsL).toArray) :
    (∃ (v : Option Value) (vm₁ : Vm) (B : Pt), s.WarmedH vm₁ ∧ Stand p l e R s m args below meth c B.U B.locs B.cells B.slots ∧ Post ⟨T.setVm vm₁, locs, cells, slots⟩ (Value.ref b :: argsL).toArray v B ∧
      ∀ target, Steps p.tables e below (B.U.setTop { g with pc := g.pc + 3, stack := v.toList ++ rest }) target → Steps p.tables e below (T.setTop g) target) ∨
    (∃ (q : Addr) (vm₁ : Vm) (B : Pt), s.WarmedH vm₁ ∧ Stand p l e R s m args below meth c B.U B.locs B.cells B.slots ∧ PostX ⟨T.setVm vm₁, locs, cells, slots⟩ (Value.ref b :: argsL).toArray q B ∧
      Steps p.tables e below (T.setTop g) ((B.U.setTop { g with stack := rest }).pushFrame (.throwing q))) := by
  obtain ⟨mk, methM, hnamed, hmethM, hstM, habM⟩ := Cond.instanceMethod_spec hinst
  obtain ⟨m8, methM', cM, hn8, hmethM', -, -, -, -, -, -, hsigM⟩ := Cond.codeWith_spec hcode
  cases Option.some.inj (hn8.symm.trans hnamed)
  cases hmethM.symm.trans hmethM'
  obtain ⟨c2, r2, m2, q1, q2, q3, q4, kP, hkP, hkPi⟩ := Cond.selects_spec hsel
  cases hcls.symm.trans q1
  cases (State.methodFound?_of_named hnamed hy).symm.trans q2
  cases hnamed.symm.trans q3
  have hselP : selectMethod e.platform s.vm cellB.cls mk = .method mk := by rw [Launch.admits_selectMethod X.admits]; exact q4
  obtain ⟨vm₁, X₁, hstep₁⟩ := X.invokevirtual hexec hown hlink hnamed hmethM hstM hkP hkPi hy (a := b) (cell := cellB) hcell
    (fun z h => by rw [h] at hobj; cases hobj) hselP hmethM habM hkP hkPi (g := g) hg (argsL := argsL) (rest := rest) (hlen _ hsigM) hstack hdg
  rcases hK m meth c ⟨T.setVm vm₁, locs, cells, slots⟩ { g with stack := rest } (.invokevirtual index) mk (Value.ref b :: argsL).toArray X₁ hg hsize hdg hW (X₁.named hnamed) (hpre vm₁ X₁.warmed) with ⟨v, B, X', hpost, hsteps⟩ | ⟨q, B, X', hpost, hsteps⟩
  · exact Or.inl ⟨v, vm₁, B, X₁.warmed, X', hpost, fun target h => hstep₁ _ fun acts => by rw [doInvoke_state]; exact hsteps.trans h⟩
  · exact Or.inr ⟨q, vm₁, B, X₁.warmed, X', hpost, hstep₁ _ fun acts => by rw [doInvoke_state]; exact hsteps⟩
theorem vx_callSX (X : Stand p l e R s m args below meth c T locs cells slots) (hexec : p.tables.exec = Jvm.exec) {own : String} {index : Nat} {y : MethodName} {bytes : ByteArray} {maxL : Nat} {ret : Option FieldType} {hh : List (Nat × Nat × Nat × Nat)}
    (hown : s.vm.findClass own = some m.cls) (hlink : (Cond.methodLink own index y).before args s = true) (hstat : (Cond.static y).before args s = true) (hinit : (Cond.initialized y.cls).before args s = true)
    (hcode : (Cond.codeWith y bytes maxL ret hh).before args s = true) (hy : y.cls ≠ "java/lang/invoke/MethodHandle" ∧ y.cls ≠ "java/lang/invoke/VarHandle")
    {W9 : Nat} {Pre : Pt → Array Value → Prop} {Post : Pt → Array Value → Option Value → Pt → Prop} {PostX : Pt → Array Value → Addr → Pt → Prop} (hK : vx_Back l R p e below s args y 3 W9 Pre Post PostX)
    {g : JFrame} (hg : g.method = m) (hsize : g.locals.size = c.maxLocals) {argsL rest : List Value} (hlen : ∀ sig, parseMethodDescriptor y.desc = some sig → argsL.length = sig.parameters.length)
    (hstack : g.stack = argsL.reverse ++ rest) (hW : 2 * g.monitorRoom + (rest.map fun v => v.category).sum ≤ W9) (hdg : decode c.code g.pc = .ok (.invokestatic index, 3))
    (hpre : ∀ vm₁, s.WarmedH vm₁ → Pre ⟨T.setVm vm₁, locs, cells, slots⟩ argsL.toArray) :
    (∃ (v : Option Value) (vm₁ : Vm) (B : Pt), s.WarmedH vm₁ ∧ Stand p l e R s m args below meth c B.U B.locs B.cells B.slots ∧ Post ⟨T.setVm vm₁, locs, cells, slots⟩ argsL.toArray v B ∧
      ∀ target, Steps p.tables e below (B.U.setTop { g with pc := g.pc + 3, stack := v.toList ++ rest }) target → Steps p.tables e below (T.setTop g) target) ∨
    (∃ (q : Addr) (vm₁ : Vm) (B : Pt), s.WarmedH vm₁ ∧ Stand p l e R s m args below meth c B.U B.locs B.cells B.slots ∧ PostX ⟨T.setVm vm₁, locs, cells, slots⟩ argsL.toArray q B ∧
      Steps p.tables e below (T.setTop g) ((B.U.setTop { g with stack := rest }).pushFrame (.throwing q))) := by
  obtain ⟨mk, methM, cM, hnamed, hmethM, -, -, -, -, -, -, hsigM⟩ := Cond.codeWith_spec hcode
  have hstatic : methM.isStatic = true := Cond.static_spec hnamed hmethM hstat
  obtain ⟨kP, hkP, -⟩ := className_of_methodNamed hnamed
  have hinitP : kP.init = .initialized := Cond.initialized_spec (findClass_of_methodNamed hnamed) hkP hinit
  obtain ⟨vm₁, X₁, hstep₁⟩ := X.invokestatic hexec hown hlink hnamed hmethM hstatic hkP hinitP hy (g := g) hg (argsL := argsL) (rest := rest) (hlen _ hsigM) hstack hdg
  rcases hK m meth c ⟨T.setVm vm₁, locs, cells, slots⟩ { g with stack := rest } (.invokestatic index) mk argsL.toArray X₁ hg hsize hdg hW (X₁.named hnamed) (hpre vm₁ X₁.warmed) with ⟨v, B, X', hpost, hsteps⟩ | ⟨q, B, X', hpost, hsteps⟩
  · exact Or.inl ⟨v, vm₁, B, X₁.warmed, X', hpost, fun target h => hstep₁ _ fun acts => by rw [doInvoke_state]; exact hsteps.trans h⟩
  · exact Or.inr ⟨q, vm₁, B, X₁.warmed, X', hpost, hstep₁ _ fun acts => by rw [doInvoke_state]; exact hsteps⟩
theorem vx_callVW (X : Stand p l e R s m args below meth c T locs cells slots) (hexec : p.tables.exec = Jvm.exec) {own C : String} {index : Nat} {y : MethodName} {bytes : ByteArray} {maxL : Nat} {ret : Option FieldType} {hh : List (Nat × Nat × Nat × Nat)}
    (hown : s.vm.findClass own = some m.cls) (hlink : (Cond.methodLink own index y).before args s = true) (hinst : (Cond.instanceMethod y).before args s = true) (hsel : (Cond.selects C y y).before args s = true)
    (hcode : (Cond.codeWith y bytes maxL ret hh).before args s = true) (hy : y.cls ≠ "java/lang/invoke/MethodHandle" ∧ y.cls ≠ "java/lang/invoke/VarHandle")
    {W9 : Nat} {Pre : Pt → Array Value → Prop} {Post : Pt → Array Value → Option Value → Pt → Prop} (hK : Back l R p e below s args y 3 W9 Pre Post)
    {b : Addr} {cellB : Cell} (hcell : T.heap[b]? = some cellB) (hobj : cellB.vm.isStatics = false) (hcls : s.vm.findClass C = some cellB.cls)
    {g : JFrame} (hg : g.method = m) (hsize : g.locals.size = c.maxLocals) {argsL rest : List Value} (hlen : ∀ sig, parseMethodDescriptor y.desc = some sig → argsL.length = sig.parameters.length)
    (hstack : g.stack = argsL.reverse ++ .ref b :: rest) (hW : 2 * g.monitorRoom + (rest.map fun v => v.category).sum ≤ W9) (hdg : decode c.code g.pc = .ok (.invokevirtual index, 3))
    (hpre : ∀ vm₁, s.WarmedH vm₁ → Pre ⟨T.setVm vm₁, locs, cells, slots⟩ (Value.ref b :: argsL).toArray) :
    ∃ (v : Option Value) (vm₁ : Vm) (B : Pt), s.WarmedH vm₁ ∧ Stand p l e R s m args below meth c B.U B.locs B.cells B.slots ∧ Post ⟨T.setVm vm₁, locs, cells, slots⟩ (Value.ref b :: argsL).toArray v B ∧
      ∀ target, Steps p.tables e below (B.U.setTop { g with pc := g.pc + 3, stack := v.toList ++ rest }) target → Steps p.tables e below (T.setTop g) target := by
  obtain ⟨mk, methM, hnamed, hmethM, hstM, habM⟩ := Cond.instanceMethod_spec hinst
  obtain ⟨m8, methM', cM, hn8, hmethM', -, -, -, -, -, -, hsigM⟩ := Cond.codeWith_spec hcode
  cases Option.some.inj (hn8.symm.trans hnamed)
  cases hmethM.symm.trans hmethM'
  obtain ⟨c2, r2, m2, q1, q2, q3, q4, kP, hkP, hkPi⟩ := Cond.selects_spec hsel
  cases hcls.symm.trans q1
  cases (State.methodFound?_of_named hnamed hy).symm.trans q2
  cases hnamed.symm.trans q3
  have hselP : selectMethod e.platform s.vm cellB.cls mk = .method mk := by rw [Launch.admits_selectMethod X.admits]; exact q4
  obtain ⟨vm₁, X₁, hstep₁⟩ := X.invokevirtual hexec hown hlink hnamed hmethM hstM hkP hkPi hy (a := b) (cell := cellB) hcell
    (fun z h => by rw [h] at hobj; cases hobj) hselP hmethM habM hkP hkPi (g := g) hg (argsL := argsL) (rest := rest) (hlen _ hsigM) hstack hdg
  obtain ⟨v, B, X', hpost, hsteps⟩ := hK m meth c ⟨T.setVm vm₁, locs, cells, slots⟩ { g with stack := rest } (.invokevirtual index) mk (Value.ref b :: argsL).toArray X₁ hg hsize hdg hW (X₁.named hnamed) (hpre vm₁ X₁.warmed)
  exact ⟨v, vm₁, B, X₁.warmed, X', hpost, fun target h => hstep₁ _ fun acts => by rw [doInvoke_state]; exact hsteps.trans h⟩
abbrev vx_CVW (R : Room) (s : State) (args : Array Value) (own C : String) (index : Nat) (y : MethodName) (bytes : ByteArray) (maxL : Nat) (ret : Option FieldType) (hh : List (Nat × Nat × Nat × Nat)) (ws : List Cond) (rm : Room) (mc ms n : Nat) : Prop :=
  (rm.cells = mc ∧ rm.slots = ms ∧ rm.frames + 1 ≤ R.frames ∧ 8 + (maxL + 11) + rm.locals ≤ R.locals ∧ (∀ w ∈ ws, ∀ (a' : Array Value) (U : State), s.WarmedH U.vm → w.before a' U = true) ∧ Cond.codeWith y bytes maxL ret hh ∈ ws) ∧
  (Cond.codeWith y bytes maxL ret hh).before args s = true ∧ (Cond.initialized y.cls).before args s = true ∧ (y.cls ≠ "java/lang/invoke/MethodHandle" ∧ y.cls ≠ "java/lang/invoke/VarHandle") ∧
  (∀ sig, parseMethodDescriptor y.desc = some sig → n = sig.parameters.length) ∧ (Cond.methodLink own index y).before args s = true ∧ (Cond.instanceMethod y).before args s = true ∧ (Cond.selects C y y).before args s = true
theorem vx_cwVW {own C : String} {index maxL mc ms : Nat} {y : MethodName} {bytes : ByteArray} {ret : Option FieldType} {hh : List (Nat × Nat × Nat × Nat)} {Ts ws ws' : List Cond} {rm : Room} (n : Nat) (ht : ∀ w ∈ Ts, w.before args s = true) (hT : GoodIn Ts (wsV own index C y ws)) (hw : ws = Cond.codeWith y bytes maxL ret hh :: ws') (hrc : rm.cells = mc) (hrs : rm.slots = ms)
    (hd : y.cls = C ∧ y.cls ≠ "java/lang/invoke/MethodHandle" ∧ y.cls ≠ "java/lang/invoke/VarHandle" ∧ (parseMethodDescriptor y.desc).map (fun d => d.parameters.length) = some n) (hR : rm.frames + 1 ≤ R.frames ∧ 8 + (maxL + 11) + rm.locals ≤ R.locals) :
    vx_CVW R s args own C index y bytes maxL ret hh ws rm mc ms n := by
  obtain ⟨hC, hd⟩ := hd
  subst hC
  have ok : ∀ w ∈ wsV own index y.cls y ws, w.before args s = true := fun w h => ht w (hT w h).1
  have hG : GoodIn Ts ws := fun w h => hT w (by unfold wsV; exact List.mem_append_right _ h)
  have hc : Cond.codeWith y bytes maxL ret hh ∈ ws := by rw [hw]; exact List.mem_cons_self
  refine ⟨⟨hrc, hrs, hR.1, hR.2, pay_in ht hG, hc⟩, ht _ (hG _ hc).1, ok _ (by simp [wsV]), ⟨hd.1, hd.2.1⟩, fun sig h => ?_, ok _ (by simp [wsV]), ok _ (by simp [wsV]), ok _ (by simp [wsV])⟩
  have h2 := hd.2.2
  rw [h] at h2
  exact (Option.some.inj h2).symm
theorem vx_runVW {y : MethodName} {bytes cc : ByteArray} {maxL nL mc ms n index : Nat} {ret : Option FieldType} {hh : List (Nat × Nat × Nat × Nat)} {ws : List Cond} {rm : Room} {Pc : Array Value → State → Prop} {Qc : Array Value → State → Outcome → State → Prop} {free : Addr → Prop} {Ts : List Cond} {own C : String} {b : Addr} {As rest : List Value} {g : JFrame}
    (S : CallFix p m c cc nL s args Ts own) (hM : Met l y ws rm Pc Qc mc ms free) (cw : vx_CVW R s args own C index y bytes maxL ret hh ws rm mc ms n) (hp : PreV s H C b Pc As)
    (hg : g.method = m) (hn : As.length = n) (hsize : g.locals.size = nL) (hstack : g.stack = As.reverse ++ .ref b :: rest) (hW : 2 * g.monitorRoom + (rest.map fun v => v.category).sum ≤ 8) (hdg : decode cc g.pc = .ok (.invokevirtual index, 3)) (hf : cells + mc ≤ R.cells ∧ slots + ms ≤ R.slots) :
    va_Run p l e R s m args below meth c H locs cells slots mc ms g rest (Qc (Value.ref b :: As).toArray) free := by
  obtain ⟨⟨hrc, hrs, hfr, hlo, hws, hcw⟩, hcode, hini, hy, hlen, hl, hin, hse⟩ := cw
  have hK : Back l R p e below s args y 3 8 (PreOf R mc ms Pc) (PostOf Qc mc ms free) := va_backW (hh := hh) (bytes := bytes) (maxL := maxL) (ret := ret) hM hp.1 hrc hrs hfr hlo hws hcw (fun a' U hW => word_at hW (Or.inl (by first | rfl | simp [Cond.onTables, Cond.keeps, Cond.steady])) hini)
  obtain ⟨hx, hb, hml, ho, -⟩ := S
  obtain ⟨-, ⟨cellB, hcB, hoB, hclB⟩, hPc⟩ := hp
  intro T hT X
  obtain ⟨v, vm₁, ⟨U', l2, c2, s2⟩, hW₁, X', ⟨g', mk, t, L, e1, e2, hq, h1, hL, h2, h3⟩, st⟩ := vx_callVW X hx (C := C) (hh := hh) (bytes := bytes) (maxL := maxL) (ret := ret) ho hl hin hse hcode hy hK (by rw [hT]; exact hcB) hoB hclB hg (hsize.trans hml.symm) (argsL := As) (rest := rest) (fun sig h => hn.trans (hlen sig h)) hstack hW (by rw [hb]; exact hdg)
    (fun vm₁ hW₁ => ⟨hf.1, hf.2, hPc (T.setVm vm₁) hT hW₁⟩)
  dsimp only [Pt.U, Pt.locs, Pt.cells, Pt.slots] at X' e1 e2 h1 h2 h3 st
  subst h1; subst h2; subst h3
  exact ⟨v, (T.setVm vm₁).calling g' mk (Value.ref b :: As).toArray, t, U', L, hT, X', hL, e1, e2, hq, st⟩
section
variable {y : MethodName} {bytes cc : ByteArray} {maxL nL mc ms n index : Nat} {ret : Option FieldType} {ws : List Cond} {rm : Room} {Pc : Array Value → State → Prop} {Qc : Array Value → State → Outcome → State → Prop} {XC : String → State → State → Prop} {free : Addr → Prop} {Ts : List Cond} {own C : String} {b : Addr} {As rest : List Value} {g : JFrame}
theorem vx_runVX {hh : List (Nat × Nat × Nat × Nat)} (S : CallFix p m c cc nL s args Ts own) (hM : vx_Met l y ws rm Pc Qc XC mc ms free) (cw : vx_CVW R s args own C index y bytes maxL ret hh ws rm mc ms n) (hp : PreV s H C b Pc As)
    (hg : g.method = m) (hn : As.length = n) (hsize : g.locals.size = nL) (hstack : g.stack = As.reverse ++ .ref b :: rest) (hW : 2 * g.monitorRoom + (rest.map fun v => v.category).sum ≤ 8) (hdg : decode cc g.pc = .ok (.invokevirtual index, 3)) (hf : cells + mc ≤ R.cells ∧ slots + ms ≤ R.slots) :
    vx_Run p l e R s m args below meth c H locs cells slots mc ms g rest (Qc (Value.ref b :: As).toArray) XC free := by
  obtain ⟨⟨hrc, hrs, hfr, hlo, hws, hcw⟩, hcode, hini, hy, hlen, hl, hin, hse⟩ := cw
  have hK : vx_Back l R p e below s args y 3 8 (PreOf R mc ms Pc) (PostOf Qc mc ms free) (vx_Post XC mc ms free) := vx_backW (hh := hh) (bytes := bytes) (maxL := maxL) (ret := ret) hM hp.1 hrc hrs hfr hlo hws hcw (fun a' U hW => word_at hW (Or.inl (by first | rfl | simp [Cond.onTables, Cond.keeps, Cond.steady])) hini)
  obtain ⟨hx, hb, hml, ho, -⟩ := S
  obtain ⟨-, ⟨cellB, hcB, hoB, hclB⟩, hPc⟩ := hp
  intro T hT X
  rcases vx_callVX X hx (C := C) (hh := hh) (bytes := bytes) (maxL := maxL) (ret := ret) ho hl hin hse hcode hy hK (by rw [hT]; exact hcB) hoB hclB hg (hsize.trans hml.symm) (argsL := As) (rest := rest) (fun sig h => hn.trans (hlen sig h)) hstack hW (by rw [hb]; exact hdg)
    (fun vm₁ hW₁ => ⟨hf.1, hf.2, hPc (T.setVm vm₁) hT hW₁⟩) with ⟨v, vm₁, ⟨U', l2, c2, s2⟩, hW₁, X', ⟨g', mk, t, L, e1, e2, hq, h1, hL, h2, h3⟩, st⟩ | ⟨q, vm₁, ⟨U', l2, c2, s2⟩, hW₁, X', ⟨g', mk, t, L, E, ce, e1, e2, hq, hce, hcv, hcl, h1, hL, h2, h3⟩, st⟩
  · dsimp only [Pt.U, Pt.locs, Pt.cells, Pt.slots] at X' e1 e2 h1 h2 h3 st
    subst h1; subst h2; subst h3
    exact Or.inl ⟨v, (T.setVm vm₁).calling g' mk (Value.ref b :: As).toArray, t, U', L, hT, X', hL, e1, e2, hq, st⟩
  · dsimp only [Pt.U, Pt.locs, Pt.cells, Pt.slots] at X' e1 e2 h1 h2 h3 st hcl
    subst h1; subst h2; subst h3
    exact Or.inr ⟨q, (T.setVm vm₁).calling g' mk (Value.ref b :: As).toArray, t, U', L, E, ce, hT, X', hL, e1, e2, hq, hce, hcv, vx_cls hW₁ hcl, st⟩
theorem vx_runSX {hh : List (Nat × Nat × Nat × Nat)} (S : CallFix p m c cc nL s args Ts own) (hM : vx_Met l y ws rm Pc Qc XC mc ms free) (cw : vx_CSW R s args own index y bytes maxL ret hh ws rm mc ms n) (hp : PreS s H Pc As)
    (hg : g.method = m) (hn : As.length = n) (hsize : g.locals.size = nL) (hstack : g.stack = As.reverse ++ rest) (hW : 2 * g.monitorRoom + (rest.map fun v => v.category).sum ≤ 8) (hdg : decode cc g.pc = .ok (.invokestatic index, 3)) (hf : cells + mc ≤ R.cells ∧ slots + ms ≤ R.slots) :
    vx_Run p l e R s m args below meth c H locs cells slots mc ms g rest (Qc As.toArray) XC free := by
  obtain ⟨⟨hrc, hrs, hfr, hlo, hws, hcw⟩, hcode, hini, hy, hlen, hl, hstt⟩ := cw
  have hK : vx_Back l R p e below s args y 3 8 (PreOf R mc ms Pc) (PostOf Qc mc ms free) (vx_Post XC mc ms free) := vx_backW (hh := hh) (bytes := bytes) (maxL := maxL) (ret := ret) hM hp.1 hrc hrs hfr hlo hws hcw (fun a' U hW => word_at hW (Or.inl (by first | rfl | simp [Cond.onTables, Cond.keeps, Cond.steady])) hini)
  obtain ⟨hx, hb, hml, ho, -⟩ := S
  intro T hT X
  rcases vx_callSX X hx (hh := hh) (bytes := bytes) (maxL := maxL) (ret := ret) ho hl hstt hini hcode hy hK hg (hsize.trans hml.symm) (argsL := As) (rest := rest) (fun sig h => hn.trans (hlen sig h)) hstack hW (by rw [hb]; exact hdg)
    (fun vm₁ hW₁ => ⟨hf.1, hf.2, hp.2 (T.setVm vm₁) hT hW₁⟩) with ⟨v, vm₁, ⟨U', l2, c2, s2⟩, hW₁, X', ⟨g', mk, t, L, e1, e2, hq, h1, hL, h2, h3⟩, st⟩ | ⟨q, vm₁, ⟨U', l2, c2, s2⟩, hW₁, X', ⟨g', mk, t, L, E, ce, e1, e2, hq, hce, hcv, hcl, h1, hL, h2, h3⟩, st⟩
  · dsimp only [Pt.U, Pt.locs, Pt.cells, Pt.slots] at X' e1 e2 h1 h2 h3 st
    subst h1; subst h2; subst h3
    exact Or.inl ⟨v, (T.setVm vm₁).calling g' mk As.toArray, t, U', L, hT, X', hL, e1, e2, hq, st⟩
  · dsimp only [Pt.U, Pt.locs, Pt.cells, Pt.slots] at X' e1 e2 h1 h2 h3 st hcl
    subst h1; subst h2; subst h3
    exact Or.inr ⟨q, (T.setVm vm₁).calling g' mk As.toArray, t, U', L, E, ce, hT, X', hL, e1, e2, hq, hce, hcv, vx_cls hW₁ hcl, st⟩
end
end VXH
theorem vx_ofWH {l : Launch} {y : MethodName} {ws ws' : List Cond} {rm : Room} {Pc : Array Value → State → Prop} {Qc : Array Value → State → Outcome → State → Prop} {XC : String → State → State → Prop} {mc ms : Nat} {free : Addr → Prop} {cc : ByteArray} {maxL : Nat} {ret : Option FieldType} {hh : List (Nat × Nat × Nat × Nat)}
    (hy : plainName y.cls = true) (hw : ws = Cond.codeWith y cc maxL ret hh :: ws')
    (body : ∀ p e s m args below meth c s₁, BodyLoose p l y (headSpec ws rm) cc maxL ret e s m args below meth c s₁ → c.maxLocals = maxL → Pc args s →
      W p l e (headSpec ws rm).room s m args below meth c s.heap [] 0 0 (vx_MQ below Qc XC args s mc ms free) (entryFrame m args maxL)) : vx_Met l y ws rm Pc Qc XC mc ms free := by
  refine MetFree.of_bodyS (code := cc) (maxLocals := maxL) (ret := ret) hy ?_ ?_
  · intro args s m h hn
    obtain ⟨m9, meth, c, hn9, h1, h2, h3, h4, -, h5, h6, -⟩ := Cond.codeWith_spec (atoms_spec (ws := ws) h _ (by rw [hw]; exact List.mem_cons_self))
    cases hn.symm.trans hn9
    exact ⟨meth, c, h1, h2, h3, h4, h5, h6⟩
  · intro p e s m args below meth c s₁ B hml hP _
    have hh0 : s₁.heap = s.heap := by rw [B.state]; rfl
    obtain ⟨t, a1, o, b1, b2, b3⟩ := body p e s m args below meth c s₁ B hml hP s₁ hh0 (Stand.of_body B)
    exact ⟨t, o, a1, b1, b2, b3⟩
/-! ===== END ===== -/

/-! ===== BEGIN printed: names, fields, word lists, decode rows ===== -/
def RX0 : String := "SettlingJars$Charge"
def TX0 : u_T := fun k => match k with
  | 0 => ("SettlingJars$Charge", "signs", "[C", true)
  | _ => ("SettlingJars$Charge", "length", "I", false)
def tyX0 : Nat → FieldType := fun k => match k with
  | 0 => .array .char
  | _ => .int
abbrev wsX00 : List Cond := u_ws RX0 TX0 2
theorem nmX0 : ∀ a, a < 2 → ∀ b, b < 2 → a ≠ b → (TX0 a).2.1 ≠ (TX0 b).2.1 := by decide +kernel
theorem tyX0_ok : ∀ k, k < 2 → parseFieldDescriptor (TX0 k).2.2.1 = some (tyX0 k) := by decide +kernel
abbrev cX0_init : ByteArray := prog_2_method_1_code
def yX0_init : MethodName := ⟨RX0, "<init>", "()V"⟩
def RX1 : String := "SettlingJars$History"
def TX1 : u_T := fun k => match k with
  | 0 => ("SettlingJars$History", "saved", "[LSettlingJars$State;", true)
  | 1 => ("SettlingJars$History", "oldest", "I", false)
  | _ => ("SettlingJars$History", "size", "I", false)
def tyX1 : Nat → FieldType := fun k => match k with
  | 0 => .array (.object "SettlingJars$State")
  | 1 => .int
  | _ => .int
abbrev wsX10 : List Cond := u_ws RX1 TX1 3
theorem nmX1 : ∀ a, a < 3 → ∀ b, b < 3 → a ≠ b → (TX1 a).2.1 ≠ (TX1 b).2.1 := by decide +kernel
theorem tyX1_ok : ∀ k, k < 3 → parseFieldDescriptor (TX1 k).2.2.1 = some (tyX1 k) := by decide +kernel
abbrev cX1_init : ByteArray := prog_3_method_1_code
def yX1_init : MethodName := ⟨RX1, "<init>", "()V"⟩
abbrev cX1_size : ByteArray := prog_3_method_2_code
def yX1_size : MethodName := ⟨RX1, "size", "()I"⟩
abbrev cX1_keep : ByteArray := prog_3_method_3_code
def yX1_keep : MethodName := ⟨RX1, "keep", "(LSettlingJars$State;)V"⟩
def RX2 : String := "SettlingJars$Jar"
def TX2 : u_T := fun k => match k with
  | _ => ("SettlingJars$Jar", "grains", "[I", true)
def tyX2 : Nat → FieldType := fun k => match k with
  | _ => .array .int
abbrev wsX20 : List Cond := u_ws RX2 TX2 1
theorem nmX2 : ∀ a, a < 1 → ∀ b, b < 1 → a ≠ b → (TX2 a).2.1 ≠ (TX2 b).2.1 := by decide +kernel
theorem tyX2_ok : ∀ k, k < 1 → parseFieldDescriptor (TX2 k).2.2.1 = some (tyX2 k) := by decide +kernel
abbrev cX2_init : ByteArray := prog_4_method_1_code
def yX2_init : MethodName := ⟨RX2, "<init>", "()V"⟩
abbrev cX2_copyFrom : ByteArray := prog_4_method_2_code
def yX2_copyFrom : MethodName := ⟨RX2, "copyFrom", "(LSettlingJars$Jar;)V"⟩
abbrev cX2_many : ByteArray := prog_4_method_4_code
def yX2_many : MethodName := ⟨RX2, "many", "(II)I"⟩
abbrev cX2_put : ByteArray := prog_4_method_5_code
def yX2_put : MethodName := ⟨RX2, "put", "(III)V"⟩
abbrev cX2_allIn : ByteArray := prog_4_method_6_code
def yX2_allIn : MethodName := ⟨RX2, "allIn", "(I)I"⟩
abbrev cX2_allOf : ByteArray := prog_4_method_7_code
def yX2_allOf : MethodName := ⟨RX2, "allOf", "(I)I"⟩
abbrev cX2_allDownTo : ByteArray := prog_4_method_8_code
def yX2_allDownTo : MethodName := ⟨RX2, "allDownTo", "(I)I"⟩
abbrev cX2_all : ByteArray := prog_4_method_9_code
def yX2_all : MethodName := ⟨RX2, "all", "()I"⟩
abbrev cX2_sumOfDepths : ByteArray := prog_4_method_10_code
def yX2_sumOfDepths : MethodName := ⟨RX2, "sumOfDepths", "()I"⟩
abbrev cX2_spread : ByteArray := prog_4_method_11_code
def yX2_spread : MethodName := ⟨RX2, "spread", "(III)I"⟩
abbrev cX2_pourInto : ByteArray := prog_4_method_12_code
def yX2_pourInto : MethodName := ⟨RX2, "pourInto", "(LSettlingJars$Jar;I)V"⟩
abbrev cX2_turnOver : ByteArray := prog_4_method_13_code
def yX2_turnOver : MethodName := ⟨RX2, "turnOver", "()V"⟩
abbrev cX2_goOn : ByteArray := prog_4_method_14_code
def yX2_goOn : MethodName := ⟨RX2, "goOn", "(ILSettlingJars$Settings;)I"⟩
abbrev cX2_goOneStep : ByteArray := prog_4_method_15_code
def yX2_goOneStep : MethodName := ⟨RX2, "goOneStep", "(LSettlingJars$Settings;)I"⟩
abbrev cX2_fallFrom : ByteArray := prog_4_method_16_code
def yX2_fallFrom : MethodName := ⟨RX2, "fallFrom", "(ILSettlingJars$Settings;)I"⟩
abbrev cX2_reasonToStay : ByteArray := prog_4_method_17_code
def yX2_reasonToStay : MethodName := ⟨RX2, "reasonToStay", "(IILSettlingJars$Settings;)I"⟩
abbrev cX2_isAtRest : ByteArray := prog_4_method_18_code
def yX2_isAtRest : MethodName := ⟨RX2, "isAtRest", "(LSettlingJars$Settings;)Z"⟩
abbrev cX2_sliceProperty : ByteArray := prog_4_method_19_code
def yX2_sliceProperty : MethodName := ⟨RX2, "sliceProperty", "(IILSettlingJars$Settings;)I"⟩
abbrev cX2_property : ByteArray := prog_4_method_20_code
def yX2_property : MethodName := ⟨RX2, "property", "(ILSettlingJars$Settings;)I"⟩
abbrev cX2_bedSlices : ByteArray := prog_4_method_21_code
def yX2_bedSlices : MethodName := ⟨RX2, "bedSlices", "(LSettlingJars$Settings;)I"⟩
abbrev cX2_clearWater : ByteArray := prog_4_method_22_code
def yX2_clearWater : MethodName := ⟨RX2, "clearWater", "(LSettlingJars$Settings;)I"⟩
abbrev cX2_packedSlices : ByteArray := prog_4_method_23_code
def yX2_packedSlices : MethodName := ⟨RX2, "packedSlices", "(LSettlingJars$Settings;)I"⟩
abbrev cX2_clearSlices : ByteArray := prog_4_method_24_code
def yX2_clearSlices : MethodName := ⟨RX2, "clearSlices", "(LSettlingJars$Settings;)I"⟩
abbrev cX2_leadingClass : ByteArray := prog_4_method_25_code
def yX2_leadingClass : MethodName := ⟨RX2, "leadingClass", "(I)I"⟩
abbrev cX2_changesOfLeader : ByteArray := prog_4_method_26_code
def yX2_changesOfLeader : MethodName := ⟨RX2, "changesOfLeader", "()I"⟩
abbrev cX2_purestSlice : ByteArray := prog_4_method_27_code
def yX2_purestSlice : MethodName := ⟨RX2, "purestSlice", "(I)I"⟩
def RX3 : String := "SettlingJars$Settings"
def TX3 : u_T := fun k => match k with
  | 0 => ("SettlingJars$Settings", "values", "[I", true)
  | _ => ("SettlingJars$Settings", "speeds", "[I", true)
def tyX3 : Nat → FieldType := fun k => match k with
  | 0 => .array .int
  | _ => .array .int
abbrev wsX30 : List Cond := u_ws RX3 TX3 2
theorem nmX3 : ∀ a, a < 2 → ∀ b, b < 2 → a ≠ b → (TX3 a).2.1 ≠ (TX3 b).2.1 := by decide +kernel
theorem tyX3_ok : ∀ k, k < 2 → parseFieldDescriptor (TX3 k).2.2.1 = some (tyX3 k) := by decide +kernel
abbrev cX3_init : ByteArray := prog_5_method_1_code
def yX3_init : MethodName := ⟨RX3, "<init>", "()V"⟩
abbrev cX3_copyFrom : ByteArray := prog_5_method_2_code
def yX3_copyFrom : MethodName := ⟨RX3, "copyFrom", "(LSettlingJars$Settings;)V"⟩
abbrev cX3_factorOf : ByteArray := prog_5_method_3_code
def yX3_factorOf : MethodName := ⟨RX3, "factorOf", "(I)I"⟩
abbrev cX3_roomOver : ByteArray := prog_5_method_4_code
def yX3_roomOver : MethodName := ⟨RX3, "roomOver", "(I)I"⟩
abbrev cX3_isPacked : ByteArray := prog_5_method_5_code
def yX3_isPacked : MethodName := ⟨RX3, "isPacked", "(I)Z"⟩
abbrev cX3_isClear : ByteArray := prog_5_method_6_code
def yX3_isClear : MethodName := ⟨RX3, "isClear", "(I)Z"⟩
abbrev cX3_wantingToFall : ByteArray := prog_5_method_7_code
def yX3_wantingToFall : MethodName := ⟨RX3, "wantingToFall", "(III)I"⟩
def RX4 : String := "SettlingJars$State"
def TX4 : u_T := fun k => match k with
  | 0 => ("SettlingJars$State", "settings", "LSettlingJars$Settings;", true)
  | 1 => ("SettlingJars$State", "jars", "[LSettlingJars$Jar;", true)
  | 2 => ("SettlingJars$State", "poured", "[I", true)
  | 3 => ("SettlingJars$State", "drawn", "[I", true)
  | 4 => ("SettlingJars$State", "steps", "I", false)
  | _ => ("SettlingJars$State", "fallen", "I", false)
def tyX4 : Nat → FieldType := fun k => match k with
  | 0 => .object "SettlingJars$Settings"
  | 1 => .array (.object "SettlingJars$Jar")
  | 2 => .array .int
  | 3 => .array .int
  | 4 => .int
  | _ => .int
abbrev wsX40 : List Cond := u_ws RX4 TX4 6
theorem nmX4 : ∀ a, a < 6 → ∀ b, b < 6 → a ≠ b → (TX4 a).2.1 ≠ (TX4 b).2.1 := by decide +kernel
theorem tyX4_ok : ∀ k, k < 6 → parseFieldDescriptor (TX4 k).2.2.1 = some (tyX4 k) := by decide +kernel
abbrev cX4_init : ByteArray := prog_6_method_1_code
def yX4_init : MethodName := ⟨RX4, "<init>", "()V"⟩
abbrev cX4_copyFrom : ByteArray := prog_6_method_2_code
def yX4_copyFrom : MethodName := ⟨RX4, "copyFrom", "(LSettlingJars$State;)V"⟩
abbrev cX4_all : ByteArray := prog_6_method_3_code
def yX4_all : MethodName := ⟨RX4, "all", "()I"⟩
abbrev cX4_allOf : ByteArray := prog_6_method_4_code
def yX4_allOf : MethodName := ⟨RX4, "allOf", "(I)I"⟩
abbrev cX4_packedSlices : ByteArray := prog_6_method_5_code
def yX4_packedSlices : MethodName := ⟨RX4, "packedSlices", "()I"⟩
abbrev cX4_clearSlices : ByteArray := prog_6_method_6_code
def yX4_clearSlices : MethodName := ⟨RX4, "clearSlices", "()I"⟩
def RX5 : String := "SettlingJars"
def TX5 : u_T := fun k => match k with
  | 0 => ("SettlingJars", "now", "LSettlingJars$State;", true)
  | 1 => ("SettlingJars", "history", "LSettlingJars$History;", true)
  | 2 => ("SettlingJars", "charge", "LSettlingJars$Charge;", true)
  | _ => ("SettlingJars", "spare", "LSettlingJars$Jar;", true)
def tyX5 : Nat → FieldType := fun k => match k with
  | 0 => .object "SettlingJars$State"
  | 1 => .object "SettlingJars$History"
  | 2 => .object "SettlingJars$Charge"
  | _ => .object "SettlingJars$Jar"
abbrev wsX50 : List Cond := u_ws RX5 TX5 4
theorem nmX5 : ∀ a, a < 4 → ∀ b, b < 4 → a ≠ b → (TX5 a).2.1 ≠ (TX5 b).2.1 := by decide +kernel
theorem tyX5_ok : ∀ k, k < 4 → parseFieldDescriptor (TX5 k).2.2.1 = some (tyX5 k) := by decide +kernel
abbrev cX5_init : ByteArray := prog_1_method_1_code
def yX5_init : MethodName := ⟨RX5, "<init>", "()V"⟩
abbrev cX5_set : ByteArray := prog_1_method_2_code
def yX5_set : MethodName := ⟨RX5, "set", "(II)I"⟩
abbrev cX5_setSpeed : ByteArray := prog_1_method_3_code
def yX5_setSpeed : MethodName := ⟨RX5, "setSpeed", "(II)I"⟩
abbrev cX5_pour : ByteArray := prog_1_method_4_code
def yX5_pour : MethodName := ⟨RX5, "pour", "(IIII)I"⟩
abbrev cX5_stir : ByteArray := prog_1_method_5_code
def yX5_stir : MethodName := ⟨RX5, "stir", "(III)I"⟩
abbrev cX5_draw : ByteArray := prog_1_method_6_code
def yX5_draw : MethodName := ⟨RX5, "draw", "(III)I"⟩
abbrev cX5_decant : ByteArray := prog_1_method_7_code
def yX5_decant : MethodName := ⟨RX5, "decant", "(III)I"⟩
abbrev cX5_turn : ByteArray := prog_1_method_8_code
def yX5_turn : MethodName := ⟨RX5, "turn", "(I)I"⟩
abbrev cX5_settle : ByteArray := prog_1_method_9_code
def yX5_settle : MethodName := ⟨RX5, "settle", "(I)I"⟩
abbrev cX5_slice : ByteArray := prog_1_method_15_code
def yX5_slice : MethodName := ⟨RX5, "slice", "(III)I"⟩
abbrev cX5_jar : ByteArray := prog_1_method_16_code
def yX5_jar : MethodName := ⟨RX5, "jar", "(II)I"⟩
abbrev cX5_grains : ByteArray := prog_1_method_17_code
def yX5_grains : MethodName := ⟨RX5, "grains", "(II)I"⟩
abbrev cX5_count : ByteArray := prog_1_method_18_code
def yX5_count : MethodName := ⟨RX5, "count", "(I)I"⟩
abbrev cX5_setting : ByteArray := prog_1_method_19_code
def yX5_setting : MethodName := ⟨RX5, "setting", "(I)I"⟩
abbrev cX5_why : ByteArray := prog_1_method_20_code
def yX5_why : MethodName := ⟨RX5, "why", "(III)I"⟩
abbrev cX5_ifSettled : ByteArray := prog_1_method_21_code
def yX5_ifSettled : MethodName := ⟨RX5, "ifSettled", "(III)I"⟩
abbrev cX5_clearIn : ByteArray := prog_1_method_22_code
def yX5_clearIn : MethodName := ⟨RX5, "clearIn", "(II)I"⟩
abbrev cX5_restIn : ByteArray := prog_1_method_23_code
def yX5_restIn : MethodName := ⟨RX5, "restIn", "(I)I"⟩
abbrev cX5_purest : ByteArray := prog_1_method_24_code
def yX5_purest : MethodName := ⟨RX5, "purest", "(II)I"⟩
abbrev cX5_meanDepth : ByteArray := prog_1_method_25_code
def yX5_meanDepth : MethodName := ⟨RX5, "meanDepth", "(I)D"⟩
abbrev cX5_needIndex : ByteArray := prog_1_method_29_code
def yX5_needIndex : MethodName := ⟨RX5, "needIndex", "(II)V"⟩
abbrev cX5_needSlice : ByteArray := prog_1_method_30_code
def yX5_needSlice : MethodName := ⟨RX5, "needSlice", "(II)V"⟩
abbrev cX5_needRange : ByteArray := prog_1_method_31_code
def yX5_needRange : MethodName := ⟨RX5, "needRange", "(III)V"⟩
abbrev cX5_needRoom : ByteArray := prog_1_method_32_code
def yX5_needRoom : MethodName := ⟨RX5, "needRoom", "(LSettlingJars$Jar;I)V"⟩
def RX6 : String := "SettlingJarsModel"
def TX6 : u_T := fun k => match k with
  | _ => ("", "", "", false)
def tyX6 : Nat → FieldType := fun k => match k with
  | _ => .int
abbrev wsX60 : List Cond := u_ws RX6 TX6 0
theorem nmX6 : ∀ a, a < 0 → ∀ b, b < 0 → a ≠ b → (TX6 a).2.1 ≠ (TX6 b).2.1 := by decide +kernel
theorem tyX6_ok : ∀ k, k < 0 → parseFieldDescriptor (TX6 k).2.2.1 = some (tyX6 k) := by decide +kernel
def RJ9 : String := "java/lang/Math"
def TJ9 : u_T := fun k => match k with
  | _ => ("", "", "", false)
def tyJ9 : Nat → FieldType := fun k => match k with
  | _ => .int
abbrev wsJ90 : List Cond := u_ws RJ9 TJ9 0
theorem nmJ9 : ∀ a, a < 0 → ∀ b, b < 0 → a ≠ b → (TJ9 a).2.1 ≠ (TJ9 b).2.1 := by decide +kernel
theorem tyJ9_ok : ∀ k, k < 0 → parseFieldDescriptor (TJ9 k).2.2.1 = some (tyJ9 k) := by decide +kernel
abbrev cJ9_max_7cf53 : ByteArray := prog_13_method_65_code
def yJ9_max_7cf53 : MethodName := ⟨RJ9, "max", "(II)I"⟩
abbrev cJ9_min_7cf53 : ByteArray := prog_13_method_69_code
def yJ9_min_7cf53 : MethodName := ⟨RJ9, "min", "(II)I"⟩
def RJ0 : String := "java/lang/String"
def TJ0 : u_T := fun k => match k with
  | _ => ("", "", "", false)
def tyJ0 : Nat → FieldType := fun k => match k with
  | _ => .int
abbrev wsJ00 : List Cond := u_ws RJ0 TJ0 0
theorem nmJ0 : ∀ a, a < 0 → ∀ b, b < 0 → a ≠ b → (TJ0 a).2.1 ≠ (TJ0 b).2.1 := by decide +kernel
theorem tyJ0_ok : ∀ k, k < 0 → parseFieldDescriptor (TJ0 k).2.2.1 = some (tyJ0 k) := by decide +kernel
def RJ10 : String := "java/lang/System"
def TJ10 : u_T := fun k => match k with
  | _ => ("", "", "", false)
def tyJ10 : Nat → FieldType := fun k => match k with
  | _ => .int
abbrev wsJ100 : List Cond := u_ws RJ10 TJ10 0
theorem nmJ10 : ∀ a, a < 0 → ∀ b, b < 0 → a ≠ b → (TJ10 a).2.1 ≠ (TJ10 b).2.1 := by decide +kernel
theorem tyJ10_ok : ∀ k, k < 0 → parseFieldDescriptor (TJ10 k).2.2.1 = some (tyJ10 k) := by decide +kernel
def RL : String := "SettlingJarsLaw"
abbrev cL_cell : ByteArray := method_2_code
def yL_cell : MethodName := ⟨RL, "cell", "([II)I"⟩
abbrev cL_at : ByteArray := method_3_code
def yL_at : MethodName := ⟨RL, "at", "(II)I"⟩
abbrev cL_all : ByteArray := method_4_code
def yL_all : MethodName := ⟨RL, "all", "([II)I"⟩
abbrev cL_sum : ByteArray := method_5_code
def yL_sum : MethodName := ⟨RL, "sum", "([III)I"⟩
abbrev cL_factor : ByteArray := method_6_code
def yL_factor : MethodName := ⟨RL, "factor", "([II[I)I"⟩
abbrev cL_room : ByteArray := method_7_code
def yL_room : MethodName := ⟨RL, "room", "([II[I)I"⟩
abbrev cL_wish : ByteArray := method_8_code
def yL_wish : MethodName := ⟨RL, "wish", "(III[I)I"⟩
abbrev cL_step : ByteArray := method_9_code
def yL_step : MethodName := ⟨RL, "step", "([I[I)I"⟩
abbrev cL_leading : ByteArray := method_10_code
def yL_leading : MethodName := ⟨RL, "leading", "([II)I"⟩
abbrev cL_prop : ByteArray := method_11_code
def yL_prop : MethodName := ⟨RL, "prop", "([II[I)I"⟩
abbrev cL_why : ByteArray := method_12_code
def yL_why : MethodName := ⟨RL, "why", "([III[I)I"⟩
abbrev cL_toldJar : ByteArray := method_13_code
def yL_toldJar : MethodName := ⟨RL, "toldJar", "(LSettlingJars;II[I[I)Z"⟩
abbrev cL_told : ByteArray := method_14_code
def yL_told : MethodName := ⟨RL, "told", "(LSettlingJars;I[I[I[I[I[I)Z"⟩
abbrev cL_ahead : ByteArray := method_15_code
def yL_ahead : MethodName := ⟨RL, "ahead", "(LSettlingJars;III[I[I)Z"⟩
abbrev cL_act : ByteArray := method_16_code
def yL_act : MethodName := ⟨RL, "act", "(LSettlingJars;III[I[I[I[I[I)Z"⟩
abbrev cL_law : ByteArray := code
def yL_law : MethodName := ⟨RL, "law", "([I)Z"⟩
def wsX0_init : List Cond := .code yX0_init cX0_init 1 none :: ([.methodLink RX0 3 objectInit, .instanceMethod objectInit, .code objectInit ⟨#[0xb1]⟩ 1 none, .arrayClass .char, .fieldLink RX0 11 "SettlingJars$Charge" "signs" "[C"] ++ wsX00)
def wsX3_init : List Cond := .code yX3_init cX3_init 1 none :: ([.methodLink RX3 3 objectInit, .instanceMethod objectInit, .code objectInit ⟨#[0xb1]⟩ 1 none, .arrayClass .int, .fieldLink RX3 9 "SettlingJars$Settings" "values" "[I", .fieldLink RX3 15 "SettlingJars$Settings" "speeds" "[I"] ++ wsX30)
def wsX2_init : List Cond := .code yX2_init cX2_init 1 none :: ([.methodLink RX2 3 objectInit, .instanceMethod objectInit, .code objectInit ⟨#[0xb1]⟩ 1 none, .arrayClass .int, .fieldLink RX2 9 "SettlingJars$Jar" "grains" "[I"] ++ wsX20)
def wsX4_init : List Cond := .code yX4_init cX4_init 2 none :: ([.methodLink RX4 3 objectInit, .instanceMethod objectInit, .code objectInit ⟨#[0xb1]⟩ 1 none, .classLink RX4 9 RX3, .instantiable RX3 2, .initialized RX3, .fieldLink RX4 12 "SettlingJars$State" "settings" "LSettlingJars$Settings;", .classLink RX4 18 RX2, .fieldLink RX4 20 "SettlingJars$State" "jars" "[LSettlingJars$Jar;", .arrayClass .int, .fieldLink RX4 24 "SettlingJars$State" "poured" "[I", .fieldLink RX4 28 "SettlingJars$State" "drawn" "[I", .instantiable RX2 1, .initialized RX2, .instanceMethod yX3_init, .code yX3_init cX3_init 1 none, .methodLink RX3 3 objectInit, .fieldLink RX3 9 "SettlingJars$Settings" "values" "[I", .fieldLink RX3 15 "SettlingJars$Settings" "speeds" "[I", .instanceMethod yX2_init, .code yX2_init cX2_init 1 none, .methodLink RX2 3 objectInit, .fieldLink RX2 9 "SettlingJars$Jar" "grains" "[I"] ++ wsX30 ++ wsX40 ++ wsX20)
def wsX1_init_r1 : List Cond := [Cond.methodLink RX1 1 objectInit, Cond.instanceMethod objectInit, Cond.code objectInit ⟨#[0xb1]⟩ 1 none, Cond.classLink RX1 9 RX4, Cond.fieldLink RX1 11 "SettlingJars$History" "saved" "[LSettlingJars$State;", Cond.instantiable RX4 6, Cond.initialized RX4, Cond.methodLink RX1 15 yX4_init, Cond.instanceMethod yX4_init, Cond.code yX4_init cX4_init 2 none, Cond.methodLink RX4 3 objectInit, Cond.classLink RX4 9 RX3, Cond.instantiable RX3 2, Cond.initialized RX3, Cond.fieldLink RX4 12 "SettlingJars$State" "settings" "LSettlingJars$Settings;", Cond.classLink RX4 18 RX2, Cond.fieldLink RX4 20 "SettlingJars$State" "jars" "[LSettlingJars$Jar;", Cond.arrayClass .int, Cond.fieldLink RX4 24 "SettlingJars$State" "poured" "[I", Cond.fieldLink RX4 28 "SettlingJars$State" "drawn" "[I", Cond.instantiable RX2 1, Cond.initialized RX2, Cond.instanceMethod yX3_init, Cond.code yX3_init cX3_init 1 none]
def wsX1_init_r2 : List Cond := [Cond.methodLink RX3 3 objectInit, Cond.fieldLink RX3 9 "SettlingJars$Settings" "values" "[I", Cond.fieldLink RX3 15 "SettlingJars$Settings" "speeds" "[I", Cond.instanceMethod yX2_init, Cond.code yX2_init cX2_init 1 none, Cond.methodLink RX2 3 objectInit, Cond.fieldLink RX2 9 "SettlingJars$Jar" "grains" "[I"]
def wsX1_init : List Cond := .code yX1_init cX1_init 2 none :: ((wsX1_init_r1 ++ wsX1_init_r2) ++ wsX10 ++ wsX40 ++ wsX30 ++ wsX20)
def wsX1_size : List Cond := .code yX1_size cX1_size 1 (some .int) :: ([.fieldLink RX1 16 "SettlingJars$History" "size" "I"] ++ wsX10)
def wsX3_copyFrom : List Cond := .code yX3_copyFrom cX3_copyFrom 2 none :: ([.fieldLink RX3 9 "SettlingJars$Settings" "values" "[I", .methodLink RX3 18 arraycopyName, .native arraycopyName, .static arraycopyName, .initialized "java/lang/System", .fieldLink RX3 15 "SettlingJars$Settings" "speeds" "[I"] ++ wsX30)
def wsX2_copyFrom : List Cond := .code yX2_copyFrom cX2_copyFrom 2 none :: ([.fieldLink RX2 9 "SettlingJars$Jar" "grains" "[I", .methodLink RX2 15 arraycopyName, .native arraycopyName, .static arraycopyName, .initialized "java/lang/System"] ++ wsX20)
def wsX4_copyFrom_r1 : List Cond := [Cond.fieldLink RX4 12 "SettlingJars$State" "settings" "LSettlingJars$Settings;", Cond.fieldLink RX4 20 "SettlingJars$State" "jars" "[LSettlingJars$Jar;", Cond.fieldLink RX4 24 "SettlingJars$State" "poured" "[I", Cond.methodLink RX4 39 arraycopyName, Cond.native arraycopyName, Cond.static arraycopyName, Cond.initialized "java/lang/System", Cond.fieldLink RX4 28 "SettlingJars$State" "drawn" "[I", Cond.fieldLink RX4 45 "SettlingJars$State" "steps" "I", Cond.fieldLink RX4 49 "SettlingJars$State" "fallen" "I", Cond.methodLink RX4 32 yX3_copyFrom, Cond.instanceMethod yX3_copyFrom, Cond.selects RX3 yX3_copyFrom yX3_copyFrom, Cond.initialized RX3, Cond.code yX3_copyFrom cX3_copyFrom 2 none, Cond.fieldLink RX3 9 "SettlingJars$Settings" "values" "[I", Cond.methodLink RX3 18 arraycopyName, Cond.fieldLink RX3 15 "SettlingJars$Settings" "speeds" "[I", Cond.methodLink RX4 36 yX2_copyFrom, Cond.instanceMethod yX2_copyFrom, Cond.selects RX2 yX2_copyFrom yX2_copyFrom, Cond.initialized RX2, Cond.code yX2_copyFrom cX2_copyFrom 2 none, Cond.fieldLink RX2 9 "SettlingJars$Jar" "grains" "[I"]
def wsX4_copyFrom_r2 : List Cond := [Cond.methodLink RX2 15 arraycopyName]
def wsX4_copyFrom : List Cond := .code yX4_copyFrom cX4_copyFrom 3 none :: ((wsX4_copyFrom_r1 ++ wsX4_copyFrom_r2) ++ wsX40 ++ wsX30 ++ wsX20)
def wsX1_keep_r1 : List Cond := [Cond.fieldLink RX1 11 "SettlingJars$History" "saved" "[LSettlingJars$State;", Cond.fieldLink RX1 20 "SettlingJars$History" "oldest" "I", Cond.fieldLink RX1 16 "SettlingJars$History" "size" "I", Cond.methodLink RX1 23 yX4_copyFrom, Cond.instanceMethod yX4_copyFrom, Cond.selects RX4 yX4_copyFrom yX4_copyFrom, Cond.initialized RX4, Cond.code yX4_copyFrom cX4_copyFrom 3 none, Cond.fieldLink RX4 12 "SettlingJars$State" "settings" "LSettlingJars$Settings;", Cond.fieldLink RX4 20 "SettlingJars$State" "jars" "[LSettlingJars$Jar;", Cond.fieldLink RX4 24 "SettlingJars$State" "poured" "[I", Cond.methodLink RX4 39 arraycopyName, Cond.native arraycopyName, Cond.static arraycopyName, Cond.initialized "java/lang/System", Cond.fieldLink RX4 28 "SettlingJars$State" "drawn" "[I", Cond.fieldLink RX4 45 "SettlingJars$State" "steps" "I", Cond.fieldLink RX4 49 "SettlingJars$State" "fallen" "I", Cond.methodLink RX4 32 yX3_copyFrom, Cond.instanceMethod yX3_copyFrom, Cond.selects RX3 yX3_copyFrom yX3_copyFrom, Cond.initialized RX3, Cond.code yX3_copyFrom cX3_copyFrom 2 none, Cond.fieldLink RX3 9 "SettlingJars$Settings" "values" "[I"]
def wsX1_keep_r2 : List Cond := [Cond.methodLink RX3 18 arraycopyName, Cond.fieldLink RX3 15 "SettlingJars$Settings" "speeds" "[I", Cond.methodLink RX4 36 yX2_copyFrom, Cond.instanceMethod yX2_copyFrom, Cond.selects RX2 yX2_copyFrom yX2_copyFrom, Cond.initialized RX2, Cond.code yX2_copyFrom cX2_copyFrom 2 none, Cond.fieldLink RX2 9 "SettlingJars$Jar" "grains" "[I", Cond.methodLink RX2 15 arraycopyName]
def wsX1_keep : List Cond := .code yX1_keep cX1_keep 2 none :: ((wsX1_keep_r1 ++ wsX1_keep_r2) ++ wsX10 ++ wsX40 ++ wsX30 ++ wsX20)
def wsX2_many : List Cond := .code yX2_many cX2_many 3 (some .int) :: ([.fieldLink RX2 9 "SettlingJars$Jar" "grains" "[I"] ++ wsX20)
def wsX2_put : List Cond := .code yX2_put cX2_put 4 none :: ([.fieldLink RX2 9 "SettlingJars$Jar" "grains" "[I"] ++ wsX20)
def wsX2_allIn : List Cond := .code yX2_allIn cX2_allIn 4 (some .int) :: ([.methodLink RX2 21 yX2_many, .instanceMethod yX2_many, .selects RX2 yX2_many yX2_many, .initialized RX2, .code yX2_many cX2_many 3 (some .int), .fieldLink RX2 9 "SettlingJars$Jar" "grains" "[I"] ++ wsX20)
def wsX2_allOf : List Cond := .code yX2_allOf cX2_allOf 4 (some .int) :: ([.methodLink RX2 21 yX2_many, .instanceMethod yX2_many, .selects RX2 yX2_many yX2_many, .initialized RX2, .code yX2_many cX2_many 3 (some .int), .fieldLink RX2 9 "SettlingJars$Jar" "grains" "[I"] ++ wsX20)
def wsX2_allDownTo : List Cond := .code yX2_allDownTo cX2_allDownTo 4 (some .int) :: ([.methodLink RX2 25 yX2_allIn, .instanceMethod yX2_allIn, .selects RX2 yX2_allIn yX2_allIn, .initialized RX2, .code yX2_allIn cX2_allIn 4 (some .int), .methodLink RX2 21 yX2_many, .instanceMethod yX2_many, .selects RX2 yX2_many yX2_many, .code yX2_many cX2_many 3 (some .int), .fieldLink RX2 9 "SettlingJars$Jar" "grains" "[I"] ++ wsX20)
def wsX2_all : List Cond := .code yX2_all cX2_all 1 (some .int) :: ([.methodLink RX2 29 yX2_allDownTo, .instanceMethod yX2_allDownTo, .selects RX2 yX2_allDownTo yX2_allDownTo, .initialized RX2, .code yX2_allDownTo cX2_allDownTo 4 (some .int), .methodLink RX2 25 yX2_allIn, .instanceMethod yX2_allIn, .selects RX2 yX2_allIn yX2_allIn, .code yX2_allIn cX2_allIn 4 (some .int), .methodLink RX2 21 yX2_many, .instanceMethod yX2_many, .selects RX2 yX2_many yX2_many, .code yX2_many cX2_many 3 (some .int), .fieldLink RX2 9 "SettlingJars$Jar" "grains" "[I"] ++ wsX20)
def wsX2_sumOfDepths : List Cond := .code yX2_sumOfDepths cX2_sumOfDepths 3 (some .int) :: ([.methodLink RX2 25 yX2_allIn, .instanceMethod yX2_allIn, .selects RX2 yX2_allIn yX2_allIn, .initialized RX2, .code yX2_allIn cX2_allIn 4 (some .int), .methodLink RX2 21 yX2_many, .instanceMethod yX2_many, .selects RX2 yX2_many yX2_many, .code yX2_many cX2_many 3 (some .int), .fieldLink RX2 9 "SettlingJars$Jar" "grains" "[I"] ++ wsX20)
def wsX2_spread : List Cond := .code yX2_spread cX2_spread 9 (some .int) :: ([.methodLink RX2 21 yX2_many, .instanceMethod yX2_many, .selects RX2 yX2_many yX2_many, .initialized RX2, .code yX2_many cX2_many 3 (some .int), .fieldLink RX2 9 "SettlingJars$Jar" "grains" "[I", .methodLink RX2 32 yX2_put, .instanceMethod yX2_put, .selects RX2 yX2_put yX2_put, .code yX2_put cX2_put 4 none] ++ wsX20)
def wsX2_pourInto : List Cond := .code yX2_pourInto cX2_pourInto 6 none :: ([.methodLink RX2 21 yX2_many, .instanceMethod yX2_many, .selects RX2 yX2_many yX2_many, .initialized RX2, .code yX2_many cX2_many 3 (some .int), .fieldLink RX2 9 "SettlingJars$Jar" "grains" "[I", .methodLink RX2 32 yX2_put, .instanceMethod yX2_put, .selects RX2 yX2_put yX2_put, .code yX2_put cX2_put 4 none] ++ wsX20)
def wsX2_turnOver : List Cond := .code yX2_turnOver cX2_turnOver 4 none :: ([.methodLink RX2 21 yX2_many, .instanceMethod yX2_many, .selects RX2 yX2_many yX2_many, .initialized RX2, .code yX2_many cX2_many 3 (some .int), .fieldLink RX2 9 "SettlingJars$Jar" "grains" "[I", .methodLink RX2 32 yX2_put, .instanceMethod yX2_put, .selects RX2 yX2_put yX2_put, .code yX2_put cX2_put 4 none] ++ wsX20)
def wsX3_factorOf : List Cond := .code yX3_factorOf cX3_factorOf 2 (some .int) :: ([.constant RX3 24 (1000000), .fieldLink RX3 9 "SettlingJars$Settings" "values" "[I", .methodLink RX3 25 Lib.Math.max.name, .static Lib.Math.max.name, .initialized "java/lang/Math", .code Lib.Math.max.name Lib.Math.max.code 2 (some .int)] ++ wsX30)
def wsX3_roomOver : List Cond := .code yX3_roomOver cX3_roomOver 2 (some .int) :: ([.fieldLink RX3 9 "SettlingJars$Settings" "values" "[I", .methodLink RX3 25 Lib.Math.max.name, .static Lib.Math.max.name, .initialized "java/lang/Math", .code Lib.Math.max.name Lib.Math.max.code 2 (some .int)] ++ wsX30)
def wsX3_wantingToFall : List Cond := .code yX3_wantingToFall cX3_wantingToFall 5 (some .int) :: ([.fieldLink RX3 15 "SettlingJars$Settings" "speeds" "[I", .constant RX3 31 (100000), .fieldLink RX3 9 "SettlingJars$Settings" "values" "[I", .methodLink RX3 32 Lib.Math.min.name, .static Lib.Math.min.name, .initialized "java/lang/Math", .code Lib.Math.min.name Lib.Math.min.code 2 (some .int)] ++ wsX30)
def wsX2_fallFrom_r1 : List Cond := [Cond.methodLink RX2 56 Lib.Math.min.name, Cond.static Lib.Math.min.name, Cond.initialized "java/lang/Math", Cond.code Lib.Math.min.name Lib.Math.min.code 2 (some .int), Cond.methodLink RX2 25 yX2_allIn, Cond.instanceMethod yX2_allIn, Cond.selects RX2 yX2_allIn yX2_allIn, Cond.initialized RX2, Cond.code yX2_allIn cX2_allIn 4 (some .int), Cond.methodLink RX2 21 yX2_many, Cond.instanceMethod yX2_many, Cond.selects RX2 yX2_many yX2_many, Cond.code yX2_many cX2_many 3 (some .int), Cond.fieldLink RX2 9 "SettlingJars$Jar" "grains" "[I", Cond.methodLink RX2 44 yX3_factorOf, Cond.instanceMethod yX3_factorOf, Cond.selects RX3 yX3_factorOf yX3_factorOf, Cond.initialized RX3, Cond.code yX3_factorOf cX3_factorOf 2 (some .int), Cond.constant RX3 24 (1000000), Cond.fieldLink RX3 9 "SettlingJars$Settings" "values" "[I", Cond.methodLink RX3 25 Lib.Math.max.name, Cond.static Lib.Math.max.name, Cond.code Lib.Math.max.name Lib.Math.max.code 2 (some .int)]
def wsX2_fallFrom_r2 : List Cond := [Cond.methodLink RX2 49 yX3_roomOver, Cond.instanceMethod yX3_roomOver, Cond.selects RX3 yX3_roomOver yX3_roomOver, Cond.code yX3_roomOver cX3_roomOver 2 (some .int), Cond.methodLink RX2 52 yX3_wantingToFall, Cond.instanceMethod yX3_wantingToFall, Cond.selects RX3 yX3_wantingToFall yX3_wantingToFall, Cond.code yX3_wantingToFall cX3_wantingToFall 5 (some .int), Cond.fieldLink RX3 15 "SettlingJars$Settings" "speeds" "[I", Cond.constant RX3 31 (100000), Cond.methodLink RX3 32 Lib.Math.min.name, Cond.methodLink RX2 32 yX2_put, Cond.instanceMethod yX2_put, Cond.selects RX2 yX2_put yX2_put, Cond.code yX2_put cX2_put 4 none]
def wsX2_fallFrom : List Cond := .code yX2_fallFrom cX2_fallFrom 9 (some .int) :: ((wsX2_fallFrom_r1 ++ wsX2_fallFrom_r2) ++ wsX20 ++ wsX30)
def wsX2_goOneStep_r1 : List Cond := [Cond.methodLink RX2 40 yX2_fallFrom, Cond.instanceMethod yX2_fallFrom, Cond.selects RX2 yX2_fallFrom yX2_fallFrom, Cond.initialized RX2, Cond.code yX2_fallFrom cX2_fallFrom 9 (some .int), Cond.methodLink RX2 56 Lib.Math.min.name, Cond.static Lib.Math.min.name, Cond.initialized "java/lang/Math", Cond.code Lib.Math.min.name Lib.Math.min.code 2 (some .int), Cond.methodLink RX2 25 yX2_allIn, Cond.instanceMethod yX2_allIn, Cond.selects RX2 yX2_allIn yX2_allIn, Cond.code yX2_allIn cX2_allIn 4 (some .int), Cond.methodLink RX2 21 yX2_many, Cond.instanceMethod yX2_many, Cond.selects RX2 yX2_many yX2_many, Cond.code yX2_many cX2_many 3 (some .int), Cond.fieldLink RX2 9 "SettlingJars$Jar" "grains" "[I", Cond.methodLink RX2 44 yX3_factorOf, Cond.instanceMethod yX3_factorOf, Cond.selects RX3 yX3_factorOf yX3_factorOf, Cond.initialized RX3, Cond.code yX3_factorOf cX3_factorOf 2 (some .int), Cond.constant RX3 24 (1000000)]
def wsX2_goOneStep_r2 : List Cond := [Cond.fieldLink RX3 9 "SettlingJars$Settings" "values" "[I", Cond.methodLink RX3 25 Lib.Math.max.name, Cond.static Lib.Math.max.name, Cond.code Lib.Math.max.name Lib.Math.max.code 2 (some .int), Cond.methodLink RX2 49 yX3_roomOver, Cond.instanceMethod yX3_roomOver, Cond.selects RX3 yX3_roomOver yX3_roomOver, Cond.code yX3_roomOver cX3_roomOver 2 (some .int), Cond.methodLink RX2 52 yX3_wantingToFall, Cond.instanceMethod yX3_wantingToFall, Cond.selects RX3 yX3_wantingToFall yX3_wantingToFall, Cond.code yX3_wantingToFall cX3_wantingToFall 5 (some .int), Cond.fieldLink RX3 15 "SettlingJars$Settings" "speeds" "[I", Cond.constant RX3 31 (100000), Cond.methodLink RX3 32 Lib.Math.min.name, Cond.methodLink RX2 32 yX2_put, Cond.instanceMethod yX2_put, Cond.selects RX2 yX2_put yX2_put, Cond.code yX2_put cX2_put 4 none]
def wsX2_goOneStep : List Cond := .code yX2_goOneStep cX2_goOneStep 4 (some .int) :: ((wsX2_goOneStep_r1 ++ wsX2_goOneStep_r2) ++ wsX20 ++ wsX30)
def wsX2_goOn_r1 : List Cond := [Cond.methodLink RX2 36 yX2_goOneStep, Cond.instanceMethod yX2_goOneStep, Cond.selects RX2 yX2_goOneStep yX2_goOneStep, Cond.initialized RX2, Cond.code yX2_goOneStep cX2_goOneStep 4 (some .int), Cond.methodLink RX2 40 yX2_fallFrom, Cond.instanceMethod yX2_fallFrom, Cond.selects RX2 yX2_fallFrom yX2_fallFrom, Cond.code yX2_fallFrom cX2_fallFrom 9 (some .int), Cond.methodLink RX2 56 Lib.Math.min.name, Cond.static Lib.Math.min.name, Cond.initialized "java/lang/Math", Cond.code Lib.Math.min.name Lib.Math.min.code 2 (some .int), Cond.methodLink RX2 25 yX2_allIn, Cond.instanceMethod yX2_allIn, Cond.selects RX2 yX2_allIn yX2_allIn, Cond.code yX2_allIn cX2_allIn 4 (some .int), Cond.methodLink RX2 21 yX2_many, Cond.instanceMethod yX2_many, Cond.selects RX2 yX2_many yX2_many, Cond.code yX2_many cX2_many 3 (some .int), Cond.fieldLink RX2 9 "SettlingJars$Jar" "grains" "[I", Cond.methodLink RX2 44 yX3_factorOf, Cond.instanceMethod yX3_factorOf]
def wsX2_goOn_r2 : List Cond := [Cond.selects RX3 yX3_factorOf yX3_factorOf, Cond.initialized RX3, Cond.code yX3_factorOf cX3_factorOf 2 (some .int), Cond.constant RX3 24 (1000000), Cond.fieldLink RX3 9 "SettlingJars$Settings" "values" "[I", Cond.methodLink RX3 25 Lib.Math.max.name, Cond.static Lib.Math.max.name, Cond.code Lib.Math.max.name Lib.Math.max.code 2 (some .int), Cond.methodLink RX2 49 yX3_roomOver, Cond.instanceMethod yX3_roomOver, Cond.selects RX3 yX3_roomOver yX3_roomOver, Cond.code yX3_roomOver cX3_roomOver 2 (some .int), Cond.methodLink RX2 52 yX3_wantingToFall, Cond.instanceMethod yX3_wantingToFall, Cond.selects RX3 yX3_wantingToFall yX3_wantingToFall, Cond.code yX3_wantingToFall cX3_wantingToFall 5 (some .int), Cond.fieldLink RX3 15 "SettlingJars$Settings" "speeds" "[I", Cond.constant RX3 31 (100000), Cond.methodLink RX3 32 Lib.Math.min.name, Cond.methodLink RX2 32 yX2_put, Cond.instanceMethod yX2_put, Cond.selects RX2 yX2_put yX2_put, Cond.code yX2_put cX2_put 4 none]
def wsX2_goOn : List Cond := .code yX2_goOn cX2_goOn 6 (some .int) :: ((wsX2_goOn_r1 ++ wsX2_goOn_r2) ++ wsX20 ++ wsX30)
def wsX2_reasonToStay_r1 : List Cond := [Cond.methodLink RX2 21 yX2_many, Cond.instanceMethod yX2_many, Cond.selects RX2 yX2_many yX2_many, Cond.initialized RX2, Cond.code yX2_many cX2_many 3 (some .int), Cond.fieldLink RX2 9 "SettlingJars$Jar" "grains" "[I", Cond.methodLink RX2 25 yX2_allIn, Cond.instanceMethod yX2_allIn, Cond.selects RX2 yX2_allIn yX2_allIn, Cond.code yX2_allIn cX2_allIn 4 (some .int), Cond.methodLink RX2 49 yX3_roomOver, Cond.instanceMethod yX3_roomOver, Cond.selects RX3 yX3_roomOver yX3_roomOver, Cond.initialized RX3, Cond.code yX3_roomOver cX3_roomOver 2 (some .int), Cond.fieldLink RX3 9 "SettlingJars$Settings" "values" "[I", Cond.methodLink RX3 25 Lib.Math.max.name, Cond.static Lib.Math.max.name, Cond.initialized "java/lang/Math", Cond.code Lib.Math.max.name Lib.Math.max.code 2 (some .int), Cond.methodLink RX2 44 yX3_factorOf, Cond.instanceMethod yX3_factorOf, Cond.selects RX3 yX3_factorOf yX3_factorOf, Cond.code yX3_factorOf cX3_factorOf 2 (some .int)]
def wsX2_reasonToStay_r2 : List Cond := [Cond.constant RX3 24 (1000000), Cond.methodLink RX2 52 yX3_wantingToFall, Cond.instanceMethod yX3_wantingToFall, Cond.selects RX3 yX3_wantingToFall yX3_wantingToFall, Cond.code yX3_wantingToFall cX3_wantingToFall 5 (some .int), Cond.fieldLink RX3 15 "SettlingJars$Settings" "speeds" "[I", Cond.constant RX3 31 (100000), Cond.methodLink RX3 32 Lib.Math.min.name, Cond.static Lib.Math.min.name, Cond.code Lib.Math.min.name Lib.Math.min.code 2 (some .int)]
def wsX2_reasonToStay : List Cond := .code yX2_reasonToStay cX2_reasonToStay 6 (some .int) :: ((wsX2_reasonToStay_r1 ++ wsX2_reasonToStay_r2) ++ wsX20 ++ wsX30)
def wsX2_isAtRest_r1 : List Cond := [Cond.methodLink RX2 61 yX2_reasonToStay, Cond.instanceMethod yX2_reasonToStay, Cond.selects RX2 yX2_reasonToStay yX2_reasonToStay, Cond.initialized RX2, Cond.code yX2_reasonToStay cX2_reasonToStay 6 (some .int), Cond.methodLink RX2 21 yX2_many, Cond.instanceMethod yX2_many, Cond.selects RX2 yX2_many yX2_many, Cond.code yX2_many cX2_many 3 (some .int), Cond.fieldLink RX2 9 "SettlingJars$Jar" "grains" "[I", Cond.methodLink RX2 25 yX2_allIn, Cond.instanceMethod yX2_allIn, Cond.selects RX2 yX2_allIn yX2_allIn, Cond.code yX2_allIn cX2_allIn 4 (some .int), Cond.methodLink RX2 49 yX3_roomOver, Cond.instanceMethod yX3_roomOver, Cond.selects RX3 yX3_roomOver yX3_roomOver, Cond.initialized RX3, Cond.code yX3_roomOver cX3_roomOver 2 (some .int), Cond.fieldLink RX3 9 "SettlingJars$Settings" "values" "[I", Cond.methodLink RX3 25 Lib.Math.max.name, Cond.static Lib.Math.max.name, Cond.initialized "java/lang/Math", Cond.code Lib.Math.max.name Lib.Math.max.code 2 (some .int)]
def wsX2_isAtRest_r2 : List Cond := [Cond.methodLink RX2 44 yX3_factorOf, Cond.instanceMethod yX3_factorOf, Cond.selects RX3 yX3_factorOf yX3_factorOf, Cond.code yX3_factorOf cX3_factorOf 2 (some .int), Cond.constant RX3 24 (1000000), Cond.methodLink RX2 52 yX3_wantingToFall, Cond.instanceMethod yX3_wantingToFall, Cond.selects RX3 yX3_wantingToFall yX3_wantingToFall, Cond.code yX3_wantingToFall cX3_wantingToFall 5 (some .int), Cond.fieldLink RX3 15 "SettlingJars$Settings" "speeds" "[I", Cond.constant RX3 31 (100000), Cond.methodLink RX3 32 Lib.Math.min.name, Cond.static Lib.Math.min.name, Cond.code Lib.Math.min.name Lib.Math.min.code 2 (some .int)]
def wsX2_isAtRest : List Cond := .code yX2_isAtRest cX2_isAtRest 4 (some .boolean) :: ((wsX2_isAtRest_r1 ++ wsX2_isAtRest_r2) ++ wsX20 ++ wsX30)
def wsX3_isPacked : List Cond := .code yX3_isPacked cX3_isPacked 2 (some .boolean) :: ([.fieldLink RX3 9 "SettlingJars$Settings" "values" "[I"] ++ wsX30)
def wsX3_isClear : List Cond := .code yX3_isClear cX3_isClear 2 (some .boolean) :: ([.fieldLink RX3 9 "SettlingJars$Settings" "values" "[I"] ++ wsX30)
def wsX2_leadingClass : List Cond := .code yX2_leadingClass cX2_leadingClass 5 (some .int) :: ([.methodLink RX2 21 yX2_many, .instanceMethod yX2_many, .selects RX2 yX2_many yX2_many, .initialized RX2, .code yX2_many cX2_many 3 (some .int), .fieldLink RX2 9 "SettlingJars$Jar" "grains" "[I"] ++ wsX20)
def wsX2_sliceProperty_r1 : List Cond := [Cond.methodLink RX2 25 yX2_allIn, Cond.instanceMethod yX2_allIn, Cond.selects RX2 yX2_allIn yX2_allIn, Cond.initialized RX2, Cond.code yX2_allIn cX2_allIn 4 (some .int), Cond.methodLink RX2 21 yX2_many, Cond.instanceMethod yX2_many, Cond.selects RX2 yX2_many yX2_many, Cond.code yX2_many cX2_many 3 (some .int), Cond.fieldLink RX2 9 "SettlingJars$Jar" "grains" "[I", Cond.methodLink RX2 65 yX3_isPacked, Cond.instanceMethod yX3_isPacked, Cond.selects RX3 yX3_isPacked yX3_isPacked, Cond.initialized RX3, Cond.code yX3_isPacked cX3_isPacked 2 (some .boolean), Cond.fieldLink RX3 9 "SettlingJars$Settings" "values" "[I", Cond.methodLink RX2 69 yX3_isClear, Cond.instanceMethod yX3_isClear, Cond.selects RX3 yX3_isClear yX3_isClear, Cond.code yX3_isClear cX3_isClear 2 (some .boolean), Cond.methodLink RX2 72 yX2_leadingClass, Cond.instanceMethod yX2_leadingClass, Cond.selects RX2 yX2_leadingClass yX2_leadingClass, Cond.code yX2_leadingClass cX2_leadingClass 5 (some .int)]
def wsX2_sliceProperty_r2 : List Cond := [Cond.methodLink RX2 44 yX3_factorOf, Cond.instanceMethod yX3_factorOf, Cond.selects RX3 yX3_factorOf yX3_factorOf, Cond.code yX3_factorOf cX3_factorOf 2 (some .int), Cond.constant RX3 24 (1000000), Cond.methodLink RX3 25 Lib.Math.max.name, Cond.static Lib.Math.max.name, Cond.initialized "java/lang/Math", Cond.code Lib.Math.max.name Lib.Math.max.code 2 (some .int), Cond.methodLink RX2 49 yX3_roomOver, Cond.instanceMethod yX3_roomOver, Cond.selects RX3 yX3_roomOver yX3_roomOver, Cond.code yX3_roomOver cX3_roomOver 2 (some .int)]
def wsX2_sliceProperty : List Cond := .code yX2_sliceProperty cX2_sliceProperty 4 (some .int) :: ((wsX2_sliceProperty_r1 ++ wsX2_sliceProperty_r2) ++ wsX20 ++ wsX30)
def wsX2_bedSlices : List Cond := .code yX2_bedSlices cX2_bedSlices 3 (some .int) :: ([.methodLink RX2 25 yX2_allIn, .instanceMethod yX2_allIn, .selects RX2 yX2_allIn yX2_allIn, .initialized RX2, .code yX2_allIn cX2_allIn 4 (some .int), .methodLink RX2 21 yX2_many, .instanceMethod yX2_many, .selects RX2 yX2_many yX2_many, .code yX2_many cX2_many 3 (some .int), .fieldLink RX2 9 "SettlingJars$Jar" "grains" "[I", .methodLink RX2 65 yX3_isPacked, .instanceMethod yX3_isPacked, .selects RX3 yX3_isPacked yX3_isPacked, .initialized RX3, .code yX3_isPacked cX3_isPacked 2 (some .boolean), .fieldLink RX3 9 "SettlingJars$Settings" "values" "[I"] ++ wsX20 ++ wsX30)
def wsX2_clearWater : List Cond := .code yX2_clearWater cX2_clearWater 3 (some .int) :: ([.methodLink RX2 25 yX2_allIn, .instanceMethod yX2_allIn, .selects RX2 yX2_allIn yX2_allIn, .initialized RX2, .code yX2_allIn cX2_allIn 4 (some .int), .methodLink RX2 21 yX2_many, .instanceMethod yX2_many, .selects RX2 yX2_many yX2_many, .code yX2_many cX2_many 3 (some .int), .fieldLink RX2 9 "SettlingJars$Jar" "grains" "[I", .methodLink RX2 69 yX3_isClear, .instanceMethod yX3_isClear, .selects RX3 yX3_isClear yX3_isClear, .initialized RX3, .code yX3_isClear cX3_isClear 2 (some .boolean), .fieldLink RX3 9 "SettlingJars$Settings" "values" "[I"] ++ wsX20 ++ wsX30)
def wsX2_changesOfLeader : List Cond := .code yX2_changesOfLeader cX2_changesOfLeader 5 (some .int) :: ([.methodLink RX2 72 yX2_leadingClass, .instanceMethod yX2_leadingClass, .selects RX2 yX2_leadingClass yX2_leadingClass, .initialized RX2, .code yX2_leadingClass cX2_leadingClass 5 (some .int), .methodLink RX2 21 yX2_many, .instanceMethod yX2_many, .selects RX2 yX2_many yX2_many, .code yX2_many cX2_many 3 (some .int), .fieldLink RX2 9 "SettlingJars$Jar" "grains" "[I"] ++ wsX20)
def wsX2_property_r1 : List Cond := [Cond.methodLink RX2 75 yX2_all, Cond.instanceMethod yX2_all, Cond.selects RX2 yX2_all yX2_all, Cond.initialized RX2, Cond.code yX2_all cX2_all 1 (some .int), Cond.methodLink RX2 29 yX2_allDownTo, Cond.instanceMethod yX2_allDownTo, Cond.selects RX2 yX2_allDownTo yX2_allDownTo, Cond.code yX2_allDownTo cX2_allDownTo 4 (some .int), Cond.methodLink RX2 25 yX2_allIn, Cond.instanceMethod yX2_allIn, Cond.selects RX2 yX2_allIn yX2_allIn, Cond.code yX2_allIn cX2_allIn 4 (some .int), Cond.methodLink RX2 21 yX2_many, Cond.instanceMethod yX2_many, Cond.selects RX2 yX2_many yX2_many, Cond.code yX2_many cX2_many 3 (some .int), Cond.fieldLink RX2 9 "SettlingJars$Jar" "grains" "[I", Cond.methodLink RX2 79 yX2_bedSlices, Cond.instanceMethod yX2_bedSlices, Cond.selects RX2 yX2_bedSlices yX2_bedSlices, Cond.code yX2_bedSlices cX2_bedSlices 3 (some .int), Cond.methodLink RX2 65 yX3_isPacked, Cond.instanceMethod yX3_isPacked]
def wsX2_property_r2 : List Cond := [Cond.selects RX3 yX3_isPacked yX3_isPacked, Cond.initialized RX3, Cond.code yX3_isPacked cX3_isPacked 2 (some .boolean), Cond.fieldLink RX3 9 "SettlingJars$Settings" "values" "[I", Cond.methodLink RX2 82 yX2_clearWater, Cond.instanceMethod yX2_clearWater, Cond.selects RX2 yX2_clearWater yX2_clearWater, Cond.code yX2_clearWater cX2_clearWater 3 (some .int), Cond.methodLink RX2 69 yX3_isClear, Cond.instanceMethod yX3_isClear, Cond.selects RX3 yX3_isClear yX3_isClear, Cond.code yX3_isClear cX3_isClear 2 (some .boolean), Cond.methodLink RX2 85 yX2_changesOfLeader, Cond.instanceMethod yX2_changesOfLeader, Cond.selects RX2 yX2_changesOfLeader yX2_changesOfLeader, Cond.code yX2_changesOfLeader cX2_changesOfLeader 5 (some .int), Cond.methodLink RX2 72 yX2_leadingClass, Cond.instanceMethod yX2_leadingClass, Cond.selects RX2 yX2_leadingClass yX2_leadingClass, Cond.code yX2_leadingClass cX2_leadingClass 5 (some .int), Cond.methodLink RX2 88 yX2_isAtRest, Cond.instanceMethod yX2_isAtRest, Cond.selects RX2 yX2_isAtRest yX2_isAtRest, Cond.code yX2_isAtRest cX2_isAtRest 4 (some .boolean)]
def wsX2_property_r3 : List Cond := [Cond.methodLink RX2 61 yX2_reasonToStay, Cond.instanceMethod yX2_reasonToStay, Cond.selects RX2 yX2_reasonToStay yX2_reasonToStay, Cond.code yX2_reasonToStay cX2_reasonToStay 6 (some .int), Cond.methodLink RX2 49 yX3_roomOver, Cond.instanceMethod yX3_roomOver, Cond.selects RX3 yX3_roomOver yX3_roomOver, Cond.code yX3_roomOver cX3_roomOver 2 (some .int), Cond.methodLink RX3 25 Lib.Math.max.name, Cond.static Lib.Math.max.name, Cond.initialized "java/lang/Math", Cond.code Lib.Math.max.name Lib.Math.max.code 2 (some .int), Cond.methodLink RX2 44 yX3_factorOf, Cond.instanceMethod yX3_factorOf, Cond.selects RX3 yX3_factorOf yX3_factorOf, Cond.code yX3_factorOf cX3_factorOf 2 (some .int), Cond.constant RX3 24 (1000000), Cond.methodLink RX2 52 yX3_wantingToFall, Cond.instanceMethod yX3_wantingToFall, Cond.selects RX3 yX3_wantingToFall yX3_wantingToFall, Cond.code yX3_wantingToFall cX3_wantingToFall 5 (some .int), Cond.fieldLink RX3 15 "SettlingJars$Settings" "speeds" "[I", Cond.constant RX3 31 (100000), Cond.methodLink RX3 32 Lib.Math.min.name]
def wsX2_property_r4 : List Cond := [Cond.static Lib.Math.min.name, Cond.code Lib.Math.min.name Lib.Math.min.code 2 (some .int), Cond.methodLink RX2 92 yX2_allOf, Cond.instanceMethod yX2_allOf, Cond.selects RX2 yX2_allOf yX2_allOf, Cond.code yX2_allOf cX2_allOf 4 (some .int)]
def wsX2_property : List Cond := .code yX2_property cX2_property 3 (some .int) :: ((wsX2_property_r1 ++ (wsX2_property_r2 ++ (wsX2_property_r3 ++ wsX2_property_r4))) ++ wsX20 ++ wsX30)
def wsX2_packedSlices : List Cond := .code yX2_packedSlices cX2_packedSlices 4 (some .int) :: ([.methodLink RX2 25 yX2_allIn, .instanceMethod yX2_allIn, .selects RX2 yX2_allIn yX2_allIn, .initialized RX2, .code yX2_allIn cX2_allIn 4 (some .int), .methodLink RX2 21 yX2_many, .instanceMethod yX2_many, .selects RX2 yX2_many yX2_many, .code yX2_many cX2_many 3 (some .int), .fieldLink RX2 9 "SettlingJars$Jar" "grains" "[I", .methodLink RX2 65 yX3_isPacked, .instanceMethod yX3_isPacked, .selects RX3 yX3_isPacked yX3_isPacked, .initialized RX3, .code yX3_isPacked cX3_isPacked 2 (some .boolean), .fieldLink RX3 9 "SettlingJars$Settings" "values" "[I"] ++ wsX20 ++ wsX30)
def wsX2_clearSlices : List Cond := .code yX2_clearSlices cX2_clearSlices 4 (some .int) :: ([.methodLink RX2 25 yX2_allIn, .instanceMethod yX2_allIn, .selects RX2 yX2_allIn yX2_allIn, .initialized RX2, .code yX2_allIn cX2_allIn 4 (some .int), .methodLink RX2 21 yX2_many, .instanceMethod yX2_many, .selects RX2 yX2_many yX2_many, .code yX2_many cX2_many 3 (some .int), .fieldLink RX2 9 "SettlingJars$Jar" "grains" "[I", .methodLink RX2 69 yX3_isClear, .instanceMethod yX3_isClear, .selects RX3 yX3_isClear yX3_isClear, .initialized RX3, .code yX3_isClear cX3_isClear 2 (some .boolean), .fieldLink RX3 9 "SettlingJars$Settings" "values" "[I"] ++ wsX20 ++ wsX30)
def wsX2_purestSlice : List Cond := .code yX2_purestSlice cX2_purestSlice 8 (some .int) :: ([.methodLink RX2 21 yX2_many, .instanceMethod yX2_many, .selects RX2 yX2_many yX2_many, .initialized RX2, .code yX2_many cX2_many 3 (some .int), .fieldLink RX2 9 "SettlingJars$Jar" "grains" "[I", .methodLink RX2 25 yX2_allIn, .instanceMethod yX2_allIn, .selects RX2 yX2_allIn yX2_allIn, .code yX2_allIn cX2_allIn 4 (some .int)] ++ wsX20)
def wsX4_all : List Cond := .code yX4_all cX4_all 3 (some .int) :: ([.fieldLink RX4 20 "SettlingJars$State" "jars" "[LSettlingJars$Jar;", .methodLink RX4 52 yX2_all, .instanceMethod yX2_all, .selects RX2 yX2_all yX2_all, .initialized RX2, .code yX2_all cX2_all 1 (some .int), .methodLink RX2 29 yX2_allDownTo, .instanceMethod yX2_allDownTo, .selects RX2 yX2_allDownTo yX2_allDownTo, .code yX2_allDownTo cX2_allDownTo 4 (some .int), .methodLink RX2 25 yX2_allIn, .instanceMethod yX2_allIn, .selects RX2 yX2_allIn yX2_allIn, .code yX2_allIn cX2_allIn 4 (some .int), .methodLink RX2 21 yX2_many, .instanceMethod yX2_many, .selects RX2 yX2_many yX2_many, .code yX2_many cX2_many 3 (some .int), .fieldLink RX2 9 "SettlingJars$Jar" "grains" "[I"] ++ wsX40 ++ wsX20)
def wsX4_allOf : List Cond := .code yX4_allOf cX4_allOf 4 (some .int) :: ([.fieldLink RX4 20 "SettlingJars$State" "jars" "[LSettlingJars$Jar;", .methodLink RX4 56 yX2_allOf, .instanceMethod yX2_allOf, .selects RX2 yX2_allOf yX2_allOf, .initialized RX2, .code yX2_allOf cX2_allOf 4 (some .int), .methodLink RX2 21 yX2_many, .instanceMethod yX2_many, .selects RX2 yX2_many yX2_many, .code yX2_many cX2_many 3 (some .int), .fieldLink RX2 9 "SettlingJars$Jar" "grains" "[I"] ++ wsX40 ++ wsX20)
def wsX4_packedSlices : List Cond := .code yX4_packedSlices cX4_packedSlices 3 (some .int) :: ([.fieldLink RX4 20 "SettlingJars$State" "jars" "[LSettlingJars$Jar;", .fieldLink RX4 12 "SettlingJars$State" "settings" "LSettlingJars$Settings;", .methodLink RX4 60 yX2_packedSlices, .instanceMethod yX2_packedSlices, .selects RX2 yX2_packedSlices yX2_packedSlices, .initialized RX2, .code yX2_packedSlices cX2_packedSlices 4 (some .int), .methodLink RX2 25 yX2_allIn, .instanceMethod yX2_allIn, .selects RX2 yX2_allIn yX2_allIn, .code yX2_allIn cX2_allIn 4 (some .int), .methodLink RX2 21 yX2_many, .instanceMethod yX2_many, .selects RX2 yX2_many yX2_many, .code yX2_many cX2_many 3 (some .int), .fieldLink RX2 9 "SettlingJars$Jar" "grains" "[I", .methodLink RX2 65 yX3_isPacked, .instanceMethod yX3_isPacked, .selects RX3 yX3_isPacked yX3_isPacked, .initialized RX3, .code yX3_isPacked cX3_isPacked 2 (some .boolean), .fieldLink RX3 9 "SettlingJars$Settings" "values" "[I"] ++ wsX40 ++ wsX20 ++ wsX30)
def wsX4_clearSlices : List Cond := .code yX4_clearSlices cX4_clearSlices 3 (some .int) :: ([.fieldLink RX4 20 "SettlingJars$State" "jars" "[LSettlingJars$Jar;", .fieldLink RX4 12 "SettlingJars$State" "settings" "LSettlingJars$Settings;", .methodLink RX4 64 yX2_clearSlices, .instanceMethod yX2_clearSlices, .selects RX2 yX2_clearSlices yX2_clearSlices, .initialized RX2, .code yX2_clearSlices cX2_clearSlices 4 (some .int), .methodLink RX2 25 yX2_allIn, .instanceMethod yX2_allIn, .selects RX2 yX2_allIn yX2_allIn, .code yX2_allIn cX2_allIn 4 (some .int), .methodLink RX2 21 yX2_many, .instanceMethod yX2_many, .selects RX2 yX2_many yX2_many, .code yX2_many cX2_many 3 (some .int), .fieldLink RX2 9 "SettlingJars$Jar" "grains" "[I", .methodLink RX2 69 yX3_isClear, .instanceMethod yX3_isClear, .selects RX3 yX3_isClear yX3_isClear, .initialized RX3, .code yX3_isClear cX3_isClear 2 (some .boolean), .fieldLink RX3 9 "SettlingJars$Settings" "values" "[I"] ++ wsX40 ++ wsX20 ++ wsX30)
def wsX5_init_r1 : List Cond := [Cond.methodLink RX5 3 objectInit, Cond.instanceMethod objectInit, Cond.code objectInit ⟨#[0xb1]⟩ 1 none, Cond.classLink RX5 9 RX4, Cond.instantiable RX4 6, Cond.initialized RX4, Cond.fieldLink RX5 12 "SettlingJars" "now" "LSettlingJars$State;", Cond.classLink RX5 16 RX1, Cond.instantiable RX1 3, Cond.initialized RX1, Cond.fieldLink RX5 19 "SettlingJars" "history" "LSettlingJars$History;", Cond.classLink RX5 23 RX0, Cond.instantiable RX0 2, Cond.initialized RX0, Cond.fieldLink RX5 26 "SettlingJars" "charge" "LSettlingJars$Charge;", Cond.classLink RX5 30 RX2, Cond.instantiable RX2 1, Cond.initialized RX2, Cond.fieldLink RX5 33 "SettlingJars" "spare" "LSettlingJars$Jar;", Cond.methodLink RX5 11 yX4_init, Cond.instanceMethod yX4_init, Cond.code yX4_init cX4_init 2 none, Cond.methodLink RX4 3 objectInit, Cond.classLink RX4 9 RX3]
def wsX5_init_r2 : List Cond := [Cond.instantiable RX3 2, Cond.initialized RX3, Cond.fieldLink RX4 12 "SettlingJars$State" "settings" "LSettlingJars$Settings;", Cond.classLink RX4 18 RX2, Cond.fieldLink RX4 20 "SettlingJars$State" "jars" "[LSettlingJars$Jar;", Cond.arrayClass .int, Cond.fieldLink RX4 24 "SettlingJars$State" "poured" "[I", Cond.fieldLink RX4 28 "SettlingJars$State" "drawn" "[I", Cond.instanceMethod yX3_init, Cond.code yX3_init cX3_init 1 none, Cond.methodLink RX3 3 objectInit, Cond.fieldLink RX3 9 "SettlingJars$Settings" "values" "[I", Cond.fieldLink RX3 15 "SettlingJars$Settings" "speeds" "[I", Cond.instanceMethod yX2_init, Cond.code yX2_init cX2_init 1 none, Cond.methodLink RX2 3 objectInit, Cond.fieldLink RX2 9 "SettlingJars$Jar" "grains" "[I", Cond.methodLink RX5 18 yX1_init, Cond.instanceMethod yX1_init, Cond.code yX1_init cX1_init 2 none, Cond.methodLink RX1 1 objectInit, Cond.classLink RX1 9 RX4, Cond.fieldLink RX1 11 "SettlingJars$History" "saved" "[LSettlingJars$State;", Cond.methodLink RX1 15 yX4_init]
def wsX5_init_r3 : List Cond := [Cond.instanceMethod yX0_init, Cond.code yX0_init cX0_init 1 none, Cond.methodLink RX0 3 objectInit, Cond.arrayClass .char, Cond.fieldLink RX0 11 "SettlingJars$Charge" "signs" "[C"]
def wsX5_init : List Cond := .code yX5_init cX5_init 1 none :: ((wsX5_init_r1 ++ (wsX5_init_r2 ++ wsX5_init_r3)) ++ wsX40 ++ wsX50 ++ wsX10 ++ wsX00 ++ wsX20 ++ wsX30)
def wsX5_needIndex : List Cond := .code yX5_needIndex cX5_needIndex 2 none :: ([.classLink RX5 253 "java/lang/IndexOutOfBoundsException", .initialized "java/lang/IndexOutOfBoundsException"] ++ (vx_atS RX5 257 "java/lang/IndexOutOfBoundsException" ["java/lang/RuntimeException", "java/lang/Exception"]).filter goodWord)
def wsX5_needRange : List Cond := .code yX5_needRange cX5_needRange 3 none :: ([.classLink RX5 100 "java/lang/IllegalArgumentException", .initialized "java/lang/IllegalArgumentException"] ++ (vx_atS RX5 104 "java/lang/IllegalArgumentException" ["java/lang/RuntimeException", "java/lang/Exception"]).filter goodWord)
def wsX5_set_r1 : List Cond := [Cond.fieldLink RX5 41 "SettlingJars$Settings" "LEAST" "[I", Cond.fieldLink RX5 47 "SettlingJars$Settings" "GREATEST" "[I", Cond.fieldLink RX5 19 "SettlingJars" "history" "LSettlingJars$History;", Cond.fieldLink RX5 12 "SettlingJars" "now" "LSettlingJars$State;", Cond.fieldLink RX5 58 "SettlingJars$State" "settings" "LSettlingJars$Settings;", Cond.fieldLink RX5 62 "SettlingJars$Settings" "values" "[I", Cond.methodLink RX5 37 yX5_needIndex, Cond.static yX5_needIndex, Cond.initialized RX5, Cond.code yX5_needIndex cX5_needIndex 2 none, Cond.classLink RX5 253 "java/lang/IndexOutOfBoundsException", Cond.initialized "java/lang/IndexOutOfBoundsException", Cond.methodLink RX5 50 yX5_needRange, Cond.static yX5_needRange, Cond.code yX5_needRange cX5_needRange 3 none, Cond.classLink RX5 100 "java/lang/IllegalArgumentException", Cond.initialized "java/lang/IllegalArgumentException", Cond.methodLink RX5 54 yX1_keep, Cond.instanceMethod yX1_keep, Cond.selects RX1 yX1_keep yX1_keep, Cond.initialized RX1, Cond.code yX1_keep cX1_keep 2 none, Cond.fieldLink RX1 11 "SettlingJars$History" "saved" "[LSettlingJars$State;", Cond.fieldLink RX1 20 "SettlingJars$History" "oldest" "I"]
def wsX5_set_r2 : List Cond := [Cond.fieldLink RX1 16 "SettlingJars$History" "size" "I", Cond.methodLink RX1 23 yX4_copyFrom, Cond.instanceMethod yX4_copyFrom, Cond.selects RX4 yX4_copyFrom yX4_copyFrom, Cond.initialized RX4, Cond.code yX4_copyFrom cX4_copyFrom 3 none, Cond.fieldLink RX4 12 "SettlingJars$State" "settings" "LSettlingJars$Settings;", Cond.fieldLink RX4 20 "SettlingJars$State" "jars" "[LSettlingJars$Jar;", Cond.fieldLink RX4 24 "SettlingJars$State" "poured" "[I", Cond.methodLink RX4 39 arraycopyName, Cond.native arraycopyName, Cond.static arraycopyName, Cond.initialized "java/lang/System", Cond.fieldLink RX4 28 "SettlingJars$State" "drawn" "[I", Cond.fieldLink RX4 45 "SettlingJars$State" "steps" "I", Cond.fieldLink RX4 49 "SettlingJars$State" "fallen" "I", Cond.methodLink RX4 32 yX3_copyFrom, Cond.instanceMethod yX3_copyFrom, Cond.selects RX3 yX3_copyFrom yX3_copyFrom, Cond.initialized RX3, Cond.code yX3_copyFrom cX3_copyFrom 2 none, Cond.fieldLink RX3 9 "SettlingJars$Settings" "values" "[I", Cond.methodLink RX3 18 arraycopyName, Cond.fieldLink RX3 15 "SettlingJars$Settings" "speeds" "[I"]
def wsX5_set_r3 : List Cond := [Cond.methodLink RX4 36 yX2_copyFrom, Cond.instanceMethod yX2_copyFrom, Cond.selects RX2 yX2_copyFrom yX2_copyFrom, Cond.initialized RX2, Cond.code yX2_copyFrom cX2_copyFrom 2 none, Cond.fieldLink RX2 9 "SettlingJars$Jar" "grains" "[I", Cond.methodLink RX2 15 arraycopyName]
def wsX5_set : List Cond := .code yX5_set cX5_set 4 (some .int) :: ((wsX5_set_r1 ++ (wsX5_set_r2 ++ wsX5_set_r3)) ++ wsX50 ++ wsX40 ++ wsX30 ++ wsX10 ++ wsX20 ++ (vx_atS RX5 257 "java/lang/IndexOutOfBoundsException" ["java/lang/RuntimeException", "java/lang/Exception"]).filter goodWord ++ (vx_atS RX5 104 "java/lang/IllegalArgumentException" ["java/lang/RuntimeException", "java/lang/Exception"]).filter goodWord)
def wsX5_setSpeed_r1 : List Cond := [Cond.fieldLink RX5 19 "SettlingJars" "history" "LSettlingJars$History;", Cond.fieldLink RX5 12 "SettlingJars" "now" "LSettlingJars$State;", Cond.fieldLink RX5 58 "SettlingJars$State" "settings" "LSettlingJars$Settings;", Cond.fieldLink RX5 65 "SettlingJars$Settings" "speeds" "[I", Cond.methodLink RX5 37 yX5_needIndex, Cond.static yX5_needIndex, Cond.initialized RX5, Cond.code yX5_needIndex cX5_needIndex 2 none, Cond.classLink RX5 253 "java/lang/IndexOutOfBoundsException", Cond.initialized "java/lang/IndexOutOfBoundsException", Cond.methodLink RX5 50 yX5_needRange, Cond.static yX5_needRange, Cond.code yX5_needRange cX5_needRange 3 none, Cond.classLink RX5 100 "java/lang/IllegalArgumentException", Cond.initialized "java/lang/IllegalArgumentException", Cond.methodLink RX5 54 yX1_keep, Cond.instanceMethod yX1_keep, Cond.selects RX1 yX1_keep yX1_keep, Cond.initialized RX1, Cond.code yX1_keep cX1_keep 2 none, Cond.fieldLink RX1 11 "SettlingJars$History" "saved" "[LSettlingJars$State;", Cond.fieldLink RX1 20 "SettlingJars$History" "oldest" "I", Cond.fieldLink RX1 16 "SettlingJars$History" "size" "I", Cond.methodLink RX1 23 yX4_copyFrom]
def wsX5_setSpeed_r2 : List Cond := [Cond.instanceMethod yX4_copyFrom, Cond.selects RX4 yX4_copyFrom yX4_copyFrom, Cond.initialized RX4, Cond.code yX4_copyFrom cX4_copyFrom 3 none, Cond.fieldLink RX4 12 "SettlingJars$State" "settings" "LSettlingJars$Settings;", Cond.fieldLink RX4 20 "SettlingJars$State" "jars" "[LSettlingJars$Jar;", Cond.fieldLink RX4 24 "SettlingJars$State" "poured" "[I", Cond.methodLink RX4 39 arraycopyName, Cond.native arraycopyName, Cond.static arraycopyName, Cond.initialized "java/lang/System", Cond.fieldLink RX4 28 "SettlingJars$State" "drawn" "[I", Cond.fieldLink RX4 45 "SettlingJars$State" "steps" "I", Cond.fieldLink RX4 49 "SettlingJars$State" "fallen" "I", Cond.methodLink RX4 32 yX3_copyFrom, Cond.instanceMethod yX3_copyFrom, Cond.selects RX3 yX3_copyFrom yX3_copyFrom, Cond.initialized RX3, Cond.code yX3_copyFrom cX3_copyFrom 2 none, Cond.fieldLink RX3 9 "SettlingJars$Settings" "values" "[I", Cond.methodLink RX3 18 arraycopyName, Cond.fieldLink RX3 15 "SettlingJars$Settings" "speeds" "[I", Cond.methodLink RX4 36 yX2_copyFrom, Cond.instanceMethod yX2_copyFrom]
def wsX5_setSpeed_r3 : List Cond := [Cond.selects RX2 yX2_copyFrom yX2_copyFrom, Cond.initialized RX2, Cond.code yX2_copyFrom cX2_copyFrom 2 none, Cond.fieldLink RX2 9 "SettlingJars$Jar" "grains" "[I", Cond.methodLink RX2 15 arraycopyName]
def wsX5_setSpeed : List Cond := .code yX5_setSpeed cX5_setSpeed 4 (some .int) :: ((wsX5_setSpeed_r1 ++ (wsX5_setSpeed_r2 ++ wsX5_setSpeed_r3)) ++ wsX50 ++ wsX40 ++ wsX30 ++ wsX10 ++ wsX20 ++ (vx_atS RX5 257 "java/lang/IndexOutOfBoundsException" ["java/lang/RuntimeException", "java/lang/Exception"]).filter goodWord ++ (vx_atS RX5 104 "java/lang/IllegalArgumentException" ["java/lang/RuntimeException", "java/lang/Exception"]).filter goodWord)
def wsX5_needSlice : List Cond := .code yX5_needSlice cX5_needSlice 2 none :: ([.methodLink RX5 37 yX5_needIndex, .static yX5_needIndex, .initialized RX5, .code yX5_needIndex cX5_needIndex 2 none, .classLink RX5 253 "java/lang/IndexOutOfBoundsException", .initialized "java/lang/IndexOutOfBoundsException"] ++ (vx_atS RX5 257 "java/lang/IndexOutOfBoundsException" ["java/lang/RuntimeException", "java/lang/Exception"]).filter goodWord)
def wsX5_needRoom : List Cond := .code yX5_needRoom cX5_needRoom 2 none :: ([.classLink RX5 124 "java/lang/IllegalStateException", .initialized "java/lang/IllegalStateException", .methodLink RX5 168 yX2_all, .instanceMethod yX2_all, .selects RX2 yX2_all yX2_all, .initialized RX2, .code yX2_all cX2_all 1 (some .int), .methodLink RX2 29 yX2_allDownTo, .instanceMethod yX2_allDownTo, .selects RX2 yX2_allDownTo yX2_allDownTo, .code yX2_allDownTo cX2_allDownTo 4 (some .int), .methodLink RX2 25 yX2_allIn, .instanceMethod yX2_allIn, .selects RX2 yX2_allIn yX2_allIn, .code yX2_allIn cX2_allIn 4 (some .int), .methodLink RX2 21 yX2_many, .instanceMethod yX2_many, .selects RX2 yX2_many yX2_many, .code yX2_many cX2_many 3 (some .int), .fieldLink RX2 9 "SettlingJars$Jar" "grains" "[I"] ++ wsX20 ++ (vx_atS RX5 128 "java/lang/IllegalStateException" ["java/lang/RuntimeException", "java/lang/Exception"]).filter goodWord)
def wsX5_pour_r1 : List Cond := [Cond.fieldLink RX5 12 "SettlingJars" "now" "LSettlingJars$State;", Cond.fieldLink RX5 71 "SettlingJars$State" "jars" "[LSettlingJars$Jar;", Cond.fieldLink RX5 19 "SettlingJars" "history" "LSettlingJars$History;", Cond.fieldLink RX5 82 "SettlingJars$State" "poured" "[I", Cond.methodLink RX5 68 yX5_needSlice, Cond.static yX5_needSlice, Cond.initialized RX5, Cond.code yX5_needSlice cX5_needSlice 2 none, Cond.methodLink RX5 37 yX5_needIndex, Cond.static yX5_needIndex, Cond.code yX5_needIndex cX5_needIndex 2 none, Cond.classLink RX5 253 "java/lang/IndexOutOfBoundsException", Cond.initialized "java/lang/IndexOutOfBoundsException", Cond.methodLink RX5 50 yX5_needRange, Cond.static yX5_needRange, Cond.code yX5_needRange cX5_needRange 3 none, Cond.classLink RX5 100 "java/lang/IllegalArgumentException", Cond.initialized "java/lang/IllegalArgumentException", Cond.methodLink RX5 75 yX5_needRoom, Cond.static yX5_needRoom, Cond.code yX5_needRoom cX5_needRoom 2 none, Cond.classLink RX5 124 "java/lang/IllegalStateException", Cond.initialized "java/lang/IllegalStateException", Cond.methodLink RX5 168 yX2_all]
def wsX5_pour_r2 : List Cond := [Cond.instanceMethod yX2_all, Cond.selects RX2 yX2_all yX2_all, Cond.initialized RX2, Cond.code yX2_all cX2_all 1 (some .int), Cond.methodLink RX2 29 yX2_allDownTo, Cond.instanceMethod yX2_allDownTo, Cond.selects RX2 yX2_allDownTo yX2_allDownTo, Cond.code yX2_allDownTo cX2_allDownTo 4 (some .int), Cond.methodLink RX2 25 yX2_allIn, Cond.instanceMethod yX2_allIn, Cond.selects RX2 yX2_allIn yX2_allIn, Cond.code yX2_allIn cX2_allIn 4 (some .int), Cond.methodLink RX2 21 yX2_many, Cond.instanceMethod yX2_many, Cond.selects RX2 yX2_many yX2_many, Cond.code yX2_many cX2_many 3 (some .int), Cond.fieldLink RX2 9 "SettlingJars$Jar" "grains" "[I", Cond.methodLink RX5 54 yX1_keep, Cond.instanceMethod yX1_keep, Cond.selects RX1 yX1_keep yX1_keep, Cond.initialized RX1, Cond.code yX1_keep cX1_keep 2 none, Cond.fieldLink RX1 11 "SettlingJars$History" "saved" "[LSettlingJars$State;", Cond.fieldLink RX1 20 "SettlingJars$History" "oldest" "I"]
def wsX5_pour_r3 : List Cond := [Cond.fieldLink RX1 16 "SettlingJars$History" "size" "I", Cond.methodLink RX1 23 yX4_copyFrom, Cond.instanceMethod yX4_copyFrom, Cond.selects RX4 yX4_copyFrom yX4_copyFrom, Cond.initialized RX4, Cond.code yX4_copyFrom cX4_copyFrom 3 none, Cond.fieldLink RX4 12 "SettlingJars$State" "settings" "LSettlingJars$Settings;", Cond.fieldLink RX4 20 "SettlingJars$State" "jars" "[LSettlingJars$Jar;", Cond.fieldLink RX4 24 "SettlingJars$State" "poured" "[I", Cond.methodLink RX4 39 arraycopyName, Cond.native arraycopyName, Cond.static arraycopyName, Cond.initialized "java/lang/System", Cond.fieldLink RX4 28 "SettlingJars$State" "drawn" "[I", Cond.fieldLink RX4 45 "SettlingJars$State" "steps" "I", Cond.fieldLink RX4 49 "SettlingJars$State" "fallen" "I", Cond.methodLink RX4 32 yX3_copyFrom, Cond.instanceMethod yX3_copyFrom, Cond.selects RX3 yX3_copyFrom yX3_copyFrom, Cond.initialized RX3, Cond.code yX3_copyFrom cX3_copyFrom 2 none, Cond.fieldLink RX3 9 "SettlingJars$Settings" "values" "[I", Cond.methodLink RX3 18 arraycopyName, Cond.fieldLink RX3 15 "SettlingJars$Settings" "speeds" "[I"]
def wsX5_pour_r4 : List Cond := [Cond.methodLink RX4 36 yX2_copyFrom, Cond.instanceMethod yX2_copyFrom, Cond.selects RX2 yX2_copyFrom yX2_copyFrom, Cond.code yX2_copyFrom cX2_copyFrom 2 none, Cond.methodLink RX2 15 arraycopyName, Cond.methodLink RX5 79 yX2_put, Cond.instanceMethod yX2_put, Cond.selects RX2 yX2_put yX2_put, Cond.code yX2_put cX2_put 4 none, Cond.methodLink RX5 85 yX2_allIn]
def wsX5_pour : List Cond := .code yX5_pour cX5_pour 6 (some .int) :: ((wsX5_pour_r1 ++ (wsX5_pour_r2 ++ (wsX5_pour_r3 ++ wsX5_pour_r4))) ++ wsX50 ++ wsX40 ++ wsX20 ++ wsX10 ++ wsX30 ++ (vx_atS RX5 257 "java/lang/IndexOutOfBoundsException" ["java/lang/RuntimeException", "java/lang/Exception"]).filter goodWord ++ (vx_atS RX5 104 "java/lang/IllegalArgumentException" ["java/lang/RuntimeException", "java/lang/Exception"]).filter goodWord ++ (vx_atS RX5 128 "java/lang/IllegalStateException" ["java/lang/RuntimeException", "java/lang/Exception"]).filter goodWord)
def wsX5_stir_r1 : List Cond := [Cond.fieldLink RX5 19 "SettlingJars" "history" "LSettlingJars$History;", Cond.fieldLink RX5 12 "SettlingJars" "now" "LSettlingJars$State;", Cond.fieldLink RX5 71 "SettlingJars$State" "jars" "[LSettlingJars$Jar;", Cond.methodLink RX5 68 yX5_needSlice, Cond.static yX5_needSlice, Cond.initialized RX5, Cond.code yX5_needSlice cX5_needSlice 2 none, Cond.methodLink RX5 37 yX5_needIndex, Cond.static yX5_needIndex, Cond.code yX5_needIndex cX5_needIndex 2 none, Cond.classLink RX5 253 "java/lang/IndexOutOfBoundsException", Cond.initialized "java/lang/IndexOutOfBoundsException", Cond.methodLink RX5 50 yX5_needRange, Cond.static yX5_needRange, Cond.code yX5_needRange cX5_needRange 3 none, Cond.classLink RX5 100 "java/lang/IllegalArgumentException", Cond.initialized "java/lang/IllegalArgumentException", Cond.methodLink RX5 54 yX1_keep, Cond.instanceMethod yX1_keep, Cond.selects RX1 yX1_keep yX1_keep, Cond.initialized RX1, Cond.code yX1_keep cX1_keep 2 none, Cond.fieldLink RX1 11 "SettlingJars$History" "saved" "[LSettlingJars$State;", Cond.fieldLink RX1 20 "SettlingJars$History" "oldest" "I"]
def wsX5_stir_r2 : List Cond := [Cond.fieldLink RX1 16 "SettlingJars$History" "size" "I", Cond.methodLink RX1 23 yX4_copyFrom, Cond.instanceMethod yX4_copyFrom, Cond.selects RX4 yX4_copyFrom yX4_copyFrom, Cond.initialized RX4, Cond.code yX4_copyFrom cX4_copyFrom 3 none, Cond.fieldLink RX4 12 "SettlingJars$State" "settings" "LSettlingJars$Settings;", Cond.fieldLink RX4 20 "SettlingJars$State" "jars" "[LSettlingJars$Jar;", Cond.fieldLink RX4 24 "SettlingJars$State" "poured" "[I", Cond.methodLink RX4 39 arraycopyName, Cond.native arraycopyName, Cond.static arraycopyName, Cond.initialized "java/lang/System", Cond.fieldLink RX4 28 "SettlingJars$State" "drawn" "[I", Cond.fieldLink RX4 45 "SettlingJars$State" "steps" "I", Cond.fieldLink RX4 49 "SettlingJars$State" "fallen" "I", Cond.methodLink RX4 32 yX3_copyFrom, Cond.instanceMethod yX3_copyFrom, Cond.selects RX3 yX3_copyFrom yX3_copyFrom, Cond.initialized RX3, Cond.code yX3_copyFrom cX3_copyFrom 2 none, Cond.fieldLink RX3 9 "SettlingJars$Settings" "values" "[I", Cond.methodLink RX3 18 arraycopyName, Cond.fieldLink RX3 15 "SettlingJars$Settings" "speeds" "[I"]
def wsX5_stir_r3 : List Cond := [Cond.methodLink RX4 36 yX2_copyFrom, Cond.instanceMethod yX2_copyFrom, Cond.selects RX2 yX2_copyFrom yX2_copyFrom, Cond.initialized RX2, Cond.code yX2_copyFrom cX2_copyFrom 2 none, Cond.fieldLink RX2 9 "SettlingJars$Jar" "grains" "[I", Cond.methodLink RX2 15 arraycopyName, Cond.methodLink RX5 89 yX2_spread, Cond.instanceMethod yX2_spread, Cond.selects RX2 yX2_spread yX2_spread, Cond.code yX2_spread cX2_spread 9 (some .int), Cond.methodLink RX2 21 yX2_many, Cond.instanceMethod yX2_many, Cond.selects RX2 yX2_many yX2_many, Cond.code yX2_many cX2_many 3 (some .int), Cond.methodLink RX2 32 yX2_put, Cond.instanceMethod yX2_put, Cond.selects RX2 yX2_put yX2_put, Cond.code yX2_put cX2_put 4 none]
def wsX5_stir : List Cond := .code yX5_stir cX5_stir 6 (some .int) :: ((wsX5_stir_r1 ++ (wsX5_stir_r2 ++ wsX5_stir_r3)) ++ wsX50 ++ wsX40 ++ wsX10 ++ wsX30 ++ wsX20 ++ (vx_atS RX5 257 "java/lang/IndexOutOfBoundsException" ["java/lang/RuntimeException", "java/lang/Exception"]).filter goodWord ++ (vx_atS RX5 104 "java/lang/IllegalArgumentException" ["java/lang/RuntimeException", "java/lang/Exception"]).filter goodWord)
def wsX5_draw_r1 : List Cond := [Cond.fieldLink RX5 19 "SettlingJars" "history" "LSettlingJars$History;", Cond.fieldLink RX5 12 "SettlingJars" "now" "LSettlingJars$State;", Cond.fieldLink RX5 71 "SettlingJars$State" "jars" "[LSettlingJars$Jar;", Cond.fieldLink RX5 97 "SettlingJars$State" "drawn" "[I", Cond.methodLink RX5 68 yX5_needSlice, Cond.static yX5_needSlice, Cond.initialized RX5, Cond.code yX5_needSlice cX5_needSlice 2 none, Cond.methodLink RX5 37 yX5_needIndex, Cond.static yX5_needIndex, Cond.code yX5_needIndex cX5_needIndex 2 none, Cond.classLink RX5 253 "java/lang/IndexOutOfBoundsException", Cond.initialized "java/lang/IndexOutOfBoundsException", Cond.methodLink RX5 50 yX5_needRange, Cond.static yX5_needRange, Cond.code yX5_needRange cX5_needRange 3 none, Cond.classLink RX5 100 "java/lang/IllegalArgumentException", Cond.initialized "java/lang/IllegalArgumentException", Cond.methodLink RX5 54 yX1_keep, Cond.instanceMethod yX1_keep, Cond.selects RX1 yX1_keep yX1_keep, Cond.initialized RX1, Cond.code yX1_keep cX1_keep 2 none, Cond.fieldLink RX1 11 "SettlingJars$History" "saved" "[LSettlingJars$State;"]
def wsX5_draw_r2 : List Cond := [Cond.fieldLink RX1 20 "SettlingJars$History" "oldest" "I", Cond.fieldLink RX1 16 "SettlingJars$History" "size" "I", Cond.methodLink RX1 23 yX4_copyFrom, Cond.instanceMethod yX4_copyFrom, Cond.selects RX4 yX4_copyFrom yX4_copyFrom, Cond.initialized RX4, Cond.code yX4_copyFrom cX4_copyFrom 3 none, Cond.fieldLink RX4 12 "SettlingJars$State" "settings" "LSettlingJars$Settings;", Cond.fieldLink RX4 20 "SettlingJars$State" "jars" "[LSettlingJars$Jar;", Cond.fieldLink RX4 24 "SettlingJars$State" "poured" "[I", Cond.methodLink RX4 39 arraycopyName, Cond.native arraycopyName, Cond.static arraycopyName, Cond.initialized "java/lang/System", Cond.fieldLink RX4 28 "SettlingJars$State" "drawn" "[I", Cond.fieldLink RX4 45 "SettlingJars$State" "steps" "I", Cond.fieldLink RX4 49 "SettlingJars$State" "fallen" "I", Cond.methodLink RX4 32 yX3_copyFrom, Cond.instanceMethod yX3_copyFrom, Cond.selects RX3 yX3_copyFrom yX3_copyFrom, Cond.initialized RX3, Cond.code yX3_copyFrom cX3_copyFrom 2 none, Cond.fieldLink RX3 9 "SettlingJars$Settings" "values" "[I", Cond.methodLink RX3 18 arraycopyName]
def wsX5_draw_r3 : List Cond := [Cond.fieldLink RX3 15 "SettlingJars$Settings" "speeds" "[I", Cond.methodLink RX4 36 yX2_copyFrom, Cond.instanceMethod yX2_copyFrom, Cond.selects RX2 yX2_copyFrom yX2_copyFrom, Cond.initialized RX2, Cond.code yX2_copyFrom cX2_copyFrom 2 none, Cond.fieldLink RX2 9 "SettlingJars$Jar" "grains" "[I", Cond.methodLink RX2 15 arraycopyName, Cond.methodLink RX5 93 yX2_many, Cond.instanceMethod yX2_many, Cond.selects RX2 yX2_many yX2_many, Cond.code yX2_many cX2_many 3 (some .int), Cond.methodLink RX5 79 yX2_put, Cond.instanceMethod yX2_put, Cond.selects RX2 yX2_put yX2_put, Cond.code yX2_put cX2_put 4 none]
def wsX5_draw : List Cond := .code yX5_draw cX5_draw 8 (some .int) :: ((wsX5_draw_r1 ++ (wsX5_draw_r2 ++ wsX5_draw_r3)) ++ wsX50 ++ wsX40 ++ wsX10 ++ wsX30 ++ wsX20 ++ (vx_atS RX5 257 "java/lang/IndexOutOfBoundsException" ["java/lang/RuntimeException", "java/lang/Exception"]).filter goodWord ++ (vx_atS RX5 104 "java/lang/IllegalArgumentException" ["java/lang/RuntimeException", "java/lang/Exception"]).filter goodWord)
def wsX5_decant_r1 : List Cond := [Cond.classLink RX5 100 "java/lang/IllegalArgumentException", Cond.initialized "java/lang/IllegalArgumentException", Cond.fieldLink RX5 12 "SettlingJars" "now" "LSettlingJars$State;", Cond.fieldLink RX5 71 "SettlingJars$State" "jars" "[LSettlingJars$Jar;", Cond.fieldLink RX5 19 "SettlingJars" "history" "LSettlingJars$History;", Cond.methodLink RX5 37 yX5_needIndex, Cond.static yX5_needIndex, Cond.initialized RX5, Cond.code yX5_needIndex cX5_needIndex 2 none, Cond.classLink RX5 253 "java/lang/IndexOutOfBoundsException", Cond.initialized "java/lang/IndexOutOfBoundsException", Cond.methodLink RX5 68 yX5_needSlice, Cond.static yX5_needSlice, Cond.code yX5_needSlice cX5_needSlice 2 none, Cond.methodLink RX5 107 yX2_allDownTo, Cond.instanceMethod yX2_allDownTo, Cond.selects RX2 yX2_allDownTo yX2_allDownTo, Cond.initialized RX2, Cond.code yX2_allDownTo cX2_allDownTo 4 (some .int), Cond.methodLink RX2 25 yX2_allIn, Cond.instanceMethod yX2_allIn, Cond.selects RX2 yX2_allIn yX2_allIn, Cond.code yX2_allIn cX2_allIn 4 (some .int), Cond.methodLink RX2 21 yX2_many]
def wsX5_decant_r2 : List Cond := [Cond.instanceMethod yX2_many, Cond.selects RX2 yX2_many yX2_many, Cond.code yX2_many cX2_many 3 (some .int), Cond.fieldLink RX2 9 "SettlingJars$Jar" "grains" "[I", Cond.methodLink RX5 75 yX5_needRoom, Cond.static yX5_needRoom, Cond.code yX5_needRoom cX5_needRoom 2 none, Cond.classLink RX5 124 "java/lang/IllegalStateException", Cond.initialized "java/lang/IllegalStateException", Cond.methodLink RX5 168 yX2_all, Cond.instanceMethod yX2_all, Cond.selects RX2 yX2_all yX2_all, Cond.code yX2_all cX2_all 1 (some .int), Cond.methodLink RX2 29 yX2_allDownTo, Cond.methodLink RX5 54 yX1_keep, Cond.instanceMethod yX1_keep, Cond.selects RX1 yX1_keep yX1_keep, Cond.initialized RX1, Cond.code yX1_keep cX1_keep 2 none, Cond.fieldLink RX1 11 "SettlingJars$History" "saved" "[LSettlingJars$State;", Cond.fieldLink RX1 20 "SettlingJars$History" "oldest" "I", Cond.fieldLink RX1 16 "SettlingJars$History" "size" "I", Cond.methodLink RX1 23 yX4_copyFrom, Cond.instanceMethod yX4_copyFrom]
def wsX5_decant_r3 : List Cond := [Cond.selects RX4 yX4_copyFrom yX4_copyFrom, Cond.initialized RX4, Cond.code yX4_copyFrom cX4_copyFrom 3 none, Cond.fieldLink RX4 12 "SettlingJars$State" "settings" "LSettlingJars$Settings;", Cond.fieldLink RX4 20 "SettlingJars$State" "jars" "[LSettlingJars$Jar;", Cond.fieldLink RX4 24 "SettlingJars$State" "poured" "[I", Cond.methodLink RX4 39 arraycopyName, Cond.native arraycopyName, Cond.static arraycopyName, Cond.initialized "java/lang/System", Cond.fieldLink RX4 28 "SettlingJars$State" "drawn" "[I", Cond.fieldLink RX4 45 "SettlingJars$State" "steps" "I", Cond.fieldLink RX4 49 "SettlingJars$State" "fallen" "I", Cond.methodLink RX4 32 yX3_copyFrom, Cond.instanceMethod yX3_copyFrom, Cond.selects RX3 yX3_copyFrom yX3_copyFrom, Cond.initialized RX3, Cond.code yX3_copyFrom cX3_copyFrom 2 none, Cond.fieldLink RX3 9 "SettlingJars$Settings" "values" "[I", Cond.methodLink RX3 18 arraycopyName, Cond.fieldLink RX3 15 "SettlingJars$Settings" "speeds" "[I", Cond.methodLink RX4 36 yX2_copyFrom, Cond.instanceMethod yX2_copyFrom, Cond.selects RX2 yX2_copyFrom yX2_copyFrom]
def wsX5_decant_r4 : List Cond := [Cond.code yX2_copyFrom cX2_copyFrom 2 none, Cond.methodLink RX2 15 arraycopyName, Cond.methodLink RX5 110 yX2_pourInto, Cond.instanceMethod yX2_pourInto, Cond.selects RX2 yX2_pourInto yX2_pourInto, Cond.code yX2_pourInto cX2_pourInto 6 none, Cond.methodLink RX2 32 yX2_put, Cond.instanceMethod yX2_put, Cond.selects RX2 yX2_put yX2_put, Cond.code yX2_put cX2_put 4 none]
def wsX5_decant : List Cond := .code yX5_decant cX5_decant 5 (some .int) :: ((wsX5_decant_r1 ++ (wsX5_decant_r2 ++ (wsX5_decant_r3 ++ wsX5_decant_r4))) ++ wsX50 ++ wsX40 ++ wsX20 ++ wsX10 ++ wsX30 ++ (vx_atS RX5 104 "java/lang/IllegalArgumentException" ["java/lang/RuntimeException", "java/lang/Exception"]).filter goodWord ++ (vx_atS RX5 257 "java/lang/IndexOutOfBoundsException" ["java/lang/RuntimeException", "java/lang/Exception"]).filter goodWord ++ (vx_atS RX5 128 "java/lang/IllegalStateException" ["java/lang/RuntimeException", "java/lang/Exception"]).filter goodWord)
def wsX5_turn_r1 : List Cond := [Cond.fieldLink RX5 19 "SettlingJars" "history" "LSettlingJars$History;", Cond.fieldLink RX5 12 "SettlingJars" "now" "LSettlingJars$State;", Cond.fieldLink RX5 71 "SettlingJars$State" "jars" "[LSettlingJars$Jar;", Cond.fieldLink RX5 58 "SettlingJars$State" "settings" "LSettlingJars$Settings;", Cond.methodLink RX5 37 yX5_needIndex, Cond.static yX5_needIndex, Cond.initialized RX5, Cond.code yX5_needIndex cX5_needIndex 2 none, Cond.classLink RX5 253 "java/lang/IndexOutOfBoundsException", Cond.initialized "java/lang/IndexOutOfBoundsException", Cond.methodLink RX5 54 yX1_keep, Cond.instanceMethod yX1_keep, Cond.selects RX1 yX1_keep yX1_keep, Cond.initialized RX1, Cond.code yX1_keep cX1_keep 2 none, Cond.fieldLink RX1 11 "SettlingJars$History" "saved" "[LSettlingJars$State;", Cond.fieldLink RX1 20 "SettlingJars$History" "oldest" "I", Cond.fieldLink RX1 16 "SettlingJars$History" "size" "I", Cond.methodLink RX1 23 yX4_copyFrom, Cond.instanceMethod yX4_copyFrom, Cond.selects RX4 yX4_copyFrom yX4_copyFrom, Cond.initialized RX4, Cond.code yX4_copyFrom cX4_copyFrom 3 none, Cond.fieldLink RX4 12 "SettlingJars$State" "settings" "LSettlingJars$Settings;"]
def wsX5_turn_r2 : List Cond := [Cond.fieldLink RX4 20 "SettlingJars$State" "jars" "[LSettlingJars$Jar;", Cond.fieldLink RX4 24 "SettlingJars$State" "poured" "[I", Cond.methodLink RX4 39 arraycopyName, Cond.native arraycopyName, Cond.static arraycopyName, Cond.initialized "java/lang/System", Cond.fieldLink RX4 28 "SettlingJars$State" "drawn" "[I", Cond.fieldLink RX4 45 "SettlingJars$State" "steps" "I", Cond.fieldLink RX4 49 "SettlingJars$State" "fallen" "I", Cond.methodLink RX4 32 yX3_copyFrom, Cond.instanceMethod yX3_copyFrom, Cond.selects RX3 yX3_copyFrom yX3_copyFrom, Cond.initialized RX3, Cond.code yX3_copyFrom cX3_copyFrom 2 none, Cond.fieldLink RX3 9 "SettlingJars$Settings" "values" "[I", Cond.methodLink RX3 18 arraycopyName, Cond.fieldLink RX3 15 "SettlingJars$Settings" "speeds" "[I", Cond.methodLink RX4 36 yX2_copyFrom, Cond.instanceMethod yX2_copyFrom, Cond.selects RX2 yX2_copyFrom yX2_copyFrom, Cond.initialized RX2, Cond.code yX2_copyFrom cX2_copyFrom 2 none, Cond.fieldLink RX2 9 "SettlingJars$Jar" "grains" "[I", Cond.methodLink RX2 15 arraycopyName]
def wsX5_turn_r3 : List Cond := [Cond.methodLink RX5 113 yX2_turnOver, Cond.instanceMethod yX2_turnOver, Cond.selects RX2 yX2_turnOver yX2_turnOver, Cond.code yX2_turnOver cX2_turnOver 4 none, Cond.methodLink RX2 21 yX2_many, Cond.instanceMethod yX2_many, Cond.selects RX2 yX2_many yX2_many, Cond.code yX2_many cX2_many 3 (some .int), Cond.methodLink RX2 32 yX2_put, Cond.instanceMethod yX2_put, Cond.selects RX2 yX2_put yX2_put, Cond.code yX2_put cX2_put 4 none, Cond.methodLink RX5 116 yX2_packedSlices, Cond.instanceMethod yX2_packedSlices, Cond.selects RX2 yX2_packedSlices yX2_packedSlices, Cond.code yX2_packedSlices cX2_packedSlices 4 (some .int), Cond.methodLink RX2 25 yX2_allIn, Cond.instanceMethod yX2_allIn, Cond.selects RX2 yX2_allIn yX2_allIn, Cond.code yX2_allIn cX2_allIn 4 (some .int), Cond.methodLink RX2 65 yX3_isPacked, Cond.instanceMethod yX3_isPacked, Cond.selects RX3 yX3_isPacked yX3_isPacked, Cond.code yX3_isPacked cX3_isPacked 2 (some .boolean)]
def wsX5_turn : List Cond := .code yX5_turn cX5_turn 2 (some .int) :: ((wsX5_turn_r1 ++ (wsX5_turn_r2 ++ wsX5_turn_r3)) ++ wsX50 ++ wsX40 ++ wsX10 ++ wsX30 ++ wsX20 ++ (vx_atS RX5 257 "java/lang/IndexOutOfBoundsException" ["java/lang/RuntimeException", "java/lang/Exception"]).filter goodWord)
def wsX5_settle_r1 : List Cond := [Cond.classLink RX5 124 "java/lang/IllegalStateException", Cond.initialized "java/lang/IllegalStateException", Cond.fieldLink RX5 12 "SettlingJars" "now" "LSettlingJars$State;", Cond.fieldLink RX5 120 "SettlingJars$State" "steps" "I", Cond.fieldLink RX5 19 "SettlingJars" "history" "LSettlingJars$History;", Cond.fieldLink RX5 71 "SettlingJars$State" "jars" "[LSettlingJars$Jar;", Cond.fieldLink RX5 58 "SettlingJars$State" "settings" "LSettlingJars$Settings;", Cond.fieldLink RX5 133 "SettlingJars$State" "fallen" "I", Cond.methodLink RX5 50 yX5_needRange, Cond.static yX5_needRange, Cond.initialized RX5, Cond.code yX5_needRange cX5_needRange 3 none, Cond.classLink RX5 100 "java/lang/IllegalArgumentException", Cond.initialized "java/lang/IllegalArgumentException", Cond.methodLink RX5 54 yX1_keep, Cond.instanceMethod yX1_keep, Cond.selects RX1 yX1_keep yX1_keep, Cond.initialized RX1, Cond.code yX1_keep cX1_keep 2 none, Cond.fieldLink RX1 11 "SettlingJars$History" "saved" "[LSettlingJars$State;", Cond.fieldLink RX1 20 "SettlingJars$History" "oldest" "I", Cond.fieldLink RX1 16 "SettlingJars$History" "size" "I", Cond.methodLink RX1 23 yX4_copyFrom, Cond.instanceMethod yX4_copyFrom]
def wsX5_settle_r2 : List Cond := [Cond.selects RX4 yX4_copyFrom yX4_copyFrom, Cond.initialized RX4, Cond.code yX4_copyFrom cX4_copyFrom 3 none, Cond.fieldLink RX4 12 "SettlingJars$State" "settings" "LSettlingJars$Settings;", Cond.fieldLink RX4 20 "SettlingJars$State" "jars" "[LSettlingJars$Jar;", Cond.fieldLink RX4 24 "SettlingJars$State" "poured" "[I", Cond.methodLink RX4 39 arraycopyName, Cond.native arraycopyName, Cond.static arraycopyName, Cond.initialized "java/lang/System", Cond.fieldLink RX4 28 "SettlingJars$State" "drawn" "[I", Cond.fieldLink RX4 45 "SettlingJars$State" "steps" "I", Cond.fieldLink RX4 49 "SettlingJars$State" "fallen" "I", Cond.methodLink RX4 32 yX3_copyFrom, Cond.instanceMethod yX3_copyFrom, Cond.selects RX3 yX3_copyFrom yX3_copyFrom, Cond.initialized RX3, Cond.code yX3_copyFrom cX3_copyFrom 2 none, Cond.fieldLink RX3 9 "SettlingJars$Settings" "values" "[I", Cond.methodLink RX3 18 arraycopyName, Cond.fieldLink RX3 15 "SettlingJars$Settings" "speeds" "[I", Cond.methodLink RX4 36 yX2_copyFrom, Cond.instanceMethod yX2_copyFrom, Cond.selects RX2 yX2_copyFrom yX2_copyFrom]
def wsX5_settle_r3 : List Cond := [Cond.initialized RX2, Cond.code yX2_copyFrom cX2_copyFrom 2 none, Cond.fieldLink RX2 9 "SettlingJars$Jar" "grains" "[I", Cond.methodLink RX2 15 arraycopyName, Cond.methodLink RX5 129 yX2_goOn, Cond.instanceMethod yX2_goOn, Cond.selects RX2 yX2_goOn yX2_goOn, Cond.code yX2_goOn cX2_goOn 6 (some .int), Cond.methodLink RX2 36 yX2_goOneStep, Cond.instanceMethod yX2_goOneStep, Cond.selects RX2 yX2_goOneStep yX2_goOneStep, Cond.code yX2_goOneStep cX2_goOneStep 4 (some .int), Cond.methodLink RX2 40 yX2_fallFrom, Cond.instanceMethod yX2_fallFrom, Cond.selects RX2 yX2_fallFrom yX2_fallFrom, Cond.code yX2_fallFrom cX2_fallFrom 9 (some .int), Cond.methodLink RX2 56 Lib.Math.min.name, Cond.static Lib.Math.min.name, Cond.initialized "java/lang/Math", Cond.code Lib.Math.min.name Lib.Math.min.code 2 (some .int), Cond.methodLink RX2 25 yX2_allIn, Cond.instanceMethod yX2_allIn, Cond.selects RX2 yX2_allIn yX2_allIn, Cond.code yX2_allIn cX2_allIn 4 (some .int)]
def wsX5_settle_r4 : List Cond := [Cond.methodLink RX2 21 yX2_many, Cond.instanceMethod yX2_many, Cond.selects RX2 yX2_many yX2_many, Cond.code yX2_many cX2_many 3 (some .int), Cond.methodLink RX2 44 yX3_factorOf, Cond.instanceMethod yX3_factorOf, Cond.selects RX3 yX3_factorOf yX3_factorOf, Cond.code yX3_factorOf cX3_factorOf 2 (some .int), Cond.constant RX3 24 (1000000), Cond.methodLink RX3 25 Lib.Math.max.name, Cond.static Lib.Math.max.name, Cond.code Lib.Math.max.name Lib.Math.max.code 2 (some .int), Cond.methodLink RX2 49 yX3_roomOver, Cond.instanceMethod yX3_roomOver, Cond.selects RX3 yX3_roomOver yX3_roomOver, Cond.code yX3_roomOver cX3_roomOver 2 (some .int), Cond.methodLink RX2 52 yX3_wantingToFall, Cond.instanceMethod yX3_wantingToFall, Cond.selects RX3 yX3_wantingToFall yX3_wantingToFall, Cond.code yX3_wantingToFall cX3_wantingToFall 5 (some .int), Cond.constant RX3 31 (100000), Cond.methodLink RX3 32 Lib.Math.min.name, Cond.methodLink RX2 32 yX2_put, Cond.instanceMethod yX2_put]
def wsX5_settle_r5 : List Cond := [Cond.selects RX2 yX2_put yX2_put, Cond.code yX2_put cX2_put 4 none]
def wsX5_settle : List Cond := .code yX5_settle cX5_settle 4 (some .int) :: ((wsX5_settle_r1 ++ (wsX5_settle_r2 ++ (wsX5_settle_r3 ++ (wsX5_settle_r4 ++ wsX5_settle_r5)))) ++ wsX50 ++ wsX40 ++ wsX10 ++ wsX30 ++ wsX20 ++ (vx_atS RX5 128 "java/lang/IllegalStateException" ["java/lang/RuntimeException", "java/lang/Exception"]).filter goodWord ++ (vx_atS RX5 104 "java/lang/IllegalArgumentException" ["java/lang/RuntimeException", "java/lang/Exception"]).filter goodWord)
def wsX5_slice_r1 : List Cond := [Cond.fieldLink RX5 12 "SettlingJars" "now" "LSettlingJars$State;", Cond.fieldLink RX5 71 "SettlingJars$State" "jars" "[LSettlingJars$Jar;", Cond.fieldLink RX5 58 "SettlingJars$State" "settings" "LSettlingJars$Settings;", Cond.methodLink RX5 68 yX5_needSlice, Cond.static yX5_needSlice, Cond.initialized RX5, Cond.code yX5_needSlice cX5_needSlice 2 none, Cond.methodLink RX5 37 yX5_needIndex, Cond.static yX5_needIndex, Cond.code yX5_needIndex cX5_needIndex 2 none, Cond.classLink RX5 253 "java/lang/IndexOutOfBoundsException", Cond.initialized "java/lang/IndexOutOfBoundsException", Cond.methodLink RX5 50 yX5_needRange, Cond.static yX5_needRange, Cond.code yX5_needRange cX5_needRange 3 none, Cond.classLink RX5 100 "java/lang/IllegalArgumentException", Cond.initialized "java/lang/IllegalArgumentException", Cond.methodLink RX5 180 yX2_sliceProperty, Cond.instanceMethod yX2_sliceProperty, Cond.selects RX2 yX2_sliceProperty yX2_sliceProperty, Cond.initialized RX2, Cond.code yX2_sliceProperty cX2_sliceProperty 4 (some .int), Cond.methodLink RX2 25 yX2_allIn, Cond.instanceMethod yX2_allIn]
def wsX5_slice_r2 : List Cond := [Cond.selects RX2 yX2_allIn yX2_allIn, Cond.code yX2_allIn cX2_allIn 4 (some .int), Cond.methodLink RX2 21 yX2_many, Cond.instanceMethod yX2_many, Cond.selects RX2 yX2_many yX2_many, Cond.code yX2_many cX2_many 3 (some .int), Cond.fieldLink RX2 9 "SettlingJars$Jar" "grains" "[I", Cond.methodLink RX2 65 yX3_isPacked, Cond.instanceMethod yX3_isPacked, Cond.selects RX3 yX3_isPacked yX3_isPacked, Cond.initialized RX3, Cond.code yX3_isPacked cX3_isPacked 2 (some .boolean), Cond.fieldLink RX3 9 "SettlingJars$Settings" "values" "[I", Cond.methodLink RX2 69 yX3_isClear, Cond.instanceMethod yX3_isClear, Cond.selects RX3 yX3_isClear yX3_isClear, Cond.code yX3_isClear cX3_isClear 2 (some .boolean), Cond.methodLink RX2 72 yX2_leadingClass, Cond.instanceMethod yX2_leadingClass, Cond.selects RX2 yX2_leadingClass yX2_leadingClass, Cond.code yX2_leadingClass cX2_leadingClass 5 (some .int), Cond.methodLink RX2 44 yX3_factorOf, Cond.instanceMethod yX3_factorOf, Cond.selects RX3 yX3_factorOf yX3_factorOf]
def wsX5_slice_r3 : List Cond := [Cond.code yX3_factorOf cX3_factorOf 2 (some .int), Cond.constant RX3 24 (1000000), Cond.methodLink RX3 25 Lib.Math.max.name, Cond.static Lib.Math.max.name, Cond.initialized "java/lang/Math", Cond.code Lib.Math.max.name Lib.Math.max.code 2 (some .int), Cond.methodLink RX2 49 yX3_roomOver, Cond.instanceMethod yX3_roomOver, Cond.selects RX3 yX3_roomOver yX3_roomOver, Cond.code yX3_roomOver cX3_roomOver 2 (some .int)]
def wsX5_slice : List Cond := .code yX5_slice cX5_slice 4 (some .int) :: ((wsX5_slice_r1 ++ (wsX5_slice_r2 ++ wsX5_slice_r3)) ++ wsX50 ++ wsX40 ++ wsX20 ++ wsX30 ++ (vx_atS RX5 257 "java/lang/IndexOutOfBoundsException" ["java/lang/RuntimeException", "java/lang/Exception"]).filter goodWord ++ (vx_atS RX5 104 "java/lang/IllegalArgumentException" ["java/lang/RuntimeException", "java/lang/Exception"]).filter goodWord)
def wsX5_jar_r1 : List Cond := [Cond.fieldLink RX5 12 "SettlingJars" "now" "LSettlingJars$State;", Cond.fieldLink RX5 71 "SettlingJars$State" "jars" "[LSettlingJars$Jar;", Cond.fieldLink RX5 58 "SettlingJars$State" "settings" "LSettlingJars$Settings;", Cond.methodLink RX5 37 yX5_needIndex, Cond.static yX5_needIndex, Cond.initialized RX5, Cond.code yX5_needIndex cX5_needIndex 2 none, Cond.classLink RX5 253 "java/lang/IndexOutOfBoundsException", Cond.initialized "java/lang/IndexOutOfBoundsException", Cond.methodLink RX5 50 yX5_needRange, Cond.static yX5_needRange, Cond.code yX5_needRange cX5_needRange 3 none, Cond.classLink RX5 100 "java/lang/IllegalArgumentException", Cond.initialized "java/lang/IllegalArgumentException", Cond.methodLink RX5 184 yX2_property, Cond.instanceMethod yX2_property, Cond.selects RX2 yX2_property yX2_property, Cond.initialized RX2, Cond.code yX2_property cX2_property 3 (some .int), Cond.methodLink RX2 75 yX2_all, Cond.instanceMethod yX2_all, Cond.selects RX2 yX2_all yX2_all, Cond.code yX2_all cX2_all 1 (some .int), Cond.methodLink RX2 29 yX2_allDownTo]
def wsX5_jar_r2 : List Cond := [Cond.instanceMethod yX2_allDownTo, Cond.selects RX2 yX2_allDownTo yX2_allDownTo, Cond.code yX2_allDownTo cX2_allDownTo 4 (some .int), Cond.methodLink RX2 25 yX2_allIn, Cond.instanceMethod yX2_allIn, Cond.selects RX2 yX2_allIn yX2_allIn, Cond.code yX2_allIn cX2_allIn 4 (some .int), Cond.methodLink RX2 21 yX2_many, Cond.instanceMethod yX2_many, Cond.selects RX2 yX2_many yX2_many, Cond.code yX2_many cX2_many 3 (some .int), Cond.fieldLink RX2 9 "SettlingJars$Jar" "grains" "[I", Cond.methodLink RX2 79 yX2_bedSlices, Cond.instanceMethod yX2_bedSlices, Cond.selects RX2 yX2_bedSlices yX2_bedSlices, Cond.code yX2_bedSlices cX2_bedSlices 3 (some .int), Cond.methodLink RX2 65 yX3_isPacked, Cond.instanceMethod yX3_isPacked, Cond.selects RX3 yX3_isPacked yX3_isPacked, Cond.initialized RX3, Cond.code yX3_isPacked cX3_isPacked 2 (some .boolean), Cond.fieldLink RX3 9 "SettlingJars$Settings" "values" "[I", Cond.methodLink RX2 82 yX2_clearWater, Cond.instanceMethod yX2_clearWater]
def wsX5_jar_r3 : List Cond := [Cond.selects RX2 yX2_clearWater yX2_clearWater, Cond.code yX2_clearWater cX2_clearWater 3 (some .int), Cond.methodLink RX2 69 yX3_isClear, Cond.instanceMethod yX3_isClear, Cond.selects RX3 yX3_isClear yX3_isClear, Cond.code yX3_isClear cX3_isClear 2 (some .boolean), Cond.methodLink RX2 85 yX2_changesOfLeader, Cond.instanceMethod yX2_changesOfLeader, Cond.selects RX2 yX2_changesOfLeader yX2_changesOfLeader, Cond.code yX2_changesOfLeader cX2_changesOfLeader 5 (some .int), Cond.methodLink RX2 72 yX2_leadingClass, Cond.instanceMethod yX2_leadingClass, Cond.selects RX2 yX2_leadingClass yX2_leadingClass, Cond.code yX2_leadingClass cX2_leadingClass 5 (some .int), Cond.methodLink RX2 88 yX2_isAtRest, Cond.instanceMethod yX2_isAtRest, Cond.selects RX2 yX2_isAtRest yX2_isAtRest, Cond.code yX2_isAtRest cX2_isAtRest 4 (some .boolean), Cond.methodLink RX2 61 yX2_reasonToStay, Cond.instanceMethod yX2_reasonToStay, Cond.selects RX2 yX2_reasonToStay yX2_reasonToStay, Cond.code yX2_reasonToStay cX2_reasonToStay 6 (some .int), Cond.methodLink RX2 49 yX3_roomOver, Cond.instanceMethod yX3_roomOver]
def wsX5_jar_r4 : List Cond := [Cond.selects RX3 yX3_roomOver yX3_roomOver, Cond.code yX3_roomOver cX3_roomOver 2 (some .int), Cond.methodLink RX3 25 Lib.Math.max.name, Cond.static Lib.Math.max.name, Cond.initialized "java/lang/Math", Cond.code Lib.Math.max.name Lib.Math.max.code 2 (some .int), Cond.methodLink RX2 44 yX3_factorOf, Cond.instanceMethod yX3_factorOf, Cond.selects RX3 yX3_factorOf yX3_factorOf, Cond.code yX3_factorOf cX3_factorOf 2 (some .int), Cond.constant RX3 24 (1000000), Cond.methodLink RX2 52 yX3_wantingToFall, Cond.instanceMethod yX3_wantingToFall, Cond.selects RX3 yX3_wantingToFall yX3_wantingToFall, Cond.code yX3_wantingToFall cX3_wantingToFall 5 (some .int), Cond.fieldLink RX3 15 "SettlingJars$Settings" "speeds" "[I", Cond.constant RX3 31 (100000), Cond.methodLink RX3 32 Lib.Math.min.name, Cond.static Lib.Math.min.name, Cond.code Lib.Math.min.name Lib.Math.min.code 2 (some .int), Cond.methodLink RX2 92 yX2_allOf, Cond.instanceMethod yX2_allOf, Cond.selects RX2 yX2_allOf yX2_allOf, Cond.code yX2_allOf cX2_allOf 4 (some .int)]
def wsX5_jar : List Cond := .code yX5_jar cX5_jar 3 (some .int) :: ((wsX5_jar_r1 ++ (wsX5_jar_r2 ++ (wsX5_jar_r3 ++ wsX5_jar_r4))) ++ wsX50 ++ wsX40 ++ wsX20 ++ wsX30 ++ (vx_atS RX5 257 "java/lang/IndexOutOfBoundsException" ["java/lang/RuntimeException", "java/lang/Exception"]).filter goodWord ++ (vx_atS RX5 104 "java/lang/IllegalArgumentException" ["java/lang/RuntimeException", "java/lang/Exception"]).filter goodWord)
def wsX5_grains_r1 : List Cond := [Cond.fieldLink RX5 12 "SettlingJars" "now" "LSettlingJars$State;", Cond.fieldLink RX5 82 "SettlingJars$State" "poured" "[I", Cond.fieldLink RX5 97 "SettlingJars$State" "drawn" "[I", Cond.fieldLink RX5 58 "SettlingJars$State" "settings" "LSettlingJars$Settings;", Cond.fieldLink RX5 65 "SettlingJars$Settings" "speeds" "[I", Cond.methodLink RX5 37 yX5_needIndex, Cond.static yX5_needIndex, Cond.initialized RX5, Cond.code yX5_needIndex cX5_needIndex 2 none, Cond.classLink RX5 253 "java/lang/IndexOutOfBoundsException", Cond.initialized "java/lang/IndexOutOfBoundsException", Cond.methodLink RX5 50 yX5_needRange, Cond.static yX5_needRange, Cond.code yX5_needRange cX5_needRange 3 none, Cond.classLink RX5 100 "java/lang/IllegalArgumentException", Cond.initialized "java/lang/IllegalArgumentException", Cond.methodLink RX5 187 yX4_allOf, Cond.instanceMethod yX4_allOf, Cond.selects RX4 yX4_allOf yX4_allOf, Cond.initialized RX4, Cond.code yX4_allOf cX4_allOf 4 (some .int), Cond.fieldLink RX4 20 "SettlingJars$State" "jars" "[LSettlingJars$Jar;", Cond.methodLink RX4 56 yX2_allOf, Cond.instanceMethod yX2_allOf]
def wsX5_grains_r2 : List Cond := [Cond.selects RX2 yX2_allOf yX2_allOf, Cond.initialized RX2, Cond.code yX2_allOf cX2_allOf 4 (some .int), Cond.methodLink RX2 21 yX2_many, Cond.instanceMethod yX2_many, Cond.selects RX2 yX2_many yX2_many, Cond.code yX2_many cX2_many 3 (some .int), Cond.fieldLink RX2 9 "SettlingJars$Jar" "grains" "[I"]
def wsX5_grains : List Cond := .code yX5_grains cX5_grains 3 (some .int) :: ((wsX5_grains_r1 ++ wsX5_grains_r2) ++ wsX50 ++ wsX40 ++ wsX30 ++ wsX20 ++ (vx_atS RX5 257 "java/lang/IndexOutOfBoundsException" ["java/lang/RuntimeException", "java/lang/Exception"]).filter goodWord ++ (vx_atS RX5 104 "java/lang/IllegalArgumentException" ["java/lang/RuntimeException", "java/lang/Exception"]).filter goodWord)
def wsX5_count_r1 : List Cond := [Cond.fieldLink RX5 12 "SettlingJars" "now" "LSettlingJars$State;", Cond.fieldLink RX5 120 "SettlingJars$State" "steps" "I", Cond.fieldLink RX5 133 "SettlingJars$State" "fallen" "I", Cond.fieldLink RX5 19 "SettlingJars" "history" "LSettlingJars$History;", Cond.methodLink RX5 50 yX5_needRange, Cond.static yX5_needRange, Cond.initialized RX5, Cond.code yX5_needRange cX5_needRange 3 none, Cond.classLink RX5 100 "java/lang/IllegalArgumentException", Cond.initialized "java/lang/IllegalArgumentException", Cond.methodLink RX5 188 yX4_all, Cond.instanceMethod yX4_all, Cond.selects RX4 yX4_all yX4_all, Cond.initialized RX4, Cond.code yX4_all cX4_all 3 (some .int), Cond.fieldLink RX4 20 "SettlingJars$State" "jars" "[LSettlingJars$Jar;", Cond.methodLink RX4 52 yX2_all, Cond.instanceMethod yX2_all, Cond.selects RX2 yX2_all yX2_all, Cond.initialized RX2, Cond.code yX2_all cX2_all 1 (some .int), Cond.methodLink RX2 29 yX2_allDownTo, Cond.instanceMethod yX2_allDownTo, Cond.selects RX2 yX2_allDownTo yX2_allDownTo]
def wsX5_count_r2 : List Cond := [Cond.code yX2_allDownTo cX2_allDownTo 4 (some .int), Cond.methodLink RX2 25 yX2_allIn, Cond.instanceMethod yX2_allIn, Cond.selects RX2 yX2_allIn yX2_allIn, Cond.code yX2_allIn cX2_allIn 4 (some .int), Cond.methodLink RX2 21 yX2_many, Cond.instanceMethod yX2_many, Cond.selects RX2 yX2_many yX2_many, Cond.code yX2_many cX2_many 3 (some .int), Cond.fieldLink RX2 9 "SettlingJars$Jar" "grains" "[I", Cond.methodLink RX5 189 yX4_packedSlices, Cond.instanceMethod yX4_packedSlices, Cond.selects RX4 yX4_packedSlices yX4_packedSlices, Cond.code yX4_packedSlices cX4_packedSlices 3 (some .int), Cond.fieldLink RX4 12 "SettlingJars$State" "settings" "LSettlingJars$Settings;", Cond.methodLink RX4 60 yX2_packedSlices, Cond.instanceMethod yX2_packedSlices, Cond.selects RX2 yX2_packedSlices yX2_packedSlices, Cond.code yX2_packedSlices cX2_packedSlices 4 (some .int), Cond.methodLink RX2 65 yX3_isPacked, Cond.instanceMethod yX3_isPacked, Cond.selects RX3 yX3_isPacked yX3_isPacked, Cond.initialized RX3, Cond.code yX3_isPacked cX3_isPacked 2 (some .boolean)]
def wsX5_count_r3 : List Cond := [Cond.fieldLink RX3 9 "SettlingJars$Settings" "values" "[I", Cond.methodLink RX5 191 yX4_clearSlices, Cond.instanceMethod yX4_clearSlices, Cond.selects RX4 yX4_clearSlices yX4_clearSlices, Cond.code yX4_clearSlices cX4_clearSlices 3 (some .int), Cond.methodLink RX4 64 yX2_clearSlices, Cond.instanceMethod yX2_clearSlices, Cond.selects RX2 yX2_clearSlices yX2_clearSlices, Cond.code yX2_clearSlices cX2_clearSlices 4 (some .int), Cond.methodLink RX2 69 yX3_isClear, Cond.instanceMethod yX3_isClear, Cond.selects RX3 yX3_isClear yX3_isClear, Cond.code yX3_isClear cX3_isClear 2 (some .boolean), Cond.methodLink RX5 174 yX1_size, Cond.instanceMethod yX1_size, Cond.selects RX1 yX1_size yX1_size, Cond.initialized RX1, Cond.code yX1_size cX1_size 1 (some .int), Cond.fieldLink RX1 16 "SettlingJars$History" "size" "I"]
def wsX5_count : List Cond := .code yX5_count cX5_count 2 (some .int) :: ((wsX5_count_r1 ++ (wsX5_count_r2 ++ wsX5_count_r3)) ++ wsX50 ++ wsX40 ++ wsX20 ++ wsX30 ++ wsX10 ++ (vx_atS RX5 104 "java/lang/IllegalArgumentException" ["java/lang/RuntimeException", "java/lang/Exception"]).filter goodWord)
def wsX5_setting : List Cond := .code yX5_setting cX5_setting 2 (some .int) :: ([.fieldLink RX5 12 "SettlingJars" "now" "LSettlingJars$State;", .fieldLink RX5 58 "SettlingJars$State" "settings" "LSettlingJars$Settings;", .fieldLink RX5 62 "SettlingJars$Settings" "values" "[I", .methodLink RX5 37 yX5_needIndex, .static yX5_needIndex, .initialized RX5, .code yX5_needIndex cX5_needIndex 2 none, .classLink RX5 253 "java/lang/IndexOutOfBoundsException", .initialized "java/lang/IndexOutOfBoundsException"] ++ wsX50 ++ wsX40 ++ wsX30 ++ (vx_atS RX5 257 "java/lang/IndexOutOfBoundsException" ["java/lang/RuntimeException", "java/lang/Exception"]).filter goodWord)
def wsX5_why_r1 : List Cond := [Cond.fieldLink RX5 12 "SettlingJars" "now" "LSettlingJars$State;", Cond.fieldLink RX5 71 "SettlingJars$State" "jars" "[LSettlingJars$Jar;", Cond.fieldLink RX5 58 "SettlingJars$State" "settings" "LSettlingJars$Settings;", Cond.methodLink RX5 68 yX5_needSlice, Cond.static yX5_needSlice, Cond.initialized RX5, Cond.code yX5_needSlice cX5_needSlice 2 none, Cond.methodLink RX5 37 yX5_needIndex, Cond.static yX5_needIndex, Cond.code yX5_needIndex cX5_needIndex 2 none, Cond.classLink RX5 253 "java/lang/IndexOutOfBoundsException", Cond.initialized "java/lang/IndexOutOfBoundsException", Cond.methodLink RX5 194 yX2_reasonToStay, Cond.instanceMethod yX2_reasonToStay, Cond.selects RX2 yX2_reasonToStay yX2_reasonToStay, Cond.initialized RX2, Cond.code yX2_reasonToStay cX2_reasonToStay 6 (some .int), Cond.methodLink RX2 21 yX2_many, Cond.instanceMethod yX2_many, Cond.selects RX2 yX2_many yX2_many, Cond.code yX2_many cX2_many 3 (some .int), Cond.fieldLink RX2 9 "SettlingJars$Jar" "grains" "[I", Cond.methodLink RX2 25 yX2_allIn, Cond.instanceMethod yX2_allIn]
def wsX5_why_r2 : List Cond := [Cond.selects RX2 yX2_allIn yX2_allIn, Cond.code yX2_allIn cX2_allIn 4 (some .int), Cond.methodLink RX2 49 yX3_roomOver, Cond.instanceMethod yX3_roomOver, Cond.selects RX3 yX3_roomOver yX3_roomOver, Cond.initialized RX3, Cond.code yX3_roomOver cX3_roomOver 2 (some .int), Cond.fieldLink RX3 9 "SettlingJars$Settings" "values" "[I", Cond.methodLink RX3 25 Lib.Math.max.name, Cond.static Lib.Math.max.name, Cond.initialized "java/lang/Math", Cond.code Lib.Math.max.name Lib.Math.max.code 2 (some .int), Cond.methodLink RX2 44 yX3_factorOf, Cond.instanceMethod yX3_factorOf, Cond.selects RX3 yX3_factorOf yX3_factorOf, Cond.code yX3_factorOf cX3_factorOf 2 (some .int), Cond.constant RX3 24 (1000000), Cond.methodLink RX2 52 yX3_wantingToFall, Cond.instanceMethod yX3_wantingToFall, Cond.selects RX3 yX3_wantingToFall yX3_wantingToFall, Cond.code yX3_wantingToFall cX3_wantingToFall 5 (some .int), Cond.fieldLink RX3 15 "SettlingJars$Settings" "speeds" "[I", Cond.constant RX3 31 (100000), Cond.methodLink RX3 32 Lib.Math.min.name]
def wsX5_why_r3 : List Cond := [Cond.static Lib.Math.min.name, Cond.code Lib.Math.min.name Lib.Math.min.code 2 (some .int)]
def wsX5_why : List Cond := .code yX5_why cX5_why 4 (some .int) :: ((wsX5_why_r1 ++ (wsX5_why_r2 ++ wsX5_why_r3)) ++ wsX50 ++ wsX40 ++ wsX20 ++ wsX30 ++ (vx_atS RX5 257 "java/lang/IndexOutOfBoundsException" ["java/lang/RuntimeException", "java/lang/Exception"]).filter goodWord)
def wsX5_ifSettled_r1 : List Cond := [Cond.fieldLink RX5 33 "SettlingJars" "spare" "LSettlingJars$Jar;", Cond.fieldLink RX5 12 "SettlingJars" "now" "LSettlingJars$State;", Cond.fieldLink RX5 71 "SettlingJars$State" "jars" "[LSettlingJars$Jar;", Cond.fieldLink RX5 58 "SettlingJars$State" "settings" "LSettlingJars$Settings;", Cond.methodLink RX5 37 yX5_needIndex, Cond.static yX5_needIndex, Cond.initialized RX5, Cond.code yX5_needIndex cX5_needIndex 2 none, Cond.classLink RX5 253 "java/lang/IndexOutOfBoundsException", Cond.initialized "java/lang/IndexOutOfBoundsException", Cond.methodLink RX5 50 yX5_needRange, Cond.static yX5_needRange, Cond.code yX5_needRange cX5_needRange 3 none, Cond.classLink RX5 100 "java/lang/IllegalArgumentException", Cond.initialized "java/lang/IllegalArgumentException", Cond.methodLink RX5 197 yX2_copyFrom, Cond.instanceMethod yX2_copyFrom, Cond.selects RX2 yX2_copyFrom yX2_copyFrom, Cond.initialized RX2, Cond.code yX2_copyFrom cX2_copyFrom 2 none, Cond.fieldLink RX2 9 "SettlingJars$Jar" "grains" "[I", Cond.methodLink RX2 15 arraycopyName, Cond.native arraycopyName, Cond.static arraycopyName]
def wsX5_ifSettled_r2 : List Cond := [Cond.initialized "java/lang/System", Cond.methodLink RX5 129 yX2_goOn, Cond.instanceMethod yX2_goOn, Cond.selects RX2 yX2_goOn yX2_goOn, Cond.code yX2_goOn cX2_goOn 6 (some .int), Cond.methodLink RX2 36 yX2_goOneStep, Cond.instanceMethod yX2_goOneStep, Cond.selects RX2 yX2_goOneStep yX2_goOneStep, Cond.code yX2_goOneStep cX2_goOneStep 4 (some .int), Cond.methodLink RX2 40 yX2_fallFrom, Cond.instanceMethod yX2_fallFrom, Cond.selects RX2 yX2_fallFrom yX2_fallFrom, Cond.code yX2_fallFrom cX2_fallFrom 9 (some .int), Cond.methodLink RX2 56 Lib.Math.min.name, Cond.static Lib.Math.min.name, Cond.initialized "java/lang/Math", Cond.code Lib.Math.min.name Lib.Math.min.code 2 (some .int), Cond.methodLink RX2 25 yX2_allIn, Cond.instanceMethod yX2_allIn, Cond.selects RX2 yX2_allIn yX2_allIn, Cond.code yX2_allIn cX2_allIn 4 (some .int), Cond.methodLink RX2 21 yX2_many, Cond.instanceMethod yX2_many, Cond.selects RX2 yX2_many yX2_many]
def wsX5_ifSettled_r3 : List Cond := [Cond.code yX2_many cX2_many 3 (some .int), Cond.methodLink RX2 44 yX3_factorOf, Cond.instanceMethod yX3_factorOf, Cond.selects RX3 yX3_factorOf yX3_factorOf, Cond.initialized RX3, Cond.code yX3_factorOf cX3_factorOf 2 (some .int), Cond.constant RX3 24 (1000000), Cond.fieldLink RX3 9 "SettlingJars$Settings" "values" "[I", Cond.methodLink RX3 25 Lib.Math.max.name, Cond.static Lib.Math.max.name, Cond.code Lib.Math.max.name Lib.Math.max.code 2 (some .int), Cond.methodLink RX2 49 yX3_roomOver, Cond.instanceMethod yX3_roomOver, Cond.selects RX3 yX3_roomOver yX3_roomOver, Cond.code yX3_roomOver cX3_roomOver 2 (some .int), Cond.methodLink RX2 52 yX3_wantingToFall, Cond.instanceMethod yX3_wantingToFall, Cond.selects RX3 yX3_wantingToFall yX3_wantingToFall, Cond.code yX3_wantingToFall cX3_wantingToFall 5 (some .int), Cond.fieldLink RX3 15 "SettlingJars$Settings" "speeds" "[I", Cond.constant RX3 31 (100000), Cond.methodLink RX3 32 Lib.Math.min.name, Cond.methodLink RX2 32 yX2_put, Cond.instanceMethod yX2_put]
def wsX5_ifSettled_r4 : List Cond := [Cond.selects RX2 yX2_put yX2_put, Cond.code yX2_put cX2_put 4 none, Cond.methodLink RX5 184 yX2_property, Cond.instanceMethod yX2_property, Cond.selects RX2 yX2_property yX2_property, Cond.code yX2_property cX2_property 3 (some .int), Cond.methodLink RX2 75 yX2_all, Cond.instanceMethod yX2_all, Cond.selects RX2 yX2_all yX2_all, Cond.code yX2_all cX2_all 1 (some .int), Cond.methodLink RX2 29 yX2_allDownTo, Cond.instanceMethod yX2_allDownTo, Cond.selects RX2 yX2_allDownTo yX2_allDownTo, Cond.code yX2_allDownTo cX2_allDownTo 4 (some .int), Cond.methodLink RX2 79 yX2_bedSlices, Cond.instanceMethod yX2_bedSlices, Cond.selects RX2 yX2_bedSlices yX2_bedSlices, Cond.code yX2_bedSlices cX2_bedSlices 3 (some .int), Cond.methodLink RX2 65 yX3_isPacked, Cond.instanceMethod yX3_isPacked, Cond.selects RX3 yX3_isPacked yX3_isPacked, Cond.code yX3_isPacked cX3_isPacked 2 (some .boolean), Cond.methodLink RX2 82 yX2_clearWater, Cond.instanceMethod yX2_clearWater]
def wsX5_ifSettled_r5 : List Cond := [Cond.selects RX2 yX2_clearWater yX2_clearWater, Cond.code yX2_clearWater cX2_clearWater 3 (some .int), Cond.methodLink RX2 69 yX3_isClear, Cond.instanceMethod yX3_isClear, Cond.selects RX3 yX3_isClear yX3_isClear, Cond.code yX3_isClear cX3_isClear 2 (some .boolean), Cond.methodLink RX2 85 yX2_changesOfLeader, Cond.instanceMethod yX2_changesOfLeader, Cond.selects RX2 yX2_changesOfLeader yX2_changesOfLeader, Cond.code yX2_changesOfLeader cX2_changesOfLeader 5 (some .int), Cond.methodLink RX2 72 yX2_leadingClass, Cond.instanceMethod yX2_leadingClass, Cond.selects RX2 yX2_leadingClass yX2_leadingClass, Cond.code yX2_leadingClass cX2_leadingClass 5 (some .int), Cond.methodLink RX2 88 yX2_isAtRest, Cond.instanceMethod yX2_isAtRest, Cond.selects RX2 yX2_isAtRest yX2_isAtRest, Cond.code yX2_isAtRest cX2_isAtRest 4 (some .boolean), Cond.methodLink RX2 61 yX2_reasonToStay, Cond.instanceMethod yX2_reasonToStay, Cond.selects RX2 yX2_reasonToStay yX2_reasonToStay, Cond.code yX2_reasonToStay cX2_reasonToStay 6 (some .int), Cond.methodLink RX2 92 yX2_allOf, Cond.instanceMethod yX2_allOf]
def wsX5_ifSettled_r6 : List Cond := [Cond.selects RX2 yX2_allOf yX2_allOf, Cond.code yX2_allOf cX2_allOf 4 (some .int)]
def wsX5_ifSettled : List Cond := .code yX5_ifSettled cX5_ifSettled 4 (some .int) :: ((wsX5_ifSettled_r1 ++ (wsX5_ifSettled_r2 ++ (wsX5_ifSettled_r3 ++ (wsX5_ifSettled_r4 ++ (wsX5_ifSettled_r5 ++ wsX5_ifSettled_r6))))) ++ wsX50 ++ wsX40 ++ wsX20 ++ wsX30 ++ (vx_atS RX5 257 "java/lang/IndexOutOfBoundsException" ["java/lang/RuntimeException", "java/lang/Exception"]).filter goodWord ++ (vx_atS RX5 104 "java/lang/IllegalArgumentException" ["java/lang/RuntimeException", "java/lang/Exception"]).filter goodWord)
def wsX5_clearIn_r1 : List Cond := [Cond.fieldLink RX5 33 "SettlingJars" "spare" "LSettlingJars$Jar;", Cond.fieldLink RX5 12 "SettlingJars" "now" "LSettlingJars$State;", Cond.fieldLink RX5 71 "SettlingJars$State" "jars" "[LSettlingJars$Jar;", Cond.fieldLink RX5 58 "SettlingJars$State" "settings" "LSettlingJars$Settings;", Cond.methodLink RX5 37 yX5_needIndex, Cond.static yX5_needIndex, Cond.initialized RX5, Cond.code yX5_needIndex cX5_needIndex 2 none, Cond.classLink RX5 253 "java/lang/IndexOutOfBoundsException", Cond.initialized "java/lang/IndexOutOfBoundsException", Cond.methodLink RX5 50 yX5_needRange, Cond.static yX5_needRange, Cond.code yX5_needRange cX5_needRange 3 none, Cond.classLink RX5 100 "java/lang/IllegalArgumentException", Cond.initialized "java/lang/IllegalArgumentException", Cond.methodLink RX5 197 yX2_copyFrom, Cond.instanceMethod yX2_copyFrom, Cond.selects RX2 yX2_copyFrom yX2_copyFrom, Cond.initialized RX2, Cond.code yX2_copyFrom cX2_copyFrom 2 none, Cond.fieldLink RX2 9 "SettlingJars$Jar" "grains" "[I", Cond.methodLink RX2 15 arraycopyName, Cond.native arraycopyName, Cond.static arraycopyName]
def wsX5_clearIn_r2 : List Cond := [Cond.initialized "java/lang/System", Cond.methodLink RX5 200 yX2_clearWater, Cond.instanceMethod yX2_clearWater, Cond.selects RX2 yX2_clearWater yX2_clearWater, Cond.code yX2_clearWater cX2_clearWater 3 (some .int), Cond.methodLink RX2 25 yX2_allIn, Cond.instanceMethod yX2_allIn, Cond.selects RX2 yX2_allIn yX2_allIn, Cond.code yX2_allIn cX2_allIn 4 (some .int), Cond.methodLink RX2 21 yX2_many, Cond.instanceMethod yX2_many, Cond.selects RX2 yX2_many yX2_many, Cond.code yX2_many cX2_many 3 (some .int), Cond.methodLink RX2 69 yX3_isClear, Cond.instanceMethod yX3_isClear, Cond.selects RX3 yX3_isClear yX3_isClear, Cond.initialized RX3, Cond.code yX3_isClear cX3_isClear 2 (some .boolean), Cond.fieldLink RX3 9 "SettlingJars$Settings" "values" "[I", Cond.methodLink RX5 203 yX2_goOneStep, Cond.instanceMethod yX2_goOneStep, Cond.selects RX2 yX2_goOneStep yX2_goOneStep, Cond.code yX2_goOneStep cX2_goOneStep 4 (some .int), Cond.methodLink RX2 40 yX2_fallFrom]
def wsX5_clearIn_r3 : List Cond := [Cond.instanceMethod yX2_fallFrom, Cond.selects RX2 yX2_fallFrom yX2_fallFrom, Cond.code yX2_fallFrom cX2_fallFrom 9 (some .int), Cond.methodLink RX2 56 Lib.Math.min.name, Cond.static Lib.Math.min.name, Cond.initialized "java/lang/Math", Cond.code Lib.Math.min.name Lib.Math.min.code 2 (some .int), Cond.methodLink RX2 44 yX3_factorOf, Cond.instanceMethod yX3_factorOf, Cond.selects RX3 yX3_factorOf yX3_factorOf, Cond.code yX3_factorOf cX3_factorOf 2 (some .int), Cond.constant RX3 24 (1000000), Cond.methodLink RX3 25 Lib.Math.max.name, Cond.static Lib.Math.max.name, Cond.code Lib.Math.max.name Lib.Math.max.code 2 (some .int), Cond.methodLink RX2 49 yX3_roomOver, Cond.instanceMethod yX3_roomOver, Cond.selects RX3 yX3_roomOver yX3_roomOver, Cond.code yX3_roomOver cX3_roomOver 2 (some .int), Cond.methodLink RX2 52 yX3_wantingToFall, Cond.instanceMethod yX3_wantingToFall, Cond.selects RX3 yX3_wantingToFall yX3_wantingToFall, Cond.code yX3_wantingToFall cX3_wantingToFall 5 (some .int), Cond.fieldLink RX3 15 "SettlingJars$Settings" "speeds" "[I"]
def wsX5_clearIn_r4 : List Cond := [Cond.constant RX3 31 (100000), Cond.methodLink RX3 32 Lib.Math.min.name, Cond.methodLink RX2 32 yX2_put, Cond.instanceMethod yX2_put, Cond.selects RX2 yX2_put yX2_put, Cond.code yX2_put cX2_put 4 none]
def wsX5_clearIn : List Cond := .code yX5_clearIn cX5_clearIn 4 (some .int) :: ((wsX5_clearIn_r1 ++ (wsX5_clearIn_r2 ++ (wsX5_clearIn_r3 ++ wsX5_clearIn_r4))) ++ wsX50 ++ wsX40 ++ wsX20 ++ wsX30 ++ (vx_atS RX5 257 "java/lang/IndexOutOfBoundsException" ["java/lang/RuntimeException", "java/lang/Exception"]).filter goodWord ++ (vx_atS RX5 104 "java/lang/IllegalArgumentException" ["java/lang/RuntimeException", "java/lang/Exception"]).filter goodWord)
def wsX5_restIn_r1 : List Cond := [Cond.fieldLink RX5 33 "SettlingJars" "spare" "LSettlingJars$Jar;", Cond.fieldLink RX5 12 "SettlingJars" "now" "LSettlingJars$State;", Cond.fieldLink RX5 71 "SettlingJars$State" "jars" "[LSettlingJars$Jar;", Cond.fieldLink RX5 58 "SettlingJars$State" "settings" "LSettlingJars$Settings;", Cond.methodLink RX5 37 yX5_needIndex, Cond.static yX5_needIndex, Cond.initialized RX5, Cond.code yX5_needIndex cX5_needIndex 2 none, Cond.classLink RX5 253 "java/lang/IndexOutOfBoundsException", Cond.initialized "java/lang/IndexOutOfBoundsException", Cond.methodLink RX5 197 yX2_copyFrom, Cond.instanceMethod yX2_copyFrom, Cond.selects RX2 yX2_copyFrom yX2_copyFrom, Cond.initialized RX2, Cond.code yX2_copyFrom cX2_copyFrom 2 none, Cond.fieldLink RX2 9 "SettlingJars$Jar" "grains" "[I", Cond.methodLink RX2 15 arraycopyName, Cond.native arraycopyName, Cond.static arraycopyName, Cond.initialized "java/lang/System", Cond.methodLink RX5 203 yX2_goOneStep, Cond.instanceMethod yX2_goOneStep, Cond.selects RX2 yX2_goOneStep yX2_goOneStep, Cond.code yX2_goOneStep cX2_goOneStep 4 (some .int)]
def wsX5_restIn_r2 : List Cond := [Cond.methodLink RX2 40 yX2_fallFrom, Cond.instanceMethod yX2_fallFrom, Cond.selects RX2 yX2_fallFrom yX2_fallFrom, Cond.code yX2_fallFrom cX2_fallFrom 9 (some .int), Cond.methodLink RX2 56 Lib.Math.min.name, Cond.static Lib.Math.min.name, Cond.initialized "java/lang/Math", Cond.code Lib.Math.min.name Lib.Math.min.code 2 (some .int), Cond.methodLink RX2 25 yX2_allIn, Cond.instanceMethod yX2_allIn, Cond.selects RX2 yX2_allIn yX2_allIn, Cond.code yX2_allIn cX2_allIn 4 (some .int), Cond.methodLink RX2 21 yX2_many, Cond.instanceMethod yX2_many, Cond.selects RX2 yX2_many yX2_many, Cond.code yX2_many cX2_many 3 (some .int), Cond.methodLink RX2 44 yX3_factorOf, Cond.instanceMethod yX3_factorOf, Cond.selects RX3 yX3_factorOf yX3_factorOf, Cond.initialized RX3, Cond.code yX3_factorOf cX3_factorOf 2 (some .int), Cond.constant RX3 24 (1000000), Cond.fieldLink RX3 9 "SettlingJars$Settings" "values" "[I", Cond.methodLink RX3 25 Lib.Math.max.name]
def wsX5_restIn_r3 : List Cond := [Cond.static Lib.Math.max.name, Cond.code Lib.Math.max.name Lib.Math.max.code 2 (some .int), Cond.methodLink RX2 49 yX3_roomOver, Cond.instanceMethod yX3_roomOver, Cond.selects RX3 yX3_roomOver yX3_roomOver, Cond.code yX3_roomOver cX3_roomOver 2 (some .int), Cond.methodLink RX2 52 yX3_wantingToFall, Cond.instanceMethod yX3_wantingToFall, Cond.selects RX3 yX3_wantingToFall yX3_wantingToFall, Cond.code yX3_wantingToFall cX3_wantingToFall 5 (some .int), Cond.fieldLink RX3 15 "SettlingJars$Settings" "speeds" "[I", Cond.constant RX3 31 (100000), Cond.methodLink RX3 32 Lib.Math.min.name, Cond.methodLink RX2 32 yX2_put, Cond.instanceMethod yX2_put, Cond.selects RX2 yX2_put yX2_put, Cond.code yX2_put cX2_put 4 none]
def wsX5_restIn : List Cond := .code yX5_restIn cX5_restIn 3 (some .int) :: ((wsX5_restIn_r1 ++ (wsX5_restIn_r2 ++ wsX5_restIn_r3)) ++ wsX50 ++ wsX40 ++ wsX20 ++ wsX30 ++ (vx_atS RX5 257 "java/lang/IndexOutOfBoundsException" ["java/lang/RuntimeException", "java/lang/Exception"]).filter goodWord)
def wsX5_purest : List Cond := .code yX5_purest cX5_purest 3 (some .int) :: ([.fieldLink RX5 12 "SettlingJars" "now" "LSettlingJars$State;", .fieldLink RX5 71 "SettlingJars$State" "jars" "[LSettlingJars$Jar;", .methodLink RX5 37 yX5_needIndex, .static yX5_needIndex, .initialized RX5, .code yX5_needIndex cX5_needIndex 2 none, .classLink RX5 253 "java/lang/IndexOutOfBoundsException", .initialized "java/lang/IndexOutOfBoundsException", .methodLink RX5 206 yX2_purestSlice, .instanceMethod yX2_purestSlice, .selects RX2 yX2_purestSlice yX2_purestSlice, .initialized RX2, .code yX2_purestSlice cX2_purestSlice 8 (some .int), .methodLink RX2 21 yX2_many, .instanceMethod yX2_many, .selects RX2 yX2_many yX2_many, .code yX2_many cX2_many 3 (some .int), .fieldLink RX2 9 "SettlingJars$Jar" "grains" "[I", .methodLink RX2 25 yX2_allIn, .instanceMethod yX2_allIn, .selects RX2 yX2_allIn yX2_allIn, .code yX2_allIn cX2_allIn 4 (some .int)] ++ wsX50 ++ wsX40 ++ wsX20 ++ (vx_atS RX5 257 "java/lang/IndexOutOfBoundsException" ["java/lang/RuntimeException", "java/lang/Exception"]).filter goodWord)
def wsX5_meanDepth_r1 : List Cond := [Cond.fieldLink RX5 12 "SettlingJars" "now" "LSettlingJars$State;", Cond.fieldLink RX5 71 "SettlingJars$State" "jars" "[LSettlingJars$Jar;", Cond.methodLink RX5 37 yX5_needIndex, Cond.static yX5_needIndex, Cond.initialized RX5, Cond.code yX5_needIndex cX5_needIndex 2 none, Cond.classLink RX5 253 "java/lang/IndexOutOfBoundsException", Cond.initialized "java/lang/IndexOutOfBoundsException", Cond.methodLink RX5 168 yX2_all, Cond.instanceMethod yX2_all, Cond.selects RX2 yX2_all yX2_all, Cond.initialized RX2, Cond.code yX2_all cX2_all 1 (some .int), Cond.methodLink RX2 29 yX2_allDownTo, Cond.instanceMethod yX2_allDownTo, Cond.selects RX2 yX2_allDownTo yX2_allDownTo, Cond.code yX2_allDownTo cX2_allDownTo 4 (some .int), Cond.methodLink RX2 25 yX2_allIn, Cond.instanceMethod yX2_allIn, Cond.selects RX2 yX2_allIn yX2_allIn, Cond.code yX2_allIn cX2_allIn 4 (some .int), Cond.methodLink RX2 21 yX2_many, Cond.instanceMethod yX2_many, Cond.selects RX2 yX2_many yX2_many]
def wsX5_meanDepth_r2 : List Cond := [Cond.code yX2_many cX2_many 3 (some .int), Cond.fieldLink RX2 9 "SettlingJars$Jar" "grains" "[I", Cond.methodLink RX5 209 yX2_sumOfDepths, Cond.instanceMethod yX2_sumOfDepths, Cond.selects RX2 yX2_sumOfDepths yX2_sumOfDepths, Cond.code yX2_sumOfDepths cX2_sumOfDepths 3 (some .int)]
def wsX5_meanDepth : List Cond := .code yX5_meanDepth cX5_meanDepth 3 (some .double) :: ((wsX5_meanDepth_r1 ++ wsX5_meanDepth_r2) ++ wsX50 ++ wsX40 ++ wsX20 ++ (vx_atS RX5 257 "java/lang/IndexOutOfBoundsException" ["java/lang/RuntimeException", "java/lang/Exception"]).filter goodWord)
def wsJ9_max_7cf53 : List Cond := .code yJ9_max_7cf53 cJ9_max_7cf53 2 (some .int) :: ([])
def wsJ9_min_7cf53 : List Cond := .code yJ9_min_7cf53 cJ9_min_7cf53 2 (some .int) :: ([])
def wsL_cell : List Cond := .code yL_cell cL_cell 2 (some .int) :: ([.constant RL 7 (608135816)])
def wsL_at : List Cond := .code yL_at cL_at 2 (some .int) :: ([])
def wsL_all : List Cond := .code yL_all cL_all 2 (some .int) :: ([])
def wsL_sum : List Cond := .code yL_sum cL_sum 5 (some .int) :: ([])
def wsL_factor : List Cond := .code yL_factor cL_factor 3 (some .int) :: ([.constant RL 8 (1000000), .methodLink RL 9 yL_all, .static yL_all, .initialized RL, .code yL_all cL_all 2 (some .int)])
def wsL_room : List Cond := .code yL_room cL_room 3 (some .int) :: ([.methodLink RL 9 yL_all, .static yL_all, .initialized RL, .code yL_all cL_all 2 (some .int)])
def wsL_wish : List Cond := .code yL_wish cL_wish 5 (some .int) :: ([.constantLong RL 15 (100000)])
def wsL_step : List Cond := .code yL_step cL_step 9 (some .int) :: ([.methodLink RL 17 yL_factor, .static yL_factor, .initialized RL, .code yL_factor cL_factor 3 (some .int), .constant RL 8 (1000000), .methodLink RL 9 yL_all, .static yL_all, .code yL_all cL_all 2 (some .int), .methodLink RL 21 yL_wish, .static yL_wish, .code yL_wish cL_wish 5 (some .int), .constantLong RL 15 (100000), .methodLink RL 25 yL_room, .static yL_room, .code yL_room cL_room 3 (some .int)])
def wsL_leading : List Cond := .code yL_leading cL_leading 4 (some .int) :: ([])
def wsL_prop : List Cond := .code yL_prop cL_prop 9 (some .int) :: ([.methodLink RL 28 yL_sum, .static yL_sum, .initialized RL, .code yL_sum cL_sum 5 (some .int), .methodLink RL 9 yL_all, .static yL_all, .code yL_all cL_all 2 (some .int), .methodLink RL 32 yL_leading, .static yL_leading, .code yL_leading cL_leading 4 (some .int)])
def wsL_why : List Cond := .code yL_why cL_why 5 (some .int) :: ([.methodLink RL 25 yL_room, .static yL_room, .initialized RL, .code yL_room cL_room 3 (some .int), .methodLink RL 9 yL_all, .static yL_all, .code yL_all cL_all 2 (some .int), .methodLink RL 17 yL_factor, .static yL_factor, .code yL_factor cL_factor 3 (some .int), .constant RL 8 (1000000), .methodLink RL 21 yL_wish, .static yL_wish, .code yL_wish cL_wish 5 (some .int), .constantLong RL 15 (100000)])
def wsL_toldJar_r1 : List Cond := [Cond.arrayClass .int, Cond.methodLink RL 35 yX5_slice, Cond.instanceMethod yX5_slice, Cond.selects RX5 yX5_slice yX5_slice, Cond.initialized RX5, Cond.code yX5_slice cX5_slice 4 (some .int), Cond.fieldLink RX5 12 "SettlingJars" "now" "LSettlingJars$State;", Cond.fieldLink RX5 71 "SettlingJars$State" "jars" "[LSettlingJars$Jar;", Cond.fieldLink RX5 58 "SettlingJars$State" "settings" "LSettlingJars$Settings;", Cond.methodLink RX5 68 yX5_needSlice, Cond.static yX5_needSlice, Cond.code yX5_needSlice cX5_needSlice 2 none, Cond.methodLink RX5 37 yX5_needIndex, Cond.static yX5_needIndex, Cond.code yX5_needIndex cX5_needIndex 2 none, Cond.classLink RX5 253 "java/lang/IndexOutOfBoundsException", Cond.initialized "java/lang/IndexOutOfBoundsException", Cond.methodLink RX5 50 yX5_needRange, Cond.static yX5_needRange, Cond.code yX5_needRange cX5_needRange 3 none, Cond.classLink RX5 100 "java/lang/IllegalArgumentException", Cond.initialized "java/lang/IllegalArgumentException", Cond.methodLink RX5 180 yX2_sliceProperty, Cond.instanceMethod yX2_sliceProperty]
def wsL_toldJar_r2 : List Cond := [Cond.selects RX2 yX2_sliceProperty yX2_sliceProperty, Cond.initialized RX2, Cond.code yX2_sliceProperty cX2_sliceProperty 4 (some .int), Cond.methodLink RX2 25 yX2_allIn, Cond.instanceMethod yX2_allIn, Cond.selects RX2 yX2_allIn yX2_allIn, Cond.code yX2_allIn cX2_allIn 4 (some .int), Cond.methodLink RX2 21 yX2_many, Cond.instanceMethod yX2_many, Cond.selects RX2 yX2_many yX2_many, Cond.code yX2_many cX2_many 3 (some .int), Cond.fieldLink RX2 9 "SettlingJars$Jar" "grains" "[I", Cond.methodLink RX2 65 yX3_isPacked, Cond.instanceMethod yX3_isPacked, Cond.selects RX3 yX3_isPacked yX3_isPacked, Cond.initialized RX3, Cond.code yX3_isPacked cX3_isPacked 2 (some .boolean), Cond.fieldLink RX3 9 "SettlingJars$Settings" "values" "[I", Cond.methodLink RX2 69 yX3_isClear, Cond.instanceMethod yX3_isClear, Cond.selects RX3 yX3_isClear yX3_isClear, Cond.code yX3_isClear cX3_isClear 2 (some .boolean), Cond.methodLink RX2 72 yX2_leadingClass, Cond.instanceMethod yX2_leadingClass]
def wsL_toldJar_r3 : List Cond := [Cond.selects RX2 yX2_leadingClass yX2_leadingClass, Cond.code yX2_leadingClass cX2_leadingClass 5 (some .int), Cond.methodLink RX2 44 yX3_factorOf, Cond.instanceMethod yX3_factorOf, Cond.selects RX3 yX3_factorOf yX3_factorOf, Cond.code yX3_factorOf cX3_factorOf 2 (some .int), Cond.constant RX3 24 (1000000), Cond.methodLink RX3 25 Lib.Math.max.name, Cond.static Lib.Math.max.name, Cond.initialized "java/lang/Math", Cond.code Lib.Math.max.name Lib.Math.max.code 2 (some .int), Cond.methodLink RX2 49 yX3_roomOver, Cond.instanceMethod yX3_roomOver, Cond.selects RX3 yX3_roomOver yX3_roomOver, Cond.code yX3_roomOver cX3_roomOver 2 (some .int), Cond.methodLink RL 41 yX5_why, Cond.instanceMethod yX5_why, Cond.selects RX5 yX5_why yX5_why, Cond.code yX5_why cX5_why 4 (some .int), Cond.methodLink RX5 194 yX2_reasonToStay, Cond.instanceMethod yX2_reasonToStay, Cond.selects RX2 yX2_reasonToStay yX2_reasonToStay, Cond.code yX2_reasonToStay cX2_reasonToStay 6 (some .int), Cond.methodLink RX2 52 yX3_wantingToFall]
def wsL_toldJar_r4 : List Cond := [Cond.instanceMethod yX3_wantingToFall, Cond.selects RX3 yX3_wantingToFall yX3_wantingToFall, Cond.code yX3_wantingToFall cX3_wantingToFall 5 (some .int), Cond.fieldLink RX3 15 "SettlingJars$Settings" "speeds" "[I", Cond.constant RX3 31 (100000), Cond.methodLink RX3 32 Lib.Math.min.name, Cond.static Lib.Math.min.name, Cond.code Lib.Math.min.name Lib.Math.min.code 2 (some .int), Cond.methodLink RL 44 yL_why, Cond.static yL_why, Cond.initialized RL, Cond.code yL_why cL_why 5 (some .int), Cond.methodLink RL 25 yL_room, Cond.static yL_room, Cond.code yL_room cL_room 3 (some .int), Cond.methodLink RL 9 yL_all, Cond.static yL_all, Cond.code yL_all cL_all 2 (some .int), Cond.methodLink RL 17 yL_factor, Cond.static yL_factor, Cond.code yL_factor cL_factor 3 (some .int), Cond.constant RL 8 (1000000), Cond.methodLink RL 21 yL_wish, Cond.static yL_wish]
def wsL_toldJar_r5 : List Cond := [Cond.code yL_wish cL_wish 5 (some .int), Cond.constantLong RL 15 (100000), Cond.methodLink RL 32 yL_leading, Cond.static yL_leading, Cond.code yL_leading cL_leading 4 (some .int), Cond.methodLink RL 47 yX5_jar, Cond.instanceMethod yX5_jar, Cond.selects RX5 yX5_jar yX5_jar, Cond.code yX5_jar cX5_jar 3 (some .int), Cond.methodLink RX5 184 yX2_property, Cond.instanceMethod yX2_property, Cond.selects RX2 yX2_property yX2_property, Cond.code yX2_property cX2_property 3 (some .int), Cond.methodLink RX2 75 yX2_all, Cond.instanceMethod yX2_all, Cond.selects RX2 yX2_all yX2_all, Cond.code yX2_all cX2_all 1 (some .int), Cond.methodLink RX2 29 yX2_allDownTo, Cond.instanceMethod yX2_allDownTo, Cond.selects RX2 yX2_allDownTo yX2_allDownTo, Cond.code yX2_allDownTo cX2_allDownTo 4 (some .int), Cond.methodLink RX2 79 yX2_bedSlices, Cond.instanceMethod yX2_bedSlices, Cond.selects RX2 yX2_bedSlices yX2_bedSlices]
def wsL_toldJar_r6 : List Cond := [Cond.code yX2_bedSlices cX2_bedSlices 3 (some .int), Cond.methodLink RX2 82 yX2_clearWater, Cond.instanceMethod yX2_clearWater, Cond.selects RX2 yX2_clearWater yX2_clearWater, Cond.code yX2_clearWater cX2_clearWater 3 (some .int), Cond.methodLink RX2 85 yX2_changesOfLeader, Cond.instanceMethod yX2_changesOfLeader, Cond.selects RX2 yX2_changesOfLeader yX2_changesOfLeader, Cond.code yX2_changesOfLeader cX2_changesOfLeader 5 (some .int), Cond.methodLink RX2 88 yX2_isAtRest, Cond.instanceMethod yX2_isAtRest, Cond.selects RX2 yX2_isAtRest yX2_isAtRest, Cond.code yX2_isAtRest cX2_isAtRest 4 (some .boolean), Cond.methodLink RX2 61 yX2_reasonToStay, Cond.methodLink RX2 92 yX2_allOf, Cond.instanceMethod yX2_allOf, Cond.selects RX2 yX2_allOf yX2_allOf, Cond.code yX2_allOf cX2_allOf 4 (some .int), Cond.methodLink RL 51 yL_prop, Cond.static yL_prop, Cond.code yL_prop cL_prop 9 (some .int), Cond.methodLink RL 28 yL_sum, Cond.static yL_sum, Cond.code yL_sum cL_sum 5 (some .int)]
def wsL_toldJar_r7 : List Cond := [Cond.methodLink RL 54 yL_at, Cond.static yL_at, Cond.code yL_at cL_at 2 (some .int), Cond.methodLink RL 57 yX5_purest, Cond.instanceMethod yX5_purest, Cond.selects RX5 yX5_purest yX5_purest, Cond.code yX5_purest cX5_purest 3 (some .int), Cond.methodLink RX5 206 yX2_purestSlice, Cond.instanceMethod yX2_purestSlice, Cond.selects RX2 yX2_purestSlice yX2_purestSlice, Cond.code yX2_purestSlice cX2_purestSlice 8 (some .int), Cond.methodLink RL 60 yX5_meanDepth, Cond.instanceMethod yX5_meanDepth, Cond.selects RX5 yX5_meanDepth yX5_meanDepth, Cond.code yX5_meanDepth cX5_meanDepth 3 (some .double), Cond.methodLink RX5 168 yX2_all, Cond.methodLink RX5 209 yX2_sumOfDepths, Cond.instanceMethod yX2_sumOfDepths, Cond.selects RX2 yX2_sumOfDepths yX2_sumOfDepths, Cond.code yX2_sumOfDepths cX2_sumOfDepths 3 (some .int), Cond.methodLink RL 64 yL_step, Cond.static yL_step, Cond.code yL_step cL_step 9 (some .int)]
def wsL_toldJar : List Cond := .code yL_toldJar cL_toldJar 12 (some .boolean) :: ((wsL_toldJar_r1 ++ (wsL_toldJar_r2 ++ (wsL_toldJar_r3 ++ (wsL_toldJar_r4 ++ (wsL_toldJar_r5 ++ (wsL_toldJar_r6 ++ wsL_toldJar_r7)))))) ++ wsX50 ++ wsX40 ++ wsX20 ++ wsX30 ++ (vx_atS RX5 257 "java/lang/IndexOutOfBoundsException" ["java/lang/RuntimeException", "java/lang/Exception"]).filter goodWord ++ (vx_atS RX5 104 "java/lang/IllegalArgumentException" ["java/lang/RuntimeException", "java/lang/Exception"]).filter goodWord)
def wsL_told_r1 : List Cond := [Cond.methodLink RL 68 yL_toldJar, Cond.static yL_toldJar, Cond.initialized RL, Cond.code yL_toldJar cL_toldJar 12 (some .boolean), Cond.arrayClass .int, Cond.methodLink RL 35 yX5_slice, Cond.instanceMethod yX5_slice, Cond.selects RX5 yX5_slice yX5_slice, Cond.initialized RX5, Cond.code yX5_slice cX5_slice 4 (some .int), Cond.fieldLink RX5 12 "SettlingJars" "now" "LSettlingJars$State;", Cond.fieldLink RX5 71 "SettlingJars$State" "jars" "[LSettlingJars$Jar;", Cond.fieldLink RX5 58 "SettlingJars$State" "settings" "LSettlingJars$Settings;", Cond.methodLink RX5 68 yX5_needSlice, Cond.static yX5_needSlice, Cond.code yX5_needSlice cX5_needSlice 2 none, Cond.methodLink RX5 37 yX5_needIndex, Cond.static yX5_needIndex, Cond.code yX5_needIndex cX5_needIndex 2 none, Cond.classLink RX5 253 "java/lang/IndexOutOfBoundsException", Cond.initialized "java/lang/IndexOutOfBoundsException", Cond.methodLink RX5 50 yX5_needRange, Cond.static yX5_needRange, Cond.code yX5_needRange cX5_needRange 3 none]
def wsL_told_r2 : List Cond := [Cond.classLink RX5 100 "java/lang/IllegalArgumentException", Cond.initialized "java/lang/IllegalArgumentException", Cond.methodLink RX5 180 yX2_sliceProperty, Cond.instanceMethod yX2_sliceProperty, Cond.selects RX2 yX2_sliceProperty yX2_sliceProperty, Cond.initialized RX2, Cond.code yX2_sliceProperty cX2_sliceProperty 4 (some .int), Cond.methodLink RX2 25 yX2_allIn, Cond.instanceMethod yX2_allIn, Cond.selects RX2 yX2_allIn yX2_allIn, Cond.code yX2_allIn cX2_allIn 4 (some .int), Cond.methodLink RX2 21 yX2_many, Cond.instanceMethod yX2_many, Cond.selects RX2 yX2_many yX2_many, Cond.code yX2_many cX2_many 3 (some .int), Cond.fieldLink RX2 9 "SettlingJars$Jar" "grains" "[I", Cond.methodLink RX2 65 yX3_isPacked, Cond.instanceMethod yX3_isPacked, Cond.selects RX3 yX3_isPacked yX3_isPacked, Cond.initialized RX3, Cond.code yX3_isPacked cX3_isPacked 2 (some .boolean), Cond.fieldLink RX3 9 "SettlingJars$Settings" "values" "[I", Cond.methodLink RX2 69 yX3_isClear, Cond.instanceMethod yX3_isClear]
def wsL_told_r3 : List Cond := [Cond.selects RX3 yX3_isClear yX3_isClear, Cond.code yX3_isClear cX3_isClear 2 (some .boolean), Cond.methodLink RX2 72 yX2_leadingClass, Cond.instanceMethod yX2_leadingClass, Cond.selects RX2 yX2_leadingClass yX2_leadingClass, Cond.code yX2_leadingClass cX2_leadingClass 5 (some .int), Cond.methodLink RX2 44 yX3_factorOf, Cond.instanceMethod yX3_factorOf, Cond.selects RX3 yX3_factorOf yX3_factorOf, Cond.code yX3_factorOf cX3_factorOf 2 (some .int), Cond.constant RX3 24 (1000000), Cond.methodLink RX3 25 Lib.Math.max.name, Cond.static Lib.Math.max.name, Cond.initialized "java/lang/Math", Cond.code Lib.Math.max.name Lib.Math.max.code 2 (some .int), Cond.methodLink RX2 49 yX3_roomOver, Cond.instanceMethod yX3_roomOver, Cond.selects RX3 yX3_roomOver yX3_roomOver, Cond.code yX3_roomOver cX3_roomOver 2 (some .int), Cond.methodLink RL 41 yX5_why, Cond.instanceMethod yX5_why, Cond.selects RX5 yX5_why yX5_why, Cond.code yX5_why cX5_why 4 (some .int), Cond.methodLink RX5 194 yX2_reasonToStay]
def wsL_told_r4 : List Cond := [Cond.instanceMethod yX2_reasonToStay, Cond.selects RX2 yX2_reasonToStay yX2_reasonToStay, Cond.code yX2_reasonToStay cX2_reasonToStay 6 (some .int), Cond.methodLink RX2 52 yX3_wantingToFall, Cond.instanceMethod yX3_wantingToFall, Cond.selects RX3 yX3_wantingToFall yX3_wantingToFall, Cond.code yX3_wantingToFall cX3_wantingToFall 5 (some .int), Cond.fieldLink RX3 15 "SettlingJars$Settings" "speeds" "[I", Cond.constant RX3 31 (100000), Cond.methodLink RX3 32 Lib.Math.min.name, Cond.static Lib.Math.min.name, Cond.code Lib.Math.min.name Lib.Math.min.code 2 (some .int), Cond.methodLink RL 44 yL_why, Cond.static yL_why, Cond.code yL_why cL_why 5 (some .int), Cond.methodLink RL 25 yL_room, Cond.static yL_room, Cond.code yL_room cL_room 3 (some .int), Cond.methodLink RL 9 yL_all, Cond.static yL_all, Cond.code yL_all cL_all 2 (some .int), Cond.methodLink RL 17 yL_factor, Cond.static yL_factor, Cond.code yL_factor cL_factor 3 (some .int)]
def wsL_told_r5 : List Cond := [Cond.constant RL 8 (1000000), Cond.methodLink RL 21 yL_wish, Cond.static yL_wish, Cond.code yL_wish cL_wish 5 (some .int), Cond.constantLong RL 15 (100000), Cond.methodLink RL 32 yL_leading, Cond.static yL_leading, Cond.code yL_leading cL_leading 4 (some .int), Cond.methodLink RL 47 yX5_jar, Cond.instanceMethod yX5_jar, Cond.selects RX5 yX5_jar yX5_jar, Cond.code yX5_jar cX5_jar 3 (some .int), Cond.methodLink RX5 184 yX2_property, Cond.instanceMethod yX2_property, Cond.selects RX2 yX2_property yX2_property, Cond.code yX2_property cX2_property 3 (some .int), Cond.methodLink RX2 75 yX2_all, Cond.instanceMethod yX2_all, Cond.selects RX2 yX2_all yX2_all, Cond.code yX2_all cX2_all 1 (some .int), Cond.methodLink RX2 29 yX2_allDownTo, Cond.instanceMethod yX2_allDownTo, Cond.selects RX2 yX2_allDownTo yX2_allDownTo, Cond.code yX2_allDownTo cX2_allDownTo 4 (some .int)]
def wsL_told_r6 : List Cond := [Cond.methodLink RX2 79 yX2_bedSlices, Cond.instanceMethod yX2_bedSlices, Cond.selects RX2 yX2_bedSlices yX2_bedSlices, Cond.code yX2_bedSlices cX2_bedSlices 3 (some .int), Cond.methodLink RX2 82 yX2_clearWater, Cond.instanceMethod yX2_clearWater, Cond.selects RX2 yX2_clearWater yX2_clearWater, Cond.code yX2_clearWater cX2_clearWater 3 (some .int), Cond.methodLink RX2 85 yX2_changesOfLeader, Cond.instanceMethod yX2_changesOfLeader, Cond.selects RX2 yX2_changesOfLeader yX2_changesOfLeader, Cond.code yX2_changesOfLeader cX2_changesOfLeader 5 (some .int), Cond.methodLink RX2 88 yX2_isAtRest, Cond.instanceMethod yX2_isAtRest, Cond.selects RX2 yX2_isAtRest yX2_isAtRest, Cond.code yX2_isAtRest cX2_isAtRest 4 (some .boolean), Cond.methodLink RX2 61 yX2_reasonToStay, Cond.methodLink RX2 92 yX2_allOf, Cond.instanceMethod yX2_allOf, Cond.selects RX2 yX2_allOf yX2_allOf, Cond.code yX2_allOf cX2_allOf 4 (some .int), Cond.methodLink RL 51 yL_prop, Cond.static yL_prop, Cond.code yL_prop cL_prop 9 (some .int)]
def wsL_told_r7 : List Cond := [Cond.methodLink RL 28 yL_sum, Cond.static yL_sum, Cond.code yL_sum cL_sum 5 (some .int), Cond.methodLink RL 54 yL_at, Cond.static yL_at, Cond.code yL_at cL_at 2 (some .int), Cond.methodLink RL 57 yX5_purest, Cond.instanceMethod yX5_purest, Cond.selects RX5 yX5_purest yX5_purest, Cond.code yX5_purest cX5_purest 3 (some .int), Cond.methodLink RX5 206 yX2_purestSlice, Cond.instanceMethod yX2_purestSlice, Cond.selects RX2 yX2_purestSlice yX2_purestSlice, Cond.code yX2_purestSlice cX2_purestSlice 8 (some .int), Cond.methodLink RL 60 yX5_meanDepth, Cond.instanceMethod yX5_meanDepth, Cond.selects RX5 yX5_meanDepth yX5_meanDepth, Cond.code yX5_meanDepth cX5_meanDepth 3 (some .double), Cond.methodLink RX5 168 yX2_all, Cond.methodLink RX5 209 yX2_sumOfDepths, Cond.instanceMethod yX2_sumOfDepths, Cond.selects RX2 yX2_sumOfDepths yX2_sumOfDepths, Cond.code yX2_sumOfDepths cX2_sumOfDepths 3 (some .int), Cond.methodLink RL 64 yL_step]
def wsL_told_r8 : List Cond := [Cond.static yL_step, Cond.code yL_step cL_step 9 (some .int), Cond.methodLink RL 72 yX5_setting, Cond.instanceMethod yX5_setting, Cond.selects RX5 yX5_setting yX5_setting, Cond.code yX5_setting cX5_setting 2 (some .int), Cond.fieldLink RX5 62 "SettlingJars$Settings" "values" "[I", Cond.methodLink RL 76 yX5_grains, Cond.instanceMethod yX5_grains, Cond.selects RX5 yX5_grains yX5_grains, Cond.code yX5_grains cX5_grains 3 (some .int), Cond.fieldLink RX5 82 "SettlingJars$State" "poured" "[I", Cond.fieldLink RX5 97 "SettlingJars$State" "drawn" "[I", Cond.fieldLink RX5 65 "SettlingJars$Settings" "speeds" "[I", Cond.methodLink RX5 187 yX4_allOf, Cond.instanceMethod yX4_allOf, Cond.selects RX4 yX4_allOf yX4_allOf, Cond.initialized RX4, Cond.code yX4_allOf cX4_allOf 4 (some .int), Cond.fieldLink RX4 20 "SettlingJars$State" "jars" "[LSettlingJars$Jar;", Cond.methodLink RX4 56 yX2_allOf, Cond.methodLink RL 79 yX5_count, Cond.instanceMethod yX5_count, Cond.selects RX5 yX5_count yX5_count]
def wsL_told_r9 : List Cond := [Cond.code yX5_count cX5_count 2 (some .int), Cond.fieldLink RX5 120 "SettlingJars$State" "steps" "I", Cond.fieldLink RX5 133 "SettlingJars$State" "fallen" "I", Cond.fieldLink RX5 19 "SettlingJars" "history" "LSettlingJars$History;", Cond.methodLink RX5 188 yX4_all, Cond.instanceMethod yX4_all, Cond.selects RX4 yX4_all yX4_all, Cond.code yX4_all cX4_all 3 (some .int), Cond.methodLink RX4 52 yX2_all, Cond.methodLink RX5 189 yX4_packedSlices, Cond.instanceMethod yX4_packedSlices, Cond.selects RX4 yX4_packedSlices yX4_packedSlices, Cond.code yX4_packedSlices cX4_packedSlices 3 (some .int), Cond.fieldLink RX4 12 "SettlingJars$State" "settings" "LSettlingJars$Settings;", Cond.methodLink RX4 60 yX2_packedSlices, Cond.instanceMethod yX2_packedSlices, Cond.selects RX2 yX2_packedSlices yX2_packedSlices, Cond.code yX2_packedSlices cX2_packedSlices 4 (some .int), Cond.methodLink RX5 191 yX4_clearSlices, Cond.instanceMethod yX4_clearSlices, Cond.selects RX4 yX4_clearSlices yX4_clearSlices, Cond.code yX4_clearSlices cX4_clearSlices 3 (some .int), Cond.methodLink RX4 64 yX2_clearSlices, Cond.instanceMethod yX2_clearSlices]
def wsL_told_r10 : List Cond := [Cond.selects RX2 yX2_clearSlices yX2_clearSlices, Cond.code yX2_clearSlices cX2_clearSlices 4 (some .int), Cond.methodLink RX5 174 yX1_size, Cond.instanceMethod yX1_size, Cond.selects RX1 yX1_size yX1_size, Cond.initialized RX1, Cond.code yX1_size cX1_size 1 (some .int), Cond.fieldLink RX1 16 "SettlingJars$History" "size" "I"]
def wsL_told : List Cond := .code yL_told cL_told 11 (some .boolean) :: ((wsL_told_r1 ++ (wsL_told_r2 ++ (wsL_told_r3 ++ (wsL_told_r4 ++ (wsL_told_r5 ++ (wsL_told_r6 ++ (wsL_told_r7 ++ (wsL_told_r8 ++ (wsL_told_r9 ++ wsL_told_r10))))))))) ++ wsX50 ++ wsX40 ++ wsX20 ++ wsX30 ++ wsX10 ++ (vx_atS RX5 257 "java/lang/IndexOutOfBoundsException" ["java/lang/RuntimeException", "java/lang/Exception"]).filter goodWord ++ (vx_atS RX5 104 "java/lang/IllegalArgumentException" ["java/lang/RuntimeException", "java/lang/Exception"]).filter goodWord)
def wsL_ahead_r1 : List Cond := [Cond.arrayClass .int, Cond.methodLink RL 54 yL_at, Cond.static yL_at, Cond.initialized RL, Cond.code yL_at cL_at 2 (some .int), Cond.methodLink RL 64 yL_step, Cond.static yL_step, Cond.code yL_step cL_step 9 (some .int), Cond.methodLink RL 17 yL_factor, Cond.static yL_factor, Cond.code yL_factor cL_factor 3 (some .int), Cond.constant RL 8 (1000000), Cond.methodLink RL 9 yL_all, Cond.static yL_all, Cond.code yL_all cL_all 2 (some .int), Cond.methodLink RL 21 yL_wish, Cond.static yL_wish, Cond.code yL_wish cL_wish 5 (some .int), Cond.constantLong RL 15 (100000), Cond.methodLink RL 25 yL_room, Cond.static yL_room, Cond.code yL_room cL_room 3 (some .int), Cond.methodLink RL 82 yX5_ifSettled, Cond.instanceMethod yX5_ifSettled]
def wsL_ahead_r2 : List Cond := [Cond.selects RX5 yX5_ifSettled yX5_ifSettled, Cond.initialized RX5, Cond.code yX5_ifSettled cX5_ifSettled 4 (some .int), Cond.fieldLink RX5 33 "SettlingJars" "spare" "LSettlingJars$Jar;", Cond.fieldLink RX5 12 "SettlingJars" "now" "LSettlingJars$State;", Cond.fieldLink RX5 71 "SettlingJars$State" "jars" "[LSettlingJars$Jar;", Cond.fieldLink RX5 58 "SettlingJars$State" "settings" "LSettlingJars$Settings;", Cond.methodLink RX5 37 yX5_needIndex, Cond.static yX5_needIndex, Cond.code yX5_needIndex cX5_needIndex 2 none, Cond.classLink RX5 253 "java/lang/IndexOutOfBoundsException", Cond.initialized "java/lang/IndexOutOfBoundsException", Cond.methodLink RX5 50 yX5_needRange, Cond.static yX5_needRange, Cond.code yX5_needRange cX5_needRange 3 none, Cond.classLink RX5 100 "java/lang/IllegalArgumentException", Cond.initialized "java/lang/IllegalArgumentException", Cond.methodLink RX5 197 yX2_copyFrom, Cond.instanceMethod yX2_copyFrom, Cond.selects RX2 yX2_copyFrom yX2_copyFrom, Cond.initialized RX2, Cond.code yX2_copyFrom cX2_copyFrom 2 none, Cond.fieldLink RX2 9 "SettlingJars$Jar" "grains" "[I", Cond.methodLink RX2 15 arraycopyName]
def wsL_ahead_r3 : List Cond := [Cond.native arraycopyName, Cond.static arraycopyName, Cond.initialized "java/lang/System", Cond.methodLink RX5 129 yX2_goOn, Cond.instanceMethod yX2_goOn, Cond.selects RX2 yX2_goOn yX2_goOn, Cond.code yX2_goOn cX2_goOn 6 (some .int), Cond.methodLink RX2 36 yX2_goOneStep, Cond.instanceMethod yX2_goOneStep, Cond.selects RX2 yX2_goOneStep yX2_goOneStep, Cond.code yX2_goOneStep cX2_goOneStep 4 (some .int), Cond.methodLink RX2 40 yX2_fallFrom, Cond.instanceMethod yX2_fallFrom, Cond.selects RX2 yX2_fallFrom yX2_fallFrom, Cond.code yX2_fallFrom cX2_fallFrom 9 (some .int), Cond.methodLink RX2 56 Lib.Math.min.name, Cond.static Lib.Math.min.name, Cond.initialized "java/lang/Math", Cond.code Lib.Math.min.name Lib.Math.min.code 2 (some .int), Cond.methodLink RX2 25 yX2_allIn, Cond.instanceMethod yX2_allIn, Cond.selects RX2 yX2_allIn yX2_allIn, Cond.code yX2_allIn cX2_allIn 4 (some .int), Cond.methodLink RX2 21 yX2_many]
def wsL_ahead_r4 : List Cond := [Cond.instanceMethod yX2_many, Cond.selects RX2 yX2_many yX2_many, Cond.code yX2_many cX2_many 3 (some .int), Cond.methodLink RX2 44 yX3_factorOf, Cond.instanceMethod yX3_factorOf, Cond.selects RX3 yX3_factorOf yX3_factorOf, Cond.initialized RX3, Cond.code yX3_factorOf cX3_factorOf 2 (some .int), Cond.constant RX3 24 (1000000), Cond.fieldLink RX3 9 "SettlingJars$Settings" "values" "[I", Cond.methodLink RX3 25 Lib.Math.max.name, Cond.static Lib.Math.max.name, Cond.code Lib.Math.max.name Lib.Math.max.code 2 (some .int), Cond.methodLink RX2 49 yX3_roomOver, Cond.instanceMethod yX3_roomOver, Cond.selects RX3 yX3_roomOver yX3_roomOver, Cond.code yX3_roomOver cX3_roomOver 2 (some .int), Cond.methodLink RX2 52 yX3_wantingToFall, Cond.instanceMethod yX3_wantingToFall, Cond.selects RX3 yX3_wantingToFall yX3_wantingToFall, Cond.code yX3_wantingToFall cX3_wantingToFall 5 (some .int), Cond.fieldLink RX3 15 "SettlingJars$Settings" "speeds" "[I", Cond.constant RX3 31 (100000), Cond.methodLink RX3 32 Lib.Math.min.name]
def wsL_ahead_r5 : List Cond := [Cond.methodLink RX2 32 yX2_put, Cond.instanceMethod yX2_put, Cond.selects RX2 yX2_put yX2_put, Cond.code yX2_put cX2_put 4 none, Cond.methodLink RX5 184 yX2_property, Cond.instanceMethod yX2_property, Cond.selects RX2 yX2_property yX2_property, Cond.code yX2_property cX2_property 3 (some .int), Cond.methodLink RX2 75 yX2_all, Cond.instanceMethod yX2_all, Cond.selects RX2 yX2_all yX2_all, Cond.code yX2_all cX2_all 1 (some .int), Cond.methodLink RX2 29 yX2_allDownTo, Cond.instanceMethod yX2_allDownTo, Cond.selects RX2 yX2_allDownTo yX2_allDownTo, Cond.code yX2_allDownTo cX2_allDownTo 4 (some .int), Cond.methodLink RX2 79 yX2_bedSlices, Cond.instanceMethod yX2_bedSlices, Cond.selects RX2 yX2_bedSlices yX2_bedSlices, Cond.code yX2_bedSlices cX2_bedSlices 3 (some .int), Cond.methodLink RX2 65 yX3_isPacked, Cond.instanceMethod yX3_isPacked, Cond.selects RX3 yX3_isPacked yX3_isPacked, Cond.code yX3_isPacked cX3_isPacked 2 (some .boolean)]
def wsL_ahead_r6 : List Cond := [Cond.methodLink RX2 82 yX2_clearWater, Cond.instanceMethod yX2_clearWater, Cond.selects RX2 yX2_clearWater yX2_clearWater, Cond.code yX2_clearWater cX2_clearWater 3 (some .int), Cond.methodLink RX2 69 yX3_isClear, Cond.instanceMethod yX3_isClear, Cond.selects RX3 yX3_isClear yX3_isClear, Cond.code yX3_isClear cX3_isClear 2 (some .boolean), Cond.methodLink RX2 85 yX2_changesOfLeader, Cond.instanceMethod yX2_changesOfLeader, Cond.selects RX2 yX2_changesOfLeader yX2_changesOfLeader, Cond.code yX2_changesOfLeader cX2_changesOfLeader 5 (some .int), Cond.methodLink RX2 72 yX2_leadingClass, Cond.instanceMethod yX2_leadingClass, Cond.selects RX2 yX2_leadingClass yX2_leadingClass, Cond.code yX2_leadingClass cX2_leadingClass 5 (some .int), Cond.methodLink RX2 88 yX2_isAtRest, Cond.instanceMethod yX2_isAtRest, Cond.selects RX2 yX2_isAtRest yX2_isAtRest, Cond.code yX2_isAtRest cX2_isAtRest 4 (some .boolean), Cond.methodLink RX2 61 yX2_reasonToStay, Cond.instanceMethod yX2_reasonToStay, Cond.selects RX2 yX2_reasonToStay yX2_reasonToStay, Cond.code yX2_reasonToStay cX2_reasonToStay 6 (some .int)]
def wsL_ahead_r7 : List Cond := [Cond.methodLink RX2 92 yX2_allOf, Cond.instanceMethod yX2_allOf, Cond.selects RX2 yX2_allOf yX2_allOf, Cond.code yX2_allOf cX2_allOf 4 (some .int), Cond.methodLink RL 51 yL_prop, Cond.static yL_prop, Cond.code yL_prop cL_prop 9 (some .int), Cond.methodLink RL 28 yL_sum, Cond.static yL_sum, Cond.code yL_sum cL_sum 5 (some .int), Cond.methodLink RL 32 yL_leading, Cond.static yL_leading, Cond.code yL_leading cL_leading 4 (some .int), Cond.methodLink RL 85 yX5_clearIn, Cond.instanceMethod yX5_clearIn, Cond.selects RX5 yX5_clearIn yX5_clearIn, Cond.code yX5_clearIn cX5_clearIn 4 (some .int), Cond.methodLink RX5 200 yX2_clearWater, Cond.methodLink RX5 203 yX2_goOneStep, Cond.methodLink RL 88 yX5_restIn, Cond.instanceMethod yX5_restIn, Cond.selects RX5 yX5_restIn yX5_restIn, Cond.code yX5_restIn cX5_restIn 3 (some .int)]
def wsL_ahead : List Cond := .code yL_ahead cL_ahead 13 (some .boolean) :: ((wsL_ahead_r1 ++ (wsL_ahead_r2 ++ (wsL_ahead_r3 ++ (wsL_ahead_r4 ++ (wsL_ahead_r5 ++ (wsL_ahead_r6 ++ wsL_ahead_r7)))))) ++ wsX50 ++ wsX40 ++ wsX20 ++ wsX30 ++ (vx_atS RX5 257 "java/lang/IndexOutOfBoundsException" ["java/lang/RuntimeException", "java/lang/Exception"]).filter goodWord ++ (vx_atS RX5 104 "java/lang/IllegalArgumentException" ["java/lang/RuntimeException", "java/lang/Exception"]).filter goodWord)
def wsL_act_r1 : List Cond := [Cond.methodLink RL 54 yL_at, Cond.static yL_at, Cond.initialized RL, Cond.code yL_at cL_at 2 (some .int), Cond.methodLink RL 28 yL_sum, Cond.static yL_sum, Cond.code yL_sum cL_sum 5 (some .int), Cond.methodLink RL 91 yX5_pour, Cond.instanceMethod yX5_pour, Cond.selects RX5 yX5_pour yX5_pour, Cond.initialized RX5, Cond.code yX5_pour cX5_pour 6 (some .int), Cond.fieldLink RX5 12 "SettlingJars" "now" "LSettlingJars$State;", Cond.fieldLink RX5 71 "SettlingJars$State" "jars" "[LSettlingJars$Jar;", Cond.fieldLink RX5 19 "SettlingJars" "history" "LSettlingJars$History;", Cond.fieldLink RX5 82 "SettlingJars$State" "poured" "[I", Cond.methodLink RX5 68 yX5_needSlice, Cond.static yX5_needSlice, Cond.code yX5_needSlice cX5_needSlice 2 none, Cond.methodLink RX5 37 yX5_needIndex, Cond.static yX5_needIndex, Cond.code yX5_needIndex cX5_needIndex 2 none, Cond.classLink RX5 253 "java/lang/IndexOutOfBoundsException", Cond.initialized "java/lang/IndexOutOfBoundsException"]
def wsL_act_r2 : List Cond := [Cond.methodLink RX5 50 yX5_needRange, Cond.static yX5_needRange, Cond.code yX5_needRange cX5_needRange 3 none, Cond.classLink RX5 100 "java/lang/IllegalArgumentException", Cond.initialized "java/lang/IllegalArgumentException", Cond.methodLink RX5 75 yX5_needRoom, Cond.static yX5_needRoom, Cond.code yX5_needRoom cX5_needRoom 2 none, Cond.classLink RX5 124 "java/lang/IllegalStateException", Cond.initialized "java/lang/IllegalStateException", Cond.methodLink RX5 168 yX2_all, Cond.instanceMethod yX2_all, Cond.selects RX2 yX2_all yX2_all, Cond.initialized RX2, Cond.code yX2_all cX2_all 1 (some .int), Cond.methodLink RX2 29 yX2_allDownTo, Cond.instanceMethod yX2_allDownTo, Cond.selects RX2 yX2_allDownTo yX2_allDownTo, Cond.code yX2_allDownTo cX2_allDownTo 4 (some .int), Cond.methodLink RX2 25 yX2_allIn, Cond.instanceMethod yX2_allIn, Cond.selects RX2 yX2_allIn yX2_allIn, Cond.code yX2_allIn cX2_allIn 4 (some .int), Cond.methodLink RX2 21 yX2_many]
def wsL_act_r3 : List Cond := [Cond.instanceMethod yX2_many, Cond.selects RX2 yX2_many yX2_many, Cond.code yX2_many cX2_many 3 (some .int), Cond.fieldLink RX2 9 "SettlingJars$Jar" "grains" "[I", Cond.methodLink RX5 54 yX1_keep, Cond.instanceMethod yX1_keep, Cond.selects RX1 yX1_keep yX1_keep, Cond.initialized RX1, Cond.code yX1_keep cX1_keep 2 none, Cond.fieldLink RX1 11 "SettlingJars$History" "saved" "[LSettlingJars$State;", Cond.fieldLink RX1 20 "SettlingJars$History" "oldest" "I", Cond.fieldLink RX1 16 "SettlingJars$History" "size" "I", Cond.methodLink RX1 23 yX4_copyFrom, Cond.instanceMethod yX4_copyFrom, Cond.selects RX4 yX4_copyFrom yX4_copyFrom, Cond.initialized RX4, Cond.code yX4_copyFrom cX4_copyFrom 3 none, Cond.fieldLink RX4 12 "SettlingJars$State" "settings" "LSettlingJars$Settings;", Cond.fieldLink RX4 20 "SettlingJars$State" "jars" "[LSettlingJars$Jar;", Cond.fieldLink RX4 24 "SettlingJars$State" "poured" "[I", Cond.methodLink RX4 39 arraycopyName, Cond.native arraycopyName, Cond.static arraycopyName, Cond.initialized "java/lang/System"]
def wsL_act_r4 : List Cond := [Cond.fieldLink RX4 28 "SettlingJars$State" "drawn" "[I", Cond.fieldLink RX4 45 "SettlingJars$State" "steps" "I", Cond.fieldLink RX4 49 "SettlingJars$State" "fallen" "I", Cond.methodLink RX4 32 yX3_copyFrom, Cond.instanceMethod yX3_copyFrom, Cond.selects RX3 yX3_copyFrom yX3_copyFrom, Cond.initialized RX3, Cond.code yX3_copyFrom cX3_copyFrom 2 none, Cond.fieldLink RX3 9 "SettlingJars$Settings" "values" "[I", Cond.methodLink RX3 18 arraycopyName, Cond.fieldLink RX3 15 "SettlingJars$Settings" "speeds" "[I", Cond.methodLink RX4 36 yX2_copyFrom, Cond.instanceMethod yX2_copyFrom, Cond.selects RX2 yX2_copyFrom yX2_copyFrom, Cond.code yX2_copyFrom cX2_copyFrom 2 none, Cond.methodLink RX2 15 arraycopyName, Cond.methodLink RX5 79 yX2_put, Cond.instanceMethod yX2_put, Cond.selects RX2 yX2_put yX2_put, Cond.code yX2_put cX2_put 4 none, Cond.methodLink RX5 85 yX2_allIn, Cond.methodLink RL 9 yL_all, Cond.static yL_all, Cond.code yL_all cL_all 2 (some .int)]
def wsL_act_r5 : List Cond := [Cond.methodLink RL 64 yL_step, Cond.static yL_step, Cond.code yL_step cL_step 9 (some .int), Cond.methodLink RL 17 yL_factor, Cond.static yL_factor, Cond.code yL_factor cL_factor 3 (some .int), Cond.constant RL 8 (1000000), Cond.methodLink RL 21 yL_wish, Cond.static yL_wish, Cond.code yL_wish cL_wish 5 (some .int), Cond.constantLong RL 15 (100000), Cond.methodLink RL 25 yL_room, Cond.static yL_room, Cond.code yL_room cL_room 3 (some .int), Cond.methodLink RL 95 yX5_settle, Cond.instanceMethod yX5_settle, Cond.selects RX5 yX5_settle yX5_settle, Cond.code yX5_settle cX5_settle 4 (some .int), Cond.fieldLink RX5 120 "SettlingJars$State" "steps" "I", Cond.fieldLink RX5 58 "SettlingJars$State" "settings" "LSettlingJars$Settings;", Cond.fieldLink RX5 133 "SettlingJars$State" "fallen" "I", Cond.methodLink RX5 129 yX2_goOn, Cond.instanceMethod yX2_goOn, Cond.selects RX2 yX2_goOn yX2_goOn]
def wsL_act_r6 : List Cond := [Cond.code yX2_goOn cX2_goOn 6 (some .int), Cond.methodLink RX2 36 yX2_goOneStep, Cond.instanceMethod yX2_goOneStep, Cond.selects RX2 yX2_goOneStep yX2_goOneStep, Cond.code yX2_goOneStep cX2_goOneStep 4 (some .int), Cond.methodLink RX2 40 yX2_fallFrom, Cond.instanceMethod yX2_fallFrom, Cond.selects RX2 yX2_fallFrom yX2_fallFrom, Cond.code yX2_fallFrom cX2_fallFrom 9 (some .int), Cond.methodLink RX2 56 Lib.Math.min.name, Cond.static Lib.Math.min.name, Cond.initialized "java/lang/Math", Cond.code Lib.Math.min.name Lib.Math.min.code 2 (some .int), Cond.methodLink RX2 44 yX3_factorOf, Cond.instanceMethod yX3_factorOf, Cond.selects RX3 yX3_factorOf yX3_factorOf, Cond.code yX3_factorOf cX3_factorOf 2 (some .int), Cond.constant RX3 24 (1000000), Cond.methodLink RX3 25 Lib.Math.max.name, Cond.static Lib.Math.max.name, Cond.code Lib.Math.max.name Lib.Math.max.code 2 (some .int), Cond.methodLink RX2 49 yX3_roomOver, Cond.instanceMethod yX3_roomOver, Cond.selects RX3 yX3_roomOver yX3_roomOver]
def wsL_act_r7 : List Cond := [Cond.code yX3_roomOver cX3_roomOver 2 (some .int), Cond.methodLink RX2 52 yX3_wantingToFall, Cond.instanceMethod yX3_wantingToFall, Cond.selects RX3 yX3_wantingToFall yX3_wantingToFall, Cond.code yX3_wantingToFall cX3_wantingToFall 5 (some .int), Cond.constant RX3 31 (100000), Cond.methodLink RX3 32 Lib.Math.min.name, Cond.methodLink RX2 32 yX2_put, Cond.methodLink RL 98 yX5_stir, Cond.instanceMethod yX5_stir, Cond.selects RX5 yX5_stir yX5_stir, Cond.code yX5_stir cX5_stir 6 (some .int), Cond.methodLink RX5 89 yX2_spread, Cond.instanceMethod yX2_spread, Cond.selects RX2 yX2_spread yX2_spread, Cond.code yX2_spread cX2_spread 9 (some .int), Cond.methodLink RL 101 yX5_draw, Cond.instanceMethod yX5_draw, Cond.selects RX5 yX5_draw yX5_draw, Cond.code yX5_draw cX5_draw 8 (some .int), Cond.fieldLink RX5 97 "SettlingJars$State" "drawn" "[I", Cond.methodLink RX5 93 yX2_many, Cond.methodLink RL 104 yX5_decant, Cond.instanceMethod yX5_decant]
def wsL_act_r8 : List Cond := [Cond.selects RX5 yX5_decant yX5_decant, Cond.code yX5_decant cX5_decant 5 (some .int), Cond.methodLink RX5 107 yX2_allDownTo, Cond.methodLink RX5 110 yX2_pourInto, Cond.instanceMethod yX2_pourInto, Cond.selects RX2 yX2_pourInto yX2_pourInto, Cond.code yX2_pourInto cX2_pourInto 6 none, Cond.methodLink RL 107 yX5_turn, Cond.instanceMethod yX5_turn, Cond.selects RX5 yX5_turn yX5_turn, Cond.code yX5_turn cX5_turn 2 (some .int), Cond.methodLink RX5 113 yX2_turnOver, Cond.instanceMethod yX2_turnOver, Cond.selects RX2 yX2_turnOver yX2_turnOver, Cond.code yX2_turnOver cX2_turnOver 4 none, Cond.methodLink RX5 116 yX2_packedSlices, Cond.instanceMethod yX2_packedSlices, Cond.selects RX2 yX2_packedSlices yX2_packedSlices, Cond.code yX2_packedSlices cX2_packedSlices 4 (some .int), Cond.methodLink RX2 65 yX3_isPacked, Cond.instanceMethod yX3_isPacked, Cond.selects RX3 yX3_isPacked yX3_isPacked, Cond.code yX3_isPacked cX3_isPacked 2 (some .boolean), Cond.methodLink RL 110 yX5_setSpeed]
def wsL_act_r9 : List Cond := [Cond.instanceMethod yX5_setSpeed, Cond.selects RX5 yX5_setSpeed yX5_setSpeed, Cond.code yX5_setSpeed cX5_setSpeed 4 (some .int), Cond.fieldLink RX5 65 "SettlingJars$Settings" "speeds" "[I", Cond.methodLink RL 113 yX5_set, Cond.instanceMethod yX5_set, Cond.selects RX5 yX5_set yX5_set, Cond.code yX5_set cX5_set 4 (some .int), Cond.fieldLink RX5 41 "SettlingJars$Settings" "LEAST" "[I", Cond.fieldLink RX5 47 "SettlingJars$Settings" "GREATEST" "[I", Cond.fieldLink RX5 62 "SettlingJars$Settings" "values" "[I"]
def wsL_act : List Cond := .code yL_act cL_act 18 (some .boolean) :: ((wsL_act_r1 ++ (wsL_act_r2 ++ (wsL_act_r3 ++ (wsL_act_r4 ++ (wsL_act_r5 ++ (wsL_act_r6 ++ (wsL_act_r7 ++ (wsL_act_r8 ++ wsL_act_r9)))))))) ++ wsX50 ++ wsX40 ++ wsX20 ++ wsX10 ++ wsX30 ++ (vx_atS RX5 257 "java/lang/IndexOutOfBoundsException" ["java/lang/RuntimeException", "java/lang/Exception"]).filter goodWord ++ (vx_atS RX5 104 "java/lang/IllegalArgumentException" ["java/lang/RuntimeException", "java/lang/Exception"]).filter goodWord ++ (vx_atS RX5 128 "java/lang/IllegalStateException" ["java/lang/RuntimeException", "java/lang/Exception"]).filter goodWord)
def wsL_law0_r1 : List Cond := [Cond.classLink RL 36 RX5, Cond.instantiable RX5 4, Cond.initialized RX5, Cond.arrayClass .int, Cond.constant RL 124 (2147483647), Cond.methodLink RL 116 yX5_init, Cond.instanceMethod yX5_init, Cond.code yX5_init cX5_init 1 none, Cond.methodLink RX5 3 objectInit, Cond.instanceMethod objectInit, Cond.code objectInit ⟨#[0xb1]⟩ 1 none, Cond.classLink RX5 9 RX4, Cond.instantiable RX4 6, Cond.initialized RX4, Cond.fieldLink RX5 12 "SettlingJars" "now" "LSettlingJars$State;", Cond.classLink RX5 16 RX1, Cond.instantiable RX1 3, Cond.initialized RX1, Cond.fieldLink RX5 19 "SettlingJars" "history" "LSettlingJars$History;", Cond.classLink RX5 23 RX0, Cond.instantiable RX0 2, Cond.initialized RX0, Cond.fieldLink RX5 26 "SettlingJars" "charge" "LSettlingJars$Charge;", Cond.classLink RX5 30 RX2]
def wsL_law0_r2 : List Cond := [Cond.instantiable RX2 1, Cond.initialized RX2, Cond.fieldLink RX5 33 "SettlingJars" "spare" "LSettlingJars$Jar;", Cond.methodLink RX5 11 yX4_init, Cond.instanceMethod yX4_init, Cond.code yX4_init cX4_init 2 none, Cond.methodLink RX4 3 objectInit, Cond.classLink RX4 9 RX3, Cond.instantiable RX3 2, Cond.initialized RX3, Cond.fieldLink RX4 12 "SettlingJars$State" "settings" "LSettlingJars$Settings;", Cond.classLink RX4 18 RX2, Cond.fieldLink RX4 20 "SettlingJars$State" "jars" "[LSettlingJars$Jar;", Cond.fieldLink RX4 24 "SettlingJars$State" "poured" "[I", Cond.fieldLink RX4 28 "SettlingJars$State" "drawn" "[I", Cond.instanceMethod yX3_init, Cond.code yX3_init cX3_init 1 none, Cond.methodLink RX3 3 objectInit, Cond.fieldLink RX3 9 "SettlingJars$Settings" "values" "[I", Cond.fieldLink RX3 15 "SettlingJars$Settings" "speeds" "[I", Cond.instanceMethod yX2_init, Cond.code yX2_init cX2_init 1 none, Cond.methodLink RX2 3 objectInit, Cond.fieldLink RX2 9 "SettlingJars$Jar" "grains" "[I"]
def wsL_law0_r3 : List Cond := [Cond.methodLink RX5 18 yX1_init, Cond.instanceMethod yX1_init, Cond.code yX1_init cX1_init 2 none, Cond.methodLink RX1 1 objectInit, Cond.classLink RX1 9 RX4, Cond.fieldLink RX1 11 "SettlingJars$History" "saved" "[LSettlingJars$State;", Cond.methodLink RX1 15 yX4_init, Cond.instanceMethod yX0_init, Cond.code yX0_init cX0_init 1 none, Cond.methodLink RX0 3 objectInit, Cond.arrayClass .char, Cond.fieldLink RX0 11 "SettlingJars$Charge" "signs" "[C", Cond.methodLink RL 117 yL_told, Cond.static yL_told, Cond.initialized RL, Cond.code yL_told cL_told 11 (some .boolean), Cond.methodLink RL 68 yL_toldJar, Cond.static yL_toldJar, Cond.code yL_toldJar cL_toldJar 12 (some .boolean), Cond.methodLink RL 35 yX5_slice, Cond.instanceMethod yX5_slice, Cond.selects RX5 yX5_slice yX5_slice, Cond.code yX5_slice cX5_slice 4 (some .int), Cond.fieldLink RX5 71 "SettlingJars$State" "jars" "[LSettlingJars$Jar;"]
def wsL_law0_r4 : List Cond := [Cond.fieldLink RX5 58 "SettlingJars$State" "settings" "LSettlingJars$Settings;", Cond.methodLink RX5 68 yX5_needSlice, Cond.static yX5_needSlice, Cond.code yX5_needSlice cX5_needSlice 2 none, Cond.methodLink RX5 37 yX5_needIndex, Cond.static yX5_needIndex, Cond.code yX5_needIndex cX5_needIndex 2 none, Cond.classLink RX5 253 "java/lang/IndexOutOfBoundsException", Cond.initialized "java/lang/IndexOutOfBoundsException", Cond.methodLink RX5 50 yX5_needRange, Cond.static yX5_needRange, Cond.code yX5_needRange cX5_needRange 3 none, Cond.classLink RX5 100 "java/lang/IllegalArgumentException", Cond.initialized "java/lang/IllegalArgumentException", Cond.methodLink RX5 180 yX2_sliceProperty, Cond.instanceMethod yX2_sliceProperty, Cond.selects RX2 yX2_sliceProperty yX2_sliceProperty, Cond.code yX2_sliceProperty cX2_sliceProperty 4 (some .int), Cond.methodLink RX2 25 yX2_allIn, Cond.instanceMethod yX2_allIn, Cond.selects RX2 yX2_allIn yX2_allIn, Cond.code yX2_allIn cX2_allIn 4 (some .int), Cond.methodLink RX2 21 yX2_many, Cond.instanceMethod yX2_many]
def wsL_law0_r5 : List Cond := [Cond.selects RX2 yX2_many yX2_many, Cond.code yX2_many cX2_many 3 (some .int), Cond.methodLink RX2 65 yX3_isPacked, Cond.instanceMethod yX3_isPacked, Cond.selects RX3 yX3_isPacked yX3_isPacked, Cond.code yX3_isPacked cX3_isPacked 2 (some .boolean), Cond.methodLink RX2 69 yX3_isClear, Cond.instanceMethod yX3_isClear, Cond.selects RX3 yX3_isClear yX3_isClear, Cond.code yX3_isClear cX3_isClear 2 (some .boolean), Cond.methodLink RX2 72 yX2_leadingClass, Cond.instanceMethod yX2_leadingClass, Cond.selects RX2 yX2_leadingClass yX2_leadingClass, Cond.code yX2_leadingClass cX2_leadingClass 5 (some .int), Cond.methodLink RX2 44 yX3_factorOf, Cond.instanceMethod yX3_factorOf, Cond.selects RX3 yX3_factorOf yX3_factorOf, Cond.code yX3_factorOf cX3_factorOf 2 (some .int), Cond.constant RX3 24 (1000000), Cond.methodLink RX3 25 Lib.Math.max.name, Cond.static Lib.Math.max.name, Cond.initialized "java/lang/Math", Cond.code Lib.Math.max.name Lib.Math.max.code 2 (some .int), Cond.methodLink RX2 49 yX3_roomOver]
def wsL_law0_r6 : List Cond := [Cond.instanceMethod yX3_roomOver, Cond.selects RX3 yX3_roomOver yX3_roomOver, Cond.code yX3_roomOver cX3_roomOver 2 (some .int), Cond.methodLink RL 41 yX5_why, Cond.instanceMethod yX5_why, Cond.selects RX5 yX5_why yX5_why, Cond.code yX5_why cX5_why 4 (some .int), Cond.methodLink RX5 194 yX2_reasonToStay, Cond.instanceMethod yX2_reasonToStay, Cond.selects RX2 yX2_reasonToStay yX2_reasonToStay, Cond.code yX2_reasonToStay cX2_reasonToStay 6 (some .int), Cond.methodLink RX2 52 yX3_wantingToFall, Cond.instanceMethod yX3_wantingToFall, Cond.selects RX3 yX3_wantingToFall yX3_wantingToFall, Cond.code yX3_wantingToFall cX3_wantingToFall 5 (some .int), Cond.constant RX3 31 (100000), Cond.methodLink RX3 32 Lib.Math.min.name, Cond.static Lib.Math.min.name, Cond.code Lib.Math.min.name Lib.Math.min.code 2 (some .int), Cond.methodLink RL 44 yL_why, Cond.static yL_why, Cond.code yL_why cL_why 5 (some .int), Cond.methodLink RL 25 yL_room, Cond.static yL_room]
def wsL_law0_r7 : List Cond := [Cond.code yL_room cL_room 3 (some .int), Cond.methodLink RL 9 yL_all, Cond.static yL_all, Cond.code yL_all cL_all 2 (some .int), Cond.methodLink RL 17 yL_factor, Cond.static yL_factor, Cond.code yL_factor cL_factor 3 (some .int), Cond.constant RL 8 (1000000), Cond.methodLink RL 21 yL_wish, Cond.static yL_wish, Cond.code yL_wish cL_wish 5 (some .int), Cond.constantLong RL 15 (100000), Cond.methodLink RL 32 yL_leading, Cond.static yL_leading, Cond.code yL_leading cL_leading 4 (some .int), Cond.methodLink RL 47 yX5_jar, Cond.instanceMethod yX5_jar, Cond.selects RX5 yX5_jar yX5_jar, Cond.code yX5_jar cX5_jar 3 (some .int), Cond.methodLink RX5 184 yX2_property, Cond.instanceMethod yX2_property, Cond.selects RX2 yX2_property yX2_property, Cond.code yX2_property cX2_property 3 (some .int), Cond.methodLink RX2 75 yX2_all]
def wsL_law0_r8 : List Cond := [Cond.instanceMethod yX2_all, Cond.selects RX2 yX2_all yX2_all, Cond.code yX2_all cX2_all 1 (some .int), Cond.methodLink RX2 29 yX2_allDownTo, Cond.instanceMethod yX2_allDownTo, Cond.selects RX2 yX2_allDownTo yX2_allDownTo, Cond.code yX2_allDownTo cX2_allDownTo 4 (some .int), Cond.methodLink RX2 79 yX2_bedSlices, Cond.instanceMethod yX2_bedSlices, Cond.selects RX2 yX2_bedSlices yX2_bedSlices, Cond.code yX2_bedSlices cX2_bedSlices 3 (some .int), Cond.methodLink RX2 82 yX2_clearWater, Cond.instanceMethod yX2_clearWater, Cond.selects RX2 yX2_clearWater yX2_clearWater, Cond.code yX2_clearWater cX2_clearWater 3 (some .int), Cond.methodLink RX2 85 yX2_changesOfLeader, Cond.instanceMethod yX2_changesOfLeader, Cond.selects RX2 yX2_changesOfLeader yX2_changesOfLeader, Cond.code yX2_changesOfLeader cX2_changesOfLeader 5 (some .int), Cond.methodLink RX2 88 yX2_isAtRest, Cond.instanceMethod yX2_isAtRest, Cond.selects RX2 yX2_isAtRest yX2_isAtRest, Cond.code yX2_isAtRest cX2_isAtRest 4 (some .boolean), Cond.methodLink RX2 61 yX2_reasonToStay]
def wsL_law0_r9 : List Cond := [Cond.methodLink RX2 92 yX2_allOf, Cond.instanceMethod yX2_allOf, Cond.selects RX2 yX2_allOf yX2_allOf, Cond.code yX2_allOf cX2_allOf 4 (some .int), Cond.methodLink RL 51 yL_prop, Cond.static yL_prop, Cond.code yL_prop cL_prop 9 (some .int), Cond.methodLink RL 28 yL_sum, Cond.static yL_sum, Cond.code yL_sum cL_sum 5 (some .int), Cond.methodLink RL 54 yL_at, Cond.static yL_at, Cond.code yL_at cL_at 2 (some .int), Cond.methodLink RL 57 yX5_purest, Cond.instanceMethod yX5_purest, Cond.selects RX5 yX5_purest yX5_purest, Cond.code yX5_purest cX5_purest 3 (some .int), Cond.methodLink RX5 206 yX2_purestSlice, Cond.instanceMethod yX2_purestSlice, Cond.selects RX2 yX2_purestSlice yX2_purestSlice, Cond.code yX2_purestSlice cX2_purestSlice 8 (some .int), Cond.methodLink RL 60 yX5_meanDepth, Cond.instanceMethod yX5_meanDepth, Cond.selects RX5 yX5_meanDepth yX5_meanDepth]
def wsL_law0_r10 : List Cond := [Cond.code yX5_meanDepth cX5_meanDepth 3 (some .double), Cond.methodLink RX5 168 yX2_all, Cond.methodLink RX5 209 yX2_sumOfDepths, Cond.instanceMethod yX2_sumOfDepths, Cond.selects RX2 yX2_sumOfDepths yX2_sumOfDepths, Cond.code yX2_sumOfDepths cX2_sumOfDepths 3 (some .int), Cond.methodLink RL 64 yL_step, Cond.static yL_step, Cond.code yL_step cL_step 9 (some .int), Cond.methodLink RL 72 yX5_setting, Cond.instanceMethod yX5_setting, Cond.selects RX5 yX5_setting yX5_setting, Cond.code yX5_setting cX5_setting 2 (some .int), Cond.fieldLink RX5 62 "SettlingJars$Settings" "values" "[I", Cond.methodLink RL 76 yX5_grains, Cond.instanceMethod yX5_grains, Cond.selects RX5 yX5_grains yX5_grains, Cond.code yX5_grains cX5_grains 3 (some .int), Cond.fieldLink RX5 82 "SettlingJars$State" "poured" "[I", Cond.fieldLink RX5 97 "SettlingJars$State" "drawn" "[I", Cond.fieldLink RX5 65 "SettlingJars$Settings" "speeds" "[I", Cond.methodLink RX5 187 yX4_allOf, Cond.instanceMethod yX4_allOf, Cond.selects RX4 yX4_allOf yX4_allOf]
def wsL_law0_r11 : List Cond := [Cond.code yX4_allOf cX4_allOf 4 (some .int), Cond.methodLink RX4 56 yX2_allOf, Cond.methodLink RL 79 yX5_count, Cond.instanceMethod yX5_count, Cond.selects RX5 yX5_count yX5_count, Cond.code yX5_count cX5_count 2 (some .int), Cond.fieldLink RX5 120 "SettlingJars$State" "steps" "I", Cond.fieldLink RX5 133 "SettlingJars$State" "fallen" "I", Cond.methodLink RX5 188 yX4_all, Cond.instanceMethod yX4_all, Cond.selects RX4 yX4_all yX4_all, Cond.code yX4_all cX4_all 3 (some .int), Cond.methodLink RX4 52 yX2_all, Cond.methodLink RX5 189 yX4_packedSlices, Cond.instanceMethod yX4_packedSlices, Cond.selects RX4 yX4_packedSlices yX4_packedSlices, Cond.code yX4_packedSlices cX4_packedSlices 3 (some .int), Cond.methodLink RX4 60 yX2_packedSlices, Cond.instanceMethod yX2_packedSlices, Cond.selects RX2 yX2_packedSlices yX2_packedSlices, Cond.code yX2_packedSlices cX2_packedSlices 4 (some .int), Cond.methodLink RX5 191 yX4_clearSlices, Cond.instanceMethod yX4_clearSlices, Cond.selects RX4 yX4_clearSlices yX4_clearSlices]
def wsL_law0_r12 : List Cond := [Cond.code yX4_clearSlices cX4_clearSlices 3 (some .int), Cond.methodLink RX4 64 yX2_clearSlices, Cond.instanceMethod yX2_clearSlices, Cond.selects RX2 yX2_clearSlices yX2_clearSlices, Cond.code yX2_clearSlices cX2_clearSlices 4 (some .int), Cond.methodLink RX5 174 yX1_size, Cond.instanceMethod yX1_size, Cond.selects RX1 yX1_size yX1_size, Cond.code yX1_size cX1_size 1 (some .int), Cond.fieldLink RX1 16 "SettlingJars$History" "size" "I", Cond.methodLink RL 121 yL_cell, Cond.static yL_cell, Cond.code yL_cell cL_cell 2 (some .int), Cond.constant RL 7 (608135816), Cond.methodLink RL 125 yL_act, Cond.static yL_act, Cond.code yL_act cL_act 18 (some .boolean), Cond.methodLink RL 91 yX5_pour, Cond.instanceMethod yX5_pour, Cond.selects RX5 yX5_pour yX5_pour, Cond.code yX5_pour cX5_pour 6 (some .int), Cond.methodLink RX5 75 yX5_needRoom, Cond.static yX5_needRoom, Cond.code yX5_needRoom cX5_needRoom 2 none]
def wsL_law0_r13 : List Cond := [Cond.classLink RX5 124 "java/lang/IllegalStateException", Cond.initialized "java/lang/IllegalStateException", Cond.methodLink RX5 54 yX1_keep, Cond.instanceMethod yX1_keep, Cond.selects RX1 yX1_keep yX1_keep, Cond.code yX1_keep cX1_keep 2 none, Cond.fieldLink RX1 20 "SettlingJars$History" "oldest" "I", Cond.methodLink RX1 23 yX4_copyFrom, Cond.instanceMethod yX4_copyFrom, Cond.selects RX4 yX4_copyFrom yX4_copyFrom, Cond.code yX4_copyFrom cX4_copyFrom 3 none, Cond.methodLink RX4 39 arraycopyName, Cond.native arraycopyName, Cond.static arraycopyName, Cond.initialized "java/lang/System", Cond.fieldLink RX4 45 "SettlingJars$State" "steps" "I", Cond.fieldLink RX4 49 "SettlingJars$State" "fallen" "I", Cond.methodLink RX4 32 yX3_copyFrom, Cond.instanceMethod yX3_copyFrom, Cond.selects RX3 yX3_copyFrom yX3_copyFrom, Cond.code yX3_copyFrom cX3_copyFrom 2 none, Cond.methodLink RX3 18 arraycopyName, Cond.methodLink RX4 36 yX2_copyFrom, Cond.instanceMethod yX2_copyFrom]
def wsL_law0_r14 : List Cond := [Cond.selects RX2 yX2_copyFrom yX2_copyFrom, Cond.code yX2_copyFrom cX2_copyFrom 2 none, Cond.methodLink RX2 15 arraycopyName, Cond.methodLink RX5 79 yX2_put, Cond.instanceMethod yX2_put, Cond.selects RX2 yX2_put yX2_put, Cond.code yX2_put cX2_put 4 none, Cond.methodLink RX5 85 yX2_allIn, Cond.methodLink RL 95 yX5_settle, Cond.instanceMethod yX5_settle, Cond.selects RX5 yX5_settle yX5_settle, Cond.code yX5_settle cX5_settle 4 (some .int), Cond.methodLink RX5 129 yX2_goOn, Cond.instanceMethod yX2_goOn, Cond.selects RX2 yX2_goOn yX2_goOn, Cond.code yX2_goOn cX2_goOn 6 (some .int), Cond.methodLink RX2 36 yX2_goOneStep, Cond.instanceMethod yX2_goOneStep, Cond.selects RX2 yX2_goOneStep yX2_goOneStep, Cond.code yX2_goOneStep cX2_goOneStep 4 (some .int), Cond.methodLink RX2 40 yX2_fallFrom, Cond.instanceMethod yX2_fallFrom, Cond.selects RX2 yX2_fallFrom yX2_fallFrom, Cond.code yX2_fallFrom cX2_fallFrom 9 (some .int)]
def wsL_law0_r15 : List Cond := [Cond.methodLink RX2 56 Lib.Math.min.name, Cond.methodLink RX2 32 yX2_put, Cond.methodLink RL 98 yX5_stir, Cond.instanceMethod yX5_stir, Cond.selects RX5 yX5_stir yX5_stir, Cond.code yX5_stir cX5_stir 6 (some .int), Cond.methodLink RX5 89 yX2_spread, Cond.instanceMethod yX2_spread, Cond.selects RX2 yX2_spread yX2_spread, Cond.code yX2_spread cX2_spread 9 (some .int), Cond.methodLink RL 101 yX5_draw, Cond.instanceMethod yX5_draw, Cond.selects RX5 yX5_draw yX5_draw, Cond.code yX5_draw cX5_draw 8 (some .int), Cond.methodLink RX5 93 yX2_many, Cond.methodLink RL 104 yX5_decant, Cond.instanceMethod yX5_decant, Cond.selects RX5 yX5_decant yX5_decant, Cond.code yX5_decant cX5_decant 5 (some .int), Cond.methodLink RX5 107 yX2_allDownTo, Cond.methodLink RX5 110 yX2_pourInto, Cond.instanceMethod yX2_pourInto, Cond.selects RX2 yX2_pourInto yX2_pourInto, Cond.code yX2_pourInto cX2_pourInto 6 none]
def wsL_law0_r16 : List Cond := [Cond.methodLink RL 107 yX5_turn, Cond.instanceMethod yX5_turn, Cond.selects RX5 yX5_turn yX5_turn, Cond.code yX5_turn cX5_turn 2 (some .int), Cond.methodLink RX5 113 yX2_turnOver, Cond.instanceMethod yX2_turnOver, Cond.selects RX2 yX2_turnOver yX2_turnOver, Cond.code yX2_turnOver cX2_turnOver 4 none, Cond.methodLink RX5 116 yX2_packedSlices, Cond.methodLink RL 110 yX5_setSpeed, Cond.instanceMethod yX5_setSpeed, Cond.selects RX5 yX5_setSpeed yX5_setSpeed, Cond.code yX5_setSpeed cX5_setSpeed 4 (some .int), Cond.methodLink RL 113 yX5_set, Cond.instanceMethod yX5_set, Cond.selects RX5 yX5_set yX5_set, Cond.code yX5_set cX5_set 4 (some .int), Cond.fieldLink RX5 41 "SettlingJars$Settings" "LEAST" "[I", Cond.fieldLink RX5 47 "SettlingJars$Settings" "GREATEST" "[I", Cond.methodLink RL 129 yL_ahead, Cond.static yL_ahead, Cond.code yL_ahead cL_ahead 13 (some .boolean), Cond.methodLink RL 82 yX5_ifSettled, Cond.instanceMethod yX5_ifSettled]
def wsL_law0_r17 : List Cond := [Cond.selects RX5 yX5_ifSettled yX5_ifSettled, Cond.code yX5_ifSettled cX5_ifSettled 4 (some .int), Cond.methodLink RX5 197 yX2_copyFrom, Cond.methodLink RL 85 yX5_clearIn, Cond.instanceMethod yX5_clearIn, Cond.selects RX5 yX5_clearIn yX5_clearIn, Cond.code yX5_clearIn cX5_clearIn 4 (some .int), Cond.methodLink RX5 200 yX2_clearWater, Cond.methodLink RX5 203 yX2_goOneStep, Cond.methodLink RL 88 yX5_restIn, Cond.instanceMethod yX5_restIn, Cond.selects RX5 yX5_restIn yX5_restIn, Cond.code yX5_restIn cX5_restIn 3 (some .int)]
def wsL_law0 : List Cond := (wsL_law0_r1 ++ (wsL_law0_r2 ++ (wsL_law0_r3 ++ (wsL_law0_r4 ++ (wsL_law0_r5 ++ (wsL_law0_r6 ++ (wsL_law0_r7 ++ (wsL_law0_r8 ++ (wsL_law0_r9 ++ (wsL_law0_r10 ++ (wsL_law0_r11 ++ (wsL_law0_r12 ++ (wsL_law0_r13 ++ (wsL_law0_r14 ++ (wsL_law0_r15 ++ (wsL_law0_r16 ++ wsL_law0_r17)))))))))))))))) ++ wsX50 ++ wsX40 ++ wsX10 ++ wsX00 ++ wsX20 ++ wsX30 ++ ([] : List Cond)
def wsL_law : List Cond := wsL_law0 ++ (vx_atS RX5 257 "java/lang/IndexOutOfBoundsException" ["java/lang/RuntimeException", "java/lang/Exception"]).filter goodWord ++ (vx_atS RX5 104 "java/lang/IllegalArgumentException" ["java/lang/RuntimeException", "java/lang/Exception"]).filter goodWord ++ (vx_atS RX5 128 "java/lang/IllegalStateException" ["java/lang/RuntimeException", "java/lang/Exception"]).filter goodWord
end
section
set_option maxRecDepth 20000 in
theorem wsL_law_in0_r1 : ∀ w ∈ wsL_law0_r1, w ∈ lw_tbl := fun w h => (goodIn_p wsL_law0_r1 [25, 28] (by decide +kernel) (by decide +kernel) w h).1
set_option maxRecDepth 20000 in
theorem wsL_law_in0_r2 : ∀ w ∈ wsL_law0_r2, w ∈ lw_tbl := fun w h => (goodIn_p wsL_law0_r2 [33, 39, 56] (by decide +kernel) (by decide +kernel) w h).1
set_option maxRecDepth 20000 in
theorem wsL_law_in0_r3 : ∀ w ∈ wsL_law0_r3, w ∈ lw_tbl := fun w h => (goodIn_p wsL_law0_r3 [91, 110, 266, 269, 273] (by decide +kernel) (by decide +kernel) w h).1
set_option maxRecDepth 20000 in
theorem wsL_law_in0_r4 : ∀ w ∈ wsL_law0_r4, w ∈ lw_tbl := fun w h => (goodIn_p wsL_law0_r4 [276, 279, 140, 299, 224] (by decide +kernel) (by decide +kernel) w h).1
set_option maxRecDepth 20000 in
theorem wsL_law_in0_r5 : ∀ w ∈ wsL_law0_r5, w ∈ lw_tbl := fun w h => (goodIn_p wsL_law0_r5 [228, 240, 252, 303, 307, 311] (by decide +kernel) (by decide +kernel) w h).1
set_option maxRecDepth 20000 in
theorem wsL_law_in0_r6 : ∀ w ∈ wsL_law0_r6, w ∈ lw_tbl := fun w h => (goodIn_p wsL_law0_r6 [315, 319, 323, 327, 331, 334] (by decide +kernel) (by decide +kernel) w h).1
set_option maxRecDepth 20000 in
theorem wsL_law_in0_r7 : ∀ w ∈ wsL_law0_r7, w ∈ lw_tbl := fun w h => (goodIn_p wsL_law0_r7 [337, 340, 343, 347, 351, 355, 359] (by decide +kernel) (by decide +kernel) w h).1
set_option maxRecDepth 20000 in
theorem wsL_law_in0_r8 : ∀ w ∈ wsL_law0_r8, w ∈ lw_tbl := fun w h => (goodIn_p wsL_law0_r8 [216, 220, 364, 368, 372, 376] (by decide +kernel) (by decide +kernel) w h).1
set_option maxRecDepth 20000 in
theorem wsL_law_in0_r9 : ∀ w ∈ wsL_law0_r9, w ∈ lw_tbl := fun w h => (goodIn_p wsL_law0_r9 [381, 384, 387, 263, 391, 395] (by decide +kernel) (by decide +kernel) w h).1
set_option maxRecDepth 20000 in
theorem wsL_law_in0_r10 : ∀ w ∈ wsL_law0_r10, w ∈ lw_tbl := fun w h => (goodIn_p wsL_law0_r10 [399, 404, 407, 411, 415] (by decide +kernel) (by decide +kernel) w h).1
set_option maxRecDepth 20000 in
theorem wsL_law_in0_r11 : ∀ w ∈ wsL_law0_r11, w ∈ lw_tbl := fun w h => (goodIn_p wsL_law0_r11 [419, 137, 212, 232, 236] (by decide +kernel) (by decide +kernel) w h).1
set_option maxRecDepth 20000 in
theorem wsL_law_in0_r12 : ∀ w ∈ wsL_law0_r12, w ∈ lw_tbl := fun w h => (goodIn_p wsL_law0_r12 [244, 248, 256, 259, 464, 468, 471] (by decide +kernel) (by decide +kernel) w h).1
set_option maxRecDepth 20000 in
theorem wsL_law_in0_r13 : ∀ w ∈ wsL_law0_r13, w ∈ lw_tbl := fun w h => (goodIn_p wsL_law0_r13 [491, 495, 499] (by decide +kernel) (by decide +kernel) w h).1
set_option maxRecDepth 20000 in
theorem wsL_law_in0_r14 : ∀ w ∈ wsL_law0_r14, w ∈ lw_tbl := fun w h => (goodIn_p wsL_law0_r14 [431, 451, 508, 438, 442, 446] (by decide +kernel) (by decide +kernel) w h).1
set_option maxRecDepth 20000 in
theorem wsL_law_in0_r15 : ∀ w ∈ wsL_law0_r15, w ∈ lw_tbl := fun w h => (goodIn_p wsL_law0_r15 [513, 517, 521, 526, 532] (by decide +kernel) (by decide +kernel) w h).1
set_option maxRecDepth 20000 in
theorem wsL_law_in0_r16 : ∀ w ∈ wsL_law0_r16, w ∈ lw_tbl := fun w h => (goodIn_p wsL_law0_r16 [536, 540, 545, 549, 423] (by decide +kernel) (by decide +kernel) w h).1
set_option maxRecDepth 20000 in
theorem wsL_law_in0_r17 : ∀ w ∈ wsL_law0_r17, w ∈ lw_tbl := fun w h => (goodIn_p wsL_law0_r17 [427, 455, 461] (by decide +kernel) (by decide +kernel) w h).1
theorem wsL_law_in0_wsX50 : ∀ w ∈ wsX50, w ∈ lw_tbl := fun w h => (goodIn_p wsX50 [] (by decide +kernel) (by decide +kernel) w h).1
theorem wsL_law_in0_wsX40 : ∀ w ∈ wsX40, w ∈ lw_tbl := fun w h => (goodIn_p wsX40 [] (by decide +kernel) (by decide +kernel) w h).1
theorem wsL_law_in0_wsX10 : ∀ w ∈ wsX10, w ∈ lw_tbl := fun w h => (goodIn_p wsX10 [] (by decide +kernel) (by decide +kernel) w h).1
theorem wsL_law_in0_wsX00 : ∀ w ∈ wsX00, w ∈ lw_tbl := fun w h => (goodIn_p wsX00 [] (by decide +kernel) (by decide +kernel) w h).1
theorem wsL_law_in0_wsX20 : ∀ w ∈ wsX20, w ∈ lw_tbl := fun w h => (goodIn_p wsX20 [] (by decide +kernel) (by decide +kernel) w h).1
theorem wsL_law_in0_wsX30 : ∀ w ∈ wsX30, w ∈ lw_tbl := fun w h => (goodIn_p wsX30 [] (by decide +kernel) (by decide +kernel) w h).1
theorem wsL_law_in0 : ∀ w ∈ wsL_law0, w ∈ lw_tbl := List.forall_mem_append.mpr ⟨List.forall_mem_append.mpr ⟨List.forall_mem_append.mpr ⟨List.forall_mem_append.mpr ⟨List.forall_mem_append.mpr ⟨List.forall_mem_append.mpr ⟨List.forall_mem_append.mpr ⟨List.forall_mem_append.mpr ⟨wsL_law_in0_r1, List.forall_mem_append.mpr ⟨wsL_law_in0_r2, List.forall_mem_append.mpr ⟨wsL_law_in0_r3, List.forall_mem_append.mpr ⟨wsL_law_in0_r4, List.forall_mem_append.mpr ⟨wsL_law_in0_r5, List.forall_mem_append.mpr ⟨wsL_law_in0_r6, List.forall_mem_append.mpr ⟨wsL_law_in0_r7, List.forall_mem_append.mpr ⟨wsL_law_in0_r8, List.forall_mem_append.mpr ⟨wsL_law_in0_r9, List.forall_mem_append.mpr ⟨wsL_law_in0_r10, List.forall_mem_append.mpr ⟨wsL_law_in0_r11, List.forall_mem_append.mpr ⟨wsL_law_in0_r12, List.forall_mem_append.mpr ⟨wsL_law_in0_r13, List.forall_mem_append.mpr ⟨wsL_law_in0_r14, List.forall_mem_append.mpr ⟨wsL_law_in0_r15, List.forall_mem_append.mpr ⟨wsL_law_in0_r16, wsL_law_in0_r17⟩⟩⟩⟩⟩⟩⟩⟩⟩⟩⟩⟩⟩⟩⟩⟩, wsL_law_in0_wsX50⟩, wsL_law_in0_wsX40⟩, wsL_law_in0_wsX10⟩, wsL_law_in0_wsX00⟩, wsL_law_in0_wsX20⟩, wsL_law_in0_wsX30⟩, fun _ h => absurd h List.not_mem_nil⟩
theorem wsL_law_x0 : ∀ w ∈ (vx_atS RX5 257 "java/lang/IndexOutOfBoundsException" ["java/lang/RuntimeException", "java/lang/Exception"]).filter goodWord, w ∈ lw_tbl := by decide +kernel
theorem wsL_law_x1 : ∀ w ∈ (vx_atS RX5 104 "java/lang/IllegalArgumentException" ["java/lang/RuntimeException", "java/lang/Exception"]).filter goodWord, w ∈ lw_tbl := by decide +kernel
theorem wsL_law_x2 : ∀ w ∈ (vx_atS RX5 128 "java/lang/IllegalStateException" ["java/lang/RuntimeException", "java/lang/Exception"]).filter goodWord, w ∈ lw_tbl := by decide +kernel
theorem wsL_law_in : ∀ w ∈ wsL_law, w ∈ lw_tbl := fun w h => (List.mem_append.mp h).elim (fun h => (List.mem_append.mp h).elim (fun h => (List.mem_append.mp h).elim (fun h => wsL_law_in0 w h) (fun h => wsL_law_x0 w h)) (fun h => wsL_law_x1 w h)) (fun h => wsL_law_x2 w h)
theorem inlX0 : ∀ w ∈ wsX00, w ∈ wsL_law := fun _ h => List.mem_append_left _ (List.mem_append_left _ (List.mem_append_left _ (List.mem_append_left _ (List.mem_append_left _ (List.mem_append_left _ (List.mem_append_right _ h))))))
theorem inX0 : ∀ w ∈ wsX00, w ∈ lw_tbl := fun w h => wsL_law_in w (inlX0 w h)
theorem inlX1 : ∀ w ∈ wsX10, w ∈ wsL_law := fun _ h => List.mem_append_left _ (List.mem_append_left _ (List.mem_append_left _ (List.mem_append_left _ (List.mem_append_left _ (List.mem_append_left _ (List.mem_append_left _ (List.mem_append_right _ h)))))))
theorem inX1 : ∀ w ∈ wsX10, w ∈ lw_tbl := fun w h => wsL_law_in w (inlX1 w h)
theorem inlX2 : ∀ w ∈ wsX20, w ∈ wsL_law := fun _ h => List.mem_append_left _ (List.mem_append_left _ (List.mem_append_left _ (List.mem_append_left _ (List.mem_append_left _ (List.mem_append_right _ h)))))
theorem inX2 : ∀ w ∈ wsX20, w ∈ lw_tbl := fun w h => wsL_law_in w (inlX2 w h)
theorem inlX3 : ∀ w ∈ wsX30, w ∈ wsL_law := fun _ h => List.mem_append_left _ (List.mem_append_left _ (List.mem_append_left _ (List.mem_append_left _ (List.mem_append_right _ h))))
theorem inX3 : ∀ w ∈ wsX30, w ∈ lw_tbl := fun w h => wsL_law_in w (inlX3 w h)
theorem inlX4 : ∀ w ∈ wsX40, w ∈ wsL_law := fun _ h => List.mem_append_left _ (List.mem_append_left _ (List.mem_append_left _ (List.mem_append_left _ (List.mem_append_left _ (List.mem_append_left _ (List.mem_append_left _ (List.mem_append_left _ (List.mem_append_right _ h))))))))
theorem inX4 : ∀ w ∈ wsX40, w ∈ lw_tbl := fun w h => wsL_law_in w (inlX4 w h)
theorem inlX5 : ∀ w ∈ wsX50, w ∈ wsL_law := fun _ h => List.mem_append_left _ (List.mem_append_left _ (List.mem_append_left _ (List.mem_append_left _ (List.mem_append_left _ (List.mem_append_left _ (List.mem_append_left _ (List.mem_append_left _ (List.mem_append_left _ (List.mem_append_right _ h)))))))))
theorem inX5 : ∀ w ∈ wsX50, w ∈ lw_tbl := fun w h => wsL_law_in w (inlX5 w h)
theorem inX6 : ∀ w ∈ wsX60, w ∈ lw_tbl := by decide +kernel
theorem inJ9 : ∀ w ∈ wsJ90, w ∈ lw_tbl := by decide +kernel
theorem inJ0 : ∀ w ∈ wsJ00, w ∈ lw_tbl := by decide +kernel
theorem inJ10 : ∀ w ∈ wsJ100, w ∈ lw_tbl := by decide +kernel
end
section
theorem dX0_init_0 : decode cX0_init 0 = .ok (.aload_n 0, 1) := by decide +kernel
theorem dX0_init_1 : decode cX0_init 1 = .ok (.invokespecial 3, 3) := by decide +kernel
theorem dX0_init_4 : decode cX0_init 4 = .ok (.aload_n 0, 1) := by decide +kernel
theorem dX0_init_5 : decode cX0_init 5 = .ok (.bipush 60, 2) := by decide +kernel
theorem dX0_init_7 : decode cX0_init 7 = .ok (.newarray .char, 2) := by decide +kernel
theorem dX0_init_9 : decode cX0_init 9 = .ok (.putfield 11, 3) := by decide +kernel
theorem dX0_init_12 : decode cX0_init 12 = .ok (.return_, 1) := by decide +kernel
set_option maxRecDepth 20000 in
theorem ggX1_init_X4_init : GoodIn wsX1_init wsX4_init := goodIn_r _ [10, 11, 2, 3, 12, 13, 14, 15, 16, 17, 18, 19, 20, 21, 22, 23, 24, 25, 26, 27, 28, 29, 30, 31, 41, 42, 35, 36, 37, 38, 39, 40, 43] (by decide +kernel) (by decide +kernel)
set_option maxRecDepth 20000 in
theorem gX1_init_X4_init : GoodIn wsX1_init (wsX4_init) := ggX1_init_X4_init
theorem dX1_init_0 : decode cX1_init 0 = .ok (.aload_n 0, 1) := by decide +kernel
theorem dX1_init_1 : decode cX1_init 1 = .ok (.invokespecial 1, 3) := by decide +kernel
theorem dX1_init_4 : decode cX1_init 4 = .ok (.aload_n 0, 1) := by decide +kernel
theorem dX1_init_5 : decode cX1_init 5 = .ok (.bipush 6, 2) := by decide +kernel
theorem dX1_init_7 : decode cX1_init 7 = .ok (.anewarray 9, 3) := by decide +kernel
theorem dX1_init_10 : decode cX1_init 10 = .ok (.putfield 11, 3) := by decide +kernel
theorem dX1_init_13 : decode cX1_init 13 = .ok (.iconst 0, 1) := by decide +kernel
theorem dX1_init_14 : decode cX1_init 14 = .ok (.istore_n 1, 1) := by decide +kernel
theorem dX1_init_15 : decode cX1_init 15 = .ok (.iload_n 1, 1) := by decide +kernel
theorem dX1_init_16 : decode cX1_init 16 = .ok (.bipush 6, 2) := by decide +kernel
theorem dX1_init_18 : decode cX1_init 18 = .ok (.if_icmp .ge 22, 3) := by decide +kernel
theorem dX1_init_21 : decode cX1_init 21 = .ok (.aload_n 0, 1) := by decide +kernel
theorem dX1_init_22 : decode cX1_init 22 = .ok (.getfield 11, 3) := by decide +kernel
theorem dX1_init_25 : decode cX1_init 25 = .ok (.iload_n 1, 1) := by decide +kernel
theorem dX1_init_26 : decode cX1_init 26 = .ok (.new 9, 3) := by decide +kernel
theorem dX1_init_29 : decode cX1_init 29 = .ok (.dup, 1) := by decide +kernel
theorem dX1_init_30 : decode cX1_init 30 = .ok (.invokespecial 15, 3) := by decide +kernel
theorem dX1_init_33 : decode cX1_init 33 = .ok (.aastore, 1) := by decide +kernel
theorem dX1_init_34 : decode cX1_init 34 = .ok (.iinc 1 1, 3) := by decide +kernel
theorem dX1_init_37 : decode cX1_init 37 = .ok (.goto (-22), 3) := by decide +kernel
theorem dX1_init_40 : decode cX1_init 40 = .ok (.return_, 1) := by decide +kernel
theorem dX1_size_0 : decode cX1_size 0 = .ok (.aload_n 0, 1) := by decide +kernel
theorem dX1_size_1 : decode cX1_size 1 = .ok (.getfield 16, 3) := by decide +kernel
theorem dX1_size_4 : decode cX1_size 4 = .ok (.ireturn, 1) := by decide +kernel
set_option maxRecDepth 20000 in
theorem ggX1_keep_X4_copyFrom : GoodIn wsX1_keep wsX4_copyFrom := goodIn_r _ [8, 9, 10, 11, 12, 13, 14, 15, 16, 17, 18, 19, 20, 21, 22, 23, 24, 25, 26, 27, 28, 29, 30, 31, 32, 33, 37, 38, 39, 40, 41, 42, 43, 44, 45] (by decide +kernel) (by decide +kernel)
set_option maxRecDepth 20000 in
theorem gX1_keep_X4_copyFrom : GoodIn wsX1_keep (wsV RX1 23 RX4 yX4_copyFrom wsX4_copyFrom) := goodIn_app (goodIn_of _ (by decide +kernel)) ggX1_keep_X4_copyFrom
theorem dX1_keep_0 : decode cX1_keep 0 = .ok (.aload_n 0, 1) := by decide +kernel
theorem dX1_keep_1 : decode cX1_keep 1 = .ok (.getfield 11, 3) := by decide +kernel
theorem dX1_keep_4 : decode cX1_keep 4 = .ok (.aload_n 0, 1) := by decide +kernel
theorem dX1_keep_5 : decode cX1_keep 5 = .ok (.getfield 20, 3) := by decide +kernel
theorem dX1_keep_8 : decode cX1_keep 8 = .ok (.aload_n 0, 1) := by decide +kernel
theorem dX1_keep_9 : decode cX1_keep 9 = .ok (.getfield 16, 3) := by decide +kernel
theorem dX1_keep_12 : decode cX1_keep 12 = .ok (.iadd, 1) := by decide +kernel
theorem dX1_keep_13 : decode cX1_keep 13 = .ok (.bipush 6, 2) := by decide +kernel
theorem dX1_keep_15 : decode cX1_keep 15 = .ok (.irem, 1) := by decide +kernel
theorem dX1_keep_16 : decode cX1_keep 16 = .ok (.aaload, 1) := by decide +kernel
theorem dX1_keep_17 : decode cX1_keep 17 = .ok (.aload_n 1, 1) := by decide +kernel
theorem dX1_keep_18 : decode cX1_keep 18 = .ok (.invokevirtual 23, 3) := by decide +kernel
theorem dX1_keep_21 : decode cX1_keep 21 = .ok (.aload_n 0, 1) := by decide +kernel
theorem dX1_keep_22 : decode cX1_keep 22 = .ok (.getfield 16, 3) := by decide +kernel
theorem dX1_keep_25 : decode cX1_keep 25 = .ok (.bipush 6, 2) := by decide +kernel
theorem dX1_keep_27 : decode cX1_keep 27 = .ok (.if_icmp .ge 16, 3) := by decide +kernel
theorem dX1_keep_30 : decode cX1_keep 30 = .ok (.aload_n 0, 1) := by decide +kernel
theorem dX1_keep_31 : decode cX1_keep 31 = .ok (.dup, 1) := by decide +kernel
theorem dX1_keep_32 : decode cX1_keep 32 = .ok (.getfield 16, 3) := by decide +kernel
theorem dX1_keep_35 : decode cX1_keep 35 = .ok (.iconst 1, 1) := by decide +kernel
theorem dX1_keep_36 : decode cX1_keep 36 = .ok (.iadd, 1) := by decide +kernel
theorem dX1_keep_37 : decode cX1_keep 37 = .ok (.putfield 16, 3) := by decide +kernel
theorem dX1_keep_40 : decode cX1_keep 40 = .ok (.goto 16, 3) := by decide +kernel
theorem dX1_keep_43 : decode cX1_keep 43 = .ok (.aload_n 0, 1) := by decide +kernel
theorem dX1_keep_44 : decode cX1_keep 44 = .ok (.aload_n 0, 1) := by decide +kernel
theorem dX1_keep_45 : decode cX1_keep 45 = .ok (.getfield 20, 3) := by decide +kernel
theorem dX1_keep_48 : decode cX1_keep 48 = .ok (.iconst 1, 1) := by decide +kernel
theorem dX1_keep_49 : decode cX1_keep 49 = .ok (.iadd, 1) := by decide +kernel
theorem dX1_keep_50 : decode cX1_keep 50 = .ok (.bipush 6, 2) := by decide +kernel
theorem dX1_keep_52 : decode cX1_keep 52 = .ok (.irem, 1) := by decide +kernel
theorem dX1_keep_53 : decode cX1_keep 53 = .ok (.putfield 20, 3) := by decide +kernel
theorem dX1_keep_56 : decode cX1_keep 56 = .ok (.return_, 1) := by decide +kernel
theorem dX2_init_0 : decode cX2_init 0 = .ok (.aload_n 0, 1) := by decide +kernel
theorem dX2_init_1 : decode cX2_init 1 = .ok (.invokespecial 3, 3) := by decide +kernel
theorem dX2_init_4 : decode cX2_init 4 = .ok (.aload_n 0, 1) := by decide +kernel
theorem dX2_init_5 : decode cX2_init 5 = .ok (.bipush 48, 2) := by decide +kernel
theorem dX2_init_7 : decode cX2_init 7 = .ok (.newarray .int, 2) := by decide +kernel
theorem dX2_init_9 : decode cX2_init 9 = .ok (.putfield 9, 3) := by decide +kernel
theorem dX2_init_12 : decode cX2_init 12 = .ok (.return_, 1) := by decide +kernel
theorem dX2_copyFrom_0 : decode cX2_copyFrom 0 = .ok (.aload_n 1, 1) := by decide +kernel
theorem dX2_copyFrom_1 : decode cX2_copyFrom 1 = .ok (.getfield 9, 3) := by decide +kernel
theorem dX2_copyFrom_4 : decode cX2_copyFrom 4 = .ok (.iconst 0, 1) := by decide +kernel
theorem dX2_copyFrom_5 : decode cX2_copyFrom 5 = .ok (.aload_n 0, 1) := by decide +kernel
theorem dX2_copyFrom_6 : decode cX2_copyFrom 6 = .ok (.getfield 9, 3) := by decide +kernel
theorem dX2_copyFrom_9 : decode cX2_copyFrom 9 = .ok (.iconst 0, 1) := by decide +kernel
theorem dX2_copyFrom_10 : decode cX2_copyFrom 10 = .ok (.aload_n 0, 1) := by decide +kernel
theorem dX2_copyFrom_11 : decode cX2_copyFrom 11 = .ok (.getfield 9, 3) := by decide +kernel
theorem dX2_copyFrom_14 : decode cX2_copyFrom 14 = .ok (.arraylength, 1) := by decide +kernel
theorem dX2_copyFrom_15 : decode cX2_copyFrom 15 = .ok (.invokestatic 15, 3) := by decide +kernel
theorem dX2_copyFrom_18 : decode cX2_copyFrom 18 = .ok (.return_, 1) := by decide +kernel
theorem dX2_many_0 : decode cX2_many 0 = .ok (.aload_n 0, 1) := by decide +kernel
theorem dX2_many_1 : decode cX2_many 1 = .ok (.getfield 9, 3) := by decide +kernel
theorem dX2_many_4 : decode cX2_many 4 = .ok (.iload_n 1, 1) := by decide +kernel
theorem dX2_many_5 : decode cX2_many 5 = .ok (.iconst 4, 1) := by decide +kernel
theorem dX2_many_6 : decode cX2_many 6 = .ok (.imul, 1) := by decide +kernel
theorem dX2_many_7 : decode cX2_many 7 = .ok (.iload_n 2, 1) := by decide +kernel
theorem dX2_many_8 : decode cX2_many 8 = .ok (.iadd, 1) := by decide +kernel
theorem dX2_many_9 : decode cX2_many 9 = .ok (.iaload, 1) := by decide +kernel
theorem dX2_many_10 : decode cX2_many 10 = .ok (.ireturn, 1) := by decide +kernel
theorem dX2_put_0 : decode cX2_put 0 = .ok (.aload_n 0, 1) := by decide +kernel
theorem dX2_put_1 : decode cX2_put 1 = .ok (.getfield 9, 3) := by decide +kernel
theorem dX2_put_4 : decode cX2_put 4 = .ok (.iload_n 1, 1) := by decide +kernel
theorem dX2_put_5 : decode cX2_put 5 = .ok (.iconst 4, 1) := by decide +kernel
theorem dX2_put_6 : decode cX2_put 6 = .ok (.imul, 1) := by decide +kernel
theorem dX2_put_7 : decode cX2_put 7 = .ok (.iload_n 2, 1) := by decide +kernel
theorem dX2_put_8 : decode cX2_put 8 = .ok (.iadd, 1) := by decide +kernel
theorem dX2_put_9 : decode cX2_put 9 = .ok (.dup2, 1) := by decide +kernel
theorem dX2_put_10 : decode cX2_put 10 = .ok (.iaload, 1) := by decide +kernel
theorem dX2_put_11 : decode cX2_put 11 = .ok (.iload_n 3, 1) := by decide +kernel
theorem dX2_put_12 : decode cX2_put 12 = .ok (.iadd, 1) := by decide +kernel
theorem dX2_put_13 : decode cX2_put 13 = .ok (.iastore, 1) := by decide +kernel
theorem dX2_put_14 : decode cX2_put 14 = .ok (.return_, 1) := by decide +kernel
set_option maxRecDepth 20000 in
theorem ggX2_allIn_X2_many : GoodIn wsX2_allIn wsX2_many := goodIn_r _ [5, 6, 7] (by decide +kernel) (by decide +kernel)
set_option maxRecDepth 20000 in
theorem gX2_allIn_X2_many : GoodIn wsX2_allIn (wsV RX2 21 RX2 yX2_many wsX2_many) := goodIn_app (goodIn_of _ (by decide +kernel)) ggX2_allIn_X2_many
theorem dX2_allIn_0 : decode cX2_allIn 0 = .ok (.iconst 0, 1) := by decide +kernel
theorem dX2_allIn_1 : decode cX2_allIn 1 = .ok (.istore_n 2, 1) := by decide +kernel
theorem dX2_allIn_2 : decode cX2_allIn 2 = .ok (.iconst 0, 1) := by decide +kernel
theorem dX2_allIn_3 : decode cX2_allIn 3 = .ok (.istore_n 3, 1) := by decide +kernel
theorem dX2_allIn_4 : decode cX2_allIn 4 = .ok (.iload_n 3, 1) := by decide +kernel
theorem dX2_allIn_5 : decode cX2_allIn 5 = .ok (.iconst 4, 1) := by decide +kernel
theorem dX2_allIn_6 : decode cX2_allIn 6 = .ok (.if_icmp .ge 18, 3) := by decide +kernel
theorem dX2_allIn_9 : decode cX2_allIn 9 = .ok (.iload_n 2, 1) := by decide +kernel
theorem dX2_allIn_10 : decode cX2_allIn 10 = .ok (.aload_n 0, 1) := by decide +kernel
theorem dX2_allIn_11 : decode cX2_allIn 11 = .ok (.iload_n 1, 1) := by decide +kernel
theorem dX2_allIn_12 : decode cX2_allIn 12 = .ok (.iload_n 3, 1) := by decide +kernel
theorem dX2_allIn_13 : decode cX2_allIn 13 = .ok (.invokevirtual 21, 3) := by decide +kernel
theorem dX2_allIn_16 : decode cX2_allIn 16 = .ok (.iadd, 1) := by decide +kernel
theorem dX2_allIn_17 : decode cX2_allIn 17 = .ok (.istore_n 2, 1) := by decide +kernel
theorem dX2_allIn_18 : decode cX2_allIn 18 = .ok (.iinc 3 1, 3) := by decide +kernel
theorem dX2_allIn_21 : decode cX2_allIn 21 = .ok (.goto (-17), 3) := by decide +kernel
theorem dX2_allIn_24 : decode cX2_allIn 24 = .ok (.iload_n 2, 1) := by decide +kernel
theorem dX2_allIn_25 : decode cX2_allIn 25 = .ok (.ireturn, 1) := by decide +kernel
set_option maxRecDepth 20000 in
theorem ggX2_allOf_X2_many : GoodIn wsX2_allOf wsX2_many := goodIn_r _ [5, 6, 7] (by decide +kernel) (by decide +kernel)
set_option maxRecDepth 20000 in
theorem gX2_allOf_X2_many : GoodIn wsX2_allOf (wsV RX2 21 RX2 yX2_many wsX2_many) := goodIn_app (goodIn_of _ (by decide +kernel)) ggX2_allOf_X2_many
theorem dX2_allOf_0 : decode cX2_allOf 0 = .ok (.iconst 0, 1) := by decide +kernel
theorem dX2_allOf_1 : decode cX2_allOf 1 = .ok (.istore_n 2, 1) := by decide +kernel
theorem dX2_allOf_2 : decode cX2_allOf 2 = .ok (.iconst 0, 1) := by decide +kernel
theorem dX2_allOf_3 : decode cX2_allOf 3 = .ok (.istore_n 3, 1) := by decide +kernel
theorem dX2_allOf_4 : decode cX2_allOf 4 = .ok (.iload_n 3, 1) := by decide +kernel
theorem dX2_allOf_5 : decode cX2_allOf 5 = .ok (.bipush 12, 2) := by decide +kernel
theorem dX2_allOf_7 : decode cX2_allOf 7 = .ok (.if_icmp .ge 18, 3) := by decide +kernel
theorem dX2_allOf_10 : decode cX2_allOf 10 = .ok (.iload_n 2, 1) := by decide +kernel
theorem dX2_allOf_11 : decode cX2_allOf 11 = .ok (.aload_n 0, 1) := by decide +kernel
theorem dX2_allOf_12 : decode cX2_allOf 12 = .ok (.iload_n 3, 1) := by decide +kernel
theorem dX2_allOf_13 : decode cX2_allOf 13 = .ok (.iload_n 1, 1) := by decide +kernel
theorem dX2_allOf_14 : decode cX2_allOf 14 = .ok (.invokevirtual 21, 3) := by decide +kernel
theorem dX2_allOf_17 : decode cX2_allOf 17 = .ok (.iadd, 1) := by decide +kernel
theorem dX2_allOf_18 : decode cX2_allOf 18 = .ok (.istore_n 2, 1) := by decide +kernel
theorem dX2_allOf_19 : decode cX2_allOf 19 = .ok (.iinc 3 1, 3) := by decide +kernel
theorem dX2_allOf_22 : decode cX2_allOf 22 = .ok (.goto (-18), 3) := by decide +kernel
theorem dX2_allOf_25 : decode cX2_allOf 25 = .ok (.iload_n 2, 1) := by decide +kernel
theorem dX2_allOf_26 : decode cX2_allOf 26 = .ok (.ireturn, 1) := by decide +kernel
set_option maxRecDepth 20000 in
theorem ggX2_allDownTo_X2_allIn : GoodIn wsX2_allDownTo wsX2_allIn := goodIn_r _ [5, 6, 7, 8, 4, 9, 10, 11] (by decide +kernel) (by decide +kernel)
set_option maxRecDepth 20000 in
theorem gX2_allDownTo_X2_allIn : GoodIn wsX2_allDownTo (wsV RX2 25 RX2 yX2_allIn wsX2_allIn) := goodIn_app (goodIn_of _ (by decide +kernel)) ggX2_allDownTo_X2_allIn
theorem dX2_allDownTo_0 : decode cX2_allDownTo 0 = .ok (.iconst 0, 1) := by decide +kernel
theorem dX2_allDownTo_1 : decode cX2_allDownTo 1 = .ok (.istore_n 2, 1) := by decide +kernel
theorem dX2_allDownTo_2 : decode cX2_allDownTo 2 = .ok (.iconst 0, 1) := by decide +kernel
theorem dX2_allDownTo_3 : decode cX2_allDownTo 3 = .ok (.istore_n 3, 1) := by decide +kernel
theorem dX2_allDownTo_4 : decode cX2_allDownTo 4 = .ok (.iload_n 3, 1) := by decide +kernel
theorem dX2_allDownTo_5 : decode cX2_allDownTo 5 = .ok (.iload_n 1, 1) := by decide +kernel
theorem dX2_allDownTo_6 : decode cX2_allDownTo 6 = .ok (.if_icmp .gt 17, 3) := by decide +kernel
theorem dX2_allDownTo_9 : decode cX2_allDownTo 9 = .ok (.iload_n 2, 1) := by decide +kernel
theorem dX2_allDownTo_10 : decode cX2_allDownTo 10 = .ok (.aload_n 0, 1) := by decide +kernel
theorem dX2_allDownTo_11 : decode cX2_allDownTo 11 = .ok (.iload_n 3, 1) := by decide +kernel
theorem dX2_allDownTo_12 : decode cX2_allDownTo 12 = .ok (.invokevirtual 25, 3) := by decide +kernel
theorem dX2_allDownTo_15 : decode cX2_allDownTo 15 = .ok (.iadd, 1) := by decide +kernel
theorem dX2_allDownTo_16 : decode cX2_allDownTo 16 = .ok (.istore_n 2, 1) := by decide +kernel
theorem dX2_allDownTo_17 : decode cX2_allDownTo 17 = .ok (.iinc 3 1, 3) := by decide +kernel
theorem dX2_allDownTo_20 : decode cX2_allDownTo 20 = .ok (.goto (-16), 3) := by decide +kernel
theorem dX2_allDownTo_23 : decode cX2_allDownTo 23 = .ok (.iload_n 2, 1) := by decide +kernel
theorem dX2_allDownTo_24 : decode cX2_allDownTo 24 = .ok (.ireturn, 1) := by decide +kernel
set_option maxRecDepth 20000 in
theorem ggX2_all_X2_allDownTo : GoodIn wsX2_all wsX2_allDownTo := goodIn_r _ [5, 6, 7, 8, 4, 9, 10, 11, 12, 13, 14, 15] (by decide +kernel) (by decide +kernel)
set_option maxRecDepth 20000 in
theorem gX2_all_X2_allDownTo : GoodIn wsX2_all (wsV RX2 29 RX2 yX2_allDownTo wsX2_allDownTo) := goodIn_app (goodIn_of _ (by decide +kernel)) ggX2_all_X2_allDownTo
theorem dX2_all_0 : decode cX2_all 0 = .ok (.aload_n 0, 1) := by decide +kernel
theorem dX2_all_1 : decode cX2_all 1 = .ok (.bipush 11, 2) := by decide +kernel
theorem dX2_all_3 : decode cX2_all 3 = .ok (.invokevirtual 29, 3) := by decide +kernel
theorem dX2_all_6 : decode cX2_all 6 = .ok (.ireturn, 1) := by decide +kernel
set_option maxRecDepth 20000 in
theorem ggX2_sumOfDepths_X2_allIn : GoodIn wsX2_sumOfDepths wsX2_allIn := goodIn_r _ [5, 6, 7, 8, 4, 9, 10, 11] (by decide +kernel) (by decide +kernel)
set_option maxRecDepth 20000 in
theorem gX2_sumOfDepths_X2_allIn : GoodIn wsX2_sumOfDepths (wsV RX2 25 RX2 yX2_allIn wsX2_allIn) := goodIn_app (goodIn_of _ (by decide +kernel)) ggX2_sumOfDepths_X2_allIn
theorem dX2_sumOfDepths_0 : decode cX2_sumOfDepths 0 = .ok (.iconst 0, 1) := by decide +kernel
theorem dX2_sumOfDepths_1 : decode cX2_sumOfDepths 1 = .ok (.istore_n 1, 1) := by decide +kernel
theorem dX2_sumOfDepths_2 : decode cX2_sumOfDepths 2 = .ok (.iconst 0, 1) := by decide +kernel
theorem dX2_sumOfDepths_3 : decode cX2_sumOfDepths 3 = .ok (.istore_n 2, 1) := by decide +kernel
theorem dX2_sumOfDepths_4 : decode cX2_sumOfDepths 4 = .ok (.iload_n 2, 1) := by decide +kernel
theorem dX2_sumOfDepths_5 : decode cX2_sumOfDepths 5 = .ok (.bipush 12, 2) := by decide +kernel
theorem dX2_sumOfDepths_7 : decode cX2_sumOfDepths 7 = .ok (.if_icmp .ge 19, 3) := by decide +kernel
theorem dX2_sumOfDepths_10 : decode cX2_sumOfDepths 10 = .ok (.iload_n 1, 1) := by decide +kernel
theorem dX2_sumOfDepths_11 : decode cX2_sumOfDepths 11 = .ok (.iload_n 2, 1) := by decide +kernel
theorem dX2_sumOfDepths_12 : decode cX2_sumOfDepths 12 = .ok (.aload_n 0, 1) := by decide +kernel
theorem dX2_sumOfDepths_13 : decode cX2_sumOfDepths 13 = .ok (.iload_n 2, 1) := by decide +kernel
theorem dX2_sumOfDepths_14 : decode cX2_sumOfDepths 14 = .ok (.invokevirtual 25, 3) := by decide +kernel
theorem dX2_sumOfDepths_17 : decode cX2_sumOfDepths 17 = .ok (.imul, 1) := by decide +kernel
theorem dX2_sumOfDepths_18 : decode cX2_sumOfDepths 18 = .ok (.iadd, 1) := by decide +kernel
theorem dX2_sumOfDepths_19 : decode cX2_sumOfDepths 19 = .ok (.istore_n 1, 1) := by decide +kernel
theorem dX2_sumOfDepths_20 : decode cX2_sumOfDepths 20 = .ok (.iinc 2 1, 3) := by decide +kernel
theorem dX2_sumOfDepths_23 : decode cX2_sumOfDepths 23 = .ok (.goto (-19), 3) := by decide +kernel
theorem dX2_sumOfDepths_26 : decode cX2_sumOfDepths 26 = .ok (.iload_n 1, 1) := by decide +kernel
theorem dX2_sumOfDepths_27 : decode cX2_sumOfDepths 27 = .ok (.ireturn, 1) := by decide +kernel
set_option maxRecDepth 20000 in
theorem ggX2_spread_X2_many : GoodIn wsX2_spread wsX2_many := goodIn_r _ [5, 6, 11] (by decide +kernel) (by decide +kernel)
set_option maxRecDepth 20000 in
theorem gX2_spread_X2_many : GoodIn wsX2_spread (wsV RX2 21 RX2 yX2_many wsX2_many) := goodIn_app (goodIn_of _ (by decide +kernel)) ggX2_spread_X2_many
set_option maxRecDepth 20000 in
theorem ggX2_spread_X2_put : GoodIn wsX2_spread wsX2_put := goodIn_r _ [10, 6, 11] (by decide +kernel) (by decide +kernel)
set_option maxRecDepth 20000 in
theorem gX2_spread_X2_put : GoodIn wsX2_spread (wsV RX2 32 RX2 yX2_put wsX2_put) := goodIn_app (goodIn_of _ (by decide +kernel)) ggX2_spread_X2_put
theorem dX2_spread_0 : decode cX2_spread 0 = .ok (.iconst 0, 1) := by decide +kernel
theorem dX2_spread_1 : decode cX2_spread 1 = .ok (.istore 4, 2) := by decide +kernel
theorem dX2_spread_3 : decode cX2_spread 3 = .ok (.iload_n 1, 1) := by decide +kernel
theorem dX2_spread_4 : decode cX2_spread 4 = .ok (.istore 5, 2) := by decide +kernel
theorem dX2_spread_6 : decode cX2_spread 6 = .ok (.iload 5, 2) := by decide +kernel
theorem dX2_spread_8 : decode cX2_spread 8 = .ok (.iload_n 2, 1) := by decide +kernel
theorem dX2_spread_9 : decode cX2_spread 9 = .ok (.if_icmp .gt 21, 3) := by decide +kernel
theorem dX2_spread_12 : decode cX2_spread 12 = .ok (.iload 4, 2) := by decide +kernel
theorem dX2_spread_14 : decode cX2_spread 14 = .ok (.aload_n 0, 1) := by decide +kernel
theorem dX2_spread_15 : decode cX2_spread 15 = .ok (.iload 5, 2) := by decide +kernel
theorem dX2_spread_17 : decode cX2_spread 17 = .ok (.iload_n 3, 1) := by decide +kernel
theorem dX2_spread_18 : decode cX2_spread 18 = .ok (.invokevirtual 21, 3) := by decide +kernel
theorem dX2_spread_21 : decode cX2_spread 21 = .ok (.iadd, 1) := by decide +kernel
theorem dX2_spread_22 : decode cX2_spread 22 = .ok (.istore 4, 2) := by decide +kernel
theorem dX2_spread_24 : decode cX2_spread 24 = .ok (.iinc 5 1, 3) := by decide +kernel
theorem dX2_spread_27 : decode cX2_spread 27 = .ok (.goto (-21), 3) := by decide +kernel
theorem dX2_spread_30 : decode cX2_spread 30 = .ok (.iload 4, 2) := by decide +kernel
theorem dX2_spread_32 : decode cX2_spread 32 = .ok (.istore 5, 2) := by decide +kernel
theorem dX2_spread_34 : decode cX2_spread 34 = .ok (.iload_n 1, 1) := by decide +kernel
theorem dX2_spread_35 : decode cX2_spread 35 = .ok (.istore 6, 2) := by decide +kernel
theorem dX2_spread_37 : decode cX2_spread 37 = .ok (.iload 6, 2) := by decide +kernel
theorem dX2_spread_39 : decode cX2_spread 39 = .ok (.iload_n 2, 1) := by decide +kernel
theorem dX2_spread_40 : decode cX2_spread 40 = .ok (.if_icmp .gt 51, 3) := by decide +kernel
theorem dX2_spread_43 : decode cX2_spread 43 = .ok (.iload_n 2, 1) := by decide +kernel
theorem dX2_spread_44 : decode cX2_spread 44 = .ok (.iload 6, 2) := by decide +kernel
theorem dX2_spread_46 : decode cX2_spread 46 = .ok (.isub, 1) := by decide +kernel
theorem dX2_spread_47 : decode cX2_spread 47 = .ok (.istore 7, 2) := by decide +kernel
theorem dX2_spread_49 : decode cX2_spread 49 = .ok (.iload 5, 2) := by decide +kernel
theorem dX2_spread_51 : decode cX2_spread 51 = .ok (.iload 7, 2) := by decide +kernel
theorem dX2_spread_53 : decode cX2_spread 53 = .ok (.iadd, 1) := by decide +kernel
theorem dX2_spread_54 : decode cX2_spread 54 = .ok (.iload 7, 2) := by decide +kernel
theorem dX2_spread_56 : decode cX2_spread 56 = .ok (.iconst 1, 1) := by decide +kernel
theorem dX2_spread_57 : decode cX2_spread 57 = .ok (.iadd, 1) := by decide +kernel
theorem dX2_spread_58 : decode cX2_spread 58 = .ok (.idiv, 1) := by decide +kernel
theorem dX2_spread_59 : decode cX2_spread 59 = .ok (.istore 8, 2) := by decide +kernel
theorem dX2_spread_61 : decode cX2_spread 61 = .ok (.aload_n 0, 1) := by decide +kernel
theorem dX2_spread_62 : decode cX2_spread 62 = .ok (.iload 6, 2) := by decide +kernel
theorem dX2_spread_64 : decode cX2_spread 64 = .ok (.iload_n 3, 1) := by decide +kernel
theorem dX2_spread_65 : decode cX2_spread 65 = .ok (.iload 8, 2) := by decide +kernel
theorem dX2_spread_67 : decode cX2_spread 67 = .ok (.aload_n 0, 1) := by decide +kernel
theorem dX2_spread_68 : decode cX2_spread 68 = .ok (.iload 6, 2) := by decide +kernel
theorem dX2_spread_70 : decode cX2_spread 70 = .ok (.iload_n 3, 1) := by decide +kernel
theorem dX2_spread_71 : decode cX2_spread 71 = .ok (.invokevirtual 21, 3) := by decide +kernel
theorem dX2_spread_74 : decode cX2_spread 74 = .ok (.isub, 1) := by decide +kernel
theorem dX2_spread_75 : decode cX2_spread 75 = .ok (.invokevirtual 32, 3) := by decide +kernel
theorem dX2_spread_78 : decode cX2_spread 78 = .ok (.iload 5, 2) := by decide +kernel
theorem dX2_spread_80 : decode cX2_spread 80 = .ok (.iload 8, 2) := by decide +kernel
theorem dX2_spread_82 : decode cX2_spread 82 = .ok (.isub, 1) := by decide +kernel
theorem dX2_spread_83 : decode cX2_spread 83 = .ok (.istore 5, 2) := by decide +kernel
theorem dX2_spread_85 : decode cX2_spread 85 = .ok (.iinc 6 1, 3) := by decide +kernel
theorem dX2_spread_88 : decode cX2_spread 88 = .ok (.goto (-51), 3) := by decide +kernel
theorem dX2_spread_91 : decode cX2_spread 91 = .ok (.iload 4, 2) := by decide +kernel
theorem dX2_spread_93 : decode cX2_spread 93 = .ok (.ireturn, 1) := by decide +kernel
set_option maxRecDepth 20000 in
theorem ggX2_pourInto_X2_many : GoodIn wsX2_pourInto wsX2_many := goodIn_r _ [5, 6, 11] (by decide +kernel) (by decide +kernel)
set_option maxRecDepth 20000 in
theorem gX2_pourInto_X2_many : GoodIn wsX2_pourInto (wsV RX2 21 RX2 yX2_many wsX2_many) := goodIn_app (goodIn_of _ (by decide +kernel)) ggX2_pourInto_X2_many
set_option maxRecDepth 20000 in
theorem ggX2_pourInto_X2_put : GoodIn wsX2_pourInto wsX2_put := goodIn_r _ [10, 6, 11] (by decide +kernel) (by decide +kernel)
set_option maxRecDepth 20000 in
theorem gX2_pourInto_X2_put : GoodIn wsX2_pourInto (wsV RX2 32 RX2 yX2_put wsX2_put) := goodIn_app (goodIn_of _ (by decide +kernel)) ggX2_pourInto_X2_put
theorem dX2_pourInto_0 : decode cX2_pourInto 0 = .ok (.iconst 0, 1) := by decide +kernel
theorem dX2_pourInto_1 : decode cX2_pourInto 1 = .ok (.istore_n 3, 1) := by decide +kernel
theorem dX2_pourInto_2 : decode cX2_pourInto 2 = .ok (.iload_n 3, 1) := by decide +kernel
theorem dX2_pourInto_3 : decode cX2_pourInto 3 = .ok (.iload_n 2, 1) := by decide +kernel
theorem dX2_pourInto_4 : decode cX2_pourInto 4 = .ok (.if_icmp .gt 52, 3) := by decide +kernel
theorem dX2_pourInto_7 : decode cX2_pourInto 7 = .ok (.iconst 0, 1) := by decide +kernel
theorem dX2_pourInto_8 : decode cX2_pourInto 8 = .ok (.istore 4, 2) := by decide +kernel
theorem dX2_pourInto_10 : decode cX2_pourInto 10 = .ok (.iload 4, 2) := by decide +kernel
theorem dX2_pourInto_12 : decode cX2_pourInto 12 = .ok (.iconst 4, 1) := by decide +kernel
theorem dX2_pourInto_13 : decode cX2_pourInto 13 = .ok (.if_icmp .ge 37, 3) := by decide +kernel
theorem dX2_pourInto_16 : decode cX2_pourInto 16 = .ok (.aload_n 0, 1) := by decide +kernel
theorem dX2_pourInto_17 : decode cX2_pourInto 17 = .ok (.iload_n 3, 1) := by decide +kernel
theorem dX2_pourInto_18 : decode cX2_pourInto 18 = .ok (.iload 4, 2) := by decide +kernel
theorem dX2_pourInto_20 : decode cX2_pourInto 20 = .ok (.invokevirtual 21, 3) := by decide +kernel
theorem dX2_pourInto_23 : decode cX2_pourInto 23 = .ok (.istore 5, 2) := by decide +kernel
theorem dX2_pourInto_25 : decode cX2_pourInto 25 = .ok (.aload_n 1, 1) := by decide +kernel
theorem dX2_pourInto_26 : decode cX2_pourInto 26 = .ok (.iload_n 3, 1) := by decide +kernel
theorem dX2_pourInto_27 : decode cX2_pourInto 27 = .ok (.iload 4, 2) := by decide +kernel
theorem dX2_pourInto_29 : decode cX2_pourInto 29 = .ok (.iload 5, 2) := by decide +kernel
theorem dX2_pourInto_31 : decode cX2_pourInto 31 = .ok (.invokevirtual 32, 3) := by decide +kernel
theorem dX2_pourInto_34 : decode cX2_pourInto 34 = .ok (.aload_n 0, 1) := by decide +kernel
theorem dX2_pourInto_35 : decode cX2_pourInto 35 = .ok (.iload_n 3, 1) := by decide +kernel
theorem dX2_pourInto_36 : decode cX2_pourInto 36 = .ok (.iload 4, 2) := by decide +kernel
theorem dX2_pourInto_38 : decode cX2_pourInto 38 = .ok (.iload 5, 2) := by decide +kernel
theorem dX2_pourInto_40 : decode cX2_pourInto 40 = .ok (.ineg, 1) := by decide +kernel
theorem dX2_pourInto_41 : decode cX2_pourInto 41 = .ok (.invokevirtual 32, 3) := by decide +kernel
theorem dX2_pourInto_44 : decode cX2_pourInto 44 = .ok (.iinc 4 1, 3) := by decide +kernel
theorem dX2_pourInto_47 : decode cX2_pourInto 47 = .ok (.goto (-37), 3) := by decide +kernel
theorem dX2_pourInto_50 : decode cX2_pourInto 50 = .ok (.iinc 3 1, 3) := by decide +kernel
theorem dX2_pourInto_53 : decode cX2_pourInto 53 = .ok (.goto (-51), 3) := by decide +kernel
theorem dX2_pourInto_56 : decode cX2_pourInto 56 = .ok (.return_, 1) := by decide +kernel
set_option maxRecDepth 20000 in
theorem ggX2_turnOver_X2_many : GoodIn wsX2_turnOver wsX2_many := goodIn_r _ [5, 6, 11] (by decide +kernel) (by decide +kernel)
set_option maxRecDepth 20000 in
theorem gX2_turnOver_X2_many : GoodIn wsX2_turnOver (wsV RX2 21 RX2 yX2_many wsX2_many) := goodIn_app (goodIn_of _ (by decide +kernel)) ggX2_turnOver_X2_many
set_option maxRecDepth 20000 in
theorem ggX2_turnOver_X2_put : GoodIn wsX2_turnOver wsX2_put := goodIn_r _ [10, 6, 11] (by decide +kernel) (by decide +kernel)
set_option maxRecDepth 20000 in
theorem gX2_turnOver_X2_put : GoodIn wsX2_turnOver (wsV RX2 32 RX2 yX2_put wsX2_put) := goodIn_app (goodIn_of _ (by decide +kernel)) ggX2_turnOver_X2_put
theorem dX2_turnOver_0 : decode cX2_turnOver 0 = .ok (.iconst 0, 1) := by decide +kernel
theorem dX2_turnOver_1 : decode cX2_turnOver 1 = .ok (.istore_n 1, 1) := by decide +kernel
theorem dX2_turnOver_2 : decode cX2_turnOver 2 = .ok (.iload_n 1, 1) := by decide +kernel
theorem dX2_turnOver_3 : decode cX2_turnOver 3 = .ok (.bipush 11, 2) := by decide +kernel
theorem dX2_turnOver_5 : decode cX2_turnOver 5 = .ok (.iload_n 1, 1) := by decide +kernel
theorem dX2_turnOver_6 : decode cX2_turnOver 6 = .ok (.isub, 1) := by decide +kernel
theorem dX2_turnOver_7 : decode cX2_turnOver 7 = .ok (.if_icmp .ge 57, 3) := by decide +kernel
theorem dX2_turnOver_10 : decode cX2_turnOver 10 = .ok (.iconst 0, 1) := by decide +kernel
theorem dX2_turnOver_11 : decode cX2_turnOver 11 = .ok (.istore_n 2, 1) := by decide +kernel
theorem dX2_turnOver_12 : decode cX2_turnOver 12 = .ok (.iload_n 2, 1) := by decide +kernel
theorem dX2_turnOver_13 : decode cX2_turnOver 13 = .ok (.iconst 4, 1) := by decide +kernel
theorem dX2_turnOver_14 : decode cX2_turnOver 14 = .ok (.if_icmp .ge 44, 3) := by decide +kernel
theorem dX2_turnOver_17 : decode cX2_turnOver 17 = .ok (.aload_n 0, 1) := by decide +kernel
theorem dX2_turnOver_18 : decode cX2_turnOver 18 = .ok (.bipush 11, 2) := by decide +kernel
theorem dX2_turnOver_20 : decode cX2_turnOver 20 = .ok (.iload_n 1, 1) := by decide +kernel
theorem dX2_turnOver_21 : decode cX2_turnOver 21 = .ok (.isub, 1) := by decide +kernel
theorem dX2_turnOver_22 : decode cX2_turnOver 22 = .ok (.iload_n 2, 1) := by decide +kernel
theorem dX2_turnOver_23 : decode cX2_turnOver 23 = .ok (.invokevirtual 21, 3) := by decide +kernel
theorem dX2_turnOver_26 : decode cX2_turnOver 26 = .ok (.aload_n 0, 1) := by decide +kernel
theorem dX2_turnOver_27 : decode cX2_turnOver 27 = .ok (.iload_n 1, 1) := by decide +kernel
theorem dX2_turnOver_28 : decode cX2_turnOver 28 = .ok (.iload_n 2, 1) := by decide +kernel
theorem dX2_turnOver_29 : decode cX2_turnOver 29 = .ok (.invokevirtual 21, 3) := by decide +kernel
theorem dX2_turnOver_32 : decode cX2_turnOver 32 = .ok (.isub, 1) := by decide +kernel
theorem dX2_turnOver_33 : decode cX2_turnOver 33 = .ok (.istore_n 3, 1) := by decide +kernel
theorem dX2_turnOver_34 : decode cX2_turnOver 34 = .ok (.aload_n 0, 1) := by decide +kernel
theorem dX2_turnOver_35 : decode cX2_turnOver 35 = .ok (.iload_n 1, 1) := by decide +kernel
theorem dX2_turnOver_36 : decode cX2_turnOver 36 = .ok (.iload_n 2, 1) := by decide +kernel
theorem dX2_turnOver_37 : decode cX2_turnOver 37 = .ok (.iload_n 3, 1) := by decide +kernel
theorem dX2_turnOver_38 : decode cX2_turnOver 38 = .ok (.invokevirtual 32, 3) := by decide +kernel
theorem dX2_turnOver_41 : decode cX2_turnOver 41 = .ok (.aload_n 0, 1) := by decide +kernel
theorem dX2_turnOver_42 : decode cX2_turnOver 42 = .ok (.bipush 11, 2) := by decide +kernel
theorem dX2_turnOver_44 : decode cX2_turnOver 44 = .ok (.iload_n 1, 1) := by decide +kernel
theorem dX2_turnOver_45 : decode cX2_turnOver 45 = .ok (.isub, 1) := by decide +kernel
theorem dX2_turnOver_46 : decode cX2_turnOver 46 = .ok (.iload_n 2, 1) := by decide +kernel
theorem dX2_turnOver_47 : decode cX2_turnOver 47 = .ok (.iload_n 3, 1) := by decide +kernel
theorem dX2_turnOver_48 : decode cX2_turnOver 48 = .ok (.ineg, 1) := by decide +kernel
theorem dX2_turnOver_49 : decode cX2_turnOver 49 = .ok (.invokevirtual 32, 3) := by decide +kernel
theorem dX2_turnOver_52 : decode cX2_turnOver 52 = .ok (.iinc 2 1, 3) := by decide +kernel
theorem dX2_turnOver_55 : decode cX2_turnOver 55 = .ok (.goto (-43), 3) := by decide +kernel
theorem dX2_turnOver_58 : decode cX2_turnOver 58 = .ok (.iinc 1 1, 3) := by decide +kernel
theorem dX2_turnOver_61 : decode cX2_turnOver 61 = .ok (.goto (-59), 3) := by decide +kernel
theorem dX2_turnOver_64 : decode cX2_turnOver 64 = .ok (.return_, 1) := by decide +kernel
set_option maxRecDepth 20000 in
theorem ggX2_goOn_X2_goOneStep : GoodIn wsX2_goOn wsX2_goOneStep := goodIn_r _ [5, 6, 7, 8, 4, 9, 10, 11, 12, 13, 14, 15, 16, 17, 18, 19, 20, 21, 22, 23, 24, 25, 26, 27, 28, 29, 30, 31, 32, 33, 34, 35, 36, 37, 38, 39, 40, 41, 42, 43, 44, 45, 46, 47, 48, 49, 50] (by decide +kernel) (by decide +kernel)
set_option maxRecDepth 20000 in
theorem gX2_goOn_X2_goOneStep : GoodIn wsX2_goOn (wsV RX2 36 RX2 yX2_goOneStep wsX2_goOneStep) := goodIn_app (goodIn_of _ (by decide +kernel)) ggX2_goOn_X2_goOneStep
theorem dX2_goOn_0 : decode cX2_goOn 0 = .ok (.iconst 0, 1) := by decide +kernel
theorem dX2_goOn_1 : decode cX2_goOn 1 = .ok (.istore_n 3, 1) := by decide +kernel
theorem dX2_goOn_2 : decode cX2_goOn 2 = .ok (.iconst 0, 1) := by decide +kernel
theorem dX2_goOn_3 : decode cX2_goOn 3 = .ok (.istore 4, 2) := by decide +kernel
theorem dX2_goOn_5 : decode cX2_goOn 5 = .ok (.iload 4, 2) := by decide +kernel
theorem dX2_goOn_7 : decode cX2_goOn 7 = .ok (.iload_n 1, 1) := by decide +kernel
theorem dX2_goOn_8 : decode cX2_goOn 8 = .ok (.if_icmp .ge 28, 3) := by decide +kernel
theorem dX2_goOn_11 : decode cX2_goOn 11 = .ok (.aload_n 0, 1) := by decide +kernel
theorem dX2_goOn_12 : decode cX2_goOn 12 = .ok (.aload_n 2, 1) := by decide +kernel
theorem dX2_goOn_13 : decode cX2_goOn 13 = .ok (.invokevirtual 36, 3) := by decide +kernel
theorem dX2_goOn_16 : decode cX2_goOn 16 = .ok (.istore 5, 2) := by decide +kernel
theorem dX2_goOn_18 : decode cX2_goOn 18 = .ok (.iload 5, 2) := by decide +kernel
theorem dX2_goOn_20 : decode cX2_goOn 20 = .ok (.ifCond .ne 5, 3) := by decide +kernel
theorem dX2_goOn_23 : decode cX2_goOn 23 = .ok (.iload_n 3, 1) := by decide +kernel
theorem dX2_goOn_24 : decode cX2_goOn 24 = .ok (.ireturn, 1) := by decide +kernel
theorem dX2_goOn_25 : decode cX2_goOn 25 = .ok (.iload_n 3, 1) := by decide +kernel
theorem dX2_goOn_26 : decode cX2_goOn 26 = .ok (.iload 5, 2) := by decide +kernel
theorem dX2_goOn_28 : decode cX2_goOn 28 = .ok (.iadd, 1) := by decide +kernel
theorem dX2_goOn_29 : decode cX2_goOn 29 = .ok (.istore_n 3, 1) := by decide +kernel
theorem dX2_goOn_30 : decode cX2_goOn 30 = .ok (.iinc 4 1, 3) := by decide +kernel
theorem dX2_goOn_33 : decode cX2_goOn 33 = .ok (.goto (-28), 3) := by decide +kernel
theorem dX2_goOn_36 : decode cX2_goOn 36 = .ok (.iload_n 3, 1) := by decide +kernel
theorem dX2_goOn_37 : decode cX2_goOn 37 = .ok (.ireturn, 1) := by decide +kernel
set_option maxRecDepth 20000 in
theorem ggX2_goOneStep_X2_fallFrom : GoodIn wsX2_goOneStep wsX2_fallFrom := goodIn_r _ [5, 6, 7, 8, 9, 10, 11, 12, 4, 13, 14, 15, 16, 17, 18, 19, 20, 21, 22, 23, 24, 25, 26, 27, 28, 29, 30, 31, 32, 33, 34, 35, 36, 37, 38, 39, 40, 41, 42, 43, 44, 45, 46] (by decide +kernel) (by decide +kernel)
set_option maxRecDepth 20000 in
theorem gX2_goOneStep_X2_fallFrom : GoodIn wsX2_goOneStep (wsV RX2 40 RX2 yX2_fallFrom wsX2_fallFrom) := goodIn_app (goodIn_of _ (by decide +kernel)) ggX2_goOneStep_X2_fallFrom
theorem dX2_goOneStep_0 : decode cX2_goOneStep 0 = .ok (.iconst 0, 1) := by decide +kernel
theorem dX2_goOneStep_1 : decode cX2_goOneStep 1 = .ok (.istore_n 2, 1) := by decide +kernel
theorem dX2_goOneStep_2 : decode cX2_goOneStep 2 = .ok (.bipush 10, 2) := by decide +kernel
theorem dX2_goOneStep_4 : decode cX2_goOneStep 4 = .ok (.istore_n 3, 1) := by decide +kernel
theorem dX2_goOneStep_5 : decode cX2_goOneStep 5 = .ok (.iload_n 3, 1) := by decide +kernel
theorem dX2_goOneStep_6 : decode cX2_goOneStep 6 = .ok (.ifCond .lt 18, 3) := by decide +kernel
theorem dX2_goOneStep_9 : decode cX2_goOneStep 9 = .ok (.iload_n 2, 1) := by decide +kernel
theorem dX2_goOneStep_10 : decode cX2_goOneStep 10 = .ok (.aload_n 0, 1) := by decide +kernel
theorem dX2_goOneStep_11 : decode cX2_goOneStep 11 = .ok (.iload_n 3, 1) := by decide +kernel
theorem dX2_goOneStep_12 : decode cX2_goOneStep 12 = .ok (.aload_n 1, 1) := by decide +kernel
theorem dX2_goOneStep_13 : decode cX2_goOneStep 13 = .ok (.invokevirtual 40, 3) := by decide +kernel
theorem dX2_goOneStep_16 : decode cX2_goOneStep 16 = .ok (.iadd, 1) := by decide +kernel
theorem dX2_goOneStep_17 : decode cX2_goOneStep 17 = .ok (.istore_n 2, 1) := by decide +kernel
theorem dX2_goOneStep_18 : decode cX2_goOneStep 18 = .ok (.iinc 3 (-1), 3) := by decide +kernel
theorem dX2_goOneStep_21 : decode cX2_goOneStep 21 = .ok (.goto (-16), 3) := by decide +kernel
theorem dX2_goOneStep_24 : decode cX2_goOneStep 24 = .ok (.iload_n 2, 1) := by decide +kernel
theorem dX2_goOneStep_25 : decode cX2_goOneStep 25 = .ok (.ireturn, 1) := by decide +kernel
set_option maxRecDepth 20000 in
theorem ggX2_fallFrom_X2_allIn : GoodIn wsX2_fallFrom wsX2_allIn := goodIn_r _ [9, 10, 11, 12, 8, 13, 14, 40] (by decide +kernel) (by decide +kernel)
set_option maxRecDepth 20000 in
theorem gX2_fallFrom_X2_allIn : GoodIn wsX2_fallFrom (wsV RX2 25 RX2 yX2_allIn wsX2_allIn) := goodIn_app (goodIn_of _ (by decide +kernel)) ggX2_fallFrom_X2_allIn
set_option maxRecDepth 20000 in
theorem ggX2_fallFrom_X3_factorOf : GoodIn wsX2_fallFrom wsX3_factorOf := goodIn_r _ [19, 20, 21, 22, 23, 3, 24, 41, 42] (by decide +kernel) (by decide +kernel)
set_option maxRecDepth 20000 in
theorem gX2_fallFrom_X3_factorOf : GoodIn wsX2_fallFrom (wsV RX2 44 RX3 yX3_factorOf wsX3_factorOf) := goodIn_app (goodIn_of _ (by decide +kernel)) ggX2_fallFrom_X3_factorOf
set_option maxRecDepth 20000 in
theorem ggX2_fallFrom_X3_roomOver : GoodIn wsX2_fallFrom wsX3_roomOver := goodIn_r _ [28, 21, 22, 23, 3, 24, 41, 42] (by decide +kernel) (by decide +kernel)
set_option maxRecDepth 20000 in
theorem gX2_fallFrom_X3_roomOver : GoodIn wsX2_fallFrom (wsV RX2 49 RX3 yX3_roomOver wsX3_roomOver) := goodIn_app (goodIn_of _ (by decide +kernel)) ggX2_fallFrom_X3_roomOver
set_option maxRecDepth 20000 in
theorem ggX2_fallFrom_X2_many : GoodIn wsX2_fallFrom wsX2_many := goodIn_r _ [13, 14, 40] (by decide +kernel) (by decide +kernel)
set_option maxRecDepth 20000 in
theorem gX2_fallFrom_X2_many : GoodIn wsX2_fallFrom (wsV RX2 21 RX2 yX2_many wsX2_many) := goodIn_app (goodIn_of _ (by decide +kernel)) ggX2_fallFrom_X2_many
set_option maxRecDepth 20000 in
theorem ggX2_fallFrom_X3_wantingToFall : GoodIn wsX2_fallFrom wsX3_wantingToFall := goodIn_r _ [32, 33, 34, 21, 35, 2, 3, 4, 41, 42] (by decide +kernel) (by decide +kernel)
set_option maxRecDepth 20000 in
theorem gX2_fallFrom_X3_wantingToFall : GoodIn wsX2_fallFrom (wsV RX2 52 RX3 yX3_wantingToFall wsX3_wantingToFall) := goodIn_app (goodIn_of _ (by decide +kernel)) ggX2_fallFrom_X3_wantingToFall
set_option maxRecDepth 20000 in
theorem ggX2_fallFrom_X2_put : GoodIn wsX2_fallFrom wsX2_put := goodIn_r _ [39, 14, 40] (by decide +kernel) (by decide +kernel)
set_option maxRecDepth 20000 in
theorem gX2_fallFrom_X2_put : GoodIn wsX2_fallFrom (wsV RX2 32 RX2 yX2_put wsX2_put) := goodIn_app (goodIn_of _ (by decide +kernel)) ggX2_fallFrom_X2_put
theorem dX2_fallFrom_0 : decode cX2_fallFrom 0 = .ok (.aload_n 2, 1) := by decide +kernel
theorem dX2_fallFrom_1 : decode cX2_fallFrom 1 = .ok (.aload_n 0, 1) := by decide +kernel
theorem dX2_fallFrom_2 : decode cX2_fallFrom 2 = .ok (.iload_n 1, 1) := by decide +kernel
theorem dX2_fallFrom_3 : decode cX2_fallFrom 3 = .ok (.invokevirtual 25, 3) := by decide +kernel
theorem dX2_fallFrom_6 : decode cX2_fallFrom 6 = .ok (.invokevirtual 44, 3) := by decide +kernel
theorem dX2_fallFrom_9 : decode cX2_fallFrom 9 = .ok (.istore_n 3, 1) := by decide +kernel
theorem dX2_fallFrom_10 : decode cX2_fallFrom 10 = .ok (.aload_n 2, 1) := by decide +kernel
theorem dX2_fallFrom_11 : decode cX2_fallFrom 11 = .ok (.aload_n 0, 1) := by decide +kernel
theorem dX2_fallFrom_12 : decode cX2_fallFrom 12 = .ok (.iload_n 1, 1) := by decide +kernel
theorem dX2_fallFrom_13 : decode cX2_fallFrom 13 = .ok (.iconst 1, 1) := by decide +kernel
theorem dX2_fallFrom_14 : decode cX2_fallFrom 14 = .ok (.iadd, 1) := by decide +kernel
theorem dX2_fallFrom_15 : decode cX2_fallFrom 15 = .ok (.invokevirtual 25, 3) := by decide +kernel
theorem dX2_fallFrom_18 : decode cX2_fallFrom 18 = .ok (.invokevirtual 49, 3) := by decide +kernel
theorem dX2_fallFrom_21 : decode cX2_fallFrom 21 = .ok (.istore 4, 2) := by decide +kernel
theorem dX2_fallFrom_23 : decode cX2_fallFrom 23 = .ok (.iconst 0, 1) := by decide +kernel
theorem dX2_fallFrom_24 : decode cX2_fallFrom 24 = .ok (.istore 5, 2) := by decide +kernel
theorem dX2_fallFrom_26 : decode cX2_fallFrom 26 = .ok (.iconst 0, 1) := by decide +kernel
theorem dX2_fallFrom_27 : decode cX2_fallFrom 27 = .ok (.istore 6, 2) := by decide +kernel
theorem dX2_fallFrom_29 : decode cX2_fallFrom 29 = .ok (.iload 6, 2) := by decide +kernel
theorem dX2_fallFrom_31 : decode cX2_fallFrom 31 = .ok (.iconst 4, 1) := by decide +kernel
theorem dX2_fallFrom_32 : decode cX2_fallFrom 32 = .ok (.if_icmp .ge 65, 3) := by decide +kernel
theorem dX2_fallFrom_35 : decode cX2_fallFrom 35 = .ok (.aload_n 2, 1) := by decide +kernel
theorem dX2_fallFrom_36 : decode cX2_fallFrom 36 = .ok (.iload 6, 2) := by decide +kernel
theorem dX2_fallFrom_38 : decode cX2_fallFrom 38 = .ok (.aload_n 0, 1) := by decide +kernel
theorem dX2_fallFrom_39 : decode cX2_fallFrom 39 = .ok (.iload_n 1, 1) := by decide +kernel
theorem dX2_fallFrom_40 : decode cX2_fallFrom 40 = .ok (.iload 6, 2) := by decide +kernel
theorem dX2_fallFrom_42 : decode cX2_fallFrom 42 = .ok (.invokevirtual 21, 3) := by decide +kernel
theorem dX2_fallFrom_45 : decode cX2_fallFrom 45 = .ok (.iload_n 3, 1) := by decide +kernel
theorem dX2_fallFrom_46 : decode cX2_fallFrom 46 = .ok (.invokevirtual 52, 3) := by decide +kernel
theorem dX2_fallFrom_49 : decode cX2_fallFrom 49 = .ok (.istore 7, 2) := by decide +kernel
theorem dX2_fallFrom_51 : decode cX2_fallFrom 51 = .ok (.iload 7, 2) := by decide +kernel
theorem dX2_fallFrom_53 : decode cX2_fallFrom 53 = .ok (.iload 4, 2) := by decide +kernel
theorem dX2_fallFrom_55 : decode cX2_fallFrom 55 = .ok (.iload 5, 2) := by decide +kernel
theorem dX2_fallFrom_57 : decode cX2_fallFrom 57 = .ok (.isub, 1) := by decide +kernel
theorem dX2_fallFrom_58 : decode cX2_fallFrom 58 = .ok (.invokestatic 56, 3) := by decide +kernel
theorem dX2_fallFrom_61 : decode cX2_fallFrom 61 = .ok (.istore 8, 2) := by decide +kernel
theorem dX2_fallFrom_63 : decode cX2_fallFrom 63 = .ok (.aload_n 0, 1) := by decide +kernel
theorem dX2_fallFrom_64 : decode cX2_fallFrom 64 = .ok (.iload_n 1, 1) := by decide +kernel
theorem dX2_fallFrom_65 : decode cX2_fallFrom 65 = .ok (.iload 6, 2) := by decide +kernel
theorem dX2_fallFrom_67 : decode cX2_fallFrom 67 = .ok (.iload 8, 2) := by decide +kernel
theorem dX2_fallFrom_69 : decode cX2_fallFrom 69 = .ok (.ineg, 1) := by decide +kernel
theorem dX2_fallFrom_70 : decode cX2_fallFrom 70 = .ok (.invokevirtual 32, 3) := by decide +kernel
theorem dX2_fallFrom_73 : decode cX2_fallFrom 73 = .ok (.aload_n 0, 1) := by decide +kernel
theorem dX2_fallFrom_74 : decode cX2_fallFrom 74 = .ok (.iload_n 1, 1) := by decide +kernel
theorem dX2_fallFrom_75 : decode cX2_fallFrom 75 = .ok (.iconst 1, 1) := by decide +kernel
theorem dX2_fallFrom_76 : decode cX2_fallFrom 76 = .ok (.iadd, 1) := by decide +kernel
theorem dX2_fallFrom_77 : decode cX2_fallFrom 77 = .ok (.iload 6, 2) := by decide +kernel
theorem dX2_fallFrom_79 : decode cX2_fallFrom 79 = .ok (.iload 8, 2) := by decide +kernel
theorem dX2_fallFrom_81 : decode cX2_fallFrom 81 = .ok (.invokevirtual 32, 3) := by decide +kernel
theorem dX2_fallFrom_84 : decode cX2_fallFrom 84 = .ok (.iload 5, 2) := by decide +kernel
theorem dX2_fallFrom_86 : decode cX2_fallFrom 86 = .ok (.iload 8, 2) := by decide +kernel
theorem dX2_fallFrom_88 : decode cX2_fallFrom 88 = .ok (.iadd, 1) := by decide +kernel
theorem dX2_fallFrom_89 : decode cX2_fallFrom 89 = .ok (.istore 5, 2) := by decide +kernel
theorem dX2_fallFrom_91 : decode cX2_fallFrom 91 = .ok (.iinc 6 1, 3) := by decide +kernel
theorem dX2_fallFrom_94 : decode cX2_fallFrom 94 = .ok (.goto (-65), 3) := by decide +kernel
theorem dX2_fallFrom_97 : decode cX2_fallFrom 97 = .ok (.iload 5, 2) := by decide +kernel
theorem dX2_fallFrom_99 : decode cX2_fallFrom 99 = .ok (.ireturn, 1) := by decide +kernel
set_option maxRecDepth 20000 in
theorem ggX2_reasonToStay_X2_many : GoodIn wsX2_reasonToStay wsX2_many := goodIn_r _ [5, 6, 35] (by decide +kernel) (by decide +kernel)
set_option maxRecDepth 20000 in
theorem gX2_reasonToStay_X2_many : GoodIn wsX2_reasonToStay (wsV RX2 21 RX2 yX2_many wsX2_many) := goodIn_app (goodIn_of _ (by decide +kernel)) ggX2_reasonToStay_X2_many
set_option maxRecDepth 20000 in
theorem ggX2_reasonToStay_X2_allIn : GoodIn wsX2_reasonToStay wsX2_allIn := goodIn_r _ [10, 1, 2, 3, 4, 5, 6, 35] (by decide +kernel) (by decide +kernel)
set_option maxRecDepth 20000 in
theorem gX2_reasonToStay_X2_allIn : GoodIn wsX2_reasonToStay (wsV RX2 25 RX2 yX2_allIn wsX2_allIn) := goodIn_app (goodIn_of _ (by decide +kernel)) ggX2_reasonToStay_X2_allIn
set_option maxRecDepth 20000 in
theorem ggX2_reasonToStay_X3_roomOver : GoodIn wsX2_reasonToStay wsX3_roomOver := goodIn_r _ [15, 16, 17, 18, 19, 20, 36, 37] (by decide +kernel) (by decide +kernel)
set_option maxRecDepth 20000 in
theorem gX2_reasonToStay_X3_roomOver : GoodIn wsX2_reasonToStay (wsV RX2 49 RX3 yX3_roomOver wsX3_roomOver) := goodIn_app (goodIn_of _ (by decide +kernel)) ggX2_reasonToStay_X3_roomOver
set_option maxRecDepth 20000 in
theorem ggX2_reasonToStay_X3_factorOf : GoodIn wsX2_reasonToStay wsX3_factorOf := goodIn_r _ [24, 25, 16, 17, 18, 19, 20, 36, 37] (by decide +kernel) (by decide +kernel)
set_option maxRecDepth 20000 in
theorem gX2_reasonToStay_X3_factorOf : GoodIn wsX2_reasonToStay (wsV RX2 44 RX3 yX3_factorOf wsX3_factorOf) := goodIn_app (goodIn_of _ (by decide +kernel)) ggX2_reasonToStay_X3_factorOf
set_option maxRecDepth 20000 in
theorem ggX2_reasonToStay_X3_wantingToFall : GoodIn wsX2_reasonToStay wsX3_wantingToFall := goodIn_r _ [29, 30, 31, 16, 32, 33, 19, 34, 36, 37] (by decide +kernel) (by decide +kernel)
set_option maxRecDepth 20000 in
theorem gX2_reasonToStay_X3_wantingToFall : GoodIn wsX2_reasonToStay (wsV RX2 52 RX3 yX3_wantingToFall wsX3_wantingToFall) := goodIn_app (goodIn_of _ (by decide +kernel)) ggX2_reasonToStay_X3_wantingToFall
theorem dX2_reasonToStay_0 : decode cX2_reasonToStay 0 = .ok (.iload_n 1, 1) := by decide +kernel
theorem dX2_reasonToStay_1 : decode cX2_reasonToStay 1 = .ok (.bipush 11, 2) := by decide +kernel
theorem dX2_reasonToStay_3 : decode cX2_reasonToStay 3 = .ok (.if_icmp .ne 5, 3) := by decide +kernel
theorem dX2_reasonToStay_6 : decode cX2_reasonToStay 6 = .ok (.iconst 1, 1) := by decide +kernel
theorem dX2_reasonToStay_7 : decode cX2_reasonToStay 7 = .ok (.ireturn, 1) := by decide +kernel
theorem dX2_reasonToStay_8 : decode cX2_reasonToStay 8 = .ok (.aload_n 0, 1) := by decide +kernel
theorem dX2_reasonToStay_9 : decode cX2_reasonToStay 9 = .ok (.iload_n 1, 1) := by decide +kernel
theorem dX2_reasonToStay_10 : decode cX2_reasonToStay 10 = .ok (.iload_n 2, 1) := by decide +kernel
theorem dX2_reasonToStay_11 : decode cX2_reasonToStay 11 = .ok (.invokevirtual 21, 3) := by decide +kernel
theorem dX2_reasonToStay_14 : decode cX2_reasonToStay 14 = .ok (.istore 4, 2) := by decide +kernel
theorem dX2_reasonToStay_16 : decode cX2_reasonToStay 16 = .ok (.iload 4, 2) := by decide +kernel
theorem dX2_reasonToStay_18 : decode cX2_reasonToStay 18 = .ok (.ifCond .ne 5, 3) := by decide +kernel
theorem dX2_reasonToStay_21 : decode cX2_reasonToStay 21 = .ok (.iconst 2, 1) := by decide +kernel
theorem dX2_reasonToStay_22 : decode cX2_reasonToStay 22 = .ok (.ireturn, 1) := by decide +kernel
theorem dX2_reasonToStay_23 : decode cX2_reasonToStay 23 = .ok (.aload_n 3, 1) := by decide +kernel
theorem dX2_reasonToStay_24 : decode cX2_reasonToStay 24 = .ok (.aload_n 0, 1) := by decide +kernel
theorem dX2_reasonToStay_25 : decode cX2_reasonToStay 25 = .ok (.iload_n 1, 1) := by decide +kernel
theorem dX2_reasonToStay_26 : decode cX2_reasonToStay 26 = .ok (.iconst 1, 1) := by decide +kernel
theorem dX2_reasonToStay_27 : decode cX2_reasonToStay 27 = .ok (.iadd, 1) := by decide +kernel
theorem dX2_reasonToStay_28 : decode cX2_reasonToStay 28 = .ok (.invokevirtual 25, 3) := by decide +kernel
theorem dX2_reasonToStay_31 : decode cX2_reasonToStay 31 = .ok (.invokevirtual 49, 3) := by decide +kernel
theorem dX2_reasonToStay_34 : decode cX2_reasonToStay 34 = .ok (.ifCond .ne 5, 3) := by decide +kernel
theorem dX2_reasonToStay_37 : decode cX2_reasonToStay 37 = .ok (.iconst 3, 1) := by decide +kernel
theorem dX2_reasonToStay_38 : decode cX2_reasonToStay 38 = .ok (.ireturn, 1) := by decide +kernel
theorem dX2_reasonToStay_39 : decode cX2_reasonToStay 39 = .ok (.aload_n 3, 1) := by decide +kernel
theorem dX2_reasonToStay_40 : decode cX2_reasonToStay 40 = .ok (.aload_n 0, 1) := by decide +kernel
theorem dX2_reasonToStay_41 : decode cX2_reasonToStay 41 = .ok (.iload_n 1, 1) := by decide +kernel
theorem dX2_reasonToStay_42 : decode cX2_reasonToStay 42 = .ok (.invokevirtual 25, 3) := by decide +kernel
theorem dX2_reasonToStay_45 : decode cX2_reasonToStay 45 = .ok (.invokevirtual 44, 3) := by decide +kernel
theorem dX2_reasonToStay_48 : decode cX2_reasonToStay 48 = .ok (.istore 5, 2) := by decide +kernel
theorem dX2_reasonToStay_50 : decode cX2_reasonToStay 50 = .ok (.aload_n 3, 1) := by decide +kernel
theorem dX2_reasonToStay_51 : decode cX2_reasonToStay 51 = .ok (.iload_n 2, 1) := by decide +kernel
theorem dX2_reasonToStay_52 : decode cX2_reasonToStay 52 = .ok (.iload 4, 2) := by decide +kernel
theorem dX2_reasonToStay_54 : decode cX2_reasonToStay 54 = .ok (.iload 5, 2) := by decide +kernel
theorem dX2_reasonToStay_56 : decode cX2_reasonToStay 56 = .ok (.invokevirtual 52, 3) := by decide +kernel
theorem dX2_reasonToStay_59 : decode cX2_reasonToStay 59 = .ok (.ifCond .ne 7, 3) := by decide +kernel
theorem dX2_reasonToStay_62 : decode cX2_reasonToStay 62 = .ok (.iconst 4, 1) := by decide +kernel
theorem dX2_reasonToStay_63 : decode cX2_reasonToStay 63 = .ok (.goto 4, 3) := by decide +kernel
theorem dX2_reasonToStay_66 : decode cX2_reasonToStay 66 = .ok (.iconst 0, 1) := by decide +kernel
theorem dX2_reasonToStay_67 : decode cX2_reasonToStay 67 = .ok (.ireturn, 1) := by decide +kernel
set_option maxRecDepth 20000 in
theorem ggX2_isAtRest_X2_reasonToStay : GoodIn wsX2_isAtRest wsX2_reasonToStay := goodIn_r _ [5, 6, 7, 8, 4, 9, 10, 11, 12, 13, 14, 15, 16, 17, 18, 19, 20, 21, 22, 23, 24, 25, 26, 27, 28, 29, 30, 31, 32, 33, 34, 35, 36, 37, 38, 39, 40, 41] (by decide +kernel) (by decide +kernel)
set_option maxRecDepth 20000 in
theorem gX2_isAtRest_X2_reasonToStay : GoodIn wsX2_isAtRest (wsV RX2 61 RX2 yX2_reasonToStay wsX2_reasonToStay) := goodIn_app (goodIn_of _ (by decide +kernel)) ggX2_isAtRest_X2_reasonToStay
theorem dX2_isAtRest_0 : decode cX2_isAtRest 0 = .ok (.iconst 0, 1) := by decide +kernel
theorem dX2_isAtRest_1 : decode cX2_isAtRest 1 = .ok (.istore_n 2, 1) := by decide +kernel
theorem dX2_isAtRest_2 : decode cX2_isAtRest 2 = .ok (.iload_n 2, 1) := by decide +kernel
theorem dX2_isAtRest_3 : decode cX2_isAtRest 3 = .ok (.bipush 11, 2) := by decide +kernel
theorem dX2_isAtRest_5 : decode cX2_isAtRest 5 = .ok (.if_icmp .ge 34, 3) := by decide +kernel
theorem dX2_isAtRest_8 : decode cX2_isAtRest 8 = .ok (.iconst 0, 1) := by decide +kernel
theorem dX2_isAtRest_9 : decode cX2_isAtRest 9 = .ok (.istore_n 3, 1) := by decide +kernel
theorem dX2_isAtRest_10 : decode cX2_isAtRest 10 = .ok (.iload_n 3, 1) := by decide +kernel
theorem dX2_isAtRest_11 : decode cX2_isAtRest 11 = .ok (.iconst 4, 1) := by decide +kernel
theorem dX2_isAtRest_12 : decode cX2_isAtRest 12 = .ok (.if_icmp .ge 21, 3) := by decide +kernel
theorem dX2_isAtRest_15 : decode cX2_isAtRest 15 = .ok (.aload_n 0, 1) := by decide +kernel
theorem dX2_isAtRest_16 : decode cX2_isAtRest 16 = .ok (.iload_n 2, 1) := by decide +kernel
theorem dX2_isAtRest_17 : decode cX2_isAtRest 17 = .ok (.iload_n 3, 1) := by decide +kernel
theorem dX2_isAtRest_18 : decode cX2_isAtRest 18 = .ok (.aload_n 1, 1) := by decide +kernel
theorem dX2_isAtRest_19 : decode cX2_isAtRest 19 = .ok (.invokevirtual 61, 3) := by decide +kernel
theorem dX2_isAtRest_22 : decode cX2_isAtRest 22 = .ok (.ifCond .ne 5, 3) := by decide +kernel
theorem dX2_isAtRest_25 : decode cX2_isAtRest 25 = .ok (.iconst 0, 1) := by decide +kernel
theorem dX2_isAtRest_26 : decode cX2_isAtRest 26 = .ok (.ireturn, 1) := by decide +kernel
theorem dX2_isAtRest_27 : decode cX2_isAtRest 27 = .ok (.iinc 3 1, 3) := by decide +kernel
theorem dX2_isAtRest_30 : decode cX2_isAtRest 30 = .ok (.goto (-20), 3) := by decide +kernel
theorem dX2_isAtRest_33 : decode cX2_isAtRest 33 = .ok (.iinc 2 1, 3) := by decide +kernel
theorem dX2_isAtRest_36 : decode cX2_isAtRest 36 = .ok (.goto (-34), 3) := by decide +kernel
theorem dX2_isAtRest_39 : decode cX2_isAtRest 39 = .ok (.iconst 1, 1) := by decide +kernel
theorem dX2_isAtRest_40 : decode cX2_isAtRest 40 = .ok (.ireturn, 1) := by decide +kernel
set_option maxRecDepth 20000 in
theorem ggX2_sliceProperty_X2_allIn : GoodIn wsX2_sliceProperty wsX2_allIn := goodIn_r _ [5, 6, 7, 8, 4, 9, 10, 38] (by decide +kernel) (by decide +kernel)
set_option maxRecDepth 20000 in
theorem gX2_sliceProperty_X2_allIn : GoodIn wsX2_sliceProperty (wsV RX2 25 RX2 yX2_allIn wsX2_allIn) := goodIn_app (goodIn_of _ (by decide +kernel)) ggX2_sliceProperty_X2_allIn
set_option maxRecDepth 20000 in
theorem ggX2_sliceProperty_X3_isPacked : GoodIn wsX2_sliceProperty wsX3_isPacked := goodIn_r _ [15, 16, 39, 40] (by decide +kernel) (by decide +kernel)
set_option maxRecDepth 20000 in
theorem gX2_sliceProperty_X3_isPacked : GoodIn wsX2_sliceProperty (wsV RX2 65 RX3 yX3_isPacked wsX3_isPacked) := goodIn_app (goodIn_of _ (by decide +kernel)) ggX2_sliceProperty_X3_isPacked
set_option maxRecDepth 20000 in
theorem ggX2_sliceProperty_X3_isClear : GoodIn wsX2_sliceProperty wsX3_isClear := goodIn_r _ [20, 16, 39, 40] (by decide +kernel) (by decide +kernel)
set_option maxRecDepth 20000 in
theorem gX2_sliceProperty_X3_isClear : GoodIn wsX2_sliceProperty (wsV RX2 69 RX3 yX3_isClear wsX3_isClear) := goodIn_app (goodIn_of _ (by decide +kernel)) ggX2_sliceProperty_X3_isClear
set_option maxRecDepth 20000 in
theorem ggX2_sliceProperty_X2_leadingClass : GoodIn wsX2_sliceProperty wsX2_leadingClass := goodIn_r _ [24, 6, 7, 8, 4, 9, 10, 38] (by decide +kernel) (by decide +kernel)
set_option maxRecDepth 20000 in
theorem gX2_sliceProperty_X2_leadingClass : GoodIn wsX2_sliceProperty (wsV RX2 72 RX2 yX2_leadingClass wsX2_leadingClass) := goodIn_app (goodIn_of _ (by decide +kernel)) ggX2_sliceProperty_X2_leadingClass
set_option maxRecDepth 20000 in
theorem ggX2_sliceProperty_X3_factorOf : GoodIn wsX2_sliceProperty wsX3_factorOf := goodIn_r _ [28, 29, 16, 30, 31, 32, 33, 39, 40] (by decide +kernel) (by decide +kernel)
set_option maxRecDepth 20000 in
theorem gX2_sliceProperty_X3_factorOf : GoodIn wsX2_sliceProperty (wsV RX2 44 RX3 yX3_factorOf wsX3_factorOf) := goodIn_app (goodIn_of _ (by decide +kernel)) ggX2_sliceProperty_X3_factorOf
set_option maxRecDepth 20000 in
theorem ggX2_sliceProperty_X3_roomOver : GoodIn wsX2_sliceProperty wsX3_roomOver := goodIn_r _ [37, 16, 30, 31, 32, 33, 39, 40] (by decide +kernel) (by decide +kernel)
set_option maxRecDepth 20000 in
theorem gX2_sliceProperty_X3_roomOver : GoodIn wsX2_sliceProperty (wsV RX2 49 RX3 yX3_roomOver wsX3_roomOver) := goodIn_app (goodIn_of _ (by decide +kernel)) ggX2_sliceProperty_X3_roomOver
set_option maxRecDepth 20000 in
theorem ggX2_sliceProperty_X2_many : GoodIn wsX2_sliceProperty wsX2_many := goodIn_r _ [9, 10, 38] (by decide +kernel) (by decide +kernel)
set_option maxRecDepth 20000 in
theorem gX2_sliceProperty_X2_many : GoodIn wsX2_sliceProperty (wsV RX2 21 RX2 yX2_many wsX2_many) := goodIn_app (goodIn_of _ (by decide +kernel)) ggX2_sliceProperty_X2_many
theorem dX2_sliceProperty_0 : decode cX2_sliceProperty 0 = .ok (.iload_n 2, 1) := by decide +kernel
theorem dX2_sliceProperty_1 : decode cX2_sliceProperty 1 = .ok (.tableswitch 107 4 9 #[39, 45, 63, 81, 87, 97], 39) := by decide +kernel
theorem dX2_sliceProperty_40 : decode cX2_sliceProperty 40 = .ok (.aload_n 0, 1) := by decide +kernel
theorem dX2_sliceProperty_41 : decode cX2_sliceProperty 41 = .ok (.iload_n 1, 1) := by decide +kernel
theorem dX2_sliceProperty_42 : decode cX2_sliceProperty 42 = .ok (.invokevirtual 25, 3) := by decide +kernel
theorem dX2_sliceProperty_45 : decode cX2_sliceProperty 45 = .ok (.ireturn, 1) := by decide +kernel
theorem dX2_sliceProperty_46 : decode cX2_sliceProperty 46 = .ok (.aload_n 3, 1) := by decide +kernel
theorem dX2_sliceProperty_47 : decode cX2_sliceProperty 47 = .ok (.aload_n 0, 1) := by decide +kernel
theorem dX2_sliceProperty_48 : decode cX2_sliceProperty 48 = .ok (.iload_n 1, 1) := by decide +kernel
theorem dX2_sliceProperty_49 : decode cX2_sliceProperty 49 = .ok (.invokevirtual 25, 3) := by decide +kernel
theorem dX2_sliceProperty_52 : decode cX2_sliceProperty 52 = .ok (.invokevirtual 65, 3) := by decide +kernel
theorem dX2_sliceProperty_55 : decode cX2_sliceProperty 55 = .ok (.ifCond .eq 7, 3) := by decide +kernel
theorem dX2_sliceProperty_58 : decode cX2_sliceProperty 58 = .ok (.iconst 1, 1) := by decide +kernel
theorem dX2_sliceProperty_59 : decode cX2_sliceProperty 59 = .ok (.goto 4, 3) := by decide +kernel
theorem dX2_sliceProperty_62 : decode cX2_sliceProperty 62 = .ok (.iconst 0, 1) := by decide +kernel
theorem dX2_sliceProperty_63 : decode cX2_sliceProperty 63 = .ok (.ireturn, 1) := by decide +kernel
theorem dX2_sliceProperty_64 : decode cX2_sliceProperty 64 = .ok (.aload_n 3, 1) := by decide +kernel
theorem dX2_sliceProperty_65 : decode cX2_sliceProperty 65 = .ok (.aload_n 0, 1) := by decide +kernel
theorem dX2_sliceProperty_66 : decode cX2_sliceProperty 66 = .ok (.iload_n 1, 1) := by decide +kernel
theorem dX2_sliceProperty_67 : decode cX2_sliceProperty 67 = .ok (.invokevirtual 25, 3) := by decide +kernel
theorem dX2_sliceProperty_70 : decode cX2_sliceProperty 70 = .ok (.invokevirtual 69, 3) := by decide +kernel
theorem dX2_sliceProperty_73 : decode cX2_sliceProperty 73 = .ok (.ifCond .eq 7, 3) := by decide +kernel
theorem dX2_sliceProperty_76 : decode cX2_sliceProperty 76 = .ok (.iconst 1, 1) := by decide +kernel
theorem dX2_sliceProperty_77 : decode cX2_sliceProperty 77 = .ok (.goto 4, 3) := by decide +kernel
theorem dX2_sliceProperty_80 : decode cX2_sliceProperty 80 = .ok (.iconst 0, 1) := by decide +kernel
theorem dX2_sliceProperty_81 : decode cX2_sliceProperty 81 = .ok (.ireturn, 1) := by decide +kernel
theorem dX2_sliceProperty_82 : decode cX2_sliceProperty 82 = .ok (.aload_n 0, 1) := by decide +kernel
theorem dX2_sliceProperty_83 : decode cX2_sliceProperty 83 = .ok (.iload_n 1, 1) := by decide +kernel
theorem dX2_sliceProperty_84 : decode cX2_sliceProperty 84 = .ok (.invokevirtual 72, 3) := by decide +kernel
theorem dX2_sliceProperty_87 : decode cX2_sliceProperty 87 = .ok (.ireturn, 1) := by decide +kernel
theorem dX2_sliceProperty_88 : decode cX2_sliceProperty 88 = .ok (.aload_n 3, 1) := by decide +kernel
theorem dX2_sliceProperty_89 : decode cX2_sliceProperty 89 = .ok (.aload_n 0, 1) := by decide +kernel
theorem dX2_sliceProperty_90 : decode cX2_sliceProperty 90 = .ok (.iload_n 1, 1) := by decide +kernel
theorem dX2_sliceProperty_91 : decode cX2_sliceProperty 91 = .ok (.invokevirtual 25, 3) := by decide +kernel
theorem dX2_sliceProperty_94 : decode cX2_sliceProperty 94 = .ok (.invokevirtual 44, 3) := by decide +kernel
theorem dX2_sliceProperty_97 : decode cX2_sliceProperty 97 = .ok (.ireturn, 1) := by decide +kernel
theorem dX2_sliceProperty_98 : decode cX2_sliceProperty 98 = .ok (.aload_n 3, 1) := by decide +kernel
theorem dX2_sliceProperty_99 : decode cX2_sliceProperty 99 = .ok (.aload_n 0, 1) := by decide +kernel
theorem dX2_sliceProperty_100 : decode cX2_sliceProperty 100 = .ok (.iload_n 1, 1) := by decide +kernel
theorem dX2_sliceProperty_101 : decode cX2_sliceProperty 101 = .ok (.invokevirtual 25, 3) := by decide +kernel
theorem dX2_sliceProperty_104 : decode cX2_sliceProperty 104 = .ok (.invokevirtual 49, 3) := by decide +kernel
theorem dX2_sliceProperty_107 : decode cX2_sliceProperty 107 = .ok (.ireturn, 1) := by decide +kernel
theorem dX2_sliceProperty_108 : decode cX2_sliceProperty 108 = .ok (.aload_n 0, 1) := by decide +kernel
theorem dX2_sliceProperty_109 : decode cX2_sliceProperty 109 = .ok (.iload_n 1, 1) := by decide +kernel
theorem dX2_sliceProperty_110 : decode cX2_sliceProperty 110 = .ok (.iload_n 2, 1) := by decide +kernel
theorem dX2_sliceProperty_111 : decode cX2_sliceProperty 111 = .ok (.invokevirtual 21, 3) := by decide +kernel
theorem dX2_sliceProperty_114 : decode cX2_sliceProperty 114 = .ok (.ireturn, 1) := by decide +kernel
set_option maxRecDepth 20000 in
theorem ggX2_property_X2_all : GoodIn wsX2_property wsX2_all := goodIn_r _ [5, 6, 7, 8, 4, 9, 10, 11, 12, 13, 14, 15, 16, 17, 18, 79] (by decide +kernel) (by decide +kernel)
set_option maxRecDepth 20000 in
theorem gX2_property_X2_all : GoodIn wsX2_property (wsV RX2 75 RX2 yX2_all wsX2_all) := goodIn_app (goodIn_of _ (by decide +kernel)) ggX2_property_X2_all
set_option maxRecDepth 20000 in
theorem ggX2_property_X2_bedSlices : GoodIn wsX2_property wsX2_bedSlices := goodIn_r _ [22, 10, 11, 12, 4, 13, 14, 15, 16, 17, 18, 23, 24, 25, 26, 27, 28, 79, 80, 81] (by decide +kernel) (by decide +kernel)
set_option maxRecDepth 20000 in
theorem gX2_property_X2_bedSlices : GoodIn wsX2_property (wsV RX2 79 RX2 yX2_bedSlices wsX2_bedSlices) := goodIn_app (goodIn_of _ (by decide +kernel)) ggX2_property_X2_bedSlices
set_option maxRecDepth 20000 in
theorem ggX2_property_X2_clearWater : GoodIn wsX2_property wsX2_clearWater := goodIn_r _ [32, 10, 11, 12, 4, 13, 14, 15, 16, 17, 18, 33, 34, 35, 26, 36, 28, 79, 80, 81] (by decide +kernel) (by decide +kernel)
set_option maxRecDepth 20000 in
theorem gX2_property_X2_clearWater : GoodIn wsX2_property (wsV RX2 82 RX2 yX2_clearWater wsX2_clearWater) := goodIn_app (goodIn_of _ (by decide +kernel)) ggX2_property_X2_clearWater
set_option maxRecDepth 20000 in
theorem ggX2_property_X2_allDownTo : GoodIn wsX2_property wsX2_allDownTo := goodIn_r _ [9, 10, 11, 12, 4, 13, 14, 15, 16, 17, 18, 79] (by decide +kernel) (by decide +kernel)
set_option maxRecDepth 20000 in
theorem gX2_property_X2_allDownTo : GoodIn wsX2_property (wsV RX2 29 RX2 yX2_allDownTo wsX2_allDownTo) := goodIn_app (goodIn_of _ (by decide +kernel)) ggX2_property_X2_allDownTo
set_option maxRecDepth 20000 in
theorem ggX2_property_X2_changesOfLeader : GoodIn wsX2_property wsX2_changesOfLeader := goodIn_r _ [40, 41, 42, 43, 4, 44, 14, 15, 16, 17, 18, 79] (by decide +kernel) (by decide +kernel)
set_option maxRecDepth 20000 in
theorem gX2_property_X2_changesOfLeader : GoodIn wsX2_property (wsV RX2 85 RX2 yX2_changesOfLeader wsX2_changesOfLeader) := goodIn_app (goodIn_of _ (by decide +kernel)) ggX2_property_X2_changesOfLeader
set_option maxRecDepth 20000 in
theorem ggX2_property_X2_isAtRest : GoodIn wsX2_property wsX2_isAtRest := goodIn_r _ [48, 49, 50, 51, 4, 52, 14, 15, 16, 17, 18, 10, 11, 12, 13, 53, 54, 55, 26, 56, 28, 57, 58, 59, 60, 61, 62, 63, 64, 65, 66, 67, 68, 69, 70, 71, 72, 73, 74, 79, 80, 81] (by decide +kernel) (by decide +kernel)
set_option maxRecDepth 20000 in
theorem gX2_property_X2_isAtRest : GoodIn wsX2_property (wsV RX2 88 RX2 yX2_isAtRest wsX2_isAtRest) := goodIn_app (goodIn_of _ (by decide +kernel)) ggX2_property_X2_isAtRest
set_option maxRecDepth 20000 in
theorem ggX2_property_X2_allOf : GoodIn wsX2_property wsX2_allOf := goodIn_r _ [78, 14, 15, 16, 4, 17, 18, 79] (by decide +kernel) (by decide +kernel)
set_option maxRecDepth 20000 in
theorem gX2_property_X2_allOf : GoodIn wsX2_property (wsV RX2 92 RX2 yX2_allOf wsX2_allOf) := goodIn_app (goodIn_of _ (by decide +kernel)) ggX2_property_X2_allOf
theorem dX2_property_0 : decode cX2_property 0 = .ok (.iload_n 1, 1) := by decide +kernel
theorem dX2_property_1 : decode cX2_property 1 = .ok (.tableswitch 109 0 9 #[55, 109, 109, 109, 109, 60, 66, 72, 90, 95], 55) := by decide +kernel
theorem dX2_property_56 : decode cX2_property 56 = .ok (.aload_n 0, 1) := by decide +kernel
theorem dX2_property_57 : decode cX2_property 57 = .ok (.invokevirtual 75, 3) := by decide +kernel
theorem dX2_property_60 : decode cX2_property 60 = .ok (.ireturn, 1) := by decide +kernel
theorem dX2_property_61 : decode cX2_property 61 = .ok (.aload_n 0, 1) := by decide +kernel
theorem dX2_property_62 : decode cX2_property 62 = .ok (.aload_n 2, 1) := by decide +kernel
theorem dX2_property_63 : decode cX2_property 63 = .ok (.invokevirtual 79, 3) := by decide +kernel
theorem dX2_property_66 : decode cX2_property 66 = .ok (.ireturn, 1) := by decide +kernel
theorem dX2_property_67 : decode cX2_property 67 = .ok (.aload_n 0, 1) := by decide +kernel
theorem dX2_property_68 : decode cX2_property 68 = .ok (.aload_n 2, 1) := by decide +kernel
theorem dX2_property_69 : decode cX2_property 69 = .ok (.invokevirtual 82, 3) := by decide +kernel
theorem dX2_property_72 : decode cX2_property 72 = .ok (.ireturn, 1) := by decide +kernel
theorem dX2_property_73 : decode cX2_property 73 = .ok (.aload_n 0, 1) := by decide +kernel
theorem dX2_property_74 : decode cX2_property 74 = .ok (.invokevirtual 75, 3) := by decide +kernel
theorem dX2_property_77 : decode cX2_property 77 = .ok (.aload_n 0, 1) := by decide +kernel
theorem dX2_property_78 : decode cX2_property 78 = .ok (.bipush 11, 2) := by decide +kernel
theorem dX2_property_80 : decode cX2_property 80 = .ok (.aload_n 0, 1) := by decide +kernel
theorem dX2_property_81 : decode cX2_property 81 = .ok (.aload_n 2, 1) := by decide +kernel
theorem dX2_property_82 : decode cX2_property 82 = .ok (.invokevirtual 79, 3) := by decide +kernel
theorem dX2_property_85 : decode cX2_property 85 = .ok (.isub, 1) := by decide +kernel
theorem dX2_property_86 : decode cX2_property 86 = .ok (.invokevirtual 29, 3) := by decide +kernel
theorem dX2_property_89 : decode cX2_property 89 = .ok (.isub, 1) := by decide +kernel
theorem dX2_property_90 : decode cX2_property 90 = .ok (.ireturn, 1) := by decide +kernel
theorem dX2_property_91 : decode cX2_property 91 = .ok (.aload_n 0, 1) := by decide +kernel
theorem dX2_property_92 : decode cX2_property 92 = .ok (.invokevirtual 85, 3) := by decide +kernel
theorem dX2_property_95 : decode cX2_property 95 = .ok (.ireturn, 1) := by decide +kernel
theorem dX2_property_96 : decode cX2_property 96 = .ok (.aload_n 0, 1) := by decide +kernel
theorem dX2_property_97 : decode cX2_property 97 = .ok (.aload_n 2, 1) := by decide +kernel
theorem dX2_property_98 : decode cX2_property 98 = .ok (.invokevirtual 88, 3) := by decide +kernel
theorem dX2_property_101 : decode cX2_property 101 = .ok (.ifCond .eq 7, 3) := by decide +kernel
theorem dX2_property_104 : decode cX2_property 104 = .ok (.iconst 1, 1) := by decide +kernel
theorem dX2_property_105 : decode cX2_property 105 = .ok (.goto 4, 3) := by decide +kernel
theorem dX2_property_108 : decode cX2_property 108 = .ok (.iconst 0, 1) := by decide +kernel
theorem dX2_property_109 : decode cX2_property 109 = .ok (.ireturn, 1) := by decide +kernel
theorem dX2_property_110 : decode cX2_property 110 = .ok (.aload_n 0, 1) := by decide +kernel
theorem dX2_property_111 : decode cX2_property 111 = .ok (.iload_n 1, 1) := by decide +kernel
theorem dX2_property_112 : decode cX2_property 112 = .ok (.iconst 1, 1) := by decide +kernel
theorem dX2_property_113 : decode cX2_property 113 = .ok (.isub, 1) := by decide +kernel
theorem dX2_property_114 : decode cX2_property 114 = .ok (.invokevirtual 92, 3) := by decide +kernel
theorem dX2_property_117 : decode cX2_property 117 = .ok (.ireturn, 1) := by decide +kernel
set_option maxRecDepth 20000 in
theorem ggX2_bedSlices_X2_allIn : GoodIn wsX2_bedSlices wsX2_allIn := goodIn_r _ [5, 6, 7, 8, 4, 9, 10, 17] (by decide +kernel) (by decide +kernel)
set_option maxRecDepth 20000 in
theorem gX2_bedSlices_X2_allIn : GoodIn wsX2_bedSlices (wsV RX2 25 RX2 yX2_allIn wsX2_allIn) := goodIn_app (goodIn_of _ (by decide +kernel)) ggX2_bedSlices_X2_allIn
set_option maxRecDepth 20000 in
theorem ggX2_bedSlices_X3_isPacked : GoodIn wsX2_bedSlices wsX3_isPacked := goodIn_r _ [15, 16, 18, 19] (by decide +kernel) (by decide +kernel)
set_option maxRecDepth 20000 in
theorem gX2_bedSlices_X3_isPacked : GoodIn wsX2_bedSlices (wsV RX2 65 RX3 yX3_isPacked wsX3_isPacked) := goodIn_app (goodIn_of _ (by decide +kernel)) ggX2_bedSlices_X3_isPacked
theorem dX2_bedSlices_0 : decode cX2_bedSlices 0 = .ok (.iconst 0, 1) := by decide +kernel
theorem dX2_bedSlices_1 : decode cX2_bedSlices 1 = .ok (.istore_n 2, 1) := by decide +kernel
theorem dX2_bedSlices_2 : decode cX2_bedSlices 2 = .ok (.iload_n 2, 1) := by decide +kernel
theorem dX2_bedSlices_3 : decode cX2_bedSlices 3 = .ok (.bipush 12, 2) := by decide +kernel
theorem dX2_bedSlices_5 : decode cX2_bedSlices 5 = .ok (.if_icmp .ge 24, 3) := by decide +kernel
theorem dX2_bedSlices_8 : decode cX2_bedSlices 8 = .ok (.aload_n 1, 1) := by decide +kernel
theorem dX2_bedSlices_9 : decode cX2_bedSlices 9 = .ok (.aload_n 0, 1) := by decide +kernel
theorem dX2_bedSlices_10 : decode cX2_bedSlices 10 = .ok (.bipush 11, 2) := by decide +kernel
theorem dX2_bedSlices_12 : decode cX2_bedSlices 12 = .ok (.iload_n 2, 1) := by decide +kernel
theorem dX2_bedSlices_13 : decode cX2_bedSlices 13 = .ok (.isub, 1) := by decide +kernel
theorem dX2_bedSlices_14 : decode cX2_bedSlices 14 = .ok (.invokevirtual 25, 3) := by decide +kernel
theorem dX2_bedSlices_17 : decode cX2_bedSlices 17 = .ok (.invokevirtual 65, 3) := by decide +kernel
theorem dX2_bedSlices_20 : decode cX2_bedSlices 20 = .ok (.ifCond .eq 9, 3) := by decide +kernel
theorem dX2_bedSlices_23 : decode cX2_bedSlices 23 = .ok (.iinc 2 1, 3) := by decide +kernel
theorem dX2_bedSlices_26 : decode cX2_bedSlices 26 = .ok (.goto (-24), 3) := by decide +kernel
theorem dX2_bedSlices_29 : decode cX2_bedSlices 29 = .ok (.iload_n 2, 1) := by decide +kernel
theorem dX2_bedSlices_30 : decode cX2_bedSlices 30 = .ok (.ireturn, 1) := by decide +kernel
set_option maxRecDepth 20000 in
theorem ggX2_clearWater_X2_allIn : GoodIn wsX2_clearWater wsX2_allIn := goodIn_r _ [5, 6, 7, 8, 4, 9, 10, 17] (by decide +kernel) (by decide +kernel)
set_option maxRecDepth 20000 in
theorem gX2_clearWater_X2_allIn : GoodIn wsX2_clearWater (wsV RX2 25 RX2 yX2_allIn wsX2_allIn) := goodIn_app (goodIn_of _ (by decide +kernel)) ggX2_clearWater_X2_allIn
set_option maxRecDepth 20000 in
theorem ggX2_clearWater_X3_isClear : GoodIn wsX2_clearWater wsX3_isClear := goodIn_r _ [15, 16, 18, 19] (by decide +kernel) (by decide +kernel)
set_option maxRecDepth 20000 in
theorem gX2_clearWater_X3_isClear : GoodIn wsX2_clearWater (wsV RX2 69 RX3 yX3_isClear wsX3_isClear) := goodIn_app (goodIn_of _ (by decide +kernel)) ggX2_clearWater_X3_isClear
theorem dX2_clearWater_0 : decode cX2_clearWater 0 = .ok (.iconst 0, 1) := by decide +kernel
end
section
theorem dX2_clearWater_1 : decode cX2_clearWater 1 = .ok (.istore_n 2, 1) := by decide +kernel
theorem dX2_clearWater_2 : decode cX2_clearWater 2 = .ok (.iload_n 2, 1) := by decide +kernel
theorem dX2_clearWater_3 : decode cX2_clearWater 3 = .ok (.bipush 12, 2) := by decide +kernel
theorem dX2_clearWater_5 : decode cX2_clearWater 5 = .ok (.if_icmp .ge 21, 3) := by decide +kernel
theorem dX2_clearWater_8 : decode cX2_clearWater 8 = .ok (.aload_n 1, 1) := by decide +kernel
theorem dX2_clearWater_9 : decode cX2_clearWater 9 = .ok (.aload_n 0, 1) := by decide +kernel
theorem dX2_clearWater_10 : decode cX2_clearWater 10 = .ok (.iload_n 2, 1) := by decide +kernel
theorem dX2_clearWater_11 : decode cX2_clearWater 11 = .ok (.invokevirtual 25, 3) := by decide +kernel
theorem dX2_clearWater_14 : decode cX2_clearWater 14 = .ok (.invokevirtual 69, 3) := by decide +kernel
theorem dX2_clearWater_17 : decode cX2_clearWater 17 = .ok (.ifCond .eq 9, 3) := by decide +kernel
theorem dX2_clearWater_20 : decode cX2_clearWater 20 = .ok (.iinc 2 1, 3) := by decide +kernel
theorem dX2_clearWater_23 : decode cX2_clearWater 23 = .ok (.goto (-21), 3) := by decide +kernel
theorem dX2_clearWater_26 : decode cX2_clearWater 26 = .ok (.iload_n 2, 1) := by decide +kernel
theorem dX2_clearWater_27 : decode cX2_clearWater 27 = .ok (.ireturn, 1) := by decide +kernel
set_option maxRecDepth 20000 in
theorem ggX2_packedSlices_X2_allIn : GoodIn wsX2_packedSlices wsX2_allIn := goodIn_r _ [5, 6, 7, 8, 4, 9, 10, 17] (by decide +kernel) (by decide +kernel)
set_option maxRecDepth 20000 in
theorem gX2_packedSlices_X2_allIn : GoodIn wsX2_packedSlices (wsV RX2 25 RX2 yX2_allIn wsX2_allIn) := goodIn_app (goodIn_of _ (by decide +kernel)) ggX2_packedSlices_X2_allIn
set_option maxRecDepth 20000 in
theorem ggX2_packedSlices_X3_isPacked : GoodIn wsX2_packedSlices wsX3_isPacked := goodIn_r _ [15, 16, 18, 19] (by decide +kernel) (by decide +kernel)
set_option maxRecDepth 20000 in
theorem gX2_packedSlices_X3_isPacked : GoodIn wsX2_packedSlices (wsV RX2 65 RX3 yX3_isPacked wsX3_isPacked) := goodIn_app (goodIn_of _ (by decide +kernel)) ggX2_packedSlices_X3_isPacked
theorem dX2_packedSlices_0 : decode cX2_packedSlices 0 = .ok (.iconst 0, 1) := by decide +kernel
theorem dX2_packedSlices_1 : decode cX2_packedSlices 1 = .ok (.istore_n 2, 1) := by decide +kernel
theorem dX2_packedSlices_2 : decode cX2_packedSlices 2 = .ok (.iconst 0, 1) := by decide +kernel
theorem dX2_packedSlices_3 : decode cX2_packedSlices 3 = .ok (.istore_n 3, 1) := by decide +kernel
theorem dX2_packedSlices_4 : decode cX2_packedSlices 4 = .ok (.iload_n 3, 1) := by decide +kernel
theorem dX2_packedSlices_5 : decode cX2_packedSlices 5 = .ok (.bipush 12, 2) := by decide +kernel
theorem dX2_packedSlices_7 : decode cX2_packedSlices 7 = .ok (.if_icmp .ge 24, 3) := by decide +kernel
theorem dX2_packedSlices_10 : decode cX2_packedSlices 10 = .ok (.aload_n 1, 1) := by decide +kernel
theorem dX2_packedSlices_11 : decode cX2_packedSlices 11 = .ok (.aload_n 0, 1) := by decide +kernel
theorem dX2_packedSlices_12 : decode cX2_packedSlices 12 = .ok (.iload_n 3, 1) := by decide +kernel
theorem dX2_packedSlices_13 : decode cX2_packedSlices 13 = .ok (.invokevirtual 25, 3) := by decide +kernel
theorem dX2_packedSlices_16 : decode cX2_packedSlices 16 = .ok (.invokevirtual 65, 3) := by decide +kernel
theorem dX2_packedSlices_19 : decode cX2_packedSlices 19 = .ok (.ifCond .eq 6, 3) := by decide +kernel
theorem dX2_packedSlices_22 : decode cX2_packedSlices 22 = .ok (.iinc 2 1, 3) := by decide +kernel
theorem dX2_packedSlices_25 : decode cX2_packedSlices 25 = .ok (.iinc 3 1, 3) := by decide +kernel
theorem dX2_packedSlices_28 : decode cX2_packedSlices 28 = .ok (.goto (-24), 3) := by decide +kernel
theorem dX2_packedSlices_31 : decode cX2_packedSlices 31 = .ok (.iload_n 2, 1) := by decide +kernel
theorem dX2_packedSlices_32 : decode cX2_packedSlices 32 = .ok (.ireturn, 1) := by decide +kernel
set_option maxRecDepth 20000 in
theorem ggX2_clearSlices_X2_allIn : GoodIn wsX2_clearSlices wsX2_allIn := goodIn_r _ [5, 6, 7, 8, 4, 9, 10, 17] (by decide +kernel) (by decide +kernel)
set_option maxRecDepth 20000 in
theorem gX2_clearSlices_X2_allIn : GoodIn wsX2_clearSlices (wsV RX2 25 RX2 yX2_allIn wsX2_allIn) := goodIn_app (goodIn_of _ (by decide +kernel)) ggX2_clearSlices_X2_allIn
set_option maxRecDepth 20000 in
theorem ggX2_clearSlices_X3_isClear : GoodIn wsX2_clearSlices wsX3_isClear := goodIn_r _ [15, 16, 18, 19] (by decide +kernel) (by decide +kernel)
set_option maxRecDepth 20000 in
theorem gX2_clearSlices_X3_isClear : GoodIn wsX2_clearSlices (wsV RX2 69 RX3 yX3_isClear wsX3_isClear) := goodIn_app (goodIn_of _ (by decide +kernel)) ggX2_clearSlices_X3_isClear
theorem dX2_clearSlices_0 : decode cX2_clearSlices 0 = .ok (.iconst 0, 1) := by decide +kernel
theorem dX2_clearSlices_1 : decode cX2_clearSlices 1 = .ok (.istore_n 2, 1) := by decide +kernel
theorem dX2_clearSlices_2 : decode cX2_clearSlices 2 = .ok (.iconst 0, 1) := by decide +kernel
theorem dX2_clearSlices_3 : decode cX2_clearSlices 3 = .ok (.istore_n 3, 1) := by decide +kernel
theorem dX2_clearSlices_4 : decode cX2_clearSlices 4 = .ok (.iload_n 3, 1) := by decide +kernel
theorem dX2_clearSlices_5 : decode cX2_clearSlices 5 = .ok (.bipush 12, 2) := by decide +kernel
theorem dX2_clearSlices_7 : decode cX2_clearSlices 7 = .ok (.if_icmp .ge 24, 3) := by decide +kernel
theorem dX2_clearSlices_10 : decode cX2_clearSlices 10 = .ok (.aload_n 1, 1) := by decide +kernel
theorem dX2_clearSlices_11 : decode cX2_clearSlices 11 = .ok (.aload_n 0, 1) := by decide +kernel
theorem dX2_clearSlices_12 : decode cX2_clearSlices 12 = .ok (.iload_n 3, 1) := by decide +kernel
theorem dX2_clearSlices_13 : decode cX2_clearSlices 13 = .ok (.invokevirtual 25, 3) := by decide +kernel
theorem dX2_clearSlices_16 : decode cX2_clearSlices 16 = .ok (.invokevirtual 69, 3) := by decide +kernel
theorem dX2_clearSlices_19 : decode cX2_clearSlices 19 = .ok (.ifCond .eq 6, 3) := by decide +kernel
theorem dX2_clearSlices_22 : decode cX2_clearSlices 22 = .ok (.iinc 2 1, 3) := by decide +kernel
theorem dX2_clearSlices_25 : decode cX2_clearSlices 25 = .ok (.iinc 3 1, 3) := by decide +kernel
theorem dX2_clearSlices_28 : decode cX2_clearSlices 28 = .ok (.goto (-24), 3) := by decide +kernel
theorem dX2_clearSlices_31 : decode cX2_clearSlices 31 = .ok (.iload_n 2, 1) := by decide +kernel
theorem dX2_clearSlices_32 : decode cX2_clearSlices 32 = .ok (.ireturn, 1) := by decide +kernel
set_option maxRecDepth 20000 in
theorem ggX2_leadingClass_X2_many : GoodIn wsX2_leadingClass wsX2_many := goodIn_r _ [5, 6, 7] (by decide +kernel) (by decide +kernel)
set_option maxRecDepth 20000 in
theorem gX2_leadingClass_X2_many : GoodIn wsX2_leadingClass (wsV RX2 21 RX2 yX2_many wsX2_many) := goodIn_app (goodIn_of _ (by decide +kernel)) ggX2_leadingClass_X2_many
theorem dX2_leadingClass_0 : decode cX2_leadingClass 0 = .ok (.iconst (-1), 1) := by decide +kernel
theorem dX2_leadingClass_1 : decode cX2_leadingClass 1 = .ok (.istore_n 2, 1) := by decide +kernel
theorem dX2_leadingClass_2 : decode cX2_leadingClass 2 = .ok (.iconst 0, 1) := by decide +kernel
theorem dX2_leadingClass_3 : decode cX2_leadingClass 3 = .ok (.istore_n 3, 1) := by decide +kernel
theorem dX2_leadingClass_4 : decode cX2_leadingClass 4 = .ok (.iconst 0, 1) := by decide +kernel
theorem dX2_leadingClass_5 : decode cX2_leadingClass 5 = .ok (.istore 4, 2) := by decide +kernel
theorem dX2_leadingClass_7 : decode cX2_leadingClass 7 = .ok (.iload 4, 2) := by decide +kernel
theorem dX2_leadingClass_9 : decode cX2_leadingClass 9 = .ok (.iconst 4, 1) := by decide +kernel
theorem dX2_leadingClass_10 : decode cX2_leadingClass 10 = .ok (.if_icmp .ge 31, 3) := by decide +kernel
theorem dX2_leadingClass_13 : decode cX2_leadingClass 13 = .ok (.aload_n 0, 1) := by decide +kernel
theorem dX2_leadingClass_14 : decode cX2_leadingClass 14 = .ok (.iload_n 1, 1) := by decide +kernel
theorem dX2_leadingClass_15 : decode cX2_leadingClass 15 = .ok (.iload 4, 2) := by decide +kernel
theorem dX2_leadingClass_17 : decode cX2_leadingClass 17 = .ok (.invokevirtual 21, 3) := by decide +kernel
theorem dX2_leadingClass_20 : decode cX2_leadingClass 20 = .ok (.iload_n 3, 1) := by decide +kernel
theorem dX2_leadingClass_21 : decode cX2_leadingClass 21 = .ok (.if_icmp .le 14, 3) := by decide +kernel
theorem dX2_leadingClass_24 : decode cX2_leadingClass 24 = .ok (.iload 4, 2) := by decide +kernel
theorem dX2_leadingClass_26 : decode cX2_leadingClass 26 = .ok (.istore_n 2, 1) := by decide +kernel
theorem dX2_leadingClass_27 : decode cX2_leadingClass 27 = .ok (.aload_n 0, 1) := by decide +kernel
theorem dX2_leadingClass_28 : decode cX2_leadingClass 28 = .ok (.iload_n 1, 1) := by decide +kernel
theorem dX2_leadingClass_29 : decode cX2_leadingClass 29 = .ok (.iload 4, 2) := by decide +kernel
theorem dX2_leadingClass_31 : decode cX2_leadingClass 31 = .ok (.invokevirtual 21, 3) := by decide +kernel
theorem dX2_leadingClass_34 : decode cX2_leadingClass 34 = .ok (.istore_n 3, 1) := by decide +kernel
theorem dX2_leadingClass_35 : decode cX2_leadingClass 35 = .ok (.iinc 4 1, 3) := by decide +kernel
theorem dX2_leadingClass_38 : decode cX2_leadingClass 38 = .ok (.goto (-31), 3) := by decide +kernel
theorem dX2_leadingClass_41 : decode cX2_leadingClass 41 = .ok (.iload_n 2, 1) := by decide +kernel
theorem dX2_leadingClass_42 : decode cX2_leadingClass 42 = .ok (.ireturn, 1) := by decide +kernel
set_option maxRecDepth 20000 in
theorem ggX2_changesOfLeader_X2_leadingClass : GoodIn wsX2_changesOfLeader wsX2_leadingClass := goodIn_r _ [5, 6, 7, 8, 4, 9, 10, 11] (by decide +kernel) (by decide +kernel)
set_option maxRecDepth 20000 in
theorem gX2_changesOfLeader_X2_leadingClass : GoodIn wsX2_changesOfLeader (wsV RX2 72 RX2 yX2_leadingClass wsX2_leadingClass) := goodIn_app (goodIn_of _ (by decide +kernel)) ggX2_changesOfLeader_X2_leadingClass
theorem dX2_changesOfLeader_0 : decode cX2_changesOfLeader 0 = .ok (.iconst 0, 1) := by decide +kernel
theorem dX2_changesOfLeader_1 : decode cX2_changesOfLeader 1 = .ok (.istore_n 1, 1) := by decide +kernel
theorem dX2_changesOfLeader_2 : decode cX2_changesOfLeader 2 = .ok (.iconst (-1), 1) := by decide +kernel
theorem dX2_changesOfLeader_3 : decode cX2_changesOfLeader 3 = .ok (.istore_n 2, 1) := by decide +kernel
theorem dX2_changesOfLeader_4 : decode cX2_changesOfLeader 4 = .ok (.iconst 0, 1) := by decide +kernel
theorem dX2_changesOfLeader_5 : decode cX2_changesOfLeader 5 = .ok (.istore_n 3, 1) := by decide +kernel
theorem dX2_changesOfLeader_6 : decode cX2_changesOfLeader 6 = .ok (.iload_n 3, 1) := by decide +kernel
theorem dX2_changesOfLeader_7 : decode cX2_changesOfLeader 7 = .ok (.bipush 12, 2) := by decide +kernel
theorem dX2_changesOfLeader_9 : decode cX2_changesOfLeader 9 = .ok (.if_icmp .ge 45, 3) := by decide +kernel
theorem dX2_changesOfLeader_12 : decode cX2_changesOfLeader 12 = .ok (.aload_n 0, 1) := by decide +kernel
theorem dX2_changesOfLeader_13 : decode cX2_changesOfLeader 13 = .ok (.iload_n 3, 1) := by decide +kernel
theorem dX2_changesOfLeader_14 : decode cX2_changesOfLeader 14 = .ok (.invokevirtual 72, 3) := by decide +kernel
theorem dX2_changesOfLeader_17 : decode cX2_changesOfLeader 17 = .ok (.istore 4, 2) := by decide +kernel
theorem dX2_changesOfLeader_19 : decode cX2_changesOfLeader 19 = .ok (.iload 4, 2) := by decide +kernel
theorem dX2_changesOfLeader_21 : decode cX2_changesOfLeader 21 = .ok (.iconst (-1), 1) := by decide +kernel
theorem dX2_changesOfLeader_22 : decode cX2_changesOfLeader 22 = .ok (.if_icmp .eq 17, 3) := by decide +kernel
theorem dX2_changesOfLeader_25 : decode cX2_changesOfLeader 25 = .ok (.iload_n 2, 1) := by decide +kernel
theorem dX2_changesOfLeader_26 : decode cX2_changesOfLeader 26 = .ok (.iconst (-1), 1) := by decide +kernel
theorem dX2_changesOfLeader_27 : decode cX2_changesOfLeader 27 = .ok (.if_icmp .eq 12, 3) := by decide +kernel
theorem dX2_changesOfLeader_30 : decode cX2_changesOfLeader 30 = .ok (.iload 4, 2) := by decide +kernel
theorem dX2_changesOfLeader_32 : decode cX2_changesOfLeader 32 = .ok (.iload_n 2, 1) := by decide +kernel
theorem dX2_changesOfLeader_33 : decode cX2_changesOfLeader 33 = .ok (.if_icmp .eq 6, 3) := by decide +kernel
theorem dX2_changesOfLeader_36 : decode cX2_changesOfLeader 36 = .ok (.iinc 1 1, 3) := by decide +kernel
theorem dX2_changesOfLeader_39 : decode cX2_changesOfLeader 39 = .ok (.iload 4, 2) := by decide +kernel
theorem dX2_changesOfLeader_41 : decode cX2_changesOfLeader 41 = .ok (.iconst (-1), 1) := by decide +kernel
theorem dX2_changesOfLeader_42 : decode cX2_changesOfLeader 42 = .ok (.if_icmp .eq 6, 3) := by decide +kernel
theorem dX2_changesOfLeader_45 : decode cX2_changesOfLeader 45 = .ok (.iload 4, 2) := by decide +kernel
theorem dX2_changesOfLeader_47 : decode cX2_changesOfLeader 47 = .ok (.istore_n 2, 1) := by decide +kernel
theorem dX2_changesOfLeader_48 : decode cX2_changesOfLeader 48 = .ok (.iinc 3 1, 3) := by decide +kernel
theorem dX2_changesOfLeader_51 : decode cX2_changesOfLeader 51 = .ok (.goto (-45), 3) := by decide +kernel
theorem dX2_changesOfLeader_54 : decode cX2_changesOfLeader 54 = .ok (.iload_n 1, 1) := by decide +kernel
theorem dX2_changesOfLeader_55 : decode cX2_changesOfLeader 55 = .ok (.ireturn, 1) := by decide +kernel
set_option maxRecDepth 20000 in
theorem ggX2_purestSlice_X2_many : GoodIn wsX2_purestSlice wsX2_many := goodIn_r _ [5, 6, 11] (by decide +kernel) (by decide +kernel)
set_option maxRecDepth 20000 in
theorem gX2_purestSlice_X2_many : GoodIn wsX2_purestSlice (wsV RX2 21 RX2 yX2_many wsX2_many) := goodIn_app (goodIn_of _ (by decide +kernel)) ggX2_purestSlice_X2_many
set_option maxRecDepth 20000 in
theorem ggX2_purestSlice_X2_allIn : GoodIn wsX2_purestSlice wsX2_allIn := goodIn_r _ [10, 1, 2, 3, 4, 5, 6, 11] (by decide +kernel) (by decide +kernel)
set_option maxRecDepth 20000 in
theorem gX2_purestSlice_X2_allIn : GoodIn wsX2_purestSlice (wsV RX2 25 RX2 yX2_allIn wsX2_allIn) := goodIn_app (goodIn_of _ (by decide +kernel)) ggX2_purestSlice_X2_allIn
theorem dX2_purestSlice_0 : decode cX2_purestSlice 0 = .ok (.iconst (-1), 1) := by decide +kernel
theorem dX2_purestSlice_1 : decode cX2_purestSlice 1 = .ok (.istore_n 2, 1) := by decide +kernel
theorem dX2_purestSlice_2 : decode cX2_purestSlice 2 = .ok (.iconst 0, 1) := by decide +kernel
theorem dX2_purestSlice_3 : decode cX2_purestSlice 3 = .ok (.istore_n 3, 1) := by decide +kernel
theorem dX2_purestSlice_4 : decode cX2_purestSlice 4 = .ok (.iconst 1, 1) := by decide +kernel
theorem dX2_purestSlice_5 : decode cX2_purestSlice 5 = .ok (.istore 4, 2) := by decide +kernel
theorem dX2_purestSlice_7 : decode cX2_purestSlice 7 = .ok (.iconst 0, 1) := by decide +kernel
theorem dX2_purestSlice_8 : decode cX2_purestSlice 8 = .ok (.istore 5, 2) := by decide +kernel
theorem dX2_purestSlice_10 : decode cX2_purestSlice 10 = .ok (.iload 5, 2) := by decide +kernel
theorem dX2_purestSlice_12 : decode cX2_purestSlice 12 = .ok (.bipush 12, 2) := by decide +kernel
theorem dX2_purestSlice_14 : decode cX2_purestSlice 14 = .ok (.if_icmp .ge 48, 3) := by decide +kernel
theorem dX2_purestSlice_17 : decode cX2_purestSlice 17 = .ok (.aload_n 0, 1) := by decide +kernel
theorem dX2_purestSlice_18 : decode cX2_purestSlice 18 = .ok (.iload 5, 2) := by decide +kernel
theorem dX2_purestSlice_20 : decode cX2_purestSlice 20 = .ok (.iload_n 1, 1) := by decide +kernel
theorem dX2_purestSlice_21 : decode cX2_purestSlice 21 = .ok (.invokevirtual 21, 3) := by decide +kernel
theorem dX2_purestSlice_24 : decode cX2_purestSlice 24 = .ok (.istore 6, 2) := by decide +kernel
theorem dX2_purestSlice_26 : decode cX2_purestSlice 26 = .ok (.aload_n 0, 1) := by decide +kernel
theorem dX2_purestSlice_27 : decode cX2_purestSlice 27 = .ok (.iload 5, 2) := by decide +kernel
theorem dX2_purestSlice_29 : decode cX2_purestSlice 29 = .ok (.invokevirtual 25, 3) := by decide +kernel
theorem dX2_purestSlice_32 : decode cX2_purestSlice 32 = .ok (.istore 7, 2) := by decide +kernel
theorem dX2_purestSlice_34 : decode cX2_purestSlice 34 = .ok (.iload 6, 2) := by decide +kernel
theorem dX2_purestSlice_36 : decode cX2_purestSlice 36 = .ok (.iload 4, 2) := by decide +kernel
theorem dX2_purestSlice_38 : decode cX2_purestSlice 38 = .ok (.imul, 1) := by decide +kernel
theorem dX2_purestSlice_39 : decode cX2_purestSlice 39 = .ok (.iload_n 3, 1) := by decide +kernel
theorem dX2_purestSlice_40 : decode cX2_purestSlice 40 = .ok (.iload 7, 2) := by decide +kernel
theorem dX2_purestSlice_42 : decode cX2_purestSlice 42 = .ok (.imul, 1) := by decide +kernel
theorem dX2_purestSlice_43 : decode cX2_purestSlice 43 = .ok (.if_icmp .le 13, 3) := by decide +kernel
theorem dX2_purestSlice_46 : decode cX2_purestSlice 46 = .ok (.iload 5, 2) := by decide +kernel
theorem dX2_purestSlice_48 : decode cX2_purestSlice 48 = .ok (.istore_n 2, 1) := by decide +kernel
theorem dX2_purestSlice_49 : decode cX2_purestSlice 49 = .ok (.iload 6, 2) := by decide +kernel
theorem dX2_purestSlice_51 : decode cX2_purestSlice 51 = .ok (.istore_n 3, 1) := by decide +kernel
theorem dX2_purestSlice_52 : decode cX2_purestSlice 52 = .ok (.iload 7, 2) := by decide +kernel
theorem dX2_purestSlice_54 : decode cX2_purestSlice 54 = .ok (.istore 4, 2) := by decide +kernel
theorem dX2_purestSlice_56 : decode cX2_purestSlice 56 = .ok (.iinc 5 1, 3) := by decide +kernel
theorem dX2_purestSlice_59 : decode cX2_purestSlice 59 = .ok (.goto (-49), 3) := by decide +kernel
theorem dX2_purestSlice_62 : decode cX2_purestSlice 62 = .ok (.iload_n 2, 1) := by decide +kernel
theorem dX2_purestSlice_63 : decode cX2_purestSlice 63 = .ok (.ireturn, 1) := by decide +kernel
theorem dX3_init_0 : decode cX3_init 0 = .ok (.aload_n 0, 1) := by decide +kernel
theorem dX3_init_1 : decode cX3_init 1 = .ok (.invokespecial 3, 3) := by decide +kernel
theorem dX3_init_4 : decode cX3_init 4 = .ok (.aload_n 0, 1) := by decide +kernel
theorem dX3_init_5 : decode cX3_init 5 = .ok (.iconst 4, 1) := by decide +kernel
theorem dX3_init_6 : decode cX3_init 6 = .ok (.newarray .int, 2) := by decide +kernel
theorem dX3_init_8 : decode cX3_init 8 = .ok (.dup, 1) := by decide +kernel
theorem dX3_init_9 : decode cX3_init 9 = .ok (.iconst 0, 1) := by decide +kernel
theorem dX3_init_10 : decode cX3_init 10 = .ok (.bipush 100, 2) := by decide +kernel
theorem dX3_init_12 : decode cX3_init 12 = .ok (.iastore, 1) := by decide +kernel
theorem dX3_init_13 : decode cX3_init 13 = .ok (.dup, 1) := by decide +kernel
theorem dX3_init_14 : decode cX3_init 14 = .ok (.iconst 1, 1) := by decide +kernel
theorem dX3_init_15 : decode cX3_init 15 = .ok (.sipush 200, 3) := by decide +kernel
theorem dX3_init_18 : decode cX3_init 18 = .ok (.iastore, 1) := by decide +kernel
theorem dX3_init_19 : decode cX3_init 19 = .ok (.dup, 1) := by decide +kernel
theorem dX3_init_20 : decode cX3_init 20 = .ok (.iconst 2, 1) := by decide +kernel
theorem dX3_init_21 : decode cX3_init 21 = .ok (.iconst 3, 1) := by decide +kernel
theorem dX3_init_22 : decode cX3_init 22 = .ok (.iastore, 1) := by decide +kernel
theorem dX3_init_23 : decode cX3_init 23 = .ok (.dup, 1) := by decide +kernel
theorem dX3_init_24 : decode cX3_init 24 = .ok (.iconst 3, 1) := by decide +kernel
theorem dX3_init_25 : decode cX3_init 25 = .ok (.iconst 0, 1) := by decide +kernel
theorem dX3_init_26 : decode cX3_init 26 = .ok (.iastore, 1) := by decide +kernel
theorem dX3_init_27 : decode cX3_init 27 = .ok (.putfield 9, 3) := by decide +kernel
theorem dX3_init_30 : decode cX3_init 30 = .ok (.aload_n 0, 1) := by decide +kernel
theorem dX3_init_31 : decode cX3_init 31 = .ok (.iconst 4, 1) := by decide +kernel
theorem dX3_init_32 : decode cX3_init 32 = .ok (.newarray .int, 2) := by decide +kernel
theorem dX3_init_34 : decode cX3_init 34 = .ok (.dup, 1) := by decide +kernel
theorem dX3_init_35 : decode cX3_init 35 = .ok (.iconst 0, 1) := by decide +kernel
theorem dX3_init_36 : decode cX3_init 36 = .ok (.bipush 40, 2) := by decide +kernel
theorem dX3_init_38 : decode cX3_init 38 = .ok (.iastore, 1) := by decide +kernel
theorem dX3_init_39 : decode cX3_init 39 = .ok (.dup, 1) := by decide +kernel
theorem dX3_init_40 : decode cX3_init 40 = .ok (.iconst 1, 1) := by decide +kernel
theorem dX3_init_41 : decode cX3_init 41 = .ok (.bipush 20, 2) := by decide +kernel
theorem dX3_init_43 : decode cX3_init 43 = .ok (.iastore, 1) := by decide +kernel
theorem dX3_init_44 : decode cX3_init 44 = .ok (.dup, 1) := by decide +kernel
theorem dX3_init_45 : decode cX3_init 45 = .ok (.iconst 2, 1) := by decide +kernel
theorem dX3_init_46 : decode cX3_init 46 = .ok (.bipush 10, 2) := by decide +kernel
theorem dX3_init_48 : decode cX3_init 48 = .ok (.iastore, 1) := by decide +kernel
theorem dX3_init_49 : decode cX3_init 49 = .ok (.dup, 1) := by decide +kernel
theorem dX3_init_50 : decode cX3_init 50 = .ok (.iconst 3, 1) := by decide +kernel
theorem dX3_init_51 : decode cX3_init 51 = .ok (.iconst 5, 1) := by decide +kernel
theorem dX3_init_52 : decode cX3_init 52 = .ok (.iastore, 1) := by decide +kernel
theorem dX3_init_53 : decode cX3_init 53 = .ok (.putfield 15, 3) := by decide +kernel
theorem dX3_init_56 : decode cX3_init 56 = .ok (.return_, 1) := by decide +kernel
theorem dX3_copyFrom_0 : decode cX3_copyFrom 0 = .ok (.aload_n 1, 1) := by decide +kernel
theorem dX3_copyFrom_1 : decode cX3_copyFrom 1 = .ok (.getfield 9, 3) := by decide +kernel
theorem dX3_copyFrom_4 : decode cX3_copyFrom 4 = .ok (.iconst 0, 1) := by decide +kernel
theorem dX3_copyFrom_5 : decode cX3_copyFrom 5 = .ok (.aload_n 0, 1) := by decide +kernel
theorem dX3_copyFrom_6 : decode cX3_copyFrom 6 = .ok (.getfield 9, 3) := by decide +kernel
theorem dX3_copyFrom_9 : decode cX3_copyFrom 9 = .ok (.iconst 0, 1) := by decide +kernel
theorem dX3_copyFrom_10 : decode cX3_copyFrom 10 = .ok (.iconst 4, 1) := by decide +kernel
theorem dX3_copyFrom_11 : decode cX3_copyFrom 11 = .ok (.invokestatic 18, 3) := by decide +kernel
theorem dX3_copyFrom_14 : decode cX3_copyFrom 14 = .ok (.aload_n 1, 1) := by decide +kernel
theorem dX3_copyFrom_15 : decode cX3_copyFrom 15 = .ok (.getfield 15, 3) := by decide +kernel
theorem dX3_copyFrom_18 : decode cX3_copyFrom 18 = .ok (.iconst 0, 1) := by decide +kernel
theorem dX3_copyFrom_19 : decode cX3_copyFrom 19 = .ok (.aload_n 0, 1) := by decide +kernel
theorem dX3_copyFrom_20 : decode cX3_copyFrom 20 = .ok (.getfield 15, 3) := by decide +kernel
theorem dX3_copyFrom_23 : decode cX3_copyFrom 23 = .ok (.iconst 0, 1) := by decide +kernel
theorem dX3_copyFrom_24 : decode cX3_copyFrom 24 = .ok (.iconst 4, 1) := by decide +kernel
theorem dX3_copyFrom_25 : decode cX3_copyFrom 25 = .ok (.invokestatic 18, 3) := by decide +kernel
theorem dX3_copyFrom_28 : decode cX3_copyFrom 28 = .ok (.return_, 1) := by decide +kernel
theorem dX3_factorOf_0 : decode cX3_factorOf 0 = .ok (.ldc 24, 2) := by decide +kernel
theorem dX3_factorOf_2 : decode cX3_factorOf 2 = .ok (.iconst 1, 1) := by decide +kernel
theorem dX3_factorOf_3 : decode cX3_factorOf 3 = .ok (.sipush 1000, 3) := by decide +kernel
theorem dX3_factorOf_6 : decode cX3_factorOf 6 = .ok (.iload_n 1, 1) := by decide +kernel
theorem dX3_factorOf_7 : decode cX3_factorOf 7 = .ok (.aload_n 0, 1) := by decide +kernel
theorem dX3_factorOf_8 : decode cX3_factorOf 8 = .ok (.getfield 9, 3) := by decide +kernel
theorem dX3_factorOf_11 : decode cX3_factorOf 11 = .ok (.iconst 0, 1) := by decide +kernel
theorem dX3_factorOf_12 : decode cX3_factorOf 12 = .ok (.iaload, 1) := by decide +kernel
theorem dX3_factorOf_13 : decode cX3_factorOf 13 = .ok (.imul, 1) := by decide +kernel
theorem dX3_factorOf_14 : decode cX3_factorOf 14 = .ok (.bipush 10, 2) := by decide +kernel
theorem dX3_factorOf_16 : decode cX3_factorOf 16 = .ok (.idiv, 1) := by decide +kernel
theorem dX3_factorOf_17 : decode cX3_factorOf 17 = .ok (.iadd, 1) := by decide +kernel
theorem dX3_factorOf_18 : decode cX3_factorOf 18 = .ok (.invokestatic 25, 3) := by decide +kernel
theorem dX3_factorOf_21 : decode cX3_factorOf 21 = .ok (.idiv, 1) := by decide +kernel
theorem dX3_factorOf_22 : decode cX3_factorOf 22 = .ok (.ireturn, 1) := by decide +kernel
theorem dX3_roomOver_0 : decode cX3_roomOver 0 = .ok (.iconst 0, 1) := by decide +kernel
theorem dX3_roomOver_1 : decode cX3_roomOver 1 = .ok (.aload_n 0, 1) := by decide +kernel
theorem dX3_roomOver_2 : decode cX3_roomOver 2 = .ok (.getfield 9, 3) := by decide +kernel
theorem dX3_roomOver_5 : decode cX3_roomOver 5 = .ok (.iconst 1, 1) := by decide +kernel
theorem dX3_roomOver_6 : decode cX3_roomOver 6 = .ok (.iaload, 1) := by decide +kernel
theorem dX3_roomOver_7 : decode cX3_roomOver 7 = .ok (.iload_n 1, 1) := by decide +kernel
theorem dX3_roomOver_8 : decode cX3_roomOver 8 = .ok (.isub, 1) := by decide +kernel
theorem dX3_roomOver_9 : decode cX3_roomOver 9 = .ok (.invokestatic 25, 3) := by decide +kernel
theorem dX3_roomOver_12 : decode cX3_roomOver 12 = .ok (.ireturn, 1) := by decide +kernel
theorem dX3_isPacked_0 : decode cX3_isPacked 0 = .ok (.iload_n 1, 1) := by decide +kernel
theorem dX3_isPacked_1 : decode cX3_isPacked 1 = .ok (.aload_n 0, 1) := by decide +kernel
theorem dX3_isPacked_2 : decode cX3_isPacked 2 = .ok (.getfield 9, 3) := by decide +kernel
theorem dX3_isPacked_5 : decode cX3_isPacked 5 = .ok (.iconst 1, 1) := by decide +kernel
theorem dX3_isPacked_6 : decode cX3_isPacked 6 = .ok (.iaload, 1) := by decide +kernel
theorem dX3_isPacked_7 : decode cX3_isPacked 7 = .ok (.if_icmp .lt 7, 3) := by decide +kernel
theorem dX3_isPacked_10 : decode cX3_isPacked 10 = .ok (.iconst 1, 1) := by decide +kernel
theorem dX3_isPacked_11 : decode cX3_isPacked 11 = .ok (.goto 4, 3) := by decide +kernel
theorem dX3_isPacked_14 : decode cX3_isPacked 14 = .ok (.iconst 0, 1) := by decide +kernel
theorem dX3_isPacked_15 : decode cX3_isPacked 15 = .ok (.ireturn, 1) := by decide +kernel
theorem dX3_isClear_0 : decode cX3_isClear 0 = .ok (.iload_n 1, 1) := by decide +kernel
theorem dX3_isClear_1 : decode cX3_isClear 1 = .ok (.aload_n 0, 1) := by decide +kernel
theorem dX3_isClear_2 : decode cX3_isClear 2 = .ok (.getfield 9, 3) := by decide +kernel
theorem dX3_isClear_5 : decode cX3_isClear 5 = .ok (.iconst 2, 1) := by decide +kernel
theorem dX3_isClear_6 : decode cX3_isClear 6 = .ok (.iaload, 1) := by decide +kernel
theorem dX3_isClear_7 : decode cX3_isClear 7 = .ok (.if_icmp .gt 7, 3) := by decide +kernel
theorem dX3_isClear_10 : decode cX3_isClear 10 = .ok (.iconst 1, 1) := by decide +kernel
theorem dX3_isClear_11 : decode cX3_isClear 11 = .ok (.goto 4, 3) := by decide +kernel
theorem dX3_isClear_14 : decode cX3_isClear 14 = .ok (.iconst 0, 1) := by decide +kernel
theorem dX3_isClear_15 : decode cX3_isClear 15 = .ok (.ireturn, 1) := by decide +kernel
theorem dX3_wantingToFall_0 : decode cX3_wantingToFall 0 = .ok (.iload_n 2, 1) := by decide +kernel
theorem dX3_wantingToFall_1 : decode cX3_wantingToFall 1 = .ok (.aload_n 0, 1) := by decide +kernel
theorem dX3_wantingToFall_2 : decode cX3_wantingToFall 2 = .ok (.getfield 15, 3) := by decide +kernel
theorem dX3_wantingToFall_5 : decode cX3_wantingToFall 5 = .ok (.iload_n 1, 1) := by decide +kernel
theorem dX3_wantingToFall_6 : decode cX3_wantingToFall 6 = .ok (.iaload, 1) := by decide +kernel
theorem dX3_wantingToFall_7 : decode cX3_wantingToFall 7 = .ok (.imul, 1) := by decide +kernel
theorem dX3_wantingToFall_8 : decode cX3_wantingToFall 8 = .ok (.iload_n 3, 1) := by decide +kernel
theorem dX3_wantingToFall_9 : decode cX3_wantingToFall 9 = .ok (.imul, 1) := by decide +kernel
theorem dX3_wantingToFall_10 : decode cX3_wantingToFall 10 = .ok (.ldc 31, 2) := by decide +kernel
theorem dX3_wantingToFall_12 : decode cX3_wantingToFall 12 = .ok (.idiv, 1) := by decide +kernel
theorem dX3_wantingToFall_13 : decode cX3_wantingToFall 13 = .ok (.istore 4, 2) := by decide +kernel
theorem dX3_wantingToFall_15 : decode cX3_wantingToFall 15 = .ok (.iload 4, 2) := by decide +kernel
theorem dX3_wantingToFall_17 : decode cX3_wantingToFall 17 = .ok (.ifCond .ne 15, 3) := by decide +kernel
theorem dX3_wantingToFall_20 : decode cX3_wantingToFall 20 = .ok (.iload_n 2, 1) := by decide +kernel
theorem dX3_wantingToFall_21 : decode cX3_wantingToFall 21 = .ok (.aload_n 0, 1) := by decide +kernel
theorem dX3_wantingToFall_22 : decode cX3_wantingToFall 22 = .ok (.getfield 9, 3) := by decide +kernel
theorem dX3_wantingToFall_25 : decode cX3_wantingToFall 25 = .ok (.iconst 3, 1) := by decide +kernel
theorem dX3_wantingToFall_26 : decode cX3_wantingToFall 26 = .ok (.iaload, 1) := by decide +kernel
theorem dX3_wantingToFall_27 : decode cX3_wantingToFall 27 = .ok (.if_icmp .le 5, 3) := by decide +kernel
theorem dX3_wantingToFall_30 : decode cX3_wantingToFall 30 = .ok (.iconst 1, 1) := by decide +kernel
theorem dX3_wantingToFall_31 : decode cX3_wantingToFall 31 = .ok (.ireturn, 1) := by decide +kernel
theorem dX3_wantingToFall_32 : decode cX3_wantingToFall 32 = .ok (.iload 4, 2) := by decide +kernel
theorem dX3_wantingToFall_34 : decode cX3_wantingToFall 34 = .ok (.iload_n 2, 1) := by decide +kernel
theorem dX3_wantingToFall_35 : decode cX3_wantingToFall 35 = .ok (.invokestatic 32, 3) := by decide +kernel
theorem dX3_wantingToFall_38 : decode cX3_wantingToFall 38 = .ok (.ireturn, 1) := by decide +kernel
set_option maxRecDepth 20000 in
theorem ggX4_init_X3_init : GoodIn wsX4_init wsX3_init := goodIn_r _ [16, 17, 2, 3, 10, 18, 19, 24, 25] (by decide +kernel) (by decide +kernel)
set_option maxRecDepth 20000 in
theorem gX4_init_X3_init_n11 : GoodIn wsX4_init (wsX3_init) := ggX4_init_X3_init
set_option maxRecDepth 20000 in
theorem ggX4_init_X2_init : GoodIn wsX4_init wsX2_init := goodIn_r _ [21, 22, 2, 3, 10, 23, 32] (by decide +kernel) (by decide +kernel)
set_option maxRecDepth 20000 in
theorem gX4_init_X2_init_n31 : GoodIn wsX4_init (wsX2_init) := ggX4_init_X2_init
theorem dX4_init_0 : decode cX4_init 0 = .ok (.aload_n 0, 1) := by decide +kernel
theorem dX4_init_1 : decode cX4_init 1 = .ok (.invokespecial 3, 3) := by decide +kernel
theorem dX4_init_4 : decode cX4_init 4 = .ok (.aload_n 0, 1) := by decide +kernel
theorem dX4_init_5 : decode cX4_init 5 = .ok (.new 9, 3) := by decide +kernel
theorem dX4_init_8 : decode cX4_init 8 = .ok (.dup, 1) := by decide +kernel
theorem dX4_init_9 : decode cX4_init 9 = .ok (.invokespecial 11, 3) := by decide +kernel
theorem dX4_init_12 : decode cX4_init 12 = .ok (.putfield 12, 3) := by decide +kernel
theorem dX4_init_15 : decode cX4_init 15 = .ok (.aload_n 0, 1) := by decide +kernel
theorem dX4_init_16 : decode cX4_init 16 = .ok (.iconst 3, 1) := by decide +kernel
theorem dX4_init_17 : decode cX4_init 17 = .ok (.anewarray 18, 3) := by decide +kernel
theorem dX4_init_20 : decode cX4_init 20 = .ok (.putfield 20, 3) := by decide +kernel
theorem dX4_init_23 : decode cX4_init 23 = .ok (.aload_n 0, 1) := by decide +kernel
theorem dX4_init_24 : decode cX4_init 24 = .ok (.iconst 4, 1) := by decide +kernel
theorem dX4_init_25 : decode cX4_init 25 = .ok (.newarray .int, 2) := by decide +kernel
theorem dX4_init_27 : decode cX4_init 27 = .ok (.putfield 24, 3) := by decide +kernel
theorem dX4_init_30 : decode cX4_init 30 = .ok (.aload_n 0, 1) := by decide +kernel
theorem dX4_init_31 : decode cX4_init 31 = .ok (.iconst 4, 1) := by decide +kernel
theorem dX4_init_32 : decode cX4_init 32 = .ok (.newarray .int, 2) := by decide +kernel
theorem dX4_init_34 : decode cX4_init 34 = .ok (.putfield 28, 3) := by decide +kernel
theorem dX4_init_37 : decode cX4_init 37 = .ok (.iconst 0, 1) := by decide +kernel
theorem dX4_init_38 : decode cX4_init 38 = .ok (.istore_n 1, 1) := by decide +kernel
theorem dX4_init_39 : decode cX4_init 39 = .ok (.iload_n 1, 1) := by decide +kernel
theorem dX4_init_40 : decode cX4_init 40 = .ok (.iconst 3, 1) := by decide +kernel
theorem dX4_init_41 : decode cX4_init 41 = .ok (.if_icmp .ge 22, 3) := by decide +kernel
theorem dX4_init_44 : decode cX4_init 44 = .ok (.aload_n 0, 1) := by decide +kernel
theorem dX4_init_45 : decode cX4_init 45 = .ok (.getfield 20, 3) := by decide +kernel
theorem dX4_init_48 : decode cX4_init 48 = .ok (.iload_n 1, 1) := by decide +kernel
theorem dX4_init_49 : decode cX4_init 49 = .ok (.new 18, 3) := by decide +kernel
theorem dX4_init_52 : decode cX4_init 52 = .ok (.dup, 1) := by decide +kernel
theorem dX4_init_53 : decode cX4_init 53 = .ok (.invokespecial 31, 3) := by decide +kernel
theorem dX4_init_56 : decode cX4_init 56 = .ok (.aastore, 1) := by decide +kernel
theorem dX4_init_57 : decode cX4_init 57 = .ok (.iinc 1 1, 3) := by decide +kernel
theorem dX4_init_60 : decode cX4_init 60 = .ok (.goto (-21), 3) := by decide +kernel
theorem dX4_init_63 : decode cX4_init 63 = .ok (.return_, 1) := by decide +kernel
set_option maxRecDepth 20000 in
theorem ggX4_copyFrom_X3_copyFrom : GoodIn wsX4_copyFrom wsX3_copyFrom := goodIn_r _ [15, 16, 17, 5, 6, 7, 18, 32, 33] (by decide +kernel) (by decide +kernel)
set_option maxRecDepth 20000 in
theorem gX4_copyFrom_X3_copyFrom : GoodIn wsX4_copyFrom (wsV RX4 32 RX3 yX3_copyFrom wsX3_copyFrom) := goodIn_app (goodIn_of _ (by decide +kernel)) ggX4_copyFrom_X3_copyFrom
set_option maxRecDepth 20000 in
theorem ggX4_copyFrom_X2_copyFrom : GoodIn wsX4_copyFrom wsX2_copyFrom := goodIn_r _ [23, 24, 25, 5, 6, 7, 34] (by decide +kernel) (by decide +kernel)
set_option maxRecDepth 20000 in
theorem gX4_copyFrom_X2_copyFrom : GoodIn wsX4_copyFrom (wsV RX4 36 RX2 yX2_copyFrom wsX2_copyFrom) := goodIn_app (goodIn_of _ (by decide +kernel)) ggX4_copyFrom_X2_copyFrom
theorem dX4_copyFrom_0 : decode cX4_copyFrom 0 = .ok (.aload_n 0, 1) := by decide +kernel
theorem dX4_copyFrom_1 : decode cX4_copyFrom 1 = .ok (.getfield 12, 3) := by decide +kernel
theorem dX4_copyFrom_4 : decode cX4_copyFrom 4 = .ok (.aload_n 1, 1) := by decide +kernel
theorem dX4_copyFrom_5 : decode cX4_copyFrom 5 = .ok (.getfield 12, 3) := by decide +kernel
theorem dX4_copyFrom_8 : decode cX4_copyFrom 8 = .ok (.invokevirtual 32, 3) := by decide +kernel
theorem dX4_copyFrom_11 : decode cX4_copyFrom 11 = .ok (.iconst 0, 1) := by decide +kernel
theorem dX4_copyFrom_12 : decode cX4_copyFrom 12 = .ok (.istore_n 2, 1) := by decide +kernel
theorem dX4_copyFrom_13 : decode cX4_copyFrom 13 = .ok (.iload_n 2, 1) := by decide +kernel
theorem dX4_copyFrom_14 : decode cX4_copyFrom 14 = .ok (.iconst 3, 1) := by decide +kernel
theorem dX4_copyFrom_15 : decode cX4_copyFrom 15 = .ok (.if_icmp .ge 24, 3) := by decide +kernel
theorem dX4_copyFrom_18 : decode cX4_copyFrom 18 = .ok (.aload_n 0, 1) := by decide +kernel
theorem dX4_copyFrom_19 : decode cX4_copyFrom 19 = .ok (.getfield 20, 3) := by decide +kernel
theorem dX4_copyFrom_22 : decode cX4_copyFrom 22 = .ok (.iload_n 2, 1) := by decide +kernel
theorem dX4_copyFrom_23 : decode cX4_copyFrom 23 = .ok (.aaload, 1) := by decide +kernel
theorem dX4_copyFrom_24 : decode cX4_copyFrom 24 = .ok (.aload_n 1, 1) := by decide +kernel
theorem dX4_copyFrom_25 : decode cX4_copyFrom 25 = .ok (.getfield 20, 3) := by decide +kernel
theorem dX4_copyFrom_28 : decode cX4_copyFrom 28 = .ok (.iload_n 2, 1) := by decide +kernel
theorem dX4_copyFrom_29 : decode cX4_copyFrom 29 = .ok (.aaload, 1) := by decide +kernel
theorem dX4_copyFrom_30 : decode cX4_copyFrom 30 = .ok (.invokevirtual 36, 3) := by decide +kernel
theorem dX4_copyFrom_33 : decode cX4_copyFrom 33 = .ok (.iinc 2 1, 3) := by decide +kernel
theorem dX4_copyFrom_36 : decode cX4_copyFrom 36 = .ok (.goto (-23), 3) := by decide +kernel
theorem dX4_copyFrom_39 : decode cX4_copyFrom 39 = .ok (.aload_n 1, 1) := by decide +kernel
theorem dX4_copyFrom_40 : decode cX4_copyFrom 40 = .ok (.getfield 24, 3) := by decide +kernel
theorem dX4_copyFrom_43 : decode cX4_copyFrom 43 = .ok (.iconst 0, 1) := by decide +kernel
theorem dX4_copyFrom_44 : decode cX4_copyFrom 44 = .ok (.aload_n 0, 1) := by decide +kernel
theorem dX4_copyFrom_45 : decode cX4_copyFrom 45 = .ok (.getfield 24, 3) := by decide +kernel
theorem dX4_copyFrom_48 : decode cX4_copyFrom 48 = .ok (.iconst 0, 1) := by decide +kernel
theorem dX4_copyFrom_49 : decode cX4_copyFrom 49 = .ok (.iconst 4, 1) := by decide +kernel
theorem dX4_copyFrom_50 : decode cX4_copyFrom 50 = .ok (.invokestatic 39, 3) := by decide +kernel
theorem dX4_copyFrom_53 : decode cX4_copyFrom 53 = .ok (.aload_n 1, 1) := by decide +kernel
theorem dX4_copyFrom_54 : decode cX4_copyFrom 54 = .ok (.getfield 28, 3) := by decide +kernel
theorem dX4_copyFrom_57 : decode cX4_copyFrom 57 = .ok (.iconst 0, 1) := by decide +kernel
theorem dX4_copyFrom_58 : decode cX4_copyFrom 58 = .ok (.aload_n 0, 1) := by decide +kernel
theorem dX4_copyFrom_59 : decode cX4_copyFrom 59 = .ok (.getfield 28, 3) := by decide +kernel
theorem dX4_copyFrom_62 : decode cX4_copyFrom 62 = .ok (.iconst 0, 1) := by decide +kernel
theorem dX4_copyFrom_63 : decode cX4_copyFrom 63 = .ok (.iconst 4, 1) := by decide +kernel
theorem dX4_copyFrom_64 : decode cX4_copyFrom 64 = .ok (.invokestatic 39, 3) := by decide +kernel
theorem dX4_copyFrom_67 : decode cX4_copyFrom 67 = .ok (.aload_n 0, 1) := by decide +kernel
theorem dX4_copyFrom_68 : decode cX4_copyFrom 68 = .ok (.aload_n 1, 1) := by decide +kernel
theorem dX4_copyFrom_69 : decode cX4_copyFrom 69 = .ok (.getfield 45, 3) := by decide +kernel
theorem dX4_copyFrom_72 : decode cX4_copyFrom 72 = .ok (.putfield 45, 3) := by decide +kernel
theorem dX4_copyFrom_75 : decode cX4_copyFrom 75 = .ok (.aload_n 0, 1) := by decide +kernel
theorem dX4_copyFrom_76 : decode cX4_copyFrom 76 = .ok (.aload_n 1, 1) := by decide +kernel
theorem dX4_copyFrom_77 : decode cX4_copyFrom 77 = .ok (.getfield 49, 3) := by decide +kernel
theorem dX4_copyFrom_80 : decode cX4_copyFrom 80 = .ok (.putfield 49, 3) := by decide +kernel
theorem dX4_copyFrom_83 : decode cX4_copyFrom 83 = .ok (.return_, 1) := by decide +kernel
set_option maxRecDepth 20000 in
theorem ggX4_all_X2_all : GoodIn wsX4_all wsX2_all := goodIn_r _ [6, 7, 8, 9, 5, 10, 11, 12, 13, 14, 15, 16, 17, 18, 19, 26] (by decide +kernel) (by decide +kernel)
set_option maxRecDepth 20000 in
theorem gX4_all_X2_all : GoodIn wsX4_all (wsV RX4 52 RX2 yX2_all wsX2_all) := goodIn_app (goodIn_of _ (by decide +kernel)) ggX4_all_X2_all
theorem dX4_all_0 : decode cX4_all 0 = .ok (.iconst 0, 1) := by decide +kernel
theorem dX4_all_1 : decode cX4_all 1 = .ok (.istore_n 1, 1) := by decide +kernel
theorem dX4_all_2 : decode cX4_all 2 = .ok (.iconst 0, 1) := by decide +kernel
theorem dX4_all_3 : decode cX4_all 3 = .ok (.istore_n 2, 1) := by decide +kernel
theorem dX4_all_4 : decode cX4_all 4 = .ok (.iload_n 2, 1) := by decide +kernel
theorem dX4_all_5 : decode cX4_all 5 = .ok (.iconst 3, 1) := by decide +kernel
theorem dX4_all_6 : decode cX4_all 6 = .ok (.if_icmp .ge 21, 3) := by decide +kernel
theorem dX4_all_9 : decode cX4_all 9 = .ok (.iload_n 1, 1) := by decide +kernel
theorem dX4_all_10 : decode cX4_all 10 = .ok (.aload_n 0, 1) := by decide +kernel
theorem dX4_all_11 : decode cX4_all 11 = .ok (.getfield 20, 3) := by decide +kernel
theorem dX4_all_14 : decode cX4_all 14 = .ok (.iload_n 2, 1) := by decide +kernel
theorem dX4_all_15 : decode cX4_all 15 = .ok (.aaload, 1) := by decide +kernel
theorem dX4_all_16 : decode cX4_all 16 = .ok (.invokevirtual 52, 3) := by decide +kernel
theorem dX4_all_19 : decode cX4_all 19 = .ok (.iadd, 1) := by decide +kernel
theorem dX4_all_20 : decode cX4_all 20 = .ok (.istore_n 1, 1) := by decide +kernel
theorem dX4_all_21 : decode cX4_all 21 = .ok (.iinc 2 1, 3) := by decide +kernel
theorem dX4_all_24 : decode cX4_all 24 = .ok (.goto (-20), 3) := by decide +kernel
theorem dX4_all_27 : decode cX4_all 27 = .ok (.iload_n 1, 1) := by decide +kernel
theorem dX4_all_28 : decode cX4_all 28 = .ok (.ireturn, 1) := by decide +kernel
set_option maxRecDepth 20000 in
theorem ggX4_allOf_X2_allOf : GoodIn wsX4_allOf wsX2_allOf := goodIn_r _ [6, 7, 8, 9, 5, 10, 11, 18] (by decide +kernel) (by decide +kernel)
set_option maxRecDepth 20000 in
theorem gX4_allOf_X2_allOf : GoodIn wsX4_allOf (wsV RX4 56 RX2 yX2_allOf wsX2_allOf) := goodIn_app (goodIn_of _ (by decide +kernel)) ggX4_allOf_X2_allOf
theorem dX4_allOf_0 : decode cX4_allOf 0 = .ok (.iconst 0, 1) := by decide +kernel
theorem dX4_allOf_1 : decode cX4_allOf 1 = .ok (.istore_n 2, 1) := by decide +kernel
theorem dX4_allOf_2 : decode cX4_allOf 2 = .ok (.iconst 0, 1) := by decide +kernel
theorem dX4_allOf_3 : decode cX4_allOf 3 = .ok (.istore_n 3, 1) := by decide +kernel
theorem dX4_allOf_4 : decode cX4_allOf 4 = .ok (.iload_n 3, 1) := by decide +kernel
theorem dX4_allOf_5 : decode cX4_allOf 5 = .ok (.iconst 3, 1) := by decide +kernel
theorem dX4_allOf_6 : decode cX4_allOf 6 = .ok (.if_icmp .ge 22, 3) := by decide +kernel
theorem dX4_allOf_9 : decode cX4_allOf 9 = .ok (.iload_n 2, 1) := by decide +kernel
theorem dX4_allOf_10 : decode cX4_allOf 10 = .ok (.aload_n 0, 1) := by decide +kernel
theorem dX4_allOf_11 : decode cX4_allOf 11 = .ok (.getfield 20, 3) := by decide +kernel
theorem dX4_allOf_14 : decode cX4_allOf 14 = .ok (.iload_n 3, 1) := by decide +kernel
theorem dX4_allOf_15 : decode cX4_allOf 15 = .ok (.aaload, 1) := by decide +kernel
theorem dX4_allOf_16 : decode cX4_allOf 16 = .ok (.iload_n 1, 1) := by decide +kernel
theorem dX4_allOf_17 : decode cX4_allOf 17 = .ok (.invokevirtual 56, 3) := by decide +kernel
theorem dX4_allOf_20 : decode cX4_allOf 20 = .ok (.iadd, 1) := by decide +kernel
theorem dX4_allOf_21 : decode cX4_allOf 21 = .ok (.istore_n 2, 1) := by decide +kernel
theorem dX4_allOf_22 : decode cX4_allOf 22 = .ok (.iinc 3 1, 3) := by decide +kernel
theorem dX4_allOf_25 : decode cX4_allOf 25 = .ok (.goto (-21), 3) := by decide +kernel
theorem dX4_allOf_28 : decode cX4_allOf 28 = .ok (.iload_n 2, 1) := by decide +kernel
theorem dX4_allOf_29 : decode cX4_allOf 29 = .ok (.ireturn, 1) := by decide +kernel
set_option maxRecDepth 20000 in
theorem ggX4_packedSlices_X2_packedSlices : GoodIn wsX4_packedSlices wsX2_packedSlices := goodIn_r _ [7, 8, 9, 10, 6, 11, 12, 13, 14, 15, 16, 17, 18, 19, 20, 21, 22, 29, 30, 31] (by decide +kernel) (by decide +kernel)
set_option maxRecDepth 20000 in
theorem gX4_packedSlices_X2_packedSlices : GoodIn wsX4_packedSlices (wsV RX4 60 RX2 yX2_packedSlices wsX2_packedSlices) := goodIn_app (goodIn_of _ (by decide +kernel)) ggX4_packedSlices_X2_packedSlices
theorem dX4_packedSlices_0 : decode cX4_packedSlices 0 = .ok (.iconst 0, 1) := by decide +kernel
theorem dX4_packedSlices_1 : decode cX4_packedSlices 1 = .ok (.istore_n 1, 1) := by decide +kernel
theorem dX4_packedSlices_2 : decode cX4_packedSlices 2 = .ok (.iconst 0, 1) := by decide +kernel
theorem dX4_packedSlices_3 : decode cX4_packedSlices 3 = .ok (.istore_n 2, 1) := by decide +kernel
theorem dX4_packedSlices_4 : decode cX4_packedSlices 4 = .ok (.iload_n 2, 1) := by decide +kernel
theorem dX4_packedSlices_5 : decode cX4_packedSlices 5 = .ok (.iconst 3, 1) := by decide +kernel
theorem dX4_packedSlices_6 : decode cX4_packedSlices 6 = .ok (.if_icmp .ge 25, 3) := by decide +kernel
theorem dX4_packedSlices_9 : decode cX4_packedSlices 9 = .ok (.iload_n 1, 1) := by decide +kernel
theorem dX4_packedSlices_10 : decode cX4_packedSlices 10 = .ok (.aload_n 0, 1) := by decide +kernel
theorem dX4_packedSlices_11 : decode cX4_packedSlices 11 = .ok (.getfield 20, 3) := by decide +kernel
theorem dX4_packedSlices_14 : decode cX4_packedSlices 14 = .ok (.iload_n 2, 1) := by decide +kernel
theorem dX4_packedSlices_15 : decode cX4_packedSlices 15 = .ok (.aaload, 1) := by decide +kernel
theorem dX4_packedSlices_16 : decode cX4_packedSlices 16 = .ok (.aload_n 0, 1) := by decide +kernel
theorem dX4_packedSlices_17 : decode cX4_packedSlices 17 = .ok (.getfield 12, 3) := by decide +kernel
theorem dX4_packedSlices_20 : decode cX4_packedSlices 20 = .ok (.invokevirtual 60, 3) := by decide +kernel
theorem dX4_packedSlices_23 : decode cX4_packedSlices 23 = .ok (.iadd, 1) := by decide +kernel
theorem dX4_packedSlices_24 : decode cX4_packedSlices 24 = .ok (.istore_n 1, 1) := by decide +kernel
theorem dX4_packedSlices_25 : decode cX4_packedSlices 25 = .ok (.iinc 2 1, 3) := by decide +kernel
theorem dX4_packedSlices_28 : decode cX4_packedSlices 28 = .ok (.goto (-24), 3) := by decide +kernel
theorem dX4_packedSlices_31 : decode cX4_packedSlices 31 = .ok (.iload_n 1, 1) := by decide +kernel
theorem dX4_packedSlices_32 : decode cX4_packedSlices 32 = .ok (.ireturn, 1) := by decide +kernel
set_option maxRecDepth 20000 in
theorem ggX4_clearSlices_X2_clearSlices : GoodIn wsX4_clearSlices wsX2_clearSlices := goodIn_r _ [7, 8, 9, 10, 6, 11, 12, 13, 14, 15, 16, 17, 18, 19, 20, 21, 22, 29, 30, 31] (by decide +kernel) (by decide +kernel)
set_option maxRecDepth 20000 in
theorem gX4_clearSlices_X2_clearSlices : GoodIn wsX4_clearSlices (wsV RX4 64 RX2 yX2_clearSlices wsX2_clearSlices) := goodIn_app (goodIn_of _ (by decide +kernel)) ggX4_clearSlices_X2_clearSlices
theorem dX4_clearSlices_0 : decode cX4_clearSlices 0 = .ok (.iconst 0, 1) := by decide +kernel
theorem dX4_clearSlices_1 : decode cX4_clearSlices 1 = .ok (.istore_n 1, 1) := by decide +kernel
theorem dX4_clearSlices_2 : decode cX4_clearSlices 2 = .ok (.iconst 0, 1) := by decide +kernel
theorem dX4_clearSlices_3 : decode cX4_clearSlices 3 = .ok (.istore_n 2, 1) := by decide +kernel
theorem dX4_clearSlices_4 : decode cX4_clearSlices 4 = .ok (.iload_n 2, 1) := by decide +kernel
theorem dX4_clearSlices_5 : decode cX4_clearSlices 5 = .ok (.iconst 3, 1) := by decide +kernel
theorem dX4_clearSlices_6 : decode cX4_clearSlices 6 = .ok (.if_icmp .ge 25, 3) := by decide +kernel
theorem dX4_clearSlices_9 : decode cX4_clearSlices 9 = .ok (.iload_n 1, 1) := by decide +kernel
theorem dX4_clearSlices_10 : decode cX4_clearSlices 10 = .ok (.aload_n 0, 1) := by decide +kernel
theorem dX4_clearSlices_11 : decode cX4_clearSlices 11 = .ok (.getfield 20, 3) := by decide +kernel
theorem dX4_clearSlices_14 : decode cX4_clearSlices 14 = .ok (.iload_n 2, 1) := by decide +kernel
theorem dX4_clearSlices_15 : decode cX4_clearSlices 15 = .ok (.aaload, 1) := by decide +kernel
theorem dX4_clearSlices_16 : decode cX4_clearSlices 16 = .ok (.aload_n 0, 1) := by decide +kernel
theorem dX4_clearSlices_17 : decode cX4_clearSlices 17 = .ok (.getfield 12, 3) := by decide +kernel
theorem dX4_clearSlices_20 : decode cX4_clearSlices 20 = .ok (.invokevirtual 64, 3) := by decide +kernel
theorem dX4_clearSlices_23 : decode cX4_clearSlices 23 = .ok (.iadd, 1) := by decide +kernel
theorem dX4_clearSlices_24 : decode cX4_clearSlices 24 = .ok (.istore_n 1, 1) := by decide +kernel
theorem dX4_clearSlices_25 : decode cX4_clearSlices 25 = .ok (.iinc 2 1, 3) := by decide +kernel
theorem dX4_clearSlices_28 : decode cX4_clearSlices 28 = .ok (.goto (-24), 3) := by decide +kernel
theorem dX4_clearSlices_31 : decode cX4_clearSlices 31 = .ok (.iload_n 1, 1) := by decide +kernel
theorem dX4_clearSlices_32 : decode cX4_clearSlices 32 = .ok (.ireturn, 1) := by decide +kernel
set_option maxRecDepth 20000 in
theorem ggX5_init_X4_init : GoodIn wsX5_init wsX4_init := goodIn_r _ [22, 23, 2, 3, 24, 25, 26, 27, 28, 29, 30, 31, 32, 17, 18, 33, 34, 35, 36, 37, 38, 39, 40, 41, 70, 71, 54, 55, 56, 57, 58, 59, 69] (by decide +kernel) (by decide +kernel)
set_option maxRecDepth 20000 in
theorem gX5_init_X4_init : GoodIn wsX5_init (wsX4_init) := ggX5_init_X4_init
set_option maxRecDepth 20000 in
theorem ggX5_init_X1_init : GoodIn wsX5_init wsX1_init := goodIn_r _ [44, 45, 2, 3, 46, 47, 5, 6, 48, 21, 22, 23, 24, 25, 26, 27, 28, 29, 30, 31, 32, 17, 18, 33, 34, 35, 36, 37, 38, 39, 40, 41, 64, 65, 66, 54, 55, 56, 57, 58, 59, 70, 71, 69] (by decide +kernel) (by decide +kernel)
set_option maxRecDepth 20000 in
theorem gX5_init_X1_init : GoodIn wsX5_init (wsX1_init) := ggX5_init_X1_init
set_option maxRecDepth 20000 in
theorem ggX5_init_X0_init : GoodIn wsX5_init wsX0_init := goodIn_r _ [50, 51, 2, 3, 52, 53, 67, 68] (by decide +kernel) (by decide +kernel)
set_option maxRecDepth 20000 in
theorem gX5_init_X0_init_n25 : GoodIn wsX5_init (wsX0_init) := ggX5_init_X0_init
set_option maxRecDepth 20000 in
theorem ggX5_init_X2_init : GoodIn wsX5_init wsX2_init := goodIn_r _ [39, 40, 2, 3, 30, 41, 69] (by decide +kernel) (by decide +kernel)
set_option maxRecDepth 20000 in
theorem gX5_init_X2_init_n32 : GoodIn wsX5_init (wsX2_init) := ggX5_init_X2_init
theorem dX5_init_0 : decode cX5_init 0 = .ok (.aload_n 0, 1) := by decide +kernel
theorem dX5_init_1 : decode cX5_init 1 = .ok (.invokespecial 3, 3) := by decide +kernel
theorem dX5_init_4 : decode cX5_init 4 = .ok (.aload_n 0, 1) := by decide +kernel
theorem dX5_init_5 : decode cX5_init 5 = .ok (.new 9, 3) := by decide +kernel
theorem dX5_init_8 : decode cX5_init 8 = .ok (.dup, 1) := by decide +kernel
theorem dX5_init_9 : decode cX5_init 9 = .ok (.invokespecial 11, 3) := by decide +kernel
theorem dX5_init_12 : decode cX5_init 12 = .ok (.putfield 12, 3) := by decide +kernel
theorem dX5_init_15 : decode cX5_init 15 = .ok (.aload_n 0, 1) := by decide +kernel
theorem dX5_init_16 : decode cX5_init 16 = .ok (.new 16, 3) := by decide +kernel
theorem dX5_init_19 : decode cX5_init 19 = .ok (.dup, 1) := by decide +kernel
theorem dX5_init_20 : decode cX5_init 20 = .ok (.invokespecial 18, 3) := by decide +kernel
theorem dX5_init_23 : decode cX5_init 23 = .ok (.putfield 19, 3) := by decide +kernel
theorem dX5_init_26 : decode cX5_init 26 = .ok (.aload_n 0, 1) := by decide +kernel
theorem dX5_init_27 : decode cX5_init 27 = .ok (.new 23, 3) := by decide +kernel
theorem dX5_init_30 : decode cX5_init 30 = .ok (.dup, 1) := by decide +kernel
theorem dX5_init_31 : decode cX5_init 31 = .ok (.invokespecial 25, 3) := by decide +kernel
theorem dX5_init_34 : decode cX5_init 34 = .ok (.putfield 26, 3) := by decide +kernel
theorem dX5_init_37 : decode cX5_init 37 = .ok (.aload_n 0, 1) := by decide +kernel
theorem dX5_init_38 : decode cX5_init 38 = .ok (.new 30, 3) := by decide +kernel
theorem dX5_init_41 : decode cX5_init 41 = .ok (.dup, 1) := by decide +kernel
theorem dX5_init_42 : decode cX5_init 42 = .ok (.invokespecial 32, 3) := by decide +kernel
theorem dX5_init_45 : decode cX5_init 45 = .ok (.putfield 33, 3) := by decide +kernel
theorem dX5_init_48 : decode cX5_init 48 = .ok (.return_, 1) := by decide +kernel
set_option maxRecDepth 20000 in
theorem ggX5_set_X5_needIndex : GoodIn wsX5_set wsX5_needIndex := goodIn_ca (goodIn_r _ [10, 11, 12] (by decide +kernel) (by decide +kernel)) (goodIn_sub (fun _ h => List.mem_cons_of_mem _ (List.mem_append_left _ (List.mem_append_right _ h))) (by decide +kernel))
set_option maxRecDepth 20000 in
theorem gX5_set_X5_needIndex : GoodIn wsX5_set (va_wsS RX5 37 yX5_needIndex wsX5_needIndex) := goodIn_app (goodIn_of _ (by decide +kernel)) ggX5_set_X5_needIndex
set_option maxRecDepth 20000 in
theorem ggX5_set_X5_needRange : GoodIn wsX5_set wsX5_needRange := goodIn_ca (goodIn_r _ [15, 16, 17] (by decide +kernel) (by decide +kernel)) (goodIn_sub (fun _ h => List.mem_cons_of_mem _ (List.mem_append_right _ h)) (by decide +kernel))
set_option maxRecDepth 20000 in
theorem gX5_set_X5_needRange : GoodIn wsX5_set (va_wsS RX5 50 yX5_needRange wsX5_needRange) := goodIn_app (goodIn_of _ (by decide +kernel)) ggX5_set_X5_needRange
set_option maxRecDepth 20000 in
theorem ggX5_set_X1_keep : GoodIn wsX5_set wsX1_keep := goodIn_r _ [22, 23, 24, 25, 26, 27, 28, 29, 30, 31, 32, 33, 34, 35, 36, 37, 38, 39, 40, 41, 42, 43, 44, 45, 46, 47, 48, 49, 50, 51, 52, 53, 54, 55, 68, 69, 70, 60, 61, 62, 63, 64, 65, 66, 67, 71] (by decide +kernel) (by decide +kernel)
set_option maxRecDepth 20000 in
theorem gX5_set_X1_keep : GoodIn wsX5_set (wsV RX5 54 RX1 yX1_keep wsX1_keep) := goodIn_app (goodIn_of _ (by decide +kernel)) ggX5_set_X1_keep
theorem dX5_set_0 : decode cX5_set 0 = .ok (.iload_n 1, 1) := by decide +kernel
theorem dX5_set_1 : decode cX5_set 1 = .ok (.iconst 4, 1) := by decide +kernel
theorem dX5_set_2 : decode cX5_set 2 = .ok (.invokestatic 37, 3) := by decide +kernel
theorem dX5_set_5 : decode cX5_set 5 = .ok (.iload_n 2, 1) := by decide +kernel
theorem dX5_set_6 : decode cX5_set 6 = .ok (.getstatic 41, 3) := by decide +kernel
theorem dX5_set_9 : decode cX5_set 9 = .ok (.iload_n 1, 1) := by decide +kernel
theorem dX5_set_10 : decode cX5_set 10 = .ok (.iaload, 1) := by decide +kernel
theorem dX5_set_11 : decode cX5_set 11 = .ok (.getstatic 47, 3) := by decide +kernel
theorem dX5_set_14 : decode cX5_set 14 = .ok (.iload_n 1, 1) := by decide +kernel
theorem dX5_set_15 : decode cX5_set 15 = .ok (.iaload, 1) := by decide +kernel
theorem dX5_set_16 : decode cX5_set 16 = .ok (.invokestatic 50, 3) := by decide +kernel
theorem dX5_set_19 : decode cX5_set 19 = .ok (.aload_n 0, 1) := by decide +kernel
theorem dX5_set_20 : decode cX5_set 20 = .ok (.getfield 19, 3) := by decide +kernel
theorem dX5_set_23 : decode cX5_set 23 = .ok (.aload_n 0, 1) := by decide +kernel
theorem dX5_set_24 : decode cX5_set 24 = .ok (.getfield 12, 3) := by decide +kernel
theorem dX5_set_27 : decode cX5_set 27 = .ok (.invokevirtual 54, 3) := by decide +kernel
theorem dX5_set_30 : decode cX5_set 30 = .ok (.aload_n 0, 1) := by decide +kernel
theorem dX5_set_31 : decode cX5_set 31 = .ok (.getfield 12, 3) := by decide +kernel
theorem dX5_set_34 : decode cX5_set 34 = .ok (.getfield 58, 3) := by decide +kernel
theorem dX5_set_37 : decode cX5_set 37 = .ok (.getfield 62, 3) := by decide +kernel
theorem dX5_set_40 : decode cX5_set 40 = .ok (.iload_n 1, 1) := by decide +kernel
theorem dX5_set_41 : decode cX5_set 41 = .ok (.iaload, 1) := by decide +kernel
theorem dX5_set_42 : decode cX5_set 42 = .ok (.istore_n 3, 1) := by decide +kernel
theorem dX5_set_43 : decode cX5_set 43 = .ok (.aload_n 0, 1) := by decide +kernel
theorem dX5_set_44 : decode cX5_set 44 = .ok (.getfield 12, 3) := by decide +kernel
theorem dX5_set_47 : decode cX5_set 47 = .ok (.getfield 58, 3) := by decide +kernel
theorem dX5_set_50 : decode cX5_set 50 = .ok (.getfield 62, 3) := by decide +kernel
theorem dX5_set_53 : decode cX5_set 53 = .ok (.iload_n 1, 1) := by decide +kernel
theorem dX5_set_54 : decode cX5_set 54 = .ok (.iload_n 2, 1) := by decide +kernel
theorem dX5_set_55 : decode cX5_set 55 = .ok (.iastore, 1) := by decide +kernel
theorem dX5_set_56 : decode cX5_set 56 = .ok (.iload_n 3, 1) := by decide +kernel
theorem dX5_set_57 : decode cX5_set 57 = .ok (.ireturn, 1) := by decide +kernel
set_option maxRecDepth 20000 in
theorem ggX5_setSpeed_X5_needIndex : GoodIn wsX5_setSpeed wsX5_needIndex := goodIn_ca (goodIn_r _ [8, 9, 10] (by decide +kernel) (by decide +kernel)) (goodIn_sub (fun _ h => List.mem_cons_of_mem _ (List.mem_append_left _ (List.mem_append_right _ h))) (by decide +kernel))
set_option maxRecDepth 20000 in
theorem gX5_setSpeed_X5_needIndex : GoodIn wsX5_setSpeed (va_wsS RX5 37 yX5_needIndex wsX5_needIndex) := goodIn_app (goodIn_of _ (by decide +kernel)) ggX5_setSpeed_X5_needIndex
set_option maxRecDepth 20000 in
theorem ggX5_setSpeed_X5_needRange : GoodIn wsX5_setSpeed wsX5_needRange := goodIn_ca (goodIn_r _ [13, 14, 15] (by decide +kernel) (by decide +kernel)) (goodIn_sub (fun _ h => List.mem_cons_of_mem _ (List.mem_append_right _ h)) (by decide +kernel))
set_option maxRecDepth 20000 in
theorem gX5_setSpeed_X5_needRange : GoodIn wsX5_setSpeed (va_wsS RX5 50 yX5_needRange wsX5_needRange) := goodIn_app (goodIn_of _ (by decide +kernel)) ggX5_setSpeed_X5_needRange
set_option maxRecDepth 20000 in
theorem ggX5_setSpeed_X1_keep : GoodIn wsX5_setSpeed wsX1_keep := goodIn_r _ [20, 21, 22, 23, 24, 25, 26, 27, 28, 29, 30, 31, 32, 33, 34, 35, 36, 37, 38, 39, 40, 41, 42, 43, 44, 45, 46, 47, 48, 49, 50, 51, 52, 53, 66, 67, 68, 58, 59, 60, 61, 62, 63, 64, 65, 69] (by decide +kernel) (by decide +kernel)
set_option maxRecDepth 20000 in
theorem gX5_setSpeed_X1_keep : GoodIn wsX5_setSpeed (wsV RX5 54 RX1 yX1_keep wsX1_keep) := goodIn_app (goodIn_of _ (by decide +kernel)) ggX5_setSpeed_X1_keep
theorem dX5_setSpeed_0 : decode cX5_setSpeed 0 = .ok (.iload_n 1, 1) := by decide +kernel
theorem dX5_setSpeed_1 : decode cX5_setSpeed 1 = .ok (.iconst 4, 1) := by decide +kernel
theorem dX5_setSpeed_2 : decode cX5_setSpeed 2 = .ok (.invokestatic 37, 3) := by decide +kernel
theorem dX5_setSpeed_5 : decode cX5_setSpeed 5 = .ok (.iload_n 2, 1) := by decide +kernel
theorem dX5_setSpeed_6 : decode cX5_setSpeed 6 = .ok (.iconst 1, 1) := by decide +kernel
theorem dX5_setSpeed_7 : decode cX5_setSpeed 7 = .ok (.bipush 100, 2) := by decide +kernel
theorem dX5_setSpeed_9 : decode cX5_setSpeed 9 = .ok (.invokestatic 50, 3) := by decide +kernel
theorem dX5_setSpeed_12 : decode cX5_setSpeed 12 = .ok (.aload_n 0, 1) := by decide +kernel
theorem dX5_setSpeed_13 : decode cX5_setSpeed 13 = .ok (.getfield 19, 3) := by decide +kernel
theorem dX5_setSpeed_16 : decode cX5_setSpeed 16 = .ok (.aload_n 0, 1) := by decide +kernel
theorem dX5_setSpeed_17 : decode cX5_setSpeed 17 = .ok (.getfield 12, 3) := by decide +kernel
theorem dX5_setSpeed_20 : decode cX5_setSpeed 20 = .ok (.invokevirtual 54, 3) := by decide +kernel
theorem dX5_setSpeed_23 : decode cX5_setSpeed 23 = .ok (.aload_n 0, 1) := by decide +kernel
theorem dX5_setSpeed_24 : decode cX5_setSpeed 24 = .ok (.getfield 12, 3) := by decide +kernel
theorem dX5_setSpeed_27 : decode cX5_setSpeed 27 = .ok (.getfield 58, 3) := by decide +kernel
theorem dX5_setSpeed_30 : decode cX5_setSpeed 30 = .ok (.getfield 65, 3) := by decide +kernel
theorem dX5_setSpeed_33 : decode cX5_setSpeed 33 = .ok (.iload_n 1, 1) := by decide +kernel
theorem dX5_setSpeed_34 : decode cX5_setSpeed 34 = .ok (.iaload, 1) := by decide +kernel
theorem dX5_setSpeed_35 : decode cX5_setSpeed 35 = .ok (.istore_n 3, 1) := by decide +kernel
theorem dX5_setSpeed_36 : decode cX5_setSpeed 36 = .ok (.aload_n 0, 1) := by decide +kernel
theorem dX5_setSpeed_37 : decode cX5_setSpeed 37 = .ok (.getfield 12, 3) := by decide +kernel
theorem dX5_setSpeed_40 : decode cX5_setSpeed 40 = .ok (.getfield 58, 3) := by decide +kernel
theorem dX5_setSpeed_43 : decode cX5_setSpeed 43 = .ok (.getfield 65, 3) := by decide +kernel
theorem dX5_setSpeed_46 : decode cX5_setSpeed 46 = .ok (.iload_n 1, 1) := by decide +kernel
theorem dX5_setSpeed_47 : decode cX5_setSpeed 47 = .ok (.iload_n 2, 1) := by decide +kernel
theorem dX5_setSpeed_48 : decode cX5_setSpeed 48 = .ok (.iastore, 1) := by decide +kernel
theorem dX5_setSpeed_49 : decode cX5_setSpeed 49 = .ok (.iload_n 3, 1) := by decide +kernel
theorem dX5_setSpeed_50 : decode cX5_setSpeed 50 = .ok (.ireturn, 1) := by decide +kernel
set_option maxRecDepth 20000 in
theorem ggX5_pour_X5_needSlice : GoodIn wsX5_pour wsX5_needSlice := goodIn_ca (goodIn_r _ [8, 9, 10, 7, 11, 12, 13] (by decide +kernel) (by decide +kernel)) (goodIn_sub (fun _ h => List.mem_cons_of_mem _ (List.mem_append_left _ (List.mem_append_left _ (List.mem_append_right _ h)))) (by decide +kernel))
set_option maxRecDepth 20000 in
theorem gX5_pour_X5_needSlice : GoodIn wsX5_pour (va_wsS RX5 68 yX5_needSlice wsX5_needSlice) := goodIn_app (goodIn_of _ (by decide +kernel)) ggX5_pour_X5_needSlice
set_option maxRecDepth 20000 in
theorem ggX5_pour_X5_needIndex : GoodIn wsX5_pour wsX5_needIndex := goodIn_ca (goodIn_r _ [11, 12, 13] (by decide +kernel) (by decide +kernel)) (goodIn_sub (fun _ h => List.mem_cons_of_mem _ (List.mem_append_left _ (List.mem_append_left _ (List.mem_append_right _ h)))) (by decide +kernel))
set_option maxRecDepth 20000 in
theorem gX5_pour_X5_needIndex : GoodIn wsX5_pour (va_wsS RX5 37 yX5_needIndex wsX5_needIndex) := goodIn_app (goodIn_of _ (by decide +kernel)) ggX5_pour_X5_needIndex
set_option maxRecDepth 20000 in
theorem ggX5_pour_X5_needRange : GoodIn wsX5_pour wsX5_needRange := goodIn_ca (goodIn_r _ [16, 17, 18] (by decide +kernel) (by decide +kernel)) (goodIn_sub (fun _ h => List.mem_cons_of_mem _ (List.mem_append_left _ (List.mem_append_right _ h))) (by decide +kernel))
set_option maxRecDepth 20000 in
theorem gX5_pour_X5_needRange : GoodIn wsX5_pour (va_wsS RX5 50 yX5_needRange wsX5_needRange) := goodIn_app (goodIn_of _ (by decide +kernel)) ggX5_pour_X5_needRange
set_option maxRecDepth 20000 in
theorem ggX5_pour_X5_needRoom : GoodIn wsX5_pour wsX5_needRoom := goodIn_ca (goodIn_r _ [21, 22, 23, 24, 25, 26, 27, 28, 29, 30, 31, 32, 33, 34, 35, 36, 37, 38, 39, 40, 41, 93] (by decide +kernel) (by decide +kernel)) (goodIn_sub (fun _ h => List.mem_cons_of_mem _ (List.mem_append_right _ h)) (by decide +kernel))
set_option maxRecDepth 20000 in
theorem gX5_pour_X5_needRoom : GoodIn wsX5_pour (va_wsS RX5 75 yX5_needRoom wsX5_needRoom) := goodIn_app (goodIn_of _ (by decide +kernel)) ggX5_pour_X5_needRoom
set_option maxRecDepth 20000 in
theorem ggX5_pour_X1_keep : GoodIn wsX5_pour wsX1_keep := goodIn_r _ [46, 47, 48, 49, 50, 51, 52, 53, 54, 55, 56, 57, 58, 59, 60, 61, 62, 63, 64, 65, 66, 67, 68, 69, 70, 71, 72, 73, 74, 75, 27, 76, 41, 77, 94, 95, 96, 87, 88, 89, 90, 91, 92, 97, 98, 93] (by decide +kernel) (by decide +kernel)
set_option maxRecDepth 20000 in
theorem gX5_pour_X1_keep : GoodIn wsX5_pour (wsV RX5 54 RX1 yX1_keep wsX1_keep) := goodIn_app (goodIn_of _ (by decide +kernel)) ggX5_pour_X1_keep
set_option maxRecDepth 20000 in
theorem ggX5_pour_X2_put : GoodIn wsX5_pour wsX2_put := goodIn_r _ [81, 41, 93] (by decide +kernel) (by decide +kernel)
set_option maxRecDepth 20000 in
theorem gX5_pour_X2_put : GoodIn wsX5_pour (wsV RX5 79 RX2 yX2_put wsX2_put) := goodIn_app (goodIn_of _ (by decide +kernel)) ggX5_pour_X2_put
set_option maxRecDepth 20000 in
theorem ggX5_pour_X2_allIn : GoodIn wsX5_pour wsX2_allIn := goodIn_r _ [36, 37, 38, 39, 27, 40, 41, 93] (by decide +kernel) (by decide +kernel)
set_option maxRecDepth 20000 in
theorem gX5_pour_X2_allIn : GoodIn wsX5_pour (wsV RX5 85 RX2 yX2_allIn wsX2_allIn) := goodIn_app (goodIn_of _ (by decide +kernel)) ggX5_pour_X2_allIn
theorem dX5_pour_0 : decode cX5_pour 0 = .ok (.iload_n 1, 1) := by decide +kernel
theorem dX5_pour_1 : decode cX5_pour 1 = .ok (.iload_n 2, 1) := by decide +kernel
theorem dX5_pour_2 : decode cX5_pour 2 = .ok (.invokestatic 68, 3) := by decide +kernel
theorem dX5_pour_5 : decode cX5_pour 5 = .ok (.iload_n 3, 1) := by decide +kernel
theorem dX5_pour_6 : decode cX5_pour 6 = .ok (.iconst 4, 1) := by decide +kernel
theorem dX5_pour_7 : decode cX5_pour 7 = .ok (.invokestatic 37, 3) := by decide +kernel
theorem dX5_pour_10 : decode cX5_pour 10 = .ok (.iload 4, 2) := by decide +kernel
theorem dX5_pour_12 : decode cX5_pour 12 = .ok (.iconst 1, 1) := by decide +kernel
theorem dX5_pour_13 : decode cX5_pour 13 = .ok (.sipush 999, 3) := by decide +kernel
theorem dX5_pour_16 : decode cX5_pour 16 = .ok (.invokestatic 50, 3) := by decide +kernel
theorem dX5_pour_19 : decode cX5_pour 19 = .ok (.aload_n 0, 1) := by decide +kernel
theorem dX5_pour_20 : decode cX5_pour 20 = .ok (.getfield 12, 3) := by decide +kernel
theorem dX5_pour_23 : decode cX5_pour 23 = .ok (.getfield 71, 3) := by decide +kernel
theorem dX5_pour_26 : decode cX5_pour 26 = .ok (.iload_n 1, 1) := by decide +kernel
theorem dX5_pour_27 : decode cX5_pour 27 = .ok (.aaload, 1) := by decide +kernel
theorem dX5_pour_28 : decode cX5_pour 28 = .ok (.astore 5, 2) := by decide +kernel
theorem dX5_pour_30 : decode cX5_pour 30 = .ok (.aload 5, 2) := by decide +kernel
theorem dX5_pour_32 : decode cX5_pour 32 = .ok (.iload 4, 2) := by decide +kernel
theorem dX5_pour_34 : decode cX5_pour 34 = .ok (.invokestatic 75, 3) := by decide +kernel
theorem dX5_pour_37 : decode cX5_pour 37 = .ok (.aload_n 0, 1) := by decide +kernel
theorem dX5_pour_38 : decode cX5_pour 38 = .ok (.getfield 19, 3) := by decide +kernel
theorem dX5_pour_41 : decode cX5_pour 41 = .ok (.aload_n 0, 1) := by decide +kernel
theorem dX5_pour_42 : decode cX5_pour 42 = .ok (.getfield 12, 3) := by decide +kernel
theorem dX5_pour_45 : decode cX5_pour 45 = .ok (.invokevirtual 54, 3) := by decide +kernel
theorem dX5_pour_48 : decode cX5_pour 48 = .ok (.aload 5, 2) := by decide +kernel
theorem dX5_pour_50 : decode cX5_pour 50 = .ok (.iload_n 2, 1) := by decide +kernel
theorem dX5_pour_51 : decode cX5_pour 51 = .ok (.iload_n 3, 1) := by decide +kernel
theorem dX5_pour_52 : decode cX5_pour 52 = .ok (.iload 4, 2) := by decide +kernel
theorem dX5_pour_54 : decode cX5_pour 54 = .ok (.invokevirtual 79, 3) := by decide +kernel
theorem dX5_pour_57 : decode cX5_pour 57 = .ok (.aload_n 0, 1) := by decide +kernel
theorem dX5_pour_58 : decode cX5_pour 58 = .ok (.getfield 12, 3) := by decide +kernel
theorem dX5_pour_61 : decode cX5_pour 61 = .ok (.getfield 82, 3) := by decide +kernel
theorem dX5_pour_64 : decode cX5_pour 64 = .ok (.iload_n 3, 1) := by decide +kernel
theorem dX5_pour_65 : decode cX5_pour 65 = .ok (.dup2, 1) := by decide +kernel
theorem dX5_pour_66 : decode cX5_pour 66 = .ok (.iaload, 1) := by decide +kernel
theorem dX5_pour_67 : decode cX5_pour 67 = .ok (.iload 4, 2) := by decide +kernel
theorem dX5_pour_69 : decode cX5_pour 69 = .ok (.iadd, 1) := by decide +kernel
theorem dX5_pour_70 : decode cX5_pour 70 = .ok (.iastore, 1) := by decide +kernel
theorem dX5_pour_71 : decode cX5_pour 71 = .ok (.aload 5, 2) := by decide +kernel
theorem dX5_pour_73 : decode cX5_pour 73 = .ok (.iload_n 2, 1) := by decide +kernel
theorem dX5_pour_74 : decode cX5_pour 74 = .ok (.invokevirtual 85, 3) := by decide +kernel
theorem dX5_pour_77 : decode cX5_pour 77 = .ok (.ireturn, 1) := by decide +kernel
set_option maxRecDepth 20000 in
theorem ggX5_stir_X5_needSlice : GoodIn wsX5_stir wsX5_needSlice := goodIn_ca (goodIn_r _ [7, 8, 9, 6, 10, 11, 12] (by decide +kernel) (by decide +kernel)) (goodIn_sub (fun _ h => List.mem_cons_of_mem _ (List.mem_append_left _ (List.mem_append_right _ h))) (by decide +kernel))
set_option maxRecDepth 20000 in
theorem gX5_stir_X5_needSlice : GoodIn wsX5_stir (va_wsS RX5 68 yX5_needSlice wsX5_needSlice) := goodIn_app (goodIn_of _ (by decide +kernel)) ggX5_stir_X5_needSlice
set_option maxRecDepth 20000 in
theorem ggX5_stir_X5_needIndex : GoodIn wsX5_stir wsX5_needIndex := goodIn_ca (goodIn_r _ [10, 11, 12] (by decide +kernel) (by decide +kernel)) (goodIn_sub (fun _ h => List.mem_cons_of_mem _ (List.mem_append_left _ (List.mem_append_right _ h))) (by decide +kernel))
set_option maxRecDepth 20000 in
theorem gX5_stir_X5_needIndex : GoodIn wsX5_stir (va_wsS RX5 37 yX5_needIndex wsX5_needIndex) := goodIn_app (goodIn_of _ (by decide +kernel)) ggX5_stir_X5_needIndex
set_option maxRecDepth 20000 in
theorem ggX5_stir_X5_needRange : GoodIn wsX5_stir wsX5_needRange := goodIn_ca (goodIn_r _ [15, 16, 17] (by decide +kernel) (by decide +kernel)) (goodIn_sub (fun _ h => List.mem_cons_of_mem _ (List.mem_append_right _ h)) (by decide +kernel))
set_option maxRecDepth 20000 in
theorem gX5_stir_X5_needRange : GoodIn wsX5_stir (va_wsS RX5 50 yX5_needRange wsX5_needRange) := goodIn_app (goodIn_of _ (by decide +kernel)) ggX5_stir_X5_needRange
set_option maxRecDepth 20000 in
theorem ggX5_stir_X1_keep : GoodIn wsX5_stir wsX1_keep := goodIn_r _ [22, 23, 24, 25, 26, 27, 28, 29, 30, 31, 32, 33, 34, 35, 36, 37, 38, 39, 40, 41, 42, 43, 44, 45, 46, 47, 48, 49, 50, 51, 52, 53, 54, 55, 78, 79, 80, 72, 73, 74, 75, 76, 77, 81, 82, 83] (by decide +kernel) (by decide +kernel)
set_option maxRecDepth 20000 in
theorem gX5_stir_X1_keep : GoodIn wsX5_stir (wsV RX5 54 RX1 yX1_keep wsX1_keep) := goodIn_app (goodIn_of _ (by decide +kernel)) ggX5_stir_X1_keep
set_option maxRecDepth 20000 in
theorem ggX5_stir_X2_spread : GoodIn wsX5_stir wsX2_spread := goodIn_r _ [59, 60, 61, 62, 52, 63, 54, 64, 65, 66, 67, 83] (by decide +kernel) (by decide +kernel)
set_option maxRecDepth 20000 in
theorem gX5_stir_X2_spread : GoodIn wsX5_stir (wsV RX5 89 RX2 yX2_spread wsX2_spread) := goodIn_app (goodIn_of _ (by decide +kernel)) ggX5_stir_X2_spread
theorem dX5_stir_0 : decode cX5_stir 0 = .ok (.iload_n 1, 1) := by decide +kernel
theorem dX5_stir_1 : decode cX5_stir 1 = .ok (.iload_n 2, 1) := by decide +kernel
theorem dX5_stir_2 : decode cX5_stir 2 = .ok (.invokestatic 68, 3) := by decide +kernel
theorem dX5_stir_5 : decode cX5_stir 5 = .ok (.iload_n 3, 1) := by decide +kernel
theorem dX5_stir_6 : decode cX5_stir 6 = .ok (.bipush 12, 2) := by decide +kernel
theorem dX5_stir_8 : decode cX5_stir 8 = .ok (.invokestatic 37, 3) := by decide +kernel
theorem dX5_stir_11 : decode cX5_stir 11 = .ok (.iload_n 2, 1) := by decide +kernel
theorem dX5_stir_12 : decode cX5_stir 12 = .ok (.iconst 0, 1) := by decide +kernel
theorem dX5_stir_13 : decode cX5_stir 13 = .ok (.iload_n 3, 1) := by decide +kernel
theorem dX5_stir_14 : decode cX5_stir 14 = .ok (.invokestatic 50, 3) := by decide +kernel
theorem dX5_stir_17 : decode cX5_stir 17 = .ok (.aload_n 0, 1) := by decide +kernel
theorem dX5_stir_18 : decode cX5_stir 18 = .ok (.getfield 19, 3) := by decide +kernel
theorem dX5_stir_21 : decode cX5_stir 21 = .ok (.aload_n 0, 1) := by decide +kernel
theorem dX5_stir_22 : decode cX5_stir 22 = .ok (.getfield 12, 3) := by decide +kernel
theorem dX5_stir_25 : decode cX5_stir 25 = .ok (.invokevirtual 54, 3) := by decide +kernel
theorem dX5_stir_28 : decode cX5_stir 28 = .ok (.iconst 0, 1) := by decide +kernel
theorem dX5_stir_29 : decode cX5_stir 29 = .ok (.istore 4, 2) := by decide +kernel
theorem dX5_stir_31 : decode cX5_stir 31 = .ok (.iconst 0, 1) := by decide +kernel
theorem dX5_stir_32 : decode cX5_stir 32 = .ok (.istore 5, 2) := by decide +kernel
theorem dX5_stir_34 : decode cX5_stir 34 = .ok (.iload 5, 2) := by decide +kernel
theorem dX5_stir_36 : decode cX5_stir 36 = .ok (.iconst 4, 1) := by decide +kernel
theorem dX5_stir_37 : decode cX5_stir 37 = .ok (.if_icmp .ge 30, 3) := by decide +kernel
theorem dX5_stir_40 : decode cX5_stir 40 = .ok (.iload 4, 2) := by decide +kernel
theorem dX5_stir_42 : decode cX5_stir 42 = .ok (.aload_n 0, 1) := by decide +kernel
theorem dX5_stir_43 : decode cX5_stir 43 = .ok (.getfield 12, 3) := by decide +kernel
theorem dX5_stir_46 : decode cX5_stir 46 = .ok (.getfield 71, 3) := by decide +kernel
theorem dX5_stir_49 : decode cX5_stir 49 = .ok (.iload_n 1, 1) := by decide +kernel
theorem dX5_stir_50 : decode cX5_stir 50 = .ok (.aaload, 1) := by decide +kernel
theorem dX5_stir_51 : decode cX5_stir 51 = .ok (.iload_n 2, 1) := by decide +kernel
theorem dX5_stir_52 : decode cX5_stir 52 = .ok (.iload_n 3, 1) := by decide +kernel
theorem dX5_stir_53 : decode cX5_stir 53 = .ok (.iload 5, 2) := by decide +kernel
end
section
theorem dX5_stir_55 : decode cX5_stir 55 = .ok (.invokevirtual 89, 3) := by decide +kernel
theorem dX5_stir_58 : decode cX5_stir 58 = .ok (.iadd, 1) := by decide +kernel
theorem dX5_stir_59 : decode cX5_stir 59 = .ok (.istore 4, 2) := by decide +kernel
theorem dX5_stir_61 : decode cX5_stir 61 = .ok (.iinc 5 1, 3) := by decide +kernel
theorem dX5_stir_64 : decode cX5_stir 64 = .ok (.goto (-30), 3) := by decide +kernel
theorem dX5_stir_67 : decode cX5_stir 67 = .ok (.iload 4, 2) := by decide +kernel
theorem dX5_stir_69 : decode cX5_stir 69 = .ok (.ireturn, 1) := by decide +kernel
set_option maxRecDepth 20000 in
theorem ggX5_draw_X5_needSlice : GoodIn wsX5_draw wsX5_needSlice := goodIn_ca (goodIn_r _ [8, 9, 10, 7, 11, 12, 13] (by decide +kernel) (by decide +kernel)) (goodIn_sub (fun _ h => List.mem_cons_of_mem _ (List.mem_append_left _ (List.mem_append_right _ h))) (by decide +kernel))
set_option maxRecDepth 20000 in
theorem gX5_draw_X5_needSlice : GoodIn wsX5_draw (va_wsS RX5 68 yX5_needSlice wsX5_needSlice) := goodIn_app (goodIn_of _ (by decide +kernel)) ggX5_draw_X5_needSlice
set_option maxRecDepth 20000 in
theorem ggX5_draw_X5_needRange : GoodIn wsX5_draw wsX5_needRange := goodIn_ca (goodIn_r _ [16, 17, 18] (by decide +kernel) (by decide +kernel)) (goodIn_sub (fun _ h => List.mem_cons_of_mem _ (List.mem_append_right _ h)) (by decide +kernel))
set_option maxRecDepth 20000 in
theorem gX5_draw_X5_needRange : GoodIn wsX5_draw (va_wsS RX5 50 yX5_needRange wsX5_needRange) := goodIn_app (goodIn_of _ (by decide +kernel)) ggX5_draw_X5_needRange
set_option maxRecDepth 20000 in
theorem ggX5_draw_X1_keep : GoodIn wsX5_draw wsX1_keep := goodIn_r _ [23, 24, 25, 26, 27, 28, 29, 30, 31, 32, 33, 34, 35, 36, 37, 38, 39, 40, 41, 42, 43, 44, 45, 46, 47, 48, 49, 50, 51, 52, 53, 54, 55, 56, 75, 76, 77, 69, 70, 71, 72, 73, 74, 78, 79, 80] (by decide +kernel) (by decide +kernel)
set_option maxRecDepth 20000 in
theorem gX5_draw_X1_keep : GoodIn wsX5_draw (wsV RX5 54 RX1 yX1_keep wsX1_keep) := goodIn_app (goodIn_of _ (by decide +kernel)) ggX5_draw_X1_keep
set_option maxRecDepth 20000 in
theorem ggX5_draw_X2_many : GoodIn wsX5_draw wsX2_many := goodIn_r _ [60, 55, 80] (by decide +kernel) (by decide +kernel)
set_option maxRecDepth 20000 in
theorem gX5_draw_X2_many : GoodIn wsX5_draw (wsV RX5 93 RX2 yX2_many wsX2_many) := goodIn_app (goodIn_of _ (by decide +kernel)) ggX5_draw_X2_many
set_option maxRecDepth 20000 in
theorem ggX5_draw_X2_put : GoodIn wsX5_draw wsX2_put := goodIn_r _ [64, 55, 80] (by decide +kernel) (by decide +kernel)
set_option maxRecDepth 20000 in
theorem gX5_draw_X2_put : GoodIn wsX5_draw (wsV RX5 79 RX2 yX2_put wsX2_put) := goodIn_app (goodIn_of _ (by decide +kernel)) ggX5_draw_X2_put
theorem dX5_draw_0 : decode cX5_draw 0 = .ok (.iload_n 1, 1) := by decide +kernel
theorem dX5_draw_1 : decode cX5_draw 1 = .ok (.iload_n 2, 1) := by decide +kernel
theorem dX5_draw_2 : decode cX5_draw 2 = .ok (.invokestatic 68, 3) := by decide +kernel
theorem dX5_draw_5 : decode cX5_draw 5 = .ok (.iload_n 3, 1) := by decide +kernel
theorem dX5_draw_6 : decode cX5_draw 6 = .ok (.iconst 1, 1) := by decide +kernel
theorem dX5_draw_7 : decode cX5_draw 7 = .ok (.bipush 100, 2) := by decide +kernel
theorem dX5_draw_9 : decode cX5_draw 9 = .ok (.invokestatic 50, 3) := by decide +kernel
theorem dX5_draw_12 : decode cX5_draw 12 = .ok (.aload_n 0, 1) := by decide +kernel
theorem dX5_draw_13 : decode cX5_draw 13 = .ok (.getfield 19, 3) := by decide +kernel
theorem dX5_draw_16 : decode cX5_draw 16 = .ok (.aload_n 0, 1) := by decide +kernel
theorem dX5_draw_17 : decode cX5_draw 17 = .ok (.getfield 12, 3) := by decide +kernel
theorem dX5_draw_20 : decode cX5_draw 20 = .ok (.invokevirtual 54, 3) := by decide +kernel
theorem dX5_draw_23 : decode cX5_draw 23 = .ok (.aload_n 0, 1) := by decide +kernel
theorem dX5_draw_24 : decode cX5_draw 24 = .ok (.getfield 12, 3) := by decide +kernel
theorem dX5_draw_27 : decode cX5_draw 27 = .ok (.getfield 71, 3) := by decide +kernel
theorem dX5_draw_30 : decode cX5_draw 30 = .ok (.iload_n 1, 1) := by decide +kernel
theorem dX5_draw_31 : decode cX5_draw 31 = .ok (.aaload, 1) := by decide +kernel
theorem dX5_draw_32 : decode cX5_draw 32 = .ok (.astore 4, 2) := by decide +kernel
theorem dX5_draw_34 : decode cX5_draw 34 = .ok (.iconst 0, 1) := by decide +kernel
theorem dX5_draw_35 : decode cX5_draw 35 = .ok (.istore 5, 2) := by decide +kernel
theorem dX5_draw_37 : decode cX5_draw 37 = .ok (.iconst 0, 1) := by decide +kernel
theorem dX5_draw_38 : decode cX5_draw 38 = .ok (.istore 6, 2) := by decide +kernel
theorem dX5_draw_40 : decode cX5_draw 40 = .ok (.iload 6, 2) := by decide +kernel
theorem dX5_draw_42 : decode cX5_draw 42 = .ok (.iconst 4, 1) := by decide +kernel
theorem dX5_draw_43 : decode cX5_draw 43 = .ok (.if_icmp .ge 57, 3) := by decide +kernel
theorem dX5_draw_46 : decode cX5_draw 46 = .ok (.aload 4, 2) := by decide +kernel
theorem dX5_draw_48 : decode cX5_draw 48 = .ok (.iload_n 2, 1) := by decide +kernel
theorem dX5_draw_49 : decode cX5_draw 49 = .ok (.iload 6, 2) := by decide +kernel
theorem dX5_draw_51 : decode cX5_draw 51 = .ok (.invokevirtual 93, 3) := by decide +kernel
theorem dX5_draw_54 : decode cX5_draw 54 = .ok (.iload_n 3, 1) := by decide +kernel
theorem dX5_draw_55 : decode cX5_draw 55 = .ok (.imul, 1) := by decide +kernel
theorem dX5_draw_56 : decode cX5_draw 56 = .ok (.bipush 100, 2) := by decide +kernel
theorem dX5_draw_58 : decode cX5_draw 58 = .ok (.idiv, 1) := by decide +kernel
theorem dX5_draw_59 : decode cX5_draw 59 = .ok (.istore 7, 2) := by decide +kernel
theorem dX5_draw_61 : decode cX5_draw 61 = .ok (.aload 4, 2) := by decide +kernel
theorem dX5_draw_63 : decode cX5_draw 63 = .ok (.iload_n 2, 1) := by decide +kernel
theorem dX5_draw_64 : decode cX5_draw 64 = .ok (.iload 6, 2) := by decide +kernel
theorem dX5_draw_66 : decode cX5_draw 66 = .ok (.iload 7, 2) := by decide +kernel
theorem dX5_draw_68 : decode cX5_draw 68 = .ok (.ineg, 1) := by decide +kernel
theorem dX5_draw_69 : decode cX5_draw 69 = .ok (.invokevirtual 79, 3) := by decide +kernel
theorem dX5_draw_72 : decode cX5_draw 72 = .ok (.aload_n 0, 1) := by decide +kernel
theorem dX5_draw_73 : decode cX5_draw 73 = .ok (.getfield 12, 3) := by decide +kernel
theorem dX5_draw_76 : decode cX5_draw 76 = .ok (.getfield 97, 3) := by decide +kernel
theorem dX5_draw_79 : decode cX5_draw 79 = .ok (.iload 6, 2) := by decide +kernel
theorem dX5_draw_81 : decode cX5_draw 81 = .ok (.dup2, 1) := by decide +kernel
theorem dX5_draw_82 : decode cX5_draw 82 = .ok (.iaload, 1) := by decide +kernel
theorem dX5_draw_83 : decode cX5_draw 83 = .ok (.iload 7, 2) := by decide +kernel
theorem dX5_draw_85 : decode cX5_draw 85 = .ok (.iadd, 1) := by decide +kernel
theorem dX5_draw_86 : decode cX5_draw 86 = .ok (.iastore, 1) := by decide +kernel
theorem dX5_draw_87 : decode cX5_draw 87 = .ok (.iload 5, 2) := by decide +kernel
theorem dX5_draw_89 : decode cX5_draw 89 = .ok (.iload 7, 2) := by decide +kernel
theorem dX5_draw_91 : decode cX5_draw 91 = .ok (.iadd, 1) := by decide +kernel
theorem dX5_draw_92 : decode cX5_draw 92 = .ok (.istore 5, 2) := by decide +kernel
theorem dX5_draw_94 : decode cX5_draw 94 = .ok (.iinc 6 1, 3) := by decide +kernel
theorem dX5_draw_97 : decode cX5_draw 97 = .ok (.goto (-57), 3) := by decide +kernel
theorem dX5_draw_100 : decode cX5_draw 100 = .ok (.iload 5, 2) := by decide +kernel
theorem dX5_draw_102 : decode cX5_draw 102 = .ok (.ireturn, 1) := by decide +kernel
set_option maxRecDepth 20000 in
theorem ggX5_decant_X5_needIndex : GoodIn wsX5_decant wsX5_needIndex := goodIn_ca (goodIn_r _ [9, 10, 11] (by decide +kernel) (by decide +kernel)) (goodIn_sub (fun _ h => List.mem_cons_of_mem _ (List.mem_append_left _ (List.mem_append_right _ h))) (by decide +kernel))
set_option maxRecDepth 20000 in
theorem gX5_decant_X5_needIndex : GoodIn wsX5_decant (va_wsS RX5 37 yX5_needIndex wsX5_needIndex) := goodIn_app (goodIn_of _ (by decide +kernel)) ggX5_decant_X5_needIndex
set_option maxRecDepth 20000 in
theorem ggX5_decant_X5_needSlice : GoodIn wsX5_decant wsX5_needSlice := goodIn_ca (goodIn_r _ [14, 6, 7, 8, 9, 10, 11] (by decide +kernel) (by decide +kernel)) (goodIn_sub (fun _ h => List.mem_cons_of_mem _ (List.mem_append_left _ (List.mem_append_right _ h))) (by decide +kernel))
set_option maxRecDepth 20000 in
theorem gX5_decant_X5_needSlice : GoodIn wsX5_decant (va_wsS RX5 68 yX5_needSlice wsX5_needSlice) := goodIn_app (goodIn_of _ (by decide +kernel)) ggX5_decant_X5_needSlice
set_option maxRecDepth 20000 in
theorem ggX5_decant_X2_allDownTo : GoodIn wsX5_decant wsX2_allDownTo := goodIn_r _ [19, 20, 21, 22, 18, 23, 24, 25, 26, 27, 28, 93] (by decide +kernel) (by decide +kernel)
set_option maxRecDepth 20000 in
theorem gX5_decant_X2_allDownTo : GoodIn wsX5_decant (wsV RX5 107 RX2 yX2_allDownTo wsX2_allDownTo) := goodIn_app (goodIn_of _ (by decide +kernel)) ggX5_decant_X2_allDownTo
set_option maxRecDepth 20000 in
theorem ggX5_decant_X5_needRoom : GoodIn wsX5_decant wsX5_needRoom := goodIn_ca (goodIn_r _ [31, 32, 33, 34, 35, 36, 18, 37, 38, 16, 17, 19, 20, 21, 22, 23, 24, 25, 26, 27, 28, 93] (by decide +kernel) (by decide +kernel)) (goodIn_sub (fun _ h => List.mem_cons_of_mem _ (List.mem_append_right _ h)) (by decide +kernel))
set_option maxRecDepth 20000 in
theorem gX5_decant_X5_needRoom : GoodIn wsX5_decant (va_wsS RX5 75 yX5_needRoom wsX5_needRoom) := goodIn_app (goodIn_of _ (by decide +kernel)) ggX5_decant_X5_needRoom
set_option maxRecDepth 20000 in
theorem ggX5_decant_X1_keep : GoodIn wsX5_decant wsX1_keep := goodIn_r _ [43, 44, 45, 46, 47, 48, 49, 50, 51, 52, 53, 54, 55, 56, 57, 58, 59, 60, 61, 62, 63, 64, 65, 66, 67, 68, 69, 70, 71, 72, 18, 73, 28, 74, 94, 95, 96, 87, 88, 89, 90, 91, 92, 97, 98, 93] (by decide +kernel) (by decide +kernel)
set_option maxRecDepth 20000 in
theorem gX5_decant_X1_keep : GoodIn wsX5_decant (wsV RX5 54 RX1 yX1_keep wsX1_keep) := goodIn_app (goodIn_of _ (by decide +kernel)) ggX5_decant_X1_keep
set_option maxRecDepth 20000 in
theorem ggX5_decant_X2_pourInto : GoodIn wsX5_decant wsX2_pourInto := goodIn_r _ [78, 24, 25, 26, 18, 27, 28, 79, 80, 81, 82, 93] (by decide +kernel) (by decide +kernel)
set_option maxRecDepth 20000 in
theorem gX5_decant_X2_pourInto : GoodIn wsX5_decant (wsV RX5 110 RX2 yX2_pourInto wsX2_pourInto) := goodIn_app (goodIn_of _ (by decide +kernel)) ggX5_decant_X2_pourInto
theorem dX5_decant_0 : decode cX5_decant 0 = .ok (.iload_n 1, 1) := by decide +kernel
theorem dX5_decant_1 : decode cX5_decant 1 = .ok (.iconst 3, 1) := by decide +kernel
theorem dX5_decant_2 : decode cX5_decant 2 = .ok (.invokestatic 37, 3) := by decide +kernel
theorem dX5_decant_5 : decode cX5_decant 5 = .ok (.iload_n 2, 1) := by decide +kernel
theorem dX5_decant_6 : decode cX5_decant 6 = .ok (.iload_n 3, 1) := by decide +kernel
theorem dX5_decant_7 : decode cX5_decant 7 = .ok (.invokestatic 68, 3) := by decide +kernel
theorem dX5_decant_10 : decode cX5_decant 10 = .ok (.iload_n 1, 1) := by decide +kernel
theorem dX5_decant_11 : decode cX5_decant 11 = .ok (.iload_n 2, 1) := by decide +kernel
theorem dX5_decant_12 : decode cX5_decant 12 = .ok (.if_icmp .ne 13, 3) := by decide +kernel
theorem dX5_decant_15 : decode cX5_decant 15 = .ok (.new 100, 3) := by decide +kernel
theorem dX5_decant_18 : decode cX5_decant 18 = .ok (.dup, 1) := by decide +kernel
theorem dX5_decant_19 : decode cX5_decant 19 = .ok (.ldc 102, 2) := by decide +kernel
theorem dX5_decant_21 : decode cX5_decant 21 = .ok (.invokespecial 104, 3) := by decide +kernel
theorem dX5_decant_24 : decode cX5_decant 24 = .ok (.athrow, 1) := by decide +kernel
theorem dX5_decant_25 : decode cX5_decant 25 = .ok (.aload_n 0, 1) := by decide +kernel
theorem dX5_decant_26 : decode cX5_decant 26 = .ok (.getfield 12, 3) := by decide +kernel
theorem dX5_decant_29 : decode cX5_decant 29 = .ok (.getfield 71, 3) := by decide +kernel
theorem dX5_decant_32 : decode cX5_decant 32 = .ok (.iload_n 1, 1) := by decide +kernel
theorem dX5_decant_33 : decode cX5_decant 33 = .ok (.aaload, 1) := by decide +kernel
theorem dX5_decant_34 : decode cX5_decant 34 = .ok (.iload_n 3, 1) := by decide +kernel
theorem dX5_decant_35 : decode cX5_decant 35 = .ok (.invokevirtual 107, 3) := by decide +kernel
theorem dX5_decant_38 : decode cX5_decant 38 = .ok (.istore 4, 2) := by decide +kernel
theorem dX5_decant_40 : decode cX5_decant 40 = .ok (.aload_n 0, 1) := by decide +kernel
theorem dX5_decant_41 : decode cX5_decant 41 = .ok (.getfield 12, 3) := by decide +kernel
theorem dX5_decant_44 : decode cX5_decant 44 = .ok (.getfield 71, 3) := by decide +kernel
theorem dX5_decant_47 : decode cX5_decant 47 = .ok (.iload_n 2, 1) := by decide +kernel
theorem dX5_decant_48 : decode cX5_decant 48 = .ok (.aaload, 1) := by decide +kernel
theorem dX5_decant_49 : decode cX5_decant 49 = .ok (.iload 4, 2) := by decide +kernel
theorem dX5_decant_51 : decode cX5_decant 51 = .ok (.invokestatic 75, 3) := by decide +kernel
theorem dX5_decant_54 : decode cX5_decant 54 = .ok (.aload_n 0, 1) := by decide +kernel
theorem dX5_decant_55 : decode cX5_decant 55 = .ok (.getfield 19, 3) := by decide +kernel
theorem dX5_decant_58 : decode cX5_decant 58 = .ok (.aload_n 0, 1) := by decide +kernel
theorem dX5_decant_59 : decode cX5_decant 59 = .ok (.getfield 12, 3) := by decide +kernel
theorem dX5_decant_62 : decode cX5_decant 62 = .ok (.invokevirtual 54, 3) := by decide +kernel
theorem dX5_decant_65 : decode cX5_decant 65 = .ok (.aload_n 0, 1) := by decide +kernel
theorem dX5_decant_66 : decode cX5_decant 66 = .ok (.getfield 12, 3) := by decide +kernel
theorem dX5_decant_69 : decode cX5_decant 69 = .ok (.getfield 71, 3) := by decide +kernel
theorem dX5_decant_72 : decode cX5_decant 72 = .ok (.iload_n 1, 1) := by decide +kernel
theorem dX5_decant_73 : decode cX5_decant 73 = .ok (.aaload, 1) := by decide +kernel
theorem dX5_decant_74 : decode cX5_decant 74 = .ok (.aload_n 0, 1) := by decide +kernel
theorem dX5_decant_75 : decode cX5_decant 75 = .ok (.getfield 12, 3) := by decide +kernel
theorem dX5_decant_78 : decode cX5_decant 78 = .ok (.getfield 71, 3) := by decide +kernel
theorem dX5_decant_81 : decode cX5_decant 81 = .ok (.iload_n 2, 1) := by decide +kernel
theorem dX5_decant_82 : decode cX5_decant 82 = .ok (.aaload, 1) := by decide +kernel
theorem dX5_decant_83 : decode cX5_decant 83 = .ok (.iload_n 3, 1) := by decide +kernel
theorem dX5_decant_84 : decode cX5_decant 84 = .ok (.invokevirtual 110, 3) := by decide +kernel
theorem dX5_decant_87 : decode cX5_decant 87 = .ok (.iload 4, 2) := by decide +kernel
theorem dX5_decant_89 : decode cX5_decant 89 = .ok (.ireturn, 1) := by decide +kernel
set_option maxRecDepth 20000 in
theorem ggX5_turn_X5_needIndex : GoodIn wsX5_turn wsX5_needIndex := goodIn_ca (goodIn_r _ [8, 9, 10] (by decide +kernel) (by decide +kernel)) (goodIn_sub (fun _ h => List.mem_cons_of_mem _ (List.mem_append_right _ h)) (by decide +kernel))
set_option maxRecDepth 20000 in
theorem gX5_turn_X5_needIndex : GoodIn wsX5_turn (va_wsS RX5 37 yX5_needIndex wsX5_needIndex) := goodIn_app (goodIn_of _ (by decide +kernel)) ggX5_turn_X5_needIndex
set_option maxRecDepth 20000 in
theorem ggX5_turn_X1_keep : GoodIn wsX5_turn wsX1_keep := goodIn_r _ [15, 16, 17, 18, 19, 20, 21, 22, 23, 24, 25, 26, 27, 28, 29, 30, 31, 32, 33, 34, 35, 36, 37, 38, 39, 40, 41, 42, 43, 44, 45, 46, 47, 48, 83, 84, 85, 77, 78, 79, 80, 81, 82, 86, 87, 88] (by decide +kernel) (by decide +kernel)
set_option maxRecDepth 20000 in
theorem gX5_turn_X1_keep : GoodIn wsX5_turn (wsV RX5 54 RX1 yX1_keep wsX1_keep) := goodIn_app (goodIn_of _ (by decide +kernel)) ggX5_turn_X1_keep
set_option maxRecDepth 20000 in
theorem ggX5_turn_X2_turnOver : GoodIn wsX5_turn wsX2_turnOver := goodIn_r _ [52, 53, 54, 55, 45, 56, 47, 57, 58, 59, 60, 88] (by decide +kernel) (by decide +kernel)
set_option maxRecDepth 20000 in
theorem gX5_turn_X2_turnOver : GoodIn wsX5_turn (wsV RX5 113 RX2 yX2_turnOver wsX2_turnOver) := goodIn_app (goodIn_of _ (by decide +kernel)) ggX5_turn_X2_turnOver
set_option maxRecDepth 20000 in
theorem ggX5_turn_X2_packedSlices : GoodIn wsX5_turn wsX2_packedSlices := goodIn_r _ [64, 65, 66, 67, 45, 68, 53, 54, 55, 56, 47, 69, 70, 71, 37, 72, 39, 88, 86, 87] (by decide +kernel) (by decide +kernel)
set_option maxRecDepth 20000 in
theorem gX5_turn_X2_packedSlices : GoodIn wsX5_turn (wsV RX5 116 RX2 yX2_packedSlices wsX2_packedSlices) := goodIn_app (goodIn_of _ (by decide +kernel)) ggX5_turn_X2_packedSlices
theorem dX5_turn_0 : decode cX5_turn 0 = .ok (.iload_n 1, 1) := by decide +kernel
theorem dX5_turn_1 : decode cX5_turn 1 = .ok (.iconst 3, 1) := by decide +kernel
theorem dX5_turn_2 : decode cX5_turn 2 = .ok (.invokestatic 37, 3) := by decide +kernel
theorem dX5_turn_5 : decode cX5_turn 5 = .ok (.aload_n 0, 1) := by decide +kernel
theorem dX5_turn_6 : decode cX5_turn 6 = .ok (.getfield 19, 3) := by decide +kernel
theorem dX5_turn_9 : decode cX5_turn 9 = .ok (.aload_n 0, 1) := by decide +kernel
theorem dX5_turn_10 : decode cX5_turn 10 = .ok (.getfield 12, 3) := by decide +kernel
theorem dX5_turn_13 : decode cX5_turn 13 = .ok (.invokevirtual 54, 3) := by decide +kernel
theorem dX5_turn_16 : decode cX5_turn 16 = .ok (.aload_n 0, 1) := by decide +kernel
theorem dX5_turn_17 : decode cX5_turn 17 = .ok (.getfield 12, 3) := by decide +kernel
theorem dX5_turn_20 : decode cX5_turn 20 = .ok (.getfield 71, 3) := by decide +kernel
theorem dX5_turn_23 : decode cX5_turn 23 = .ok (.iload_n 1, 1) := by decide +kernel
theorem dX5_turn_24 : decode cX5_turn 24 = .ok (.aaload, 1) := by decide +kernel
theorem dX5_turn_25 : decode cX5_turn 25 = .ok (.invokevirtual 113, 3) := by decide +kernel
theorem dX5_turn_28 : decode cX5_turn 28 = .ok (.aload_n 0, 1) := by decide +kernel
theorem dX5_turn_29 : decode cX5_turn 29 = .ok (.getfield 12, 3) := by decide +kernel
theorem dX5_turn_32 : decode cX5_turn 32 = .ok (.getfield 71, 3) := by decide +kernel
theorem dX5_turn_35 : decode cX5_turn 35 = .ok (.iload_n 1, 1) := by decide +kernel
theorem dX5_turn_36 : decode cX5_turn 36 = .ok (.aaload, 1) := by decide +kernel
theorem dX5_turn_37 : decode cX5_turn 37 = .ok (.aload_n 0, 1) := by decide +kernel
theorem dX5_turn_38 : decode cX5_turn 38 = .ok (.getfield 12, 3) := by decide +kernel
theorem dX5_turn_41 : decode cX5_turn 41 = .ok (.getfield 58, 3) := by decide +kernel
theorem dX5_turn_44 : decode cX5_turn 44 = .ok (.invokevirtual 116, 3) := by decide +kernel
theorem dX5_turn_47 : decode cX5_turn 47 = .ok (.ireturn, 1) := by decide +kernel
set_option maxRecDepth 20000 in
theorem ggX5_settle_X5_needRange : GoodIn wsX5_settle wsX5_needRange := goodIn_ca (goodIn_r _ [12, 13, 14] (by decide +kernel) (by decide +kernel)) (goodIn_sub (fun _ h => List.mem_cons_of_mem _ (List.mem_append_right _ h)) (by decide +kernel))
set_option maxRecDepth 20000 in
theorem gX5_settle_X5_needRange : GoodIn wsX5_settle (va_wsS RX5 50 yX5_needRange wsX5_needRange) := goodIn_app (goodIn_of _ (by decide +kernel)) ggX5_settle_X5_needRange
set_option maxRecDepth 20000 in
theorem ggX5_settle_X1_keep : GoodIn wsX5_settle wsX1_keep := goodIn_r _ [19, 20, 21, 22, 23, 24, 25, 26, 27, 28, 29, 30, 31, 32, 33, 34, 35, 36, 37, 38, 39, 40, 41, 42, 43, 44, 45, 46, 47, 48, 49, 50, 51, 52, 109, 110, 111, 103, 104, 105, 106, 107, 108, 112, 113, 114] (by decide +kernel) (by decide +kernel)
set_option maxRecDepth 20000 in
theorem gX5_settle_X1_keep : GoodIn wsX5_settle (wsV RX5 54 RX1 yX1_keep wsX1_keep) := goodIn_app (goodIn_of _ (by decide +kernel)) ggX5_settle_X1_keep
set_option maxRecDepth 20000 in
theorem ggX5_settle_X2_goOn : GoodIn wsX5_settle wsX2_goOn := goodIn_r _ [56, 57, 58, 59, 49, 60, 61, 62, 63, 64, 65, 66, 67, 68, 69, 70, 71, 72, 73, 74, 75, 76, 51, 77, 78, 79, 41, 80, 81, 43, 82, 83, 84, 85, 86, 87, 88, 89, 90, 91, 92, 45, 93, 94, 95, 96, 97, 98, 114, 112, 113] (by decide +kernel) (by decide +kernel)
set_option maxRecDepth 20000 in
theorem gX5_settle_X2_goOn : GoodIn wsX5_settle (wsV RX5 129 RX2 yX2_goOn wsX2_goOn) := goodIn_app (goodIn_of _ (by decide +kernel)) ggX5_settle_X2_goOn
theorem dX5_settle_0 : decode cX5_settle 0 = .ok (.iload_n 1, 1) := by decide +kernel
theorem dX5_settle_1 : decode cX5_settle 1 = .ok (.iconst 1, 1) := by decide +kernel
theorem dX5_settle_2 : decode cX5_settle 2 = .ok (.bipush 100, 2) := by decide +kernel
theorem dX5_settle_4 : decode cX5_settle 4 = .ok (.invokestatic 50, 3) := by decide +kernel
theorem dX5_settle_7 : decode cX5_settle 7 = .ok (.aload_n 0, 1) := by decide +kernel
theorem dX5_settle_8 : decode cX5_settle 8 = .ok (.getfield 12, 3) := by decide +kernel
theorem dX5_settle_11 : decode cX5_settle 11 = .ok (.getfield 120, 3) := by decide +kernel
theorem dX5_settle_14 : decode cX5_settle 14 = .ok (.iload_n 1, 1) := by decide +kernel
theorem dX5_settle_15 : decode cX5_settle 15 = .ok (.iadd, 1) := by decide +kernel
theorem dX5_settle_16 : decode cX5_settle 16 = .ok (.sipush 10000, 3) := by decide +kernel
theorem dX5_settle_19 : decode cX5_settle 19 = .ok (.if_icmp .le 13, 3) := by decide +kernel
theorem dX5_settle_22 : decode cX5_settle 22 = .ok (.new 124, 3) := by decide +kernel
theorem dX5_settle_25 : decode cX5_settle 25 = .ok (.dup, 1) := by decide +kernel
theorem dX5_settle_26 : decode cX5_settle 26 = .ok (.ldc 126, 2) := by decide +kernel
theorem dX5_settle_28 : decode cX5_settle 28 = .ok (.invokespecial 128, 3) := by decide +kernel
theorem dX5_settle_31 : decode cX5_settle 31 = .ok (.athrow, 1) := by decide +kernel
theorem dX5_settle_32 : decode cX5_settle 32 = .ok (.aload_n 0, 1) := by decide +kernel
theorem dX5_settle_33 : decode cX5_settle 33 = .ok (.getfield 19, 3) := by decide +kernel
theorem dX5_settle_36 : decode cX5_settle 36 = .ok (.aload_n 0, 1) := by decide +kernel
theorem dX5_settle_37 : decode cX5_settle 37 = .ok (.getfield 12, 3) := by decide +kernel
theorem dX5_settle_40 : decode cX5_settle 40 = .ok (.invokevirtual 54, 3) := by decide +kernel
theorem dX5_settle_43 : decode cX5_settle 43 = .ok (.iconst 0, 1) := by decide +kernel
theorem dX5_settle_44 : decode cX5_settle 44 = .ok (.istore_n 2, 1) := by decide +kernel
theorem dX5_settle_45 : decode cX5_settle 45 = .ok (.iconst 0, 1) := by decide +kernel
theorem dX5_settle_46 : decode cX5_settle 46 = .ok (.istore_n 3, 1) := by decide +kernel
theorem dX5_settle_47 : decode cX5_settle 47 = .ok (.iload_n 3, 1) := by decide +kernel
theorem dX5_settle_48 : decode cX5_settle 48 = .ok (.iconst 3, 1) := by decide +kernel
theorem dX5_settle_49 : decode cX5_settle 49 = .ok (.if_icmp .ge 32, 3) := by decide +kernel
theorem dX5_settle_52 : decode cX5_settle 52 = .ok (.iload_n 2, 1) := by decide +kernel
theorem dX5_settle_53 : decode cX5_settle 53 = .ok (.aload_n 0, 1) := by decide +kernel
theorem dX5_settle_54 : decode cX5_settle 54 = .ok (.getfield 12, 3) := by decide +kernel
theorem dX5_settle_57 : decode cX5_settle 57 = .ok (.getfield 71, 3) := by decide +kernel
theorem dX5_settle_60 : decode cX5_settle 60 = .ok (.iload_n 3, 1) := by decide +kernel
theorem dX5_settle_61 : decode cX5_settle 61 = .ok (.aaload, 1) := by decide +kernel
theorem dX5_settle_62 : decode cX5_settle 62 = .ok (.iload_n 1, 1) := by decide +kernel
theorem dX5_settle_63 : decode cX5_settle 63 = .ok (.aload_n 0, 1) := by decide +kernel
theorem dX5_settle_64 : decode cX5_settle 64 = .ok (.getfield 12, 3) := by decide +kernel
theorem dX5_settle_67 : decode cX5_settle 67 = .ok (.getfield 58, 3) := by decide +kernel
theorem dX5_settle_70 : decode cX5_settle 70 = .ok (.invokevirtual 129, 3) := by decide +kernel
theorem dX5_settle_73 : decode cX5_settle 73 = .ok (.iadd, 1) := by decide +kernel
theorem dX5_settle_74 : decode cX5_settle 74 = .ok (.istore_n 2, 1) := by decide +kernel
theorem dX5_settle_75 : decode cX5_settle 75 = .ok (.iinc 3 1, 3) := by decide +kernel
theorem dX5_settle_78 : decode cX5_settle 78 = .ok (.goto (-31), 3) := by decide +kernel
theorem dX5_settle_81 : decode cX5_settle 81 = .ok (.aload_n 0, 1) := by decide +kernel
theorem dX5_settle_82 : decode cX5_settle 82 = .ok (.getfield 12, 3) := by decide +kernel
theorem dX5_settle_85 : decode cX5_settle 85 = .ok (.dup, 1) := by decide +kernel
theorem dX5_settle_86 : decode cX5_settle 86 = .ok (.getfield 120, 3) := by decide +kernel
theorem dX5_settle_89 : decode cX5_settle 89 = .ok (.iload_n 1, 1) := by decide +kernel
theorem dX5_settle_90 : decode cX5_settle 90 = .ok (.iadd, 1) := by decide +kernel
theorem dX5_settle_91 : decode cX5_settle 91 = .ok (.putfield 120, 3) := by decide +kernel
theorem dX5_settle_94 : decode cX5_settle 94 = .ok (.aload_n 0, 1) := by decide +kernel
theorem dX5_settle_95 : decode cX5_settle 95 = .ok (.getfield 12, 3) := by decide +kernel
theorem dX5_settle_98 : decode cX5_settle 98 = .ok (.dup, 1) := by decide +kernel
theorem dX5_settle_99 : decode cX5_settle 99 = .ok (.getfield 133, 3) := by decide +kernel
theorem dX5_settle_102 : decode cX5_settle 102 = .ok (.iload_n 2, 1) := by decide +kernel
theorem dX5_settle_103 : decode cX5_settle 103 = .ok (.iadd, 1) := by decide +kernel
theorem dX5_settle_104 : decode cX5_settle 104 = .ok (.putfield 133, 3) := by decide +kernel
theorem dX5_settle_107 : decode cX5_settle 107 = .ok (.iload_n 2, 1) := by decide +kernel
theorem dX5_settle_108 : decode cX5_settle 108 = .ok (.ireturn, 1) := by decide +kernel
set_option maxRecDepth 20000 in
theorem ggX5_slice_X5_needSlice : GoodIn wsX5_slice wsX5_needSlice := goodIn_ca (goodIn_r _ [7, 8, 9, 6, 10, 11, 12] (by decide +kernel) (by decide +kernel)) (goodIn_sub (fun _ h => List.mem_cons_of_mem _ (List.mem_append_left _ (List.mem_append_right _ h))) (by decide +kernel))
set_option maxRecDepth 20000 in
theorem gX5_slice_X5_needSlice : GoodIn wsX5_slice (va_wsS RX5 68 yX5_needSlice wsX5_needSlice) := goodIn_app (goodIn_of _ (by decide +kernel)) ggX5_slice_X5_needSlice
set_option maxRecDepth 20000 in
theorem ggX5_slice_X5_needRange : GoodIn wsX5_slice wsX5_needRange := goodIn_ca (goodIn_r _ [15, 16, 17] (by decide +kernel) (by decide +kernel)) (goodIn_sub (fun _ h => List.mem_cons_of_mem _ (List.mem_append_right _ h)) (by decide +kernel))
set_option maxRecDepth 20000 in
theorem gX5_slice_X5_needRange : GoodIn wsX5_slice (va_wsS RX5 50 yX5_needRange wsX5_needRange) := goodIn_app (goodIn_of _ (by decide +kernel)) ggX5_slice_X5_needRange
set_option maxRecDepth 20000 in
theorem ggX5_slice_X2_sliceProperty : GoodIn wsX5_slice wsX2_sliceProperty := goodIn_r _ [22, 23, 24, 25, 21, 26, 27, 28, 29, 30, 31, 32, 33, 34, 35, 36, 37, 38, 39, 40, 41, 42, 43, 44, 45, 46, 47, 48, 49, 50, 51, 52, 53, 54, 55, 56, 57, 58, 69, 70, 71] (by decide +kernel) (by decide +kernel)
set_option maxRecDepth 20000 in
theorem gX5_slice_X2_sliceProperty : GoodIn wsX5_slice (wsV RX5 180 RX2 yX2_sliceProperty wsX2_sliceProperty) := goodIn_app (goodIn_of _ (by decide +kernel)) ggX5_slice_X2_sliceProperty
theorem dX5_slice_0 : decode cX5_slice 0 = .ok (.iload_n 1, 1) := by decide +kernel
theorem dX5_slice_1 : decode cX5_slice 1 = .ok (.iload_n 2, 1) := by decide +kernel
theorem dX5_slice_2 : decode cX5_slice 2 = .ok (.invokestatic 68, 3) := by decide +kernel
theorem dX5_slice_5 : decode cX5_slice 5 = .ok (.iload_n 3, 1) := by decide +kernel
theorem dX5_slice_6 : decode cX5_slice 6 = .ok (.iconst 0, 1) := by decide +kernel
theorem dX5_slice_7 : decode cX5_slice 7 = .ok (.bipush 9, 2) := by decide +kernel
theorem dX5_slice_9 : decode cX5_slice 9 = .ok (.invokestatic 50, 3) := by decide +kernel
theorem dX5_slice_12 : decode cX5_slice 12 = .ok (.aload_n 0, 1) := by decide +kernel
theorem dX5_slice_13 : decode cX5_slice 13 = .ok (.getfield 12, 3) := by decide +kernel
theorem dX5_slice_16 : decode cX5_slice 16 = .ok (.getfield 71, 3) := by decide +kernel
theorem dX5_slice_19 : decode cX5_slice 19 = .ok (.iload_n 1, 1) := by decide +kernel
theorem dX5_slice_20 : decode cX5_slice 20 = .ok (.aaload, 1) := by decide +kernel
theorem dX5_slice_21 : decode cX5_slice 21 = .ok (.iload_n 2, 1) := by decide +kernel
theorem dX5_slice_22 : decode cX5_slice 22 = .ok (.iload_n 3, 1) := by decide +kernel
theorem dX5_slice_23 : decode cX5_slice 23 = .ok (.aload_n 0, 1) := by decide +kernel
theorem dX5_slice_24 : decode cX5_slice 24 = .ok (.getfield 12, 3) := by decide +kernel
theorem dX5_slice_27 : decode cX5_slice 27 = .ok (.getfield 58, 3) := by decide +kernel
theorem dX5_slice_30 : decode cX5_slice 30 = .ok (.invokevirtual 180, 3) := by decide +kernel
theorem dX5_slice_33 : decode cX5_slice 33 = .ok (.ireturn, 1) := by decide +kernel
set_option maxRecDepth 20000 in
theorem ggX5_jar_X5_needIndex : GoodIn wsX5_jar wsX5_needIndex := goodIn_ca (goodIn_r _ [7, 8, 9] (by decide +kernel) (by decide +kernel)) (goodIn_sub (fun _ h => List.mem_cons_of_mem _ (List.mem_append_left _ (List.mem_append_right _ h))) (by decide +kernel))
set_option maxRecDepth 20000 in
theorem gX5_jar_X5_needIndex : GoodIn wsX5_jar (va_wsS RX5 37 yX5_needIndex wsX5_needIndex) := goodIn_app (goodIn_of _ (by decide +kernel)) ggX5_jar_X5_needIndex
set_option maxRecDepth 20000 in
theorem ggX5_jar_X5_needRange : GoodIn wsX5_jar wsX5_needRange := goodIn_ca (goodIn_r _ [12, 13, 14] (by decide +kernel) (by decide +kernel)) (goodIn_sub (fun _ h => List.mem_cons_of_mem _ (List.mem_append_right _ h)) (by decide +kernel))
set_option maxRecDepth 20000 in
theorem gX5_jar_X5_needRange : GoodIn wsX5_jar (va_wsS RX5 50 yX5_needRange wsX5_needRange) := goodIn_app (goodIn_of _ (by decide +kernel)) ggX5_jar_X5_needRange
set_option maxRecDepth 20000 in
theorem ggX5_jar_X2_property : GoodIn wsX5_jar wsX2_property := goodIn_r _ [19, 20, 21, 22, 18, 23, 24, 25, 26, 27, 28, 29, 30, 31, 32, 33, 34, 35, 36, 37, 38, 39, 40, 41, 42, 43, 44, 45, 46, 47, 48, 49, 50, 51, 52, 53, 54, 55, 56, 57, 58, 59, 60, 61, 62, 63, 64, 65, 66, 67, 68, 69, 70, 71, 72, 73, 74, 75, 76, 77, 78, 79, 80, 81, 82, 83, 84, 85, 86, 87, 88, 89, 90, 91, 92, 93, 94, 95, 96, 107, 108, 109] (by decide +kernel) (by decide +kernel)
set_option maxRecDepth 20000 in
theorem gX5_jar_X2_property : GoodIn wsX5_jar (wsV RX5 184 RX2 yX2_property wsX2_property) := goodIn_app (goodIn_of _ (by decide +kernel)) ggX5_jar_X2_property
theorem dX5_jar_0 : decode cX5_jar 0 = .ok (.iload_n 1, 1) := by decide +kernel
theorem dX5_jar_1 : decode cX5_jar 1 = .ok (.iconst 3, 1) := by decide +kernel
theorem dX5_jar_2 : decode cX5_jar 2 = .ok (.invokestatic 37, 3) := by decide +kernel
theorem dX5_jar_5 : decode cX5_jar 5 = .ok (.iload_n 2, 1) := by decide +kernel
theorem dX5_jar_6 : decode cX5_jar 6 = .ok (.iconst 0, 1) := by decide +kernel
theorem dX5_jar_7 : decode cX5_jar 7 = .ok (.bipush 9, 2) := by decide +kernel
theorem dX5_jar_9 : decode cX5_jar 9 = .ok (.invokestatic 50, 3) := by decide +kernel
theorem dX5_jar_12 : decode cX5_jar 12 = .ok (.aload_n 0, 1) := by decide +kernel
theorem dX5_jar_13 : decode cX5_jar 13 = .ok (.getfield 12, 3) := by decide +kernel
theorem dX5_jar_16 : decode cX5_jar 16 = .ok (.getfield 71, 3) := by decide +kernel
theorem dX5_jar_19 : decode cX5_jar 19 = .ok (.iload_n 1, 1) := by decide +kernel
theorem dX5_jar_20 : decode cX5_jar 20 = .ok (.aaload, 1) := by decide +kernel
theorem dX5_jar_21 : decode cX5_jar 21 = .ok (.iload_n 2, 1) := by decide +kernel
theorem dX5_jar_22 : decode cX5_jar 22 = .ok (.aload_n 0, 1) := by decide +kernel
theorem dX5_jar_23 : decode cX5_jar 23 = .ok (.getfield 12, 3) := by decide +kernel
theorem dX5_jar_26 : decode cX5_jar 26 = .ok (.getfield 58, 3) := by decide +kernel
theorem dX5_jar_29 : decode cX5_jar 29 = .ok (.invokevirtual 184, 3) := by decide +kernel
theorem dX5_jar_32 : decode cX5_jar 32 = .ok (.ireturn, 1) := by decide +kernel
set_option maxRecDepth 20000 in
theorem ggX5_grains_X5_needIndex : GoodIn wsX5_grains wsX5_needIndex := goodIn_ca (goodIn_r _ [9, 10, 11] (by decide +kernel) (by decide +kernel)) (goodIn_sub (fun _ h => List.mem_cons_of_mem _ (List.mem_append_left _ (List.mem_append_right _ h))) (by decide +kernel))
set_option maxRecDepth 20000 in
theorem gX5_grains_X5_needIndex : GoodIn wsX5_grains (va_wsS RX5 37 yX5_needIndex wsX5_needIndex) := goodIn_app (goodIn_of _ (by decide +kernel)) ggX5_grains_X5_needIndex
set_option maxRecDepth 20000 in
theorem ggX5_grains_X5_needRange : GoodIn wsX5_grains wsX5_needRange := goodIn_ca (goodIn_r _ [14, 15, 16] (by decide +kernel) (by decide +kernel)) (goodIn_sub (fun _ h => List.mem_cons_of_mem _ (List.mem_append_right _ h)) (by decide +kernel))
set_option maxRecDepth 20000 in
theorem gX5_grains_X5_needRange : GoodIn wsX5_grains (va_wsS RX5 50 yX5_needRange wsX5_needRange) := goodIn_app (goodIn_of _ (by decide +kernel)) ggX5_grains_X5_needRange
set_option maxRecDepth 20000 in
theorem ggX5_grains_X4_allOf : GoodIn wsX5_grains wsX4_allOf := goodIn_r _ [21, 22, 23, 24, 25, 26, 27, 28, 29, 30, 31, 32, 37, 38, 39, 40, 41, 42, 45] (by decide +kernel) (by decide +kernel)
set_option maxRecDepth 20000 in
theorem gX5_grains_X4_allOf : GoodIn wsX5_grains (wsV RX5 187 RX4 yX4_allOf wsX4_allOf) := goodIn_app (goodIn_of _ (by decide +kernel)) ggX5_grains_X4_allOf
theorem dX5_grains_0 : decode cX5_grains 0 = .ok (.iload_n 1, 1) := by decide +kernel
theorem dX5_grains_1 : decode cX5_grains 1 = .ok (.iconst 4, 1) := by decide +kernel
theorem dX5_grains_2 : decode cX5_grains 2 = .ok (.invokestatic 37, 3) := by decide +kernel
theorem dX5_grains_5 : decode cX5_grains 5 = .ok (.iload_n 2, 1) := by decide +kernel
theorem dX5_grains_6 : decode cX5_grains 6 = .ok (.iconst 0, 1) := by decide +kernel
theorem dX5_grains_7 : decode cX5_grains 7 = .ok (.iconst 3, 1) := by decide +kernel
theorem dX5_grains_8 : decode cX5_grains 8 = .ok (.invokestatic 50, 3) := by decide +kernel
theorem dX5_grains_11 : decode cX5_grains 11 = .ok (.iload_n 2, 1) := by decide +kernel
theorem dX5_grains_12 : decode cX5_grains 12 = .ok (.tableswitch 57 0 2 #[28, 38, 48], 28) := by decide +kernel
theorem dX5_grains_40 : decode cX5_grains 40 = .ok (.aload_n 0, 1) := by decide +kernel
theorem dX5_grains_41 : decode cX5_grains 41 = .ok (.getfield 12, 3) := by decide +kernel
theorem dX5_grains_44 : decode cX5_grains 44 = .ok (.getfield 82, 3) := by decide +kernel
theorem dX5_grains_47 : decode cX5_grains 47 = .ok (.iload_n 1, 1) := by decide +kernel
theorem dX5_grains_48 : decode cX5_grains 48 = .ok (.iaload, 1) := by decide +kernel
theorem dX5_grains_49 : decode cX5_grains 49 = .ok (.ireturn, 1) := by decide +kernel
theorem dX5_grains_50 : decode cX5_grains 50 = .ok (.aload_n 0, 1) := by decide +kernel
theorem dX5_grains_51 : decode cX5_grains 51 = .ok (.getfield 12, 3) := by decide +kernel
theorem dX5_grains_54 : decode cX5_grains 54 = .ok (.getfield 97, 3) := by decide +kernel
theorem dX5_grains_57 : decode cX5_grains 57 = .ok (.iload_n 1, 1) := by decide +kernel
theorem dX5_grains_58 : decode cX5_grains 58 = .ok (.iaload, 1) := by decide +kernel
theorem dX5_grains_59 : decode cX5_grains 59 = .ok (.ireturn, 1) := by decide +kernel
theorem dX5_grains_60 : decode cX5_grains 60 = .ok (.aload_n 0, 1) := by decide +kernel
theorem dX5_grains_61 : decode cX5_grains 61 = .ok (.getfield 12, 3) := by decide +kernel
theorem dX5_grains_64 : decode cX5_grains 64 = .ok (.iload_n 1, 1) := by decide +kernel
theorem dX5_grains_65 : decode cX5_grains 65 = .ok (.invokevirtual 187, 3) := by decide +kernel
theorem dX5_grains_68 : decode cX5_grains 68 = .ok (.ireturn, 1) := by decide +kernel
theorem dX5_grains_69 : decode cX5_grains 69 = .ok (.aload_n 0, 1) := by decide +kernel
theorem dX5_grains_70 : decode cX5_grains 70 = .ok (.getfield 12, 3) := by decide +kernel
theorem dX5_grains_73 : decode cX5_grains 73 = .ok (.getfield 58, 3) := by decide +kernel
theorem dX5_grains_76 : decode cX5_grains 76 = .ok (.getfield 65, 3) := by decide +kernel
theorem dX5_grains_79 : decode cX5_grains 79 = .ok (.iload_n 1, 1) := by decide +kernel
theorem dX5_grains_80 : decode cX5_grains 80 = .ok (.iaload, 1) := by decide +kernel
theorem dX5_grains_81 : decode cX5_grains 81 = .ok (.ireturn, 1) := by decide +kernel
set_option maxRecDepth 20000 in
theorem ggX5_count_X5_needRange : GoodIn wsX5_count wsX5_needRange := goodIn_ca (goodIn_r _ [8, 9, 10] (by decide +kernel) (by decide +kernel)) (goodIn_sub (fun _ h => List.mem_cons_of_mem _ (List.mem_append_right _ h)) (by decide +kernel))
set_option maxRecDepth 20000 in
theorem gX5_count_X5_needRange : GoodIn wsX5_count (va_wsS RX5 50 yX5_needRange wsX5_needRange) := goodIn_app (goodIn_of _ (by decide +kernel)) ggX5_count_X5_needRange
set_option maxRecDepth 20000 in
theorem ggX5_count_X4_all : GoodIn wsX5_count wsX4_all := goodIn_r _ [15, 16, 17, 18, 19, 20, 21, 22, 23, 24, 25, 26, 27, 28, 29, 30, 31, 32, 33, 34, 72, 73, 74, 75, 76, 77, 78] (by decide +kernel) (by decide +kernel)
set_option maxRecDepth 20000 in
theorem gX5_count_X4_all : GoodIn wsX5_count (wsV RX5 188 RX4 yX4_all wsX4_all) := goodIn_app (goodIn_of _ (by decide +kernel)) ggX5_count_X4_all
set_option maxRecDepth 20000 in
theorem ggX5_count_X4_packedSlices : GoodIn wsX5_count wsX4_packedSlices := goodIn_r _ [38, 16, 39, 40, 41, 42, 20, 43, 26, 27, 28, 29, 30, 31, 32, 33, 34, 44, 45, 46, 47, 48, 49, 72, 73, 74, 75, 76, 77, 78, 79, 80] (by decide +kernel) (by decide +kernel)
set_option maxRecDepth 20000 in
theorem gX5_count_X4_packedSlices : GoodIn wsX5_count (wsV RX5 189 RX4 yX4_packedSlices wsX4_packedSlices) := goodIn_app (goodIn_of _ (by decide +kernel)) ggX5_count_X4_packedSlices
set_option maxRecDepth 20000 in
theorem ggX5_count_X4_clearSlices : GoodIn wsX5_count wsX4_clearSlices := goodIn_r _ [53, 16, 39, 54, 55, 56, 20, 57, 26, 27, 28, 29, 30, 31, 32, 33, 34, 58, 59, 60, 47, 61, 49, 72, 73, 74, 75, 76, 77, 78, 79, 80] (by decide +kernel) (by decide +kernel)
set_option maxRecDepth 20000 in
theorem gX5_count_X4_clearSlices : GoodIn wsX5_count (wsV RX5 191 RX4 yX4_clearSlices wsX4_clearSlices) := goodIn_app (goodIn_of _ (by decide +kernel)) ggX5_count_X4_clearSlices
set_option maxRecDepth 20000 in
theorem ggX5_count_X1_size : GoodIn wsX5_count wsX1_size := goodIn_r _ [66, 67, 81, 82, 83] (by decide +kernel) (by decide +kernel)
set_option maxRecDepth 20000 in
theorem gX5_count_X1_size : GoodIn wsX5_count (wsV RX5 174 RX1 yX1_size wsX1_size) := goodIn_app (goodIn_of _ (by decide +kernel)) ggX5_count_X1_size
theorem dX5_count_0 : decode cX5_count 0 = .ok (.iload_n 1, 1) := by decide +kernel
theorem dX5_count_1 : decode cX5_count 1 = .ok (.iconst 0, 1) := by decide +kernel
theorem dX5_count_2 : decode cX5_count 2 = .ok (.iconst 5, 1) := by decide +kernel
theorem dX5_count_3 : decode cX5_count 3 = .ok (.invokestatic 50, 3) := by decide +kernel
theorem dX5_count_6 : decode cX5_count 6 = .ok (.iload_n 1, 1) := by decide +kernel
theorem dX5_count_7 : decode cX5_count 7 = .ok (.tableswitch 73 0 4 #[33, 41, 49, 57, 65], 33) := by decide +kernel
theorem dX5_count_40 : decode cX5_count 40 = .ok (.aload_n 0, 1) := by decide +kernel
theorem dX5_count_41 : decode cX5_count 41 = .ok (.getfield 12, 3) := by decide +kernel
theorem dX5_count_44 : decode cX5_count 44 = .ok (.getfield 120, 3) := by decide +kernel
theorem dX5_count_47 : decode cX5_count 47 = .ok (.ireturn, 1) := by decide +kernel
theorem dX5_count_48 : decode cX5_count 48 = .ok (.aload_n 0, 1) := by decide +kernel
theorem dX5_count_49 : decode cX5_count 49 = .ok (.getfield 12, 3) := by decide +kernel
theorem dX5_count_52 : decode cX5_count 52 = .ok (.invokevirtual 188, 3) := by decide +kernel
theorem dX5_count_55 : decode cX5_count 55 = .ok (.ireturn, 1) := by decide +kernel
theorem dX5_count_56 : decode cX5_count 56 = .ok (.aload_n 0, 1) := by decide +kernel
theorem dX5_count_57 : decode cX5_count 57 = .ok (.getfield 12, 3) := by decide +kernel
theorem dX5_count_60 : decode cX5_count 60 = .ok (.invokevirtual 189, 3) := by decide +kernel
theorem dX5_count_63 : decode cX5_count 63 = .ok (.ireturn, 1) := by decide +kernel
theorem dX5_count_64 : decode cX5_count 64 = .ok (.aload_n 0, 1) := by decide +kernel
theorem dX5_count_65 : decode cX5_count 65 = .ok (.getfield 12, 3) := by decide +kernel
theorem dX5_count_68 : decode cX5_count 68 = .ok (.invokevirtual 191, 3) := by decide +kernel
theorem dX5_count_71 : decode cX5_count 71 = .ok (.ireturn, 1) := by decide +kernel
theorem dX5_count_72 : decode cX5_count 72 = .ok (.aload_n 0, 1) := by decide +kernel
theorem dX5_count_73 : decode cX5_count 73 = .ok (.getfield 12, 3) := by decide +kernel
theorem dX5_count_76 : decode cX5_count 76 = .ok (.getfield 133, 3) := by decide +kernel
theorem dX5_count_79 : decode cX5_count 79 = .ok (.ireturn, 1) := by decide +kernel
theorem dX5_count_80 : decode cX5_count 80 = .ok (.aload_n 0, 1) := by decide +kernel
theorem dX5_count_81 : decode cX5_count 81 = .ok (.getfield 19, 3) := by decide +kernel
theorem dX5_count_84 : decode cX5_count 84 = .ok (.invokevirtual 174, 3) := by decide +kernel
theorem dX5_count_87 : decode cX5_count 87 = .ok (.ireturn, 1) := by decide +kernel
set_option maxRecDepth 20000 in
theorem ggX5_setting_X5_needIndex : GoodIn wsX5_setting wsX5_needIndex := goodIn_ca (goodIn_r _ [7, 8, 9] (by decide +kernel) (by decide +kernel)) (goodIn_sub (fun _ h => List.mem_cons_of_mem _ (List.mem_append_right _ h)) (by decide +kernel))
set_option maxRecDepth 20000 in
theorem gX5_setting_X5_needIndex : GoodIn wsX5_setting (va_wsS RX5 37 yX5_needIndex wsX5_needIndex) := goodIn_app (goodIn_of _ (by decide +kernel)) ggX5_setting_X5_needIndex
theorem dX5_setting_0 : decode cX5_setting 0 = .ok (.iload_n 1, 1) := by decide +kernel
theorem dX5_setting_1 : decode cX5_setting 1 = .ok (.iconst 4, 1) := by decide +kernel
theorem dX5_setting_2 : decode cX5_setting 2 = .ok (.invokestatic 37, 3) := by decide +kernel
theorem dX5_setting_5 : decode cX5_setting 5 = .ok (.aload_n 0, 1) := by decide +kernel
theorem dX5_setting_6 : decode cX5_setting 6 = .ok (.getfield 12, 3) := by decide +kernel
theorem dX5_setting_9 : decode cX5_setting 9 = .ok (.getfield 58, 3) := by decide +kernel
theorem dX5_setting_12 : decode cX5_setting 12 = .ok (.getfield 62, 3) := by decide +kernel
theorem dX5_setting_15 : decode cX5_setting 15 = .ok (.iload_n 1, 1) := by decide +kernel
theorem dX5_setting_16 : decode cX5_setting 16 = .ok (.iaload, 1) := by decide +kernel
theorem dX5_setting_17 : decode cX5_setting 17 = .ok (.ireturn, 1) := by decide +kernel
set_option maxRecDepth 20000 in
theorem ggX5_why_X5_needSlice : GoodIn wsX5_why wsX5_needSlice := goodIn_ca (goodIn_r _ [7, 8, 9, 6, 10, 11, 12] (by decide +kernel) (by decide +kernel)) (goodIn_sub (fun _ h => List.mem_cons_of_mem _ (List.mem_append_right _ h)) (by decide +kernel))
set_option maxRecDepth 20000 in
theorem gX5_why_X5_needSlice : GoodIn wsX5_why (va_wsS RX5 68 yX5_needSlice wsX5_needSlice) := goodIn_app (goodIn_of _ (by decide +kernel)) ggX5_why_X5_needSlice
set_option maxRecDepth 20000 in
theorem ggX5_why_X5_needIndex : GoodIn wsX5_why wsX5_needIndex := goodIn_ca (goodIn_r _ [10, 11, 12] (by decide +kernel) (by decide +kernel)) (goodIn_sub (fun _ h => List.mem_cons_of_mem _ (List.mem_append_right _ h)) (by decide +kernel))
set_option maxRecDepth 20000 in
theorem gX5_why_X5_needIndex : GoodIn wsX5_why (va_wsS RX5 37 yX5_needIndex wsX5_needIndex) := goodIn_app (goodIn_of _ (by decide +kernel)) ggX5_why_X5_needIndex
set_option maxRecDepth 20000 in
theorem ggX5_why_X2_reasonToStay : GoodIn wsX5_why wsX2_reasonToStay := goodIn_r _ [17, 18, 19, 20, 16, 21, 22, 23, 24, 25, 26, 27, 28, 29, 30, 31, 32, 33, 34, 35, 36, 37, 38, 39, 40, 41, 42, 43, 44, 45, 46, 47, 48, 49, 50, 61, 62, 63] (by decide +kernel) (by decide +kernel)
set_option maxRecDepth 20000 in
theorem gX5_why_X2_reasonToStay : GoodIn wsX5_why (wsV RX5 194 RX2 yX2_reasonToStay wsX2_reasonToStay) := goodIn_app (goodIn_of _ (by decide +kernel)) ggX5_why_X2_reasonToStay
theorem dX5_why_0 : decode cX5_why 0 = .ok (.iload_n 1, 1) := by decide +kernel
theorem dX5_why_1 : decode cX5_why 1 = .ok (.iload_n 2, 1) := by decide +kernel
theorem dX5_why_2 : decode cX5_why 2 = .ok (.invokestatic 68, 3) := by decide +kernel
theorem dX5_why_5 : decode cX5_why 5 = .ok (.iload_n 3, 1) := by decide +kernel
theorem dX5_why_6 : decode cX5_why 6 = .ok (.iconst 4, 1) := by decide +kernel
theorem dX5_why_7 : decode cX5_why 7 = .ok (.invokestatic 37, 3) := by decide +kernel
theorem dX5_why_10 : decode cX5_why 10 = .ok (.aload_n 0, 1) := by decide +kernel
theorem dX5_why_11 : decode cX5_why 11 = .ok (.getfield 12, 3) := by decide +kernel
theorem dX5_why_14 : decode cX5_why 14 = .ok (.getfield 71, 3) := by decide +kernel
theorem dX5_why_17 : decode cX5_why 17 = .ok (.iload_n 1, 1) := by decide +kernel
theorem dX5_why_18 : decode cX5_why 18 = .ok (.aaload, 1) := by decide +kernel
theorem dX5_why_19 : decode cX5_why 19 = .ok (.iload_n 2, 1) := by decide +kernel
theorem dX5_why_20 : decode cX5_why 20 = .ok (.iload_n 3, 1) := by decide +kernel
theorem dX5_why_21 : decode cX5_why 21 = .ok (.aload_n 0, 1) := by decide +kernel
theorem dX5_why_22 : decode cX5_why 22 = .ok (.getfield 12, 3) := by decide +kernel
theorem dX5_why_25 : decode cX5_why 25 = .ok (.getfield 58, 3) := by decide +kernel
theorem dX5_why_28 : decode cX5_why 28 = .ok (.invokevirtual 194, 3) := by decide +kernel
theorem dX5_why_31 : decode cX5_why 31 = .ok (.ireturn, 1) := by decide +kernel
set_option maxRecDepth 20000 in
theorem ggX5_ifSettled_X5_needIndex : GoodIn wsX5_ifSettled wsX5_needIndex := goodIn_ca (goodIn_r _ [8, 9, 10] (by decide +kernel) (by decide +kernel)) (goodIn_sub (fun _ h => List.mem_cons_of_mem _ (List.mem_append_left _ (List.mem_append_right _ h))) (by decide +kernel))
set_option maxRecDepth 20000 in
theorem gX5_ifSettled_X5_needIndex : GoodIn wsX5_ifSettled (va_wsS RX5 37 yX5_needIndex wsX5_needIndex) := goodIn_app (goodIn_of _ (by decide +kernel)) ggX5_ifSettled_X5_needIndex
set_option maxRecDepth 20000 in
theorem ggX5_ifSettled_X5_needRange : GoodIn wsX5_ifSettled wsX5_needRange := goodIn_ca (goodIn_r _ [13, 14, 15] (by decide +kernel) (by decide +kernel)) (goodIn_sub (fun _ h => List.mem_cons_of_mem _ (List.mem_append_right _ h)) (by decide +kernel))
set_option maxRecDepth 20000 in
theorem gX5_ifSettled_X5_needRange : GoodIn wsX5_ifSettled (va_wsS RX5 50 yX5_needRange wsX5_needRange) := goodIn_app (goodIn_of _ (by decide +kernel)) ggX5_ifSettled_X5_needRange
set_option maxRecDepth 20000 in
theorem ggX5_ifSettled_X2_copyFrom : GoodIn wsX5_ifSettled wsX2_copyFrom := goodIn_r _ [20, 21, 22, 23, 24, 25, 133] (by decide +kernel) (by decide +kernel)
set_option maxRecDepth 20000 in
theorem gX5_ifSettled_X2_copyFrom : GoodIn wsX5_ifSettled (wsV RX5 197 RX2 yX2_copyFrom wsX2_copyFrom) := goodIn_app (goodIn_of _ (by decide +kernel)) ggX5_ifSettled_X2_copyFrom
set_option maxRecDepth 20000 in
theorem ggX5_ifSettled_X2_goOn : GoodIn wsX5_ifSettled wsX2_goOn := goodIn_r _ [29, 30, 31, 32, 19, 33, 34, 35, 36, 37, 38, 39, 40, 41, 42, 43, 44, 45, 46, 47, 48, 49, 21, 50, 51, 52, 53, 54, 55, 56, 57, 58, 59, 60, 61, 62, 63, 64, 65, 66, 67, 68, 69, 70, 71, 72, 73, 74, 133, 134, 135] (by decide +kernel) (by decide +kernel)
set_option maxRecDepth 20000 in
theorem gX5_ifSettled_X2_goOn : GoodIn wsX5_ifSettled (wsV RX5 129 RX2 yX2_goOn wsX2_goOn) := goodIn_app (goodIn_of _ (by decide +kernel)) ggX5_ifSettled_X2_goOn
set_option maxRecDepth 20000 in
theorem ggX5_ifSettled_X2_property : GoodIn wsX5_ifSettled wsX2_property := goodIn_r _ [78, 79, 80, 81, 19, 82, 83, 84, 85, 86, 42, 43, 44, 45, 46, 47, 48, 49, 21, 87, 88, 89, 90, 91, 92, 93, 53, 94, 56, 95, 96, 97, 98, 99, 100, 101, 102, 103, 104, 105, 106, 107, 108, 109, 110, 111, 112, 113, 114, 115, 116, 117, 118, 60, 61, 62, 63, 57, 58, 40, 59, 50, 51, 52, 54, 55, 64, 65, 66, 67, 68, 69, 70, 39, 41, 119, 120, 121, 122, 133, 134, 135] (by decide +kernel) (by decide +kernel)
set_option maxRecDepth 20000 in
theorem gX5_ifSettled_X2_property : GoodIn wsX5_ifSettled (wsV RX5 184 RX2 yX2_property wsX2_property) := goodIn_app (goodIn_of _ (by decide +kernel)) ggX5_ifSettled_X2_property
theorem dX5_ifSettled_0 : decode cX5_ifSettled 0 = .ok (.iload_n 1, 1) := by decide +kernel
theorem dX5_ifSettled_1 : decode cX5_ifSettled 1 = .ok (.iconst 3, 1) := by decide +kernel
theorem dX5_ifSettled_2 : decode cX5_ifSettled 2 = .ok (.invokestatic 37, 3) := by decide +kernel
theorem dX5_ifSettled_5 : decode cX5_ifSettled 5 = .ok (.iload_n 2, 1) := by decide +kernel
theorem dX5_ifSettled_6 : decode cX5_ifSettled 6 = .ok (.iconst 1, 1) := by decide +kernel
theorem dX5_ifSettled_7 : decode cX5_ifSettled 7 = .ok (.bipush 100, 2) := by decide +kernel
theorem dX5_ifSettled_9 : decode cX5_ifSettled 9 = .ok (.invokestatic 50, 3) := by decide +kernel
theorem dX5_ifSettled_12 : decode cX5_ifSettled 12 = .ok (.iload_n 3, 1) := by decide +kernel
theorem dX5_ifSettled_13 : decode cX5_ifSettled 13 = .ok (.iconst 0, 1) := by decide +kernel
theorem dX5_ifSettled_14 : decode cX5_ifSettled 14 = .ok (.bipush 8, 2) := by decide +kernel
theorem dX5_ifSettled_16 : decode cX5_ifSettled 16 = .ok (.invokestatic 50, 3) := by decide +kernel
theorem dX5_ifSettled_19 : decode cX5_ifSettled 19 = .ok (.aload_n 0, 1) := by decide +kernel
theorem dX5_ifSettled_20 : decode cX5_ifSettled 20 = .ok (.getfield 33, 3) := by decide +kernel
theorem dX5_ifSettled_23 : decode cX5_ifSettled 23 = .ok (.aload_n 0, 1) := by decide +kernel
theorem dX5_ifSettled_24 : decode cX5_ifSettled 24 = .ok (.getfield 12, 3) := by decide +kernel
theorem dX5_ifSettled_27 : decode cX5_ifSettled 27 = .ok (.getfield 71, 3) := by decide +kernel
theorem dX5_ifSettled_30 : decode cX5_ifSettled 30 = .ok (.iload_n 1, 1) := by decide +kernel
theorem dX5_ifSettled_31 : decode cX5_ifSettled 31 = .ok (.aaload, 1) := by decide +kernel
theorem dX5_ifSettled_32 : decode cX5_ifSettled 32 = .ok (.invokevirtual 197, 3) := by decide +kernel
theorem dX5_ifSettled_35 : decode cX5_ifSettled 35 = .ok (.aload_n 0, 1) := by decide +kernel
theorem dX5_ifSettled_36 : decode cX5_ifSettled 36 = .ok (.getfield 33, 3) := by decide +kernel
theorem dX5_ifSettled_39 : decode cX5_ifSettled 39 = .ok (.iload_n 2, 1) := by decide +kernel
theorem dX5_ifSettled_40 : decode cX5_ifSettled 40 = .ok (.aload_n 0, 1) := by decide +kernel
theorem dX5_ifSettled_41 : decode cX5_ifSettled 41 = .ok (.getfield 12, 3) := by decide +kernel
theorem dX5_ifSettled_44 : decode cX5_ifSettled 44 = .ok (.getfield 58, 3) := by decide +kernel
theorem dX5_ifSettled_47 : decode cX5_ifSettled 47 = .ok (.invokevirtual 129, 3) := by decide +kernel
theorem dX5_ifSettled_50 : decode cX5_ifSettled 50 = .ok (.pop, 1) := by decide +kernel
theorem dX5_ifSettled_51 : decode cX5_ifSettled 51 = .ok (.aload_n 0, 1) := by decide +kernel
theorem dX5_ifSettled_52 : decode cX5_ifSettled 52 = .ok (.getfield 33, 3) := by decide +kernel
theorem dX5_ifSettled_55 : decode cX5_ifSettled 55 = .ok (.iload_n 3, 1) := by decide +kernel
theorem dX5_ifSettled_56 : decode cX5_ifSettled 56 = .ok (.aload_n 0, 1) := by decide +kernel
theorem dX5_ifSettled_57 : decode cX5_ifSettled 57 = .ok (.getfield 12, 3) := by decide +kernel
theorem dX5_ifSettled_60 : decode cX5_ifSettled 60 = .ok (.getfield 58, 3) := by decide +kernel
theorem dX5_ifSettled_63 : decode cX5_ifSettled 63 = .ok (.invokevirtual 184, 3) := by decide +kernel
theorem dX5_ifSettled_66 : decode cX5_ifSettled 66 = .ok (.ireturn, 1) := by decide +kernel
set_option maxRecDepth 20000 in
theorem ggX5_clearIn_X5_needIndex : GoodIn wsX5_clearIn wsX5_needIndex := goodIn_ca (goodIn_r _ [8, 9, 10] (by decide +kernel) (by decide +kernel)) (goodIn_sub (fun _ h => List.mem_cons_of_mem _ (List.mem_append_left _ (List.mem_append_right _ h))) (by decide +kernel))
set_option maxRecDepth 20000 in
theorem gX5_clearIn_X5_needIndex : GoodIn wsX5_clearIn (va_wsS RX5 37 yX5_needIndex wsX5_needIndex) := goodIn_app (goodIn_of _ (by decide +kernel)) ggX5_clearIn_X5_needIndex
set_option maxRecDepth 20000 in
theorem ggX5_clearIn_X5_needRange : GoodIn wsX5_clearIn wsX5_needRange := goodIn_ca (goodIn_r _ [13, 14, 15] (by decide +kernel) (by decide +kernel)) (goodIn_sub (fun _ h => List.mem_cons_of_mem _ (List.mem_append_right _ h)) (by decide +kernel))
set_option maxRecDepth 20000 in
theorem gX5_clearIn_X5_needRange : GoodIn wsX5_clearIn (va_wsS RX5 50 yX5_needRange wsX5_needRange) := goodIn_app (goodIn_of _ (by decide +kernel)) ggX5_clearIn_X5_needRange
set_option maxRecDepth 20000 in
theorem ggX5_clearIn_X2_copyFrom : GoodIn wsX5_clearIn wsX2_copyFrom := goodIn_r _ [20, 21, 22, 23, 24, 25, 89] (by decide +kernel) (by decide +kernel)
set_option maxRecDepth 20000 in
theorem gX5_clearIn_X2_copyFrom : GoodIn wsX5_clearIn (wsV RX5 197 RX2 yX2_copyFrom wsX2_copyFrom) := goodIn_app (goodIn_of _ (by decide +kernel)) ggX5_clearIn_X2_copyFrom
set_option maxRecDepth 20000 in
theorem ggX5_clearIn_X2_clearWater : GoodIn wsX5_clearIn wsX2_clearWater := goodIn_r _ [29, 30, 31, 32, 19, 33, 34, 35, 36, 37, 21, 38, 39, 40, 41, 42, 43, 89, 90, 91] (by decide +kernel) (by decide +kernel)
set_option maxRecDepth 20000 in
theorem gX5_clearIn_X2_clearWater : GoodIn wsX5_clearIn (wsV RX5 200 RX2 yX2_clearWater wsX2_clearWater) := goodIn_app (goodIn_of _ (by decide +kernel)) ggX5_clearIn_X2_clearWater
set_option maxRecDepth 20000 in
theorem ggX5_clearIn_X2_goOneStep : GoodIn wsX5_clearIn wsX2_goOneStep := goodIn_r _ [47, 48, 49, 50, 19, 51, 52, 53, 54, 55, 30, 31, 32, 33, 34, 35, 36, 37, 21, 56, 57, 58, 41, 59, 60, 43, 61, 62, 63, 64, 65, 66, 67, 68, 69, 70, 71, 72, 73, 74, 75, 76, 77, 78, 89, 90, 91] (by decide +kernel) (by decide +kernel)
set_option maxRecDepth 20000 in
theorem gX5_clearIn_X2_goOneStep : GoodIn wsX5_clearIn (wsV RX5 203 RX2 yX2_goOneStep wsX2_goOneStep) := goodIn_app (goodIn_of _ (by decide +kernel)) ggX5_clearIn_X2_goOneStep
theorem dX5_clearIn_0 : decode cX5_clearIn 0 = .ok (.iload_n 1, 1) := by decide +kernel
theorem dX5_clearIn_1 : decode cX5_clearIn 1 = .ok (.iconst 3, 1) := by decide +kernel
theorem dX5_clearIn_2 : decode cX5_clearIn 2 = .ok (.invokestatic 37, 3) := by decide +kernel
theorem dX5_clearIn_5 : decode cX5_clearIn 5 = .ok (.iload_n 2, 1) := by decide +kernel
theorem dX5_clearIn_6 : decode cX5_clearIn 6 = .ok (.iconst 1, 1) := by decide +kernel
theorem dX5_clearIn_7 : decode cX5_clearIn 7 = .ok (.bipush 12, 2) := by decide +kernel
theorem dX5_clearIn_9 : decode cX5_clearIn 9 = .ok (.invokestatic 50, 3) := by decide +kernel
theorem dX5_clearIn_12 : decode cX5_clearIn 12 = .ok (.aload_n 0, 1) := by decide +kernel
theorem dX5_clearIn_13 : decode cX5_clearIn 13 = .ok (.getfield 33, 3) := by decide +kernel
theorem dX5_clearIn_16 : decode cX5_clearIn 16 = .ok (.aload_n 0, 1) := by decide +kernel
theorem dX5_clearIn_17 : decode cX5_clearIn 17 = .ok (.getfield 12, 3) := by decide +kernel
theorem dX5_clearIn_20 : decode cX5_clearIn 20 = .ok (.getfield 71, 3) := by decide +kernel
theorem dX5_clearIn_23 : decode cX5_clearIn 23 = .ok (.iload_n 1, 1) := by decide +kernel
theorem dX5_clearIn_24 : decode cX5_clearIn 24 = .ok (.aaload, 1) := by decide +kernel
theorem dX5_clearIn_25 : decode cX5_clearIn 25 = .ok (.invokevirtual 197, 3) := by decide +kernel
theorem dX5_clearIn_28 : decode cX5_clearIn 28 = .ok (.iconst 0, 1) := by decide +kernel
theorem dX5_clearIn_29 : decode cX5_clearIn 29 = .ok (.istore_n 3, 1) := by decide +kernel
theorem dX5_clearIn_30 : decode cX5_clearIn 30 = .ok (.iload_n 3, 1) := by decide +kernel
theorem dX5_clearIn_31 : decode cX5_clearIn 31 = .ok (.sipush 300, 3) := by decide +kernel
theorem dX5_clearIn_34 : decode cX5_clearIn 34 = .ok (.if_icmp .gt 48, 3) := by decide +kernel
theorem dX5_clearIn_37 : decode cX5_clearIn 37 = .ok (.aload_n 0, 1) := by decide +kernel
theorem dX5_clearIn_38 : decode cX5_clearIn 38 = .ok (.getfield 33, 3) := by decide +kernel
theorem dX5_clearIn_41 : decode cX5_clearIn 41 = .ok (.aload_n 0, 1) := by decide +kernel
theorem dX5_clearIn_42 : decode cX5_clearIn 42 = .ok (.getfield 12, 3) := by decide +kernel
theorem dX5_clearIn_45 : decode cX5_clearIn 45 = .ok (.getfield 58, 3) := by decide +kernel
theorem dX5_clearIn_48 : decode cX5_clearIn 48 = .ok (.invokevirtual 200, 3) := by decide +kernel
theorem dX5_clearIn_51 : decode cX5_clearIn 51 = .ok (.iload_n 2, 1) := by decide +kernel
theorem dX5_clearIn_52 : decode cX5_clearIn 52 = .ok (.if_icmp .lt 5, 3) := by decide +kernel
theorem dX5_clearIn_55 : decode cX5_clearIn 55 = .ok (.iload_n 3, 1) := by decide +kernel
theorem dX5_clearIn_56 : decode cX5_clearIn 56 = .ok (.ireturn, 1) := by decide +kernel
theorem dX5_clearIn_57 : decode cX5_clearIn 57 = .ok (.aload_n 0, 1) := by decide +kernel
theorem dX5_clearIn_58 : decode cX5_clearIn 58 = .ok (.getfield 33, 3) := by decide +kernel
theorem dX5_clearIn_61 : decode cX5_clearIn 61 = .ok (.aload_n 0, 1) := by decide +kernel
theorem dX5_clearIn_62 : decode cX5_clearIn 62 = .ok (.getfield 12, 3) := by decide +kernel
theorem dX5_clearIn_65 : decode cX5_clearIn 65 = .ok (.getfield 58, 3) := by decide +kernel
theorem dX5_clearIn_68 : decode cX5_clearIn 68 = .ok (.invokevirtual 203, 3) := by decide +kernel
theorem dX5_clearIn_71 : decode cX5_clearIn 71 = .ok (.ifCond .ne 5, 3) := by decide +kernel
theorem dX5_clearIn_74 : decode cX5_clearIn 74 = .ok (.iconst (-1), 1) := by decide +kernel
theorem dX5_clearIn_75 : decode cX5_clearIn 75 = .ok (.ireturn, 1) := by decide +kernel
theorem dX5_clearIn_76 : decode cX5_clearIn 76 = .ok (.iinc 3 1, 3) := by decide +kernel
theorem dX5_clearIn_79 : decode cX5_clearIn 79 = .ok (.goto (-49), 3) := by decide +kernel
theorem dX5_clearIn_82 : decode cX5_clearIn 82 = .ok (.iconst (-1), 1) := by decide +kernel
theorem dX5_clearIn_83 : decode cX5_clearIn 83 = .ok (.ireturn, 1) := by decide +kernel
set_option maxRecDepth 20000 in
theorem ggX5_restIn_X5_needIndex : GoodIn wsX5_restIn wsX5_needIndex := goodIn_ca (goodIn_r _ [8, 9, 10] (by decide +kernel) (by decide +kernel)) (goodIn_sub (fun _ h => List.mem_cons_of_mem _ (List.mem_append_right _ h)) (by decide +kernel))
set_option maxRecDepth 20000 in
theorem gX5_restIn_X5_needIndex : GoodIn wsX5_restIn (va_wsS RX5 37 yX5_needIndex wsX5_needIndex) := goodIn_app (goodIn_of _ (by decide +kernel)) ggX5_restIn_X5_needIndex
set_option maxRecDepth 20000 in
theorem ggX5_restIn_X2_copyFrom : GoodIn wsX5_restIn wsX2_copyFrom := goodIn_r _ [15, 16, 17, 18, 19, 20, 76] (by decide +kernel) (by decide +kernel)
set_option maxRecDepth 20000 in
theorem gX5_restIn_X2_copyFrom : GoodIn wsX5_restIn (wsV RX5 197 RX2 yX2_copyFrom wsX2_copyFrom) := goodIn_app (goodIn_of _ (by decide +kernel)) ggX5_restIn_X2_copyFrom
set_option maxRecDepth 20000 in
theorem ggX5_restIn_X2_goOneStep : GoodIn wsX5_restIn wsX2_goOneStep := goodIn_r _ [24, 25, 26, 27, 14, 28, 29, 30, 31, 32, 33, 34, 35, 36, 37, 38, 39, 40, 16, 41, 42, 43, 44, 45, 46, 47, 48, 49, 50, 51, 52, 53, 54, 55, 56, 57, 58, 59, 60, 61, 62, 63, 64, 65, 76, 77, 78] (by decide +kernel) (by decide +kernel)
set_option maxRecDepth 20000 in
theorem gX5_restIn_X2_goOneStep : GoodIn wsX5_restIn (wsV RX5 203 RX2 yX2_goOneStep wsX2_goOneStep) := goodIn_app (goodIn_of _ (by decide +kernel)) ggX5_restIn_X2_goOneStep
theorem dX5_restIn_0 : decode cX5_restIn 0 = .ok (.iload_n 1, 1) := by decide +kernel
theorem dX5_restIn_1 : decode cX5_restIn 1 = .ok (.iconst 3, 1) := by decide +kernel
theorem dX5_restIn_2 : decode cX5_restIn 2 = .ok (.invokestatic 37, 3) := by decide +kernel
theorem dX5_restIn_5 : decode cX5_restIn 5 = .ok (.aload_n 0, 1) := by decide +kernel
theorem dX5_restIn_6 : decode cX5_restIn 6 = .ok (.getfield 33, 3) := by decide +kernel
theorem dX5_restIn_9 : decode cX5_restIn 9 = .ok (.aload_n 0, 1) := by decide +kernel
theorem dX5_restIn_10 : decode cX5_restIn 10 = .ok (.getfield 12, 3) := by decide +kernel
theorem dX5_restIn_13 : decode cX5_restIn 13 = .ok (.getfield 71, 3) := by decide +kernel
theorem dX5_restIn_16 : decode cX5_restIn 16 = .ok (.iload_n 1, 1) := by decide +kernel
theorem dX5_restIn_17 : decode cX5_restIn 17 = .ok (.aaload, 1) := by decide +kernel
theorem dX5_restIn_18 : decode cX5_restIn 18 = .ok (.invokevirtual 197, 3) := by decide +kernel
theorem dX5_restIn_21 : decode cX5_restIn 21 = .ok (.iconst 0, 1) := by decide +kernel
theorem dX5_restIn_22 : decode cX5_restIn 22 = .ok (.istore_n 2, 1) := by decide +kernel
theorem dX5_restIn_23 : decode cX5_restIn 23 = .ok (.iload_n 2, 1) := by decide +kernel
theorem dX5_restIn_24 : decode cX5_restIn 24 = .ok (.sipush 600, 3) := by decide +kernel
theorem dX5_restIn_27 : decode cX5_restIn 27 = .ok (.if_icmp .gt 28, 3) := by decide +kernel
theorem dX5_restIn_30 : decode cX5_restIn 30 = .ok (.aload_n 0, 1) := by decide +kernel
theorem dX5_restIn_31 : decode cX5_restIn 31 = .ok (.getfield 33, 3) := by decide +kernel
theorem dX5_restIn_34 : decode cX5_restIn 34 = .ok (.aload_n 0, 1) := by decide +kernel
theorem dX5_restIn_35 : decode cX5_restIn 35 = .ok (.getfield 12, 3) := by decide +kernel
theorem dX5_restIn_38 : decode cX5_restIn 38 = .ok (.getfield 58, 3) := by decide +kernel
theorem dX5_restIn_41 : decode cX5_restIn 41 = .ok (.invokevirtual 203, 3) := by decide +kernel
theorem dX5_restIn_44 : decode cX5_restIn 44 = .ok (.ifCond .ne 5, 3) := by decide +kernel
theorem dX5_restIn_47 : decode cX5_restIn 47 = .ok (.iload_n 2, 1) := by decide +kernel
theorem dX5_restIn_48 : decode cX5_restIn 48 = .ok (.ireturn, 1) := by decide +kernel
theorem dX5_restIn_49 : decode cX5_restIn 49 = .ok (.iinc 2 1, 3) := by decide +kernel
theorem dX5_restIn_52 : decode cX5_restIn 52 = .ok (.goto (-29), 3) := by decide +kernel
theorem dX5_restIn_55 : decode cX5_restIn 55 = .ok (.iconst (-1), 1) := by decide +kernel
theorem dX5_restIn_56 : decode cX5_restIn 56 = .ok (.ireturn, 1) := by decide +kernel
set_option maxRecDepth 20000 in
theorem ggX5_purest_X5_needIndex : GoodIn wsX5_purest wsX5_needIndex := goodIn_ca (goodIn_r _ [6, 7, 8] (by decide +kernel) (by decide +kernel)) (goodIn_sub (fun _ h => List.mem_cons_of_mem _ (List.mem_append_right _ h)) (by decide +kernel))
set_option maxRecDepth 20000 in
theorem gX5_purest_X5_needIndex : GoodIn wsX5_purest (va_wsS RX5 37 yX5_needIndex wsX5_needIndex) := goodIn_app (goodIn_of _ (by decide +kernel)) ggX5_purest_X5_needIndex
set_option maxRecDepth 20000 in
theorem ggX5_purest_X2_purestSlice : GoodIn wsX5_purest wsX2_purestSlice := goodIn_r _ [13, 14, 15, 16, 12, 17, 18, 19, 20, 21, 22, 33] (by decide +kernel) (by decide +kernel)
set_option maxRecDepth 20000 in
theorem gX5_purest_X2_purestSlice : GoodIn wsX5_purest (wsV RX5 206 RX2 yX2_purestSlice wsX2_purestSlice) := goodIn_app (goodIn_of _ (by decide +kernel)) ggX5_purest_X2_purestSlice
theorem dX5_purest_0 : decode cX5_purest 0 = .ok (.iload_n 1, 1) := by decide +kernel
theorem dX5_purest_1 : decode cX5_purest 1 = .ok (.iconst 3, 1) := by decide +kernel
theorem dX5_purest_2 : decode cX5_purest 2 = .ok (.invokestatic 37, 3) := by decide +kernel
theorem dX5_purest_5 : decode cX5_purest 5 = .ok (.iload_n 2, 1) := by decide +kernel
theorem dX5_purest_6 : decode cX5_purest 6 = .ok (.iconst 4, 1) := by decide +kernel
theorem dX5_purest_7 : decode cX5_purest 7 = .ok (.invokestatic 37, 3) := by decide +kernel
theorem dX5_purest_10 : decode cX5_purest 10 = .ok (.aload_n 0, 1) := by decide +kernel
theorem dX5_purest_11 : decode cX5_purest 11 = .ok (.getfield 12, 3) := by decide +kernel
theorem dX5_purest_14 : decode cX5_purest 14 = .ok (.getfield 71, 3) := by decide +kernel
theorem dX5_purest_17 : decode cX5_purest 17 = .ok (.iload_n 1, 1) := by decide +kernel
theorem dX5_purest_18 : decode cX5_purest 18 = .ok (.aaload, 1) := by decide +kernel
theorem dX5_purest_19 : decode cX5_purest 19 = .ok (.iload_n 2, 1) := by decide +kernel
theorem dX5_purest_20 : decode cX5_purest 20 = .ok (.invokevirtual 206, 3) := by decide +kernel
theorem dX5_purest_23 : decode cX5_purest 23 = .ok (.ireturn, 1) := by decide +kernel
set_option maxRecDepth 20000 in
theorem ggX5_meanDepth_X5_needIndex : GoodIn wsX5_meanDepth wsX5_needIndex := goodIn_ca (goodIn_r _ [6, 7, 8] (by decide +kernel) (by decide +kernel)) (goodIn_sub (fun _ h => List.mem_cons_of_mem _ (List.mem_append_right _ h)) (by decide +kernel))
set_option maxRecDepth 20000 in
theorem gX5_meanDepth_X5_needIndex : GoodIn wsX5_meanDepth (va_wsS RX5 37 yX5_needIndex wsX5_needIndex) := goodIn_app (goodIn_of _ (by decide +kernel)) ggX5_meanDepth_X5_needIndex
set_option maxRecDepth 20000 in
theorem ggX5_meanDepth_X2_all : GoodIn wsX5_meanDepth wsX2_all := goodIn_r _ [13, 14, 15, 16, 12, 17, 18, 19, 20, 21, 22, 23, 24, 25, 26, 41] (by decide +kernel) (by decide +kernel)
set_option maxRecDepth 20000 in
theorem gX5_meanDepth_X2_all : GoodIn wsX5_meanDepth (wsV RX5 168 RX2 yX2_all wsX2_all) := goodIn_app (goodIn_of _ (by decide +kernel)) ggX5_meanDepth_X2_all
set_option maxRecDepth 20000 in
theorem ggX5_meanDepth_X2_sumOfDepths : GoodIn wsX5_meanDepth wsX2_sumOfDepths := goodIn_r _ [30, 18, 19, 20, 12, 21, 22, 23, 24, 25, 26, 41] (by decide +kernel) (by decide +kernel)
set_option maxRecDepth 20000 in
theorem gX5_meanDepth_X2_sumOfDepths : GoodIn wsX5_meanDepth (wsV RX5 209 RX2 yX2_sumOfDepths wsX2_sumOfDepths) := goodIn_app (goodIn_of _ (by decide +kernel)) ggX5_meanDepth_X2_sumOfDepths
theorem dX5_meanDepth_0 : decode cX5_meanDepth 0 = .ok (.iload_n 1, 1) := by decide +kernel
theorem dX5_meanDepth_1 : decode cX5_meanDepth 1 = .ok (.iconst 3, 1) := by decide +kernel
theorem dX5_meanDepth_2 : decode cX5_meanDepth 2 = .ok (.invokestatic 37, 3) := by decide +kernel
theorem dX5_meanDepth_5 : decode cX5_meanDepth 5 = .ok (.aload_n 0, 1) := by decide +kernel
theorem dX5_meanDepth_6 : decode cX5_meanDepth 6 = .ok (.getfield 12, 3) := by decide +kernel
theorem dX5_meanDepth_9 : decode cX5_meanDepth 9 = .ok (.getfield 71, 3) := by decide +kernel
theorem dX5_meanDepth_12 : decode cX5_meanDepth 12 = .ok (.iload_n 1, 1) := by decide +kernel
theorem dX5_meanDepth_13 : decode cX5_meanDepth 13 = .ok (.aaload, 1) := by decide +kernel
theorem dX5_meanDepth_14 : decode cX5_meanDepth 14 = .ok (.invokevirtual 168, 3) := by decide +kernel
theorem dX5_meanDepth_17 : decode cX5_meanDepth 17 = .ok (.istore_n 2, 1) := by decide +kernel
theorem dX5_meanDepth_18 : decode cX5_meanDepth 18 = .ok (.iload_n 2, 1) := by decide +kernel
theorem dX5_meanDepth_19 : decode cX5_meanDepth 19 = .ok (.ifCond .ne 7, 3) := by decide +kernel
theorem dX5_meanDepth_22 : decode cX5_meanDepth 22 = .ok (.dconst 0, 1) := by decide +kernel
theorem dX5_meanDepth_23 : decode cX5_meanDepth 23 = .ok (.goto 19, 3) := by decide +kernel
theorem dX5_meanDepth_26 : decode cX5_meanDepth 26 = .ok (.aload_n 0, 1) := by decide +kernel
theorem dX5_meanDepth_27 : decode cX5_meanDepth 27 = .ok (.getfield 12, 3) := by decide +kernel
theorem dX5_meanDepth_30 : decode cX5_meanDepth 30 = .ok (.getfield 71, 3) := by decide +kernel
theorem dX5_meanDepth_33 : decode cX5_meanDepth 33 = .ok (.iload_n 1, 1) := by decide +kernel
theorem dX5_meanDepth_34 : decode cX5_meanDepth 34 = .ok (.aaload, 1) := by decide +kernel
theorem dX5_meanDepth_35 : decode cX5_meanDepth 35 = .ok (.invokevirtual 209, 3) := by decide +kernel
theorem dX5_meanDepth_38 : decode cX5_meanDepth 38 = .ok (.i2d, 1) := by decide +kernel
theorem dX5_meanDepth_39 : decode cX5_meanDepth 39 = .ok (.iload_n 2, 1) := by decide +kernel
theorem dX5_meanDepth_40 : decode cX5_meanDepth 40 = .ok (.i2d, 1) := by decide +kernel
theorem dX5_meanDepth_41 : decode cX5_meanDepth 41 = .ok (.ddiv, 1) := by decide +kernel
theorem dX5_meanDepth_42 : decode cX5_meanDepth 42 = .ok (.dreturn, 1) := by decide +kernel
theorem dX5_needIndex_0 : decode cX5_needIndex 0 = .ok (.iload_n 0, 1) := by decide +kernel
theorem dX5_needIndex_1 : decode cX5_needIndex 1 = .ok (.ifCond .lt 8, 3) := by decide +kernel
theorem dX5_needIndex_4 : decode cX5_needIndex 4 = .ok (.iload_n 0, 1) := by decide +kernel
theorem dX5_needIndex_5 : decode cX5_needIndex 5 = .ok (.iload_n 1, 1) := by decide +kernel
theorem dX5_needIndex_6 : decode cX5_needIndex 6 = .ok (.if_icmp .lt 13, 3) := by decide +kernel
theorem dX5_needIndex_9 : decode cX5_needIndex 9 = .ok (.new 253, 3) := by decide +kernel
theorem dX5_needIndex_12 : decode cX5_needIndex 12 = .ok (.dup, 1) := by decide +kernel
theorem dX5_needIndex_13 : decode cX5_needIndex 13 = .ok (.ldc 255, 2) := by decide +kernel
theorem dX5_needIndex_15 : decode cX5_needIndex 15 = .ok (.invokespecial 257, 3) := by decide +kernel
theorem dX5_needIndex_18 : decode cX5_needIndex 18 = .ok (.athrow, 1) := by decide +kernel
theorem dX5_needIndex_19 : decode cX5_needIndex 19 = .ok (.return_, 1) := by decide +kernel
set_option maxRecDepth 20000 in
theorem ggX5_needSlice_X5_needIndex : GoodIn wsX5_needSlice wsX5_needIndex := goodIn_ca (goodIn_r _ [4, 5, 6] (by decide +kernel) (by decide +kernel)) (goodIn_sub (fun _ h => List.mem_cons_of_mem _ (List.mem_append_right _ h)) (by decide +kernel))
set_option maxRecDepth 20000 in
theorem gX5_needSlice_X5_needIndex : GoodIn wsX5_needSlice (va_wsS RX5 37 yX5_needIndex wsX5_needIndex) := goodIn_app (goodIn_of _ (by decide +kernel)) ggX5_needSlice_X5_needIndex
theorem dX5_needSlice_0 : decode cX5_needSlice 0 = .ok (.iload_n 0, 1) := by decide +kernel
theorem dX5_needSlice_1 : decode cX5_needSlice 1 = .ok (.iconst 3, 1) := by decide +kernel
theorem dX5_needSlice_2 : decode cX5_needSlice 2 = .ok (.invokestatic 37, 3) := by decide +kernel
theorem dX5_needSlice_5 : decode cX5_needSlice 5 = .ok (.iload_n 1, 1) := by decide +kernel
theorem dX5_needSlice_6 : decode cX5_needSlice 6 = .ok (.bipush 12, 2) := by decide +kernel
theorem dX5_needSlice_8 : decode cX5_needSlice 8 = .ok (.invokestatic 37, 3) := by decide +kernel
theorem dX5_needSlice_11 : decode cX5_needSlice 11 = .ok (.return_, 1) := by decide +kernel
theorem dX5_needRange_0 : decode cX5_needRange 0 = .ok (.iload_n 0, 1) := by decide +kernel
theorem dX5_needRange_1 : decode cX5_needRange 1 = .ok (.iload_n 1, 1) := by decide +kernel
theorem dX5_needRange_2 : decode cX5_needRange 2 = .ok (.if_icmp .lt 8, 3) := by decide +kernel
theorem dX5_needRange_5 : decode cX5_needRange 5 = .ok (.iload_n 0, 1) := by decide +kernel
theorem dX5_needRange_6 : decode cX5_needRange 6 = .ok (.iload_n 2, 1) := by decide +kernel
theorem dX5_needRange_7 : decode cX5_needRange 7 = .ok (.if_icmp .le 14, 3) := by decide +kernel
theorem dX5_needRange_10 : decode cX5_needRange 10 = .ok (.new 100, 3) := by decide +kernel
theorem dX5_needRange_13 : decode cX5_needRange 13 = .ok (.dup, 1) := by decide +kernel
end
section
theorem dX5_needRange_14 : decode cX5_needRange 14 = .ok (.ldc_w 258, 3) := by decide +kernel
theorem dX5_needRange_17 : decode cX5_needRange 17 = .ok (.invokespecial 104, 3) := by decide +kernel
theorem dX5_needRange_20 : decode cX5_needRange 20 = .ok (.athrow, 1) := by decide +kernel
theorem dX5_needRange_21 : decode cX5_needRange 21 = .ok (.return_, 1) := by decide +kernel
set_option maxRecDepth 20000 in
theorem ggX5_needRoom_X2_all : GoodIn wsX5_needRoom wsX2_all := goodIn_r _ [7, 8, 9, 10, 6, 11, 12, 13, 14, 15, 16, 17, 18, 19, 20, 21] (by decide +kernel) (by decide +kernel)
set_option maxRecDepth 20000 in
theorem gX5_needRoom_X2_all : GoodIn wsX5_needRoom (wsV RX5 168 RX2 yX2_all wsX2_all) := goodIn_app (goodIn_of _ (by decide +kernel)) ggX5_needRoom_X2_all
theorem dX5_needRoom_0 : decode cX5_needRoom 0 = .ok (.aload_n 0, 1) := by decide +kernel
theorem dX5_needRoom_1 : decode cX5_needRoom 1 = .ok (.invokevirtual 168, 3) := by decide +kernel
theorem dX5_needRoom_4 : decode cX5_needRoom 4 = .ok (.iload_n 1, 1) := by decide +kernel
theorem dX5_needRoom_5 : decode cX5_needRoom 5 = .ok (.iadd, 1) := by decide +kernel
theorem dX5_needRoom_6 : decode cX5_needRoom 6 = .ok (.sipush 5000, 3) := by decide +kernel
theorem dX5_needRoom_9 : decode cX5_needRoom 9 = .ok (.if_icmp .le 14, 3) := by decide +kernel
theorem dX5_needRoom_12 : decode cX5_needRoom 12 = .ok (.new 124, 3) := by decide +kernel
theorem dX5_needRoom_15 : decode cX5_needRoom 15 = .ok (.dup, 1) := by decide +kernel
theorem dX5_needRoom_16 : decode cX5_needRoom 16 = .ok (.ldc_w 260, 3) := by decide +kernel
theorem dX5_needRoom_19 : decode cX5_needRoom 19 = .ok (.invokespecial 128, 3) := by decide +kernel
theorem dX5_needRoom_22 : decode cX5_needRoom 22 = .ok (.athrow, 1) := by decide +kernel
theorem dX5_needRoom_23 : decode cX5_needRoom 23 = .ok (.return_, 1) := by decide +kernel
theorem dJ9_max_7cf53_0 : decode cJ9_max_7cf53 0 = .ok (.iload_n 0, 1) := by decide +kernel
theorem dJ9_max_7cf53_1 : decode cJ9_max_7cf53 1 = .ok (.iload_n 1, 1) := by decide +kernel
theorem dJ9_max_7cf53_2 : decode cJ9_max_7cf53 2 = .ok (.if_icmp .lt 7, 3) := by decide +kernel
theorem dJ9_max_7cf53_5 : decode cJ9_max_7cf53 5 = .ok (.iload_n 0, 1) := by decide +kernel
theorem dJ9_max_7cf53_6 : decode cJ9_max_7cf53 6 = .ok (.goto 4, 3) := by decide +kernel
theorem dJ9_max_7cf53_9 : decode cJ9_max_7cf53 9 = .ok (.iload_n 1, 1) := by decide +kernel
theorem dJ9_max_7cf53_10 : decode cJ9_max_7cf53 10 = .ok (.ireturn, 1) := by decide +kernel
theorem dJ9_min_7cf53_0 : decode cJ9_min_7cf53 0 = .ok (.iload_n 0, 1) := by decide +kernel
theorem dJ9_min_7cf53_1 : decode cJ9_min_7cf53 1 = .ok (.iload_n 1, 1) := by decide +kernel
theorem dJ9_min_7cf53_2 : decode cJ9_min_7cf53 2 = .ok (.if_icmp .gt 7, 3) := by decide +kernel
theorem dJ9_min_7cf53_5 : decode cJ9_min_7cf53 5 = .ok (.iload_n 0, 1) := by decide +kernel
theorem dJ9_min_7cf53_6 : decode cJ9_min_7cf53 6 = .ok (.goto 4, 3) := by decide +kernel
theorem dJ9_min_7cf53_9 : decode cJ9_min_7cf53 9 = .ok (.iload_n 1, 1) := by decide +kernel
theorem dJ9_min_7cf53_10 : decode cJ9_min_7cf53 10 = .ok (.ireturn, 1) := by decide +kernel
theorem dL_cell_0 : decode cL_cell 0 = .ok (.iload_n 1, 1) := by decide +kernel
theorem dL_cell_1 : decode cL_cell 1 = .ok (.aload_n 0, 1) := by decide +kernel
theorem dL_cell_2 : decode cL_cell 2 = .ok (.arraylength, 1) := by decide +kernel
theorem dL_cell_3 : decode cL_cell 3 = .ok (.if_icmp .ge 9, 3) := by decide +kernel
theorem dL_cell_6 : decode cL_cell 6 = .ok (.aload_n 0, 1) := by decide +kernel
theorem dL_cell_7 : decode cL_cell 7 = .ok (.iload_n 1, 1) := by decide +kernel
theorem dL_cell_8 : decode cL_cell 8 = .ok (.iaload, 1) := by decide +kernel
theorem dL_cell_9 : decode cL_cell 9 = .ok (.goto 9, 3) := by decide +kernel
theorem dL_cell_12 : decode cL_cell 12 = .ok (.ldc 7, 2) := by decide +kernel
theorem dL_cell_14 : decode cL_cell 14 = .ok (.iload_n 1, 1) := by decide +kernel
theorem dL_cell_15 : decode cL_cell 15 = .ok (.iconst 1, 1) := by decide +kernel
theorem dL_cell_16 : decode cL_cell 16 = .ok (.iadd, 1) := by decide +kernel
theorem dL_cell_17 : decode cL_cell 17 = .ok (.imul, 1) := by decide +kernel
theorem dL_cell_18 : decode cL_cell 18 = .ok (.ireturn, 1) := by decide +kernel
theorem dL_at_0 : decode cL_at 0 = .ok (.iload_n 0, 1) := by decide +kernel
theorem dL_at_1 : decode cL_at 1 = .ok (.iconst 1, 1) := by decide +kernel
theorem dL_at_2 : decode cL_at 2 = .ok (.iushr, 1) := by decide +kernel
theorem dL_at_3 : decode cL_at 3 = .ok (.iload_n 1, 1) := by decide +kernel
theorem dL_at_4 : decode cL_at 4 = .ok (.irem, 1) := by decide +kernel
theorem dL_at_5 : decode cL_at 5 = .ok (.ireturn, 1) := by decide +kernel
theorem dL_all_0 : decode cL_all 0 = .ok (.aload_n 0, 1) := by decide +kernel
theorem dL_all_1 : decode cL_all 1 = .ok (.iconst 4, 1) := by decide +kernel
theorem dL_all_2 : decode cL_all 2 = .ok (.iload_n 1, 1) := by decide +kernel
theorem dL_all_3 : decode cL_all 3 = .ok (.imul, 1) := by decide +kernel
theorem dL_all_4 : decode cL_all 4 = .ok (.iaload, 1) := by decide +kernel
theorem dL_all_5 : decode cL_all 5 = .ok (.aload_n 0, 1) := by decide +kernel
theorem dL_all_6 : decode cL_all 6 = .ok (.iconst 4, 1) := by decide +kernel
theorem dL_all_7 : decode cL_all 7 = .ok (.iload_n 1, 1) := by decide +kernel
theorem dL_all_8 : decode cL_all 8 = .ok (.imul, 1) := by decide +kernel
theorem dL_all_9 : decode cL_all 9 = .ok (.iconst 1, 1) := by decide +kernel
theorem dL_all_10 : decode cL_all 10 = .ok (.iadd, 1) := by decide +kernel
theorem dL_all_11 : decode cL_all 11 = .ok (.iaload, 1) := by decide +kernel
theorem dL_all_12 : decode cL_all 12 = .ok (.iadd, 1) := by decide +kernel
theorem dL_all_13 : decode cL_all 13 = .ok (.aload_n 0, 1) := by decide +kernel
theorem dL_all_14 : decode cL_all 14 = .ok (.iconst 4, 1) := by decide +kernel
theorem dL_all_15 : decode cL_all 15 = .ok (.iload_n 1, 1) := by decide +kernel
theorem dL_all_16 : decode cL_all 16 = .ok (.imul, 1) := by decide +kernel
theorem dL_all_17 : decode cL_all 17 = .ok (.iconst 2, 1) := by decide +kernel
theorem dL_all_18 : decode cL_all 18 = .ok (.iadd, 1) := by decide +kernel
theorem dL_all_19 : decode cL_all 19 = .ok (.iaload, 1) := by decide +kernel
theorem dL_all_20 : decode cL_all 20 = .ok (.iadd, 1) := by decide +kernel
theorem dL_all_21 : decode cL_all 21 = .ok (.aload_n 0, 1) := by decide +kernel
theorem dL_all_22 : decode cL_all 22 = .ok (.iconst 4, 1) := by decide +kernel
theorem dL_all_23 : decode cL_all 23 = .ok (.iload_n 1, 1) := by decide +kernel
theorem dL_all_24 : decode cL_all 24 = .ok (.imul, 1) := by decide +kernel
theorem dL_all_25 : decode cL_all 25 = .ok (.iconst 3, 1) := by decide +kernel
theorem dL_all_26 : decode cL_all 26 = .ok (.iadd, 1) := by decide +kernel
theorem dL_all_27 : decode cL_all 27 = .ok (.iaload, 1) := by decide +kernel
theorem dL_all_28 : decode cL_all 28 = .ok (.iadd, 1) := by decide +kernel
theorem dL_all_29 : decode cL_all 29 = .ok (.ireturn, 1) := by decide +kernel
theorem dL_sum_0 : decode cL_sum 0 = .ok (.iconst 0, 1) := by decide +kernel
theorem dL_sum_1 : decode cL_sum 1 = .ok (.istore_n 3, 1) := by decide +kernel
theorem dL_sum_2 : decode cL_sum 2 = .ok (.iconst 4, 1) := by decide +kernel
theorem dL_sum_3 : decode cL_sum 3 = .ok (.iload_n 1, 1) := by decide +kernel
theorem dL_sum_4 : decode cL_sum 4 = .ok (.imul, 1) := by decide +kernel
theorem dL_sum_5 : decode cL_sum 5 = .ok (.istore 4, 2) := by decide +kernel
theorem dL_sum_7 : decode cL_sum 7 = .ok (.iload 4, 2) := by decide +kernel
theorem dL_sum_9 : decode cL_sum 9 = .ok (.iconst 4, 1) := by decide +kernel
theorem dL_sum_10 : decode cL_sum 10 = .ok (.iload_n 2, 1) := by decide +kernel
theorem dL_sum_11 : decode cL_sum 11 = .ok (.imul, 1) := by decide +kernel
theorem dL_sum_12 : decode cL_sum 12 = .ok (.iconst 4, 1) := by decide +kernel
theorem dL_sum_13 : decode cL_sum 13 = .ok (.iadd, 1) := by decide +kernel
theorem dL_sum_14 : decode cL_sum 14 = .ok (.if_icmp .ge 16, 3) := by decide +kernel
theorem dL_sum_17 : decode cL_sum 17 = .ok (.iload_n 3, 1) := by decide +kernel
theorem dL_sum_18 : decode cL_sum 18 = .ok (.aload_n 0, 1) := by decide +kernel
theorem dL_sum_19 : decode cL_sum 19 = .ok (.iload 4, 2) := by decide +kernel
theorem dL_sum_21 : decode cL_sum 21 = .ok (.iaload, 1) := by decide +kernel
theorem dL_sum_22 : decode cL_sum 22 = .ok (.iadd, 1) := by decide +kernel
theorem dL_sum_23 : decode cL_sum 23 = .ok (.istore_n 3, 1) := by decide +kernel
theorem dL_sum_24 : decode cL_sum 24 = .ok (.iinc 4 1, 3) := by decide +kernel
theorem dL_sum_27 : decode cL_sum 27 = .ok (.goto (-20), 3) := by decide +kernel
theorem dL_sum_30 : decode cL_sum 30 = .ok (.iload_n 3, 1) := by decide +kernel
theorem dL_sum_31 : decode cL_sum 31 = .ok (.ireturn, 1) := by decide +kernel
set_option maxRecDepth 20000 in
theorem ggL_factor_L_all : GoodIn wsL_factor wsL_all := goodIn_r _ [5] (by decide +kernel) (by decide +kernel)
set_option maxRecDepth 20000 in
theorem gL_factor_L_all : GoodIn wsL_factor (va_wsS RL 9 yL_all wsL_all) := goodIn_app (goodIn_of _ (by decide +kernel)) ggL_factor_L_all
theorem dL_factor_0 : decode cL_factor 0 = .ok (.ldc 8, 2) := by decide +kernel
theorem dL_factor_2 : decode cL_factor 2 = .ok (.sipush 1000, 3) := by decide +kernel
theorem dL_factor_5 : decode cL_factor 5 = .ok (.aload_n 0, 1) := by decide +kernel
theorem dL_factor_6 : decode cL_factor 6 = .ok (.iload_n 1, 1) := by decide +kernel
theorem dL_factor_7 : decode cL_factor 7 = .ok (.invokestatic 9, 3) := by decide +kernel
theorem dL_factor_10 : decode cL_factor 10 = .ok (.aload_n 2, 1) := by decide +kernel
theorem dL_factor_11 : decode cL_factor 11 = .ok (.iconst 0, 1) := by decide +kernel
theorem dL_factor_12 : decode cL_factor 12 = .ok (.iaload, 1) := by decide +kernel
theorem dL_factor_13 : decode cL_factor 13 = .ok (.imul, 1) := by decide +kernel
theorem dL_factor_14 : decode cL_factor 14 = .ok (.bipush 10, 2) := by decide +kernel
theorem dL_factor_16 : decode cL_factor 16 = .ok (.idiv, 1) := by decide +kernel
theorem dL_factor_17 : decode cL_factor 17 = .ok (.iadd, 1) := by decide +kernel
theorem dL_factor_18 : decode cL_factor 18 = .ok (.idiv, 1) := by decide +kernel
theorem dL_factor_19 : decode cL_factor 19 = .ok (.ireturn, 1) := by decide +kernel
set_option maxRecDepth 20000 in
theorem ggL_room_L_all : GoodIn wsL_room wsL_all := goodIn_r _ [4] (by decide +kernel) (by decide +kernel)
set_option maxRecDepth 20000 in
theorem gL_room_L_all : GoodIn wsL_room (va_wsS RL 9 yL_all wsL_all) := goodIn_app (goodIn_of _ (by decide +kernel)) ggL_room_L_all
theorem dL_room_0 : decode cL_room 0 = .ok (.aload_n 0, 1) := by decide +kernel
theorem dL_room_1 : decode cL_room 1 = .ok (.iload_n 1, 1) := by decide +kernel
theorem dL_room_2 : decode cL_room 2 = .ok (.invokestatic 9, 3) := by decide +kernel
theorem dL_room_5 : decode cL_room 5 = .ok (.aload_n 2, 1) := by decide +kernel
theorem dL_room_6 : decode cL_room 6 = .ok (.iconst 1, 1) := by decide +kernel
theorem dL_room_7 : decode cL_room 7 = .ok (.iaload, 1) := by decide +kernel
theorem dL_room_8 : decode cL_room 8 = .ok (.if_icmp .ge 15, 3) := by decide +kernel
theorem dL_room_11 : decode cL_room 11 = .ok (.aload_n 2, 1) := by decide +kernel
theorem dL_room_12 : decode cL_room 12 = .ok (.iconst 1, 1) := by decide +kernel
theorem dL_room_13 : decode cL_room 13 = .ok (.iaload, 1) := by decide +kernel
theorem dL_room_14 : decode cL_room 14 = .ok (.aload_n 0, 1) := by decide +kernel
theorem dL_room_15 : decode cL_room 15 = .ok (.iload_n 1, 1) := by decide +kernel
theorem dL_room_16 : decode cL_room 16 = .ok (.invokestatic 9, 3) := by decide +kernel
theorem dL_room_19 : decode cL_room 19 = .ok (.isub, 1) := by decide +kernel
theorem dL_room_20 : decode cL_room 20 = .ok (.goto 4, 3) := by decide +kernel
theorem dL_room_23 : decode cL_room 23 = .ok (.iconst 0, 1) := by decide +kernel
theorem dL_room_24 : decode cL_room 24 = .ok (.ireturn, 1) := by decide +kernel
theorem dL_wish_0 : decode cL_wish 0 = .ok (.iload_n 0, 1) := by decide +kernel
theorem dL_wish_1 : decode cL_wish 1 = .ok (.i2l, 1) := by decide +kernel
theorem dL_wish_2 : decode cL_wish 2 = .ok (.iload_n 1, 1) := by decide +kernel
theorem dL_wish_3 : decode cL_wish 3 = .ok (.i2l, 1) := by decide +kernel
theorem dL_wish_4 : decode cL_wish 4 = .ok (.lmul, 1) := by decide +kernel
theorem dL_wish_5 : decode cL_wish 5 = .ok (.iload_n 2, 1) := by decide +kernel
theorem dL_wish_6 : decode cL_wish 6 = .ok (.i2l, 1) := by decide +kernel
theorem dL_wish_7 : decode cL_wish 7 = .ok (.lmul, 1) := by decide +kernel
theorem dL_wish_8 : decode cL_wish 8 = .ok (.ldc2_w 15, 3) := by decide +kernel
theorem dL_wish_11 : decode cL_wish 11 = .ok (.ldiv, 1) := by decide +kernel
theorem dL_wish_12 : decode cL_wish 12 = .ok (.l2i, 1) := by decide +kernel
theorem dL_wish_13 : decode cL_wish 13 = .ok (.istore 4, 2) := by decide +kernel
theorem dL_wish_15 : decode cL_wish 15 = .ok (.iload 4, 2) := by decide +kernel
theorem dL_wish_17 : decode cL_wish 17 = .ok (.ifCond .ne 13, 3) := by decide +kernel
theorem dL_wish_20 : decode cL_wish 20 = .ok (.iload_n 0, 1) := by decide +kernel
theorem dL_wish_21 : decode cL_wish 21 = .ok (.aload_n 3, 1) := by decide +kernel
theorem dL_wish_22 : decode cL_wish 22 = .ok (.iconst 3, 1) := by decide +kernel
theorem dL_wish_23 : decode cL_wish 23 = .ok (.iaload, 1) := by decide +kernel
theorem dL_wish_24 : decode cL_wish 24 = .ok (.if_icmp .le 6, 3) := by decide +kernel
theorem dL_wish_27 : decode cL_wish 27 = .ok (.iconst 1, 1) := by decide +kernel
theorem dL_wish_28 : decode cL_wish 28 = .ok (.istore 4, 2) := by decide +kernel
theorem dL_wish_30 : decode cL_wish 30 = .ok (.iload 4, 2) := by decide +kernel
theorem dL_wish_32 : decode cL_wish 32 = .ok (.iload_n 0, 1) := by decide +kernel
theorem dL_wish_33 : decode cL_wish 33 = .ok (.if_icmp .le 7, 3) := by decide +kernel
theorem dL_wish_36 : decode cL_wish 36 = .ok (.iload_n 0, 1) := by decide +kernel
theorem dL_wish_37 : decode cL_wish 37 = .ok (.goto 5, 3) := by decide +kernel
theorem dL_wish_40 : decode cL_wish 40 = .ok (.iload 4, 2) := by decide +kernel
theorem dL_wish_42 : decode cL_wish 42 = .ok (.ireturn, 1) := by decide +kernel
set_option maxRecDepth 20000 in
theorem ggL_step_L_factor : GoodIn wsL_step wsL_factor := goodIn_r _ [4, 5, 6, 7, 3, 8] (by decide +kernel) (by decide +kernel)
set_option maxRecDepth 20000 in
theorem gL_step_L_factor : GoodIn wsL_step (va_wsS RL 17 yL_factor wsL_factor) := goodIn_app (goodIn_of _ (by decide +kernel)) ggL_step_L_factor
set_option maxRecDepth 20000 in
theorem ggL_step_L_wish : GoodIn wsL_step wsL_wish := goodIn_r _ [11, 12] (by decide +kernel) (by decide +kernel)
set_option maxRecDepth 20000 in
theorem gL_step_L_wish : GoodIn wsL_step (va_wsS RL 21 yL_wish wsL_wish) := goodIn_app (goodIn_of _ (by decide +kernel)) ggL_step_L_wish
set_option maxRecDepth 20000 in
theorem ggL_step_L_room : GoodIn wsL_step wsL_room := goodIn_r _ [15, 6, 7, 3, 8] (by decide +kernel) (by decide +kernel)
set_option maxRecDepth 20000 in
theorem gL_step_L_room : GoodIn wsL_step (va_wsS RL 25 yL_room wsL_room) := goodIn_app (goodIn_of _ (by decide +kernel)) ggL_step_L_room
theorem dL_step_0 : decode cL_step 0 = .ok (.iconst 0, 1) := by decide +kernel
theorem dL_step_1 : decode cL_step 1 = .ok (.istore_n 2, 1) := by decide +kernel
theorem dL_step_2 : decode cL_step 2 = .ok (.bipush 11, 2) := by decide +kernel
theorem dL_step_4 : decode cL_step 4 = .ok (.istore_n 3, 1) := by decide +kernel
theorem dL_step_5 : decode cL_step 5 = .ok (.iload_n 3, 1) := by decide +kernel
theorem dL_step_6 : decode cL_step 6 = .ok (.ifCond .le 111, 3) := by decide +kernel
theorem dL_step_9 : decode cL_step 9 = .ok (.aload_n 0, 1) := by decide +kernel
theorem dL_step_10 : decode cL_step 10 = .ok (.iload_n 3, 1) := by decide +kernel
theorem dL_step_11 : decode cL_step 11 = .ok (.iconst 1, 1) := by decide +kernel
theorem dL_step_12 : decode cL_step 12 = .ok (.isub, 1) := by decide +kernel
theorem dL_step_13 : decode cL_step 13 = .ok (.aload_n 1, 1) := by decide +kernel
theorem dL_step_14 : decode cL_step 14 = .ok (.invokestatic 17, 3) := by decide +kernel
theorem dL_step_17 : decode cL_step 17 = .ok (.istore 4, 2) := by decide +kernel
theorem dL_step_19 : decode cL_step 19 = .ok (.iconst 0, 1) := by decide +kernel
theorem dL_step_20 : decode cL_step 20 = .ok (.istore 5, 2) := by decide +kernel
theorem dL_step_22 : decode cL_step 22 = .ok (.iload 5, 2) := by decide +kernel
theorem dL_step_24 : decode cL_step 24 = .ok (.iconst 4, 1) := by decide +kernel
theorem dL_step_25 : decode cL_step 25 = .ok (.if_icmp .ge 86, 3) := by decide +kernel
theorem dL_step_28 : decode cL_step 28 = .ok (.iconst 4, 1) := by decide +kernel
theorem dL_step_29 : decode cL_step 29 = .ok (.iload_n 3, 1) := by decide +kernel
theorem dL_step_30 : decode cL_step 30 = .ok (.imul, 1) := by decide +kernel
theorem dL_step_31 : decode cL_step 31 = .ok (.iconst 4, 1) := by decide +kernel
theorem dL_step_32 : decode cL_step 32 = .ok (.isub, 1) := by decide +kernel
theorem dL_step_33 : decode cL_step 33 = .ok (.iload 5, 2) := by decide +kernel
theorem dL_step_35 : decode cL_step 35 = .ok (.iadd, 1) := by decide +kernel
theorem dL_step_36 : decode cL_step 36 = .ok (.istore 6, 2) := by decide +kernel
theorem dL_step_38 : decode cL_step 38 = .ok (.aload_n 0, 1) := by decide +kernel
theorem dL_step_39 : decode cL_step 39 = .ok (.iload 6, 2) := by decide +kernel
theorem dL_step_41 : decode cL_step 41 = .ok (.iaload, 1) := by decide +kernel
theorem dL_step_42 : decode cL_step 42 = .ok (.aload_n 1, 1) := by decide +kernel
theorem dL_step_43 : decode cL_step 43 = .ok (.iconst 4, 1) := by decide +kernel
theorem dL_step_44 : decode cL_step 44 = .ok (.iload 5, 2) := by decide +kernel
theorem dL_step_46 : decode cL_step 46 = .ok (.iadd, 1) := by decide +kernel
theorem dL_step_47 : decode cL_step 47 = .ok (.iaload, 1) := by decide +kernel
theorem dL_step_48 : decode cL_step 48 = .ok (.iload 4, 2) := by decide +kernel
theorem dL_step_50 : decode cL_step 50 = .ok (.aload_n 1, 1) := by decide +kernel
theorem dL_step_51 : decode cL_step 51 = .ok (.invokestatic 21, 3) := by decide +kernel
theorem dL_step_54 : decode cL_step 54 = .ok (.istore 7, 2) := by decide +kernel
theorem dL_step_56 : decode cL_step 56 = .ok (.aload_n 0, 1) := by decide +kernel
theorem dL_step_57 : decode cL_step 57 = .ok (.iload_n 3, 1) := by decide +kernel
theorem dL_step_58 : decode cL_step 58 = .ok (.aload_n 1, 1) := by decide +kernel
theorem dL_step_59 : decode cL_step 59 = .ok (.invokestatic 25, 3) := by decide +kernel
theorem dL_step_62 : decode cL_step 62 = .ok (.istore 8, 2) := by decide +kernel
theorem dL_step_64 : decode cL_step 64 = .ok (.iload 7, 2) := by decide +kernel
theorem dL_step_66 : decode cL_step 66 = .ok (.iload 8, 2) := by decide +kernel
theorem dL_step_68 : decode cL_step 68 = .ok (.if_icmp .le 8, 3) := by decide +kernel
theorem dL_step_71 : decode cL_step 71 = .ok (.iload 8, 2) := by decide +kernel
theorem dL_step_73 : decode cL_step 73 = .ok (.goto 5, 3) := by decide +kernel
theorem dL_step_76 : decode cL_step 76 = .ok (.iload 7, 2) := by decide +kernel
theorem dL_step_78 : decode cL_step 78 = .ok (.istore 7, 2) := by decide +kernel
theorem dL_step_80 : decode cL_step 80 = .ok (.aload_n 0, 1) := by decide +kernel
theorem dL_step_81 : decode cL_step 81 = .ok (.iload 6, 2) := by decide +kernel
theorem dL_step_83 : decode cL_step 83 = .ok (.dup2, 1) := by decide +kernel
theorem dL_step_84 : decode cL_step 84 = .ok (.iaload, 1) := by decide +kernel
theorem dL_step_85 : decode cL_step 85 = .ok (.iload 7, 2) := by decide +kernel
theorem dL_step_87 : decode cL_step 87 = .ok (.isub, 1) := by decide +kernel
theorem dL_step_88 : decode cL_step 88 = .ok (.iastore, 1) := by decide +kernel
theorem dL_step_89 : decode cL_step 89 = .ok (.aload_n 0, 1) := by decide +kernel
theorem dL_step_90 : decode cL_step 90 = .ok (.iload 6, 2) := by decide +kernel
theorem dL_step_92 : decode cL_step 92 = .ok (.iconst 4, 1) := by decide +kernel
theorem dL_step_93 : decode cL_step 93 = .ok (.iadd, 1) := by decide +kernel
theorem dL_step_94 : decode cL_step 94 = .ok (.dup2, 1) := by decide +kernel
theorem dL_step_95 : decode cL_step 95 = .ok (.iaload, 1) := by decide +kernel
theorem dL_step_96 : decode cL_step 96 = .ok (.iload 7, 2) := by decide +kernel
theorem dL_step_98 : decode cL_step 98 = .ok (.iadd, 1) := by decide +kernel
theorem dL_step_99 : decode cL_step 99 = .ok (.iastore, 1) := by decide +kernel
theorem dL_step_100 : decode cL_step 100 = .ok (.iload_n 2, 1) := by decide +kernel
theorem dL_step_101 : decode cL_step 101 = .ok (.iload 7, 2) := by decide +kernel
theorem dL_step_103 : decode cL_step 103 = .ok (.iadd, 1) := by decide +kernel
theorem dL_step_104 : decode cL_step 104 = .ok (.istore_n 2, 1) := by decide +kernel
theorem dL_step_105 : decode cL_step 105 = .ok (.iinc 5 1, 3) := by decide +kernel
theorem dL_step_108 : decode cL_step 108 = .ok (.goto (-86), 3) := by decide +kernel
theorem dL_step_111 : decode cL_step 111 = .ok (.iinc 3 (-1), 3) := by decide +kernel
theorem dL_step_114 : decode cL_step 114 = .ok (.goto (-109), 3) := by decide +kernel
theorem dL_step_117 : decode cL_step 117 = .ok (.iload_n 2, 1) := by decide +kernel
theorem dL_step_118 : decode cL_step 118 = .ok (.ireturn, 1) := by decide +kernel
theorem dL_leading_0 : decode cL_leading 0 = .ok (.iconst (-1), 1) := by decide +kernel
theorem dL_leading_1 : decode cL_leading 1 = .ok (.istore_n 2, 1) := by decide +kernel
theorem dL_leading_2 : decode cL_leading 2 = .ok (.iconst 3, 1) := by decide +kernel
theorem dL_leading_3 : decode cL_leading 3 = .ok (.istore_n 3, 1) := by decide +kernel
theorem dL_leading_4 : decode cL_leading 4 = .ok (.iload_n 3, 1) := by decide +kernel
theorem dL_leading_5 : decode cL_leading 5 = .ok (.ifCond .lt 42, 3) := by decide +kernel
theorem dL_leading_8 : decode cL_leading 8 = .ok (.aload_n 0, 1) := by decide +kernel
theorem dL_leading_9 : decode cL_leading 9 = .ok (.iconst 4, 1) := by decide +kernel
theorem dL_leading_10 : decode cL_leading 10 = .ok (.iload_n 1, 1) := by decide +kernel
theorem dL_leading_11 : decode cL_leading 11 = .ok (.imul, 1) := by decide +kernel
theorem dL_leading_12 : decode cL_leading 12 = .ok (.iload_n 3, 1) := by decide +kernel
theorem dL_leading_13 : decode cL_leading 13 = .ok (.iadd, 1) := by decide +kernel
theorem dL_leading_14 : decode cL_leading 14 = .ok (.iaload, 1) := by decide +kernel
theorem dL_leading_15 : decode cL_leading 15 = .ok (.ifCond .le 26, 3) := by decide +kernel
theorem dL_leading_18 : decode cL_leading 18 = .ok (.iload_n 2, 1) := by decide +kernel
theorem dL_leading_19 : decode cL_leading 19 = .ok (.ifCond .lt 20, 3) := by decide +kernel
theorem dL_leading_22 : decode cL_leading 22 = .ok (.aload_n 0, 1) := by decide +kernel
theorem dL_leading_23 : decode cL_leading 23 = .ok (.iconst 4, 1) := by decide +kernel
theorem dL_leading_24 : decode cL_leading 24 = .ok (.iload_n 1, 1) := by decide +kernel
theorem dL_leading_25 : decode cL_leading 25 = .ok (.imul, 1) := by decide +kernel
theorem dL_leading_26 : decode cL_leading 26 = .ok (.iload_n 3, 1) := by decide +kernel
theorem dL_leading_27 : decode cL_leading 27 = .ok (.iadd, 1) := by decide +kernel
theorem dL_leading_28 : decode cL_leading 28 = .ok (.iaload, 1) := by decide +kernel
theorem dL_leading_29 : decode cL_leading 29 = .ok (.aload_n 0, 1) := by decide +kernel
theorem dL_leading_30 : decode cL_leading 30 = .ok (.iconst 4, 1) := by decide +kernel
theorem dL_leading_31 : decode cL_leading 31 = .ok (.iload_n 1, 1) := by decide +kernel
theorem dL_leading_32 : decode cL_leading 32 = .ok (.imul, 1) := by decide +kernel
theorem dL_leading_33 : decode cL_leading 33 = .ok (.iload_n 2, 1) := by decide +kernel
theorem dL_leading_34 : decode cL_leading 34 = .ok (.iadd, 1) := by decide +kernel
theorem dL_leading_35 : decode cL_leading 35 = .ok (.iaload, 1) := by decide +kernel
theorem dL_leading_36 : decode cL_leading 36 = .ok (.if_icmp .lt 5, 3) := by decide +kernel
theorem dL_leading_39 : decode cL_leading 39 = .ok (.iload_n 3, 1) := by decide +kernel
theorem dL_leading_40 : decode cL_leading 40 = .ok (.istore_n 2, 1) := by decide +kernel
theorem dL_leading_41 : decode cL_leading 41 = .ok (.iinc 3 (-1), 3) := by decide +kernel
theorem dL_leading_44 : decode cL_leading 44 = .ok (.goto (-40), 3) := by decide +kernel
theorem dL_leading_47 : decode cL_leading 47 = .ok (.iload_n 2, 1) := by decide +kernel
theorem dL_leading_48 : decode cL_leading 48 = .ok (.ireturn, 1) := by decide +kernel
set_option maxRecDepth 20000 in
theorem ggL_prop_L_sum : GoodIn wsL_prop wsL_sum := goodIn_r _ [4] (by decide +kernel) (by decide +kernel)
set_option maxRecDepth 20000 in
theorem gL_prop_L_sum : GoodIn wsL_prop (va_wsS RL 28 yL_sum wsL_sum) := goodIn_app (goodIn_of _ (by decide +kernel)) ggL_prop_L_sum
set_option maxRecDepth 20000 in
theorem ggL_prop_L_all : GoodIn wsL_prop wsL_all := goodIn_r _ [7] (by decide +kernel) (by decide +kernel)
set_option maxRecDepth 20000 in
theorem gL_prop_L_all : GoodIn wsL_prop (va_wsS RL 9 yL_all wsL_all) := goodIn_app (goodIn_of _ (by decide +kernel)) ggL_prop_L_all
set_option maxRecDepth 20000 in
theorem ggL_prop_L_leading : GoodIn wsL_prop wsL_leading := goodIn_r _ [10] (by decide +kernel) (by decide +kernel)
set_option maxRecDepth 20000 in
theorem gL_prop_L_leading : GoodIn wsL_prop (va_wsS RL 32 yL_leading wsL_leading) := goodIn_app (goodIn_of _ (by decide +kernel)) ggL_prop_L_leading
theorem dL_prop_0 : decode cL_prop 0 = .ok (.iload_n 1, 1) := by decide +kernel
theorem dL_prop_1 : decode cL_prop 1 = .ok (.ifCond .ne 11, 3) := by decide +kernel
theorem dL_prop_4 : decode cL_prop 4 = .ok (.aload_n 0, 1) := by decide +kernel
theorem dL_prop_5 : decode cL_prop 5 = .ok (.iconst 0, 1) := by decide +kernel
theorem dL_prop_6 : decode cL_prop 6 = .ok (.bipush 11, 2) := by decide +kernel
theorem dL_prop_8 : decode cL_prop 8 = .ok (.invokestatic 28, 3) := by decide +kernel
theorem dL_prop_11 : decode cL_prop 11 = .ok (.ireturn, 1) := by decide +kernel
theorem dL_prop_12 : decode cL_prop 12 = .ok (.iload_n 1, 1) := by decide +kernel
theorem dL_prop_13 : decode cL_prop 13 = .ok (.iconst 5, 1) := by decide +kernel
theorem dL_prop_14 : decode cL_prop 14 = .ok (.if_icmp .ge 36, 3) := by decide +kernel
theorem dL_prop_17 : decode cL_prop 17 = .ok (.iconst 0, 1) := by decide +kernel
theorem dL_prop_18 : decode cL_prop 18 = .ok (.istore_n 3, 1) := by decide +kernel
theorem dL_prop_19 : decode cL_prop 19 = .ok (.iconst 0, 1) := by decide +kernel
theorem dL_prop_20 : decode cL_prop 20 = .ok (.istore 4, 2) := by decide +kernel
theorem dL_prop_22 : decode cL_prop 22 = .ok (.iload 4, 2) := by decide +kernel
theorem dL_prop_24 : decode cL_prop 24 = .ok (.bipush 12, 2) := by decide +kernel
theorem dL_prop_26 : decode cL_prop 26 = .ok (.if_icmp .ge 22, 3) := by decide +kernel
theorem dL_prop_29 : decode cL_prop 29 = .ok (.iload_n 3, 1) := by decide +kernel
theorem dL_prop_30 : decode cL_prop 30 = .ok (.aload_n 0, 1) := by decide +kernel
theorem dL_prop_31 : decode cL_prop 31 = .ok (.iconst 4, 1) := by decide +kernel
theorem dL_prop_32 : decode cL_prop 32 = .ok (.iload 4, 2) := by decide +kernel
theorem dL_prop_34 : decode cL_prop 34 = .ok (.imul, 1) := by decide +kernel
theorem dL_prop_35 : decode cL_prop 35 = .ok (.iload_n 1, 1) := by decide +kernel
theorem dL_prop_36 : decode cL_prop 36 = .ok (.iadd, 1) := by decide +kernel
theorem dL_prop_37 : decode cL_prop 37 = .ok (.iconst 1, 1) := by decide +kernel
theorem dL_prop_38 : decode cL_prop 38 = .ok (.isub, 1) := by decide +kernel
theorem dL_prop_39 : decode cL_prop 39 = .ok (.iaload, 1) := by decide +kernel
theorem dL_prop_40 : decode cL_prop 40 = .ok (.iadd, 1) := by decide +kernel
theorem dL_prop_41 : decode cL_prop 41 = .ok (.istore_n 3, 1) := by decide +kernel
theorem dL_prop_42 : decode cL_prop 42 = .ok (.iinc 4 1, 3) := by decide +kernel
theorem dL_prop_45 : decode cL_prop 45 = .ok (.goto (-23), 3) := by decide +kernel
theorem dL_prop_48 : decode cL_prop 48 = .ok (.iload_n 3, 1) := by decide +kernel
theorem dL_prop_49 : decode cL_prop 49 = .ok (.ireturn, 1) := by decide +kernel
theorem dL_prop_50 : decode cL_prop 50 = .ok (.bipush 12, 2) := by decide +kernel
theorem dL_prop_52 : decode cL_prop 52 = .ok (.istore_n 3, 1) := by decide +kernel
theorem dL_prop_53 : decode cL_prop 53 = .ok (.iload_n 3, 1) := by decide +kernel
theorem dL_prop_54 : decode cL_prop 54 = .ok (.ifCond .le 22, 3) := by decide +kernel
theorem dL_prop_57 : decode cL_prop 57 = .ok (.aload_n 0, 1) := by decide +kernel
theorem dL_prop_58 : decode cL_prop 58 = .ok (.iload_n 3, 1) := by decide +kernel
theorem dL_prop_59 : decode cL_prop 59 = .ok (.iconst 1, 1) := by decide +kernel
theorem dL_prop_60 : decode cL_prop 60 = .ok (.isub, 1) := by decide +kernel
theorem dL_prop_61 : decode cL_prop 61 = .ok (.invokestatic 9, 3) := by decide +kernel
theorem dL_prop_64 : decode cL_prop 64 = .ok (.aload_n 2, 1) := by decide +kernel
theorem dL_prop_65 : decode cL_prop 65 = .ok (.iconst 1, 1) := by decide +kernel
theorem dL_prop_66 : decode cL_prop 66 = .ok (.iaload, 1) := by decide +kernel
theorem dL_prop_67 : decode cL_prop 67 = .ok (.if_icmp .lt 9, 3) := by decide +kernel
theorem dL_prop_70 : decode cL_prop 70 = .ok (.iinc 3 (-1), 3) := by decide +kernel
theorem dL_prop_73 : decode cL_prop 73 = .ok (.goto (-20), 3) := by decide +kernel
theorem dL_prop_76 : decode cL_prop 76 = .ok (.iconst 0, 1) := by decide +kernel
theorem dL_prop_77 : decode cL_prop 77 = .ok (.istore 4, 2) := by decide +kernel
theorem dL_prop_79 : decode cL_prop 79 = .ok (.iload 4, 2) := by decide +kernel
theorem dL_prop_81 : decode cL_prop 81 = .ok (.bipush 12, 2) := by decide +kernel
theorem dL_prop_83 : decode cL_prop 83 = .ok (.if_icmp .ge 21, 3) := by decide +kernel
theorem dL_prop_86 : decode cL_prop 86 = .ok (.aload_n 0, 1) := by decide +kernel
theorem dL_prop_87 : decode cL_prop 87 = .ok (.iload 4, 2) := by decide +kernel
theorem dL_prop_89 : decode cL_prop 89 = .ok (.invokestatic 9, 3) := by decide +kernel
theorem dL_prop_92 : decode cL_prop 92 = .ok (.aload_n 2, 1) := by decide +kernel
theorem dL_prop_93 : decode cL_prop 93 = .ok (.iconst 2, 1) := by decide +kernel
theorem dL_prop_94 : decode cL_prop 94 = .ok (.iaload, 1) := by decide +kernel
theorem dL_prop_95 : decode cL_prop 95 = .ok (.if_icmp .gt 9, 3) := by decide +kernel
theorem dL_prop_98 : decode cL_prop 98 = .ok (.iinc 4 1, 3) := by decide +kernel
theorem dL_prop_101 : decode cL_prop 101 = .ok (.goto (-22), 3) := by decide +kernel
theorem dL_prop_104 : decode cL_prop 104 = .ok (.iload_n 1, 1) := by decide +kernel
theorem dL_prop_105 : decode cL_prop 105 = .ok (.bipush 8, 2) := by decide +kernel
theorem dL_prop_107 : decode cL_prop 107 = .ok (.if_icmp .ge 44, 3) := by decide +kernel
theorem dL_prop_110 : decode cL_prop 110 = .ok (.iload_n 1, 1) := by decide +kernel
theorem dL_prop_111 : decode cL_prop 111 = .ok (.iconst 5, 1) := by decide +kernel
theorem dL_prop_112 : decode cL_prop 112 = .ok (.if_icmp .ne 10, 3) := by decide +kernel
theorem dL_prop_115 : decode cL_prop 115 = .ok (.bipush 12, 2) := by decide +kernel
theorem dL_prop_117 : decode cL_prop 117 = .ok (.iload_n 3, 1) := by decide +kernel
theorem dL_prop_118 : decode cL_prop 118 = .ok (.isub, 1) := by decide +kernel
theorem dL_prop_119 : decode cL_prop 119 = .ok (.goto 31, 3) := by decide +kernel
theorem dL_prop_122 : decode cL_prop 122 = .ok (.iload_n 1, 1) := by decide +kernel
theorem dL_prop_123 : decode cL_prop 123 = .ok (.bipush 6, 2) := by decide +kernel
theorem dL_prop_125 : decode cL_prop 125 = .ok (.if_icmp .ne 8, 3) := by decide +kernel
theorem dL_prop_128 : decode cL_prop 128 = .ok (.iload 4, 2) := by decide +kernel
theorem dL_prop_130 : decode cL_prop 130 = .ok (.goto 20, 3) := by decide +kernel
theorem dL_prop_133 : decode cL_prop 133 = .ok (.iload_n 3, 1) := by decide +kernel
theorem dL_prop_134 : decode cL_prop 134 = .ok (.bipush 12, 2) := by decide +kernel
theorem dL_prop_136 : decode cL_prop 136 = .ok (.if_icmp .ne 7, 3) := by decide +kernel
theorem dL_prop_139 : decode cL_prop 139 = .ok (.iconst 0, 1) := by decide +kernel
theorem dL_prop_140 : decode cL_prop 140 = .ok (.goto 10, 3) := by decide +kernel
theorem dL_prop_143 : decode cL_prop 143 = .ok (.aload_n 0, 1) := by decide +kernel
theorem dL_prop_144 : decode cL_prop 144 = .ok (.iload_n 3, 1) := by decide +kernel
theorem dL_prop_145 : decode cL_prop 145 = .ok (.bipush 11, 2) := by decide +kernel
theorem dL_prop_147 : decode cL_prop 147 = .ok (.invokestatic 28, 3) := by decide +kernel
theorem dL_prop_150 : decode cL_prop 150 = .ok (.ireturn, 1) := by decide +kernel
theorem dL_prop_151 : decode cL_prop 151 = .ok (.iconst 0, 1) := by decide +kernel
theorem dL_prop_152 : decode cL_prop 152 = .ok (.istore 5, 2) := by decide +kernel
theorem dL_prop_154 : decode cL_prop 154 = .ok (.iconst (-1), 1) := by decide +kernel
theorem dL_prop_155 : decode cL_prop 155 = .ok (.istore 6, 2) := by decide +kernel
theorem dL_prop_157 : decode cL_prop 157 = .ok (.bipush 11, 2) := by decide +kernel
theorem dL_prop_159 : decode cL_prop 159 = .ok (.istore 7, 2) := by decide +kernel
theorem dL_prop_161 : decode cL_prop 161 = .ok (.iload 7, 2) := by decide +kernel
theorem dL_prop_163 : decode cL_prop 163 = .ok (.ifCond .lt 51, 3) := by decide +kernel
theorem dL_prop_166 : decode cL_prop 166 = .ok (.aload_n 0, 1) := by decide +kernel
theorem dL_prop_167 : decode cL_prop 167 = .ok (.iload 7, 2) := by decide +kernel
theorem dL_prop_169 : decode cL_prop 169 = .ok (.invokestatic 32, 3) := by decide +kernel
theorem dL_prop_172 : decode cL_prop 172 = .ok (.istore 8, 2) := by decide +kernel
theorem dL_prop_174 : decode cL_prop 174 = .ok (.iload 8, 2) := by decide +kernel
theorem dL_prop_176 : decode cL_prop 176 = .ok (.ifCond .ge 6, 3) := by decide +kernel
theorem dL_prop_179 : decode cL_prop 179 = .ok (.goto 29, 3) := by decide +kernel
theorem dL_prop_182 : decode cL_prop 182 = .ok (.iload 5, 2) := by decide +kernel
theorem dL_prop_184 : decode cL_prop 184 = .ok (.iload 6, 2) := by decide +kernel
theorem dL_prop_186 : decode cL_prop 186 = .ok (.ifCond .lt 14, 3) := by decide +kernel
theorem dL_prop_189 : decode cL_prop 189 = .ok (.iload 6, 2) := by decide +kernel
theorem dL_prop_191 : decode cL_prop 191 = .ok (.iload 8, 2) := by decide +kernel
theorem dL_prop_193 : decode cL_prop 193 = .ok (.if_icmp .eq 7, 3) := by decide +kernel
theorem dL_prop_196 : decode cL_prop 196 = .ok (.iconst 1, 1) := by decide +kernel
theorem dL_prop_197 : decode cL_prop 197 = .ok (.goto 4, 3) := by decide +kernel
theorem dL_prop_200 : decode cL_prop 200 = .ok (.iconst 0, 1) := by decide +kernel
theorem dL_prop_201 : decode cL_prop 201 = .ok (.iadd, 1) := by decide +kernel
theorem dL_prop_202 : decode cL_prop 202 = .ok (.istore 5, 2) := by decide +kernel
theorem dL_prop_204 : decode cL_prop 204 = .ok (.iload 8, 2) := by decide +kernel
theorem dL_prop_206 : decode cL_prop 206 = .ok (.istore 6, 2) := by decide +kernel
theorem dL_prop_208 : decode cL_prop 208 = .ok (.iinc 7 (-1), 3) := by decide +kernel
theorem dL_prop_211 : decode cL_prop 211 = .ok (.goto (-50), 3) := by decide +kernel
theorem dL_prop_214 : decode cL_prop 214 = .ok (.iload 5, 2) := by decide +kernel
theorem dL_prop_216 : decode cL_prop 216 = .ok (.ireturn, 1) := by decide +kernel
set_option maxRecDepth 20000 in
theorem ggL_why_L_room : GoodIn wsL_why wsL_room := goodIn_r _ [4, 5, 6, 3, 7] (by decide +kernel) (by decide +kernel)
set_option maxRecDepth 20000 in
theorem gL_why_L_room : GoodIn wsL_why (va_wsS RL 25 yL_room wsL_room) := goodIn_app (goodIn_of _ (by decide +kernel)) ggL_why_L_room
set_option maxRecDepth 20000 in
theorem ggL_why_L_factor : GoodIn wsL_why wsL_factor := goodIn_r _ [10, 11, 5, 6, 3, 7] (by decide +kernel) (by decide +kernel)
set_option maxRecDepth 20000 in
theorem gL_why_L_factor : GoodIn wsL_why (va_wsS RL 17 yL_factor wsL_factor) := goodIn_app (goodIn_of _ (by decide +kernel)) ggL_why_L_factor
set_option maxRecDepth 20000 in
theorem ggL_why_L_wish : GoodIn wsL_why wsL_wish := goodIn_r _ [14, 15] (by decide +kernel) (by decide +kernel)
set_option maxRecDepth 20000 in
theorem gL_why_L_wish : GoodIn wsL_why (va_wsS RL 21 yL_wish wsL_wish) := goodIn_app (goodIn_of _ (by decide +kernel)) ggL_why_L_wish
theorem dL_why_0 : decode cL_why 0 = .ok (.iload_n 1, 1) := by decide +kernel
theorem dL_why_1 : decode cL_why 1 = .ok (.bipush 11, 2) := by decide +kernel
theorem dL_why_3 : decode cL_why 3 = .ok (.if_icmp .ne 5, 3) := by decide +kernel
theorem dL_why_6 : decode cL_why 6 = .ok (.iconst 1, 1) := by decide +kernel
theorem dL_why_7 : decode cL_why 7 = .ok (.ireturn, 1) := by decide +kernel
theorem dL_why_8 : decode cL_why 8 = .ok (.aload_n 0, 1) := by decide +kernel
theorem dL_why_9 : decode cL_why 9 = .ok (.iconst 4, 1) := by decide +kernel
theorem dL_why_10 : decode cL_why 10 = .ok (.iload_n 1, 1) := by decide +kernel
theorem dL_why_11 : decode cL_why 11 = .ok (.imul, 1) := by decide +kernel
theorem dL_why_12 : decode cL_why 12 = .ok (.iload_n 2, 1) := by decide +kernel
theorem dL_why_13 : decode cL_why 13 = .ok (.iadd, 1) := by decide +kernel
theorem dL_why_14 : decode cL_why 14 = .ok (.iaload, 1) := by decide +kernel
theorem dL_why_15 : decode cL_why 15 = .ok (.istore 4, 2) := by decide +kernel
theorem dL_why_17 : decode cL_why 17 = .ok (.iload 4, 2) := by decide +kernel
theorem dL_why_19 : decode cL_why 19 = .ok (.ifCond .ne 7, 3) := by decide +kernel
theorem dL_why_22 : decode cL_why 22 = .ok (.iconst 2, 1) := by decide +kernel
theorem dL_why_23 : decode cL_why 23 = .ok (.goto 43, 3) := by decide +kernel
theorem dL_why_26 : decode cL_why 26 = .ok (.aload_n 0, 1) := by decide +kernel
theorem dL_why_27 : decode cL_why 27 = .ok (.iload_n 1, 1) := by decide +kernel
theorem dL_why_28 : decode cL_why 28 = .ok (.iconst 1, 1) := by decide +kernel
theorem dL_why_29 : decode cL_why 29 = .ok (.iadd, 1) := by decide +kernel
theorem dL_why_30 : decode cL_why 30 = .ok (.aload_n 3, 1) := by decide +kernel
theorem dL_why_31 : decode cL_why 31 = .ok (.invokestatic 25, 3) := by decide +kernel
theorem dL_why_34 : decode cL_why 34 = .ok (.ifCond .ne 7, 3) := by decide +kernel
theorem dL_why_37 : decode cL_why 37 = .ok (.iconst 3, 1) := by decide +kernel
theorem dL_why_38 : decode cL_why 38 = .ok (.goto 28, 3) := by decide +kernel
theorem dL_why_41 : decode cL_why 41 = .ok (.iload 4, 2) := by decide +kernel
theorem dL_why_43 : decode cL_why 43 = .ok (.aload_n 3, 1) := by decide +kernel
theorem dL_why_44 : decode cL_why 44 = .ok (.iconst 4, 1) := by decide +kernel
theorem dL_why_45 : decode cL_why 45 = .ok (.iload_n 2, 1) := by decide +kernel
theorem dL_why_46 : decode cL_why 46 = .ok (.iadd, 1) := by decide +kernel
theorem dL_why_47 : decode cL_why 47 = .ok (.iaload, 1) := by decide +kernel
theorem dL_why_48 : decode cL_why 48 = .ok (.aload_n 0, 1) := by decide +kernel
theorem dL_why_49 : decode cL_why 49 = .ok (.iload_n 1, 1) := by decide +kernel
theorem dL_why_50 : decode cL_why 50 = .ok (.aload_n 3, 1) := by decide +kernel
theorem dL_why_51 : decode cL_why 51 = .ok (.invokestatic 17, 3) := by decide +kernel
theorem dL_why_54 : decode cL_why 54 = .ok (.aload_n 3, 1) := by decide +kernel
theorem dL_why_55 : decode cL_why 55 = .ok (.invokestatic 21, 3) := by decide +kernel
theorem dL_why_58 : decode cL_why 58 = .ok (.ifCond .ne 7, 3) := by decide +kernel
theorem dL_why_61 : decode cL_why 61 = .ok (.iconst 4, 1) := by decide +kernel
theorem dL_why_62 : decode cL_why 62 = .ok (.goto 4, 3) := by decide +kernel
theorem dL_why_65 : decode cL_why 65 = .ok (.iconst 0, 1) := by decide +kernel
theorem dL_why_66 : decode cL_why 66 = .ok (.ireturn, 1) := by decide +kernel
set_option maxRecDepth 20000 in
theorem ggL_toldJar_X5_slice : GoodIn wsL_toldJar wsX5_slice := goodIn_ca (goodIn_ca (goodIn_r _ [6, 7, 8, 9, 10, 11, 5, 12, 13, 14, 15, 16, 17, 18, 19, 20, 21, 22, 23, 24, 25, 26, 27, 28, 29, 30, 31, 32, 33, 34, 35, 36, 37, 38, 39, 40, 41, 42, 43, 44, 45, 46, 47, 48, 49, 50, 51, 52, 53, 54, 55, 56, 57, 58, 59, 60, 61, 62, 63, 168, 169, 170, 171, 172, 173, 174, 175, 176, 177, 178, 179, 180] (by decide +kernel) (by decide +kernel)) (goodIn_sub (fun _ h => List.mem_cons_of_mem _ (List.mem_append_left _ (List.mem_append_right _ h))) (by decide +kernel))) (goodIn_sub (fun _ h => List.mem_cons_of_mem _ (List.mem_append_right _ h)) (by decide +kernel))
set_option maxRecDepth 20000 in
theorem gL_toldJar_X5_slice : GoodIn wsL_toldJar (wsV RL 35 RX5 yX5_slice wsX5_slice) := goodIn_app (goodIn_of _ (by decide +kernel)) ggL_toldJar_X5_slice
set_option maxRecDepth 20000 in
theorem ggL_toldJar_X5_why : GoodIn wsL_toldJar wsX5_why := goodIn_ca (goodIn_r _ [67, 7, 8, 9, 10, 11, 5, 12, 13, 14, 15, 16, 17, 68, 69, 70, 26, 71, 32, 33, 34, 35, 36, 28, 29, 30, 31, 60, 61, 62, 40, 63, 42, 56, 57, 58, 59, 51, 52, 53, 54, 55, 72, 73, 74, 75, 76, 77, 78, 79, 80, 168, 169, 170, 171, 172, 173, 174, 175, 176, 177, 178, 179, 180] (by decide +kernel) (by decide +kernel)) (goodIn_sub (fun _ h => List.mem_cons_of_mem _ (List.mem_append_left _ (List.mem_append_right _ h))) (by decide +kernel))
set_option maxRecDepth 20000 in
theorem gL_toldJar_X5_why : GoodIn wsL_toldJar (wsV RL 41 RX5 yX5_why wsX5_why) := goodIn_app (goodIn_of _ (by decide +kernel)) ggL_toldJar_X5_why
set_option maxRecDepth 20000 in
theorem ggL_toldJar_L_why : GoodIn wsL_toldJar wsL_why := goodIn_r _ [84, 85, 86, 83, 87, 88, 89, 90, 91, 92, 93, 94, 95, 96, 97, 98] (by decide +kernel) (by decide +kernel)
set_option maxRecDepth 20000 in
theorem gL_toldJar_L_why : GoodIn wsL_toldJar (va_wsS RL 44 yL_why wsL_why) := goodIn_app (goodIn_of _ (by decide +kernel)) ggL_toldJar_L_why
set_option maxRecDepth 20000 in
theorem ggL_toldJar_L_all : GoodIn wsL_toldJar wsL_all := goodIn_r _ [90] (by decide +kernel) (by decide +kernel)
set_option maxRecDepth 20000 in
theorem gL_toldJar_L_all : GoodIn wsL_toldJar (va_wsS RL 9 yL_all wsL_all) := goodIn_app (goodIn_of _ (by decide +kernel)) ggL_toldJar_L_all
set_option maxRecDepth 20000 in
theorem ggL_toldJar_L_leading : GoodIn wsL_toldJar wsL_leading := goodIn_r _ [101] (by decide +kernel) (by decide +kernel)
set_option maxRecDepth 20000 in
theorem gL_toldJar_L_leading : GoodIn wsL_toldJar (va_wsS RL 32 yL_leading wsL_leading) := goodIn_app (goodIn_of _ (by decide +kernel)) ggL_toldJar_L_leading
set_option maxRecDepth 20000 in
theorem ggL_toldJar_L_factor : GoodIn wsL_toldJar wsL_factor := goodIn_r _ [93, 94, 88, 89, 83, 90] (by decide +kernel) (by decide +kernel)
set_option maxRecDepth 20000 in
theorem gL_toldJar_L_factor : GoodIn wsL_toldJar (va_wsS RL 17 yL_factor wsL_factor) := goodIn_app (goodIn_of _ (by decide +kernel)) ggL_toldJar_L_factor
set_option maxRecDepth 20000 in
theorem ggL_toldJar_L_room : GoodIn wsL_toldJar wsL_room := goodIn_r _ [87, 88, 89, 83, 90] (by decide +kernel) (by decide +kernel)
set_option maxRecDepth 20000 in
theorem gL_toldJar_L_room : GoodIn wsL_toldJar (va_wsS RL 25 yL_room wsL_room) := goodIn_app (goodIn_of _ (by decide +kernel)) ggL_toldJar_L_room
set_option maxRecDepth 20000 in
theorem ggL_toldJar_X5_jar : GoodIn wsL_toldJar wsX5_jar := goodIn_ca (goodIn_ca (goodIn_r _ [105, 7, 8, 9, 13, 14, 5, 15, 16, 17, 18, 19, 20, 21, 22, 106, 107, 108, 26, 109, 110, 111, 112, 113, 114, 115, 116, 117, 28, 29, 30, 31, 32, 33, 34, 35, 36, 118, 119, 120, 121, 37, 38, 39, 40, 41, 42, 122, 123, 124, 125, 43, 44, 45, 46, 126, 127, 128, 129, 47, 48, 49, 50, 130, 131, 132, 133, 134, 69, 70, 71, 60, 61, 62, 63, 56, 57, 58, 59, 51, 52, 53, 54, 55, 72, 73, 74, 75, 76, 77, 78, 79, 80, 135, 136, 137, 138, 168, 169, 170, 171, 172, 173, 174, 175, 176, 177, 178, 179, 180] (by decide +kernel) (by decide +kernel)) (goodIn_sub (fun _ h => List.mem_cons_of_mem _ (List.mem_append_left _ (List.mem_append_right _ h))) (by decide +kernel))) (goodIn_sub (fun _ h => List.mem_cons_of_mem _ (List.mem_append_right _ h)) (by decide +kernel))
set_option maxRecDepth 20000 in
theorem gL_toldJar_X5_jar : GoodIn wsL_toldJar (wsV RL 47 RX5 yX5_jar wsX5_jar) := goodIn_app (goodIn_of _ (by decide +kernel)) ggL_toldJar_X5_jar
set_option maxRecDepth 20000 in
theorem ggL_toldJar_L_prop : GoodIn wsL_toldJar wsL_prop := goodIn_r _ [141, 142, 143, 83, 144, 88, 89, 90, 99, 100, 101] (by decide +kernel) (by decide +kernel)
set_option maxRecDepth 20000 in
theorem gL_toldJar_L_prop : GoodIn wsL_toldJar (va_wsS RL 51 yL_prop wsL_prop) := goodIn_app (goodIn_of _ (by decide +kernel)) ggL_toldJar_L_prop
set_option maxRecDepth 20000 in
theorem ggL_toldJar_L_at : GoodIn wsL_toldJar wsL_at := goodIn_r _ [147] (by decide +kernel) (by decide +kernel)
set_option maxRecDepth 20000 in
theorem gL_toldJar_L_at : GoodIn wsL_toldJar (va_wsS RL 54 yL_at wsL_at) := goodIn_app (goodIn_of _ (by decide +kernel)) ggL_toldJar_L_at
set_option maxRecDepth 20000 in
theorem ggL_toldJar_X5_purest : GoodIn wsL_toldJar wsX5_purest := goodIn_ca (goodIn_r _ [151, 7, 8, 13, 14, 5, 15, 16, 17, 152, 153, 154, 26, 155, 32, 33, 34, 35, 36, 28, 29, 30, 31, 168, 169, 170, 171, 172, 173, 174, 175, 176, 177, 178] (by decide +kernel) (by decide +kernel)) (goodIn_sub (fun _ h => List.mem_cons_of_mem _ (List.mem_append_left _ (List.mem_append_right _ h))) (by decide +kernel))
set_option maxRecDepth 20000 in
theorem gL_toldJar_X5_purest : GoodIn wsL_toldJar (wsV RL 57 RX5 yX5_purest wsX5_purest) := goodIn_app (goodIn_of _ (by decide +kernel)) ggL_toldJar_X5_purest
set_option maxRecDepth 20000 in
theorem ggL_toldJar_X5_meanDepth : GoodIn wsL_toldJar wsX5_meanDepth := goodIn_ca (goodIn_r _ [159, 7, 8, 13, 14, 5, 15, 16, 17, 160, 111, 112, 26, 113, 114, 115, 116, 117, 28, 29, 30, 31, 32, 33, 34, 35, 36, 161, 162, 163, 164, 168, 169, 170, 171, 172, 173, 174, 175, 176, 177, 178] (by decide +kernel) (by decide +kernel)) (goodIn_sub (fun _ h => List.mem_cons_of_mem _ (List.mem_append_left _ (List.mem_append_right _ h))) (by decide +kernel))
set_option maxRecDepth 20000 in
theorem gL_toldJar_X5_meanDepth : GoodIn wsL_toldJar (wsV RL 60 RX5 yX5_meanDepth wsX5_meanDepth) := goodIn_app (goodIn_of _ (by decide +kernel)) ggL_toldJar_X5_meanDepth
set_option maxRecDepth 20000 in
theorem ggL_toldJar_L_step : GoodIn wsL_toldJar wsL_step := goodIn_r _ [167, 91, 92, 83, 93, 94, 88, 89, 90, 95, 96, 97, 98, 85, 86, 87] (by decide +kernel) (by decide +kernel)
set_option maxRecDepth 20000 in
theorem gL_toldJar_L_step : GoodIn wsL_toldJar (va_wsS RL 64 yL_step wsL_step) := goodIn_app (goodIn_of _ (by decide +kernel)) ggL_toldJar_L_step
theorem dL_toldJar_0 : decode cL_toldJar 0 = .ok (.bipush 48, 2) := by decide +kernel
theorem dL_toldJar_2 : decode cL_toldJar 2 = .ok (.newarray .int, 2) := by decide +kernel
theorem dL_toldJar_4 : decode cL_toldJar 4 = .ok (.astore 5, 2) := by decide +kernel
theorem dL_toldJar_6 : decode cL_toldJar 6 = .ok (.lconst 0, 1) := by decide +kernel
theorem dL_toldJar_7 : decode cL_toldJar 7 = .ok (.lstore 6, 2) := by decide +kernel
theorem dL_toldJar_9 : decode cL_toldJar 9 = .ok (.iconst 0, 1) := by decide +kernel
theorem dL_toldJar_10 : decode cL_toldJar 10 = .ok (.istore 8, 2) := by decide +kernel
theorem dL_toldJar_12 : decode cL_toldJar 12 = .ok (.iload 8, 2) := by decide +kernel
theorem dL_toldJar_14 : decode cL_toldJar 14 = .ok (.bipush 12, 2) := by decide +kernel
theorem dL_toldJar_16 : decode cL_toldJar 16 = .ok (.if_icmp .ge 221, 3) := by decide +kernel
theorem dL_toldJar_19 : decode cL_toldJar 19 = .ok (.iconst 0, 1) := by decide +kernel
theorem dL_toldJar_20 : decode cL_toldJar 20 = .ok (.istore 9, 2) := by decide +kernel
theorem dL_toldJar_22 : decode cL_toldJar 22 = .ok (.iload 9, 2) := by decide +kernel
theorem dL_toldJar_24 : decode cL_toldJar 24 = .ok (.iconst 4, 1) := by decide +kernel
theorem dL_toldJar_25 : decode cL_toldJar 25 = .ok (.if_icmp .ge 54, 3) := by decide +kernel
theorem dL_toldJar_28 : decode cL_toldJar 28 = .ok (.aload_n 0, 1) := by decide +kernel
theorem dL_toldJar_29 : decode cL_toldJar 29 = .ok (.iload_n 1, 1) := by decide +kernel
theorem dL_toldJar_30 : decode cL_toldJar 30 = .ok (.iload 8, 2) := by decide +kernel
theorem dL_toldJar_32 : decode cL_toldJar 32 = .ok (.iload 9, 2) := by decide +kernel
theorem dL_toldJar_34 : decode cL_toldJar 34 = .ok (.invokevirtual 35, 3) := by decide +kernel
theorem dL_toldJar_37 : decode cL_toldJar 37 = .ok (.aload_n 3, 1) := by decide +kernel
theorem dL_toldJar_38 : decode cL_toldJar 38 = .ok (.iconst 4, 1) := by decide +kernel
theorem dL_toldJar_39 : decode cL_toldJar 39 = .ok (.iload 8, 2) := by decide +kernel
theorem dL_toldJar_41 : decode cL_toldJar 41 = .ok (.imul, 1) := by decide +kernel
theorem dL_toldJar_42 : decode cL_toldJar 42 = .ok (.iload 9, 2) := by decide +kernel
theorem dL_toldJar_44 : decode cL_toldJar 44 = .ok (.iadd, 1) := by decide +kernel
theorem dL_toldJar_45 : decode cL_toldJar 45 = .ok (.iaload, 1) := by decide +kernel
theorem dL_toldJar_46 : decode cL_toldJar 46 = .ok (.if_icmp .ne 25, 3) := by decide +kernel
theorem dL_toldJar_49 : decode cL_toldJar 49 = .ok (.aload_n 0, 1) := by decide +kernel
theorem dL_toldJar_50 : decode cL_toldJar 50 = .ok (.iload_n 1, 1) := by decide +kernel
theorem dL_toldJar_51 : decode cL_toldJar 51 = .ok (.iload 8, 2) := by decide +kernel
theorem dL_toldJar_53 : decode cL_toldJar 53 = .ok (.iload 9, 2) := by decide +kernel
theorem dL_toldJar_55 : decode cL_toldJar 55 = .ok (.invokevirtual 41, 3) := by decide +kernel
theorem dL_toldJar_58 : decode cL_toldJar 58 = .ok (.aload_n 3, 1) := by decide +kernel
theorem dL_toldJar_59 : decode cL_toldJar 59 = .ok (.iload 8, 2) := by decide +kernel
theorem dL_toldJar_61 : decode cL_toldJar 61 = .ok (.iload 9, 2) := by decide +kernel
theorem dL_toldJar_63 : decode cL_toldJar 63 = .ok (.aload 4, 2) := by decide +kernel
theorem dL_toldJar_65 : decode cL_toldJar 65 = .ok (.invokestatic 44, 3) := by decide +kernel
theorem dL_toldJar_68 : decode cL_toldJar 68 = .ok (.if_icmp .eq 5, 3) := by decide +kernel
theorem dL_toldJar_71 : decode cL_toldJar 71 = .ok (.iconst 0, 1) := by decide +kernel
theorem dL_toldJar_72 : decode cL_toldJar 72 = .ok (.ireturn, 1) := by decide +kernel
theorem dL_toldJar_73 : decode cL_toldJar 73 = .ok (.iinc 9 1, 3) := by decide +kernel
theorem dL_toldJar_76 : decode cL_toldJar 76 = .ok (.goto (-54), 3) := by decide +kernel
theorem dL_toldJar_79 : decode cL_toldJar 79 = .ok (.aload_n 0, 1) := by decide +kernel
theorem dL_toldJar_80 : decode cL_toldJar 80 = .ok (.iload_n 1, 1) := by decide +kernel
theorem dL_toldJar_81 : decode cL_toldJar 81 = .ok (.iload 8, 2) := by decide +kernel
theorem dL_toldJar_83 : decode cL_toldJar 83 = .ok (.iconst 4, 1) := by decide +kernel
theorem dL_toldJar_84 : decode cL_toldJar 84 = .ok (.invokevirtual 35, 3) := by decide +kernel
theorem dL_toldJar_87 : decode cL_toldJar 87 = .ok (.aload_n 3, 1) := by decide +kernel
theorem dL_toldJar_88 : decode cL_toldJar 88 = .ok (.iload 8, 2) := by decide +kernel
theorem dL_toldJar_90 : decode cL_toldJar 90 = .ok (.invokestatic 9, 3) := by decide +kernel
theorem dL_toldJar_93 : decode cL_toldJar 93 = .ok (.if_icmp .ne 120, 3) := by decide +kernel
theorem dL_toldJar_96 : decode cL_toldJar 96 = .ok (.aload_n 0, 1) := by decide +kernel
theorem dL_toldJar_97 : decode cL_toldJar 97 = .ok (.iload_n 1, 1) := by decide +kernel
theorem dL_toldJar_98 : decode cL_toldJar 98 = .ok (.iload 8, 2) := by decide +kernel
theorem dL_toldJar_100 : decode cL_toldJar 100 = .ok (.iconst 5, 1) := by decide +kernel
theorem dL_toldJar_101 : decode cL_toldJar 101 = .ok (.invokevirtual 35, 3) := by decide +kernel
theorem dL_toldJar_104 : decode cL_toldJar 104 = .ok (.aload_n 3, 1) := by decide +kernel
theorem dL_toldJar_105 : decode cL_toldJar 105 = .ok (.iload 8, 2) := by decide +kernel
theorem dL_toldJar_107 : decode cL_toldJar 107 = .ok (.invokestatic 9, 3) := by decide +kernel
theorem dL_toldJar_110 : decode cL_toldJar 110 = .ok (.aload 4, 2) := by decide +kernel
theorem dL_toldJar_112 : decode cL_toldJar 112 = .ok (.iconst 1, 1) := by decide +kernel
theorem dL_toldJar_113 : decode cL_toldJar 113 = .ok (.iaload, 1) := by decide +kernel
theorem dL_toldJar_114 : decode cL_toldJar 114 = .ok (.if_icmp .lt 7, 3) := by decide +kernel
theorem dL_toldJar_117 : decode cL_toldJar 117 = .ok (.iconst 1, 1) := by decide +kernel
theorem dL_toldJar_118 : decode cL_toldJar 118 = .ok (.goto 4, 3) := by decide +kernel
theorem dL_toldJar_121 : decode cL_toldJar 121 = .ok (.iconst 0, 1) := by decide +kernel
theorem dL_toldJar_122 : decode cL_toldJar 122 = .ok (.if_icmp .ne 91, 3) := by decide +kernel
theorem dL_toldJar_125 : decode cL_toldJar 125 = .ok (.aload_n 0, 1) := by decide +kernel
theorem dL_toldJar_126 : decode cL_toldJar 126 = .ok (.iload_n 1, 1) := by decide +kernel
theorem dL_toldJar_127 : decode cL_toldJar 127 = .ok (.iload 8, 2) := by decide +kernel
theorem dL_toldJar_129 : decode cL_toldJar 129 = .ok (.bipush 6, 2) := by decide +kernel
theorem dL_toldJar_131 : decode cL_toldJar 131 = .ok (.invokevirtual 35, 3) := by decide +kernel
theorem dL_toldJar_134 : decode cL_toldJar 134 = .ok (.aload_n 3, 1) := by decide +kernel
theorem dL_toldJar_135 : decode cL_toldJar 135 = .ok (.iload 8, 2) := by decide +kernel
theorem dL_toldJar_137 : decode cL_toldJar 137 = .ok (.invokestatic 9, 3) := by decide +kernel
theorem dL_toldJar_140 : decode cL_toldJar 140 = .ok (.aload 4, 2) := by decide +kernel
theorem dL_toldJar_142 : decode cL_toldJar 142 = .ok (.iconst 2, 1) := by decide +kernel
theorem dL_toldJar_143 : decode cL_toldJar 143 = .ok (.iaload, 1) := by decide +kernel
theorem dL_toldJar_144 : decode cL_toldJar 144 = .ok (.if_icmp .gt 7, 3) := by decide +kernel
theorem dL_toldJar_147 : decode cL_toldJar 147 = .ok (.iconst 1, 1) := by decide +kernel
theorem dL_toldJar_148 : decode cL_toldJar 148 = .ok (.goto 4, 3) := by decide +kernel
theorem dL_toldJar_151 : decode cL_toldJar 151 = .ok (.iconst 0, 1) := by decide +kernel
theorem dL_toldJar_152 : decode cL_toldJar 152 = .ok (.if_icmp .ne 61, 3) := by decide +kernel
theorem dL_toldJar_155 : decode cL_toldJar 155 = .ok (.aload_n 0, 1) := by decide +kernel
theorem dL_toldJar_156 : decode cL_toldJar 156 = .ok (.iload_n 1, 1) := by decide +kernel
theorem dL_toldJar_157 : decode cL_toldJar 157 = .ok (.iload 8, 2) := by decide +kernel
theorem dL_toldJar_159 : decode cL_toldJar 159 = .ok (.bipush 7, 2) := by decide +kernel
theorem dL_toldJar_161 : decode cL_toldJar 161 = .ok (.invokevirtual 35, 3) := by decide +kernel
theorem dL_toldJar_164 : decode cL_toldJar 164 = .ok (.aload_n 3, 1) := by decide +kernel
theorem dL_toldJar_165 : decode cL_toldJar 165 = .ok (.iload 8, 2) := by decide +kernel
theorem dL_toldJar_167 : decode cL_toldJar 167 = .ok (.invokestatic 32, 3) := by decide +kernel
theorem dL_toldJar_170 : decode cL_toldJar 170 = .ok (.if_icmp .ne 43, 3) := by decide +kernel
theorem dL_toldJar_173 : decode cL_toldJar 173 = .ok (.aload_n 0, 1) := by decide +kernel
theorem dL_toldJar_174 : decode cL_toldJar 174 = .ok (.iload_n 1, 1) := by decide +kernel
theorem dL_toldJar_175 : decode cL_toldJar 175 = .ok (.iload 8, 2) := by decide +kernel
theorem dL_toldJar_177 : decode cL_toldJar 177 = .ok (.bipush 8, 2) := by decide +kernel
theorem dL_toldJar_179 : decode cL_toldJar 179 = .ok (.invokevirtual 35, 3) := by decide +kernel
theorem dL_toldJar_182 : decode cL_toldJar 182 = .ok (.aload_n 3, 1) := by decide +kernel
theorem dL_toldJar_183 : decode cL_toldJar 183 = .ok (.iload 8, 2) := by decide +kernel
theorem dL_toldJar_185 : decode cL_toldJar 185 = .ok (.aload 4, 2) := by decide +kernel
theorem dL_toldJar_187 : decode cL_toldJar 187 = .ok (.invokestatic 17, 3) := by decide +kernel
theorem dL_toldJar_190 : decode cL_toldJar 190 = .ok (.if_icmp .ne 23, 3) := by decide +kernel
theorem dL_toldJar_193 : decode cL_toldJar 193 = .ok (.aload_n 0, 1) := by decide +kernel
theorem dL_toldJar_194 : decode cL_toldJar 194 = .ok (.iload_n 1, 1) := by decide +kernel
theorem dL_toldJar_195 : decode cL_toldJar 195 = .ok (.iload 8, 2) := by decide +kernel
theorem dL_toldJar_197 : decode cL_toldJar 197 = .ok (.bipush 9, 2) := by decide +kernel
theorem dL_toldJar_199 : decode cL_toldJar 199 = .ok (.invokevirtual 35, 3) := by decide +kernel
theorem dL_toldJar_202 : decode cL_toldJar 202 = .ok (.aload_n 3, 1) := by decide +kernel
theorem dL_toldJar_203 : decode cL_toldJar 203 = .ok (.iload 8, 2) := by decide +kernel
theorem dL_toldJar_205 : decode cL_toldJar 205 = .ok (.aload 4, 2) := by decide +kernel
theorem dL_toldJar_207 : decode cL_toldJar 207 = .ok (.invokestatic 25, 3) := by decide +kernel
theorem dL_toldJar_210 : decode cL_toldJar 210 = .ok (.if_icmp .eq 5, 3) := by decide +kernel
theorem dL_toldJar_213 : decode cL_toldJar 213 = .ok (.iconst 0, 1) := by decide +kernel
theorem dL_toldJar_214 : decode cL_toldJar 214 = .ok (.ireturn, 1) := by decide +kernel
theorem dL_toldJar_215 : decode cL_toldJar 215 = .ok (.lload 6, 2) := by decide +kernel
theorem dL_toldJar_217 : decode cL_toldJar 217 = .ok (.iload 8, 2) := by decide +kernel
theorem dL_toldJar_219 : decode cL_toldJar 219 = .ok (.i2l, 1) := by decide +kernel
theorem dL_toldJar_220 : decode cL_toldJar 220 = .ok (.aload_n 3, 1) := by decide +kernel
theorem dL_toldJar_221 : decode cL_toldJar 221 = .ok (.iload 8, 2) := by decide +kernel
theorem dL_toldJar_223 : decode cL_toldJar 223 = .ok (.invokestatic 9, 3) := by decide +kernel
theorem dL_toldJar_226 : decode cL_toldJar 226 = .ok (.i2l, 1) := by decide +kernel
theorem dL_toldJar_227 : decode cL_toldJar 227 = .ok (.lmul, 1) := by decide +kernel
theorem dL_toldJar_228 : decode cL_toldJar 228 = .ok (.ladd, 1) := by decide +kernel
theorem dL_toldJar_229 : decode cL_toldJar 229 = .ok (.lstore 6, 2) := by decide +kernel
theorem dL_toldJar_231 : decode cL_toldJar 231 = .ok (.iinc 8 1, 3) := by decide +kernel
theorem dL_toldJar_234 : decode cL_toldJar 234 = .ok (.goto (-222), 3) := by decide +kernel
theorem dL_toldJar_237 : decode cL_toldJar 237 = .ok (.iconst 0, 1) := by decide +kernel
theorem dL_toldJar_238 : decode cL_toldJar 238 = .ok (.istore 8, 2) := by decide +kernel
theorem dL_toldJar_240 : decode cL_toldJar 240 = .ok (.iload 8, 2) := by decide +kernel
theorem dL_toldJar_242 : decode cL_toldJar 242 = .ok (.bipush 9, 2) := by decide +kernel
theorem dL_toldJar_244 : decode cL_toldJar 244 = .ok (.if_icmp .ge 29, 3) := by decide +kernel
theorem dL_toldJar_247 : decode cL_toldJar 247 = .ok (.aload_n 0, 1) := by decide +kernel
theorem dL_toldJar_248 : decode cL_toldJar 248 = .ok (.iload_n 1, 1) := by decide +kernel
theorem dL_toldJar_249 : decode cL_toldJar 249 = .ok (.iload 8, 2) := by decide +kernel
theorem dL_toldJar_251 : decode cL_toldJar 251 = .ok (.invokevirtual 47, 3) := by decide +kernel
theorem dL_toldJar_254 : decode cL_toldJar 254 = .ok (.aload_n 3, 1) := by decide +kernel
theorem dL_toldJar_255 : decode cL_toldJar 255 = .ok (.iload 8, 2) := by decide +kernel
theorem dL_toldJar_257 : decode cL_toldJar 257 = .ok (.aload 4, 2) := by decide +kernel
theorem dL_toldJar_259 : decode cL_toldJar 259 = .ok (.invokestatic 51, 3) := by decide +kernel
theorem dL_toldJar_262 : decode cL_toldJar 262 = .ok (.if_icmp .eq 5, 3) := by decide +kernel
theorem dL_toldJar_265 : decode cL_toldJar 265 = .ok (.iconst 0, 1) := by decide +kernel
theorem dL_toldJar_266 : decode cL_toldJar 266 = .ok (.ireturn, 1) := by decide +kernel
theorem dL_toldJar_267 : decode cL_toldJar 267 = .ok (.iinc 8 1, 3) := by decide +kernel
theorem dL_toldJar_270 : decode cL_toldJar 270 = .ok (.goto (-30), 3) := by decide +kernel
theorem dL_toldJar_273 : decode cL_toldJar 273 = .ok (.iload_n 2, 1) := by decide +kernel
theorem dL_toldJar_274 : decode cL_toldJar 274 = .ok (.iconst 4, 1) := by decide +kernel
theorem dL_toldJar_275 : decode cL_toldJar 275 = .ok (.invokestatic 54, 3) := by decide +kernel
theorem dL_toldJar_278 : decode cL_toldJar 278 = .ok (.istore 8, 2) := by decide +kernel
theorem dL_toldJar_280 : decode cL_toldJar 280 = .ok (.iconst (-1), 1) := by decide +kernel
theorem dL_toldJar_281 : decode cL_toldJar 281 = .ok (.istore 9, 2) := by decide +kernel
theorem dL_toldJar_283 : decode cL_toldJar 283 = .ok (.bipush 11, 2) := by decide +kernel
theorem dL_toldJar_285 : decode cL_toldJar 285 = .ok (.istore 10, 2) := by decide +kernel
theorem dL_toldJar_287 : decode cL_toldJar 287 = .ok (.iload 10, 2) := by decide +kernel
theorem dL_toldJar_289 : decode cL_toldJar 289 = .ok (.ifCond .lt 70, 3) := by decide +kernel
theorem dL_toldJar_292 : decode cL_toldJar 292 = .ok (.aload_n 3, 1) := by decide +kernel
theorem dL_toldJar_293 : decode cL_toldJar 293 = .ok (.iconst 4, 1) := by decide +kernel
theorem dL_toldJar_294 : decode cL_toldJar 294 = .ok (.iload 10, 2) := by decide +kernel
theorem dL_toldJar_296 : decode cL_toldJar 296 = .ok (.imul, 1) := by decide +kernel
theorem dL_toldJar_297 : decode cL_toldJar 297 = .ok (.iload 8, 2) := by decide +kernel
theorem dL_toldJar_299 : decode cL_toldJar 299 = .ok (.iadd, 1) := by decide +kernel
theorem dL_toldJar_300 : decode cL_toldJar 300 = .ok (.iaload, 1) := by decide +kernel
theorem dL_toldJar_301 : decode cL_toldJar 301 = .ok (.ifCond .le 52, 3) := by decide +kernel
theorem dL_toldJar_304 : decode cL_toldJar 304 = .ok (.iload 9, 2) := by decide +kernel
theorem dL_toldJar_306 : decode cL_toldJar 306 = .ok (.ifCond .lt 43, 3) := by decide +kernel
theorem dL_toldJar_309 : decode cL_toldJar 309 = .ok (.aload_n 3, 1) := by decide +kernel
theorem dL_toldJar_310 : decode cL_toldJar 310 = .ok (.iconst 4, 1) := by decide +kernel
theorem dL_toldJar_311 : decode cL_toldJar 311 = .ok (.iload 10, 2) := by decide +kernel
theorem dL_toldJar_313 : decode cL_toldJar 313 = .ok (.imul, 1) := by decide +kernel
theorem dL_toldJar_314 : decode cL_toldJar 314 = .ok (.iload 8, 2) := by decide +kernel
theorem dL_toldJar_316 : decode cL_toldJar 316 = .ok (.iadd, 1) := by decide +kernel
theorem dL_toldJar_317 : decode cL_toldJar 317 = .ok (.iaload, 1) := by decide +kernel
theorem dL_toldJar_318 : decode cL_toldJar 318 = .ok (.i2l, 1) := by decide +kernel
theorem dL_toldJar_319 : decode cL_toldJar 319 = .ok (.aload_n 3, 1) := by decide +kernel
theorem dL_toldJar_320 : decode cL_toldJar 320 = .ok (.iload 9, 2) := by decide +kernel
theorem dL_toldJar_322 : decode cL_toldJar 322 = .ok (.invokestatic 9, 3) := by decide +kernel
theorem dL_toldJar_325 : decode cL_toldJar 325 = .ok (.i2l, 1) := by decide +kernel
theorem dL_toldJar_326 : decode cL_toldJar 326 = .ok (.lmul, 1) := by decide +kernel
theorem dL_toldJar_327 : decode cL_toldJar 327 = .ok (.aload_n 3, 1) := by decide +kernel
theorem dL_toldJar_328 : decode cL_toldJar 328 = .ok (.iconst 4, 1) := by decide +kernel
theorem dL_toldJar_329 : decode cL_toldJar 329 = .ok (.iload 9, 2) := by decide +kernel
theorem dL_toldJar_331 : decode cL_toldJar 331 = .ok (.imul, 1) := by decide +kernel
theorem dL_toldJar_332 : decode cL_toldJar 332 = .ok (.iload 8, 2) := by decide +kernel
theorem dL_toldJar_334 : decode cL_toldJar 334 = .ok (.iadd, 1) := by decide +kernel
theorem dL_toldJar_335 : decode cL_toldJar 335 = .ok (.iaload, 1) := by decide +kernel
theorem dL_toldJar_336 : decode cL_toldJar 336 = .ok (.i2l, 1) := by decide +kernel
theorem dL_toldJar_337 : decode cL_toldJar 337 = .ok (.aload_n 3, 1) := by decide +kernel
theorem dL_toldJar_338 : decode cL_toldJar 338 = .ok (.iload 10, 2) := by decide +kernel
theorem dL_toldJar_340 : decode cL_toldJar 340 = .ok (.invokestatic 9, 3) := by decide +kernel
theorem dL_toldJar_343 : decode cL_toldJar 343 = .ok (.i2l, 1) := by decide +kernel
theorem dL_toldJar_344 : decode cL_toldJar 344 = .ok (.lmul, 1) := by decide +kernel
theorem dL_toldJar_345 : decode cL_toldJar 345 = .ok (.lcmp, 1) := by decide +kernel
theorem dL_toldJar_346 : decode cL_toldJar 346 = .ok (.ifCond .lt 7, 3) := by decide +kernel
theorem dL_toldJar_349 : decode cL_toldJar 349 = .ok (.iload 10, 2) := by decide +kernel
theorem dL_toldJar_351 : decode cL_toldJar 351 = .ok (.istore 9, 2) := by decide +kernel
theorem dL_toldJar_353 : decode cL_toldJar 353 = .ok (.iinc 10 (-1), 3) := by decide +kernel
theorem dL_toldJar_356 : decode cL_toldJar 356 = .ok (.goto (-69), 3) := by decide +kernel
theorem dL_toldJar_359 : decode cL_toldJar 359 = .ok (.aload_n 3, 1) := by decide +kernel
theorem dL_toldJar_360 : decode cL_toldJar 360 = .ok (.iconst 0, 1) := by decide +kernel
theorem dL_toldJar_361 : decode cL_toldJar 361 = .ok (.aload 4, 2) := by decide +kernel
theorem dL_toldJar_363 : decode cL_toldJar 363 = .ok (.invokestatic 51, 3) := by decide +kernel
theorem dL_toldJar_366 : decode cL_toldJar 366 = .ok (.istore 10, 2) := by decide +kernel
theorem dL_toldJar_368 : decode cL_toldJar 368 = .ok (.aload_n 0, 1) := by decide +kernel
theorem dL_toldJar_369 : decode cL_toldJar 369 = .ok (.iload_n 1, 1) := by decide +kernel
theorem dL_toldJar_370 : decode cL_toldJar 370 = .ok (.iload 8, 2) := by decide +kernel
theorem dL_toldJar_372 : decode cL_toldJar 372 = .ok (.invokevirtual 57, 3) := by decide +kernel
theorem dL_toldJar_375 : decode cL_toldJar 375 = .ok (.iload 9, 2) := by decide +kernel
theorem dL_toldJar_377 : decode cL_toldJar 377 = .ok (.if_icmp .ne 30, 3) := by decide +kernel
theorem dL_toldJar_380 : decode cL_toldJar 380 = .ok (.aload_n 0, 1) := by decide +kernel
theorem dL_toldJar_381 : decode cL_toldJar 381 = .ok (.iload_n 1, 1) := by decide +kernel
theorem dL_toldJar_382 : decode cL_toldJar 382 = .ok (.invokevirtual 60, 3) := by decide +kernel
theorem dL_toldJar_385 : decode cL_toldJar 385 = .ok (.iload 10, 2) := by decide +kernel
theorem dL_toldJar_387 : decode cL_toldJar 387 = .ok (.ifCond .ne 7, 3) := by decide +kernel
theorem dL_toldJar_390 : decode cL_toldJar 390 = .ok (.dconst 0, 1) := by decide +kernel
theorem dL_toldJar_391 : decode cL_toldJar 391 = .ok (.goto 12, 3) := by decide +kernel
theorem dL_toldJar_394 : decode cL_toldJar 394 = .ok (.dconst 1, 1) := by decide +kernel
theorem dL_toldJar_395 : decode cL_toldJar 395 = .ok (.lload 6, 2) := by decide +kernel
theorem dL_toldJar_397 : decode cL_toldJar 397 = .ok (.l2d, 1) := by decide +kernel
theorem dL_toldJar_398 : decode cL_toldJar 398 = .ok (.dmul, 1) := by decide +kernel
theorem dL_toldJar_399 : decode cL_toldJar 399 = .ok (.iload 10, 2) := by decide +kernel
theorem dL_toldJar_401 : decode cL_toldJar 401 = .ok (.i2d, 1) := by decide +kernel
theorem dL_toldJar_402 : decode cL_toldJar 402 = .ok (.ddiv, 1) := by decide +kernel
theorem dL_toldJar_403 : decode cL_toldJar 403 = .ok (.dcmp .l, 1) := by decide +kernel
theorem dL_toldJar_404 : decode cL_toldJar 404 = .ok (.ifCond .eq 5, 3) := by decide +kernel
theorem dL_toldJar_407 : decode cL_toldJar 407 = .ok (.iconst 0, 1) := by decide +kernel
theorem dL_toldJar_408 : decode cL_toldJar 408 = .ok (.ireturn, 1) := by decide +kernel
theorem dL_toldJar_409 : decode cL_toldJar 409 = .ok (.iconst 0, 1) := by decide +kernel
theorem dL_toldJar_410 : decode cL_toldJar 410 = .ok (.istore 11, 2) := by decide +kernel
theorem dL_toldJar_412 : decode cL_toldJar 412 = .ok (.iload 11, 2) := by decide +kernel
theorem dL_toldJar_414 : decode cL_toldJar 414 = .ok (.bipush 48, 2) := by decide +kernel
theorem dL_toldJar_416 : decode cL_toldJar 416 = .ok (.if_icmp .ge 18, 3) := by decide +kernel
theorem dL_toldJar_419 : decode cL_toldJar 419 = .ok (.aload 5, 2) := by decide +kernel
theorem dL_toldJar_421 : decode cL_toldJar 421 = .ok (.iload 11, 2) := by decide +kernel
theorem dL_toldJar_423 : decode cL_toldJar 423 = .ok (.aload_n 3, 1) := by decide +kernel
theorem dL_toldJar_424 : decode cL_toldJar 424 = .ok (.iload 11, 2) := by decide +kernel
theorem dL_toldJar_426 : decode cL_toldJar 426 = .ok (.iaload, 1) := by decide +kernel
theorem dL_toldJar_427 : decode cL_toldJar 427 = .ok (.iastore, 1) := by decide +kernel
theorem dL_toldJar_428 : decode cL_toldJar 428 = .ok (.iinc 11 1, 3) := by decide +kernel
theorem dL_toldJar_431 : decode cL_toldJar 431 = .ok (.goto (-19), 3) := by decide +kernel
theorem dL_toldJar_434 : decode cL_toldJar 434 = .ok (.aload_n 0, 1) := by decide +kernel
theorem dL_toldJar_435 : decode cL_toldJar 435 = .ok (.iload_n 1, 1) := by decide +kernel
theorem dL_toldJar_436 : decode cL_toldJar 436 = .ok (.bipush 9, 2) := by decide +kernel
theorem dL_toldJar_438 : decode cL_toldJar 438 = .ok (.invokevirtual 47, 3) := by decide +kernel
theorem dL_toldJar_441 : decode cL_toldJar 441 = .ok (.aload 5, 2) := by decide +kernel
theorem dL_toldJar_443 : decode cL_toldJar 443 = .ok (.aload 4, 2) := by decide +kernel
theorem dL_toldJar_445 : decode cL_toldJar 445 = .ok (.invokestatic 64, 3) := by decide +kernel
theorem dL_toldJar_448 : decode cL_toldJar 448 = .ok (.ifCond .ne 7, 3) := by decide +kernel
theorem dL_toldJar_451 : decode cL_toldJar 451 = .ok (.iconst 1, 1) := by decide +kernel
theorem dL_toldJar_452 : decode cL_toldJar 452 = .ok (.goto 4, 3) := by decide +kernel
theorem dL_toldJar_455 : decode cL_toldJar 455 = .ok (.iconst 0, 1) := by decide +kernel
theorem dL_toldJar_456 : decode cL_toldJar 456 = .ok (.if_icmp .eq 5, 3) := by decide +kernel
theorem dL_toldJar_459 : decode cL_toldJar 459 = .ok (.iconst 0, 1) := by decide +kernel
theorem dL_toldJar_460 : decode cL_toldJar 460 = .ok (.ireturn, 1) := by decide +kernel
theorem dL_toldJar_461 : decode cL_toldJar 461 = .ok (.iconst 1, 1) := by decide +kernel
theorem dL_toldJar_462 : decode cL_toldJar 462 = .ok (.ireturn, 1) := by decide +kernel
set_option maxRecDepth 20000 in
theorem ggL_told_L_toldJar : GoodIn wsL_told wsL_toldJar := goodIn_ca (goodIn_ca (goodIn_r _ [4, 5, 6, 7, 8, 9, 10, 11, 12, 13, 14, 15, 16, 17, 18, 19, 20, 21, 22, 23, 24, 25, 26, 27, 28, 29, 30, 31, 32, 33, 34, 35, 36, 37, 38, 39, 40, 41, 42, 43, 44, 45, 46, 47, 48, 49, 50, 51, 52, 53, 54, 55, 56, 57, 58, 59, 60, 61, 62, 63, 64, 65, 66, 67, 68, 69, 70, 71, 72, 73, 74, 75, 76, 77, 78, 79, 80, 81, 82, 83, 84, 85, 86, 3, 87, 88, 89, 90, 91, 92, 93, 94, 95, 96, 97, 98, 99, 100, 101, 102, 103, 104, 105, 106, 107, 108, 109, 110, 111, 112, 113, 114, 115, 116, 117, 118, 119, 120, 121, 122, 123, 124, 125, 126, 127, 128, 129, 130, 131, 132, 133, 134, 135, 136, 137, 138, 139, 140, 141, 142, 143, 144, 145, 146, 147, 148, 149, 150, 151, 152, 153, 154, 155, 156, 157, 158, 159, 160, 161, 162, 163, 164, 165, 166, 167, 168, 169, 170, 225, 226, 227, 228, 229, 230, 231, 232, 233, 234, 235, 236, 237] (by decide +kernel) (by decide +kernel)) (goodIn_sub (fun _ h => List.mem_cons_of_mem _ (List.mem_append_left _ (List.mem_append_right _ h))) (by decide +kernel))) (goodIn_sub (fun _ h => List.mem_cons_of_mem _ (List.mem_append_right _ h)) (by decide +kernel))
set_option maxRecDepth 20000 in
theorem gL_told_L_toldJar : GoodIn wsL_told (va_wsS RL 68 yL_toldJar wsL_toldJar) := goodIn_app (goodIn_of _ (by decide +kernel)) ggL_told_L_toldJar
set_option maxRecDepth 20000 in
theorem ggL_told_L_all : GoodIn wsL_told wsL_all := goodIn_r _ [93] (by decide +kernel) (by decide +kernel)
set_option maxRecDepth 20000 in
theorem gL_told_L_all : GoodIn wsL_told (va_wsS RL 9 yL_all wsL_all) := goodIn_app (goodIn_of _ (by decide +kernel)) ggL_told_L_all
set_option maxRecDepth 20000 in
theorem ggL_told_L_prop : GoodIn wsL_told wsL_prop := goodIn_r _ [144, 145, 146, 3, 147, 91, 92, 93, 102, 103, 104] (by decide +kernel) (by decide +kernel)
set_option maxRecDepth 20000 in
theorem gL_told_L_prop : GoodIn wsL_told (va_wsS RL 51 yL_prop wsL_prop) := goodIn_app (goodIn_of _ (by decide +kernel)) ggL_told_L_prop
set_option maxRecDepth 20000 in
theorem ggL_told_X5_setting : GoodIn wsL_told wsX5_setting := goodIn_ca (goodIn_r _ [174, 11, 13, 175, 17, 18, 9, 19, 20, 21, 225, 226, 227, 228, 229, 230, 231, 232, 233, 234, 236, 237] (by decide +kernel) (by decide +kernel)) (goodIn_sub (fun _ h => List.mem_cons_of_mem _ (List.mem_append_left _ (List.mem_append_right _ h))) (by decide +kernel))
set_option maxRecDepth 20000 in
theorem gL_told_X5_setting : GoodIn wsL_told (wsV RL 72 RX5 yX5_setting wsX5_setting) := goodIn_app (goodIn_of _ (by decide +kernel)) ggL_told_X5_setting
set_option maxRecDepth 20000 in
theorem ggL_told_X5_grains : GoodIn wsL_told wsX5_grains := goodIn_ca (goodIn_ca (goodIn_r _ [179, 11, 180, 181, 13, 182, 17, 18, 9, 19, 20, 21, 22, 23, 24, 25, 26, 183, 184, 185, 186, 187, 188, 189, 139, 140, 30, 141, 36, 37, 38, 39, 40, 225, 226, 227, 228, 229, 230, 231, 232, 233, 234, 236, 237, 235] (by decide +kernel) (by decide +kernel)) (goodIn_sub (fun _ h => List.mem_cons_of_mem _ (List.mem_append_left _ (List.mem_append_right _ h))) (by decide +kernel))) (goodIn_sub (fun _ h => List.mem_cons_of_mem _ (List.mem_append_right _ h)) (by decide +kernel))
set_option maxRecDepth 20000 in
theorem gL_told_X5_grains : GoodIn wsL_told (wsV RL 76 RX5 yX5_grains wsX5_grains) := goodIn_app (goodIn_of _ (by decide +kernel)) ggL_told_X5_grains
set_option maxRecDepth 20000 in
theorem ggL_told_X5_count : GoodIn wsL_told wsX5_count := goodIn_ca (goodIn_r _ [193, 11, 194, 195, 196, 22, 23, 9, 24, 25, 26, 197, 198, 199, 186, 200, 188, 201, 114, 115, 30, 116, 117, 118, 119, 120, 32, 33, 34, 35, 36, 37, 38, 39, 40, 202, 203, 204, 205, 206, 207, 208, 209, 210, 41, 42, 43, 44, 45, 46, 211, 212, 213, 214, 215, 216, 217, 218, 47, 48, 49, 50, 219, 220, 221, 222, 223, 224, 225, 226, 227, 228, 229, 230, 231, 232, 233, 234, 235, 236, 237, 238, 239, 240] (by decide +kernel) (by decide +kernel)) (goodIn_sub (fun _ h => List.mem_cons_of_mem _ (List.mem_append_right _ h)) (by decide +kernel))
set_option maxRecDepth 20000 in
theorem gL_told_X5_count : GoodIn wsL_told (wsV RL 79 RX5 yX5_count wsX5_count) := goodIn_app (goodIn_of _ (by decide +kernel)) ggL_told_X5_count
theorem dL_told_0 : decode cL_told 0 = .ok (.aload_n 0, 1) := by decide +kernel
end
section
theorem dL_told_1 : decode cL_told 1 = .ok (.iconst 0, 1) := by decide +kernel
theorem dL_told_2 : decode cL_told 2 = .ok (.iload_n 1, 1) := by decide +kernel
theorem dL_told_3 : decode cL_told 3 = .ok (.aload_n 2, 1) := by decide +kernel
theorem dL_told_4 : decode cL_told 4 = .ok (.aload 5, 2) := by decide +kernel
theorem dL_told_6 : decode cL_told 6 = .ok (.invokestatic 68, 3) := by decide +kernel
theorem dL_told_9 : decode cL_told 9 = .ok (.ifCond .eq 32, 3) := by decide +kernel
theorem dL_told_12 : decode cL_told 12 = .ok (.aload_n 0, 1) := by decide +kernel
theorem dL_told_13 : decode cL_told 13 = .ok (.iconst 1, 1) := by decide +kernel
theorem dL_told_14 : decode cL_told 14 = .ok (.iload_n 1, 1) := by decide +kernel
theorem dL_told_15 : decode cL_told 15 = .ok (.iconst 2, 1) := by decide +kernel
theorem dL_told_16 : decode cL_told 16 = .ok (.ishr, 1) := by decide +kernel
theorem dL_told_17 : decode cL_told 17 = .ok (.aload_n 3, 1) := by decide +kernel
theorem dL_told_18 : decode cL_told 18 = .ok (.aload 5, 2) := by decide +kernel
theorem dL_told_20 : decode cL_told 20 = .ok (.invokestatic 68, 3) := by decide +kernel
theorem dL_told_23 : decode cL_told 23 = .ok (.ifCond .eq 18, 3) := by decide +kernel
theorem dL_told_26 : decode cL_told 26 = .ok (.aload_n 0, 1) := by decide +kernel
theorem dL_told_27 : decode cL_told 27 = .ok (.iconst 2, 1) := by decide +kernel
theorem dL_told_28 : decode cL_told 28 = .ok (.iload_n 1, 1) := by decide +kernel
theorem dL_told_29 : decode cL_told 29 = .ok (.iconst 4, 1) := by decide +kernel
theorem dL_told_30 : decode cL_told 30 = .ok (.ishr, 1) := by decide +kernel
theorem dL_told_31 : decode cL_told 31 = .ok (.aload 4, 2) := by decide +kernel
theorem dL_told_33 : decode cL_told 33 = .ok (.aload 5, 2) := by decide +kernel
theorem dL_told_35 : decode cL_told 35 = .ok (.invokestatic 68, 3) := by decide +kernel
theorem dL_told_38 : decode cL_told 38 = .ok (.ifCond .ne 5, 3) := by decide +kernel
theorem dL_told_41 : decode cL_told 41 = .ok (.iconst 0, 1) := by decide +kernel
theorem dL_told_42 : decode cL_told 42 = .ok (.ireturn, 1) := by decide +kernel
theorem dL_told_43 : decode cL_told 43 = .ok (.iconst 0, 1) := by decide +kernel
theorem dL_told_44 : decode cL_told 44 = .ok (.istore 7, 2) := by decide +kernel
theorem dL_told_46 : decode cL_told 46 = .ok (.iconst 0, 1) := by decide +kernel
theorem dL_told_47 : decode cL_told 47 = .ok (.istore 8, 2) := by decide +kernel
theorem dL_told_49 : decode cL_told 49 = .ok (.iconst 0, 1) := by decide +kernel
theorem dL_told_50 : decode cL_told 50 = .ok (.istore 9, 2) := by decide +kernel
theorem dL_told_52 : decode cL_told 52 = .ok (.iload 9, 2) := by decide +kernel
theorem dL_told_54 : decode cL_told 54 = .ok (.bipush 36, 2) := by decide +kernel
theorem dL_told_56 : decode cL_told 56 = .ok (.if_icmp .ge 81, 3) := by decide +kernel
theorem dL_told_59 : decode cL_told 59 = .ok (.iload 9, 2) := by decide +kernel
theorem dL_told_61 : decode cL_told 61 = .ok (.bipush 12, 2) := by decide +kernel
theorem dL_told_63 : decode cL_told 63 = .ok (.if_icmp .ge 7, 3) := by decide +kernel
theorem dL_told_66 : decode cL_told 66 = .ok (.aload_n 2, 1) := by decide +kernel
theorem dL_told_67 : decode cL_told 67 = .ok (.goto 16, 3) := by decide +kernel
theorem dL_told_70 : decode cL_told 70 = .ok (.iload 9, 2) := by decide +kernel
theorem dL_told_72 : decode cL_told 72 = .ok (.bipush 24, 2) := by decide +kernel
theorem dL_told_74 : decode cL_told 74 = .ok (.if_icmp .ge 7, 3) := by decide +kernel
theorem dL_told_77 : decode cL_told 77 = .ok (.aload_n 3, 1) := by decide +kernel
theorem dL_told_78 : decode cL_told 78 = .ok (.goto 5, 3) := by decide +kernel
theorem dL_told_81 : decode cL_told 81 = .ok (.aload 4, 2) := by decide +kernel
theorem dL_told_83 : decode cL_told 83 = .ok (.iload 9, 2) := by decide +kernel
theorem dL_told_85 : decode cL_told 85 = .ok (.bipush 12, 2) := by decide +kernel
theorem dL_told_87 : decode cL_told 87 = .ok (.irem, 1) := by decide +kernel
theorem dL_told_88 : decode cL_told 88 = .ok (.invokestatic 9, 3) := by decide +kernel
theorem dL_told_91 : decode cL_told 91 = .ok (.istore 10, 2) := by decide +kernel
theorem dL_told_93 : decode cL_told 93 = .ok (.iload 7, 2) := by decide +kernel
theorem dL_told_95 : decode cL_told 95 = .ok (.iload 10, 2) := by decide +kernel
theorem dL_told_97 : decode cL_told 97 = .ok (.aload 5, 2) := by decide +kernel
theorem dL_told_99 : decode cL_told 99 = .ok (.iconst 1, 1) := by decide +kernel
theorem dL_told_100 : decode cL_told 100 = .ok (.iaload, 1) := by decide +kernel
theorem dL_told_101 : decode cL_told 101 = .ok (.if_icmp .lt 7, 3) := by decide +kernel
theorem dL_told_104 : decode cL_told 104 = .ok (.iconst 1, 1) := by decide +kernel
theorem dL_told_105 : decode cL_told 105 = .ok (.goto 4, 3) := by decide +kernel
theorem dL_told_108 : decode cL_told 108 = .ok (.iconst 0, 1) := by decide +kernel
theorem dL_told_109 : decode cL_told 109 = .ok (.iadd, 1) := by decide +kernel
theorem dL_told_110 : decode cL_told 110 = .ok (.istore 7, 2) := by decide +kernel
theorem dL_told_112 : decode cL_told 112 = .ok (.iload 8, 2) := by decide +kernel
theorem dL_told_114 : decode cL_told 114 = .ok (.iload 10, 2) := by decide +kernel
theorem dL_told_116 : decode cL_told 116 = .ok (.aload 5, 2) := by decide +kernel
theorem dL_told_118 : decode cL_told 118 = .ok (.iconst 2, 1) := by decide +kernel
theorem dL_told_119 : decode cL_told 119 = .ok (.iaload, 1) := by decide +kernel
theorem dL_told_120 : decode cL_told 120 = .ok (.if_icmp .gt 7, 3) := by decide +kernel
theorem dL_told_123 : decode cL_told 123 = .ok (.iconst 1, 1) := by decide +kernel
theorem dL_told_124 : decode cL_told 124 = .ok (.goto 4, 3) := by decide +kernel
theorem dL_told_127 : decode cL_told 127 = .ok (.iconst 0, 1) := by decide +kernel
theorem dL_told_128 : decode cL_told 128 = .ok (.iadd, 1) := by decide +kernel
theorem dL_told_129 : decode cL_told 129 = .ok (.istore 8, 2) := by decide +kernel
theorem dL_told_131 : decode cL_told 131 = .ok (.iinc 9 1, 3) := by decide +kernel
theorem dL_told_134 : decode cL_told 134 = .ok (.goto (-82), 3) := by decide +kernel
theorem dL_told_137 : decode cL_told 137 = .ok (.iconst 0, 1) := by decide +kernel
theorem dL_told_138 : decode cL_told 138 = .ok (.istore 9, 2) := by decide +kernel
theorem dL_told_140 : decode cL_told 140 = .ok (.iload 9, 2) := by decide +kernel
theorem dL_told_142 : decode cL_told 142 = .ok (.iconst 4, 1) := by decide +kernel
theorem dL_told_143 : decode cL_told 143 = .ok (.if_icmp .ge 147, 3) := by decide +kernel
theorem dL_told_146 : decode cL_told 146 = .ok (.aload_n 2, 1) := by decide +kernel
theorem dL_told_147 : decode cL_told 147 = .ok (.iload 9, 2) := by decide +kernel
theorem dL_told_149 : decode cL_told 149 = .ok (.iconst 1, 1) := by decide +kernel
theorem dL_told_150 : decode cL_told 150 = .ok (.iadd, 1) := by decide +kernel
theorem dL_told_151 : decode cL_told 151 = .ok (.aload 5, 2) := by decide +kernel
theorem dL_told_153 : decode cL_told 153 = .ok (.invokestatic 51, 3) := by decide +kernel
theorem dL_told_156 : decode cL_told 156 = .ok (.aload_n 3, 1) := by decide +kernel
theorem dL_told_157 : decode cL_told 157 = .ok (.iload 9, 2) := by decide +kernel
theorem dL_told_159 : decode cL_told 159 = .ok (.iconst 1, 1) := by decide +kernel
theorem dL_told_160 : decode cL_told 160 = .ok (.iadd, 1) := by decide +kernel
theorem dL_told_161 : decode cL_told 161 = .ok (.aload 5, 2) := by decide +kernel
theorem dL_told_163 : decode cL_told 163 = .ok (.invokestatic 51, 3) := by decide +kernel
theorem dL_told_166 : decode cL_told 166 = .ok (.iadd, 1) := by decide +kernel
theorem dL_told_167 : decode cL_told 167 = .ok (.aload 4, 2) := by decide +kernel
theorem dL_told_169 : decode cL_told 169 = .ok (.iload 9, 2) := by decide +kernel
theorem dL_told_171 : decode cL_told 171 = .ok (.iconst 1, 1) := by decide +kernel
theorem dL_told_172 : decode cL_told 172 = .ok (.iadd, 1) := by decide +kernel
theorem dL_told_173 : decode cL_told 173 = .ok (.aload 5, 2) := by decide +kernel
theorem dL_told_175 : decode cL_told 175 = .ok (.invokestatic 51, 3) := by decide +kernel
theorem dL_told_178 : decode cL_told 178 = .ok (.iadd, 1) := by decide +kernel
theorem dL_told_179 : decode cL_told 179 = .ok (.istore 10, 2) := by decide +kernel
theorem dL_told_181 : decode cL_told 181 = .ok (.aload_n 0, 1) := by decide +kernel
theorem dL_told_182 : decode cL_told 182 = .ok (.iload 9, 2) := by decide +kernel
theorem dL_told_184 : decode cL_told 184 = .ok (.invokevirtual 72, 3) := by decide +kernel
theorem dL_told_187 : decode cL_told 187 = .ok (.aload 5, 2) := by decide +kernel
theorem dL_told_189 : decode cL_told 189 = .ok (.iload 9, 2) := by decide +kernel
theorem dL_told_191 : decode cL_told 191 = .ok (.iaload, 1) := by decide +kernel
theorem dL_told_192 : decode cL_told 192 = .ok (.if_icmp .ne 90, 3) := by decide +kernel
theorem dL_told_195 : decode cL_told 195 = .ok (.aload_n 0, 1) := by decide +kernel
theorem dL_told_196 : decode cL_told 196 = .ok (.iload 9, 2) := by decide +kernel
theorem dL_told_198 : decode cL_told 198 = .ok (.iconst 0, 1) := by decide +kernel
theorem dL_told_199 : decode cL_told 199 = .ok (.invokevirtual 76, 3) := by decide +kernel
theorem dL_told_202 : decode cL_told 202 = .ok (.aload 5, 2) := by decide +kernel
theorem dL_told_204 : decode cL_told 204 = .ok (.bipush 8, 2) := by decide +kernel
theorem dL_told_206 : decode cL_told 206 = .ok (.iload 9, 2) := by decide +kernel
theorem dL_told_208 : decode cL_told 208 = .ok (.iadd, 1) := by decide +kernel
theorem dL_told_209 : decode cL_told 209 = .ok (.iaload, 1) := by decide +kernel
theorem dL_told_210 : decode cL_told 210 = .ok (.if_icmp .ne 72, 3) := by decide +kernel
theorem dL_told_213 : decode cL_told 213 = .ok (.aload_n 0, 1) := by decide +kernel
theorem dL_told_214 : decode cL_told 214 = .ok (.iload 9, 2) := by decide +kernel
theorem dL_told_216 : decode cL_told 216 = .ok (.iconst 1, 1) := by decide +kernel
theorem dL_told_217 : decode cL_told 217 = .ok (.invokevirtual 76, 3) := by decide +kernel
theorem dL_told_220 : decode cL_told 220 = .ok (.aload 5, 2) := by decide +kernel
theorem dL_told_222 : decode cL_told 222 = .ok (.bipush 12, 2) := by decide +kernel
theorem dL_told_224 : decode cL_told 224 = .ok (.iload 9, 2) := by decide +kernel
theorem dL_told_226 : decode cL_told 226 = .ok (.iadd, 1) := by decide +kernel
theorem dL_told_227 : decode cL_told 227 = .ok (.iaload, 1) := by decide +kernel
theorem dL_told_228 : decode cL_told 228 = .ok (.if_icmp .ne 54, 3) := by decide +kernel
theorem dL_told_231 : decode cL_told 231 = .ok (.aload_n 0, 1) := by decide +kernel
theorem dL_told_232 : decode cL_told 232 = .ok (.iload 9, 2) := by decide +kernel
theorem dL_told_234 : decode cL_told 234 = .ok (.iconst 2, 1) := by decide +kernel
theorem dL_told_235 : decode cL_told 235 = .ok (.invokevirtual 76, 3) := by decide +kernel
theorem dL_told_238 : decode cL_told 238 = .ok (.iload 10, 2) := by decide +kernel
theorem dL_told_240 : decode cL_told 240 = .ok (.if_icmp .ne 42, 3) := by decide +kernel
theorem dL_told_243 : decode cL_told 243 = .ok (.aload_n 0, 1) := by decide +kernel
theorem dL_told_244 : decode cL_told 244 = .ok (.iload 9, 2) := by decide +kernel
theorem dL_told_246 : decode cL_told 246 = .ok (.iconst 3, 1) := by decide +kernel
theorem dL_told_247 : decode cL_told 247 = .ok (.invokevirtual 76, 3) := by decide +kernel
theorem dL_told_250 : decode cL_told 250 = .ok (.aload 5, 2) := by decide +kernel
theorem dL_told_252 : decode cL_told 252 = .ok (.iconst 4, 1) := by decide +kernel
theorem dL_told_253 : decode cL_told 253 = .ok (.iload 9, 2) := by decide +kernel
theorem dL_told_255 : decode cL_told 255 = .ok (.iadd, 1) := by decide +kernel
theorem dL_told_256 : decode cL_told 256 = .ok (.iaload, 1) := by decide +kernel
theorem dL_told_257 : decode cL_told 257 = .ok (.if_icmp .ne 25, 3) := by decide +kernel
theorem dL_told_260 : decode cL_told 260 = .ok (.iload 10, 2) := by decide +kernel
theorem dL_told_262 : decode cL_told 262 = .ok (.aload 5, 2) := by decide +kernel
theorem dL_told_264 : decode cL_told 264 = .ok (.bipush 8, 2) := by decide +kernel
theorem dL_told_266 : decode cL_told 266 = .ok (.iload 9, 2) := by decide +kernel
theorem dL_told_268 : decode cL_told 268 = .ok (.iadd, 1) := by decide +kernel
theorem dL_told_269 : decode cL_told 269 = .ok (.iaload, 1) := by decide +kernel
theorem dL_told_270 : decode cL_told 270 = .ok (.aload 5, 2) := by decide +kernel
theorem dL_told_272 : decode cL_told 272 = .ok (.bipush 12, 2) := by decide +kernel
theorem dL_told_274 : decode cL_told 274 = .ok (.iload 9, 2) := by decide +kernel
theorem dL_told_276 : decode cL_told 276 = .ok (.iadd, 1) := by decide +kernel
theorem dL_told_277 : decode cL_told 277 = .ok (.iaload, 1) := by decide +kernel
theorem dL_told_278 : decode cL_told 278 = .ok (.isub, 1) := by decide +kernel
theorem dL_told_279 : decode cL_told 279 = .ok (.if_icmp .eq 5, 3) := by decide +kernel
theorem dL_told_282 : decode cL_told 282 = .ok (.iconst 0, 1) := by decide +kernel
theorem dL_told_283 : decode cL_told 283 = .ok (.ireturn, 1) := by decide +kernel
theorem dL_told_284 : decode cL_told 284 = .ok (.iinc 9 1, 3) := by decide +kernel
theorem dL_told_287 : decode cL_told 287 = .ok (.goto (-147), 3) := by decide +kernel
theorem dL_told_290 : decode cL_told 290 = .ok (.aload_n 0, 1) := by decide +kernel
theorem dL_told_291 : decode cL_told 291 = .ok (.iconst 0, 1) := by decide +kernel
theorem dL_told_292 : decode cL_told 292 = .ok (.invokevirtual 79, 3) := by decide +kernel
theorem dL_told_295 : decode cL_told 295 = .ok (.aload 6, 2) := by decide +kernel
theorem dL_told_297 : decode cL_told 297 = .ok (.iconst 0, 1) := by decide +kernel
theorem dL_told_298 : decode cL_told 298 = .ok (.iaload, 1) := by decide +kernel
theorem dL_told_299 : decode cL_told 299 = .ok (.if_icmp .ne 71, 3) := by decide +kernel
theorem dL_told_302 : decode cL_told 302 = .ok (.aload_n 0, 1) := by decide +kernel
theorem dL_told_303 : decode cL_told 303 = .ok (.iconst 1, 1) := by decide +kernel
theorem dL_told_304 : decode cL_told 304 = .ok (.invokevirtual 79, 3) := by decide +kernel
theorem dL_told_307 : decode cL_told 307 = .ok (.aload_n 2, 1) := by decide +kernel
theorem dL_told_308 : decode cL_told 308 = .ok (.iconst 0, 1) := by decide +kernel
theorem dL_told_309 : decode cL_told 309 = .ok (.aload 5, 2) := by decide +kernel
theorem dL_told_311 : decode cL_told 311 = .ok (.invokestatic 51, 3) := by decide +kernel
theorem dL_told_314 : decode cL_told 314 = .ok (.aload_n 3, 1) := by decide +kernel
theorem dL_told_315 : decode cL_told 315 = .ok (.iconst 0, 1) := by decide +kernel
theorem dL_told_316 : decode cL_told 316 = .ok (.aload 5, 2) := by decide +kernel
theorem dL_told_318 : decode cL_told 318 = .ok (.invokestatic 51, 3) := by decide +kernel
theorem dL_told_321 : decode cL_told 321 = .ok (.iadd, 1) := by decide +kernel
theorem dL_told_322 : decode cL_told 322 = .ok (.aload 4, 2) := by decide +kernel
theorem dL_told_324 : decode cL_told 324 = .ok (.iconst 0, 1) := by decide +kernel
theorem dL_told_325 : decode cL_told 325 = .ok (.aload 5, 2) := by decide +kernel
theorem dL_told_327 : decode cL_told 327 = .ok (.invokestatic 51, 3) := by decide +kernel
theorem dL_told_330 : decode cL_told 330 = .ok (.iadd, 1) := by decide +kernel
theorem dL_told_331 : decode cL_told 331 = .ok (.if_icmp .ne 39, 3) := by decide +kernel
theorem dL_told_334 : decode cL_told 334 = .ok (.aload_n 0, 1) := by decide +kernel
theorem dL_told_335 : decode cL_told 335 = .ok (.iconst 2, 1) := by decide +kernel
theorem dL_told_336 : decode cL_told 336 = .ok (.invokevirtual 79, 3) := by decide +kernel
theorem dL_told_339 : decode cL_told 339 = .ok (.iload 7, 2) := by decide +kernel
theorem dL_told_341 : decode cL_told 341 = .ok (.if_icmp .ne 29, 3) := by decide +kernel
theorem dL_told_344 : decode cL_told 344 = .ok (.aload_n 0, 1) := by decide +kernel
theorem dL_told_345 : decode cL_told 345 = .ok (.iconst 3, 1) := by decide +kernel
theorem dL_told_346 : decode cL_told 346 = .ok (.invokevirtual 79, 3) := by decide +kernel
theorem dL_told_349 : decode cL_told 349 = .ok (.iload 8, 2) := by decide +kernel
theorem dL_told_351 : decode cL_told 351 = .ok (.if_icmp .ne 19, 3) := by decide +kernel
theorem dL_told_354 : decode cL_told 354 = .ok (.aload_n 0, 1) := by decide +kernel
theorem dL_told_355 : decode cL_told 355 = .ok (.iconst 4, 1) := by decide +kernel
theorem dL_told_356 : decode cL_told 356 = .ok (.invokevirtual 79, 3) := by decide +kernel
theorem dL_told_359 : decode cL_told 359 = .ok (.aload 6, 2) := by decide +kernel
theorem dL_told_361 : decode cL_told 361 = .ok (.iconst 1, 1) := by decide +kernel
theorem dL_told_362 : decode cL_told 362 = .ok (.iaload, 1) := by decide +kernel
theorem dL_told_363 : decode cL_told 363 = .ok (.if_icmp .ne 7, 3) := by decide +kernel
theorem dL_told_366 : decode cL_told 366 = .ok (.iconst 1, 1) := by decide +kernel
theorem dL_told_367 : decode cL_told 367 = .ok (.goto 4, 3) := by decide +kernel
theorem dL_told_370 : decode cL_told 370 = .ok (.iconst 0, 1) := by decide +kernel
theorem dL_told_371 : decode cL_told 371 = .ok (.ireturn, 1) := by decide +kernel
set_option maxRecDepth 20000 in
theorem ggL_ahead_L_at : GoodIn wsL_ahead wsL_at := goodIn_r _ [5] (by decide +kernel) (by decide +kernel)
set_option maxRecDepth 20000 in
theorem gL_ahead_L_at : GoodIn wsL_ahead (va_wsS RL 54 yL_at wsL_at) := goodIn_app (goodIn_of _ (by decide +kernel)) ggL_ahead_L_at
set_option maxRecDepth 20000 in
theorem ggL_ahead_L_step : GoodIn wsL_ahead wsL_step := goodIn_r _ [8, 9, 10, 4, 11, 12, 13, 14, 15, 16, 17, 18, 19, 20, 21, 22] (by decide +kernel) (by decide +kernel)
set_option maxRecDepth 20000 in
theorem gL_ahead_L_step : GoodIn wsL_ahead (va_wsS RL 64 yL_step wsL_step) := goodIn_app (goodIn_of _ (by decide +kernel)) ggL_ahead_L_step
set_option maxRecDepth 20000 in
theorem ggL_ahead_X5_ifSettled : GoodIn wsL_ahead wsX5_ifSettled := goodIn_ca (goodIn_ca (goodIn_r _ [27, 28, 29, 30, 31, 32, 33, 26, 34, 35, 36, 37, 38, 39, 40, 41, 42, 43, 44, 45, 46, 47, 48, 49, 50, 51, 52, 53, 54, 55, 56, 57, 58, 59, 60, 61, 62, 63, 64, 65, 66, 67, 68, 69, 70, 71, 72, 73, 74, 75, 76, 77, 78, 79, 80, 81, 82, 83, 84, 85, 86, 87, 88, 89, 90, 91, 92, 93, 94, 95, 96, 97, 98, 99, 100, 101, 102, 103, 104, 105, 106, 107, 108, 109, 110, 111, 112, 113, 114, 115, 116, 117, 118, 119, 120, 121, 122, 123, 124, 125, 126, 127, 128, 129, 130, 131, 132, 133, 134, 135, 136, 137, 138, 139, 140, 141, 142, 143, 144, 145, 146, 147, 148, 168, 169, 170, 171, 172, 173, 174, 175, 176, 177, 178, 179, 180] (by decide +kernel) (by decide +kernel)) (goodIn_sub (fun _ h => List.mem_cons_of_mem _ (List.mem_append_left _ (List.mem_append_right _ h))) (by decide +kernel))) (goodIn_sub (fun _ h => List.mem_cons_of_mem _ (List.mem_append_right _ h)) (by decide +kernel))
set_option maxRecDepth 20000 in
theorem gL_ahead_X5_ifSettled : GoodIn wsL_ahead (wsV RL 82 RX5 yX5_ifSettled wsX5_ifSettled) := goodIn_app (goodIn_of _ (by decide +kernel)) ggL_ahead_X5_ifSettled
set_option maxRecDepth 20000 in
theorem ggL_ahead_L_prop : GoodIn wsL_ahead wsL_prop := goodIn_r _ [151, 152, 153, 4, 154, 13, 14, 15, 155, 156, 157] (by decide +kernel) (by decide +kernel)
set_option maxRecDepth 20000 in
theorem gL_ahead_L_prop : GoodIn wsL_ahead (va_wsS RL 51 yL_prop wsL_prop) := goodIn_app (goodIn_of _ (by decide +kernel)) ggL_ahead_L_prop
set_option maxRecDepth 20000 in
theorem ggL_ahead_X5_clearIn : GoodIn wsL_ahead wsX5_clearIn := goodIn_ca (goodIn_ca (goodIn_r _ [161, 28, 29, 30, 31, 32, 33, 26, 34, 35, 36, 37, 38, 39, 40, 41, 42, 43, 44, 45, 46, 47, 48, 49, 50, 51, 162, 122, 123, 124, 68, 69, 70, 71, 72, 73, 74, 75, 125, 126, 127, 79, 128, 82, 163, 57, 58, 59, 60, 61, 62, 63, 64, 65, 66, 67, 76, 77, 78, 80, 81, 83, 84, 85, 86, 87, 88, 89, 90, 91, 92, 93, 94, 95, 96, 97, 98, 99, 100, 168, 169, 170, 171, 172, 173, 174, 175, 176, 177, 178, 179, 180] (by decide +kernel) (by decide +kernel)) (goodIn_sub (fun _ h => List.mem_cons_of_mem _ (List.mem_append_left _ (List.mem_append_right _ h))) (by decide +kernel))) (goodIn_sub (fun _ h => List.mem_cons_of_mem _ (List.mem_append_right _ h)) (by decide +kernel))
set_option maxRecDepth 20000 in
theorem gL_ahead_X5_clearIn : GoodIn wsL_ahead (wsV RL 85 RX5 yX5_clearIn wsX5_clearIn) := goodIn_app (goodIn_of _ (by decide +kernel)) ggL_ahead_X5_clearIn
set_option maxRecDepth 20000 in
theorem ggL_ahead_X5_restIn : GoodIn wsL_ahead wsX5_restIn := goodIn_ca (goodIn_r _ [167, 28, 29, 30, 31, 32, 33, 26, 34, 35, 36, 42, 43, 44, 45, 46, 47, 48, 49, 50, 51, 163, 57, 58, 59, 60, 61, 62, 63, 64, 65, 66, 67, 68, 69, 70, 71, 72, 73, 74, 75, 76, 77, 78, 79, 80, 81, 82, 83, 84, 85, 86, 87, 88, 89, 90, 91, 92, 93, 94, 95, 96, 97, 98, 99, 100, 168, 169, 170, 171, 172, 173, 174, 175, 176, 177, 178, 179, 180] (by decide +kernel) (by decide +kernel)) (goodIn_sub (fun _ h => List.mem_cons_of_mem _ (List.mem_append_left _ (List.mem_append_right _ h))) (by decide +kernel))
set_option maxRecDepth 20000 in
theorem gL_ahead_X5_restIn : GoodIn wsL_ahead (wsV RL 88 RX5 yX5_restIn wsX5_restIn) := goodIn_app (goodIn_of _ (by decide +kernel)) ggL_ahead_X5_restIn
theorem dL_ahead_0 : decode cL_ahead 0 = .ok (.bipush 48, 2) := by decide +kernel
theorem dL_ahead_2 : decode cL_ahead 2 = .ok (.newarray .int, 2) := by decide +kernel
theorem dL_ahead_4 : decode cL_ahead 4 = .ok (.astore 6, 2) := by decide +kernel
theorem dL_ahead_6 : decode cL_ahead 6 = .ok (.iconst 0, 1) := by decide +kernel
theorem dL_ahead_7 : decode cL_ahead 7 = .ok (.istore 7, 2) := by decide +kernel
theorem dL_ahead_9 : decode cL_ahead 9 = .ok (.iload 7, 2) := by decide +kernel
theorem dL_ahead_11 : decode cL_ahead 11 = .ok (.bipush 48, 2) := by decide +kernel
theorem dL_ahead_13 : decode cL_ahead 13 = .ok (.if_icmp .ge 19, 3) := by decide +kernel
theorem dL_ahead_16 : decode cL_ahead 16 = .ok (.aload 6, 2) := by decide +kernel
theorem dL_ahead_18 : decode cL_ahead 18 = .ok (.iload 7, 2) := by decide +kernel
theorem dL_ahead_20 : decode cL_ahead 20 = .ok (.aload 4, 2) := by decide +kernel
theorem dL_ahead_22 : decode cL_ahead 22 = .ok (.iload 7, 2) := by decide +kernel
theorem dL_ahead_24 : decode cL_ahead 24 = .ok (.iaload, 1) := by decide +kernel
theorem dL_ahead_25 : decode cL_ahead 25 = .ok (.iastore, 1) := by decide +kernel
theorem dL_ahead_26 : decode cL_ahead 26 = .ok (.iinc 7 1, 3) := by decide +kernel
theorem dL_ahead_29 : decode cL_ahead 29 = .ok (.goto (-20), 3) := by decide +kernel
theorem dL_ahead_32 : decode cL_ahead 32 = .ok (.iconst 1, 1) := by decide +kernel
theorem dL_ahead_33 : decode cL_ahead 33 = .ok (.iload_n 2, 1) := by decide +kernel
theorem dL_ahead_34 : decode cL_ahead 34 = .ok (.iload_n 3, 1) := by decide +kernel
theorem dL_ahead_35 : decode cL_ahead 35 = .ok (.iconst 3, 1) := by decide +kernel
theorem dL_ahead_36 : decode cL_ahead 36 = .ok (.invokestatic 54, 3) := by decide +kernel
theorem dL_ahead_39 : decode cL_ahead 39 = .ok (.ifCond .ne 8, 3) := by decide +kernel
theorem dL_ahead_42 : decode cL_ahead 42 = .ok (.bipush 100, 2) := by decide +kernel
theorem dL_ahead_44 : decode cL_ahead 44 = .ok (.goto 5, 3) := by decide +kernel
theorem dL_ahead_47 : decode cL_ahead 47 = .ok (.bipush 20, 2) := by decide +kernel
theorem dL_ahead_49 : decode cL_ahead 49 = .ok (.invokestatic 54, 3) := by decide +kernel
theorem dL_ahead_52 : decode cL_ahead 52 = .ok (.iadd, 1) := by decide +kernel
theorem dL_ahead_53 : decode cL_ahead 53 = .ok (.istore 7, 2) := by decide +kernel
theorem dL_ahead_55 : decode cL_ahead 55 = .ok (.iload_n 3, 1) := by decide +kernel
theorem dL_ahead_56 : decode cL_ahead 56 = .ok (.iconst 3, 1) := by decide +kernel
theorem dL_ahead_57 : decode cL_ahead 57 = .ok (.ishr, 1) := by decide +kernel
theorem dL_ahead_58 : decode cL_ahead 58 = .ok (.bipush 9, 2) := by decide +kernel
theorem dL_ahead_60 : decode cL_ahead 60 = .ok (.invokestatic 54, 3) := by decide +kernel
theorem dL_ahead_63 : decode cL_ahead 63 = .ok (.istore 8, 2) := by decide +kernel
theorem dL_ahead_65 : decode cL_ahead 65 = .ok (.iconst 0, 1) := by decide +kernel
theorem dL_ahead_66 : decode cL_ahead 66 = .ok (.istore 9, 2) := by decide +kernel
theorem dL_ahead_68 : decode cL_ahead 68 = .ok (.iload 9, 2) := by decide +kernel
theorem dL_ahead_70 : decode cL_ahead 70 = .ok (.iload 7, 2) := by decide +kernel
theorem dL_ahead_72 : decode cL_ahead 72 = .ok (.if_icmp .ge 17, 3) := by decide +kernel
theorem dL_ahead_75 : decode cL_ahead 75 = .ok (.aload 6, 2) := by decide +kernel
theorem dL_ahead_77 : decode cL_ahead 77 = .ok (.aload 5, 2) := by decide +kernel
theorem dL_ahead_79 : decode cL_ahead 79 = .ok (.invokestatic 64, 3) := by decide +kernel
theorem dL_ahead_82 : decode cL_ahead 82 = .ok (.pop, 1) := by decide +kernel
theorem dL_ahead_83 : decode cL_ahead 83 = .ok (.iinc 9 1, 3) := by decide +kernel
theorem dL_ahead_86 : decode cL_ahead 86 = .ok (.goto (-18), 3) := by decide +kernel
theorem dL_ahead_89 : decode cL_ahead 89 = .ok (.aload_n 0, 1) := by decide +kernel
theorem dL_ahead_90 : decode cL_ahead 90 = .ok (.iload_n 1, 1) := by decide +kernel
theorem dL_ahead_91 : decode cL_ahead 91 = .ok (.iload 7, 2) := by decide +kernel
theorem dL_ahead_93 : decode cL_ahead 93 = .ok (.iload 8, 2) := by decide +kernel
theorem dL_ahead_95 : decode cL_ahead 95 = .ok (.invokevirtual 82, 3) := by decide +kernel
theorem dL_ahead_98 : decode cL_ahead 98 = .ok (.aload 6, 2) := by decide +kernel
theorem dL_ahead_100 : decode cL_ahead 100 = .ok (.iload 8, 2) := by decide +kernel
theorem dL_ahead_102 : decode cL_ahead 102 = .ok (.aload 5, 2) := by decide +kernel
theorem dL_ahead_104 : decode cL_ahead 104 = .ok (.invokestatic 51, 3) := by decide +kernel
theorem dL_ahead_107 : decode cL_ahead 107 = .ok (.if_icmp .eq 5, 3) := by decide +kernel
theorem dL_ahead_110 : decode cL_ahead 110 = .ok (.iconst 0, 1) := by decide +kernel
theorem dL_ahead_111 : decode cL_ahead 111 = .ok (.ireturn, 1) := by decide +kernel
theorem dL_ahead_112 : decode cL_ahead 112 = .ok (.iconst 0, 1) := by decide +kernel
theorem dL_ahead_113 : decode cL_ahead 113 = .ok (.istore 9, 2) := by decide +kernel
theorem dL_ahead_115 : decode cL_ahead 115 = .ok (.iload 9, 2) := by decide +kernel
theorem dL_ahead_117 : decode cL_ahead 117 = .ok (.bipush 48, 2) := by decide +kernel
theorem dL_ahead_119 : decode cL_ahead 119 = .ok (.if_icmp .ge 19, 3) := by decide +kernel
theorem dL_ahead_122 : decode cL_ahead 122 = .ok (.aload 6, 2) := by decide +kernel
theorem dL_ahead_124 : decode cL_ahead 124 = .ok (.iload 9, 2) := by decide +kernel
theorem dL_ahead_126 : decode cL_ahead 126 = .ok (.aload 4, 2) := by decide +kernel
theorem dL_ahead_128 : decode cL_ahead 128 = .ok (.iload 9, 2) := by decide +kernel
theorem dL_ahead_130 : decode cL_ahead 130 = .ok (.iaload, 1) := by decide +kernel
theorem dL_ahead_131 : decode cL_ahead 131 = .ok (.iastore, 1) := by decide +kernel
theorem dL_ahead_132 : decode cL_ahead 132 = .ok (.iinc 9 1, 3) := by decide +kernel
theorem dL_ahead_135 : decode cL_ahead 135 = .ok (.goto (-20), 3) := by decide +kernel
theorem dL_ahead_138 : decode cL_ahead 138 = .ok (.iconst 1, 1) := by decide +kernel
theorem dL_ahead_139 : decode cL_ahead 139 = .ok (.iload_n 3, 1) := by decide +kernel
theorem dL_ahead_140 : decode cL_ahead 140 = .ok (.bipush 12, 2) := by decide +kernel
theorem dL_ahead_142 : decode cL_ahead 142 = .ok (.invokestatic 54, 3) := by decide +kernel
theorem dL_ahead_145 : decode cL_ahead 145 = .ok (.iadd, 1) := by decide +kernel
theorem dL_ahead_146 : decode cL_ahead 146 = .ok (.istore 9, 2) := by decide +kernel
theorem dL_ahead_148 : decode cL_ahead 148 = .ok (.iconst (-1), 1) := by decide +kernel
theorem dL_ahead_149 : decode cL_ahead 149 = .ok (.istore 10, 2) := by decide +kernel
theorem dL_ahead_151 : decode cL_ahead 151 = .ok (.iconst (-1), 1) := by decide +kernel
theorem dL_ahead_152 : decode cL_ahead 152 = .ok (.istore 11, 2) := by decide +kernel
theorem dL_ahead_154 : decode cL_ahead 154 = .ok (.iconst 0, 1) := by decide +kernel
theorem dL_ahead_155 : decode cL_ahead 155 = .ok (.istore 12, 2) := by decide +kernel
theorem dL_ahead_157 : decode cL_ahead 157 = .ok (.iload 12, 2) := by decide +kernel
theorem dL_ahead_159 : decode cL_ahead 159 = .ok (.sipush 601, 3) := by decide +kernel
theorem dL_ahead_162 : decode cL_ahead 162 = .ok (.if_icmp .ge 60, 3) := by decide +kernel
theorem dL_ahead_165 : decode cL_ahead 165 = .ok (.iload 10, 2) := by decide +kernel
theorem dL_ahead_167 : decode cL_ahead 167 = .ok (.ifCond .ge 29, 3) := by decide +kernel
theorem dL_ahead_170 : decode cL_ahead 170 = .ok (.iload 12, 2) := by decide +kernel
theorem dL_ahead_172 : decode cL_ahead 172 = .ok (.sipush 301, 3) := by decide +kernel
theorem dL_ahead_175 : decode cL_ahead 175 = .ok (.if_icmp .ge 21, 3) := by decide +kernel
theorem dL_ahead_178 : decode cL_ahead 178 = .ok (.aload 6, 2) := by decide +kernel
theorem dL_ahead_180 : decode cL_ahead 180 = .ok (.bipush 6, 2) := by decide +kernel
theorem dL_ahead_182 : decode cL_ahead 182 = .ok (.aload 5, 2) := by decide +kernel
theorem dL_ahead_184 : decode cL_ahead 184 = .ok (.invokestatic 51, 3) := by decide +kernel
theorem dL_ahead_187 : decode cL_ahead 187 = .ok (.iload 9, 2) := by decide +kernel
theorem dL_ahead_189 : decode cL_ahead 189 = .ok (.if_icmp .lt 7, 3) := by decide +kernel
theorem dL_ahead_192 : decode cL_ahead 192 = .ok (.iload 12, 2) := by decide +kernel
theorem dL_ahead_194 : decode cL_ahead 194 = .ok (.istore 10, 2) := by decide +kernel
theorem dL_ahead_196 : decode cL_ahead 196 = .ok (.aload 6, 2) := by decide +kernel
theorem dL_ahead_198 : decode cL_ahead 198 = .ok (.aload 5, 2) := by decide +kernel
theorem dL_ahead_200 : decode cL_ahead 200 = .ok (.invokestatic 64, 3) := by decide +kernel
theorem dL_ahead_203 : decode cL_ahead 203 = .ok (.ifCond .le 6, 3) := by decide +kernel
theorem dL_ahead_206 : decode cL_ahead 206 = .ok (.goto 10, 3) := by decide +kernel
theorem dL_ahead_209 : decode cL_ahead 209 = .ok (.iload 12, 2) := by decide +kernel
theorem dL_ahead_211 : decode cL_ahead 211 = .ok (.istore 11, 2) := by decide +kernel
theorem dL_ahead_213 : decode cL_ahead 213 = .ok (.goto 9, 3) := by decide +kernel
theorem dL_ahead_216 : decode cL_ahead 216 = .ok (.iinc 12 1, 3) := by decide +kernel
theorem dL_ahead_219 : decode cL_ahead 219 = .ok (.goto (-62), 3) := by decide +kernel
theorem dL_ahead_222 : decode cL_ahead 222 = .ok (.aload_n 0, 1) := by decide +kernel
theorem dL_ahead_223 : decode cL_ahead 223 = .ok (.iload_n 1, 1) := by decide +kernel
theorem dL_ahead_224 : decode cL_ahead 224 = .ok (.iload 9, 2) := by decide +kernel
theorem dL_ahead_226 : decode cL_ahead 226 = .ok (.invokevirtual 85, 3) := by decide +kernel
theorem dL_ahead_229 : decode cL_ahead 229 = .ok (.iload 10, 2) := by decide +kernel
theorem dL_ahead_231 : decode cL_ahead 231 = .ok (.if_icmp .ne 17, 3) := by decide +kernel
theorem dL_ahead_234 : decode cL_ahead 234 = .ok (.aload_n 0, 1) := by decide +kernel
theorem dL_ahead_235 : decode cL_ahead 235 = .ok (.iload_n 1, 1) := by decide +kernel
theorem dL_ahead_236 : decode cL_ahead 236 = .ok (.invokevirtual 88, 3) := by decide +kernel
theorem dL_ahead_239 : decode cL_ahead 239 = .ok (.iload 11, 2) := by decide +kernel
theorem dL_ahead_241 : decode cL_ahead 241 = .ok (.if_icmp .ne 7, 3) := by decide +kernel
theorem dL_ahead_244 : decode cL_ahead 244 = .ok (.iconst 1, 1) := by decide +kernel
theorem dL_ahead_245 : decode cL_ahead 245 = .ok (.goto 4, 3) := by decide +kernel
theorem dL_ahead_248 : decode cL_ahead 248 = .ok (.iconst 0, 1) := by decide +kernel
theorem dL_ahead_249 : decode cL_ahead 249 = .ok (.ireturn, 1) := by decide +kernel
set_option maxRecDepth 20000 in
theorem ggL_act_L_at : GoodIn wsL_act wsL_at := goodIn_r _ [4] (by decide +kernel) (by decide +kernel)
set_option maxRecDepth 20000 in
theorem gL_act_L_at : GoodIn wsL_act (va_wsS RL 54 yL_at wsL_at) := goodIn_app (goodIn_of _ (by decide +kernel)) ggL_act_L_at
set_option maxRecDepth 20000 in
theorem ggL_act_L_sum : GoodIn wsL_act wsL_sum := goodIn_r _ [7] (by decide +kernel) (by decide +kernel)
set_option maxRecDepth 20000 in
theorem gL_act_L_sum : GoodIn wsL_act (va_wsS RL 28 yL_sum wsL_sum) := goodIn_app (goodIn_of _ (by decide +kernel)) ggL_act_L_sum
set_option maxRecDepth 20000 in
theorem ggL_act_X5_pour : GoodIn wsL_act wsX5_pour := goodIn_ca (goodIn_ca (goodIn_ca (goodIn_r _ [12, 13, 14, 15, 16, 17, 18, 11, 19, 20, 21, 22, 23, 24, 25, 26, 27, 28, 29, 30, 31, 32, 33, 34, 35, 36, 37, 38, 39, 40, 41, 42, 43, 44, 45, 46, 47, 48, 49, 50, 51, 52, 53, 54, 55, 56, 57, 58, 59, 60, 61, 62, 63, 64, 65, 66, 67, 68, 69, 70, 71, 72, 73, 74, 75, 76, 77, 78, 79, 80, 81, 82, 83, 84, 85, 86, 87, 88, 89, 90, 91, 92, 93, 204, 205, 206, 207, 208, 209, 210, 211, 212, 213, 214, 215, 216, 217, 218, 219] (by decide +kernel) (by decide +kernel)) (goodIn_sub (fun _ h => List.mem_cons_of_mem _ (List.mem_append_left _ (List.mem_append_left _ (List.mem_append_right _ h)))) (by decide +kernel))) (goodIn_sub (fun _ h => List.mem_cons_of_mem _ (List.mem_append_left _ (List.mem_append_right _ h))) (by decide +kernel))) (goodIn_sub (fun _ h => List.mem_cons_of_mem _ (List.mem_append_right _ h)) (by decide +kernel))
set_option maxRecDepth 20000 in
theorem gL_act_X5_pour : GoodIn wsL_act (wsV RL 91 RX5 yX5_pour wsX5_pour) := goodIn_app (goodIn_of _ (by decide +kernel)) ggL_act_X5_pour
set_option maxRecDepth 20000 in
theorem ggL_act_L_all : GoodIn wsL_act wsL_all := goodIn_r _ [96] (by decide +kernel) (by decide +kernel)
set_option maxRecDepth 20000 in
theorem gL_act_L_all : GoodIn wsL_act (va_wsS RL 9 yL_all wsL_all) := goodIn_app (goodIn_of _ (by decide +kernel)) ggL_act_L_all
set_option maxRecDepth 20000 in
theorem ggL_act_L_step : GoodIn wsL_act wsL_step := goodIn_r _ [99, 100, 101, 3, 102, 103, 94, 95, 96, 104, 105, 106, 107, 108, 109, 110] (by decide +kernel) (by decide +kernel)
set_option maxRecDepth 20000 in
theorem gL_act_L_step : GoodIn wsL_act (va_wsS RL 64 yL_step wsL_step) := goodIn_app (goodIn_of _ (by decide +kernel)) ggL_act_L_step
set_option maxRecDepth 20000 in
theorem ggL_act_X5_settle : GoodIn wsL_act wsX5_settle := goodIn_ca (goodIn_ca (goodIn_r _ [114, 33, 34, 13, 115, 15, 14, 116, 117, 25, 26, 11, 27, 28, 29, 53, 54, 55, 56, 57, 58, 59, 60, 61, 62, 63, 64, 65, 66, 67, 68, 69, 70, 71, 72, 73, 74, 75, 76, 77, 78, 79, 80, 81, 82, 83, 84, 85, 86, 38, 87, 52, 88, 118, 119, 120, 121, 122, 123, 124, 125, 126, 127, 128, 129, 130, 131, 132, 133, 44, 45, 46, 47, 48, 49, 50, 51, 134, 135, 136, 137, 138, 139, 140, 141, 142, 143, 144, 145, 146, 147, 148, 149, 150, 151, 152, 90, 91, 92, 204, 205, 206, 207, 208, 209, 210, 211, 212, 213, 215, 216, 217, 218, 219, 214] (by decide +kernel) (by decide +kernel)) (goodIn_sub (fun _ h => List.mem_cons_of_mem _ (List.mem_append_right _ h)) (by decide +kernel))) (goodIn_sub (fun _ h => List.mem_cons_of_mem _ (List.mem_append_left _ (List.mem_append_right _ h))) (by decide +kernel))
set_option maxRecDepth 20000 in
theorem gL_act_X5_settle : GoodIn wsL_act (wsV RL 95 RX5 yX5_settle wsX5_settle) := goodIn_app (goodIn_of _ (by decide +kernel)) ggL_act_X5_settle
set_option maxRecDepth 20000 in
theorem ggL_act_X5_stir : GoodIn wsL_act wsX5_stir := goodIn_ca (goodIn_ca (goodIn_r _ [156, 15, 13, 14, 17, 18, 11, 19, 20, 21, 22, 23, 24, 25, 26, 27, 28, 29, 53, 54, 55, 56, 57, 58, 59, 60, 61, 62, 63, 64, 65, 66, 67, 68, 69, 70, 71, 72, 73, 74, 75, 76, 77, 78, 79, 80, 81, 82, 83, 84, 85, 86, 38, 87, 52, 88, 157, 158, 159, 160, 48, 49, 50, 51, 152, 90, 91, 92, 204, 205, 206, 207, 208, 209, 210, 211, 212, 213, 215, 216, 217, 218, 219, 214] (by decide +kernel) (by decide +kernel)) (goodIn_sub (fun _ h => List.mem_cons_of_mem _ (List.mem_append_left _ (List.mem_append_left _ (List.mem_append_right _ h)))) (by decide +kernel))) (goodIn_sub (fun _ h => List.mem_cons_of_mem _ (List.mem_append_left _ (List.mem_append_right _ h))) (by decide +kernel))
set_option maxRecDepth 20000 in
theorem gL_act_X5_stir : GoodIn wsL_act (wsV RL 98 RX5 yX5_stir wsX5_stir) := goodIn_app (goodIn_of _ (by decide +kernel)) ggL_act_X5_stir
set_option maxRecDepth 20000 in
theorem ggL_act_X5_draw : GoodIn wsL_act wsX5_draw := goodIn_ca (goodIn_ca (goodIn_r _ [164, 15, 13, 14, 165, 17, 18, 11, 19, 20, 21, 22, 23, 24, 25, 26, 27, 28, 29, 53, 54, 55, 56, 57, 58, 59, 60, 61, 62, 63, 64, 65, 66, 67, 68, 69, 70, 71, 72, 73, 74, 75, 76, 77, 78, 79, 80, 81, 82, 83, 84, 85, 86, 38, 87, 52, 88, 166, 49, 50, 51, 89, 90, 91, 92, 204, 205, 206, 207, 208, 209, 210, 211, 212, 213, 215, 216, 217, 218, 219, 214] (by decide +kernel) (by decide +kernel)) (goodIn_sub (fun _ h => List.mem_cons_of_mem _ (List.mem_append_left _ (List.mem_append_left _ (List.mem_append_right _ h)))) (by decide +kernel))) (goodIn_sub (fun _ h => List.mem_cons_of_mem _ (List.mem_append_left _ (List.mem_append_right _ h))) (by decide +kernel))
set_option maxRecDepth 20000 in
theorem gL_act_X5_draw : GoodIn wsL_act (wsV RL 101 RX5 yX5_draw wsX5_draw) := goodIn_app (goodIn_of _ (by decide +kernel)) ggL_act_X5_draw
set_option maxRecDepth 20000 in
theorem ggL_act_X5_decant : GoodIn wsL_act wsX5_decant := goodIn_ca (goodIn_ca (goodIn_ca (goodIn_r _ [170, 28, 29, 13, 14, 15, 20, 21, 11, 22, 23, 24, 17, 18, 19, 171, 41, 42, 38, 43, 44, 45, 46, 47, 48, 49, 50, 51, 52, 30, 31, 32, 33, 34, 35, 36, 37, 39, 40, 53, 54, 55, 56, 57, 58, 59, 60, 61, 62, 63, 64, 65, 66, 67, 68, 69, 70, 71, 72, 73, 74, 75, 76, 77, 78, 79, 80, 81, 82, 83, 84, 85, 86, 87, 88, 172, 173, 174, 175, 152, 90, 91, 92, 204, 205, 206, 207, 208, 209, 210, 211, 212, 213, 214, 215, 216, 217, 218, 219] (by decide +kernel) (by decide +kernel)) (goodIn_sub (fun _ h => List.mem_cons_of_mem _ (List.mem_append_left _ (List.mem_append_right _ h))) (by decide +kernel))) (goodIn_sub (fun _ h => List.mem_cons_of_mem _ (List.mem_append_left _ (List.mem_append_left _ (List.mem_append_right _ h)))) (by decide +kernel))) (goodIn_sub (fun _ h => List.mem_cons_of_mem _ (List.mem_append_right _ h)) (by decide +kernel))
set_option maxRecDepth 20000 in
theorem gL_act_X5_decant : GoodIn wsL_act (wsV RL 104 RX5 yX5_decant wsX5_decant) := goodIn_app (goodIn_of _ (by decide +kernel)) ggL_act_X5_decant
set_option maxRecDepth 20000 in
theorem ggL_act_X5_turn : GoodIn wsL_act wsX5_turn := goodIn_ca (goodIn_r _ [179, 15, 13, 14, 116, 20, 21, 11, 22, 23, 24, 53, 54, 55, 56, 57, 58, 59, 60, 61, 62, 63, 64, 65, 66, 67, 68, 69, 70, 71, 72, 73, 74, 75, 76, 77, 78, 79, 80, 81, 82, 83, 84, 85, 86, 38, 87, 52, 88, 180, 181, 182, 183, 48, 49, 50, 51, 152, 90, 91, 92, 184, 185, 186, 187, 44, 45, 46, 47, 188, 189, 190, 191, 204, 205, 206, 207, 208, 209, 210, 211, 212, 213, 215, 216, 217, 218, 219, 214] (by decide +kernel) (by decide +kernel)) (goodIn_sub (fun _ h => List.mem_cons_of_mem _ (List.mem_append_left _ (List.mem_append_left _ (List.mem_append_right _ h)))) (by decide +kernel))
set_option maxRecDepth 20000 in
theorem gL_act_X5_turn : GoodIn wsL_act (wsV RL 107 RX5 yX5_turn wsX5_turn) := goodIn_app (goodIn_of _ (by decide +kernel)) ggL_act_X5_turn
set_option maxRecDepth 20000 in
theorem ggL_act_X5_setSpeed : GoodIn wsL_act wsX5_setSpeed := goodIn_ca (goodIn_ca (goodIn_r _ [195, 15, 13, 116, 196, 20, 21, 11, 22, 23, 24, 25, 26, 27, 28, 29, 53, 54, 55, 56, 57, 58, 59, 60, 61, 62, 63, 64, 65, 66, 67, 68, 69, 70, 71, 72, 73, 74, 75, 76, 77, 78, 79, 80, 81, 82, 83, 84, 85, 86, 38, 87, 52, 88, 204, 205, 206, 207, 208, 209, 210, 211, 212, 213, 218, 219, 215, 216, 217, 214] (by decide +kernel) (by decide +kernel)) (goodIn_sub (fun _ h => List.mem_cons_of_mem _ (List.mem_append_left _ (List.mem_append_left _ (List.mem_append_right _ h)))) (by decide +kernel))) (goodIn_sub (fun _ h => List.mem_cons_of_mem _ (List.mem_append_left _ (List.mem_append_right _ h))) (by decide +kernel))
set_option maxRecDepth 20000 in
theorem gL_act_X5_setSpeed : GoodIn wsL_act (wsV RL 110 RX5 yX5_setSpeed wsX5_setSpeed) := goodIn_app (goodIn_of _ (by decide +kernel)) ggL_act_X5_setSpeed
set_option maxRecDepth 20000 in
theorem ggL_act_X5_set : GoodIn wsL_act wsX5_set := goodIn_ca (goodIn_ca (goodIn_r _ [200, 201, 202, 15, 13, 116, 203, 20, 21, 11, 22, 23, 24, 25, 26, 27, 28, 29, 53, 54, 55, 56, 57, 58, 59, 60, 61, 62, 63, 64, 65, 66, 67, 68, 69, 70, 71, 72, 73, 74, 75, 76, 77, 78, 79, 80, 81, 82, 83, 84, 85, 86, 38, 87, 52, 88, 204, 205, 206, 207, 208, 209, 210, 211, 212, 213, 218, 219, 215, 216, 217, 214] (by decide +kernel) (by decide +kernel)) (goodIn_sub (fun _ h => List.mem_cons_of_mem _ (List.mem_append_left _ (List.mem_append_left _ (List.mem_append_right _ h)))) (by decide +kernel))) (goodIn_sub (fun _ h => List.mem_cons_of_mem _ (List.mem_append_left _ (List.mem_append_right _ h))) (by decide +kernel))
set_option maxRecDepth 20000 in
theorem gL_act_X5_set : GoodIn wsL_act (wsV RL 113 RX5 yX5_set wsX5_set) := goodIn_app (goodIn_of _ (by decide +kernel)) ggL_act_X5_set
theorem dL_act_0 : decode cL_act 0 = .ok (.iload_n 2, 1) := by decide +kernel
theorem dL_act_1 : decode cL_act 1 = .ok (.iconst 3, 1) := by decide +kernel
theorem dL_act_2 : decode cL_act 2 = .ok (.invokestatic 54, 3) := by decide +kernel
theorem dL_act_5 : decode cL_act 5 = .ok (.istore 9, 2) := by decide +kernel
theorem dL_act_7 : decode cL_act 7 = .ok (.iload 9, 2) := by decide +kernel
theorem dL_act_9 : decode cL_act 9 = .ok (.ifCond .ne 8, 3) := by decide +kernel
theorem dL_act_12 : decode cL_act 12 = .ok (.aload 4, 2) := by decide +kernel
theorem dL_act_14 : decode cL_act 14 = .ok (.goto 16, 3) := by decide +kernel
theorem dL_act_17 : decode cL_act 17 = .ok (.iload 9, 2) := by decide +kernel
theorem dL_act_19 : decode cL_act 19 = .ok (.iconst 1, 1) := by decide +kernel
theorem dL_act_20 : decode cL_act 20 = .ok (.if_icmp .ne 8, 3) := by decide +kernel
theorem dL_act_23 : decode cL_act 23 = .ok (.aload 5, 2) := by decide +kernel
theorem dL_act_25 : decode cL_act 25 = .ok (.goto 5, 3) := by decide +kernel
theorem dL_act_28 : decode cL_act 28 = .ok (.aload 6, 2) := by decide +kernel
theorem dL_act_30 : decode cL_act 30 = .ok (.astore 10, 2) := by decide +kernel
theorem dL_act_32 : decode cL_act 32 = .ok (.iload_n 2, 1) := by decide +kernel
theorem dL_act_33 : decode cL_act 33 = .ok (.iconst 3, 1) := by decide +kernel
theorem dL_act_34 : decode cL_act 34 = .ok (.ishr, 1) := by decide +kernel
theorem dL_act_35 : decode cL_act 35 = .ok (.bipush 12, 2) := by decide +kernel
theorem dL_act_37 : decode cL_act 37 = .ok (.invokestatic 54, 3) := by decide +kernel
theorem dL_act_40 : decode cL_act 40 = .ok (.istore 11, 2) := by decide +kernel
theorem dL_act_42 : decode cL_act 42 = .ok (.iload_n 3, 1) := by decide +kernel
theorem dL_act_43 : decode cL_act 43 = .ok (.iconst 4, 1) := by decide +kernel
theorem dL_act_44 : decode cL_act 44 = .ok (.invokestatic 54, 3) := by decide +kernel
theorem dL_act_47 : decode cL_act 47 = .ok (.istore 12, 2) := by decide +kernel
theorem dL_act_49 : decode cL_act 49 = .ok (.iload_n 1, 1) := by decide +kernel
theorem dL_act_50 : decode cL_act 50 = .ok (.iconst 5, 1) := by decide +kernel
theorem dL_act_51 : decode cL_act 51 = .ok (.if_icmp .ge 107, 3) := by decide +kernel
theorem dL_act_54 : decode cL_act 54 = .ok (.iconst 1, 1) := by decide +kernel
theorem dL_act_55 : decode cL_act 55 = .ok (.iload_n 3, 1) := by decide +kernel
theorem dL_act_56 : decode cL_act 56 = .ok (.iconst 2, 1) := by decide +kernel
theorem dL_act_57 : decode cL_act 57 = .ok (.ishr, 1) := by decide +kernel
theorem dL_act_58 : decode cL_act 58 = .ok (.iload_n 2, 1) := by decide +kernel
theorem dL_act_59 : decode cL_act 59 = .ok (.bipush 8, 2) := by decide +kernel
theorem dL_act_61 : decode cL_act 61 = .ok (.ishr, 1) := by decide +kernel
theorem dL_act_62 : decode cL_act 62 = .ok (.iconst 3, 1) := by decide +kernel
theorem dL_act_63 : decode cL_act 63 = .ok (.invokestatic 54, 3) := by decide +kernel
theorem dL_act_66 : decode cL_act 66 = .ok (.ifCond .ne 9, 3) := by decide +kernel
theorem dL_act_69 : decode cL_act 69 = .ok (.sipush 999, 3) := by decide +kernel
theorem dL_act_72 : decode cL_act 72 = .ok (.goto 5, 3) := by decide +kernel
theorem dL_act_75 : decode cL_act 75 = .ok (.bipush 60, 2) := by decide +kernel
theorem dL_act_77 : decode cL_act 77 = .ok (.invokestatic 54, 3) := by decide +kernel
theorem dL_act_80 : decode cL_act 80 = .ok (.iadd, 1) := by decide +kernel
theorem dL_act_81 : decode cL_act 81 = .ok (.istore 13, 2) := by decide +kernel
theorem dL_act_83 : decode cL_act 83 = .ok (.aload 10, 2) := by decide +kernel
theorem dL_act_85 : decode cL_act 85 = .ok (.iconst 0, 1) := by decide +kernel
theorem dL_act_86 : decode cL_act 86 = .ok (.bipush 11, 2) := by decide +kernel
theorem dL_act_88 : decode cL_act 88 = .ok (.invokestatic 28, 3) := by decide +kernel
theorem dL_act_91 : decode cL_act 91 = .ok (.iload 13, 2) := by decide +kernel
theorem dL_act_93 : decode cL_act 93 = .ok (.iadd, 1) := by decide +kernel
theorem dL_act_94 : decode cL_act 94 = .ok (.sipush 5000, 3) := by decide +kernel
theorem dL_act_97 : decode cL_act 97 = .ok (.if_icmp .le 5, 3) := by decide +kernel
theorem dL_act_100 : decode cL_act 100 = .ok (.iconst 1, 1) := by decide +kernel
theorem dL_act_101 : decode cL_act 101 = .ok (.ireturn, 1) := by decide +kernel
theorem dL_act_102 : decode cL_act 102 = .ok (.aload 10, 2) := by decide +kernel
theorem dL_act_104 : decode cL_act 104 = .ok (.iconst 4, 1) := by decide +kernel
theorem dL_act_105 : decode cL_act 105 = .ok (.iload 11, 2) := by decide +kernel
theorem dL_act_107 : decode cL_act 107 = .ok (.imul, 1) := by decide +kernel
theorem dL_act_108 : decode cL_act 108 = .ok (.iload 12, 2) := by decide +kernel
theorem dL_act_110 : decode cL_act 110 = .ok (.iadd, 1) := by decide +kernel
theorem dL_act_111 : decode cL_act 111 = .ok (.dup2, 1) := by decide +kernel
theorem dL_act_112 : decode cL_act 112 = .ok (.iaload, 1) := by decide +kernel
theorem dL_act_113 : decode cL_act 113 = .ok (.iload 13, 2) := by decide +kernel
theorem dL_act_115 : decode cL_act 115 = .ok (.iadd, 1) := by decide +kernel
theorem dL_act_116 : decode cL_act 116 = .ok (.iastore, 1) := by decide +kernel
theorem dL_act_117 : decode cL_act 117 = .ok (.aload 7, 2) := by decide +kernel
theorem dL_act_119 : decode cL_act 119 = .ok (.bipush 8, 2) := by decide +kernel
theorem dL_act_121 : decode cL_act 121 = .ok (.iload 12, 2) := by decide +kernel
theorem dL_act_123 : decode cL_act 123 = .ok (.iadd, 1) := by decide +kernel
theorem dL_act_124 : decode cL_act 124 = .ok (.dup2, 1) := by decide +kernel
theorem dL_act_125 : decode cL_act 125 = .ok (.iaload, 1) := by decide +kernel
theorem dL_act_126 : decode cL_act 126 = .ok (.iload 13, 2) := by decide +kernel
theorem dL_act_128 : decode cL_act 128 = .ok (.iadd, 1) := by decide +kernel
theorem dL_act_129 : decode cL_act 129 = .ok (.iastore, 1) := by decide +kernel
theorem dL_act_130 : decode cL_act 130 = .ok (.aload_n 0, 1) := by decide +kernel
theorem dL_act_131 : decode cL_act 131 = .ok (.iload 9, 2) := by decide +kernel
theorem dL_act_133 : decode cL_act 133 = .ok (.iload 11, 2) := by decide +kernel
theorem dL_act_135 : decode cL_act 135 = .ok (.iload 12, 2) := by decide +kernel
theorem dL_act_137 : decode cL_act 137 = .ok (.iload 13, 2) := by decide +kernel
theorem dL_act_139 : decode cL_act 139 = .ok (.invokevirtual 91, 3) := by decide +kernel
theorem dL_act_142 : decode cL_act 142 = .ok (.aload 10, 2) := by decide +kernel
theorem dL_act_144 : decode cL_act 144 = .ok (.iload 11, 2) := by decide +kernel
theorem dL_act_146 : decode cL_act 146 = .ok (.invokestatic 9, 3) := by decide +kernel
theorem dL_act_149 : decode cL_act 149 = .ok (.if_icmp .ne 7, 3) := by decide +kernel
theorem dL_act_152 : decode cL_act 152 = .ok (.iconst 1, 1) := by decide +kernel
theorem dL_act_153 : decode cL_act 153 = .ok (.goto 4, 3) := by decide +kernel
theorem dL_act_156 : decode cL_act 156 = .ok (.iconst 0, 1) := by decide +kernel
theorem dL_act_157 : decode cL_act 157 = .ok (.ireturn, 1) := by decide +kernel
theorem dL_act_158 : decode cL_act 158 = .ok (.iload_n 1, 1) := by decide +kernel
theorem dL_act_159 : decode cL_act 159 = .ok (.bipush 9, 2) := by decide +kernel
theorem dL_act_161 : decode cL_act 161 = .ok (.if_icmp .ge 108, 3) := by decide +kernel
theorem dL_act_164 : decode cL_act 164 = .ok (.iconst 1, 1) := by decide +kernel
theorem dL_act_165 : decode cL_act 165 = .ok (.iload_n 3, 1) := by decide +kernel
theorem dL_act_166 : decode cL_act 166 = .ok (.iload_n 2, 1) := by decide +kernel
theorem dL_act_167 : decode cL_act 167 = .ok (.iconst 4, 1) := by decide +kernel
theorem dL_act_168 : decode cL_act 168 = .ok (.invokestatic 54, 3) := by decide +kernel
theorem dL_act_171 : decode cL_act 171 = .ok (.ifCond .ne 8, 3) := by decide +kernel
theorem dL_act_174 : decode cL_act 174 = .ok (.bipush 100, 2) := by decide +kernel
theorem dL_act_176 : decode cL_act 176 = .ok (.goto 5, 3) := by decide +kernel
theorem dL_act_179 : decode cL_act 179 = .ok (.bipush 8, 2) := by decide +kernel
theorem dL_act_181 : decode cL_act 181 = .ok (.invokestatic 54, 3) := by decide +kernel
theorem dL_act_184 : decode cL_act 184 = .ok (.iadd, 1) := by decide +kernel
theorem dL_act_185 : decode cL_act 185 = .ok (.istore 13, 2) := by decide +kernel
theorem dL_act_187 : decode cL_act 187 = .ok (.iconst 0, 1) := by decide +kernel
theorem dL_act_188 : decode cL_act 188 = .ok (.istore 14, 2) := by decide +kernel
theorem dL_act_190 : decode cL_act 190 = .ok (.iconst 0, 1) := by decide +kernel
theorem dL_act_191 : decode cL_act 191 = .ok (.istore 15, 2) := by decide +kernel
theorem dL_act_193 : decode cL_act 193 = .ok (.iload 15, 2) := by decide +kernel
theorem dL_act_195 : decode cL_act 195 = .ok (.iload 13, 2) := by decide +kernel
theorem dL_act_197 : decode cL_act 197 = .ok (.if_icmp .ge 37, 3) := by decide +kernel
theorem dL_act_200 : decode cL_act 200 = .ok (.iload 14, 2) := by decide +kernel
theorem dL_act_202 : decode cL_act 202 = .ok (.aload 4, 2) := by decide +kernel
theorem dL_act_204 : decode cL_act 204 = .ok (.aload 7, 2) := by decide +kernel
theorem dL_act_206 : decode cL_act 206 = .ok (.invokestatic 64, 3) := by decide +kernel
theorem dL_act_209 : decode cL_act 209 = .ok (.aload 5, 2) := by decide +kernel
theorem dL_act_211 : decode cL_act 211 = .ok (.aload 7, 2) := by decide +kernel
theorem dL_act_213 : decode cL_act 213 = .ok (.invokestatic 64, 3) := by decide +kernel
theorem dL_act_216 : decode cL_act 216 = .ok (.iadd, 1) := by decide +kernel
theorem dL_act_217 : decode cL_act 217 = .ok (.aload 6, 2) := by decide +kernel
theorem dL_act_219 : decode cL_act 219 = .ok (.aload 7, 2) := by decide +kernel
theorem dL_act_221 : decode cL_act 221 = .ok (.invokestatic 64, 3) := by decide +kernel
theorem dL_act_224 : decode cL_act 224 = .ok (.iadd, 1) := by decide +kernel
theorem dL_act_225 : decode cL_act 225 = .ok (.iadd, 1) := by decide +kernel
theorem dL_act_226 : decode cL_act 226 = .ok (.istore 14, 2) := by decide +kernel
theorem dL_act_228 : decode cL_act 228 = .ok (.iinc 15 1, 3) := by decide +kernel
theorem dL_act_231 : decode cL_act 231 = .ok (.goto (-38), 3) := by decide +kernel
theorem dL_act_234 : decode cL_act 234 = .ok (.aload 8, 2) := by decide +kernel
theorem dL_act_236 : decode cL_act 236 = .ok (.iconst 0, 1) := by decide +kernel
theorem dL_act_237 : decode cL_act 237 = .ok (.dup2, 1) := by decide +kernel
theorem dL_act_238 : decode cL_act 238 = .ok (.iaload, 1) := by decide +kernel
theorem dL_act_239 : decode cL_act 239 = .ok (.iload 13, 2) := by decide +kernel
theorem dL_act_241 : decode cL_act 241 = .ok (.iadd, 1) := by decide +kernel
theorem dL_act_242 : decode cL_act 242 = .ok (.iastore, 1) := by decide +kernel
theorem dL_act_243 : decode cL_act 243 = .ok (.aload 8, 2) := by decide +kernel
theorem dL_act_245 : decode cL_act 245 = .ok (.iconst 1, 1) := by decide +kernel
theorem dL_act_246 : decode cL_act 246 = .ok (.dup2, 1) := by decide +kernel
theorem dL_act_247 : decode cL_act 247 = .ok (.iaload, 1) := by decide +kernel
theorem dL_act_248 : decode cL_act 248 = .ok (.iload 14, 2) := by decide +kernel
theorem dL_act_250 : decode cL_act 250 = .ok (.iadd, 1) := by decide +kernel
theorem dL_act_251 : decode cL_act 251 = .ok (.iastore, 1) := by decide +kernel
theorem dL_act_252 : decode cL_act 252 = .ok (.aload_n 0, 1) := by decide +kernel
theorem dL_act_253 : decode cL_act 253 = .ok (.iload 13, 2) := by decide +kernel
theorem dL_act_255 : decode cL_act 255 = .ok (.invokevirtual 95, 3) := by decide +kernel
theorem dL_act_258 : decode cL_act 258 = .ok (.iload 14, 2) := by decide +kernel
theorem dL_act_260 : decode cL_act 260 = .ok (.if_icmp .ne 7, 3) := by decide +kernel
theorem dL_act_263 : decode cL_act 263 = .ok (.iconst 1, 1) := by decide +kernel
theorem dL_act_264 : decode cL_act 264 = .ok (.goto 4, 3) := by decide +kernel
theorem dL_act_267 : decode cL_act 267 = .ok (.iconst 0, 1) := by decide +kernel
theorem dL_act_268 : decode cL_act 268 = .ok (.ireturn, 1) := by decide +kernel
theorem dL_act_269 : decode cL_act 269 = .ok (.iload_n 1, 1) := by decide +kernel
theorem dL_act_270 : decode cL_act 270 = .ok (.bipush 9, 2) := by decide +kernel
theorem dL_act_272 : decode cL_act 272 = .ok (.if_icmp .ne 156, 3) := by decide +kernel
theorem dL_act_275 : decode cL_act 275 = .ok (.iload 11, 2) := by decide +kernel
theorem dL_act_277 : decode cL_act 277 = .ok (.iload_n 3, 1) := by decide +kernel
theorem dL_act_278 : decode cL_act 278 = .ok (.bipush 12, 2) := by decide +kernel
theorem dL_act_280 : decode cL_act 280 = .ok (.iload 11, 2) := by decide +kernel
theorem dL_act_282 : decode cL_act 282 = .ok (.isub, 1) := by decide +kernel
theorem dL_act_283 : decode cL_act 283 = .ok (.invokestatic 54, 3) := by decide +kernel
theorem dL_act_286 : decode cL_act 286 = .ok (.iadd, 1) := by decide +kernel
theorem dL_act_287 : decode cL_act 287 = .ok (.istore 13, 2) := by decide +kernel
theorem dL_act_289 : decode cL_act 289 = .ok (.iconst 0, 1) := by decide +kernel
theorem dL_act_290 : decode cL_act 290 = .ok (.istore 14, 2) := by decide +kernel
theorem dL_act_292 : decode cL_act 292 = .ok (.iconst 0, 1) := by decide +kernel
theorem dL_act_293 : decode cL_act 293 = .ok (.istore 15, 2) := by decide +kernel
theorem dL_act_295 : decode cL_act 295 = .ok (.iload 15, 2) := by decide +kernel
theorem dL_act_297 : decode cL_act 297 = .ok (.iconst 4, 1) := by decide +kernel
theorem dL_act_298 : decode cL_act 298 = .ok (.if_icmp .ge 109, 3) := by decide +kernel
theorem dL_act_301 : decode cL_act 301 = .ok (.iconst 0, 1) := by decide +kernel
theorem dL_act_302 : decode cL_act 302 = .ok (.istore 16, 2) := by decide +kernel
theorem dL_act_304 : decode cL_act 304 = .ok (.iload 11, 2) := by decide +kernel
theorem dL_act_306 : decode cL_act 306 = .ok (.istore 17, 2) := by decide +kernel
theorem dL_act_308 : decode cL_act 308 = .ok (.iload 17, 2) := by decide +kernel
theorem dL_act_310 : decode cL_act 310 = .ok (.iload 13, 2) := by decide +kernel
theorem dL_act_312 : decode cL_act 312 = .ok (.if_icmp .gt 24, 3) := by decide +kernel
theorem dL_act_315 : decode cL_act 315 = .ok (.iload 16, 2) := by decide +kernel
theorem dL_act_317 : decode cL_act 317 = .ok (.aload 10, 2) := by decide +kernel
theorem dL_act_319 : decode cL_act 319 = .ok (.iconst 4, 1) := by decide +kernel
theorem dL_act_320 : decode cL_act 320 = .ok (.iload 17, 2) := by decide +kernel
theorem dL_act_322 : decode cL_act 322 = .ok (.imul, 1) := by decide +kernel
theorem dL_act_323 : decode cL_act 323 = .ok (.iload 15, 2) := by decide +kernel
theorem dL_act_325 : decode cL_act 325 = .ok (.iadd, 1) := by decide +kernel
theorem dL_act_326 : decode cL_act 326 = .ok (.iaload, 1) := by decide +kernel
theorem dL_act_327 : decode cL_act 327 = .ok (.iadd, 1) := by decide +kernel
theorem dL_act_328 : decode cL_act 328 = .ok (.istore 16, 2) := by decide +kernel
theorem dL_act_330 : decode cL_act 330 = .ok (.iinc 17 1, 3) := by decide +kernel
theorem dL_act_333 : decode cL_act 333 = .ok (.goto (-25), 3) := by decide +kernel
theorem dL_act_336 : decode cL_act 336 = .ok (.iload 14, 2) := by decide +kernel
theorem dL_act_338 : decode cL_act 338 = .ok (.iload 16, 2) := by decide +kernel
theorem dL_act_340 : decode cL_act 340 = .ok (.iadd, 1) := by decide +kernel
theorem dL_act_341 : decode cL_act 341 = .ok (.istore 14, 2) := by decide +kernel
theorem dL_act_343 : decode cL_act 343 = .ok (.iload 11, 2) := by decide +kernel
theorem dL_act_345 : decode cL_act 345 = .ok (.istore 17, 2) := by decide +kernel
theorem dL_act_347 : decode cL_act 347 = .ok (.iload 17, 2) := by decide +kernel
theorem dL_act_349 : decode cL_act 349 = .ok (.iload 13, 2) := by decide +kernel
theorem dL_act_351 : decode cL_act 351 = .ok (.if_icmp .gt 50, 3) := by decide +kernel
theorem dL_act_354 : decode cL_act 354 = .ok (.aload 10, 2) := by decide +kernel
theorem dL_act_356 : decode cL_act 356 = .ok (.iconst 4, 1) := by decide +kernel
theorem dL_act_357 : decode cL_act 357 = .ok (.iload 17, 2) := by decide +kernel
theorem dL_act_359 : decode cL_act 359 = .ok (.imul, 1) := by decide +kernel
theorem dL_act_360 : decode cL_act 360 = .ok (.iload 15, 2) := by decide +kernel
theorem dL_act_362 : decode cL_act 362 = .ok (.iadd, 1) := by decide +kernel
theorem dL_act_363 : decode cL_act 363 = .ok (.iload 16, 2) := by decide +kernel
theorem dL_act_365 : decode cL_act 365 = .ok (.iload 13, 2) := by decide +kernel
theorem dL_act_367 : decode cL_act 367 = .ok (.iadd, 1) := by decide +kernel
theorem dL_act_368 : decode cL_act 368 = .ok (.iload 17, 2) := by decide +kernel
theorem dL_act_370 : decode cL_act 370 = .ok (.isub, 1) := by decide +kernel
theorem dL_act_371 : decode cL_act 371 = .ok (.iload 13, 2) := by decide +kernel
theorem dL_act_373 : decode cL_act 373 = .ok (.iload 17, 2) := by decide +kernel
theorem dL_act_375 : decode cL_act 375 = .ok (.isub, 1) := by decide +kernel
theorem dL_act_376 : decode cL_act 376 = .ok (.iconst 1, 1) := by decide +kernel
theorem dL_act_377 : decode cL_act 377 = .ok (.iadd, 1) := by decide +kernel
theorem dL_act_378 : decode cL_act 378 = .ok (.idiv, 1) := by decide +kernel
theorem dL_act_379 : decode cL_act 379 = .ok (.iastore, 1) := by decide +kernel
theorem dL_act_380 : decode cL_act 380 = .ok (.iload 16, 2) := by decide +kernel
theorem dL_act_382 : decode cL_act 382 = .ok (.aload 10, 2) := by decide +kernel
theorem dL_act_384 : decode cL_act 384 = .ok (.iconst 4, 1) := by decide +kernel
theorem dL_act_385 : decode cL_act 385 = .ok (.iload 17, 2) := by decide +kernel
theorem dL_act_387 : decode cL_act 387 = .ok (.imul, 1) := by decide +kernel
theorem dL_act_388 : decode cL_act 388 = .ok (.iload 15, 2) := by decide +kernel
theorem dL_act_390 : decode cL_act 390 = .ok (.iadd, 1) := by decide +kernel
theorem dL_act_391 : decode cL_act 391 = .ok (.iaload, 1) := by decide +kernel
theorem dL_act_392 : decode cL_act 392 = .ok (.isub, 1) := by decide +kernel
theorem dL_act_393 : decode cL_act 393 = .ok (.istore 16, 2) := by decide +kernel
theorem dL_act_395 : decode cL_act 395 = .ok (.iinc 17 1, 3) := by decide +kernel
theorem dL_act_398 : decode cL_act 398 = .ok (.goto (-51), 3) := by decide +kernel
theorem dL_act_401 : decode cL_act 401 = .ok (.iinc 15 1, 3) := by decide +kernel
theorem dL_act_404 : decode cL_act 404 = .ok (.goto (-109), 3) := by decide +kernel
theorem dL_act_407 : decode cL_act 407 = .ok (.aload_n 0, 1) := by decide +kernel
theorem dL_act_408 : decode cL_act 408 = .ok (.iload 9, 2) := by decide +kernel
theorem dL_act_410 : decode cL_act 410 = .ok (.iload 11, 2) := by decide +kernel
theorem dL_act_412 : decode cL_act 412 = .ok (.iload 13, 2) := by decide +kernel
theorem dL_act_414 : decode cL_act 414 = .ok (.invokevirtual 98, 3) := by decide +kernel
theorem dL_act_417 : decode cL_act 417 = .ok (.iload 14, 2) := by decide +kernel
theorem dL_act_419 : decode cL_act 419 = .ok (.if_icmp .ne 7, 3) := by decide +kernel
theorem dL_act_422 : decode cL_act 422 = .ok (.iconst 1, 1) := by decide +kernel
theorem dL_act_423 : decode cL_act 423 = .ok (.goto 4, 3) := by decide +kernel
theorem dL_act_426 : decode cL_act 426 = .ok (.iconst 0, 1) := by decide +kernel
theorem dL_act_427 : decode cL_act 427 = .ok (.ireturn, 1) := by decide +kernel
theorem dL_act_428 : decode cL_act 428 = .ok (.iload_n 1, 1) := by decide +kernel
theorem dL_act_429 : decode cL_act 429 = .ok (.bipush 10, 2) := by decide +kernel
theorem dL_act_431 : decode cL_act 431 = .ok (.if_icmp .ne 105, 3) := by decide +kernel
theorem dL_act_434 : decode cL_act 434 = .ok (.iconst 1, 1) := by decide +kernel
theorem dL_act_435 : decode cL_act 435 = .ok (.iload_n 3, 1) := by decide +kernel
theorem dL_act_436 : decode cL_act 436 = .ok (.bipush 100, 2) := by decide +kernel
theorem dL_act_438 : decode cL_act 438 = .ok (.invokestatic 54, 3) := by decide +kernel
theorem dL_act_441 : decode cL_act 441 = .ok (.iadd, 1) := by decide +kernel
theorem dL_act_442 : decode cL_act 442 = .ok (.istore 13, 2) := by decide +kernel
theorem dL_act_444 : decode cL_act 444 = .ok (.iconst 0, 1) := by decide +kernel
theorem dL_act_445 : decode cL_act 445 = .ok (.istore 14, 2) := by decide +kernel
theorem dL_act_447 : decode cL_act 447 = .ok (.iconst 0, 1) := by decide +kernel
theorem dL_act_448 : decode cL_act 448 = .ok (.istore 15, 2) := by decide +kernel
theorem dL_act_450 : decode cL_act 450 = .ok (.iload 15, 2) := by decide +kernel
theorem dL_act_452 : decode cL_act 452 = .ok (.iconst 4, 1) := by decide +kernel
theorem dL_act_453 : decode cL_act 453 = .ok (.if_icmp .ge 62, 3) := by decide +kernel
theorem dL_act_456 : decode cL_act 456 = .ok (.aload 10, 2) := by decide +kernel
theorem dL_act_458 : decode cL_act 458 = .ok (.iconst 4, 1) := by decide +kernel
theorem dL_act_459 : decode cL_act 459 = .ok (.iload 11, 2) := by decide +kernel
theorem dL_act_461 : decode cL_act 461 = .ok (.imul, 1) := by decide +kernel
theorem dL_act_462 : decode cL_act 462 = .ok (.iload 15, 2) := by decide +kernel
theorem dL_act_464 : decode cL_act 464 = .ok (.iadd, 1) := by decide +kernel
theorem dL_act_465 : decode cL_act 465 = .ok (.iaload, 1) := by decide +kernel
theorem dL_act_466 : decode cL_act 466 = .ok (.iload 13, 2) := by decide +kernel
theorem dL_act_468 : decode cL_act 468 = .ok (.imul, 1) := by decide +kernel
theorem dL_act_469 : decode cL_act 469 = .ok (.bipush 100, 2) := by decide +kernel
theorem dL_act_471 : decode cL_act 471 = .ok (.idiv, 1) := by decide +kernel
theorem dL_act_472 : decode cL_act 472 = .ok (.istore 16, 2) := by decide +kernel
theorem dL_act_474 : decode cL_act 474 = .ok (.aload 10, 2) := by decide +kernel
theorem dL_act_476 : decode cL_act 476 = .ok (.iconst 4, 1) := by decide +kernel
theorem dL_act_477 : decode cL_act 477 = .ok (.iload 11, 2) := by decide +kernel
theorem dL_act_479 : decode cL_act 479 = .ok (.imul, 1) := by decide +kernel
theorem dL_act_480 : decode cL_act 480 = .ok (.iload 15, 2) := by decide +kernel
theorem dL_act_482 : decode cL_act 482 = .ok (.iadd, 1) := by decide +kernel
theorem dL_act_483 : decode cL_act 483 = .ok (.dup2, 1) := by decide +kernel
theorem dL_act_484 : decode cL_act 484 = .ok (.iaload, 1) := by decide +kernel
theorem dL_act_485 : decode cL_act 485 = .ok (.iload 16, 2) := by decide +kernel
theorem dL_act_487 : decode cL_act 487 = .ok (.isub, 1) := by decide +kernel
theorem dL_act_488 : decode cL_act 488 = .ok (.iastore, 1) := by decide +kernel
theorem dL_act_489 : decode cL_act 489 = .ok (.aload 7, 2) := by decide +kernel
theorem dL_act_491 : decode cL_act 491 = .ok (.bipush 12, 2) := by decide +kernel
theorem dL_act_493 : decode cL_act 493 = .ok (.iload 15, 2) := by decide +kernel
theorem dL_act_495 : decode cL_act 495 = .ok (.iadd, 1) := by decide +kernel
theorem dL_act_496 : decode cL_act 496 = .ok (.dup2, 1) := by decide +kernel
theorem dL_act_497 : decode cL_act 497 = .ok (.iaload, 1) := by decide +kernel
theorem dL_act_498 : decode cL_act 498 = .ok (.iload 16, 2) := by decide +kernel
theorem dL_act_500 : decode cL_act 500 = .ok (.iadd, 1) := by decide +kernel
theorem dL_act_501 : decode cL_act 501 = .ok (.iastore, 1) := by decide +kernel
theorem dL_act_502 : decode cL_act 502 = .ok (.iload 14, 2) := by decide +kernel
theorem dL_act_504 : decode cL_act 504 = .ok (.iload 16, 2) := by decide +kernel
theorem dL_act_506 : decode cL_act 506 = .ok (.iadd, 1) := by decide +kernel
theorem dL_act_507 : decode cL_act 507 = .ok (.istore 14, 2) := by decide +kernel
theorem dL_act_509 : decode cL_act 509 = .ok (.iinc 15 1, 3) := by decide +kernel
theorem dL_act_512 : decode cL_act 512 = .ok (.goto (-62), 3) := by decide +kernel
theorem dL_act_515 : decode cL_act 515 = .ok (.aload_n 0, 1) := by decide +kernel
theorem dL_act_516 : decode cL_act 516 = .ok (.iload 9, 2) := by decide +kernel
theorem dL_act_518 : decode cL_act 518 = .ok (.iload 11, 2) := by decide +kernel
theorem dL_act_520 : decode cL_act 520 = .ok (.iload 13, 2) := by decide +kernel
theorem dL_act_522 : decode cL_act 522 = .ok (.invokevirtual 101, 3) := by decide +kernel
theorem dL_act_525 : decode cL_act 525 = .ok (.iload 14, 2) := by decide +kernel
theorem dL_act_527 : decode cL_act 527 = .ok (.if_icmp .ne 7, 3) := by decide +kernel
theorem dL_act_530 : decode cL_act 530 = .ok (.iconst 1, 1) := by decide +kernel
theorem dL_act_531 : decode cL_act 531 = .ok (.goto 4, 3) := by decide +kernel
theorem dL_act_534 : decode cL_act 534 = .ok (.iconst 0, 1) := by decide +kernel
theorem dL_act_535 : decode cL_act 535 = .ok (.ireturn, 1) := by decide +kernel
theorem dL_act_536 : decode cL_act 536 = .ok (.iload_n 1, 1) := by decide +kernel
theorem dL_act_537 : decode cL_act 537 = .ok (.bipush 11, 2) := by decide +kernel
theorem dL_act_539 : decode cL_act 539 = .ok (.if_icmp .ne 131, 3) := by decide +kernel
theorem dL_act_542 : decode cL_act 542 = .ok (.iload 9, 2) := by decide +kernel
theorem dL_act_544 : decode cL_act 544 = .ok (.iconst 1, 1) := by decide +kernel
theorem dL_act_545 : decode cL_act 545 = .ok (.iadd, 1) := by decide +kernel
theorem dL_act_546 : decode cL_act 546 = .ok (.iload_n 3, 1) := by decide +kernel
theorem dL_act_547 : decode cL_act 547 = .ok (.iconst 2, 1) := by decide +kernel
theorem dL_act_548 : decode cL_act 548 = .ok (.invokestatic 54, 3) := by decide +kernel
theorem dL_act_551 : decode cL_act 551 = .ok (.iadd, 1) := by decide +kernel
theorem dL_act_552 : decode cL_act 552 = .ok (.iconst 3, 1) := by decide +kernel
theorem dL_act_553 : decode cL_act 553 = .ok (.irem, 1) := by decide +kernel
theorem dL_act_554 : decode cL_act 554 = .ok (.istore 13, 2) := by decide +kernel
theorem dL_act_556 : decode cL_act 556 = .ok (.iload 13, 2) := by decide +kernel
theorem dL_act_558 : decode cL_act 558 = .ok (.ifCond .ne 8, 3) := by decide +kernel
theorem dL_act_561 : decode cL_act 561 = .ok (.aload 4, 2) := by decide +kernel
theorem dL_act_563 : decode cL_act 563 = .ok (.goto 16, 3) := by decide +kernel
theorem dL_act_566 : decode cL_act 566 = .ok (.iload 13, 2) := by decide +kernel
theorem dL_act_568 : decode cL_act 568 = .ok (.iconst 1, 1) := by decide +kernel
theorem dL_act_569 : decode cL_act 569 = .ok (.if_icmp .ne 8, 3) := by decide +kernel
theorem dL_act_572 : decode cL_act 572 = .ok (.aload 5, 2) := by decide +kernel
theorem dL_act_574 : decode cL_act 574 = .ok (.goto 5, 3) := by decide +kernel
theorem dL_act_577 : decode cL_act 577 = .ok (.aload 6, 2) := by decide +kernel
theorem dL_act_579 : decode cL_act 579 = .ok (.astore 14, 2) := by decide +kernel
theorem dL_act_581 : decode cL_act 581 = .ok (.aload 10, 2) := by decide +kernel
theorem dL_act_583 : decode cL_act 583 = .ok (.iconst 0, 1) := by decide +kernel
theorem dL_act_584 : decode cL_act 584 = .ok (.iload 11, 2) := by decide +kernel
theorem dL_act_586 : decode cL_act 586 = .ok (.invokestatic 28, 3) := by decide +kernel
theorem dL_act_589 : decode cL_act 589 = .ok (.istore 15, 2) := by decide +kernel
theorem dL_act_591 : decode cL_act 591 = .ok (.iload 15, 2) := by decide +kernel
theorem dL_act_593 : decode cL_act 593 = .ok (.aload 14, 2) := by decide +kernel
theorem dL_act_595 : decode cL_act 595 = .ok (.iconst 0, 1) := by decide +kernel
theorem dL_act_596 : decode cL_act 596 = .ok (.bipush 11, 2) := by decide +kernel
theorem dL_act_598 : decode cL_act 598 = .ok (.invokestatic 28, 3) := by decide +kernel
theorem dL_act_601 : decode cL_act 601 = .ok (.iadd, 1) := by decide +kernel
theorem dL_act_602 : decode cL_act 602 = .ok (.sipush 5000, 3) := by decide +kernel
theorem dL_act_605 : decode cL_act 605 = .ok (.if_icmp .le 5, 3) := by decide +kernel
theorem dL_act_608 : decode cL_act 608 = .ok (.iconst 1, 1) := by decide +kernel
theorem dL_act_609 : decode cL_act 609 = .ok (.ireturn, 1) := by decide +kernel
theorem dL_act_610 : decode cL_act 610 = .ok (.iconst 0, 1) := by decide +kernel
theorem dL_act_611 : decode cL_act 611 = .ok (.istore 16, 2) := by decide +kernel
theorem dL_act_613 : decode cL_act 613 = .ok (.iload 16, 2) := by decide +kernel
theorem dL_act_615 : decode cL_act 615 = .ok (.iconst 4, 1) := by decide +kernel
theorem dL_act_616 : decode cL_act 616 = .ok (.iload 11, 2) := by decide +kernel
theorem dL_act_618 : decode cL_act 618 = .ok (.imul, 1) := by decide +kernel
theorem dL_act_619 : decode cL_act 619 = .ok (.iconst 4, 1) := by decide +kernel
theorem dL_act_620 : decode cL_act 620 = .ok (.iadd, 1) := by decide +kernel
theorem dL_act_621 : decode cL_act 621 = .ok (.if_icmp .ge 28, 3) := by decide +kernel
theorem dL_act_624 : decode cL_act 624 = .ok (.aload 14, 2) := by decide +kernel
theorem dL_act_626 : decode cL_act 626 = .ok (.iload 16, 2) := by decide +kernel
theorem dL_act_628 : decode cL_act 628 = .ok (.dup2, 1) := by decide +kernel
theorem dL_act_629 : decode cL_act 629 = .ok (.iaload, 1) := by decide +kernel
theorem dL_act_630 : decode cL_act 630 = .ok (.aload 10, 2) := by decide +kernel
theorem dL_act_632 : decode cL_act 632 = .ok (.iload 16, 2) := by decide +kernel
theorem dL_act_634 : decode cL_act 634 = .ok (.iaload, 1) := by decide +kernel
theorem dL_act_635 : decode cL_act 635 = .ok (.iadd, 1) := by decide +kernel
theorem dL_act_636 : decode cL_act 636 = .ok (.iastore, 1) := by decide +kernel
theorem dL_act_637 : decode cL_act 637 = .ok (.aload 10, 2) := by decide +kernel
end
section
theorem dL_act_639 : decode cL_act 639 = .ok (.iload 16, 2) := by decide +kernel
theorem dL_act_641 : decode cL_act 641 = .ok (.iconst 0, 1) := by decide +kernel
theorem dL_act_642 : decode cL_act 642 = .ok (.iastore, 1) := by decide +kernel
theorem dL_act_643 : decode cL_act 643 = .ok (.iinc 16 1, 3) := by decide +kernel
theorem dL_act_646 : decode cL_act 646 = .ok (.goto (-33), 3) := by decide +kernel
theorem dL_act_649 : decode cL_act 649 = .ok (.aload_n 0, 1) := by decide +kernel
theorem dL_act_650 : decode cL_act 650 = .ok (.iload 9, 2) := by decide +kernel
theorem dL_act_652 : decode cL_act 652 = .ok (.iload 13, 2) := by decide +kernel
theorem dL_act_654 : decode cL_act 654 = .ok (.iload 11, 2) := by decide +kernel
theorem dL_act_656 : decode cL_act 656 = .ok (.invokevirtual 104, 3) := by decide +kernel
theorem dL_act_659 : decode cL_act 659 = .ok (.iload 15, 2) := by decide +kernel
theorem dL_act_661 : decode cL_act 661 = .ok (.if_icmp .ne 7, 3) := by decide +kernel
theorem dL_act_664 : decode cL_act 664 = .ok (.iconst 1, 1) := by decide +kernel
theorem dL_act_665 : decode cL_act 665 = .ok (.goto 4, 3) := by decide +kernel
theorem dL_act_668 : decode cL_act 668 = .ok (.iconst 0, 1) := by decide +kernel
theorem dL_act_669 : decode cL_act 669 = .ok (.ireturn, 1) := by decide +kernel
theorem dL_act_670 : decode cL_act 670 = .ok (.iload_n 1, 1) := by decide +kernel
theorem dL_act_671 : decode cL_act 671 = .ok (.bipush 12, 2) := by decide +kernel
theorem dL_act_673 : decode cL_act 673 = .ok (.if_icmp .ne 119, 3) := by decide +kernel
theorem dL_act_676 : decode cL_act 676 = .ok (.iconst 0, 1) := by decide +kernel
theorem dL_act_677 : decode cL_act 677 = .ok (.istore 13, 2) := by decide +kernel
theorem dL_act_679 : decode cL_act 679 = .ok (.iconst 0, 1) := by decide +kernel
theorem dL_act_680 : decode cL_act 680 = .ok (.istore 14, 2) := by decide +kernel
theorem dL_act_682 : decode cL_act 682 = .ok (.iload 14, 2) := by decide +kernel
theorem dL_act_684 : decode cL_act 684 = .ok (.bipush 24, 2) := by decide +kernel
theorem dL_act_686 : decode cL_act 686 = .ok (.if_icmp .ge 49, 3) := by decide +kernel
theorem dL_act_689 : decode cL_act 689 = .ok (.iconst 4, 1) := by decide +kernel
theorem dL_act_690 : decode cL_act 690 = .ok (.bipush 11, 2) := by decide +kernel
theorem dL_act_692 : decode cL_act 692 = .ok (.iload 14, 2) := by decide +kernel
theorem dL_act_694 : decode cL_act 694 = .ok (.iconst 4, 1) := by decide +kernel
theorem dL_act_695 : decode cL_act 695 = .ok (.idiv, 1) := by decide +kernel
theorem dL_act_696 : decode cL_act 696 = .ok (.isub, 1) := by decide +kernel
theorem dL_act_697 : decode cL_act 697 = .ok (.imul, 1) := by decide +kernel
theorem dL_act_698 : decode cL_act 698 = .ok (.iload 14, 2) := by decide +kernel
theorem dL_act_700 : decode cL_act 700 = .ok (.iconst 4, 1) := by decide +kernel
theorem dL_act_701 : decode cL_act 701 = .ok (.irem, 1) := by decide +kernel
theorem dL_act_702 : decode cL_act 702 = .ok (.iadd, 1) := by decide +kernel
theorem dL_act_703 : decode cL_act 703 = .ok (.istore 15, 2) := by decide +kernel
theorem dL_act_705 : decode cL_act 705 = .ok (.aload 10, 2) := by decide +kernel
theorem dL_act_707 : decode cL_act 707 = .ok (.iload 14, 2) := by decide +kernel
theorem dL_act_709 : decode cL_act 709 = .ok (.iaload, 1) := by decide +kernel
theorem dL_act_710 : decode cL_act 710 = .ok (.istore 16, 2) := by decide +kernel
theorem dL_act_712 : decode cL_act 712 = .ok (.aload 10, 2) := by decide +kernel
theorem dL_act_714 : decode cL_act 714 = .ok (.iload 14, 2) := by decide +kernel
theorem dL_act_716 : decode cL_act 716 = .ok (.aload 10, 2) := by decide +kernel
theorem dL_act_718 : decode cL_act 718 = .ok (.iload 15, 2) := by decide +kernel
theorem dL_act_720 : decode cL_act 720 = .ok (.iaload, 1) := by decide +kernel
theorem dL_act_721 : decode cL_act 721 = .ok (.iastore, 1) := by decide +kernel
theorem dL_act_722 : decode cL_act 722 = .ok (.aload 10, 2) := by decide +kernel
theorem dL_act_724 : decode cL_act 724 = .ok (.iload 15, 2) := by decide +kernel
theorem dL_act_726 : decode cL_act 726 = .ok (.iload 16, 2) := by decide +kernel
theorem dL_act_728 : decode cL_act 728 = .ok (.iastore, 1) := by decide +kernel
theorem dL_act_729 : decode cL_act 729 = .ok (.iinc 14 1, 3) := by decide +kernel
theorem dL_act_732 : decode cL_act 732 = .ok (.goto (-50), 3) := by decide +kernel
theorem dL_act_735 : decode cL_act 735 = .ok (.iconst 0, 1) := by decide +kernel
theorem dL_act_736 : decode cL_act 736 = .ok (.istore 14, 2) := by decide +kernel
theorem dL_act_738 : decode cL_act 738 = .ok (.iload 14, 2) := by decide +kernel
theorem dL_act_740 : decode cL_act 740 = .ok (.bipush 12, 2) := by decide +kernel
theorem dL_act_742 : decode cL_act 742 = .ok (.if_icmp .ge 33, 3) := by decide +kernel
theorem dL_act_745 : decode cL_act 745 = .ok (.iload 13, 2) := by decide +kernel
theorem dL_act_747 : decode cL_act 747 = .ok (.aload 10, 2) := by decide +kernel
theorem dL_act_749 : decode cL_act 749 = .ok (.iload 14, 2) := by decide +kernel
theorem dL_act_751 : decode cL_act 751 = .ok (.invokestatic 9, 3) := by decide +kernel
theorem dL_act_754 : decode cL_act 754 = .ok (.aload 7, 2) := by decide +kernel
theorem dL_act_756 : decode cL_act 756 = .ok (.iconst 1, 1) := by decide +kernel
theorem dL_act_757 : decode cL_act 757 = .ok (.iaload, 1) := by decide +kernel
theorem dL_act_758 : decode cL_act 758 = .ok (.if_icmp .lt 7, 3) := by decide +kernel
theorem dL_act_761 : decode cL_act 761 = .ok (.iconst 1, 1) := by decide +kernel
theorem dL_act_762 : decode cL_act 762 = .ok (.goto 4, 3) := by decide +kernel
theorem dL_act_765 : decode cL_act 765 = .ok (.iconst 0, 1) := by decide +kernel
theorem dL_act_766 : decode cL_act 766 = .ok (.iadd, 1) := by decide +kernel
theorem dL_act_767 : decode cL_act 767 = .ok (.istore 13, 2) := by decide +kernel
theorem dL_act_769 : decode cL_act 769 = .ok (.iinc 14 1, 3) := by decide +kernel
theorem dL_act_772 : decode cL_act 772 = .ok (.goto (-34), 3) := by decide +kernel
theorem dL_act_775 : decode cL_act 775 = .ok (.aload_n 0, 1) := by decide +kernel
theorem dL_act_776 : decode cL_act 776 = .ok (.iload 9, 2) := by decide +kernel
theorem dL_act_778 : decode cL_act 778 = .ok (.invokevirtual 107, 3) := by decide +kernel
theorem dL_act_781 : decode cL_act 781 = .ok (.iload 13, 2) := by decide +kernel
theorem dL_act_783 : decode cL_act 783 = .ok (.if_icmp .ne 7, 3) := by decide +kernel
theorem dL_act_786 : decode cL_act 786 = .ok (.iconst 1, 1) := by decide +kernel
theorem dL_act_787 : decode cL_act 787 = .ok (.goto 4, 3) := by decide +kernel
theorem dL_act_790 : decode cL_act 790 = .ok (.iconst 0, 1) := by decide +kernel
theorem dL_act_791 : decode cL_act 791 = .ok (.ireturn, 1) := by decide +kernel
theorem dL_act_792 : decode cL_act 792 = .ok (.iload_n 1, 1) := by decide +kernel
theorem dL_act_793 : decode cL_act 793 = .ok (.bipush 13, 2) := by decide +kernel
theorem dL_act_795 : decode cL_act 795 = .ok (.if_icmp .ne 53, 3) := by decide +kernel
theorem dL_act_798 : decode cL_act 798 = .ok (.aload 7, 2) := by decide +kernel
theorem dL_act_800 : decode cL_act 800 = .ok (.iconst 4, 1) := by decide +kernel
theorem dL_act_801 : decode cL_act 801 = .ok (.iload 12, 2) := by decide +kernel
theorem dL_act_803 : decode cL_act 803 = .ok (.iadd, 1) := by decide +kernel
theorem dL_act_804 : decode cL_act 804 = .ok (.iaload, 1) := by decide +kernel
theorem dL_act_805 : decode cL_act 805 = .ok (.istore 13, 2) := by decide +kernel
theorem dL_act_807 : decode cL_act 807 = .ok (.aload 7, 2) := by decide +kernel
theorem dL_act_809 : decode cL_act 809 = .ok (.iconst 4, 1) := by decide +kernel
theorem dL_act_810 : decode cL_act 810 = .ok (.iload 12, 2) := by decide +kernel
theorem dL_act_812 : decode cL_act 812 = .ok (.iadd, 1) := by decide +kernel
theorem dL_act_813 : decode cL_act 813 = .ok (.iconst 1, 1) := by decide +kernel
theorem dL_act_814 : decode cL_act 814 = .ok (.iload_n 3, 1) := by decide +kernel
theorem dL_act_815 : decode cL_act 815 = .ok (.iconst 3, 1) := by decide +kernel
theorem dL_act_816 : decode cL_act 816 = .ok (.ishr, 1) := by decide +kernel
theorem dL_act_817 : decode cL_act 817 = .ok (.bipush 100, 2) := by decide +kernel
theorem dL_act_819 : decode cL_act 819 = .ok (.invokestatic 54, 3) := by decide +kernel
theorem dL_act_822 : decode cL_act 822 = .ok (.iadd, 1) := by decide +kernel
theorem dL_act_823 : decode cL_act 823 = .ok (.iastore, 1) := by decide +kernel
theorem dL_act_824 : decode cL_act 824 = .ok (.aload_n 0, 1) := by decide +kernel
theorem dL_act_825 : decode cL_act 825 = .ok (.iload 12, 2) := by decide +kernel
theorem dL_act_827 : decode cL_act 827 = .ok (.aload 7, 2) := by decide +kernel
theorem dL_act_829 : decode cL_act 829 = .ok (.iconst 4, 1) := by decide +kernel
theorem dL_act_830 : decode cL_act 830 = .ok (.iload 12, 2) := by decide +kernel
theorem dL_act_832 : decode cL_act 832 = .ok (.iadd, 1) := by decide +kernel
theorem dL_act_833 : decode cL_act 833 = .ok (.iaload, 1) := by decide +kernel
theorem dL_act_834 : decode cL_act 834 = .ok (.invokevirtual 110, 3) := by decide +kernel
theorem dL_act_837 : decode cL_act 837 = .ok (.iload 13, 2) := by decide +kernel
theorem dL_act_839 : decode cL_act 839 = .ok (.if_icmp .ne 7, 3) := by decide +kernel
theorem dL_act_842 : decode cL_act 842 = .ok (.iconst 1, 1) := by decide +kernel
theorem dL_act_843 : decode cL_act 843 = .ok (.goto 4, 3) := by decide +kernel
theorem dL_act_846 : decode cL_act 846 = .ok (.iconst 0, 1) := by decide +kernel
theorem dL_act_847 : decode cL_act 847 = .ok (.ireturn, 1) := by decide +kernel
theorem dL_act_848 : decode cL_act 848 = .ok (.aload 7, 2) := by decide +kernel
theorem dL_act_850 : decode cL_act 850 = .ok (.iload 12, 2) := by decide +kernel
theorem dL_act_852 : decode cL_act 852 = .ok (.iaload, 1) := by decide +kernel
theorem dL_act_853 : decode cL_act 853 = .ok (.istore 13, 2) := by decide +kernel
theorem dL_act_855 : decode cL_act 855 = .ok (.aload 7, 2) := by decide +kernel
theorem dL_act_857 : decode cL_act 857 = .ok (.iload 12, 2) := by decide +kernel
theorem dL_act_859 : decode cL_act 859 = .ok (.iload 12, 2) := by decide +kernel
theorem dL_act_861 : decode cL_act 861 = .ok (.ifCond .ne 15, 3) := by decide +kernel
theorem dL_act_864 : decode cL_act 864 = .ok (.iload_n 3, 1) := by decide +kernel
theorem dL_act_865 : decode cL_act 865 = .ok (.iconst 3, 1) := by decide +kernel
theorem dL_act_866 : decode cL_act 866 = .ok (.ishr, 1) := by decide +kernel
theorem dL_act_867 : decode cL_act 867 = .ok (.sipush 1001, 3) := by decide +kernel
theorem dL_act_870 : decode cL_act 870 = .ok (.invokestatic 54, 3) := by decide +kernel
theorem dL_act_873 : decode cL_act 873 = .ok (.goto 62, 3) := by decide +kernel
theorem dL_act_876 : decode cL_act 876 = .ok (.iload 12, 2) := by decide +kernel
theorem dL_act_878 : decode cL_act 878 = .ok (.iconst 1, 1) := by decide +kernel
theorem dL_act_879 : decode cL_act 879 = .ok (.if_icmp .ne 31, 3) := by decide +kernel
theorem dL_act_882 : decode cL_act 882 = .ok (.bipush 10, 2) := by decide +kernel
theorem dL_act_884 : decode cL_act 884 = .ok (.iload_n 3, 1) := by decide +kernel
theorem dL_act_885 : decode cL_act 885 = .ok (.iconst 3, 1) := by decide +kernel
theorem dL_act_886 : decode cL_act 886 = .ok (.ishr, 1) := by decide +kernel
theorem dL_act_887 : decode cL_act 887 = .ok (.iload_n 2, 1) := by decide +kernel
theorem dL_act_888 : decode cL_act 888 = .ok (.iconst 2, 1) := by decide +kernel
theorem dL_act_889 : decode cL_act 889 = .ok (.invokestatic 54, 3) := by decide +kernel
theorem dL_act_892 : decode cL_act 892 = .ok (.ifCond .ne 9, 3) := by decide +kernel
theorem dL_act_895 : decode cL_act 895 = .ok (.sipush 991, 3) := by decide +kernel
theorem dL_act_898 : decode cL_act 898 = .ok (.goto 5, 3) := by decide +kernel
theorem dL_act_901 : decode cL_act 901 = .ok (.bipush 90, 2) := by decide +kernel
theorem dL_act_903 : decode cL_act 903 = .ok (.invokestatic 54, 3) := by decide +kernel
theorem dL_act_906 : decode cL_act 906 = .ok (.iadd, 1) := by decide +kernel
theorem dL_act_907 : decode cL_act 907 = .ok (.goto 28, 3) := by decide +kernel
theorem dL_act_910 : decode cL_act 910 = .ok (.iload 12, 2) := by decide +kernel
theorem dL_act_912 : decode cL_act 912 = .ok (.iconst 2, 1) := by decide +kernel
theorem dL_act_913 : decode cL_act 913 = .ok (.if_icmp .ne 14, 3) := by decide +kernel
theorem dL_act_916 : decode cL_act 916 = .ok (.iload_n 3, 1) := by decide +kernel
theorem dL_act_917 : decode cL_act 917 = .ok (.iconst 3, 1) := by decide +kernel
theorem dL_act_918 : decode cL_act 918 = .ok (.ishr, 1) := by decide +kernel
theorem dL_act_919 : decode cL_act 919 = .ok (.bipush 51, 2) := by decide +kernel
theorem dL_act_921 : decode cL_act 921 = .ok (.invokestatic 54, 3) := by decide +kernel
theorem dL_act_924 : decode cL_act 924 = .ok (.goto 11, 3) := by decide +kernel
theorem dL_act_927 : decode cL_act 927 = .ok (.iload_n 3, 1) := by decide +kernel
theorem dL_act_928 : decode cL_act 928 = .ok (.iconst 3, 1) := by decide +kernel
theorem dL_act_929 : decode cL_act 929 = .ok (.ishr, 1) := by decide +kernel
theorem dL_act_930 : decode cL_act 930 = .ok (.bipush 10, 2) := by decide +kernel
theorem dL_act_932 : decode cL_act 932 = .ok (.invokestatic 54, 3) := by decide +kernel
theorem dL_act_935 : decode cL_act 935 = .ok (.iastore, 1) := by decide +kernel
theorem dL_act_936 : decode cL_act 936 = .ok (.aload_n 0, 1) := by decide +kernel
theorem dL_act_937 : decode cL_act 937 = .ok (.iload 12, 2) := by decide +kernel
theorem dL_act_939 : decode cL_act 939 = .ok (.aload 7, 2) := by decide +kernel
theorem dL_act_941 : decode cL_act 941 = .ok (.iload 12, 2) := by decide +kernel
theorem dL_act_943 : decode cL_act 943 = .ok (.iaload, 1) := by decide +kernel
theorem dL_act_944 : decode cL_act 944 = .ok (.invokevirtual 113, 3) := by decide +kernel
theorem dL_act_947 : decode cL_act 947 = .ok (.iload 13, 2) := by decide +kernel
theorem dL_act_949 : decode cL_act 949 = .ok (.if_icmp .ne 7, 3) := by decide +kernel
theorem dL_act_952 : decode cL_act 952 = .ok (.iconst 1, 1) := by decide +kernel
theorem dL_act_953 : decode cL_act 953 = .ok (.goto 4, 3) := by decide +kernel
theorem dL_act_956 : decode cL_act 956 = .ok (.iconst 0, 1) := by decide +kernel
theorem dL_act_957 : decode cL_act 957 = .ok (.ireturn, 1) := by decide +kernel
set_option maxRecDepth 20000 in
theorem ggL_law_X5_init : GoodIn wsL_law wsX5_init := goodIn_r _ [7, 8, 9, 10, 11, 12, 13, 14, 15, 16, 17, 18, 19, 20, 21, 22, 23, 24, 25, 26, 27, 28, 29, 30, 31, 32, 33, 34, 35, 36, 3, 37, 38, 39, 40, 41, 42, 43, 44, 45, 46, 47, 48, 49, 50, 51, 52, 53, 54, 55, 56, 57, 58, 59, 401, 402, 403, 404, 405, 406, 397, 398, 399, 400, 407, 408, 409, 410, 411, 412, 413, 414] (by decide +kernel) (by decide +kernel)
set_option maxRecDepth 20000 in
theorem gL_law_X5_init : GoodIn wsL_law (wsX5_init) := ggL_law_X5_init
set_option maxRecDepth 20000 in
theorem ggL_law_L_told : GoodIn wsL_law wsL_told := goodIn_ca (goodIn_ca (goodIn_r _ [63, 64, 65, 62, 66, 3, 67, 68, 69, 2, 70, 14, 71, 72, 73, 74, 75, 76, 77, 78, 79, 80, 81, 82, 83, 84, 85, 86, 87, 88, 25, 89, 90, 91, 92, 93, 94, 95, 96, 97, 47, 98, 99, 100, 33, 101, 42, 102, 103, 104, 105, 106, 107, 108, 109, 110, 111, 112, 113, 114, 115, 116, 117, 118, 119, 120, 121, 122, 123, 124, 125, 126, 127, 128, 129, 130, 131, 132, 133, 134, 43, 135, 136, 137, 138, 139, 140, 141, 142, 143, 144, 145, 146, 147, 148, 149, 150, 151, 152, 153, 154, 155, 156, 157, 158, 159, 160, 161, 162, 163, 164, 165, 166, 167, 168, 169, 170, 171, 172, 173, 174, 175, 176, 177, 178, 179, 180, 181, 182, 183, 184, 185, 186, 187, 188, 189, 190, 191, 192, 193, 194, 195, 196, 197, 198, 199, 200, 201, 202, 203, 204, 205, 206, 207, 208, 209, 210, 211, 212, 213, 214, 215, 216, 217, 218, 219, 220, 221, 222, 223, 224, 225, 226, 227, 228, 229, 230, 231, 232, 233, 234, 235, 236, 237, 238, 239, 13, 240, 36, 241, 242, 243, 244, 245, 246, 247, 18, 248, 249, 250, 251, 252, 253, 254, 255, 256, 34, 257, 258, 259, 260, 261, 262, 263, 264, 265, 266, 267, 268, 269, 270, 271, 17, 272, 273, 397, 398, 399, 400, 401, 402, 403, 404, 405, 406, 412, 413, 414, 407, 408, 409] (by decide +kernel) (by decide +kernel)) (goodIn_sub (fun _ h => List.mem_append_left _ (List.mem_append_left _ (List.mem_append_right _ h))) (by decide +kernel))) (goodIn_sub (fun _ h => List.mem_append_left _ (List.mem_append_right _ h)) (by decide +kernel))
set_option maxRecDepth 20000 in
theorem gL_law_L_told : GoodIn wsL_law (va_wsS RL 117 yL_told wsL_told) := goodIn_app (goodIn_of _ (by decide +kernel)) ggL_law_L_told
set_option maxRecDepth 20000 in
theorem ggL_law_X5_count : GoodIn wsL_law wsX5_count := goodIn_ca (goodIn_r _ [245, 14, 246, 247, 18, 81, 82, 2, 83, 84, 85, 248, 249, 250, 13, 251, 36, 252, 168, 169, 25, 170, 171, 172, 173, 174, 90, 91, 92, 93, 94, 95, 96, 97, 47, 253, 254, 255, 256, 34, 257, 258, 259, 260, 98, 99, 100, 33, 101, 42, 261, 262, 263, 264, 265, 266, 267, 268, 102, 103, 104, 105, 269, 270, 271, 17, 272, 273, 397, 398, 399, 400, 401, 402, 403, 404, 405, 406, 412, 413, 414, 407, 408, 409] (by decide +kernel) (by decide +kernel)) (goodIn_sub (fun _ h => List.mem_append_left _ (List.mem_append_right _ h)) (by decide +kernel))
set_option maxRecDepth 20000 in
theorem gL_law_X5_count : GoodIn wsL_law (wsV RL 79 RX5 yX5_count wsX5_count) := goodIn_app (goodIn_of _ (by decide +kernel)) ggL_law_X5_count
set_option maxRecDepth 20000 in
theorem ggL_law_L_cell : GoodIn wsL_law wsL_cell := goodIn_r _ [276, 277] (by decide +kernel) (by decide +kernel)
set_option maxRecDepth 20000 in
theorem gL_law_L_cell : GoodIn wsL_law (va_wsS RL 121 yL_cell wsL_cell) := goodIn_app (goodIn_of _ (by decide +kernel)) ggL_law_L_cell
set_option maxRecDepth 20000 in
theorem ggL_law_L_at : GoodIn wsL_law wsL_at := goodIn_r _ [204] (by decide +kernel) (by decide +kernel)
set_option maxRecDepth 20000 in
theorem gL_law_L_at : GoodIn wsL_law (va_wsS RL 54 yL_at wsL_at) := goodIn_app (goodIn_of _ (by decide +kernel)) ggL_law_L_at
set_option maxRecDepth 20000 in
theorem ggL_law_L_act : GoodIn wsL_law wsL_act := goodIn_ca (goodIn_ca (goodIn_ca (goodIn_r _ [280, 202, 203, 62, 204, 199, 200, 201, 281, 282, 283, 2, 284, 14, 71, 18, 234, 73, 74, 75, 76, 77, 78, 79, 80, 81, 82, 83, 84, 85, 285, 286, 287, 288, 289, 217, 168, 169, 25, 170, 171, 172, 173, 174, 90, 91, 92, 93, 94, 95, 96, 97, 47, 290, 291, 292, 17, 293, 53, 294, 273, 295, 296, 297, 13, 298, 34, 36, 37, 299, 300, 301, 302, 38, 303, 304, 305, 306, 307, 33, 308, 42, 309, 43, 310, 311, 312, 313, 314, 315, 316, 317, 318, 319, 145, 146, 147, 222, 223, 224, 148, 149, 150, 151, 152, 153, 154, 155, 142, 143, 144, 320, 321, 322, 323, 246, 72, 247, 324, 325, 326, 327, 328, 329, 330, 331, 332, 333, 334, 335, 336, 137, 117, 138, 110, 111, 112, 113, 114, 115, 116, 118, 119, 120, 121, 122, 131, 132, 133, 134, 135, 136, 337, 338, 339, 340, 341, 342, 343, 344, 345, 346, 347, 348, 349, 235, 350, 351, 352, 353, 354, 355, 356, 357, 358, 359, 360, 361, 362, 363, 364, 365, 366, 367, 368, 258, 259, 260, 98, 99, 100, 101, 369, 370, 371, 372, 236, 373, 374, 375, 376, 377, 378, 229, 397, 398, 399, 400, 401, 402, 403, 404, 405, 406, 412, 407, 408, 409, 413, 414] (by decide +kernel) (by decide +kernel)) (goodIn_sub (fun _ h => List.mem_append_left _ (List.mem_append_left _ (List.mem_append_right _ h))) (by decide +kernel))) (goodIn_sub (fun _ h => List.mem_append_left _ (List.mem_append_right _ h)) (by decide +kernel))) (goodIn_sub (fun _ h => List.mem_append_right _ h) (by decide +kernel))
set_option maxRecDepth 20000 in
theorem gL_law_L_act : GoodIn wsL_law (va_wsS RL 125 yL_act wsL_act) := goodIn_app (goodIn_of _ (by decide +kernel)) ggL_law_L_act
set_option maxRecDepth 20000 in
theorem ggL_law_L_ahead : GoodIn wsL_law wsL_ahead := goodIn_ca (goodIn_ca (goodIn_r _ [381, 3, 202, 203, 62, 204, 222, 223, 224, 148, 149, 150, 151, 145, 146, 147, 152, 153, 154, 155, 142, 143, 144, 382, 383, 384, 2, 385, 26, 14, 71, 72, 76, 77, 78, 79, 80, 81, 82, 83, 84, 85, 386, 311, 312, 25, 313, 47, 314, 300, 301, 302, 324, 325, 326, 327, 328, 329, 330, 331, 332, 333, 334, 335, 336, 137, 117, 138, 90, 91, 92, 93, 94, 95, 96, 97, 110, 111, 112, 33, 113, 114, 42, 115, 116, 118, 119, 120, 121, 122, 131, 132, 133, 134, 43, 135, 136, 337, 316, 317, 318, 163, 164, 165, 166, 167, 168, 169, 170, 171, 172, 173, 174, 175, 176, 177, 178, 98, 99, 100, 101, 179, 180, 181, 182, 102, 103, 104, 105, 183, 184, 185, 186, 106, 107, 108, 109, 187, 188, 189, 190, 191, 128, 129, 130, 192, 193, 194, 195, 196, 197, 198, 199, 200, 201, 156, 157, 158, 387, 388, 389, 390, 391, 392, 393, 394, 395, 396, 397, 398, 399, 400, 401, 402, 403, 404, 405, 406, 412, 413, 414] (by decide +kernel) (by decide +kernel)) (goodIn_sub (fun _ h => List.mem_append_left _ (List.mem_append_left _ (List.mem_append_right _ h))) (by decide +kernel))) (goodIn_sub (fun _ h => List.mem_append_left _ (List.mem_append_right _ h)) (by decide +kernel))
set_option maxRecDepth 20000 in
theorem gL_law_L_ahead : GoodIn wsL_law (va_wsS RL 129 yL_ahead wsL_ahead) := goodIn_app (goodIn_of _ (by decide +kernel)) ggL_law_L_ahead
theorem dL_law_0 : decode cL_law 0 = .ok (.new 36, 3) := by decide +kernel
theorem dL_law_3 : decode cL_law 3 = .ok (.dup, 1) := by decide +kernel
theorem dL_law_4 : decode cL_law 4 = .ok (.invokespecial 116, 3) := by decide +kernel
theorem dL_law_7 : decode cL_law 7 = .ok (.astore_n 1, 1) := by decide +kernel
theorem dL_law_8 : decode cL_law 8 = .ok (.bipush 48, 2) := by decide +kernel
theorem dL_law_10 : decode cL_law 10 = .ok (.newarray .int, 2) := by decide +kernel
theorem dL_law_12 : decode cL_law 12 = .ok (.astore_n 2, 1) := by decide +kernel
theorem dL_law_13 : decode cL_law 13 = .ok (.bipush 48, 2) := by decide +kernel
theorem dL_law_15 : decode cL_law 15 = .ok (.newarray .int, 2) := by decide +kernel
theorem dL_law_17 : decode cL_law 17 = .ok (.astore_n 3, 1) := by decide +kernel
theorem dL_law_18 : decode cL_law 18 = .ok (.bipush 48, 2) := by decide +kernel
theorem dL_law_20 : decode cL_law 20 = .ok (.newarray .int, 2) := by decide +kernel
theorem dL_law_22 : decode cL_law 22 = .ok (.astore 4, 2) := by decide +kernel
theorem dL_law_24 : decode cL_law 24 = .ok (.bipush 16, 2) := by decide +kernel
theorem dL_law_26 : decode cL_law 26 = .ok (.newarray .int, 2) := by decide +kernel
theorem dL_law_28 : decode cL_law 28 = .ok (.astore 5, 2) := by decide +kernel
theorem dL_law_30 : decode cL_law 30 = .ok (.iconst 2, 1) := by decide +kernel
theorem dL_law_31 : decode cL_law 31 = .ok (.newarray .int, 2) := by decide +kernel
theorem dL_law_33 : decode cL_law 33 = .ok (.astore 6, 2) := by decide +kernel
theorem dL_law_35 : decode cL_law 35 = .ok (.aload 5, 2) := by decide +kernel
theorem dL_law_37 : decode cL_law 37 = .ok (.iconst 0, 1) := by decide +kernel
theorem dL_law_38 : decode cL_law 38 = .ok (.bipush 100, 2) := by decide +kernel
theorem dL_law_40 : decode cL_law 40 = .ok (.iastore, 1) := by decide +kernel
theorem dL_law_41 : decode cL_law 41 = .ok (.aload 5, 2) := by decide +kernel
theorem dL_law_43 : decode cL_law 43 = .ok (.iconst 1, 1) := by decide +kernel
theorem dL_law_44 : decode cL_law 44 = .ok (.sipush 200, 3) := by decide +kernel
theorem dL_law_47 : decode cL_law 47 = .ok (.iastore, 1) := by decide +kernel
theorem dL_law_48 : decode cL_law 48 = .ok (.aload 5, 2) := by decide +kernel
theorem dL_law_50 : decode cL_law 50 = .ok (.iconst 2, 1) := by decide +kernel
theorem dL_law_51 : decode cL_law 51 = .ok (.iconst 3, 1) := by decide +kernel
theorem dL_law_52 : decode cL_law 52 = .ok (.iastore, 1) := by decide +kernel
theorem dL_law_53 : decode cL_law 53 = .ok (.iconst 0, 1) := by decide +kernel
theorem dL_law_54 : decode cL_law 54 = .ok (.istore 7, 2) := by decide +kernel
theorem dL_law_56 : decode cL_law 56 = .ok (.iload 7, 2) := by decide +kernel
theorem dL_law_58 : decode cL_law 58 = .ok (.iconst 4, 1) := by decide +kernel
theorem dL_law_59 : decode cL_law 59 = .ok (.if_icmp .ge 21, 3) := by decide +kernel
theorem dL_law_62 : decode cL_law 62 = .ok (.aload 5, 2) := by decide +kernel
theorem dL_law_64 : decode cL_law 64 = .ok (.iconst 4, 1) := by decide +kernel
theorem dL_law_65 : decode cL_law 65 = .ok (.iload 7, 2) := by decide +kernel
theorem dL_law_67 : decode cL_law 67 = .ok (.iadd, 1) := by decide +kernel
theorem dL_law_68 : decode cL_law 68 = .ok (.bipush 40, 2) := by decide +kernel
theorem dL_law_70 : decode cL_law 70 = .ok (.iload 7, 2) := by decide +kernel
theorem dL_law_72 : decode cL_law 72 = .ok (.ishr, 1) := by decide +kernel
theorem dL_law_73 : decode cL_law 73 = .ok (.iastore, 1) := by decide +kernel
theorem dL_law_74 : decode cL_law 74 = .ok (.iinc 7 1, 3) := by decide +kernel
theorem dL_law_77 : decode cL_law 77 = .ok (.goto (-21), 3) := by decide +kernel
theorem dL_law_80 : decode cL_law 80 = .ok (.aload_n 1, 1) := by decide +kernel
theorem dL_law_81 : decode cL_law 81 = .ok (.iconst 0, 1) := by decide +kernel
theorem dL_law_82 : decode cL_law 82 = .ok (.aload_n 2, 1) := by decide +kernel
theorem dL_law_83 : decode cL_law 83 = .ok (.aload_n 3, 1) := by decide +kernel
theorem dL_law_84 : decode cL_law 84 = .ok (.aload 4, 2) := by decide +kernel
theorem dL_law_86 : decode cL_law 86 = .ok (.aload 5, 2) := by decide +kernel
theorem dL_law_88 : decode cL_law 88 = .ok (.aload 6, 2) := by decide +kernel
theorem dL_law_90 : decode cL_law 90 = .ok (.invokestatic 117, 3) := by decide +kernel
theorem dL_law_93 : decode cL_law 93 = .ok (.ifCond .eq 11, 3) := by decide +kernel
theorem dL_law_96 : decode cL_law 96 = .ok (.aload_n 1, 1) := by decide +kernel
theorem dL_law_97 : decode cL_law 97 = .ok (.iconst 5, 1) := by decide +kernel
theorem dL_law_98 : decode cL_law 98 = .ok (.invokevirtual 79, 3) := by decide +kernel
theorem dL_law_101 : decode cL_law 101 = .ok (.ifCond .eq 5, 3) := by decide +kernel
theorem dL_law_104 : decode cL_law 104 = .ok (.iconst 0, 1) := by decide +kernel
theorem dL_law_105 : decode cL_law 105 = .ok (.ireturn, 1) := by decide +kernel
theorem dL_law_106 : decode cL_law 106 = .ok (.iconst 0, 1) := by decide +kernel
theorem dL_law_107 : decode cL_law 107 = .ok (.istore 7, 2) := by decide +kernel
theorem dL_law_109 : decode cL_law 109 = .ok (.iload 7, 2) := by decide +kernel
theorem dL_law_111 : decode cL_law 111 = .ok (.bipush 18, 2) := by decide +kernel
theorem dL_law_113 : decode cL_law 113 = .ok (.if_icmp .ge 158, 3) := by decide +kernel
theorem dL_law_116 : decode cL_law 116 = .ok (.aload_n 0, 1) := by decide +kernel
theorem dL_law_117 : decode cL_law 117 = .ok (.iconst 2, 1) := by decide +kernel
theorem dL_law_118 : decode cL_law 118 = .ok (.iload 7, 2) := by decide +kernel
theorem dL_law_120 : decode cL_law 120 = .ok (.imul, 1) := by decide +kernel
theorem dL_law_121 : decode cL_law 121 = .ok (.invokestatic 121, 3) := by decide +kernel
theorem dL_law_124 : decode cL_law 124 = .ok (.ldc 124, 2) := by decide +kernel
theorem dL_law_126 : decode cL_law 126 = .ok (.iand, 1) := by decide +kernel
theorem dL_law_127 : decode cL_law 127 = .ok (.istore 8, 2) := by decide +kernel
theorem dL_law_129 : decode cL_law 129 = .ok (.aload_n 0, 1) := by decide +kernel
theorem dL_law_130 : decode cL_law 130 = .ok (.iconst 2, 1) := by decide +kernel
theorem dL_law_131 : decode cL_law 131 = .ok (.iload 7, 2) := by decide +kernel
theorem dL_law_133 : decode cL_law 133 = .ok (.imul, 1) := by decide +kernel
theorem dL_law_134 : decode cL_law 134 = .ok (.iconst 1, 1) := by decide +kernel
theorem dL_law_135 : decode cL_law 135 = .ok (.iadd, 1) := by decide +kernel
theorem dL_law_136 : decode cL_law 136 = .ok (.invokestatic 121, 3) := by decide +kernel
theorem dL_law_139 : decode cL_law 139 = .ok (.ldc 124, 2) := by decide +kernel
theorem dL_law_141 : decode cL_law 141 = .ok (.iand, 1) := by decide +kernel
theorem dL_law_142 : decode cL_law 142 = .ok (.istore 9, 2) := by decide +kernel
theorem dL_law_144 : decode cL_law 144 = .ok (.aload_n 1, 1) := by decide +kernel
theorem dL_law_145 : decode cL_law 145 = .ok (.iload 7, 2) := by decide +kernel
theorem dL_law_147 : decode cL_law 147 = .ok (.iconst 4, 1) := by decide +kernel
theorem dL_law_148 : decode cL_law 148 = .ok (.if_icmp .ge 7, 3) := by decide +kernel
theorem dL_law_151 : decode cL_law 151 = .ok (.iconst 0, 1) := by decide +kernel
theorem dL_law_152 : decode cL_law 152 = .ok (.goto 13, 3) := by decide +kernel
theorem dL_law_155 : decode cL_law 155 = .ok (.iload 8, 2) := by decide +kernel
theorem dL_law_157 : decode cL_law 157 = .ok (.bipush 13, 2) := by decide +kernel
theorem dL_law_159 : decode cL_law 159 = .ok (.ishr, 1) := by decide +kernel
theorem dL_law_160 : decode cL_law 160 = .ok (.bipush 15, 2) := by decide +kernel
theorem dL_law_162 : decode cL_law 162 = .ok (.invokestatic 54, 3) := by decide +kernel
theorem dL_law_165 : decode cL_law 165 = .ok (.iload 8, 2) := by decide +kernel
theorem dL_law_167 : decode cL_law 167 = .ok (.iload 9, 2) := by decide +kernel
theorem dL_law_169 : decode cL_law 169 = .ok (.aload_n 2, 1) := by decide +kernel
theorem dL_law_170 : decode cL_law 170 = .ok (.aload_n 3, 1) := by decide +kernel
theorem dL_law_171 : decode cL_law 171 = .ok (.aload 4, 2) := by decide +kernel
theorem dL_law_173 : decode cL_law 173 = .ok (.aload 5, 2) := by decide +kernel
theorem dL_law_175 : decode cL_law 175 = .ok (.aload 6, 2) := by decide +kernel
theorem dL_law_177 : decode cL_law 177 = .ok (.invokestatic 125, 3) := by decide +kernel
theorem dL_law_180 : decode cL_law 180 = .ok (.ifCond .eq 22, 3) := by decide +kernel
theorem dL_law_183 : decode cL_law 183 = .ok (.aload_n 1, 1) := by decide +kernel
theorem dL_law_184 : decode cL_law 184 = .ok (.iload 9, 2) := by decide +kernel
theorem dL_law_186 : decode cL_law 186 = .ok (.iconst 2, 1) := by decide +kernel
theorem dL_law_187 : decode cL_law 187 = .ok (.ishr, 1) := by decide +kernel
theorem dL_law_188 : decode cL_law 188 = .ok (.aload_n 2, 1) := by decide +kernel
theorem dL_law_189 : decode cL_law 189 = .ok (.aload_n 3, 1) := by decide +kernel
theorem dL_law_190 : decode cL_law 190 = .ok (.aload 4, 2) := by decide +kernel
theorem dL_law_192 : decode cL_law 192 = .ok (.aload 5, 2) := by decide +kernel
theorem dL_law_194 : decode cL_law 194 = .ok (.aload 6, 2) := by decide +kernel
theorem dL_law_196 : decode cL_law 196 = .ok (.invokestatic 117, 3) := by decide +kernel
theorem dL_law_199 : decode cL_law 199 = .ok (.ifCond .ne 5, 3) := by decide +kernel
theorem dL_law_202 : decode cL_law 202 = .ok (.iconst 0, 1) := by decide +kernel
theorem dL_law_203 : decode cL_law 203 = .ok (.ireturn, 1) := by decide +kernel
theorem dL_law_204 : decode cL_law 204 = .ok (.iload 9, 2) := by decide +kernel
theorem dL_law_206 : decode cL_law 206 = .ok (.iconst 4, 1) := by decide +kernel
theorem dL_law_207 : decode cL_law 207 = .ok (.ishr, 1) := by decide +kernel
theorem dL_law_208 : decode cL_law 208 = .ok (.iconst 3, 1) := by decide +kernel
theorem dL_law_209 : decode cL_law 209 = .ok (.invokestatic 54, 3) := by decide +kernel
theorem dL_law_212 : decode cL_law 212 = .ok (.istore 10, 2) := by decide +kernel
theorem dL_law_214 : decode cL_law 214 = .ok (.iload 7, 2) := by decide +kernel
theorem dL_law_216 : decode cL_law 216 = .ok (.bipush 6, 2) := by decide +kernel
theorem dL_law_218 : decode cL_law 218 = .ok (.irem, 1) := by decide +kernel
theorem dL_law_219 : decode cL_law 219 = .ok (.iconst 5, 1) := by decide +kernel
theorem dL_law_220 : decode cL_law 220 = .ok (.if_icmp .ne 45, 3) := by decide +kernel
theorem dL_law_223 : decode cL_law 223 = .ok (.aload_n 1, 1) := by decide +kernel
theorem dL_law_224 : decode cL_law 224 = .ok (.iload 10, 2) := by decide +kernel
theorem dL_law_226 : decode cL_law 226 = .ok (.iload 9, 2) := by decide +kernel
theorem dL_law_228 : decode cL_law 228 = .ok (.iconst 2, 1) := by decide +kernel
theorem dL_law_229 : decode cL_law 229 = .ok (.ishr, 1) := by decide +kernel
theorem dL_law_230 : decode cL_law 230 = .ok (.iload 8, 2) := by decide +kernel
theorem dL_law_232 : decode cL_law 232 = .ok (.iconst 2, 1) := by decide +kernel
theorem dL_law_233 : decode cL_law 233 = .ok (.ishr, 1) := by decide +kernel
theorem dL_law_234 : decode cL_law 234 = .ok (.iload 10, 2) := by decide +kernel
theorem dL_law_236 : decode cL_law 236 = .ok (.ifCond .ne 7, 3) := by decide +kernel
theorem dL_law_239 : decode cL_law 239 = .ok (.aload_n 2, 1) := by decide +kernel
theorem dL_law_240 : decode cL_law 240 = .ok (.goto 15, 3) := by decide +kernel
theorem dL_law_243 : decode cL_law 243 = .ok (.iload 10, 2) := by decide +kernel
theorem dL_law_245 : decode cL_law 245 = .ok (.iconst 1, 1) := by decide +kernel
theorem dL_law_246 : decode cL_law 246 = .ok (.if_icmp .ne 7, 3) := by decide +kernel
theorem dL_law_249 : decode cL_law 249 = .ok (.aload_n 3, 1) := by decide +kernel
theorem dL_law_250 : decode cL_law 250 = .ok (.goto 5, 3) := by decide +kernel
theorem dL_law_253 : decode cL_law 253 = .ok (.aload 4, 2) := by decide +kernel
theorem dL_law_255 : decode cL_law 255 = .ok (.aload 5, 2) := by decide +kernel
theorem dL_law_257 : decode cL_law 257 = .ok (.invokestatic 129, 3) := by decide +kernel
theorem dL_law_260 : decode cL_law 260 = .ok (.ifCond .ne 5, 3) := by decide +kernel
theorem dL_law_263 : decode cL_law 263 = .ok (.iconst 0, 1) := by decide +kernel
theorem dL_law_264 : decode cL_law 264 = .ok (.ireturn, 1) := by decide +kernel
theorem dL_law_265 : decode cL_law 265 = .ok (.iinc 7 1, 3) := by decide +kernel
theorem dL_law_268 : decode cL_law 268 = .ok (.goto (-159), 3) := by decide +kernel
theorem dL_law_271 : decode cL_law 271 = .ok (.aload_n 1, 1) := by decide +kernel
theorem dL_law_272 : decode cL_law 272 = .ok (.iconst 5, 1) := by decide +kernel
theorem dL_law_273 : decode cL_law 273 = .ok (.invokevirtual 79, 3) := by decide +kernel
theorem dL_law_276 : decode cL_law 276 = .ok (.ifCond .le 7, 3) := by decide +kernel
theorem dL_law_279 : decode cL_law 279 = .ok (.iconst 1, 1) := by decide +kernel
theorem dL_law_280 : decode cL_law 280 = .ok (.goto 4, 3) := by decide +kernel
theorem dL_law_283 : decode cL_law 283 = .ok (.iconst 0, 1) := by decide +kernel
theorem dL_law_284 : decode cL_law 284 = .ok (.ireturn, 1) := by decide +kernel
abbrev vwCl : List vw_C := [(RX0, TX0, 2), (RX1, TX1, 3), (RX2, TX2, 1), (RX3, TX3, 2), (RX4, TX4, 6), (RX5, TX5, 4)]
end
section
/-! Wrappers over the kit's rows: worlds, contracts that only read, contracts that write, calls of both. -/
abbrev zTy (ac : Nat → ClassId) : List (ClassId × FieldType) := [(ac 0, .int), (ac 1, .char), (ac 2, .object "SettlingJars$Jar"), (ac 3, .object "SettlingJars$State")]
/-- the world: the cells w, and the tables -/
def zW (D : va_G) (ac : Nat → ClassId) (w : va_W) (U : State) : Prop := va_P D vwCl w U.heap ∧ va_K D vwCl (zTy ac) U
/-- a writing method's start -/
def zS (D : va_G) (ac : Nat → ClassId) (w : va_W) (sz : Nat) (U : State) : Prop := U.heap.size = sz ∧ zW D ac w U ∧ va_D (fun _ => True) w
/-- a writing method's end -/
def zE (D : va_G) (ac : Nat → ClassId) (w w2 : va_W) (sz : Nat) (_ : Unit) (U : State) : Prop := zW D ac w2 U ∧ va_D (va_A w sz) w2
theorem zW_blind {av : List Value} {D : va_G} {ac : Nat → ClassId} {w : va_W} : FrameBlind (va_Pc av (zW D ac w)) := fun a U g mk q => ⟨q.1, q.2.1, va_K.moved (u := U) (U := U.calling g mk a) (Vm.Alike.refl U.vm) q.2.2⟩
theorem zS_blind {av : List Value} {D : va_G} {ac : Nat → ClassId} {w : va_W} {sz : Nat} : FrameBlind (va_Pc av (zS D ac w sz)) := fun a U g mk q => ⟨q.1, q.2.1, ⟨q.2.2.1.1, va_K.moved (u := U) (U := U.calling g mk a) (Vm.Alike.refl U.vm) q.2.2.1.2⟩, q.2.2.2⟩
abbrev zRi (X : Int32) : Array Value → State → Outcome → State → Prop := vp_Si (fun r => r = X)
abbrev zRl (X : Int64) : Array Value → State → Outcome → State → Prop := vp_Sl (fun r => r = X)
abbrev zRd (X : UInt64) : Array Value → State → Outcome → State → Prop := vp_Sd (fun r => r = X)
abbrev zRv : Array Value → State → Outcome → State → Prop := va_Sv (fun _ => True)
abbrev zQi (D : va_G) (ac : Nat → ClassId) (w w2 : va_W) (sz : Nat) (X : Int32) : Array Value → State → Outcome → State → Prop := va_Qi (fun r (_ : Unit) => r = X) (zE D ac w w2 sz) (va_A w sz)
abbrev zQl (D : va_G) (ac : Nat → ClassId) (w w2 : va_W) (sz : Nat) (X : Int64) : Array Value → State → Outcome → State → Prop := va_Ql (fun r (_ : Unit) => r = X) (zE D ac w w2 sz) (va_A w sz)
abbrev zQd (D : va_G) (ac : Nat → ClassId) (w w2 : va_W) (sz : Nat) (X : UInt64) : Array Value → State → Outcome → State → Prop := va_Qd (fun r (_ : Unit) => r = X) (zE D ac w w2 sz) (va_A w sz)
abbrev zQv (D : va_G) (ac : Nat → ClassId) (w w2 : va_W) (sz : Nat) : Array Value → State → Outcome → State → Prop := va_Qv (fun (_ : Unit) => True) (zE D ac w w2 sz) (va_A w sz)
/-- a method that only reads -/
theorem z_ro {l : Launch} {y : MethodName} {ws ws' : List Cond} {rm : Room} {cc : ByteArray} {maxL : Nat} {ret : Option FieldType} {av : List Value} {D : va_G} {ac : Nat → ClassId} {w : va_W} {Qc : Array Value → State → Outcome → State → Prop}
    (hy : plainName y.cls = true) (hw : ws = Cond.code y cc maxL ret :: ws') (hn : (lg_sl av).length ≤ maxL) {lv : List (Nat × Value)} (hlv : lv_args 0 av = lv)
    (body : ∀ (p : Program) (e : Env) (s : State) (m : MethodId) (args : Array Value) (below : List Frame) (meth : Method) (c : Code) (ls : Array Slot), p.tables.exec = Jvm.exec → c.code = cc → meth.sig.returnType = ret → c.maxLocals = maxL → s.vm.findClass y.cls = some m.cls → (∀ w ∈ ws, w.before args s = true) → meth.locks = false → lv_has ls maxL lv → va_K D vwCl (zTy ac) s → va_P D vwCl w s.heap → W p l e rm s m args below meth c s.heap [] 0 0 (MQ below Qc args s 0 0 (fun _ => False)) (F0 m 0 ls [])) : Met l y ws rm (va_Pc av (zW D ac w)) Qc 0 0 (fun _ => False) := by
  refine Met.ofW (cc := cc) (maxL := maxL) (ret := ret) hy hw ?_
  intro p e s m args below meth c s₁ B hml hv
  obtain ⟨rfl, hP, hK⟩ := hv
  rw [lg_entry_eq]
  have hl := lv_entry av (n := maxL) hn
  rw [hlv] at hl
  exact body p e s m _ below meth c _ B.exec B.bytes B.returns hml (findClass_of_methodNamed B.named) (atoms_spec (ws := ws) B.pre) B.notSynchronized hl hK hP
/-- a method that writes -/
theorem z_rw {l : Launch} {y : MethodName} {ws ws' : List Cond} {rm : Room} {cc : ByteArray} {maxL : Nat} {ret : Option FieldType} {av : List Value} {D : va_G} {ac : Nat → ClassId} {w : va_W} {sz mc ms : Nat} {Qc : Array Value → State → Outcome → State → Prop}
    (hy : plainName y.cls = true) (hw : ws = Cond.code y cc maxL ret :: ws') (hn : (lg_sl av).length ≤ maxL) {lv : List (Nat × Value)} (hlv : lv_args 0 av = lv)
    (body : ∀ (p : Program) (e : Env) (s : State) (m : MethodId) (args : Array Value) (below : List Frame) (meth : Method) (c : Code) (ls : Array Slot) (A : Nat → Prop), p.tables.exec = Jvm.exec → c.code = cc → meth.sig.returnType = ret → c.maxLocals = maxL → s.vm.findClass y.cls = some m.cls → (∀ w ∈ ws, w.before args s = true) → meth.locks = false → lv_has ls maxL lv → va_K D vwCl (zTy ac) s → va_P D vwCl w s.heap → s.heap.size = sz → A = va_A w sz → (∀ q : Nat, s.heap.size ≤ q → A q) → va_D A w → va_S A s.heap s.heap [] → W p l e rm s m args below meth c s.heap [] 0 0 (MQ below Qc args s mc ms A) (F0 m 0 ls [])) : Met l y ws rm (va_Pc av (zS D ac w sz)) Qc mc ms (va_A w sz) := by
  refine Met.ofW (cc := cc) (maxL := maxL) (ret := ret) hy hw ?_
  intro p e s m args below meth c s₁ B hml hv
  obtain ⟨rfl, hsz, ⟨hP, hK⟩, hD0⟩ := hv
  rw [lg_entry_eq]
  have hl := lv_entry av (n := maxL) hn
  rw [hlv] at hl
  subst hsz
  exact body p e s m _ below meth c _ _ B.exec B.bytes B.returns hml (findClass_of_methodNamed B.named) (atoms_spec (ws := ws) B.pre) B.notSynchronized hl hK hP rfl rfl (fun q h => Or.inr h) (hD0.self (sz := s.heap.size)) va_S.rf
section ZW
variable {p : Program} {l : Launch} {e : Env} {R : Room} {s : State} {m : MethodId} {args : Array Value} {below : List Frame} {meth : Method} {c : Code} {H H0 : Heap} {locs : List Loc} {cells slots : Nat} {Q : State → Prop}
variable {pc : Nat} {ls : Array Slot} {rest st0 : List Value} {cc : ByteArray} {D : va_G} {ac : Nat → ClassId} {w w2 wc w1 : va_W} {A : Nat → Prop}
theorem z_top {x y : Int32} (h : x = y) (k : W p l e R s m args below meth c H locs cells slots Q (F0 m pc ls (.int y :: rest))) : W p l e R s m args below meth c H locs cells slots Q (F0 m pc ls (.int x :: rest)) := h ▸ k
theorem z_topl {x y : Int64} (h : x = y) (k : W p l e R s m args below meth c H locs cells slots Q (F0 m pc ls (.long y :: rest))) : W p l e R s m args below meth c H locs cells slots Q (F0 m pc ls (.long x :: rest)) := h ▸ k
theorem z_topd {x y : UInt64} (h : x = y) (k : W p l e R s m args below meth c H locs cells slots Q (F0 m pc ls (.double y :: rest))) : W p l e R s m args below meth c H locs cells slots Q (F0 m pc ls (.double x :: rest)) := h ▸ k
/-- the end of a method that only reads -/
theorem z_iret (hx : p.tables.exec = Jvm.exec) (hb : c.code = cc) (hr : meth.sig.returnType = some .int) (hlocks : meth.locks = false) {X v : Int32} (hp : v = X) (hdg : decode cc pc = .ok (.ireturn, 1)) : W p l e R s m args below meth c s.heap [] 0 0 (MQ below (zRi X) args s 0 0 (fun _ => False)) (F0 m pc ls [.int v]) :=
  W.iret hx hb hr (fun t ht _ => ⟨v, rfl, hp, ht⟩) (fun q hq => absurd hq List.not_mem_nil) hdg hlocks
theorem z_zret (hx : p.tables.exec = Jvm.exec) (hb : c.code = cc) {ty : FieldType} (hr : meth.sig.returnType = some ty) (hlocks : meth.locks = false) {X v : Int32} (hn : narrow ty (.int v) = .int v) (hp : v = X) (hdg : decode cc pc = .ok (.ireturn, 1)) : W p l e R s m args below meth c s.heap [] 0 0 (MQ below (zRi X) args s 0 0 (fun _ => False)) (F0 m pc ls [.int v]) :=
  W.zret hx hb hr hn (fun t ht _ => ⟨v, rfl, hp, ht⟩) (fun q hq => absurd hq List.not_mem_nil) hdg hlocks
theorem z_lret (hx : p.tables.exec = Jvm.exec) (hb : c.code = cc) (hr : meth.sig.returnType = some .long) (hlocks : meth.locks = false) {X v : Int64} (hp : v = X) (hdg : decode cc pc = .ok (.lreturn, 1)) : W p l e R s m args below meth c s.heap [] 0 0 (MQ below (zRl X) args s 0 0 (fun _ => False)) (F0 m pc ls [.long v]) :=
  W.lret hx hb hr (fun t ht _ => ⟨v, rfl, hp, ht⟩) (fun q hq => absurd hq List.not_mem_nil) hdg hlocks
theorem z_dret (hx : p.tables.exec = Jvm.exec) (hb : c.code = cc) (hr : meth.sig.returnType = some .double) (hlocks : meth.locks = false) {X v : UInt64} (hp : v = X) (hdg : decode cc pc = .ok (.dreturn, 1)) : W p l e R s m args below meth c s.heap [] 0 0 (MQ below (zRd X) args s 0 0 (fun _ => False)) (F0 m pc ls [.double v]) :=
  W.dret hx hb hr (fun t ht _ => ⟨v, rfl, hp, ht⟩) (fun q hq => absurd hq List.not_mem_nil) hdg hlocks
theorem z_vret (hx : p.tables.exec = Jvm.exec) (hb : c.code = cc) (hr : meth.sig.returnType = none) (hlocks : meth.locks = false) (hdg : decode cc pc = .ok (.return_, 1)) : W p l e R s m args below meth c s.heap [] 0 0 (MQ below zRv args s 0 0 (fun _ => False)) (F0 m pc ls []) :=
  W.vret hx hb hr (fun t ht _ => ⟨rfl, trivial, ht⟩) (fun q hq => absurd hq List.not_mem_nil) hdg hlocks
/-- the end of a method that writes -/
theorem z_iretW {sz : Nat} (hx : p.tables.exec = Jvm.exec) (hb : c.code = cc) (hr : meth.sig.returnType = some .int) (hlocks : meth.locks = false) (hK : va_K D vwCl (zTy ac) s) (hP : va_P D vwCl w2 H) (hD : va_D A w2) (hS : va_S A s.heap H locs) (hA : A = va_A w sz) {X v : Int32} (hp : v = X) (hdg : decode cc pc = .ok (.ireturn, 1)) : W p l e R s m args below meth c H locs cells slots (MQ below (zQi D ac w w2 sz X) args s cells slots A) (F0 m pc ls [.int v]) :=
  W.iret hx hb hr (fun t ht hW => ⟨⟨v, (), rfl, hp, ⟨by rw [ht]; exact hP, va_K.moved hW.alike hK⟩, by rw [← hA]; exact hD⟩, by rw [← hA]; exact hS.F ht⟩) hS.2.2 hdg hlocks
theorem z_zretW {sz : Nat} {ty : FieldType} (hx : p.tables.exec = Jvm.exec) (hb : c.code = cc) (hr : meth.sig.returnType = some ty) (hlocks : meth.locks = false) (hK : va_K D vwCl (zTy ac) s) (hP : va_P D vwCl w2 H) (hD : va_D A w2) (hS : va_S A s.heap H locs) (hA : A = va_A w sz) {X v : Int32} (hn : narrow ty (.int v) = .int v) (hp : v = X) (hdg : decode cc pc = .ok (.ireturn, 1)) : W p l e R s m args below meth c H locs cells slots (MQ below (zQi D ac w w2 sz X) args s cells slots A) (F0 m pc ls [.int v]) :=
  W.zret hx hb hr hn (fun t ht hW => ⟨⟨v, (), rfl, hp, ⟨by rw [ht]; exact hP, va_K.moved hW.alike hK⟩, by rw [← hA]; exact hD⟩, by rw [← hA]; exact hS.F ht⟩) hS.2.2 hdg hlocks
theorem z_lretW {sz : Nat} (hx : p.tables.exec = Jvm.exec) (hb : c.code = cc) (hr : meth.sig.returnType = some .long) (hlocks : meth.locks = false) (hK : va_K D vwCl (zTy ac) s) (hP : va_P D vwCl w2 H) (hD : va_D A w2) (hS : va_S A s.heap H locs) (hA : A = va_A w sz) {X v : Int64} (hp : v = X) (hdg : decode cc pc = .ok (.lreturn, 1)) : W p l e R s m args below meth c H locs cells slots (MQ below (zQl D ac w w2 sz X) args s cells slots A) (F0 m pc ls [.long v]) :=
  W.lret hx hb hr (fun t ht hW => ⟨⟨v, (), rfl, hp, ⟨by rw [ht]; exact hP, va_K.moved hW.alike hK⟩, by rw [← hA]; exact hD⟩, by rw [← hA]; exact hS.F ht⟩) hS.2.2 hdg hlocks
theorem z_dretW {sz : Nat} (hx : p.tables.exec = Jvm.exec) (hb : c.code = cc) (hr : meth.sig.returnType = some .double) (hlocks : meth.locks = false) (hK : va_K D vwCl (zTy ac) s) (hP : va_P D vwCl w2 H) (hD : va_D A w2) (hS : va_S A s.heap H locs) (hA : A = va_A w sz) {X v : UInt64} (hp : v = X) (hdg : decode cc pc = .ok (.dreturn, 1)) : W p l e R s m args below meth c H locs cells slots (MQ below (zQd D ac w w2 sz X) args s cells slots A) (F0 m pc ls [.double v]) :=
  W.dret hx hb hr (fun t ht hW => ⟨⟨v, (), rfl, hp, ⟨by rw [ht]; exact hP, va_K.moved hW.alike hK⟩, by rw [← hA]; exact hD⟩, by rw [← hA]; exact hS.F ht⟩) hS.2.2 hdg hlocks
theorem z_vretW {sz : Nat} (hx : p.tables.exec = Jvm.exec) (hb : c.code = cc) (hr : meth.sig.returnType = none) (hlocks : meth.locks = false) (hK : va_K D vwCl (zTy ac) s) (hP : va_P D vwCl w2 H) (hD : va_D A w2) (hS : va_S A s.heap H locs) (hA : A = va_A w sz) (hdg : decode cc pc = .ok (.return_, 1)) : W p l e R s m args below meth c H locs cells slots (MQ below (zQv D ac w w2 sz) args s cells slots A) (F0 m pc ls []) :=
  W.vret hx hb hr (fun t ht hW => ⟨⟨(), rfl, trivial, ⟨by rw [ht]; exact hP, va_K.moved hW.alike hK⟩, by rw [← hA]; exact hD⟩, by rw [← hA]; exact hS.F ht⟩) hS.2.2 hdg hlocks
/-- comparisons of places -/
theorem z_icmp_ge (hx : p.tables.exec = Jvm.exec) (hb : c.code = cc) (i j : Nat) {x y : Int32} {off : Int} {tgt : Nat} (hdg : decode cc pc = .ok (.if_icmp .ge off, 3)) (ht : (pc : Int) + off = (tgt : Int)) (hi : i < 2 ^ 31) (hj : j < 2 ^ 31) (hxi : x = nI i) (hyj : y = nI j)
    (kt : j ≤ i → W p l e R s m args below meth c H locs cells slots Q (F0 m tgt ls rest)) (kf : i < j → W p l e R s m args below meth c H locs cells slots Q (F0 m (pc + 3) ls rest)) : W p l e R s m args below meth c H locs cells slots Q (F0 m pc ls (.int y :: .int x :: rest)) := by
  subst hxi; subst hyj
  exact lv_icmp_ge hx hb hdg ht (fun h => kt ((nI_leI hj hi).mp h)) (fun h => kf (Nat.lt_of_not_le (fun q => h ((nI_leI hj hi).mpr q))))
theorem z_icmp_gt (hx : p.tables.exec = Jvm.exec) (hb : c.code = cc) (i j : Nat) {x y : Int32} {off : Int} {tgt : Nat} (hdg : decode cc pc = .ok (.if_icmp .gt off, 3)) (ht : (pc : Int) + off = (tgt : Int)) (hi : i < 2 ^ 31) (hj : j < 2 ^ 31) (hxi : x = nI i) (hyj : y = nI j)
    (kt : j < i → W p l e R s m args below meth c H locs cells slots Q (F0 m tgt ls rest)) (kf : i ≤ j → W p l e R s m args below meth c H locs cells slots Q (F0 m (pc + 3) ls rest)) : W p l e R s m args below meth c H locs cells slots Q (F0 m pc ls (.int y :: .int x :: rest)) := by
  subst hxi; subst hyj
  exact lv_icmp_gt hx hb hdg ht (fun h => kt ((nI_ltI hj hi).mp h)) (fun h => kf (Nat.le_of_not_lt (fun q => h ((nI_ltI hj hi).mpr q))))
theorem z_icmp_le (hx : p.tables.exec = Jvm.exec) (hb : c.code = cc) (i j : Nat) {x y : Int32} {off : Int} {tgt : Nat} (hdg : decode cc pc = .ok (.if_icmp .le off, 3)) (ht : (pc : Int) + off = (tgt : Int)) (hi : i < 2 ^ 31) (hj : j < 2 ^ 31) (hxi : x = nI i) (hyj : y = nI j)
    (kt : i ≤ j → W p l e R s m args below meth c H locs cells slots Q (F0 m tgt ls rest)) (kf : j < i → W p l e R s m args below meth c H locs cells slots Q (F0 m (pc + 3) ls rest)) : W p l e R s m args below meth c H locs cells slots Q (F0 m pc ls (.int y :: .int x :: rest)) := by
  subst hxi; subst hyj
  exact lv_icmp_le hx hb hdg ht (fun h => kt ((nI_leI hi hj).mp h)) (fun h => kf (Nat.lt_of_not_le (fun q => h ((nI_leI hi hj).mpr q))))
theorem z_icmp_lt (hx : p.tables.exec = Jvm.exec) (hb : c.code = cc) (i j : Nat) {x y : Int32} {off : Int} {tgt : Nat} (hdg : decode cc pc = .ok (.if_icmp .lt off, 3)) (ht : (pc : Int) + off = (tgt : Int)) (hi : i < 2 ^ 31) (hj : j < 2 ^ 31) (hxi : x = nI i) (hyj : y = nI j)
    (kt : i < j → W p l e R s m args below meth c H locs cells slots Q (F0 m tgt ls rest)) (kf : j ≤ i → W p l e R s m args below meth c H locs cells slots Q (F0 m (pc + 3) ls rest)) : W p l e R s m args below meth c H locs cells slots Q (F0 m pc ls (.int y :: .int x :: rest)) := by
  subst hxi; subst hyj
  exact lv_icmp_lt hx hb hdg ht (fun h => kt ((nI_ltI hi hj).mp h)) (fun h => kf (Nat.le_of_not_lt (fun q => h ((nI_ltI hi hj).mpr q))))
theorem z_icmp_eq (hx : p.tables.exec = Jvm.exec) (hb : c.code = cc) (i j : Nat) {x y : Int32} {off : Int} {tgt : Nat} (hdg : decode cc pc = .ok (.if_icmp .eq off, 3)) (ht : (pc : Int) + off = (tgt : Int)) (hi : i < 2 ^ 31) (hj : j < 2 ^ 31) (hxi : x = nI i) (hyj : y = nI j)
    (kt : i = j → W p l e R s m args below meth c H locs cells slots Q (F0 m tgt ls rest)) (kf : ¬ i = j → W p l e R s m args below meth c H locs cells slots Q (F0 m (pc + 3) ls rest)) : W p l e R s m args below meth c H locs cells slots Q (F0 m pc ls (.int y :: .int x :: rest)) := by
  subst hxi; subst hyj
  exact lv_icmp_eq hx hb hdg ht (fun h => kt ((nI_eq hi hj).mp h)) (fun h => kf (fun q => h ((nI_eq hi hj).mpr q)))
theorem z_icmp_ne (hx : p.tables.exec = Jvm.exec) (hb : c.code = cc) (i j : Nat) {x y : Int32} {off : Int} {tgt : Nat} (hdg : decode cc pc = .ok (.if_icmp .ne off, 3)) (ht : (pc : Int) + off = (tgt : Int)) (hi : i < 2 ^ 31) (hj : j < 2 ^ 31) (hxi : x = nI i) (hyj : y = nI j)
    (kt : ¬ i = j → W p l e R s m args below meth c H locs cells slots Q (F0 m tgt ls rest)) (kf : i = j → W p l e R s m args below meth c H locs cells slots Q (F0 m (pc + 3) ls rest)) : W p l e R s m args below meth c H locs cells slots Q (F0 m pc ls (.int y :: .int x :: rest)) := by
  subst hxi; subst hyj
  exact lv_icmp_ne hx hb hdg ht (fun h => kt (fun q => h ((nI_eq hi hj).mpr q))) (fun h => kf ((nI_eq hi hj).mp h))
/-- a branch on a truth value -/
theorem z_if_eq (hx : p.tables.exec = Jvm.exec) (hb : c.code = cc) {C : Prop} [Decidable C] {off : Int} {tgt : Nat} (hdg : decode cc pc = .ok (.ifCond .eq off, 3)) (ht : (pc : Int) + off = (tgt : Int))
    (kt : ¬ C → W p l e R s m args below meth c H locs cells slots Q (F0 m tgt ls rest)) (kf : C → W p l e R s m args below meth c H locs cells slots Q (F0 m (pc + 3) ls rest)) : W p l e R s m args below meth c H locs cells slots Q (F0 m pc ls (.int (if C then 1 else 0) :: rest)) := by
  refine lv_if_eq hx hb hdg ht (fun h => kt (fun q => ?_)) (fun h => kf (Classical.byContradiction (fun q => ?_)))
  · rw [if_pos q] at h; exact absurd h (by decide)
  · rw [if_neg q] at h; exact absurd rfl h
theorem z_if_ne (hx : p.tables.exec = Jvm.exec) (hb : c.code = cc) {C : Prop} [Decidable C] {off : Int} {tgt : Nat} (hdg : decode cc pc = .ok (.ifCond .ne off, 3)) (ht : (pc : Int) + off = (tgt : Int))
    (kt : C → W p l e R s m args below meth c H locs cells slots Q (F0 m tgt ls rest)) (kf : ¬ C → W p l e R s m args below meth c H locs cells slots Q (F0 m (pc + 3) ls rest)) : W p l e R s m args below meth c H locs cells slots Q (F0 m pc ls (.int (if C then 1 else 0) :: rest)) := by
  refine lv_if_ne hx hb hdg ht (fun h => kt (Classical.byContradiction (fun q => ?_))) (fun h => kf (fun q => ?_))
  · rw [if_neg q] at h; exact absurd rfl h
  · rw [if_pos q] at h; exact absurd h (by decide)
/-- reads and writes of arrays at a place -/
theorem z_cl {n k : Nat} (h : n < 2 ^ 31) (e : n = k) : (nI n).toNatClampNeg = k := by rw [nI_clamp h, e]
theorem z_iald (hx : p.tables.exec = Jvm.exec) (hb : c.code = cc) (hK : va_K D vwCl (zTy ac) s) (hP : va_P D vwCl w H) (q0 : Nat) {a n : Nat} {f : Nat → Int32} (ha : w[q0]? = some (a, .inl (ac 0, n, .inl f))) (k : Nat) {i : Int32} (hi : i = nI k) (hk : k < n) (hn : n < 2 ^ 31) (hdg : decode cc pc = .ok (.iaload, 1))
    (kk : W p l e R s m args below meth c H locs cells slots Q (F0 m (pc + 1) ls (.int (f k) :: rest))) : W p l e R s m args below meth c H locs cells slots Q (F0 m pc ls (.int i :: .ref a :: rest)) := by
  subst hi
  refine va_iald hx hb hK hP q0 0 ha rfl (vp_in_nI hk hn) hdg ?_
  rw [nI_clamp (Nat.lt_trans hk hn)]
  exact kk
theorem z_cald (hx : p.tables.exec = Jvm.exec) (hb : c.code = cc) (hK : va_K D vwCl (zTy ac) s) (hP : va_P D vwCl w H) (q0 : Nat) {a n : Nat} {f : Nat → Int32} (ha : w[q0]? = some (a, .inl (ac 1, n, .inl f))) (k : Nat) {i : Int32} (hi : i = nI k) (hk : k < n) (hn : n < 2 ^ 31) (hdg : decode cc pc = .ok (.caload, 1))
    (kk : W p l e R s m args below meth c H locs cells slots Q (F0 m (pc + 1) ls (.int (f k) :: rest))) : W p l e R s m args below meth c H locs cells slots Q (F0 m pc ls (.int i :: .ref a :: rest)) := by
  subst hi
  refine va_cald hx hb hK hP q0 1 ha rfl (vp_in_nI hk hn) hdg ?_
  rw [nI_clamp (Nat.lt_trans hk hn)]
  exact kk
theorem z_iast (hx : p.tables.exec = Jvm.exec) (hb : c.code = cc) (hK : va_K D vwCl (zTy ac) s) (hP : va_P D vwCl w H) (hD : va_D A w) (hS : va_S A H0 H locs) (q0 : Nat) {a n : Nat} {f : Nat → Int32} (ha : w[q0]? = some (a, .inl (ac 0, n, .inl f))) (k : Nat) {i x : Int32} (hi : i = nI k) (hk : k < n) (hn : n < 2 ^ 31) (hdg : decode cc pc = .ok (.iastore, 1))
    (kk : ∀ (H1 : Heap) (locs1 : List Loc), va_P D vwCl (w.set q0 (a, .inl (ac 0, n, .inl (upd f k x)))) H1 → va_D A (w.set q0 (a, .inl (ac 0, n, .inl (upd f k x)))) → va_S A H0 H1 locs1 → W p l e R s m args below meth c H1 locs1 cells slots Q (F0 m (pc + 1) ls rest)) : W p l e R s m args below meth c H locs cells slots Q (F0 m pc ls (.int x :: .int i :: .ref a :: rest)) := by
  subst hi
  refine va_iast hx hb hK hP hD hS q0 0 ha rfl (vp_in_nI hk hn) hdg ?_
  rw [nI_clamp (Nat.lt_trans hk hn)]
  exact kk
section ZC
variable {y : MethodName} {bytes : ByteArray} {maxL nL index : Nat} {ret : Option FieldType} {ws ws' : List Cond} {rm : Room} {Ts : List Cond} {own C : String} {b : Addr} {As : List Value} {mc ms : Nat}
/-- calls of methods that only read -/
theorem z_pre (hK : va_K D vwCl (zTy ac) s) (hP : va_P D vwCl w H) (isC : List Nat) (hC : isC.filterMap (fun i => w[i]?) = wc) {av : List Value} : PreS s H (va_Pc av (zW D ac wc)) av :=
  ⟨zW_blind, fun U hU hWm => ⟨rfl, by rw [hU]; exact hP.sub isC hC, va_K.moved hWm.alike hK⟩⟩
theorem z_vrun {Qc : Array Value → State → Outcome → State → Prop} (hx : p.tables.exec = Jvm.exec) (hb : c.code = cc) (hml : c.maxLocals = nL) (hown : s.vm.findClass own = some m.cls) (hts : ∀ w ∈ Ts, w.before args s = true) (hls : ls.size = nL) (hK : va_K D vwCl (zTy ac) s) (hP : va_P D vwCl w H) (isC : List Nat) (hC : isC.filterMap (fun i => w[i]?) = wc)
    (hM : Met l y ws rm (va_Pc (.ref b :: As) (zW D ac wc)) Qc 0 0 (fun _ => False)) (hG : GoodIn Ts (wsV own index C y ws)) (hw : ws = Cond.code y bytes maxL ret :: ws') (n : Nat) (hd : y.cls = C ∧ y.cls ≠ "java/lang/invoke/MethodHandle" ∧ y.cls ≠ "java/lang/invoke/VarHandle" ∧ (parseMethodDescriptor y.desc).map (fun d => d.parameters.length) = some n) (hR : rm.cells = 0 ∧ rm.slots = 0 ∧ rm.frames + 1 ≤ R.frames ∧ 8 + (maxL + 11) + rm.locals ≤ R.locals)
    (q0 ci : Nat) {fs : List Value} {q : vw_C} (hci : vwCl[ci]? = some q) (hqC : q.1 = C) (hq0 : w[q0]? = some (b, .inr (ci, fs))) (hn : As.length = n) (hst : st0 = As.reverse ++ .ref b :: rest) (hW : (rest.map fun v => v.category).sum ≤ 8) (hdg : decode cc pc = .ok (.invokevirtual index, 3)) (hf : cells ≤ R.cells ∧ slots ≤ R.slots) :
    CallRun p l e R s m args below meth c H locs cells slots 0 0 (F0 m pc ls st0) rest (Qc (Value.ref b :: As).toArray) (fun _ => False) := by
  have hpr := z_pre (av := .ref b :: As) hK hP isC hC
  exact W.runV ⟨hx, hb, hml, hown, hts⟩ hM (cwV n hts hG hw hR.1 hR.2.1 hd hR.2.2) ⟨hpr.1, by rw [← hqC]; exact va_recv hK hP hci hq0, hpr.2⟩ rfl hn hls hst (lv_room hW) hdg hf
theorem z_srun {Qc : Array Value → State → Outcome → State → Prop} (hx : p.tables.exec = Jvm.exec) (hb : c.code = cc) (hml : c.maxLocals = nL) (hown : s.vm.findClass own = some m.cls) (hts : ∀ w ∈ Ts, w.before args s = true) (hls : ls.size = nL) (hK : va_K D vwCl (zTy ac) s) (hP : va_P D vwCl w H) (isC : List Nat) (hC : isC.filterMap (fun i => w[i]?) = wc)
    (hM : Met l y ws rm (va_Pc As (zW D ac wc)) Qc 0 0 (fun _ => False)) (hG : GoodIn Ts (va_wsS own index y ws)) (hw : ws = Cond.code y bytes maxL ret :: ws') (n : Nat) (hd : y.cls ≠ "java/lang/invoke/MethodHandle" ∧ y.cls ≠ "java/lang/invoke/VarHandle" ∧ (parseMethodDescriptor y.desc).map (fun d => d.parameters.length) = some n) (hR : rm.cells = 0 ∧ rm.slots = 0 ∧ rm.frames + 1 ≤ R.frames ∧ 8 + (maxL + 11) + rm.locals ≤ R.locals)
    (hn : As.length = n) (hst : st0 = As.reverse ++ rest) (hW : (rest.map fun v => v.category).sum ≤ 8) (hdg : decode cc pc = .ok (.invokestatic index, 3)) (hf : cells ≤ R.cells ∧ slots ≤ R.slots) :
    CallRun p l e R s m args below meth c H locs cells slots 0 0 (F0 m pc ls st0) rest (Qc As.toArray) (fun _ => False) :=
  W.runS ⟨hx, hb, hml, hown, hts⟩ hM (va_cwS n hts hG hw hR.1 hR.2.1 hd hR.2.2) (z_pre (av := As) hK hP isC hC) rfl hn hls hst (lv_room hW) hdg hf
theorem z_ci {a : Array Value} {X : Int32} (hr : CallRun p l e R s m args below meth c H locs cells slots 0 0 (F0 m pc ls st0) rest (zRi X a) (fun _ => False)) (k : W p l e R s m args below meth c H locs cells slots Q (F0 m (pc + 3) ls (.int X :: rest))) : W p l e R s m args below meth c H locs cells slots Q (F0 m pc ls st0) := vp_callSi hr (fun r e => by subst e; exact k)
theorem z_cll {a : Array Value} {X : Int64} (hr : CallRun p l e R s m args below meth c H locs cells slots 0 0 (F0 m pc ls st0) rest (zRl X a) (fun _ => False)) (k : W p l e R s m args below meth c H locs cells slots Q (F0 m (pc + 3) ls (.long X :: rest))) : W p l e R s m args below meth c H locs cells slots Q (F0 m pc ls st0) := vp_callSl hr (fun r e => by subst e; exact k)
theorem z_cd {a : Array Value} {X : UInt64} (hr : CallRun p l e R s m args below meth c H locs cells slots 0 0 (F0 m pc ls st0) rest (zRd X a) (fun _ => False)) (k : W p l e R s m args below meth c H locs cells slots Q (F0 m (pc + 3) ls (.double X :: rest))) : W p l e R s m args below meth c H locs cells slots Q (F0 m pc ls st0) := vp_callSd hr (fun r e => by subst e; exact k)
theorem z_cv {a : Array Value} (hr : CallRun p l e R s m args below meth c H locs cells slots 0 0 (F0 m pc ls st0) rest (zRv a) (fun _ => False)) (k : W p l e R s m args below meth c H locs cells slots Q (F0 m (pc + 3) ls rest)) : W p l e R s m args below meth c H locs cells slots Q (F0 m pc ls st0) := va_csv hr (fun _ => k)
/-- calls of methods that write -/
theorem z_vrunW {sz : Nat} {Qc : Array Value → State → Outcome → State → Prop} (hx : p.tables.exec = Jvm.exec) (hb : c.code = cc) (hml : c.maxLocals = nL) (hown : s.vm.findClass own = some m.cls) (hts : ∀ w ∈ Ts, w.before args s = true) (hls : ls.size = nL) (hK : va_K D vwCl (zTy ac) s) (hP : va_P D vwCl w H) (hD : va_D A w) (isC : List Nat) (hC : isC.map (fun i => w[i]?) = wc.map some) (hnC : va_nd isC = true) (hsz : H.size = sz)
    (hM : Met l y ws rm (va_Pc (.ref b :: As) (zS D ac wc sz)) Qc mc ms (va_A wc sz)) (hG : GoodIn Ts (wsV own index C y ws)) (hw : ws = Cond.code y bytes maxL ret :: ws') (n : Nat) (hd : y.cls = C ∧ y.cls ≠ "java/lang/invoke/MethodHandle" ∧ y.cls ≠ "java/lang/invoke/VarHandle" ∧ (parseMethodDescriptor y.desc).map (fun d => d.parameters.length) = some n) (hR : rm.cells = mc ∧ rm.slots = ms ∧ rm.frames + 1 ≤ R.frames ∧ 8 + (maxL + 11) + rm.locals ≤ R.locals)
    (q0 ci : Nat) {fs : List Value} {q : vw_C} (hci : vwCl[ci]? = some q) (hqC : q.1 = C) (hq0 : w[q0]? = some (b, .inr (ci, fs))) (hn : As.length = n) (hst : st0 = As.reverse ++ .ref b :: rest) (hW : (rest.map fun v => v.category).sum ≤ 8) (hdg : decode cc pc = .ok (.invokevirtual index, 3)) (hf : cells + mc ≤ R.cells ∧ slots + ms ≤ R.slots) :
    va_Run p l e R s m args below meth c H locs cells slots mc ms (F0 m pc ls st0) rest (Qc (Value.ref b :: As).toArray) (va_A wc sz) := by
  subst hsz
  have hPc : va_P D vwCl wc H := by
    intro k q hk
    have h1 : (isC.map (fun i => w[i]?))[k]? = some (some q) := by rw [hC, List.getElem?_map, hk]; rfl
    rw [List.getElem?_map] at h1
    cases hi : isC[k]? with
    | none => rw [hi] at h1; cases h1
    | some i => rw [hi] at h1; exact hP i q (Option.some.inj h1)
  have hDc := hD.sub (ws' := wc) isC hnC hC
  refine va_runV ⟨hx, hb, hml, hown, hts⟩ hM (cwV n hts hG hw hR.1 hR.2.1 hd hR.2.2) ⟨zS_blind, by rw [← hqC]; exact va_recv hK hP hci hq0, fun U hU hWm => ⟨rfl, by rw [hU], ⟨by rw [hU]; exact hPc, va_K.moved hWm.alike hK⟩, hDc.weaken (fun _ _ _ _ => trivial)⟩⟩ rfl hn hls hst (lv_room hW) hdg hf
/-- behind a call of a method that writes: the new world in the old order -/
theorem z_join {H1 : Heap} (hP : va_P D vwCl w H) (hD : va_D A w) (isC isR perm : List Nat) (hC : isC.map (fun i => w[i]?) = wc.map some) (hRr : isR.map (fun i => w[i]?) = (isR.filterMap (fun i => w[i]?)).map some) (hn : va_nd isR = true) (hdis : ∀ i ∈ isR, i ∉ isC) (hF : ∀ q, va_A wc H.size q → A q) (hpn : va_nd perm = true) (hpm : perm.map (fun i => ((isR.filterMap (fun i => w[i]?)) ++ w1)[i]?) = w2.map some)
    (hk : ∀ q : Nat, q < H.size → ¬ va_A wc H.size q → H1[q]? = H[q]?) (hP1 : va_P D vwCl w1 H1) (hD1 : va_D (va_A wc H.size) w1) : va_P D vwCl w2 H1 ∧ va_D A w2 := by
  obtain ⟨a1, a2⟩ := va_join hP hD isC isR hC hRr hn hdis hk hF hP1 hD1
  refine ⟨fun k q hkq => ?_, a2.sub perm hpn hpm⟩
  have h1 : (perm.map (fun i => ((isR.filterMap (fun i => w[i]?)) ++ w1)[i]?))[k]? = some (some q) := by rw [hpm, List.getElem?_map, hkq]; rfl
  rw [List.getElem?_map] at h1
  cases hi : perm[k]? with
  | none => rw [hi] at h1; cases h1
  | some i => rw [hi] at h1; exact a1 i q (Option.some.inj h1)
theorem z_ciW {a : Array Value} {X : Int32} (w2 : va_W) (hr : va_Run p l e R s m args below meth c H locs cells slots mc ms (F0 m pc ls st0) rest (zQi D ac wc w1 H.size X a) (va_A wc H.size)) (hP : va_P D vwCl w H) (hD : va_D A w) (hS : va_S A H0 H locs) (hA : ∀ q : Nat, H0.size ≤ q → A q) (isC isR perm : List Nat) (hC : isC.map (fun i => w[i]?) = wc.map some) (hRr : isR.map (fun i => w[i]?) = (isR.filterMap (fun i => w[i]?)).map some) (hn : va_nd isR = true) (hdis : ∀ i ∈ isR, i ∉ isC) (hpn : va_nd perm = true) (hpm : perm.map (fun i => ((isR.filterMap (fun i => w[i]?)) ++ w1)[i]?) = w2.map some)
    (k : ∀ (H1 : Heap) (locs1 : List Loc), va_P D vwCl w2 H1 → va_D A w2 → va_S A H0 H1 locs1 → W p l e R s m args below meth c H1 locs1 (cells + mc) (slots + ms) Q (F0 m (pc + 3) ls (.int X :: rest))) : W p l e R s m args below meth c H locs cells slots Q (F0 m pc ls st0) := by
  have hF := va_free hD hS hA isC hC
  refine va_calli hr hS (fun q _ h => hF q h) hF (fun r u t H1 locs1 ht hvm hw hB hz1 hk1 hS1 => ?_)
  obtain ⟨⟨q1, q2⟩, q3⟩ := hB
  rw [ht] at q1
  obtain ⟨a1, a2⟩ := z_join hP hD isC isR perm hC hRr hn hdis hF hpn hpm hk1 q1 q3
  subst hw
  exact k H1 locs1 a1 a2 hS1
theorem z_cvW {a : Array Value} (w2 : va_W) (hr : va_Run p l e R s m args below meth c H locs cells slots mc ms (F0 m pc ls st0) rest (zQv D ac wc w1 H.size a) (va_A wc H.size)) (hP : va_P D vwCl w H) (hD : va_D A w) (hS : va_S A H0 H locs) (hA : ∀ q : Nat, H0.size ≤ q → A q) (isC isR perm : List Nat) (hC : isC.map (fun i => w[i]?) = wc.map some) (hRr : isR.map (fun i => w[i]?) = (isR.filterMap (fun i => w[i]?)).map some) (hn : va_nd isR = true) (hdis : ∀ i ∈ isR, i ∉ isC) (hpn : va_nd perm = true) (hpm : perm.map (fun i => ((isR.filterMap (fun i => w[i]?)) ++ w1)[i]?) = w2.map some)
    (k : ∀ (H1 : Heap) (locs1 : List Loc), va_P D vwCl w2 H1 → va_D A w2 → va_S A H0 H1 locs1 → W p l e R s m args below meth c H1 locs1 (cells + mc) (slots + ms) Q (F0 m (pc + 3) ls rest)) : W p l e R s m args below meth c H locs cells slots Q (F0 m pc ls st0) := by
  have hF := va_free hD hS hA isC hC
  refine va_callv hr hS (fun q _ h => hF q h) hF (fun u t H1 locs1 ht hvm hw hB hz1 hk1 hS1 => ?_)
  obtain ⟨⟨q1, q2⟩, q3⟩ := hB
  rw [ht] at q1
  obtain ⟨a1, a2⟩ := z_join hP hD isC isR perm hC hRr hn hdis hF hpn hpm hk1 q1 q3
  exact k H1 locs1 a1 a2 hS1
end ZC
end ZW
end
section
/-! more wrappers: references out of rows, rows copied -/
/-- f over g, the first n -/
def qCpy (f g : Nat → Int32) (n : Nat) : Nat → Int32 := fun k => if k < n then f k else g k
def zJ3 (a b c : Nat) : Nat → Option Nat := fun k => if k = 0 then some a else if k = 1 then some b else some c
theorem z_cellx (cA : ClassId) {n : Nat} {f f2 : Nat → Int32} (h : ∀ k, k < n → f k = f2 k) : vp_cell cA (n, .inl f) = vp_cell cA (n, .inl f2) := by
  rw [vp_cell_i, vp_cell_i]
  have e : (fun j : Fin n => Value.int (f j.val)) = (fun j : Fin n => Value.int (f2 j.val)) := funext (fun j => by rw [h j.val j.isLt])
  unfold arrV
  rw [e]
theorem z_pext {D : va_G} {cl : List vw_C} {w : va_W} {H : Heap} (q0 : Nat) {a n : Nat} {cA : ClassId} {f f2 : Nat → Int32} (ha : w[q0]? = some (a, .inl (cA, n, .inl f))) (h : ∀ k, k < n → f k = f2 k) (hP : va_P D cl w H) : va_P D cl (w.set q0 (a, .inl (cA, n, .inl f2))) H := by
  intro k q hk
  rw [List.getElem?_set] at hk
  split at hk
  · rename_i e
    split at hk
    · cases hk
      have h1 := hP q0 _ ha
      show H[a]? = some (vp_cell cA (n, .inl f2))
      rw [← z_cellx cA h]
      exact h1
    · cases hk
  · exact hP k q hk
section ZR
variable {p : Program} {l : Launch} {e : Env} {R : Room} {s : State} {m : MethodId} {args : Array Value} {below : List Frame} {meth : Method} {c : Code} {H H0 : Heap} {locs : List Loc} {cells slots : Nat} {Q : State → Prop}
variable {pc : Nat} {ls : Array Slot} {rest st0 : List Value} {cc : ByteArray} {D : va_G} {ac : Nat → ClassId} {w : va_W} {A : Nat → Prop}
theorem z_aald (hx : p.tables.exec = Jvm.exec) (hb : c.code = cc) (hK : va_K D vwCl (zTy ac) s) (hP : va_P D vwCl w H) (q0 t0 : Nat) {C : String} {cA : ClassId} {a n : Nat} {f : Nat → Option Nat} (ha : w[q0]? = some (a, .inl (cA, n, .inr (.inr (.inr (.inr f)))))) (ht : (zTy ac)[t0]? = some (cA, .object C)) (k : Nat) {i : Int32} (hi : i = nI k) (hk : k < n) (hn : n < 2 ^ 31) {r : Nat} (hr : f k = some r) (hdg : decode cc pc = .ok (.aaload, 1))
    (kk : W p l e R s m args below meth c H locs cells slots Q (F0 m (pc + 1) ls (.ref r :: rest))) : W p l e R s m args below meth c H locs cells slots Q (F0 m pc ls (.int i :: .ref a :: rest)) := by
  subst hi
  refine va_aldq hx hb hK hP q0 t0 ha ht (vp_in_nI hk hn) hdg ?_
  rw [nI_clamp (Nat.lt_trans hk hn), hr]
  exact kk
theorem z_copy {own : String} {index : Nat} (hx : p.tables.exec = Jvm.exec) (hb : c.code = cc) (hml : c.maxLocals = ls.size) (hown : s.vm.findClass own = some m.cls) (hlink : (Cond.methodLink own index arraycopyName).before args s = true) (hnat : (Cond.native arraycopyName).before args s = true) (hstat : (Cond.static arraycopyName).before args s = true) (hini : (Cond.initialized "java/lang/System").before args s = true)
    (hK : va_K D vwCl (zTy ac) s) (hP : va_P D vwCl w H) (hD : va_D A w) (hS : va_S A H0 H locs) (q0 q1 : Nat) {a0 a : Nat} {n : Nat} {f g : Nat → Int32} (ha0 : w[q0]? = some (a0, .inl (ac 0, n, .inl f))) (ha1 : w[q1]? = some (a, .inl (ac 0, n, .inl g)))
    (hframes : 1 ≤ R.frames) (hn : n < 1000) (hlocals : (rest.map fun v => v.category).sum + 40 ≤ R.locals) (hdg : decode cc pc = .ok (.invokestatic index, 3))
    (kk : ∀ (H1 : Heap) (locs1 : List Loc), va_P D vwCl (w.set q1 (a, .inl (ac 0, n, .inl f))) H1 → va_D A (w.set q1 (a, .inl (ac 0, n, .inl f))) → va_S A H0 H1 locs1 → W p l e R s m args below meth c H1 locs1 cells slots Q (F0 m (pc + 3) ls rest)) : W p l e R s m args below meth c H locs cells slots Q (F0 m pc ls (.int (nI n) :: .int 0 :: .ref a :: .int 0 :: .ref a0 :: rest)) := by
  have h0 : (0 : Int32).toNatClampNeg = 0 := by decide
  have h1 : (nI n).toNatClampNeg = n := nI_clamp (by omega)
  have e : ∀ k, k < n → va_cpy f g (0 : Int32).toNatClampNeg (0 : Int32).toNatClampNeg (nI n).toNatClampNeg k = f k := by
    intro k hk
    rw [h0, h1]
    simp [va_cpy, hk]
  refine va_copyi hx hb hml hown hlink hnat hstat hini hK hP hD hS q0 q1 0 0 (ty := .int) ha0 ha1 rfl rfl rfl (sp := 0) (dp := 0) (n := nI n) (by decide) (by decide) (nI_pos (by omega)) (by rw [h0, h1]; omega) (by rw [h0, h1]; omega) (fun i _ => rfl) hframes (Nat.le_trans (Nat.add_le_add_left (by decide) _) hlocals) hdg (fun H1 locs1 a1 a2 a3 => kk H1 locs1 ?_ ?_ a3)
  · have hset : ∀ x : Nat × va_E, (w.set q1 x)[q1]? = some x := fun x => by
      rw [List.getElem?_set]
      simp [(List.getElem?_eq_some_iff.mp ha1).1]
    have b1 := z_pext q1 (hset _) e a1
    rw [List.set_set] at b1
    exact b1
  · exact hD.set ha1
end ZR
theorem z_i2c {q : Nat} (h : q < 65536) : ((nI q).toUInt32 % 65536).toInt32 = nI q := by
  rw [pk_char, pk_tn (by omega), Nat.mod_eq_of_lt h]
theorem z_narc {q : Nat} (h : q < 65536) : vp_nar .char (nI q) = nI q := by
  unfold vp_nar
  rw [(pk_charN h).1]
section ZS
variable {p : Program} {l : Launch} {e : Env} {R : Room} {s : State} {m : MethodId} {args : Array Value} {below : List Frame} {meth : Method} {c : Code} {H H0 : Heap} {locs : List Loc} {cells slots : Nat} {Q : State → Prop}
variable {pc : Nat} {ls : Array Slot} {rest st0 : List Value} {cc : ByteArray} {D : va_G} {ac : Nat → ClassId} {w : va_W} {A : Nat → Prop}
theorem z_cast {q : Nat} (hx : p.tables.exec = Jvm.exec) (hb : c.code = cc) (hK : va_K D vwCl (zTy ac) s) (hP : va_P D vwCl w H) (hD : va_D A w) (hS : va_S A H0 H locs) (q0 : Nat) {a n : Nat} {f : Nat → Int32} (ha : w[q0]? = some (a, .inl (ac 1, n, .inl f))) (k : Nat) {i : Int32} (hi : i = nI k) (hk : k < n) (hn : n < 2 ^ 31) (hq : q < 65536) (hdg : decode cc pc = .ok (.castore, 1))
    (kk : ∀ (H1 : Heap) (locs1 : List Loc), va_P D vwCl (w.set q0 (a, .inl (ac 1, n, .inl (upd f k (nI q))))) H1 → va_D A (w.set q0 (a, .inl (ac 1, n, .inl (upd f k (nI q))))) → va_S A H0 H1 locs1 → W p l e R s m args below meth c H1 locs1 cells slots Q (F0 m (pc + 1) ls rest)) : W p l e R s m args below meth c H locs cells slots Q (F0 m pc ls (.int (nI q) :: .int i :: .ref a :: rest)) := by
  subst hi
  refine va_cast hx hb hK hP hD hS q0 1 ha rfl (vp_in_nI hk hn) hdg ?_
  rw [nI_clamp (Nat.lt_trans hk hn), z_narc hq]
  exact kk
end ZS
/-! the text's places -/
def kSz (n : Nat) : Nat := if n < 6 then n + 1 else n
def kOd (o n : Nat) : Nat := if n < 6 then o else (o + 1) % 6
def qPn (x : Int32) : Option Nat := if 97 ≤ x ∧ x < 101 then some 4 else none
def qPp (x : Int32) : Option Nat := if x = 43 then some 0 else none
def qPl (o : Option Nat) (x : Int32) : Option Nat := match o with
  | some 0 => if (48 ≤ x ∧ x ≤ 57) ∧ ¬ x = 48 then some 1 else none
  | some 1 => if 48 ≤ x ∧ x ≤ 57 then some 2 else qPn x
  | some 2 => if 48 ≤ x ∧ x ≤ 57 then some 3 else qPn x
  | some 3 => qPn x
  | some 4 => if x = 64 then some 5 else qPp x
  | some 5 => if x = 49 then some 6 else if 48 ≤ x ∧ x ≤ 57 then some 7 else none
  | some 6 => if x = 48 ∨ x = 49 then some 7 else qPp x
  | some 7 => qPp x
  | _ => none
theorem z_cases8 {k : Nat} (h : k < 8) : k = 0 ∨ k = 1 ∨ k = 2 ∨ k = 3 ∨ k = 4 ∨ k = 5 ∨ k = 6 ∨ k = 7 := by omega
/-- the one of three -/
def zG (j : Nat) (a b c : Nat → Int32) : Nat → Int32 := if j = 0 then a else if j = 1 then b else c
end
section
/-! plain facts to paste, each family by itself; over the kit's nI, lN and upd -/
/-! ===== drawers: more things than places ===== -/
theorem fb_holes : ∀ (m n : Nat) (f : Nat → Nat), (∀ i, i < n → f i < m) → (∀ i j, i < j → j < n → f i ≠ f j) → n ≤ m := by
  intro m
  induction m with
  | zero =>
    intro n f h1 _
    rcases Nat.eq_zero_or_pos n with h | h
    · omega
    · exact absurd (h1 0 h) (Nat.not_lt_zero _)
  | succ m ih =>
    intro n f h1 h2
    by_cases hx : ∃ i, i < n ∧ f i = m
    · obtain ⟨a, ha, hfa⟩ := hx
      have hg := ih (n - 1) (fun i => if i < a then f i else f (i + 1)) (by
        intro i hi
        by_cases q : i < a
        · simp only [if_pos q]
          have b1 := h1 i (by omega)
          have b2 := h2 i a q ha
          omega
        · simp only [if_neg q]
          have b1 := h1 (i + 1) (by omega)
          have b2 := h2 a (i + 1) (by omega) (by omega)
          omega) (by
        intro i j hij hj
        by_cases q : i < a
        · by_cases r : j < a
          · simp only [if_pos q, if_pos r]
            exact h2 i j hij (by omega)
          · simp only [if_pos q, if_neg r]
            exact h2 i (j + 1) (by omega) (by omega)
        · have r : ¬ j < a := by omega
          simp only [if_neg q, if_neg r]
          exact h2 (i + 1) (j + 1) (by omega) (by omega))
      omega
    · have hg := ih n f (fun i hi => by
        have b1 := h1 i hi
        have b2 : f i ≠ m := fun e => hx ⟨i, hi, e⟩
        omega) h2
      omega
/-- two of them in one place -/
theorem fb_twice {m n : Nat} {f : Nat → Nat} (h : ∀ i, i < n → f i < m) (hm : m < n) : ∃ i j, i < j ∧ j < n ∧ f i = f j := by
  refine Classical.byContradiction fun hx => ?_
  have := fb_holes m n f h (fun i j hij hj e => hx ⟨i, j, hij, hj, e⟩)
  omega
/-- as many as places, none twice: each place is taken -/
theorem fb_onto {n : Nat} {f : Nat → Nat} (h : ∀ i, i < n → f i < n) (h2 : ∀ i j, i < j → j < n → f i ≠ f j) {y : Nat} (hy : y < n) : ∃ i, i < n ∧ f i = y := by
  refine Classical.byContradiction fun hx => ?_
  have hne : ∀ i, i < n → f i ≠ y := fun i hi e => hx ⟨i, hi, e⟩
  have := fb_holes (n - 1) n (fun i => if f i < y then f i else f i - 1) (by
    intro i hi
    have b1 := h i hi
    have b2 := hne i hi
    by_cases q : f i < y
    · simp only [if_pos q]; omega
    · simp only [if_neg q]; omega) (by
    intro i j hij hj
    have b1 := hne i (by omega)
    have b2 := hne j hj
    have b3 := h2 i j hij hj
    by_cases q : f i < y
    · by_cases r : f j < y
      · simp only [if_pos q, if_pos r]; exact b3
      · simp only [if_pos q, if_neg r]; omega
    · by_cases r : f j < y
      · simp only [if_neg q, if_pos r]; omega
      · simp only [if_neg q, if_neg r]; omega)
  omega
/-! ===== how many places have a property ===== -/
def fb_ct (p : Nat → Bool) : Nat → Nat
  | 0 => 0
  | n + 1 => fb_ct p n + (if p n then 1 else 0)
theorem fb_ct_succ (p : Nat → Bool) (n : Nat) : fb_ct p (n + 1) = fb_ct p n + (if p n then 1 else 0) := rfl
theorem fb_ct_le (p : Nat → Bool) : ∀ n, fb_ct p n ≤ n
  | 0 => Nat.le_refl _
  | n + 1 => by
    have h := fb_ct_le p n
    rw [fb_ct_succ]
    split <;> omega
theorem fb_ct_step (p : Nat → Bool) (m : Nat) : ∀ n, fb_ct p m ≤ fb_ct p (m + n)
  | 0 => Nat.le_refl _
  | n + 1 => by
    have h := fb_ct_step p m n
    show fb_ct p m ≤ fb_ct p (m + n + 1)
    rw [fb_ct_succ]
    omega
theorem fb_ct_mono (p : Nat → Bool) {m n : Nat} (h : m ≤ n) : fb_ct p m ≤ fb_ct p n := by
  have := fb_ct_step p m (n - m)
  rwa [Nat.add_sub_cancel' h] at this
theorem fb_ct_cong {p q : Nat → Bool} : ∀ {n : Nat}, (∀ k, k < n → p k = q k) → fb_ct p n = fb_ct q n
  | 0, _ => rfl
  | n + 1, h => by
    rw [fb_ct_succ, fb_ct_succ, fb_ct_cong (fun k hk => h k (by omega)), h n (by omega)]
/-- one place changed -/
theorem fb_ct_out (p : Nat → Bool) (b : Bool) {i n : Nat} (h : n ≤ i) : fb_ct (fun k => if k = i then b else p k) n = fb_ct p n :=
  fb_ct_cong fun k hk => if_neg (by omega)
theorem fb_ct_upd (p : Nat → Bool) (b : Bool) {i : Nat} : ∀ {n : Nat}, i < n → fb_ct (fun k => if k = i then b else p k) n + (if p i then 1 else 0) = fb_ct p n + (if b then 1 else 0)
  | 0, h => absurd h (Nat.not_lt_zero i)
  | n + 1, h => by
    rw [fb_ct_succ, fb_ct_succ]
    rcases Nat.lt_or_ge i n with q | q
    · have := fb_ct_upd p b q
      have e : (if n = i then b else p n) = p n := if_neg (by omega)
      rw [e]
      omega
    · have e : i = n := by omega
      subst e
      rw [fb_ct_out p b (Nat.le_refl _)]
      simp only [if_true]
      omega
theorem fb_ct_sub {p q : Nat → Bool} : ∀ {n : Nat}, (∀ k, k < n → p k = true → q k = true) → fb_ct p n ≤ fb_ct q n
  | 0, _ => Nat.le_refl _
  | n + 1, h => by
    have h1 := fb_ct_sub (n := n) (p := p) (q := q) (fun k hk => h k (by omega))
    have h2 := h n (by omega)
    rw [fb_ct_succ, fb_ct_succ]
    cases hp : p n <;> cases hq : q n <;> simp_all <;> omega
theorem fb_ct_or {p q : Nat → Bool} : ∀ {n : Nat}, (∀ k, k < n → ¬ (p k = true ∧ q k = true)) → fb_ct (fun k => p k || q k) n = fb_ct p n + fb_ct q n
  | 0, _ => rfl
  | n + 1, h => by
    have h1 := fb_ct_or (n := n) (p := p) (q := q) (fun k hk => h k (by omega))
    have h2 := h n (by omega)
    rw [fb_ct_succ, fb_ct_succ, fb_ct_succ, h1]
    cases hp : p n <;> cases hq : q n <;> simp_all <;> omega
theorem fb_ct_not (p : Nat → Bool) : ∀ n, fb_ct p n + fb_ct (fun k => !p k) n = n
  | 0 => rfl
  | n + 1 => by
    have h := fb_ct_not p n
    rw [fb_ct_succ, fb_ct_succ]
    cases p n <;> simp <;> omega
theorem fb_ct_split (p : Nat → Bool) (m : Nat) : ∀ n, fb_ct p (m + n) = fb_ct p m + fb_ct (fun k => p (m + k)) n
  | 0 => rfl
  | n + 1 => by
    have h := fb_ct_split p m n
    show fb_ct p (m + n + 1) = _
    rw [fb_ct_succ, fb_ct_succ, h, Nat.add_assoc]
theorem fb_ct_zero {p : Nat → Bool} : ∀ {n : Nat}, fb_ct p n = 0 ↔ ∀ k, k < n → p k = false
  | 0 => ⟨fun _ k hk => absurd hk (Nat.not_lt_zero k), fun _ => rfl⟩
  | n + 1 => by
    have h := fb_ct_zero (p := p) (n := n)
    rw [fb_ct_succ]
    constructor
    · intro e k hk
      have e1 : fb_ct p n = 0 := by omega
      rcases Nat.lt_or_ge k n with q | q
      · exact h.mp e1 k q
      · have ek : k = n := by omega
        subst ek
        cases hp : p k
        · rfl
        · simp [hp] at e
    · intro a
      rw [h.mpr (fun k hk => a k (by omega)), a n (by omega)]
      rfl
theorem fb_ct_pos {p : Nat → Bool} {n : Nat} : 0 < fb_ct p n ↔ ∃ k, k < n ∧ p k = true := by
  constructor
  · intro h
    refine Classical.byContradiction fun hx => ?_
    have := fb_ct_zero.mpr (fun k hk => by
      cases hp : p k
      · rfl
      · exact absurd ⟨k, hk, hp⟩ hx : ∀ k, k < n → p k = false)
    omega
  · rintro ⟨k, hk, hp⟩
    rcases Nat.eq_zero_or_pos (fb_ct p n) with e | e
    · have := fb_ct_zero.mp e k hk
      rw [this] at hp
      cases hp
    · exact e
theorem fb_ct_all {p : Nat → Bool} {n : Nat} : fb_ct p n = n ↔ ∀ k, k < n → p k = true := by
  have h := fb_ct_not p n
  constructor
  · intro e k hk
    have z : fb_ct (fun k => !p k) n = 0 := by omega
    have := fb_ct_zero.mp z k hk
    cases hp : p k
    · simp [hp] at this
    · rfl
  · intro a
    have z : fb_ct (fun k => !p k) n = 0 := fb_ct_zero.mpr (fun k hk => by simp [a k hk])
    omega
/-- the k-th place with the property -/
theorem fb_ct_kth {p : Nat → Bool} {k : Nat} : ∀ {n : Nat}, k < fb_ct p n → ∃ i, i < n ∧ p i = true ∧ fb_ct p i = k
  | 0, h => absurd h (Nat.not_lt_zero k)
  | n + 1, h => by
    rcases Nat.lt_or_ge k (fb_ct p n) with q | q
    · obtain ⟨i, h1, h2⟩ := fb_ct_kth q
      exact ⟨i, by omega, h2⟩
    · rw [fb_ct_succ] at h
      cases hp : p n
      · simp [hp] at h; omega
      · simp [hp] at h
        exact ⟨n, by omega, hp, by omega⟩
theorem fb_ct_kth_one {p : Nat → Bool} {i j : Nat} (hi : p i = true) (hj : p j = true) (e : fb_ct p i = fb_ct p j) : i = j := by
  have key : ∀ a b : Nat, a < b → p a = true → fb_ct p a < fb_ct p b := by
    intro a b hab ha
    have h := fb_ct_mono p (show a + 1 ≤ b from hab)
    rw [fb_ct_succ, ha] at h
    simp at h
    omega
  rcases Nat.lt_trichotomy i j with q | q | q
  · have := key i j q hi; omega
  · exact q
  · have := key j i q hj; omega
/-! ===== sums over a range: one place changed, parts, bounds ===== -/
def fb_sm (f : Nat → Nat) : Nat → Nat
  | 0 => 0
  | n + 1 => fb_sm f n + f n
theorem fb_sm_succ (f : Nat → Nat) (n : Nat) : fb_sm f (n + 1) = fb_sm f n + f n := rfl
theorem fb_sm_cong {f g : Nat → Nat} : ∀ {n : Nat}, (∀ k, k < n → f k = g k) → fb_sm f n = fb_sm g n
  | 0, _ => rfl
  | n + 1, h => by rw [fb_sm_succ, fb_sm_succ, fb_sm_cong (fun k hk => h k (by omega)), h n (by omega)]
theorem fb_sm_out (f : Nat → Nat) (v : Nat) {i n : Nat} (h : n ≤ i) : fb_sm (fun k => if k = i then v else f k) n = fb_sm f n :=
  fb_sm_cong fun k hk => if_neg (by omega)
theorem fb_sm_upd (f : Nat → Nat) (v : Nat) {i : Nat} : ∀ {n : Nat}, i < n → fb_sm (fun k => if k = i then v else f k) n + f i = fb_sm f n + v
  | 0, h => absurd h (Nat.not_lt_zero i)
  | n + 1, h => by
    rw [fb_sm_succ, fb_sm_succ]
    rcases Nat.lt_or_ge i n with q | q
    · have := fb_sm_upd f v q
      have e : (if n = i then v else f n) = f n := if_neg (by omega)
      rw [e]
      omega
    · have e : i = n := by omega
      subst e
      rw [fb_sm_out f v (Nat.le_refl _)]
      simp only [if_true]
      omega
theorem fb_sm_add (f g : Nat → Nat) : ∀ n, fb_sm (fun k => f k + g k) n = fb_sm f n + fb_sm g n
  | 0 => rfl
  | n + 1 => by
    have h := fb_sm_add f g n
    rw [fb_sm_succ, fb_sm_succ, fb_sm_succ, h]
    omega
theorem fb_sm_le {f g : Nat → Nat} : ∀ {n : Nat}, (∀ k, k < n → f k ≤ g k) → fb_sm f n ≤ fb_sm g n
  | 0, _ => Nat.le_refl _
  | n + 1, h => by
    have h1 := fb_sm_le (n := n) (f := f) (g := g) (fun k hk => h k (by omega))
    have h2 := h n (by omega)
    rw [fb_sm_succ, fb_sm_succ]
    omega
theorem fb_sm_const (c : Nat) : ∀ n, fb_sm (fun _ => c) n = n * c
  | 0 => by rw [Nat.zero_mul]; rfl
  | n + 1 => by rw [fb_sm_succ, fb_sm_const c n, Nat.succ_mul]
theorem fb_sm_bound {f : Nat → Nat} {c n : Nat} (h : ∀ k, k < n → f k ≤ c) : fb_sm f n ≤ n * c := by
  rw [← fb_sm_const c n]
  exact fb_sm_le h
theorem fb_sm_mono (f : Nat → Nat) (m : Nat) : ∀ n, fb_sm f m ≤ fb_sm f (m + n)
  | 0 => Nat.le_refl _
  | n + 1 => by
    have h := fb_sm_mono f m n
    show fb_sm f m ≤ fb_sm f (m + n + 1)
    rw [fb_sm_succ]
    omega
theorem fb_sm_part (f : Nat → Nat) {i n : Nat} (h : i < n) : fb_sm f i + f i ≤ fb_sm f n := by
  have := fb_sm_mono f (i + 1) (n - (i + 1))
  rw [fb_sm_succ, show i + 1 + (n - (i + 1)) = n by omega] at this
  exact this
theorem fb_sm_split (f : Nat → Nat) (m : Nat) : ∀ n, fb_sm f (m + n) = fb_sm f m + fb_sm (fun k => f (m + k)) n
  | 0 => rfl
  | n + 1 => by
    have h := fb_sm_split f m n
    show fb_sm f (m + n + 1) = _
    rw [fb_sm_succ, fb_sm_succ, h, Nat.add_assoc]
theorem fb_sm_zero {f : Nat → Nat} {n : Nat} (h : fb_sm f n = 0) : ∀ k, k < n → f k = 0 := fun k hk => by
  have := fb_sm_part f hk
  omega
/-- the same over whole numbers -/
def fb_si (f : Nat → Int) : Nat → Int
  | 0 => 0
  | n + 1 => fb_si f n + f n
theorem fb_si_succ (f : Nat → Int) (n : Nat) : fb_si f (n + 1) = fb_si f n + f n := rfl
theorem fb_si_cong {f g : Nat → Int} : ∀ {n : Nat}, (∀ k, k < n → f k = g k) → fb_si f n = fb_si g n
  | 0, _ => rfl
  | n + 1, h => by rw [fb_si_succ, fb_si_succ, fb_si_cong (fun k hk => h k (by omega)), h n (by omega)]
theorem fb_si_out (f : Nat → Int) (v : Int) {i n : Nat} (h : n ≤ i) : fb_si (fun k => if k = i then v else f k) n = fb_si f n :=
  fb_si_cong fun k hk => if_neg (by omega)
theorem fb_si_upd (f : Nat → Int) (v : Int) {i : Nat} : ∀ {n : Nat}, i < n → fb_si (fun k => if k = i then v else f k) n = fb_si f n - f i + v
  | 0, h => absurd h (Nat.not_lt_zero i)
  | n + 1, h => by
    rw [fb_si_succ, fb_si_succ]
    rcases Nat.lt_or_ge i n with q | q
    · have := fb_si_upd f v q
      have e : (if n = i then v else f n) = f n := if_neg (by omega)
      rw [e]
      omega
    · have e : i = n := by omega
      subst e
      rw [fb_si_out f v (Nat.le_refl _)]
      simp only [if_true]
      omega
theorem fb_si_add (f g : Nat → Int) : ∀ n, fb_si (fun k => f k + g k) n = fb_si f n + fb_si g n
  | 0 => rfl
  | n + 1 => by
    have h := fb_si_add f g n
    rw [fb_si_succ, fb_si_succ, fb_si_succ, h]
    omega
theorem fb_si_sub (f g : Nat → Int) : ∀ n, fb_si (fun k => f k - g k) n = fb_si f n - fb_si g n
  | 0 => rfl
  | n + 1 => by
    have h := fb_si_sub f g n
    rw [fb_si_succ, fb_si_succ, fb_si_succ, h]
    omega
theorem fb_si_mul (c : Int) (f : Nat → Int) : ∀ n, fb_si (fun k => c * f k) n = c * fb_si f n
  | 0 => (Int.mul_zero c).symm
  | n + 1 => by
    have h := fb_si_mul c f n
    rw [fb_si_succ, fb_si_succ, h, Int.mul_add]
theorem fb_si_split (f : Nat → Int) (m : Nat) : ∀ n, fb_si f (m + n) = fb_si f m + fb_si (fun k => f (m + k)) n
  | 0 => (Int.add_zero _).symm
  | n + 1 => by
    have h := fb_si_split f m n
    show fb_si f (m + n + 1) = _
    rw [fb_si_succ, fb_si_succ, h, Int.add_assoc]
theorem fb_si_nat (f : Nat → Nat) : ∀ n, fb_si (fun k => (f k : Int)) n = (fb_sm f n : Int)
  | 0 => rfl
  | n + 1 => by
    have h := fb_si_nat f n
    rw [fb_si_succ, fb_sm_succ, h]
    omega
theorem fb_si_bound {f : Nat → Int} {c : Int} (hc : 0 ≤ c) : ∀ {n : Nat}, (∀ k, k < n → -c ≤ f k ∧ f k ≤ c) → -(n * c) ≤ fb_si f n ∧ fb_si f n ≤ n * c
  | 0, _ => by simp [fb_si]
  | n + 1, h => by
    have h1 := fb_si_bound (n := n) (f := f) hc (fun k hk => h k (by omega))
    have h2 := h n (by omega)
    have e : ((n + 1 : Nat) : Int) * c = n * c + c := by rw [Int.natCast_add, Int.add_mul]; simp
    rw [fb_si_succ, e]
    omega
/-! ===== bits of a long that isn't negative ===== -/
theorem fb_andL (a b : Nat) : lN a &&& lN b = lN (a &&& b) := by
  apply Int64.toBitVec_inj.1
  show BitVec.ofNat 64 a &&& BitVec.ofNat 64 b = BitVec.ofNat 64 (a &&& b)
  apply BitVec.eq_of_getLsbD_eq
  intro i hi
  simp [hi]
theorem fb_orL (a b : Nat) : lN a ||| lN b = lN (a ||| b) := by
  apply Int64.toBitVec_inj.1
  show BitVec.ofNat 64 a ||| BitVec.ofNat 64 b = BitVec.ofNat 64 (a ||| b)
  apply BitVec.eq_of_getLsbD_eq
  intro i hi
  simp [hi]
theorem fb_xorL (a b : Nat) : lN a ^^^ lN b = lN (a ^^^ b) := by
  apply Int64.toBitVec_inj.1
  show BitVec.ofNat 64 a ^^^ BitVec.ofNat 64 b = BitVec.ofNat 64 (a ^^^ b)
  apply BitVec.eq_of_getLsbD_eq
  intro i hi
  simp [hi]
theorem fb_xorI (a b : Nat) : nI a ^^^ nI b = nI (a ^^^ b) := by
  apply Int32.toBitVec_inj.1
  show BitVec.ofNat 32 a ^^^ BitVec.ofNat 32 b = BitVec.ofNat 32 (a ^^^ b)
  apply BitVec.eq_of_getLsbD_eq
  intro i hi
  simp [hi]
theorem fb_maskL (n k : Nat) : lN n &&& lN (2 ^ k - 1) = lN (n % 2 ^ k) := by rw [fb_andL, Nat.and_two_pow_sub_one_eq_mod]
theorem fb_or_sumL {a k : Nat} (b : Nat) (h : a < 2 ^ k) : lN (2 ^ k * b) ||| lN a = lN (2 ^ k * b + a) := by rw [fb_orL, Nat.two_pow_add_eq_or_of_lt h]
theorem fb_lN_inj {a b : Nat} (ha : a < 2 ^ 63) (hb : b < 2 ^ 63) : lN a = lN b ↔ a = b := by
  constructor
  · intro h
    have h1 : (BitVec.ofNat 64 a).toNat = (BitVec.ofNat 64 b).toNat := congrArg (fun x : Int64 => x.toBitVec.toNat) h
    rw [BitVec.toNat_ofNat, BitVec.toNat_ofNat, Nat.mod_eq_of_lt (by omega), Nat.mod_eq_of_lt (by omega)] at h1
    exact h1
  · rintro rfl; rfl
theorem fb_bit_nat (n j : Nat) : n &&& 2 ^ j = 0 ↔ n.testBit j = false := by
  constructor
  · intro h
    have h1 : (n &&& 2 ^ j).testBit j = false := by rw [h]; simp
    rw [Nat.testBit_and] at h1
    simpa using h1
  · intro h
    apply Nat.eq_of_testBit_eq
    intro i
    rw [Nat.testBit_and]
    by_cases hi : j = i
    · subst hi; simp [h]
    · first | (simp [Nat.testBit_two_pow, hi]; done) | (simp [Nat.testBit_two_pow_of_ne hi]; done)
/-- one bit of a long -/
theorem fb_bitL {n j : Nat} (hj : j < 63) : lN n &&& lN (2 ^ j) = 0 ↔ n.testBit j = false := by
  have h2 : (2 : Nat) ^ j < 2 ^ 63 := Nat.pow_lt_pow_right (by decide) hj
  have hle : n &&& 2 ^ j ≤ 2 ^ j := Nat.and_le_right
  rw [fb_andL, ← fb_bit_nat, show (0 : Int64) = lN 0 from rfl]
  exact fb_lN_inj (by omega) (by decide)
/-- a bit set, a bit taken off -/
theorem fb_bit_set (n j i : Nat) : (n ||| 2 ^ j).testBit i = (n.testBit i || decide (i = j)) := by
  rw [Nat.testBit_or]
  by_cases h : j = i
  · subst h; simp
  · have h2 : ¬ i = j := fun e => h e.symm
    first | (simp [Nat.testBit_two_pow, h, h2]; done) | (simp [Nat.testBit_two_pow_of_ne h, h2]; done)
theorem fb_bit_flip (n j i : Nat) : (n ^^^ 2 ^ j).testBit i = (n.testBit i ^^ decide (i = j)) := by
  rw [Nat.testBit_xor]
  by_cases h : j = i
  · subst h; simp
  · have h2 : ¬ i = j := fun e => h e.symm
    first | (simp [Nat.testBit_two_pow, h, h2]; done) | (simp [Nat.testBit_two_pow_of_ne h, h2]; done)
/-! ===== a stretch of an array written over by a function ===== -/
def fb_put {α : Type} (f g : Nat → α) (a n : Nat) : Nat → α := fun k => if a ≤ k ∧ k < a + n then g (k - a) else f k
theorem fb_put_0 {α : Type} (f g : Nat → α) (a : Nat) : fb_put f g a 0 = f := funext fun k => if_neg (by omega)
theorem fb_put_in {α : Type} {f g : Nat → α} {a n k : Nat} (h1 : a ≤ k) (h2 : k < a + n) : fb_put f g a n k = g (k - a) := if_pos ⟨h1, h2⟩
theorem fb_put_out {α : Type} {f g : Nat → α} {a n k : Nat} (h : k < a ∨ a + n ≤ k) : fb_put f g a n k = f k := if_neg (by omega)
theorem fb_put_succ (f g : Nat → Int32) (a n : Nat) : upd (fb_put f g a n) (a + n) (g n) = fb_put f g a (n + 1) := by
  funext k
  by_cases h : k = a + n
  · subst h
    simp [upd, fb_put]
  · by_cases h1 : a ≤ k ∧ k < a + n
    · have h2 : a ≤ k ∧ k < a + (n + 1) := by omega
      simp only [upd, fb_put, if_neg h, if_pos h1, if_pos h2]
    · have h2 : ¬ (a ≤ k ∧ k < a + (n + 1)) := by omega
      simp only [upd, fb_put, if_neg h, if_neg h1, if_neg h2]
/-- .. from the far end down -/
theorem fb_put_down (f g : Nat → Int32) {a n m : Nat} (h : m < n) : upd (fb_put f (fun k => g (k + (m + 1))) (a + (m + 1)) (n - (m + 1))) (a + m) (g m) = fb_put f (fun k => g (k + m)) (a + m) (n - m) := by
  funext k
  by_cases h0 : k = a + m
  · subst h0
    simp only [upd, if_true]
    rw [fb_put_in (by omega) (by omega)]
    exact congrArg g (by omega)
  · simp only [upd, if_neg h0]
    by_cases h1 : a + (m + 1) ≤ k ∧ k < a + (m + 1) + (n - (m + 1))
    · rw [fb_put_in h1.1 h1.2, fb_put_in (by omega) (by omega)]
      exact congrArg g (by omega)
    · rw [fb_put_out (by omega), fb_put_out (by omega)]
theorem fb_put_cong {α : Type} {f f2 g g2 : Nat → α} {a n : Nat} (hf : ∀ k, (k < a ∨ a + n ≤ k) → f k = f2 k) (hg : ∀ k, k < n → g k = g2 k) : fb_put f g a n = fb_put f2 g2 a n := by
  funext k
  by_cases h : a ≤ k ∧ k < a + n
  · rw [fb_put_in h.1 h.2, fb_put_in h.1 h.2, hg _ (by omega)]
  · rw [fb_put_out (by omega), fb_put_out (by omega), hf _ (by omega)]
/-! ===== the least, the first, the best so far; that there is one alone ===== -/
theorem fb_first {p : Nat → Prop} [DecidablePred p] : ∀ {n : Nat}, (∃ i, i < n ∧ p i) → ∃ i, i < n ∧ p i ∧ ∀ j, j < i → ¬ p j
  | 0, h => by obtain ⟨i, hi, -⟩ := h; exact absurd hi (Nat.not_lt_zero i)
  | n + 1, h => by
    by_cases q : ∃ i, i < n ∧ p i
    · obtain ⟨i, h1, h2⟩ := fb_first q
      exact ⟨i, by omega, h2⟩
    · obtain ⟨i, h1, h2⟩ := h
      have e : i = n := by
        rcases Nat.lt_or_ge i n with r | r
        · exact absurd ⟨i, r, h2⟩ q
        · omega
      subst e
      exact ⟨i, by omega, h2, fun j hj hp => q ⟨j, hj, hp⟩⟩
theorem fb_first_one {p : Nat → Prop} {i j : Nat} (hi : p i) (hi2 : ∀ k, k < i → ¬ p k) (hj : p j) (hj2 : ∀ k, k < j → ¬ p k) : i = j := by
  rcases Nat.lt_trichotomy i j with q | q | q
  · exact absurd hi (hj2 i q)
  · exact q
  · exact absurd hj (hi2 j q)
theorem fb_last {p : Nat → Prop} [DecidablePred p] : ∀ {n : Nat}, (∃ i, i < n ∧ p i) → ∃ i, i < n ∧ p i ∧ ∀ j, i < j → j < n → ¬ p j
  | 0, h => by obtain ⟨i, hi, -⟩ := h; exact absurd hi (Nat.not_lt_zero i)
  | n + 1, h => by
    by_cases q : p n
    · exact ⟨n, by omega, q, fun j h1 h2 => by omega⟩
    · obtain ⟨i, h1, h2⟩ := h
      have hi : i < n := by
        rcases Nat.lt_or_ge i n with r | r
        · exact r
        · have e : i = n := by omega
          subst e
          exact absurd h2 q
      obtain ⟨i2, a1, a2, a3⟩ := fb_last (n := n) ⟨i, hi, h2⟩
      refine ⟨i2, by omega, a2, fun j b1 b2 => ?_⟩
      rcases Nat.lt_or_ge j n with r | r
      · exact a3 j b1 r
      · have e : j = n := by omega
        subst e
        exact q
/-- the first greatest -/
theorem fb_best (f : Nat → Int) : ∀ {n : Nat}, 0 < n → ∃ i, i < n ∧ (∀ j, j < n → f j ≤ f i) ∧ ∀ j, j < i → f j < f i
  | 0, h => absurd h (Nat.lt_irrefl 0)
  | 1, _ => ⟨0, by omega, fun j hj => by have e : j = 0 := by omega
                                         subst e; exact Int.le_refl _, fun j hj => absurd hj (Nat.not_lt_zero j)⟩
  | n + 2, _ => by
    obtain ⟨i, h1, h2, h3⟩ := fb_best f (n := n + 1) (by omega)
    by_cases q : f i < f (n + 1)
    · refine ⟨n + 1, by omega, fun j hj => ?_, fun j hj => ?_⟩
      · rcases Nat.lt_or_ge j (n + 1) with r | r
        · have := h2 j r; omega
        · have e : j = n + 1 := by omega
          subst e; exact Int.le_refl _
      · have := h2 j hj; omega
    · refine ⟨i, by omega, fun j hj => ?_, h3⟩
      rcases Nat.lt_or_ge j (n + 1) with r | r
      · exact h2 j r
      · have e : j = n + 1 := by omega
        subst e; omega
theorem fb_best_one {f : Nat → Int} {n i j : Nat} (hi : i < n) (hi2 : ∀ k, k < n → f k ≤ f i) (hi3 : ∀ k, k < i → f k < f i) (hj : j < n) (hj2 : ∀ k, k < n → f k ≤ f j) (hj3 : ∀ k, k < j → f k < f j) : i = j := by
  rcases Nat.lt_trichotomy i j with q | q | q
  · have a := hj3 i q
    have b := hi2 j hj
    omega
  · exact q
  · have a := hi3 j q
    have b := hj2 i hi
    omega
/-- the first least -/
theorem fb_low (f : Nat → Int) {n : Nat} (h : 0 < n) : ∃ i, i < n ∧ (∀ j, j < n → f i ≤ f j) ∧ ∀ j, j < i → f i < f j := by
  obtain ⟨i, h1, h2, h3⟩ := fb_best (fun k => -f k) h
  exact ⟨i, h1, fun j hj => by have := h2 j hj; omega, fun j hj => by have := h3 j hj; omega⟩
/-! ===== signed ints as whole numbers, within bounds ===== -/
theorem fb_rng (x : Int32) : -2147483648 ≤ x.toInt ∧ x.toInt < 2147483648 := by
  have h1 := Int32.le_toInt x
  have h2 := Int32.toInt_lt x
  omega
theorem fb_bmod {z : Int} (h1 : -2147483648 ≤ z) (h2 : z < 2147483648) : z.bmod (2 ^ 32) = z := by
  rw [Int.bmod_eq_of_le (by omega) (by omega)]
theorem fb_addI {x y : Int32} (h1 : -2147483648 ≤ x.toInt + y.toInt) (h2 : x.toInt + y.toInt < 2147483648) : (x + y).toInt = x.toInt + y.toInt := by
  rw [Int32.toInt_add, fb_bmod h1 h2]
theorem fb_subI {x y : Int32} (h1 : -2147483648 ≤ x.toInt - y.toInt) (h2 : x.toInt - y.toInt < 2147483648) : (x - y).toInt = x.toInt - y.toInt := by
  rw [Int32.toInt_sub, fb_bmod h1 h2]
theorem fb_mulI {x y : Int32} (h1 : -2147483648 ≤ x.toInt * y.toInt) (h2 : x.toInt * y.toInt < 2147483648) : (x * y).toInt = x.toInt * y.toInt := by
  rw [Int32.toInt_mul, fb_bmod h1 h2]
theorem fb_negI {x : Int32} (h : x.toInt ≠ -2147483648) : (-x).toInt = -x.toInt := by
  have := fb_rng x
  rw [Int32.toInt_neg, fb_bmod (by omega) (by omega)]
theorem fb_ofI {z : Int} (h1 : -2147483648 ≤ z) (h2 : z < 2147483648) : (Int32.ofInt z).toInt = z := by
  rw [Int32.toInt_ofInt, fb_bmod h1 h2]
theorem fb_asI (x : Int32) : Int32.ofInt x.toInt = x := Int32.ofInt_toInt x
theorem fb_rngL (x : Int64) : -9223372036854775808 ≤ x.toInt ∧ x.toInt < 9223372036854775808 := by
  have h1 := Int64.le_toInt x
  have h2 := Int64.toInt_lt x
  omega
theorem fb_bmodL {z : Int} (h1 : -9223372036854775808 ≤ z) (h2 : z < 9223372036854775808) : z.bmod (2 ^ 64) = z := by
  rw [Int.bmod_eq_of_le (by omega) (by omega)]
theorem fb_addL {x y : Int64} (h1 : -9223372036854775808 ≤ x.toInt + y.toInt) (h2 : x.toInt + y.toInt < 9223372036854775808) : (x + y).toInt = x.toInt + y.toInt := by
  rw [Int64.toInt_add, fb_bmodL h1 h2]
theorem fb_subL {x y : Int64} (h1 : -9223372036854775808 ≤ x.toInt - y.toInt) (h2 : x.toInt - y.toInt < 9223372036854775808) : (x - y).toInt = x.toInt - y.toInt := by
  rw [Int64.toInt_sub, fb_bmodL h1 h2]
theorem fb_mulL {x y : Int64} (h1 : -9223372036854775808 ≤ x.toInt * y.toInt) (h2 : x.toInt * y.toInt < 9223372036854775808) : (x * y).toInt = x.toInt * y.toInt := by
  rw [Int64.toInt_mul, fb_bmodL h1 h2]
/-! ===== cuts of what is narrow already ===== -/
theorem fb_byte {x : Int32} (h1 : -128 ≤ x.toInt) (h2 : x.toInt < 128) : x.toInt8.toInt32 = x := by
  apply Int32.toInt_inj.1
  rw [Int8.toInt_toInt32, Int32.toInt_toInt8, Int.bmod_eq_of_le (by omega) (by omega)]
theorem fb_short {x : Int32} (h1 : -32768 ≤ x.toInt) (h2 : x.toInt < 32768) : x.toInt16.toInt32 = x := by
  apply Int32.toInt_inj.1
  rw [Int16.toInt_toInt32, Int32.toInt_toInt16, Int.bmod_eq_of_le (by omega) (by omega)]
theorem fb_byte_rng (x : Int32) : -128 ≤ x.toInt8.toInt32.toInt ∧ x.toInt8.toInt32.toInt < 128 := by
  rw [Int8.toInt_toInt32]
  have h1 := Int8.le_toInt x.toInt8
  have h2 := Int8.toInt_lt x.toInt8
  omega
theorem fb_short_rng (x : Int32) : -32768 ≤ x.toInt16.toInt32.toInt ∧ x.toInt16.toInt32.toInt < 32768 := by
  rw [Int16.toInt_toInt32]
  have h1 := Int16.le_toInt x.toInt16
  have h2 := Int16.toInt_lt x.toInt16
  omega
theorem fb_byte_twice (x : Int32) : x.toInt8.toInt32.toInt8.toInt32 = x.toInt8.toInt32 := fb_byte (fb_byte_rng x).1 (fb_byte_rng x).2
theorem fb_short_twice (x : Int32) : x.toInt16.toInt32.toInt16.toInt32 = x.toInt16.toInt32 := fb_short (fb_short_rng x).1 (fb_short_rng x).2
theorem fb_char {n : Nat} (h : n < 65536) : (nI n).toUInt32.toUInt16.toUInt32.toInt32 = nI n := by
  apply Int32.toBitVec_inj.1
  apply BitVec.eq_of_toNat_eq
  have e1 : (nI n).toBitVec.toNat = n := by
    show (BitVec.ofNat 32 n).toNat = n
    rw [BitVec.toNat_ofNat, Nat.mod_eq_of_lt (by omega)]
  have e2 : ((nI n).toUInt32.toUInt16.toUInt32).toNat = n := by
    rw [UInt16.toNat_toUInt32, UInt32.toNat_toUInt16]
    show (nI n).toBitVec.toNat % 2 ^ 16 = n
    rw [e1, Nat.mod_eq_of_lt (by omega)]
  rw [e1]
  exact e2
end
section
/-! What the methods answer and do, as functions on rows of numbers. -/
/-- the sum of the first n -/
def qS (f : Nat → Int32) : Nat → Int32
  | 0 => 0
  | n + 1 => qS f n + f n
/-- all grains of a slice, of a class, of the first n slices, of the jar -/
def qIn (g : Nat → Int32) (s : Nat) : Int32 := qS (fun c => g (4 * s + c)) 4
def qOf (g : Nat → Int32) (c : Nat) : Int32 := qS (fun s => g (4 * s + c)) 12
def qTo (g : Nat → Int32) (n : Nat) : Int32 := qS (fun s => qIn g s) n
def qAll (g : Nat → Int32) : Int32 := qTo g 12
def qDep (g : Nat → Int32) : Int32 := qS (fun s => nI s * qIn g s) 12
/-- all before n -/
def qAllB (p : Nat → Bool) : Nat → Bool
  | 0 => true
  | n + 1 => qAllB p n && p n
theorem q_allB_at {p : Nat → Bool} {i : Nat} : ∀ {n : Nat}, qAllB p n = true → i < n → p i = true
  | 0, _, h => absurd h (Nat.not_lt_zero i)
  | n + 1, h, hi => by
    rw [qAllB, Bool.and_eq_true] at h
    by_cases e : i = n
    · rw [e]; exact h.2
    · exact q_allB_at h.1 (by omega)
theorem z_ndec {P : Prop} [Decidable P] (h : (!decide P) = true) : ¬ P := by simpa using h
theorem z_ndec2 {P : Prop} [Decidable P] (h : ¬ P) : (!decide P) = true := by simpa using h
/-- the factor (h: hindrance, a: all grains), the room (p: packing), what wants to fall (v: speed, f: factor, r: residue, n: grains) -/
def qFac (h a : Int32) : Int32 := 1000000 / (if 1 < 1000 + a * h / 10 then 1000 + a * h / 10 else 1)
def qRoom (p a : Int32) : Int32 := if 0 < p - a then p - a else 0
def qWant (v r n f : Int32) : Int32 := if n * v * f / 100000 = 0 ∧ r < n then 1 else if n < n * v * f / 100000 then n else n * v * f / 100000
/-- how many in a row, from i on, at most n -/
def qRun (p : Nat → Bool) : Nat → Nat → Nat
  | 0, i => i
  | n + 1, i => if p i = true then qRun p n (i + 1) else i
def qBed (g : Nat → Int32) (p : Int32) : Nat := qRun (fun i => decide (p ≤ qIn g (11 - i))) 12 0
def qClr (g : Nat → Int32) (p : Int32) : Nat := qRun (fun i => decide (qIn g i ≤ p)) 12 0
def qPkd (g : Nat → Int32) (p : Int32) : Nat → Int32 := qS (fun s => if p ≤ qIn g s then 1 else 0)
def qClrs (g : Nat → Int32) (p : Int32) : Nat → Int32 := qS (fun s => if qIn g s ≤ p then 1 else 0)
/-- the leading class: the leader and how many -/
def qLd (f : Nat → Int32) : Nat → Int32 × Int32
  | 0 => (-1, 0)
  | c + 1 => if (qLd f c).2 < f c then (nI c, f c) else qLd f c
def qLead (g : Nat → Int32) (s : Nat) : Int32 := (qLd (fun c => g (4 * s + c)) 4).1
/-- changes of the leader, and the last one -/
def qCh (l : Nat → Int32) : Nat → Int32 × Int32
  | 0 => (0, -1)
  | k + 1 => (if ¬ l k = -1 ∧ ¬ (qCh l k).2 = -1 ∧ ¬ l k = (qCh l k).2 then (qCh l k).1 + 1 else (qCh l k).1, if ¬ l k = -1 then l k else (qCh l k).2)
def qChg (g : Nat → Int32) : Int32 := (qCh (qLead g) 12).1
/-- the purest slice: the slice, its grains of the class, all its grains -/
def qPu (g : Nat → Int32) (c : Nat) : Nat → Int32 × Int32 × Int32
  | 0 => (-1, 0, 1)
  | k + 1 => if (qPu g c k).2.1 * qIn g k < g (4 * k + c) * (qPu g c k).2.2 then (nI k, g (4 * k + c), qIn g k) else qPu g c k
/-- why a grain stays -/
def qWhy (g v w : Nat → Int32) (s c : Nat) : Int32 :=
  if s = 11 then 1 else if g (4 * s + c) = 0 then 2 else if qRoom (v 1) (qIn g (s + 1)) = 0 then 3 else if qWant (w c) (v 3) (g (4 * s + c)) (qFac (v 0) (qIn g s)) = 0 then 4 else 0
theorem z_cases4 {k : Nat} (h : k < 4) : k = 0 ∨ k = 1 ∨ k = 2 ∨ k = 3 := by omega
theorem z_cases3 {k : Nat} (h : k < 3) : k = 0 ∨ k = 1 ∨ k = 2 := by omega
theorem z_cases6 {k : Nat} (h : k < 6) : k = 0 ∨ k = 1 ∨ k = 2 ∨ k = 3 ∨ k = 4 ∨ k = 5 := by omega
theorem z_cases10 {k : Nat} (h : k < 10) : k = 0 ∨ k = 1 ∨ k = 2 ∨ k = 3 ∨ k = 4 ∨ k = 5 ∨ k = 6 ∨ k = 7 ∨ k = 8 ∨ k = 9 := by omega
theorem z_fac_ne (x : Int32) : ¬ (if 1 < x then x else 1) = 0 := by
  split
  · rename_i h
    intro e
    rw [e] at h
    exact absurd h (by decide)
  · decide
theorem z_ltm1 {t i : Nat} (ht : t < 2 ^ 30) (hi : i < 2 ^ 30) : nI t - 1 < nI i ↔ t ≤ i := by
  have h1 : (nI t - 1).toInt = (t : Int) - 1 := pk_sub_toInt (a := t) (b := 1) ht (by decide)
  have h2 : (nI i).toInt = (i : Int) := nI_toInt (by omega)
  rw [Int32.lt_iff_toInt_lt, h1, h2]
  omega
theorem z_lts {P : Nat → Prop} {i : Nat} (h : ∀ a, a < i → P a) (hi : P i) : ∀ a, a < i + 1 → P a := lt_s h hi
theorem z_addm1 (x : Int32) : x + Int32.ofInt (-1) = x - 1 := by rw [Int32.sub_eq_add_neg]; rfl
theorem q_run_le (p : Nat → Bool) : ∀ n i, qRun p n i ≤ i + n
  | 0, i => Nat.le_refl i
  | n + 1, i => by
    rw [qRun]
    split
    · have h := q_run_le p n (i + 1)
      omega
    · omega
theorem q_bed_le (g : Nat → Int32) (p : Int32) : qBed g p ≤ 12 := q_run_le _ 12 0
theorem q_clr_le (g : Nat → Int32) (p : Int32) : qClr g p ≤ 12 := q_run_le _ 12 0
/-- put -/
def qPut (g : Nat → Int32) (s c : Nat) (x : Int32) : Nat → Int32 := upd g (4 * s + c) (g (4 * s + c) + x)
/-- spread class c over the m slices from a on: what is left is shared, slice by slice -/
def qSp (g : Nat → Int32) (a b c : Nat) (all : Int32) : Nat → (Nat → Int32) × Int32
  | 0 => (g, all)
  | i + 1 => (qPut (qSp g a b c all i).1 (a + i) c (((qSp g a b c all i).2 + nI (b - (a + i))) / nI (b - (a + i) + 1) - (qSp g a b c all i).1 (4 * (a + i) + c)), (qSp g a b c all i).2 - ((qSp g a b c all i).2 + nI (b - (a + i))) / nI (b - (a + i) + 1))
def qSum (g : Nat → Int32) (a c : Nat) (n : Nat) : Int32 := qS (fun i => g (4 * (a + i) + c)) n
/-- a slice poured over, class by class; all slices before t -/
def qOv (g o : Nat → Int32) (s : Nat) : Nat → (Nat → Int32) × (Nat → Int32)
  | 0 => (g, o)
  | c + 1 => (qPut (qOv g o s c).1 s c (-((qOv g o s c).1 (4 * s + c))), qPut (qOv g o s c).2 s c ((qOv g o s c).1 (4 * s + c)))
def qOver (g o : Nat → Int32) : Nat → (Nat → Int32) × (Nat → Int32)
  | 0 => (g, o)
  | t + 1 => qOv (qOver g o t).1 (qOver g o t).2 t 4
/-- turning over: two slices changed, class by class; all before t -/
def qTn (g : Nat → Int32) (s : Nat) : Nat → Nat → Int32
  | 0 => g
  | c + 1 => qPut (qPut (qTn g s c) s c (qTn g s c (4 * (11 - s) + c) - qTn g s c (4 * s + c))) (11 - s) c (-(qTn g s c (4 * (11 - s) + c) - qTn g s c (4 * s + c)))
def qTurn (g : Nat → Int32) : Nat → Nat → Int32
  | 0 => g
  | t + 1 => qTn (qTurn g t) t 4
/-- how many of class c fall, of the row g with so many fallen already -/
def qDrop (w v : Nat → Int32) (f r : Int32) (s c : Nat) (q : (Nat → Int32) × Int32) : Int32 :=
  if r - q.2 < qWant (w c) (v 3) (q.1 (4 * s + c)) f then r - q.2 else qWant (w c) (v 3) (q.1 (4 * s + c)) f
def qFa (g v w : Nat → Int32) (s : Nat) : Nat → (Nat → Int32) × Int32
  | 0 => (g, 0)
  | c + 1 => (qPut (qPut (qFa g v w s c).1 s c (-(qDrop w v (qFac (v 0) (qIn g s)) (qRoom (v 1) (qIn g (s + 1))) s c (qFa g v w s c)))) (s + 1) c (qDrop w v (qFac (v 0) (qIn g s)) (qRoom (v 1) (qIn g (s + 1))) s c (qFa g v w s c)), (qFa g v w s c).2 + qDrop w v (qFac (v 0) (qIn g s)) (qRoom (v 1) (qIn g (s + 1))) s c (qFa g v w s c))
def qFall (g v w : Nat → Int32) (s : Nat) : (Nat → Int32) × Int32 := qFa g v w s 4
/-- a step, slice by slice from the tenth; a run of steps that ends when nothing falls -/
def qSt (g v w : Nat → Int32) : Nat → (Nat → Int32) × Int32
  | 0 => (g, 0)
  | i + 1 => ((qFall (qSt g v w i).1 v w (10 - i)).1, (qSt g v w i).2 + (qFall (qSt g v w i).1 v w (10 - i)).2)
def qStep (g v w : Nat → Int32) : (Nat → Int32) × Int32 := qSt g v w 11
def qGo (v w : Nat → Int32) : Nat → (Nat → Int32) × Int32 → (Nat → Int32) × Int32
  | 0, q => q
  | n + 1, q => if (qStep q.1 v w).2 = 0 then ((qStep q.1 v w).1, q.2) else qGo v w n ((qStep q.1 v w).1, q.2 + (qStep q.1 v w).2)
/-- all zero before n -/
def qZero (g : Nat → Int32) : Nat → Nat → Int32
  | 0 => g
  | n + 1 => upd (qZero g n) n 0
/-- what a slice is asked, what a jar is asked -/
def qSlice (g v w : Nat → Int32) (s : Nat) : Nat → Int32
  | 4 => qIn g s
  | 5 => if v 1 ≤ qIn g s then 1 else 0
  | 6 => if qIn g s ≤ v 2 then 1 else 0
  | 7 => qLead g s
  | 8 => qFac (v 0) (qIn g s)
  | 9 => qRoom (v 1) (qIn g s)
  | k => g (4 * s + k)
def qRest (g v w : Nat → Int32) : Bool := qAllB (fun s => qAllB (fun c => !decide (qWhy g v w s c = 0)) 4) 11
theorem q_rest_no {g v w : Nat → Int32} {i j : Nat} (hi : i < 11) (hj : j < 4) (h : qWhy g v w i j = 0) : ¬ qRest g v w = true := fun q => z_ndec (q_allB_at (p := fun c => !decide (qWhy g v w i c = 0)) (q_allB_at (p := fun s => qAllB (fun c => !decide (qWhy g v w s c = 0)) 4) q hi) hj) h
def qJar (g v w : Nat → Int32) : Nat → Int32
  | 0 => qAll g
  | 5 => nI (qBed g (v 1))
  | 6 => nI (qClr g (v 2))
  | 7 => qAll g - qTo g (12 - qBed g (v 1))
  | 8 => qChg g
  | 9 => if qRest g v w = true then 1 else 0
  | k + 1 => qOf g k
theorem z_bedm {b : Nat} (h : b ≤ 12) : 11 - nI b = nI (12 - b) - 1 := by
  have h1 : (11 - nI b).toInt = (11 : Int) - b := pk_sub_toInt (a := 11) (b := b) (by decide) (by omega)
  have h2 : (nI (12 - b) - 1).toInt = ((12 - b : Nat) : Int) - 1 := pk_sub_toInt (a := 12 - b) (b := 1) (by omega) (by decide)
  apply Int32.toInt_inj.mp
  rw [h1, h2]
  omega
/-! the reference's own words -/
/-- jar j of the row z; its settings; its speeds -/
def qV (z : Nat → Int32) (j : Nat) : Nat → Int32 := fun k => z (48 * j + k)
def qFacM (h a : Int32) : Int32 := 1000000 / (1000 + a * h / 10)
def qRoomM (p a : Int32) : Int32 := if p - a < 0 then 0 else p - a
def qWish (v r n f : Int32) : Int32 := if (if n * v * f / 100000 = 0 ∧ r < n then 1 else n * v * f / 100000) < n then (if n * v * f / 100000 = 0 ∧ r < n then 1 else n * v * f / 100000) else n
def mWish (z : Nat → Int32) (j s c : Nat) (f : Int32) : Int32 := qWish (z (148 + c)) (z 147) (qV z j (4 * s + c)) f
def mRoom (z : Nat → Int32) (j s : Nat) : Int32 := qRoomM (z 145) (qIn (qV z j) s)
def mFac (z : Nat → Int32) (j s : Nat) : Int32 := qFacM (z 144) (qIn (qV z j) s)
def mDrop (z : Nat → Int32) (j s c : Nat) (f : Int32) : Int32 := if mWish z j s c f < mRoom z j (s + 1) then mWish z j s c f else mRoom z j (s + 1)
def mPut (j s c : Nat) (q : (Nat → Int32) × Int32) (x : Int32) : (Nat → Int32) × Int32 :=
  (upd (upd q.1 (48 * j + (4 * s + c)) (q.1 (48 * j + (4 * s + c)) - x)) (48 * j + (4 * (s + 1) + c)) ((upd q.1 (48 * j + (4 * s + c)) (q.1 (48 * j + (4 * s + c)) - x)) (48 * j + (4 * (s + 1) + c)) + x), q.2 + x)
def mFa (z : Nat → Int32) (j s : Nat) (f : Int32) : Nat → (Nat → Int32) × Int32
  | 0 => (z, 0)
  | c + 1 => mPut j s c (mFa z j s f c) (mDrop (mFa z j s f c).1 j s c f)
def mFall (z : Nat → Int32) (j s : Nat) : (Nat → Int32) × Int32 := mFa z j s (mFac z j s) 4
def mSt (z : Nat → Int32) (j : Nat) : Nat → (Nat → Int32) × Int32
  | 0 => (z, 0)
  | i + 1 => ((mFall (mSt z j i).1 j (10 - i)).1, (mSt z j i).2 + (mFall (mSt z j i).1 j (10 - i)).2)
def mStep (z : Nat → Int32) (j : Nat) : (Nat → Int32) × Int32 := mSt z j 11
/-- f copied over g, the first n -/
def qCp (f g : Nat → Int32) : Nat → Nat → Int32
  | 0 => g
  | n + 1 => upd (qCp f g n) n (f n)
def mWhy (z : Nat → Int32) (j s c : Nat) : Int32 :=
  if s = 11 then 1 else if qV z j (4 * s + c) = 0 then 2 else if mRoom z j (s + 1) = 0 then 3 else if mWish z j s c (mFac z j s) = 0 then 4 else 0
def mStay (z : Nat → Int32) (j s : Nat) : Nat → Bool := qAllB (fun c => decide (0 < mWhy z j s c))
def mRest (z : Nat → Int32) (j : Nat) : Nat → Bool := qAllB (fun s => mStay z j s 4)
def mBed (z : Nat → Int32) (j : Nat) : Nat := qBed (qV z j) (z 145)
def mIn (z : Nat → Int32) (j : Nat) : Nat → Int32 := qS (fun i => qIn (qV z j) (12 - mBed z j + i))
def mSlice (z : Nat → Int32) (j s : Nat) : Nat → Int32
  | 4 => qIn (qV z j) s
  | 5 => if z 145 ≤ qIn (qV z j) s then 1 else 0
  | 6 => if qIn (qV z j) s ≤ z 146 then 1 else 0
  | 7 => qLead (qV z j) s
  | 8 => mFac z j s
  | 9 => mRoom z j s
  | k => qV z j (4 * s + k)
def mJar (z : Nat → Int32) (j : Nat) : Nat → Int32
  | 0 => qAll (qV z j)
  | 5 => nI (mBed z j)
  | 6 => nI (qClr (qV z j) (z 146))
  | 7 => mIn z j (mBed z j)
  | 8 => qChg (qV z j)
  | 9 => if mRest z j 12 = true then 1 else 0
  | k + 1 => qOf (qV z j) k
def mClr (z : Nat → Int32) : Nat → Int32 := qS (fun k => if qIn (qV z (k / 12)) (k % 12) ≤ z 146 then 1 else 0)
def mGr (z : Nat → Int32) (c : Nat) : Nat → Int32
  | 0 => z (152 + c)
  | 1 => z (156 + c)
  | 2 => qOf (qV z 0) c + qOf (qV z 1) c + qOf (qV z 2) c
  | _ => z (148 + c)
def mCnt (z : Nat → Int32) (sv : Nat) : Nat → Int32
  | 0 => z 160
  | 1 => qAll (qV z 0) + qAll (qV z 1) + qAll (qV z 2)
  | 2 => qPkd (qV z 0) (z 145) 12 + qPkd (qV z 1) (z 145) 12 + qPkd (qV z 2) (z 145) 12
  | 3 => mClr z 36
  | 4 => z 161
  | _ => nI sv
/-- what holds of every row that a run of calls comes to -/
def mGood (z : Nat → Int32) : Prop :=
  (∀ k, k < 144 → 0 ≤ (z k).toInt) ∧ (∀ j, j < 3 → fb_si (fun k => (z (48 * j + k)).toInt) 48 ≤ 5000) ∧
  (0 ≤ (z 144).toInt ∧ (z 144).toInt ≤ 1000) ∧ (10 ≤ (z 145).toInt ∧ (z 145).toInt ≤ 1000) ∧ (0 ≤ (z 146).toInt ∧ (z 146).toInt ≤ 50) ∧ (0 ≤ (z 147).toInt ∧ (z 147).toInt ≤ 9) ∧
  (∀ c, c < 4 → 1 ≤ (z (148 + c)).toInt ∧ (z (148 + c)).toInt ≤ 100) ∧ (0 ≤ (z 160).toInt ∧ (z 160).toInt ≤ 10000)
theorem z_nb (P : Prop) [Decidable P] : narrow .boolean (.int (if P then 1 else 0)) = .int (if P then 1 else 0) := by split <;> rfl
theorem q_cp_at (f g : Nat → Int32) : ∀ n k, k < n → qCp f g n k = f k
  | 0, k, h => absurd h (Nat.not_lt_zero k)
  | n + 1, k, h => by
    show upd (qCp f g n) n (f n) k = f k
    by_cases e : k = n
    · subst e; simp [upd]
    · simp only [upd, if_neg e]; exact q_cp_at f g n k (by omega)
theorem q_cp_out (f g : Nat → Int32) : ∀ n k, n ≤ k → qCp f g n k = g k
  | 0, k, h => rfl
  | n + 1, k, h => by
    show upd (qCp f g n) n (f n) k = g k
    simp only [upd, if_neg (show ¬ k = n by omega)]
    exact q_cp_out f g n k (by omega)
theorem q_back {y a z : Nat → Int32} (h : ∀ k, 162 ≤ k → z k = y k) : qCp (qCp y a 162) z 162 = y := by
  funext k
  by_cases e : k < 162
  · rw [q_cp_at _ _ _ _ e, q_cp_at _ _ _ _ e]
  · rw [q_cp_out _ _ _ _ (by omega)]
    exact h k (by omega)
def qLo (k : Nat) : Int32 := if k = 1 then 10 else 0
def qUp (k : Nat) : Int32 := if k = 0 then 1000 else if k = 1 then 1000 else if k = 2 then 50 else 9
/-- the saved rows: pushed down by one row, then row o laid -/
def mShift (sd : Nat → Int32) : Nat → Nat → Int32
  | 0 => sd
  | n + 1 => upd (mShift sd n) n (mShift sd n (162 + n))
def qAt (sd z : Nat → Int32) (o : Nat) : Nat → Nat → Int32
  | 0 => sd
  | n + 1 => upd (qAt sd z o n) (162 * o + n) (z n)
def mSv (sv : Nat) : Nat := if sv = 6 then 5 else sv
def mBase (sd : Nat → Int32) (sv : Nat) : Nat → Int32 := if sv = 6 then mShift sd 810 else sd
def mSave (sd z : Nat → Int32) (sv : Nat) : Nat → Int32 := qAt (mBase sd sv) z (mSv sv) 162
/-- taken back from row o -/
def mUndo (sd z : Nat → Int32) (o : Nat) : Nat → Nat → Int32
  | 0 => z
  | n + 1 => upd (mUndo sd z o n) n (sd (162 * o + n))
def mSteps (z : Nat → Int32) (j : Nat) : Nat → Nat → Int32
  | 0 => z
  | i + 1 => (mStep (mSteps z j i) j).1
def mCn (j sl : Nat) : Nat → Nat → (Nat → Int32) → Nat
  | 0, i, _ => i
  | n + 1, i, Z => if qClr (qV Z j) (Z 146) < sl then mCn j sl n (i + 1) (mStep Z j).1 else i
def mRn (j : Nat) : Nat → Nat → (Nat → Int32) → Nat
  | 0, i, _ => i
  | n + 1, i, Z => if 0 < (mStep Z j).2 then mRn j n (i + 1) (mStep Z j).1 else i
def mRun (z : Nat → Int32) : Nat → (Nat → Int32) × Int32
  | 0 => (z, 0)
  | k + 1 => ((mStep (mRun z k).1 (k % 3)).1, (mRun z k).2 + (mStep (mRun z k).1 (k % 3)).2)
def mSettle (z : Nat → Int32) (t : Nat) : Nat → Int32 :=
  upd (upd (mRun z (3 * t)).1 160 ((mRun z (3 * t)).1 160 + nI t)) 161 ((upd (mRun z (3 * t)).1 160 ((mRun z (3 * t)).1 160 + nI t)) 161 + (mRun z (3 * t)).2)
def mBring (z : Nat → Int32) (j s c : Nat) (x : Int32) : Nat → Int32 :=
  upd (upd z (48 * j + (4 * s + c)) (z (48 * j + (4 * s + c)) + x)) (152 + c) ((upd z (48 * j + (4 * s + c)) (z (48 * j + (4 * s + c)) + x)) (152 + c) + x)
def mDr1 (j s c : Nat) (q : (Nat → Int32) × Int32) (x : Int32) : (Nat → Int32) × Int32 :=
  (upd (upd q.1 (48 * j + (4 * s + c)) (q.1 (48 * j + (4 * s + c)) - x)) (156 + c) ((upd q.1 (48 * j + (4 * s + c)) (q.1 (48 * j + (4 * s + c)) - x)) (156 + c) + x), q.2 + x)
def mDraw (z : Nat → Int32) (j s : Nat) (p : Int32) : Nat → (Nat → Int32) × Int32
  | 0 => (z, 0)
  | c + 1 => mDr1 j s c (mDraw z j s p c) ((mDraw z j s p c).1 (48 * j + (4 * s + c)) * p / 100)
def mDec (z : Nat → Int32) (a b : Nat) : Nat → Nat → Int32
  | 0 => z
  | k + 1 => upd (upd (mDec z a b k) (48 * b + k) (mDec z a b k (48 * b + k) + mDec z a b k (48 * a + k))) (48 * a + k) 0
def mTn (z : Nat → Int32) (j s : Nat) : Nat → Nat → Int32
  | 0 => z
  | c + 1 => upd (upd (mTn z j s c) (48 * j + (4 * s + c)) (mTn z j s c (48 * j + (4 * (11 - s) + c)))) (48 * j + (4 * (11 - s) + c)) (mTn z j s c (48 * j + (4 * s + c)))
def mTurn (z : Nat → Int32) (j : Nat) : Nat → Nat → Int32
  | 0 => z
  | s + 1 => mTn (mTurn z j s) j s 4
def mSum (z : Nat → Int32) (j a c : Nat) : Nat → Int32 := qS (fun i => qV z j (4 * (a + i) + c))
def mLay (z : Nat → Int32) (j a c : Nat) (n m : Int32) : Nat → Nat → Int32
  | 0 => z
  | i + 1 => upd (mLay z j a c n m i) (48 * j + (4 * (a + i) + c)) (n / m + (if nI i < n - n / m * m then 1 else 0))
def mStir (z : Nat → Int32) (j a b : Nat) : Nat → (Nat → Int32) × Int32
  | 0 => (z, 0)
  | c + 1 => (mLay (mStir z j a b c).1 j a c (mSum (mStir z j a b c).1 j a c (b - a + 1)) (nI (b - a + 1)) (b - a + 1), (mStir z j a b c).2 + mSum (mStir z j a b c).1 j a c (b - a + 1))
/-- the purest slice -/
def zOI (o : Option Nat) : Int32 := match o with
  | none => -1
  | some b => nI b
def mBet (z : Nat → Int32) (j c k : Nat) (o : Option Nat) : Prop := 0 < qV z j (4 * k + c) ∧ (o = none ∨ ∃ b, o = some b ∧ qV z j (4 * b + c) * qIn (qV z j) k < qV z j (4 * k + c) * qIn (qV z j) b)
noncomputable def mPu (z : Nat → Int32) (j c : Nat) : Nat → Option Nat
  | 0 => none
  | k + 1 => @ite _ (mBet z j c k (mPu z j c k)) (Classical.propDecidable _) (some k) (mPu z j c k)
theorem m_pu_yes {z : Nat → Int32} {j c k : Nat} (h : mBet z j c k (mPu z j c k)) : mPu z j c (k + 1) = some k := by
  rw [mPu]
  exact if_pos h
theorem m_pu_no {z : Nat → Int32} {j c k : Nat} (h : ¬ mBet z j c k (mPu z j c k)) : mPu z j c (k + 1) = mPu z j c k := by
  rw [mPu]
  exact if_neg h
theorem z_nm1 {b : Nat} (h : b < 2 ^ 31) : ¬ nI b = -1 := by
  intro q
  have h1 := congrArg Int32.toInt q
  rw [nI_toInt h] at h1
  have h2 : (-1 : Int32).toInt = -1 := by decide
  omega
theorem z_in {k n : Nat} (h : k ≤ n ∧ n < 2 ^ 31) : 0 ≤ nI k ∧ nI k ≤ nI n := ⟨nI_pos' (by omega), nI_le h.1 h.2⟩
/-! the reference's reading of the text: (step, portions, told, read) -/
abbrev mT : Type := Nat × Nat × Int32 × (Nat → Int32)
def mEnd (q : mT) : mT := (q.1, q.2.1 + 1, q.2.2.1 + q.2.2.2 (3 * q.2.1), upd (upd q.2.2.2 (3 * (q.2.1 + 1)) 0) (3 * (q.2.1 + 1) + 2) 0)
def mNx (q : mT) (x : Int32) : Int32 := 10 * q.2.2.2 (3 * q.2.1) + x - 48
def mSx (q : mT) (x : Int32) : Int32 := 10 * q.2.2.2 (3 * q.2.1 + 2) + x - 48
def mNum (q : mT) (x : Int32) : Bool × mT :=
  if (48 ≤ x ∧ x ≤ 57) ∧ (1 ≤ mNx q x ∧ mNx q x ≤ 999) then (true, 1, q.2.1, q.2.2.1, upd q.2.2.2 (3 * q.2.1) (mNx q x)) else (false, q.1, q.2.1, q.2.2.1, upd q.2.2.2 (3 * q.2.1) (q.2.2.2 (3 * q.2.1)))
def mLet (q : mT) (x : Int32) : Bool × mT :=
  if 97 ≤ x ∧ x ≤ 100 then (true, 2, q.2.1, q.2.2.1, upd q.2.2.2 (3 * q.2.1 + 1) (x - 97)) else (false, q.1, q.2.1, q.2.2.1, upd q.2.2.2 (3 * q.2.1 + 1) (x - 97))
def mPls (q : mT) (x : Int32) : Bool × mT := if x = 43 then (true, 0, (mEnd q).2) else (false, q)
def mAt (q : mT) (x : Int32) : Bool × mT := if x = 64 then (true, 3, q.2) else (false, q)
def mSli (q : mT) (x : Int32) : Bool × mT :=
  if (48 ≤ x ∧ x ≤ 57) ∧ mSx q x < 12 ∧ (q.1 = 3 ∨ q.2.2.2 (3 * q.2.1 + 2) = 1) then (true, 4, q.2.1, q.2.2.1, upd q.2.2.2 (3 * q.2.1 + 2) (mSx q x)) else (false, q.1, q.2.1, q.2.2.1, upd q.2.2.2 (3 * q.2.1 + 2) (q.2.2.2 (3 * q.2.1 + 2)))
/-- the one, and if it doesn't take the sign, the other -/
def mOr (r : Bool × mT) (f : mT → Bool × mT) : Bool × mT := if r.1 = true then r else f r.2
def mTk (q : mT) (x : Int32) : Bool × mT :=
  if q.1 = 0 then mNum q x else if q.1 = 1 then mOr (mNum q x) (fun r => mLet r x) else if q.1 = 2 then mOr (mAt q x) (fun r => mPls r x) else if q.1 = 3 then mSli q x else mOr (mSli q x) (fun r => mPls r x)
/-- read from sign k on, n signs at most: the place, and the state behind -/
def mRd (tx : Nat → Int32) : Nat → Nat → mT → Nat × mT
  | 0, k, q => (k, q)
  | n + 1, k, q => if (mTk q (tx k)).1 = true then mRd tx n (k + 1) (mTk q (tx k)).2 else (k, (mTk q (tx k)).2)
def mQ0 (rd : Nat → Int32) : mT := (0, 0, 0, upd (upd rd 0 0) 2 0)
def mText (tx : Nat → Int32) (ln : Nat) (rd : Nat → Int32) : Nat × mT := mRd tx ln 0 (mQ0 rd)
/-- the portions brought -/
def mLoad (z rd : Nat → Int32) (j : Nat) : Nat → Nat → Int32
  | 0 => z
  | k + 1 => mBring (mLoad z rd j k) j (rd (3 * k + 2)).toNatClampNeg (rd (3 * k + 1)).toNatClampNeg (rd (3 * k))
/-- a hash over the first n -/
def qMix (h : Int64) (f : Nat → Int32) : Nat → Int64
  | 0 => h
  | n + 1 => 31 * qMix h f n + (f n).toInt64
theorem z_cases5 {k : Nat} (h : k < 5) : k = 0 ∨ k = 1 ∨ k = 2 ∨ k = 3 ∨ k = 4 := by omega
theorem m_num_po (q : mT) (x : Int32) : (mNum q x).2.2.1 = q.2.1 := by unfold mNum; split <;> rfl
theorem m_at_po (q : mT) (x : Int32) : (mAt q x).2.2.1 = q.2.1 := by unfold mAt; split <;> rfl
theorem m_sli_po (q : mT) (x : Int32) : (mSli q x).2.2.1 = q.2.1 := by unfold mSli; split <;> rfl
theorem m_num_st {q : mT} {x : Int32} (h : ¬ (mNum q x).1 = true) : (mNum q x).2.1 = q.1 := by
  unfold mNum at h ⊢
  split
  · rename_i c; rw [if_pos c] at h; exact absurd rfl h
  · rfl
theorem m_num_in {q : mT} {x : Int32} (h : (mNum q x).1 = true) : (mNum q x).2.1 = 1 := by
  unfold mNum at h ⊢
  split
  · rfl
  · rename_i c; rw [if_neg c] at h; cases h
theorem m_let_in {q : mT} {x : Int32} (h : (mLet q x).1 = true) : (mLet q x).2.1 = 2 ∧ (mLet q x).2.2.1 = q.2.1 := by
  unfold mLet at h ⊢
  split
  · exact ⟨rfl, rfl⟩
  · rename_i c; rw [if_neg c] at h; cases h
theorem m_at_in {q : mT} {x : Int32} (h : (mAt q x).1 = true) : (mAt q x).2.1 = 3 := by
  unfold mAt at h ⊢
  split
  · rfl
  · rename_i c; rw [if_neg c] at h; cases h
theorem m_at_no {q : mT} {x : Int32} (h : ¬ (mAt q x).1 = true) : (mAt q x).2 = q := by
  unfold mAt at h ⊢
  split
  · rename_i c; rw [if_pos c] at h; exact absurd rfl h
  · rfl
theorem m_pls_in {q : mT} {x : Int32} (h : (mPls q x).1 = true) : (mPls q x).2.1 = 0 ∧ (mPls q x).2.2.1 = q.2.1 + 1 := by
  unfold mPls at h ⊢
  split
  · exact ⟨rfl, rfl⟩
  · rename_i c; rw [if_neg c] at h; cases h
theorem m_sli_in {q : mT} {x : Int32} (h : (mSli q x).1 = true) : (mSli q x).2.1 = 4 := by
  unfold mSli at h ⊢
  split
  · rfl
  · rename_i c; rw [if_neg c] at h; cases h
theorem m_sli_no {q : mT} {x : Int32} (h : ¬ (mSli q x).1 = true) : (mSli q x).2.1 = q.1 := by
  unfold mSli at h ⊢
  split
  · rename_i c; rw [if_pos c] at h; exact absurd rfl h
  · rfl
/-- a sign taken: the places of the row of portions -/
theorem m_tk_inv {q : mT} {x : Int32} {k : Nat} (hq : q.1 < 5 ∧ 3 * q.2.1 + q.1 ≤ k) (h : (mTk q x).1 = true) : (mTk q x).2.1 < 5 ∧ 3 * (mTk q x).2.2.1 + (mTk q x).2.1 ≤ k + 1 := by
  obtain ⟨h5, hk⟩ := hq
  unfold mTk at h ⊢
  split
  · rename_i c; rw [if_pos c] at h
    rw [m_num_in h, m_num_po]; omega
  rename_i c0; rw [if_neg c0] at h
  split
  · rename_i c; rw [if_pos c] at h
    unfold mOr at h ⊢
    split
    · rename_i c2; rw [m_num_in c2, m_num_po]; omega
    · rename_i c2; rw [if_neg c2] at h
      rw [(m_let_in h).1, (m_let_in h).2, m_num_po]; omega
  rename_i c1; rw [if_neg c1] at h
  split
  · rename_i c; rw [if_pos c] at h
    unfold mOr at h ⊢
    split
    · rename_i c2; rw [m_at_in c2, m_at_po]; omega
    · rename_i c2; rw [if_neg c2] at h
      rw [(m_pls_in h).1, (m_pls_in h).2, m_at_po]; omega
  rename_i c2; rw [if_neg c2] at h
  split
  · rename_i c; rw [if_pos c] at h
    rw [m_sli_in h, m_sli_po]; omega
  · rename_i c; rw [if_neg c] at h
    unfold mOr at h ⊢
    split
    · rename_i c3; rw [m_sli_in c3, m_sli_po]; omega
    · rename_i c3; rw [if_neg c3] at h
      rw [(m_pls_in h).1, (m_pls_in h).2, m_sli_po]; omega
theorem m_num_lt {q : mT} {x : Int32} (h : q.1 < 5) : (mNum q x).2.1 < 5 := by
  unfold mNum
  split
  · exact (by decide : (1 : Nat) < 5)
  · exact h
theorem m_let_lt {q : mT} {x : Int32} (h : q.1 < 5) : (mLet q x).2.1 < 5 := by
  unfold mLet
  split
  · exact (by decide : (2 : Nat) < 5)
  · exact h
theorem m_pls_lt {q : mT} {x : Int32} (h : q.1 < 5) : (mPls q x).2.1 < 5 := by
  unfold mPls
  split
  · exact (by decide : (0 : Nat) < 5)
  · exact h
theorem m_at_lt {q : mT} {x : Int32} (h : q.1 < 5) : (mAt q x).2.1 < 5 := by
  unfold mAt
  split
  · exact (by decide : (3 : Nat) < 5)
  · exact h
theorem m_sli_lt {q : mT} {x : Int32} (h : q.1 < 5) : (mSli q x).2.1 < 5 := by
  unfold mSli
  split
  · exact (by decide : (4 : Nat) < 5)
  · exact h
theorem m_or_lt {r : Bool × mT} {f : mT → Bool × mT} (h : r.2.1 < 5) (hf : ∀ q : mT, q.1 < 5 → (f q).2.1 < 5) : (mOr r f).2.1 < 5 := by
  unfold mOr
  split
  · exact h
  · exact hf _ h
theorem m_tk_lt {q : mT} {x : Int32} (h : q.1 < 5) : (mTk q x).2.1 < 5 := by
  unfold mTk
  split
  · exact m_num_lt h
  split
  · exact m_or_lt (m_num_lt h) (fun _ w => m_let_lt w)
  split
  · exact m_or_lt (m_at_lt h) (fun _ w => m_pls_lt w)
  split
  · exact m_sli_lt h
  · exact m_or_lt (m_sli_lt h) (fun _ w => m_pls_lt w)
theorem m_rd_le (tx : Nat → Int32) : ∀ n k q, (mRd tx n k q).1 ≤ k + n
  | 0, k, q => Nat.le_refl k
  | n + 1, k, q => by
    rw [mRd]
    split
    · have h := m_rd_le tx n (k + 1) (mTk q (tx k)).2
      omega
    · show k ≤ k + (n + 1)
      omega
theorem m_rd_lt (tx : Nat → Int32) : ∀ n k q, q.1 < 5 → (mRd tx n k q).2.1 < 5
  | 0, k, q, h => h
  | n + 1, k, q, h => by
    rw [mRd]
    split
    · exact m_rd_lt tx n (k + 1) (mTk q (tx k)).2 (m_tk_lt h)
    · exact m_tk_lt h
theorem m_rd_inv (tx : Nat → Int32) : ∀ n k q, (q.1 < 5 ∧ 3 * q.2.1 + q.1 ≤ k) → (mRd tx n k q).1 = k + n → 3 * (mRd tx n k q).2.2.1 + (mRd tx n k q).2.1 ≤ k + n
  | 0, k, q, h, _ => h.2
  | n + 1, k, q, h, e => by
    rw [mRd] at e ⊢
    split
    · rename_i c
      rw [if_pos c] at e
      have h2 := m_rd_inv tx n (k + 1) (mTk q (tx k)).2 (m_tk_inv h c) (by rw [e]; omega)
      omega
    · rename_i c
      rw [if_neg c] at e
      have e2 : k = k + (n + 1) := e
      omega
theorem m_text_le (tx : Nat → Int32) (ln : Nat) (rd : Nat → Int32) : (mText tx ln rd).1 ≤ ln := by
  have h := m_rd_le tx ln 0 (mQ0 rd)
  rw [Nat.zero_add] at h
  exact h
theorem m_text_st (tx : Nat → Int32) (ln : Nat) (rd : Nat → Int32) : (mText tx ln rd).2.1 < 5 := m_rd_lt tx ln 0 (mQ0 rd) (show (0 : Nat) < 5 by decide)
theorem m_text_po (tx : Nat → Int32) {ln : Nat} (rd : Nat → Int32) (hln : ln ≤ 60) (h : (mText tx ln rd).1 = ln ∧ ((mText tx ln rd).2.1 = 2 ∨ (mText tx ln rd).2.1 = 4)) : (mText tx ln rd).2.2.1 ≤ 19 := by
  have h2 : 3 * (mText tx ln rd).2.2.1 + (mText tx ln rd).2.1 ≤ 0 + ln := m_rd_inv tx ln 0 (mQ0 rd) ⟨show (0 : Nat) < 5 by decide, Nat.le_refl 0⟩ (by rw [Nat.zero_add]; exact h.1)
  omega
noncomputable def qMean (g : Nat → Int32) : UInt64 := if qAll g = 0 then FP.dconst0 else FP.ddiv (FP.i2d (qDep g)) (FP.i2d (qAll g))
end
section
/-! what holds of every row stays so -/
theorem g_nn {f : Nat → Int} : ∀ {n : Nat}, (∀ k, k < n → 0 ≤ f k) → 0 ≤ fb_si f n
  | 0, _ => Int.le_refl 0
  | n + 1, h => by
    have h1 := g_nn (f := f) (n := n) (fun k hk => h k (by omega))
    have h2 := h n (Nat.lt_succ_self n)
    rw [fb_si_succ]
    omega
theorem g_part {f : Nat → Int} {i : Nat} : ∀ {n : Nat}, (∀ k, k < n → 0 ≤ f k) → i < n → f i ≤ fb_si f n
  | 0, _, h => absurd h (Nat.not_lt_zero i)
  | n + 1, h, hi => by
    rw [fb_si_succ]
    have h1 := g_nn (f := f) (n := n) (fun k hk => h k (by omega))
    by_cases e : i = n
    · subst e; omega
    · have h2 := g_part (f := f) (i := i) (n := n) (fun k hk => h k (by omega)) (by omega)
      have h3 := h n (Nat.lt_succ_self n)
      omega
theorem g_four (f : Nat → Int) : ∀ n, fb_si f (4 * n) = fb_si (fun s => fb_si (fun c => f (4 * s + c)) 4) n
  | 0 => rfl
  | n + 1 => by
    have h := fb_si_split f (4 * n) 4
    rw [show 4 * (n + 1) = 4 * n + 4 from by omega, h, g_four f n]
    rfl
theorem g_qS {f : Nat → Int32} : ∀ {n : Nat}, (∀ k, k < n → 0 ≤ (f k).toInt) → fb_si (fun k => (f k).toInt) n ≤ 1000000000 → (qS f n).toInt = fb_si (fun k => (f k).toInt) n
  | 0, _, _ => by show (0 : Int32).toInt = 0; decide
  | n + 1, h, hb => by
    have h1 : fb_si (fun k => (f k).toInt) (n + 1) = fb_si (fun k => (f k).toInt) n + (f n).toInt := rfl
    have hn := h n (Nat.lt_succ_self n)
    have h0 : 0 ≤ fb_si (fun k => (f k).toInt) n := g_nn (fun k hk => h k (by omega))
    have ih := g_qS (f := f) (n := n) (fun k hk => h k (by omega)) (by omega)
    show (qS f n + f n).toInt = _
    rw [fb_addI (by rw [ih]; omega) (by rw [ih]; omega), ih, h1]
theorem g_nI {x : Int32} (h : 0 ≤ x.toInt) : x = nI x.toInt.toNat := by
  have h2 := (fb_rng x).2
  apply Int32.toInt_inj.mp
  rw [nI_toInt (by omega)]
  omega
theorem g_toN {n : Nat} (h : n < 2 ^ 31) : (nI n).toInt.toNat = n := by rw [nI_toInt h]; rfl
theorem g_pos {z : Nat → Int32} (h : mGood z) {j s c : Nat} (hj : j < 3) (hs : s < 12) (hc : c < 4) : 0 ≤ (z (48 * j + (4 * s + c))).toInt := h.1 _ (by omega)
theorem g_in {z : Nat → Int32} {j s : Nat} (h : mGood z) (hj : j < 3) (hs : s < 12) : (qIn (qV z j) s).toInt = fb_si (fun c => (z (48 * j + (4 * s + c))).toInt) 4 ∧ 0 ≤ (qIn (qV z j) s).toInt ∧ (qIn (qV z j) s).toInt ≤ 5000 := by
  have h1 : ∀ k, k < 48 → 0 ≤ (z (48 * j + k)).toInt := fun k hk => h.1 _ (by omega)
  have h2 := h.2.1 j hj
  have h3 : fb_si (fun k => (z (48 * j + k)).toInt) 48 = fb_si (fun s => fb_si (fun c => (z (48 * j + (4 * s + c))).toInt) 4) 12 := g_four (fun k => (z (48 * j + k)).toInt) 12
  have h4 : ∀ t, t < 12 → 0 ≤ fb_si (fun c => (z (48 * j + (4 * t + c))).toInt) 4 := fun t ht => g_nn (fun c hc => h.1 _ (by omega))
  have h5 : fb_si (fun c => (z (48 * j + (4 * s + c))).toInt) 4 ≤ fb_si (fun s => fb_si (fun c => (z (48 * j + (4 * s + c))).toInt) 4) 12 := g_part (f := fun s => fb_si (fun c => (z (48 * j + (4 * s + c))).toInt) 4) h4 hs
  have h6 : (qIn (qV z j) s).toInt = fb_si (fun c => (z (48 * j + (4 * s + c))).toInt) 4 := g_qS (f := fun c => qV z j (4 * s + c)) (fun c hc => h.1 _ (by omega)) (by show fb_si (fun c => (z (48 * j + (4 * s + c))).toInt) 4 ≤ _; omega)
  have h7 := h4 s hs
  exact ⟨h6, by rw [h6]; exact h7, by rw [h6]; omega⟩
/-- the numbers of a fall, as whole numbers -/
theorem g_fac {z : Nat → Int32} {j s : Nat} (h : mGood z) (hj : j < 3) (hs : s < 12) : ∃ d : Nat, 1000 ≤ d ∧ d < 2 ^ 30 ∧ 1000 + qIn (qV z j) s * z 144 / 10 = nI d := by
  obtain ⟨-, h1, h2⟩ := g_in h hj hs
  obtain ⟨h3, h4⟩ := h.2.2.1
  generalize ha : (qIn (qV z j) s).toInt.toNat = a
  generalize hb : (z 144).toInt.toNat = b
  have ea : qIn (qV z j) s = nI a := by rw [← ha]; exact g_nI h1
  have eb : z 144 = nI b := by rw [← hb]; exact g_nI h3
  have a5 : a ≤ 5000 := by omega
  have b5 : b ≤ 1000 := by omega
  have ab : a * b ≤ 5000 * 1000 := Nat.mul_le_mul a5 b5
  refine ⟨1000 + a * b / 10, by omega, by omega, ?_⟩
  rw [ea, eb, pk_mul, show (10 : Int32) = nI 10 from rfl, pk_div (by omega) (by omega) (by omega), show (1000 : Int32) = nI 1000 from rfl, nI_add]
theorem m_div {z : Nat → Int32} {j s : Nat} (h : mGood z) (hj : j < 3) (hs : s < 12) : ¬ 1000 + qIn (qV z j) s * z 144 / 10 = 0 := by
  obtain ⟨d, h1, h2, e⟩ := g_fac h hj hs
  rw [e]
  exact nI_ne0 (by omega) (by omega)
theorem g_mfac {z : Nat → Int32} {j s : Nat} (h : mGood z) (hj : j < 3) (hs : s < 12) : ∃ f : Nat, f ≤ 1000 ∧ mFac z j s = nI f := by
  obtain ⟨d, h1, h2, e⟩ := g_fac h hj hs
  refine ⟨1000000 / d, ?_, ?_⟩
  · exact (Nat.div_le_iff_le_mul_add_pred (by omega)).mpr (by omega)
  · show 1000000 / (1000 + qIn (qV z j) s * z 144 / 10) = _
    rw [e, show (1000000 : Int32) = nI 1000000 from rfl, pk_div (by omega) (by omega) (by omega)]
theorem g_wish {n v r f : Nat} (hn : n ≤ 5000) (hv : v ≤ 100) (hf : f ≤ 1000) (hr : r < 2 ^ 31) : ∃ w : Nat, w ≤ n ∧ qWish (nI v) (nI r) (nI n) (nI f) = nI w ∧ (w = 0 ↔ (n = 0 ∨ (n * v * f / 100000 = 0 ∧ n ≤ r))) := by
  have e1 : n * v * f ≤ 5000 * 100 * 1000 := Nat.mul_le_mul (Nat.mul_le_mul hn hv) hf
  have e2 : nI n * nI v * nI f / 100000 = nI (n * v * f / 100000) := by
    rw [pk_mul, pk_mul, show (100000 : Int32) = nI 100000 from rfl, pk_div (by omega) (by omega) (by omega)]
  have e3 : n * v * f / 100000 ≤ 5000 := by omega
  generalize hm : n * v * f / 100000 = m at e2 e3 ⊢
  unfold qWish
  rw [e2]
  have z0 : (nI m = 0) ↔ m = 0 := by
    rw [show (0 : Int32) = nI 0 from rfl]
    exact nI_eq (by omega) (by omega)
  by_cases c : m = 0 ∧ r < n
  · have c2 : nI m = 0 ∧ nI r < nI n := ⟨z0.mpr c.1, (nI_ltI (by omega) (by omega)).mpr c.2⟩
    rw [if_pos c2]
    by_cases c3 : 1 < n
    · rw [if_pos (show (1 : Int32) < nI n from (nI_ltI (a := 1) (by omega) (by omega)).mpr c3)]
      exact ⟨1, by omega, rfl, by omega⟩
    · rw [if_neg (show ¬ (1 : Int32) < nI n from fun q => c3 ((nI_ltI (a := 1) (by omega) (by omega)).mp q))]
      exact ⟨n, by omega, rfl, by omega⟩
  · have c2 : ¬ (nI m = 0 ∧ nI r < nI n) := fun q => c ⟨z0.mp q.1, (nI_ltI (by omega) (by omega)).mp q.2⟩
    rw [if_neg c2]
    by_cases c3 : m < n
    · rw [if_pos ((nI_ltI (by omega) (by omega)).mpr c3)]
      exact ⟨m, by omega, rfl, by omega⟩
    · rw [if_neg (fun q => c3 ((nI_ltI (by omega) (by omega)).mp q))]
      exact ⟨n, by omega, rfl, by omega⟩
theorem g_roomM {p a : Nat} (hp : p ≤ 5000) (ha : a ≤ 5000) : qRoomM (nI p) (nI a) = nI (p - a) := by
  unfold qRoomM
  by_cases c : p < a
  · rw [if_pos (pk_sneg (by omega) c), show p - a = 0 by omega]; rfl
  · rw [if_neg (by rw [pk_sub (by omega)]; exact nI_pos (by omega)), pk_sub (by omega)]
theorem g_room {p a : Nat} (hp : p ≤ 5000) (ha : a ≤ 5000) : qRoom (nI p) (nI a) = nI (p - a) := by
  unfold qRoom
  by_cases c : a < p
  · rw [if_pos (by rw [pk_sub (by omega)]; exact (nI_ltI (a := 0) (by omega) (by omega)).mpr (by omega)), pk_sub (by omega)]
  · rw [if_neg, show p - a = 0 by omega]
    · rfl
    · intro q
      rw [Int32.lt_iff_toInt_lt, pk_sub_toInt (by omega) (by omega)] at q
      have h0 : (0 : Int32).toInt = 0 := by decide
      omega
/-- what falls is at most what is there -/
theorem g_drop {z : Nat → Int32} {j s c f : Nat} (h : mGood z) (hj : j < 3) (hs : s < 11) (hc : c < 4) (hf : f ≤ 1000) : ∃ x : Nat, (x : Int) ≤ (z (48 * j + (4 * s + c))).toInt ∧ x ≤ 5000 ∧ mDrop z j s c (nI f) = nI x := by
  have hp := g_pos h hj (show s < 12 by omega) hc
  have h1 : ∀ k, k < 48 → 0 ≤ (z (48 * j + k)).toInt := fun k hk => h.1 _ (by omega)
  have h2 := h.2.1 j hj
  have h3 : (z (48 * j + (4 * s + c))).toInt ≤ fb_si (fun k => (z (48 * j + k)).toInt) 48 := g_part (f := fun k => (z (48 * j + k)).toInt) h1 (by omega)
  have hv := h.2.2.2.2.2.2.1 c hc
  have hr := h.2.2.2.2.2.1
  have hk := h.2.2.2.1
  obtain ⟨-, h4, h5⟩ := g_in h hj (show s + 1 < 12 by omega)
  generalize hn : (z (48 * j + (4 * s + c))).toInt.toNat = n
  generalize hv2 : (z (148 + c)).toInt.toNat = v
  generalize hr2 : (z 147).toInt.toNat = r
  generalize hk2 : (z 145).toInt.toNat = k
  generalize ha2 : (qIn (qV z j) (s + 1)).toInt.toNat = a
  obtain ⟨w, hw1, hw2, -⟩ := g_wish (n := n) (v := v) (r := r) (f := f) (by omega) (by omega) hf (by omega)
  have e1 : mWish z j s c (nI f) = nI w := by
    rw [← hw2]
    show qWish (z (148 + c)) (z 147) (z (48 * j + (4 * s + c))) (nI f) = _
    rw [← hn, ← hv2, ← hr2, ← g_nI hp, ← g_nI (by omega), ← g_nI (by omega)]
  have e2 : mRoom z j (s + 1) = nI (k - a) := by
    rw [← g_roomM (p := k) (a := a) (by omega) (by omega)]
    show qRoomM (z 145) (qIn (qV z j) (s + 1)) = _
    rw [← hk2, ← ha2, ← g_nI (by omega), ← g_nI h4]
  unfold mDrop
  rw [e1, e2]
  by_cases c2 : w < k - a
  · rw [if_pos ((nI_ltI (by omega) (by omega)).mpr c2)]
    exact ⟨w, by omega, by omega, rfl⟩
  · rw [if_neg (fun q => c2 ((nI_ltI (by omega) (by omega)).mp q))]
    exact ⟨k - a, by omega, by omega, rfl⟩
theorem g_move (F : Nat → Int) (x : Int) {n p p2 : Nat} (hp : p < n) (hp2 : p2 < n) (hne : p2 ≠ p) : fb_si (fun k => if k = p2 then F p2 + x else if k = p then F p - x else F k) n = fb_si F n := by
  have h1 := fb_si_upd (fun k => if k = p then F p - x else F k) (F p2 + x) hp2
  have h2 := fb_si_upd F (F p - x) hp
  rw [h1, h2]
  show fb_si F n - F p + (F p - x) - (if p2 = p then F p - x else F p2) + (F p2 + x) = _
  rw [if_neg hne]
  omega
theorem g_mput {z : Nat → Int32} {y : Int32} {j s c x : Nat} (h : mGood z) (hj : j < 3) (hs : s < 11) (hc : c < 4) (hx : (x : Int) ≤ (z (48 * j + (4 * s + c))).toInt) (hx5 : x ≤ 5000) : mGood (mPut j s c (z, y) (nI x)).1 := by
  have hp := g_pos h hj (show s < 12 by omega) hc
  have hp2 := g_pos h hj (show s + 1 < 12 by omega) hc
  have h1 : ∀ k, k < 48 → 0 ≤ (z (48 * j + k)).toInt := fun k hk => h.1 _ (by omega)
  have h2 := h.2.1 j hj
  have h3 : (z (48 * j + (4 * s + c))).toInt ≤ fb_si (fun k => (z (48 * j + k)).toInt) 48 := g_part (f := fun k => (z (48 * j + k)).toInt) h1 (by omega)
  have h4 : (z (48 * j + (4 * (s + 1) + c))).toInt ≤ fb_si (fun k => (z (48 * j + k)).toInt) 48 := g_part (f := fun k => (z (48 * j + k)).toInt) h1 (by omega)
  have hxi : (nI x).toInt = (x : Int) := nI_toInt (by omega)
  have e1 : (z (48 * j + (4 * s + c)) - nI x).toInt = (z (48 * j + (4 * s + c))).toInt - x := by rw [fb_subI (by omega) (by omega), hxi]
  have e2 : (z (48 * j + (4 * (s + 1) + c)) + nI x).toInt = (z (48 * j + (4 * (s + 1) + c))).toInt + x := by rw [fb_addI (by omega) (by omega), hxi]
  have ev : ∀ k, ((mPut j s c (z, y) (nI x)).1 k).toInt = if k = 48 * j + (4 * (s + 1) + c) then (z (48 * j + (4 * (s + 1) + c))).toInt + x else if k = 48 * j + (4 * s + c) then (z (48 * j + (4 * s + c))).toInt - x else (z k).toInt := by
    intro k
    show (upd (upd z (48 * j + (4 * s + c)) (z (48 * j + (4 * s + c)) - nI x)) (48 * j + (4 * (s + 1) + c)) ((upd z (48 * j + (4 * s + c)) (z (48 * j + (4 * s + c)) - nI x)) (48 * j + (4 * (s + 1) + c)) + nI x) k).toInt = _
    unfold upd
    rw [if_neg (show ¬ 48 * j + (4 * (s + 1) + c) = 48 * j + (4 * s + c) by omega)]
    by_cases a : k = 48 * j + (4 * (s + 1) + c)
    · rw [if_pos a, if_pos a, e2]
    · rw [if_neg a, if_neg a]
      by_cases b : k = 48 * j + (4 * s + c)
      · rw [if_pos b, if_pos b, e1]
      · rw [if_neg b, if_neg b]
  have out : ∀ k, 144 ≤ k → (mPut j s c (z, y) (nI x)).1 k = z k := by
    intro k hk
    apply Int32.toInt_inj.mp
    rw [ev, if_neg (by omega), if_neg (by omega)]
  refine ⟨fun k hk => ?_, fun j2 hj2 => ?_, ?_, ?_, ?_, ?_, fun c2 hc2 => ?_, ?_⟩
  · rw [ev]
    have hk0 := h.1 k hk
    split
    · omega
    · split <;> omega
  · by_cases ej : j2 = j
    · subst ej
      rw [← g_move (fun k => (z (48 * j2 + k)).toInt) (x : Int) (n := 48) (p := 4 * s + c) (p2 := 4 * (s + 1) + c) (by omega) (by omega) (by omega)] at h2
      refine Int.le_trans (Int.le_of_eq (fb_si_cong (fun k hk => ?_))) h2
      show ((mPut j2 s c (z, y) (nI x)).1 (48 * j2 + k)).toInt = _
      rw [ev]
      by_cases a : k = 4 * (s + 1) + c
      · rw [if_pos (by omega), if_pos a]
      · rw [if_neg (by omega), if_neg a]
        by_cases b : k = 4 * s + c
        · rw [if_pos (by omega), if_pos b]
        · rw [if_neg (by omega), if_neg b]
    · refine Int.le_trans (Int.le_of_eq (fb_si_cong (fun k hk => ?_))) (h.2.1 j2 hj2)
      show ((mPut j s c (z, y) (nI x)).1 (48 * j2 + k)).toInt = _
      rw [ev, if_neg (by omega), if_neg (by omega)]
  · rw [out 144 (by omega)]; exact h.2.2.1
  · rw [out 145 (by omega)]; exact h.2.2.2.1
  · rw [out 146 (by omega)]; exact h.2.2.2.2.1
  · rw [out 147 (by omega)]; exact h.2.2.2.2.2.1
  · rw [out (148 + c2) (by omega)]; exact h.2.2.2.2.2.2.1 c2 hc2
  · rw [out 160 (by omega)]; exact h.2.2.2.2.2.2.2
theorem g_fa {z : Nat → Int32} {j s f : Nat} (h : mGood z) (hj : j < 3) (hs : s < 11) (hf : f ≤ 1000) : ∀ c, c ≤ 4 → mGood (mFa z j s (nI f) c).1
  | 0, _ => h
  | c + 1, hc => by
    have ih := g_fa h hj hs hf c (by omega)
    obtain ⟨x, h1, h2, e⟩ := g_drop ih hj hs (show c < 4 by omega) hf
    show mGood (mPut j s c (mFa z j s (nI f) c) (mDrop (mFa z j s (nI f) c).1 j s c (nI f))).1
    rw [e]
    exact g_mput (y := (mFa z j s (nI f) c).2) ih hj hs (by omega) h1 h2
theorem g_fall {z : Nat → Int32} {j s : Nat} (h : mGood z) (hj : j < 3) (hs : s < 11) : mGood (mFall z j s).1 := by
  obtain ⟨f, h1, e⟩ := g_mfac h hj (show s < 12 by omega)
  unfold mFall
  rw [e]
  exact g_fa h hj hs h1 4 (Nat.le_refl 4)
theorem m_good_st {z : Nat → Int32} {j : Nat} (h : mGood z) (hj : j < 3) : ∀ {i : Nat}, i ≤ 11 → mGood (mSt z j i).1
  | 0, _ => h
  | i + 1, hi => g_fall (m_good_st h hj (show i ≤ 11 by omega)) hj (by omega)
theorem m_good_run {z : Nat → Int32} (h : mGood z) : ∀ k : Nat, mGood (mRun z k).1
  | 0 => h
  | k + 1 => m_good_st (m_good_run h k) (Nat.mod_lt k (by decide)) (Nat.le_refl 11)
theorem m_good_steps {z : Nat → Int32} {j : Nat} (h : mGood z) (hj : j < 3) : ∀ i : Nat, mGood (mSteps z j i)
  | 0 => h
  | i + 1 => m_good_st (m_good_steps h hj i) hj (Nat.le_refl 11)
theorem m_put_out {j s c : Nat} (hj : j < 3) (hs : s < 11) (hc : c < 4) (q : (Nat → Int32) × Int32) (x : Int32) (k : Nat) (hk : 144 ≤ k) : (mPut j s c q x).1 k = q.1 k := by
  show upd (upd q.1 _ _) _ _ k = q.1 k
  unfold upd
  rw [if_neg (by omega), if_neg (by omega)]
theorem m_fa_out {z : Nat → Int32} {j s : Nat} {f : Int32} (hj : j < 3) (hs : s < 11) (k : Nat) (hk : 144 ≤ k) : ∀ c, c ≤ 4 → (mFa z j s f c).1 k = z k
  | 0, _ => rfl
  | c + 1, hc => (m_put_out hj hs (by omega) _ _ k hk).trans (m_fa_out hj hs k hk c (by omega))
theorem m_st_out {z : Nat → Int32} {j : Nat} (hj : j < 3) (k : Nat) (hk : 144 ≤ k) : ∀ i, i ≤ 11 → (mSt z j i).1 k = z k
  | 0, _ => rfl
  | i + 1, hi => (m_fa_out hj (show 10 - i < 11 by omega) k hk 4 (Nat.le_refl 4)).trans (m_st_out hj k hk i (by omega))
theorem m_keep {z : Nat → Int32} {j : Nat} (hj : j < 3) (k : Nat) (h : 162 ≤ k) : (mStep z j).1 k = z k := m_st_out hj k (by omega) 11 (Nat.le_refl 11)
theorem m_keep_steps {z : Nat → Int32} {j : Nat} (hj : j < 3) : ∀ (i : Nat) (k : Nat), 162 ≤ k → mSteps z j i k = z k
  | 0, _, _ => rfl
  | i + 1, k, h => (m_keep hj k h).trans (m_keep_steps hj i k h)
end
section
set_option maxRecDepth 100000 in
set_option maxHeartbeats 4000000 in
theorem metX3_factorOf (l : Launch) (D : va_G) (ac : Nat → ClassId) (h1 : Nat) (v0 : Nat) (w0 : Nat) (v : Nat → Int32) (w : Nat → Int32) (a : Int32)  : Met l yX3_factorOf wsX3_factorOf ({ frames := 1, cells := 0, slots := 0, locals := 14 } : Room) (va_Pc [.ref (h1), .int (a)] (zW D ac [(h1, .inr (3, [.ref (v0), .ref (w0)])), (v0, .inl (ac 0, 4, .inl (v))), (w0, .inl (ac 0, 4, .inl (w)))])) (zRi (qFac (v 0) a)) 0 0 (fun _ => False) := by
  refine z_ro (cc := cX3_factorOf) (maxL := 2) (ret := (some .int)) (lv := [(0, .ref (h1)), (1, .int (a))]) (by decide) rfl (Nat.le_of_ble_eq_true rfl) rfl ?_
  intro p e s m args below meth c ls hx hb hr hml hown hts hlocks hl hK hP
  refine lv_ldc (own := RX3) hx hb hown (hts (.constant RX3 24 (1000000)) (by decide +kernel)) dX3_factorOf_0 ?_
  refine lv_iconst (v := 1) hx hb dX3_factorOf_2 (by decide) ?_
  refine lv_sipush (v := 1000) hx hb dX3_factorOf_3 (by decide) ?_
  refine lv_iload_n hx hb dX3_factorOf_6 rfl (lv_at hl 1 rfl) ?_
  refine lv_aload_n hx hb dX3_factorOf_7 rfl (lv_at hl 0 rfl) ?_
  refine va_get (ci := 3) (v := .ref (v0)) (C := RX3) (T := TX3) (N := 2) hx hb hts (by decide +kernel) hown hK hP 0 rfl rfl 0 (by decide) (hts (.fieldLink RX3 9 "SettlingJars$Settings" "values" "[I") (by decide +kernel)) (fun _ h9 => h9) rfl dX3_factorOf_8 ?_
  refine lv_iconst (v := 0) hx hb dX3_factorOf_11 (by decide) ?_
  refine z_iald hx hb hK hP 1 rfl (0) (rfl) (by omega) (by decide) dX3_factorOf_12 ?_
  refine lv_imul hx hb dX3_factorOf_13 ?_
  refine lv_bipush (v := 10) hx hb dX3_factorOf_14 (by decide) ?_
  refine lv_idiv hx hb dX3_factorOf_16 (by decide) ?_
  refine lv_iadd hx hb dX3_factorOf_17 ?_
  refine va_mmax hx hb (by rw [hml]; exact hl.1.symm) hown (hts (.methodLink RX3 25 Lib.Math.max.name) (by decide +kernel)) (hts (.static Lib.Math.max.name) (by decide +kernel)) (hts (.initialized "java/lang/Math") (by decide +kernel)) (hts (.code Lib.Math.max.name Lib.Math.max.code 2 (some .int)) (by decide +kernel)) (Nat.le_of_ble_eq_true rfl) (Nat.le_of_ble_eq_true rfl) (Nat.zero_le _) (Nat.zero_le _) dX3_factorOf_18 ?_
  refine lv_idiv hx hb dX3_factorOf_21 (z_fac_ne _) ?_
  exact z_iret hx hb hr hlocks (rfl) dX3_factorOf_22

set_option maxRecDepth 100000 in
set_option maxHeartbeats 4000000 in
theorem metX3_roomOver (l : Launch) (D : va_G) (ac : Nat → ClassId) (h1 : Nat) (v0 : Nat) (w0 : Nat) (v : Nat → Int32) (w : Nat → Int32) (a : Int32)  : Met l yX3_roomOver wsX3_roomOver ({ frames := 1, cells := 0, slots := 0, locals := 13 } : Room) (va_Pc [.ref (h1), .int (a)] (zW D ac [(h1, .inr (3, [.ref (v0), .ref (w0)])), (v0, .inl (ac 0, 4, .inl (v))), (w0, .inl (ac 0, 4, .inl (w)))])) (zRi (qRoom (v 1) a)) 0 0 (fun _ => False) := by
  refine z_ro (cc := cX3_roomOver) (maxL := 2) (ret := (some .int)) (lv := [(0, .ref (h1)), (1, .int (a))]) (by decide) rfl (Nat.le_of_ble_eq_true rfl) rfl ?_
  intro p e s m args below meth c ls hx hb hr hml hown hts hlocks hl hK hP
  refine lv_iconst (v := 0) hx hb dX3_roomOver_0 (by decide) ?_
  refine lv_aload_n hx hb dX3_roomOver_1 rfl (lv_at hl 0 rfl) ?_
  refine va_get (ci := 3) (v := .ref (v0)) (C := RX3) (T := TX3) (N := 2) hx hb hts (by decide +kernel) hown hK hP 0 rfl rfl 0 (by decide) (hts (.fieldLink RX3 9 "SettlingJars$Settings" "values" "[I") (by decide +kernel)) (fun _ h9 => h9) rfl dX3_roomOver_2 ?_
  refine lv_iconst (v := 1) hx hb dX3_roomOver_5 (by decide) ?_
  refine z_iald hx hb hK hP 1 rfl (1) (rfl) (by omega) (by decide) dX3_roomOver_6 ?_
  refine lv_iload_n hx hb dX3_roomOver_7 rfl (lv_at hl 1 rfl) ?_
  refine lv_isub hx hb dX3_roomOver_8 ?_
  refine va_mmax hx hb (by rw [hml]; exact hl.1.symm) hown (hts (.methodLink RX3 25 Lib.Math.max.name) (by decide +kernel)) (hts (.static Lib.Math.max.name) (by decide +kernel)) (hts (.initialized "java/lang/Math") (by decide +kernel)) (hts (.code Lib.Math.max.name Lib.Math.max.code 2 (some .int)) (by decide +kernel)) (Nat.le_of_ble_eq_true rfl) (Nat.le_of_ble_eq_true rfl) (Nat.zero_le _) (Nat.zero_le _) dX3_roomOver_9 ?_
  exact z_iret hx hb hr hlocks (rfl) dX3_roomOver_12

set_option maxRecDepth 100000 in
set_option maxHeartbeats 4000000 in
theorem metX3_isPacked (l : Launch) (D : va_G) (ac : Nat → ClassId) (h1 : Nat) (v0 : Nat) (w0 : Nat) (v : Nat → Int32) (w : Nat → Int32) (a : Int32)  : Met l yX3_isPacked wsX3_isPacked ({ frames := 0, cells := 0, slots := 0, locals := 0 } : Room) (va_Pc [.ref (h1), .int (a)] (zW D ac [(h1, .inr (3, [.ref (v0), .ref (w0)])), (v0, .inl (ac 0, 4, .inl (v))), (w0, .inl (ac 0, 4, .inl (w)))])) (zRi (if v 1 ≤ a then 1 else 0)) 0 0 (fun _ => False) := by
  refine z_ro (cc := cX3_isPacked) (maxL := 2) (ret := (some .boolean)) (lv := [(0, .ref (h1)), (1, .int (a))]) (by decide) rfl (Nat.le_of_ble_eq_true rfl) rfl ?_
  intro p e s m args below meth c ls hx hb hr hml hown hts hlocks hl hK hP
  refine lv_iload_n hx hb dX3_isPacked_0 rfl (lv_at hl 1 rfl) ?_
  refine lv_aload_n hx hb dX3_isPacked_1 rfl (lv_at hl 0 rfl) ?_
  refine va_get (ci := 3) (v := .ref (v0)) (C := RX3) (T := TX3) (N := 2) hx hb hts (by decide +kernel) hown hK hP 0 rfl rfl 0 (by decide) (hts (.fieldLink RX3 9 "SettlingJars$Settings" "values" "[I") (by decide +kernel)) (fun _ h9 => h9) rfl dX3_isPacked_2 ?_
  refine lv_iconst (v := 1) hx hb dX3_isPacked_5 (by decide) ?_
  refine z_iald hx hb hK hP 1 rfl (1) (rfl) (by omega) (by decide) dX3_isPacked_6 ?_
  refine lv_icmp_lt (tgt := 14) hx hb dX3_isPacked_7 (by decide) (fun c_7 => ?_) (fun c_7 => ?_)
  · refine lv_iconst (v := 0) hx hb dX3_isPacked_14 (by decide) ?_
    exact z_zret hx hb hr hlocks (rfl) ((if_neg (fun q => absurd c_7 (Int32.not_lt.mpr q))).symm) dX3_isPacked_15
  · refine lv_iconst (v := 1) hx hb dX3_isPacked_10 (by decide) ?_
    refine lv_goto (tgt := 15) hx hb dX3_isPacked_11 (by decide) ?_
    exact z_zret hx hb hr hlocks (rfl) ((if_pos (Int32.not_lt.mp c_7)).symm) dX3_isPacked_15

set_option maxRecDepth 100000 in
set_option maxHeartbeats 4000000 in
theorem metX3_isClear (l : Launch) (D : va_G) (ac : Nat → ClassId) (h1 : Nat) (v0 : Nat) (w0 : Nat) (v : Nat → Int32) (w : Nat → Int32) (a : Int32)  : Met l yX3_isClear wsX3_isClear ({ frames := 0, cells := 0, slots := 0, locals := 0 } : Room) (va_Pc [.ref (h1), .int (a)] (zW D ac [(h1, .inr (3, [.ref (v0), .ref (w0)])), (v0, .inl (ac 0, 4, .inl (v))), (w0, .inl (ac 0, 4, .inl (w)))])) (zRi (if a ≤ v 2 then 1 else 0)) 0 0 (fun _ => False) := by
  refine z_ro (cc := cX3_isClear) (maxL := 2) (ret := (some .boolean)) (lv := [(0, .ref (h1)), (1, .int (a))]) (by decide) rfl (Nat.le_of_ble_eq_true rfl) rfl ?_
  intro p e s m args below meth c ls hx hb hr hml hown hts hlocks hl hK hP
  refine lv_iload_n hx hb dX3_isClear_0 rfl (lv_at hl 1 rfl) ?_
  refine lv_aload_n hx hb dX3_isClear_1 rfl (lv_at hl 0 rfl) ?_
  refine va_get (ci := 3) (v := .ref (v0)) (C := RX3) (T := TX3) (N := 2) hx hb hts (by decide +kernel) hown hK hP 0 rfl rfl 0 (by decide) (hts (.fieldLink RX3 9 "SettlingJars$Settings" "values" "[I") (by decide +kernel)) (fun _ h9 => h9) rfl dX3_isClear_2 ?_
  refine lv_iconst (v := 2) hx hb dX3_isClear_5 (by decide) ?_
  refine z_iald hx hb hK hP 1 rfl (2) (rfl) (by omega) (by decide) dX3_isClear_6 ?_
  refine lv_icmp_gt (tgt := 14) hx hb dX3_isClear_7 (by decide) (fun c_7 => ?_) (fun c_7 => ?_)
  · refine lv_iconst (v := 0) hx hb dX3_isClear_14 (by decide) ?_
    exact z_zret hx hb hr hlocks (rfl) ((if_neg (fun q => absurd c_7 (Int32.not_lt.mpr q))).symm) dX3_isClear_15
  · refine lv_iconst (v := 1) hx hb dX3_isClear_10 (by decide) ?_
    refine lv_goto (tgt := 15) hx hb dX3_isClear_11 (by decide) ?_
    exact z_zret hx hb hr hlocks (rfl) ((if_pos (Int32.not_lt.mp c_7)).symm) dX3_isClear_15

set_option maxRecDepth 100000 in
set_option maxHeartbeats 4000000 in
theorem metX3_wantingToFall (l : Launch) (D : va_G) (ac : Nat → ClassId) (h1 : Nat) (v0 : Nat) (w0 : Nat) (v : Nat → Int32) (w : Nat → Int32) (k1 : Nat) (a : Int32) (f : Int32) (hk : k1 < 4) : Met l yX3_wantingToFall wsX3_wantingToFall ({ frames := 1, cells := 0, slots := 0, locals := 13 } : Room) (va_Pc [.ref (h1), .int (nI (k1)), .int (a), .int (f)] (zW D ac [(h1, .inr (3, [.ref (v0), .ref (w0)])), (v0, .inl (ac 0, 4, .inl (v))), (w0, .inl (ac 0, 4, .inl (w)))])) (zRi (qWant (w k1) (v 3) a f)) 0 0 (fun _ => False) := by
  refine z_ro (cc := cX3_wantingToFall) (maxL := 5) (ret := (some .int)) (lv := [(0, .ref (h1)), (1, .int (nI (k1))), (2, .int (a)), (3, .int (f))]) (by decide) rfl (Nat.le_of_ble_eq_true rfl) rfl ?_
  intro p e s m args below meth c ls hx hb hr hml hown hts hlocks hl hK hP
  refine lv_iload_n hx hb dX3_wantingToFall_0 rfl (lv_at hl 2 rfl) ?_
  refine lv_aload_n hx hb dX3_wantingToFall_1 rfl (lv_at hl 0 rfl) ?_
  refine va_get (ci := 3) (v := .ref (w0)) (C := RX3) (T := TX3) (N := 2) hx hb hts (by decide +kernel) hown hK hP 0 rfl rfl 1 (by decide) (hts (.fieldLink RX3 15 "SettlingJars$Settings" "speeds" "[I") (by decide +kernel)) (fun _ h9 => h9) rfl dX3_wantingToFall_2 ?_
  refine lv_iload_n hx hb dX3_wantingToFall_5 rfl (lv_at hl 1 rfl) ?_
  refine z_iald hx hb hK hP 2 rfl (k1) (rfl) (by omega) (by decide) dX3_wantingToFall_6 ?_
  refine lv_imul hx hb dX3_wantingToFall_7 ?_
  refine lv_iload_n hx hb dX3_wantingToFall_8 rfl (lv_at hl 3 rfl) ?_
  refine lv_imul hx hb dX3_wantingToFall_9 ?_
  refine lv_ldc (own := RX3) hx hb hown (hts (.constant RX3 31 (100000)) (by decide +kernel)) dX3_wantingToFall_10 ?_
  refine lv_idiv hx hb dX3_wantingToFall_12 (by decide) ?_
  refine lv_istore (lv' := [(4, .int ((((a) * (w k1)) * (f)) / (100000))), (0, .ref (h1)), (1, .int (nI (k1))), (2, .int (a)), (3, .int (f))]) hx hb dX3_wantingToFall_13 hl (by decide) rfl (fun ls hl => ?_)
  refine lv_iload hx hb dX3_wantingToFall_15 (lv_at hl 0 rfl) ?_
  refine lv_if_ne (tgt := 32) hx hb dX3_wantingToFall_17 (by decide) (fun c_17 => ?_) (fun c_17 => ?_)
  · refine lv_iload hx hb dX3_wantingToFall_32 (lv_at hl 0 rfl) ?_
    refine lv_iload_n hx hb dX3_wantingToFall_34 rfl (lv_at hl 3 rfl) ?_
    refine va_mmin hx hb (by rw [hml]; exact hl.1.symm) hown (hts (.methodLink RX3 32 Lib.Math.min.name) (by decide +kernel)) (hts (.static Lib.Math.min.name) (by decide +kernel)) (hts (.initialized "java/lang/Math") (by decide +kernel)) (hts (.code Lib.Math.min.name Lib.Math.min.code 2 (some .int)) (by decide +kernel)) (Nat.le_of_ble_eq_true rfl) (Nat.le_of_ble_eq_true rfl) (Nat.zero_le _) (Nat.zero_le _) dX3_wantingToFall_35 ?_
    exact z_iret hx hb hr hlocks ((if_neg (fun q => c_17 q.1)).symm) dX3_wantingToFall_38
  · refine lv_iload_n hx hb dX3_wantingToFall_20 rfl (lv_at hl 3 rfl) ?_
    refine lv_aload_n hx hb dX3_wantingToFall_21 rfl (lv_at hl 1 rfl) ?_
    refine va_get (ci := 3) (v := .ref (v0)) (C := RX3) (T := TX3) (N := 2) hx hb hts (by decide +kernel) hown hK hP 0 rfl rfl 0 (by decide) (hts (.fieldLink RX3 9 "SettlingJars$Settings" "values" "[I") (by decide +kernel)) (fun _ h9 => h9) rfl dX3_wantingToFall_22 ?_
    refine lv_iconst (v := 3) hx hb dX3_wantingToFall_25 (by decide) ?_
    refine z_iald hx hb hK hP 1 rfl (3) (rfl) (by omega) (by decide) dX3_wantingToFall_26 ?_
    refine lv_icmp_le (tgt := 32) hx hb dX3_wantingToFall_27 (by decide) (fun c_27 => ?_) (fun c_27 => ?_)
    · refine lv_iload hx hb dX3_wantingToFall_32 (lv_at hl 0 rfl) ?_
      refine lv_iload_n hx hb dX3_wantingToFall_34 rfl (lv_at hl 3 rfl) ?_
      refine va_mmin hx hb (by rw [hml]; exact hl.1.symm) hown (hts (.methodLink RX3 32 Lib.Math.min.name) (by decide +kernel)) (hts (.static Lib.Math.min.name) (by decide +kernel)) (hts (.initialized "java/lang/Math") (by decide +kernel)) (hts (.code Lib.Math.min.name Lib.Math.min.code 2 (some .int)) (by decide +kernel)) (Nat.le_of_ble_eq_true rfl) (Nat.le_of_ble_eq_true rfl) (Nat.zero_le _) (Nat.zero_le _) dX3_wantingToFall_35 ?_
      exact z_iret hx hb hr hlocks ((if_neg (fun q => absurd c_27 (Int32.not_le.mpr q.2))).symm) dX3_wantingToFall_38
    · refine lv_iconst (v := 1) hx hb dX3_wantingToFall_30 (by decide) ?_
      exact z_iret hx hb hr hlocks ((if_pos ⟨c_17, Int32.not_le.mp c_27⟩).symm) dX3_wantingToFall_31

set_option maxRecDepth 100000 in
set_option maxHeartbeats 4000000 in
theorem metX3_copyFrom (l : Launch) (D : va_G) (ac : Nat → ClassId) (sz : Nat) (h1 : Nat) (v0 : Nat) (w0 : Nat) (v : Nat → Int32) (w : Nat → Int32) (h2 : Nat) (o0 : Nat) (p0 : Nat) (vo : Nat → Int32) (wo : Nat → Int32)  : Met l yX3_copyFrom wsX3_copyFrom ({ frames := 1, cells := 0, slots := 0, locals := 40 } : Room) (va_Pc [.ref (h1), .ref (h2)] (zS D ac [(h1, .inr (3, [.ref (v0), .ref (w0)])), (v0, .inl (ac 0, 4, .inl (v))), (w0, .inl (ac 0, 4, .inl (w))), (h2, .inr (3, [.ref (o0), .ref (p0)])), (o0, .inl (ac 0, 4, .inl (vo))), (p0, .inl (ac 0, 4, .inl (wo)))] sz)) (zQv D ac [(h1, .inr (3, [.ref (v0), .ref (w0)])), (v0, .inl (ac 0, 4, .inl (v))), (w0, .inl (ac 0, 4, .inl (w))), (h2, .inr (3, [.ref (o0), .ref (p0)])), (o0, .inl (ac 0, 4, .inl (vo))), (p0, .inl (ac 0, 4, .inl (wo)))] [(h1, .inr (3, [.ref (v0), .ref (w0)])), (v0, .inl (ac 0, 4, .inl (vo))), (w0, .inl (ac 0, 4, .inl (wo))), (h2, .inr (3, [.ref (o0), .ref (p0)])), (o0, .inl (ac 0, 4, .inl (vo))), (p0, .inl (ac 0, 4, .inl (wo)))] sz) 0 0 (va_A [(h1, .inr (3, [.ref (v0), .ref (w0)])), (v0, .inl (ac 0, 4, .inl (v))), (w0, .inl (ac 0, 4, .inl (w))), (h2, .inr (3, [.ref (o0), .ref (p0)])), (o0, .inl (ac 0, 4, .inl (vo))), (p0, .inl (ac 0, 4, .inl (wo)))] sz) := by
  refine z_rw (cc := cX3_copyFrom) (maxL := 2) (ret := none) (lv := [(0, .ref (h1)), (1, .ref (h2))]) (by decide) rfl (Nat.le_of_ble_eq_true rfl) rfl ?_
  intro p e s m args below meth c ls A hx hb hr hml hown hts hlocks hl hK hP hsz hAe hA hD hS
  refine lv_aload_n hx hb dX3_copyFrom_0 rfl (lv_at hl 1 rfl) ?_
  refine va_get (ci := 3) (v := .ref (o0)) (C := RX3) (T := TX3) (N := 2) hx hb hts (by decide +kernel) hown hK hP 3 rfl rfl 0 (by decide) (hts (.fieldLink RX3 9 "SettlingJars$Settings" "values" "[I") (by decide +kernel)) (fun _ h9 => h9) rfl dX3_copyFrom_1 ?_
  refine lv_iconst (v := 0) hx hb dX3_copyFrom_4 (by decide) ?_
  refine lv_aload_n hx hb dX3_copyFrom_5 rfl (lv_at hl 0 rfl) ?_
  refine va_get (ci := 3) (v := .ref (v0)) (C := RX3) (T := TX3) (N := 2) hx hb hts (by decide +kernel) hown hK hP 0 rfl rfl 0 (by decide) (hts (.fieldLink RX3 9 "SettlingJars$Settings" "values" "[I") (by decide +kernel)) (fun _ h9 => h9) rfl dX3_copyFrom_6 ?_
  refine lv_iconst (v := 0) hx hb dX3_copyFrom_9 (by decide) ?_
  refine lv_iconst (v := 4) hx hb dX3_copyFrom_10 (by decide) ?_
  refine z_copy (n := 4) hx hb (by rw [hml]; exact hl.1.symm) hown (hts (.methodLink RX3 18 arraycopyName) (by decide +kernel)) (hts (.native arraycopyName) (by decide +kernel)) (hts (.static arraycopyName) (by decide +kernel)) (hts (.initialized "java/lang/System") (by decide +kernel)) hK hP hD hS 4 1 rfl rfl (Nat.le_of_ble_eq_true rfl) (by decide) (Nat.le_of_ble_eq_true rfl) dX3_copyFrom_11 (fun H locs hP hD hS => ?_)
  have hP : va_P D vwCl [(h1, .inr (3, [.ref (v0), .ref (w0)])), (v0, .inl (ac 0, 4, .inl (vo))), (w0, .inl (ac 0, 4, .inl (w))), (h2, .inr (3, [.ref (o0), .ref (p0)])), (o0, .inl (ac 0, 4, .inl (vo))), (p0, .inl (ac 0, 4, .inl (wo)))] H := hP
  have hD : va_D A [(h1, .inr (3, [.ref (v0), .ref (w0)])), (v0, .inl (ac 0, 4, .inl (vo))), (w0, .inl (ac 0, 4, .inl (w))), (h2, .inr (3, [.ref (o0), .ref (p0)])), (o0, .inl (ac 0, 4, .inl (vo))), (p0, .inl (ac 0, 4, .inl (wo)))] := hD
  refine lv_aload_n hx hb dX3_copyFrom_14 rfl (lv_at hl 1 rfl) ?_
  refine va_get (ci := 3) (v := .ref (p0)) (C := RX3) (T := TX3) (N := 2) hx hb hts (by decide +kernel) hown hK hP 3 rfl rfl 1 (by decide) (hts (.fieldLink RX3 15 "SettlingJars$Settings" "speeds" "[I") (by decide +kernel)) (fun _ h9 => h9) rfl dX3_copyFrom_15 ?_
  refine lv_iconst (v := 0) hx hb dX3_copyFrom_18 (by decide) ?_
  refine lv_aload_n hx hb dX3_copyFrom_19 rfl (lv_at hl 0 rfl) ?_
  refine va_get (ci := 3) (v := .ref (w0)) (C := RX3) (T := TX3) (N := 2) hx hb hts (by decide +kernel) hown hK hP 0 rfl rfl 1 (by decide) (hts (.fieldLink RX3 15 "SettlingJars$Settings" "speeds" "[I") (by decide +kernel)) (fun _ h9 => h9) rfl dX3_copyFrom_20 ?_
  refine lv_iconst (v := 0) hx hb dX3_copyFrom_23 (by decide) ?_
  refine lv_iconst (v := 4) hx hb dX3_copyFrom_24 (by decide) ?_
  refine z_copy (n := 4) hx hb (by rw [hml]; exact hl.1.symm) hown (hts (.methodLink RX3 18 arraycopyName) (by decide +kernel)) (hts (.native arraycopyName) (by decide +kernel)) (hts (.static arraycopyName) (by decide +kernel)) (hts (.initialized "java/lang/System") (by decide +kernel)) hK hP hD hS 5 2 rfl rfl (Nat.le_of_ble_eq_true rfl) (by decide) (Nat.le_of_ble_eq_true rfl) dX3_copyFrom_25 (fun H locs hP hD hS => ?_)
  have hP : va_P D vwCl [(h1, .inr (3, [.ref (v0), .ref (w0)])), (v0, .inl (ac 0, 4, .inl (vo))), (w0, .inl (ac 0, 4, .inl (wo))), (h2, .inr (3, [.ref (o0), .ref (p0)])), (o0, .inl (ac 0, 4, .inl (vo))), (p0, .inl (ac 0, 4, .inl (wo)))] H := hP
  have hD : va_D A [(h1, .inr (3, [.ref (v0), .ref (w0)])), (v0, .inl (ac 0, 4, .inl (vo))), (w0, .inl (ac 0, 4, .inl (wo))), (h2, .inr (3, [.ref (o0), .ref (p0)])), (o0, .inl (ac 0, 4, .inl (vo))), (p0, .inl (ac 0, 4, .inl (wo)))] := hD
  exact z_vretW hx hb hr hlocks hK hP hD hS hAe dX3_copyFrom_28

set_option maxRecDepth 100000 in
set_option maxHeartbeats 4000000 in
theorem metX2_many (l : Launch) (D : va_G) (ac : Nat → ClassId) (h0 : Nat) (g0 : Nat) (g : Nat → Int32) (s1 : Nat) (k1 : Nat) (hs : s1 < 12) (hk : k1 < 4) : Met l yX2_many wsX2_many ({ frames := 0, cells := 0, slots := 0, locals := 0 } : Room) (va_Pc [.ref (h0), .int (nI (s1)), .int (nI (k1))] (zW D ac [(h0, .inr (2, [.ref (g0)])), (g0, .inl (ac 0, 48, .inl (g)))])) (zRi (g (4 * s1 + k1))) 0 0 (fun _ => False) := by
  refine z_ro (cc := cX2_many) (maxL := 3) (ret := (some .int)) (lv := [(0, .ref (h0)), (1, .int (nI (s1))), (2, .int (nI (k1)))]) (by decide) rfl (Nat.le_of_ble_eq_true rfl) rfl ?_
  intro p e s m args below meth c ls hx hb hr hml hown hts hlocks hl hK hP
  refine lv_aload_n hx hb dX2_many_0 rfl (lv_at hl 0 rfl) ?_
  refine va_get (ci := 2) (v := .ref (g0)) (C := RX2) (T := TX2) (N := 1) hx hb hts (by decide +kernel) hown hK hP 0 rfl rfl 0 (by decide) (hts (.fieldLink RX2 9 "SettlingJars$Jar" "grains" "[I") (by decide +kernel)) (fun _ h9 => h9) rfl dX2_many_1 ?_
  refine lv_iload_n hx hb dX2_many_4 rfl (lv_at hl 1 rfl) ?_
  refine lv_iconst (v := 4) hx hb dX2_many_5 (by decide) ?_
  refine lv_imul hx hb dX2_many_6 ?_
  refine z_top (y := nI ((s1) * (4))) (pk_mul (s1) (4)) ?_
  refine lv_iload_n hx hb dX2_many_7 rfl (lv_at hl 2 rfl) ?_
  refine lv_iadd hx hb dX2_many_8 ?_
  refine z_top (y := nI (((s1) * (4)) + (k1))) (nI_add ((s1) * (4)) (k1)) ?_
  refine z_iald hx hb hK hP 1 rfl (4 * s1 + k1) (congrArg nI (by omega)) (by omega) (by decide) dX2_many_9 ?_
  exact z_iret hx hb hr hlocks (rfl) dX2_many_10

set_option maxRecDepth 100000 in
set_option maxHeartbeats 4000000 in
theorem metX2_allIn (l : Launch) (D : va_G) (ac : Nat → ClassId) (h0 : Nat) (g0 : Nat) (g : Nat → Int32) (s1 : Nat) (hs : s1 < 12) : Met l yX2_allIn wsX2_allIn ({ frames := 1, cells := 0, slots := 0, locals := 22 } : Room) (va_Pc [.ref (h0), .int (nI (s1))] (zW D ac [(h0, .inr (2, [.ref (g0)])), (g0, .inl (ac 0, 48, .inl (g)))])) (zRi (qIn g s1)) 0 0 (fun _ => False) := by
  refine z_ro (cc := cX2_allIn) (maxL := 4) (ret := (some .int)) (lv := [(0, .ref (h0)), (1, .int (nI (s1)))]) (by decide) rfl (Nat.le_of_ble_eq_true rfl) rfl ?_
  intro p e s m args below meth c ls hx hb hr hml hown hts hlocks hl hK hP
  refine lv_iconst (v := 0) hx hb dX2_allIn_0 (by decide) ?_
  refine lv_istore_n (lv' := [(2, .int (0)), (0, .ref (h0)), (1, .int (nI (s1)))]) hx hb dX2_allIn_1 rfl hl (by decide) rfl (fun ls hl => ?_)
  refine lv_iconst (v := 0) hx hb dX2_allIn_2 (by decide) ?_
  refine lv_istore_n (lv' := [(3, .int (0)), (2, .int (0)), (0, .ref (h0)), (1, .int (nI (s1)))]) hx hb dX2_allIn_3 rfl hl (by decide) rfl (fun ls hl => ?_)
  have hL_4 : ∀ (n : Nat) (i : Nat), (i + n = 4) → ∀ (ls : Array Slot), lv_has ls 4 [(3, .int (nI (i))), (2, .int (qS (fun c => g (4 * s1 + c)) i)), (0, .ref (h0)), (1, .int (nI (s1)))] → W p l e ({ frames := 1, cells := 0, slots := 0, locals := 22 } : Room) s m args below meth c s.heap [] 0 0 (MQ below (zRi (qIn g s1)) args s 0 0 (fun _ => False)) (F0 m 4 ls []) := by
    intro n
    induction n with
    | zero =>
      intro i hi ls hl
      have e_i : 4 = i := by omega
      subst e_i
      refine lv_iload_n hx hb dX2_allIn_4 rfl (lv_at hl 0 rfl) ?_
      refine lv_iconst (v := 4) hx hb dX2_allIn_5 (by decide) ?_
      refine z_icmp_ge (tgt := 24) hx hb (4) (4) dX2_allIn_6 (by decide) (by omega) (by omega) rfl rfl (fun c_6 => ?_) (fun c_6 => absurd c_6 (by omega))
      refine lv_iload_n hx hb dX2_allIn_24 rfl (lv_at hl 1 rfl) ?_
      exact z_iret hx hb hr hlocks (rfl) dX2_allIn_25
    | succ n ih =>
      intro i hi ls hl
      refine lv_iload_n hx hb dX2_allIn_4 rfl (lv_at hl 0 rfl) ?_
      refine lv_iconst (v := 4) hx hb dX2_allIn_5 (by decide) ?_
      refine z_icmp_ge (tgt := 24) hx hb (i) (4) dX2_allIn_6 (by decide) (by omega) (by omega) rfl rfl (fun c_6 => absurd c_6 (by omega)) (fun c_6 => ?_)
      refine lv_iload_n hx hb dX2_allIn_9 rfl (lv_at hl 1 rfl) ?_
      refine lv_aload_n hx hb dX2_allIn_10 rfl (lv_at hl 2 rfl) ?_
      refine lv_iload_n hx hb dX2_allIn_11 rfl (lv_at hl 3 rfl) ?_
      refine lv_iload_n hx hb dX2_allIn_12 rfl (lv_at hl 0 rfl) ?_
      refine z_ci (z_vrun (rest := [.int (qS (fun c => g (4 * s1 + c)) i)]) (own := RX2) (As := [.int (nI (s1)), .int (nI (i))]) hx hb hml hown hts hl.1 hK hP [0, 1] rfl (metX2_many l D ac h0 g0 g s1 i (by omega) (by omega)) gX2_allIn_X2_many rfl 2 (by decide +kernel) ⟨rfl, rfl, Nat.le_of_ble_eq_true rfl, Nat.le_of_ble_eq_true rfl⟩ 0 2 rfl rfl rfl rfl rfl (Nat.le_of_ble_eq_true rfl) dX2_allIn_13 ⟨Nat.zero_le _, Nat.zero_le _⟩) ?_
      refine lv_iadd hx hb dX2_allIn_16 ?_
      refine lv_istore_n (lv' := [(2, .int ((qS (fun c => g (4 * s1 + c)) i) + (g (4 * s1 + i)))), (3, .int (nI (i))), (0, .ref (h0)), (1, .int (nI (s1)))]) hx hb dX2_allIn_17 rfl hl (by decide) rfl (fun ls hl => ?_)
      refine lv_iinc (v := nI ((i) + 1)) (lv' := [(3, .int (nI ((i) + 1))), (2, .int ((qS (fun c => g (4 * s1 + c)) i) + (g (4 * s1 + i)))), (0, .ref (h0)), (1, .int (nI (s1)))]) hx hb dX2_allIn_18 hl (k := 1) rfl (show nI (i) + Int32.ofInt 1 = _ from nI_add (i) 1) (by decide) rfl (fun ls hl => ?_)
      refine lv_goto (tgt := 4) hx hb dX2_allIn_21 (by decide) ?_
      exact ih (i + 1) (by omega) ls (lv_sub hl [0, 1, 2, 3] rfl)
  exact hL_4 (4) (0) (by omega) ls (lv_sub hl [0, 1, 2, 3] rfl)

set_option maxRecDepth 100000 in
set_option maxHeartbeats 4000000 in
theorem metX2_allOf (l : Launch) (D : va_G) (ac : Nat → ClassId) (h0 : Nat) (g0 : Nat) (g : Nat → Int32) (k1 : Nat) (hk : k1 < 4) : Met l yX2_allOf wsX2_allOf ({ frames := 1, cells := 0, slots := 0, locals := 22 } : Room) (va_Pc [.ref (h0), .int (nI (k1))] (zW D ac [(h0, .inr (2, [.ref (g0)])), (g0, .inl (ac 0, 48, .inl (g)))])) (zRi (qOf g k1)) 0 0 (fun _ => False) := by
  refine z_ro (cc := cX2_allOf) (maxL := 4) (ret := (some .int)) (lv := [(0, .ref (h0)), (1, .int (nI (k1)))]) (by decide) rfl (Nat.le_of_ble_eq_true rfl) rfl ?_
  intro p e s m args below meth c ls hx hb hr hml hown hts hlocks hl hK hP
  refine lv_iconst (v := 0) hx hb dX2_allOf_0 (by decide) ?_
  refine lv_istore_n (lv' := [(2, .int (0)), (0, .ref (h0)), (1, .int (nI (k1)))]) hx hb dX2_allOf_1 rfl hl (by decide) rfl (fun ls hl => ?_)
  refine lv_iconst (v := 0) hx hb dX2_allOf_2 (by decide) ?_
  refine lv_istore_n (lv' := [(3, .int (0)), (2, .int (0)), (0, .ref (h0)), (1, .int (nI (k1)))]) hx hb dX2_allOf_3 rfl hl (by decide) rfl (fun ls hl => ?_)
  have hL_4 : ∀ (n : Nat) (i : Nat), (i + n = 12) → ∀ (ls : Array Slot), lv_has ls 4 [(3, .int (nI (i))), (2, .int (qS (fun s => g (4 * s + k1)) i)), (0, .ref (h0)), (1, .int (nI (k1)))] → W p l e ({ frames := 1, cells := 0, slots := 0, locals := 22 } : Room) s m args below meth c s.heap [] 0 0 (MQ below (zRi (qOf g k1)) args s 0 0 (fun _ => False)) (F0 m 4 ls []) := by
    intro n
    induction n with
    | zero =>
      intro i hi ls hl
      have e_i : 12 = i := by omega
      subst e_i
      refine lv_iload_n hx hb dX2_allOf_4 rfl (lv_at hl 0 rfl) ?_
      refine lv_bipush (v := 12) hx hb dX2_allOf_5 (by decide) ?_
      refine z_icmp_ge (tgt := 25) hx hb (12) (12) dX2_allOf_7 (by decide) (by omega) (by omega) rfl rfl (fun c_7 => ?_) (fun c_7 => absurd c_7 (by omega))
      refine lv_iload_n hx hb dX2_allOf_25 rfl (lv_at hl 1 rfl) ?_
      exact z_iret hx hb hr hlocks (rfl) dX2_allOf_26
    | succ n ih =>
      intro i hi ls hl
      refine lv_iload_n hx hb dX2_allOf_4 rfl (lv_at hl 0 rfl) ?_
      refine lv_bipush (v := 12) hx hb dX2_allOf_5 (by decide) ?_
      refine z_icmp_ge (tgt := 25) hx hb (i) (12) dX2_allOf_7 (by decide) (by omega) (by omega) rfl rfl (fun c_7 => absurd c_7 (by omega)) (fun c_7 => ?_)
      refine lv_iload_n hx hb dX2_allOf_10 rfl (lv_at hl 1 rfl) ?_
      refine lv_aload_n hx hb dX2_allOf_11 rfl (lv_at hl 2 rfl) ?_
      refine lv_iload_n hx hb dX2_allOf_12 rfl (lv_at hl 0 rfl) ?_
      refine lv_iload_n hx hb dX2_allOf_13 rfl (lv_at hl 3 rfl) ?_
      refine z_ci (z_vrun (rest := [.int (qS (fun s => g (4 * s + k1)) i)]) (own := RX2) (As := [.int (nI (i)), .int (nI (k1))]) hx hb hml hown hts hl.1 hK hP [0, 1] rfl (metX2_many l D ac h0 g0 g i k1 (by omega) (by omega)) gX2_allOf_X2_many rfl 2 (by decide +kernel) ⟨rfl, rfl, Nat.le_of_ble_eq_true rfl, Nat.le_of_ble_eq_true rfl⟩ 0 2 rfl rfl rfl rfl rfl (Nat.le_of_ble_eq_true rfl) dX2_allOf_14 ⟨Nat.zero_le _, Nat.zero_le _⟩) ?_
      refine lv_iadd hx hb dX2_allOf_17 ?_
      refine lv_istore_n (lv' := [(2, .int ((qS (fun s => g (4 * s + k1)) i) + (g (4 * i + k1)))), (3, .int (nI (i))), (0, .ref (h0)), (1, .int (nI (k1)))]) hx hb dX2_allOf_18 rfl hl (by decide) rfl (fun ls hl => ?_)
      refine lv_iinc (v := nI ((i) + 1)) (lv' := [(3, .int (nI ((i) + 1))), (2, .int ((qS (fun s => g (4 * s + k1)) i) + (g (4 * i + k1)))), (0, .ref (h0)), (1, .int (nI (k1)))]) hx hb dX2_allOf_19 hl (k := 1) rfl (show nI (i) + Int32.ofInt 1 = _ from nI_add (i) 1) (by decide) rfl (fun ls hl => ?_)
      refine lv_goto (tgt := 4) hx hb dX2_allOf_22 (by decide) ?_
      exact ih (i + 1) (by omega) ls (lv_sub hl [0, 1, 2, 3] rfl)
  exact hL_4 (12) (0) (by omega) ls (lv_sub hl [0, 1, 2, 3] rfl)

set_option maxRecDepth 100000 in
set_option maxHeartbeats 4000000 in
theorem metX2_allDownTo (l : Launch) (D : va_G) (ac : Nat → ClassId) (h0 : Nat) (g0 : Nat) (g : Nat → Int32) (x : Int32) (t : Nat) (hx1 : x = nI t - 1) (ht : t ≤ 12) : Met l yX2_allDownTo wsX2_allDownTo ({ frames := 2, cells := 0, slots := 0, locals := 45 } : Room) (va_Pc [.ref (h0), .int (x)] (zW D ac [(h0, .inr (2, [.ref (g0)])), (g0, .inl (ac 0, 48, .inl (g)))])) (zRi (qTo g t)) 0 0 (fun _ => False) := by
  refine z_ro (cc := cX2_allDownTo) (maxL := 4) (ret := (some .int)) (lv := [(0, .ref (h0)), (1, .int (x))]) (by decide) rfl (Nat.le_of_ble_eq_true rfl) rfl ?_
  intro p e s m args below meth c ls hx hb hr hml hown hts hlocks hl hK hP
  refine lv_iconst (v := 0) hx hb dX2_allDownTo_0 (by decide) ?_
  refine lv_istore_n (lv' := [(2, .int (0)), (0, .ref (h0)), (1, .int (x))]) hx hb dX2_allDownTo_1 rfl hl (by decide) rfl (fun ls hl => ?_)
  refine lv_iconst (v := 0) hx hb dX2_allDownTo_2 (by decide) ?_
  refine lv_istore_n (lv' := [(3, .int (0)), (2, .int (0)), (0, .ref (h0)), (1, .int (x))]) hx hb dX2_allDownTo_3 rfl hl (by decide) rfl (fun ls hl => ?_)
  have hL_4 : ∀ (n : Nat) (i : Nat), (i + n = t) → ∀ (ls : Array Slot), lv_has ls 4 [(3, .int (nI (i))), (2, .int (qTo g i)), (0, .ref (h0)), (1, .int (x))] → W p l e ({ frames := 2, cells := 0, slots := 0, locals := 45 } : Room) s m args below meth c s.heap [] 0 0 (MQ below (zRi (qTo g t)) args s 0 0 (fun _ => False)) (F0 m 4 ls []) := by
    intro n
    induction n with
    | zero =>
      intro i hi ls hl
      have e_i : t = i := by omega
      subst e_i
      refine lv_iload_n hx hb dX2_allDownTo_4 rfl (lv_at hl 0 rfl) ?_
      refine lv_iload_n hx hb dX2_allDownTo_5 rfl (lv_at hl 3 rfl) ?_
      refine lv_icmp_gt (tgt := 23) hx hb dX2_allDownTo_6 (by decide) (fun c_6 => ?_) (fun c_6 => absurd c_6 (fun q => q (by rw [hx1]; exact (z_ltm1 (by omega) (by omega)).mpr (by omega))))
      refine lv_iload_n hx hb dX2_allDownTo_23 rfl (lv_at hl 1 rfl) ?_
      exact z_iret hx hb hr hlocks (rfl) dX2_allDownTo_24
    | succ n ih =>
      intro i hi ls hl
      refine lv_iload_n hx hb dX2_allDownTo_4 rfl (lv_at hl 0 rfl) ?_
      refine lv_iload_n hx hb dX2_allDownTo_5 rfl (lv_at hl 3 rfl) ?_
      refine lv_icmp_gt (tgt := 23) hx hb dX2_allDownTo_6 (by decide) (fun c_6 => absurd c_6 (by rw [hx1]; exact fun q => absurd ((z_ltm1 (by omega) (by omega)).mp q) (by omega))) (fun c_6 => ?_)
      refine lv_iload_n hx hb dX2_allDownTo_9 rfl (lv_at hl 1 rfl) ?_
      refine lv_aload_n hx hb dX2_allDownTo_10 rfl (lv_at hl 2 rfl) ?_
      refine lv_iload_n hx hb dX2_allDownTo_11 rfl (lv_at hl 0 rfl) ?_
      refine z_ci (z_vrun (rest := [.int (qTo g i)]) (own := RX2) (As := [.int (nI (i))]) hx hb hml hown hts hl.1 hK hP [0, 1] rfl (metX2_allIn l D ac h0 g0 g i (by omega)) gX2_allDownTo_X2_allIn rfl 1 (by decide +kernel) ⟨rfl, rfl, Nat.le_of_ble_eq_true rfl, Nat.le_of_ble_eq_true rfl⟩ 0 2 rfl rfl rfl rfl rfl (Nat.le_of_ble_eq_true rfl) dX2_allDownTo_12 ⟨Nat.zero_le _, Nat.zero_le _⟩) ?_
      refine lv_iadd hx hb dX2_allDownTo_15 ?_
      refine lv_istore_n (lv' := [(2, .int ((qTo g i) + (qIn g i))), (3, .int (nI (i))), (0, .ref (h0)), (1, .int (x))]) hx hb dX2_allDownTo_16 rfl hl (by decide) rfl (fun ls hl => ?_)
      refine lv_iinc (v := nI ((i) + 1)) (lv' := [(3, .int (nI ((i) + 1))), (2, .int ((qTo g i) + (qIn g i))), (0, .ref (h0)), (1, .int (x))]) hx hb dX2_allDownTo_17 hl (k := 1) rfl (show nI (i) + Int32.ofInt 1 = _ from nI_add (i) 1) (by decide) rfl (fun ls hl => ?_)
      refine lv_goto (tgt := 4) hx hb dX2_allDownTo_20 (by decide) ?_
      exact ih (i + 1) (by omega) ls (lv_sub hl [0, 1, 2, 3] rfl)
  exact hL_4 (t) (0) (by omega) ls (lv_sub hl [0, 1, 2, 3] rfl)

set_option maxRecDepth 100000 in
set_option maxHeartbeats 4000000 in
theorem metX2_all (l : Launch) (D : va_G) (ac : Nat → ClassId) (h0 : Nat) (g0 : Nat) (g : Nat → Int32)  : Met l yX2_all wsX2_all ({ frames := 3, cells := 0, slots := 0, locals := 68 } : Room) (va_Pc [.ref (h0)] (zW D ac [(h0, .inr (2, [.ref (g0)])), (g0, .inl (ac 0, 48, .inl (g)))])) (zRi (qAll g)) 0 0 (fun _ => False) := by
  refine z_ro (cc := cX2_all) (maxL := 1) (ret := (some .int)) (lv := [(0, .ref (h0))]) (by decide) rfl (Nat.le_of_ble_eq_true rfl) rfl ?_
  intro p e s m args below meth c ls hx hb hr hml hown hts hlocks hl hK hP
  refine lv_aload_n hx hb dX2_all_0 rfl (lv_at hl 0 rfl) ?_
  refine lv_bipush (v := 11) hx hb dX2_all_1 (by decide) ?_
  refine z_ci (z_vrun (rest := []) (own := RX2) (As := [.int (11)]) hx hb hml hown hts hl.1 hK hP [0, 1] rfl (metX2_allDownTo l D ac h0 g0 g 11 12 (by decide) (by omega)) gX2_all_X2_allDownTo rfl 1 (by decide +kernel) ⟨rfl, rfl, Nat.le_of_ble_eq_true rfl, Nat.le_of_ble_eq_true rfl⟩ 0 2 rfl rfl rfl rfl rfl (Nat.le_of_ble_eq_true rfl) dX2_all_3 ⟨Nat.zero_le _, Nat.zero_le _⟩) ?_
  exact z_iret hx hb hr hlocks (rfl) dX2_all_6

set_option maxRecDepth 100000 in
set_option maxHeartbeats 4000000 in
theorem metX2_sumOfDepths (l : Launch) (D : va_G) (ac : Nat → ClassId) (h0 : Nat) (g0 : Nat) (g : Nat → Int32)  : Met l yX2_sumOfDepths wsX2_sumOfDepths ({ frames := 2, cells := 0, slots := 0, locals := 45 } : Room) (va_Pc [.ref (h0)] (zW D ac [(h0, .inr (2, [.ref (g0)])), (g0, .inl (ac 0, 48, .inl (g)))])) (zRi (qDep g)) 0 0 (fun _ => False) := by
  refine z_ro (cc := cX2_sumOfDepths) (maxL := 3) (ret := (some .int)) (lv := [(0, .ref (h0))]) (by decide) rfl (Nat.le_of_ble_eq_true rfl) rfl ?_
  intro p e s m args below meth c ls hx hb hr hml hown hts hlocks hl hK hP
  refine lv_iconst (v := 0) hx hb dX2_sumOfDepths_0 (by decide) ?_
  refine lv_istore_n (lv' := [(1, .int (0)), (0, .ref (h0))]) hx hb dX2_sumOfDepths_1 rfl hl (by decide) rfl (fun ls hl => ?_)
  refine lv_iconst (v := 0) hx hb dX2_sumOfDepths_2 (by decide) ?_
  refine lv_istore_n (lv' := [(2, .int (0)), (1, .int (0)), (0, .ref (h0))]) hx hb dX2_sumOfDepths_3 rfl hl (by decide) rfl (fun ls hl => ?_)
  have hL_4 : ∀ (n : Nat) (i : Nat), (i + n = 12) → ∀ (ls : Array Slot), lv_has ls 3 [(2, .int (nI (i))), (1, .int (qS (fun s => nI s * qIn g s) i)), (0, .ref (h0))] → W p l e ({ frames := 2, cells := 0, slots := 0, locals := 45 } : Room) s m args below meth c s.heap [] 0 0 (MQ below (zRi (qDep g)) args s 0 0 (fun _ => False)) (F0 m 4 ls []) := by
    intro n
    induction n with
    | zero =>
      intro i hi ls hl
      have e_i : 12 = i := by omega
      subst e_i
      refine lv_iload_n hx hb dX2_sumOfDepths_4 rfl (lv_at hl 0 rfl) ?_
      refine lv_bipush (v := 12) hx hb dX2_sumOfDepths_5 (by decide) ?_
      refine z_icmp_ge (tgt := 26) hx hb (12) (12) dX2_sumOfDepths_7 (by decide) (by omega) (by omega) rfl rfl (fun c_7 => ?_) (fun c_7 => absurd c_7 (by omega))
      refine lv_iload_n hx hb dX2_sumOfDepths_26 rfl (lv_at hl 1 rfl) ?_
      exact z_iret hx hb hr hlocks (rfl) dX2_sumOfDepths_27
    | succ n ih =>
      intro i hi ls hl
      refine lv_iload_n hx hb dX2_sumOfDepths_4 rfl (lv_at hl 0 rfl) ?_
      refine lv_bipush (v := 12) hx hb dX2_sumOfDepths_5 (by decide) ?_
      refine z_icmp_ge (tgt := 26) hx hb (i) (12) dX2_sumOfDepths_7 (by decide) (by omega) (by omega) rfl rfl (fun c_7 => absurd c_7 (by omega)) (fun c_7 => ?_)
      refine lv_iload_n hx hb dX2_sumOfDepths_10 rfl (lv_at hl 1 rfl) ?_
      refine lv_iload_n hx hb dX2_sumOfDepths_11 rfl (lv_at hl 0 rfl) ?_
      refine lv_aload_n hx hb dX2_sumOfDepths_12 rfl (lv_at hl 2 rfl) ?_
      refine lv_iload_n hx hb dX2_sumOfDepths_13 rfl (lv_at hl 0 rfl) ?_
      refine z_ci (z_vrun (rest := [.int (nI (i)), .int (qS (fun s => nI s * qIn g s) i)]) (own := RX2) (As := [.int (nI (i))]) hx hb hml hown hts hl.1 hK hP [0, 1] rfl (metX2_allIn l D ac h0 g0 g i (by omega)) gX2_sumOfDepths_X2_allIn rfl 1 (by decide +kernel) ⟨rfl, rfl, Nat.le_of_ble_eq_true rfl, Nat.le_of_ble_eq_true rfl⟩ 0 2 rfl rfl rfl rfl rfl (Nat.le_of_ble_eq_true rfl) dX2_sumOfDepths_14 ⟨Nat.zero_le _, Nat.zero_le _⟩) ?_
      refine lv_imul hx hb dX2_sumOfDepths_17 ?_
      refine lv_iadd hx hb dX2_sumOfDepths_18 ?_
      refine lv_istore_n (lv' := [(1, .int ((qS (fun s => nI s * qIn g s) i) + ((nI (i)) * (qIn g i)))), (2, .int (nI (i))), (0, .ref (h0))]) hx hb dX2_sumOfDepths_19 rfl hl (by decide) rfl (fun ls hl => ?_)
      refine lv_iinc (v := nI ((i) + 1)) (lv' := [(2, .int (nI ((i) + 1))), (1, .int ((qS (fun s => nI s * qIn g s) i) + ((nI (i)) * (qIn g i)))), (0, .ref (h0))]) hx hb dX2_sumOfDepths_20 hl (k := 1) rfl (show nI (i) + Int32.ofInt 1 = _ from nI_add (i) 1) (by decide) rfl (fun ls hl => ?_)
      refine lv_goto (tgt := 4) hx hb dX2_sumOfDepths_23 (by decide) ?_
      exact ih (i + 1) (by omega) ls (lv_sub hl [0, 1, 2] rfl)
  exact hL_4 (12) (0) (by omega) ls (lv_sub hl [0, 1, 2] rfl)

set_option maxRecDepth 100000 in
set_option maxHeartbeats 4000000 in
theorem metX2_leadingClass (l : Launch) (D : va_G) (ac : Nat → ClassId) (h0 : Nat) (g0 : Nat) (g : Nat → Int32) (s1 : Nat) (hs : s1 < 12) : Met l yX2_leadingClass wsX2_leadingClass ({ frames := 1, cells := 0, slots := 0, locals := 22 } : Room) (va_Pc [.ref (h0), .int (nI (s1))] (zW D ac [(h0, .inr (2, [.ref (g0)])), (g0, .inl (ac 0, 48, .inl (g)))])) (zRi (qLead g s1)) 0 0 (fun _ => False) := by
  refine z_ro (cc := cX2_leadingClass) (maxL := 5) (ret := (some .int)) (lv := [(0, .ref (h0)), (1, .int (nI (s1)))]) (by decide) rfl (Nat.le_of_ble_eq_true rfl) rfl ?_
  intro p e s m args below meth c ls hx hb hr hml hown hts hlocks hl hK hP
  refine lv_iconst (v := (-1)) hx hb dX2_leadingClass_0 (by decide) ?_
  refine lv_istore_n (lv' := [(2, .int ((-1))), (0, .ref (h0)), (1, .int (nI (s1)))]) hx hb dX2_leadingClass_1 rfl hl (by decide) rfl (fun ls hl => ?_)
  refine lv_iconst (v := 0) hx hb dX2_leadingClass_2 (by decide) ?_
  refine lv_istore_n (lv' := [(3, .int (0)), (2, .int ((-1))), (0, .ref (h0)), (1, .int (nI (s1)))]) hx hb dX2_leadingClass_3 rfl hl (by decide) rfl (fun ls hl => ?_)
  refine lv_iconst (v := 0) hx hb dX2_leadingClass_4 (by decide) ?_
  refine lv_istore (lv' := [(4, .int (0)), (3, .int (0)), (2, .int ((-1))), (0, .ref (h0)), (1, .int (nI (s1)))]) hx hb dX2_leadingClass_5 hl (by decide) rfl (fun ls hl => ?_)
  have hL_7 : ∀ (n : Nat) (i : Nat), (i + n = 4) → ∀ (ls : Array Slot), lv_has ls 5 [(4, .int (nI (i))), (3, .int ((qLd (fun c => g (4 * s1 + c)) i).2)), (2, .int ((qLd (fun c => g (4 * s1 + c)) i).1)), (0, .ref (h0)), (1, .int (nI (s1)))] → W p l e ({ frames := 1, cells := 0, slots := 0, locals := 22 } : Room) s m args below meth c s.heap [] 0 0 (MQ below (zRi (qLead g s1)) args s 0 0 (fun _ => False)) (F0 m 7 ls []) := by
    intro n
    induction n with
    | zero =>
      intro i hi ls hl
      have e_i : 4 = i := by omega
      subst e_i
      refine lv_iload hx hb dX2_leadingClass_7 (lv_at hl 0 rfl) ?_
      refine lv_iconst (v := 4) hx hb dX2_leadingClass_9 (by decide) ?_
      refine z_icmp_ge (tgt := 41) hx hb (4) (4) dX2_leadingClass_10 (by decide) (by omega) (by omega) rfl rfl (fun c_10 => ?_) (fun c_10 => absurd c_10 (by omega))
      refine lv_iload_n hx hb dX2_leadingClass_41 rfl (lv_at hl 2 rfl) ?_
      exact z_iret hx hb hr hlocks (rfl) dX2_leadingClass_42
    | succ n ih =>
      intro i hi ls hl
      refine lv_iload hx hb dX2_leadingClass_7 (lv_at hl 0 rfl) ?_
      refine lv_iconst (v := 4) hx hb dX2_leadingClass_9 (by decide) ?_
      refine z_icmp_ge (tgt := 41) hx hb (i) (4) dX2_leadingClass_10 (by decide) (by omega) (by omega) rfl rfl (fun c_10 => absurd c_10 (by omega)) (fun c_10 => ?_)
      refine lv_aload_n hx hb dX2_leadingClass_13 rfl (lv_at hl 3 rfl) ?_
      refine lv_iload_n hx hb dX2_leadingClass_14 rfl (lv_at hl 4 rfl) ?_
      refine lv_iload hx hb dX2_leadingClass_15 (lv_at hl 0 rfl) ?_
      refine z_ci (z_vrun (rest := []) (own := RX2) (As := [.int (nI (s1)), .int (nI (i))]) hx hb hml hown hts hl.1 hK hP [0, 1] rfl (metX2_many l D ac h0 g0 g s1 i (by omega) (by omega)) gX2_leadingClass_X2_many rfl 2 (by decide +kernel) ⟨rfl, rfl, Nat.le_of_ble_eq_true rfl, Nat.le_of_ble_eq_true rfl⟩ 0 2 rfl rfl rfl rfl rfl (Nat.le_of_ble_eq_true rfl) dX2_leadingClass_17 ⟨Nat.zero_le _, Nat.zero_le _⟩) ?_
      refine lv_iload_n hx hb dX2_leadingClass_20 rfl (lv_at hl 1 rfl) ?_
      refine lv_icmp_le (tgt := 35) hx hb dX2_leadingClass_21 (by decide) (fun c_21 => ?_) (fun c_21 => ?_)
      · refine lv_iinc (v := nI ((i) + 1)) (lv' := [(4, .int (nI ((i) + 1))), (3, .int ((qLd (fun c => g (4 * s1 + c)) i).2)), (2, .int ((qLd (fun c => g (4 * s1 + c)) i).1)), (0, .ref (h0)), (1, .int (nI (s1)))]) hx hb dX2_leadingClass_35 hl (k := 0) rfl (show nI (i) + Int32.ofInt 1 = _ from nI_add (i) 1) (by decide) rfl (fun ls hl => ?_)
        refine lv_goto (tgt := 7) hx hb dX2_leadingClass_38 (by decide) ?_
        have e1 : qLd (fun c => g (4 * s1 + c)) (i + 1) = qLd (fun c => g (4 * s1 + c)) i := if_neg (Int32.not_lt.mpr c_21)
        exact ih (i + 1) (by omega) ls (by rw [e1]; exact lv_sub hl [0, 1, 2, 3, 4] rfl)
      · refine lv_iload hx hb dX2_leadingClass_24 (lv_at hl 0 rfl) ?_
        refine lv_istore_n (lv' := [(2, .int (nI (i))), (4, .int (nI (i))), (3, .int ((qLd (fun c => g (4 * s1 + c)) i).2)), (0, .ref (h0)), (1, .int (nI (s1)))]) hx hb dX2_leadingClass_26 rfl hl (by decide) rfl (fun ls hl => ?_)
        refine lv_aload_n hx hb dX2_leadingClass_27 rfl (lv_at hl 3 rfl) ?_
        refine lv_iload_n hx hb dX2_leadingClass_28 rfl (lv_at hl 4 rfl) ?_
        refine lv_iload hx hb dX2_leadingClass_29 (lv_at hl 1 rfl) ?_
        refine z_ci (z_vrun (rest := []) (own := RX2) (As := [.int (nI (s1)), .int (nI (i))]) hx hb hml hown hts hl.1 hK hP [0, 1] rfl (metX2_many l D ac h0 g0 g s1 i (by omega) (by omega)) gX2_leadingClass_X2_many rfl 2 (by decide +kernel) ⟨rfl, rfl, Nat.le_of_ble_eq_true rfl, Nat.le_of_ble_eq_true rfl⟩ 0 2 rfl rfl rfl rfl rfl (Nat.le_of_ble_eq_true rfl) dX2_leadingClass_31 ⟨Nat.zero_le _, Nat.zero_le _⟩) ?_
        refine lv_istore_n (lv' := [(3, .int (g (4 * s1 + i))), (2, .int (nI (i))), (4, .int (nI (i))), (0, .ref (h0)), (1, .int (nI (s1)))]) hx hb dX2_leadingClass_34 rfl hl (by decide) rfl (fun ls hl => ?_)
        refine lv_iinc (v := nI ((i) + 1)) (lv' := [(4, .int (nI ((i) + 1))), (3, .int (g (4 * s1 + i))), (2, .int (nI (i))), (0, .ref (h0)), (1, .int (nI (s1)))]) hx hb dX2_leadingClass_35 hl (k := 2) rfl (show nI (i) + Int32.ofInt 1 = _ from nI_add (i) 1) (by decide) rfl (fun ls hl => ?_)
        refine lv_goto (tgt := 7) hx hb dX2_leadingClass_38 (by decide) ?_
        have e1 : qLd (fun c => g (4 * s1 + c)) (i + 1) = (nI i, g (4 * s1 + i)) := if_pos (Int32.not_le.mp c_21)
        exact ih (i + 1) (by omega) ls (by rw [e1]; exact lv_sub hl [0, 1, 2, 3, 4] rfl)
  exact hL_7 (4) (0) (by omega) ls (lv_sub hl [0, 1, 2, 3, 4] rfl)

set_option maxRecDepth 100000 in
set_option maxHeartbeats 4000000 in
theorem metX2_changesOfLeader (l : Launch) (D : va_G) (ac : Nat → ClassId) (h0 : Nat) (g0 : Nat) (g : Nat → Int32)  : Met l yX2_changesOfLeader wsX2_changesOfLeader ({ frames := 2, cells := 0, slots := 0, locals := 46 } : Room) (va_Pc [.ref (h0)] (zW D ac [(h0, .inr (2, [.ref (g0)])), (g0, .inl (ac 0, 48, .inl (g)))])) (zRi (qChg g)) 0 0 (fun _ => False) := by
  refine z_ro (cc := cX2_changesOfLeader) (maxL := 5) (ret := (some .int)) (lv := [(0, .ref (h0))]) (by decide) rfl (Nat.le_of_ble_eq_true rfl) rfl ?_
  intro p e s m args below meth c ls hx hb hr hml hown hts hlocks hl hK hP
  refine lv_iconst (v := 0) hx hb dX2_changesOfLeader_0 (by decide) ?_
  refine lv_istore_n (lv' := [(1, .int (0)), (0, .ref (h0))]) hx hb dX2_changesOfLeader_1 rfl hl (by decide) rfl (fun ls hl => ?_)
  refine lv_iconst (v := (-1)) hx hb dX2_changesOfLeader_2 (by decide) ?_
  refine lv_istore_n (lv' := [(2, .int ((-1))), (1, .int (0)), (0, .ref (h0))]) hx hb dX2_changesOfLeader_3 rfl hl (by decide) rfl (fun ls hl => ?_)
  refine lv_iconst (v := 0) hx hb dX2_changesOfLeader_4 (by decide) ?_
  refine lv_istore_n (lv' := [(3, .int (0)), (2, .int ((-1))), (1, .int (0)), (0, .ref (h0))]) hx hb dX2_changesOfLeader_5 rfl hl (by decide) rfl (fun ls hl => ?_)
  have hL_6 : ∀ (n : Nat) (i : Nat), (i + n = 12) → ∀ (ls : Array Slot), lv_has ls 5 [(3, .int (nI (i))), (2, .int ((qCh (qLead g) i).2)), (1, .int ((qCh (qLead g) i).1)), (0, .ref (h0))] → W p l e ({ frames := 2, cells := 0, slots := 0, locals := 46 } : Room) s m args below meth c s.heap [] 0 0 (MQ below (zRi (qChg g)) args s 0 0 (fun _ => False)) (F0 m 6 ls []) := by
    intro n
    induction n with
    | zero =>
      intro i hi ls hl
      have e_i : 12 = i := by omega
      subst e_i
      refine lv_iload_n hx hb dX2_changesOfLeader_6 rfl (lv_at hl 0 rfl) ?_
      refine lv_bipush (v := 12) hx hb dX2_changesOfLeader_7 (by decide) ?_
      refine z_icmp_ge (tgt := 54) hx hb (12) (12) dX2_changesOfLeader_9 (by decide) (by omega) (by omega) rfl rfl (fun c_9 => ?_) (fun c_9 => absurd c_9 (by omega))
      refine lv_iload_n hx hb dX2_changesOfLeader_54 rfl (lv_at hl 2 rfl) ?_
      exact z_iret hx hb hr hlocks (rfl) dX2_changesOfLeader_55
    | succ n ih =>
      intro i hi ls hl
      refine lv_iload_n hx hb dX2_changesOfLeader_6 rfl (lv_at hl 0 rfl) ?_
      refine lv_bipush (v := 12) hx hb dX2_changesOfLeader_7 (by decide) ?_
      refine z_icmp_ge (tgt := 54) hx hb (i) (12) dX2_changesOfLeader_9 (by decide) (by omega) (by omega) rfl rfl (fun c_9 => absurd c_9 (by omega)) (fun c_9 => ?_)
      refine lv_aload_n hx hb dX2_changesOfLeader_12 rfl (lv_at hl 3 rfl) ?_
      refine lv_iload_n hx hb dX2_changesOfLeader_13 rfl (lv_at hl 0 rfl) ?_
      refine z_ci (z_vrun (rest := []) (own := RX2) (As := [.int (nI (i))]) hx hb hml hown hts hl.1 hK hP [0, 1] rfl (metX2_leadingClass l D ac h0 g0 g i (by omega)) gX2_changesOfLeader_X2_leadingClass rfl 1 (by decide +kernel) ⟨rfl, rfl, Nat.le_of_ble_eq_true rfl, Nat.le_of_ble_eq_true rfl⟩ 0 2 rfl rfl rfl rfl rfl (Nat.le_of_ble_eq_true rfl) dX2_changesOfLeader_14 ⟨Nat.zero_le _, Nat.zero_le _⟩) ?_
      refine lv_istore (lv' := [(4, .int (qLead g i)), (3, .int (nI (i))), (2, .int ((qCh (qLead g) i).2)), (1, .int ((qCh (qLead g) i).1)), (0, .ref (h0))]) hx hb dX2_changesOfLeader_17 hl (by decide) rfl (fun ls hl => ?_)
      refine lv_iload hx hb dX2_changesOfLeader_19 (lv_at hl 0 rfl) ?_
      refine lv_iconst (v := (-1)) hx hb dX2_changesOfLeader_21 (by decide) ?_
      refine lv_icmp_eq (tgt := 39) hx hb dX2_changesOfLeader_22 (by decide) (fun c_22 => ?_) (fun c_22 => ?_)
      · refine lv_iload hx hb dX2_changesOfLeader_39 (lv_at hl 0 rfl) ?_
        refine lv_iconst (v := (-1)) hx hb dX2_changesOfLeader_41 (by decide) ?_
        refine lv_icmp_eq (tgt := 48) hx hb dX2_changesOfLeader_42 (by decide) (fun c_42 => ?_) (fun c_42 => absurd c_42 (fun q => q c_22))
        refine lv_iinc (v := nI ((i) + 1)) (lv' := [(3, .int (nI ((i) + 1))), (4, .int (qLead g i)), (2, .int ((qCh (qLead g) i).2)), (1, .int ((qCh (qLead g) i).1)), (0, .ref (h0))]) hx hb dX2_changesOfLeader_48 hl (k := 1) rfl (show nI (i) + Int32.ofInt 1 = _ from nI_add (i) 1) (by decide) rfl (fun ls hl => ?_)
        refine lv_goto (tgt := 6) hx hb dX2_changesOfLeader_51 (by decide) ?_
        have e1 : qCh (qLead g) (i + 1) = ((qCh (qLead g) i).1, (qCh (qLead g) i).2) := by rw [qCh, if_neg (fun q => q.1 c_22), if_neg (fun q => q c_22)]
        exact ih (i + 1) (by omega) ls (by rw [e1]; exact lv_sub hl [0, 2, 3, 4] rfl)
      · refine lv_iload_n hx hb dX2_changesOfLeader_25 rfl (lv_at hl 2 rfl) ?_
        refine lv_iconst (v := (-1)) hx hb dX2_changesOfLeader_26 (by decide) ?_
        refine lv_icmp_eq (tgt := 39) hx hb dX2_changesOfLeader_27 (by decide) (fun c_27 => ?_) (fun c_27 => ?_)
        · refine lv_iload hx hb dX2_changesOfLeader_39 (lv_at hl 0 rfl) ?_
          refine lv_iconst (v := (-1)) hx hb dX2_changesOfLeader_41 (by decide) ?_
          refine lv_icmp_eq (tgt := 48) hx hb dX2_changesOfLeader_42 (by decide) (fun c_42 => absurd c_42 (c_22)) (fun c_42 => ?_)
          refine lv_iload hx hb dX2_changesOfLeader_45 (lv_at hl 0 rfl) ?_
          refine lv_istore_n (lv' := [(2, .int (qLead g i)), (4, .int (qLead g i)), (3, .int (nI (i))), (1, .int ((qCh (qLead g) i).1)), (0, .ref (h0))]) hx hb dX2_changesOfLeader_47 rfl hl (by decide) rfl (fun ls hl => ?_)
          refine lv_iinc (v := nI ((i) + 1)) (lv' := [(3, .int (nI ((i) + 1))), (2, .int (qLead g i)), (4, .int (qLead g i)), (1, .int ((qCh (qLead g) i).1)), (0, .ref (h0))]) hx hb dX2_changesOfLeader_48 hl (k := 2) rfl (show nI (i) + Int32.ofInt 1 = _ from nI_add (i) 1) (by decide) rfl (fun ls hl => ?_)
          refine lv_goto (tgt := 6) hx hb dX2_changesOfLeader_51 (by decide) ?_
          have e1 : qCh (qLead g) (i + 1) = ((qCh (qLead g) i).1, qLead g i) := by rw [qCh, if_neg (fun q => q.2.1 c_27), if_pos c_22]
          exact ih (i + 1) (by omega) ls (by rw [e1]; exact lv_sub hl [0, 1, 3, 4] rfl)
        · refine lv_iload hx hb dX2_changesOfLeader_30 (lv_at hl 0 rfl) ?_
          refine lv_iload_n hx hb dX2_changesOfLeader_32 rfl (lv_at hl 2 rfl) ?_
          refine lv_icmp_eq (tgt := 39) hx hb dX2_changesOfLeader_33 (by decide) (fun c_33 => ?_) (fun c_33 => ?_)
          · refine lv_iload hx hb dX2_changesOfLeader_39 (lv_at hl 0 rfl) ?_
            refine lv_iconst (v := (-1)) hx hb dX2_changesOfLeader_41 (by decide) ?_
            refine lv_icmp_eq (tgt := 48) hx hb dX2_changesOfLeader_42 (by decide) (fun c_42 => absurd c_42 (c_22)) (fun c_42 => ?_)
            refine lv_iload hx hb dX2_changesOfLeader_45 (lv_at hl 0 rfl) ?_
            refine lv_istore_n (lv' := [(2, .int (qLead g i)), (4, .int (qLead g i)), (3, .int (nI (i))), (1, .int ((qCh (qLead g) i).1)), (0, .ref (h0))]) hx hb dX2_changesOfLeader_47 rfl hl (by decide) rfl (fun ls hl => ?_)
            refine lv_iinc (v := nI ((i) + 1)) (lv' := [(3, .int (nI ((i) + 1))), (2, .int (qLead g i)), (4, .int (qLead g i)), (1, .int ((qCh (qLead g) i).1)), (0, .ref (h0))]) hx hb dX2_changesOfLeader_48 hl (k := 2) rfl (show nI (i) + Int32.ofInt 1 = _ from nI_add (i) 1) (by decide) rfl (fun ls hl => ?_)
            refine lv_goto (tgt := 6) hx hb dX2_changesOfLeader_51 (by decide) ?_
            have e1 : qCh (qLead g) (i + 1) = ((qCh (qLead g) i).1, qLead g i) := by rw [qCh, if_neg (fun q => q.2.2 c_33), if_pos c_22]
            exact ih (i + 1) (by omega) ls (by rw [e1]; exact lv_sub hl [0, 1, 3, 4] rfl)
          · refine lv_iinc (v := ((qCh (qLead g) i).1) + (1)) (lv' := [(1, .int (((qCh (qLead g) i).1) + (1))), (4, .int (qLead g i)), (3, .int (nI (i))), (2, .int ((qCh (qLead g) i).2)), (0, .ref (h0))]) hx hb dX2_changesOfLeader_36 hl (k := 3) rfl rfl (by decide) rfl (fun ls hl => ?_)
            refine lv_iload hx hb dX2_changesOfLeader_39 (lv_at hl 1 rfl) ?_
            refine lv_iconst (v := (-1)) hx hb dX2_changesOfLeader_41 (by decide) ?_
            refine lv_icmp_eq (tgt := 48) hx hb dX2_changesOfLeader_42 (by decide) (fun c_42 => absurd c_42 (c_22)) (fun c_42 => ?_)
            refine lv_iload hx hb dX2_changesOfLeader_45 (lv_at hl 1 rfl) ?_
            refine lv_istore_n (lv' := [(2, .int (qLead g i)), (1, .int (((qCh (qLead g) i).1) + (1))), (4, .int (qLead g i)), (3, .int (nI (i))), (0, .ref (h0))]) hx hb dX2_changesOfLeader_47 rfl hl (by decide) rfl (fun ls hl => ?_)
            refine lv_iinc (v := nI ((i) + 1)) (lv' := [(3, .int (nI ((i) + 1))), (2, .int (qLead g i)), (1, .int (((qCh (qLead g) i).1) + (1))), (4, .int (qLead g i)), (0, .ref (h0))]) hx hb dX2_changesOfLeader_48 hl (k := 3) rfl (show nI (i) + Int32.ofInt 1 = _ from nI_add (i) 1) (by decide) rfl (fun ls hl => ?_)
            refine lv_goto (tgt := 6) hx hb dX2_changesOfLeader_51 (by decide) ?_
            have e1 : qCh (qLead g) (i + 1) = ((qCh (qLead g) i).1 + 1, qLead g i) := by rw [qCh, if_pos ⟨c_22, c_27, c_33⟩, if_pos c_22]
            exact ih (i + 1) (by omega) ls (by rw [e1]; exact lv_sub hl [0, 1, 2, 4] rfl)
  exact hL_6 (12) (0) (by omega) ls (lv_sub hl [0, 1, 2, 3] rfl)

set_option maxRecDepth 100000 in
set_option maxHeartbeats 4000000 in
theorem metX2_purestSlice (l : Launch) (D : va_G) (ac : Nat → ClassId) (h0 : Nat) (g0 : Nat) (g : Nat → Int32) (k1 : Nat) (hk : k1 < 4) : Met l yX2_purestSlice wsX2_purestSlice ({ frames := 2, cells := 0, slots := 0, locals := 45 } : Room) (va_Pc [.ref (h0), .int (nI (k1))] (zW D ac [(h0, .inr (2, [.ref (g0)])), (g0, .inl (ac 0, 48, .inl (g)))])) (zRi ((qPu g k1 12).1)) 0 0 (fun _ => False) := by
  refine z_ro (cc := cX2_purestSlice) (maxL := 8) (ret := (some .int)) (lv := [(0, .ref (h0)), (1, .int (nI (k1)))]) (by decide) rfl (Nat.le_of_ble_eq_true rfl) rfl ?_
  intro p e s m args below meth c ls hx hb hr hml hown hts hlocks hl hK hP
  refine lv_iconst (v := (-1)) hx hb dX2_purestSlice_0 (by decide) ?_
  refine lv_istore_n (lv' := [(2, .int ((-1))), (0, .ref (h0)), (1, .int (nI (k1)))]) hx hb dX2_purestSlice_1 rfl hl (by decide) rfl (fun ls hl => ?_)
  refine lv_iconst (v := 0) hx hb dX2_purestSlice_2 (by decide) ?_
  refine lv_istore_n (lv' := [(3, .int (0)), (2, .int ((-1))), (0, .ref (h0)), (1, .int (nI (k1)))]) hx hb dX2_purestSlice_3 rfl hl (by decide) rfl (fun ls hl => ?_)
  refine lv_iconst (v := 1) hx hb dX2_purestSlice_4 (by decide) ?_
  refine lv_istore (lv' := [(4, .int (1)), (3, .int (0)), (2, .int ((-1))), (0, .ref (h0)), (1, .int (nI (k1)))]) hx hb dX2_purestSlice_5 hl (by decide) rfl (fun ls hl => ?_)
  refine lv_iconst (v := 0) hx hb dX2_purestSlice_7 (by decide) ?_
  refine lv_istore (lv' := [(5, .int (0)), (4, .int (1)), (3, .int (0)), (2, .int ((-1))), (0, .ref (h0)), (1, .int (nI (k1)))]) hx hb dX2_purestSlice_8 hl (by decide) rfl (fun ls hl => ?_)
  have hL_10 : ∀ (n : Nat) (i : Nat), (i + n = 12) → ∀ (ls : Array Slot), lv_has ls 8 [(5, .int (nI (i))), (4, .int ((qPu g k1 i).2.2)), (3, .int ((qPu g k1 i).2.1)), (2, .int ((qPu g k1 i).1)), (0, .ref (h0)), (1, .int (nI (k1)))] → W p l e ({ frames := 2, cells := 0, slots := 0, locals := 45 } : Room) s m args below meth c s.heap [] 0 0 (MQ below (zRi ((qPu g k1 12).1)) args s 0 0 (fun _ => False)) (F0 m 10 ls []) := by
    intro n
    induction n with
    | zero =>
      intro i hi ls hl
      have e_i : 12 = i := by omega
      subst e_i
      refine lv_iload hx hb dX2_purestSlice_10 (lv_at hl 0 rfl) ?_
      refine lv_bipush (v := 12) hx hb dX2_purestSlice_12 (by decide) ?_
      refine z_icmp_ge (tgt := 62) hx hb (12) (12) dX2_purestSlice_14 (by decide) (by omega) (by omega) rfl rfl (fun c_14 => ?_) (fun c_14 => absurd c_14 (by omega))
      refine lv_iload_n hx hb dX2_purestSlice_62 rfl (lv_at hl 3 rfl) ?_
      exact z_iret hx hb hr hlocks (rfl) dX2_purestSlice_63
    | succ n ih =>
      intro i hi ls hl
      refine lv_iload hx hb dX2_purestSlice_10 (lv_at hl 0 rfl) ?_
      refine lv_bipush (v := 12) hx hb dX2_purestSlice_12 (by decide) ?_
      refine z_icmp_ge (tgt := 62) hx hb (i) (12) dX2_purestSlice_14 (by decide) (by omega) (by omega) rfl rfl (fun c_14 => absurd c_14 (by omega)) (fun c_14 => ?_)
      refine lv_aload_n hx hb dX2_purestSlice_17 rfl (lv_at hl 4 rfl) ?_
      refine lv_iload hx hb dX2_purestSlice_18 (lv_at hl 0 rfl) ?_
      refine lv_iload_n hx hb dX2_purestSlice_20 rfl (lv_at hl 5 rfl) ?_
      refine z_ci (z_vrun (rest := []) (own := RX2) (As := [.int (nI (i)), .int (nI (k1))]) hx hb hml hown hts hl.1 hK hP [0, 1] rfl (metX2_many l D ac h0 g0 g i k1 (by omega) (by omega)) gX2_purestSlice_X2_many rfl 2 (by decide +kernel) ⟨rfl, rfl, Nat.le_of_ble_eq_true rfl, Nat.le_of_ble_eq_true rfl⟩ 0 2 rfl rfl rfl rfl rfl (Nat.le_of_ble_eq_true rfl) dX2_purestSlice_21 ⟨Nat.zero_le _, Nat.zero_le _⟩) ?_
      refine lv_istore (lv' := [(6, .int (g (4 * i + k1))), (5, .int (nI (i))), (4, .int ((qPu g k1 i).2.2)), (3, .int ((qPu g k1 i).2.1)), (2, .int ((qPu g k1 i).1)), (0, .ref (h0)), (1, .int (nI (k1)))]) hx hb dX2_purestSlice_24 hl (by decide) rfl (fun ls hl => ?_)
      refine lv_aload_n hx hb dX2_purestSlice_26 rfl (lv_at hl 5 rfl) ?_
      refine lv_iload hx hb dX2_purestSlice_27 (lv_at hl 1 rfl) ?_
      refine z_ci (z_vrun (rest := []) (own := RX2) (As := [.int (nI (i))]) hx hb hml hown hts hl.1 hK hP [0, 1] rfl (metX2_allIn l D ac h0 g0 g i (by omega)) gX2_purestSlice_X2_allIn rfl 1 (by decide +kernel) ⟨rfl, rfl, Nat.le_of_ble_eq_true rfl, Nat.le_of_ble_eq_true rfl⟩ 0 2 rfl rfl rfl rfl rfl (Nat.le_of_ble_eq_true rfl) dX2_purestSlice_29 ⟨Nat.zero_le _, Nat.zero_le _⟩) ?_
      refine lv_istore (lv' := [(7, .int (qIn g i)), (6, .int (g (4 * i + k1))), (5, .int (nI (i))), (4, .int ((qPu g k1 i).2.2)), (3, .int ((qPu g k1 i).2.1)), (2, .int ((qPu g k1 i).1)), (0, .ref (h0)), (1, .int (nI (k1)))]) hx hb dX2_purestSlice_32 hl (by decide) rfl (fun ls hl => ?_)
      refine lv_iload hx hb dX2_purestSlice_34 (lv_at hl 1 rfl) ?_
      refine lv_iload hx hb dX2_purestSlice_36 (lv_at hl 3 rfl) ?_
      refine lv_imul hx hb dX2_purestSlice_38 ?_
      refine lv_iload_n hx hb dX2_purestSlice_39 rfl (lv_at hl 4 rfl) ?_
      refine lv_iload hx hb dX2_purestSlice_40 (lv_at hl 0 rfl) ?_
      refine lv_imul hx hb dX2_purestSlice_42 ?_
      refine lv_icmp_le (tgt := 56) hx hb dX2_purestSlice_43 (by decide) (fun c_43 => ?_) (fun c_43 => ?_)
      · refine lv_iinc (v := nI ((i) + 1)) (lv' := [(5, .int (nI ((i) + 1))), (7, .int (qIn g i)), (6, .int (g (4 * i + k1))), (4, .int ((qPu g k1 i).2.2)), (3, .int ((qPu g k1 i).2.1)), (2, .int ((qPu g k1 i).1)), (0, .ref (h0)), (1, .int (nI (k1)))]) hx hb dX2_purestSlice_56 hl (k := 2) rfl (show nI (i) + Int32.ofInt 1 = _ from nI_add (i) 1) (by decide) rfl (fun ls hl => ?_)
        refine lv_goto (tgt := 10) hx hb dX2_purestSlice_59 (by decide) ?_
        have e1 : qPu g k1 (i + 1) = qPu g k1 i := if_neg (Int32.not_lt.mpr c_43)
        exact ih (i + 1) (by omega) ls (by rw [e1]; exact lv_sub hl [0, 3, 4, 5, 6, 7] rfl)
      · refine lv_iload hx hb dX2_purestSlice_46 (lv_at hl 2 rfl) ?_
        refine lv_istore_n (lv' := [(2, .int (nI (i))), (7, .int (qIn g i)), (6, .int (g (4 * i + k1))), (5, .int (nI (i))), (4, .int ((qPu g k1 i).2.2)), (3, .int ((qPu g k1 i).2.1)), (0, .ref (h0)), (1, .int (nI (k1)))]) hx hb dX2_purestSlice_48 rfl hl (by decide) rfl (fun ls hl => ?_)
        refine lv_iload hx hb dX2_purestSlice_49 (lv_at hl 2 rfl) ?_
        refine lv_istore_n (lv' := [(3, .int (g (4 * i + k1))), (2, .int (nI (i))), (7, .int (qIn g i)), (6, .int (g (4 * i + k1))), (5, .int (nI (i))), (4, .int ((qPu g k1 i).2.2)), (0, .ref (h0)), (1, .int (nI (k1)))]) hx hb dX2_purestSlice_51 rfl hl (by decide) rfl (fun ls hl => ?_)
        refine lv_iload hx hb dX2_purestSlice_52 (lv_at hl 2 rfl) ?_
        refine lv_istore (lv' := [(4, .int (qIn g i)), (3, .int (g (4 * i + k1))), (2, .int (nI (i))), (7, .int (qIn g i)), (6, .int (g (4 * i + k1))), (5, .int (nI (i))), (0, .ref (h0)), (1, .int (nI (k1)))]) hx hb dX2_purestSlice_54 hl (by decide) rfl (fun ls hl => ?_)
        refine lv_iinc (v := nI ((i) + 1)) (lv' := [(5, .int (nI ((i) + 1))), (4, .int (qIn g i)), (3, .int (g (4 * i + k1))), (2, .int (nI (i))), (7, .int (qIn g i)), (6, .int (g (4 * i + k1))), (0, .ref (h0)), (1, .int (nI (k1)))]) hx hb dX2_purestSlice_56 hl (k := 5) rfl (show nI (i) + Int32.ofInt 1 = _ from nI_add (i) 1) (by decide) rfl (fun ls hl => ?_)
        refine lv_goto (tgt := 10) hx hb dX2_purestSlice_59 (by decide) ?_
        have e1 : qPu g k1 (i + 1) = (nI i, g (4 * i + k1), qIn g i) := if_pos (Int32.not_le.mp c_43)
        exact ih (i + 1) (by omega) ls (by rw [e1]; exact lv_sub hl [0, 1, 2, 3, 6, 7] rfl)
  exact hL_10 (12) (0) (by omega) ls (lv_sub hl [0, 1, 2, 3, 4, 5] rfl)

set_option maxRecDepth 100000 in
set_option maxHeartbeats 4000000 in
theorem metX2_bedSlices (l : Launch) (D : va_G) (ac : Nat → ClassId) (h0 : Nat) (g0 : Nat) (g : Nat → Int32) (h1 : Nat) (v0 : Nat) (w0 : Nat) (v : Nat → Int32) (w : Nat → Int32)  : Met l yX2_bedSlices wsX2_bedSlices ({ frames := 2, cells := 0, slots := 0, locals := 45 } : Room) (va_Pc [.ref (h0), .ref (h1)] (zW D ac [(h0, .inr (2, [.ref (g0)])), (g0, .inl (ac 0, 48, .inl (g))), (h1, .inr (3, [.ref (v0), .ref (w0)])), (v0, .inl (ac 0, 4, .inl (v))), (w0, .inl (ac 0, 4, .inl (w)))])) (zRi (nI (qBed g (v 1)))) 0 0 (fun _ => False) := by
  refine z_ro (cc := cX2_bedSlices) (maxL := 3) (ret := (some .int)) (lv := [(0, .ref (h0)), (1, .ref (h1))]) (by decide) rfl (Nat.le_of_ble_eq_true rfl) rfl ?_
  intro p e s m args below meth c ls hx hb hr hml hown hts hlocks hl hK hP
  refine lv_iconst (v := 0) hx hb dX2_bedSlices_0 (by decide) ?_
  refine lv_istore_n (lv' := [(2, .int (0)), (0, .ref (h0)), (1, .ref (h1))]) hx hb dX2_bedSlices_1 rfl hl (by decide) rfl (fun ls hl => ?_)
  have hL_2 : ∀ (n : Nat) (i : Nat), (i + n = 12) → (qBed g (v 1) = qRun (fun i => decide (v 1 ≤ qIn g (11 - i))) n i) → ∀ (ls : Array Slot), lv_has ls 3 [(2, .int (nI (i))), (0, .ref (h0)), (1, .ref (h1))] → W p l e ({ frames := 2, cells := 0, slots := 0, locals := 45 } : Room) s m args below meth c s.heap [] 0 0 (MQ below (zRi (nI (qBed g (v 1)))) args s 0 0 (fun _ => False)) (F0 m 2 ls []) := by
    intro n
    induction n with
    | zero =>
      intro i hi hR ls hl
      have e_i : 12 = i := by omega
      subst e_i
      refine lv_iload_n hx hb dX2_bedSlices_2 rfl (lv_at hl 0 rfl) ?_
      refine lv_bipush (v := 12) hx hb dX2_bedSlices_3 (by decide) ?_
      refine z_icmp_ge (tgt := 29) hx hb (12) (12) dX2_bedSlices_5 (by decide) (by omega) (by omega) rfl rfl (fun c_5 => ?_) (fun c_5 => absurd c_5 (by omega))
      refine lv_iload_n hx hb dX2_bedSlices_29 rfl (lv_at hl 0 rfl) ?_
      exact z_iret hx hb hr hlocks (congrArg nI hR.symm) dX2_bedSlices_30
    | succ n ih =>
      intro i hi hR ls hl
      refine lv_iload_n hx hb dX2_bedSlices_2 rfl (lv_at hl 0 rfl) ?_
      refine lv_bipush (v := 12) hx hb dX2_bedSlices_3 (by decide) ?_
      refine z_icmp_ge (tgt := 29) hx hb (i) (12) dX2_bedSlices_5 (by decide) (by omega) (by omega) rfl rfl (fun c_5 => absurd c_5 (by omega)) (fun c_5 => ?_)
      refine lv_aload_n hx hb dX2_bedSlices_8 rfl (lv_at hl 2 rfl) ?_
      refine lv_aload_n hx hb dX2_bedSlices_9 rfl (lv_at hl 1 rfl) ?_
      refine lv_bipush (v := 11) hx hb dX2_bedSlices_10 (by decide) ?_
      refine lv_iload_n hx hb dX2_bedSlices_12 rfl (lv_at hl 0 rfl) ?_
      refine lv_isub hx hb dX2_bedSlices_13 ?_
      refine z_top (y := nI ((11) - (i))) (pk_sub (a := 11) (b := i) (by omega)) ?_
      refine z_ci (z_vrun (rest := [.ref (h1)]) (own := RX2) (As := [.int (nI ((11) - (i)))]) hx hb hml hown hts hl.1 hK hP [0, 1] rfl (metX2_allIn l D ac h0 g0 g ((11) - (i)) (by omega)) gX2_bedSlices_X2_allIn rfl 1 (by decide +kernel) ⟨rfl, rfl, Nat.le_of_ble_eq_true rfl, Nat.le_of_ble_eq_true rfl⟩ 0 2 rfl rfl rfl rfl rfl (Nat.le_of_ble_eq_true rfl) dX2_bedSlices_14 ⟨Nat.zero_le _, Nat.zero_le _⟩) ?_
      refine z_ci (z_vrun (rest := []) (own := RX2) (As := [.int (qIn g ((11) - (i)))]) hx hb hml hown hts hl.1 hK hP [2, 3, 4] rfl (metX3_isPacked l D ac h1 v0 w0 v w (qIn g ((11) - (i))) ) gX2_bedSlices_X3_isPacked rfl 1 (by decide +kernel) ⟨rfl, rfl, Nat.le_of_ble_eq_true rfl, Nat.le_of_ble_eq_true rfl⟩ 2 3 rfl rfl rfl rfl rfl (Nat.le_of_ble_eq_true rfl) dX2_bedSlices_17 ⟨Nat.zero_le _, Nat.zero_le _⟩) ?_
      refine z_if_eq (C := v 1 ≤ (qIn g ((11) - (i)))) (tgt := 29) hx hb dX2_bedSlices_20 (by decide) (fun c_20 => ?_) (fun c_20 => ?_)
      · refine lv_iload_n hx hb dX2_bedSlices_29 rfl (lv_at hl 0 rfl) ?_
        exact z_iret hx hb hr hlocks (congrArg nI (hR.trans (if_neg (fun q => c_20 (of_decide_eq_true q)))).symm) dX2_bedSlices_30
      · refine lv_iinc (v := nI ((i) + 1)) (lv' := [(2, .int (nI ((i) + 1))), (0, .ref (h0)), (1, .ref (h1))]) hx hb dX2_bedSlices_23 hl (k := 0) rfl (show nI (i) + Int32.ofInt 1 = _ from nI_add (i) 1) (by decide) rfl (fun ls hl => ?_)
        refine lv_goto (tgt := 2) hx hb dX2_bedSlices_26 (by decide) ?_
        exact ih (i + 1) (by omega) (hR.trans (if_pos (decide_eq_true c_20))) ls (lv_sub hl [0, 1, 2] rfl)
  exact hL_2 (12) (0) (by omega) (rfl) ls (lv_sub hl [0, 1, 2] rfl)

set_option maxRecDepth 100000 in
set_option maxHeartbeats 4000000 in
theorem metX2_clearWater (l : Launch) (D : va_G) (ac : Nat → ClassId) (h0 : Nat) (g0 : Nat) (g : Nat → Int32) (h1 : Nat) (v0 : Nat) (w0 : Nat) (v : Nat → Int32) (w : Nat → Int32)  : Met l yX2_clearWater wsX2_clearWater ({ frames := 2, cells := 0, slots := 0, locals := 45 } : Room) (va_Pc [.ref (h0), .ref (h1)] (zW D ac [(h0, .inr (2, [.ref (g0)])), (g0, .inl (ac 0, 48, .inl (g))), (h1, .inr (3, [.ref (v0), .ref (w0)])), (v0, .inl (ac 0, 4, .inl (v))), (w0, .inl (ac 0, 4, .inl (w)))])) (zRi (nI (qClr g (v 2)))) 0 0 (fun _ => False) := by
  refine z_ro (cc := cX2_clearWater) (maxL := 3) (ret := (some .int)) (lv := [(0, .ref (h0)), (1, .ref (h1))]) (by decide) rfl (Nat.le_of_ble_eq_true rfl) rfl ?_
  intro p e s m args below meth c ls hx hb hr hml hown hts hlocks hl hK hP
  refine lv_iconst (v := 0) hx hb dX2_clearWater_0 (by decide) ?_
  refine lv_istore_n (lv' := [(2, .int (0)), (0, .ref (h0)), (1, .ref (h1))]) hx hb dX2_clearWater_1 rfl hl (by decide) rfl (fun ls hl => ?_)
  have hL_2 : ∀ (n : Nat) (i : Nat), (i + n = 12) → (qClr g (v 2) = qRun (fun i => decide (qIn g i ≤ v 2)) n i) → ∀ (ls : Array Slot), lv_has ls 3 [(2, .int (nI (i))), (0, .ref (h0)), (1, .ref (h1))] → W p l e ({ frames := 2, cells := 0, slots := 0, locals := 45 } : Room) s m args below meth c s.heap [] 0 0 (MQ below (zRi (nI (qClr g (v 2)))) args s 0 0 (fun _ => False)) (F0 m 2 ls []) := by
    intro n
    induction n with
    | zero =>
      intro i hi hR ls hl
      have e_i : 12 = i := by omega
      subst e_i
      refine lv_iload_n hx hb dX2_clearWater_2 rfl (lv_at hl 0 rfl) ?_
      refine lv_bipush (v := 12) hx hb dX2_clearWater_3 (by decide) ?_
      refine z_icmp_ge (tgt := 26) hx hb (12) (12) dX2_clearWater_5 (by decide) (by omega) (by omega) rfl rfl (fun c_5 => ?_) (fun c_5 => absurd c_5 (by omega))
      refine lv_iload_n hx hb dX2_clearWater_26 rfl (lv_at hl 0 rfl) ?_
      exact z_iret hx hb hr hlocks (congrArg nI hR.symm) dX2_clearWater_27
    | succ n ih =>
      intro i hi hR ls hl
      refine lv_iload_n hx hb dX2_clearWater_2 rfl (lv_at hl 0 rfl) ?_
      refine lv_bipush (v := 12) hx hb dX2_clearWater_3 (by decide) ?_
      refine z_icmp_ge (tgt := 26) hx hb (i) (12) dX2_clearWater_5 (by decide) (by omega) (by omega) rfl rfl (fun c_5 => absurd c_5 (by omega)) (fun c_5 => ?_)
      refine lv_aload_n hx hb dX2_clearWater_8 rfl (lv_at hl 2 rfl) ?_
      refine lv_aload_n hx hb dX2_clearWater_9 rfl (lv_at hl 1 rfl) ?_
      refine lv_iload_n hx hb dX2_clearWater_10 rfl (lv_at hl 0 rfl) ?_
      refine z_ci (z_vrun (rest := [.ref (h1)]) (own := RX2) (As := [.int (nI (i))]) hx hb hml hown hts hl.1 hK hP [0, 1] rfl (metX2_allIn l D ac h0 g0 g i (by omega)) gX2_clearWater_X2_allIn rfl 1 (by decide +kernel) ⟨rfl, rfl, Nat.le_of_ble_eq_true rfl, Nat.le_of_ble_eq_true rfl⟩ 0 2 rfl rfl rfl rfl rfl (Nat.le_of_ble_eq_true rfl) dX2_clearWater_11 ⟨Nat.zero_le _, Nat.zero_le _⟩) ?_
      refine z_ci (z_vrun (rest := []) (own := RX2) (As := [.int (qIn g i)]) hx hb hml hown hts hl.1 hK hP [2, 3, 4] rfl (metX3_isClear l D ac h1 v0 w0 v w (qIn g i) ) gX2_clearWater_X3_isClear rfl 1 (by decide +kernel) ⟨rfl, rfl, Nat.le_of_ble_eq_true rfl, Nat.le_of_ble_eq_true rfl⟩ 2 3 rfl rfl rfl rfl rfl (Nat.le_of_ble_eq_true rfl) dX2_clearWater_14 ⟨Nat.zero_le _, Nat.zero_le _⟩) ?_
      refine z_if_eq (C := (qIn g i) ≤ v 2) (tgt := 26) hx hb dX2_clearWater_17 (by decide) (fun c_17 => ?_) (fun c_17 => ?_)
      · refine lv_iload_n hx hb dX2_clearWater_26 rfl (lv_at hl 0 rfl) ?_
        exact z_iret hx hb hr hlocks (congrArg nI (hR.trans (if_neg (fun q => c_17 (of_decide_eq_true q)))).symm) dX2_clearWater_27
      · refine lv_iinc (v := nI ((i) + 1)) (lv' := [(2, .int (nI ((i) + 1))), (0, .ref (h0)), (1, .ref (h1))]) hx hb dX2_clearWater_20 hl (k := 0) rfl (show nI (i) + Int32.ofInt 1 = _ from nI_add (i) 1) (by decide) rfl (fun ls hl => ?_)
        refine lv_goto (tgt := 2) hx hb dX2_clearWater_23 (by decide) ?_
        exact ih (i + 1) (by omega) (hR.trans (if_pos (decide_eq_true c_17))) ls (lv_sub hl [0, 1, 2] rfl)
  exact hL_2 (12) (0) (by omega) (rfl) ls (lv_sub hl [0, 1, 2] rfl)

set_option maxRecDepth 100000 in
set_option maxHeartbeats 4000000 in
theorem metX2_packedSlices (l : Launch) (D : va_G) (ac : Nat → ClassId) (h0 : Nat) (g0 : Nat) (g : Nat → Int32) (h1 : Nat) (v0 : Nat) (w0 : Nat) (v : Nat → Int32) (w : Nat → Int32)  : Met l yX2_packedSlices wsX2_packedSlices ({ frames := 2, cells := 0, slots := 0, locals := 45 } : Room) (va_Pc [.ref (h0), .ref (h1)] (zW D ac [(h0, .inr (2, [.ref (g0)])), (g0, .inl (ac 0, 48, .inl (g))), (h1, .inr (3, [.ref (v0), .ref (w0)])), (v0, .inl (ac 0, 4, .inl (v))), (w0, .inl (ac 0, 4, .inl (w)))])) (zRi (qPkd g (v 1) 12)) 0 0 (fun _ => False) := by
  refine z_ro (cc := cX2_packedSlices) (maxL := 4) (ret := (some .int)) (lv := [(0, .ref (h0)), (1, .ref (h1))]) (by decide) rfl (Nat.le_of_ble_eq_true rfl) rfl ?_
  intro p e s m args below meth c ls hx hb hr hml hown hts hlocks hl hK hP
  refine lv_iconst (v := 0) hx hb dX2_packedSlices_0 (by decide) ?_
  refine lv_istore_n (lv' := [(2, .int (0)), (0, .ref (h0)), (1, .ref (h1))]) hx hb dX2_packedSlices_1 rfl hl (by decide) rfl (fun ls hl => ?_)
  refine lv_iconst (v := 0) hx hb dX2_packedSlices_2 (by decide) ?_
  refine lv_istore_n (lv' := [(3, .int (0)), (2, .int (0)), (0, .ref (h0)), (1, .ref (h1))]) hx hb dX2_packedSlices_3 rfl hl (by decide) rfl (fun ls hl => ?_)
  have hL_4 : ∀ (n : Nat) (i : Nat), (i + n = 12) → ∀ (ls : Array Slot), lv_has ls 4 [(3, .int (nI (i))), (2, .int (qPkd g (v 1) i)), (0, .ref (h0)), (1, .ref (h1))] → W p l e ({ frames := 2, cells := 0, slots := 0, locals := 45 } : Room) s m args below meth c s.heap [] 0 0 (MQ below (zRi (qPkd g (v 1) 12)) args s 0 0 (fun _ => False)) (F0 m 4 ls []) := by
    intro n
    induction n with
    | zero =>
      intro i hi ls hl
      have e_i : 12 = i := by omega
      subst e_i
      refine lv_iload_n hx hb dX2_packedSlices_4 rfl (lv_at hl 0 rfl) ?_
      refine lv_bipush (v := 12) hx hb dX2_packedSlices_5 (by decide) ?_
      refine z_icmp_ge (tgt := 31) hx hb (12) (12) dX2_packedSlices_7 (by decide) (by omega) (by omega) rfl rfl (fun c_7 => ?_) (fun c_7 => absurd c_7 (by omega))
      refine lv_iload_n hx hb dX2_packedSlices_31 rfl (lv_at hl 1 rfl) ?_
      exact z_iret hx hb hr hlocks (rfl) dX2_packedSlices_32
    | succ n ih =>
      intro i hi ls hl
      refine lv_iload_n hx hb dX2_packedSlices_4 rfl (lv_at hl 0 rfl) ?_
      refine lv_bipush (v := 12) hx hb dX2_packedSlices_5 (by decide) ?_
      refine z_icmp_ge (tgt := 31) hx hb (i) (12) dX2_packedSlices_7 (by decide) (by omega) (by omega) rfl rfl (fun c_7 => absurd c_7 (by omega)) (fun c_7 => ?_)
      refine lv_aload_n hx hb dX2_packedSlices_10 rfl (lv_at hl 3 rfl) ?_
      refine lv_aload_n hx hb dX2_packedSlices_11 rfl (lv_at hl 2 rfl) ?_
      refine lv_iload_n hx hb dX2_packedSlices_12 rfl (lv_at hl 0 rfl) ?_
      refine z_ci (z_vrun (rest := [.ref (h1)]) (own := RX2) (As := [.int (nI (i))]) hx hb hml hown hts hl.1 hK hP [0, 1] rfl (metX2_allIn l D ac h0 g0 g i (by omega)) gX2_packedSlices_X2_allIn rfl 1 (by decide +kernel) ⟨rfl, rfl, Nat.le_of_ble_eq_true rfl, Nat.le_of_ble_eq_true rfl⟩ 0 2 rfl rfl rfl rfl rfl (Nat.le_of_ble_eq_true rfl) dX2_packedSlices_13 ⟨Nat.zero_le _, Nat.zero_le _⟩) ?_
      refine z_ci (z_vrun (rest := []) (own := RX2) (As := [.int (qIn g i)]) hx hb hml hown hts hl.1 hK hP [2, 3, 4] rfl (metX3_isPacked l D ac h1 v0 w0 v w (qIn g i) ) gX2_packedSlices_X3_isPacked rfl 1 (by decide +kernel) ⟨rfl, rfl, Nat.le_of_ble_eq_true rfl, Nat.le_of_ble_eq_true rfl⟩ 2 3 rfl rfl rfl rfl rfl (Nat.le_of_ble_eq_true rfl) dX2_packedSlices_16 ⟨Nat.zero_le _, Nat.zero_le _⟩) ?_
      refine z_if_eq (C := v 1 ≤ (qIn g i)) (tgt := 25) hx hb dX2_packedSlices_19 (by decide) (fun c_19 => ?_) (fun c_19 => ?_)
      · refine lv_iinc (v := nI ((i) + 1)) (lv' := [(3, .int (nI ((i) + 1))), (2, .int (qPkd g (v 1) i)), (0, .ref (h0)), (1, .ref (h1))]) hx hb dX2_packedSlices_25 hl (k := 0) rfl (show nI (i) + Int32.ofInt 1 = _ from nI_add (i) 1) (by decide) rfl (fun ls hl => ?_)
        refine lv_goto (tgt := 4) hx hb dX2_packedSlices_28 (by decide) ?_
        have e1 : qPkd g (v 1) (i + 1) = qPkd g (v 1) i := (congrArg (fun x => qPkd g (v 1) i + x) (if_neg c_19)).trans (Int32.add_zero _)
        exact ih (i + 1) (by omega) ls (by rw [e1]; exact lv_sub hl [0, 1, 2, 3] rfl)
      · refine lv_iinc (v := (qPkd g (v 1) i) + (1)) (lv' := [(2, .int ((qPkd g (v 1) i) + (1))), (3, .int (nI (i))), (0, .ref (h0)), (1, .ref (h1))]) hx hb dX2_packedSlices_22 hl (k := 1) rfl rfl (by decide) rfl (fun ls hl => ?_)
        refine lv_iinc (v := nI ((i) + 1)) (lv' := [(3, .int (nI ((i) + 1))), (2, .int ((qPkd g (v 1) i) + (1))), (0, .ref (h0)), (1, .ref (h1))]) hx hb dX2_packedSlices_25 hl (k := 1) rfl (show nI (i) + Int32.ofInt 1 = _ from nI_add (i) 1) (by decide) rfl (fun ls hl => ?_)
        refine lv_goto (tgt := 4) hx hb dX2_packedSlices_28 (by decide) ?_
        have e1 : qPkd g (v 1) (i + 1) = qPkd g (v 1) i + 1 := (congrArg (fun x => qPkd g (v 1) i + x) (if_pos c_19))
        exact ih (i + 1) (by omega) ls (by rw [e1]; exact lv_sub hl [0, 1, 2, 3] rfl)
  exact hL_4 (12) (0) (by omega) ls (lv_sub hl [0, 1, 2, 3] rfl)

set_option maxRecDepth 100000 in
set_option maxHeartbeats 4000000 in
theorem metX2_clearSlices (l : Launch) (D : va_G) (ac : Nat → ClassId) (h0 : Nat) (g0 : Nat) (g : Nat → Int32) (h1 : Nat) (v0 : Nat) (w0 : Nat) (v : Nat → Int32) (w : Nat → Int32)  : Met l yX2_clearSlices wsX2_clearSlices ({ frames := 2, cells := 0, slots := 0, locals := 45 } : Room) (va_Pc [.ref (h0), .ref (h1)] (zW D ac [(h0, .inr (2, [.ref (g0)])), (g0, .inl (ac 0, 48, .inl (g))), (h1, .inr (3, [.ref (v0), .ref (w0)])), (v0, .inl (ac 0, 4, .inl (v))), (w0, .inl (ac 0, 4, .inl (w)))])) (zRi (qClrs g (v 2) 12)) 0 0 (fun _ => False) := by
  refine z_ro (cc := cX2_clearSlices) (maxL := 4) (ret := (some .int)) (lv := [(0, .ref (h0)), (1, .ref (h1))]) (by decide) rfl (Nat.le_of_ble_eq_true rfl) rfl ?_
  intro p e s m args below meth c ls hx hb hr hml hown hts hlocks hl hK hP
  refine lv_iconst (v := 0) hx hb dX2_clearSlices_0 (by decide) ?_
  refine lv_istore_n (lv' := [(2, .int (0)), (0, .ref (h0)), (1, .ref (h1))]) hx hb dX2_clearSlices_1 rfl hl (by decide) rfl (fun ls hl => ?_)
  refine lv_iconst (v := 0) hx hb dX2_clearSlices_2 (by decide) ?_
  refine lv_istore_n (lv' := [(3, .int (0)), (2, .int (0)), (0, .ref (h0)), (1, .ref (h1))]) hx hb dX2_clearSlices_3 rfl hl (by decide) rfl (fun ls hl => ?_)
  have hL_4 : ∀ (n : Nat) (i : Nat), (i + n = 12) → ∀ (ls : Array Slot), lv_has ls 4 [(3, .int (nI (i))), (2, .int (qClrs g (v 2) i)), (0, .ref (h0)), (1, .ref (h1))] → W p l e ({ frames := 2, cells := 0, slots := 0, locals := 45 } : Room) s m args below meth c s.heap [] 0 0 (MQ below (zRi (qClrs g (v 2) 12)) args s 0 0 (fun _ => False)) (F0 m 4 ls []) := by
    intro n
    induction n with
    | zero =>
      intro i hi ls hl
      have e_i : 12 = i := by omega
      subst e_i
      refine lv_iload_n hx hb dX2_clearSlices_4 rfl (lv_at hl 0 rfl) ?_
      refine lv_bipush (v := 12) hx hb dX2_clearSlices_5 (by decide) ?_
      refine z_icmp_ge (tgt := 31) hx hb (12) (12) dX2_clearSlices_7 (by decide) (by omega) (by omega) rfl rfl (fun c_7 => ?_) (fun c_7 => absurd c_7 (by omega))
      refine lv_iload_n hx hb dX2_clearSlices_31 rfl (lv_at hl 1 rfl) ?_
      exact z_iret hx hb hr hlocks (rfl) dX2_clearSlices_32
    | succ n ih =>
      intro i hi ls hl
      refine lv_iload_n hx hb dX2_clearSlices_4 rfl (lv_at hl 0 rfl) ?_
      refine lv_bipush (v := 12) hx hb dX2_clearSlices_5 (by decide) ?_
      refine z_icmp_ge (tgt := 31) hx hb (i) (12) dX2_clearSlices_7 (by decide) (by omega) (by omega) rfl rfl (fun c_7 => absurd c_7 (by omega)) (fun c_7 => ?_)
      refine lv_aload_n hx hb dX2_clearSlices_10 rfl (lv_at hl 3 rfl) ?_
      refine lv_aload_n hx hb dX2_clearSlices_11 rfl (lv_at hl 2 rfl) ?_
      refine lv_iload_n hx hb dX2_clearSlices_12 rfl (lv_at hl 0 rfl) ?_
      refine z_ci (z_vrun (rest := [.ref (h1)]) (own := RX2) (As := [.int (nI (i))]) hx hb hml hown hts hl.1 hK hP [0, 1] rfl (metX2_allIn l D ac h0 g0 g i (by omega)) gX2_clearSlices_X2_allIn rfl 1 (by decide +kernel) ⟨rfl, rfl, Nat.le_of_ble_eq_true rfl, Nat.le_of_ble_eq_true rfl⟩ 0 2 rfl rfl rfl rfl rfl (Nat.le_of_ble_eq_true rfl) dX2_clearSlices_13 ⟨Nat.zero_le _, Nat.zero_le _⟩) ?_
      refine z_ci (z_vrun (rest := []) (own := RX2) (As := [.int (qIn g i)]) hx hb hml hown hts hl.1 hK hP [2, 3, 4] rfl (metX3_isClear l D ac h1 v0 w0 v w (qIn g i) ) gX2_clearSlices_X3_isClear rfl 1 (by decide +kernel) ⟨rfl, rfl, Nat.le_of_ble_eq_true rfl, Nat.le_of_ble_eq_true rfl⟩ 2 3 rfl rfl rfl rfl rfl (Nat.le_of_ble_eq_true rfl) dX2_clearSlices_16 ⟨Nat.zero_le _, Nat.zero_le _⟩) ?_
      refine z_if_eq (C := (qIn g i) ≤ v 2) (tgt := 25) hx hb dX2_clearSlices_19 (by decide) (fun c_19 => ?_) (fun c_19 => ?_)
      · refine lv_iinc (v := nI ((i) + 1)) (lv' := [(3, .int (nI ((i) + 1))), (2, .int (qClrs g (v 2) i)), (0, .ref (h0)), (1, .ref (h1))]) hx hb dX2_clearSlices_25 hl (k := 0) rfl (show nI (i) + Int32.ofInt 1 = _ from nI_add (i) 1) (by decide) rfl (fun ls hl => ?_)
        refine lv_goto (tgt := 4) hx hb dX2_clearSlices_28 (by decide) ?_
        have e1 : qClrs g (v 2) (i + 1) = qClrs g (v 2) i := (congrArg (fun x => qClrs g (v 2) i + x) (if_neg c_19)).trans (Int32.add_zero _)
        exact ih (i + 1) (by omega) ls (by rw [e1]; exact lv_sub hl [0, 1, 2, 3] rfl)
      · refine lv_iinc (v := (qClrs g (v 2) i) + (1)) (lv' := [(2, .int ((qClrs g (v 2) i) + (1))), (3, .int (nI (i))), (0, .ref (h0)), (1, .ref (h1))]) hx hb dX2_clearSlices_22 hl (k := 1) rfl rfl (by decide) rfl (fun ls hl => ?_)
        refine lv_iinc (v := nI ((i) + 1)) (lv' := [(3, .int (nI ((i) + 1))), (2, .int ((qClrs g (v 2) i) + (1))), (0, .ref (h0)), (1, .ref (h1))]) hx hb dX2_clearSlices_25 hl (k := 1) rfl (show nI (i) + Int32.ofInt 1 = _ from nI_add (i) 1) (by decide) rfl (fun ls hl => ?_)
        refine lv_goto (tgt := 4) hx hb dX2_clearSlices_28 (by decide) ?_
        have e1 : qClrs g (v 2) (i + 1) = qClrs g (v 2) i + 1 := (congrArg (fun x => qClrs g (v 2) i + x) (if_pos c_19))
        exact ih (i + 1) (by omega) ls (by rw [e1]; exact lv_sub hl [0, 1, 2, 3] rfl)
  exact hL_4 (12) (0) (by omega) ls (lv_sub hl [0, 1, 2, 3] rfl)

set_option maxRecDepth 100000 in
set_option maxHeartbeats 4000000 in
theorem metX2_reasonToStay (l : Launch) (D : va_G) (ac : Nat → ClassId) (h0 : Nat) (g0 : Nat) (g : Nat → Int32) (h1 : Nat) (v0 : Nat) (w0 : Nat) (v : Nat → Int32) (w : Nat → Int32) (s1 : Nat) (k1 : Nat) (hs : s1 < 12) (hk : k1 < 4) : Met l yX2_reasonToStay wsX2_reasonToStay ({ frames := 2, cells := 0, slots := 0, locals := 45 } : Room) (va_Pc [.ref (h0), .int (nI (s1)), .int (nI (k1)), .ref (h1)] (zW D ac [(h0, .inr (2, [.ref (g0)])), (g0, .inl (ac 0, 48, .inl (g))), (h1, .inr (3, [.ref (v0), .ref (w0)])), (v0, .inl (ac 0, 4, .inl (v))), (w0, .inl (ac 0, 4, .inl (w)))])) (zRi (qWhy g v w s1 k1)) 0 0 (fun _ => False) := by
  refine z_ro (cc := cX2_reasonToStay) (maxL := 6) (ret := (some .int)) (lv := [(0, .ref (h0)), (1, .int (nI (s1))), (2, .int (nI (k1))), (3, .ref (h1))]) (by decide) rfl (Nat.le_of_ble_eq_true rfl) rfl ?_
  intro p e s m args below meth c ls hx hb hr hml hown hts hlocks hl hK hP
  refine lv_iload_n hx hb dX2_reasonToStay_0 rfl (lv_at hl 1 rfl) ?_
  refine lv_bipush (v := 11) hx hb dX2_reasonToStay_1 (by decide) ?_
  refine z_icmp_ne (tgt := 8) hx hb (s1) (11) dX2_reasonToStay_3 (by decide) (by omega) (by omega) rfl rfl (fun c_3 => ?_) (fun c_3 => ?_)
  · refine lv_aload_n hx hb dX2_reasonToStay_8 rfl (lv_at hl 0 rfl) ?_
    refine lv_iload_n hx hb dX2_reasonToStay_9 rfl (lv_at hl 1 rfl) ?_
    refine lv_iload_n hx hb dX2_reasonToStay_10 rfl (lv_at hl 2 rfl) ?_
    refine z_ci (z_vrun (rest := []) (own := RX2) (As := [.int (nI (s1)), .int (nI (k1))]) hx hb hml hown hts hl.1 hK hP [0, 1] rfl (metX2_many l D ac h0 g0 g s1 k1 (by omega) (by omega)) gX2_reasonToStay_X2_many rfl 2 (by decide +kernel) ⟨rfl, rfl, Nat.le_of_ble_eq_true rfl, Nat.le_of_ble_eq_true rfl⟩ 0 2 rfl rfl rfl rfl rfl (Nat.le_of_ble_eq_true rfl) dX2_reasonToStay_11 ⟨Nat.zero_le _, Nat.zero_le _⟩) ?_
    refine lv_istore (lv' := [(4, .int (g (4 * s1 + k1))), (0, .ref (h0)), (1, .int (nI (s1))), (2, .int (nI (k1))), (3, .ref (h1))]) hx hb dX2_reasonToStay_14 hl (by decide) rfl (fun ls hl => ?_)
    refine lv_iload hx hb dX2_reasonToStay_16 (lv_at hl 0 rfl) ?_
    refine lv_if_ne (tgt := 23) hx hb dX2_reasonToStay_18 (by decide) (fun c_18 => ?_) (fun c_18 => ?_)
    · refine lv_aload_n hx hb dX2_reasonToStay_23 rfl (lv_at hl 4 rfl) ?_
      refine lv_aload_n hx hb dX2_reasonToStay_24 rfl (lv_at hl 1 rfl) ?_
      refine lv_iload_n hx hb dX2_reasonToStay_25 rfl (lv_at hl 2 rfl) ?_
      refine lv_iconst (v := 1) hx hb dX2_reasonToStay_26 (by decide) ?_
      refine lv_iadd hx hb dX2_reasonToStay_27 ?_
      refine z_top (y := nI ((s1) + (1))) (nI_add (s1) (1)) ?_
      refine z_ci (z_vrun (rest := [.ref (h1)]) (own := RX2) (As := [.int (nI ((s1) + (1)))]) hx hb hml hown hts hl.1 hK hP [0, 1] rfl (metX2_allIn l D ac h0 g0 g ((s1) + (1)) (by omega)) gX2_reasonToStay_X2_allIn rfl 1 (by decide +kernel) ⟨rfl, rfl, Nat.le_of_ble_eq_true rfl, Nat.le_of_ble_eq_true rfl⟩ 0 2 rfl rfl rfl rfl rfl (Nat.le_of_ble_eq_true rfl) dX2_reasonToStay_28 ⟨Nat.zero_le _, Nat.zero_le _⟩) ?_
      refine z_ci (z_vrun (rest := []) (own := RX2) (As := [.int (qIn g ((s1) + (1)))]) hx hb hml hown hts hl.1 hK hP [2, 3, 4] rfl (metX3_roomOver l D ac h1 v0 w0 v w (qIn g ((s1) + (1))) ) gX2_reasonToStay_X3_roomOver rfl 1 (by decide +kernel) ⟨rfl, rfl, Nat.le_of_ble_eq_true rfl, Nat.le_of_ble_eq_true rfl⟩ 2 3 rfl rfl rfl rfl rfl (Nat.le_of_ble_eq_true rfl) dX2_reasonToStay_31 ⟨Nat.zero_le _, Nat.zero_le _⟩) ?_
      refine lv_if_ne (tgt := 39) hx hb dX2_reasonToStay_34 (by decide) (fun c_34 => ?_) (fun c_34 => ?_)
      · refine lv_aload_n hx hb dX2_reasonToStay_39 rfl (lv_at hl 4 rfl) ?_
        refine lv_aload_n hx hb dX2_reasonToStay_40 rfl (lv_at hl 1 rfl) ?_
        refine lv_iload_n hx hb dX2_reasonToStay_41 rfl (lv_at hl 2 rfl) ?_
        refine z_ci (z_vrun (rest := [.ref (h1)]) (own := RX2) (As := [.int (nI (s1))]) hx hb hml hown hts hl.1 hK hP [0, 1] rfl (metX2_allIn l D ac h0 g0 g s1 (by omega)) gX2_reasonToStay_X2_allIn rfl 1 (by decide +kernel) ⟨rfl, rfl, Nat.le_of_ble_eq_true rfl, Nat.le_of_ble_eq_true rfl⟩ 0 2 rfl rfl rfl rfl rfl (Nat.le_of_ble_eq_true rfl) dX2_reasonToStay_42 ⟨Nat.zero_le _, Nat.zero_le _⟩) ?_
        refine z_ci (z_vrun (rest := []) (own := RX2) (As := [.int (qIn g s1)]) hx hb hml hown hts hl.1 hK hP [2, 3, 4] rfl (metX3_factorOf l D ac h1 v0 w0 v w (qIn g s1) ) gX2_reasonToStay_X3_factorOf rfl 1 (by decide +kernel) ⟨rfl, rfl, Nat.le_of_ble_eq_true rfl, Nat.le_of_ble_eq_true rfl⟩ 2 3 rfl rfl rfl rfl rfl (Nat.le_of_ble_eq_true rfl) dX2_reasonToStay_45 ⟨Nat.zero_le _, Nat.zero_le _⟩) ?_
        refine lv_istore (lv' := [(5, .int (qFac (v 0) (qIn g s1))), (4, .int (g (4 * s1 + k1))), (0, .ref (h0)), (1, .int (nI (s1))), (2, .int (nI (k1))), (3, .ref (h1))]) hx hb dX2_reasonToStay_48 hl (by decide) rfl (fun ls hl => ?_)
        refine lv_aload_n hx hb dX2_reasonToStay_50 rfl (lv_at hl 5 rfl) ?_
        refine lv_iload_n hx hb dX2_reasonToStay_51 rfl (lv_at hl 4 rfl) ?_
        refine lv_iload hx hb dX2_reasonToStay_52 (lv_at hl 1 rfl) ?_
        refine lv_iload hx hb dX2_reasonToStay_54 (lv_at hl 0 rfl) ?_
        refine z_ci (z_vrun (rest := []) (own := RX2) (As := [.int (nI (k1)), .int (g (4 * s1 + k1)), .int (qFac (v 0) (qIn g s1))]) hx hb hml hown hts hl.1 hK hP [2, 3, 4] rfl (metX3_wantingToFall l D ac h1 v0 w0 v w k1 (g (4 * s1 + k1)) (qFac (v 0) (qIn g s1)) (by omega)) gX2_reasonToStay_X3_wantingToFall rfl 3 (by decide +kernel) ⟨rfl, rfl, Nat.le_of_ble_eq_true rfl, Nat.le_of_ble_eq_true rfl⟩ 2 3 rfl rfl rfl rfl rfl (Nat.le_of_ble_eq_true rfl) dX2_reasonToStay_56 ⟨Nat.zero_le _, Nat.zero_le _⟩) ?_
        refine lv_if_ne (tgt := 66) hx hb dX2_reasonToStay_59 (by decide) (fun c_59 => ?_) (fun c_59 => ?_)
        · refine lv_iconst (v := 0) hx hb dX2_reasonToStay_66 (by decide) ?_
          exact z_iret hx hb hr hlocks ((by rw [qWhy, if_neg c_3, if_neg c_18, if_neg c_34, if_neg c_59])) dX2_reasonToStay_67
        · refine lv_iconst (v := 4) hx hb dX2_reasonToStay_62 (by decide) ?_
          refine lv_goto (tgt := 67) hx hb dX2_reasonToStay_63 (by decide) ?_
          exact z_iret hx hb hr hlocks ((by rw [qWhy, if_neg c_3, if_neg c_18, if_neg c_34, if_pos c_59])) dX2_reasonToStay_67
      · refine lv_iconst (v := 3) hx hb dX2_reasonToStay_37 (by decide) ?_
        exact z_iret hx hb hr hlocks ((by rw [qWhy, if_neg c_3, if_neg c_18, if_pos c_34])) dX2_reasonToStay_38
    · refine lv_iconst (v := 2) hx hb dX2_reasonToStay_21 (by decide) ?_
      exact z_iret hx hb hr hlocks ((by rw [qWhy, if_neg c_3, if_pos c_18])) dX2_reasonToStay_22
  · refine lv_iconst (v := 1) hx hb dX2_reasonToStay_6 (by decide) ?_
    exact z_iret hx hb hr hlocks ((if_pos c_3).symm) dX2_reasonToStay_7

set_option maxRecDepth 100000 in
set_option maxHeartbeats 4000000 in
theorem metX2_isAtRest (l : Launch) (D : va_G) (ac : Nat → ClassId) (h0 : Nat) (g0 : Nat) (g : Nat → Int32) (h1 : Nat) (v0 : Nat) (w0 : Nat) (v : Nat → Int32) (w : Nat → Int32)  : Met l yX2_isAtRest wsX2_isAtRest ({ frames := 3, cells := 0, slots := 0, locals := 70 } : Room) (va_Pc [.ref (h0), .ref (h1)] (zW D ac [(h0, .inr (2, [.ref (g0)])), (g0, .inl (ac 0, 48, .inl (g))), (h1, .inr (3, [.ref (v0), .ref (w0)])), (v0, .inl (ac 0, 4, .inl (v))), (w0, .inl (ac 0, 4, .inl (w)))])) (zRi (if qRest g v w = true then 1 else 0)) 0 0 (fun _ => False) := by
  refine z_ro (cc := cX2_isAtRest) (maxL := 4) (ret := (some .boolean)) (lv := [(0, .ref (h0)), (1, .ref (h1))]) (by decide) rfl (Nat.le_of_ble_eq_true rfl) rfl ?_
  intro p e s m args below meth c ls hx hb hr hml hown hts hlocks hl hK hP
  refine lv_iconst (v := 0) hx hb dX2_isAtRest_0 (by decide) ?_
  refine lv_istore_n (lv' := [(2, .int (0)), (0, .ref (h0)), (1, .ref (h1))]) hx hb dX2_isAtRest_1 rfl hl (by decide) rfl (fun ls hl => ?_)
  have hL_2 : ∀ (n : Nat) (i : Nat), (i + n = 11) → (qAllB (fun s => qAllB (fun c => !decide (qWhy g v w s c = 0)) 4) i = true) → ∀ (ls : Array Slot), lv_has ls 4 [(2, .int (nI (i))), (0, .ref (h0)), (1, .ref (h1))] → W p l e ({ frames := 3, cells := 0, slots := 0, locals := 70 } : Room) s m args below meth c s.heap [] 0 0 (MQ below (zRi (if qRest g v w = true then 1 else 0)) args s 0 0 (fun _ => False)) (F0 m 2 ls []) := by
    intro n
    induction n with
    | zero =>
      intro i hi hq ls hl
      have e_i : 11 = i := by omega
      subst e_i
      refine lv_iload_n hx hb dX2_isAtRest_2 rfl (lv_at hl 0 rfl) ?_
      refine lv_bipush (v := 11) hx hb dX2_isAtRest_3 (by decide) ?_
      refine z_icmp_ge (tgt := 39) hx hb (11) (11) dX2_isAtRest_5 (by decide) (by omega) (by omega) rfl rfl (fun c_5 => ?_) (fun c_5 => absurd c_5 (by omega))
      refine lv_iconst (v := 1) hx hb dX2_isAtRest_39 (by decide) ?_
      exact z_zret hx hb hr hlocks (rfl) ((if_pos hq).symm) dX2_isAtRest_40
    | succ n ih =>
      intro i hi hq ls hl
      refine lv_iload_n hx hb dX2_isAtRest_2 rfl (lv_at hl 0 rfl) ?_
      refine lv_bipush (v := 11) hx hb dX2_isAtRest_3 (by decide) ?_
      refine z_icmp_ge (tgt := 39) hx hb (i) (11) dX2_isAtRest_5 (by decide) (by omega) (by omega) rfl rfl (fun c_5 => absurd c_5 (by omega)) (fun c_5 => ?_)
      refine lv_iconst (v := 0) hx hb dX2_isAtRest_8 (by decide) ?_
      refine lv_istore_n (lv' := [(3, .int (0)), (2, .int (nI (i))), (0, .ref (h0)), (1, .ref (h1))]) hx hb dX2_isAtRest_9 rfl hl (by decide) rfl (fun ls hl => ?_)
      have hL_10 : ∀ (n2 : Nat) (j : Nat), (j + n2 = 4) → (qAllB (fun c => !decide (qWhy g v w i c = 0)) j = true) → ∀ (ls : Array Slot), lv_has ls 4 [(3, .int (nI (j))), (2, .int (nI (i))), (0, .ref (h0)), (1, .ref (h1))] → W p l e ({ frames := 3, cells := 0, slots := 0, locals := 70 } : Room) s m args below meth c s.heap [] 0 0 (MQ below (zRi (if qRest g v w = true then 1 else 0)) args s 0 0 (fun _ => False)) (F0 m 10 ls []) := by
        intro n2
        induction n2 with
        | zero =>
          intro j hj hq2 ls hl
          have e_j : 4 = j := by omega
          subst e_j
          refine lv_iload_n hx hb dX2_isAtRest_10 rfl (lv_at hl 0 rfl) ?_
          refine lv_iconst (v := 4) hx hb dX2_isAtRest_11 (by decide) ?_
          refine z_icmp_ge (tgt := 33) hx hb (4) (4) dX2_isAtRest_12 (by decide) (by omega) (by omega) rfl rfl (fun c_12 => ?_) (fun c_12 => absurd c_12 (by omega))
          refine lv_iinc (v := nI ((i) + 1)) (lv' := [(2, .int (nI ((i) + 1))), (3, .int (nI (4))), (0, .ref (h0)), (1, .ref (h1))]) hx hb dX2_isAtRest_33 hl (k := 1) rfl (show nI (i) + Int32.ofInt 1 = _ from nI_add (i) 1) (by decide) rfl (fun ls hl => ?_)
          refine lv_goto (tgt := 2) hx hb dX2_isAtRest_36 (by decide) ?_
          exact ih (i + 1) (by omega) ((show (qAllB (fun s => qAllB (fun c => !decide (qWhy g v w s c = 0)) 4) i && qAllB (fun c => !decide (qWhy g v w i c = 0)) 4) = true from Bool.and_eq_true_iff.mpr ⟨hq, hq2⟩)) ls (lv_sub hl [0, 2, 3] rfl)
        | succ n2 ih =>
          intro j hj hq2 ls hl
          refine lv_iload_n hx hb dX2_isAtRest_10 rfl (lv_at hl 0 rfl) ?_
          refine lv_iconst (v := 4) hx hb dX2_isAtRest_11 (by decide) ?_
          refine z_icmp_ge (tgt := 33) hx hb (j) (4) dX2_isAtRest_12 (by decide) (by omega) (by omega) rfl rfl (fun c_12 => absurd c_12 (by omega)) (fun c_12 => ?_)
          refine lv_aload_n hx hb dX2_isAtRest_15 rfl (lv_at hl 2 rfl) ?_
          refine lv_iload_n hx hb dX2_isAtRest_16 rfl (lv_at hl 1 rfl) ?_
          refine lv_iload_n hx hb dX2_isAtRest_17 rfl (lv_at hl 0 rfl) ?_
          refine lv_aload_n hx hb dX2_isAtRest_18 rfl (lv_at hl 3 rfl) ?_
          refine z_ci (z_vrun (rest := []) (own := RX2) (As := [.int (nI (i)), .int (nI (j)), .ref (h1)]) hx hb hml hown hts hl.1 hK hP [0, 1, 2, 3, 4] rfl (metX2_reasonToStay l D ac h0 g0 g h1 v0 w0 v w i j (by omega) (by omega)) gX2_isAtRest_X2_reasonToStay rfl 3 (by decide +kernel) ⟨rfl, rfl, Nat.le_of_ble_eq_true rfl, Nat.le_of_ble_eq_true rfl⟩ 0 2 rfl rfl rfl rfl rfl (Nat.le_of_ble_eq_true rfl) dX2_isAtRest_19 ⟨Nat.zero_le _, Nat.zero_le _⟩) ?_
          refine lv_if_ne (tgt := 27) hx hb dX2_isAtRest_22 (by decide) (fun c_22 => ?_) (fun c_22 => ?_)
          · refine lv_iinc (v := nI ((j) + 1)) (lv' := [(3, .int (nI ((j) + 1))), (2, .int (nI (i))), (0, .ref (h0)), (1, .ref (h1))]) hx hb dX2_isAtRest_27 hl (k := 0) rfl (show nI (j) + Int32.ofInt 1 = _ from nI_add (j) 1) (by decide) rfl (fun ls hl => ?_)
            refine lv_goto (tgt := 10) hx hb dX2_isAtRest_30 (by decide) ?_
            exact ih (j + 1) (by omega) ((show (qAllB (fun c => !decide (qWhy g v w i c = 0)) j && !decide (qWhy g v w i j = 0)) = true from Bool.and_eq_true_iff.mpr ⟨hq2, z_ndec2 c_22⟩)) ls (lv_sub hl [0, 1, 2, 3] rfl)
          · refine lv_iconst (v := 0) hx hb dX2_isAtRest_25 (by decide) ?_
            exact z_zret hx hb hr hlocks (rfl) ((if_neg (q_rest_no (by omega) (by omega) c_22)).symm) dX2_isAtRest_26
      exact hL_10 (4) (0) (by omega) (rfl) ls (lv_sub hl [0, 1, 2, 3] rfl)
  exact hL_2 (11) (0) (by omega) (rfl) ls (lv_sub hl [0, 1, 2] rfl)

set_option maxRecDepth 100000 in
set_option maxHeartbeats 4000000 in
theorem metX2_put (l : Launch) (D : va_G) (ac : Nat → ClassId) (sz : Nat) (h0 : Nat) (g0 : Nat) (g : Nat → Int32) (s1 : Nat) (k1 : Nat) (x : Int32) (hs : s1 < 12) (hk : k1 < 4) : Met l yX2_put wsX2_put ({ frames := 0, cells := 0, slots := 0, locals := 0 } : Room) (va_Pc [.ref (h0), .int (nI (s1)), .int (nI (k1)), .int (x)] (zS D ac [(h0, .inr (2, [.ref (g0)])), (g0, .inl (ac 0, 48, .inl (g)))] sz)) (zQv D ac [(h0, .inr (2, [.ref (g0)])), (g0, .inl (ac 0, 48, .inl (g)))] [(h0, .inr (2, [.ref (g0)])), (g0, .inl (ac 0, 48, .inl (qPut g s1 k1 x)))] sz) 0 0 (va_A [(h0, .inr (2, [.ref (g0)])), (g0, .inl (ac 0, 48, .inl (g)))] sz) := by
  refine z_rw (cc := cX2_put) (maxL := 4) (ret := none) (lv := [(0, .ref (h0)), (1, .int (nI (s1))), (2, .int (nI (k1))), (3, .int (x))]) (by decide) rfl (Nat.le_of_ble_eq_true rfl) rfl ?_
  intro p e s m args below meth c ls A hx hb hr hml hown hts hlocks hl hK hP hsz hAe hA hD hS
  refine lv_aload_n hx hb dX2_put_0 rfl (lv_at hl 0 rfl) ?_
  refine va_get (ci := 2) (v := .ref (g0)) (C := RX2) (T := TX2) (N := 1) hx hb hts (by decide +kernel) hown hK hP 0 rfl rfl 0 (by decide) (hts (.fieldLink RX2 9 "SettlingJars$Jar" "grains" "[I") (by decide +kernel)) (fun _ h9 => h9) rfl dX2_put_1 ?_
  refine lv_iload_n hx hb dX2_put_4 rfl (lv_at hl 1 rfl) ?_
  refine lv_iconst (v := 4) hx hb dX2_put_5 (by decide) ?_
  refine lv_imul hx hb dX2_put_6 ?_
  refine z_top (y := nI ((s1) * (4))) (pk_mul (s1) (4)) ?_
  refine lv_iload_n hx hb dX2_put_7 rfl (lv_at hl 2 rfl) ?_
  refine lv_iadd hx hb dX2_put_8 ?_
  refine z_top (y := nI (((s1) * (4)) + (k1))) (nI_add ((s1) * (4)) (k1)) ?_
  refine lv_dup2_11 hx hb dX2_put_9 rfl rfl ?_
  refine z_iald hx hb hK hP 1 rfl (4 * s1 + k1) (congrArg nI (by omega)) (by omega) (by decide) dX2_put_10 ?_
  refine lv_iload_n hx hb dX2_put_11 rfl (lv_at hl 3 rfl) ?_
  refine lv_iadd hx hb dX2_put_12 ?_
  refine z_iast hx hb hK hP hD hS 1 rfl (4 * s1 + k1) (congrArg nI (by omega)) (by omega) (by decide) dX2_put_13 (fun H locs hP hD hS => ?_)
  have hP : va_P D vwCl [(h0, .inr (2, [.ref (g0)])), (g0, .inl (ac 0, 48, .inl (upd (g) (4 * s1 + k1) ((g (4 * s1 + k1)) + (x)))))] H := hP
  have hD : va_D A [(h0, .inr (2, [.ref (g0)])), (g0, .inl (ac 0, 48, .inl (upd (g) (4 * s1 + k1) ((g (4 * s1 + k1)) + (x)))))] := hD
  exact z_vretW hx hb hr hlocks hK hP hD hS hAe dX2_put_14

set_option maxRecDepth 100000 in
set_option maxHeartbeats 4000000 in
theorem metX2_empty (l : Launch) (D : va_G) (ac : Nat → ClassId) (sz : Nat) (h0 : Nat) (g0 : Nat) (g : Nat → Int32)  : Met l yX2_empty wsX2_empty ({ frames := 0, cells := 0, slots := 0, locals := 0 } : Room) (va_Pc [.ref (h0)] (zS D ac [(h0, .inr (2, [.ref (g0)])), (g0, .inl (ac 0, 48, .inl (g)))] sz)) (zQv D ac [(h0, .inr (2, [.ref (g0)])), (g0, .inl (ac 0, 48, .inl (g)))] [(h0, .inr (2, [.ref (g0)])), (g0, .inl (ac 0, 48, .inl (qZero g 48)))] sz) 0 0 (va_A [(h0, .inr (2, [.ref (g0)])), (g0, .inl (ac 0, 48, .inl (g)))] sz) := by
  refine z_rw (cc := cX2_empty) (maxL := 2) (ret := none) (lv := [(0, .ref (h0))]) (by decide) rfl (Nat.le_of_ble_eq_true rfl) rfl ?_
  intro p e s m args below meth c ls A hx hb hr hml hown hts hlocks hl hK hP hsz hAe hA hD hS
  refine lv_iconst (v := 0) hx hb dX2_empty_0 (by decide) ?_
  refine lv_istore_n (lv' := [(1, .int (0)), (0, .ref (h0))]) hx hb dX2_empty_1 rfl hl (by decide) rfl (fun ls hl => ?_)
  have hL_2 : ∀ (n : Nat) (i : Nat), (i + n = 48) → ∀ (H : Heap) (locs : List Loc), va_P D vwCl [(h0, .inr (2, [.ref (g0)])), (g0, .inl (ac 0, 48, .inl (qZero g i)))] H → va_D A [(h0, .inr (2, [.ref (g0)])), (g0, .inl (ac 0, 48, .inl (qZero g i)))] → va_S A s.heap H locs → ∀ (ls : Array Slot), lv_has ls 2 [(1, .int (nI (i))), (0, .ref (h0))] → W p l e ({ frames := 0, cells := 0, slots := 0, locals := 0 } : Room) s m args below meth c H locs 0 0 (MQ below (zQv D ac [(h0, .inr (2, [.ref (g0)])), (g0, .inl (ac 0, 48, .inl (g)))] [(h0, .inr (2, [.ref (g0)])), (g0, .inl (ac 0, 48, .inl (qZero g 48)))] sz) args s 0 0 A) (F0 m 2 ls []) := by
    intro n
    induction n with
    | zero =>
      intro i hi H locs hP hD hS ls hl
      have e_i : 48 = i := by omega
      subst e_i
      refine lv_iload_n hx hb dX2_empty_2 rfl (lv_at hl 0 rfl) ?_
      refine lv_aload_n hx hb dX2_empty_3 rfl (lv_at hl 1 rfl) ?_
      refine va_get (ci := 2) (v := .ref (g0)) (C := RX2) (T := TX2) (N := 1) hx hb hts (by decide +kernel) hown hK hP 0 rfl rfl 0 (by decide) (hts (.fieldLink RX2 9 "SettlingJars$Jar" "grains" "[I") (by decide +kernel)) (fun _ h9 => h9) rfl dX2_empty_4 ?_
      refine va_alen hx hb hK hP 1 0 rfl rfl (v := 48) rfl dX2_empty_7 ?_
      refine z_icmp_ge (tgt := 24) hx hb (48) (48) dX2_empty_8 (by decide) (by omega) (by omega) rfl rfl (fun c_8 => ?_) (fun c_8 => absurd c_8 (by omega))
      exact z_vretW hx hb hr hlocks hK hP hD hS hAe dX2_empty_24
    | succ n ih =>
      intro i hi H locs hP hD hS ls hl
      refine lv_iload_n hx hb dX2_empty_2 rfl (lv_at hl 0 rfl) ?_
      refine lv_aload_n hx hb dX2_empty_3 rfl (lv_at hl 1 rfl) ?_
      refine va_get (ci := 2) (v := .ref (g0)) (C := RX2) (T := TX2) (N := 1) hx hb hts (by decide +kernel) hown hK hP 0 rfl rfl 0 (by decide) (hts (.fieldLink RX2 9 "SettlingJars$Jar" "grains" "[I") (by decide +kernel)) (fun _ h9 => h9) rfl dX2_empty_4 ?_
      refine va_alen hx hb hK hP 1 0 rfl rfl (v := 48) rfl dX2_empty_7 ?_
      refine z_icmp_ge (tgt := 24) hx hb (i) (48) dX2_empty_8 (by decide) (by omega) (by omega) rfl rfl (fun c_8 => absurd c_8 (by omega)) (fun c_8 => ?_)
      refine lv_aload_n hx hb dX2_empty_11 rfl (lv_at hl 1 rfl) ?_
      refine va_get (ci := 2) (v := .ref (g0)) (C := RX2) (T := TX2) (N := 1) hx hb hts (by decide +kernel) hown hK hP 0 rfl rfl 0 (by decide) (hts (.fieldLink RX2 9 "SettlingJars$Jar" "grains" "[I") (by decide +kernel)) (fun _ h9 => h9) rfl dX2_empty_12 ?_
      refine lv_iload_n hx hb dX2_empty_15 rfl (lv_at hl 0 rfl) ?_
      refine lv_iconst (v := 0) hx hb dX2_empty_16 (by decide) ?_
      refine z_iast hx hb hK hP hD hS 1 rfl (i) (rfl) (by omega) (by decide) dX2_empty_17 (fun H locs hP hD hS => ?_)
      have hP : va_P D vwCl [(h0, .inr (2, [.ref (g0)])), (g0, .inl (ac 0, 48, .inl (upd (qZero g i) (i) (0))))] H := hP
      have hD : va_D A [(h0, .inr (2, [.ref (g0)])), (g0, .inl (ac 0, 48, .inl (upd (qZero g i) (i) (0))))] := hD
      refine lv_iinc (v := nI ((i) + 1)) (lv' := [(1, .int (nI ((i) + 1))), (0, .ref (h0))]) hx hb dX2_empty_18 hl (k := 0) rfl (show nI (i) + Int32.ofInt 1 = _ from nI_add (i) 1) (by decide) rfl (fun ls hl => ?_)
      refine lv_goto (tgt := 2) hx hb dX2_empty_21 (by decide) ?_
      exact ih (i + 1) (by omega) _ _ hP hD hS ls (lv_sub hl [0, 1] rfl)
  exact hL_2 (48) (0) (by omega) _ _ hP hD hS ls (lv_sub hl [0, 1] rfl)

set_option maxRecDepth 100000 in
set_option maxHeartbeats 4000000 in
theorem metX2_spread (l : Launch) (D : va_G) (ac : Nat → ClassId) (sz : Nat) (h0 : Nat) (g0 : Nat) (g : Nat → Int32) (a : Nat) (b : Nat) (k1 : Nat) (ha : a ≤ b) (hb1 : b < 12) (hk : k1 < 4) : Met l yX2_spread wsX2_spread ({ frames := 1, cells := 0, slots := 0, locals := 23 } : Room) (va_Pc [.ref (h0), .int (nI (a)), .int (nI (b)), .int (nI (k1))] (zS D ac [(h0, .inr (2, [.ref (g0)])), (g0, .inl (ac 0, 48, .inl (g)))] sz)) (zQi D ac [(h0, .inr (2, [.ref (g0)])), (g0, .inl (ac 0, 48, .inl (g)))] [(h0, .inr (2, [.ref (g0)])), (g0, .inl (ac 0, 48, .inl ((qSp g a b k1 (qSum g a k1 (b + 1 - a)) (b + 1 - a)).1)))] sz (qSum g a k1 (b + 1 - a))) 0 0 (va_A [(h0, .inr (2, [.ref (g0)])), (g0, .inl (ac 0, 48, .inl (g)))] sz) := by
  refine z_rw (cc := cX2_spread) (maxL := 9) (ret := (some .int)) (lv := [(0, .ref (h0)), (1, .int (nI (a))), (2, .int (nI (b))), (3, .int (nI (k1)))]) (by decide) rfl (Nat.le_of_ble_eq_true rfl) rfl ?_
  intro p e s m args below meth c ls A hx hb hr hml hown hts hlocks hl hK hP hsz hAe hA hD hS
  refine lv_iconst (v := 0) hx hb dX2_spread_0 (by decide) ?_
  refine lv_istore (lv' := [(4, .int (0)), (0, .ref (h0)), (1, .int (nI (a))), (2, .int (nI (b))), (3, .int (nI (k1)))]) hx hb dX2_spread_1 hl (by decide) rfl (fun ls hl => ?_)
  refine lv_iload_n hx hb dX2_spread_3 rfl (lv_at hl 2 rfl) ?_
  refine lv_istore (lv' := [(5, .int (nI (a))), (4, .int (0)), (0, .ref (h0)), (1, .int (nI (a))), (2, .int (nI (b))), (3, .int (nI (k1)))]) hx hb dX2_spread_4 hl (by decide) rfl (fun ls hl => ?_)
  have hL_6 : ∀ (n : Nat) (i : Nat), (i + n = b + 1 - a) → ∀ (H : Heap) (locs : List Loc), va_P D vwCl [(h0, .inr (2, [.ref (g0)])), (g0, .inl (ac 0, 48, .inl (g)))] H → va_D A [(h0, .inr (2, [.ref (g0)])), (g0, .inl (ac 0, 48, .inl (g)))] → va_S A s.heap H locs → ∀ (ls : Array Slot), lv_has ls 9 [(5, .int (nI (a + i))), (4, .int (qSum g a k1 i)), (0, .ref (h0)), (1, .int (nI (a))), (2, .int (nI (b))), (3, .int (nI (k1)))] → W p l e ({ frames := 1, cells := 0, slots := 0, locals := 23 } : Room) s m args below meth c H locs 0 0 (MQ below (zQi D ac [(h0, .inr (2, [.ref (g0)])), (g0, .inl (ac 0, 48, .inl (g)))] [(h0, .inr (2, [.ref (g0)])), (g0, .inl (ac 0, 48, .inl ((qSp g a b k1 (qSum g a k1 (b + 1 - a)) (b + 1 - a)).1)))] sz (qSum g a k1 (b + 1 - a))) args s 0 0 A) (F0 m 6 ls []) := by
    intro n
    induction n with
    | zero =>
      intro i hi H locs hP hD hS ls hl
      have e_i : b + 1 - a = i := by omega
      subst e_i
      refine lv_iload hx hb dX2_spread_6 (lv_at hl 0 rfl) ?_
      refine lv_iload_n hx hb dX2_spread_8 rfl (lv_at hl 4 rfl) ?_
      refine z_icmp_gt (tgt := 30) hx hb (a + (b + 1 - a)) (b) dX2_spread_9 (by decide) (by omega) (by omega) rfl rfl (fun c_9 => ?_) (fun c_9 => absurd c_9 (by omega))
      refine lv_iload hx hb dX2_spread_30 (lv_at hl 1 rfl) ?_
      refine lv_istore (lv' := [(5, .int (qSum g a k1 (b + 1 - a))), (4, .int (qSum g a k1 (b + 1 - a))), (0, .ref (h0)), (1, .int (nI (a))), (2, .int (nI (b))), (3, .int (nI (k1)))]) hx hb dX2_spread_32 hl (by decide) rfl (fun ls hl => ?_)
      refine lv_iload_n hx hb dX2_spread_34 rfl (lv_at hl 3 rfl) ?_
      refine lv_istore (lv' := [(6, .int (nI (a))), (5, .int (qSum g a k1 (b + 1 - a))), (4, .int (qSum g a k1 (b + 1 - a))), (0, .ref (h0)), (1, .int (nI (a))), (2, .int (nI (b))), (3, .int (nI (k1)))]) hx hb dX2_spread_35 hl (by decide) rfl (fun ls hl => ?_)
      have hL_37 : ∀ (n : Nat) (i : Nat), (i + n = b + 1 - a) → ∀ (H : Heap) (locs : List Loc), va_P D vwCl [(h0, .inr (2, [.ref (g0)])), (g0, .inl (ac 0, 48, .inl ((qSp g a b k1 (qSum g a k1 (b + 1 - a)) i).1)))] H → va_D A [(h0, .inr (2, [.ref (g0)])), (g0, .inl (ac 0, 48, .inl ((qSp g a b k1 (qSum g a k1 (b + 1 - a)) i).1)))] → va_S A s.heap H locs → ∀ (ls : Array Slot), lv_has ls 9 [(6, .int (nI (a + i))), (5, .int ((qSp g a b k1 (qSum g a k1 (b + 1 - a)) i).2)), (4, .int (qSum g a k1 (b + 1 - a))), (0, .ref (h0)), (1, .int (nI (a))), (2, .int (nI (b))), (3, .int (nI (k1)))] → W p l e ({ frames := 1, cells := 0, slots := 0, locals := 23 } : Room) s m args below meth c H locs 0 0 (MQ below (zQi D ac [(h0, .inr (2, [.ref (g0)])), (g0, .inl (ac 0, 48, .inl (g)))] [(h0, .inr (2, [.ref (g0)])), (g0, .inl (ac 0, 48, .inl ((qSp g a b k1 (qSum g a k1 (b + 1 - a)) (b + 1 - a)).1)))] sz (qSum g a k1 (b + 1 - a))) args s 0 0 A) (F0 m 37 ls []) := by
        intro n
        induction n with
        | zero =>
          intro i hi H locs hP hD hS ls hl
          have e_i : b + 1 - a = i := by omega
          subst e_i
          refine lv_iload hx hb dX2_spread_37 (lv_at hl 0 rfl) ?_
          refine lv_iload_n hx hb dX2_spread_39 rfl (lv_at hl 5 rfl) ?_
          refine z_icmp_gt (tgt := 91) hx hb (a + (b + 1 - a)) (b) dX2_spread_40 (by decide) (by omega) (by omega) rfl rfl (fun c_40 => ?_) (fun c_40 => absurd c_40 (by omega))
          refine lv_iload hx hb dX2_spread_91 (lv_at hl 2 rfl) ?_
          exact z_iretW hx hb hr hlocks hK hP hD hS hAe (rfl) dX2_spread_93
        | succ n ih =>
          intro i hi H locs hP hD hS ls hl
          refine lv_iload hx hb dX2_spread_37 (lv_at hl 0 rfl) ?_
          refine lv_iload_n hx hb dX2_spread_39 rfl (lv_at hl 5 rfl) ?_
          refine z_icmp_gt (tgt := 91) hx hb (a + i) (b) dX2_spread_40 (by decide) (by omega) (by omega) rfl rfl (fun c_40 => absurd c_40 (by omega)) (fun c_40 => ?_)
          refine lv_iload_n hx hb dX2_spread_43 rfl (lv_at hl 5 rfl) ?_
          refine lv_iload hx hb dX2_spread_44 (lv_at hl 0 rfl) ?_
          refine lv_isub hx hb dX2_spread_46 ?_
          refine z_top (y := nI ((b) - (a + i))) (pk_sub (a := b) (b := a + i) (by omega)) ?_
          refine z_top (y := nI (b - (a + i))) (rfl) ?_
          refine lv_istore (lv' := [(7, .int (nI (b - (a + i)))), (6, .int (nI (a + i))), (5, .int ((qSp g a b k1 (qSum g a k1 (b + 1 - a)) i).2)), (4, .int (qSum g a k1 (b + 1 - a))), (0, .ref (h0)), (1, .int (nI (a))), (2, .int (nI (b))), (3, .int (nI (k1)))]) hx hb dX2_spread_47 hl (by decide) rfl (fun ls hl => ?_)
          refine lv_iload hx hb dX2_spread_49 (lv_at hl 2 rfl) ?_
          refine lv_iload hx hb dX2_spread_51 (lv_at hl 0 rfl) ?_
          refine lv_iadd hx hb dX2_spread_53 ?_
          refine lv_iload hx hb dX2_spread_54 (lv_at hl 0 rfl) ?_
          refine lv_iconst (v := 1) hx hb dX2_spread_56 (by decide) ?_
          refine lv_iadd hx hb dX2_spread_57 ?_
          refine z_top (y := nI ((b - (a + i)) + (1))) (nI_add (b - (a + i)) (1)) ?_
          refine lv_idiv hx hb dX2_spread_58 (nI_ne0 (by omega) (by omega)) ?_
          refine lv_istore (lv' := [(8, .int ((((qSp g a b k1 (qSum g a k1 (b + 1 - a)) i).2) + (nI (b - (a + i)))) / (nI ((b - (a + i)) + (1))))), (7, .int (nI (b - (a + i)))), (6, .int (nI (a + i))), (5, .int ((qSp g a b k1 (qSum g a k1 (b + 1 - a)) i).2)), (4, .int (qSum g a k1 (b + 1 - a))), (0, .ref (h0)), (1, .int (nI (a))), (2, .int (nI (b))), (3, .int (nI (k1)))]) hx hb dX2_spread_59 hl (by decide) rfl (fun ls hl => ?_)
          refine lv_aload_n hx hb dX2_spread_61 rfl (lv_at hl 5 rfl) ?_
          refine lv_iload hx hb dX2_spread_62 (lv_at hl 2 rfl) ?_
          refine lv_iload_n hx hb dX2_spread_64 rfl (lv_at hl 8 rfl) ?_
          refine lv_iload hx hb dX2_spread_65 (lv_at hl 0 rfl) ?_
          refine lv_aload_n hx hb dX2_spread_67 rfl (lv_at hl 5 rfl) ?_
          refine lv_iload hx hb dX2_spread_68 (lv_at hl 2 rfl) ?_
          refine lv_iload_n hx hb dX2_spread_70 rfl (lv_at hl 8 rfl) ?_
          refine z_ci (z_vrun (rest := [.int ((((qSp g a b k1 (qSum g a k1 (b + 1 - a)) i).2) + (nI (b - (a + i)))) / (nI ((b - (a + i)) + (1)))), .int (nI (k1)), .int (nI (a + i)), .ref (h0)]) (own := RX2) (As := [.int (nI (a + i)), .int (nI (k1))]) hx hb hml hown hts hl.1 hK hP [0, 1] rfl (metX2_many l D ac h0 g0 ((qSp g a b k1 (qSum g a k1 (b + 1 - a)) i).1) (a + i) k1 (by omega) (by omega)) gX2_spread_X2_many rfl 2 (by decide +kernel) ⟨rfl, rfl, Nat.le_of_ble_eq_true rfl, Nat.le_of_ble_eq_true rfl⟩ 0 2 rfl rfl rfl rfl rfl (Nat.le_of_ble_eq_true rfl) dX2_spread_71 ⟨Nat.zero_le _, Nat.zero_le _⟩) ?_
          refine lv_isub hx hb dX2_spread_74 ?_
          refine z_cvW [(h0, .inr (2, [.ref (g0)])), (g0, .inl (ac 0, 48, .inl (qPut ((qSp g a b k1 (qSum g a k1 (b + 1 - a)) i).1) (a + i) k1 (((((qSp g a b k1 (qSum g a k1 (b + 1 - a)) i).2) + (nI (b - (a + i)))) / (nI ((b - (a + i)) + (1)))) - (((qSp g a b k1 (qSum g a k1 (b + 1 - a)) i).1) (4 * (a + i) + k1))))))] (z_vrunW (rest := []) (own := RX2) (As := [.int (nI (a + i)), .int (nI (k1)), .int (((((qSp g a b k1 (qSum g a k1 (b + 1 - a)) i).2) + (nI (b - (a + i)))) / (nI ((b - (a + i)) + (1)))) - (((qSp g a b k1 (qSum g a k1 (b + 1 - a)) i).1) (4 * (a + i) + k1)))]) hx hb hml hown hts hl.1 hK hP hD [0, 1] rfl (by decide) rfl (metX2_put l D ac _ h0 g0 ((qSp g a b k1 (qSum g a k1 (b + 1 - a)) i).1) (a + i) k1 (((((qSp g a b k1 (qSum g a k1 (b + 1 - a)) i).2) + (nI (b - (a + i)))) / (nI ((b - (a + i)) + (1)))) - (((qSp g a b k1 (qSum g a k1 (b + 1 - a)) i).1) (4 * (a + i) + k1))) (by omega) (by omega)) gX2_spread_X2_put rfl 3 (by decide +kernel) ⟨rfl, rfl, Nat.le_of_ble_eq_true rfl, Nat.le_of_ble_eq_true rfl⟩ 0 2 rfl rfl rfl rfl rfl (Nat.le_of_ble_eq_true rfl) dX2_spread_75 ⟨Nat.zero_le _, Nat.zero_le _⟩) hP hD hS hA [0, 1] [] [0, 1] rfl rfl (by decide) (by decide) (by decide) rfl (fun H locs hP hD hS => ?_)
          refine lv_iload hx hb dX2_spread_78 (lv_at hl 3 rfl) ?_
          refine lv_iload hx hb dX2_spread_80 (lv_at hl 0 rfl) ?_
          refine lv_isub hx hb dX2_spread_82 ?_
          refine lv_istore (lv' := [(5, .int (((qSp g a b k1 (qSum g a k1 (b + 1 - a)) i).2) - ((((qSp g a b k1 (qSum g a k1 (b + 1 - a)) i).2) + (nI (b - (a + i)))) / (nI ((b - (a + i)) + (1)))))), (8, .int ((((qSp g a b k1 (qSum g a k1 (b + 1 - a)) i).2) + (nI (b - (a + i)))) / (nI ((b - (a + i)) + (1))))), (7, .int (nI (b - (a + i)))), (6, .int (nI (a + i))), (4, .int (qSum g a k1 (b + 1 - a))), (0, .ref (h0)), (1, .int (nI (a))), (2, .int (nI (b))), (3, .int (nI (k1)))]) hx hb dX2_spread_83 hl (by decide) rfl (fun ls hl => ?_)
          refine lv_iinc (v := nI ((a + i) + 1)) (lv' := [(6, .int (nI ((a + i) + 1))), (5, .int (((qSp g a b k1 (qSum g a k1 (b + 1 - a)) i).2) - ((((qSp g a b k1 (qSum g a k1 (b + 1 - a)) i).2) + (nI (b - (a + i)))) / (nI ((b - (a + i)) + (1)))))), (8, .int ((((qSp g a b k1 (qSum g a k1 (b + 1 - a)) i).2) + (nI (b - (a + i)))) / (nI ((b - (a + i)) + (1))))), (7, .int (nI (b - (a + i)))), (4, .int (qSum g a k1 (b + 1 - a))), (0, .ref (h0)), (1, .int (nI (a))), (2, .int (nI (b))), (3, .int (nI (k1)))]) hx hb dX2_spread_85 hl (k := 3) rfl (show nI (a + i) + Int32.ofInt 1 = _ from nI_add (a + i) 1) (by decide) rfl (fun ls hl => ?_)
          refine lv_goto (tgt := 37) hx hb dX2_spread_88 (by decide) ?_
          exact ih (i + 1) (by omega) _ _ hP hD hS ls (lv_sub hl [0, 1, 4, 5, 6, 7, 8] rfl)
      exact hL_37 (b + 1 - a) (0) (by omega) _ _ hP hD hS ls (lv_sub hl [0, 1, 2, 3, 4, 5, 6] rfl)
    | succ n ih =>
      intro i hi H locs hP hD hS ls hl
      refine lv_iload hx hb dX2_spread_6 (lv_at hl 0 rfl) ?_
      refine lv_iload_n hx hb dX2_spread_8 rfl (lv_at hl 4 rfl) ?_
      refine z_icmp_gt (tgt := 30) hx hb (a + i) (b) dX2_spread_9 (by decide) (by omega) (by omega) rfl rfl (fun c_9 => absurd c_9 (by omega)) (fun c_9 => ?_)
      refine lv_iload hx hb dX2_spread_12 (lv_at hl 1 rfl) ?_
      refine lv_aload_n hx hb dX2_spread_14 rfl (lv_at hl 2 rfl) ?_
      refine lv_iload hx hb dX2_spread_15 (lv_at hl 0 rfl) ?_
      refine lv_iload_n hx hb dX2_spread_17 rfl (lv_at hl 5 rfl) ?_
      refine z_ci (z_vrun (rest := [.int (qSum g a k1 i)]) (own := RX2) (As := [.int (nI (a + i)), .int (nI (k1))]) hx hb hml hown hts hl.1 hK hP [0, 1] rfl (metX2_many l D ac h0 g0 g (a + i) k1 (by omega) (by omega)) gX2_spread_X2_many rfl 2 (by decide +kernel) ⟨rfl, rfl, Nat.le_of_ble_eq_true rfl, Nat.le_of_ble_eq_true rfl⟩ 0 2 rfl rfl rfl rfl rfl (Nat.le_of_ble_eq_true rfl) dX2_spread_18 ⟨Nat.zero_le _, Nat.zero_le _⟩) ?_
      refine lv_iadd hx hb dX2_spread_21 ?_
      refine lv_istore (lv' := [(4, .int ((qSum g a k1 i) + (g (4 * (a + i) + k1)))), (5, .int (nI (a + i))), (0, .ref (h0)), (1, .int (nI (a))), (2, .int (nI (b))), (3, .int (nI (k1)))]) hx hb dX2_spread_22 hl (by decide) rfl (fun ls hl => ?_)
      refine lv_iinc (v := nI ((a + i) + 1)) (lv' := [(5, .int (nI ((a + i) + 1))), (4, .int ((qSum g a k1 i) + (g (4 * (a + i) + k1)))), (0, .ref (h0)), (1, .int (nI (a))), (2, .int (nI (b))), (3, .int (nI (k1)))]) hx hb dX2_spread_24 hl (k := 1) rfl (show nI (a + i) + Int32.ofInt 1 = _ from nI_add (a + i) 1) (by decide) rfl (fun ls hl => ?_)
      refine lv_goto (tgt := 6) hx hb dX2_spread_27 (by decide) ?_
      exact ih (i + 1) (by omega) _ _ hP hD hS ls (lv_sub hl [0, 1, 2, 3, 4, 5] rfl)
  exact hL_6 (b + 1 - a) (0) (by omega) _ _ hP hD hS ls (lv_sub hl [0, 1, 2, 3, 4, 5] rfl)

set_option maxRecDepth 100000 in
set_option maxHeartbeats 4000000 in
theorem metX2_pourInto (l : Launch) (D : va_G) (ac : Nat → ClassId) (sz : Nat) (h0 : Nat) (g0 : Nat) (g : Nat → Int32) (h2 : Nat) (o0 : Nat) (o : Nat → Int32) (x : Int32) (t : Nat) (hx1 : x = nI t - 1) (ht : t ≤ 12) : Met l yX2_pourInto wsX2_pourInto ({ frames := 1, cells := 0, slots := 0, locals := 23 } : Room) (va_Pc [.ref (h0), .ref (h2), .int (x)] (zS D ac [(h0, .inr (2, [.ref (g0)])), (g0, .inl (ac 0, 48, .inl (g))), (h2, .inr (2, [.ref (o0)])), (o0, .inl (ac 0, 48, .inl (o)))] sz)) (zQv D ac [(h0, .inr (2, [.ref (g0)])), (g0, .inl (ac 0, 48, .inl (g))), (h2, .inr (2, [.ref (o0)])), (o0, .inl (ac 0, 48, .inl (o)))] [(h0, .inr (2, [.ref (g0)])), (g0, .inl (ac 0, 48, .inl ((qOver g o t).1))), (h2, .inr (2, [.ref (o0)])), (o0, .inl (ac 0, 48, .inl ((qOver g o t).2)))] sz) 0 0 (va_A [(h0, .inr (2, [.ref (g0)])), (g0, .inl (ac 0, 48, .inl (g))), (h2, .inr (2, [.ref (o0)])), (o0, .inl (ac 0, 48, .inl (o)))] sz) := by
  refine z_rw (cc := cX2_pourInto) (maxL := 6) (ret := none) (lv := [(0, .ref (h0)), (1, .ref (h2)), (2, .int (x))]) (by decide) rfl (Nat.le_of_ble_eq_true rfl) rfl ?_
  intro p e s m args below meth c ls A hx hb hr hml hown hts hlocks hl hK hP hsz hAe hA hD hS
  refine lv_iconst (v := 0) hx hb dX2_pourInto_0 (by decide) ?_
  refine lv_istore_n (lv' := [(3, .int (0)), (0, .ref (h0)), (1, .ref (h2)), (2, .int (x))]) hx hb dX2_pourInto_1 rfl hl (by decide) rfl (fun ls hl => ?_)
  have hL_2 : ∀ (n : Nat) (i : Nat), (i + n = t) → ∀ (H : Heap) (locs : List Loc), va_P D vwCl [(h0, .inr (2, [.ref (g0)])), (g0, .inl (ac 0, 48, .inl ((qOver g o i).1))), (h2, .inr (2, [.ref (o0)])), (o0, .inl (ac 0, 48, .inl ((qOver g o i).2)))] H → va_D A [(h0, .inr (2, [.ref (g0)])), (g0, .inl (ac 0, 48, .inl ((qOver g o i).1))), (h2, .inr (2, [.ref (o0)])), (o0, .inl (ac 0, 48, .inl ((qOver g o i).2)))] → va_S A s.heap H locs → ∀ (ls : Array Slot), lv_has ls 6 [(3, .int (nI (i))), (0, .ref (h0)), (1, .ref (h2)), (2, .int (x))] → W p l e ({ frames := 1, cells := 0, slots := 0, locals := 23 } : Room) s m args below meth c H locs 0 0 (MQ below (zQv D ac [(h0, .inr (2, [.ref (g0)])), (g0, .inl (ac 0, 48, .inl (g))), (h2, .inr (2, [.ref (o0)])), (o0, .inl (ac 0, 48, .inl (o)))] [(h0, .inr (2, [.ref (g0)])), (g0, .inl (ac 0, 48, .inl ((qOver g o t).1))), (h2, .inr (2, [.ref (o0)])), (o0, .inl (ac 0, 48, .inl ((qOver g o t).2)))] sz) args s 0 0 A) (F0 m 2 ls []) := by
    intro n
    induction n with
    | zero =>
      intro i hi H locs hP hD hS ls hl
      have e_i : t = i := by omega
      subst e_i
      refine lv_iload_n hx hb dX2_pourInto_2 rfl (lv_at hl 0 rfl) ?_
      refine lv_iload_n hx hb dX2_pourInto_3 rfl (lv_at hl 3 rfl) ?_
      refine lv_icmp_gt (tgt := 56) hx hb dX2_pourInto_4 (by decide) (fun c_4 => ?_) (fun c_4 => absurd c_4 (fun q => q (by rw [hx1]; exact (z_ltm1 (by omega) (by omega)).mpr (by omega))))
      exact z_vretW hx hb hr hlocks hK hP hD hS hAe dX2_pourInto_56
    | succ n ih =>
      intro i hi H locs hP hD hS ls hl
      refine lv_iload_n hx hb dX2_pourInto_2 rfl (lv_at hl 0 rfl) ?_
      refine lv_iload_n hx hb dX2_pourInto_3 rfl (lv_at hl 3 rfl) ?_
      refine lv_icmp_gt (tgt := 56) hx hb dX2_pourInto_4 (by decide) (fun c_4 => absurd c_4 (by rw [hx1]; exact fun q => absurd ((z_ltm1 (by omega) (by omega)).mp q) (by omega))) (fun c_4 => ?_)
      refine lv_iconst (v := 0) hx hb dX2_pourInto_7 (by decide) ?_
      refine lv_istore (lv' := [(4, .int (0)), (3, .int (nI (i))), (0, .ref (h0)), (1, .ref (h2)), (2, .int (x))]) hx hb dX2_pourInto_8 hl (by decide) rfl (fun ls hl => ?_)
      have hL_10 : ∀ (n2 : Nat) (j : Nat), (j + n2 = 4) → ∀ (H : Heap) (locs : List Loc), va_P D vwCl [(h0, .inr (2, [.ref (g0)])), (g0, .inl (ac 0, 48, .inl ((qOv (qOver g o i).1 (qOver g o i).2 i j).1))), (h2, .inr (2, [.ref (o0)])), (o0, .inl (ac 0, 48, .inl ((qOv (qOver g o i).1 (qOver g o i).2 i j).2)))] H → va_D A [(h0, .inr (2, [.ref (g0)])), (g0, .inl (ac 0, 48, .inl ((qOv (qOver g o i).1 (qOver g o i).2 i j).1))), (h2, .inr (2, [.ref (o0)])), (o0, .inl (ac 0, 48, .inl ((qOv (qOver g o i).1 (qOver g o i).2 i j).2)))] → va_S A s.heap H locs → ∀ (ls : Array Slot), lv_has ls 6 [(4, .int (nI (j))), (3, .int (nI (i))), (0, .ref (h0)), (1, .ref (h2)), (2, .int (x))] → W p l e ({ frames := 1, cells := 0, slots := 0, locals := 23 } : Room) s m args below meth c H locs 0 0 (MQ below (zQv D ac [(h0, .inr (2, [.ref (g0)])), (g0, .inl (ac 0, 48, .inl (g))), (h2, .inr (2, [.ref (o0)])), (o0, .inl (ac 0, 48, .inl (o)))] [(h0, .inr (2, [.ref (g0)])), (g0, .inl (ac 0, 48, .inl ((qOver g o t).1))), (h2, .inr (2, [.ref (o0)])), (o0, .inl (ac 0, 48, .inl ((qOver g o t).2)))] sz) args s 0 0 A) (F0 m 10 ls []) := by
        intro n2
        induction n2 with
        | zero =>
          intro j hj H locs hP hD hS ls hl
          have e_j : 4 = j := by omega
          subst e_j
          refine lv_iload hx hb dX2_pourInto_10 (lv_at hl 0 rfl) ?_
          refine lv_iconst (v := 4) hx hb dX2_pourInto_12 (by decide) ?_
          refine z_icmp_ge (tgt := 50) hx hb (4) (4) dX2_pourInto_13 (by decide) (by omega) (by omega) rfl rfl (fun c_13 => ?_) (fun c_13 => absurd c_13 (by omega))
          refine lv_iinc (v := nI ((i) + 1)) (lv' := [(3, .int (nI ((i) + 1))), (4, .int (nI (4))), (0, .ref (h0)), (1, .ref (h2)), (2, .int (x))]) hx hb dX2_pourInto_50 hl (k := 1) rfl (show nI (i) + Int32.ofInt 1 = _ from nI_add (i) 1) (by decide) rfl (fun ls hl => ?_)
          refine lv_goto (tgt := 2) hx hb dX2_pourInto_53 (by decide) ?_
          exact ih (i + 1) (by omega) _ _ hP hD hS ls (lv_sub hl [0, 2, 3, 4] rfl)
        | succ n2 ih =>
          intro j hj H locs hP hD hS ls hl
          refine lv_iload hx hb dX2_pourInto_10 (lv_at hl 0 rfl) ?_
          refine lv_iconst (v := 4) hx hb dX2_pourInto_12 (by decide) ?_
          refine z_icmp_ge (tgt := 50) hx hb (j) (4) dX2_pourInto_13 (by decide) (by omega) (by omega) rfl rfl (fun c_13 => absurd c_13 (by omega)) (fun c_13 => ?_)
          refine lv_aload_n hx hb dX2_pourInto_16 rfl (lv_at hl 2 rfl) ?_
          refine lv_iload_n hx hb dX2_pourInto_17 rfl (lv_at hl 1 rfl) ?_
          refine lv_iload hx hb dX2_pourInto_18 (lv_at hl 0 rfl) ?_
          refine z_ci (z_vrun (rest := []) (own := RX2) (As := [.int (nI (i)), .int (nI (j))]) hx hb hml hown hts hl.1 hK hP [0, 1] rfl (metX2_many l D ac h0 g0 ((qOv (qOver g o i).1 (qOver g o i).2 i j).1) i j (by omega) (by omega)) gX2_pourInto_X2_many rfl 2 (by decide +kernel) ⟨rfl, rfl, Nat.le_of_ble_eq_true rfl, Nat.le_of_ble_eq_true rfl⟩ 0 2 rfl rfl rfl rfl rfl (Nat.le_of_ble_eq_true rfl) dX2_pourInto_20 ⟨Nat.zero_le _, Nat.zero_le _⟩) ?_
          refine lv_istore (lv' := [(5, .int (((qOv (qOver g o i).1 (qOver g o i).2 i j).1) (4 * i + j))), (4, .int (nI (j))), (3, .int (nI (i))), (0, .ref (h0)), (1, .ref (h2)), (2, .int (x))]) hx hb dX2_pourInto_23 hl (by decide) rfl (fun ls hl => ?_)
          refine lv_aload_n hx hb dX2_pourInto_25 rfl (lv_at hl 4 rfl) ?_
          refine lv_iload_n hx hb dX2_pourInto_26 rfl (lv_at hl 2 rfl) ?_
          refine lv_iload hx hb dX2_pourInto_27 (lv_at hl 1 rfl) ?_
          refine lv_iload hx hb dX2_pourInto_29 (lv_at hl 0 rfl) ?_
          refine z_cvW [(h0, .inr (2, [.ref (g0)])), (g0, .inl (ac 0, 48, .inl ((qOv (qOver g o i).1 (qOver g o i).2 i j).1))), (h2, .inr (2, [.ref (o0)])), (o0, .inl (ac 0, 48, .inl (qPut ((qOv (qOver g o i).1 (qOver g o i).2 i j).2) i j (((qOv (qOver g o i).1 (qOver g o i).2 i j).1) (4 * i + j)))))] (z_vrunW (rest := []) (own := RX2) (As := [.int (nI (i)), .int (nI (j)), .int (((qOv (qOver g o i).1 (qOver g o i).2 i j).1) (4 * i + j))]) hx hb hml hown hts hl.1 hK hP hD [2, 3] rfl (by decide) rfl (metX2_put l D ac _ h2 o0 ((qOv (qOver g o i).1 (qOver g o i).2 i j).2) i j (((qOv (qOver g o i).1 (qOver g o i).2 i j).1) (4 * i + j)) (by omega) (by omega)) gX2_pourInto_X2_put rfl 3 (by decide +kernel) ⟨rfl, rfl, Nat.le_of_ble_eq_true rfl, Nat.le_of_ble_eq_true rfl⟩ 2 2 rfl rfl rfl rfl rfl (Nat.le_of_ble_eq_true rfl) dX2_pourInto_31 ⟨Nat.zero_le _, Nat.zero_le _⟩) hP hD hS hA [2, 3] [0, 1] [0, 1, 2, 3] rfl rfl (by decide) (by decide) (by decide) rfl (fun H locs hP hD hS => ?_)
          refine lv_aload_n hx hb dX2_pourInto_34 rfl (lv_at hl 3 rfl) ?_
          refine lv_iload_n hx hb dX2_pourInto_35 rfl (lv_at hl 2 rfl) ?_
          refine lv_iload hx hb dX2_pourInto_36 (lv_at hl 1 rfl) ?_
          refine lv_iload hx hb dX2_pourInto_38 (lv_at hl 0 rfl) ?_
          refine lv_ineg hx hb dX2_pourInto_40 ?_
          refine z_cvW [(h0, .inr (2, [.ref (g0)])), (g0, .inl (ac 0, 48, .inl (qPut ((qOv (qOver g o i).1 (qOver g o i).2 i j).1) i j (-(((qOv (qOver g o i).1 (qOver g o i).2 i j).1) (4 * i + j)))))), (h2, .inr (2, [.ref (o0)])), (o0, .inl (ac 0, 48, .inl (qPut ((qOv (qOver g o i).1 (qOver g o i).2 i j).2) i j (((qOv (qOver g o i).1 (qOver g o i).2 i j).1) (4 * i + j)))))] (z_vrunW (rest := []) (own := RX2) (As := [.int (nI (i)), .int (nI (j)), .int (-(((qOv (qOver g o i).1 (qOver g o i).2 i j).1) (4 * i + j)))]) hx hb hml hown hts hl.1 hK hP hD [0, 1] rfl (by decide) rfl (metX2_put l D ac _ h0 g0 ((qOv (qOver g o i).1 (qOver g o i).2 i j).1) i j (-(((qOv (qOver g o i).1 (qOver g o i).2 i j).1) (4 * i + j))) (by omega) (by omega)) gX2_pourInto_X2_put rfl 3 (by decide +kernel) ⟨rfl, rfl, Nat.le_of_ble_eq_true rfl, Nat.le_of_ble_eq_true rfl⟩ 0 2 rfl rfl rfl rfl rfl (Nat.le_of_ble_eq_true rfl) dX2_pourInto_41 ⟨Nat.zero_le _, Nat.zero_le _⟩) hP hD hS hA [0, 1] [2, 3] [2, 3, 0, 1] rfl rfl (by decide) (by decide) (by decide) rfl (fun H locs hP hD hS => ?_)
          refine lv_iinc (v := nI ((j) + 1)) (lv' := [(4, .int (nI ((j) + 1))), (5, .int (((qOv (qOver g o i).1 (qOver g o i).2 i j).1) (4 * i + j))), (3, .int (nI (i))), (0, .ref (h0)), (1, .ref (h2)), (2, .int (x))]) hx hb dX2_pourInto_44 hl (k := 1) rfl (show nI (j) + Int32.ofInt 1 = _ from nI_add (j) 1) (by decide) rfl (fun ls hl => ?_)
          refine lv_goto (tgt := 10) hx hb dX2_pourInto_47 (by decide) ?_
          exact ih (j + 1) (by omega) _ _ hP hD hS ls (lv_sub hl [0, 2, 3, 4, 5] rfl)
      exact hL_10 (4) (0) (by omega) _ _ hP hD hS ls (lv_sub hl [0, 1, 2, 3, 4] rfl)
  exact hL_2 (t) (0) (by omega) _ _ hP hD hS ls (lv_sub hl [0, 1, 2, 3] rfl)

set_option maxRecDepth 100000 in
set_option maxHeartbeats 4000000 in
theorem metX2_turnOver (l : Launch) (D : va_G) (ac : Nat → ClassId) (sz : Nat) (h0 : Nat) (g0 : Nat) (g : Nat → Int32)  : Met l yX2_turnOver wsX2_turnOver ({ frames := 1, cells := 0, slots := 0, locals := 23 } : Room) (va_Pc [.ref (h0)] (zS D ac [(h0, .inr (2, [.ref (g0)])), (g0, .inl (ac 0, 48, .inl (g)))] sz)) (zQv D ac [(h0, .inr (2, [.ref (g0)])), (g0, .inl (ac 0, 48, .inl (g)))] [(h0, .inr (2, [.ref (g0)])), (g0, .inl (ac 0, 48, .inl (qTurn g 6)))] sz) 0 0 (va_A [(h0, .inr (2, [.ref (g0)])), (g0, .inl (ac 0, 48, .inl (g)))] sz) := by
  refine z_rw (cc := cX2_turnOver) (maxL := 4) (ret := none) (lv := [(0, .ref (h0))]) (by decide) rfl (Nat.le_of_ble_eq_true rfl) rfl ?_
  intro p e s m args below meth c ls A hx hb hr hml hown hts hlocks hl hK hP hsz hAe hA hD hS
  refine lv_iconst (v := 0) hx hb dX2_turnOver_0 (by decide) ?_
  refine lv_istore_n (lv' := [(1, .int (0)), (0, .ref (h0))]) hx hb dX2_turnOver_1 rfl hl (by decide) rfl (fun ls hl => ?_)
  have hL_2 : ∀ (n : Nat) (i : Nat), (i + n = 6) → ∀ (H : Heap) (locs : List Loc), va_P D vwCl [(h0, .inr (2, [.ref (g0)])), (g0, .inl (ac 0, 48, .inl (qTurn g i)))] H → va_D A [(h0, .inr (2, [.ref (g0)])), (g0, .inl (ac 0, 48, .inl (qTurn g i)))] → va_S A s.heap H locs → ∀ (ls : Array Slot), lv_has ls 4 [(1, .int (nI (i))), (0, .ref (h0))] → W p l e ({ frames := 1, cells := 0, slots := 0, locals := 23 } : Room) s m args below meth c H locs 0 0 (MQ below (zQv D ac [(h0, .inr (2, [.ref (g0)])), (g0, .inl (ac 0, 48, .inl (g)))] [(h0, .inr (2, [.ref (g0)])), (g0, .inl (ac 0, 48, .inl (qTurn g 6)))] sz) args s 0 0 A) (F0 m 2 ls []) := by
    intro n
    induction n with
    | zero =>
      intro i hi H locs hP hD hS ls hl
      have e_i : 6 = i := by omega
      subst e_i
      refine lv_iload_n hx hb dX2_turnOver_2 rfl (lv_at hl 0 rfl) ?_
      refine lv_bipush (v := 11) hx hb dX2_turnOver_3 (by decide) ?_
      refine lv_iload_n hx hb dX2_turnOver_5 rfl (lv_at hl 0 rfl) ?_
      refine lv_isub hx hb dX2_turnOver_6 ?_
      refine z_top (y := nI (5)) (pk_sub (a := 11) (b := 6) (by omega)) ?_
      refine z_icmp_ge (tgt := 64) hx hb (6) (5) dX2_turnOver_7 (by decide) (by omega) (by omega) rfl rfl (fun c_7 => ?_) (fun c_7 => absurd c_7 (by omega))
      exact z_vretW hx hb hr hlocks hK hP hD hS hAe dX2_turnOver_64
    | succ n ih =>
      intro i hi H locs hP hD hS ls hl
      refine lv_iload_n hx hb dX2_turnOver_2 rfl (lv_at hl 0 rfl) ?_
      refine lv_bipush (v := 11) hx hb dX2_turnOver_3 (by decide) ?_
      refine lv_iload_n hx hb dX2_turnOver_5 rfl (lv_at hl 0 rfl) ?_
      refine lv_isub hx hb dX2_turnOver_6 ?_
      refine z_top (y := nI ((11) - (i))) (pk_sub (a := 11) (b := i) (by omega)) ?_
      refine z_icmp_ge (tgt := 64) hx hb (i) ((11) - (i)) dX2_turnOver_7 (by decide) (by omega) (by omega) rfl rfl (fun c_7 => absurd c_7 (by omega)) (fun c_7 => ?_)
      refine lv_iconst (v := 0) hx hb dX2_turnOver_10 (by decide) ?_
      refine lv_istore_n (lv' := [(2, .int (0)), (1, .int (nI (i))), (0, .ref (h0))]) hx hb dX2_turnOver_11 rfl hl (by decide) rfl (fun ls hl => ?_)
      have hL_12 : ∀ (n2 : Nat) (j : Nat), (j + n2 = 4) → ∀ (H : Heap) (locs : List Loc), va_P D vwCl [(h0, .inr (2, [.ref (g0)])), (g0, .inl (ac 0, 48, .inl (qTn (qTurn g i) i j)))] H → va_D A [(h0, .inr (2, [.ref (g0)])), (g0, .inl (ac 0, 48, .inl (qTn (qTurn g i) i j)))] → va_S A s.heap H locs → ∀ (ls : Array Slot), lv_has ls 4 [(2, .int (nI (j))), (1, .int (nI (i))), (0, .ref (h0))] → W p l e ({ frames := 1, cells := 0, slots := 0, locals := 23 } : Room) s m args below meth c H locs 0 0 (MQ below (zQv D ac [(h0, .inr (2, [.ref (g0)])), (g0, .inl (ac 0, 48, .inl (g)))] [(h0, .inr (2, [.ref (g0)])), (g0, .inl (ac 0, 48, .inl (qTurn g 6)))] sz) args s 0 0 A) (F0 m 12 ls []) := by
        intro n2
        induction n2 with
        | zero =>
          intro j hj H locs hP hD hS ls hl
          have e_j : 4 = j := by omega
          subst e_j
          refine lv_iload_n hx hb dX2_turnOver_12 rfl (lv_at hl 0 rfl) ?_
          refine lv_iconst (v := 4) hx hb dX2_turnOver_13 (by decide) ?_
          refine z_icmp_ge (tgt := 58) hx hb (4) (4) dX2_turnOver_14 (by decide) (by omega) (by omega) rfl rfl (fun c_14 => ?_) (fun c_14 => absurd c_14 (by omega))
          refine lv_iinc (v := nI ((i) + 1)) (lv' := [(1, .int (nI ((i) + 1))), (2, .int (nI (4))), (0, .ref (h0))]) hx hb dX2_turnOver_58 hl (k := 1) rfl (show nI (i) + Int32.ofInt 1 = _ from nI_add (i) 1) (by decide) rfl (fun ls hl => ?_)
          refine lv_goto (tgt := 2) hx hb dX2_turnOver_61 (by decide) ?_
          exact ih (i + 1) (by omega) _ _ hP hD hS ls (lv_sub hl [0, 2] rfl)
        | succ n2 ih =>
          intro j hj H locs hP hD hS ls hl
          refine lv_iload_n hx hb dX2_turnOver_12 rfl (lv_at hl 0 rfl) ?_
          refine lv_iconst (v := 4) hx hb dX2_turnOver_13 (by decide) ?_
          refine z_icmp_ge (tgt := 58) hx hb (j) (4) dX2_turnOver_14 (by decide) (by omega) (by omega) rfl rfl (fun c_14 => absurd c_14 (by omega)) (fun c_14 => ?_)
          refine lv_aload_n hx hb dX2_turnOver_17 rfl (lv_at hl 2 rfl) ?_
          refine lv_bipush (v := 11) hx hb dX2_turnOver_18 (by decide) ?_
          refine lv_iload_n hx hb dX2_turnOver_20 rfl (lv_at hl 1 rfl) ?_
          refine lv_isub hx hb dX2_turnOver_21 ?_
          refine z_top (y := nI ((11) - (i))) (pk_sub (a := 11) (b := i) (by omega)) ?_
          refine lv_iload_n hx hb dX2_turnOver_22 rfl (lv_at hl 0 rfl) ?_
          refine z_ci (z_vrun (rest := []) (own := RX2) (As := [.int (nI ((11) - (i))), .int (nI (j))]) hx hb hml hown hts hl.1 hK hP [0, 1] rfl (metX2_many l D ac h0 g0 (qTn (qTurn g i) i j) ((11) - (i)) j (by omega) (by omega)) gX2_turnOver_X2_many rfl 2 (by decide +kernel) ⟨rfl, rfl, Nat.le_of_ble_eq_true rfl, Nat.le_of_ble_eq_true rfl⟩ 0 2 rfl rfl rfl rfl rfl (Nat.le_of_ble_eq_true rfl) dX2_turnOver_23 ⟨Nat.zero_le _, Nat.zero_le _⟩) ?_
          refine lv_aload_n hx hb dX2_turnOver_26 rfl (lv_at hl 2 rfl) ?_
          refine lv_iload_n hx hb dX2_turnOver_27 rfl (lv_at hl 1 rfl) ?_
          refine lv_iload_n hx hb dX2_turnOver_28 rfl (lv_at hl 0 rfl) ?_
          refine z_ci (z_vrun (rest := [.int ((qTn (qTurn g i) i j) (4 * ((11) - (i)) + j))]) (own := RX2) (As := [.int (nI (i)), .int (nI (j))]) hx hb hml hown hts hl.1 hK hP [0, 1] rfl (metX2_many l D ac h0 g0 (qTn (qTurn g i) i j) i j (by omega) (by omega)) gX2_turnOver_X2_many rfl 2 (by decide +kernel) ⟨rfl, rfl, Nat.le_of_ble_eq_true rfl, Nat.le_of_ble_eq_true rfl⟩ 0 2 rfl rfl rfl rfl rfl (Nat.le_of_ble_eq_true rfl) dX2_turnOver_29 ⟨Nat.zero_le _, Nat.zero_le _⟩) ?_
          refine lv_isub hx hb dX2_turnOver_32 ?_
          refine lv_istore_n (lv' := [(3, .int (((qTn (qTurn g i) i j) (4 * ((11) - (i)) + j)) - ((qTn (qTurn g i) i j) (4 * i + j)))), (2, .int (nI (j))), (1, .int (nI (i))), (0, .ref (h0))]) hx hb dX2_turnOver_33 rfl hl (by decide) rfl (fun ls hl => ?_)
          refine lv_aload_n hx hb dX2_turnOver_34 rfl (lv_at hl 3 rfl) ?_
          refine lv_iload_n hx hb dX2_turnOver_35 rfl (lv_at hl 2 rfl) ?_
          refine lv_iload_n hx hb dX2_turnOver_36 rfl (lv_at hl 1 rfl) ?_
          refine lv_iload_n hx hb dX2_turnOver_37 rfl (lv_at hl 0 rfl) ?_
          refine z_cvW [(h0, .inr (2, [.ref (g0)])), (g0, .inl (ac 0, 48, .inl (qPut (qTn (qTurn g i) i j) i j (((qTn (qTurn g i) i j) (4 * ((11) - (i)) + j)) - ((qTn (qTurn g i) i j) (4 * i + j))))))] (z_vrunW (rest := []) (own := RX2) (As := [.int (nI (i)), .int (nI (j)), .int (((qTn (qTurn g i) i j) (4 * ((11) - (i)) + j)) - ((qTn (qTurn g i) i j) (4 * i + j)))]) hx hb hml hown hts hl.1 hK hP hD [0, 1] rfl (by decide) rfl (metX2_put l D ac _ h0 g0 (qTn (qTurn g i) i j) i j (((qTn (qTurn g i) i j) (4 * ((11) - (i)) + j)) - ((qTn (qTurn g i) i j) (4 * i + j))) (by omega) (by omega)) gX2_turnOver_X2_put rfl 3 (by decide +kernel) ⟨rfl, rfl, Nat.le_of_ble_eq_true rfl, Nat.le_of_ble_eq_true rfl⟩ 0 2 rfl rfl rfl rfl rfl (Nat.le_of_ble_eq_true rfl) dX2_turnOver_38 ⟨Nat.zero_le _, Nat.zero_le _⟩) hP hD hS hA [0, 1] [] [0, 1] rfl rfl (by decide) (by decide) (by decide) rfl (fun H locs hP hD hS => ?_)
          refine lv_aload_n hx hb dX2_turnOver_41 rfl (lv_at hl 3 rfl) ?_
          refine lv_bipush (v := 11) hx hb dX2_turnOver_42 (by decide) ?_
          refine lv_iload_n hx hb dX2_turnOver_44 rfl (lv_at hl 2 rfl) ?_
          refine lv_isub hx hb dX2_turnOver_45 ?_
          refine z_top (y := nI ((11) - (i))) (pk_sub (a := 11) (b := i) (by omega)) ?_
          refine lv_iload_n hx hb dX2_turnOver_46 rfl (lv_at hl 1 rfl) ?_
          refine lv_iload_n hx hb dX2_turnOver_47 rfl (lv_at hl 0 rfl) ?_
          refine lv_ineg hx hb dX2_turnOver_48 ?_
          refine z_cvW [(h0, .inr (2, [.ref (g0)])), (g0, .inl (ac 0, 48, .inl (qPut (qPut (qTn (qTurn g i) i j) i j (((qTn (qTurn g i) i j) (4 * ((11) - (i)) + j)) - ((qTn (qTurn g i) i j) (4 * i + j)))) ((11) - (i)) j (-(((qTn (qTurn g i) i j) (4 * ((11) - (i)) + j)) - ((qTn (qTurn g i) i j) (4 * i + j)))))))] (z_vrunW (rest := []) (own := RX2) (As := [.int (nI ((11) - (i))), .int (nI (j)), .int (-(((qTn (qTurn g i) i j) (4 * ((11) - (i)) + j)) - ((qTn (qTurn g i) i j) (4 * i + j))))]) hx hb hml hown hts hl.1 hK hP hD [0, 1] rfl (by decide) rfl (metX2_put l D ac _ h0 g0 (qPut (qTn (qTurn g i) i j) i j (((qTn (qTurn g i) i j) (4 * ((11) - (i)) + j)) - ((qTn (qTurn g i) i j) (4 * i + j)))) ((11) - (i)) j (-(((qTn (qTurn g i) i j) (4 * ((11) - (i)) + j)) - ((qTn (qTurn g i) i j) (4 * i + j)))) (by omega) (by omega)) gX2_turnOver_X2_put rfl 3 (by decide +kernel) ⟨rfl, rfl, Nat.le_of_ble_eq_true rfl, Nat.le_of_ble_eq_true rfl⟩ 0 2 rfl rfl rfl rfl rfl (Nat.le_of_ble_eq_true rfl) dX2_turnOver_49 ⟨Nat.zero_le _, Nat.zero_le _⟩) hP hD hS hA [0, 1] [] [0, 1] rfl rfl (by decide) (by decide) (by decide) rfl (fun H locs hP hD hS => ?_)
          refine lv_iinc (v := nI ((j) + 1)) (lv' := [(2, .int (nI ((j) + 1))), (3, .int (((qTn (qTurn g i) i j) (4 * ((11) - (i)) + j)) - ((qTn (qTurn g i) i j) (4 * i + j)))), (1, .int (nI (i))), (0, .ref (h0))]) hx hb dX2_turnOver_52 hl (k := 1) rfl (show nI (j) + Int32.ofInt 1 = _ from nI_add (j) 1) (by decide) rfl (fun ls hl => ?_)
          refine lv_goto (tgt := 12) hx hb dX2_turnOver_55 (by decide) ?_
          exact ih (j + 1) (by omega) _ _ hP hD hS ls (lv_sub hl [0, 2, 3] rfl)
      exact hL_12 (4) (0) (by omega) _ _ hP hD hS ls (lv_sub hl [0, 1, 2] rfl)
  exact hL_2 (6) (0) (by omega) _ _ hP hD hS ls (lv_sub hl [0, 1] rfl)

set_option maxRecDepth 100000 in
set_option maxHeartbeats 4000000 in
theorem metX2_fallFrom (l : Launch) (D : va_G) (ac : Nat → ClassId) (sz : Nat) (h0 : Nat) (g0 : Nat) (g : Nat → Int32) (h1 : Nat) (v0 : Nat) (w0 : Nat) (v : Nat → Int32) (w : Nat → Int32) (s1 : Nat) (hs : s1 < 11) : Met l yX2_fallFrom wsX2_fallFrom ({ frames := 2, cells := 0, slots := 0, locals := 45 } : Room) (va_Pc [.ref (h0), .int (nI (s1)), .ref (h1)] (zS D ac [(h0, .inr (2, [.ref (g0)])), (g0, .inl (ac 0, 48, .inl (g))), (h1, .inr (3, [.ref (v0), .ref (w0)])), (v0, .inl (ac 0, 4, .inl (v))), (w0, .inl (ac 0, 4, .inl (w)))] sz)) (zQi D ac [(h0, .inr (2, [.ref (g0)])), (g0, .inl (ac 0, 48, .inl (g))), (h1, .inr (3, [.ref (v0), .ref (w0)])), (v0, .inl (ac 0, 4, .inl (v))), (w0, .inl (ac 0, 4, .inl (w)))] [(h0, .inr (2, [.ref (g0)])), (g0, .inl (ac 0, 48, .inl ((qFall g v w s1).1))), (h1, .inr (3, [.ref (v0), .ref (w0)])), (v0, .inl (ac 0, 4, .inl (v))), (w0, .inl (ac 0, 4, .inl (w)))] sz ((qFall g v w s1).2)) 0 0 (va_A [(h0, .inr (2, [.ref (g0)])), (g0, .inl (ac 0, 48, .inl (g))), (h1, .inr (3, [.ref (v0), .ref (w0)])), (v0, .inl (ac 0, 4, .inl (v))), (w0, .inl (ac 0, 4, .inl (w)))] sz) := by
  refine z_rw (cc := cX2_fallFrom) (maxL := 9) (ret := (some .int)) (lv := [(0, .ref (h0)), (1, .int (nI (s1))), (2, .ref (h1))]) (by decide) rfl (Nat.le_of_ble_eq_true rfl) rfl ?_
  intro p e s m args below meth c ls A hx hb hr hml hown hts hlocks hl hK hP hsz hAe hA hD hS
  refine lv_aload_n hx hb dX2_fallFrom_0 rfl (lv_at hl 2 rfl) ?_
  refine lv_aload_n hx hb dX2_fallFrom_1 rfl (lv_at hl 0 rfl) ?_
  refine lv_iload_n hx hb dX2_fallFrom_2 rfl (lv_at hl 1 rfl) ?_
  refine z_ci (z_vrun (rest := [.ref (h1)]) (own := RX2) (As := [.int (nI (s1))]) hx hb hml hown hts hl.1 hK hP [0, 1] rfl (metX2_allIn l D ac h0 g0 g s1 (by omega)) gX2_fallFrom_X2_allIn rfl 1 (by decide +kernel) ⟨rfl, rfl, Nat.le_of_ble_eq_true rfl, Nat.le_of_ble_eq_true rfl⟩ 0 2 rfl rfl rfl rfl rfl (Nat.le_of_ble_eq_true rfl) dX2_fallFrom_3 ⟨Nat.zero_le _, Nat.zero_le _⟩) ?_
  refine z_ci (z_vrun (rest := []) (own := RX2) (As := [.int (qIn g s1)]) hx hb hml hown hts hl.1 hK hP [2, 3, 4] rfl (metX3_factorOf l D ac h1 v0 w0 v w (qIn g s1) ) gX2_fallFrom_X3_factorOf rfl 1 (by decide +kernel) ⟨rfl, rfl, Nat.le_of_ble_eq_true rfl, Nat.le_of_ble_eq_true rfl⟩ 2 3 rfl rfl rfl rfl rfl (Nat.le_of_ble_eq_true rfl) dX2_fallFrom_6 ⟨Nat.zero_le _, Nat.zero_le _⟩) ?_
  refine lv_istore_n (lv' := [(3, .int (qFac (v 0) (qIn g s1))), (0, .ref (h0)), (1, .int (nI (s1))), (2, .ref (h1))]) hx hb dX2_fallFrom_9 rfl hl (by decide) rfl (fun ls hl => ?_)
  refine lv_aload_n hx hb dX2_fallFrom_10 rfl (lv_at hl 3 rfl) ?_
  refine lv_aload_n hx hb dX2_fallFrom_11 rfl (lv_at hl 1 rfl) ?_
  refine lv_iload_n hx hb dX2_fallFrom_12 rfl (lv_at hl 2 rfl) ?_
  refine lv_iconst (v := 1) hx hb dX2_fallFrom_13 (by decide) ?_
  refine lv_iadd hx hb dX2_fallFrom_14 ?_
  refine z_top (y := nI ((s1) + (1))) (nI_add (s1) (1)) ?_
  refine z_ci (z_vrun (rest := [.ref (h1)]) (own := RX2) (As := [.int (nI ((s1) + (1)))]) hx hb hml hown hts hl.1 hK hP [0, 1] rfl (metX2_allIn l D ac h0 g0 g ((s1) + (1)) (by omega)) gX2_fallFrom_X2_allIn rfl 1 (by decide +kernel) ⟨rfl, rfl, Nat.le_of_ble_eq_true rfl, Nat.le_of_ble_eq_true rfl⟩ 0 2 rfl rfl rfl rfl rfl (Nat.le_of_ble_eq_true rfl) dX2_fallFrom_15 ⟨Nat.zero_le _, Nat.zero_le _⟩) ?_
  refine z_ci (z_vrun (rest := []) (own := RX2) (As := [.int (qIn g ((s1) + (1)))]) hx hb hml hown hts hl.1 hK hP [2, 3, 4] rfl (metX3_roomOver l D ac h1 v0 w0 v w (qIn g ((s1) + (1))) ) gX2_fallFrom_X3_roomOver rfl 1 (by decide +kernel) ⟨rfl, rfl, Nat.le_of_ble_eq_true rfl, Nat.le_of_ble_eq_true rfl⟩ 2 3 rfl rfl rfl rfl rfl (Nat.le_of_ble_eq_true rfl) dX2_fallFrom_18 ⟨Nat.zero_le _, Nat.zero_le _⟩) ?_
  refine lv_istore (lv' := [(4, .int (qRoom (v 1) (qIn g ((s1) + (1))))), (3, .int (qFac (v 0) (qIn g s1))), (0, .ref (h0)), (1, .int (nI (s1))), (2, .ref (h1))]) hx hb dX2_fallFrom_21 hl (by decide) rfl (fun ls hl => ?_)
  refine lv_iconst (v := 0) hx hb dX2_fallFrom_23 (by decide) ?_
  refine lv_istore (lv' := [(5, .int (0)), (4, .int (qRoom (v 1) (qIn g ((s1) + (1))))), (3, .int (qFac (v 0) (qIn g s1))), (0, .ref (h0)), (1, .int (nI (s1))), (2, .ref (h1))]) hx hb dX2_fallFrom_24 hl (by decide) rfl (fun ls hl => ?_)
  refine lv_iconst (v := 0) hx hb dX2_fallFrom_26 (by decide) ?_
  refine lv_istore (lv' := [(6, .int (0)), (5, .int (0)), (4, .int (qRoom (v 1) (qIn g ((s1) + (1))))), (3, .int (qFac (v 0) (qIn g s1))), (0, .ref (h0)), (1, .int (nI (s1))), (2, .ref (h1))]) hx hb dX2_fallFrom_27 hl (by decide) rfl (fun ls hl => ?_)
  have hL_29 : ∀ (n : Nat) (i : Nat), (i + n = 4) → ∀ (H : Heap) (locs : List Loc), va_P D vwCl [(h0, .inr (2, [.ref (g0)])), (g0, .inl (ac 0, 48, .inl ((qFa g v w s1 i).1))), (h1, .inr (3, [.ref (v0), .ref (w0)])), (v0, .inl (ac 0, 4, .inl (v))), (w0, .inl (ac 0, 4, .inl (w)))] H → va_D A [(h0, .inr (2, [.ref (g0)])), (g0, .inl (ac 0, 48, .inl ((qFa g v w s1 i).1))), (h1, .inr (3, [.ref (v0), .ref (w0)])), (v0, .inl (ac 0, 4, .inl (v))), (w0, .inl (ac 0, 4, .inl (w)))] → va_S A s.heap H locs → ∀ (ls : Array Slot), lv_has ls 9 [(6, .int (nI (i))), (5, .int ((qFa g v w s1 i).2)), (4, .int (qRoom (v 1) (qIn g ((s1) + (1))))), (3, .int (qFac (v 0) (qIn g s1))), (0, .ref (h0)), (1, .int (nI (s1))), (2, .ref (h1))] → W p l e ({ frames := 2, cells := 0, slots := 0, locals := 45 } : Room) s m args below meth c H locs 0 0 (MQ below (zQi D ac [(h0, .inr (2, [.ref (g0)])), (g0, .inl (ac 0, 48, .inl (g))), (h1, .inr (3, [.ref (v0), .ref (w0)])), (v0, .inl (ac 0, 4, .inl (v))), (w0, .inl (ac 0, 4, .inl (w)))] [(h0, .inr (2, [.ref (g0)])), (g0, .inl (ac 0, 48, .inl ((qFall g v w s1).1))), (h1, .inr (3, [.ref (v0), .ref (w0)])), (v0, .inl (ac 0, 4, .inl (v))), (w0, .inl (ac 0, 4, .inl (w)))] sz ((qFall g v w s1).2)) args s 0 0 A) (F0 m 29 ls []) := by
    intro n
    induction n with
    | zero =>
      intro i hi H locs hP hD hS ls hl
      have e_i : 4 = i := by omega
      subst e_i
      refine lv_iload hx hb dX2_fallFrom_29 (lv_at hl 0 rfl) ?_
      refine lv_iconst (v := 4) hx hb dX2_fallFrom_31 (by decide) ?_
      refine z_icmp_ge (tgt := 97) hx hb (4) (4) dX2_fallFrom_32 (by decide) (by omega) (by omega) rfl rfl (fun c_32 => ?_) (fun c_32 => absurd c_32 (by omega))
      refine lv_iload hx hb dX2_fallFrom_97 (lv_at hl 1 rfl) ?_
      exact z_iretW hx hb hr hlocks hK hP hD hS hAe (rfl) dX2_fallFrom_99
    | succ n ih =>
      intro i hi H locs hP hD hS ls hl
      refine lv_iload hx hb dX2_fallFrom_29 (lv_at hl 0 rfl) ?_
      refine lv_iconst (v := 4) hx hb dX2_fallFrom_31 (by decide) ?_
      refine z_icmp_ge (tgt := 97) hx hb (i) (4) dX2_fallFrom_32 (by decide) (by omega) (by omega) rfl rfl (fun c_32 => absurd c_32 (by omega)) (fun c_32 => ?_)
      refine lv_aload_n hx hb dX2_fallFrom_35 rfl (lv_at hl 6 rfl) ?_
      refine lv_iload hx hb dX2_fallFrom_36 (lv_at hl 0 rfl) ?_
      refine lv_aload_n hx hb dX2_fallFrom_38 rfl (lv_at hl 4 rfl) ?_
      refine lv_iload_n hx hb dX2_fallFrom_39 rfl (lv_at hl 5 rfl) ?_
      refine lv_iload hx hb dX2_fallFrom_40 (lv_at hl 0 rfl) ?_
      refine z_ci (z_vrun (rest := [.int (nI (i)), .ref (h1)]) (own := RX2) (As := [.int (nI (s1)), .int (nI (i))]) hx hb hml hown hts hl.1 hK hP [0, 1] rfl (metX2_many l D ac h0 g0 ((qFa g v w s1 i).1) s1 i (by omega) (by omega)) gX2_fallFrom_X2_many rfl 2 (by decide +kernel) ⟨rfl, rfl, Nat.le_of_ble_eq_true rfl, Nat.le_of_ble_eq_true rfl⟩ 0 2 rfl rfl rfl rfl rfl (Nat.le_of_ble_eq_true rfl) dX2_fallFrom_42 ⟨Nat.zero_le _, Nat.zero_le _⟩) ?_
      refine lv_iload_n hx hb dX2_fallFrom_45 rfl (lv_at hl 3 rfl) ?_
      refine z_ci (z_vrun (rest := []) (own := RX2) (As := [.int (nI (i)), .int (((qFa g v w s1 i).1) (4 * s1 + i)), .int (qFac (v 0) (qIn g s1))]) hx hb hml hown hts hl.1 hK hP [2, 3, 4] rfl (metX3_wantingToFall l D ac h1 v0 w0 v w i (((qFa g v w s1 i).1) (4 * s1 + i)) (qFac (v 0) (qIn g s1)) (by omega)) gX2_fallFrom_X3_wantingToFall rfl 3 (by decide +kernel) ⟨rfl, rfl, Nat.le_of_ble_eq_true rfl, Nat.le_of_ble_eq_true rfl⟩ 2 3 rfl rfl rfl rfl rfl (Nat.le_of_ble_eq_true rfl) dX2_fallFrom_46 ⟨Nat.zero_le _, Nat.zero_le _⟩) ?_
      refine lv_istore (lv' := [(7, .int (qWant (w i) (v 3) (((qFa g v w s1 i).1) (4 * s1 + i)) (qFac (v 0) (qIn g s1)))), (6, .int (nI (i))), (5, .int ((qFa g v w s1 i).2)), (4, .int (qRoom (v 1) (qIn g ((s1) + (1))))), (3, .int (qFac (v 0) (qIn g s1))), (0, .ref (h0)), (1, .int (nI (s1))), (2, .ref (h1))]) hx hb dX2_fallFrom_49 hl (by decide) rfl (fun ls hl => ?_)
      refine lv_iload hx hb dX2_fallFrom_51 (lv_at hl 0 rfl) ?_
      refine lv_iload hx hb dX2_fallFrom_53 (lv_at hl 3 rfl) ?_
      refine lv_iload hx hb dX2_fallFrom_55 (lv_at hl 2 rfl) ?_
      refine lv_isub hx hb dX2_fallFrom_57 ?_
      refine va_mmin hx hb (by rw [hml]; exact hl.1.symm) hown (hts (.methodLink RX2 56 Lib.Math.min.name) (by decide +kernel)) (hts (.static Lib.Math.min.name) (by decide +kernel)) (hts (.initialized "java/lang/Math") (by decide +kernel)) (hts (.code Lib.Math.min.name Lib.Math.min.code 2 (some .int)) (by decide +kernel)) (Nat.le_of_ble_eq_true rfl) (Nat.le_of_ble_eq_true rfl) (Nat.zero_le _) (Nat.zero_le _) dX2_fallFrom_58 ?_
      refine lv_istore (lv' := [(8, .int (if ((qRoom (v 1) (qIn g ((s1) + (1)))) - ((qFa g v w s1 i).2)) < (qWant (w i) (v 3) (((qFa g v w s1 i).1) (4 * s1 + i)) (qFac (v 0) (qIn g s1))) then ((qRoom (v 1) (qIn g ((s1) + (1)))) - ((qFa g v w s1 i).2)) else (qWant (w i) (v 3) (((qFa g v w s1 i).1) (4 * s1 + i)) (qFac (v 0) (qIn g s1))))), (7, .int (qWant (w i) (v 3) (((qFa g v w s1 i).1) (4 * s1 + i)) (qFac (v 0) (qIn g s1)))), (6, .int (nI (i))), (5, .int ((qFa g v w s1 i).2)), (4, .int (qRoom (v 1) (qIn g ((s1) + (1))))), (3, .int (qFac (v 0) (qIn g s1))), (0, .ref (h0)), (1, .int (nI (s1))), (2, .ref (h1))]) hx hb dX2_fallFrom_61 hl (by decide) rfl (fun ls hl => ?_)
      refine lv_aload_n hx hb dX2_fallFrom_63 rfl (lv_at hl 6 rfl) ?_
      refine lv_iload_n hx hb dX2_fallFrom_64 rfl (lv_at hl 7 rfl) ?_
      refine lv_iload hx hb dX2_fallFrom_65 (lv_at hl 2 rfl) ?_
      refine lv_iload hx hb dX2_fallFrom_67 (lv_at hl 0 rfl) ?_
      refine lv_ineg hx hb dX2_fallFrom_69 ?_
      refine z_cvW [(h0, .inr (2, [.ref (g0)])), (g0, .inl (ac 0, 48, .inl (qPut ((qFa g v w s1 i).1) s1 i (-(if ((qRoom (v 1) (qIn g ((s1) + (1)))) - ((qFa g v w s1 i).2)) < (qWant (w i) (v 3) (((qFa g v w s1 i).1) (4 * s1 + i)) (qFac (v 0) (qIn g s1))) then ((qRoom (v 1) (qIn g ((s1) + (1)))) - ((qFa g v w s1 i).2)) else (qWant (w i) (v 3) (((qFa g v w s1 i).1) (4 * s1 + i)) (qFac (v 0) (qIn g s1)))))))), (h1, .inr (3, [.ref (v0), .ref (w0)])), (v0, .inl (ac 0, 4, .inl (v))), (w0, .inl (ac 0, 4, .inl (w)))] (z_vrunW (rest := []) (own := RX2) (As := [.int (nI (s1)), .int (nI (i)), .int (-(if ((qRoom (v 1) (qIn g ((s1) + (1)))) - ((qFa g v w s1 i).2)) < (qWant (w i) (v 3) (((qFa g v w s1 i).1) (4 * s1 + i)) (qFac (v 0) (qIn g s1))) then ((qRoom (v 1) (qIn g ((s1) + (1)))) - ((qFa g v w s1 i).2)) else (qWant (w i) (v 3) (((qFa g v w s1 i).1) (4 * s1 + i)) (qFac (v 0) (qIn g s1)))))]) hx hb hml hown hts hl.1 hK hP hD [0, 1] rfl (by decide) rfl (metX2_put l D ac _ h0 g0 ((qFa g v w s1 i).1) s1 i (-(if ((qRoom (v 1) (qIn g ((s1) + (1)))) - ((qFa g v w s1 i).2)) < (qWant (w i) (v 3) (((qFa g v w s1 i).1) (4 * s1 + i)) (qFac (v 0) (qIn g s1))) then ((qRoom (v 1) (qIn g ((s1) + (1)))) - ((qFa g v w s1 i).2)) else (qWant (w i) (v 3) (((qFa g v w s1 i).1) (4 * s1 + i)) (qFac (v 0) (qIn g s1))))) (by omega) (by omega)) gX2_fallFrom_X2_put rfl 3 (by decide +kernel) ⟨rfl, rfl, Nat.le_of_ble_eq_true rfl, Nat.le_of_ble_eq_true rfl⟩ 0 2 rfl rfl rfl rfl rfl (Nat.le_of_ble_eq_true rfl) dX2_fallFrom_70 ⟨Nat.zero_le _, Nat.zero_le _⟩) hP hD hS hA [0, 1] [2, 3, 4] [3, 4, 0, 1, 2] rfl rfl (by decide) (by decide) (by decide) rfl (fun H locs hP hD hS => ?_)
      refine lv_aload_n hx hb dX2_fallFrom_73 rfl (lv_at hl 6 rfl) ?_
      refine lv_iload_n hx hb dX2_fallFrom_74 rfl (lv_at hl 7 rfl) ?_
      refine lv_iconst (v := 1) hx hb dX2_fallFrom_75 (by decide) ?_
      refine lv_iadd hx hb dX2_fallFrom_76 ?_
      refine z_top (y := nI ((s1) + (1))) (nI_add (s1) (1)) ?_
      refine lv_iload hx hb dX2_fallFrom_77 (lv_at hl 2 rfl) ?_
      refine lv_iload hx hb dX2_fallFrom_79 (lv_at hl 0 rfl) ?_
      refine z_cvW [(h0, .inr (2, [.ref (g0)])), (g0, .inl (ac 0, 48, .inl (qPut (qPut ((qFa g v w s1 i).1) s1 i (-(if ((qRoom (v 1) (qIn g ((s1) + (1)))) - ((qFa g v w s1 i).2)) < (qWant (w i) (v 3) (((qFa g v w s1 i).1) (4 * s1 + i)) (qFac (v 0) (qIn g s1))) then ((qRoom (v 1) (qIn g ((s1) + (1)))) - ((qFa g v w s1 i).2)) else (qWant (w i) (v 3) (((qFa g v w s1 i).1) (4 * s1 + i)) (qFac (v 0) (qIn g s1)))))) ((s1) + (1)) i (if ((qRoom (v 1) (qIn g ((s1) + (1)))) - ((qFa g v w s1 i).2)) < (qWant (w i) (v 3) (((qFa g v w s1 i).1) (4 * s1 + i)) (qFac (v 0) (qIn g s1))) then ((qRoom (v 1) (qIn g ((s1) + (1)))) - ((qFa g v w s1 i).2)) else (qWant (w i) (v 3) (((qFa g v w s1 i).1) (4 * s1 + i)) (qFac (v 0) (qIn g s1))))))), (h1, .inr (3, [.ref (v0), .ref (w0)])), (v0, .inl (ac 0, 4, .inl (v))), (w0, .inl (ac 0, 4, .inl (w)))] (z_vrunW (rest := []) (own := RX2) (As := [.int (nI ((s1) + (1))), .int (nI (i)), .int (if ((qRoom (v 1) (qIn g ((s1) + (1)))) - ((qFa g v w s1 i).2)) < (qWant (w i) (v 3) (((qFa g v w s1 i).1) (4 * s1 + i)) (qFac (v 0) (qIn g s1))) then ((qRoom (v 1) (qIn g ((s1) + (1)))) - ((qFa g v w s1 i).2)) else (qWant (w i) (v 3) (((qFa g v w s1 i).1) (4 * s1 + i)) (qFac (v 0) (qIn g s1))))]) hx hb hml hown hts hl.1 hK hP hD [0, 1] rfl (by decide) rfl (metX2_put l D ac _ h0 g0 (qPut ((qFa g v w s1 i).1) s1 i (-(if ((qRoom (v 1) (qIn g ((s1) + (1)))) - ((qFa g v w s1 i).2)) < (qWant (w i) (v 3) (((qFa g v w s1 i).1) (4 * s1 + i)) (qFac (v 0) (qIn g s1))) then ((qRoom (v 1) (qIn g ((s1) + (1)))) - ((qFa g v w s1 i).2)) else (qWant (w i) (v 3) (((qFa g v w s1 i).1) (4 * s1 + i)) (qFac (v 0) (qIn g s1)))))) ((s1) + (1)) i (if ((qRoom (v 1) (qIn g ((s1) + (1)))) - ((qFa g v w s1 i).2)) < (qWant (w i) (v 3) (((qFa g v w s1 i).1) (4 * s1 + i)) (qFac (v 0) (qIn g s1))) then ((qRoom (v 1) (qIn g ((s1) + (1)))) - ((qFa g v w s1 i).2)) else (qWant (w i) (v 3) (((qFa g v w s1 i).1) (4 * s1 + i)) (qFac (v 0) (qIn g s1)))) (by omega) (by omega)) gX2_fallFrom_X2_put rfl 3 (by decide +kernel) ⟨rfl, rfl, Nat.le_of_ble_eq_true rfl, Nat.le_of_ble_eq_true rfl⟩ 0 2 rfl rfl rfl rfl rfl (Nat.le_of_ble_eq_true rfl) dX2_fallFrom_81 ⟨Nat.zero_le _, Nat.zero_le _⟩) hP hD hS hA [0, 1] [2, 3, 4] [3, 4, 0, 1, 2] rfl rfl (by decide) (by decide) (by decide) rfl (fun H locs hP hD hS => ?_)
      refine lv_iload hx hb dX2_fallFrom_84 (lv_at hl 3 rfl) ?_
      refine lv_iload hx hb dX2_fallFrom_86 (lv_at hl 0 rfl) ?_
      refine lv_iadd hx hb dX2_fallFrom_88 ?_
      refine lv_istore (lv' := [(5, .int (((qFa g v w s1 i).2) + (if ((qRoom (v 1) (qIn g ((s1) + (1)))) - ((qFa g v w s1 i).2)) < (qWant (w i) (v 3) (((qFa g v w s1 i).1) (4 * s1 + i)) (qFac (v 0) (qIn g s1))) then ((qRoom (v 1) (qIn g ((s1) + (1)))) - ((qFa g v w s1 i).2)) else (qWant (w i) (v 3) (((qFa g v w s1 i).1) (4 * s1 + i)) (qFac (v 0) (qIn g s1)))))), (8, .int (if ((qRoom (v 1) (qIn g ((s1) + (1)))) - ((qFa g v w s1 i).2)) < (qWant (w i) (v 3) (((qFa g v w s1 i).1) (4 * s1 + i)) (qFac (v 0) (qIn g s1))) then ((qRoom (v 1) (qIn g ((s1) + (1)))) - ((qFa g v w s1 i).2)) else (qWant (w i) (v 3) (((qFa g v w s1 i).1) (4 * s1 + i)) (qFac (v 0) (qIn g s1))))), (7, .int (qWant (w i) (v 3) (((qFa g v w s1 i).1) (4 * s1 + i)) (qFac (v 0) (qIn g s1)))), (6, .int (nI (i))), (4, .int (qRoom (v 1) (qIn g ((s1) + (1))))), (3, .int (qFac (v 0) (qIn g s1))), (0, .ref (h0)), (1, .int (nI (s1))), (2, .ref (h1))]) hx hb dX2_fallFrom_89 hl (by decide) rfl (fun ls hl => ?_)
      refine lv_iinc (v := nI ((i) + 1)) (lv' := [(6, .int (nI ((i) + 1))), (5, .int (((qFa g v w s1 i).2) + (if ((qRoom (v 1) (qIn g ((s1) + (1)))) - ((qFa g v w s1 i).2)) < (qWant (w i) (v 3) (((qFa g v w s1 i).1) (4 * s1 + i)) (qFac (v 0) (qIn g s1))) then ((qRoom (v 1) (qIn g ((s1) + (1)))) - ((qFa g v w s1 i).2)) else (qWant (w i) (v 3) (((qFa g v w s1 i).1) (4 * s1 + i)) (qFac (v 0) (qIn g s1)))))), (8, .int (if ((qRoom (v 1) (qIn g ((s1) + (1)))) - ((qFa g v w s1 i).2)) < (qWant (w i) (v 3) (((qFa g v w s1 i).1) (4 * s1 + i)) (qFac (v 0) (qIn g s1))) then ((qRoom (v 1) (qIn g ((s1) + (1)))) - ((qFa g v w s1 i).2)) else (qWant (w i) (v 3) (((qFa g v w s1 i).1) (4 * s1 + i)) (qFac (v 0) (qIn g s1))))), (7, .int (qWant (w i) (v 3) (((qFa g v w s1 i).1) (4 * s1 + i)) (qFac (v 0) (qIn g s1)))), (4, .int (qRoom (v 1) (qIn g ((s1) + (1))))), (3, .int (qFac (v 0) (qIn g s1))), (0, .ref (h0)), (1, .int (nI (s1))), (2, .ref (h1))]) hx hb dX2_fallFrom_91 hl (k := 3) rfl (show nI (i) + Int32.ofInt 1 = _ from nI_add (i) 1) (by decide) rfl (fun ls hl => ?_)
      refine lv_goto (tgt := 29) hx hb dX2_fallFrom_94 (by decide) ?_
      exact ih (i + 1) (by omega) _ _ hP hD hS ls (lv_sub hl [0, 1, 4, 5, 6, 7, 8] rfl)
  exact hL_29 (4) (0) (by omega) _ _ hP hD hS ls (lv_sub hl [0, 1, 2, 3, 4, 5, 6] rfl)

set_option maxRecDepth 100000 in
set_option maxHeartbeats 4000000 in
theorem metX2_goOneStep (l : Launch) (D : va_G) (ac : Nat → ClassId) (sz : Nat) (h0 : Nat) (g0 : Nat) (g : Nat → Int32) (h1 : Nat) (v0 : Nat) (w0 : Nat) (v : Nat → Int32) (w : Nat → Int32)  : Met l yX2_goOneStep wsX2_goOneStep ({ frames := 3, cells := 0, slots := 0, locals := 73 } : Room) (va_Pc [.ref (h0), .ref (h1)] (zS D ac [(h0, .inr (2, [.ref (g0)])), (g0, .inl (ac 0, 48, .inl (g))), (h1, .inr (3, [.ref (v0), .ref (w0)])), (v0, .inl (ac 0, 4, .inl (v))), (w0, .inl (ac 0, 4, .inl (w)))] sz)) (zQi D ac [(h0, .inr (2, [.ref (g0)])), (g0, .inl (ac 0, 48, .inl (g))), (h1, .inr (3, [.ref (v0), .ref (w0)])), (v0, .inl (ac 0, 4, .inl (v))), (w0, .inl (ac 0, 4, .inl (w)))] [(h0, .inr (2, [.ref (g0)])), (g0, .inl (ac 0, 48, .inl ((qStep g v w).1))), (h1, .inr (3, [.ref (v0), .ref (w0)])), (v0, .inl (ac 0, 4, .inl (v))), (w0, .inl (ac 0, 4, .inl (w)))] sz ((qStep g v w).2)) 0 0 (va_A [(h0, .inr (2, [.ref (g0)])), (g0, .inl (ac 0, 48, .inl (g))), (h1, .inr (3, [.ref (v0), .ref (w0)])), (v0, .inl (ac 0, 4, .inl (v))), (w0, .inl (ac 0, 4, .inl (w)))] sz) := by
  refine z_rw (cc := cX2_goOneStep) (maxL := 4) (ret := (some .int)) (lv := [(0, .ref (h0)), (1, .ref (h1))]) (by decide) rfl (Nat.le_of_ble_eq_true rfl) rfl ?_
  intro p e s m args below meth c ls A hx hb hr hml hown hts hlocks hl hK hP hsz hAe hA hD hS
  refine lv_iconst (v := 0) hx hb dX2_goOneStep_0 (by decide) ?_
  refine lv_istore_n (lv' := [(2, .int (0)), (0, .ref (h0)), (1, .ref (h1))]) hx hb dX2_goOneStep_1 rfl hl (by decide) rfl (fun ls hl => ?_)
  refine lv_bipush (v := 10) hx hb dX2_goOneStep_2 (by decide) ?_
  refine lv_istore_n (lv' := [(3, .int (10)), (2, .int (0)), (0, .ref (h0)), (1, .ref (h1))]) hx hb dX2_goOneStep_4 rfl hl (by decide) rfl (fun ls hl => ?_)
  have hL_5 : ∀ (n : Nat) (i : Nat), (i + n = 11) → ∀ (H : Heap) (locs : List Loc), va_P D vwCl [(h0, .inr (2, [.ref (g0)])), (g0, .inl (ac 0, 48, .inl ((qSt g v w i).1))), (h1, .inr (3, [.ref (v0), .ref (w0)])), (v0, .inl (ac 0, 4, .inl (v))), (w0, .inl (ac 0, 4, .inl (w)))] H → va_D A [(h0, .inr (2, [.ref (g0)])), (g0, .inl (ac 0, 48, .inl ((qSt g v w i).1))), (h1, .inr (3, [.ref (v0), .ref (w0)])), (v0, .inl (ac 0, 4, .inl (v))), (w0, .inl (ac 0, 4, .inl (w)))] → va_S A s.heap H locs → ∀ (ls : Array Slot), lv_has ls 4 [(3, .int (nI n - 1)), (2, .int ((qSt g v w i).2)), (0, .ref (h0)), (1, .ref (h1))] → W p l e ({ frames := 3, cells := 0, slots := 0, locals := 73 } : Room) s m args below meth c H locs 0 0 (MQ below (zQi D ac [(h0, .inr (2, [.ref (g0)])), (g0, .inl (ac 0, 48, .inl (g))), (h1, .inr (3, [.ref (v0), .ref (w0)])), (v0, .inl (ac 0, 4, .inl (v))), (w0, .inl (ac 0, 4, .inl (w)))] [(h0, .inr (2, [.ref (g0)])), (g0, .inl (ac 0, 48, .inl ((qStep g v w).1))), (h1, .inr (3, [.ref (v0), .ref (w0)])), (v0, .inl (ac 0, 4, .inl (v))), (w0, .inl (ac 0, 4, .inl (w)))] sz ((qStep g v w).2)) args s 0 0 A) (F0 m 5 ls []) := by
    intro n
    induction n with
    | zero =>
      intro i hi H locs hP hD hS ls hl
      have e_i : 11 = i := by omega
      subst e_i
      refine lv_iload_n hx hb dX2_goOneStep_5 rfl (lv_at hl 0 rfl) ?_
      refine lv_if_lt (tgt := 24) hx hb dX2_goOneStep_6 (by decide) (fun c_6 => ?_) (fun c_6 => absurd c_6 (fun q => q (by decide)))
      refine lv_iload_n hx hb dX2_goOneStep_24 rfl (lv_at hl 1 rfl) ?_
      exact z_iretW hx hb hr hlocks hK hP hD hS hAe (rfl) dX2_goOneStep_25
    | succ n ih =>
      intro i hi H locs hP hD hS ls hl
      refine lv_iload_n hx hb dX2_goOneStep_5 rfl (lv_at hl 0 rfl) ?_
      refine z_top (y := nI (10 - i)) (by rw [nI_pred]; exact congrArg nI (by omega)) ?_
      refine lv_if_lt (tgt := 24) hx hb dX2_goOneStep_6 (by decide) (fun c_6 => absurd c_6 (nI_pos (by omega))) (fun c_6 => ?_)
      refine lv_iload_n hx hb dX2_goOneStep_9 rfl (lv_at hl 1 rfl) ?_
      refine lv_aload_n hx hb dX2_goOneStep_10 rfl (lv_at hl 2 rfl) ?_
      refine lv_iload_n hx hb dX2_goOneStep_11 rfl (lv_at hl 0 rfl) ?_
      refine z_top (y := nI (10 - i)) (by rw [nI_pred]; exact congrArg nI (by omega)) ?_
      refine lv_aload_n hx hb dX2_goOneStep_12 rfl (lv_at hl 3 rfl) ?_
      refine z_ciW [(h0, .inr (2, [.ref (g0)])), (g0, .inl (ac 0, 48, .inl ((qFall ((qSt g v w i).1) v w (10 - i)).1))), (h1, .inr (3, [.ref (v0), .ref (w0)])), (v0, .inl (ac 0, 4, .inl (v))), (w0, .inl (ac 0, 4, .inl (w)))] (z_vrunW (rest := [.int ((qSt g v w i).2)]) (own := RX2) (As := [.int (nI (10 - i)), .ref (h1)]) hx hb hml hown hts hl.1 hK hP hD [0, 1, 2, 3, 4] rfl (by decide) rfl (metX2_fallFrom l D ac _ h0 g0 ((qSt g v w i).1) h1 v0 w0 v w (10 - i) (by omega)) gX2_goOneStep_X2_fallFrom rfl 2 (by decide +kernel) ⟨rfl, rfl, Nat.le_of_ble_eq_true rfl, Nat.le_of_ble_eq_true rfl⟩ 0 2 rfl rfl rfl rfl rfl (Nat.le_of_ble_eq_true rfl) dX2_goOneStep_13 ⟨Nat.zero_le _, Nat.zero_le _⟩) hP hD hS hA [0, 1, 2, 3, 4] [] [0, 1, 2, 3, 4] rfl rfl (by decide) (by decide) (by decide) rfl (fun H locs hP hD hS => ?_)
      refine lv_iadd hx hb dX2_goOneStep_16 ?_
      refine lv_istore_n (lv' := [(2, .int (((qSt g v w i).2) + ((qFall ((qSt g v w i).1) v w (10 - i)).2))), (3, .int (nI ((n + 1)) - 1)), (0, .ref (h0)), (1, .ref (h1))]) hx hb dX2_goOneStep_17 rfl hl (by decide) rfl (fun ls hl => ?_)
      refine lv_iinc (v := nI n - 1) (lv' := [(3, .int (nI n - 1)), (2, .int (((qSt g v w i).2) + ((qFall ((qSt g v w i).1) v w (10 - i)).2))), (0, .ref (h0)), (1, .ref (h1))]) hx hb dX2_goOneStep_18 hl (k := 1) rfl (by rw [z_addm1, nI_pred]) (by decide) rfl (fun ls hl => ?_)
      refine lv_goto (tgt := 5) hx hb dX2_goOneStep_21 (by decide) ?_
      exact ih (i + 1) (by omega) _ _ hP hD hS ls (lv_sub hl [0, 1, 2, 3] rfl)
  exact hL_5 (11) (0) (by omega) _ _ hP hD hS ls (lv_sub hl [0, 1, 2, 3] rfl)

set_option maxRecDepth 100000 in
set_option maxHeartbeats 4000000 in
theorem metX2_goOn (l : Launch) (D : va_G) (ac : Nat → ClassId) (sz : Nat) (h0 : Nat) (g0 : Nat) (g : Nat → Int32) (h1 : Nat) (v0 : Nat) (w0 : Nat) (v : Nat → Int32) (w : Nat → Int32) (t : Nat) (ht : t < 1000) : Met l yX2_goOn wsX2_goOn ({ frames := 4, cells := 0, slots := 0, locals := 96 } : Room) (va_Pc [.ref (h0), .int (nI (t)), .ref (h1)] (zS D ac [(h0, .inr (2, [.ref (g0)])), (g0, .inl (ac 0, 48, .inl (g))), (h1, .inr (3, [.ref (v0), .ref (w0)])), (v0, .inl (ac 0, 4, .inl (v))), (w0, .inl (ac 0, 4, .inl (w)))] sz)) (zQi D ac [(h0, .inr (2, [.ref (g0)])), (g0, .inl (ac 0, 48, .inl (g))), (h1, .inr (3, [.ref (v0), .ref (w0)])), (v0, .inl (ac 0, 4, .inl (v))), (w0, .inl (ac 0, 4, .inl (w)))] [(h0, .inr (2, [.ref (g0)])), (g0, .inl (ac 0, 48, .inl ((qGo v w t (g, 0)).1))), (h1, .inr (3, [.ref (v0), .ref (w0)])), (v0, .inl (ac 0, 4, .inl (v))), (w0, .inl (ac 0, 4, .inl (w)))] sz ((qGo v w t (g, 0)).2)) 0 0 (va_A [(h0, .inr (2, [.ref (g0)])), (g0, .inl (ac 0, 48, .inl (g))), (h1, .inr (3, [.ref (v0), .ref (w0)])), (v0, .inl (ac 0, 4, .inl (v))), (w0, .inl (ac 0, 4, .inl (w)))] sz) := by
  refine z_rw (cc := cX2_goOn) (maxL := 6) (ret := (some .int)) (lv := [(0, .ref (h0)), (1, .int (nI (t))), (2, .ref (h1))]) (by decide) rfl (Nat.le_of_ble_eq_true rfl) rfl ?_
  intro p e s m args below meth c ls A hx hb hr hml hown hts hlocks hl hK hP hsz hAe hA hD hS
  refine lv_iconst (v := 0) hx hb dX2_goOn_0 (by decide) ?_
  refine lv_istore_n (lv' := [(3, .int (0)), (0, .ref (h0)), (1, .int (nI (t))), (2, .ref (h1))]) hx hb dX2_goOn_1 rfl hl (by decide) rfl (fun ls hl => ?_)
  refine lv_iconst (v := 0) hx hb dX2_goOn_2 (by decide) ?_
  refine lv_istore (lv' := [(4, .int (0)), (3, .int (0)), (0, .ref (h0)), (1, .int (nI (t))), (2, .ref (h1))]) hx hb dX2_goOn_3 hl (by decide) rfl (fun ls hl => ?_)
  have hL_5 : ∀ (n : Nat) (i : Nat) (G : Nat → Int32) (y : Int32), (i + n = t) → (qGo v w t (g, 0) = qGo v w n (G, y)) → ∀ (H : Heap) (locs : List Loc), va_P D vwCl [(h0, .inr (2, [.ref (g0)])), (g0, .inl (ac 0, 48, .inl (G))), (h1, .inr (3, [.ref (v0), .ref (w0)])), (v0, .inl (ac 0, 4, .inl (v))), (w0, .inl (ac 0, 4, .inl (w)))] H → va_D A [(h0, .inr (2, [.ref (g0)])), (g0, .inl (ac 0, 48, .inl (G))), (h1, .inr (3, [.ref (v0), .ref (w0)])), (v0, .inl (ac 0, 4, .inl (v))), (w0, .inl (ac 0, 4, .inl (w)))] → va_S A s.heap H locs → ∀ (ls : Array Slot), lv_has ls 6 [(4, .int (nI (i))), (3, .int (y)), (0, .ref (h0)), (1, .int (nI (t))), (2, .ref (h1))] → W p l e ({ frames := 4, cells := 0, slots := 0, locals := 96 } : Room) s m args below meth c H locs 0 0 (MQ below (zQi D ac [(h0, .inr (2, [.ref (g0)])), (g0, .inl (ac 0, 48, .inl (g))), (h1, .inr (3, [.ref (v0), .ref (w0)])), (v0, .inl (ac 0, 4, .inl (v))), (w0, .inl (ac 0, 4, .inl (w)))] [(h0, .inr (2, [.ref (g0)])), (g0, .inl (ac 0, 48, .inl ((qGo v w t (g, 0)).1))), (h1, .inr (3, [.ref (v0), .ref (w0)])), (v0, .inl (ac 0, 4, .inl (v))), (w0, .inl (ac 0, 4, .inl (w)))] sz ((qGo v w t (g, 0)).2)) args s 0 0 A) (F0 m 5 ls []) := by
    intro n
    induction n with
    | zero =>
      intro i G y hi hR H locs hP hD hS ls hl
      have e_i : t = i := by omega
      subst e_i
      refine lv_iload hx hb dX2_goOn_5 (lv_at hl 0 rfl) ?_
      refine lv_iload_n hx hb dX2_goOn_7 rfl (lv_at hl 3 rfl) ?_
      refine z_icmp_ge (tgt := 36) hx hb (t) (t) dX2_goOn_8 (by decide) (by omega) (by omega) rfl rfl (fun c_8 => ?_) (fun c_8 => absurd c_8 (by omega))
      refine lv_iload_n hx hb dX2_goOn_36 rfl (lv_at hl 1 rfl) ?_
      have e1 : qGo v w t (g, 0) = (G, y) := hR
      rw [show G = (qGo v w t (g, 0)).1 by rw [e1]] at hP hD
      exact z_iretW hx hb hr hlocks hK hP hD hS hAe ((by rw [e1])) dX2_goOn_37
    | succ n ih =>
      intro i G y hi hR H locs hP hD hS ls hl
      refine lv_iload hx hb dX2_goOn_5 (lv_at hl 0 rfl) ?_
      refine lv_iload_n hx hb dX2_goOn_7 rfl (lv_at hl 3 rfl) ?_
      refine z_icmp_ge (tgt := 36) hx hb (i) (t) dX2_goOn_8 (by decide) (by omega) (by omega) rfl rfl (fun c_8 => absurd c_8 (by omega)) (fun c_8 => ?_)
      refine lv_aload_n hx hb dX2_goOn_11 rfl (lv_at hl 2 rfl) ?_
      refine lv_aload_n hx hb dX2_goOn_12 rfl (lv_at hl 4 rfl) ?_
      refine z_ciW [(h0, .inr (2, [.ref (g0)])), (g0, .inl (ac 0, 48, .inl ((qStep G v w).1))), (h1, .inr (3, [.ref (v0), .ref (w0)])), (v0, .inl (ac 0, 4, .inl (v))), (w0, .inl (ac 0, 4, .inl (w)))] (z_vrunW (rest := []) (own := RX2) (As := [.ref (h1)]) hx hb hml hown hts hl.1 hK hP hD [0, 1, 2, 3, 4] rfl (by decide) rfl (metX2_goOneStep l D ac _ h0 g0 G h1 v0 w0 v w ) gX2_goOn_X2_goOneStep rfl 1 (by decide +kernel) ⟨rfl, rfl, Nat.le_of_ble_eq_true rfl, Nat.le_of_ble_eq_true rfl⟩ 0 2 rfl rfl rfl rfl rfl (Nat.le_of_ble_eq_true rfl) dX2_goOn_13 ⟨Nat.zero_le _, Nat.zero_le _⟩) hP hD hS hA [0, 1, 2, 3, 4] [] [0, 1, 2, 3, 4] rfl rfl (by decide) (by decide) (by decide) rfl (fun H locs hP hD hS => ?_)
      refine lv_istore (lv' := [(5, .int ((qStep G v w).2)), (4, .int (nI (i))), (3, .int (y)), (0, .ref (h0)), (1, .int (nI (t))), (2, .ref (h1))]) hx hb dX2_goOn_16 hl (by decide) rfl (fun ls hl => ?_)
      refine lv_iload hx hb dX2_goOn_18 (lv_at hl 0 rfl) ?_
      refine lv_if_ne (tgt := 25) hx hb dX2_goOn_20 (by decide) (fun c_20 => ?_) (fun c_20 => ?_)
      · refine lv_iload_n hx hb dX2_goOn_25 rfl (lv_at hl 2 rfl) ?_
        refine lv_iload hx hb dX2_goOn_26 (lv_at hl 0 rfl) ?_
        refine lv_iadd hx hb dX2_goOn_28 ?_
        refine lv_istore_n (lv' := [(3, .int ((y) + ((qStep G v w).2))), (5, .int ((qStep G v w).2)), (4, .int (nI (i))), (0, .ref (h0)), (1, .int (nI (t))), (2, .ref (h1))]) hx hb dX2_goOn_29 rfl hl (by decide) rfl (fun ls hl => ?_)
        refine lv_iinc (v := nI ((i) + 1)) (lv' := [(4, .int (nI ((i) + 1))), (3, .int ((y) + ((qStep G v w).2))), (5, .int ((qStep G v w).2)), (0, .ref (h0)), (1, .int (nI (t))), (2, .ref (h1))]) hx hb dX2_goOn_30 hl (k := 2) rfl (show nI (i) + Int32.ofInt 1 = _ from nI_add (i) 1) (by decide) rfl (fun ls hl => ?_)
        refine lv_goto (tgt := 5) hx hb dX2_goOn_33 (by decide) ?_
        exact ih (i + 1) ((qStep G v w).1) (y + (qStep G v w).2) (by omega) (hR.trans (if_neg c_20)) _ _ hP hD hS ls (lv_sub hl [0, 1, 3, 4, 5] rfl)
      · refine lv_iload_n hx hb dX2_goOn_23 rfl (lv_at hl 2 rfl) ?_
        have e1 : qGo v w t (g, 0) = ((qStep G v w).1, y) := hR.trans (if_pos c_20)
        rw [show (qStep G v w).1 = (qGo v w t (g, 0)).1 by rw [e1]] at hP hD
        exact z_iretW hx hb hr hlocks hK hP hD hS hAe ((by rw [e1])) dX2_goOn_24
  exact hL_5 (t) (0) (g) (0) (by omega) (rfl) _ _ hP hD hS ls (lv_sub hl [0, 1, 2, 3, 4] rfl)

set_option maxRecDepth 100000 in
set_option maxHeartbeats 4000000 in
theorem metX2_sliceProperty (l : Launch) (D : va_G) (ac : Nat → ClassId) (h0 : Nat) (g0 : Nat) (g : Nat → Int32) (h1 : Nat) (v0 : Nat) (w0 : Nat) (v : Nat → Int32) (w : Nat → Int32) (s1 : Nat) (k1 : Nat) (hs : s1 < 12) (h_k1 : k1 < 10) : Met l yX2_sliceProperty wsX2_sliceProperty ({ frames := 2, cells := 0, slots := 0, locals := 46 } : Room) (va_Pc [.ref (h0), .int (nI (s1)), .int (nI (k1)), .ref (h1)] (zW D ac [(h0, .inr (2, [.ref (g0)])), (g0, .inl (ac 0, 48, .inl (g))), (h1, .inr (3, [.ref (v0), .ref (w0)])), (v0, .inl (ac 0, 4, .inl (v))), (w0, .inl (ac 0, 4, .inl (w)))])) (zRi (qSlice g v w s1 k1)) 0 0 (fun _ => False) := by
  refine z_ro (cc := cX2_sliceProperty) (maxL := 4) (ret := (some .int)) (lv := [(0, .ref (h0)), (1, .int (nI (s1))), (2, .int (nI (k1))), (3, .ref (h1))]) (by decide) rfl (Nat.le_of_ble_eq_true rfl) rfl ?_
  intro p e s m args below meth c ls hx hb hr hml hown hts hlocks hl hK hP
  refine lv_iload_n hx hb dX2_sliceProperty_0 rfl (lv_at hl 2 rfl) ?_
  obtain rfl | rfl | rfl | rfl | rfl | rfl | rfl | rfl | rfl | rfl := z_cases10 h_k1
  · refine lv_tableOut (tgt := 108) hx hb dX2_sliceProperty_1 (by decide) (by decide) ?_
    refine lv_aload_n hx hb dX2_sliceProperty_108 rfl (lv_at hl 0 rfl) ?_
    refine lv_iload_n hx hb dX2_sliceProperty_109 rfl (lv_at hl 1 rfl) ?_
    refine lv_iload_n hx hb dX2_sliceProperty_110 rfl (lv_at hl 2 rfl) ?_
    refine z_ci (z_vrun (rest := []) (own := RX2) (As := [.int (nI (s1)), .int (nI (0))]) hx hb hml hown hts hl.1 hK hP [0, 1] rfl (metX2_many l D ac h0 g0 g s1 0 (by omega) (by omega)) gX2_sliceProperty_X2_many rfl 2 (by decide +kernel) ⟨rfl, rfl, Nat.le_of_ble_eq_true rfl, Nat.le_of_ble_eq_true rfl⟩ 0 2 rfl rfl rfl rfl rfl (Nat.le_of_ble_eq_true rfl) dX2_sliceProperty_111 ⟨Nat.zero_le _, Nat.zero_le _⟩) ?_
    exact z_iret hx hb hr hlocks (rfl) dX2_sliceProperty_114
  · refine lv_tableOut (tgt := 108) hx hb dX2_sliceProperty_1 (by decide) (by decide) ?_
    refine lv_aload_n hx hb dX2_sliceProperty_108 rfl (lv_at hl 0 rfl) ?_
    refine lv_iload_n hx hb dX2_sliceProperty_109 rfl (lv_at hl 1 rfl) ?_
    refine lv_iload_n hx hb dX2_sliceProperty_110 rfl (lv_at hl 2 rfl) ?_
    refine z_ci (z_vrun (rest := []) (own := RX2) (As := [.int (nI (s1)), .int (nI (1))]) hx hb hml hown hts hl.1 hK hP [0, 1] rfl (metX2_many l D ac h0 g0 g s1 1 (by omega) (by omega)) gX2_sliceProperty_X2_many rfl 2 (by decide +kernel) ⟨rfl, rfl, Nat.le_of_ble_eq_true rfl, Nat.le_of_ble_eq_true rfl⟩ 0 2 rfl rfl rfl rfl rfl (Nat.le_of_ble_eq_true rfl) dX2_sliceProperty_111 ⟨Nat.zero_le _, Nat.zero_le _⟩) ?_
    exact z_iret hx hb hr hlocks (rfl) dX2_sliceProperty_114
  · refine lv_tableOut (tgt := 108) hx hb dX2_sliceProperty_1 (by decide) (by decide) ?_
    refine lv_aload_n hx hb dX2_sliceProperty_108 rfl (lv_at hl 0 rfl) ?_
    refine lv_iload_n hx hb dX2_sliceProperty_109 rfl (lv_at hl 1 rfl) ?_
    refine lv_iload_n hx hb dX2_sliceProperty_110 rfl (lv_at hl 2 rfl) ?_
    refine z_ci (z_vrun (rest := []) (own := RX2) (As := [.int (nI (s1)), .int (nI (2))]) hx hb hml hown hts hl.1 hK hP [0, 1] rfl (metX2_many l D ac h0 g0 g s1 2 (by omega) (by omega)) gX2_sliceProperty_X2_many rfl 2 (by decide +kernel) ⟨rfl, rfl, Nat.le_of_ble_eq_true rfl, Nat.le_of_ble_eq_true rfl⟩ 0 2 rfl rfl rfl rfl rfl (Nat.le_of_ble_eq_true rfl) dX2_sliceProperty_111 ⟨Nat.zero_le _, Nat.zero_le _⟩) ?_
    exact z_iret hx hb hr hlocks (rfl) dX2_sliceProperty_114
  · refine lv_tableOut (tgt := 108) hx hb dX2_sliceProperty_1 (by decide) (by decide) ?_
    refine lv_aload_n hx hb dX2_sliceProperty_108 rfl (lv_at hl 0 rfl) ?_
    refine lv_iload_n hx hb dX2_sliceProperty_109 rfl (lv_at hl 1 rfl) ?_
    refine lv_iload_n hx hb dX2_sliceProperty_110 rfl (lv_at hl 2 rfl) ?_
    refine z_ci (z_vrun (rest := []) (own := RX2) (As := [.int (nI (s1)), .int (nI (3))]) hx hb hml hown hts hl.1 hK hP [0, 1] rfl (metX2_many l D ac h0 g0 g s1 3 (by omega) (by omega)) gX2_sliceProperty_X2_many rfl 2 (by decide +kernel) ⟨rfl, rfl, Nat.le_of_ble_eq_true rfl, Nat.le_of_ble_eq_true rfl⟩ 0 2 rfl rfl rfl rfl rfl (Nat.le_of_ble_eq_true rfl) dX2_sliceProperty_111 ⟨Nat.zero_le _, Nat.zero_le _⟩) ?_
    exact z_iret hx hb hr hlocks (rfl) dX2_sliceProperty_114
  · refine lv_tableIn (off := 39) (tgt := 40) hx hb dX2_sliceProperty_1 (by decide) (by decide) (by decide) (by decide) ?_
    refine lv_aload_n hx hb dX2_sliceProperty_40 rfl (lv_at hl 0 rfl) ?_
    refine lv_iload_n hx hb dX2_sliceProperty_41 rfl (lv_at hl 1 rfl) ?_
    refine z_ci (z_vrun (rest := []) (own := RX2) (As := [.int (nI (s1))]) hx hb hml hown hts hl.1 hK hP [0, 1] rfl (metX2_allIn l D ac h0 g0 g s1 (by omega)) gX2_sliceProperty_X2_allIn rfl 1 (by decide +kernel) ⟨rfl, rfl, Nat.le_of_ble_eq_true rfl, Nat.le_of_ble_eq_true rfl⟩ 0 2 rfl rfl rfl rfl rfl (Nat.le_of_ble_eq_true rfl) dX2_sliceProperty_42 ⟨Nat.zero_le _, Nat.zero_le _⟩) ?_
    exact z_iret hx hb hr hlocks (rfl) dX2_sliceProperty_45
  · refine lv_tableIn (off := 45) (tgt := 46) hx hb dX2_sliceProperty_1 (by decide) (by decide) (by decide) (by decide) ?_
    refine lv_aload_n hx hb dX2_sliceProperty_46 rfl (lv_at hl 3 rfl) ?_
    refine lv_aload_n hx hb dX2_sliceProperty_47 rfl (lv_at hl 0 rfl) ?_
    refine lv_iload_n hx hb dX2_sliceProperty_48 rfl (lv_at hl 1 rfl) ?_
    refine z_ci (z_vrun (rest := [.ref (h1)]) (own := RX2) (As := [.int (nI (s1))]) hx hb hml hown hts hl.1 hK hP [0, 1] rfl (metX2_allIn l D ac h0 g0 g s1 (by omega)) gX2_sliceProperty_X2_allIn rfl 1 (by decide +kernel) ⟨rfl, rfl, Nat.le_of_ble_eq_true rfl, Nat.le_of_ble_eq_true rfl⟩ 0 2 rfl rfl rfl rfl rfl (Nat.le_of_ble_eq_true rfl) dX2_sliceProperty_49 ⟨Nat.zero_le _, Nat.zero_le _⟩) ?_
    refine z_ci (z_vrun (rest := []) (own := RX2) (As := [.int (qIn g s1)]) hx hb hml hown hts hl.1 hK hP [2, 3, 4] rfl (metX3_isPacked l D ac h1 v0 w0 v w (qIn g s1) ) gX2_sliceProperty_X3_isPacked rfl 1 (by decide +kernel) ⟨rfl, rfl, Nat.le_of_ble_eq_true rfl, Nat.le_of_ble_eq_true rfl⟩ 2 3 rfl rfl rfl rfl rfl (Nat.le_of_ble_eq_true rfl) dX2_sliceProperty_52 ⟨Nat.zero_le _, Nat.zero_le _⟩) ?_
    refine z_if_eq (C := v 1 ≤ (qIn g s1)) (tgt := 62) hx hb dX2_sliceProperty_55 (by decide) (fun c_55 => ?_) (fun c_55 => ?_)
    · refine lv_iconst (v := 0) hx hb dX2_sliceProperty_62 (by decide) ?_
      exact z_iret hx hb hr hlocks ((if_neg c_55).symm) dX2_sliceProperty_63
    · refine lv_iconst (v := 1) hx hb dX2_sliceProperty_58 (by decide) ?_
      refine lv_goto (tgt := 63) hx hb dX2_sliceProperty_59 (by decide) ?_
      exact z_iret hx hb hr hlocks ((if_pos c_55).symm) dX2_sliceProperty_63
  · refine lv_tableIn (off := 63) (tgt := 64) hx hb dX2_sliceProperty_1 (by decide) (by decide) (by decide) (by decide) ?_
    refine lv_aload_n hx hb dX2_sliceProperty_64 rfl (lv_at hl 3 rfl) ?_
    refine lv_aload_n hx hb dX2_sliceProperty_65 rfl (lv_at hl 0 rfl) ?_
    refine lv_iload_n hx hb dX2_sliceProperty_66 rfl (lv_at hl 1 rfl) ?_
    refine z_ci (z_vrun (rest := [.ref (h1)]) (own := RX2) (As := [.int (nI (s1))]) hx hb hml hown hts hl.1 hK hP [0, 1] rfl (metX2_allIn l D ac h0 g0 g s1 (by omega)) gX2_sliceProperty_X2_allIn rfl 1 (by decide +kernel) ⟨rfl, rfl, Nat.le_of_ble_eq_true rfl, Nat.le_of_ble_eq_true rfl⟩ 0 2 rfl rfl rfl rfl rfl (Nat.le_of_ble_eq_true rfl) dX2_sliceProperty_67 ⟨Nat.zero_le _, Nat.zero_le _⟩) ?_
    refine z_ci (z_vrun (rest := []) (own := RX2) (As := [.int (qIn g s1)]) hx hb hml hown hts hl.1 hK hP [2, 3, 4] rfl (metX3_isClear l D ac h1 v0 w0 v w (qIn g s1) ) gX2_sliceProperty_X3_isClear rfl 1 (by decide +kernel) ⟨rfl, rfl, Nat.le_of_ble_eq_true rfl, Nat.le_of_ble_eq_true rfl⟩ 2 3 rfl rfl rfl rfl rfl (Nat.le_of_ble_eq_true rfl) dX2_sliceProperty_70 ⟨Nat.zero_le _, Nat.zero_le _⟩) ?_
    refine z_if_eq (C := (qIn g s1) ≤ v 2) (tgt := 80) hx hb dX2_sliceProperty_73 (by decide) (fun c_73 => ?_) (fun c_73 => ?_)
    · refine lv_iconst (v := 0) hx hb dX2_sliceProperty_80 (by decide) ?_
      exact z_iret hx hb hr hlocks ((if_neg c_73).symm) dX2_sliceProperty_81
    · refine lv_iconst (v := 1) hx hb dX2_sliceProperty_76 (by decide) ?_
      refine lv_goto (tgt := 81) hx hb dX2_sliceProperty_77 (by decide) ?_
      exact z_iret hx hb hr hlocks ((if_pos c_73).symm) dX2_sliceProperty_81
  · refine lv_tableIn (off := 81) (tgt := 82) hx hb dX2_sliceProperty_1 (by decide) (by decide) (by decide) (by decide) ?_
    refine lv_aload_n hx hb dX2_sliceProperty_82 rfl (lv_at hl 0 rfl) ?_
    refine lv_iload_n hx hb dX2_sliceProperty_83 rfl (lv_at hl 1 rfl) ?_
    refine z_ci (z_vrun (rest := []) (own := RX2) (As := [.int (nI (s1))]) hx hb hml hown hts hl.1 hK hP [0, 1] rfl (metX2_leadingClass l D ac h0 g0 g s1 (by omega)) gX2_sliceProperty_X2_leadingClass rfl 1 (by decide +kernel) ⟨rfl, rfl, Nat.le_of_ble_eq_true rfl, Nat.le_of_ble_eq_true rfl⟩ 0 2 rfl rfl rfl rfl rfl (Nat.le_of_ble_eq_true rfl) dX2_sliceProperty_84 ⟨Nat.zero_le _, Nat.zero_le _⟩) ?_
    exact z_iret hx hb hr hlocks (rfl) dX2_sliceProperty_87
  · refine lv_tableIn (off := 87) (tgt := 88) hx hb dX2_sliceProperty_1 (by decide) (by decide) (by decide) (by decide) ?_
    refine lv_aload_n hx hb dX2_sliceProperty_88 rfl (lv_at hl 3 rfl) ?_
    refine lv_aload_n hx hb dX2_sliceProperty_89 rfl (lv_at hl 0 rfl) ?_
    refine lv_iload_n hx hb dX2_sliceProperty_90 rfl (lv_at hl 1 rfl) ?_
    refine z_ci (z_vrun (rest := [.ref (h1)]) (own := RX2) (As := [.int (nI (s1))]) hx hb hml hown hts hl.1 hK hP [0, 1] rfl (metX2_allIn l D ac h0 g0 g s1 (by omega)) gX2_sliceProperty_X2_allIn rfl 1 (by decide +kernel) ⟨rfl, rfl, Nat.le_of_ble_eq_true rfl, Nat.le_of_ble_eq_true rfl⟩ 0 2 rfl rfl rfl rfl rfl (Nat.le_of_ble_eq_true rfl) dX2_sliceProperty_91 ⟨Nat.zero_le _, Nat.zero_le _⟩) ?_
    refine z_ci (z_vrun (rest := []) (own := RX2) (As := [.int (qIn g s1)]) hx hb hml hown hts hl.1 hK hP [2, 3, 4] rfl (metX3_factorOf l D ac h1 v0 w0 v w (qIn g s1) ) gX2_sliceProperty_X3_factorOf rfl 1 (by decide +kernel) ⟨rfl, rfl, Nat.le_of_ble_eq_true rfl, Nat.le_of_ble_eq_true rfl⟩ 2 3 rfl rfl rfl rfl rfl (Nat.le_of_ble_eq_true rfl) dX2_sliceProperty_94 ⟨Nat.zero_le _, Nat.zero_le _⟩) ?_
    exact z_iret hx hb hr hlocks (rfl) dX2_sliceProperty_97
  · refine lv_tableIn (off := 97) (tgt := 98) hx hb dX2_sliceProperty_1 (by decide) (by decide) (by decide) (by decide) ?_
    refine lv_aload_n hx hb dX2_sliceProperty_98 rfl (lv_at hl 3 rfl) ?_
    refine lv_aload_n hx hb dX2_sliceProperty_99 rfl (lv_at hl 0 rfl) ?_
    refine lv_iload_n hx hb dX2_sliceProperty_100 rfl (lv_at hl 1 rfl) ?_
    refine z_ci (z_vrun (rest := [.ref (h1)]) (own := RX2) (As := [.int (nI (s1))]) hx hb hml hown hts hl.1 hK hP [0, 1] rfl (metX2_allIn l D ac h0 g0 g s1 (by omega)) gX2_sliceProperty_X2_allIn rfl 1 (by decide +kernel) ⟨rfl, rfl, Nat.le_of_ble_eq_true rfl, Nat.le_of_ble_eq_true rfl⟩ 0 2 rfl rfl rfl rfl rfl (Nat.le_of_ble_eq_true rfl) dX2_sliceProperty_101 ⟨Nat.zero_le _, Nat.zero_le _⟩) ?_
    refine z_ci (z_vrun (rest := []) (own := RX2) (As := [.int (qIn g s1)]) hx hb hml hown hts hl.1 hK hP [2, 3, 4] rfl (metX3_roomOver l D ac h1 v0 w0 v w (qIn g s1) ) gX2_sliceProperty_X3_roomOver rfl 1 (by decide +kernel) ⟨rfl, rfl, Nat.le_of_ble_eq_true rfl, Nat.le_of_ble_eq_true rfl⟩ 2 3 rfl rfl rfl rfl rfl (Nat.le_of_ble_eq_true rfl) dX2_sliceProperty_104 ⟨Nat.zero_le _, Nat.zero_le _⟩) ?_
    exact z_iret hx hb hr hlocks (rfl) dX2_sliceProperty_107

set_option maxRecDepth 100000 in
set_option maxHeartbeats 4000000 in
theorem metX2_property (l : Launch) (D : va_G) (ac : Nat → ClassId) (h0 : Nat) (g0 : Nat) (g : Nat → Int32) (h1 : Nat) (v0 : Nat) (w0 : Nat) (v : Nat → Int32) (w : Nat → Int32) (k1 : Nat) (h_k1 : k1 < 10) : Met l yX2_property wsX2_property ({ frames := 4, cells := 0, slots := 0, locals := 93 } : Room) (va_Pc [.ref (h0), .int (nI (k1)), .ref (h1)] (zW D ac [(h0, .inr (2, [.ref (g0)])), (g0, .inl (ac 0, 48, .inl (g))), (h1, .inr (3, [.ref (v0), .ref (w0)])), (v0, .inl (ac 0, 4, .inl (v))), (w0, .inl (ac 0, 4, .inl (w)))])) (zRi (qJar g v w k1)) 0 0 (fun _ => False) := by
  refine z_ro (cc := cX2_property) (maxL := 3) (ret := (some .int)) (lv := [(0, .ref (h0)), (1, .int (nI (k1))), (2, .ref (h1))]) (by decide) rfl (Nat.le_of_ble_eq_true rfl) rfl ?_
  intro p e s m args below meth c ls hx hb hr hml hown hts hlocks hl hK hP
  refine lv_iload_n hx hb dX2_property_0 rfl (lv_at hl 1 rfl) ?_
  obtain rfl | rfl | rfl | rfl | rfl | rfl | rfl | rfl | rfl | rfl := z_cases10 h_k1
  · refine lv_tableIn (off := 55) (tgt := 56) hx hb dX2_property_1 (by decide) (by decide) (by decide) (by decide) ?_
    refine lv_aload_n hx hb dX2_property_56 rfl (lv_at hl 0 rfl) ?_
    refine z_ci (z_vrun (rest := []) (own := RX2) (As := []) hx hb hml hown hts hl.1 hK hP [0, 1] rfl (metX2_all l D ac h0 g0 g ) gX2_property_X2_all rfl 0 (by decide +kernel) ⟨rfl, rfl, Nat.le_of_ble_eq_true rfl, Nat.le_of_ble_eq_true rfl⟩ 0 2 rfl rfl rfl rfl rfl (Nat.le_of_ble_eq_true rfl) dX2_property_57 ⟨Nat.zero_le _, Nat.zero_le _⟩) ?_
    exact z_iret hx hb hr hlocks (rfl) dX2_property_60
  · refine lv_tableIn (off := 109) (tgt := 110) hx hb dX2_property_1 (by decide) (by decide) (by decide) (by decide) ?_
    refine lv_aload_n hx hb dX2_property_110 rfl (lv_at hl 0 rfl) ?_
    refine lv_iload_n hx hb dX2_property_111 rfl (lv_at hl 1 rfl) ?_
    refine lv_iconst (v := 1) hx hb dX2_property_112 (by decide) ?_
    refine lv_isub hx hb dX2_property_113 ?_
    refine z_top (y := nI (0)) (pk_sub (a := 1) (b := 1) (by omega)) ?_
    refine z_top (y := nI (0)) (by decide) ?_
    refine z_ci (z_vrun (rest := []) (own := RX2) (As := [.int (nI (0))]) hx hb hml hown hts hl.1 hK hP [0, 1] rfl (metX2_allOf l D ac h0 g0 g 0 (by omega)) gX2_property_X2_allOf rfl 1 (by decide +kernel) ⟨rfl, rfl, Nat.le_of_ble_eq_true rfl, Nat.le_of_ble_eq_true rfl⟩ 0 2 rfl rfl rfl rfl rfl (Nat.le_of_ble_eq_true rfl) dX2_property_114 ⟨Nat.zero_le _, Nat.zero_le _⟩) ?_
    exact z_iret hx hb hr hlocks (rfl) dX2_property_117
  · refine lv_tableIn (off := 109) (tgt := 110) hx hb dX2_property_1 (by decide) (by decide) (by decide) (by decide) ?_
    refine lv_aload_n hx hb dX2_property_110 rfl (lv_at hl 0 rfl) ?_
    refine lv_iload_n hx hb dX2_property_111 rfl (lv_at hl 1 rfl) ?_
    refine lv_iconst (v := 1) hx hb dX2_property_112 (by decide) ?_
    refine lv_isub hx hb dX2_property_113 ?_
    refine z_top (y := nI (1)) (pk_sub (a := 2) (b := 1) (by omega)) ?_
    refine z_top (y := nI (1)) (by decide) ?_
    refine z_ci (z_vrun (rest := []) (own := RX2) (As := [.int (nI (1))]) hx hb hml hown hts hl.1 hK hP [0, 1] rfl (metX2_allOf l D ac h0 g0 g 1 (by omega)) gX2_property_X2_allOf rfl 1 (by decide +kernel) ⟨rfl, rfl, Nat.le_of_ble_eq_true rfl, Nat.le_of_ble_eq_true rfl⟩ 0 2 rfl rfl rfl rfl rfl (Nat.le_of_ble_eq_true rfl) dX2_property_114 ⟨Nat.zero_le _, Nat.zero_le _⟩) ?_
    exact z_iret hx hb hr hlocks (rfl) dX2_property_117
  · refine lv_tableIn (off := 109) (tgt := 110) hx hb dX2_property_1 (by decide) (by decide) (by decide) (by decide) ?_
    refine lv_aload_n hx hb dX2_property_110 rfl (lv_at hl 0 rfl) ?_
    refine lv_iload_n hx hb dX2_property_111 rfl (lv_at hl 1 rfl) ?_
    refine lv_iconst (v := 1) hx hb dX2_property_112 (by decide) ?_
    refine lv_isub hx hb dX2_property_113 ?_
    refine z_top (y := nI (2)) (pk_sub (a := 3) (b := 1) (by omega)) ?_
    refine z_top (y := nI (2)) (by decide) ?_
    refine z_ci (z_vrun (rest := []) (own := RX2) (As := [.int (nI (2))]) hx hb hml hown hts hl.1 hK hP [0, 1] rfl (metX2_allOf l D ac h0 g0 g 2 (by omega)) gX2_property_X2_allOf rfl 1 (by decide +kernel) ⟨rfl, rfl, Nat.le_of_ble_eq_true rfl, Nat.le_of_ble_eq_true rfl⟩ 0 2 rfl rfl rfl rfl rfl (Nat.le_of_ble_eq_true rfl) dX2_property_114 ⟨Nat.zero_le _, Nat.zero_le _⟩) ?_
    exact z_iret hx hb hr hlocks (rfl) dX2_property_117
  · refine lv_tableIn (off := 109) (tgt := 110) hx hb dX2_property_1 (by decide) (by decide) (by decide) (by decide) ?_
    refine lv_aload_n hx hb dX2_property_110 rfl (lv_at hl 0 rfl) ?_
    refine lv_iload_n hx hb dX2_property_111 rfl (lv_at hl 1 rfl) ?_
    refine lv_iconst (v := 1) hx hb dX2_property_112 (by decide) ?_
    refine lv_isub hx hb dX2_property_113 ?_
    refine z_top (y := nI (3)) (pk_sub (a := 4) (b := 1) (by omega)) ?_
    refine z_top (y := nI (3)) (by decide) ?_
    refine z_ci (z_vrun (rest := []) (own := RX2) (As := [.int (nI (3))]) hx hb hml hown hts hl.1 hK hP [0, 1] rfl (metX2_allOf l D ac h0 g0 g 3 (by omega)) gX2_property_X2_allOf rfl 1 (by decide +kernel) ⟨rfl, rfl, Nat.le_of_ble_eq_true rfl, Nat.le_of_ble_eq_true rfl⟩ 0 2 rfl rfl rfl rfl rfl (Nat.le_of_ble_eq_true rfl) dX2_property_114 ⟨Nat.zero_le _, Nat.zero_le _⟩) ?_
    exact z_iret hx hb hr hlocks (rfl) dX2_property_117
  · refine lv_tableIn (off := 60) (tgt := 61) hx hb dX2_property_1 (by decide) (by decide) (by decide) (by decide) ?_
    refine lv_aload_n hx hb dX2_property_61 rfl (lv_at hl 0 rfl) ?_
    refine lv_aload_n hx hb dX2_property_62 rfl (lv_at hl 2 rfl) ?_
    refine z_ci (z_vrun (rest := []) (own := RX2) (As := [.ref (h1)]) hx hb hml hown hts hl.1 hK hP [0, 1, 2, 3, 4] rfl (metX2_bedSlices l D ac h0 g0 g h1 v0 w0 v w ) gX2_property_X2_bedSlices rfl 1 (by decide +kernel) ⟨rfl, rfl, Nat.le_of_ble_eq_true rfl, Nat.le_of_ble_eq_true rfl⟩ 0 2 rfl rfl rfl rfl rfl (Nat.le_of_ble_eq_true rfl) dX2_property_63 ⟨Nat.zero_le _, Nat.zero_le _⟩) ?_
    exact z_iret hx hb hr hlocks (rfl) dX2_property_66
  · refine lv_tableIn (off := 66) (tgt := 67) hx hb dX2_property_1 (by decide) (by decide) (by decide) (by decide) ?_
    refine lv_aload_n hx hb dX2_property_67 rfl (lv_at hl 0 rfl) ?_
    refine lv_aload_n hx hb dX2_property_68 rfl (lv_at hl 2 rfl) ?_
    refine z_ci (z_vrun (rest := []) (own := RX2) (As := [.ref (h1)]) hx hb hml hown hts hl.1 hK hP [0, 1, 2, 3, 4] rfl (metX2_clearWater l D ac h0 g0 g h1 v0 w0 v w ) gX2_property_X2_clearWater rfl 1 (by decide +kernel) ⟨rfl, rfl, Nat.le_of_ble_eq_true rfl, Nat.le_of_ble_eq_true rfl⟩ 0 2 rfl rfl rfl rfl rfl (Nat.le_of_ble_eq_true rfl) dX2_property_69 ⟨Nat.zero_le _, Nat.zero_le _⟩) ?_
    exact z_iret hx hb hr hlocks (rfl) dX2_property_72
  · refine lv_tableIn (off := 72) (tgt := 73) hx hb dX2_property_1 (by decide) (by decide) (by decide) (by decide) ?_
    refine lv_aload_n hx hb dX2_property_73 rfl (lv_at hl 0 rfl) ?_
    refine z_ci (z_vrun (rest := []) (own := RX2) (As := []) hx hb hml hown hts hl.1 hK hP [0, 1] rfl (metX2_all l D ac h0 g0 g ) gX2_property_X2_all rfl 0 (by decide +kernel) ⟨rfl, rfl, Nat.le_of_ble_eq_true rfl, Nat.le_of_ble_eq_true rfl⟩ 0 2 rfl rfl rfl rfl rfl (Nat.le_of_ble_eq_true rfl) dX2_property_74 ⟨Nat.zero_le _, Nat.zero_le _⟩) ?_
    refine lv_aload_n hx hb dX2_property_77 rfl (lv_at hl 0 rfl) ?_
    refine lv_bipush (v := 11) hx hb dX2_property_78 (by decide) ?_
    refine lv_aload_n hx hb dX2_property_80 rfl (lv_at hl 0 rfl) ?_
    refine lv_aload_n hx hb dX2_property_81 rfl (lv_at hl 2 rfl) ?_
    refine z_ci (z_vrun (rest := [.int (11), .ref (h0), .int (qAll g)]) (own := RX2) (As := [.ref (h1)]) hx hb hml hown hts hl.1 hK hP [0, 1, 2, 3, 4] rfl (metX2_bedSlices l D ac h0 g0 g h1 v0 w0 v w ) gX2_property_X2_bedSlices rfl 1 (by decide +kernel) ⟨rfl, rfl, Nat.le_of_ble_eq_true rfl, Nat.le_of_ble_eq_true rfl⟩ 0 2 rfl rfl rfl rfl rfl (Nat.le_of_ble_eq_true rfl) dX2_property_82 ⟨Nat.zero_le _, Nat.zero_le _⟩) ?_
    refine lv_isub hx hb dX2_property_85 ?_
    refine z_top (y := nI (12 - qBed g (v 1)) - 1) (z_bedm (q_bed_le _ _)) ?_
    refine z_ci (z_vrun (rest := [.int (qAll g)]) (own := RX2) (As := [.int (nI (12 - qBed g (v 1)) - 1)]) hx hb hml hown hts hl.1 hK hP [0, 1] rfl (metX2_allDownTo l D ac h0 g0 g (nI (12 - qBed g (v 1)) - 1) (12 - qBed g (v 1)) (rfl) (by omega)) gX2_property_X2_allDownTo rfl 1 (by decide +kernel) ⟨rfl, rfl, Nat.le_of_ble_eq_true rfl, Nat.le_of_ble_eq_true rfl⟩ 0 2 rfl rfl rfl rfl rfl (Nat.le_of_ble_eq_true rfl) dX2_property_86 ⟨Nat.zero_le _, Nat.zero_le _⟩) ?_
    refine lv_isub hx hb dX2_property_89 ?_
    exact z_iret hx hb hr hlocks (rfl) dX2_property_90
  · refine lv_tableIn (off := 90) (tgt := 91) hx hb dX2_property_1 (by decide) (by decide) (by decide) (by decide) ?_
    refine lv_aload_n hx hb dX2_property_91 rfl (lv_at hl 0 rfl) ?_
    refine z_ci (z_vrun (rest := []) (own := RX2) (As := []) hx hb hml hown hts hl.1 hK hP [0, 1] rfl (metX2_changesOfLeader l D ac h0 g0 g ) gX2_property_X2_changesOfLeader rfl 0 (by decide +kernel) ⟨rfl, rfl, Nat.le_of_ble_eq_true rfl, Nat.le_of_ble_eq_true rfl⟩ 0 2 rfl rfl rfl rfl rfl (Nat.le_of_ble_eq_true rfl) dX2_property_92 ⟨Nat.zero_le _, Nat.zero_le _⟩) ?_
    exact z_iret hx hb hr hlocks (rfl) dX2_property_95
  · refine lv_tableIn (off := 95) (tgt := 96) hx hb dX2_property_1 (by decide) (by decide) (by decide) (by decide) ?_
    refine lv_aload_n hx hb dX2_property_96 rfl (lv_at hl 0 rfl) ?_
    refine lv_aload_n hx hb dX2_property_97 rfl (lv_at hl 2 rfl) ?_
    refine z_ci (z_vrun (rest := []) (own := RX2) (As := [.ref (h1)]) hx hb hml hown hts hl.1 hK hP [0, 1, 2, 3, 4] rfl (metX2_isAtRest l D ac h0 g0 g h1 v0 w0 v w ) gX2_property_X2_isAtRest rfl 1 (by decide +kernel) ⟨rfl, rfl, Nat.le_of_ble_eq_true rfl, Nat.le_of_ble_eq_true rfl⟩ 0 2 rfl rfl rfl rfl rfl (Nat.le_of_ble_eq_true rfl) dX2_property_98 ⟨Nat.zero_le _, Nat.zero_le _⟩) ?_
    refine z_if_eq (C := qRest g v w = true) (tgt := 108) hx hb dX2_property_101 (by decide) (fun c_101 => ?_) (fun c_101 => ?_)
    · refine lv_iconst (v := 0) hx hb dX2_property_108 (by decide) ?_
      exact z_iret hx hb hr hlocks ((if_neg c_101).symm) dX2_property_109
    · refine lv_iconst (v := 1) hx hb dX2_property_104 (by decide) ?_
      refine lv_goto (tgt := 109) hx hb dX2_property_105 (by decide) ?_
      exact z_iret hx hb hr hlocks ((if_pos c_101).symm) dX2_property_109

set_option maxRecDepth 100000 in
set_option maxHeartbeats 4000000 in
theorem metX2_copyFrom (l : Launch) (D : va_G) (ac : Nat → ClassId) (sz : Nat) (h0 : Nat) (g0 : Nat) (g : Nat → Int32) (h2 : Nat) (o0 : Nat) (o : Nat → Int32)  : Met l yX2_copyFrom wsX2_copyFrom ({ frames := 1, cells := 0, slots := 0, locals := 40 } : Room) (va_Pc [.ref (h0), .ref (h2)] (zS D ac [(h0, .inr (2, [.ref (g0)])), (g0, .inl (ac 0, 48, .inl (g))), (h2, .inr (2, [.ref (o0)])), (o0, .inl (ac 0, 48, .inl (o)))] sz)) (zQv D ac [(h0, .inr (2, [.ref (g0)])), (g0, .inl (ac 0, 48, .inl (g))), (h2, .inr (2, [.ref (o0)])), (o0, .inl (ac 0, 48, .inl (o)))] [(h0, .inr (2, [.ref (g0)])), (g0, .inl (ac 0, 48, .inl (o))), (h2, .inr (2, [.ref (o0)])), (o0, .inl (ac 0, 48, .inl (o)))] sz) 0 0 (va_A [(h0, .inr (2, [.ref (g0)])), (g0, .inl (ac 0, 48, .inl (g))), (h2, .inr (2, [.ref (o0)])), (o0, .inl (ac 0, 48, .inl (o)))] sz) := by
  refine z_rw (cc := cX2_copyFrom) (maxL := 2) (ret := none) (lv := [(0, .ref (h0)), (1, .ref (h2))]) (by decide) rfl (Nat.le_of_ble_eq_true rfl) rfl ?_
  intro p e s m args below meth c ls A hx hb hr hml hown hts hlocks hl hK hP hsz hAe hA hD hS
  refine lv_aload_n hx hb dX2_copyFrom_0 rfl (lv_at hl 1 rfl) ?_
  refine va_get (ci := 2) (v := .ref (o0)) (C := RX2) (T := TX2) (N := 1) hx hb hts (by decide +kernel) hown hK hP 2 rfl rfl 0 (by decide) (hts (.fieldLink RX2 9 "SettlingJars$Jar" "grains" "[I") (by decide +kernel)) (fun _ h9 => h9) rfl dX2_copyFrom_1 ?_
  refine lv_iconst (v := 0) hx hb dX2_copyFrom_4 (by decide) ?_
  refine lv_aload_n hx hb dX2_copyFrom_5 rfl (lv_at hl 0 rfl) ?_
  refine va_get (ci := 2) (v := .ref (g0)) (C := RX2) (T := TX2) (N := 1) hx hb hts (by decide +kernel) hown hK hP 0 rfl rfl 0 (by decide) (hts (.fieldLink RX2 9 "SettlingJars$Jar" "grains" "[I") (by decide +kernel)) (fun _ h9 => h9) rfl dX2_copyFrom_6 ?_
  refine lv_iconst (v := 0) hx hb dX2_copyFrom_9 (by decide) ?_
  refine lv_aload_n hx hb dX2_copyFrom_10 rfl (lv_at hl 0 rfl) ?_
  refine va_get (ci := 2) (v := .ref (g0)) (C := RX2) (T := TX2) (N := 1) hx hb hts (by decide +kernel) hown hK hP 0 rfl rfl 0 (by decide) (hts (.fieldLink RX2 9 "SettlingJars$Jar" "grains" "[I") (by decide +kernel)) (fun _ h9 => h9) rfl dX2_copyFrom_11 ?_
  refine va_alen hx hb hK hP 1 0 rfl rfl (v := 48) rfl dX2_copyFrom_14 ?_
  refine z_copy (n := 48) hx hb (by rw [hml]; exact hl.1.symm) hown (hts (.methodLink RX2 15 arraycopyName) (by decide +kernel)) (hts (.native arraycopyName) (by decide +kernel)) (hts (.static arraycopyName) (by decide +kernel)) (hts (.initialized "java/lang/System") (by decide +kernel)) hK hP hD hS 3 1 rfl rfl (Nat.le_of_ble_eq_true rfl) (by decide) (Nat.le_of_ble_eq_true rfl) dX2_copyFrom_15 (fun H locs hP hD hS => ?_)
  have hP : va_P D vwCl [(h0, .inr (2, [.ref (g0)])), (g0, .inl (ac 0, 48, .inl (o))), (h2, .inr (2, [.ref (o0)])), (o0, .inl (ac 0, 48, .inl (o)))] H := hP
  have hD : va_D A [(h0, .inr (2, [.ref (g0)])), (g0, .inl (ac 0, 48, .inl (o))), (h2, .inr (2, [.ref (o0)])), (o0, .inl (ac 0, 48, .inl (o)))] := hD
  exact z_vretW hx hb hr hlocks hK hP hD hS hAe dX2_copyFrom_18
end
section
/-! more pure words -/
theorem q_wish (v r n f : Int32) : qWish v r n f = if n * v * f / 100000 = 0 ∧ r < n then (if (1 : Int32) < n then 1 else n) else (if n * v * f / 100000 < n then n * v * f / 100000 else n) := by
  unfold qWish
  by_cases h : n * v * f / 100000 = 0 ∧ r < n
  · rw [if_pos h, if_pos h]
  · rw [if_neg h, if_neg h]
/-! the class's own words for its calls -/
def qCi (v w : Nat → Int32) (sl : Nat) : Nat → Nat → (Nat → Int32) → Int32 × (Nat → Int32)
  | 0, _, G => (-1, G)
  | n + 1, i, G => if sl ≤ qClr G (v 2) then (nI i, G) else if (qStep G v w).2 = 0 then (-1, (qStep G v w).1) else qCi v w sl n (i + 1) (qStep G v w).1
def qRi (v w : Nat → Int32) : Nat → Nat → (Nat → Int32) → Int32 × (Nat → Int32)
  | 0, _, G => (-1, G)
  | n + 1, i, G => if (qStep G v w).2 = 0 then (nI i, (qStep G v w).1) else qRi v w n (i + 1) (qStep G v w).1
def xGr (w ga gb gc pd dr : Nat → Int32) (c : Nat) : Nat → Int32
  | 0 => pd c
  | 1 => dr c
  | 2 => (0 : Int32) + qOf ga c + qOf gb c + qOf gc c
  | _ => w c
def xCnt (v ga gb gc : Nat → Int32) (tp fl : Int32) (n : Nat) : Nat → Int32
  | 0 => tp
  | 1 => (0 : Int32) + qAll ga + qAll gb + qAll gc
  | 2 => (0 : Int32) + qPkd ga (v 1) 12 + qPkd gb (v 1) 12 + qPkd gc (v 1) 12
  | 3 => (0 : Int32) + qClrs ga (v 2) 12 + qClrs gb (v 2) 12 + qClrs gc (v 2) 12
  | 4 => fl
  | _ => nI n
def qStir (g : Nat → Int32) (a b : Nat) : Nat → Nat → Int32
  | 0 => g
  | c + 1 => (qSp (qStir g a b c) a b c (qSum (qStir g a b c) a c (b + 1 - a)) (b + 1 - a)).1
def qSm4 (g : Nat → Int32) (a b : Nat) : Nat → Int32
  | 0 => 0
  | c + 1 => qSm4 g a b c + qSum (qStir g a b c) a c (b + 1 - a)
/-- draw: the jar, what was drawn off, the sum -/
def qDr1 (s c : Nat) (q : (Nat → Int32) × (Nat → Int32) × Int32) (x : Int32) : (Nat → Int32) × (Nat → Int32) × Int32 :=
  (qPut q.1 s c (-x), upd q.2.1 c (q.2.1 c + x), q.2.2 + x)
def qDraw (g dr : Nat → Int32) (s : Nat) (p : Int32) : Nat → (Nat → Int32) × (Nat → Int32) × Int32
  | 0 => (g, dr, 0)
  | c + 1 => qDr1 s c (qDraw g dr s p c) ((qDraw g dr s p c).1 (4 * s + c) * p / 100)
/-- decant among three: jar i of the three, poured from a into b -/
def qDec (ga gb gc : Nat → Int32) (a b t i : Nat) : Nat → Int32 :=
  if i = a then (qOver (zG a ga gb gc) (zG b ga gb gc) t).1 else if i = b then (qOver (zG a ga gb gc) (zG b ga gb gc) t).2 else zG i ga gb gc
/-- poured grows class by class by what a jar holds -/
def qPd (pd g : Nat → Int32) : Nat → Nat → Int32
  | 0 => pd
  | c + 1 => upd (qPd pd g c) c (qPd pd g c c + qOf g c)
/-- the places of a text -/
def qPls (tx : Nat → Int32) : Nat → Option Nat
  | 0 => some 0
  | k + 1 => qPl (qPls tx k) (tx k)
def qFw (tx : Nat → Int32) : Nat → Nat → Nat
  | 0, k => k
  | n + 1, k => if qPls tx (k + 1) = none then k else qFw tx n (k + 1)
theorem q_pn_lt {x : Int32} {b : Nat} (h : qPn x = some b) : b < 8 := by
  unfold qPn at h
  split at h
  · cases h; omega
  · cases h
theorem q_pp_lt {x : Int32} {b : Nat} (h : qPp x = some b) : b < 8 := by
  unfold qPp at h
  split at h
  · cases h; omega
  · cases h
theorem q_pl_lt {o : Option Nat} {x : Int32} {b : Nat} (h : qPl o x = some b) : b < 8 := by
  unfold qPl at h
  split at h
  · split at h
    · cases h; omega
    · cases h
  · split at h
    · cases h; omega
    · exact q_pn_lt h
  · split at h
    · cases h; omega
    · exact q_pn_lt h
  · exact q_pn_lt h
  · split at h
    · cases h; omega
    · exact q_pp_lt h
  · split at h
    · cases h; omega
    · split at h
      · cases h; omega
      · cases h
  · split at h
    · cases h; omega
    · exact q_pp_lt h
  · exact q_pp_lt h
  · cases h
theorem q_pls_lt (tx : Nat → Int32) : ∀ k b, qPls tx k = some b → b < 8
  | 0, b, h => by
    have e : some 0 = some b := h
    cases e
    omega
  | k + 1, b, h => q_pl_lt (o := qPls tx k) (x := tx k) h
theorem z_oi_none {o : Option Nat} (h : ∀ b, o = some b → b < 8) : zOI o = -1 ↔ o = none := by
  cases o with
  | none => exact ⟨fun _ => rfl, fun _ => rfl⟩
  | some b => exact ⟨fun q => absurd q (z_nm1 (by have := h b rfl; omega)), fun q => by cases q⟩
theorem z_oi_eq {o : Option Nat} {k : Nat} (hk : k < 8) (h : ∀ b, o = some b → b < 8) : zOI o = nI k ↔ o = some k := by
  cases o with
  | none => exact ⟨fun q => absurd q.symm (z_nm1 (by omega)), fun q => by cases q⟩
  | some b =>
    have hb := h b rfl
    constructor
    · intro q
      rw [(nI_eq (by omega) (by omega)).mp q]
    · intro q
      cases q
      rfl
/-- a portion: the number, the class, the slice -/
def rNum (tx : Nat → Int32) (b : Nat) : Nat → Nat → Int32 → Nat × Int32
  | 0, k, y => (k, y)
  | n + 1, k, y => if 48 ≤ tx k ∧ tx k ≤ 57 then rNum tx b n (k + 1) (y * 10 + (tx k - 48)) else (k, y)
def rEnd (tx : Nat → Int32) (a b : Nat) : Nat := (rNum tx b (b - a) a 0).1
def rMany (tx : Nat → Int32) (a b : Nat) : Int32 := (rNum tx b (b - a) a 0).2
def rCls (tx : Nat → Int32) (a b : Nat) : Int32 := if rEnd tx a b < b then tx (rEnd tx a b) - 97 else 0
def rSum (tx : Nat → Int32) (a : Nat) : Nat → Int32
  | 0 => 0
  | n + 1 => rSum tx a n * 10 + (tx (a + n) - 48)
def rSl (tx : Nat → Int32) (a b : Nat) : Int32 := rSum tx (rEnd tx a b + 2) (b - (rEnd tx a b + 2))
theorem r_num_in (tx : Nat → Int32) (b : Nat) : ∀ n k y, k ≤ (rNum tx b n k y).1 ∧ (rNum tx b n k y).1 ≤ k + n
  | 0, k, y => ⟨Nat.le_refl k, Nat.le_refl k⟩
  | n + 1, k, y => by
    rw [rNum]
    split
    · have h := r_num_in tx b n (k + 1) (y * 10 + (tx k - 48))
      omega
    · show k ≤ k ∧ k ≤ k + (n + 1)
      omega
/-- a portion is sound: its class and its slice are places -/
def rOk (tx : Nat → Int32) (a b : Nat) : Prop :=
  rSl tx a b = nI (rSl tx a b).toNatClampNeg ∧ (rSl tx a b).toNatClampNeg < 12 ∧ rCls tx a b = nI (rCls tx a b).toNatClampNeg ∧ (rCls tx a b).toNatClampNeg < 4
def rPut (tx : Nat → Int32) (a b : Nat) (g : Nat → Int32) : Nat → Int32 := qPut g (rSl tx a b).toNatClampNeg (rCls tx a b).toNatClampNeg (rMany tx a b)
/-- from sign k on, n signs left, the portion begun at a -/
def rInto (tx : Nat → Int32) : Nat → Nat → Nat → (Nat → Int32) → Nat → Int32
  | 0, k, a, g => rPut tx a k g
  | n + 1, k, a, g => if tx k = 43 then rInto tx n (k + 1) (k + 1) (rPut tx a k g) else rInto tx n (k + 1) a g
/-- all portions from k on are sound -/
def rOkAll (tx : Nat → Int32) : Nat → Nat → Nat → Prop
  | 0, k, a => rOk tx a k
  | n + 1, k, a => if tx k = 43 then rOk tx a k ∧ rOkAll tx n (k + 1) (k + 1) else rOkAll tx n (k + 1) a
def qMixS (h : Int64) (g v w : Nat → Int32) : Nat → Int64
  | 0 => h
  | s + 1 => qMix (qMixS h g v w s) (qSlice g v w s) 10
end
