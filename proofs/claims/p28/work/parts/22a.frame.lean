/-! what stands through the law's run; its calls -/
def lCx (p : Program) (l : Launch) (s : State) (m : MethodId) (args : Array Value) (c : Code) (b L : Nat) (xs : Nat → Int32) (D : va_G) (ac : Nat → ClassId) (A : Nat → Prop) (tl tg : Nat) : Prop :=
  (p.tables.exec = Jvm.exec ∧ c.code = code ∧ c.maxLocals = 11 ∧ s.vm.findClass RL = some m.cls ∧ ∀ w ∈ wsL_law, w.before args s = true) ∧ va_K D vwCl (zTy ac) s ∧ (∀ q : Nat, s.heap.size ≤ q → A q) ∧ (va_X b L xs s s.heap ∧ b < s.heap.size ∧ ¬ A b ∧ L ≤ 260) ∧ zSt tl tg A s s.heap
section ZB
variable {p : Program} {l : Launch} {e : Env} {s : State} {m : MethodId} {args : Array Value} {below : List Frame} {meth : Method} {c : Code} {H : Heap} {locs : List Loc} {cells slots : Nat} {Q : State → Prop}
variable {pc : Nat} {ls : Array Slot} {rest st0 : List Value} {D : va_G} {ac : Nat → ClassId} {A : Nat → Prop} {b L tl tg : Nat} {xs : Nat → Int32}
variable {F F2 wr wc w1 : va_W}
theorem pre_P (hP : va_P D vwCl (F ++ wr) H) (is : List Nat) (hC : is.map (fun i => F[i]?) = wc.map some) : va_P D vwCl wc H := fun k q hk => by
  obtain ⟨i, -, hi⟩ := z_mapAt hC hk
  exact z_Pl hP i q hi
theorem pre_F (hD : va_D A (F ++ wr)) (hS : va_S A s.heap H locs) (hA : ∀ q : Nat, s.heap.size ≤ q → A q) (is : List Nat) (hC : is.map (fun i => F[i]?) = wc.map some) : ∀ q, va_A wc H.size q → A q := by
  intro q h
  rcases h with ⟨k, e, h⟩ | h
  · obtain ⟨i, -, hi⟩ := z_mapAt hC h
    exact hD.2 i (q, e) (by rw [List.getElem?_append_left (List.getElem?_eq_some_iff.mp hi).1]; exact hi)
  · exact hA q (Nat.le_trans hS.1 h)
theorem pre_D (hD : va_D A (F ++ wr)) (is : List Nat) (hn : va_nd is = true) (hC : is.map (fun i => F[i]?) = wc.map some) : va_D A wc := by
  have h1 : va_D A F := ⟨fun i j p q hi hj e => hD.1 i j p q (by rw [List.getElem?_append_left (List.getElem?_eq_some_iff.mp hi).1]; exact hi) (by rw [List.getElem?_append_left (List.getElem?_eq_some_iff.mp hj).1]; exact hj) e, fun k q hk => hD.2 k q (by rw [List.getElem?_append_left (List.getElem?_eq_some_iff.mp hk).1]; exact hk)⟩
  exact h1.sub (ws' := wc) is hn hC
theorem pre_S (hK : va_K D vwCl (zTy ac) s) (hP : va_P D vwCl (F ++ wr) H) (hD : va_D A (F ++ wr)) (is : List Nat) (hC : is.map (fun i => F[i]?) = wc.map some) (hn : va_nd is = true) {av : List Value} : PreS s H (va_Pc av (zS D ac wc H.size)) av :=
  ⟨zS_blind, fun U hU hWm => ⟨rfl, by rw [hU], ⟨by rw [hU]; exact pre_P hP is hC, va_K.moved hWm.alike hK⟩, (pre_D hD is hn hC).weaken (fun _ _ _ _ => trivial)⟩⟩
theorem pre_SE {tl tg : Nat} (hE : zSt tl tg A s s.heap) (hS : va_S A s.heap H locs) (hA : ∀ q : Nat, s.heap.size ≤ q → A q) (hK : va_K D vwCl (zTy ac) s) (hP : va_P D vwCl (F ++ wr) H) (hD : va_D A (F ++ wr)) (is : List Nat) (hC : is.map (fun i => F[i]?) = wc.map some) (hn : va_nd is = true) {av : List Value} : PreS s H (va_Pc av (zSE D ac wc H.size tl tg)) av :=
  ⟨zSE_blind, fun U hU hWm => ⟨rfl, ((pre_S hK hP hD is hC hn (av := av)).2 U hU hWm).2, by rw [hU]; exact ((hE.kept hS.2.1).moved hWm.alike).narrow (pre_F hD hS hA is hC)⟩⟩
variable {y : MethodName} {bytes : ByteArray} {maxL index mc ms : Nat} {ret : Option FieldType} {ws ws' : List Cond} {rm : Room} {As : List Value} {B : State → Prop} {X : Int32}
/-- a static call of a method that writes -/
theorem lg_s (C : lCx p l s m args c b L xs D ac A tl tg) (hls : ls.size = 11) (hP : va_P D vwCl (F ++ wr) H) (hD : va_D A (F ++ wr)) (hS : va_S A s.heap H locs)
    (hM : Met l y ws rm (va_Pc As B) (zQi D ac wc w1 H.size X) mc ms (va_A wc H.size)) (is : List Nat) (hC : is.map (fun i => F[i]?) = wc.map some) (hp : PreS s H (va_Pc As B) As)
    (hG : GoodIn wsL_law (va_wsS RL index y ws)) (hw : ws = Cond.code y bytes maxL ret :: ws') (n : Nat) (hd : y.cls ≠ "java/lang/invoke/MethodHandle" ∧ y.cls ≠ "java/lang/invoke/VarHandle" ∧ (parseMethodDescriptor y.desc).map (fun d => d.parameters.length) = some n) (hR : rm.cells = mc ∧ rm.slots = ms ∧ rm.frames + 1 ≤ room_1.frames ∧ 8 + (maxL + 11) + rm.locals ≤ room_1.locals)
    (hn : As.length = n) (hst : st0 = As.reverse ++ []) (hdg : decode code pc = .ok (.invokestatic index, 3)) (hf : cells + mc ≤ room_1.cells ∧ slots + ms ≤ room_1.slots) (cs : List (Nat ⊕ Nat)) (hcs : zOkC 0 cs is = true) (hF2 : cs.map (zPk F w1) = F2.map some) (hfst : F2.map Prod.fst = F.map Prod.fst)
    (kk : ∀ (H1 : Heap) (locs1 : List Loc), va_P D vwCl (F2 ++ wr) H1 → va_D A (F2 ++ wr) → va_S A s.heap H1 locs1 → W p l e room_1 s m args below meth c H1 locs1 (cells + mc) (slots + ms) Q (F0 m (pc + 3) ls [.int X])) : W p l e room_1 s m args below meth c H locs cells slots Q (F0 m pc ls st0) := by
  obtain ⟨⟨hx, hb, hml, hown, hts⟩, hK, hA, -⟩ := C
  have hF := pre_F hD hS hA is hC
  refine va_calli (rest := []) (va_runS ⟨hx, hb, hml, hown, hts⟩ hM (va_cwS n hts hG hw hR.1 hR.2.1 hd hR.2.2) hp rfl hn hls hst (lv_room (Nat.zero_le _)) hdg hf) hS (fun q _ h => hF q h) hF (fun r u t H1 locs1 ht hvm hw hB hz1 hk1 hS1 => ?_)
  obtain ⟨⟨q1, q2⟩, q3⟩ := hB
  rw [ht] at q1
  obtain ⟨a1, a2⟩ := z_upd hP hD is hC cs hcs hF2 hfst hk1 q1
  subst hw
  exact kk H1 locs1 a1 a2 hS1
/-- the script's number k -/
theorem lg_cell (C : lCx p l s m args c b L xs D ac A tl tg) (hls : ls.size = 11) (hS : va_S A s.heap H locs) {k : Nat} (hk : k < 1000) (hdg : decode code pc = .ok (.invokestatic 121, 3)) (hf : cells ≤ room_1.cells ∧ slots ≤ room_1.slots)
    (kk : W p l e room_1 s m args below meth c H locs cells slots Q (F0 m (pc + 3) ls [.int (lCl L xs k)])) : W p l e room_1 s m args below meth c H locs cells slots Q (F0 m pc ls [.int (nI k), .ref b]) := by
  obtain ⟨⟨hx, hb, hml, hown, hts⟩, hK, hA, ⟨hX, hbl, hbA, hL⟩, -⟩ := C
  have hX1 : va_X b L xs s H := hX.kept (hS.2.1 b hbl hbA)
  exact z_ci (rest := []) (W.runS (As := [.ref b, .int (nI k)]) ⟨hx, hb, hml, hown, hts⟩ (metL_cell l b L xs k hk hL) (va_cwS 2 hts gL_law_L_cell rfl rfl rfl (by decide +kernel) ⟨Nat.le_of_ble_eq_true rfl, Nat.le_of_ble_eq_true rfl⟩) ⟨zX_blind, fun U hU hWm => ⟨rfl, by show va_X b L xs U U.heap; rw [hU]; exact hX1.moved hWm.alike⟩⟩ rfl rfl hls rfl (lv_room (Nat.zero_le _)) hdg hf) kk
end ZB
