/-! more wrappers: references out of rows, rows copied -/
/-- f over g, the first n -/
def qCpy (f g : Nat → Int32) (n : Nat) : Nat → Int32 := fun k => if k < n then f k else g k
def zJ3 (a b c : Nat) : Nat → Option Nat := fun k => if k = 0 then some a else if k = 1 then some b else some c
theorem z_cellx (cA : ClassId) {n : Nat} {f f2 : Nat → Int32} (h : ∀ k, k < n → f k = f2 k) : vp_cell cA (n, .inl f) = vp_cell cA (n, .inl f2) := by
  rw [vp_cell_i, vp_cell_i]
  have e : (fun j : Fin n => Value.int (f j.val)) = (fun j : Fin n => Value.int (f2 j.val)) := funext (fun j => by rw [h j.val j.isLt])
  unfold arrV
  rw [e]
theorem z_pext {D : va_G} {cl : List vw_C} {w : va_W} {H : Heap} (q0 : Nat) {a n : Nat} {cA : ClassId} {f f2 : Nat → Int32} (ha : w[q0]? = some (a, .inl (cA, n, .inl f))) (h : ∀ k, k < n → f k = f2 k) (hP : va_P D cl w H) : va_P D cl (w.set q0 (a, .inl (cA, n, .inl f2))) H := by
  intro k q hk
  rw [List.getElem?_set] at hk
  split at hk
  · rename_i e
    split at hk
    · cases hk
      have h1 := hP q0 _ ha
      show H[a]? = some (vp_cell cA (n, .inl f2))
      rw [← z_cellx cA h]
      exact h1
    · cases hk
  · exact hP k q hk
section ZR
variable {p : Program} {l : Launch} {e : Env} {R : Room} {s : State} {m : MethodId} {args : Array Value} {below : List Frame} {meth : Method} {c : Code} {H H0 : Heap} {locs : List Loc} {cells slots : Nat} {Q : State → Prop}
variable {pc : Nat} {ls : Array Slot} {rest st0 : List Value} {cc : ByteArray} {D : va_G} {ac : Nat → ClassId} {w : va_W} {A : Nat → Prop}
theorem z_aald (hx : p.tables.exec = Jvm.exec) (hb : c.code = cc) (hK : va_K D vwCl (zTy ac) s) (hP : va_P D vwCl w H) (q0 t0 : Nat) {C : String} {cA : ClassId} {a n : Nat} {f : Nat → Option Nat} (ha : w[q0]? = some (a, .inl (cA, n, .inr (.inr (.inr (.inr f)))))) (ht : (zTy ac)[t0]? = some (cA, .object C)) (k : Nat) {i : Int32} (hi : i = nI k) (hk : k < n) (hn : n < 2 ^ 31) {r : Nat} (hr : f k = some r) (hdg : decode cc pc = .ok (.aaload, 1))
    (kk : W p l e R s m args below meth c H locs cells slots Q (F0 m (pc + 1) ls (.ref r :: rest))) : W p l e R s m args below meth c H locs cells slots Q (F0 m pc ls (.int i :: .ref a :: rest)) := by
  subst hi
  refine va_aldq hx hb hK hP q0 t0 ha ht (vp_in_nI hk hn) hdg ?_
  rw [nI_clamp (Nat.lt_trans hk hn), hr]
  exact kk
theorem z_copy {own : String} {index : Nat} (hx : p.tables.exec = Jvm.exec) (hb : c.code = cc) (hml : c.maxLocals = ls.size) (hown : s.vm.findClass own = some m.cls) (hlink : (Cond.methodLink own index arraycopyName).before args s = true) (hnat : (Cond.native arraycopyName).before args s = true) (hstat : (Cond.static arraycopyName).before args s = true) (hini : (Cond.initialized "java/lang/System").before args s = true)
    (hK : va_K D vwCl (zTy ac) s) (hP : va_P D vwCl w H) (hD : va_D A w) (hS : va_S A H0 H locs) (q0 q1 : Nat) {a0 a : Nat} {n : Nat} {f g : Nat → Int32} (ha0 : w[q0]? = some (a0, .inl (ac 0, n, .inl f))) (ha1 : w[q1]? = some (a, .inl (ac 0, n, .inl g)))
    (hframes : 1 ≤ R.frames) (hn : n < 1000) (hlocals : (rest.map fun v => v.category).sum + 40 ≤ R.locals) (hdg : decode cc pc = .ok (.invokestatic index, 3))
    (kk : ∀ (H1 : Heap) (locs1 : List Loc), va_P D vwCl (w.set q1 (a, .inl (ac 0, n, .inl f))) H1 → va_D A (w.set q1 (a, .inl (ac 0, n, .inl f))) → va_S A H0 H1 locs1 → W p l e R s m args below meth c H1 locs1 cells slots Q (F0 m (pc + 3) ls rest)) : W p l e R s m args below meth c H locs cells slots Q (F0 m pc ls (.int (nI n) :: .int 0 :: .ref a :: .int 0 :: .ref a0 :: rest)) := by
  have h0 : (0 : Int32).toNatClampNeg = 0 := by decide
  have h1 : (nI n).toNatClampNeg = n := nI_clamp (by omega)
  have e : ∀ k, k < n → va_cpy f g (0 : Int32).toNatClampNeg (0 : Int32).toNatClampNeg (nI n).toNatClampNeg k = f k := by
    intro k hk
    rw [h0, h1]
    simp [va_cpy, hk]
  refine va_copyi hx hb hml hown hlink hnat hstat hini hK hP hD hS q0 q1 0 0 (ty := .int) ha0 ha1 rfl rfl rfl (sp := 0) (dp := 0) (n := nI n) (by decide) (by decide) (nI_pos (by omega)) (by rw [h0, h1]; omega) (by rw [h0, h1]; omega) (fun i _ => rfl) hframes (Nat.le_trans (Nat.add_le_add_left (by decide) _) hlocals) hdg (fun H1 locs1 a1 a2 a3 => kk H1 locs1 ?_ ?_ a3)
  · have hset : ∀ x : Nat × va_E, (w.set q1 x)[q1]? = some x := fun x => by
      rw [List.getElem?_set]
      simp [(List.getElem?_eq_some_iff.mp ha1).1]
    have b1 := z_pext q1 (hset _) e a1
    rw [List.set_set] at b1
    exact b1
  · exact hD.set ha1
end ZR
theorem z_i2c {q : Nat} (h : q < 65536) : ((nI q).toUInt32 % 65536).toInt32 = nI q := by
  rw [pk_char, pk_tn (by omega), Nat.mod_eq_of_lt h]
theorem z_narc {q : Nat} (h : q < 65536) : vp_nar .char (nI q) = nI q := by
  unfold vp_nar
  rw [(pk_charN h).1]
section ZS
variable {p : Program} {l : Launch} {e : Env} {R : Room} {s : State} {m : MethodId} {args : Array Value} {below : List Frame} {meth : Method} {c : Code} {H H0 : Heap} {locs : List Loc} {cells slots : Nat} {Q : State → Prop}
variable {pc : Nat} {ls : Array Slot} {rest st0 : List Value} {cc : ByteArray} {D : va_G} {ac : Nat → ClassId} {w : va_W} {A : Nat → Prop}
theorem z_cast {q : Nat} (hx : p.tables.exec = Jvm.exec) (hb : c.code = cc) (hK : va_K D vwCl (zTy ac) s) (hP : va_P D vwCl w H) (hD : va_D A w) (hS : va_S A H0 H locs) (q0 : Nat) {a n : Nat} {f : Nat → Int32} (ha : w[q0]? = some (a, .inl (ac 1, n, .inl f))) (k : Nat) {i : Int32} (hi : i = nI k) (hk : k < n) (hn : n < 2 ^ 31) (hq : q < 65536) (hdg : decode cc pc = .ok (.castore, 1))
    (kk : ∀ (H1 : Heap) (locs1 : List Loc), va_P D vwCl (w.set q0 (a, .inl (ac 1, n, .inl (upd f k (nI q))))) H1 → va_D A (w.set q0 (a, .inl (ac 1, n, .inl (upd f k (nI q))))) → va_S A H0 H1 locs1 → W p l e R s m args below meth c H1 locs1 cells slots Q (F0 m (pc + 1) ls rest)) : W p l e R s m args below meth c H locs cells slots Q (F0 m pc ls (.int (nI q) :: .int i :: .ref a :: rest)) := by
  subst hi
  refine va_cast hx hb hK hP hD hS q0 1 ha rfl (vp_in_nI hk hn) hdg ?_
  rw [nI_clamp (Nat.lt_trans hk hn), z_narc hq]
  exact kk
end ZS
/-! the text's places -/
def kSz (n : Nat) : Nat := if n < 6 then n + 1 else n
def kOd (o n : Nat) : Nat := if n < 6 then o else (o + 1) % 6
def qPn (x : Int32) : Option Nat := if 97 ≤ x ∧ x < 101 then some 4 else none
def qPp (x : Int32) : Option Nat := if x = 43 then some 0 else none
def qPl (o : Option Nat) (x : Int32) : Option Nat := match o with
  | some 0 => if (48 ≤ x ∧ x ≤ 57) ∧ ¬ x = 48 then some 1 else none
  | some 1 => if 48 ≤ x ∧ x ≤ 57 then some 2 else qPn x
  | some 2 => if 48 ≤ x ∧ x ≤ 57 then some 3 else qPn x
  | some 3 => qPn x
  | some 4 => if x = 64 then some 5 else qPp x
  | some 5 => if x = 49 then some 6 else if 48 ≤ x ∧ x ≤ 57 then some 7 else none
  | some 6 => if x = 48 ∨ x = 49 then some 7 else qPp x
  | some 7 => qPp x
  | _ => none
theorem z_cases8 {k : Nat} (h : k < 8) : k = 0 ∨ k = 1 ∨ k = 2 ∨ k = 3 ∨ k = 4 ∨ k = 5 ∨ k = 6 ∨ k = 7 := by omega
/-- the one of three -/
def zG (j : Nat) (a b c : Nat → Int32) : Nat → Int32 := if j = 0 then a else if j = 1 then b else c
