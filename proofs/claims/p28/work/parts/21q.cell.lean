/-! the script's numbers, and those behind its end -/
def zX (b L : Nat) (xs : Nat → Int32) (U : State) : Prop := va_X b L xs U U.heap
theorem zX_blind {av : List Value} {b L : Nat} {xs : Nat → Int32} : FrameBlind (va_Pc av (zX b L xs)) := fun a U g mk q => ⟨q.1, va_X.moved (u := U) (U := U.calling g mk a) (Vm.Alike.refl U.vm) q.2⟩
def lCl (L : Nat) (xs : Nat → Int32) (k : Nat) : Int32 := if k < L then xs k else 608135816 * (nI k + 1)
set_option maxRecDepth 100000 in
set_option maxHeartbeats 4000000 in
theorem metL_cell (l : Launch) (b L : Nat) (xs : Nat → Int32) (k1 : Nat) (hk : k1 < 1000) (hL : L ≤ 260) : Met l yL_cell wsL_cell ({ frames := 0, cells := 0, slots := 0, locals := 0 } : Room) (va_Pc [.ref b, .int (nI k1)] (zX b L xs)) (zRi (lCl L xs k1)) 0 0 (fun _ => False) := by
  refine Met.ofW (cc := cL_cell) (maxL := 2) (ret := some .int) (by decide) rfl ?_
  intro p e s m args below meth c s₁ B hml hv
  obtain ⟨rfl, hX⟩ := hv
  have hbl : b < s.heap.size := by
    obtain ⟨scr, hcb, -⟩ := hX
    exact (Array.getElem?_eq_some_iff.mp hcb).1
  have hX1 : va_X b L xs s s.heap := hX
  have hx := B.exec
  have hb := B.bytes
  have hr := B.returns
  have hlocks := B.notSynchronized
  have hown := findClass_of_methodNamed B.named
  have hts := atoms_spec (ws := wsL_cell) B.pre
  rw [lg_entry_eq]
  have hl := lv_entry ([.ref b, .int (nI k1)]) (n := 2) (Nat.le_of_ble_eq_true rfl)
  generalize (lg_sl ([.ref b, .int (nI k1)]) ++ List.replicate (2 - (lg_sl ([.ref b, .int (nI k1)])).length) Slot.unset).toArray = ls at hl ⊢
  have hl : lv_has ls 2 [(0, .ref b), (1, .int (nI k1))] := hl
  refine lv_iload_n hx hb dL_cell_0 rfl (lv_at hl 1 rfl) ?_
  refine lv_aload_n hx hb dL_cell_1 rfl (lv_at hl 0 rfl) ?_
  refine va_slen (A := fun _ => False) hx hb hX1 hbl (fun h => h) va_S.rf dL_cell_2 ?_
  refine z_icmp_ge (tgt := 12) hx hb k1 L dL_cell_3 (by decide) (by omega) (by omega) rfl rfl (fun c_3 => ?_) (fun c_3 => ?_)
  · refine lv_ldc (own := RL) hx hb hown (hts (.constant RL 7 (608135816)) (by decide +kernel)) dL_cell_12 ?_
    refine lv_iload_n hx hb dL_cell_14 rfl (lv_at hl 1 rfl) ?_
    refine lv_iconst (v := 1) hx hb dL_cell_15 (by decide) ?_
    refine lv_iadd hx hb dL_cell_16 ?_
    refine lv_imul hx hb dL_cell_17 ?_
    exact z_iret hx hb hr hlocks (if_neg (by omega)).symm dL_cell_18
  · refine lv_aload_n hx hb dL_cell_6 rfl (lv_at hl 0 rfl) ?_
    refine lv_iload_n hx hb dL_cell_7 rfl (lv_at hl 1 rfl) ?_
    refine va_sld (A := fun _ => False) hx hb hX1 hbl (fun h => h) va_S.rf (vp_in_nI (by omega) (by omega)) dL_cell_8 ?_
    rw [nI_clamp (by omega)]
    refine lv_goto (tgt := 18) hx hb dL_cell_9 (by decide) ?_
    exact z_iret hx hb hr hlocks (if_pos (by omega)).symm dL_cell_18
