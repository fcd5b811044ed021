/-! from the entry -/
set_option maxRecDepth 100000 in
set_option maxHeartbeats 1000000 in
/-- from the entry, for every script of at most 260 ints, the law comes to its end with true -/
theorem whole_start {p : Program} {e : Env} {s : State} {m : MethodId} {below : List Frame} {meth : Method} {c : Code} (l : Launch) (hflags : l.flags = flags0) {b L : Nat} {xs : Nat → Int32} (hL : L ≤ 260) (C0 : lw_At p s m meth c b L xs) : W p l e room_1 s m #[Value.ref b] below meth c s.heap [] 0 0 (lw_Z below #[Value.ref b] s) (entryFrame m ([Value.ref b] : List Value).toArray 11) := by
  obtain ⟨hx, hb, hr, hml, hown, hts, hX, hbl, hlocks, hgv⟩ := id C0
  have hd0 := Drawn.sameBut.refl s.drawn lw_cs
  obtain ⟨D, ac, tl, tg, C, hN⟩ := lw_ctx l hL C0
  obtain ⟨A, hAe⟩ : ∃ A : Nat → Prop, A = fun q : Nat => s.heap.size ≤ q := ⟨_, rfl⟩
  rw [← hAe] at C
  have hA : ∀ q : Nat, s.heap.size ≤ q → A q := C.2.2.1
  have hK := C.2.1
  have T := lw_T hts
  have htsL := C.1.2.2.2.2
  have hS : va_S A s.heap s.heap [] := va_S.rf
  have hP : va_P D vwCl [] s.heap := fun k q h => by simp at h
  have hD : va_D A [] := ⟨fun i j p q h => by simp at h, fun k q h => by simp at h⟩
  have hl := lv_entry ([.ref b]) (n := 11) (Nat.le_of_ble_eq_true rfl)
  rw [lg_entry_eq]
  generalize (lg_sl ([.ref b]) ++ List.replicate (11 - (lg_sl ([.ref b])).length) Slot.unset).toArray = ls at hl ⊢
  have hl : lv_has ls 11 [(0, .ref b)] := hl
  refine va_new (ci := 5) (fs := [.null, .null, .null, .null]) (C := RX5) (T := TX5) (N := 4) hx hb htsL inlX5 tyX5 tyX5_ok hown (T 15 (.classLink RL 36 RX5) (by decide +kernel)) (T 16 (.instantiable RX5 4) (by decide +kernel)) (T 1 (.initialized RX5) (by decide +kernel)) hK hP hD hS hA rfl (fun j hj => by rcases z_cases4 hj with rfl | rfl | rfl | rfl <;> rfl) (Nat.le_of_ble_eq_true rfl) (Nat.le_of_ble_eq_true rfl) dL_law_0 (fun x0 H hP hD hS => ?_)
  refine lv_dup hx hb dL_law_3 rfl ?_
  refine z_ctor (w := []) (va_runI (As := []) (rest := [.ref x0]) ⟨hx, hb, hml, hown, htsL⟩ (metX5_init l D ac _ x0) (cwI 0 htsL gL_law_X5_init rfl rfl rfl (T 1 (.initialized RX5) (by decide +kernel)) (T 17 (.methodLink RL 116 yX5_init) (by decide +kernel)) (htsL (.instanceMethod yX5_init) (by decide +kernel)) rfl (by decide +kernel) ⟨Nat.le_of_ble_eq_true rfl, Nat.le_of_ble_eq_true rfl⟩) (z_preCN hN hK hP hD) rfl rfl hl.1 rfl (lv_room (Nat.le_of_ble_eq_true rfl)) dL_law_4 ⟨Nat.le_of_ble_eq_true rfl, Nat.le_of_ble_eq_true rfl⟩) hP hD hS hA (fun u5 H locs hP hD hS => ?_)
  obtain ⟨n, aa, au⟩ := u5
  have hP : va_P D vwCl (((([(x0, .inr (5, [.ref (n 0), .ref (au 1), .ref (au 3), .ref (au 5)]))] ++ lB ac n zI0) ++ ([(au 1, .inr (1, [.ref (au 2), .int 0, .int 0])), (au 2, .inl (ac 3, 6, .inr (.inr (.inr (.inr (fun i => if i < 6 then some (aa i 0) else none))))))] ++ (List.range 6).flatMap (fun i => lB ac (aa i) zI0))) ++ [(au 3, .inr (0, [.ref (au 4), .int 0])), (au 4, .inl (ac 1, 60, .inl (fun _ => 0)))]) ++ [(au 5, .inr (2, [.ref (au 6)])), (au 6, .inl (ac 0, 48, .inl (fun _ => 0)))]) H := hP
  have hD : va_D A (((([(x0, .inr (5, [.ref (n 0), .ref (au 1), .ref (au 3), .ref (au 5)]))] ++ lB ac n zI0) ++ ([(au 1, .inr (1, [.ref (au 2), .int 0, .int 0])), (au 2, .inl (ac 3, 6, .inr (.inr (.inr (.inr (fun i => if i < 6 then some (aa i 0) else none))))))] ++ (List.range 6).flatMap (fun i => lB ac (aa i) zI0))) ++ [(au 3, .inr (0, [.ref (au 4), .int 0])), (au 4, .inl (ac 1, 60, .inl (fun _ => 0)))]) ++ [(au 5, .inr (2, [.ref (au 6)])), (au 6, .inl (ac 0, 48, .inl (fun _ => 0)))]) := hD
  refine lv_astore_n (lv' := [(1, .ref x0), (0, .ref b)]) hx hb dL_law_7 rfl hl (by decide) rfl (fun ls hl => ?_)
  refine lv_bipush (v := 48) hx hb dL_law_8 (by decide) ?_
  refine z_newI hx hb (T 44 (.arrayClass .int) (by decide +kernel)) hK hP hD hS hA (N := 48) rfl (by decide) (Nat.le_of_ble_eq_true rfl) (Nat.le_of_ble_eq_true rfl) dL_law_10 (fun ra H hP hD hS => ?_)
  refine lv_astore_n (lv' := [(2, .ref ra), (1, .ref x0), (0, .ref b)]) hx hb dL_law_12 rfl hl (by decide) rfl (fun ls hl => ?_)
  refine lv_bipush (v := 48) hx hb dL_law_13 (by decide) ?_
  refine z_newI hx hb (T 44 (.arrayClass .int) (by decide +kernel)) hK hP hD hS hA (N := 48) rfl (by decide) (Nat.le_of_ble_eq_true rfl) (Nat.le_of_ble_eq_true rfl) dL_law_15 (fun rb H hP hD hS => ?_)
  refine lv_astore_n (lv' := [(3, .ref rb), (2, .ref ra), (1, .ref x0), (0, .ref b)]) hx hb dL_law_17 rfl hl (by decide) rfl (fun ls hl => ?_)
  refine lv_bipush (v := 48) hx hb dL_law_18 (by decide) ?_
  refine z_newI hx hb (T 44 (.arrayClass .int) (by decide +kernel)) hK hP hD hS hA (N := 48) rfl (by decide) (Nat.le_of_ble_eq_true rfl) (Nat.le_of_ble_eq_true rfl) dL_law_20 (fun rc H hP hD hS => ?_)
  refine lv_astore (lv' := [(4, .ref rc), (3, .ref rb), (2, .ref ra), (1, .ref x0), (0, .ref b)]) hx hb dL_law_22 hl (by decide) rfl (fun ls hl => ?_)
  refine lv_bipush (v := 16) hx hb dL_law_24 (by decide) ?_
  refine z_newI hx hb (T 44 (.arrayClass .int) (by decide +kernel)) hK hP hD hS hA (N := 16) rfl (by decide) (Nat.le_of_ble_eq_true rfl) (Nat.le_of_ble_eq_true rfl) dL_law_26 (fun qe H hP hD hS => ?_)
  refine lv_astore (lv' := [(5, .ref qe), (4, .ref rc), (3, .ref rb), (2, .ref ra), (1, .ref x0), (0, .ref b)]) hx hb dL_law_28 hl (by decide) rfl (fun ls hl => ?_)
  refine lv_iconst (v := 2) hx hb dL_law_30 (by decide) ?_
  refine z_newI hx hb (T 44 (.arrayClass .int) (by decide +kernel)) hK hP hD hS hA (N := 2) rfl (by decide) (Nat.le_of_ble_eq_true rfl) (Nat.le_of_ble_eq_true rfl) dL_law_31 (fun qd H hP hD hS => ?_)
  refine lv_astore (lv' := [(6, .ref qd), (5, .ref qe), (4, .ref rc), (3, .ref rb), (2, .ref ra), (1, .ref x0), (0, .ref b)]) hx hb dL_law_33 hl (by decide) rfl (fun ls hl => ?_)
  obtain ⟨ad, had⟩ : ∃ ad : Nat → Nat, ad = lU [x0, au 1, au 2, au 3, au 4, au 5, au 6, ra, rb, rc, qe, qd] := ⟨_, rfl⟩
  obtain ⟨hP1, hD1⟩ := z_regroup hP hD
  have hP1 : va_P D vwCl (lF ac (lU [x0, au 1, au 2, au 3, au 4, au 5, au 6, ra, rb, rc, qe, qd]) n (fun i => if i < 6 then some (aa i 0) else none) 0 0 (fun _ => 0) (cV zI0) (cW zI0) (qV zI0 0) (qV zI0 1) (qV zI0 2) (cP zI0) (cR zI0) (zI0 160) (zI0 161) (fun _ => 0) (fun _ => 0) (fun _ => 0) (fun _ => 0) (fun _ => 0) ++ (List.range 6).flatMap (fun i => lB ac (aa i) zI0)) H := hP1
  have hD1 : va_D A (lF ac (lU [x0, au 1, au 2, au 3, au 4, au 5, au 6, ra, rb, rc, qe, qd]) n (fun i => if i < 6 then some (aa i 0) else none) 0 0 (fun _ => 0) (cV zI0) (cW zI0) (qV zI0 0) (qV zI0 1) (qV zI0 2) (cP zI0) (cR zI0) (zI0 160) (zI0 161) (fun _ => 0) (fun _ => 0) (fun _ => 0) (fun _ => 0) (fun _ => 0) ++ (List.range 6).flatMap (fun i => lB ac (aa i) zI0)) := hD1
  rw [← had] at hP1 hD1
  clear hP hD
  have hP := hP1
  have hD := hD1
  clear hP1 hD1
  have hl : lv_has ls 11 [(6, .ref (ad 11)), (5, .ref (ad 10)), (4, .ref (ad 9)), (3, .ref (ad 8)), (2, .ref (ad 7)), (1, .ref (ad 0)), (0, .ref b)] := by
    subst had
    exact hl
  clear had
  refine W.widen (k := 103) (n := 1504) (Nat.le_of_ble_eq_true rfl) (Nat.le_of_ble_eq_true rfl) ?_
  exact law_rows C (Nat.le_of_ble_eq_true rfl) (Nat.le_of_ble_eq_true rfl) hP hD hS hl (fun H locs ls hP hD hS hl => law_from C hP hD hS hl (fun H locs ls hS => va_forget (fun q hq => by have h9 := hS.2.2 q hq; rw [hAe] at h9; exact h9) (lw_ret hd0 hx hb hr hlocks dL_law_284)))
