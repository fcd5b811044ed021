/-! the end of each case: what was thrown, and the answer -/
section ZT9
variable {p : Program} {l : Launch} {e : Env} {s : State} {m : MethodId} {args : Array Value} {below : List Frame} {meth : Method} {c : Code} {H : Heap} {locs : List Loc} {cells slots : Nat} {Q : State → Prop}
variable {pc tgt : Nat} {off : Int} {ls : Array Slot} {rest : List Value} {D : va_G} {ac : Nat → ClassId} {A : Nat → Prop} {b L tl tg i : Nat} {xs : Nat → Int32} {wr : va_W}
variable {ad n : Nat → Nat} {hf : Nat → Option Nat} {od sz ln : Nat} {tx gs v w ga gb gc pd dr : Nat → Int32} {tp fl : Int32} {of : Nat → Int64} {og : Nat → UInt64} {th : Int32} {sv lm stp po : Nat} {t9 : Int32} {hh : Int64} {z sd tm az rd : Nat → Int32}
theorem lg_thr (C : lCx p l s m args c b L xs D ac A tl tg) (hls : ls.size = 9) (hf9 : cells ≤ room_1.cells ∧ slots ≤ room_1.slots) (hP : va_P D vwCl (lF ac ad n hf od sz ln tx gs v w ga gb gc pd dr tp fl of og th sv lm stp po t9 hh z sd tm az rd ++ wr) H) (h2 : ls[2]? = some (.val (.ref (ad 9))))
    (d0 : decode code pc = .ok (.aload_n 2, 1)) (d1 : decode code (pc + 1) = .ok (.invokevirtual 97, 3)) (kk : W p l e room_1 s m args below meth c H locs cells slots Q (F0 m (pc + 4) ls [.int th])) : W p l e room_1 s m args below meth c H locs cells slots Q (F0 m pc ls []) := by
  obtain ⟨⟨hx, hb, hml, hown, hts⟩, hK, -⟩ := C
  refine lv_aload_n hx hb d0 rfl h2 ?_
  exact z_ci (z_vrun (rest := []) (own := RL) (As := []) hx hb hml hown hts hls hK hP [22, 23] rfl (metX6_thrown l D ac (ad 9) (ad 10) (ad 11) (ad 12) (ad 13) (ad 14) th sv lm stp po t9 hh z) gL_law_X6_thrown rfl 0 (by decide +kernel) ⟨rfl, rfl, Nat.le_of_ble_eq_true rfl, Nat.le_of_ble_eq_true rfl⟩ 22 6 rfl rfl rfl rfl rfl (Nat.zero_le _) d1 hf9) kk
/-- the call returned, and both answered the same -/
theorem lg_t0 (C : lCx p l s m args c b L xs D ac A tl tg) (hf9 : cells ≤ room_1.cells ∧ slots ≤ room_1.slots) {Xc X : Int32} (hX : Xc = X) (hP : va_P D vwCl (lF ac ad n hf od sz ln tx gs v w ga gb gc pd dr tp fl (updL of 0 Xc.toInt64) og 0 sv lm stp po t9 hh z sd tm az rd ++ wr) H)
    (hl : lv_has ls 9 ((7, .int X) :: (6, .int 0) :: lv0 b ad i))
    (d0 : decode code pc = .ok (.aload_n 2, 1)) (d1 : decode code (pc + 1) = .ok (.invokevirtual 97, 3)) (d4 : decode code (pc + 4) = .ok (.iload 6, 2)) (d6 : decode code (pc + 6) = .ok (.if_icmp .eq 5, 3)) (d11 : decode code (pc + 11) = .ok (.iload 6, 2)) (d13 : decode code (pc + 13) = .ok (.ifCond .ne 15, 3)) (d16 : decode code (pc + 16) = .ok (.aload_n 3, 1)) (d17 : decode code (pc + 17) = .ok (.iconst 0, 1)) (d18 : decode code (pc + 18) = .ok (.laload, 1)) (d19 : decode code (pc + 19) = .ok (.iload 7, 2)) (d21 : decode code (pc + 21) = .ok (.i2l, 1)) (d22 : decode code (pc + 22) = .ok (.lcmp, 1)) (d23 : decode code (pc + 23) = .ok (.ifCond .eq 5, 3)) (d28 : decode code (pc + 28) = .ok (.goto off, 3)) (ht : ((pc + 28 : Nat) : Int) + off = (tgt : Int))
    (kk : W p l e room_1 s m args below meth c H locs cells slots Q (F0 m tgt ls [])) : W p l e room_1 s m args below meth c H locs cells slots Q (F0 m pc ls []) := by
  subst hX
  refine lg_thr C hl.1 hf9 hP (lv_at hl 4 rfl) d0 d1 ?_
  obtain ⟨⟨hx, hb, hml, hown, hts⟩, hK, -⟩ := C
  refine lv_iload hx hb d4 (lv_at hl 1 rfl) ?_
  refine lv_icmp_eq (tgt := pc + 11) hx hb d6 (by omega) (fun _ => ?_) (fun h => absurd rfl h)
  refine lv_iload hx hb d11 (lv_at hl 1 rfl) ?_
  refine lv_if_ne (tgt := pc + 28) hx hb d13 (by omega) (fun h => absurd rfl h) (fun _ => ?_)
  refine lv_aload_n hx hb d16 rfl (lv_at hl 5 rfl) ?_
  refine lv_iconst (v := nI 0) hx hb d17 (by decide) ?_
  refine va_lald hx hb hK hP 20 4 rfl rfl (vp_in_nI (by decide) (by decide)) d18 ?_
  refine lv_iload hx hb d19 (lv_at hl 0 rfl) ?_
  refine lv_i2l hx hb d21 rfl ?_
  have e0 : (nI 0).toNatClampNeg = 0 := by decide
  have e1 : updL of 0 Xc.toInt64 (nI 0).toNatClampNeg = Xc.toInt64 := by rw [e0]; exact if_pos rfl
  rw [e1]
  refine W.lcmp hx hb d22 ?_
  have e2 : lg_cmp Xc.toInt64 Xc.toInt64 = 0 := by
    unfold lg_cmp
    rw [if_neg (fun h => Int64.lt_irrefl h), if_pos rfl]
  rw [e2]
  refine lv_if_eq (tgt := pc + 28) hx hb d23 (by omega) (fun _ => ?_) (fun h => absurd rfl h)
  exact lv_goto hx hb d28 ht kk
/-- the call threw, and the reference says so -/
theorem lg_tk (C : lCx p l s m args c b L xs D ac A tl tg) (hf9 : cells ≤ room_1.cells ∧ slots ≤ room_1.slots) {X k : Int32} (hk : ¬ k = 0) (hP : va_P D vwCl (lF ac ad n hf od sz ln tx gs v w ga gb gc pd dr tp fl of og k sv lm stp po t9 hh z sd tm az rd ++ wr) H)
    (hl : lv_has ls 9 ((7, .int X) :: (6, .int k) :: lv0 b ad i))
    (d0 : decode code pc = .ok (.aload_n 2, 1)) (d1 : decode code (pc + 1) = .ok (.invokevirtual 97, 3)) (d4 : decode code (pc + 4) = .ok (.iload 6, 2)) (d6 : decode code (pc + 6) = .ok (.if_icmp .eq 5, 3)) (d11 : decode code (pc + 11) = .ok (.iload 6, 2)) (d13 : decode code (pc + 13) = .ok (.ifCond .ne 15, 3)) (d28 : decode code (pc + 28) = .ok (.goto off, 3)) (ht : ((pc + 28 : Nat) : Int) + off = (tgt : Int))
    (kk : W p l e room_1 s m args below meth c H locs cells slots Q (F0 m tgt ls [])) : W p l e room_1 s m args below meth c H locs cells slots Q (F0 m pc ls []) := by
  refine lg_thr C hl.1 hf9 hP (lv_at hl 4 rfl) d0 d1 ?_
  obtain ⟨⟨hx, hb, hml, hown, hts⟩, hK, -⟩ := C
  refine lv_iload hx hb d4 (lv_at hl 1 rfl) ?_
  refine lv_icmp_eq (tgt := pc + 11) hx hb d6 (by omega) (fun _ => ?_) (fun h => absurd rfl h)
  refine lv_iload hx hb d11 (lv_at hl 1 rfl) ?_
  refine lv_if_ne (tgt := pc + 28) hx hb d13 (by omega) (fun _ => ?_) (fun h => absurd h hk)
  exact lv_goto hx hb d28 ht kk
end ZT9
