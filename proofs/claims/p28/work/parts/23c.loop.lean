/-! the law's loop -/
section LOOP
variable {p : Program} {l : Launch} {e : Env} {s : State} {m : MethodId} {args : Array Value} {below : List Frame} {meth : Method} {c : Code} {H : Heap} {locs : List Loc} {cells slots : Nat} {Q : State → Prop} {ls : Array Slot}
variable {D : va_G} {ac : Nat → ClassId} {A : Nat → Prop} {b L tl tg k : Nat} {xs : Nat → Int32} {ad n : Nat → Nat} {hf : Nat → Option Nat} {aa : Nat → Nat → Nat}
abbrev lv0 (b : Nat) (ad : Nat → Nat) (k : Nat) : List (Nat × Value) := [(0, .ref b), (1, .ref (ad 0)), (2, .ref (ad 7)), (3, .ref (ad 8)), (4, .ref (ad 9)), (5, .ref (ad 10)), (6, .ref (ad 11)), (7, .int (nI k))]
set_option maxRecDepth 100000 in
set_option maxHeartbeats 4000000 in
theorem law_turn (C : lCx p l s m args c b L xs D ac A tl tg) (hhf : ∀ q, q < 6 → hf q = some (aa q 0)) (hk18 : k < 18) (hf1 : cells + 4 ≤ room_1.cells) (hf2 : slots + 192 ≤ room_1.slots) (hV : lV D ac A ad n hf aa k s.heap H locs) (hl : lv_has ls 11 (lv0 b ad k)) (kk : ∀ (H : Heap) (locs : List Loc) (ls : Array Slot), lV D ac A ad n hf aa (k + 1) s.heap H locs → lv_has ls 11 (lv0 b ad (k + 1)) → W p l e room_1 s m args below meth c H locs (cells + 4) (slots + 192) Q (F0 m 109 ls [])) : W p l e room_1 s m args below meth c H locs cells slots Q (F0 m 116 ls []) := by
  have hfc : cells ≤ room_1.cells ∧ slots ≤ room_1.slots := ⟨by omega, by omega⟩
  have hx := C.1.1
  have hb := C.1.2.1
  have hml := C.1.2.2.1
  have hown := C.1.2.2.2.1
  have hts := C.1.2.2.2.2
  have hK := C.2.1
  refine lv_aload_n hx hb dL_law_116 rfl (lv_at hl 0 rfl) ?_
  refine lv_iconst (v := 2) hx hb dL_law_117 (by decide) ?_
  refine lv_iload hx hb dL_law_118 (lv_at hl 7 rfl) ?_
  refine lv_imul hx hb dL_law_120 ?_
  refine z_top (y := nI (2 * k)) (pk_mul 2 k) ?_
  refine lg_cell C hl.1 (lV_S hV) (k := 2 * k) (by omega) dL_law_121 hfc ?_
  refine lv_ldc (own := RL) hx hb hown (hts (.constant RL 124 (2147483647)) (by decide +kernel)) dL_law_124 ?_
  refine lv_iand hx hb dL_law_126 ?_
  obtain ⟨x1, hx1, ex1⟩ := pk_andE (lCl L xs (2 * k)) (m := 2147483647) 31 (by decide)
  rw [ex1]
  refine lv_istore (lv' := [(8, .int (nI x1)), (0, .ref b), (1, .ref (ad 0)), (2, .ref (ad 7)), (3, .ref (ad 8)), (4, .ref (ad 9)), (5, .ref (ad 10)), (6, .ref (ad 11)), (7, .int (nI k))]) hx hb dL_law_127 hl (by decide) rfl (fun ls hl => ?_)
  refine lv_aload_n hx hb dL_law_129 rfl (lv_at hl 1 rfl) ?_
  refine lv_iconst (v := 2) hx hb dL_law_130 (by decide) ?_
  refine lv_iload hx hb dL_law_131 (lv_at hl 8 rfl) ?_
  refine lv_imul hx hb dL_law_133 ?_
  refine z_top (y := nI (2 * k)) (pk_mul 2 k) ?_
  refine lv_iconst (v := 1) hx hb dL_law_134 (by decide) ?_
  refine lv_iadd hx hb dL_law_135 ?_
  refine z_top (y := nI (2 * k + 1)) (nI_add (2 * k) 1) ?_
  refine lg_cell C hl.1 (lV_S hV) (k := 2 * k + 1) (by omega) dL_law_136 hfc ?_
  refine lv_ldc (own := RL) hx hb hown (hts (.constant RL 124 (2147483647)) (by decide +kernel)) dL_law_139 ?_
  refine lv_iand hx hb dL_law_141 ?_
  obtain ⟨yv, hyv, eyv⟩ := pk_andE (lCl L xs (2 * k + 1)) (m := 2147483647) 31 (by decide)
  rw [eyv]
  refine lv_istore (lv' := [(9, .int (nI yv)), (8, .int (nI x1)), (0, .ref b), (1, .ref (ad 0)), (2, .ref (ad 7)), (3, .ref (ad 8)), (4, .ref (ad 9)), (5, .ref (ad 10)), (6, .ref (ad 11)), (7, .int (nI k))]) hx hb dL_law_142 hl (by decide) rfl (fun ls hl => ?_)
  have hJ : ∀ q9, (k < 4 → q9 = 0) → q9 < 15 → W p l e room_1 s m args below meth c H locs cells slots Q (F0 m 165 ls [.int (nI q9), .ref (ad 0)]) := by
    intro q9 hq4 hq15
    refine lv_iload hx hb dL_law_165 (lv_at hl 1 rfl) ?_
    refine lv_iload hx hb dL_law_167 (lv_at hl 0 rfl) ?_
    refine lv_aload_n hx hb dL_law_169 rfl (lv_at hl 4 rfl) ?_
    refine lv_aload_n hx hb dL_law_170 rfl (lv_at hl 5 rfl) ?_
    refine lv_aload hx hb dL_law_171 (lv_at hl 6 rfl) ?_
    refine lv_aload hx hb dL_law_173 (lv_at hl 7 rfl) ?_
    refine lv_aload hx hb dL_law_175 (lv_at hl 8 rfl) ?_
    refine law_act C hl.1 hfc hhf hV hk18 (by omega) (by omega) hq4 hq15 (fun H locs hV => ?_)
    refine lv_if_eq (tgt := 202) hx hb dL_law_180 (by decide) (fun c_ => absurd c_ (by decide)) (fun _ => ?_)
    refine lv_aload_n hx hb dL_law_183 rfl (lv_at hl 3 rfl) ?_
    refine lv_iload hx hb dL_law_184 (lv_at hl 0 rfl) ?_
    refine lv_iconst (v := 2) hx hb dL_law_186 (by decide) ?_
    refine lv_ishr hx hb dL_law_187 ?_
    refine z_top (y := nI (yv / 4)) (pk_shrN (n := yv) (by omega) ((2 : Int32) &&& 31) 2 (by decide)) ?_
    refine lv_aload_n hx hb dL_law_188 rfl (lv_at hl 4 rfl) ?_
    refine lv_aload_n hx hb dL_law_189 rfl (lv_at hl 5 rfl) ?_
    refine lv_aload hx hb dL_law_190 (lv_at hl 6 rfl) ?_
    refine lv_aload hx hb dL_law_192 (lv_at hl 7 rfl) ?_
    refine lv_aload hx hb dL_law_194 (lv_at hl 8 rfl) ?_
    obtain ⟨z, gs, Z, od, sz, r, hG, hcons, h160, h0, h1, hod, hsz, hr, hP, hD, hS⟩ := hV
    refine law_told C hl.1 ⟨by omega, by omega⟩ hG hcons hP hD hS (by omega) dL_law_196 (fun H locs hP hD hS => ?_)
    have hV : lV D ac A ad n hf aa (k + 1) s.heap H locs := ⟨z, gs, Z, od, sz, r, hG, hcons, h160, h0, h1, hod, hsz, hr, hP, hD, hS⟩
    refine lv_if_ne (tgt := 204) hx hb dL_law_199 (by decide) (fun _ => ?_) (fun c_ => absurd c_ (by decide))
    refine lv_iload hx hb dL_law_204 (lv_at hl 0 rfl) ?_
    refine lv_iconst (v := 4) hx hb dL_law_206 (by decide) ?_
    refine lv_ishr hx hb dL_law_207 ?_
    refine z_top (y := nI (yv / 16)) (pk_shrN (n := yv) (by omega) ((4 : Int32) &&& 31) 4 (by decide)) ?_
    refine lv_iconst (v := 3) hx hb dL_law_208 (by decide) ?_
    have hP0 : va_P D vwCl [] H := fun k q h => by simp at h
    refine z_ci (z_srun (w := []) (rest := []) (own := RL) (As := [.int (nI (yv / 16)), .int (nI 3)]) hx hb hml hown hts hl.1 hK hP0 [] rfl (metL_at l D ac (yv / 16) 3 (by omega) (by decide)) gL_law_L_at rfl 2 (by decide +kernel) ⟨rfl, rfl, Nat.le_of_ble_eq_true rfl, Nat.le_of_ble_eq_true rfl⟩ rfl rfl (Nat.le_of_ble_eq_true rfl) dL_law_209 ⟨by omega, by omega⟩) ?_
    obtain ⟨jq, hjq, hjq3⟩ : ∃ jq, yv / 16 / 2 % 3 = jq ∧ jq < 3 := ⟨_, rfl, by omega⟩
    rw [hjq]
    refine lv_istore (lv' := [(10, .int (nI jq)), (9, .int (nI yv)), (8, .int (nI x1)), (0, .ref b), (1, .ref (ad 0)), (2, .ref (ad 7)), (3, .ref (ad 8)), (4, .ref (ad 9)), (5, .ref (ad 10)), (6, .ref (ad 11)), (7, .int (nI k))]) hx hb dL_law_212 hl (by decide) rfl (fun ls hl => ?_)
    have hE : ∀ (H : Heap) (locs : List Loc), lV D ac A ad n hf aa (k + 1) s.heap H locs → W p l e room_1 s m args below meth c H locs (cells + 4) (slots + 192) Q (F0 m 265 ls []) := by
      intro H locs hV
      refine lv_iinc (v := nI (k + 1)) (lv' := [(7, .int (nI (k + 1))), (10, .int (nI jq)), (9, .int (nI yv)), (8, .int (nI x1)), (0, .ref b), (1, .ref (ad 0)), (2, .ref (ad 7)), (3, .ref (ad 8)), (4, .ref (ad 9)), (5, .ref (ad 10)), (6, .ref (ad 11))]) hx hb dL_law_265 hl (k := 10) rfl (show nI k + Int32.ofInt 1 = _ from nI_add k 1) (by decide) rfl (fun ls hl => ?_)
      refine lv_goto (tgt := 109) hx hb dL_law_268 (by decide) ?_
      exact kk H locs ls hV (lv_sub hl [4, 5, 6, 7, 8, 9, 10, 0] rfl)
    refine lv_iload hx hb dL_law_214 (lv_at hl 10 rfl) ?_
    refine lv_bipush (v := 6) hx hb dL_law_216 (by decide) ?_
    refine lv_irem hx hb dL_law_218 (by decide) ?_
    refine z_top (y := nI (k % 6)) (pk_rem (a := k) (d := 6) (by omega) (by omega) (by omega)) ?_
    refine lv_iconst (v := 5) hx hb dL_law_219 (by decide) ?_
    refine z_icmp_ne (tgt := 265) hx hb (k % 6) 5 dL_law_220 (by decide) (by omega) (by omega) rfl rfl (fun c_220 => ?_) (fun c_220 => ?_)
    · refine W.widen (k := cells + 4) (n := slots + 192) (by omega) (by omega) ?_
      exact hE H locs hV
    refine lv_aload_n hx hb dL_law_223 rfl (lv_at hl 4 rfl) ?_
    refine lv_iload hx hb dL_law_224 (lv_at hl 0 rfl) ?_
    refine lv_iload hx hb dL_law_226 (lv_at hl 1 rfl) ?_
    refine lv_iconst (v := 2) hx hb dL_law_228 (by decide) ?_
    refine lv_ishr hx hb dL_law_229 ?_
    refine z_top (y := nI (yv / 4)) (pk_shrN (n := yv) (by omega) ((2 : Int32) &&& 31) 2 (by decide)) ?_
    refine lv_iload hx hb dL_law_230 (lv_at hl 2 rfl) ?_
    refine lv_iconst (v := 2) hx hb dL_law_232 (by decide) ?_
    refine lv_ishr hx hb dL_law_233 ?_
    refine z_top (y := nI (x1 / 4)) (pk_shrN (n := x1) (by omega) ((2 : Int32) &&& 31) 2 (by decide)) ?_
    have hA : ∀ j, j < 3 → True := fun _ _ => trivial
    refine lv_iload hx hb dL_law_234 (lv_at hl 0 rfl) ?_
    obtain rfl | rfl | rfl := z_cases3 hjq3
    · refine lv_if_ne (tgt := 243) hx hb dL_law_236 (by decide) (fun c_ => absurd (by decide) c_) (fun _ => ?_)
      refine lv_aload_n hx hb dL_law_239 rfl (lv_at hl 5 rfl) ?_
      refine lv_goto (tgt := 255) hx hb dL_law_240 (by decide) ?_
      refine lv_aload hx hb dL_law_255 (lv_at hl 8 rfl) ?_
      refine law_ahead0 C hl.1 (cells := cells + 3) (slots := slots + 144) (x1 := yv / 4) (yv := x1 / 4) ⟨by omega, by omega⟩ hV (by omega) (by omega) (fun H locs hV => ?_)
      refine lv_if_ne (tgt := 265) hx hb dL_law_260 (by decide) (fun _ => ?_) (fun c_ => absurd c_ (by decide))
      exact hE H locs hV
    · refine lv_if_ne (tgt := 243) hx hb dL_law_236 (by decide) (fun _ => ?_) (fun c_ => absurd c_ (by decide))
      refine lv_iload hx hb dL_law_243 (lv_at hl 0 rfl) ?_
      refine lv_iconst (v := 1) hx hb dL_law_245 (by decide) ?_
      refine z_icmp_ne (tgt := 253) hx hb 1 1 dL_law_246 (by decide) (by decide) (by decide) rfl rfl (fun c_ => absurd rfl c_) (fun _ => ?_)
      refine lv_aload_n hx hb dL_law_249 rfl (lv_at hl 6 rfl) ?_
      refine lv_goto (tgt := 255) hx hb dL_law_250 (by decide) ?_
      refine lv_aload hx hb dL_law_255 (lv_at hl 8 rfl) ?_
      refine law_ahead1 C hl.1 (cells := cells + 3) (slots := slots + 144) (x1 := yv / 4) (yv := x1 / 4) ⟨by omega, by omega⟩ hV (by omega) (by omega) (fun H locs hV => ?_)
      refine lv_if_ne (tgt := 265) hx hb dL_law_260 (by decide) (fun _ => ?_) (fun c_ => absurd c_ (by decide))
      exact hE H locs hV
    · refine lv_if_ne (tgt := 243) hx hb dL_law_236 (by decide) (fun _ => ?_) (fun c_ => absurd c_ (by decide))
      refine lv_iload hx hb dL_law_243 (lv_at hl 0 rfl) ?_
      refine lv_iconst (v := 1) hx hb dL_law_245 (by decide) ?_
      refine z_icmp_ne (tgt := 253) hx hb 2 1 dL_law_246 (by decide) (by decide) (by decide) rfl rfl (fun _ => ?_) (fun c_ => absurd c_ (by decide))
      refine lv_aload hx hb dL_law_253 (lv_at hl 7 rfl) ?_
      refine lv_aload hx hb dL_law_255 (lv_at hl 8 rfl) ?_
      refine law_ahead2 C hl.1 (cells := cells + 3) (slots := slots + 144) (x1 := yv / 4) (yv := x1 / 4) ⟨by omega, by omega⟩ hV (by omega) (by omega) (fun H locs hV => ?_)
      refine lv_if_ne (tgt := 265) hx hb dL_law_260 (by decide) (fun _ => ?_) (fun c_ => absurd c_ (by decide))
      exact hE H locs hV
  refine lv_aload_n hx hb dL_law_144 rfl (lv_at hl 3 rfl) ?_
  refine lv_iload hx hb dL_law_145 (lv_at hl 9 rfl) ?_
  refine lv_iconst (v := 4) hx hb dL_law_147 (by decide) ?_
  refine z_icmp_ge (tgt := 155) hx hb k 4 dL_law_148 (by decide) (by omega) (by omega) rfl rfl (fun c_148 => ?_) (fun c_148 => ?_)
  · refine lv_iload hx hb dL_law_155 (lv_at hl 1 rfl) ?_
    refine lv_bipush (v := 13) hx hb dL_law_157 (by decide) ?_
    refine lv_ishr hx hb dL_law_159 ?_
    refine z_top (y := nI (x1 / 8192)) (pk_shrN (n := x1) (by omega) ((13 : Int32) &&& 31) 13 (by decide)) ?_
    refine lv_bipush (v := 15) hx hb dL_law_160 (by decide) ?_
    have hP0 : va_P D vwCl [] H := fun k q h => by simp at h
    refine z_ci (z_srun (w := []) (rest := [.ref (ad 0)]) (own := RL) (As := [.int (nI (x1 / 8192)), .int (nI 15)]) hx hb hml hown hts hl.1 hK hP0 [] rfl (metL_at l D ac (x1 / 8192) 15 (by omega) (by decide)) gL_law_L_at rfl 2 (by decide +kernel) ⟨rfl, rfl, Nat.le_of_ble_eq_true rfl, Nat.le_of_ble_eq_true rfl⟩ rfl rfl (Nat.le_of_ble_eq_true rfl) dL_law_162 hfc) ?_
    exact hJ _ (fun h => absurd h (by omega)) (Nat.mod_lt _ (by decide))
  · refine lv_iconst (v := nI 0) hx hb dL_law_151 (by decide) ?_
    refine lv_goto (tgt := 165) hx hb dL_law_152 (by decide) ?_
    exact hJ 0 (fun _ => rfl) (by decide)
set_option maxRecDepth 100000 in
set_option maxHeartbeats 1000000 in
theorem law_loop (C : lCx p l s m args c b L xs D ac A tl tg) (hhf : ∀ q, q < 6 → hf q = some (aa q 0)) {K0 S0 : Nat} (hK0 : K0 + 100 ≤ room_1.cells) (hS0 : S0 + 4000 ≤ room_1.slots)
    (hend : ∀ (H : Heap) (locs : List Loc) (ls : Array Slot), va_S A s.heap H locs → W p l e room_1 s m args below meth c H locs room_1.cells room_1.slots Q (F0 m 284 ls [.int 1])) :
    ∀ (nn k : Nat), k + nn = 18 → ∀ (H : Heap) (locs : List Loc) (ls : Array Slot), lV D ac A ad n hf aa k s.heap H locs → lv_has ls 11 (lv0 b ad k) → W p l e room_1 s m args below meth c H locs (K0 + 4 * k) (S0 + 192 * k) Q (F0 m 109 ls []) := by
  have hx := C.1.1
  have hb := C.1.2.1
  intro nn
  induction nn with
  | zero =>
    intro k hk H locs ls hV hl
    refine lv_iload hx hb dL_law_109 (lv_at hl 7 rfl) ?_
    refine lv_bipush (v := 18) hx hb dL_law_111 (by decide) ?_
    refine z_icmp_ge (tgt := 271) hx hb k 18 dL_law_113 (by decide) (by omega) (by omega) rfl rfl (fun c_113 => ?_) (fun c_113 => absurd c_113 (by omega))
    refine lv_aload_n hx hb dL_law_271 rfl (lv_at hl 1 rfl) ?_
    refine lv_iconst (v := nI 5) hx hb dL_law_272 (by decide) ?_
    obtain ⟨z, gs, Z, od, sz, r, hG, hcons, h160, h0, h1, hod, hsz, hr, hP, hD, hS⟩ := hV
    have hz1 := h1 (by omega)
    refine law_count C hl.1 ⟨by omega, by omega⟩ hP dL_law_273 ?_
    refine lv_if_le (tgt := 283) hx hb dL_law_276 (by decide) (fun c_ => absurd c_ ?_) (fun _ => ?_)
    · rw [Int32.le_iff_toInt_le, nI_toInt (by omega), show (0 : Int32).toInt = 0 by decide]
      omega
    refine lv_iconst (v := 1) hx hb dL_law_279 (by decide) ?_
    refine lv_goto (tgt := 284) hx hb dL_law_280 (by decide) ?_
    refine W.widen (k := room_1.cells) (n := room_1.slots) (by omega) (by omega) ?_
    exact hend H locs ls hS
  | succ nn ih =>
    intro k hk H locs ls hV hl
    refine lv_iload hx hb dL_law_109 (lv_at hl 7 rfl) ?_
    refine lv_bipush (v := 18) hx hb dL_law_111 (by decide) ?_
    refine z_icmp_ge (tgt := 271) hx hb k 18 dL_law_113 (by decide) (by omega) (by omega) rfl rfl (fun c_113 => absurd c_113 (by omega)) (fun c_113 => ?_)
    refine law_turn C hhf (by omega) (by omega) (by omega) hV hl (fun H locs ls hV hl => ?_)
    refine W.widen (k := K0 + 4 * (k + 1)) (n := S0 + 192 * (k + 1)) (by omega) (by omega) ?_
    exact ih (k + 1) (by omega) H locs ls hV hl
end LOOP
