section LC
variable {p : Program} {l : Launch} {e : Env} {s : State} {m : MethodId} {args : Array Value} {below : List Frame} {meth : Method} {c : Code} {H : Heap} {locs : List Loc} {cells slots : Nat} {Q : State → Prop} {ls : Array Slot}
variable {D : va_G} {ac : Nat → ClassId} {A : Nat → Prop} {b L tl tg i : Nat} {xs : Nat → Int32} {ad n : Nat → Nat} {hf : Nat → Option Nat} {aa : Nat → Nat → Nat} {z sd tx : Nat → Int32} {Z : Nat → Nat → Int32} {od sv ln r : Nat}
set_option maxRecDepth 100000 in
set_option maxHeartbeats 4000000 in
theorem lc_set_0 (C : lCx p l s m args c b L xs D ac A tl tg) (hi : i + 5 ≤ L) (hfc : cells + 1 ≤ room_1.cells ∧ slots + 6 ≤ room_1.slots) (hhf : ∀ q, q < 6 → hf q = some (aa q 0)) (hG : mGood z) (hGZ : ∀ i, i < 6 → mGood (Z i)) (hR : zRing sd Z od sv) (hod : od < 6) (hsv : sv ≤ 6) (hln : ln ≤ 60) (hr : r < 6) (hI : lI D ac A ad n hf s.heap (lB ac (aa r) (Z r) ++ lR ac aa Z r) od sv ln z sd tx H locs) (hl : lv_has ls 9 (lv0 b ad i)) (kk : ∀ (H : Heap) (locs : List Loc) (ls : Array Slot), lV D ac A ad n hf aa s.heap H locs → lv_has ls 9 (lv0 b ad i) → W p l e room_1 s m args below meth c H locs (cells + 1) (slots + 6) Q (F0 m 1693 ls [])) (hr0 : r = ((od + sv) % 6)) (k1 : Nat) (e1 : xs (i + 1) = nI k1) (hk : k1 < 4) (h2 : qLo k1 ≤ (xs (i + 2)) ∧ (xs (i + 2)) ≤ qUp k1) : W p l e room_1 s m args below meth c H locs cells slots Q (F0 m 160 ls []) := by
  subst hr0
  obtain ⟨gs, az, rd, of, og, th, t9, stp, po, hh, hP, hD, hS⟩ := hI
  have hx := C.1.1
  have hb := C.1.2.1
  rw [← List.append_assoc] at hP hD
  refine lv_aload_n hx hb dL_law_160 rfl (lv_at hl 1 rfl) ?_
  refine lg_arg C hS 1 hi (by decide) (lv_at hl 0 rfl) (lv_at hl 5 rfl) e1 (by decide) dL_law_161 dL_law_162 dL_law_164 dL_law_165 dL_law_166 ?_
  refine lg_arg C hS 2 hi (by decide) (lv_at hl 0 rfl) (lv_at hl 5 rfl) rfl (by decide) dL_law_167 dL_law_168 dL_law_170 dL_law_171 dL_law_172 ?_
  refine lv_aload_n hx hb dL_law_173 rfl (lv_at hl 3 rfl) ?_
  refine lg_hE C hl.1 (F := (lF ac ad n hf od sv ln tx gs (cV z) (cW z) (qV z 0) (qV z 1) (qV z 2) (cP z) (cR z) (z 160) (z 161) of og th sv ln stp po t9 hh z sd tx az rd) ++ (lA ac (aa ((od + sv) % 6)) (cV (Z ((od + sv) % 6))) (cW (Z ((od + sv) % 6))) (qV (Z ((od + sv) % 6)) 0) (qV (Z ((od + sv) % 6)) 1) (qV (Z ((od + sv) % 6)) 2) (cP (Z ((od + sv) % 6))) (cR (Z ((od + sv) % 6))) ((Z ((od + sv) % 6)) 160) ((Z ((od + sv) % 6)) 161))) (F2 := (lF ac ad n hf (kOd od sv) (kSz sv) ln tx gs (upd (cV z) k1 (xs (i + 2))) (cW z) (qV z 0) (qV z 1) (qV z 2) (cP z) (cR z) (z 160) (z 161) (updL of 0 (((cV z) k1).toInt64)) og th sv ln stp po t9 hh z sd tx az rd) ++ (lA ac (aa ((od + sv) % 6)) ((cV z)) ((cW z)) ((qV z 0)) ((qV z 1)) ((qV z 2)) ((cP z)) ((cR z)) ((z 160)) ((z 161)))) hP hD hS (hlpL_set_0 l D ac _ tl tg (ad 0) (n 0) (ad 1) (ad 3) (ad 5) (ad 2) hf od sv (aa ((od + sv) % 6) 0) (aa ((od + sv) % 6) 1) (aa ((od + sv) % 6) 2) (aa ((od + sv) % 6) 3) (aa ((od + sv) % 6) 4) (aa ((od + sv) % 6) 5) (aa ((od + sv) % 6) 6) (aa ((od + sv) % 6) 7) (aa ((od + sv) % 6) 8) (aa ((od + sv) % 6) 9) (aa ((od + sv) % 6) 10) (aa ((od + sv) % 6) 11) (aa ((od + sv) % 6) 12) (cV (Z ((od + sv) % 6))) (cW (Z ((od + sv) % 6))) (qV (Z ((od + sv) % 6)) 0) (qV (Z ((od + sv) % 6)) 1) (qV (Z ((od + sv) % 6)) 2) (cP (Z ((od + sv) % 6))) (cR (Z ((od + sv) % 6))) ((Z ((od + sv) % 6)) 160) ((Z ((od + sv) % 6)) 161) (n 1) (n 2) (n 3) (n 4) (n 5) (n 6) (n 7) (n 8) (n 9) (n 10) (n 11) (n 12) (cV z) (cW z) (qV z 0) (qV z 1) (qV z 2) (cP z) (cR z) (z 160) (z 161) k1 (xs (i + 2)) (ad 7) of hk h2 (hhf _ (Nat.mod_lt _ (by decide))) hod hsv) [0, 1, 2, 28, 29, 30, 31, 32, 33, 34, 35, 36, 37, 38, 39, 40, 7, 8, 9, 10, 11, 12, 13, 14, 15, 16, 17, 18, 19, 20] rfl (by decide) gL_law_L_set rfl 4 (by decide +kernel) ⟨rfl, rfl, Nat.le_of_ble_eq_true rfl, Nat.le_of_ble_eq_true rfl⟩ rfl rfl dL_law_174 ⟨Nat.le_of_succ_le hfc.1, Nat.le_trans (Nat.le_add_right slots 6) hfc.2⟩ rfl rfl (fun H locs hP hD hS => ?_)
  rw [k_sz hsv] at hP hD
  refine lv_istore (lv' := (6, .int 0) :: lv0 b ad i) hx hb dL_law_177 hl (by decide) rfl (fun ls hl => ?_)
  refine lv_aload_n hx hb dL_law_179 rfl (lv_at hl 3 rfl) ?_
  refine lg_arg C hS 1 hi (by decide) (lv_at hl 1 rfl) (lv_at hl 6 rfl) e1 (by decide) dL_law_180 dL_law_181 dL_law_183 dL_law_184 dL_law_185 ?_
  refine lg_arg C hS 2 hi (by decide) (lv_at hl 1 rfl) (lv_at hl 6 rfl) rfl (by decide) dL_law_186 dL_law_187 dL_law_189 dL_law_190 dL_law_191 ?_
  refine lg_mi C hl.1 (rest := []) (F := (lF ac ad n hf (kOd od sv) (mSv sv + 1) ln tx gs (upd (cV z) k1 (xs (i + 2))) (cW z) (qV z 0) (qV z 1) (qV z 2) (cP z) (cR z) (z 160) (z 161) (updL of 0 (((cV z) k1).toInt64)) og th sv ln stp po t9 hh z sd tx az rd) ++ (lA ac (aa ((od + sv) % 6)) ((cV z)) ((cW z)) ((qV z 0)) ((qV z 1)) ((qV z 2)) ((cP z)) ((cR z)) ((z 160)) ((z 161)))) (F2 := (lF ac ad n hf (kOd od sv) (mSv sv + 1) ln tx gs (upd (cV z) k1 (xs (i + 2))) (cW z) (qV z 0) (qV z 1) (qV z 2) (cP z) (cR z) (z 160) (z 161) (updL of 0 (((cV z) k1).toInt64)) og 0 (mSv sv + 1) ln stp po t9 hh (upd z (144 + k1) (xs (i + 2))) (mSave sd z sv) tx az rd) ++ (lA ac (aa ((od + sv) % 6)) ((cV z)) ((cW z)) ((qV z 0)) ((qV z 1)) ((qV z 2)) ((cP z)) ((cR z)) ((z 160)) ((z 161)))) hP hD hS (metX6_set_0 l D ac _ (ad 9) (ad 10) (ad 11) (ad 12) (ad 13) (ad 14) th sv ln stp po t9 hh z sd tx az rd k1 (xs (i + 2)) hk h2 hsv) [22, 23, 24, 25, 26, 27] rfl (by decide) gL_law_X6_set rfl 2 (by decide +kernel) ⟨rfl, rfl, Nat.le_of_ble_eq_true rfl, Nat.le_of_ble_eq_true rfl⟩ 22 6 rfl rfl rfl rfl rfl (Nat.zero_le _) dL_law_192 ⟨by have := hfc.1; omega, by have := hfc.2; omega⟩ rfl rfl (fun H locs hP hD hS => ?_)
  refine lv_istore (lv' := (7, .int (z (144 + k1))) :: (6, .int 0) :: lv0 b ad i) hx hb dL_law_195 hl (by decide) rfl (fun ls hl => ?_)
  rw [List.append_assoc] at hP hD
  have hv := w_set hG hk h2
  refine lg_t0 (tgt := 1693) C ⟨by have := hfc.1; omega, by have := hfc.2; omega⟩ (rfl) hP hl dL_law_197 dL_law_198 dL_law_201 dL_law_203 dL_law_208 dL_law_210 dL_law_213 dL_law_214 dL_law_215 dL_law_216 dL_law_218 dL_law_219 dL_law_220 dL_law_225 (by decide) ?_
  refine W.widen (k := cells + 1) (n := slots + 6) (by omega) (by omega) ?_
  exact kk _ _ _ (lV_save hG hGZ hR hod hsv hln hv.2 (lI_mk hv.1 hP hD hS)) (lv_sub hl [2, 3, 4, 5, 6, 7] rfl)
set_option maxRecDepth 100000 in
set_option maxHeartbeats 4000000 in
theorem lc_set_1 (C : lCx p l s m args c b L xs D ac A tl tg) (hi : i + 5 ≤ L) (hfc : cells + 1 ≤ room_1.cells ∧ slots + 6 ≤ room_1.slots) (hhf : ∀ q, q < 6 → hf q = some (aa q 0)) (hG : mGood z) (hGZ : ∀ i, i < 6 → mGood (Z i)) (hR : zRing sd Z od sv) (hod : od < 6) (hsv : sv ≤ 6) (hln : ln ≤ 60) (hr : r < 6) (hI : lI D ac A ad n hf s.heap (lB ac (aa r) (Z r) ++ lR ac aa Z r) od sv ln z sd tx H locs) (hl : lv_has ls 9 (lv0 b ad i)) (kk : ∀ (H : Heap) (locs : List Loc) (ls : Array Slot), lV D ac A ad n hf aa s.heap H locs → lv_has ls 9 (lv0 b ad i) → W p l e room_1 s m args below meth c H locs (cells + 1) (slots + 6) Q (F0 m 1693 ls [])) (h1 : ¬ (0 ≤ (xs (i + 1)) ∧ (xs (i + 1)) ≤ 3)) : W p l e room_1 s m args below meth c H locs cells slots Q (F0 m 160 ls []) := by
  obtain ⟨gs, az, rd, of, og, th, t9, stp, po, hh, hP, hD, hS⟩ := hI
  have hx := C.1.1
  have hb := C.1.2.1
  obtain ⟨sa, hsa⟩ := C.2.2.2.2.2.2.2.2.2 (255, "there is no such jar, slice, class or setting") (List.mem_of_getElem? (i := 5) rfl)
  refine lv_aload_n hx hb dL_law_160 rfl (lv_at hl 1 rfl) ?_
  refine lg_arg C hS 1 hi (by decide) (lv_at hl 0 rfl) (lv_at hl 5 rfl) rfl (by decide) dL_law_161 dL_law_162 dL_law_164 dL_law_165 dL_law_166 ?_
  refine lg_arg C hS 2 hi (by decide) (lv_at hl 0 rfl) (lv_at hl 5 rfl) rfl (by decide) dL_law_167 dL_law_168 dL_law_170 dL_law_171 dL_law_172 ?_
  refine lv_aload_n hx hb dL_law_173 rfl (lv_at hl 3 rfl) ?_
  refine lg_hT hsa (List.mem_of_getElem? (i := 0) rfl) C hl.1 (F := lF ac ad n hf od sv ln tx gs (cV z) (cW z) (qV z 0) (qV z 1) (qV z 2) (cP z) (cR z) (z 160) (z 161) of og th sv ln stp po t9 hh z sd tx az rd) (F2 := lF ac ad n hf od sv ln tx gs (cV z) (cW z) (qV z 0) (qV z 1) (qV z 2) (cP z) (cR z) (z 160) (z 161) of og th sv ln stp po t9 hh z sd tx az rd) hP hD hS (hlpL_set_1 l D ac C.2.2.2.2.1 sa _ (ad 0) (xs (i + 1)) (xs (i + 2)) (n 0) (ad 1) (ad 3) (ad 5) (ad 7) of h1) [0, 20] rfl (by decide) gL_law_L_set rfl 4 (by decide +kernel) ⟨rfl, rfl, Nat.le_of_ble_eq_true rfl, Nat.le_of_ble_eq_true rfl⟩ rfl rfl dL_law_174 hfc rfl rfl (fun H locs hP hD hS => ?_)
  refine lv_istore (lv' := (6, .int 1) :: lv0 b ad i) hx hb dL_law_177 hl (by decide) rfl (fun ls hl => ?_)
  refine lv_aload_n hx hb dL_law_179 rfl (lv_at hl 3 rfl) ?_
  refine lg_arg C hS 1 hi (by decide) (lv_at hl 1 rfl) (lv_at hl 6 rfl) rfl (by decide) dL_law_180 dL_law_181 dL_law_183 dL_law_184 dL_law_185 ?_
  refine lg_arg C hS 2 hi (by decide) (lv_at hl 1 rfl) (lv_at hl 6 rfl) rfl (by decide) dL_law_186 dL_law_187 dL_law_189 dL_law_190 dL_law_191 ?_
  refine lg_mi C hl.1 (rest := []) (F := lF ac ad n hf od sv ln tx gs (cV z) (cW z) (qV z 0) (qV z 1) (qV z 2) (cP z) (cR z) (z 160) (z 161) of og th sv ln stp po t9 hh z sd tx az rd) (F2 := lF ac ad n hf od sv ln tx gs (cV z) (cW z) (qV z 0) (qV z 1) (qV z 2) (cP z) (cR z) (z 160) (z 161) of og 1 sv ln stp po t9 hh z sd tx az rd) hP hD hS (metX6_set_1 l D ac _ (ad 9) (ad 10) (ad 11) (ad 12) (ad 13) (ad 14) th sv ln stp po t9 hh z sd tx az rd (xs (i + 1)) (xs (i + 2)) h1) [22, 23, 24, 25, 26, 27] rfl (by decide) gL_law_X6_set rfl 2 (by decide +kernel) ⟨rfl, rfl, Nat.le_of_ble_eq_true rfl, Nat.le_of_ble_eq_true rfl⟩ 22 6 rfl rfl rfl rfl rfl (Nat.zero_le _) dL_law_192 ⟨by have := hfc.1; omega, by have := hfc.2; omega⟩ rfl rfl (fun H locs hP hD hS => ?_)
  refine lv_istore (lv' := (7, .int 0) :: (6, .int 1) :: lv0 b ad i) hx hb dL_law_195 hl (by decide) rfl (fun ls hl => ?_)
  refine lg_tk (tgt := 1693) C ⟨by have := hfc.1; omega, by have := hfc.2; omega⟩ (k := 1) (by decide) hP hl dL_law_197 dL_law_198 dL_law_201 dL_law_203 dL_law_208 dL_law_210 dL_law_225 (by decide) ?_
  refine W.widen (k := cells + 1) (n := slots + 6) (by omega) (by omega) ?_
  exact kk _ _ _ ⟨z, sd, tx, Z, od, sv, ln, r, hG, hGZ, hR, hod, hsv, hln, hr, lI_mk (vEq_refl z) hP hD hS⟩ (lv_sub hl [2, 3, 4, 5, 6, 7] rfl)
set_option maxRecDepth 100000 in
set_option maxHeartbeats 4000000 in
theorem lc_set_2 (C : lCx p l s m args c b L xs D ac A tl tg) (hi : i + 5 ≤ L) (hfc : cells + 1 ≤ room_1.cells ∧ slots + 6 ≤ room_1.slots) (hhf : ∀ q, q < 6 → hf q = some (aa q 0)) (hG : mGood z) (hGZ : ∀ i, i < 6 → mGood (Z i)) (hR : zRing sd Z od sv) (hod : od < 6) (hsv : sv ≤ 6) (hln : ln ≤ 60) (hr : r < 6) (hI : lI D ac A ad n hf s.heap (lB ac (aa r) (Z r) ++ lR ac aa Z r) od sv ln z sd tx H locs) (hl : lv_has ls 9 (lv0 b ad i)) (kk : ∀ (H : Heap) (locs : List Loc) (ls : Array Slot), lV D ac A ad n hf aa s.heap H locs → lv_has ls 9 (lv0 b ad i) → W p l e room_1 s m args below meth c H locs (cells + 1) (slots + 6) Q (F0 m 1693 ls [])) (k1 : Nat) (e1 : xs (i + 1) = nI k1) (hk : k1 < 4) (h2 : ¬ (qLo k1 ≤ (xs (i + 2)) ∧ (xs (i + 2)) ≤ qUp k1)) : W p l e room_1 s m args below meth c H locs cells slots Q (F0 m 160 ls []) := by
  obtain ⟨gs, az, rd, of, og, th, t9, stp, po, hh, hP, hD, hS⟩ := hI
  have hx := C.1.1
  have hb := C.1.2.1
  obtain ⟨sa, hsa⟩ := C.2.2.2.2.2.2.2.2.2 (258, "an argument is out of range") (List.mem_of_getElem? (i := 6) rfl)
  refine lv_aload_n hx hb dL_law_160 rfl (lv_at hl 1 rfl) ?_
  refine lg_arg C hS 1 hi (by decide) (lv_at hl 0 rfl) (lv_at hl 5 rfl) e1 (by decide) dL_law_161 dL_law_162 dL_law_164 dL_law_165 dL_law_166 ?_
  refine lg_arg C hS 2 hi (by decide) (lv_at hl 0 rfl) (lv_at hl 5 rfl) rfl (by decide) dL_law_167 dL_law_168 dL_law_170 dL_law_171 dL_law_172 ?_
  refine lv_aload_n hx hb dL_law_173 rfl (lv_at hl 3 rfl) ?_
  refine lg_hTE hsa (List.mem_of_getElem? (i := 1) rfl) C hl.1 (F := lF ac ad n hf od sv ln tx gs (cV z) (cW z) (qV z 0) (qV z 1) (qV z 2) (cP z) (cR z) (z 160) (z 161) of og th sv ln stp po t9 hh z sd tx az rd) (F2 := lF ac ad n hf od sv ln tx gs (cV z) (cW z) (qV z 0) (qV z 1) (qV z 2) (cP z) (cR z) (z 160) (z 161) of og th sv ln stp po t9 hh z sd tx az rd) hP hD hS (hlpL_set_2 l D ac C.2.2.2.2.1 sa _ tl tg (ad 0) k1 (xs (i + 2)) (n 0) (ad 1) (ad 3) (ad 5) (ad 7) of hk h2) [0, 20] rfl (by decide) gL_law_L_set rfl 4 (by decide +kernel) ⟨rfl, rfl, Nat.le_of_ble_eq_true rfl, Nat.le_of_ble_eq_true rfl⟩ rfl rfl dL_law_174 hfc rfl rfl (fun H locs hP hD hS => ?_)
  refine lv_istore (lv' := (6, .int 2) :: lv0 b ad i) hx hb dL_law_177 hl (by decide) rfl (fun ls hl => ?_)
  refine lv_aload_n hx hb dL_law_179 rfl (lv_at hl 3 rfl) ?_
  refine lg_arg C hS 1 hi (by decide) (lv_at hl 1 rfl) (lv_at hl 6 rfl) e1 (by decide) dL_law_180 dL_law_181 dL_law_183 dL_law_184 dL_law_185 ?_
  refine lg_arg C hS 2 hi (by decide) (lv_at hl 1 rfl) (lv_at hl 6 rfl) rfl (by decide) dL_law_186 dL_law_187 dL_law_189 dL_law_190 dL_law_191 ?_
  refine lg_mi C hl.1 (rest := []) (F := lF ac ad n hf od sv ln tx gs (cV z) (cW z) (qV z 0) (qV z 1) (qV z 2) (cP z) (cR z) (z 160) (z 161) of og th sv ln stp po t9 hh z sd tx az rd) (F2 := lF ac ad n hf od sv ln tx gs (cV z) (cW z) (qV z 0) (qV z 1) (qV z 2) (cP z) (cR z) (z 160) (z 161) of og 2 sv ln stp po t9 hh z sd tx az rd) hP hD hS (metX6_set_2 l D ac _ (ad 9) (ad 10) (ad 11) (ad 12) (ad 13) (ad 14) th sv ln stp po t9 hh z sd tx az rd k1 (xs (i + 2)) hk h2) [22, 23, 24, 25, 26, 27] rfl (by decide) gL_law_X6_set rfl 2 (by decide +kernel) ⟨rfl, rfl, Nat.le_of_ble_eq_true rfl, Nat.le_of_ble_eq_true rfl⟩ 22 6 rfl rfl rfl rfl rfl (Nat.zero_le _) dL_law_192 ⟨by have := hfc.1; omega, by have := hfc.2; omega⟩ rfl rfl (fun H locs hP hD hS => ?_)
  refine lv_istore (lv' := (7, .int 0) :: (6, .int 2) :: lv0 b ad i) hx hb dL_law_195 hl (by decide) rfl (fun ls hl => ?_)
  refine lg_tk (tgt := 1693) C ⟨by have := hfc.1; omega, by have := hfc.2; omega⟩ (k := 2) (by decide) hP hl dL_law_197 dL_law_198 dL_law_201 dL_law_203 dL_law_208 dL_law_210 dL_law_225 (by decide) ?_
  refine W.widen (k := cells + 1) (n := slots + 6) (by omega) (by omega) ?_
  exact kk _ _ _ ⟨z, sd, tx, Z, od, sv, ln, r, hG, hGZ, hR, hod, hsv, hln, hr, lI_mk (vEq_refl z) hP hD hS⟩ (lv_sub hl [2, 3, 4, 5, 6, 7] rfl)
set_option maxRecDepth 100000 in
set_option maxHeartbeats 4000000 in
theorem lc_set (C : lCx p l s m args c b L xs D ac A tl tg) (hi : i + 5 ≤ L) (hfc : cells + 1 ≤ room_1.cells ∧ slots + 6 ≤ room_1.slots) (hhf : ∀ q, q < 6 → hf q = some (aa q 0)) (hG : mGood z) (hGZ : ∀ i, i < 6 → mGood (Z i)) (hR : zRing sd Z od sv) (hod : od < 6) (hsv : sv ≤ 6) (hln : ln ≤ 60) (hr : r < 6) (hI : lI D ac A ad n hf s.heap (lB ac (aa r) (Z r) ++ lR ac aa Z r) od sv ln z sd tx H locs) (hl : lv_has ls 9 (lv0 b ad i)) (kk : ∀ (H : Heap) (locs : List Loc) (ls : Array Slot), lV D ac A ad n hf aa s.heap H locs → lv_has ls 9 (lv0 b ad i) → W p l e room_1 s m args below meth c H locs (cells + 1) (slots + 6) Q (F0 m 1693 ls [])) : W p l e room_1 s m args below meth c H locs cells slots Q (F0 m 160 ls []) := by
  replace hI := lI_front hr ((od + sv) % 6) (Nat.mod_lt _ (by decide)) hI
  replace hr : (od + sv) % 6 < 6 := Nat.mod_lt _ (by decide)
  by_cases t1 : 0 ≤ xs (i + 1) ∧ xs (i + 1) ≤ 3
  · obtain ⟨k1, hk, e1⟩ := z_nat (k := 3) (by decide) t1
    by_cases h2 : qLo k1 ≤ xs (i + 2) ∧ xs (i + 2) ≤ qUp k1
    · exact lc_set_0 C hi hfc hhf hG hGZ hR hod hsv hln hr hI hl kk rfl k1 e1 hk h2
    · exact lc_set_2 C hi hfc hhf hG hGZ hR hod hsv hln hr hI hl kk k1 e1 hk h2
  · exact lc_set_1 C hi hfc hhf hG hGZ hR hod hsv hln hr hI hl kk t1
set_option maxRecDepth 100000 in
set_option maxHeartbeats 4000000 in
theorem lc_setSpeed_0 (C : lCx p l s m args c b L xs D ac A tl tg) (hi : i + 5 ≤ L) (hfc : cells + 1 ≤ room_1.cells ∧ slots + 6 ≤ room_1.slots) (hhf : ∀ q, q < 6 → hf q = some (aa q 0)) (hG : mGood z) (hGZ : ∀ i, i < 6 → mGood (Z i)) (hR : zRing sd Z od sv) (hod : od < 6) (hsv : sv ≤ 6) (hln : ln ≤ 60) (hr : r < 6) (hI : lI D ac A ad n hf s.heap (lB ac (aa r) (Z r) ++ lR ac aa Z r) od sv ln z sd tx H locs) (hl : lv_has ls 9 (lv0 b ad i)) (kk : ∀ (H : Heap) (locs : List Loc) (ls : Array Slot), lV D ac A ad n hf aa s.heap H locs → lv_has ls 9 (lv0 b ad i) → W p l e room_1 s m args below meth c H locs (cells + 1) (slots + 6) Q (F0 m 1693 ls [])) (hr0 : r = ((od + sv) % 6)) (k1 : Nat) (e1 : xs (i + 1) = nI k1) (hk : k1 < 4) (h2 : 1 ≤ (xs (i + 2)) ∧ (xs (i + 2)) ≤ 100) : W p l e room_1 s m args below meth c H locs cells slots Q (F0 m 228 ls []) := by
  subst hr0
  obtain ⟨gs, az, rd, of, og, th, t9, stp, po, hh, hP, hD, hS⟩ := hI
  have hx := C.1.1
  have hb := C.1.2.1
  rw [← List.append_assoc] at hP hD
  refine lv_aload_n hx hb dL_law_228 rfl (lv_at hl 1 rfl) ?_
  refine lg_arg C hS 1 hi (by decide) (lv_at hl 0 rfl) (lv_at hl 5 rfl) e1 (by decide) dL_law_229 dL_law_230 dL_law_232 dL_law_233 dL_law_234 ?_
  refine lg_arg C hS 2 hi (by decide) (lv_at hl 0 rfl) (lv_at hl 5 rfl) rfl (by decide) dL_law_235 dL_law_236 dL_law_238 dL_law_239 dL_law_240 ?_
  refine lv_aload_n hx hb dL_law_241 rfl (lv_at hl 3 rfl) ?_
  refine lg_hS C hl.1 (F := (lF ac ad n hf od sv ln tx gs (cV z) (cW z) (qV z 0) (qV z 1) (qV z 2) (cP z) (cR z) (z 160) (z 161) of og th sv ln stp po t9 hh z sd tx az rd) ++ (lA ac (aa ((od + sv) % 6)) (cV (Z ((od + sv) % 6))) (cW (Z ((od + sv) % 6))) (qV (Z ((od + sv) % 6)) 0) (qV (Z ((od + sv) % 6)) 1) (qV (Z ((od + sv) % 6)) 2) (cP (Z ((od + sv) % 6))) (cR (Z ((od + sv) % 6))) ((Z ((od + sv) % 6)) 160) ((Z ((od + sv) % 6)) 161))) (F2 := (lF ac ad n hf (kOd od sv) (kSz sv) ln tx gs (cV z) (upd (cW z) k1 (xs (i + 2))) (qV z 0) (qV z 1) (qV z 2) (cP z) (cR z) (z 160) (z 161) (updL of 0 (((cW z) k1).toInt64)) og th sv ln stp po t9 hh z sd tx az rd) ++ (lA ac (aa ((od + sv) % 6)) ((cV z)) ((cW z)) ((qV z 0)) ((qV z 1)) ((qV z 2)) ((cP z)) ((cR z)) ((z 160)) ((z 161)))) hP hD hS (hlpL_setSpeed_0 l D ac _ (ad 0) (n 0) (ad 1) (ad 3) (ad 5) (ad 2) hf od sv (aa ((od + sv) % 6) 0) (aa ((od + sv) % 6) 1) (aa ((od + sv) % 6) 2) (aa ((od + sv) % 6) 3) (aa ((od + sv) % 6) 4) (aa ((od + sv) % 6) 5) (aa ((od + sv) % 6) 6) (aa ((od + sv) % 6) 7) (aa ((od + sv) % 6) 8) (aa ((od + sv) % 6) 9) (aa ((od + sv) % 6) 10) (aa ((od + sv) % 6) 11) (aa ((od + sv) % 6) 12) (cV (Z ((od + sv) % 6))) (cW (Z ((od + sv) % 6))) (qV (Z ((od + sv) % 6)) 0) (qV (Z ((od + sv) % 6)) 1) (qV (Z ((od + sv) % 6)) 2) (cP (Z ((od + sv) % 6))) (cR (Z ((od + sv) % 6))) ((Z ((od + sv) % 6)) 160) ((Z ((od + sv) % 6)) 161) (n 1) (n 2) (n 3) (n 4) (n 5) (n 6) (n 7) (n 8) (n 9) (n 10) (n 11) (n 12) (cV z) (cW z) (qV z 0) (qV z 1) (qV z 2) (cP z) (cR z) (z 160) (z 161) k1 (xs (i + 2)) (ad 7) of hk h2 (hhf _ (Nat.mod_lt _ (by decide))) hod hsv) [0, 1, 2, 28, 29, 30, 31, 32, 33, 34, 35, 36, 37, 38, 39, 40, 7, 8, 9, 10, 11, 12, 13, 14, 15, 16, 17, 18, 19, 20] rfl (by decide) gL_law_L_setSpeed rfl 4 (by decide +kernel) ⟨rfl, rfl, Nat.le_of_ble_eq_true rfl, Nat.le_of_ble_eq_true rfl⟩ rfl rfl dL_law_242 ⟨Nat.le_of_succ_le hfc.1, Nat.le_trans (Nat.le_add_right slots 6) hfc.2⟩ rfl rfl (fun H locs hP hD hS => ?_)
  rw [k_sz hsv] at hP hD
  refine lv_istore (lv' := (6, .int 0) :: lv0 b ad i) hx hb dL_law_245 hl (by decide) rfl (fun ls hl => ?_)
  refine lv_aload_n hx hb dL_law_247 rfl (lv_at hl 3 rfl) ?_
  refine lg_arg C hS 1 hi (by decide) (lv_at hl 1 rfl) (lv_at hl 6 rfl) e1 (by decide) dL_law_248 dL_law_249 dL_law_251 dL_law_252 dL_law_253 ?_
  refine lg_arg C hS 2 hi (by decide) (lv_at hl 1 rfl) (lv_at hl 6 rfl) rfl (by decide) dL_law_254 dL_law_255 dL_law_257 dL_law_258 dL_law_259 ?_
  refine lg_mi C hl.1 (rest := []) (F := (lF ac ad n hf (kOd od sv) (mSv sv + 1) ln tx gs (cV z) (upd (cW z) k1 (xs (i + 2))) (qV z 0) (qV z 1) (qV z 2) (cP z) (cR z) (z 160) (z 161) (updL of 0 (((cW z) k1).toInt64)) og th sv ln stp po t9 hh z sd tx az rd) ++ (lA ac (aa ((od + sv) % 6)) ((cV z)) ((cW z)) ((qV z 0)) ((qV z 1)) ((qV z 2)) ((cP z)) ((cR z)) ((z 160)) ((z 161)))) (F2 := (lF ac ad n hf (kOd od sv) (mSv sv + 1) ln tx gs (cV z) (upd (cW z) k1 (xs (i + 2))) (qV z 0) (qV z 1) (qV z 2) (cP z) (cR z) (z 160) (z 161) (updL of 0 (((cW z) k1).toInt64)) og 0 (mSv sv + 1) ln stp po t9 hh (upd z (148 + k1) (xs (i + 2))) (mSave sd z sv) tx az rd) ++ (lA ac (aa ((od + sv) % 6)) ((cV z)) ((cW z)) ((qV z 0)) ((qV z 1)) ((qV z 2)) ((cP z)) ((cR z)) ((z 160)) ((z 161)))) hP hD hS (metX6_setSpeed_0 l D ac _ (ad 9) (ad 10) (ad 11) (ad 12) (ad 13) (ad 14) th sv ln stp po t9 hh z sd tx az rd k1 (xs (i + 2)) hk h2 hsv) [22, 23, 24, 25, 26, 27] rfl (by decide) gL_law_X6_setSpeed rfl 2 (by decide +kernel) ⟨rfl, rfl, Nat.le_of_ble_eq_true rfl, Nat.le_of_ble_eq_true rfl⟩ 22 6 rfl rfl rfl rfl rfl (Nat.zero_le _) dL_law_260 ⟨by have := hfc.1; omega, by have := hfc.2; omega⟩ rfl rfl (fun H locs hP hD hS => ?_)
  refine lv_istore (lv' := (7, .int (z (148 + k1))) :: (6, .int 0) :: lv0 b ad i) hx hb dL_law_263 hl (by decide) rfl (fun ls hl => ?_)
  rw [List.append_assoc] at hP hD
  have hv := w_setSpeed hG hk h2
  refine lg_t0 (tgt := 1693) C ⟨by have := hfc.1; omega, by have := hfc.2; omega⟩ (rfl) hP hl dL_law_265 dL_law_266 dL_law_269 dL_law_271 dL_law_276 dL_law_278 dL_law_281 dL_law_282 dL_law_283 dL_law_284 dL_law_286 dL_law_287 dL_law_288 dL_law_293 (by decide) ?_
  refine W.widen (k := cells + 1) (n := slots + 6) (by omega) (by omega) ?_
  exact kk _ _ _ (lV_save hG hGZ hR hod hsv hln hv.2 (lI_mk hv.1 hP hD hS)) (lv_sub hl [2, 3, 4, 5, 6, 7] rfl)
set_option maxRecDepth 100000 in
set_option maxHeartbeats 4000000 in
theorem lc_setSpeed_1 (C : lCx p l s m args c b L xs D ac A tl tg) (hi : i + 5 ≤ L) (hfc : cells + 1 ≤ room_1.cells ∧ slots + 6 ≤ room_1.slots) (hhf : ∀ q, q < 6 → hf q = some (aa q 0)) (hG : mGood z) (hGZ : ∀ i, i < 6 → mGood (Z i)) (hR : zRing sd Z od sv) (hod : od < 6) (hsv : sv ≤ 6) (hln : ln ≤ 60) (hr : r < 6) (hI : lI D ac A ad n hf s.heap (lB ac (aa r) (Z r) ++ lR ac aa Z r) od sv ln z sd tx H locs) (hl : lv_has ls 9 (lv0 b ad i)) (kk : ∀ (H : Heap) (locs : List Loc) (ls : Array Slot), lV D ac A ad n hf aa s.heap H locs → lv_has ls 9 (lv0 b ad i) → W p l e room_1 s m args below meth c H locs (cells + 1) (slots + 6) Q (F0 m 1693 ls [])) (h1 : ¬ (0 ≤ (xs (i + 1)) ∧ (xs (i + 1)) ≤ 3)) : W p l e room_1 s m args below meth c H locs cells slots Q (F0 m 228 ls []) := by
  obtain ⟨gs, az, rd, of, og, th, t9, stp, po, hh, hP, hD, hS⟩ := hI
  have hx := C.1.1
  have hb := C.1.2.1
  obtain ⟨sa, hsa⟩ := C.2.2.2.2.2.2.2.2.2 (255, "there is no such jar, slice, class or setting") (List.mem_of_getElem? (i := 5) rfl)
  refine lv_aload_n hx hb dL_law_228 rfl (lv_at hl 1 rfl) ?_
  refine lg_arg C hS 1 hi (by decide) (lv_at hl 0 rfl) (lv_at hl 5 rfl) rfl (by decide) dL_law_229 dL_law_230 dL_law_232 dL_law_233 dL_law_234 ?_
  refine lg_arg C hS 2 hi (by decide) (lv_at hl 0 rfl) (lv_at hl 5 rfl) rfl (by decide) dL_law_235 dL_law_236 dL_law_238 dL_law_239 dL_law_240 ?_
  refine lv_aload_n hx hb dL_law_241 rfl (lv_at hl 3 rfl) ?_
  refine lg_hT hsa (List.mem_of_getElem? (i := 0) rfl) C hl.1 (F := lF ac ad n hf od sv ln tx gs (cV z) (cW z) (qV z 0) (qV z 1) (qV z 2) (cP z) (cR z) (z 160) (z 161) of og th sv ln stp po t9 hh z sd tx az rd) (F2 := lF ac ad n hf od sv ln tx gs (cV z) (cW z) (qV z 0) (qV z 1) (qV z 2) (cP z) (cR z) (z 160) (z 161) of og th sv ln stp po t9 hh z sd tx az rd) hP hD hS (hlpL_setSpeed_1 l D ac C.2.2.2.2.1 sa _ (ad 0) (xs (i + 1)) (xs (i + 2)) (n 0) (ad 1) (ad 3) (ad 5) (ad 7) of h1) [0, 20] rfl (by decide) gL_law_L_setSpeed rfl 4 (by decide +kernel) ⟨rfl, rfl, Nat.le_of_ble_eq_true rfl, Nat.le_of_ble_eq_true rfl⟩ rfl rfl dL_law_242 hfc rfl rfl (fun H locs hP hD hS => ?_)
  refine lv_istore (lv' := (6, .int 1) :: lv0 b ad i) hx hb dL_law_245 hl (by decide) rfl (fun ls hl => ?_)
  refine lv_aload_n hx hb dL_law_247 rfl (lv_at hl 3 rfl) ?_
  refine lg_arg C hS 1 hi (by decide) (lv_at hl 1 rfl) (lv_at hl 6 rfl) rfl (by decide) dL_law_248 dL_law_249 dL_law_251 dL_law_252 dL_law_253 ?_
  refine lg_arg C hS 2 hi (by decide) (lv_at hl 1 rfl) (lv_at hl 6 rfl) rfl (by decide) dL_law_254 dL_law_255 dL_law_257 dL_law_258 dL_law_259 ?_
  refine lg_mi C hl.1 (rest := []) (F := lF ac ad n hf od sv ln tx gs (cV z) (cW z) (qV z 0) (qV z 1) (qV z 2) (cP z) (cR z) (z 160) (z 161) of og th sv ln stp po t9 hh z sd tx az rd) (F2 := lF ac ad n hf od sv ln tx gs (cV z) (cW z) (qV z 0) (qV z 1) (qV z 2) (cP z) (cR z) (z 160) (z 161) of og 1 sv ln stp po t9 hh z sd tx az rd) hP hD hS (metX6_setSpeed_1 l D ac _ (ad 9) (ad 10) (ad 11) (ad 12) (ad 13) (ad 14) th sv ln stp po t9 hh z sd tx az rd (xs (i + 1)) (xs (i + 2)) h1) [22, 23, 24, 25, 26, 27] rfl (by decide) gL_law_X6_setSpeed rfl 2 (by decide +kernel) ⟨rfl, rfl, Nat.le_of_ble_eq_true rfl, Nat.le_of_ble_eq_true rfl⟩ 22 6 rfl rfl rfl rfl rfl (Nat.zero_le _) dL_law_260 ⟨by have := hfc.1; omega, by have := hfc.2; omega⟩ rfl rfl (fun H locs hP hD hS => ?_)
  refine lv_istore (lv' := (7, .int 0) :: (6, .int 1) :: lv0 b ad i) hx hb dL_law_263 hl (by decide) rfl (fun ls hl => ?_)
  refine lg_tk (tgt := 1693) C ⟨by have := hfc.1; omega, by have := hfc.2; omega⟩ (k := 1) (by decide) hP hl dL_law_265 dL_law_266 dL_law_269 dL_law_271 dL_law_276 dL_law_278 dL_law_293 (by decide) ?_
  refine W.widen (k := cells + 1) (n := slots + 6) (by omega) (by omega) ?_
  exact kk _ _ _ ⟨z, sd, tx, Z, od, sv, ln, r, hG, hGZ, hR, hod, hsv, hln, hr, lI_mk (vEq_refl z) hP hD hS⟩ (lv_sub hl [2, 3, 4, 5, 6, 7] rfl)
set_option maxRecDepth 100000 in
set_option maxHeartbeats 4000000 in
theorem lc_setSpeed_2 (C : lCx p l s m args c b L xs D ac A tl tg) (hi : i + 5 ≤ L) (hfc : cells + 1 ≤ room_1.cells ∧ slots + 6 ≤ room_1.slots) (hhf : ∀ q, q < 6 → hf q = some (aa q 0)) (hG : mGood z) (hGZ : ∀ i, i < 6 → mGood (Z i)) (hR : zRing sd Z od sv) (hod : od < 6) (hsv : sv ≤ 6) (hln : ln ≤ 60) (hr : r < 6) (hI : lI D ac A ad n hf s.heap (lB ac (aa r) (Z r) ++ lR ac aa Z r) od sv ln z sd tx H locs) (hl : lv_has ls 9 (lv0 b ad i)) (kk : ∀ (H : Heap) (locs : List Loc) (ls : Array Slot), lV D ac A ad n hf aa s.heap H locs → lv_has ls 9 (lv0 b ad i) → W p l e room_1 s m args below meth c H locs (cells + 1) (slots + 6) Q (F0 m 1693 ls [])) (k1 : Nat) (e1 : xs (i + 1) = nI k1) (hk : k1 < 4) (h2 : ¬ (1 ≤ (xs (i + 2)) ∧ (xs (i + 2)) ≤ 100)) : W p l e room_1 s m args below meth c H locs cells slots Q (F0 m 228 ls []) := by
  obtain ⟨gs, az, rd, of, og, th, t9, stp, po, hh, hP, hD, hS⟩ := hI
  have hx := C.1.1
  have hb := C.1.2.1
  obtain ⟨sa, hsa⟩ := C.2.2.2.2.2.2.2.2.2 (258, "an argument is out of range") (List.mem_of_getElem? (i := 6) rfl)
  refine lv_aload_n hx hb dL_law_228 rfl (lv_at hl 1 rfl) ?_
  refine lg_arg C hS 1 hi (by decide) (lv_at hl 0 rfl) (lv_at hl 5 rfl) e1 (by decide) dL_law_229 dL_law_230 dL_law_232 dL_law_233 dL_law_234 ?_
  refine lg_arg C hS 2 hi (by decide) (lv_at hl 0 rfl) (lv_at hl 5 rfl) rfl (by decide) dL_law_235 dL_law_236 dL_law_238 dL_law_239 dL_law_240 ?_
  refine lv_aload_n hx hb dL_law_241 rfl (lv_at hl 3 rfl) ?_
  refine lg_hT hsa (List.mem_of_getElem? (i := 1) rfl) C hl.1 (F := lF ac ad n hf od sv ln tx gs (cV z) (cW z) (qV z 0) (qV z 1) (qV z 2) (cP z) (cR z) (z 160) (z 161) of og th sv ln stp po t9 hh z sd tx az rd) (F2 := lF ac ad n hf od sv ln tx gs (cV z) (cW z) (qV z 0) (qV z 1) (qV z 2) (cP z) (cR z) (z 160) (z 161) of og th sv ln stp po t9 hh z sd tx az rd) hP hD hS (hlpL_setSpeed_2 l D ac C.2.2.2.2.1 sa _ (ad 0) k1 (xs (i + 2)) (n 0) (ad 1) (ad 3) (ad 5) (ad 7) of hk h2) [0, 20] rfl (by decide) gL_law_L_setSpeed rfl 4 (by decide +kernel) ⟨rfl, rfl, Nat.le_of_ble_eq_true rfl, Nat.le_of_ble_eq_true rfl⟩ rfl rfl dL_law_242 hfc rfl rfl (fun H locs hP hD hS => ?_)
  refine lv_istore (lv' := (6, .int 2) :: lv0 b ad i) hx hb dL_law_245 hl (by decide) rfl (fun ls hl => ?_)
  refine lv_aload_n hx hb dL_law_247 rfl (lv_at hl 3 rfl) ?_
  refine lg_arg C hS 1 hi (by decide) (lv_at hl 1 rfl) (lv_at hl 6 rfl) e1 (by decide) dL_law_248 dL_law_249 dL_law_251 dL_law_252 dL_law_253 ?_
  refine lg_arg C hS 2 hi (by decide) (lv_at hl 1 rfl) (lv_at hl 6 rfl) rfl (by decide) dL_law_254 dL_law_255 dL_law_257 dL_law_258 dL_law_259 ?_
  refine lg_mi C hl.1 (rest := []) (F := lF ac ad n hf od sv ln tx gs (cV z) (cW z) (qV z 0) (qV z 1) (qV z 2) (cP z) (cR z) (z 160) (z 161) of og th sv ln stp po t9 hh z sd tx az rd) (F2 := lF ac ad n hf od sv ln tx gs (cV z) (cW z) (qV z 0) (qV z 1) (qV z 2) (cP z) (cR z) (z 160) (z 161) of og 2 sv ln stp po t9 hh z sd tx az rd) hP hD hS (metX6_setSpeed_2 l D ac _ (ad 9) (ad 10) (ad 11) (ad 12) (ad 13) (ad 14) th sv ln stp po t9 hh z sd tx az rd k1 (xs (i + 2)) hk h2) [22, 23, 24, 25, 26, 27] rfl (by decide) gL_law_X6_setSpeed rfl 2 (by decide +kernel) ⟨rfl, rfl, Nat.le_of_ble_eq_true rfl, Nat.le_of_ble_eq_true rfl⟩ 22 6 rfl rfl rfl rfl rfl (Nat.zero_le _) dL_law_260 ⟨by have := hfc.1; omega, by have := hfc.2; omega⟩ rfl rfl (fun H locs hP hD hS => ?_)
  refine lv_istore (lv' := (7, .int 0) :: (6, .int 2) :: lv0 b ad i) hx hb dL_law_263 hl (by decide) rfl (fun ls hl => ?_)
  refine lg_tk (tgt := 1693) C ⟨by have := hfc.1; omega, by have := hfc.2; omega⟩ (k := 2) (by decide) hP hl dL_law_265 dL_law_266 dL_law_269 dL_law_271 dL_law_276 dL_law_278 dL_law_293 (by decide) ?_
  refine W.widen (k := cells + 1) (n := slots + 6) (by omega) (by omega) ?_
  exact kk _ _ _ ⟨z, sd, tx, Z, od, sv, ln, r, hG, hGZ, hR, hod, hsv, hln, hr, lI_mk (vEq_refl z) hP hD hS⟩ (lv_sub hl [2, 3, 4, 5, 6, 7] rfl)
set_option maxRecDepth 100000 in
set_option maxHeartbeats 4000000 in
theorem lc_setSpeed (C : lCx p l s m args c b L xs D ac A tl tg) (hi : i + 5 ≤ L) (hfc : cells + 1 ≤ room_1.cells ∧ slots + 6 ≤ room_1.slots) (hhf : ∀ q, q < 6 → hf q = some (aa q 0)) (hG : mGood z) (hGZ : ∀ i, i < 6 → mGood (Z i)) (hR : zRing sd Z od sv) (hod : od < 6) (hsv : sv ≤ 6) (hln : ln ≤ 60) (hr : r < 6) (hI : lI D ac A ad n hf s.heap (lB ac (aa r) (Z r) ++ lR ac aa Z r) od sv ln z sd tx H locs) (hl : lv_has ls 9 (lv0 b ad i)) (kk : ∀ (H : Heap) (locs : List Loc) (ls : Array Slot), lV D ac A ad n hf aa s.heap H locs → lv_has ls 9 (lv0 b ad i) → W p l e room_1 s m args below meth c H locs (cells + 1) (slots + 6) Q (F0 m 1693 ls [])) : W p l e room_1 s m args below meth c H locs cells slots Q (F0 m 228 ls []) := by
  replace hI := lI_front hr ((od + sv) % 6) (Nat.mod_lt _ (by decide)) hI
  replace hr : (od + sv) % 6 < 6 := Nat.mod_lt _ (by decide)
  by_cases t1 : 0 ≤ xs (i + 1) ∧ xs (i + 1) ≤ 3
  · obtain ⟨k1, hk, e1⟩ := z_nat (k := 3) (by decide) t1
    by_cases h2 : 1 ≤ xs (i + 2) ∧ xs (i + 2) ≤ 100
    · exact lc_setSpeed_0 C hi hfc hhf hG hGZ hR hod hsv hln hr hI hl kk rfl k1 e1 hk h2
    · exact lc_setSpeed_2 C hi hfc hhf hG hGZ hR hod hsv hln hr hI hl kk k1 e1 hk h2
  · exact lc_setSpeed_1 C hi hfc hhf hG hGZ hR hod hsv hln hr hI hl kk t1
set_option maxRecDepth 100000 in
set_option maxHeartbeats 4000000 in
theorem lc_pour_0 (C : lCx p l s m args c b L xs D ac A tl tg) (hi : i + 5 ≤ L) (hfc : cells + 1 ≤ room_1.cells ∧ slots + 6 ≤ room_1.slots) (hhf : ∀ q, q < 6 → hf q = some (aa q 0)) (hG : mGood z) (hGZ : ∀ i, i < 6 → mGood (Z i)) (hR : zRing sd Z od sv) (hod : od < 6) (hsv : sv ≤ 6) (hln : ln ≤ 60) (hr : r < 6) (hI : lI D ac A ad n hf s.heap (lB ac (aa r) (Z r) ++ lR ac aa Z r) od sv ln z sd tx H locs) (hl : lv_has ls 9 (lv0 b ad i)) (kk : ∀ (H : Heap) (locs : List Loc) (ls : Array Slot), lV D ac A ad n hf aa s.heap H locs → lv_has ls 9 (lv0 b ad i) → W p l e room_1 s m args below meth c H locs (cells + 1) (slots + 6) Q (F0 m 1693 ls [])) (hr0 : r = ((od + sv) % 6)) (j1 : Nat) (s1 : Nat) (k1 : Nat) (e1 : xs (i + 1) = nI j1) (e2 : xs (i + 2) = nI s1) (e3 : xs (i + 3) = nI k1) (hj : j1 < 3) (hs : s1 < 12) (hk : k1 < 4) (h2 : 1 ≤ (xs (i + 4)) ∧ (xs (i + 4)) ≤ 999) (h3 : qAll (qV z j1) + (xs (i + 4)) ≤ 5000) : W p l e room_1 s m args below meth c H locs cells slots Q (F0 m 296 ls []) := by
  subst hr0
  obtain ⟨gs, az, rd, of, og, th, t9, stp, po, hh, hP, hD, hS⟩ := hI
  have hx := C.1.1
  have hb := C.1.2.1
  rw [← List.append_assoc] at hP hD
  refine lv_aload_n hx hb dL_law_296 rfl (lv_at hl 1 rfl) ?_
  refine lg_arg C hS 1 hi (by decide) (lv_at hl 0 rfl) (lv_at hl 5 rfl) e1 (by decide) dL_law_297 dL_law_298 dL_law_300 dL_law_301 dL_law_302 ?_
  refine lg_arg C hS 2 hi (by decide) (lv_at hl 0 rfl) (lv_at hl 5 rfl) e2 (by decide) dL_law_303 dL_law_304 dL_law_306 dL_law_307 dL_law_308 ?_
  refine lg_arg C hS 3 hi (by decide) (lv_at hl 0 rfl) (lv_at hl 5 rfl) e3 (by decide) dL_law_309 dL_law_310 dL_law_312 dL_law_313 dL_law_314 ?_
  refine lg_arg C hS 4 hi (by decide) (lv_at hl 0 rfl) (lv_at hl 5 rfl) rfl (by decide) dL_law_315 dL_law_316 dL_law_318 dL_law_319 dL_law_320 ?_
  refine lv_aload_n hx hb dL_law_321 rfl (lv_at hl 3 rfl) ?_
  refine lg_hS C hl.1 (F := (lF ac ad n hf od sv ln tx gs (cV z) (cW z) (qV z 0) (qV z 1) (qV z 2) (cP z) (cR z) (z 160) (z 161) of og th sv ln stp po t9 hh z sd tx az rd) ++ (lA ac (aa ((od + sv) % 6)) (cV (Z ((od + sv) % 6))) (cW (Z ((od + sv) % 6))) (qV (Z ((od + sv) % 6)) 0) (qV (Z ((od + sv) % 6)) 1) (qV (Z ((od + sv) % 6)) 2) (cP (Z ((od + sv) % 6))) (cR (Z ((od + sv) % 6))) ((Z ((od + sv) % 6)) 160) ((Z ((od + sv) % 6)) 161))) (F2 := (lF ac ad n hf (kOd od sv) (kSz sv) ln tx gs (cV z) (cW z) (if j1 = 0 then qPut (qV z 0) s1 k1 (xs (i + 4)) else (qV z 0)) (if j1 = 1 then qPut (qV z 1) s1 k1 (xs (i + 4)) else (qV z 1)) (if j1 = 2 then qPut (qV z 2) s1 k1 (xs (i + 4)) else (qV z 2)) (upd (cP z) k1 ((cP z) k1 + (xs (i + 4)))) (cR z) (z 160) (z 161) (updL of 0 ((qIn (qPut (zG j1 (qV z 0) (qV z 1) (qV z 2)) s1 k1 (xs (i + 4))) s1).toInt64)) og th sv ln stp po t9 hh z sd tx az rd) ++ (lA ac (aa ((od + sv) % 6)) ((cV z)) ((cW z)) ((qV z 0)) ((qV z 1)) ((qV z 2)) ((cP z)) ((cR z)) ((z 160)) ((z 161)))) hP hD hS (hlpL_pour_0 l D ac _ (ad 0) (n 0) (ad 1) (ad 3) (ad 5) (ad 2) hf od sv (aa ((od + sv) % 6) 0) (aa ((od + sv) % 6) 1) (aa ((od + sv) % 6) 2) (aa ((od + sv) % 6) 3) (aa ((od + sv) % 6) 4) (aa ((od + sv) % 6) 5) (aa ((od + sv) % 6) 6) (aa ((od + sv) % 6) 7) (aa ((od + sv) % 6) 8) (aa ((od + sv) % 6) 9) (aa ((od + sv) % 6) 10) (aa ((od + sv) % 6) 11) (aa ((od + sv) % 6) 12) (cV (Z ((od + sv) % 6))) (cW (Z ((od + sv) % 6))) (qV (Z ((od + sv) % 6)) 0) (qV (Z ((od + sv) % 6)) 1) (qV (Z ((od + sv) % 6)) 2) (cP (Z ((od + sv) % 6))) (cR (Z ((od + sv) % 6))) ((Z ((od + sv) % 6)) 160) ((Z ((od + sv) % 6)) 161) (n 1) (n 2) (n 3) (n 4) (n 5) (n 6) (n 7) (n 8) (n 9) (n 10) (n 11) (n 12) (cV z) (cW z) (qV z 0) (qV z 1) (qV z 2) (cP z) (cR z) (z 160) (z 161) j1 s1 k1 (xs (i + 4)) (ad 7) of hj hs hk h2 (by rw [w_zG hj]; exact h3) (hhf _ (Nat.mod_lt _ (by decide))) hod hsv) [0, 1, 2, 28, 29, 30, 31, 32, 33, 34, 35, 36, 37, 38, 39, 40, 7, 8, 9, 10, 11, 12, 13, 14, 15, 16, 17, 18, 19, 20] rfl (by decide) gL_law_L_pour rfl 6 (by decide +kernel) ⟨rfl, rfl, Nat.le_of_ble_eq_true rfl, Nat.le_of_ble_eq_true rfl⟩ rfl rfl dL_law_322 ⟨Nat.le_of_succ_le hfc.1, Nat.le_trans (Nat.le_add_right slots 6) hfc.2⟩ rfl rfl (fun H locs hP hD hS => ?_)
  rw [k_sz hsv] at hP hD
  refine lv_istore (lv' := (6, .int 0) :: lv0 b ad i) hx hb dL_law_325 hl (by decide) rfl (fun ls hl => ?_)
  refine lv_aload_n hx hb dL_law_327 rfl (lv_at hl 3 rfl) ?_
  refine lg_arg C hS 1 hi (by decide) (lv_at hl 1 rfl) (lv_at hl 6 rfl) e1 (by decide) dL_law_328 dL_law_329 dL_law_331 dL_law_332 dL_law_333 ?_
  refine lg_arg C hS 2 hi (by decide) (lv_at hl 1 rfl) (lv_at hl 6 rfl) e2 (by decide) dL_law_334 dL_law_335 dL_law_337 dL_law_338 dL_law_339 ?_
  refine lg_arg C hS 3 hi (by decide) (lv_at hl 1 rfl) (lv_at hl 6 rfl) e3 (by decide) dL_law_340 dL_law_341 dL_law_343 dL_law_344 dL_law_345 ?_
  refine lg_arg C hS 4 hi (by decide) (lv_at hl 1 rfl) (lv_at hl 6 rfl) rfl (by decide) dL_law_346 dL_law_347 dL_law_349 dL_law_350 dL_law_351 ?_
  refine lg_mi C hl.1 (rest := []) (F := (lF ac ad n hf (kOd od sv) (mSv sv + 1) ln tx gs (cV z) (cW z) (if j1 = 0 then qPut (qV z 0) s1 k1 (xs (i + 4)) else (qV z 0)) (if j1 = 1 then qPut (qV z 1) s1 k1 (xs (i + 4)) else (qV z 1)) (if j1 = 2 then qPut (qV z 2) s1 k1 (xs (i + 4)) else (qV z 2)) (upd (cP z) k1 ((cP z) k1 + (xs (i + 4)))) (cR z) (z 160) (z 161) (updL of 0 ((qIn (qPut (zG j1 (qV z 0) (qV z 1) (qV z 2)) s1 k1 (xs (i + 4))) s1).toInt64)) og th sv ln stp po t9 hh z sd tx az rd) ++ (lA ac (aa ((od + sv) % 6)) ((cV z)) ((cW z)) ((qV z 0)) ((qV z 1)) ((qV z 2)) ((cP z)) ((cR z)) ((z 160)) ((z 161)))) (F2 := (lF ac ad n hf (kOd od sv) (mSv sv + 1) ln tx gs (cV z) (cW z) (if j1 = 0 then qPut (qV z 0) s1 k1 (xs (i + 4)) else (qV z 0)) (if j1 = 1 then qPut (qV z 1) s1 k1 (xs (i + 4)) else (qV z 1)) (if j1 = 2 then qPut (qV z 2) s1 k1 (xs (i + 4)) else (qV z 2)) (upd (cP z) k1 ((cP z) k1 + (xs (i + 4)))) (cR z) (z 160) (z 161) (updL of 0 ((qIn (qPut (zG j1 (qV z 0) (qV z 1) (qV z 2)) s1 k1 (xs (i + 4))) s1).toInt64)) og 0 (mSv sv + 1) ln stp po t9 hh (mBring z j1 s1 k1 (xs (i + 4))) (mSave sd z sv) tx az rd) ++ (lA ac (aa ((od + sv) % 6)) ((cV z)) ((cW z)) ((qV z 0)) ((qV z 1)) ((qV z 2)) ((cP z)) ((cR z)) ((z 160)) ((z 161)))) hP hD hS (metX6_pour_0 l D ac _ (ad 9) (ad 10) (ad 11) (ad 12) (ad 13) (ad 14) th sv ln stp po t9 hh z sd tx az rd j1 s1 k1 (xs (i + 4)) hj hs hk h2 h3 hsv) [22, 23, 24, 25, 26, 27] rfl (by decide) gL_law_X6_pour rfl 4 (by decide +kernel) ⟨rfl, rfl, Nat.le_of_ble_eq_true rfl, Nat.le_of_ble_eq_true rfl⟩ 22 6 rfl rfl rfl rfl rfl (Nat.zero_le _) dL_law_352 ⟨by have := hfc.1; omega, by have := hfc.2; omega⟩ rfl rfl (fun H locs hP hD hS => ?_)
  refine lv_istore (lv' := (7, .int (qIn (qV (mBring z j1 s1 k1 (xs (i + 4))) j1) s1)) :: (6, .int 0) :: lv0 b ad i) hx hb dL_law_355 hl (by decide) rfl (fun ls hl => ?_)
  rw [List.append_assoc] at hP hD
  have hv := w_pour hG hj hs hk h2 h3
  refine lg_t0 (tgt := 1693) C ⟨by have := hfc.1; omega, by have := hfc.2; omega⟩ (hv.2.2) hP hl dL_law_357 dL_law_358 dL_law_361 dL_law_363 dL_law_368 dL_law_370 dL_law_373 dL_law_374 dL_law_375 dL_law_376 dL_law_378 dL_law_379 dL_law_380 dL_law_385 (by decide) ?_
  refine W.widen (k := cells + 1) (n := slots + 6) (by omega) (by omega) ?_
  exact kk _ _ _ (lV_save hG hGZ hR hod hsv hln hv.2.1 (lI_mk hv.1 hP hD hS)) (lv_sub hl [2, 3, 4, 5, 6, 7] rfl)
set_option maxRecDepth 100000 in
set_option maxHeartbeats 4000000 in
theorem lc_pour_1 (C : lCx p l s m args c b L xs D ac A tl tg) (hi : i + 5 ≤ L) (hfc : cells + 1 ≤ room_1.cells ∧ slots + 6 ≤ room_1.slots) (hhf : ∀ q, q < 6 → hf q = some (aa q 0)) (hG : mGood z) (hGZ : ∀ i, i < 6 → mGood (Z i)) (hR : zRing sd Z od sv) (hod : od < 6) (hsv : sv ≤ 6) (hln : ln ≤ 60) (hr : r < 6) (hI : lI D ac A ad n hf s.heap (lB ac (aa r) (Z r) ++ lR ac aa Z r) od sv ln z sd tx H locs) (hl : lv_has ls 9 (lv0 b ad i)) (kk : ∀ (H : Heap) (locs : List Loc) (ls : Array Slot), lV D ac A ad n hf aa s.heap H locs → lv_has ls 9 (lv0 b ad i) → W p l e room_1 s m args below meth c H locs (cells + 1) (slots + 6) Q (F0 m 1693 ls [])) (h1 : ¬ ((0 ≤ (xs (i + 1)) ∧ (xs (i + 1)) ≤ 2) ∧ (0 ≤ (xs (i + 2)) ∧ (xs (i + 2)) ≤ 11) ∧ (0 ≤ (xs (i + 3)) ∧ (xs (i + 3)) ≤ 3))) : W p l e room_1 s m args below meth c H locs cells slots Q (F0 m 296 ls []) := by
  obtain ⟨gs, az, rd, of, og, th, t9, stp, po, hh, hP, hD, hS⟩ := hI
  have hx := C.1.1
  have hb := C.1.2.1
  obtain ⟨sa, hsa⟩ := C.2.2.2.2.2.2.2.2.2 (255, "there is no such jar, slice, class or setting") (List.mem_of_getElem? (i := 5) rfl)
  refine lv_aload_n hx hb dL_law_296 rfl (lv_at hl 1 rfl) ?_
  refine lg_arg C hS 1 hi (by decide) (lv_at hl 0 rfl) (lv_at hl 5 rfl) rfl (by decide) dL_law_297 dL_law_298 dL_law_300 dL_law_301 dL_law_302 ?_
  refine lg_arg C hS 2 hi (by decide) (lv_at hl 0 rfl) (lv_at hl 5 rfl) rfl (by decide) dL_law_303 dL_law_304 dL_law_306 dL_law_307 dL_law_308 ?_
  refine lg_arg C hS 3 hi (by decide) (lv_at hl 0 rfl) (lv_at hl 5 rfl) rfl (by decide) dL_law_309 dL_law_310 dL_law_312 dL_law_313 dL_law_314 ?_
  refine lg_arg C hS 4 hi (by decide) (lv_at hl 0 rfl) (lv_at hl 5 rfl) rfl (by decide) dL_law_315 dL_law_316 dL_law_318 dL_law_319 dL_law_320 ?_
  refine lv_aload_n hx hb dL_law_321 rfl (lv_at hl 3 rfl) ?_
  refine lg_hT hsa (List.mem_of_getElem? (i := 0) rfl) C hl.1 (F := lF ac ad n hf od sv ln tx gs (cV z) (cW z) (qV z 0) (qV z 1) (qV z 2) (cP z) (cR z) (z 160) (z 161) of og th sv ln stp po t9 hh z sd tx az rd) (F2 := lF ac ad n hf od sv ln tx gs (cV z) (cW z) (qV z 0) (qV z 1) (qV z 2) (cP z) (cR z) (z 160) (z 161) of og th sv ln stp po t9 hh z sd tx az rd) hP hD hS (hlpL_pour_1 l D ac C.2.2.2.2.1 sa _ (ad 0) (xs (i + 1)) (xs (i + 2)) (xs (i + 3)) (xs (i + 4)) (n 0) (ad 1) (ad 3) (ad 5) (ad 7) of h1) [0, 20] rfl (by decide) gL_law_L_pour rfl 6 (by decide +kernel) ⟨rfl, rfl, Nat.le_of_ble_eq_true rfl, Nat.le_of_ble_eq_true rfl⟩ rfl rfl dL_law_322 hfc rfl rfl (fun H locs hP hD hS => ?_)
  refine lv_istore (lv' := (6, .int 1) :: lv0 b ad i) hx hb dL_law_325 hl (by decide) rfl (fun ls hl => ?_)
  refine lv_aload_n hx hb dL_law_327 rfl (lv_at hl 3 rfl) ?_
  refine lg_arg C hS 1 hi (by decide) (lv_at hl 1 rfl) (lv_at hl 6 rfl) rfl (by decide) dL_law_328 dL_law_329 dL_law_331 dL_law_332 dL_law_333 ?_
  refine lg_arg C hS 2 hi (by decide) (lv_at hl 1 rfl) (lv_at hl 6 rfl) rfl (by decide) dL_law_334 dL_law_335 dL_law_337 dL_law_338 dL_law_339 ?_
  refine lg_arg C hS 3 hi (by decide) (lv_at hl 1 rfl) (lv_at hl 6 rfl) rfl (by decide) dL_law_340 dL_law_341 dL_law_343 dL_law_344 dL_law_345 ?_
  refine lg_arg C hS 4 hi (by decide) (lv_at hl 1 rfl) (lv_at hl 6 rfl) rfl (by decide) dL_law_346 dL_law_347 dL_law_349 dL_law_350 dL_law_351 ?_
  refine lg_mi C hl.1 (rest := []) (F := lF ac ad n hf od sv ln tx gs (cV z) (cW z) (qV z 0) (qV z 1) (qV z 2) (cP z) (cR z) (z 160) (z 161) of og th sv ln stp po t9 hh z sd tx az rd) (F2 := lF ac ad n hf od sv ln tx gs (cV z) (cW z) (qV z 0) (qV z 1) (qV z 2) (cP z) (cR z) (z 160) (z 161) of og 1 sv ln stp po t9 hh z sd tx az rd) hP hD hS (metX6_pour_1 l D ac _ (ad 9) (ad 10) (ad 11) (ad 12) (ad 13) (ad 14) th sv ln stp po t9 hh z sd tx az rd (xs (i + 1)) (xs (i + 2)) (xs (i + 3)) (xs (i + 4)) h1) [22, 23, 24, 25, 26, 27] rfl (by decide) gL_law_X6_pour rfl 4 (by decide +kernel) ⟨rfl, rfl, Nat.le_of_ble_eq_true rfl, Nat.le_of_ble_eq_true rfl⟩ 22 6 rfl rfl rfl rfl rfl (Nat.zero_le _) dL_law_352 ⟨by have := hfc.1; omega, by have := hfc.2; omega⟩ rfl rfl (fun H locs hP hD hS => ?_)
  refine lv_istore (lv' := (7, .int 0) :: (6, .int 1) :: lv0 b ad i) hx hb dL_law_355 hl (by decide) rfl (fun ls hl => ?_)
  refine lg_tk (tgt := 1693) C ⟨by have := hfc.1; omega, by have := hfc.2; omega⟩ (k := 1) (by decide) hP hl dL_law_357 dL_law_358 dL_law_361 dL_law_363 dL_law_368 dL_law_370 dL_law_385 (by decide) ?_
  refine W.widen (k := cells + 1) (n := slots + 6) (by omega) (by omega) ?_
  exact kk _ _ _ ⟨z, sd, tx, Z, od, sv, ln, r, hG, hGZ, hR, hod, hsv, hln, hr, lI_mk (vEq_refl z) hP hD hS⟩ (lv_sub hl [2, 3, 4, 5, 6, 7] rfl)
set_option maxRecDepth 100000 in
set_option maxHeartbeats 4000000 in
theorem lc_pour_2 (C : lCx p l s m args c b L xs D ac A tl tg) (hi : i + 5 ≤ L) (hfc : cells + 1 ≤ room_1.cells ∧ slots + 6 ≤ room_1.slots) (hhf : ∀ q, q < 6 → hf q = some (aa q 0)) (hG : mGood z) (hGZ : ∀ i, i < 6 → mGood (Z i)) (hR : zRing sd Z od sv) (hod : od < 6) (hsv : sv ≤ 6) (hln : ln ≤ 60) (hr : r < 6) (hI : lI D ac A ad n hf s.heap (lB ac (aa r) (Z r) ++ lR ac aa Z r) od sv ln z sd tx H locs) (hl : lv_has ls 9 (lv0 b ad i)) (kk : ∀ (H : Heap) (locs : List Loc) (ls : Array Slot), lV D ac A ad n hf aa s.heap H locs → lv_has ls 9 (lv0 b ad i) → W p l e room_1 s m args below meth c H locs (cells + 1) (slots + 6) Q (F0 m 1693 ls [])) (j1 : Nat) (s1 : Nat) (k1 : Nat) (e1 : xs (i + 1) = nI j1) (e2 : xs (i + 2) = nI s1) (e3 : xs (i + 3) = nI k1) (hj : j1 < 3) (hs : s1 < 12) (hk : k1 < 4) (h2 : ¬ (1 ≤ (xs (i + 4)) ∧ (xs (i + 4)) ≤ 999)) : W p l e room_1 s m args below meth c H locs cells slots Q (F0 m 296 ls []) := by
  obtain ⟨gs, az, rd, of, og, th, t9, stp, po, hh, hP, hD, hS⟩ := hI
  have hx := C.1.1
  have hb := C.1.2.1
  obtain ⟨sa, hsa⟩ := C.2.2.2.2.2.2.2.2.2 (258, "an argument is out of range") (List.mem_of_getElem? (i := 6) rfl)
  refine lv_aload_n hx hb dL_law_296 rfl (lv_at hl 1 rfl) ?_
  refine lg_arg C hS 1 hi (by decide) (lv_at hl 0 rfl) (lv_at hl 5 rfl) e1 (by decide) dL_law_297 dL_law_298 dL_law_300 dL_law_301 dL_law_302 ?_
  refine lg_arg C hS 2 hi (by decide) (lv_at hl 0 rfl) (lv_at hl 5 rfl) e2 (by decide) dL_law_303 dL_law_304 dL_law_306 dL_law_307 dL_law_308 ?_
  refine lg_arg C hS 3 hi (by decide) (lv_at hl 0 rfl) (lv_at hl 5 rfl) e3 (by decide) dL_law_309 dL_law_310 dL_law_312 dL_law_313 dL_law_314 ?_
  refine lg_arg C hS 4 hi (by decide) (lv_at hl 0 rfl) (lv_at hl 5 rfl) rfl (by decide) dL_law_315 dL_law_316 dL_law_318 dL_law_319 dL_law_320 ?_
  refine lv_aload_n hx hb dL_law_321 rfl (lv_at hl 3 rfl) ?_
  refine lg_hT hsa (List.mem_of_getElem? (i := 1) rfl) C hl.1 (F := lF ac ad n hf od sv ln tx gs (cV z) (cW z) (qV z 0) (qV z 1) (qV z 2) (cP z) (cR z) (z 160) (z 161) of og th sv ln stp po t9 hh z sd tx az rd) (F2 := lF ac ad n hf od sv ln tx gs (cV z) (cW z) (qV z 0) (qV z 1) (qV z 2) (cP z) (cR z) (z 160) (z 161) of og th sv ln stp po t9 hh z sd tx az rd) hP hD hS (hlpL_pour_2 l D ac C.2.2.2.2.1 sa _ (ad 0) j1 s1 k1 (xs (i + 4)) (n 0) (ad 1) (ad 3) (ad 5) (ad 7) of hj hs hk h2) [0, 20] rfl (by decide) gL_law_L_pour rfl 6 (by decide +kernel) ⟨rfl, rfl, Nat.le_of_ble_eq_true rfl, Nat.le_of_ble_eq_true rfl⟩ rfl rfl dL_law_322 hfc rfl rfl (fun H locs hP hD hS => ?_)
  refine lv_istore (lv' := (6, .int 2) :: lv0 b ad i) hx hb dL_law_325 hl (by decide) rfl (fun ls hl => ?_)
  refine lv_aload_n hx hb dL_law_327 rfl (lv_at hl 3 rfl) ?_
  refine lg_arg C hS 1 hi (by decide) (lv_at hl 1 rfl) (lv_at hl 6 rfl) e1 (by decide) dL_law_328 dL_law_329 dL_law_331 dL_law_332 dL_law_333 ?_
  refine lg_arg C hS 2 hi (by decide) (lv_at hl 1 rfl) (lv_at hl 6 rfl) e2 (by decide) dL_law_334 dL_law_335 dL_law_337 dL_law_338 dL_law_339 ?_
  refine lg_arg C hS 3 hi (by decide) (lv_at hl 1 rfl) (lv_at hl 6 rfl) e3 (by decide) dL_law_340 dL_law_341 dL_law_343 dL_law_344 dL_law_345 ?_
  refine lg_arg C hS 4 hi (by decide) (lv_at hl 1 rfl) (lv_at hl 6 rfl) rfl (by decide) dL_law_346 dL_law_347 dL_law_349 dL_law_350 dL_law_351 ?_
  refine lg_mi C hl.1 (rest := []) (F := lF ac ad n hf od sv ln tx gs (cV z) (cW z) (qV z 0) (qV z 1) (qV z 2) (cP z) (cR z) (z 160) (z 161) of og th sv ln stp po t9 hh z sd tx az rd) (F2 := lF ac ad n hf od sv ln tx gs (cV z) (cW z) (qV z 0) (qV z 1) (qV z 2) (cP z) (cR z) (z 160) (z 161) of og 2 sv ln stp po t9 hh z sd tx az rd) hP hD hS (metX6_pour_2 l D ac _ (ad 9) (ad 10) (ad 11) (ad 12) (ad 13) (ad 14) th sv ln stp po t9 hh z sd tx az rd j1 s1 k1 (xs (i + 4)) hj hs hk h2) [22, 23, 24, 25, 26, 27] rfl (by decide) gL_law_X6_pour rfl 4 (by decide +kernel) ⟨rfl, rfl, Nat.le_of_ble_eq_true rfl, Nat.le_of_ble_eq_true rfl⟩ 22 6 rfl rfl rfl rfl rfl (Nat.zero_le _) dL_law_352 ⟨by have := hfc.1; omega, by have := hfc.2; omega⟩ rfl rfl (fun H locs hP hD hS => ?_)
  refine lv_istore (lv' := (7, .int 0) :: (6, .int 2) :: lv0 b ad i) hx hb dL_law_355 hl (by decide) rfl (fun ls hl => ?_)
  refine lg_tk (tgt := 1693) C ⟨by have := hfc.1; omega, by have := hfc.2; omega⟩ (k := 2) (by decide) hP hl dL_law_357 dL_law_358 dL_law_361 dL_law_363 dL_law_368 dL_law_370 dL_law_385 (by decide) ?_
  refine W.widen (k := cells + 1) (n := slots + 6) (by omega) (by omega) ?_
  exact kk _ _ _ ⟨z, sd, tx, Z, od, sv, ln, r, hG, hGZ, hR, hod, hsv, hln, hr, lI_mk (vEq_refl z) hP hD hS⟩ (lv_sub hl [2, 3, 4, 5, 6, 7] rfl)
set_option maxRecDepth 100000 in
set_option maxHeartbeats 4000000 in
theorem lc_pour_3 (C : lCx p l s m args c b L xs D ac A tl tg) (hi : i + 5 ≤ L) (hfc : cells + 1 ≤ room_1.cells ∧ slots + 6 ≤ room_1.slots) (hhf : ∀ q, q < 6 → hf q = some (aa q 0)) (hG : mGood z) (hGZ : ∀ i, i < 6 → mGood (Z i)) (hR : zRing sd Z od sv) (hod : od < 6) (hsv : sv ≤ 6) (hln : ln ≤ 60) (hr : r < 6) (hI : lI D ac A ad n hf s.heap (lB ac (aa r) (Z r) ++ lR ac aa Z r) od sv ln z sd tx H locs) (hl : lv_has ls 9 (lv0 b ad i)) (kk : ∀ (H : Heap) (locs : List Loc) (ls : Array Slot), lV D ac A ad n hf aa s.heap H locs → lv_has ls 9 (lv0 b ad i) → W p l e room_1 s m args below meth c H locs (cells + 1) (slots + 6) Q (F0 m 1693 ls [])) (j1 : Nat) (s1 : Nat) (k1 : Nat) (e1 : xs (i + 1) = nI j1) (e2 : xs (i + 2) = nI s1) (e3 : xs (i + 3) = nI k1) (hj : j1 < 3) (hs : s1 < 12) (hk : k1 < 4) (h2 : 1 ≤ (xs (i + 4)) ∧ (xs (i + 4)) ≤ 999) (h3 : 5000 < qAll (qV z j1) + (xs (i + 4))) : W p l e room_1 s m args below meth c H locs cells slots Q (F0 m 296 ls []) := by
  obtain ⟨gs, az, rd, of, og, th, t9, stp, po, hh, hP, hD, hS⟩ := hI
  have hx := C.1.1
  have hb := C.1.2.1
  obtain ⟨sa, hsa⟩ := C.2.2.2.2.2.2.2.2.2 (260, "the jar would hold too many grains") (List.mem_of_getElem? (i := 7) rfl)
  refine lv_aload_n hx hb dL_law_296 rfl (lv_at hl 1 rfl) ?_
  refine lg_arg C hS 1 hi (by decide) (lv_at hl 0 rfl) (lv_at hl 5 rfl) e1 (by decide) dL_law_297 dL_law_298 dL_law_300 dL_law_301 dL_law_302 ?_
  refine lg_arg C hS 2 hi (by decide) (lv_at hl 0 rfl) (lv_at hl 5 rfl) e2 (by decide) dL_law_303 dL_law_304 dL_law_306 dL_law_307 dL_law_308 ?_
  refine lg_arg C hS 3 hi (by decide) (lv_at hl 0 rfl) (lv_at hl 5 rfl) e3 (by decide) dL_law_309 dL_law_310 dL_law_312 dL_law_313 dL_law_314 ?_
  refine lg_arg C hS 4 hi (by decide) (lv_at hl 0 rfl) (lv_at hl 5 rfl) rfl (by decide) dL_law_315 dL_law_316 dL_law_318 dL_law_319 dL_law_320 ?_
  refine lv_aload_n hx hb dL_law_321 rfl (lv_at hl 3 rfl) ?_
  refine lg_hT hsa (List.mem_of_getElem? (i := 2) rfl) C hl.1 (F := lF ac ad n hf od sv ln tx gs (cV z) (cW z) (qV z 0) (qV z 1) (qV z 2) (cP z) (cR z) (z 160) (z 161) of og th sv ln stp po t9 hh z sd tx az rd) (F2 := lF ac ad n hf od sv ln tx gs (cV z) (cW z) (qV z 0) (qV z 1) (qV z 2) (cP z) (cR z) (z 160) (z 161) of og th sv ln stp po t9 hh z sd tx az rd) hP hD hS (hlpL_pour_3 l D ac C.2.2.2.2.1 sa _ (ad 0) (n 0) (ad 1) (ad 3) (ad 5) (n 1) (n 2) (n 3) (n 4) (n 11) (n 12) (z 160) (z 161) (cV z) (cW z) (zJ3 (n 5) (n 6) (n 7)) (n (5 + j1)) (n (8 + j1)) (qV z j1) j1 s1 k1 (xs (i + 4)) (ad 7) of hj hs hk h2 h3 (z_jf hj)) [0, 7, 8, 9, 10, 11, 12 + 2 * j1, 13 + 2 * j1, 20] (by rcases z_cases3 hj with rfl | rfl | rfl <;> rfl) (by rcases z_cases3 hj with rfl | rfl | rfl <;> decide) gL_law_L_pour rfl 6 (by decide +kernel) ⟨rfl, rfl, Nat.le_of_ble_eq_true rfl, Nat.le_of_ble_eq_true rfl⟩ rfl rfl dL_law_322 hfc rfl (by rcases z_cases3 hj with rfl | rfl | rfl <;> rfl) (fun H locs hP hD hS => ?_)
  refine lv_istore (lv' := (6, .int 3) :: lv0 b ad i) hx hb dL_law_325 hl (by decide) rfl (fun ls hl => ?_)
  refine lv_aload_n hx hb dL_law_327 rfl (lv_at hl 3 rfl) ?_
  refine lg_arg C hS 1 hi (by decide) (lv_at hl 1 rfl) (lv_at hl 6 rfl) e1 (by decide) dL_law_328 dL_law_329 dL_law_331 dL_law_332 dL_law_333 ?_
  refine lg_arg C hS 2 hi (by decide) (lv_at hl 1 rfl) (lv_at hl 6 rfl) e2 (by decide) dL_law_334 dL_law_335 dL_law_337 dL_law_338 dL_law_339 ?_
  refine lg_arg C hS 3 hi (by decide) (lv_at hl 1 rfl) (lv_at hl 6 rfl) e3 (by decide) dL_law_340 dL_law_341 dL_law_343 dL_law_344 dL_law_345 ?_
  refine lg_arg C hS 4 hi (by decide) (lv_at hl 1 rfl) (lv_at hl 6 rfl) rfl (by decide) dL_law_346 dL_law_347 dL_law_349 dL_law_350 dL_law_351 ?_
  refine lg_mi C hl.1 (rest := []) (F := lF ac ad n hf od sv ln tx gs (cV z) (cW z) (qV z 0) (qV z 1) (qV z 2) (cP z) (cR z) (z 160) (z 161) of og th sv ln stp po t9 hh z sd tx az rd) (F2 := lF ac ad n hf od sv ln tx gs (cV z) (cW z) (qV z 0) (qV z 1) (qV z 2) (cP z) (cR z) (z 160) (z 161) of og 3 sv ln stp po t9 hh z sd tx az rd) hP hD hS (metX6_pour_3 l D ac _ (ad 9) (ad 10) (ad 11) (ad 12) (ad 13) (ad 14) th sv ln stp po t9 hh z sd tx az rd j1 s1 k1 (xs (i + 4)) hj hs hk h2 h3) [22, 23, 24, 25, 26, 27] rfl (by decide) gL_law_X6_pour rfl 4 (by decide +kernel) ⟨rfl, rfl, Nat.le_of_ble_eq_true rfl, Nat.le_of_ble_eq_true rfl⟩ 22 6 rfl rfl rfl rfl rfl (Nat.zero_le _) dL_law_352 ⟨by have := hfc.1; omega, by have := hfc.2; omega⟩ rfl rfl (fun H locs hP hD hS => ?_)
  refine lv_istore (lv' := (7, .int 0) :: (6, .int 3) :: lv0 b ad i) hx hb dL_law_355 hl (by decide) rfl (fun ls hl => ?_)
  refine lg_tk (tgt := 1693) C ⟨by have := hfc.1; omega, by have := hfc.2; omega⟩ (k := 3) (by decide) hP hl dL_law_357 dL_law_358 dL_law_361 dL_law_363 dL_law_368 dL_law_370 dL_law_385 (by decide) ?_
  refine W.widen (k := cells + 1) (n := slots + 6) (by omega) (by omega) ?_
  exact kk _ _ _ ⟨z, sd, tx, Z, od, sv, ln, r, hG, hGZ, hR, hod, hsv, hln, hr, lI_mk (vEq_refl z) hP hD hS⟩ (lv_sub hl [2, 3, 4, 5, 6, 7] rfl)
set_option maxRecDepth 100000 in
set_option maxHeartbeats 4000000 in
theorem lc_pour (C : lCx p l s m args c b L xs D ac A tl tg) (hi : i + 5 ≤ L) (hfc : cells + 1 ≤ room_1.cells ∧ slots + 6 ≤ room_1.slots) (hhf : ∀ q, q < 6 → hf q = some (aa q 0)) (hG : mGood z) (hGZ : ∀ i, i < 6 → mGood (Z i)) (hR : zRing sd Z od sv) (hod : od < 6) (hsv : sv ≤ 6) (hln : ln ≤ 60) (hr : r < 6) (hI : lI D ac A ad n hf s.heap (lB ac (aa r) (Z r) ++ lR ac aa Z r) od sv ln z sd tx H locs) (hl : lv_has ls 9 (lv0 b ad i)) (kk : ∀ (H : Heap) (locs : List Loc) (ls : Array Slot), lV D ac A ad n hf aa s.heap H locs → lv_has ls 9 (lv0 b ad i) → W p l e room_1 s m args below meth c H locs (cells + 1) (slots + 6) Q (F0 m 1693 ls [])) : W p l e room_1 s m args below meth c H locs cells slots Q (F0 m 296 ls []) := by
  replace hI := lI_front hr ((od + sv) % 6) (Nat.mod_lt _ (by decide)) hI
  replace hr : (od + sv) % 6 < 6 := Nat.mod_lt _ (by decide)
  by_cases t0 : (0 ≤ xs (i + 1) ∧ xs (i + 1) ≤ 2) ∧ (0 ≤ xs (i + 2) ∧ xs (i + 2) ≤ 11) ∧ (0 ≤ xs (i + 3) ∧ xs (i + 3) ≤ 3)
  · obtain ⟨t1, t2, t3⟩ := t0
    obtain ⟨j1, hq1, e1⟩ := z_nat (k := 2) (by decide) t1
    obtain ⟨s1, hq2, e2⟩ := z_nat (k := 11) (by decide) t2
    obtain ⟨k1, hq3, e3⟩ := z_nat (k := 3) (by decide) t3
    by_cases h2 : 1 ≤ xs (i + 4) ∧ xs (i + 4) ≤ 999
    · by_cases h3 : qAll (qV z j1) + xs (i + 4) ≤ 5000
      · exact lc_pour_0 C hi hfc hhf hG hGZ hR hod hsv hln hr hI hl kk rfl j1 s1 k1 e1 e2 e3 hq1 hq2 hq3 h2 h3
      · exact lc_pour_3 C hi hfc hhf hG hGZ hR hod hsv hln hr hI hl kk j1 s1 k1 e1 e2 e3 hq1 hq2 hq3 h2 (Int32.not_le.mp h3)
    · exact lc_pour_2 C hi hfc hhf hG hGZ hR hod hsv hln hr hI hl kk j1 s1 k1 e1 e2 e3 hq1 hq2 hq3 h2
  · exact lc_pour_1 C hi hfc hhf hG hGZ hR hod hsv hln hr hI hl kk t0
end LC
