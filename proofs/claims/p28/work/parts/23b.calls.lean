/-! the law's call of act; its other calls -/
section LAD
variable {p : Program} {l : Launch} {e : Env} {s : State} {m : MethodId} {args : Array Value} {below : List Frame} {meth : Method} {c : Code} {H : Heap} {locs : List Loc} {cells slots : Nat} {Q : State → Prop} {ls : Array Slot}
variable {D : va_G} {ac : Nat → ClassId} {A : Nat → Prop} {b L tl tg k : Nat} {xs : Nat → Int32} {ad n : Nat → Nat} {hf : Nat → Option Nat} {aa : Nat → Nat → Nat} {q9 x1 yv : Nat}
set_option maxRecDepth 100000 in
set_option maxHeartbeats 1000000 in
theorem law_act (C : lCx p l s m args c b L xs D ac A tl tg) (hls : ls.size = 11) (hfc : cells ≤ room_1.cells ∧ slots ≤ room_1.slots) (hhf : ∀ q, q < 6 → hf q = some (aa q 0)) (hV : lV D ac A ad n hf aa k s.heap H locs) (hk18 : k < 18) (hx1 : x1 < 2147483648) (hyv : yv < 2147483648) (hq4 : k < 4 → q9 = 0) (hq15 : q9 < 15) (kk : ∀ (H : Heap) (locs : List Loc), lV D ac A ad n hf aa (k + 1) s.heap H locs → W p l e room_1 s m args below meth c H locs cells slots Q (F0 m 180 ls [.int 1])) : W p l e room_1 s m args below meth c H locs cells slots Q (F0 m 177 ls [.ref (ad 11), .ref (ad 10), .ref (ad 9), .ref (ad 8), .ref (ad 7), .int (nI yv), .int (nI x1), .int (nI q9), .ref (ad 0)]) := by
  obtain ⟨z, gs, Z, od, sz, r, hG, hcons, h160, h0, h1, hod, hsz, hr, hP, hD, hS⟩ := hV
  obtain ⟨hP, hD⟩ := lV_front hr (Nat.mod_lt (od + sz) (show 0 < 6 by decide)) hP hD
  obtain ⟨j1, hj9, hj⟩ : ∃ j1, x1 / 2 % 3 = j1 ∧ j1 < 3 := ⟨_, rfl, by omega⟩
  obtain ⟨s1, hs9, hs⟩ : ∃ s1, x1 / 8 / 2 % 12 = s1 ∧ s1 < 12 := ⟨_, rfl, by omega⟩
  obtain ⟨k1, hk9, hk1⟩ : ∃ k1, yv / 2 % 4 = k1 ∧ k1 < 4 := ⟨_, rfl, by omega⟩
  by_cases c5 : q9 < 5
  · obtain ⟨m9, hm9⟩ : ∃ m9 : Nat, m9 = if x1 / 256 / 2 % 3 = 0 then 1 + yv / 4 / 2 % 999 else 1 + yv / 4 / 2 % 60 := ⟨_, rfl⟩
    have hm1 : 1 ≤ m9 ∧ m9 ≤ 999 := by rw [hm9]; split <;> omega
    by_cases h3 : qAll (zG j1 (qV z 0) (qV z 1) (qV z 2)) + nI m9 ≤ 5000
    · exact la_p C hls hfc hhf hG hcons h160 hod hsz hP hD hS hx1 hyv j1 s1 k1 m9 (c5) hj hj9 hs hs9 hk1 hk9 hm9 hm1 h3 kk
    · have hk0 : 1 ≤ k := by
        rcases Nat.lt_or_ge 0 k with q | q
        · exact q
        · refine absurd ?_ h3
          rw [w_zG hj, h0 (by omega) j1 hj, Int32.zero_add]
          exact nI_le (b := 5000) (by omega) (by omega)
      exact la_f C hls hfc hhf hG hcons h160 hod hsz hP hD hS hx1 hyv j1 s1 k1 m9 (c5) hj hj9 hs hs9 hk1 hk9 hm9 h3 (h1 hk0) kk
  have hk4 : 4 ≤ k := by
    rcases Nat.lt_or_ge k 4 with q | q
    · have := hq4 q
      omega
    · exact q
  by_cases c9 : q9 < 9
  · obtain ⟨t9, ht9⟩ : ∃ t9 : Nat, t9 = if x1 / 2 % 4 = 0 then 1 + yv / 2 % 100 else 1 + yv / 2 % 8 := ⟨_, rfl⟩
    have ht1 : 1 ≤ t9 ∧ t9 ≤ 100 := by rw [ht9]; split <;> omega
    have h2 : z 160 + nI t9 ≤ 10000 := by
      have b0 := hG.2.2.2.2.2.2.2
      have b3 : (nI t9).toInt = (t9 : Int) := nI_toInt (by omega)
      have h10 : (10000 : Int32).toInt = 10000 := by decide
      have b4 : (z 160 + nI t9).toInt = (z 160).toInt + t9 := by rw [fb_addI (by omega) (by omega), b3]
      rw [Int32.le_iff_toInt_le, b4, h10]
      omega
    exact la_s C hls hfc hhf hG hcons h160 hod hsz hP hD hS hx1 hyv t9 (⟨by omega, c9⟩) ht9 ht1 h2 kk
  by_cases c10 : q9 = 9
  · obtain ⟨b9, hb9⟩ : ∃ b9, s1 + yv / 2 % (12 - s1) = b9 := ⟨_, rfl⟩
    have hsb : s1 ≤ b9 ∧ b9 < 12 := by
      have := Nat.mod_lt (yv / 2) (show 0 < 12 - s1 by omega)
      omega
    exact la_t C hls hfc hhf hG hcons h160 hod hsz hP hD hS hx1 hyv j1 s1 b9 (c10) hj hj9 hs hs9 hb9 hsb kk
  by_cases c11 : q9 = 10
  · obtain ⟨p9, hp9, hp1⟩ : ∃ p9, 1 + yv / 2 % 100 = p9 ∧ (1 ≤ p9 ∧ p9 ≤ 100) := ⟨_, rfl, by omega⟩
    exact la_d C hls hfc hhf hG hcons h160 hod hsz hP hD hS hx1 hyv j1 s1 p9 (c11) hj hj9 hs hs9 hp9 hp1 kk
  by_cases c12 : q9 = 11
  · obtain ⟨j2, hj8, hj2⟩ : ∃ j2, (j1 + 1 + yv / 2 % 2) % 3 = j2 ∧ j2 < 3 := ⟨_, rfl, by omega⟩
    have hne : ¬ j1 = j2 := by omega
    by_cases h3 : qAll (zG j2 (qV z 0) (qV z 1) (qV z 2)) + qTo (zG j1 (qV z 0) (qV z 1) (qV z 2)) (s1 + 1) ≤ 5000
    · exact la_e C hls hfc hhf hG hcons h160 hod hsz hP hD hS hx1 hyv j1 j2 s1 (c12) hj hj9 hs hs9 hj2 hj8 hne h3 kk
    · exact la_g C hls hfc hhf hG hcons h160 hod hsz hP hD hS hx1 hyv j1 j2 s1 (c12) hj hj9 hs hs9 hj2 hj8 hne h3 (h1 (by omega)) kk
  by_cases c13 : q9 = 12
  · exact la_u C hls hfc hhf hG hcons h160 hod hsz hP hD hS hx1 hyv j1 (c13) hj hj9 kk
  by_cases c14 : q9 = 13
  · obtain ⟨v9, hv9, hv1⟩ : ∃ v9, 1 + yv / 8 / 2 % 100 = v9 ∧ (1 ≤ v9 ∧ v9 ≤ 100) := ⟨_, rfl, by omega⟩
    exact la_v C hls hfc hhf hG hcons h160 hod hsz hP hD hS hx1 hyv k1 v9 (c14) hk1 hk9 hv9 hv1 kk
  obtain ⟨v9, hv9⟩ : ∃ v9 : Nat, v9 = if k1 = 0 then yv / 8 / 2 % 1001 else if k1 = 1 then (if x1 / 2 % 2 = 0 then 10 + yv / 8 / 2 % 991 else 10 + yv / 8 / 2 % 90) else if k1 = 2 then yv / 8 / 2 % 51 else yv / 8 / 2 % 10 := ⟨_, rfl⟩
  have hv1 : qLo k1 ≤ nI v9 ∧ nI v9 ≤ qUp k1 := by
    rcases z_cases4 hk1 with e | e | e | e
    · rw [e, if_pos rfl] at hv9
      rw [e]
      exact ⟨nI_le (a := 0) (b := v9) (by omega) (by omega), nI_le (a := v9) (b := 1000) (by omega) (by omega)⟩
    · rw [e, if_neg (by decide), if_pos rfl] at hv9
      have h9 : 10 ≤ v9 ∧ v9 ≤ 1000 := by rw [hv9]; split <;> omega
      rw [e]
      exact ⟨nI_le (a := 10) (b := v9) (by omega) (by omega), nI_le (a := v9) (b := 1000) (by omega) (by omega)⟩
    · rw [e, if_neg (by decide), if_neg (by decide), if_pos rfl] at hv9
      rw [e]
      exact ⟨nI_le (a := 0) (b := v9) (by omega) (by omega), nI_le (a := v9) (b := 50) (by omega) (by omega)⟩
    · rw [e, if_neg (by decide), if_neg (by decide), if_neg (by decide)] at hv9
      rw [e]
      exact ⟨nI_le (a := 0) (b := v9) (by omega) (by omega), nI_le (a := v9) (b := 9) (by omega) (by omega)⟩
  exact la_w C hls hfc hhf hG hcons h160 hod hsz hP hD hS hx1 hyv k1 v9 (⟨by omega, hq15⟩) hk1 hk9 hv9 hv1 kk
set_option maxRecDepth 100000 in
set_option maxHeartbeats 4000000 in
theorem law_told (C : lCx p l s m args c b L xs D ac A tl tg) (hls : ls.size = 11) (hfc : cells + 3 ≤ room_1.cells ∧ slots + 144 ≤ room_1.slots) {z gs : Nat → Int32} {od sz : Nat} {wr : va_W} (hG : mGood z) (hcons : lCons z) (hP : va_P D vwCl (lW ac ad n hf od sz gs z ++ wr) H) (hD : va_D A (lW ac ad n hf od sz gs z ++ wr)) (hS : va_S A s.heap H locs) (hx1 : x1 < 2147483648) {pc : Nat} (hdg : decode code pc = .ok (.invokestatic 117, 3)) (kk : ∀ (H : Heap) (locs : List Loc), va_P D vwCl (lW ac ad n hf od sz gs z ++ wr) H → va_D A (lW ac ad n hf od sz gs z ++ wr) → va_S A s.heap H locs → W p l e room_1 s m args below meth c H locs (cells + 3) (slots + 144) Q (F0 m (pc + 3) ls [.int 1])) : W p l e room_1 s m args below meth c H locs cells slots Q (F0 m pc ls [.ref (ad 11), .ref (ad 10), .ref (ad 9), .ref (ad 8), .ref (ad 7), .int (nI x1), .ref (ad 0)]) := by
  exact lg_s C hls (F := lW ac ad n hf od sz gs z) (F2 := lW ac ad n hf od sz gs z) hP hD hS (metL_told l D ac _ z (ad 0) (n 0) (ad 1) (ad 3) (ad 5) (ad 2) hf od sz (n 1) (n 2) (n 3) (n 4) (n 5) (n 6) (n 7) (n 8) (n 9) (n 10) (n 11) (n 12) (ad 7) (ad 8) (ad 9) (ad 10) (ad 11) x1 hG hcons hx1) [0, 1, 2, 5, 6, 7, 8, 9, 10, 11, 12, 13, 14, 15, 16, 17, 18, 19, 20, 21, 22] rfl (pre_S C.2.1 hP hD [0, 1, 2, 5, 6, 7, 8, 9, 10, 11, 12, 13, 14, 15, 16, 17, 18, 19, 20, 21, 22] rfl (by decide)) gL_law_L_told rfl 7 (by decide +kernel) ⟨rfl, rfl, Nat.le_of_ble_eq_true rfl, Nat.le_of_ble_eq_true rfl⟩ rfl rfl hdg hfc [.inr 0, .inr 1, .inr 2, .inl 3, .inl 4, .inr 3, .inr 4, .inr 5, .inr 6, .inr 7, .inr 8, .inr 9, .inr 10, .inr 11, .inr 12, .inr 13, .inr 14, .inr 15, .inr 16, .inr 17, .inr 18, .inr 19, .inr 20] (by decide) rfl rfl kk
set_option maxRecDepth 100000 in
set_option maxHeartbeats 4000000 in
theorem law_ahead0 (C : lCx p l s m args c b L xs D ac A tl tg) (hls : ls.size = 11) (hfc : cells + 1 ≤ room_1.cells ∧ slots + 48 ≤ room_1.slots) (hV : lV D ac A ad n hf aa k s.heap H locs) (hx1 : x1 < 2147483648) (hyv : yv < 2147483648) (kk : ∀ (H : Heap) (locs : List Loc), lV D ac A ad n hf aa k s.heap H locs → W p l e room_1 s m args below meth c H locs (cells + 1) (slots + 48) Q (F0 m 260 ls [.int 1])) : W p l e room_1 s m args below meth c H locs cells slots Q (F0 m 257 ls [.ref (ad 10), .ref (ad 7), .int (nI yv), .int (nI x1), .int (nI 0), .ref (ad 0)]) := by
  obtain ⟨z, gs, Z, od, sz, r, hG, hcons, h160, h0, h1, hod, hsz, hr, hP, hD, hS⟩ := hV
  refine lg_s C hls (F := lW ac ad n hf od sz gs z) (F2 := lW ac ad n hf od sz ((qRi (cV z) (cW z) 601 0 (qV z 0)).2) z) hP hD hS (metL_ahead l D ac _ z 0 (ad 0) (n 0) (ad 1) (ad 3) (ad 5) (n 1) (n 2) (n 3) (n 4) (n 11) (n 12) (z 160) (z 161) (zJ3 (n 5) (n 6) (n 7)) (n 5) (n 8) (ad 6) gs (ad 7) (ad 10) x1 yv (by decide) hG rfl hx1 hyv) [0, 5, 6, 7, 8, 9, 10, 11, 3, 4, 18, 21] rfl (pre_S C.2.1 hP hD [0, 5, 6, 7, 8, 9, 10, 11, 3, 4, 18, 21] rfl (by decide)) gL_law_L_ahead rfl 6 (by decide +kernel) ⟨rfl, rfl, Nat.le_of_ble_eq_true rfl, Nat.le_of_ble_eq_true rfl⟩ rfl rfl dL_law_257 hfc [.inr 0, .inl 1, .inl 2, .inr 8, .inr 9, .inr 1, .inr 2, .inr 3, .inr 4, .inr 5, .inr 6, .inr 7, .inl 12, .inl 13, .inl 14, .inl 15, .inl 16, .inl 17, .inr 10, .inl 19, .inl 20, .inr 11, .inl 22] (by decide) rfl rfl (fun H locs hP hD hS => ?_)
  exact kk _ _ ⟨z, _, Z, od, sz, r, hG, hcons, h160, h0, h1, hod, hsz, hr, hP, hD, hS⟩
set_option maxRecDepth 100000 in
set_option maxHeartbeats 4000000 in
theorem law_ahead1 (C : lCx p l s m args c b L xs D ac A tl tg) (hls : ls.size = 11) (hfc : cells + 1 ≤ room_1.cells ∧ slots + 48 ≤ room_1.slots) (hV : lV D ac A ad n hf aa k s.heap H locs) (hx1 : x1 < 2147483648) (hyv : yv < 2147483648) (kk : ∀ (H : Heap) (locs : List Loc), lV D ac A ad n hf aa k s.heap H locs → W p l e room_1 s m args below meth c H locs (cells + 1) (slots + 48) Q (F0 m 260 ls [.int 1])) : W p l e room_1 s m args below meth c H locs cells slots Q (F0 m 257 ls [.ref (ad 10), .ref (ad 8), .int (nI yv), .int (nI x1), .int (nI 1), .ref (ad 0)]) := by
  obtain ⟨z, gs, Z, od, sz, r, hG, hcons, h160, h0, h1, hod, hsz, hr, hP, hD, hS⟩ := hV
  refine lg_s C hls (F := lW ac ad n hf od sz gs z) (F2 := lW ac ad n hf od sz ((qRi (cV z) (cW z) 601 0 (qV z 1)).2) z) hP hD hS (metL_ahead l D ac _ z 1 (ad 0) (n 0) (ad 1) (ad 3) (ad 5) (n 1) (n 2) (n 3) (n 4) (n 11) (n 12) (z 160) (z 161) (zJ3 (n 5) (n 6) (n 7)) (n 6) (n 9) (ad 6) gs (ad 8) (ad 10) x1 yv (by decide) hG rfl hx1 hyv) [0, 5, 6, 7, 8, 9, 12, 13, 3, 4, 19, 21] rfl (pre_S C.2.1 hP hD [0, 5, 6, 7, 8, 9, 12, 13, 3, 4, 19, 21] rfl (by decide)) gL_law_L_ahead rfl 6 (by decide +kernel) ⟨rfl, rfl, Nat.le_of_ble_eq_true rfl, Nat.le_of_ble_eq_true rfl⟩ rfl rfl dL_law_257 hfc [.inr 0, .inl 1, .inl 2, .inr 8, .inr 9, .inr 1, .inr 2, .inr 3, .inr 4, .inr 5, .inl 10, .inl 11, .inr 6, .inr 7, .inl 14, .inl 15, .inl 16, .inl 17, .inl 18, .inr 10, .inl 20, .inr 11, .inl 22] (by decide) rfl rfl (fun H locs hP hD hS => ?_)
  exact kk _ _ ⟨z, _, Z, od, sz, r, hG, hcons, h160, h0, h1, hod, hsz, hr, hP, hD, hS⟩
set_option maxRecDepth 100000 in
set_option maxHeartbeats 4000000 in
theorem law_ahead2 (C : lCx p l s m args c b L xs D ac A tl tg) (hls : ls.size = 11) (hfc : cells + 1 ≤ room_1.cells ∧ slots + 48 ≤ room_1.slots) (hV : lV D ac A ad n hf aa k s.heap H locs) (hx1 : x1 < 2147483648) (hyv : yv < 2147483648) (kk : ∀ (H : Heap) (locs : List Loc), lV D ac A ad n hf aa k s.heap H locs → W p l e room_1 s m args below meth c H locs (cells + 1) (slots + 48) Q (F0 m 260 ls [.int 1])) : W p l e room_1 s m args below meth c H locs cells slots Q (F0 m 257 ls [.ref (ad 10), .ref (ad 9), .int (nI yv), .int (nI x1), .int (nI 2), .ref (ad 0)]) := by
  obtain ⟨z, gs, Z, od, sz, r, hG, hcons, h160, h0, h1, hod, hsz, hr, hP, hD, hS⟩ := hV
  refine lg_s C hls (F := lW ac ad n hf od sz gs z) (F2 := lW ac ad n hf od sz ((qRi (cV z) (cW z) 601 0 (qV z 2)).2) z) hP hD hS (metL_ahead l D ac _ z 2 (ad 0) (n 0) (ad 1) (ad 3) (ad 5) (n 1) (n 2) (n 3) (n 4) (n 11) (n 12) (z 160) (z 161) (zJ3 (n 5) (n 6) (n 7)) (n 7) (n 10) (ad 6) gs (ad 9) (ad 10) x1 yv (by decide) hG rfl hx1 hyv) [0, 5, 6, 7, 8, 9, 14, 15, 3, 4, 20, 21] rfl (pre_S C.2.1 hP hD [0, 5, 6, 7, 8, 9, 14, 15, 3, 4, 20, 21] rfl (by decide)) gL_law_L_ahead rfl 6 (by decide +kernel) ⟨rfl, rfl, Nat.le_of_ble_eq_true rfl, Nat.le_of_ble_eq_true rfl⟩ rfl rfl dL_law_257 hfc [.inr 0, .inl 1, .inl 2, .inr 8, .inr 9, .inr 1, .inr 2, .inr 3, .inr 4, .inr 5, .inl 10, .inl 11, .inl 12, .inl 13, .inr 6, .inr 7, .inl 16, .inl 17, .inl 18, .inl 19, .inr 10, .inr 11, .inl 22] (by decide) rfl rfl (fun H locs hP hD hS => ?_)
  exact kk _ _ ⟨z, _, Z, od, sz, r, hG, hcons, h160, h0, h1, hod, hsz, hr, hP, hD, hS⟩
set_option maxRecDepth 100000 in
set_option maxHeartbeats 4000000 in
/-- the saved states, counted -/
theorem law_count (C : lCx p l s m args c b L xs D ac A tl tg) (hls : ls.size = 11) (hfc : cells ≤ room_1.cells ∧ slots ≤ room_1.slots) {od sz : Nat} {gs z : Nat → Int32} {wr : va_W} (hP : va_P D vwCl (lW ac ad n hf od sz gs z ++ wr) H) {pc : Nat} (hdg : decode code pc = .ok (.invokevirtual 79, 3)) (kk : W p l e room_1 s m args below meth c H locs cells slots Q (F0 m (pc + 3) ls [.int (nI sz)])) : W p l e room_1 s m args below meth c H locs cells slots Q (F0 m pc ls [.int (nI 5), .ref (ad 0)]) := by
  obtain ⟨⟨hx, hb, hml, hown, hts⟩, hK, -⟩ := C
  have hP1 := z_Pl hP
  exact z_ci (z_vrun (w := lW ac ad n hf od sz gs z) (rest := []) (own := RL) (As := [.int (nI 5)]) hx hb hml hown hts hls hK hP1 [0, 5, 6, 7, 8, 9, 10, 11, 12, 13, 14, 15, 16, 17, 1, 2] rfl (metX5_count_0 l D ac (ad 0) (n 0) (ad 1) (ad 3) (ad 5) (n 1) (n 2) (n 3) (n 4) (n 5) (n 6) (n 7) (n 8) (n 9) (n 10) (n 11) (n 12) (cV z) (cW z) (qV z 0) (qV z 1) (qV z 2) (cP z) (cR z) (z 160) (z 161) (ad 2) hf od sz 5 (by decide)) gL_law_X5_count rfl 1 (by decide +kernel) ⟨rfl, rfl, Nat.le_of_ble_eq_true rfl, Nat.le_of_ble_eq_true rfl⟩ 0 5 rfl rfl rfl rfl rfl (Nat.le_of_ble_eq_true rfl) hdg hfc) kk
end LAD
