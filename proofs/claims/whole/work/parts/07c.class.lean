set_option maxRecDepth 100000 in
set_option maxHeartbeats 4000000 in
theorem metX0_placeBehind (l : Launch) (D : va_G) (ac : Nat → ClassId) (k1 : Nat) (x : Int32) (h_k1 : k1 < 8) : Met l yX0_placeBehind wsX0_placeBehind ({ frames := 1, cells := 0, slots := 0, locals := 20 } : Room) (va_Pc [.int (nI (k1)), .int (x)] (zW D ac [])) (zRi (zOI (qPl (some k1) x))) 0 0 (fun _ => False) := by
  refine z_ro (cc := cX0_placeBehind) (maxL := 2) (ret := (some .int)) (lv := [(0, .int (nI (k1))), (1, .int (x))]) (by decide) rfl (Nat.le_of_ble_eq_true rfl) rfl ?_
  intro p e s m args below meth c ls hx hb hr hml hown hts hlocks hl hK hP
  refine lv_iload_n hx hb dX0_placeBehind_0 rfl (lv_at hl 0 rfl) ?_
  obtain rfl | rfl | rfl | rfl | rfl | rfl | rfl | rfl := z_cases8 h_k1
  · refine lv_tableIn (off := 47) (tgt := 48) hx hb dX0_placeBehind_1 (by decide) (by decide) (by decide) (by decide) ?_
    refine lv_iload_n hx hb dX0_placeBehind_48 rfl (lv_at hl 1 rfl) ?_
    refine z_ci (z_srun (rest := []) (own := RX0) (As := [.int (x)]) hx hb hml hown hts hl.1 hK hP [] rfl (metX0_isDigit l D ac x ) gX0_placeBehind_X0_isDigit rfl 1 (by decide +kernel) ⟨rfl, rfl, Nat.le_of_ble_eq_true rfl, Nat.le_of_ble_eq_true rfl⟩ rfl rfl (Nat.le_of_ble_eq_true rfl) dX0_placeBehind_49 ⟨Nat.zero_le _, Nat.zero_le _⟩) ?_
    refine z_if_eq (C := 48 ≤ x ∧ x ≤ 57) (tgt := 65) hx hb dX0_placeBehind_52 (by decide) (fun c_52 => ?_) (fun c_52 => ?_)
    · refine lv_iconst (v := (-1)) hx hb dX0_placeBehind_65 (by decide) ?_
      exact z_iret hx hb hr hlocks ((by rw [show qPl (some 0) x = none from by simp only [qPl]; rw [if_neg (fun q => c_52 q.1)]]; rfl)) dX0_placeBehind_66
    · refine lv_iload_n hx hb dX0_placeBehind_55 rfl (lv_at hl 1 rfl) ?_
      refine lv_bipush (v := 48) hx hb dX0_placeBehind_56 (by decide) ?_
      refine lv_icmp_eq (tgt := 65) hx hb dX0_placeBehind_58 (by decide) (fun c_58 => ?_) (fun c_58 => ?_)
      · refine lv_iconst (v := (-1)) hx hb dX0_placeBehind_65 (by decide) ?_
        exact z_iret hx hb hr hlocks ((by rw [show qPl (some 0) x = none from by simp only [qPl]; rw [if_neg (fun q => q.2 c_58)]]; rfl)) dX0_placeBehind_66
      · refine lv_iconst (v := 1) hx hb dX0_placeBehind_61 (by decide) ?_
        refine lv_goto (tgt := 66) hx hb dX0_placeBehind_62 (by decide) ?_
        exact z_iret hx hb hr hlocks ((by rw [show qPl (some 0) x = some 1 from by simp only [qPl]; rw [if_pos ⟨c_52, c_58⟩]]; rfl)) dX0_placeBehind_66
  · refine lv_tableIn (off := 66) (tgt := 67) hx hb dX0_placeBehind_1 (by decide) (by decide) (by decide) (by decide) ?_
    refine lv_iload_n hx hb dX0_placeBehind_67 rfl (lv_at hl 1 rfl) ?_
    refine z_ci (z_srun (rest := []) (own := RX0) (As := [.int (x)]) hx hb hml hown hts hl.1 hK hP [] rfl (metX0_isDigit l D ac x ) gX0_placeBehind_X0_isDigit rfl 1 (by decide +kernel) ⟨rfl, rfl, Nat.le_of_ble_eq_true rfl, Nat.le_of_ble_eq_true rfl⟩ rfl rfl (Nat.le_of_ble_eq_true rfl) dX0_placeBehind_68 ⟨Nat.zero_le _, Nat.zero_le _⟩) ?_
    refine z_if_eq (C := 48 ≤ x ∧ x ≤ 57) (tgt := 78) hx hb dX0_placeBehind_71 (by decide) (fun c_71 => ?_) (fun c_71 => ?_)
    · refine lv_iload_n hx hb dX0_placeBehind_78 rfl (lv_at hl 1 rfl) ?_
      refine z_ci (z_srun (rest := []) (own := RX0) (As := [.int (x)]) hx hb hml hown hts hl.1 hK hP [] rfl (metX0_placeBehindNumber l D ac x ) gX0_placeBehind_X0_placeBehindNumber rfl 1 (by decide +kernel) ⟨rfl, rfl, Nat.le_of_ble_eq_true rfl, Nat.le_of_ble_eq_true rfl⟩ rfl rfl (Nat.le_of_ble_eq_true rfl) dX0_placeBehind_79 ⟨Nat.zero_le _, Nat.zero_le _⟩) ?_
      exact z_iret hx hb hr hlocks ((by rw [show qPl (some 1) x = qPn x from by simp only [qPl]; rw [if_neg c_71]])) dX0_placeBehind_82
    · refine lv_iconst (v := 2) hx hb dX0_placeBehind_74 (by decide) ?_
      refine lv_goto (tgt := 82) hx hb dX0_placeBehind_75 (by decide) ?_
      exact z_iret hx hb hr hlocks ((by rw [show qPl (some 1) x = some 2 from by simp only [qPl]; rw [if_pos c_71]]; rfl)) dX0_placeBehind_82
  · refine lv_tableIn (off := 82) (tgt := 83) hx hb dX0_placeBehind_1 (by decide) (by decide) (by decide) (by decide) ?_
    refine lv_iload_n hx hb dX0_placeBehind_83 rfl (lv_at hl 1 rfl) ?_
    refine z_ci (z_srun (rest := []) (own := RX0) (As := [.int (x)]) hx hb hml hown hts hl.1 hK hP [] rfl (metX0_isDigit l D ac x ) gX0_placeBehind_X0_isDigit rfl 1 (by decide +kernel) ⟨rfl, rfl, Nat.le_of_ble_eq_true rfl, Nat.le_of_ble_eq_true rfl⟩ rfl rfl (Nat.le_of_ble_eq_true rfl) dX0_placeBehind_84 ⟨Nat.zero_le _, Nat.zero_le _⟩) ?_
    refine z_if_eq (C := 48 ≤ x ∧ x ≤ 57) (tgt := 94) hx hb dX0_placeBehind_87 (by decide) (fun c_87 => ?_) (fun c_87 => ?_)
    · refine lv_iload_n hx hb dX0_placeBehind_94 rfl (lv_at hl 1 rfl) ?_
      refine z_ci (z_srun (rest := []) (own := RX0) (As := [.int (x)]) hx hb hml hown hts hl.1 hK hP [] rfl (metX0_placeBehindNumber l D ac x ) gX0_placeBehind_X0_placeBehindNumber rfl 1 (by decide +kernel) ⟨rfl, rfl, Nat.le_of_ble_eq_true rfl, Nat.le_of_ble_eq_true rfl⟩ rfl rfl (Nat.le_of_ble_eq_true rfl) dX0_placeBehind_95 ⟨Nat.zero_le _, Nat.zero_le _⟩) ?_
      exact z_iret hx hb hr hlocks ((by rw [show qPl (some 2) x = qPn x from by simp only [qPl]; rw [if_neg c_87]])) dX0_placeBehind_98
    · refine lv_iconst (v := 3) hx hb dX0_placeBehind_90 (by decide) ?_
      refine lv_goto (tgt := 98) hx hb dX0_placeBehind_91 (by decide) ?_
      exact z_iret hx hb hr hlocks ((by rw [show qPl (some 2) x = some 3 from by simp only [qPl]; rw [if_pos c_87]]; rfl)) dX0_placeBehind_98
  · refine lv_tableIn (off := 98) (tgt := 99) hx hb dX0_placeBehind_1 (by decide) (by decide) (by decide) (by decide) ?_
    refine lv_iload_n hx hb dX0_placeBehind_99 rfl (lv_at hl 1 rfl) ?_
    refine z_ci (z_srun (rest := []) (own := RX0) (As := [.int (x)]) hx hb hml hown hts hl.1 hK hP [] rfl (metX0_placeBehindNumber l D ac x ) gX0_placeBehind_X0_placeBehindNumber rfl 1 (by decide +kernel) ⟨rfl, rfl, Nat.le_of_ble_eq_true rfl, Nat.le_of_ble_eq_true rfl⟩ rfl rfl (Nat.le_of_ble_eq_true rfl) dX0_placeBehind_100 ⟨Nat.zero_le _, Nat.zero_le _⟩) ?_
    exact z_iret hx hb hr hlocks (rfl) dX0_placeBehind_103
  · refine lv_tableIn (off := 103) (tgt := 104) hx hb dX0_placeBehind_1 (by decide) (by decide) (by decide) (by decide) ?_
    refine lv_iload_n hx hb dX0_placeBehind_104 rfl (lv_at hl 1 rfl) ?_
    refine lv_bipush (v := 64) hx hb dX0_placeBehind_105 (by decide) ?_
    refine lv_icmp_ne (tgt := 114) hx hb dX0_placeBehind_107 (by decide) (fun c_107 => ?_) (fun c_107 => ?_)
    · refine lv_iload_n hx hb dX0_placeBehind_114 rfl (lv_at hl 1 rfl) ?_
      refine z_ci (z_srun (rest := []) (own := RX0) (As := [.int (x)]) hx hb hml hown hts hl.1 hK hP [] rfl (metX0_placeBehindPortion l D ac x ) gX0_placeBehind_X0_placeBehindPortion rfl 1 (by decide +kernel) ⟨rfl, rfl, Nat.le_of_ble_eq_true rfl, Nat.le_of_ble_eq_true rfl⟩ rfl rfl (Nat.le_of_ble_eq_true rfl) dX0_placeBehind_115 ⟨Nat.zero_le _, Nat.zero_le _⟩) ?_
      exact z_iret hx hb hr hlocks ((by rw [show qPl (some 4) x = qPp x from by simp only [qPl]; rw [if_neg c_107]])) dX0_placeBehind_118
    · refine lv_iconst (v := 5) hx hb dX0_placeBehind_110 (by decide) ?_
      refine lv_goto (tgt := 118) hx hb dX0_placeBehind_111 (by decide) ?_
      exact z_iret hx hb hr hlocks ((by rw [show qPl (some 4) x = some 5 from by simp only [qPl]; rw [if_pos c_107]]; rfl)) dX0_placeBehind_118
  · refine lv_tableIn (off := 118) (tgt := 119) hx hb dX0_placeBehind_1 (by decide) (by decide) (by decide) (by decide) ?_
    refine lv_iload_n hx hb dX0_placeBehind_119 rfl (lv_at hl 1 rfl) ?_
    refine lv_bipush (v := 49) hx hb dX0_placeBehind_120 (by decide) ?_
    refine lv_icmp_ne (tgt := 130) hx hb dX0_placeBehind_122 (by decide) (fun c_122 => ?_) (fun c_122 => ?_)
    · refine lv_iload_n hx hb dX0_placeBehind_130 rfl (lv_at hl 1 rfl) ?_
      refine z_ci (z_srun (rest := []) (own := RX0) (As := [.int (x)]) hx hb hml hown hts hl.1 hK hP [] rfl (metX0_isDigit l D ac x ) gX0_placeBehind_X0_isDigit rfl 1 (by decide +kernel) ⟨rfl, rfl, Nat.le_of_ble_eq_true rfl, Nat.le_of_ble_eq_true rfl⟩ rfl rfl (Nat.le_of_ble_eq_true rfl) dX0_placeBehind_131 ⟨Nat.zero_le _, Nat.zero_le _⟩) ?_
      refine z_if_eq (C := 48 ≤ x ∧ x ≤ 57) (tgt := 142) hx hb dX0_placeBehind_134 (by decide) (fun c_134 => ?_) (fun c_134 => ?_)
      · refine lv_iconst (v := (-1)) hx hb dX0_placeBehind_142 (by decide) ?_
        exact z_iret hx hb hr hlocks ((by rw [show qPl (some 5) x = none from by simp only [qPl]; rw [if_neg c_122]; rw [if_neg c_134]]; rfl)) dX0_placeBehind_143
      · refine lv_bipush (v := 7) hx hb dX0_placeBehind_137 (by decide) ?_
        refine lv_goto (tgt := 143) hx hb dX0_placeBehind_139 (by decide) ?_
        exact z_iret hx hb hr hlocks ((by rw [show qPl (some 5) x = some 7 from by simp only [qPl]; rw [if_neg c_122]; rw [if_pos c_134]]; rfl)) dX0_placeBehind_143
    · refine lv_bipush (v := 6) hx hb dX0_placeBehind_125 (by decide) ?_
      refine lv_goto (tgt := 143) hx hb dX0_placeBehind_127 (by decide) ?_
      exact z_iret hx hb hr hlocks ((by rw [show qPl (some 5) x = some 6 from by simp only [qPl]; rw [if_pos c_122]]; rfl)) dX0_placeBehind_143
  · refine lv_tableIn (off := 143) (tgt := 144) hx hb dX0_placeBehind_1 (by decide) (by decide) (by decide) (by decide) ?_
    refine lv_iload_n hx hb dX0_placeBehind_144 rfl (lv_at hl 1 rfl) ?_
    refine lv_bipush (v := 48) hx hb dX0_placeBehind_145 (by decide) ?_
    refine lv_icmp_eq (tgt := 156) hx hb dX0_placeBehind_147 (by decide) (fun c_147 => ?_) (fun c_147 => ?_)
    · refine lv_bipush (v := 7) hx hb dX0_placeBehind_156 (by decide) ?_
      refine lv_goto (tgt := 165) hx hb dX0_placeBehind_158 (by decide) ?_
      exact z_iret hx hb hr hlocks ((by rw [show qPl (some 6) x = some 7 from by simp only [qPl]; rw [if_pos (Or.inl c_147)]]; rfl)) dX0_placeBehind_165
    · refine lv_iload_n hx hb dX0_placeBehind_150 rfl (lv_at hl 1 rfl) ?_
      refine lv_bipush (v := 49) hx hb dX0_placeBehind_151 (by decide) ?_
      refine lv_icmp_ne (tgt := 161) hx hb dX0_placeBehind_153 (by decide) (fun c_153 => ?_) (fun c_153 => ?_)
      · refine lv_iload_n hx hb dX0_placeBehind_161 rfl (lv_at hl 1 rfl) ?_
        refine z_ci (z_srun (rest := []) (own := RX0) (As := [.int (x)]) hx hb hml hown hts hl.1 hK hP [] rfl (metX0_placeBehindPortion l D ac x ) gX0_placeBehind_X0_placeBehindPortion rfl 1 (by decide +kernel) ⟨rfl, rfl, Nat.le_of_ble_eq_true rfl, Nat.le_of_ble_eq_true rfl⟩ rfl rfl (Nat.le_of_ble_eq_true rfl) dX0_placeBehind_162 ⟨Nat.zero_le _, Nat.zero_le _⟩) ?_
        exact z_iret hx hb hr hlocks ((by rw [show qPl (some 6) x = qPp x from by simp only [qPl]; rw [if_neg (fun q => q.elim c_147 c_153)]])) dX0_placeBehind_165
      · refine lv_bipush (v := 7) hx hb dX0_placeBehind_156 (by decide) ?_
        refine lv_goto (tgt := 165) hx hb dX0_placeBehind_158 (by decide) ?_
        exact z_iret hx hb hr hlocks ((by rw [show qPl (some 6) x = some 7 from by simp only [qPl]; rw [if_pos (Or.inr c_153)]]; rfl)) dX0_placeBehind_165
  · refine lv_tableIn (off := 165) (tgt := 166) hx hb dX0_placeBehind_1 (by decide) (by decide) (by decide) (by decide) ?_
    refine lv_iload_n hx hb dX0_placeBehind_166 rfl (lv_at hl 1 rfl) ?_
    refine z_ci (z_srun (rest := []) (own := RX0) (As := [.int (x)]) hx hb hml hown hts hl.1 hK hP [] rfl (metX0_placeBehindPortion l D ac x ) gX0_placeBehind_X0_placeBehindPortion rfl 1 (by decide +kernel) ⟨rfl, rfl, Nat.le_of_ble_eq_true rfl, Nat.le_of_ble_eq_true rfl⟩ rfl rfl (Nat.le_of_ble_eq_true rfl) dX0_placeBehind_167 ⟨Nat.zero_le _, Nat.zero_le _⟩) ?_
    exact z_iret hx hb hr hlocks (rfl) dX0_placeBehind_170

set_option maxRecDepth 100000 in
set_option maxHeartbeats 4000000 in
theorem metX0_firstWrong (l : Launch) (D : va_G) (ac : Nat → ClassId) (ch : Nat) (cs : Nat) (tx : Nat → Int32) (ln : Nat) (hln : ln ≤ 60) : Met l yX0_firstWrong wsX0_firstWrong ({ frames := 2, cells := 0, slots := 0, locals := 41 } : Room) (va_Pc [.ref (ch)] (zW D ac [(ch, .inr (0, [.ref (cs), .int (nI (ln))])), (cs, .inl (ac 1, 60, .inl (tx)))])) (zRi (nI (qFw tx ln 0))) 0 0 (fun _ => False) := by
  refine z_ro (cc := cX0_firstWrong) (maxL := 3) (ret := (some .int)) (lv := [(0, .ref (ch))]) (by decide) rfl (Nat.le_of_ble_eq_true rfl) rfl ?_
  intro p e s m args below meth c ls hx hb hr hml hown hts hlocks hl hK hP
  refine lv_iconst (v := 0) hx hb dX0_firstWrong_0 (by decide) ?_
  refine lv_istore_n (lv' := [(1, .int (0)), (0, .ref (ch))]) hx hb dX0_firstWrong_1 rfl hl (by decide) rfl (fun ls hl => ?_)
  refine lv_iconst (v := 0) hx hb dX0_firstWrong_2 (by decide) ?_
  refine lv_istore_n (lv' := [(2, .int (0)), (1, .int (0)), (0, .ref (ch))]) hx hb dX0_firstWrong_3 rfl hl (by decide) rfl (fun ls hl => ?_)
  have hL_4 : ∀ (n : Nat) (i : Nat) (b : Nat), (i + n = ln) → (qFw tx ln 0 = qFw tx n i) → (qPls tx i = some b) → ∀ (ls : Array Slot), lv_has ls 3 [(2, .int (nI (i))), (1, .int (nI (b))), (0, .ref (ch))] → W p l e ({ frames := 2, cells := 0, slots := 0, locals := 41 } : Room) s m args below meth c s.heap [] 0 0 (MQ below (zRi (nI (qFw tx ln 0))) args s 0 0 (fun _ => False)) (F0 m 4 ls []) := by
    intro n
    induction n with
    | zero =>
      intro i b hi hR hq ls hl
      have e_i : ln = i := by omega
      subst e_i
      refine lv_iload_n hx hb dX0_firstWrong_4 rfl (lv_at hl 0 rfl) ?_
      refine lv_aload_n hx hb dX0_firstWrong_5 rfl (lv_at hl 2 rfl) ?_
      refine va_get (ci := 0) (v := .int (nI (ln))) (C := RX0) (T := TX0) (N := 2) hx hb hts (by decide +kernel) hown hK hP 0 rfl rfl 1 (by decide) (hts (.fieldLink RX0 15 "SettlingJars$Charge" "length" "I") (by decide +kernel)) (fun _ h9 => h9) rfl dX0_firstWrong_6 ?_
      refine z_icmp_ge (tgt := 36) hx hb (ln) (ln) dX0_firstWrong_9 (by decide) (by omega) (by omega) rfl rfl (fun c_9 => ?_) (fun c_9 => absurd c_9 (by omega))
      refine lv_aload_n hx hb dX0_firstWrong_36 rfl (lv_at hl 2 rfl) ?_
      refine va_get (ci := 0) (v := .int (nI (ln))) (C := RX0) (T := TX0) (N := 2) hx hb hts (by decide +kernel) hown hK hP 0 rfl rfl 1 (by decide) (hts (.fieldLink RX0 15 "SettlingJars$Charge" "length" "I") (by decide +kernel)) (fun _ h9 => h9) rfl dX0_firstWrong_37 ?_
      exact z_iret hx hb hr hlocks (congrArg nI hR.symm) dX0_firstWrong_40
    | succ n ih =>
      intro i b hi hR hq ls hl
      refine lv_iload_n hx hb dX0_firstWrong_4 rfl (lv_at hl 0 rfl) ?_
      refine lv_aload_n hx hb dX0_firstWrong_5 rfl (lv_at hl 2 rfl) ?_
      refine va_get (ci := 0) (v := .int (nI (ln))) (C := RX0) (T := TX0) (N := 2) hx hb hts (by decide +kernel) hown hK hP 0 rfl rfl 1 (by decide) (hts (.fieldLink RX0 15 "SettlingJars$Charge" "length" "I") (by decide +kernel)) (fun _ h9 => h9) rfl dX0_firstWrong_6 ?_
      refine z_icmp_ge (tgt := 36) hx hb (i) (ln) dX0_firstWrong_9 (by decide) (by omega) (by omega) rfl rfl (fun c_9 => absurd c_9 (by omega)) (fun c_9 => ?_)
      refine lv_iload_n hx hb dX0_firstWrong_12 rfl (lv_at hl 1 rfl) ?_
      refine lv_aload_n hx hb dX0_firstWrong_13 rfl (lv_at hl 2 rfl) ?_
      refine va_get (ci := 0) (v := .ref (cs)) (C := RX0) (T := TX0) (N := 2) hx hb hts (by decide +kernel) hown hK hP 0 rfl rfl 0 (by decide) (hts (.fieldLink RX0 11 "SettlingJars$Charge" "signs" "[C") (by decide +kernel)) (fun _ h9 => h9) rfl dX0_firstWrong_14 ?_
      refine lv_iload_n hx hb dX0_firstWrong_17 rfl (lv_at hl 0 rfl) ?_
      refine z_cald hx hb hK hP 1 rfl (i) (rfl) (by omega) (by decide) dX0_firstWrong_18 ?_
      refine z_ci (z_srun (rest := []) (own := RX0) (As := [.int (nI (b)), .int (tx i)]) hx hb hml hown hts hl.1 hK hP [] rfl (metX0_placeBehind l D ac b (tx i) (q_pls_lt tx _ _ hq)) gX0_firstWrong_X0_placeBehind rfl 2 (by decide +kernel) ⟨rfl, rfl, Nat.le_of_ble_eq_true rfl, Nat.le_of_ble_eq_true rfl⟩ rfl rfl (Nat.le_of_ble_eq_true rfl) dX0_firstWrong_19 ⟨Nat.zero_le _, Nat.zero_le _⟩) ?_
      refine lv_istore_n (lv' := [(1, .int (zOI (qPl (some b) (tx i)))), (2, .int (nI (i))), (0, .ref (ch))]) hx hb dX0_firstWrong_22 rfl hl (by decide) rfl (fun ls hl => ?_)
      refine lv_iload_n hx hb dX0_firstWrong_23 rfl (lv_at hl 0 rfl) ?_
      refine lv_iconst (v := (-1)) hx hb dX0_firstWrong_24 (by decide) ?_
      refine lv_icmp_ne (tgt := 30) hx hb dX0_firstWrong_25 (by decide) (fun c_25 => ?_) (fun c_25 => ?_)
      · obtain ⟨b2, hb2⟩ := z_oi_some c_25
        · have hb3 : qPls tx (i + 1) = some b2 := (congrArg (fun o => qPl o (tx i)) hq).trans hb2
          have e1 : zOI (qPl (some b) (tx i)) = nI b2 := congrArg zOI hb2
          refine lv_iinc (v := nI ((i) + 1)) (lv' := [(2, .int (nI ((i) + 1))), (1, .int (zOI (qPl (some b) (tx i)))), (0, .ref (ch))]) hx hb dX0_firstWrong_30 hl (k := 1) rfl (show nI (i) + Int32.ofInt 1 = _ from nI_add (i) 1) (by decide) rfl (fun ls hl => ?_)
          refine lv_goto (tgt := 4) hx hb dX0_firstWrong_33 (by decide) ?_
          exact ih (i + 1) (b2) (by omega) (hR.trans (if_neg (by rw [hb3]; exact fun q => by cases q))) (hb3) ls (by first | (rw [← e1]; exact lv_sub hl [0, 1, 2] rfl) | exact lv_sub hl [0, 1, 2] rfl)
      · refine lv_iload_n hx hb dX0_firstWrong_28 rfl (lv_at hl 1 rfl) ?_
        exact z_iret hx hb hr hlocks (congrArg nI (hR.trans (if_pos ((congrArg (fun o => qPl o (tx i)) hq).trans ((z_oi_none (fun b h => q_pl_lt h)).mp c_25)))).symm) dX0_firstWrong_29
  exact hL_4 (ln) (0) (0) (by omega) (rfl) (rfl) ls (lv_sub hl [0, 1, 2] rfl)

set_option maxRecDepth 100000 in
set_option maxHeartbeats 4000000 in
theorem metX0_isComplete (l : Launch) (D : va_G) (ac : Nat → ClassId) (ch : Nat) (cs : Nat) (tx : Nat → Int32) (ln : Nat) (hln : ln ≤ 60) : Met l yX0_isComplete wsX0_isComplete ({ frames := 2, cells := 0, slots := 0, locals := 41 } : Room) (va_Pc [.ref (ch)] (zW D ac [(ch, .inr (0, [.ref (cs), .int (nI (ln))])), (cs, .inl (ac 1, 60, .inl (tx)))])) (zRi (if qPls tx ln = some 4 ∨ qPls tx ln = some 6 ∨ qPls tx ln = some 7 then 1 else 0)) 0 0 (fun _ => False) := by
  refine z_ro (cc := cX0_isComplete) (maxL := 3) (ret := (some .boolean)) (lv := [(0, .ref (ch))]) (by decide) rfl (Nat.le_of_ble_eq_true rfl) rfl ?_
  intro p e s m args below meth c ls hx hb hr hml hown hts hlocks hl hK hP
  refine lv_iconst (v := 0) hx hb dX0_isComplete_0 (by decide) ?_
  refine lv_istore_n (lv' := [(1, .int (0)), (0, .ref (ch))]) hx hb dX0_isComplete_1 rfl hl (by decide) rfl (fun ls hl => ?_)
  refine lv_iconst (v := 0) hx hb dX0_isComplete_2 (by decide) ?_
  refine lv_istore_n (lv' := [(2, .int (0)), (1, .int (0)), (0, .ref (ch))]) hx hb dX0_isComplete_3 rfl hl (by decide) rfl (fun ls hl => ?_)
  have hL_4 : ∀ (n : Nat) (i : Nat) (o : Option Nat), (i + n = ln) → (qPls tx i = o) → ∀ (ls : Array Slot), lv_has ls 3 [(2, .int (nI (i))), (1, .int (zOI o)), (0, .ref (ch))] → W p l e ({ frames := 2, cells := 0, slots := 0, locals := 41 } : Room) s m args below meth c s.heap [] 0 0 (MQ below (zRi (if qPls tx ln = some 4 ∨ qPls tx ln = some 6 ∨ qPls tx ln = some 7 then 1 else 0)) args s 0 0 (fun _ => False)) (F0 m 4 ls []) := by
    intro n
    induction n with
    | zero =>
      intro i o hi ho ls hl
      have e_i : ln = i := by omega
      subst e_i
      refine lv_iload_n hx hb dX0_isComplete_4 rfl (lv_at hl 0 rfl) ?_
      refine lv_aload_n hx hb dX0_isComplete_5 rfl (lv_at hl 2 rfl) ?_
      refine va_get (ci := 0) (v := .int (nI (ln))) (C := RX0) (T := TX0) (N := 2) hx hb hts (by decide +kernel) hown hK hP 0 rfl rfl 1 (by decide) (hts (.fieldLink RX0 15 "SettlingJars$Charge" "length" "I") (by decide +kernel)) (fun _ h9 => h9) rfl dX0_isComplete_6 ?_
      refine z_icmp_ge (tgt := 29) hx hb (ln) (ln) dX0_isComplete_9 (by decide) (by omega) (by omega) rfl rfl (fun c_9 => ?_) (fun c_9 => absurd c_9 (by omega))
      refine lv_iload_n hx hb dX0_isComplete_29 rfl (lv_at hl 1 rfl) ?_
      refine lv_iconst (v := 4) hx hb dX0_isComplete_30 (by decide) ?_
      refine lv_icmp_eq (tgt := 46) hx hb dX0_isComplete_31 (by decide) (fun c_31 => ?_) (fun c_31 => ?_)
      · refine lv_iconst (v := 1) hx hb dX0_isComplete_46 (by decide) ?_
        refine lv_goto (tgt := 51) hx hb dX0_isComplete_47 (by decide) ?_
        exact z_zret hx hb hr hlocks (rfl) ((if_pos (Or.inl (ho.trans ((z_oi_eq (k := 4) (by decide) (fun b h => q_pls_lt tx _ b (ho.trans h))).mp c_31)))).symm) dX0_isComplete_51
      · refine lv_iload_n hx hb dX0_isComplete_34 rfl (lv_at hl 1 rfl) ?_
        refine lv_bipush (v := 6) hx hb dX0_isComplete_35 (by decide) ?_
        refine lv_icmp_eq (tgt := 46) hx hb dX0_isComplete_37 (by decide) (fun c_37 => ?_) (fun c_37 => ?_)
        · refine lv_iconst (v := 1) hx hb dX0_isComplete_46 (by decide) ?_
          refine lv_goto (tgt := 51) hx hb dX0_isComplete_47 (by decide) ?_
          exact z_zret hx hb hr hlocks (rfl) ((if_pos (Or.inr (Or.inl (ho.trans ((z_oi_eq (k := 6) (by decide) (fun b h => q_pls_lt tx _ b (ho.trans h))).mp c_37))))).symm) dX0_isComplete_51
        · refine lv_iload_n hx hb dX0_isComplete_40 rfl (lv_at hl 1 rfl) ?_
          refine lv_bipush (v := 7) hx hb dX0_isComplete_41 (by decide) ?_
          refine lv_icmp_ne (tgt := 50) hx hb dX0_isComplete_43 (by decide) (fun c_43 => ?_) (fun c_43 => ?_)
          · refine lv_iconst (v := 0) hx hb dX0_isComplete_50 (by decide) ?_
            exact z_zret hx hb hr hlocks (rfl) ((if_neg (fun q => q.elim (fun w => c_31 ((z_oi_eq (k := 4) (by decide) (fun b h => q_pls_lt tx _ b (ho.trans h))).mpr (ho.symm.trans w))) (fun q => q.elim (fun w => c_37 ((z_oi_eq (k := 6) (by decide) (fun b h => q_pls_lt tx _ b (ho.trans h))).mpr (ho.symm.trans w))) (fun w => c_43 ((z_oi_eq (k := 7) (by decide) (fun b h => q_pls_lt tx _ b (ho.trans h))).mpr (ho.symm.trans w)))))).symm) dX0_isComplete_51
          · refine lv_iconst (v := 1) hx hb dX0_isComplete_46 (by decide) ?_
            refine lv_goto (tgt := 51) hx hb dX0_isComplete_47 (by decide) ?_
            exact z_zret hx hb hr hlocks (rfl) ((if_pos (Or.inr (Or.inr (ho.trans ((z_oi_eq (k := 7) (by decide) (fun b h => q_pls_lt tx _ b (ho.trans h))).mp c_43))))).symm) dX0_isComplete_51
    | succ n ih =>
      intro i o hi ho ls hl
      refine lv_iload_n hx hb dX0_isComplete_4 rfl (lv_at hl 0 rfl) ?_
      refine lv_aload_n hx hb dX0_isComplete_5 rfl (lv_at hl 2 rfl) ?_
      refine va_get (ci := 0) (v := .int (nI (ln))) (C := RX0) (T := TX0) (N := 2) hx hb hts (by decide +kernel) hown hK hP 0 rfl rfl 1 (by decide) (hts (.fieldLink RX0 15 "SettlingJars$Charge" "length" "I") (by decide +kernel)) (fun _ h9 => h9) rfl dX0_isComplete_6 ?_
      refine z_icmp_ge (tgt := 29) hx hb (i) (ln) dX0_isComplete_9 (by decide) (by omega) (by omega) rfl rfl (fun c_9 => absurd c_9 (by omega)) (fun c_9 => ?_)
      rcases o with _ | b
      · refine lv_iload_n hx hb dX0_isComplete_12 rfl (lv_at hl 1 rfl) ?_
        refine z_top (y := (-1)) (rfl) ?_
        refine lv_aload_n hx hb dX0_isComplete_13 rfl (lv_at hl 2 rfl) ?_
        refine va_get (ci := 0) (v := .ref (cs)) (C := RX0) (T := TX0) (N := 2) hx hb hts (by decide +kernel) hown hK hP 0 rfl rfl 0 (by decide) (hts (.fieldLink RX0 11 "SettlingJars$Charge" "signs" "[C") (by decide +kernel)) (fun _ h9 => h9) rfl dX0_isComplete_14 ?_
        refine lv_iload_n hx hb dX0_isComplete_17 rfl (lv_at hl 0 rfl) ?_
        refine z_cald hx hb hK hP 1 rfl (i) (rfl) (by omega) (by decide) dX0_isComplete_18 ?_
        refine z_ci (z_srun (rest := []) (own := RX0) (As := [.int ((-1)), .int (tx i)]) hx hb hml hown hts hl.1 hK hP [] rfl (metX0_placeBehind_n l D ac (tx i) ) gX0_isComplete_X0_placeBehind rfl 2 (by decide +kernel) ⟨rfl, rfl, Nat.le_of_ble_eq_true rfl, Nat.le_of_ble_eq_true rfl⟩ rfl rfl (Nat.le_of_ble_eq_true rfl) dX0_isComplete_19 ⟨Nat.zero_le _, Nat.zero_le _⟩) ?_
        refine lv_istore_n (lv' := [(1, .int ((-1))), (2, .int (nI (i))), (0, .ref (ch))]) hx hb dX0_isComplete_22 rfl hl (by decide) rfl (fun ls hl => ?_)
        refine lv_iinc (v := nI ((i) + 1)) (lv' := [(2, .int (nI ((i) + 1))), (1, .int ((-1))), (0, .ref (ch))]) hx hb dX0_isComplete_23 hl (k := 1) rfl (show nI (i) + Int32.ofInt 1 = _ from nI_add (i) 1) (by decide) rfl (fun ls hl => ?_)
        refine lv_goto (tgt := 4) hx hb dX0_isComplete_26 (by decide) ?_
        exact ih (i + 1) (none) (by omega) (congrArg (fun none => qPl none (tx i)) ho) ls (lv_sub hl [0, 1, 2] rfl)
      · refine lv_iload_n hx hb dX0_isComplete_12 rfl (lv_at hl 1 rfl) ?_
        refine z_top (y := nI (b)) (rfl) ?_
        refine lv_aload_n hx hb dX0_isComplete_13 rfl (lv_at hl 2 rfl) ?_
        refine va_get (ci := 0) (v := .ref (cs)) (C := RX0) (T := TX0) (N := 2) hx hb hts (by decide +kernel) hown hK hP 0 rfl rfl 0 (by decide) (hts (.fieldLink RX0 11 "SettlingJars$Charge" "signs" "[C") (by decide +kernel)) (fun _ h9 => h9) rfl dX0_isComplete_14 ?_
        refine lv_iload_n hx hb dX0_isComplete_17 rfl (lv_at hl 0 rfl) ?_
        refine z_cald hx hb hK hP 1 rfl (i) (rfl) (by omega) (by decide) dX0_isComplete_18 ?_
        refine z_ci (z_srun (rest := []) (own := RX0) (As := [.int (nI (b)), .int (tx i)]) hx hb hml hown hts hl.1 hK hP [] rfl (metX0_placeBehind l D ac b (tx i) (q_pls_lt tx _ _ ho)) gX0_isComplete_X0_placeBehind rfl 2 (by decide +kernel) ⟨rfl, rfl, Nat.le_of_ble_eq_true rfl, Nat.le_of_ble_eq_true rfl⟩ rfl rfl (Nat.le_of_ble_eq_true rfl) dX0_isComplete_19 ⟨Nat.zero_le _, Nat.zero_le _⟩) ?_
        refine lv_istore_n (lv' := [(1, .int (zOI (qPl (some b) (tx i)))), (2, .int (nI (i))), (0, .ref (ch))]) hx hb dX0_isComplete_22 rfl hl (by decide) rfl (fun ls hl => ?_)
        refine lv_iinc (v := nI ((i) + 1)) (lv' := [(2, .int (nI ((i) + 1))), (1, .int (zOI (qPl (some b) (tx i)))), (0, .ref (ch))]) hx hb dX0_isComplete_23 hl (k := 1) rfl (show nI (i) + Int32.ofInt 1 = _ from nI_add (i) 1) (by decide) rfl (fun ls hl => ?_)
        refine lv_goto (tgt := 4) hx hb dX0_isComplete_26 (by decide) ?_
        exact ih (i + 1) (qPl (some b) (tx i)) (by omega) (congrArg (fun ((some b)) => qPl ((some b)) (tx i)) ho) ls (lv_sub hl [0, 1, 2] rfl)
  exact hL_4 (ln) (0) (some 0) (by omega) (rfl) ls (lv_sub hl [0, 1, 2] rfl)

set_option maxRecDepth 100000 in
set_option maxHeartbeats 4000000 in
theorem metX0_readPortion (l : Launch) (D : va_G) (ac : Nat → ClassId) (sz : Nat) (ch : Nat) (cs : Nat) (tx : Nat → Int32) (ln : Nat) (h0 : Nat) (g0 : Nat) (g : Nat → Int32) (a : Nat) (b : Nat) (hab : a ≤ b) (hb9 : b ≤ 60) (hok : rOk tx a b) : Met l yX0_readPortion wsX0_readPortion ({ frames := 1, cells := 0, slots := 0, locals := 23 } : Room) (va_Pc [.ref (ch), .int (nI (a)), .int (nI (b)), .ref (h0)] (zS D ac [(ch, .inr (0, [.ref (cs), .int (nI (ln))])), (cs, .inl (ac 1, 60, .inl (tx))), (h0, .inr (2, [.ref (g0)])), (g0, .inl (ac 0, 48, .inl (g)))] sz)) (zQv D ac [(ch, .inr (0, [.ref (cs), .int (nI (ln))])), (cs, .inl (ac 1, 60, .inl (tx))), (h0, .inr (2, [.ref (g0)])), (g0, .inl (ac 0, 48, .inl (g)))] [(ch, .inr (0, [.ref (cs), .int (nI (ln))])), (cs, .inl (ac 1, 60, .inl (tx))), (h0, .inr (2, [.ref (g0)])), (g0, .inl (ac 0, 48, .inl (rPut tx a b g)))] sz) 0 0 (va_A [(ch, .inr (0, [.ref (cs), .int (nI (ln))])), (cs, .inl (ac 1, 60, .inl (tx))), (h0, .inr (2, [.ref (g0)])), (g0, .inl (ac 0, 48, .inl (g)))] sz) := by
  refine z_rw (cc := cX0_readPortion) (maxL := 8) (ret := none) (lv := [(0, .ref (ch)), (1, .int (nI (a))), (2, .int (nI (b))), (3, .ref (h0))]) (by decide) rfl (Nat.le_of_ble_eq_true rfl) rfl ?_
  intro p e s m args below meth c ls A hx hb hr hml hown hts hlocks hl hK hP hsz hAe hA hD hS
  refine lv_iconst (v := 0) hx hb dX0_readPortion_0 (by decide) ?_
  refine lv_istore (lv' := [(4, .int (0)), (0, .ref (ch)), (1, .int (nI (a))), (2, .int (nI (b))), (3, .ref (h0))]) hx hb dX0_readPortion_1 hl (by decide) rfl (fun ls hl => ?_)
  refine lv_iload_n hx hb dX0_readPortion_3 rfl (lv_at hl 2 rfl) ?_
  refine lv_istore (lv' := [(5, .int (nI (a))), (4, .int (0)), (0, .ref (ch)), (1, .int (nI (a))), (2, .int (nI (b))), (3, .ref (h0))]) hx hb dX0_readPortion_4 hl (by decide) rfl (fun ls hl => ?_)
  have hL_6 : ∀ (n : Nat) (k : Nat) (y : Int32), (k + n = b) → (rNum tx b (b - a) a 0 = rNum tx b n k y) → ∀ (H : Heap) (locs : List Loc), va_P D vwCl [(ch, .inr (0, [.ref (cs), .int (nI (ln))])), (cs, .inl (ac 1, 60, .inl (tx))), (h0, .inr (2, [.ref (g0)])), (g0, .inl (ac 0, 48, .inl (g)))] H → va_D A [(ch, .inr (0, [.ref (cs), .int (nI (ln))])), (cs, .inl (ac 1, 60, .inl (tx))), (h0, .inr (2, [.ref (g0)])), (g0, .inl (ac 0, 48, .inl (g)))] → va_S A s.heap H locs → ∀ (ls : Array Slot), lv_has ls 8 [(5, .int (nI (k))), (4, .int (y)), (0, .ref (ch)), (1, .int (nI (a))), (2, .int (nI (b))), (3, .ref (h0))] → W p l e ({ frames := 1, cells := 0, slots := 0, locals := 23 } : Room) s m args below meth c H locs 0 0 (MQ below (zQv D ac [(ch, .inr (0, [.ref (cs), .int (nI (ln))])), (cs, .inl (ac 1, 60, .inl (tx))), (h0, .inr (2, [.ref (g0)])), (g0, .inl (ac 0, 48, .inl (g)))] [(ch, .inr (0, [.ref (cs), .int (nI (ln))])), (cs, .inl (ac 1, 60, .inl (tx))), (h0, .inr (2, [.ref (g0)])), (g0, .inl (ac 0, 48, .inl (rPut tx a b g)))] sz) args s 0 0 A) (F0 m 6 ls []) := by
    intro n
    induction n with
    | zero =>
      intro k y hk hR H locs hP hD hS ls hl
      have e_k : b = k := by omega
      subst e_k
      refine lv_iload hx hb dX0_readPortion_6 (lv_at hl 0 rfl) ?_
      refine lv_iload_n hx hb dX0_readPortion_8 rfl (lv_at hl 4 rfl) ?_
      refine z_icmp_ge (tgt := 49) hx hb (b) (b) dX0_readPortion_9 (by decide) (by omega) (by omega) rfl rfl (fun c_9 => ?_) (fun c_9 => absurd c_9 (by omega))
      have e1 : rNum tx b (b - a) a 0 = (b, y) := hR
      have e2 : rEnd tx a b = b := congrArg Prod.fst e1
      have e3 : rMany tx a b = y := congrArg Prod.snd e1
      have e4 : rSl tx a b = rSum tx (b + 2) (b - (b + 2)) := by unfold rSl; rw [e2]
      have e5 : rCls tx a b = 0 := by unfold rCls; rw [e2, if_neg (by omega)]
      refine lv_iload hx hb dX0_readPortion_49 (lv_at hl 0 rfl) ?_
      refine lv_iload_n hx hb dX0_readPortion_51 rfl (lv_at hl 4 rfl) ?_
      refine z_icmp_ge (tgt := 68) hx hb (b) (b) dX0_readPortion_52 (by decide) (by omega) (by omega) rfl rfl (fun c_52 => ?_) (fun c_52 => absurd c_52 (by omega))
      refine lv_iconst (v := 0) hx hb dX0_readPortion_68 (by decide) ?_
      refine lv_istore (lv' := [(6, .int (0)), (5, .int (nI (b))), (4, .int (y)), (0, .ref (ch)), (1, .int (nI (a))), (2, .int (nI (b))), (3, .ref (h0))]) hx hb dX0_readPortion_69 hl (by decide) rfl (fun ls hl => ?_)
      refine lv_iconst (v := 0) hx hb dX0_readPortion_71 (by decide) ?_
      refine lv_istore (lv' := [(7, .int (0)), (6, .int (0)), (5, .int (nI (b))), (4, .int (y)), (0, .ref (ch)), (1, .int (nI (a))), (2, .int (nI (b))), (3, .ref (h0))]) hx hb dX0_readPortion_72 hl (by decide) rfl (fun ls hl => ?_)
      refine lv_iload hx hb dX0_readPortion_74 (lv_at hl 2 rfl) ?_
      refine lv_iconst (v := 2) hx hb dX0_readPortion_76 (by decide) ?_
      refine lv_iadd hx hb dX0_readPortion_77 ?_
      refine z_top (y := nI ((b) + (2))) (nI_add (b) (2)) ?_
      refine lv_istore (lv' := [(5, .int (nI ((b) + (2)))), (7, .int (0)), (6, .int (0)), (4, .int (y)), (0, .ref (ch)), (1, .int (nI (a))), (2, .int (nI (b))), (3, .ref (h0))]) hx hb dX0_readPortion_78 hl (by decide) rfl (fun ls hl => ?_)
      have hL_80 : ∀ (n2 : Nat) (i : Nat), (i + n2 = b - (b + 2)) → ∀ (H : Heap) (locs : List Loc), va_P D vwCl [(ch, .inr (0, [.ref (cs), .int (nI (ln))])), (cs, .inl (ac 1, 60, .inl (tx))), (h0, .inr (2, [.ref (g0)])), (g0, .inl (ac 0, 48, .inl (g)))] H → va_D A [(ch, .inr (0, [.ref (cs), .int (nI (ln))])), (cs, .inl (ac 1, 60, .inl (tx))), (h0, .inr (2, [.ref (g0)])), (g0, .inl (ac 0, 48, .inl (g)))] → va_S A s.heap H locs → ∀ (ls : Array Slot), lv_has ls 8 [(5, .int (nI (b + 2 + i))), (7, .int (rSum tx (b + 2) i)), (6, .int (0)), (4, .int (y)), (0, .ref (ch)), (1, .int (nI (a))), (2, .int (nI (b))), (3, .ref (h0))] → W p l e ({ frames := 1, cells := 0, slots := 0, locals := 23 } : Room) s m args below meth c H locs 0 0 (MQ below (zQv D ac [(ch, .inr (0, [.ref (cs), .int (nI (ln))])), (cs, .inl (ac 1, 60, .inl (tx))), (h0, .inr (2, [.ref (g0)])), (g0, .inl (ac 0, 48, .inl (g)))] [(ch, .inr (0, [.ref (cs), .int (nI (ln))])), (cs, .inl (ac 1, 60, .inl (tx))), (h0, .inr (2, [.ref (g0)])), (g0, .inl (ac 0, 48, .inl (rPut tx a b g)))] sz) args s 0 0 A) (F0 m 80 ls []) := by
        intro n2
        induction n2 with
        | zero =>
          intro i hi H locs hP hD hS ls hl
          have e_i : b - (b + 2) = i := by omega
          subst e_i
          refine lv_iload hx hb dX0_readPortion_80 (lv_at hl 0 rfl) ?_
          refine lv_iload_n hx hb dX0_readPortion_82 rfl (lv_at hl 6 rfl) ?_
          refine z_icmp_ge (tgt := 110) hx hb (b + 2 + (b - (b + 2))) (b) dX0_readPortion_83 (by decide) (by omega) (by omega) rfl rfl (fun c_83 => ?_) (fun c_83 => absurd c_83 (by omega))
          refine lv_aload_n hx hb dX0_readPortion_110 rfl (lv_at hl 7 rfl) ?_
          refine lv_iload hx hb dX0_readPortion_111 (lv_at hl 1 rfl) ?_
          refine z_top (y := nI ((rSl tx a b).toNatClampNeg)) (e4.symm.trans hok.1) ?_
          refine lv_iload hx hb dX0_readPortion_113 (lv_at hl 2 rfl) ?_
          refine z_top (y := nI ((rCls tx a b).toNatClampNeg)) (e5.symm.trans hok.2.2.1) ?_
          refine lv_iload hx hb dX0_readPortion_115 (lv_at hl 3 rfl) ?_
          refine z_cvW [(ch, .inr (0, [.ref (cs), .int (nI (ln))])), (cs, .inl (ac 1, 60, .inl (tx))), (h0, .inr (2, [.ref (g0)])), (g0, .inl (ac 0, 48, .inl (qPut g ((rSl tx a b).toNatClampNeg) ((rCls tx a b).toNatClampNeg) y)))] (z_vrunW (rest := []) (own := RX0) (As := [.int (nI ((rSl tx a b).toNatClampNeg)), .int (nI ((rCls tx a b).toNatClampNeg)), .int (y)]) hx hb hml hown hts hl.1 hK hP hD [2, 3] rfl (by decide) rfl (metX2_put l D ac _ h0 g0 g ((rSl tx a b).toNatClampNeg) ((rCls tx a b).toNatClampNeg) y (hok.2.1) (hok.2.2.2)) gX0_readPortion_X2_put rfl 3 (by decide +kernel) ⟨rfl, rfl, Nat.le_of_ble_eq_true rfl, Nat.le_of_ble_eq_true rfl⟩ 2 2 rfl rfl rfl rfl rfl (Nat.le_of_ble_eq_true rfl) dX0_readPortion_117 ⟨Nat.zero_le _, Nat.zero_le _⟩) hP hD hS hA [2, 3] [0, 1] [0, 1, 2, 3] rfl rfl (by decide) (by decide) (by decide) rfl (fun H locs hP hD hS => ?_)
          have e6 : rPut tx a b g = qPut g (rSl tx a b).toNatClampNeg (rCls tx a b).toNatClampNeg y := congrArg (qPut g (rSl tx a b).toNatClampNeg (rCls tx a b).toNatClampNeg) e3
          have hP : va_P D vwCl [(ch, .inr (0, [.ref (cs), .int (nI (ln))])), (cs, .inl (ac 1, 60, .inl (tx))), (h0, .inr (2, [.ref (g0)])), (g0, .inl (ac 0, 48, .inl (rPut tx a b g)))] H := by rw [e6]; exact hP
          have hD : va_D A [(ch, .inr (0, [.ref (cs), .int (nI (ln))])), (cs, .inl (ac 1, 60, .inl (tx))), (h0, .inr (2, [.ref (g0)])), (g0, .inl (ac 0, 48, .inl (rPut tx a b g)))] := by rw [e6]; exact hD
          exact z_vretW hx hb hr hlocks hK hP hD hS hAe dX0_readPortion_120
        | succ n2 ih =>
          intro i hi H locs hP hD hS ls hl
          refine lv_iload hx hb dX0_readPortion_80 (lv_at hl 0 rfl) ?_
          refine lv_iload_n hx hb dX0_readPortion_82 rfl (lv_at hl 6 rfl) ?_
          refine z_icmp_ge (tgt := 110) hx hb (b + 2 + i) (b) dX0_readPortion_83 (by decide) (by omega) (by omega) rfl rfl (fun c_83 => absurd c_83 (by omega)) (fun c_83 => ?_)
          refine lv_iload hx hb dX0_readPortion_86 (lv_at hl 1 rfl) ?_
          refine lv_bipush (v := 10) hx hb dX0_readPortion_88 (by decide) ?_
          refine lv_imul hx hb dX0_readPortion_90 ?_
          refine lv_aload_n hx hb dX0_readPortion_91 rfl (lv_at hl 4 rfl) ?_
          refine va_get (ci := 0) (v := .ref (cs)) (C := RX0) (T := TX0) (N := 2) hx hb hts (by decide +kernel) hown hK hP 0 rfl rfl 0 (by decide) (hts (.fieldLink RX0 11 "SettlingJars$Charge" "signs" "[C") (by decide +kernel)) (fun _ h9 => h9) rfl dX0_readPortion_92 ?_
          refine lv_iload hx hb dX0_readPortion_95 (lv_at hl 0 rfl) ?_
          refine z_cald hx hb hK hP 1 rfl (b + 2 + i) (rfl) (by omega) (by decide) dX0_readPortion_97 ?_
          refine lv_bipush (v := 48) hx hb dX0_readPortion_98 (by decide) ?_
          refine lv_isub hx hb dX0_readPortion_100 ?_
          refine lv_iadd hx hb dX0_readPortion_101 ?_
          refine lv_istore (lv' := [(7, .int (((rSum tx (b + 2) i) * (10)) + ((tx (b + 2 + i)) - (48)))), (5, .int (nI (b + 2 + i))), (6, .int (0)), (4, .int (y)), (0, .ref (ch)), (1, .int (nI (a))), (2, .int (nI (b))), (3, .ref (h0))]) hx hb dX0_readPortion_102 hl (by decide) rfl (fun ls hl => ?_)
          refine lv_iinc (v := nI ((b + 2 + i) + 1)) (lv' := [(5, .int (nI ((b + 2 + i) + 1))), (7, .int (((rSum tx (b + 2) i) * (10)) + ((tx (b + 2 + i)) - (48)))), (6, .int (0)), (4, .int (y)), (0, .ref (ch)), (1, .int (nI (a))), (2, .int (nI (b))), (3, .ref (h0))]) hx hb dX0_readPortion_104 hl (b := 1) rfl (show nI (b + 2 + i) + Int32.ofInt 1 = _ from nI_add (b + 2 + i) 1) (by decide) rfl (fun ls hl => ?_)
          refine lv_goto (tgt := 80) hx hb dX0_readPortion_107 (by decide) ?_
          exact ih (i + 1) (by omega) _ _ hP hD hS ls (lv_sub hl [0, 1, 2, 3, 4, 5, 6, 7] rfl)
      exact hL_80 (b - (b + 2)) (0) (by omega) _ _ hP hD hS ls (lv_sub hl [0, 1, 2, 3, 4, 5, 6, 7] rfl)
    | succ n ih =>
      intro b y hk hR H locs hP hD hS ls hl
      refine lv_iload hx hb dX0_readPortion_6 (lv_at hl 0 rfl) ?_
      refine lv_iload_n hx hb dX0_readPortion_8 rfl (lv_at hl 4 rfl) ?_
      refine z_icmp_ge (tgt := 49) hx hb (k) (b) dX0_readPortion_9 (by decide) (by omega) (by omega) rfl rfl (fun c_9 => absurd c_9 (by omega)) (fun c_9 => ?_)
      refine lv_aload_n hx hb dX0_readPortion_12 rfl (lv_at hl 2 rfl) ?_
      refine va_get (ci := 0) (v := .ref (cs)) (C := RX0) (T := TX0) (N := 2) hx hb hts (by decide +kernel) hown hK hP 0 rfl rfl 0 (by decide) (hts (.fieldLink RX0 11 "SettlingJars$Charge" "signs" "[C") (by decide +kernel)) (fun _ h9 => h9) rfl dX0_readPortion_13 ?_
      refine lv_iload hx hb dX0_readPortion_16 (lv_at hl 0 rfl) ?_
      refine z_cald hx hb hK hP 1 rfl (k) (rfl) (by omega) (by decide) dX0_readPortion_18 ?_
      refine z_ci (z_srun (rest := []) (own := RX0) (As := [.int (tx k)]) hx hb hml hown hts hl.1 hK hP [] rfl (metX0_isDigit l D ac (tx k) ) gX0_readPortion_X0_isDigit rfl 1 (by decide +kernel) ⟨rfl, rfl, Nat.le_of_ble_eq_true rfl, Nat.le_of_ble_eq_true rfl⟩ rfl rfl (Nat.le_of_ble_eq_true rfl) dX0_readPortion_19 ⟨Nat.zero_le _, Nat.zero_le _⟩) ?_
      refine z_if_eq (C := 48 ≤ (tx k) ∧ (tx k) ≤ 57) (tgt := 49) hx hb dX0_readPortion_22 (by decide) (fun c_22 => ?_) (fun c_22 => ?_)
      · have e1 : rNum tx b (b - a) a 0 = (k, y) := hR.trans (if_neg c_22)
        have e2 : rEnd tx a b = k := congrArg Prod.fst e1
        have e3 : rMany tx a b = y := congrArg Prod.snd e1
        have e4 : rSl tx a b = rSum tx (k + 2) (b - (k + 2)) := by unfold rSl; rw [e2]
        have e5 : rCls tx a b = tx k - 97 := by unfold rCls; rw [e2, if_pos (by omega)]
        refine lv_iload hx hb dX0_readPortion_49 (lv_at hl 0 rfl) ?_
        refine lv_iload_n hx hb dX0_readPortion_51 rfl (lv_at hl 4 rfl) ?_
        refine z_icmp_ge (tgt := 68) hx hb (k) (b) dX0_readPortion_52 (by decide) (by omega) (by omega) rfl rfl (fun c_52 => absurd c_52 (by omega)) (fun c_52 => ?_)
        refine lv_aload_n hx hb dX0_readPortion_55 rfl (lv_at hl 2 rfl) ?_
        refine va_get (ci := 0) (v := .ref (cs)) (C := RX0) (T := TX0) (N := 2) hx hb hts (by decide +kernel) hown hK hP 0 rfl rfl 0 (by decide) (hts (.fieldLink RX0 11 "SettlingJars$Charge" "signs" "[C") (by decide +kernel)) (fun _ h9 => h9) rfl dX0_readPortion_56 ?_
        refine lv_iload hx hb dX0_readPortion_59 (lv_at hl 0 rfl) ?_
        refine z_cald hx hb hK hP 1 rfl (k) (rfl) (by omega) (by decide) dX0_readPortion_61 ?_
        refine lv_bipush (v := 97) hx hb dX0_readPortion_62 (by decide) ?_
        refine lv_isub hx hb dX0_readPortion_64 ?_
        refine lv_goto (tgt := 69) hx hb dX0_readPortion_65 (by decide) ?_
        refine lv_istore (lv' := [(6, .int ((tx k) - (97))), (5, .int (nI (k))), (4, .int (y)), (0, .ref (ch)), (1, .int (nI (a))), (2, .int (nI (b))), (3, .ref (h0))]) hx hb dX0_readPortion_69 hl (by decide) rfl (fun ls hl => ?_)
        refine lv_iconst (v := 0) hx hb dX0_readPortion_71 (by decide) ?_
        refine lv_istore (lv' := [(7, .int (0)), (6, .int ((tx k) - (97))), (5, .int (nI (k))), (4, .int (y)), (0, .ref (ch)), (1, .int (nI (a))), (2, .int (nI (b))), (3, .ref (h0))]) hx hb dX0_readPortion_72 hl (by decide) rfl (fun ls hl => ?_)
        refine lv_iload hx hb dX0_readPortion_74 (lv_at hl 2 rfl) ?_
        refine lv_iconst (v := 2) hx hb dX0_readPortion_76 (by decide) ?_
        refine lv_iadd hx hb dX0_readPortion_77 ?_
        refine z_top (y := nI ((k) + (2))) (nI_add (k) (2)) ?_
        refine lv_istore (lv' := [(5, .int (nI ((k) + (2)))), (7, .int (0)), (6, .int ((tx k) - (97))), (4, .int (y)), (0, .ref (ch)), (1, .int (nI (a))), (2, .int (nI (b))), (3, .ref (h0))]) hx hb dX0_readPortion_78 hl (by decide) rfl (fun ls hl => ?_)
        have hL_80 : ∀ (n2 : Nat) (i : Nat), (i + n2 = b - (k + 2)) → ∀ (H : Heap) (locs : List Loc), va_P D vwCl [(ch, .inr (0, [.ref (cs), .int (nI (ln))])), (cs, .inl (ac 1, 60, .inl (tx))), (h0, .inr (2, [.ref (g0)])), (g0, .inl (ac 0, 48, .inl (g)))] H → va_D A [(ch, .inr (0, [.ref (cs), .int (nI (ln))])), (cs, .inl (ac 1, 60, .inl (tx))), (h0, .inr (2, [.ref (g0)])), (g0, .inl (ac 0, 48, .inl (g)))] → va_S A s.heap H locs → ∀ (ls : Array Slot), lv_has ls 8 [(5, .int (nI (k + 2 + i))), (7, .int (rSum tx (k + 2) i)), (6, .int ((tx k) - (97))), (4, .int (y)), (0, .ref (ch)), (1, .int (nI (a))), (2, .int (nI (b))), (3, .ref (h0))] → W p l e ({ frames := 1, cells := 0, slots := 0, locals := 23 } : Room) s m args below meth c H locs 0 0 (MQ below (zQv D ac [(ch, .inr (0, [.ref (cs), .int (nI (ln))])), (cs, .inl (ac 1, 60, .inl (tx))), (h0, .inr (2, [.ref (g0)])), (g0, .inl (ac 0, 48, .inl (g)))] [(ch, .inr (0, [.ref (cs), .int (nI (ln))])), (cs, .inl (ac 1, 60, .inl (tx))), (h0, .inr (2, [.ref (g0)])), (g0, .inl (ac 0, 48, .inl (rPut tx a b g)))] sz) args s 0 0 A) (F0 m 80 ls []) := by
          intro n2
          induction n2 with
          | zero =>
            intro i hi H locs hP hD hS ls hl
            have e_i : b - (k + 2) = i := by omega
            subst e_i
            refine lv_iload hx hb dX0_readPortion_80 (lv_at hl 0 rfl) ?_
            refine lv_iload_n hx hb dX0_readPortion_82 rfl (lv_at hl 6 rfl) ?_
            refine z_icmp_ge (tgt := 110) hx hb (k + 2 + (b - (k + 2))) (b) dX0_readPortion_83 (by decide) (by omega) (by omega) rfl rfl (fun c_83 => ?_) (fun c_83 => absurd c_83 (by omega))
            refine lv_aload_n hx hb dX0_readPortion_110 rfl (lv_at hl 7 rfl) ?_
            refine lv_iload hx hb dX0_readPortion_111 (lv_at hl 1 rfl) ?_
            refine z_top (y := nI ((rSl tx a b).toNatClampNeg)) (e4.symm.trans hok.1) ?_
            refine lv_iload hx hb dX0_readPortion_113 (lv_at hl 2 rfl) ?_
            refine z_top (y := nI ((rCls tx a b).toNatClampNeg)) (e5.symm.trans hok.2.2.1) ?_
            refine lv_iload hx hb dX0_readPortion_115 (lv_at hl 3 rfl) ?_
            refine z_cvW [(ch, .inr (0, [.ref (cs), .int (nI (ln))])), (cs, .inl (ac 1, 60, .inl (tx))), (h0, .inr (2, [.ref (g0)])), (g0, .inl (ac 0, 48, .inl (qPut g ((rSl tx a b).toNatClampNeg) ((rCls tx a b).toNatClampNeg) y)))] (z_vrunW (rest := []) (own := RX0) (As := [.int (nI ((rSl tx a b).toNatClampNeg)), .int (nI ((rCls tx a b).toNatClampNeg)), .int (y)]) hx hb hml hown hts hl.1 hK hP hD [2, 3] rfl (by decide) rfl (metX2_put l D ac _ h0 g0 g ((rSl tx a b).toNatClampNeg) ((rCls tx a b).toNatClampNeg) y (hok.2.1) (hok.2.2.2)) gX0_readPortion_X2_put rfl 3 (by decide +kernel) ⟨rfl, rfl, Nat.le_of_ble_eq_true rfl, Nat.le_of_ble_eq_true rfl⟩ 2 2 rfl rfl rfl rfl rfl (Nat.le_of_ble_eq_true rfl) dX0_readPortion_117 ⟨Nat.zero_le _, Nat.zero_le _⟩) hP hD hS hA [2, 3] [0, 1] [0, 1, 2, 3] rfl rfl (by decide) (by decide) (by decide) rfl (fun H locs hP hD hS => ?_)
            have e6 : rPut tx a b g = qPut g (rSl tx a b).toNatClampNeg (rCls tx a b).toNatClampNeg y := congrArg (qPut g (rSl tx a b).toNatClampNeg (rCls tx a b).toNatClampNeg) e3
            have hP : va_P D vwCl [(ch, .inr (0, [.ref (cs), .int (nI (ln))])), (cs, .inl (ac 1, 60, .inl (tx))), (h0, .inr (2, [.ref (g0)])), (g0, .inl (ac 0, 48, .inl (rPut tx a b g)))] H := by rw [e6]; exact hP
            have hD : va_D A [(ch, .inr (0, [.ref (cs), .int (nI (ln))])), (cs, .inl (ac 1, 60, .inl (tx))), (h0, .inr (2, [.ref (g0)])), (g0, .inl (ac 0, 48, .inl (rPut tx a b g)))] := by rw [e6]; exact hD
            exact z_vretW hx hb hr hlocks hK hP hD hS hAe dX0_readPortion_120
          | succ n2 ih =>
            intro i hi H locs hP hD hS ls hl
            refine lv_iload hx hb dX0_readPortion_80 (lv_at hl 0 rfl) ?_
            refine lv_iload_n hx hb dX0_readPortion_82 rfl (lv_at hl 6 rfl) ?_
            refine z_icmp_ge (tgt := 110) hx hb (k + 2 + i) (b) dX0_readPortion_83 (by decide) (by omega) (by omega) rfl rfl (fun c_83 => absurd c_83 (by omega)) (fun c_83 => ?_)
            refine lv_iload hx hb dX0_readPortion_86 (lv_at hl 1 rfl) ?_
            refine lv_bipush (v := 10) hx hb dX0_readPortion_88 (by decide) ?_
            refine lv_imul hx hb dX0_readPortion_90 ?_
            refine lv_aload_n hx hb dX0_readPortion_91 rfl (lv_at hl 4 rfl) ?_
            refine va_get (ci := 0) (v := .ref (cs)) (C := RX0) (T := TX0) (N := 2) hx hb hts (by decide +kernel) hown hK hP 0 rfl rfl 0 (by decide) (hts (.fieldLink RX0 11 "SettlingJars$Charge" "signs" "[C") (by decide +kernel)) (fun _ h9 => h9) rfl dX0_readPortion_92 ?_
            refine lv_iload hx hb dX0_readPortion_95 (lv_at hl 0 rfl) ?_
            refine z_cald hx hb hK hP 1 rfl (k + 2 + i) (rfl) (by omega) (by decide) dX0_readPortion_97 ?_
            refine lv_bipush (v := 48) hx hb dX0_readPortion_98 (by decide) ?_
            refine lv_isub hx hb dX0_readPortion_100 ?_
            refine lv_iadd hx hb dX0_readPortion_101 ?_
            refine lv_istore (lv' := [(7, .int (((rSum tx (k + 2) i) * (10)) + ((tx (k + 2 + i)) - (48)))), (5, .int (nI (k + 2 + i))), (6, .int ((tx k) - (97))), (4, .int (y)), (0, .ref (ch)), (1, .int (nI (a))), (2, .int (nI (b))), (3, .ref (h0))]) hx hb dX0_readPortion_102 hl (by decide) rfl (fun ls hl => ?_)
            refine lv_iinc (v := nI ((k + 2 + i) + 1)) (lv' := [(5, .int (nI ((k + 2 + i) + 1))), (7, .int (((rSum tx (k + 2) i) * (10)) + ((tx (k + 2 + i)) - (48)))), (6, .int ((tx k) - (97))), (4, .int (y)), (0, .ref (ch)), (1, .int (nI (a))), (2, .int (nI (b))), (3, .ref (h0))]) hx hb dX0_readPortion_104 hl (k := 1) rfl (show nI (k + 2 + i) + Int32.ofInt 1 = _ from nI_add (k + 2 + i) 1) (by decide) rfl (fun ls hl => ?_)
            refine lv_goto (tgt := 80) hx hb dX0_readPortion_107 (by decide) ?_
            exact ih (i + 1) (by omega) _ _ hP hD hS ls (lv_sub hl [0, 1, 2, 3, 4, 5, 6, 7] rfl)
        exact hL_80 (b - (k + 2)) (0) (by omega) _ _ hP hD hS ls (lv_sub hl [0, 1, 2, 3, 4, 5, 6, 7] rfl)
      · refine lv_iload hx hb dX0_readPortion_25 (lv_at hl 1 rfl) ?_
        refine lv_bipush (v := 10) hx hb dX0_readPortion_27 (by decide) ?_
        refine lv_imul hx hb dX0_readPortion_29 ?_
        refine lv_aload_n hx hb dX0_readPortion_30 rfl (lv_at hl 2 rfl) ?_
        refine va_get (ci := 0) (v := .ref (cs)) (C := RX0) (T := TX0) (N := 2) hx hb hts (by decide +kernel) hown hK hP 0 rfl rfl 0 (by decide) (hts (.fieldLink RX0 11 "SettlingJars$Charge" "signs" "[C") (by decide +kernel)) (fun _ h9 => h9) rfl dX0_readPortion_31 ?_
        refine lv_iload hx hb dX0_readPortion_34 (lv_at hl 0 rfl) ?_
        refine z_cald hx hb hK hP 1 rfl (k) (rfl) (by omega) (by decide) dX0_readPortion_36 ?_
        refine lv_bipush (v := 48) hx hb dX0_readPortion_37 (by decide) ?_
        refine lv_isub hx hb dX0_readPortion_39 ?_
        refine lv_iadd hx hb dX0_readPortion_40 ?_
        refine lv_istore (lv' := [(4, .int (((y) * (10)) + ((tx k) - (48)))), (5, .int (nI (k))), (0, .ref (ch)), (1, .int (nI (a))), (2, .int (nI (b))), (3, .ref (h0))]) hx hb dX0_readPortion_41 hl (by decide) rfl (fun ls hl => ?_)
        refine lv_iinc (v := nI ((k) + 1)) (lv' := [(5, .int (nI ((k) + 1))), (4, .int (((y) * (10)) + ((tx k) - (48)))), (0, .ref (ch)), (1, .int (nI (a))), (2, .int (nI (b))), (3, .ref (h0))]) hx hb dX0_readPortion_43 hl (k := 1) rfl (show nI (k) + Int32.ofInt 1 = _ from nI_add (k) 1) (by decide) rfl (fun ls hl => ?_)
        refine lv_goto (tgt := 6) hx hb dX0_readPortion_46 (by decide) ?_
        exact ih (k + 1) (y * 10 + (tx k - 48)) (by omega) (hR.trans (if_pos c_22)) _ _ hP hD hS ls (lv_sub hl [0, 1, 2, 3, 4, 5] rfl)
  exact hL_6 (b - a) (a) (0) (by omega) (rfl) _ _ hP hD hS ls (lv_sub hl [0, 1, 2, 3, 4, 5] rfl)

set_option maxRecDepth 100000 in
set_option maxHeartbeats 4000000 in
theorem metX0_readInto (l : Launch) (D : va_G) (ac : Nat → ClassId) (sz : Nat) (ch : Nat) (cs : Nat) (tx : Nat → Int32) (ln : Nat) (h0 : Nat) (g0 : Nat) (g : Nat → Int32) (hln : ln ≤ 60) (hoA : rOkAll tx ln 0 0) : Met l yX0_readInto wsX0_readInto ({ frames := 2, cells := 0, slots := 0, locals := 50 } : Room) (va_Pc [.ref (ch), .ref (h0)] (zS D ac [(ch, .inr (0, [.ref (cs), .int (nI (ln))])), (cs, .inl (ac 1, 60, .inl (tx))), (h0, .inr (2, [.ref (g0)])), (g0, .inl (ac 0, 48, .inl (g)))] sz)) (zQv D ac [(ch, .inr (0, [.ref (cs), .int (nI (ln))])), (cs, .inl (ac 1, 60, .inl (tx))), (h0, .inr (2, [.ref (g0)])), (g0, .inl (ac 0, 48, .inl (g)))] [(ch, .inr (0, [.ref (cs), .int (nI (ln))])), (cs, .inl (ac 1, 60, .inl (tx))), (h0, .inr (2, [.ref (g0)])), (g0, .inl (ac 0, 48, .inl (rInto tx ln 0 0 g)))] sz) 0 0 (va_A [(ch, .inr (0, [.ref (cs), .int (nI (ln))])), (cs, .inl (ac 1, 60, .inl (tx))), (h0, .inr (2, [.ref (g0)])), (g0, .inl (ac 0, 48, .inl (g)))] sz) := by
  refine z_rw (cc := cX0_readInto) (maxL := 4) (ret := none) (lv := [(0, .ref (ch)), (1, .ref (h0))]) (by decide) rfl (Nat.le_of_ble_eq_true rfl) rfl ?_
  intro p e s m args below meth c ls A hx hb hr hml hown hts hlocks hl hK hP hsz hAe hA hD hS
  refine lv_iconst (v := 0) hx hb dX0_readInto_0 (by decide) ?_
  refine lv_istore_n (lv' := [(2, .int (0)), (0, .ref (ch)), (1, .ref (h0))]) hx hb dX0_readInto_1 rfl hl (by decide) rfl (fun ls hl => ?_)
  refine lv_iconst (v := 0) hx hb dX0_readInto_2 (by decide) ?_
  refine lv_istore_n (lv' := [(3, .int (0)), (2, .int (0)), (0, .ref (ch)), (1, .ref (h0))]) hx hb dX0_readInto_3 rfl hl (by decide) rfl (fun ls hl => ?_)
  have hL_4 : ∀ (n : Nat) (k : Nat) (a : Nat) (G : Nat → Int32), (k + n = ln) → (a ≤ k) → (rInto tx ln 0 0 g = rInto tx n k a G) → (rOkAll tx n k a) → ∀ (H : Heap) (locs : List Loc), va_P D vwCl [(ch, .inr (0, [.ref (cs), .int (nI (ln))])), (cs, .inl (ac 1, 60, .inl (tx))), (h0, .inr (2, [.ref (g0)])), (g0, .inl (ac 0, 48, .inl (G)))] H → va_D A [(ch, .inr (0, [.ref (cs), .int (nI (ln))])), (cs, .inl (ac 1, 60, .inl (tx))), (h0, .inr (2, [.ref (g0)])), (g0, .inl (ac 0, 48, .inl (G)))] → va_S A s.heap H locs → ∀ (ls : Array Slot), lv_has ls 4 [(3, .int (nI (k))), (2, .int (nI (a))), (0, .ref (ch)), (1, .ref (h0))] → W p l e ({ frames := 2, cells := 0, slots := 0, locals := 50 } : Room) s m args below meth c H locs 0 0 (MQ below (zQv D ac [(ch, .inr (0, [.ref (cs), .int (nI (ln))])), (cs, .inl (ac 1, 60, .inl (tx))), (h0, .inr (2, [.ref (g0)])), (g0, .inl (ac 0, 48, .inl (g)))] [(ch, .inr (0, [.ref (cs), .int (nI (ln))])), (cs, .inl (ac 1, 60, .inl (tx))), (h0, .inr (2, [.ref (g0)])), (g0, .inl (ac 0, 48, .inl (rInto tx ln 0 0 g)))] sz) args s 0 0 A) (F0 m 4 ls []) := by
    intro n
    induction n with
    | zero =>
      intro k a G hk hak hR hO H locs hP hD hS ls hl
      have e_k : ln = k := by omega
      subst e_k
      refine lv_iload_n hx hb dX0_readInto_4 rfl (lv_at hl 0 rfl) ?_
      refine lv_aload_n hx hb dX0_readInto_5 rfl (lv_at hl 2 rfl) ?_
      refine va_get (ci := 0) (v := .int (nI (ln))) (C := RX0) (T := TX0) (N := 2) hx hb hts (by decide +kernel) hown hK hP 0 rfl rfl 1 (by decide) (hts (.fieldLink RX0 15 "SettlingJars$Charge" "length" "I") (by decide +kernel)) (fun _ h9 => h9) rfl dX0_readInto_6 ?_
      refine z_icmp_ge (tgt := 40) hx hb (ln) (ln) dX0_readInto_9 (by decide) (by omega) (by omega) rfl rfl (fun c_9 => ?_) (fun c_9 => absurd c_9 (by omega))
      refine lv_aload_n hx hb dX0_readInto_40 rfl (lv_at hl 2 rfl) ?_
      refine lv_iload_n hx hb dX0_readInto_41 rfl (lv_at hl 1 rfl) ?_
      refine lv_aload_n hx hb dX0_readInto_42 rfl (lv_at hl 2 rfl) ?_
      refine va_get (ci := 0) (v := .int (nI (ln))) (C := RX0) (T := TX0) (N := 2) hx hb hts (by decide +kernel) hown hK hP 0 rfl rfl 1 (by decide) (hts (.fieldLink RX0 15 "SettlingJars$Charge" "length" "I") (by decide +kernel)) (fun _ h9 => h9) rfl dX0_readInto_43 ?_
      refine lv_aload_n hx hb dX0_readInto_46 rfl (lv_at hl 3 rfl) ?_
      refine z_cvW [(ch, .inr (0, [.ref (cs), .int (nI (ln))])), (cs, .inl (ac 1, 60, .inl (tx))), (h0, .inr (2, [.ref (g0)])), (g0, .inl (ac 0, 48, .inl (rPut tx a ln G)))] (z_vrunW (rest := []) (own := RX0) (As := [.int (nI (a)), .int (nI (ln)), .ref (h0)]) hx hb hml hown hts hl.1 hK hP hD [0, 1, 2, 3] rfl (by decide) rfl (metX0_readPortion l D ac _ ch cs tx ln h0 g0 G a ln (hak) (by omega) (hO)) gX0_readInto_X0_readPortion rfl 3 (by decide +kernel) ⟨rfl, rfl, Nat.le_of_ble_eq_true rfl, Nat.le_of_ble_eq_true rfl⟩ 0 0 rfl rfl rfl rfl rfl (Nat.le_of_ble_eq_true rfl) dX0_readInto_47 ⟨Nat.zero_le _, Nat.zero_le _⟩) hP hD hS hA [0, 1, 2, 3] [] [0, 1, 2, 3] rfl rfl (by decide) (by decide) (by decide) rfl (fun H locs hP hD hS => ?_)
      have e1 : rInto tx ln 0 0 g = rPut tx a ln G := hR
      have hP : va_P D vwCl [(ch, .inr (0, [.ref (cs), .int (nI (ln))])), (cs, .inl (ac 1, 60, .inl (tx))), (h0, .inr (2, [.ref (g0)])), (g0, .inl (ac 0, 48, .inl (rInto tx ln 0 0 g)))] H := by rw [e1]; exact hP
      have hD : va_D A [(ch, .inr (0, [.ref (cs), .int (nI (ln))])), (cs, .inl (ac 1, 60, .inl (tx))), (h0, .inr (2, [.ref (g0)])), (g0, .inl (ac 0, 48, .inl (rInto tx ln 0 0 g)))] := by rw [e1]; exact hD
      exact z_vretW hx hb hr hlocks hK hP hD hS hAe dX0_readInto_50
    | succ n ih =>
      intro ln a G hk hak hR hO H locs hP hD hS ls hl
      refine lv_iload_n hx hb dX0_readInto_4 rfl (lv_at hl 0 rfl) ?_
      refine lv_aload_n hx hb dX0_readInto_5 rfl (lv_at hl 2 rfl) ?_
      refine va_get (ci := 0) (v := .int (nI (ln))) (C := RX0) (T := TX0) (N := 2) hx hb hts (by decide +kernel) hown hK hP 0 rfl rfl 1 (by decide) (hts (.fieldLink RX0 15 "SettlingJars$Charge" "length" "I") (by decide +kernel)) (fun _ h9 => h9) rfl dX0_readInto_6 ?_
      refine z_icmp_ge (tgt := 40) hx hb (k) (ln) dX0_readInto_9 (by decide) (by omega) (by omega) rfl rfl (fun c_9 => absurd c_9 (by omega)) (fun c_9 => ?_)
      refine lv_aload_n hx hb dX0_readInto_12 rfl (lv_at hl 2 rfl) ?_
      refine va_get (ci := 0) (v := .ref (cs)) (C := RX0) (T := TX0) (N := 2) hx hb hts (by decide +kernel) hown hK hP 0 rfl rfl 0 (by decide) (hts (.fieldLink RX0 11 "SettlingJars$Charge" "signs" "[C") (by decide +kernel)) (fun _ h9 => h9) rfl dX0_readInto_13 ?_
      refine lv_iload_n hx hb dX0_readInto_16 rfl (lv_at hl 0 rfl) ?_
      refine z_cald hx hb hK hP 1 rfl (k) (rfl) (by omega) (by decide) dX0_readInto_17 ?_
      refine lv_bipush (v := 43) hx hb dX0_readInto_18 (by decide) ?_
      refine lv_icmp_ne (tgt := 34) hx hb dX0_readInto_20 (by decide) (fun c_20 => ?_) (fun c_20 => ?_)
      · refine lv_iinc (v := nI ((k) + 1)) (lv' := [(3, .int (nI ((k) + 1))), (2, .int (nI (a))), (0, .ref (ch)), (1, .ref (h0))]) hx hb dX0_readInto_34 hl (k := 0) rfl (show nI (k) + Int32.ofInt 1 = _ from nI_add (k) 1) (by decide) rfl (fun ls hl => ?_)
        refine lv_goto (tgt := 4) hx hb dX0_readInto_37 (by decide) ?_
        exact ih (k + 1) (a) (G) (by omega) (by omega) (hR.trans (if_neg c_20)) (Eq.mp (if_neg c_20) hO) _ _ hP hD hS ls (lv_sub hl [0, 1, 2, 3] rfl)
      · have hO2 : rOk tx a k ∧ rOkAll tx n (k + 1) (k + 1) := Eq.mp (if_pos c_20) hO
        refine lv_aload_n hx hb dX0_readInto_23 rfl (lv_at hl 2 rfl) ?_
        refine lv_iload_n hx hb dX0_readInto_24 rfl (lv_at hl 1 rfl) ?_
        refine lv_iload_n hx hb dX0_readInto_25 rfl (lv_at hl 0 rfl) ?_
        refine lv_aload_n hx hb dX0_readInto_26 rfl (lv_at hl 3 rfl) ?_
        refine z_cvW [(ch, .inr (0, [.ref (cs), .int (nI (ln))])), (cs, .inl (ac 1, 60, .inl (tx))), (h0, .inr (2, [.ref (g0)])), (g0, .inl (ac 0, 48, .inl (rPut tx a k G)))] (z_vrunW (rest := []) (own := RX0) (As := [.int (nI (a)), .int (nI (k)), .ref (h0)]) hx hb hml hown hts hl.1 hK hP hD [0, 1, 2, 3] rfl (by decide) rfl (metX0_readPortion l D ac _ ch cs tx ln h0 g0 G a k (by omega) (by omega) (hO2.1)) gX0_readInto_X0_readPortion rfl 3 (by decide +kernel) ⟨rfl, rfl, Nat.le_of_ble_eq_true rfl, Nat.le_of_ble_eq_true rfl⟩ 0 0 rfl rfl rfl rfl rfl (Nat.le_of_ble_eq_true rfl) dX0_readInto_27 ⟨Nat.zero_le _, Nat.zero_le _⟩) hP hD hS hA [0, 1, 2, 3] [] [0, 1, 2, 3] rfl rfl (by decide) (by decide) (by decide) rfl (fun H locs hP hD hS => ?_)
        refine lv_iload_n hx hb dX0_readInto_30 rfl (lv_at hl 0 rfl) ?_
        refine lv_iconst (v := 1) hx hb dX0_readInto_31 (by decide) ?_
        refine lv_iadd hx hb dX0_readInto_32 ?_
        refine z_top (y := nI ((k) + (1))) (nI_add (k) (1)) ?_
        refine lv_istore_n (lv' := [(2, .int (nI ((k) + (1)))), (3, .int (nI (k))), (0, .ref (ch)), (1, .ref (h0))]) hx hb dX0_readInto_33 rfl hl (by decide) rfl (fun ls hl => ?_)
        refine lv_iinc (v := nI ((k) + 1)) (lv' := [(3, .int (nI ((k) + 1))), (2, .int (nI ((k) + (1)))), (0, .ref (ch)), (1, .ref (h0))]) hx hb dX0_readInto_34 hl (k := 1) rfl (show nI (k) + Int32.ofInt 1 = _ from nI_add (k) 1) (by decide) rfl (fun ls hl => ?_)
        refine lv_goto (tgt := 4) hx hb dX0_readInto_37 (by decide) ?_
        exact ih (k + 1) (k + 1) (rPut tx a k G) (by omega) (Nat.le_refl _) (hR.trans (if_pos c_20)) (hO2.2) _ _ hP hD hS ls (lv_sub hl [0, 1, 2, 3] rfl)
  exact hL_4 (ln) (0) (0) (g) (by omega) (Nat.le_refl 0) (rfl) (hoA) _ _ hP hD hS ls (lv_sub hl [0, 1, 2, 3] rfl)

