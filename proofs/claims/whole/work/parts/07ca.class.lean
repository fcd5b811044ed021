set_option maxRecDepth 100000 in
set_option maxHeartbeats 4000000 in
theorem metX0_placeBehind (l : Launch) (D : va_G) (ac : Nat → ClassId) (k1 : Nat) (x : Int32) (h_k1 : k1 < 8) : Met l yX0_placeBehind wsX0_placeBehind ({ frames := 1, cells := 0, slots := 0, locals := 20 } : Room) (va_Pc [.int (nI (k1)), .int (x)] (zW D ac [])) (zRi (zOI (qPl (some k1) x))) 0 0 (fun _ => False) := by
  refine z_ro (cc := cX0_placeBehind) (maxL := 2) (ret := (some .int)) (lv := [(0, .int (nI (k1))), (1, .int (x))]) (by decide) rfl (Nat.le_of_ble_eq_true rfl) rfl ?_
  intro p e s m args below meth c ls hx hb hr hml hown hts hlocks hl hK hP
  refine lv_iload_n hx hb dX0_placeBehind_0 rfl (lv_at hl 0 rfl) ?_
  obtain rfl | rfl | rfl | rfl | rfl | rfl | rfl | rfl := z_cases8 h_k1
  · refine lv_tableIn (off := 47) (tgt := 48) hx hb dX0_placeBehind_1 (by decide) (by decide) (by decide) (by decide) ?_
    refine lv_iload_n hx hb dX0_placeBehind_48 rfl (lv_at hl 1 rfl) ?_
    refine z_ci (z_srun (rest := []) (own := RX0) (As := [.int (x)]) hx hb hml hown hts hl.1 hK hP [] rfl (metX0_isDigit l D ac x ) gX0_placeBehind_X0_isDigit rfl 1 (by decide +kernel) ⟨rfl, rfl, Nat.le_of_ble_eq_true rfl, Nat.le_of_ble_eq_true rfl⟩ rfl rfl (Nat.le_of_ble_eq_true rfl) dX0_placeBehind_49 ⟨Nat.zero_le _, Nat.zero_le _⟩) ?_
    refine z_if_eq (C := 48 ≤ x ∧ x ≤ 57) (tgt := 65) hx hb dX0_placeBehind_52 (by decide) (fun c_52 => ?_) (fun c_52 => ?_)
    · refine lv_iconst (v := (-1)) hx hb dX0_placeBehind_65 (by decide) ?_
      exact z_iret hx hb hr hlocks ((by rw [show qPl (some 0) x = none from by simp only [qPl]; rw [if_neg (fun q => c_52 q.1)]]; rfl)) dX0_placeBehind_66
    · refine lv_iload_n hx hb dX0_placeBehind_55 rfl (lv_at hl 1 rfl) ?_
      refine lv_bipush (v := 48) hx hb dX0_placeBehind_56 (by decide) ?_
      refine lv_icmp_eq (tgt := 65) hx hb dX0_placeBehind_58 (by decide) (fun c_58 => ?_) (fun c_58 => ?_)
      · refine lv_iconst (v := (-1)) hx hb dX0_placeBehind_65 (by decide) ?_
        exact z_iret hx hb hr hlocks ((by rw [show qPl (some 0) x = none from by simp only [qPl]; rw [if_neg (fun q => q.2 c_58)]]; rfl)) dX0_placeBehind_66
      · refine lv_iconst (v := 1) hx hb dX0_placeBehind_61 (by decide) ?_
        refine lv_goto (tgt := 66) hx hb dX0_placeBehind_62 (by decide) ?_
        exact z_iret hx hb hr hlocks ((by rw [show qPl (some 0) x = some 1 from by simp only [qPl]; rw [if_pos ⟨c_52, c_58⟩]]; rfl)) dX0_placeBehind_66
  · refine lv_tableIn (off := 66) (tgt := 67) hx hb dX0_placeBehind_1 (by decide) (by decide) (by decide) (by decide) ?_
    refine lv_iload_n hx hb dX0_placeBehind_67 rfl (lv_at hl 1 rfl) ?_
    refine z_ci (z_srun (rest := []) (own := RX0) (As := [.int (x)]) hx hb hml hown hts hl.1 hK hP [] rfl (metX0_isDigit l D ac x ) gX0_placeBehind_X0_isDigit rfl 1 (by decide +kernel) ⟨rfl, rfl, Nat.le_of_ble_eq_true rfl, Nat.le_of_ble_eq_true rfl⟩ rfl rfl (Nat.le_of_ble_eq_true rfl) dX0_placeBehind_68 ⟨Nat.zero_le _, Nat.zero_le _⟩) ?_
    refine z_if_eq (C := 48 ≤ x ∧ x ≤ 57) (tgt := 78) hx hb dX0_placeBehind_71 (by decide) (fun c_71 => ?_) (fun c_71 => ?_)
    · refine lv_iload_n hx hb dX0_placeBehind_78 rfl (lv_at hl 1 rfl) ?_
      refine z_ci (z_srun (rest := []) (own := RX0) (As := [.int (x)]) hx hb hml hown hts hl.1 hK hP [] rfl (metX0_placeBehindNumber l D ac x ) gX0_placeBehind_X0_placeBehindNumber rfl 1 (by decide +kernel) ⟨rfl, rfl, Nat.le_of_ble_eq_true rfl, Nat.le_of_ble_eq_true rfl⟩ rfl rfl (Nat.le_of_ble_eq_true rfl) dX0_placeBehind_79 ⟨Nat.zero_le _, Nat.zero_le _⟩) ?_
      exact z_iret hx hb hr hlocks ((by rw [show qPl (some 1) x = qPn x from by simp only [qPl]; rw [if_neg c_71]])) dX0_placeBehind_82
    · refine lv_iconst (v := 2) hx hb dX0_placeBehind_74 (by decide) ?_
      refine lv_goto (tgt := 82) hx hb dX0_placeBehind_75 (by decide) ?_
      exact z_iret hx hb hr hlocks ((by rw [show qPl (some 1) x = some 2 from by simp only [qPl]; rw [if_pos c_71]]; rfl)) dX0_placeBehind_82
  · refine lv_tableIn (off := 82) (tgt := 83) hx hb dX0_placeBehind_1 (by decide) (by decide) (by decide) (by decide) ?_
    refine lv_iload_n hx hb dX0_placeBehind_83 rfl (lv_at hl 1 rfl) ?_
    refine z_ci (z_srun (rest := []) (own := RX0) (As := [.int (x)]) hx hb hml hown hts hl.1 hK hP [] rfl (metX0_isDigit l D ac x ) gX0_placeBehind_X0_isDigit rfl 1 (by decide +kernel) ⟨rfl, rfl, Nat.le_of_ble_eq_true rfl, Nat.le_of_ble_eq_true rfl⟩ rfl rfl (Nat.le_of_ble_eq_true rfl) dX0_placeBehind_84 ⟨Nat.zero_le _, Nat.zero_le _⟩) ?_
    refine z_if_eq (C := 48 ≤ x ∧ x ≤ 57) (tgt := 94) hx hb dX0_placeBehind_87 (by decide) (fun c_87 => ?_) (fun c_87 => ?_)
    · refine lv_iload_n hx hb dX0_placeBehind_94 rfl (lv_at hl 1 rfl) ?_
      refine z_ci (z_srun (rest := []) (own := RX0) (As := [.int (x)]) hx hb hml hown hts hl.1 hK hP [] rfl (metX0_placeBehindNumber l D ac x ) gX0_placeBehind_X0_placeBehindNumber rfl 1 (by decide +kernel) ⟨rfl, rfl, Nat.le_of_ble_eq_true rfl, Nat.le_of_ble_eq_true rfl⟩ rfl rfl (Nat.le_of_ble_eq_true rfl) dX0_placeBehind_95 ⟨Nat.zero_le _, Nat.zero_le _⟩) ?_
      exact z_iret hx hb hr hlocks ((by rw [show qPl (some 2) x = qPn x from by simp only [qPl]; rw [if_neg c_87]])) dX0_placeBehind_98
    · refine lv_iconst (v := 3) hx hb dX0_placeBehind_90 (by decide) ?_
      refine lv_goto (tgt := 98) hx hb dX0_placeBehind_91 (by decide) ?_
      exact z_iret hx hb hr hlocks ((by rw [show qPl (some 2) x = some 3 from by simp only [qPl]; rw [if_pos c_87]]; rfl)) dX0_placeBehind_98
  · refine lv_tableIn (off := 98) (tgt := 99) hx hb dX0_placeBehind_1 (by decide) (by decide) (by decide) (by decide) ?_
    refine lv_iload_n hx hb dX0_placeBehind_99 rfl (lv_at hl 1 rfl) ?_
    refine z_ci (z_srun (rest := []) (own := RX0) (As := [.int (x)]) hx hb hml hown hts hl.1 hK hP [] rfl (metX0_placeBehindNumber l D ac x ) gX0_placeBehind_X0_placeBehindNumber rfl 1 (by decide +kernel) ⟨rfl, rfl, Nat.le_of_ble_eq_true rfl, Nat.le_of_ble_eq_true rfl⟩ rfl rfl (Nat.le_of_ble_eq_true rfl) dX0_placeBehind_100 ⟨Nat.zero_le _, Nat.zero_le _⟩) ?_
    exact z_iret hx hb hr hlocks (rfl) dX0_placeBehind_103
  · refine lv_tableIn (off := 103) (tgt := 104) hx hb dX0_placeBehind_1 (by decide) (by decide) (by decide) (by decide) ?_
    refine lv_iload_n hx hb dX0_placeBehind_104 rfl (lv_at hl 1 rfl) ?_
    refine lv_bipush (v := 64) hx hb dX0_placeBehind_105 (by decide) ?_
    refine lv_icmp_ne (tgt := 114) hx hb dX0_placeBehind_107 (by decide) (fun c_107 => ?_) (fun c_107 => ?_)
    · refine lv_iload_n hx hb dX0_placeBehind_114 rfl (lv_at hl 1 rfl) ?_
      refine z_ci (z_srun (rest := []) (own := RX0) (As := [.int (x)]) hx hb hml hown hts hl.1 hK hP [] rfl (metX0_placeBehindPortion l D ac x ) gX0_placeBehind_X0_placeBehindPortion rfl 1 (by decide +kernel) ⟨rfl, rfl, Nat.le_of_ble_eq_true rfl, Nat.le_of_ble_eq_true rfl⟩ rfl rfl (Nat.le_of_ble_eq_true rfl) dX0_placeBehind_115 ⟨Nat.zero_le _, Nat.zero_le _⟩) ?_
      exact z_iret hx hb hr hlocks ((by rw [show qPl (some 4) x = qPp x from by simp only [qPl]; rw [if_neg c_107]])) dX0_placeBehind_118
    · refine lv_iconst (v := 5) hx hb dX0_placeBehind_110 (by decide) ?_
      refine lv_goto (tgt := 118) hx hb dX0_placeBehind_111 (by decide) ?_
      exact z_iret hx hb hr hlocks ((by rw [show qPl (some 4) x = some 5 from by simp only [qPl]; rw [if_pos c_107]]; rfl)) dX0_placeBehind_118
  · refine lv_tableIn (off := 118) (tgt := 119) hx hb dX0_placeBehind_1 (by decide) (by decide) (by decide) (by decide) ?_
    refine lv_iload_n hx hb dX0_placeBehind_119 rfl (lv_at hl 1 rfl) ?_
    refine lv_bipush (v := 49) hx hb dX0_placeBehind_120 (by decide) ?_
    refine lv_icmp_ne (tgt := 130) hx hb dX0_placeBehind_122 (by decide) (fun c_122 => ?_) (fun c_122 => ?_)
    · refine lv_iload_n hx hb dX0_placeBehind_130 rfl (lv_at hl 1 rfl) ?_
      refine z_ci (z_srun (rest := []) (own := RX0) (As := [.int (x)]) hx hb hml hown hts hl.1 hK hP [] rfl (metX0_isDigit l D ac x ) gX0_placeBehind_X0_isDigit rfl 1 (by decide +kernel) ⟨rfl, rfl, Nat.le_of_ble_eq_true rfl, Nat.le_of_ble_eq_true rfl⟩ rfl rfl (Nat.le_of_ble_eq_true rfl) dX0_placeBehind_131 ⟨Nat.zero_le _, Nat.zero_le _⟩) ?_
      refine z_if_eq (C := 48 ≤ x ∧ x ≤ 57) (tgt := 142) hx hb dX0_placeBehind_134 (by decide) (fun c_134 => ?_) (fun c_134 => ?_)
      · refine lv_iconst (v := (-1)) hx hb dX0_placeBehind_142 (by decide) ?_
        exact z_iret hx hb hr hlocks ((by rw [show qPl (some 5) x = none from by simp only [qPl]; rw [if_neg c_122]; rw [if_neg c_134]]; rfl)) dX0_placeBehind_143
      · refine lv_bipush (v := 7) hx hb dX0_placeBehind_137 (by decide) ?_
        refine lv_goto (tgt := 143) hx hb dX0_placeBehind_139 (by decide) ?_
        exact z_iret hx hb hr hlocks ((by rw [show qPl (some 5) x = some 7 from by simp only [qPl]; rw [if_neg c_122]; rw [if_pos c_134]]; rfl)) dX0_placeBehind_143
    · refine lv_bipush (v := 6) hx hb dX0_placeBehind_125 (by decide) ?_
      refine lv_goto (tgt := 143) hx hb dX0_placeBehind_127 (by decide) ?_
      exact z_iret hx hb hr hlocks ((by rw [show qPl (some 5) x = some 6 from by simp only [qPl]; rw [if_pos c_122]]; rfl)) dX0_placeBehind_143
  · refine lv_tableIn (off := 143) (tgt := 144) hx hb dX0_placeBehind_1 (by decide) (by decide) (by decide) (by decide) ?_
    refine lv_iload_n hx hb dX0_placeBehind_144 rfl (lv_at hl 1 rfl) ?_
    refine lv_bipush (v := 48) hx hb dX0_placeBehind_145 (by decide) ?_
    refine lv_icmp_eq (tgt := 156) hx hb dX0_placeBehind_147 (by decide) (fun c_147 => ?_) (fun c_147 => ?_)
    · refine lv_bipush (v := 7) hx hb dX0_placeBehind_156 (by decide) ?_
      refine lv_goto (tgt := 165) hx hb dX0_placeBehind_158 (by decide) ?_
      exact z_iret hx hb hr hlocks ((by rw [show qPl (some 6) x = some 7 from by simp only [qPl]; rw [if_pos (Or.inl c_147)]]; rfl)) dX0_placeBehind_165
    · refine lv_iload_n hx hb dX0_placeBehind_150 rfl (lv_at hl 1 rfl) ?_
      refine lv_bipush (v := 49) hx hb dX0_placeBehind_151 (by decide) ?_
      refine lv_icmp_ne (tgt := 161) hx hb dX0_placeBehind_153 (by decide) (fun c_153 => ?_) (fun c_153 => ?_)
      · refine lv_iload_n hx hb dX0_placeBehind_161 rfl (lv_at hl 1 rfl) ?_
        refine z_ci (z_srun (rest := []) (own := RX0) (As := [.int (x)]) hx hb hml hown hts hl.1 hK hP [] rfl (metX0_placeBehindPortion l D ac x ) gX0_placeBehind_X0_placeBehindPortion rfl 1 (by decide +kernel) ⟨rfl, rfl, Nat.le_of_ble_eq_true rfl, Nat.le_of_ble_eq_true rfl⟩ rfl rfl (Nat.le_of_ble_eq_true rfl) dX0_placeBehind_162 ⟨Nat.zero_le _, Nat.zero_le _⟩) ?_
        exact z_iret hx hb hr hlocks ((by rw [show qPl (some 6) x = qPp x from by simp only [qPl]; rw [if_neg (fun q => q.elim c_147 c_153)]])) dX0_placeBehind_165
      · refine lv_bipush (v := 7) hx hb dX0_placeBehind_156 (by decide) ?_
        refine lv_goto (tgt := 165) hx hb dX0_placeBehind_158 (by decide) ?_
        exact z_iret hx hb hr hlocks ((by rw [show qPl (some 6) x = some 7 from by simp only [qPl]; rw [if_pos (Or.inr c_153)]]; rfl)) dX0_placeBehind_165
  · refine lv_tableIn (off := 165) (tgt := 166) hx hb dX0_placeBehind_1 (by decide) (by decide) (by decide) (by decide) ?_
    refine lv_iload_n hx hb dX0_placeBehind_166 rfl (lv_at hl 1 rfl) ?_
    refine z_ci (z_srun (rest := []) (own := RX0) (As := [.int (x)]) hx hb hml hown hts hl.1 hK hP [] rfl (metX0_placeBehindPortion l D ac x ) gX0_placeBehind_X0_placeBehindPortion rfl 1 (by decide +kernel) ⟨rfl, rfl, Nat.le_of_ble_eq_true rfl, Nat.le_of_ble_eq_true rfl⟩ rfl rfl (Nat.le_of_ble_eq_true rfl) dX0_placeBehind_167 ⟨Nat.zero_le _, Nat.zero_le _⟩) ?_
    exact z_iret hx hb hr hlocks (rfl) dX0_placeBehind_170

