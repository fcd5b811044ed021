/-! what the looking ahead answers -/
section ZPA
variable {z : Nat → Int32} {j : Nat}
theorem w_steps_out (hj : j < 3) {k : Nat} (hk : 144 ≤ k) : ∀ t, mSteps z j t k = z k
  | 0 => rfl
  | t + 1 => (m_st_out (z := mSteps z j t) hj k hk 11 (Nat.le_refl 11)).trans (w_steps_out hj hk t)
theorem w_ifSettled {t : Nat} (hG : mGood z) (hj : j < 3) (k : Nat) : qJar (qGo (cV z) (cW z) t (qV z j, 0)).1 (cV z) (cW z) k = mJar (mSteps z j t) j k := by
  rw [(e_go hj t z 0 hG).1, e_jar (m_good_steps hG hj t) hj k]
  have e1 : cV (mSteps z j t) = cV z := funext (fun k => w_steps_out hj (show 144 ≤ 144 + k by omega) t)
  have e2 : cW (mSteps z j t) = cW z := funext (fun k => w_steps_out hj (show 144 ≤ 148 + k by omega) t)
  rw [e1, e2]
theorem w_clearIn {sl : Nat} (hG : mGood z) (hj : j < 3) : (qCi (cV z) (cW z) sl 301 0 (qV z j)).1 = if mCn j sl 301 0 z ≤ 300 then nI (mCn j sl 301 0 z) else -1 := by
  rw [e_ci hj 301 0 z hG]
  by_cases h : mCn j sl 301 0 z ≤ 300
  · rw [if_pos h, if_pos (by omega)]
  · rw [if_neg h, if_neg (by omega)]
theorem w_restIn (hG : mGood z) (hj : j < 3) : (qRi (cV z) (cW z) 601 0 (qV z j)).1 = if mRn j 601 0 z ≤ 600 then nI (mRn j 601 0 z) else -1 := by
  rw [e_ri hj 601 0 z hG]
  by_cases h : mRn j 601 0 z ≤ 600
  · rw [if_pos h, if_pos (by omega)]
  · rw [if_neg h, if_neg (by omega)]
theorem z_jf {a : Nat → Nat} {j : Nat} (hj : j < 3) : zJ3 (a 5) (a 6) (a 7) j = some (a (5 + j)) := by rcases z_cases3 hj with rfl | rfl | rfl <;> rfl
theorem w_dep {x : Nat → Int} : ∀ {n : Nat}, n ≤ 12 → (∀ k, k < n → 0 ≤ x k) → 0 ≤ fb_si (fun s => (s : Int) * x s) n ∧ fb_si (fun s => (s : Int) * x s) n ≤ 11 * fb_si x n
  | 0, _, _ => ⟨Int.le_refl 0, Int.le_refl 0⟩
  | n + 1, hn, h => by
    have ih := w_dep (x := x) (n := n) (by omega) (fun k hk => h k (by omega))
    have h1 := h n (by omega)
    have h2 : 0 ≤ (n : Int) * x n := Int.mul_nonneg (by omega) h1
    have h3 : (n : Int) * x n ≤ 11 * x n := Int.mul_le_mul_of_nonneg_right (by omega) h1
    rw [fb_si_succ, fb_si_succ]
    omega
theorem w_bitok (hG : mGood z) (hj : j < 3) : qBitOk (qV z j) := by
  by_cases h0 : qAll (qV z j) = 0
  · exact Or.inl h0
  · refine Or.inr ?_
    have a1 := g_all hG hj
    have a2 : jS z j ≤ 5000 := hG.2.1 j hj
    have a3 : 0 ≤ jS z j := g_nn (f := fun k => (z (48 * j + k)).toInt) (fun k hk => hG.1 (48 * j + k) (by omega))
    have b1 : ∀ s, s < 12 → 0 ≤ (qIn (qV z j) s).toInt ∧ (qIn (qV z j) s).toInt ≤ 5000 := fun s hs => (g_in hG hj hs).2
    have b2 : fb_si (fun s => (qIn (qV z j) s).toInt) 12 = jS z j := by
      have e := g_four (fun k => (z (48 * j + k)).toInt) 12
      exact (fb_si_cong (fun s hs => (g_in hG hj hs).1)).trans e.symm
    have d := w_dep (x := fun s => (qIn (qV z j) s).toInt) (Nat.le_refl 12) (fun s hs => (b1 s hs).1)
    rw [b2] at d
    have c1 : ∀ s, s < 12 → (nI s * qIn (qV z j) s).toInt = (s : Int) * (qIn (qV z j) s).toInt := by
      intro s hs
      have e1 : (nI s).toInt = (s : Int) := nI_toInt (by omega)
      have e2 := b1 s hs
      have e3 : 0 ≤ (s : Int) * (qIn (qV z j) s).toInt := Int.mul_nonneg (by omega) e2.1
      have e4 : (s : Int) * (qIn (qV z j) s).toInt ≤ 11 * (qIn (qV z j) s).toInt := Int.mul_le_mul_of_nonneg_right (by omega) e2.1
      rw [fb_mulI (by rw [e1]; omega) (by rw [e1]; omega), e1]
    have c2 : (qDep (qV z j)).toInt = fb_si (fun s => (s : Int) * (qIn (qV z j) s).toInt) 12 := by
      have e := g_qS (f := fun s => nI s * qIn (qV z j) s) (n := 12) (fun s hs => by rw [c1 s hs]; exact Int.mul_nonneg (by omega) (b1 s hs).1) (by rw [fb_si_cong c1]; omega)
      exact e.trans (fb_si_cong c1)
    have h1 : ¬ jS z j = 0 := fun e => h0 (Int32.toInt_inj.mp (by rw [a1, e]; rfl))
    refine ⟨(jS z j).toNat, (qDep (qV z j)).toInt.toNat, ?_, g_nI (by omega), by omega, by omega, by omega⟩
    rw [← a1]
    exact g_nI (by omega)
end ZPA
section ZTD
variable {p : Program} {l : Launch} {e : Env} {s : State} {m : MethodId} {args : Array Value} {below : List Frame} {meth : Method} {c : Code} {H : Heap} {locs : List Loc} {cells slots : Nat} {Q : State → Prop}
variable {ls : Array Slot} {D : va_G} {ac : Nat → ClassId} {A : Nat → Prop} {b L tl tg i : Nat} {xs : Nat → Int32} {wr : va_W}
variable {ad n : Nat → Nat} {hf : Nat → Option Nat} {od sz ln : Nat} {tx gs v w ga gb gc pd dr : Nat → Int32} {tp fl : Int32} {of : Nat → Int64} {og : Nat → UInt64} {sv lm stp po : Nat} {t9 : Int32} {hh : Int64} {z sd tm az rd : Nat → Int32}
/-- the mean depth -/
theorem lg_d0 (C : lCx p l s m args c b L xs D ac A tl tg) (hf9 : cells ≤ room_1.cells ∧ slots ≤ room_1.slots) {X : UInt64} (hX : Op.cmpValue (FP.dcmp X X) CmpOp.l = 0) (hP : va_P D vwCl (lF ac ad n hf od sz ln tx gs v w ga gb gc pd dr tp fl of (updD og 0 X) 0 sv lm stp po t9 hh z sd tm az rd ++ wr) H)
    (hl : lv_has ls 9 ((7, .double X) :: (6, .int 0) :: lv0 b ad i))
    (kk : W p l e room_1 s m args below meth c H locs cells slots Q (F0 m 1693 ls [])) : W p l e room_1 s m args below meth c H locs cells slots Q (F0 m 1628 ls []) := by
  refine lg_thr C hl.1 hf9 hP (lv_at hl 4 rfl) dL_law_1628 dL_law_1629 ?_
  obtain ⟨⟨hx, hb, hml, hown, hts⟩, hK, -⟩ := C
  refine lv_iload hx hb dL_law_1632 (lv_at hl 1 rfl) ?_
  refine lv_icmp_eq (tgt := 1639) hx hb dL_law_1634 (by decide) (fun _ => ?_) (fun h => absurd rfl h)
  refine lv_iload hx hb dL_law_1639 (lv_at hl 1 rfl) ?_
  refine lv_if_ne (tgt := 1676) hx hb dL_law_1641 (by decide) (fun h => absurd rfl h) (fun _ => ?_)
  refine lv_aload hx hb dL_law_1644 (lv_at hl 6 rfl) ?_
  refine lv_iconst (v := nI 0) hx hb dL_law_1646 (by decide) ?_
  refine va_dald hx hb hK hP 21 5 rfl rfl (vp_in_nI (by decide) (by decide)) dL_law_1647 ?_
  refine lv_dload hx hb dL_law_1648 (lv_at hl 0 rfl) ?_
  have e0 : (nI 0).toNatClampNeg = 0 := by decide
  have e1 : updD og 0 X (nI 0).toNatClampNeg = X := by rw [e0]; exact if_pos rfl
  rw [e1]
  refine lv_dcmp hx hb dL_law_1650 ?_
  rw [hX]
  refine lv_if_eq (tgt := 1676) hx hb dL_law_1651 (by decide) (fun _ => ?_) (fun h => absurd rfl h)
  exact lv_goto (tgt := 1693) hx hb dL_law_1676 (by decide) kk
theorem lg_dk (C : lCx p l s m args c b L xs D ac A tl tg) (hf9 : cells ≤ room_1.cells ∧ slots ≤ room_1.slots) {X : UInt64} {k : Int32} (hk : ¬ k = 0) (hP : va_P D vwCl (lF ac ad n hf od sz ln tx gs v w ga gb gc pd dr tp fl of og k sv lm stp po t9 hh z sd tm az rd ++ wr) H)
    (hl : lv_has ls 9 ((7, .double X) :: (6, .int k) :: lv0 b ad i))
    (kk : W p l e room_1 s m args below meth c H locs cells slots Q (F0 m 1693 ls [])) : W p l e room_1 s m args below meth c H locs cells slots Q (F0 m 1628 ls []) := by
  refine lg_thr C hl.1 hf9 hP (lv_at hl 4 rfl) dL_law_1628 dL_law_1629 ?_
  obtain ⟨⟨hx, hb, hml, hown, hts⟩, hK, -⟩ := C
  refine lv_iload hx hb dL_law_1632 (lv_at hl 1 rfl) ?_
  refine lv_icmp_eq (tgt := 1639) hx hb dL_law_1634 (by decide) (fun _ => ?_) (fun h => absurd rfl h)
  refine lv_iload hx hb dL_law_1639 (lv_at hl 1 rfl) ?_
  refine lv_if_ne (tgt := 1676) hx hb dL_law_1641 (by decide) (fun _ => ?_) (fun h => absurd h hk)
  exact lv_goto (tgt := 1693) hx hb dL_law_1676 (by decide) kk
end ZTD
