/-! more words of the class -/
theorem z_oi_some {o : Option Nat} (h : ¬ zOI o = -1) : ∃ b, o = some b := by
  cases o with
  | none => exact absurd rfl h
  | some b => exact ⟨b, rfl⟩
/-- the bits of a mean depth, and of which jars they are spoken -/
def qBits (x : UInt64) : Int64 := x.toInt64
def qBitOk (g : Nat → Int32) : Prop := qAll g = 0 ∨ ∃ a d : Nat, qAll g = nI a ∧ qDep g = nI d ∧ 0 < a ∧ a ≤ 5000 ∧ d ≤ 11 * a
noncomputable def qHj (v w g : Nat → Int32) (hh : Int64) : Int64 := 31 * (31 * (31 * qMix (qMixS (qMix hh (qJar g v w) 10) g v w 12) (fun c => (qPu g c 12).1) 4 + (qCi v w 3 301 0 g).1.toInt64) + (qRi v w 601 0 g).1.toInt64) + qBits (qMean g)
def qMixG (h : Int64) (w ga gb gc pd dr : Nat → Int32) : Nat → Int64
  | 0 => h
  | c + 1 => qMix (qMixG h w ga gb gc pd dr c) (xGr w ga gb gc pd dr c) 4
noncomputable def mHj (z : Nat → Int32) (j : Nat) (hh : Int64) : Int64 :=
  31 * (31 * (31 * qMix (qMix (qMix hh (mJar z j) 10) (fun k => mSlice z j (k / 10) (k % 10)) 120) (fun c => zOI (mPu z j c 12)) 4 + (if mCn j 3 301 0 z ≤ 300 then nI (mCn j 3 301 0 z) else -1 : Int32).toInt64) + (if mRn j 601 0 z ≤ 600 then nI (mRn j 601 0 z) else -1 : Int32).toInt64) + (qMean (qV z j)).toInt64
theorem q_mix0 (h : Int64) (f : Nat → Int32) : qMix h f 0 = h := rfl
theorem q_mixS0 (h : Int64) (g v w : Nat → Int32) : qMixS h g v w 0 = h := rfl
theorem q_mixG0 (h : Int64) (w ga gb gc pd dr : Nat → Int32) : qMixG h w ga gb gc pd dr 0 = h := rfl
