/-! more pure words -/
theorem q_wish (v r n f : Int32) : qWish v r n f = if n * v * f / 100000 = 0 ∧ r < n then (if (1 : Int32) < n then 1 else n) else (if n * v * f / 100000 < n then n * v * f / 100000 else n) := by
  unfold qWish
  by_cases h : n * v * f / 100000 = 0 ∧ r < n
  · rw [if_pos h, if_pos h]
  · rw [if_neg h, if_neg h]
/-! the class's own words for its calls -/
def qCi (v w : Nat → Int32) (sl : Nat) : Nat → Nat → (Nat → Int32) → Int32 × (Nat → Int32)
  | 0, _, G => (-1, G)
  | n + 1, i, G => if sl ≤ qClr G (v 2) then (nI i, G) else if (qStep G v w).2 = 0 then (-1, (qStep G v w).1) else qCi v w sl n (i + 1) (qStep G v w).1
def qRi (v w : Nat → Int32) : Nat → Nat → (Nat → Int32) → Int32 × (Nat → Int32)
  | 0, _, G => (-1, G)
  | n + 1, i, G => if (qStep G v w).2 = 0 then (nI i, (qStep G v w).1) else qRi v w n (i + 1) (qStep G v w).1
def xGr (w ga gb gc pd dr : Nat → Int32) (c : Nat) : Nat → Int32
  | 0 => pd c
  | 1 => dr c
  | 2 => (0 : Int32) + qOf ga c + qOf gb c + qOf gc c
  | _ => w c
def xCnt (v ga gb gc : Nat → Int32) (tp fl : Int32) (n : Nat) : Nat → Int32
  | 0 => tp
  | 1 => (0 : Int32) + qAll ga + qAll gb + qAll gc
  | 2 => (0 : Int32) + qPkd ga (v 1) 12 + qPkd gb (v 1) 12 + qPkd gc (v 1) 12
  | 3 => (0 : Int32) + qClrs ga (v 2) 12 + qClrs gb (v 2) 12 + qClrs gc (v 2) 12
  | 4 => fl
  | _ => nI n
def qStir (g : Nat → Int32) (a b : Nat) : Nat → Nat → Int32
  | 0 => g
  | c + 1 => (qSp (qStir g a b c) a b c (qSum (qStir g a b c) a c (b + 1 - a)) (b + 1 - a)).1
def qSm4 (g : Nat → Int32) (a b : Nat) : Nat → Int32
  | 0 => 0
  | c + 1 => qSm4 g a b c + qSum (qStir g a b c) a c (b + 1 - a)
/-- draw: the jar, what was drawn off, the sum -/
def qDr1 (s c : Nat) (q : (Nat → Int32) × (Nat → Int32) × Int32) (x : Int32) : (Nat → Int32) × (Nat → Int32) × Int32 :=
  (qPut q.1 s c (-x), upd q.2.1 c (q.2.1 c + x), q.2.2 + x)
def qDraw (g dr : Nat → Int32) (s : Nat) (p : Int32) : Nat → (Nat → Int32) × (Nat → Int32) × Int32
  | 0 => (g, dr, 0)
  | c + 1 => qDr1 s c (qDraw g dr s p c) ((qDraw g dr s p c).1 (4 * s + c) * p / 100)
/-- decant among three: jar i of the three, poured from a into b -/
def qDec (ga gb gc : Nat → Int32) (a b t i : Nat) : Nat → Int32 :=
  if i = a then (qOver (zG a ga gb gc) (zG b ga gb gc) t).1 else if i = b then (qOver (zG a ga gb gc) (zG b ga gb gc) t).2 else zG i ga gb gc
/-- poured grows class by class by what a jar holds -/
def qPd (pd g : Nat → Int32) : Nat → Nat → Int32
  | 0 => pd
  | c + 1 => upd (qPd pd g c) c (qPd pd g c c + qOf g c)
/-- the places of a text -/
def qPls (tx : Nat → Int32) : Nat → Option Nat
  | 0 => some 0
  | k + 1 => qPl (qPls tx k) (tx k)
def qFw (tx : Nat → Int32) : Nat → Nat → Nat
  | 0, k => k
  | n + 1, k => if qPls tx (k + 1) = none then k else qFw tx n (k + 1)
theorem q_pn_lt {x : Int32} {b : Nat} (h : qPn x = some b) : b < 8 := by
  unfold qPn at h
  split at h
  · cases h; omega
  · cases h
theorem q_pp_lt {x : Int32} {b : Nat} (h : qPp x = some b) : b < 8 := by
  unfold qPp at h
  split at h
  · cases h; omega
  · cases h
theorem q_pl_lt {o : Option Nat} {x : Int32} {b : Nat} (h : qPl o x = some b) : b < 8 := by
  unfold qPl at h
  split at h
  · split at h
    · cases h; omega
    · cases h
  · split at h
    · cases h; omega
    · exact q_pn_lt h
  · split at h
    · cases h; omega
    · exact q_pn_lt h
  · exact q_pn_lt h
  · split at h
    · cases h; omega
    · exact q_pp_lt h
  · split at h
    · cases h; omega
    · split at h
      · cases h; omega
      · cases h
  · split at h
    · cases h; omega
    · exact q_pp_lt h
  · exact q_pp_lt h
  · cases h
theorem q_pls_lt (tx : Nat → Int32) : ∀ k b, qPls tx k = some b → b < 8
  | 0, b, h => by
    have e : some 0 = some b := h
    cases e
    omega
  | k + 1, b, h => q_pl_lt (o := qPls tx k) (x := tx k) h
theorem z_oi_none {o : Option Nat} (h : ∀ b, o = some b → b < 8) : zOI o = -1 ↔ o = none := by
  cases o with
  | none => exact ⟨fun _ => rfl, fun _ => rfl⟩
  | some b => exact ⟨fun q => absurd q (z_nm1 (by have := h b rfl; omega)), fun q => by cases q⟩
theorem z_oi_eq {o : Option Nat} {k : Nat} (hk : k < 8) (h : ∀ b, o = some b → b < 8) : zOI o = nI k ↔ o = some k := by
  cases o with
  | none => exact ⟨fun q => absurd q.symm (z_nm1 (by omega)), fun q => by cases q⟩
  | some b =>
    have hb := h b rfl
    constructor
    · intro q
      rw [(nI_eq (by omega) (by omega)).mp q]
    · intro q
      cases q
      rfl
/-- a portion: the number, the class, the slice -/
def rNum (tx : Nat → Int32) (b : Nat) : Nat → Nat → Int32 → Nat × Int32
  | 0, k, y => (k, y)
  | n + 1, k, y => if 48 ≤ tx k ∧ tx k ≤ 57 then rNum tx b n (k + 1) (y * 10 + (tx k - 48)) else (k, y)
def rEnd (tx : Nat → Int32) (a b : Nat) : Nat := (rNum tx b (b - a) a 0).1
def rMany (tx : Nat → Int32) (a b : Nat) : Int32 := (rNum tx b (b - a) a 0).2
def rCls (tx : Nat → Int32) (a b : Nat) : Int32 := if rEnd tx a b < b then tx (rEnd tx a b) - 97 else 0
def rSum (tx : Nat → Int32) (a : Nat) : Nat → Int32
  | 0 => 0
  | n + 1 => rSum tx a n * 10 + (tx (a + n) - 48)
def rSl (tx : Nat → Int32) (a b : Nat) : Int32 := rSum tx (rEnd tx a b + 2) (b - (rEnd tx a b + 2))
theorem r_num_in (tx : Nat → Int32) (b : Nat) : ∀ n k y, k ≤ (rNum tx b n k y).1 ∧ (rNum tx b n k y).1 ≤ k + n
  | 0, k, y => ⟨Nat.le_refl k, Nat.le_refl k⟩
  | n + 1, k, y => by
    rw [rNum]
    split
    · have h := r_num_in tx b n (k + 1) (y * 10 + (tx k - 48))
      omega
    · show k ≤ k ∧ k ≤ k + (n + 1)
      omega
/-- a portion is sound: its class and its slice are places -/
def rOk (tx : Nat → Int32) (a b : Nat) : Prop :=
  rSl tx a b = nI (rSl tx a b).toNatClampNeg ∧ (rSl tx a b).toNatClampNeg < 12 ∧ rCls tx a b = nI (rCls tx a b).toNatClampNeg ∧ (rCls tx a b).toNatClampNeg < 4
def rPut (tx : Nat → Int32) (a b : Nat) (g : Nat → Int32) : Nat → Int32 := qPut g (rSl tx a b).toNatClampNeg (rCls tx a b).toNatClampNeg (rMany tx a b)
/-- from sign k on, n signs left, the portion begun at a -/
def rInto (tx : Nat → Int32) : Nat → Nat → Nat → (Nat → Int32) → Nat → Int32
  | 0, k, a, g => rPut tx a k g
  | n + 1, k, a, g => if tx k = 43 then rInto tx n (k + 1) (k + 1) (rPut tx a k g) else rInto tx n (k + 1) a g
/-- all portions from k on are sound -/
def rOkAll (tx : Nat → Int32) : Nat → Nat → Nat → Prop
  | 0, k, a => rOk tx a k
  | n + 1, k, a => if tx k = 43 then rOk tx a k ∧ rOkAll tx n (k + 1) (k + 1) else rOkAll tx n (k + 1) a
def qMixS (h : Int64) (g v w : Nat → Int32) : Nat → Int64
  | 0 => h
  | s + 1 => qMix (qMixS h g v w s) (qSlice g v w s) 10
