/-! texts: how the reference reads them -/
def nxN (t : Nat → Nat) (len p : Nat) : Nat := if p < len then t p else 0
theorem nxN_lt {t : Nat → Nat} {len p : Nat} (h : p < len) : nxN t len p = t p := if_pos h
abbrev PS : Type := Nat × Bool
def sgP (t : Nat → Nat) (len c : Nat) (s : PS) : PS := if s.2 = true ∨ nxN t len s.1 ≠ c then (s.1, true) else (s.1 + 1, false)
def dgP (t : Nat → Nat) (len l h : Nat) (s : PS) : PS := if s.2 = true ∨ ¬ (l + 48 ≤ nxN t len s.1 ∧ nxN t len s.1 ≤ h + 48) then (s.1, true) else (s.1 + 1, false)
def dvP (t : Nat → Nat) (len : Nat) (s : PS) : Int32 := nI (nxN t len s.1) - 48
def nmC (t : Nat → Nat) (len most its p : Nat) : Bool := decide (48 ≤ nxN t len p ∧ nxN t len p ≤ 57 ∧ 10 * its + (nxN t len p - 48) ≤ most)
def nmL (t : Nat → Nat) (len most : Nat) : Nat → Nat → Nat → Nat × Nat
  | 0, its, p => (its, p)
  | m + 1, its, p => if nmC t len most its p = true then nmL t len most m (10 * its + (nxN t len p - 48)) (p + 1) else (its, p)
def nmP (t : Nat → Nat) (len most : Nat) (s : PS) : PS := if (dgP t len 1 9 s).2 = true then dgP t len 1 9 s else ((nmL t len most (len + 1 - (dgP t len 1 9 s).1) (nxN t len s.1 - 48) (dgP t len 1 9 s).1).2, false)
def nvP (t : Nat → Nat) (len most : Nat) (s : PS) : Int32 := if (dgP t len 1 9 s).2 = true then dvP t len s else nI (nmL t len most (len + 1 - (dgP t len 1 9 s).1) (nxN t len s.1 - 48) (dgP t len 1 9 s).1).1
/-- the model's numbers, at a place of its text -/
def PV (v : Nat → Int32) (s : PS) : Prop := v 4 = nI s.1 ∧ v 5 = bI s.2
theorem upd_upd (f : Nat → Int32) (k : Nat) (x y : Int32) : upd (upd f k x) k y = upd f k y := by funext j; unfold upd; split <;> rfl
theorem sgP_w {t : Nat → Nat} {len c : Nat} {s : PS} (h : s.2 = true ∨ nxN t len s.1 ≠ c) : sgP t len c s = (s.1, true) := if_pos h
theorem sgP_o {t : Nat → Nat} {len c : Nat} {s : PS} (h : ¬ (s.2 = true ∨ nxN t len s.1 ≠ c)) : sgP t len c s = (s.1 + 1, false) := if_neg h
theorem dgP_w {t : Nat → Nat} {len l h : Nat} {s : PS} (e : s.2 = true ∨ ¬ (l + 48 ≤ nxN t len s.1 ∧ nxN t len s.1 ≤ h + 48)) : dgP t len l h s = (s.1, true) := if_pos e
theorem dgP_o {t : Nat → Nat} {len l h : Nat} {s : PS} (e : ¬ (s.2 = true ∨ ¬ (l + 48 ≤ nxN t len s.1 ∧ nxN t len s.1 ≤ h + 48))) : dgP t len l h s = (s.1 + 1, false) := if_neg e
