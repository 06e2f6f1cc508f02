/-! ways: the reference looks at numbers -/
def dg (c s k : Nat) : Nat := c / 10 ^ (s - 1 - k) % 10
def mkD (c s : Nat) : Nat → Nat
  | 0 => 0
  | k + 1 => mkD c s k ||| 2 ^ dg c s k
def isP9 (c s k : Nat) : Bool := decide (dg c s k < 5) && !(mkD c s k).testBit (dg c s k)
def isW (c s : Nat) : Bool := allN (isP9 c s) s
def wC (a b i : Nat) : Nat := numN (oSt a b i) (wSz i)
theorem wC_ok : ∀ a b i, a < 5 → b < 5 → a ≠ b → i < 16 → wC a b i < 100000 ∧ isW (wC a b i) (wSz i) = true ∧ dg (wC a b i) (wSz i) 0 = a ∧ dg (wC a b i) (wSz i) (wSz i - 1) = b ∧ a * 10 ^ (wSz i - 1) ≤ wC a b i ∧ wC a b i < (a + 1) * 10 ^ (wSz i - 1) := by
  have h : ((List.range 5).all fun a => (List.range 5).all fun b => (List.range 16).all fun i => decide (a ≠ b → wC a b i < 100000 ∧ isW (wC a b i) (wSz i) = true ∧ dg (wC a b i) (wSz i) 0 = a ∧ dg (wC a b i) (wSz i) (wSz i - 1) = b ∧ a * 10 ^ (wSz i - 1) ≤ wC a b i ∧ wC a b i < (a + 1) * 10 ^ (wSz i - 1))) = true := by decide +kernel
  intro a b i ha hb hab hi
  exact of_decide_eq_true (all_lt (all_lt (all_lt h a ha) b hb) i hi) hab
