/-! the reference: rings, gains, tables that are tried -/
def allN (P : Nat → Bool) : Nat → Bool
  | 0 => true
  | n + 1 => allN P n && P n
def codI : Option Nat → Int32
  | none => 0
  | some r => nI (rC r)
theorem MD.put {g : GE} {M : Mem} {σ v : Nat → Int32} (h : MD g M σ v) (σ2 : Nat → Int32) : MD g (mup M 97 (eI g 65 σ2)) σ2 v := ⟨(mup_ne _ _ (by decide)).trans h.1, mup_eq _ _ _, (mup_ne _ _ (by decide)).trans h.2.2.1, (mup_ne _ _ (by decide)).trans h.2.2.2⟩
