/-! the reference: what is saved -/
theorem MD.o {g : GE} {M : Mem} {σ v : Nat → Int32} (h : MD g M σ v) {k : Nat} {e : va_E} (h1 : k ≠ 96) (h2 : k ≠ 97) (h3 : k ≠ 101) (h4 : k ≠ 102) : MD g (mup M k e) σ v := ⟨(mup_ne _ _ (Ne.symm h1)).trans h.1, (mup_ne _ _ (Ne.symm h2)).trans h.2.1, (mup_ne _ _ (Ne.symm h3)).trans h.2.2.1, (mup_ne _ _ (Ne.symm h4)).trans h.2.2.2⟩
def PF (pf : Nat → Int32) (n : Nat) (ps : Nat → Nat → Int32) : Prop := ∀ i, i < n → ∀ k, k < 65 → pf (65 * i + k) = ps i k
def SV (g : GE) (M M1 : Mem) (σ v : Nat → Int32) (n : Nat) (ps : Nat → Nat → Int32) : Prop := (∃ pf, M1 98 = some (eI g 390 pf) ∧ PF pf n ps) ∧ MD g M1 σ (upd v 0 (nI n)) ∧ ∀ k, k ≠ 96 → k ≠ 98 → M1 k = M k
