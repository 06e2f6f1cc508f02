/-! texts: numbers, parts, the whole, of the reference -/
theorem dgP_le {t : Nat → Nat} {len l h : Nat} {s : PS} (hp : s.1 ≤ len) : (dgP t len l h s).1 ≤ len := by
  by_cases e : s.2 = true ∨ ¬ (l + 48 ≤ nxN t len s.1 ∧ nxN t len s.1 ≤ h + 48)
  · rw [dgP_w e]; exact hp
  · rw [dgP_o e]
    have h1 : l + 48 ≤ nxN t len s.1 := (Decidable.of_not_not (fun h => e (Or.inr h))).1
    show s.1 + 1 ≤ len
    unfold nxN at h1
    split at h1 <;> omega
theorem sgP_le {t : Nat → Nat} {len c : Nat} {s : PS} (hc : 0 < c) (hp : s.1 ≤ len) : (sgP t len c s).1 ≤ len := by
  by_cases e : s.2 = true ∨ nxN t len s.1 ≠ c
  · rw [sgP_w e]; exact hp
  · rw [sgP_o e]
    have h1 : nxN t len s.1 = c := Decidable.of_not_not (fun h => e (Or.inr h))
    show s.1 + 1 ≤ len
    unfold nxN at h1
    split at h1 <;> omega
theorem nmC_lt {t : Nat → Nat} {len most its p : Nat} (h : nmC t len most its p = true) : p < len := by
  have h1 := (of_decide_eq_true h).1
  unfold nxN at h1
  split at h1 <;> omega
theorem nmL_le {t : Nat → Nat} {len most : Nat} : ∀ m its p, p ≤ len → (nmL t len most m its p).2 ≤ len ∧ p ≤ (nmL t len most m its p).2
  | 0, its, p, h => ⟨h, Nat.le_refl _⟩
  | m + 1, its, p, h => by
    unfold nmL
    by_cases e : nmC t len most its p = true
    · rw [if_pos e]
      have := nmL_le (t := t) (most := most) m (10 * its + (nxN t len p - 48)) (p + 1) (nmC_lt e)
      exact ⟨this.1, by omega⟩
    · rw [if_neg e]; exact ⟨h, Nat.le_refl _⟩
theorem PV.upd {v : Nat → Int32} {s : PS} (h : PV v s) {k : Nat} {x : Int32} (h4 : 4 ≠ k) (h5 : 5 ≠ k) : PV (upd v k x) s := ⟨(upd_ne h4).trans h.1, (upd_ne h5).trans h.2⟩
def pE45 (t : Nat → Nat) (len p : Nat) : PS := (dgP t len 0 4 (sgP t len 62 (dgP t len 0 4 (p + 1, false))))
def pE98 (t : Nat → Nat) (len p : Nat) : PS := (nmP t len 9999 (sgP t len 61 (dgP t len 0 4 (p + 1, false))))
def pE115 (t : Nat → Nat) (len p : Nat) : PS := (dgP t len 0 4 (sgP t len 62 (dgP t len 0 7 (p + 1, false))))
def pE116 (t : Nat → Nat) (len p : Nat) : PS := (nmP t len 99 (sgP t len 47 (nmP t len 99 (sgP t len 61 (dgP t len 0 4 (sgP t len 62 (dgP t len 0 4 (p, false))))))))
