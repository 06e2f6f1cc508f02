/-! bolts -/
/-- what the numbers of a land keep -/
def IS (σ : Nat → Int32) : Prop := I10 σ ∧ (∃ n : Nat, n ≤ 8 ∧ σ 60 = nI n ∧ ∀ i, i < n → (∃ q : Nat, q < 5 ∧ σ (28 + 4 * i) = nI q) ∧ ∃ l : Nat, l ≤ 99999 ∧ σ (28 + 4 * i + 1) = nI l) ∧
  (∀ i, i < 5 → ∃ k : Nat, 20 ≤ k ∧ k ≤ 60 ∧ σ (20 + i) = nI k) ∧ (∃ k : Nat, k ≤ 500 ∧ σ 25 = nI k) ∧ (∃ k : Nat, k ≤ 1 ∧ σ 26 = nI k) ∧ (∃ k : Nat, 1 ≤ k ∧ k ≤ 4 ∧ σ 27 = nI k) ∧
  ((σ 63 = 0 ∧ σ 64 = 0) ∨ ∃ n w : Nat, n < 100 ∧ 1 ≤ w ∧ w ≤ 8 ∧ σ 63 = nI (n + 1) ∧ σ 64 = nI w)
theorem c60 : (60 : Int32).toNatClampNeg = 60 := rfl
theorem c61 : (61 : Int32).toNatClampNeg = 61 := rfl
theorem I10.upd {σ : Nat → Int32} (hI : I10 σ) {k : Nat} {x : Int32} (h : 20 ≤ k) : I10 (upd σ k x) := by
  intro j hj
  rw [upd_ne (by omega), upd_ne (by omega)]
  exact hI j hj
def comeS (σ : Nat → Int32) (n : Nat) (p l : Int32) : Nat → Int32 := upd (upd (upd (upd (upd σ (28 + 4 * n) p) (28 + 4 * n + 1) l) (28 + 4 * n + 2) 0) (28 + 4 * n + 3) 0) 60 (nI (n + 1))
/-- why a bolt that lies in q can't go to p; x its length -/
def barS (σ : Nat → Int32) (q p : Nat) (x : Int64) : Int32 := if q = p then 1 else if hasS σ q p = false then 2 else if 99999 < turnS σ q p x then 3 else 0
theorem barS_1 {σ : Nat → Int32} {q p : Nat} {x : Int64} (h : q = p) : barS σ q p x = 1 := if_pos h
theorem barS_2 {σ : Nat → Int32} {q p : Nat} {x : Int64} (h : ¬ q = p) (h2 : hasS σ q p = false) : barS σ q p x = 2 := by unfold barS; rw [if_neg h, if_pos h2]
theorem barS_3 {σ : Nat → Int32} {q p : Nat} {x : Int64} (h : ¬ q = p) (h2 : hasS σ q p = true) (h3 : 99999 < turnS σ q p x) : barS σ q p x = 3 := by unfold barS; rw [if_neg h, if_neg (by rw [h2]; decide), if_pos h3]
theorem barS_0 {σ : Nat → Int32} {q p : Nat} {x : Int64} (h : ¬ q = p) (h2 : hasS σ q p = true) (h3 : ¬ 99999 < turnS σ q p x) : barS σ q p x = 0 := by unfold barS; rw [if_neg h, if_neg (by rw [h2]; decide), if_neg h3]
theorem barS_0' {σ : Nat → Int32} {q p : Nat} {x : Int64} (h : barS σ q p x = 0) : hasS σ q p = true := by
  unfold barS at h
  split at h
  · exact absurd h (by decide)
  · split at h
    · exact absurd h (by decide)
    · rename_i h2
      exact (Bool.not_eq_false _).mp h2
def sendS (σ : Nat → Int32) (i q p : Nat) : Nat → Int32 :=
  upd (upd (upd (upd (upd σ (28 + 4 * i) (nI p)) (28 + 4 * i + 1) (turnS σ q p (σ (28 + 4 * i + 1)).toInt64).toInt32) (28 + 4 * i + 2) (σ (28 + 4 * i + 2) + (gainT σ q p (σ (28 + 4 * i + 1)).toInt64).toInt32)) (28 + 4 * i + 3) (σ (28 + 4 * i + 3) + 1)) 61 (σ 61 + (gainT σ q p (σ (28 + 4 * i + 1)).toInt64).toInt32)
