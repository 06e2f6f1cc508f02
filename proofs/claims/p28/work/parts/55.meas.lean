/-! measures, in numbers -/
abbrev ST : Type := (Nat → Int64) × (Nat → Int64)
def updL (f : Nat → Int64) (k : Nat) (x : Int64) : Nat → Int64 := fun j => if j = k then x else f j
def goes (σ : Nat → Int32) (k : Nat) (s : ST) : Bool := decide (0 < s.1 (k / 5)) && !decide (0 < s.1 (k % 5)) && hasS σ (k / 5) (k % 5)
theorem goes_t {σ : Nat → Int32} {k : Nat} {s : ST} : goes σ k s = true ↔ 0 < s.1 (k / 5) ∧ ¬ 0 < s.1 (k % 5) ∧ hasS σ (k / 5) (k % 5) = true := by
  unfold goes
  rw [Bool.and_eq_true, Bool.and_eq_true, decide_eq_true_eq, Bool.not_eq_true', decide_eq_false_iff_not, and_assoc]
def nxt (σ : Nat → Int32) (k : Nat) (s : ST) : ST := (updL s.1 (k % 5) (s.1 (k / 5) * (upS σ (k / 5) (k % 5)).toInt64), updL s.2 (k % 5) (s.2 (k / 5) * (upS σ (k % 5) (k / 5)).toInt64))
def stp (σ : Nat → Int32) (k : Nat) (s : ST) : ST := if goes σ k s = true then nxt σ k s else s
def rnd (σ : Nat → Int32) : Nat → ST → ST
  | 0, s => s
  | k + 1, s => stp σ k (rnd σ k s)
def rep (σ : Nat → Int32) : Nat → ST → ST
  | 0, s => s
  | n + 1, s => rnd σ 25 (rep σ n s)
def zc (s : ST) : Nat := cnt (fun k => decide (s.1 k = 0)) 5
/-- the entries are numbers, not too large -/
def GS (s : ST) : Prop := zc s ≤ 5 ∧ ∀ k, k < 5 → ∃ x : Nat, s.1 k = lN x ∧ x ≤ 99 ^ (5 - zc s)
theorem cnt_upd {p q : Nat → Bool} {b : Nat} (h1 : p b = true) (h2 : q b = false) (h3 : ∀ k, k ≠ b → q k = p k) : ∀ n, b < n → cnt q n + 1 = cnt p n := by
  intro n
  induction n with
  | zero => intro h; omega
  | succ n ih =>
    intro h
    by_cases e : n = b
    · subst e
      rw [cnt_t h1, cnt_f h2]
      have e2 : ∀ m, m ≤ n → cnt q m = cnt p m := by
        intro m
        induction m with
        | zero => intro _; rfl
        | succ m im =>
          intro hm
          show cnt q m + _ = cnt p m + _
          rw [im (by omega), h3 m (by omega)]
      rw [e2 n (Nat.le_refl _)]
    · have i := ih (by omega)
      show cnt q n + (if q n then 1 else 0) + 1 = cnt p n + (if p n then 1 else 0)
      rw [h3 n e]
      omega
/-- an entry that was none becomes a number -/
theorem zc_set {s t : ST} {b : Nat} (hb : b < 5) (h0 : s.1 b = 0) (h1 : t.1 b ≠ 0) (h2 : ∀ k, k ≠ b → t.1 k = s.1 k) : zc t + 1 = zc s := by
  unfold zc
  exact cnt_upd (b := b) (decide_eq_true h0) (decide_eq_false h1) (fun k hk => by rw [h2 k hk]) 5 hb
theorem GS.set {s t : ST} (h : GS s) {b : Nat} (hb : b < 5) (h0 : s.1 b = 0) {x : Nat} (hx : t.1 b = lN x) (hx1 : 1 ≤ x) (hx2 : x ≤ 99 ^ (5 - zc s + 1)) (h2 : ∀ k, k ≠ b → t.1 k = s.1 k) : GS t ∧ zc t + 1 = zc s := by
  have hp : ∀ n, n ≤ 6 → 99 ^ n < 2 ^ 63 := fun n hn => Nat.lt_of_le_of_lt (Nat.pow_le_pow_right (by decide) hn) (by decide)
  have hz5 := h.1
  have hx9 : x < 2 ^ 63 := Nat.lt_of_le_of_lt hx2 (hp _ (by omega))
  have hz := zc_set hb h0 (fun e => by rw [hx, show (0 : Int64) = lN 0 from rfl, pk_lEQ hx9 (by decide)] at e; omega) h2
  have he : 5 - zc t = 5 - zc s + 1 := by omega
  refine ⟨⟨by omega, fun k hk => ?_⟩, hz⟩
  rw [he]
  by_cases e : k = b
  · subst e; exact ⟨x, hx, hx2⟩
  · rw [h2 k e]
    obtain ⟨y, e1, e2⟩ := h.2 k hk
    exact ⟨y, e1, Nat.le_trans e2 (Nat.pow_le_pow_right (by decide) (by omega))⟩
theorem upS_nat {σ : Nat → Int32} (hI : I10 σ) {a b : Nat} (ha : a < 5) (hb : b < 5) (hh : hasS σ a b = true) : ∃ u : Nat, 1 ≤ u ∧ u ≤ 99 ∧ upS σ a b = nI u := by
  have hab := hasNe hh
  rw [hasS_eq ha hb hab, decide_eq_true_eq] at hh
  rcases hI _ (pr_lt a b ha hb hab) with ⟨z, _⟩ | ⟨u, d, u1, u2, d1, d2, e1, e2⟩
  · rw [z] at hh; exact absurd hh (by decide)
  · unfold upS
    by_cases hlt : a < b
    · rw [if_pos hlt]; exact ⟨u, u1, u2, e1⟩
    · rw [if_neg hlt]; exact ⟨d, d1, d2, e2⟩
def one (s : ST) (p : Nat) : ST := (updL s.1 p 1, updL s.2 p 1)
def meaS (σ : Nat → Int32) : Nat → ST
  | 0 => (fun _ => 0, fun _ => 0)
  | p + 1 => if 0 < (meaS σ p).1 p then meaS σ p else rep σ 4 (one (meaS σ p) p)
