/-! a land in numbers: tables, rings -/
def pr (a b : Nat) : Nat := min a b * 4 - min a b * (min a b - 1) / 2 + max a b - min a b - 1
def upS (σ : Nat → Int32) (a b : Nat) : Int32 := if a < b then σ (pr a b) else σ (10 + pr a b)
def hv (σ : Nat → Int32) : List Bool := [decide (0 < σ 0), decide (0 < σ 1), decide (0 < σ 2), decide (0 < σ 3), decide (0 < σ 4), decide (0 < σ 5), decide (0 < σ 6), decide (0 < σ 7), decide (0 < σ 8), decide (0 < σ 9)]
def hasL (l : List Bool) (a b : Nat) : Bool := a != b && l.getD (pr a b) false
def hasS (σ : Nat → Int32) (a b : Nat) : Bool := hasL (hv σ) a b
def ringsN : List Nat := [12, 13, 14, 23, 24, 34, 123, 124, 134, 234, 123, 124, 132, 134, 142, 143, 213, 214, 234, 243, 314, 324, 1234, 1243, 1324, 1234, 1243, 1324, 1342, 1423, 1432, 2134, 2143, 2314, 2413, 3124, 3214]
def rC (r : Nat) : Nat := ringsN.getD r 0
def rSz (r : Nat) : Nat := if r < 10 then 3 else if r < 25 then 4 else 5
def rP (r i : Nat) : Nat := rC r / 10 ^ (rSz r - 1 - i) % 10
/-- the pair at a place of a ring -/
def rQ (r i : Nat) : Nat × Nat := (rP r i, rP r ((i + 1) % rSz r))
def thrL (l : List Bool) (r : Nat) : Bool := (List.range (rSz r)).all fun i => hasL l (rQ r i).1 (rQ r i).2
def thr (σ : Nat → Int32) (r : Nat) : Bool := thrL (hv σ) r
def pbit (a b : Nat) : Nat := min a b * 5 + max a b
def pairsN : List (Nat × Nat) := [(0, 1), (0, 2), (0, 3), (0, 4), (1, 2), (1, 3), (1, 4), (2, 3), (2, 4), (3, 4)]
def kbit (k : Nat) : Nat := 2 ^ pbit (pairsN.getD k (0, 0)).1 (pairsN.getD k (0, 0)).2
def mkL (l : List Bool) : Nat := (List.range 10).foldl (fun s k => if l.getD k false then s ||| kbit k else s) 0
def rB (r : Nat) : Nat := (List.range (rSz r)).foldl (fun s i => s ||| 2 ^ pbit (rQ r i).1 (rQ r i).2) 0
/-- a ring has the table of a and b -/
def rHas (r a b : Nat) : Bool := (List.range (rSz r)).any fun i => ((rQ r i).1 == a && (rQ r i).2 == b) || ((rQ r i).1 == b && (rQ r i).2 == a)
theorem all_lt {p : Nat → Bool} {n : Nat} (h : (List.range n).all p = true) : ∀ i, i < n → p i = true := fun i hi => List.all_eq_true.mp h i (List.mem_range.mpr hi)
theorem rP_lt : ∀ r, r < 37 → ∀ i, i < rSz r → rP r i < 5 := by
  have h : ((List.range 37).all fun r => (List.range (rSz r)).all fun i => decide (rP r i < 5)) = true := by decide +kernel
  intro r hr i hi
  exact of_decide_eq_true (all_lt (all_lt h r hr) i hi)
theorem rQ_ne : ∀ r, r < 37 → ∀ i, i < rSz r → (rQ r i).1 ≠ (rQ r i).2 := by
  have h : ((List.range 37).all fun r => (List.range (rSz r)).all fun i => decide ((rQ r i).1 ≠ (rQ r i).2)) = true := by decide +kernel
  intro r hr i hi
  exact of_decide_eq_true (all_lt (all_lt h r hr) i hi)
theorem rSz_in (r : Nat) : 3 ≤ rSz r ∧ rSz r ≤ 5 := by
  unfold rSz
  split
  · omega
  · split <;> omega
theorem rC_lt : ∀ r, r < 37 → rC r < 10000 := by
  have h : ((List.range 37).all fun r => decide (rC r < 10000)) = true := by decide +kernel
  intro r hr
  exact of_decide_eq_true (all_lt h r hr)
theorem rB_lt : ∀ r, r < 37 → rB r < 2 ^ 20 := by
  have h : ((List.range 37).all fun r => decide (rB r < 2 ^ 20)) = true := by decide +kernel
  intro r hr
  exact of_decide_eq_true (all_lt h r hr)
theorem rQ_lt {r i : Nat} (hr : r < 37) (hi : i < rSz r) : (rQ r i).1 < 5 ∧ (rQ r i).2 < 5 := ⟨rP_lt r hr i hi, rP_lt r hr _ (Nat.mod_lt _ (by have := rSz_in r; omega))⟩
theorem pr_lt : ∀ a b, a < 5 → b < 5 → a ≠ b → pr a b < 10 := by
  have h : ((List.range 5).all fun a => (List.range 5).all fun b => decide (a ≠ b → pr a b < 10)) = true := by decide +kernel
  intro a b ha hb
  exact of_decide_eq_true (all_lt (all_lt h a ha) b hb)
theorem pr_inj : ∀ a b c d, a < 5 → b < 5 → c < 5 → d < 5 → a ≠ b → c ≠ d → pr a b = pr c d → (a = c ∧ b = d) ∨ (a = d ∧ b = c) := by
  have h : ((List.range 5).all fun a => (List.range 5).all fun b => (List.range 5).all fun c => (List.range 5).all fun d => decide (a ≠ b → c ≠ d → pr a b = pr c d → (a = c ∧ b = d) ∨ (a = d ∧ b = c))) = true := by decide +kernel
  intro a b c d ha hb hc hd
  exact of_decide_eq_true (all_lt (all_lt (all_lt (all_lt h a ha) b hb) c hc) d hd)
theorem pr_comm (a b : Nat) : pr a b = pr b a := by unfold pr; rw [Nat.min_comm, Nat.max_comm]
theorem hv_len (σ : Nat → Int32) : (hv σ).length = 10 := rfl
theorem hv_at {σ : Nat → Int32} {k : Nat} (h : k < 10) : (hv σ).getD k false = decide (0 < σ k) := by
  rcases k with _ | _ | _ | _ | _ | _ | _ | _ | _ | _ | k <;> first | rfl | omega
theorem hasS_eq {σ : Nat → Int32} {a b : Nat} (ha : a < 5) (hb : b < 5) (hab : a ≠ b) : hasS σ a b = decide (0 < σ (pr a b)) := by
  unfold hasS hasL
  rw [hv_at (pr_lt a b ha hb hab), bne_iff_ne.mpr hab, Bool.true_and]
/-- all lists of ten truths -/
theorem len10 {P : List Bool → Prop} (h : ∀ a b c d e f g i j k : Bool, P [a, b, c, d, e, f, g, i, j, k]) : ∀ l : List Bool, l.length = 10 → P l := by
  intro l hl
  match l, hl with
  | [a, b, c, d, e, f, g, i, j, k], _ => exact h a b c d e f g i j k
set_option maxRecDepth 100000 in
theorem mk_thr : ∀ l : List Bool, l.length = 10 → ((List.range 37).all fun r => (mkL l &&& rB r == rB r) == thrL l r) = true :=
  len10 (by decide +kernel)
theorem mk_thr_at {l : List Bool} (hl : l.length = 10) {r : Nat} (hr : r < 37) : (mkL l &&& rB r == rB r) = thrL l r := by
  have h := all_lt (mk_thr l hl) r hr
  exact eq_of_beq h
set_option maxRecDepth 100000 in
theorem mk_lt : ∀ l : List Bool, l.length = 10 → decide (mkL l < 2 ^ 20) = true := len10 (by decide +kernel)
/-- the tables of the class hold what σ holds -/
def TabR (f : Nat → Int32) (p : Int32) (σ : Nat → Int32) : Prop := (∀ a b, a < 5 → b < 5 → a ≠ b → f (5 * a + b) = upS σ a b) ∧ (∀ a, a < 5 → f (6 * a) = 0) ∧ p = nI (mkL (hv σ))
def I10 (σ : Nat → Int32) : Prop := ∀ k, k < 10 → (σ k = 0 ∧ σ (10 + k) = 0) ∨ ∃ u d : Nat, 1 ≤ u ∧ u ≤ 99 ∧ 1 ≤ d ∧ d ≤ 99 ∧ σ k = nI u ∧ σ (10 + k) = nI d
theorem I10.pos {σ : Nat → Int32} (h : I10 σ) {a b : Nat} (ha : a < 5) (hb : b < 5) (hab : a ≠ b) : hasS σ a b = decide (0 < upS σ a b) := by
  rw [hasS_eq ha hb hab]
  unfold upS
  split
  · rfl
  · rcases h (pr a b) (pr_lt a b ha hb hab) with ⟨e1, e2⟩ | ⟨u, d, h1, h2, h3, h4, e1, e2⟩
    · rw [e1, e2]
    · rw [e1, e2]
      have h5 : (0 : Int32) < nI u := by rw [← nI_0]; exact nI_lt (by omega) (by omega)
      have h6 : (0 : Int32) < nI d := by rw [← nI_0]; exact nI_lt (by omega) (by omega)
      rw [decide_eq_true h5, decide_eq_true h6]
theorem I10.ex {σ : Nat → Int32} (h : I10 σ) {a b : Nat} (ha : a < 5) (hb : b < 5) (hab : a ≠ b) (hh : hasS σ a b = true) : ∃ u : Nat, 1 ≤ u ∧ u ≤ 99 ∧ upS σ a b = nI u := by
  rw [h.pos ha hb hab] at hh
  have hp := of_decide_eq_true hh
  unfold upS at hp ⊢
  split at hp
  · rename_i hlt
    rw [if_pos hlt]
    rcases h (pr a b) (pr_lt a b ha hb hab) with ⟨e1, e2⟩ | ⟨u, d, h1, h2, h3, h4, e1, e2⟩
    · rw [e1] at hp; exact absurd hp (by decide)
    · exact ⟨u, h1, h2, e1⟩
  · rename_i hlt
    rw [if_neg hlt]
    rcases h (pr a b) (pr_lt a b ha hb hab) with ⟨e1, e2⟩ | ⟨u, d, h1, h2, h3, h4, e1, e2⟩
    · rw [e2] at hp; exact absurd hp (by decide)
    · exact ⟨d, h3, h4, e2⟩
theorem hasS_comm (σ : Nat → Int32) (a b : Nat) : hasS σ a b = hasS σ b a := by
  unfold hasS hasL
  rw [pr_comm a b]
  congr 1
  cases h : (a != b) <;> cases h2 : (b != a) <;> simp_all
/-- products, gains -/
def facs (σ : Nat → Int32) (ups : Bool) (q : Nat × Nat) : Int64 := (if ups then upS σ q.1 q.2 else upS σ q.2 q.1).toInt64
def prodL (σ : Nat → Int32) (ups : Bool) (l : List (Nat × Nat)) : Int64 := l.foldl (fun s q => s * facs σ ups q) 1
def rL (r : Nat) : List (Nat × Nat) := (List.range (rSz r)).map (rQ r)
def prodS (σ : Nat → Int32) (r : Nat) (ups : Bool) : Int64 := prodL σ ups (rL r)
def flr (a b : Int64) : Int64 := if a - a / b * b < 0 then a / b - 1 else a / b
def gainS (σ : Nat → Int32) (r : Nat) : Int64 := flr ((prodS σ r true - prodS σ r false) * 10000) (prodS σ r false)
def offS (σ : Nat → Int32) (r : Nat) : Bool := decide ((σ 25).toInt64 < labs (gainS σ r))
/-- how many r below n have p -/
def cnt (p : Nat → Bool) : Nat → Nat
  | 0 => 0
  | n + 1 => cnt p n + (if p n then 1 else 0)
theorem cnt_le (p : Nat → Bool) : ∀ n, cnt p n ≤ n
  | 0 => Nat.le_refl 0
  | n + 1 => by
    have := cnt_le p n
    show cnt p n + _ ≤ n + 1
    split <;> omega
theorem cnt_t {p : Nat → Bool} {n : Nat} (h : p n = true) : cnt p (n + 1) = cnt p n + 1 := by show cnt p n + _ = _; rw [if_pos h]
theorem cnt_f {p : Nat → Bool} {n : Nat} (h : p n = false) : cnt p (n + 1) = cnt p n := by show cnt p n + _ = _; rw [if_neg (by rw [h]; decide)]; rfl
theorem bI_0 {b : Bool} (h : bI b = 0) : b = false := by cases b <;> first | rfl | exact absurd h (by decide)
theorem bI_1 {b : Bool} (h : ¬ bI b = 0) : b = true := by cases b <;> first | rfl | exact absurd rfl h
