/-! bits of the mask (by program) -/
set_option maxRecDepth 100000 in
theorem mk_set0 : ∀ l : List Bool, l.length = 10 → ((mkL (l.set 0 true) == (mkL l ||| kbit 0)) && (mkL (l.set 0 false) == (mkL l &&& (kbit 0 ^^^ 4294967295)))) = true := len10 (by decide +kernel)
set_option maxRecDepth 100000 in
theorem mk_set1 : ∀ l : List Bool, l.length = 10 → ((mkL (l.set 1 true) == (mkL l ||| kbit 1)) && (mkL (l.set 1 false) == (mkL l &&& (kbit 1 ^^^ 4294967295)))) = true := len10 (by decide +kernel)
set_option maxRecDepth 100000 in
theorem mk_set2 : ∀ l : List Bool, l.length = 10 → ((mkL (l.set 2 true) == (mkL l ||| kbit 2)) && (mkL (l.set 2 false) == (mkL l &&& (kbit 2 ^^^ 4294967295)))) = true := len10 (by decide +kernel)
set_option maxRecDepth 100000 in
theorem mk_set3 : ∀ l : List Bool, l.length = 10 → ((mkL (l.set 3 true) == (mkL l ||| kbit 3)) && (mkL (l.set 3 false) == (mkL l &&& (kbit 3 ^^^ 4294967295)))) = true := len10 (by decide +kernel)
set_option maxRecDepth 100000 in
theorem mk_set4 : ∀ l : List Bool, l.length = 10 → ((mkL (l.set 4 true) == (mkL l ||| kbit 4)) && (mkL (l.set 4 false) == (mkL l &&& (kbit 4 ^^^ 4294967295)))) = true := len10 (by decide +kernel)
set_option maxRecDepth 100000 in
theorem mk_set5 : ∀ l : List Bool, l.length = 10 → ((mkL (l.set 5 true) == (mkL l ||| kbit 5)) && (mkL (l.set 5 false) == (mkL l &&& (kbit 5 ^^^ 4294967295)))) = true := len10 (by decide +kernel)
set_option maxRecDepth 100000 in
theorem mk_set6 : ∀ l : List Bool, l.length = 10 → ((mkL (l.set 6 true) == (mkL l ||| kbit 6)) && (mkL (l.set 6 false) == (mkL l &&& (kbit 6 ^^^ 4294967295)))) = true := len10 (by decide +kernel)
set_option maxRecDepth 100000 in
theorem mk_set7 : ∀ l : List Bool, l.length = 10 → ((mkL (l.set 7 true) == (mkL l ||| kbit 7)) && (mkL (l.set 7 false) == (mkL l &&& (kbit 7 ^^^ 4294967295)))) = true := len10 (by decide +kernel)
set_option maxRecDepth 100000 in
theorem mk_set8 : ∀ l : List Bool, l.length = 10 → ((mkL (l.set 8 true) == (mkL l ||| kbit 8)) && (mkL (l.set 8 false) == (mkL l &&& (kbit 8 ^^^ 4294967295)))) = true := len10 (by decide +kernel)
set_option maxRecDepth 100000 in
theorem mk_set9 : ∀ l : List Bool, l.length = 10 → ((mkL (l.set 9 true) == (mkL l ||| kbit 9)) && (mkL (l.set 9 false) == (mkL l &&& (kbit 9 ^^^ 4294967295)))) = true := len10 (by decide +kernel)
theorem mk_set {l : List Bool} (hl : l.length = 10) : ∀ k, k < 10 → mkL (l.set k true) = mkL l ||| kbit k ∧ mkL (l.set k false) = mkL l &&& (kbit k ^^^ 4294967295) := by
  intro k hk
  have h : ((mkL (l.set k true) == (mkL l ||| kbit k)) && (mkL (l.set k false) == (mkL l &&& (kbit k ^^^ 4294967295)))) = true := by
    match k, hk with
    | 0, _ => exact mk_set0 l hl
    | 1, _ => exact mk_set1 l hl
    | 2, _ => exact mk_set2 l hl
    | 3, _ => exact mk_set3 l hl
    | 4, _ => exact mk_set4 l hl
    | 5, _ => exact mk_set5 l hl
    | 6, _ => exact mk_set6 l hl
    | 7, _ => exact mk_set7 l hl
    | 8, _ => exact mk_set8 l hl
    | 9, _ => exact mk_set9 l hl
  rw [Bool.and_eq_true, beq_iff_eq, beq_iff_eq] at h
  exact h
