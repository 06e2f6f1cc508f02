/-! soundness, told in two ways; ways under it -/
def uN (σ : Nat → Int32) (a b : Nat) : Nat := (upS σ a b).toNatClampNeg
theorem uN_v {σ : Nat → Int32} (hI : I10 σ) {a b : Nat} (ha : a < 5) (hb : b < 5) (hh : hasS σ a b = true) : 1 ≤ uN σ a b ∧ uN σ a b ≤ 99 ∧ upS σ a b = nI (uN σ a b) := by
  obtain ⟨u, h1, h2, h3⟩ := upS_nat hI ha hb hh
  have e : uN σ a b = u := by unfold uN; rw [h3, nI_clamp (by omega)]
  rw [e]
  exact ⟨h1, h2, h3⟩
theorem uN_l {σ : Nat → Int32} (hI : I10 σ) {a b : Nat} (ha : a < 5) (hb : b < 5) (hh : hasS σ a b = true) : (upS σ a b).toInt64 = lN (uN σ a b) := by
  obtain ⟨h1, h2, h3⟩ := uN_v hI ha hb hh
  have e := nI_l (n := uN σ a b) (by omega)
  rw [← h3] at e
  exact e
def evL (σ : Nat → Int32) : List (Nat × Nat) → Nat
  | [] => 1
  | q :: l => uN σ q.1 q.2 * evL σ l
def rvL (l : List (Nat × Nat)) : List (Nat × Nat) := l.map fun q => (q.2, q.1)
theorem evL_app (σ : Nat → Int32) : ∀ l m, evL σ (l ++ m) = evL σ l * evL σ m
  | [], m => (Nat.one_mul _).symm
  | q :: l, m => by show uN σ q.1 q.2 * evL σ (l ++ m) = uN σ q.1 q.2 * evL σ l * evL σ m; rw [evL_app σ l m, Nat.mul_assoc]
theorem rvL_app (l m : List (Nat × Nat)) : rvL (l ++ m) = rvL l ++ rvL m := List.map_append
theorem rvL_rvL : ∀ l : List (Nat × Nat), rvL (rvL l) = l
  | [] => rfl
  | q :: l => by show (q.1, q.2) :: rvL (rvL l) = q :: l; rw [rvL_rvL l]
theorem evL_perm {σ : Nat → Int32} {l m : List (Nat × Nat)} (h : l.Perm m) : evL σ l = evL σ m := by
  induction h with
  | nil => rfl
  | cons q _ ih => show _ * _ = _ * _; rw [ih]
  | swap q r l => exact Nat.mul_left_comm _ _ _
  | trans _ _ h1 h2 => exact h1.trans h2
/-- a walk by tables, by its steps -/
def walkS (σ : Nat → Int32) : Nat → List (Nat × Nat) → Nat → Prop
  | a, [], b => a = b
  | a, q :: l, b => q.1 = a ∧ q.1 < 5 ∧ q.2 < 5 ∧ hasS σ q.1 q.2 = true ∧ walkS σ q.2 l b
theorem walkS_app {σ : Nat → Int32} : ∀ (l m : List (Nat × Nat)) (a b : Nat), walkS σ a (l ++ m) b ↔ ∃ v, walkS σ a l v ∧ walkS σ v m b
  | [], m, a, b => ⟨fun h => ⟨a, rfl, h⟩, fun ⟨v, h1, h2⟩ => by cases (show a = v from h1); exact h2⟩
  | q :: l, m, a, b => by
    constructor
    · rintro ⟨h1, h2, h3, h4, h5⟩
      obtain ⟨v, h6, h7⟩ := (walkS_app l m _ _).mp h5
      exact ⟨v, ⟨h1, h2, h3, h4, h6⟩, h7⟩
    · rintro ⟨v, ⟨h1, h2, h3, h4, h6⟩, h7⟩
      exact ⟨h1, h2, h3, h4, (walkS_app l m _ _).mpr ⟨v, h6, h7⟩⟩
def bkL (l : List (Nat × Nat)) : List (Nat × Nat) := (rvL l).reverse
theorem walkS_bk {σ : Nat → Int32} : ∀ (l : List (Nat × Nat)) (a b : Nat), walkS σ a l b → walkS σ b (bkL l) a
  | [], a, b, h => (show a = b from h).symm
  | q :: l, a, b, ⟨h1, h2, h3, h4, h5⟩ => by
    have e : bkL (q :: l) = bkL l ++ [(q.2, q.1)] := List.reverse_cons
    rw [e]
    exact (walkS_app _ _ _ _).mpr ⟨q.2, walkS_bk l _ _ h5, rfl, h3, h2, by rw [hasS_comm]; exact h4, h1⟩
theorem ev_bk (σ : Nat → Int32) (l : List (Nat × Nat)) : evL σ (bkL l) = evL σ (rvL l) := evL_perm (List.reverse_perm _)
theorem ev_rbk (σ : Nat → Int32) (l : List (Nat × Nat)) : evL σ (rvL (bkL l)) = evL σ l := by
  have e : rvL (bkL l) = (rvL (rvL l)).reverse := List.map_reverse
  rw [e, rvL_rvL]
  exact evL_perm (List.reverse_perm _)
theorem ev_bd {σ : Nat → Int32} (hI : I10 σ) : ∀ (l : List (Nat × Nat)) (a b : Nat), walkS σ a l b → (1 ≤ evL σ l ∧ evL σ l ≤ 99 ^ l.length) ∧ 1 ≤ evL σ (rvL l) ∧ evL σ (rvL l) ≤ 99 ^ l.length
  | [], a, b, _ => ⟨⟨Nat.le_refl _, Nat.le_refl _⟩, Nat.le_refl _, Nat.le_refl _⟩
  | q :: l, a, b, ⟨h1, h2, h3, h4, h5⟩ => by
    obtain ⟨⟨a1, a2⟩, a3, a4⟩ := ev_bd hI l _ _ h5
    obtain ⟨b1, b2, _⟩ := uN_v hI h2 h3 h4
    obtain ⟨c1, c2, _⟩ := uN_v hI h3 h2 (by rw [hasS_comm]; exact h4)
    refine ⟨⟨Nat.mul_pos b1 a1, ?_⟩, Nat.mul_pos c1 a3, ?_⟩
    · show _ * _ ≤ 99 ^ (l.length + 1)
      rw [Nat.pow_succ, Nat.mul_comm]
      exact Nat.mul_le_mul a2 b2
    · show _ * _ ≤ 99 ^ (l.length + 1)
      rw [Nat.pow_succ, Nat.mul_comm]
      exact Nat.mul_le_mul a4 c2
/-- numbers of parishes that go with all tables -/
def POT (σ : Nat → Int32) (x y : Nat → Nat) : Prop := (∀ k, k < 5 → 1 ≤ x k ∧ 1 ≤ y k) ∧ ∀ a b, a < 5 → b < 5 → hasS σ a b = true → x a * uN σ a b * y b = x b * uN σ b a * y a
theorem mul_six (a u c x p b : Nat) : x * c * (a * (u * p) * b) = a * u * c * (x * p * b) := by ac_rfl
theorem mul_six2 (a d c x p b : Nat) : x * c * (b * (d * p) * a) = x * d * a * (b * p * c) := by ac_rfl
theorem pot_walk {σ : Nat → Int32} {x y : Nat → Nat} (hp : POT σ x y) : ∀ (l : List (Nat × Nat)) (a b : Nat), walkS σ a l b → x a * evL σ l * y b = x b * evL σ (rvL l) * y a
  | [], a, b, h => by cases (show a = b from h); rfl
  | q :: l, a, b, ⟨h1, h2, h3, h4, h5⟩ => by
    subst h1
    have e1 := hp.2 q.1 q.2 h2 h3 h4
    have e2 := pot_walk hp l q.2 b h5
    apply Nat.eq_of_mul_eq_mul_left (Nat.mul_pos (hp.1 q.2 h3).1 (hp.1 q.2 h3).2)
    show x q.2 * y q.2 * (x q.1 * (uN σ q.1 q.2 * evL σ l) * y b) = x q.2 * y q.2 * (x b * (uN σ q.2 q.1 * evL σ (rvL l)) * y q.1)
    rw [mul_six, mul_six2, e1, e2]
/-- closed walks -/
def SND (σ : Nat → Int32) : Prop := ∀ r, r < 37 → thr σ r = true → evL σ (rL r) = evL σ (rvL (rL r))
def cyP (E : List (Nat × Nat)) (r : Nat) : Bool := E.isPerm (rL r) || (rvL E).isPerm (rL r)
set_option maxRecDepth 100000 in
theorem cyc3 : ∀ a b c, a < 5 → b < 5 → c < 5 → [a, b, c].Nodup → ∃ r, r < 37 ∧ cyP [(a, b), (b, c), (c, a)] r = true := by
  have h : ((List.range 5).all fun a => (List.range 5).all fun b => (List.range 5).all fun c => !decide ([a, b, c].Nodup) || (List.range 10).any fun r => cyP [(a, b), (b, c), (c, a)] r) = true := by decide +kernel
  intro a b c ha hb hc hn
  have h1 := all_lt (all_lt (all_lt h a ha) b hb) c hc
  rw [decide_eq_true hn, Bool.not_true, Bool.false_or] at h1
  obtain ⟨r, hr, h2⟩ := List.any_eq_true.mp h1
  exact ⟨r, by have := List.mem_range.mp hr; omega, h2⟩
set_option maxRecDepth 100000 in
theorem cyc4 : ∀ a b c d, a < 5 → b < 5 → c < 5 → d < 5 → [a, b, c, d].Nodup → ∃ r, r < 37 ∧ cyP [(a, b), (b, c), (c, d), (d, a)] r = true := by
  have h : ((List.range 5).all fun a => (List.range 5).all fun b => (List.range 5).all fun c => (List.range 5).all fun d => !decide ([a, b, c, d].Nodup) || (List.range 15).any fun r => cyP [(a, b), (b, c), (c, d), (d, a)] (10 + r)) = true := by decide +kernel
  intro a b c d ha hb hc hd hn
  have h1 := all_lt (all_lt (all_lt (all_lt h a ha) b hb) c hc) d hd
  rw [decide_eq_true hn, Bool.not_true, Bool.false_or] at h1
  obtain ⟨r, hr, h2⟩ := List.any_eq_true.mp h1
  exact ⟨10 + r, by have := List.mem_range.mp hr; omega, h2⟩
set_option maxRecDepth 100000 in
theorem cyc5 : ∀ a b c d e, a < 5 → b < 5 → c < 5 → d < 5 → e < 5 → [a, b, c, d, e].Nodup → ∃ r, r < 37 ∧ cyP [(a, b), (b, c), (c, d), (d, e), (e, a)] r = true := by
  have h : ((List.range 5).all fun a => (List.range 5).all fun b => (List.range 5).all fun c => (List.range 5).all fun d => (List.range 5).all fun e => !decide ([a, b, c, d, e].Nodup) || (List.range 12).any fun r => cyP [(a, b), (b, c), (c, d), (d, e), (e, a)] (25 + r)) = true := by decide +kernel
  intro a b c d e ha hb hc hd he hn
  have h1 := all_lt (all_lt (all_lt (all_lt (all_lt h a ha) b hb) c hc) d hd) e he
  rw [decide_eq_true hn, Bool.not_true, Bool.false_or] at h1
  obtain ⟨r, hr, h2⟩ := List.any_eq_true.mp h1
  exact ⟨25 + r, by have := List.mem_range.mp hr; omega, h2⟩
set_option maxRecDepth 100000 in
theorem cyc6 : ∀ a b c d e f, a < 5 → b < 5 → c < 5 → d < 5 → e < 5 → f < 5 → ¬ [a, b, c, d, e, f].Nodup := by
  have h : ((List.range 5).all fun a => (List.range 5).all fun b => (List.range 5).all fun c => (List.range 5).all fun d => (List.range 5).all fun e => (List.range 5).all fun f => !decide ([a, b, c, d, e, f].Nodup)) = true := by decide +kernel
  intro a b c d e f ha hb hc hd he hf hn
  have h1 := all_lt (all_lt (all_lt (all_lt (all_lt (all_lt h a ha) b hb) c hc) d hd) e he) f hf
  rw [decide_eq_true hn] at h1
  cases h1
theorem perm_ring {σ : Nat → Int32} (hS : SND σ) {E : List (Nat × Nat)} (hE : ∀ q ∈ E, hasS σ q.1 q.2 = true) {r : Nat} (hr : r < 37) (h : cyP E r = true) : evL σ E = evL σ (rvL E) := by
  unfold cyP at h
  rw [Bool.or_eq_true, List.isPerm_iff, List.isPerm_iff] at h
  have hin : ∀ i, i < rSz r → rQ r i ∈ rL r := fun i hi => List.mem_map.mpr ⟨i, List.mem_range.mpr hi, rfl⟩
  rcases h with h | h
  · have ht : thr σ r = true := List.all_eq_true.mpr fun i hi => hE _ (h.mem_iff.mpr (hin i (List.mem_range.mp hi)))
    rw [evL_perm h, hS r hr ht]
    exact (evL_perm (h.map _)).symm
  · have ht : thr σ r = true := List.all_eq_true.mpr fun i hi => by
      obtain ⟨q, hq, e⟩ := List.mem_map.mp (h.mem_iff.mpr (hin i (List.mem_range.mp hi)))
      rw [← e]
      show hasS σ q.2 q.1 = true
      rw [hasS_comm]
      exact hE q hq
    have h2 : (rvL (rvL E)).Perm (rvL (rL r)) := h.map _
    rw [evL_perm h, hS r hr ht, ← evL_perm (σ := σ) h2, rvL_rvL]
theorem not_nodup : ∀ (l : List (Nat × Nat)), ¬ (l.map Prod.fst).Nodup → ∃ E1 q E2 r E3, l = E1 ++ (q :: E2 ++ r :: E3) ∧ q.1 = r.1
  | [], h => absurd List.nodup_nil h
  | q :: l, h => by
    by_cases hm : q.1 ∈ l.map Prod.fst
    · obtain ⟨r, hr, e⟩ := List.mem_map.mp hm
      obtain ⟨s, t, e2⟩ := List.append_of_mem hr
      exact ⟨[], q, s, r, t, by rw [e2]; rfl, e.symm⟩
    · have h2 : ¬ (l.map Prod.fst).Nodup := fun hn => h (List.nodup_cons.mpr ⟨hm, hn⟩)
      obtain ⟨E1, q', E2, r, E3, e, e2⟩ := not_nodup l h2
      exact ⟨q :: E1, q', E2, r, E3, by rw [e]; rfl, e2⟩
theorem walkS_has {σ : Nat → Int32} : ∀ (l : List (Nat × Nat)) (a b : Nat), walkS σ a l b → ∀ q ∈ l, hasS σ q.1 q.2 = true
  | [], _, _, _, q, hq => nomatch hq
  | q :: l, a, b, ⟨h1, h2, h3, h4, h5⟩, q', hq => by
    rcases List.mem_cons.mp hq with e | e
    · rw [e]; exact h4
    · exact walkS_has l _ _ h5 q' e
theorem clo_nd {σ : Nat → Int32} (hS : SND σ) (E : List (Nat × Nat)) (a : Nat) (hd : (E.map Prod.fst).Nodup) (h : walkS σ a E a) : evL σ E = evL σ (rvL E) := by
  have hh := walkS_has E a a h
  match E, h, hd, hh with
  | [], _, _, _ => rfl
  | [(a1, b1)], h, _, _ =>
    obtain ⟨e1, h2, h3, h4, e2⟩ := h
    have e3 : b1 = a := e2
    have e4 : a1 = a := e1
    exact absurd (by rw [e4, e3]) (hasNe h4)
  | [(a1, b1), (a2, b2)], h, _, _ =>
    obtain ⟨e1, h2, h3, h4, e2, h5, h6, h7, e3⟩ := h
    have f1 : a1 = a := e1
    have f2 : a2 = b1 := e2
    have f3 : b2 = a := e3
    subst f1 f2 f3
    exact Nat.mul_left_comm _ _ _
  | [(a1, b1), (a2, b2), (a3, b3)], h, hd, hh =>
    obtain ⟨e1, h2, h3, h4, e2, h5, h6, h7, e3, h8, h9, h10, e4⟩ := h
    have f1 : a1 = a := e1
    have f2 : a2 = b1 := e2
    have f3 : a3 = b2 := e3
    have f4 : b3 = a := e4
    subst f1 f2 f3 f4
    obtain ⟨r, hr, hp⟩ := cyc3 _ _ _ h2 h5 h8 hd
    exact perm_ring hS hh hr hp
  | [(a1, b1), (a2, b2), (a3, b3), (a4, b4)], h, hd, hh =>
    obtain ⟨e1, h2, h3, h4, e2, h5, h6, h7, e3, h8, h9, h10, e4, h11, h12, h13, e5⟩ := h
    have f1 : a1 = a := e1
    have f2 : a2 = b1 := e2
    have f3 : a3 = b2 := e3
    have f4 : a4 = b3 := e4
    have f5 : b4 = a := e5
    subst f1 f2 f3 f4 f5
    obtain ⟨r, hr, hp⟩ := cyc4 _ _ _ _ h2 h5 h8 h11 hd
    exact perm_ring hS hh hr hp
  | [(a1, b1), (a2, b2), (a3, b3), (a4, b4), (a5, b5)], h, hd, hh =>
    obtain ⟨e1, h2, h3, h4, e2, h5, h6, h7, e3, h8, h9, h10, e4, h11, h12, h13, e5, h14, h15, h16, e6⟩ := h
    have f1 : a1 = a := e1
    have f2 : a2 = b1 := e2
    have f3 : a3 = b2 := e3
    have f4 : a4 = b3 := e4
    have f5 : a5 = b4 := e5
    have f6 : b5 = a := e6
    subst f1 f2 f3 f4 f5 f6
    obtain ⟨r, hr, hp⟩ := cyc5 _ _ _ _ _ h2 h5 h8 h11 h14 hd
    exact perm_ring hS hh hr hp
  | q1 :: q2 :: q3 :: q4 :: q5 :: q6 :: l, h, hd, _ =>
    obtain ⟨_, h2, _, _, _, h5, _, _, _, h8, _, _, _, h11, _, _, _, h14, _, _, _, h17, _⟩ := h
    have h9 : ([q1.1, q2.1, q3.1, q4.1, q5.1, q6.1] ++ l.map Prod.fst).Nodup := hd
    exact absurd (List.nodup_append.mp h9).1 (cyc6 _ _ _ _ _ _ h2 h5 h8 h11 h14 h17)
theorem clo {σ : Nat → Int32} (hS : SND σ) : ∀ (n : Nat) (E : List (Nat × Nat)) (a : Nat), E.length ≤ n → walkS σ a E a → evL σ E = evL σ (rvL E)
  | 0, E, a, hn, h => by
    cases E with
    | nil => rfl
    | cons q l => exact absurd hn (by simp)
  | n + 1, E, a, hn, h => by
    by_cases hd : (E.map Prod.fst).Nodup
    · exact clo_nd hS E a hd h
    · obtain ⟨E1, q, E2, r, E3, e, e2⟩ := not_nodup E hd
      subst e
      obtain ⟨v, w1, w2⟩ := (walkS_app _ _ _ _).mp h
      obtain ⟨w, w3, w4⟩ := (walkS_app (q :: E2) (r :: E3) _ _).mp w2
      have ev : v = w := (w3.1.symm.trans e2).trans w4.1
      subst ev
      simp only [List.length_append, List.length_cons] at hn
      have c1 := clo hS n (q :: E2) v (by simp only [List.length_cons]; omega) w3
      have c2 := clo hS n (E1 ++ r :: E3) a (by simp only [List.length_append, List.length_cons]; omega) ((walkS_app _ _ _ _).mpr ⟨v, w1, w4⟩)
      rw [rvL_app, evL_app, evL_app] at c2
      show evL σ (E1 ++ ((q :: E2) ++ (r :: E3))) = evL σ (rvL (E1 ++ ((q :: E2) ++ (r :: E3))))
      rw [rvL_app, rvL_app, evL_app, evL_app, evL_app, evL_app, Nat.mul_left_comm, Nat.mul_left_comm (evL σ (rvL E1)), c1, c2]
/-- the measures, by walks -/
def FNS (σ : Nat → Int32) (s : ST) (ρ : Nat → Nat) (E : Nat → List (Nat × Nat)) : Prop := ∀ k, k < 5 → 0 < s.1 k → walkS σ (ρ k) (E k) k ∧ s.1 k = lN (evL σ (E k)) ∧ s.2 k = lN (evL σ (rvL (E k))) ∧ (E k).length + zc s ≤ 4
def FnM (σ : Nat → Int32) (s : ST) : Prop := GS s ∧ ∃ ρ E, FNS σ s ρ E ∧ (∀ a b, a < 5 → b < 5 → hasS σ a b = true → 0 < s.1 a → 0 < s.1 b) ∧ ∀ a b, a < 5 → b < 5 → hasS σ a b = true → 0 < s.1 a → ρ a = ρ b
def PHS (σ : Nat → Int32) (s : ST) (M : Nat → Prop) (p : Nat) : Prop := GS s ∧ ∃ ρ E, FNS σ s ρ E ∧ (∀ k, k < 5 → 0 < s.1 k → M k ∨ ρ k = p) ∧ (∀ k, k < 5 → M k → 0 < s.1 k) ∧ (∀ a b, a < 5 → b < 5 → hasS σ a b = true → M a → M b) ∧ ∀ a b, a < 5 → b < 5 → hasS σ a b = true → M a → ρ a = ρ b
theorem p99s {n : Nat} (h : n ≤ 4) : 99 ^ n ≤ 96059601 := Nat.le_trans (Nat.pow_le_pow_right (by decide) h) (by decide)
theorem phs_stp {σ : Nat → Int32} (hI : I10 σ) {s : ST} {M : Nat → Prop} {p k : Nat} (h : PHS σ s M p) (hk : k < 25) : PHS σ (stp σ k s) M p := by
  unfold stp
  by_cases hg : goes σ k s = true
  · rw [if_pos hg]
    obtain ⟨g1, g2, g3⟩ := goes_t.mp hg
    have ha : k / 5 < 5 := by omega
    have hb : k % 5 < 5 := by omega
    obtain ⟨hG, ρ, E, f1, f2, f3, f4, f5⟩ := h
    obtain ⟨wa, xa, ya, la⟩ := f1 _ ha g1
    obtain ⟨⟨v1, v2⟩, v3, v4⟩ := ev_bd hI _ _ _ wa
    obtain ⟨u1, u2, u3⟩ := uN_v hI ha hb g3
    have g3' : hasS σ (k % 5) (k / 5) = true := by rw [hasS_comm]; exact g3
    have nb : ¬ M (k % 5) := fun hm => g2 (f3 _ hb hm)
    have na : ¬ M (k / 5) := fun hm => nb (f4 _ _ ha hb g3 hm)
    have tx : (nxt σ k s).1 (k % 5) = lN (evL σ (E (k / 5) ++ [(k / 5, k % 5)])) := by
      show updL _ _ _ _ = _
      rw [updL_at, xa, uN_l hI ha hb g3, lN_mul, evL_app]
      show _ = lN (_ * (uN σ (k / 5) (k % 5) * 1))
      rw [Nat.mul_one]
    have ty : (nxt σ k s).2 (k % 5) = lN (evL σ (rvL (E (k / 5) ++ [(k / 5, k % 5)]))) := by
      show updL _ _ _ _ = _
      rw [updL_at, ya, uN_l hI hb ha g3', lN_mul, rvL_app, evL_app]
      show _ = lN (_ * (uN σ (k % 5) (k / 5) * 1))
      rw [Nat.mul_one]
    have to : ∀ j, j ≠ k % 5 → (nxt σ k s).1 j = s.1 j := fun j hj => updL_ne hj
    have to2 : ∀ j, j ≠ k % 5 → (nxt σ k s).2 j = s.2 j := fun j hj => updL_ne hj
    have hev : evL σ (E (k / 5) ++ [(k / 5, k % 5)]) = evL σ (E (k / 5)) * uN σ (k / 5) (k % 5) := by
      rw [evL_app]
      show _ * (uN σ (k / 5) (k % 5) * 1) = _
      rw [Nat.mul_one]
    have hz5 := hG.1
    obtain ⟨G2, z2⟩ := hG.set (t := nxt σ k s) hb ((hG.neg hb).mp g2) tx (by rw [hev]; exact Nat.mul_pos v1 u1) (by rw [hev, Nat.pow_succ]; exact Nat.mul_le_mul (Nat.le_trans v2 (Nat.pow_le_pow_right (by decide) (by omega))) u2) to
    refine ⟨G2, fun j => if j = k % 5 then ρ (k / 5) else ρ j, fun j => if j = k % 5 then E (k / 5) ++ [(k / 5, k % 5)] else E j, fun j hj h0 => ?_, fun j hj h0 => ?_, fun j hj hm => ?_, f4, fun a b h1 h2 h3 hm => ?_⟩
    · by_cases c : j = k % 5
      · subst c
        dsimp only
        rw [if_pos rfl, if_pos rfl]
        refine ⟨(walkS_app _ _ _ _).mpr ⟨k / 5, wa, rfl, ha, hb, g3, rfl⟩, tx, ty, ?_⟩
        rw [List.length_append]
        show _ + 1 + _ ≤ 4
        omega
      · dsimp only
        rw [if_neg c, if_neg c, to j c, to2 j c]
        rw [to j c] at h0
        obtain ⟨q1, q2, q3, q4⟩ := f1 j hj h0
        exact ⟨q1, q2, q3, by omega⟩
    · by_cases c : j = k % 5
      · show M j ∨ (if j = k % 5 then ρ (k / 5) else ρ j) = p
        rw [if_pos c]
        rcases f2 _ ha g1 with q | q
        · exact absurd q na
        · exact Or.inr q
      · show M j ∨ (if j = k % 5 then ρ (k / 5) else ρ j) = p
        rw [if_neg c]
        rw [to j c] at h0
        exact f2 j hj h0
    · have c : j ≠ k % 5 := fun e => nb (e ▸ hm)
      rw [to j c]
      exact f3 j hj hm
    · have c1 : a ≠ k % 5 := fun e => nb (e ▸ hm)
      have c2 : b ≠ k % 5 := fun e => nb (e ▸ (f4 a b h1 h2 h3 hm))
      show (if a = k % 5 then ρ (k / 5) else ρ a) = (if b = k % 5 then ρ (k / 5) else ρ b)
      rw [if_neg c1, if_neg c2]
      exact f5 a b h1 h2 h3 hm
  · rw [if_neg hg]; exact h
theorem phs_rnd {σ : Nat → Int32} (hI : I10 σ) {s : ST} {M : Nat → Prop} {p : Nat} (h : PHS σ s M p) : ∀ k, k ≤ 25 → PHS σ (rnd σ k s) M p
  | 0, _ => h
  | k + 1, hk => phs_stp hI (phs_rnd hI h k (by omega)) (by omega)
theorem phs_rep {σ : Nat → Int32} (hI : I10 σ) {s : ST} {M : Nat → Prop} {p : Nat} (h : PHS σ s M p) : ∀ n, PHS σ (rep σ n s) M p
  | 0 => h
  | n + 1 => phs_rnd hI (phs_rep hI h n) 25 (Nat.le_refl _)
theorem stp_pos {σ : Nat → Int32} {s : ST} {k j : Nat} (h : 0 < s.1 j) : 0 < (stp σ k s).1 j := by
  unfold stp
  by_cases hg : goes σ k s = true
  · rw [if_pos hg]
    obtain ⟨g1, g2, g3⟩ := goes_t.mp hg
    have c : j ≠ k % 5 := fun e => g2 (e ▸ h)
    show 0 < updL _ _ _ _
    rw [updL_ne c]
    exact h
  · rw [if_neg hg]; exact h
theorem rnd_pos {σ : Nat → Int32} {s : ST} {j : Nat} (h : 0 < s.1 j) : ∀ k, 0 < (rnd σ k s).1 j
  | 0 => h
  | k + 1 => stp_pos (rnd_pos h k)
theorem rep_pos {σ : Nat → Int32} {s : ST} {j : Nat} (h : 0 < s.1 j) : ∀ n, 0 < (rep σ n s).1 j
  | 0 => h
  | n + 1 => by
    rw [show rep σ (n + 1) s = rnd σ 25 (rep σ n s) from rfl]
    exact rnd_pos (rep_pos h n) 25
/-- nothing more can be measured -/
def CloS (σ : Nat → Int32) (s : ST) : Prop := ∀ k, k < 25 → goes σ k s = false
theorem stp_no {σ : Nat → Int32} {s : ST} {k : Nat} (h : goes σ k s = false) : stp σ k s = s := if_neg (by rw [h]; decide)
theorem rnd_clo {σ : Nat → Int32} {s : ST} (h : CloS σ s) : ∀ k, k ≤ 25 → rnd σ k s = s
  | 0, _ => rfl
  | k + 1, hk => by show stp σ k (rnd σ k s) = s; rw [rnd_clo h k (by omega), stp_no (h k (by omega))]
theorem zc_rnd {σ : Nat → Int32} (hI : I10 σ) {s : ST} (h : GS s) {k : Nat} : ∀ j, k ≤ j → j ≤ 25 → zc (rnd σ j s) ≤ zc (rnd σ k s)
  | 0, h1, _ => by rw [show k = 0 by omega]; exact Nat.le_refl _
  | j + 1, h1, h2 => by
    by_cases e : k = j + 1
    · rw [e]; exact Nat.le_refl _
    · have ih := zc_rnd hI h (k := k) j (by omega) (by omega)
      have h3 := (gs_stp hI (gs_rnd hI h j (by omega)).1 (show j < 25 by omega)).2
      show zc (stp σ j (rnd σ j s)) ≤ _
      rcases h3 with h3 | h3
      · rw [h3]; exact ih
      · omega
theorem rnd_fix {σ : Nat → Int32} (hI : I10 σ) {s : ST} (h : GS s) (e : rnd σ 25 s = s) : CloS σ s := by
  have hall : ∀ k, k ≤ 25 → rnd σ k s = s := by
    intro k hk
    rcases (gs_rnd hI h k hk).2 with q | q
    · exact q
    · have := zc_rnd hI h (k := k) 25 hk (Nat.le_refl _)
      rw [e] at this
      omega
  intro k hk
  cases hg : goes σ k s with
  | false => rfl
  | true =>
    have h1 : stp σ k s = s := by
      have h2 : stp σ k (rnd σ k s) = s := hall (k + 1) hk
      rw [hall k (by omega)] at h2
      exact h2
    have h2 : stp σ k s = nxt σ k s := if_pos hg
    have h3 := gs_nxt hI h hk (goes_t.mp hg)
    rw [← h2, h1] at h3
    exact absurd h3 (Nat.lt_irrefl _)
theorem cl_rep {σ : Nat → Int32} (hI : I10 σ) {s : ST} (h : GS s) : ∀ n, CloS σ (rep σ n s) ∨ zc (rep σ n s) + n ≤ zc s
  | 0 => Or.inr (Nat.le_refl _)
  | n + 1 => by
    have hG := gs_rep hI h n
    rcases cl_rep hI h n with c | c
    · left
      show CloS σ (rnd σ 25 (rep σ n s))
      rw [rnd_clo c 25 (Nat.le_refl _)]
      exact c
    · rcases (gs_rnd hI hG 25 (Nat.le_refl _)).2 with q | q
      · left
        show CloS σ (rnd σ 25 (rep σ n s))
        rw [q]
        exact rnd_fix hI hG q
      · right
        show zc (rnd σ 25 (rep σ n s)) + (n + 1) ≤ zc s
        omega
theorem cnt_pos {p : Nat → Bool} {k n : Nat} (hk : k < n) (h : p k = true) : 1 ≤ cnt p n := by
  have := cnt_le2 (p := p) (show k + 1 ≤ n from hk)
  rw [cnt_t h] at this
  omega
theorem clo_4 {σ : Nat → Int32} (hI : I10 σ) {s : ST} (h : GS s) (hz : zc s ≤ 4) : CloS σ (rep σ 4 s) := by
  rcases cl_rep hI h 4 with c | c
  · exact c
  · intro k hk
    have hG := gs_rep hI h 4
    cases hg : goes σ k (rep σ 4 s) with
    | false => rfl
    | true =>
      obtain ⟨g1, g2, g3⟩ := goes_t.mp hg
      have hb : k % 5 < 5 := by omega
      have h0 := (hG.neg hb).mp g2
      have := cnt_pos (p := fun k => decide ((rep σ 4 s).1 k = 0)) hb (decide_eq_true h0)
      unfold zc at c hz
      omega
theorem fnm_mea {σ : Nat → Int32} (hI : I10 σ) : ∀ p, p ≤ 5 → FnM σ (meaS σ p) ∧ ∀ k, k < p → 0 < (meaS σ p).1 k
  | 0, _ => ⟨⟨gs_mea hI 0 (by decide), fun _ => 0, fun _ => [], fun k _ h => absurd h (by show ¬ (0 : Int64) < 0; decide), fun a b _ _ _ h => absurd h (by show ¬ (0 : Int64) < 0; decide), fun a b _ _ _ _ => rfl⟩, fun k hk => absurd hk (Nat.not_lt_zero k)⟩
  | p + 1, hp => by
    obtain ⟨⟨hG, ρ, E, f1, f2, f3⟩, h2⟩ := fnm_mea hI p (by omega)
    by_cases c : 0 < (meaS σ p).1 p
    · rw [mea_t c]
      refine ⟨⟨hG, ρ, E, f1, f2, f3⟩, fun k hk => ?_⟩
      by_cases e : k = p
      · rw [e]; exact c
      · exact h2 k (by omega)
    · rw [mea_f c]
      have hp5 : p < 5 := by omega
      have h0 := (hG.neg hp5).mp c
      obtain ⟨G1, z1⟩ := gs_one hG hp5 c
      have o1 : (one (meaS σ p) p).1 p = 1 := updL_at _ _ _
      have o2 : ∀ k, k ≠ p → (one (meaS σ p) p).1 k = (meaS σ p).1 k := fun k hk => updL_ne hk
      have o3 : ∀ k, k ≠ p → (one (meaS σ p) p).2 k = (meaS σ p).2 k := fun k hk => updL_ne hk
      have zz := zc_set (s := meaS σ p) (t := one (meaS σ p) p) hp5 h0 (by rw [o1]; decide) o2
      have hP : PHS σ (one (meaS σ p) p) (fun k => 0 < (meaS σ p).1 k) p := by
        refine ⟨G1, fun k => if k = p then p else ρ k, fun k => if k = p then [] else E k, fun k hk hpos => ?_, fun k hk hpos => ?_, fun k hk hm => ?_, f2, fun a b h3 h4 h5 hm => ?_⟩
        · by_cases e : k = p
          · subst e
            dsimp only
            rw [if_pos rfl, if_pos rfl]
            exact ⟨rfl, o1, updL_at _ _ _, by simp only [List.length_nil]; omega⟩
          · dsimp only
            rw [if_neg e, if_neg e, o2 k e, o3 k e]
            rw [o2 k e] at hpos
            obtain ⟨q1, q2, q3, q4⟩ := f1 k hk hpos
            exact ⟨q1, q2, q3, by omega⟩
        · by_cases e : k = p
          · right
            show (if k = p then p else ρ k) = p
            rw [if_pos e]
          · left
            rw [o2 k e] at hpos
            exact hpos
        · have e : k ≠ p := fun e => c (e ▸ hm)
          rw [o2 k e]
          exact hm
        · have e1 : a ≠ p := fun e => c (e ▸ hm)
          have e2 : b ≠ p := fun e => c (e ▸ (f2 a b h3 h4 h5 hm))
          show (if a = p then p else ρ a) = (if b = p then p else ρ b)
          rw [if_neg e1, if_neg e2]
          exact f3 a b h3 h4 h5 hm
      obtain ⟨G4, ρ4, E4, k1, k2, k3, k4, k5⟩ := phs_rep hI hP 4
      have hC := clo_4 hI G1 z1
      have hcl : ∀ a b, a < 5 → b < 5 → hasS σ a b = true → 0 < (rep σ 4 (one (meaS σ p) p)).1 a → 0 < (rep σ 4 (one (meaS σ p) p)).1 b := by
        intro a b ha hb hab hpos
        have hg := hC (5 * a + b) (by omega)
        apply Decidable.of_not_not
        intro hn
        have : goes σ (5 * a + b) (rep σ 4 (one (meaS σ p) p)) = true := by
          apply goes_t.mpr
          rw [show (5 * a + b) / 5 = a by omega, show (5 * a + b) % 5 = b by omega]
          exact ⟨hpos, hn, hab⟩
        rw [this] at hg
        cases hg
      refine ⟨⟨G4, ρ4, E4, k1, hcl, fun a b ha hb hab hpos => ?_⟩, fun k hk => ?_⟩
      · rcases k2 a ha hpos with q | q
        · exact k5 a b ha hb hab q
        · rcases k2 b hb (hcl a b ha hb hab hpos) with q2 | q2
          · exact k5 a b ha hb hab (k4 b a hb ha (by rw [hasS_comm]; exact hab) q2)
          · rw [q, q2]
      · apply rep_pos
        by_cases e : k = p
        · rw [e, o1]; decide
        · rw [o2 k e]; exact h2 k (by omega)
/-- the measures of all -/
theorem mea_pot {σ : Nat → Int32} (hI : I10 σ) : ∃ x y : Nat → Nat, (∀ k, k < 5 → (meaS σ 5).1 k = lN (x k) ∧ (meaS σ 5).2 k = lN (y k) ∧ 1 ≤ x k ∧ x k ≤ 96059601 ∧ 1 ≤ y k ∧ y k ≤ 96059601) ∧ (SND σ → POT σ x y) := by
  obtain ⟨⟨hG, ρ, E, f1, f2, f3⟩, h2⟩ := fnm_mea hI 5 (Nat.le_refl _)
  have hb : ∀ k, k < 5 → (1 ≤ evL σ (E k) ∧ evL σ (E k) ≤ 96059601) ∧ 1 ≤ evL σ (rvL (E k)) ∧ evL σ (rvL (E k)) ≤ 96059601 := by
    intro k hk
    obtain ⟨q1, q2, q3, q4⟩ := f1 k hk (h2 k hk)
    obtain ⟨⟨v1, v2⟩, v3, v4⟩ := ev_bd hI _ _ _ q1
    have := p99s (n := (E k).length) (by omega)
    exact ⟨⟨v1, by omega⟩, v3, by omega⟩
  refine ⟨fun k => evL σ (E k), fun k => evL σ (rvL (E k)), fun k hk => ?_, fun hS => ⟨fun k hk => ⟨(hb k hk).1.1, (hb k hk).2.1⟩, fun a b ha hb2 hab => ?_⟩⟩
  · obtain ⟨q1, q2, q3, q4⟩ := f1 k hk (h2 k hk)
    obtain ⟨⟨v1, v2⟩, v3, v4⟩ := hb k hk
    exact ⟨q2, q3, v1, v2, v3, v4⟩
  · obtain ⟨a1, _, _, _⟩ := f1 a ha (h2 a ha)
    obtain ⟨b1, _, _, _⟩ := f1 b hb2 (h2 b hb2)
    have er := f3 a b ha hb2 hab (h2 a ha)
    have hw : walkS σ (ρ a) (E a ++ ([(a, b)] ++ bkL (E b))) (ρ a) := (walkS_app _ _ _ _).mpr ⟨a, a1, rfl, ha, hb2, hab, by rw [er]; exact walkS_bk _ _ _ b1⟩
    have hc := clo hS _ _ _ (Nat.le_refl _) hw
    rw [rvL_app, rvL_app, evL_app, evL_app, evL_app, evL_app, ev_bk, ev_rbk] at hc
    have hc2 : evL σ (E a) * (uN σ a b * 1 * evL σ (rvL (E b))) = evL σ (rvL (E a)) * (uN σ b a * 1 * evL σ (E b)) := hc
    rw [Nat.mul_one, Nat.mul_one] at hc2
    show evL σ (E a) * uN σ a b * evL σ (rvL (E b)) = evL σ (E b) * uN σ b a * evL σ (rvL (E a))
    rw [Nat.mul_assoc, hc2]
    ac_rfl
theorem ring_walk {σ : Nat → Int32} {r : Nat} (hr : r < 37) (ht : thr σ r = true) : walkS σ (rP r 0) (rL r) (rP r 0) := by
  have H : ∀ i, i < rSz r → hasS σ (rP r i) (rP r ((i + 1) % rSz r)) = true := fun i hi => List.all_eq_true.mp ht i (List.mem_range.mpr hi)
  have L := fun i => rP_lt r hr i
  have hs : rSz r = 3 ∨ rSz r = 4 ∨ rSz r = 5 := by have := rSz_in r; omega
  rcases hs with h | h | h
  · rw [h] at H L
    rw [rL_3 h]
    exact ⟨rfl, L 0 (by decide), L 1 (by decide), H 0 (by decide), rfl, L 1 (by decide), L 2 (by decide), H 1 (by decide), rfl, L 2 (by decide), L 0 (by decide), H 2 (by decide), rfl⟩
  · rw [h] at H L
    rw [rL_4 h]
    exact ⟨rfl, L 0 (by decide), L 1 (by decide), H 0 (by decide), rfl, L 1 (by decide), L 2 (by decide), H 1 (by decide), rfl, L 2 (by decide), L 3 (by decide), H 2 (by decide), rfl, L 3 (by decide), L 0 (by decide), H 3 (by decide), rfl⟩
  · rw [h] at H L
    rw [rL_5 h]
    exact ⟨rfl, L 0 (by decide), L 1 (by decide), H 0 (by decide), rfl, L 1 (by decide), L 2 (by decide), H 1 (by decide), rfl, L 2 (by decide), L 3 (by decide), H 2 (by decide), rfl, L 3 (by decide), L 4 (by decide), H 3 (by decide), rfl, L 4 (by decide), L 0 (by decide), H 4 (by decide), rfl⟩
theorem pot_snd {σ : Nat → Int32} {x y : Nat → Nat} (hp : POT σ x y) : SND σ := by
  intro r hr ht
  have h := pot_walk hp _ _ _ (ring_walk hr ht)
  have h0 := hp.1 (rP r 0) (rP_lt r hr 0 (by have := rSz_in r; omega))
  have h2 := Nat.eq_of_mul_eq_mul_right h0.2 h
  exact Nat.eq_of_mul_eq_mul_left h0.1 h2
theorem prod_t {σ : Nat → Int32} (hI : I10 σ) : ∀ (l : List (Nat × Nat)) (a b n : Nat), walkS σ a l b → l.foldl (fun s q => s * facs σ true q) (lN n) = lN (n * evL σ l) ∧ l.foldl (fun s q => s * facs σ false q) (lN n) = lN (n * evL σ (rvL l))
  | [], a, b, n, _ => by
    show lN n = lN (n * 1) ∧ lN n = lN (n * 1)
    rw [Nat.mul_one]; exact ⟨rfl, rfl⟩
  | q :: l, a, b, n, ⟨h1, h2, h3, h4, h5⟩ => by
    have h4' : hasS σ q.2 q.1 = true := by rw [hasS_comm]; exact h4
    have e1 : lN n * facs σ true q = lN (n * uN σ q.1 q.2) := by
      show lN n * (upS σ q.1 q.2).toInt64 = _
      rw [uN_l hI h2 h3 h4, lN_mul]
    have e2 : lN n * facs σ false q = lN (n * uN σ q.2 q.1) := by
      show lN n * (upS σ q.2 q.1).toInt64 = _
      rw [uN_l hI h3 h2 h4', lN_mul]
    obtain ⟨i1, _⟩ := prod_t hI l _ _ (n * uN σ q.1 q.2) h5
    obtain ⟨_, i2⟩ := prod_t hI l _ _ (n * uN σ q.2 q.1) h5
    constructor
    · show l.foldl _ (lN n * facs σ true q) = lN (n * (uN σ q.1 q.2 * evL σ l))
      rw [e1, i1, Nat.mul_assoc]
    · show l.foldl _ (lN n * facs σ false q) = lN (n * (uN σ q.2 q.1 * evL σ (rvL l)))
      rw [e2, i2, Nat.mul_assoc]
theorem prod_ev {σ : Nat → Int32} (hI : I10 σ) {r : Nat} (hr : r < 37) (ht : thr σ r = true) : prodS σ r true = lN (evL σ (rL r)) ∧ prodS σ r false = lN (evL σ (rvL (rL r))) ∧ evL σ (rL r) < 2 ^ 63 ∧ evL σ (rvL (rL r)) < 2 ^ 63 := by
  have hw := ring_walk hr ht
  obtain ⟨e1, e2⟩ := prod_t hI _ _ _ 1 hw
  rw [Nat.one_mul] at e1 e2
  obtain ⟨⟨_, v2⟩, _, v4⟩ := ev_bd hI _ _ _ hw
  have hl : (rL r).length ≤ 5 := by
    unfold rL
    rw [List.length_map, List.length_range]
    exact (rSz_in r).2
  have h5 : 99 ^ (rL r).length ≤ 9509900499 := Nat.le_trans (Nat.pow_le_pow_right (by decide) hl) (by decide)
  exact ⟨e1, e2, by omega, by omega⟩
theorem snd_iff {σ : Nat → Int32} (hI : I10 σ) : SND σ ↔ fnd (badS σ) 0 37 = none := by
  constructor
  · intro hS
    cases h : fnd (badS σ) 0 37 with
    | none => rfl
    | some r =>
      obtain ⟨h1, _, h3⟩ := fnd_some h
      have hr : r < 37 := by omega
      unfold badS at h1
      rw [Bool.and_eq_true] at h1
      obtain ⟨ht, hb⟩ := h1
      obtain ⟨p1, p2, _, _⟩ := prod_ev hI hr ht
      rw [p1, p2, hS r hr ht, beq_self_eq_true] at hb
      cases hb
  · intro h r hr ht
    have hb := fnd_none h r (by omega) (by omega)
    unfold badS at hb
    rw [ht, Bool.true_and, Bool.not_eq_false', beq_iff_eq] at hb
    obtain ⟨p1, p2, b1, b2⟩ := prod_ev hI hr ht
    rw [p1, p2] at hb
    exact (pk_lEQ b1 b2).mp hb
theorem fin_iff {σ : Nat → Int32} (hI : I10 σ) {x y : Nat → Nat} (h : ∀ k, k < 5 → (meaS σ 5).1 k = lN (x k) ∧ (meaS σ 5).2 k = lN (y k) ∧ 1 ≤ x k ∧ x k ≤ 96059601 ∧ 1 ≤ y k ∧ y k ≤ 96059601) {a b : Nat} (ha : a < 5) (hb : b < 5) (hab : hasS σ a b = true) : finS σ (meaS σ 5) a b = decide (x a * uN σ a b * y b = x b * uN σ b a * y a) := by
  obtain ⟨a1, a2, a3, a4, a5, a6⟩ := h a ha
  obtain ⟨b1, b2, b3, b4, b5, b6⟩ := h b hb
  obtain ⟨u1, u2, _⟩ := uN_v hI ha hb hab
  have hba : hasS σ b a = true := by rw [hasS_comm]; exact hab
  obtain ⟨d1, d2, _⟩ := uN_v hI hb ha hba
  have n1 : x a * uN σ a b * y b ≤ 96059601 * 99 * 96059601 := Nat.mul_le_mul (Nat.mul_le_mul a4 u2) b6
  have n2 : x b * uN σ b a * y a ≤ 96059601 * 99 * 96059601 := Nat.mul_le_mul (Nat.mul_le_mul b4 d2) a6
  unfold finS
  rw [hab, Bool.not_true, Bool.false_or, a1, a2, b1, b2, uN_l hI ha hb hab, uN_l hI hb ha hba, lN_mul, lN_mul, lN_mul, lN_mul]
  exact decide_eq_decide.mpr (pk_lEQ (by omega) (by omega))
theorem all_iff {σ : Nat → Int32} (hI : I10 σ) : allS σ (meaS σ 5) 5 = true ↔ SND σ := by
  obtain ⟨x, y, hxy, hpot⟩ := mea_pot hI
  constructor
  · intro h
    refine pot_snd (x := x) (y := y) ⟨fun k hk => ⟨(hxy k hk).2.2.1, (hxy k hk).2.2.2.2.1⟩, ?_⟩
    have key : ∀ a b, a < 5 → b < 5 → a < b → hasS σ a b = true → x a * uN σ a b * y b = x b * uN σ b a * y a := by
      intro a b ha hb hlt hab
      have h1 : rowS σ (meaS σ 5) a 5 = true := allN_lt h a ha
      have h2 : (decide (b ≤ a) || finS σ (meaS σ 5) a b) = true := allN_lt h1 b hb
      rw [decide_eq_false (by omega), Bool.false_or, fin_iff hI hxy ha hb hab, decide_eq_true_eq] at h2
      exact h2
    intro a b ha hb hab
    rcases Nat.lt_or_gt_of_ne (hasNe hab) with c | c
    · exact key a b ha hb c hab
    · exact (key b a hb ha c (by rw [hasS_comm]; exact hab)).symm
  · intro hS
    have hp := hpot hS
    refine allN_of (fun a ha => allN_of (fun b hb => ?_))
    show (decide (b ≤ a) || finS σ (meaS σ 5) a b) = true
    cases hab : hasS σ a b with
    | false =>
      unfold finS
      rw [hab]
      exact Bool.or_true _
    | true =>
      rw [fin_iff hI hxy ha hb hab, decide_eq_true (hp.2 a b ha hb hab)]
      exact Bool.or_true _
theorem c34 {σ : Nat → Int32} (hI : I10 σ) (n : Nat) : countS σ n 3 = countS σ n 4 := by
  show bI (fnd (badS σ) 0 37).isNone = bI (allS σ (meaS σ 5) 5)
  congr 1
  cases h : allS σ (meaS σ 5) 5 with
  | true => rw [(snd_iff hI).mp ((all_iff hI).mp h)]; rfl
  | false =>
    cases h2 : fnd (badS σ) 0 37 with
    | none => rw [(all_iff hI).mpr ((snd_iff hI).mpr h2)] at h; cases h
    | some r => rfl
/-- the fractions that mend -/
theorem pn_pot {σ : Nat → Int32} {x y : Nat → Nat} (hp : POT σ x y) {st : Nat → Nat} : ∀ n : Nat, (∀ k, k ≤ n → st k < 5) → stdW σ st n = true → x (st 0) * pNat σ st true n * y (st n) = x (st n) * pNat σ st false n * y (st 0)
  | 0, _, _ => rfl
  | n + 1, h, hs => by
    have hs2 : (stdW σ st n && stdP σ st n) = true := hs
    rw [Bool.and_eq_true] at hs2
    have ih := pn_pot hp n (fun k hk => h k (by omega)) hs2.1
    have hn := h n (by omega)
    have hn1 := h (n + 1) (Nat.le_refl _)
    have e := hp.2 (st n) (st (n + 1)) hn hn1 hs2.2
    apply Nat.eq_of_mul_eq_mul_left (Nat.mul_pos (hp.1 (st n) hn).1 (hp.1 (st n) hn).2)
    show x (st n) * y (st n) * (x (st 0) * (pNat σ st true n * uN σ (st n) (st (n + 1))) * y (st (n + 1))) = x (st n) * y (st n) * (x (st (n + 1)) * (pNat σ st false n * uN σ (st (n + 1)) (st n)) * y (st 0))
    have l1 : x (st n) * y (st n) * (x (st 0) * (pNat σ st true n * uN σ (st n) (st (n + 1))) * y (st (n + 1))) = (x (st 0) * pNat σ st true n * y (st n)) * (x (st n) * uN σ (st n) (st (n + 1)) * y (st (n + 1))) := by ac_rfl
    have l2 : x (st n) * y (st n) * (x (st (n + 1)) * (pNat σ st false n * uN σ (st (n + 1)) (st n)) * y (st 0)) = (x (st n) * pNat σ st false n * y (st 0)) * (x (st (n + 1)) * uN σ (st (n + 1)) (st n) * y (st n)) := by ac_rfl
    rw [l1, l2, ih, e]
theorem low_eq {n1 m1 n2 m2 : Nat} (a1 : 1 ≤ n1) (b1 : 1 ≤ m1) (a2 : 1 ≤ n2) (b2 : 1 ≤ m2) (h : n1 * n2 = m1 * m2) : lowS n1 m1 0 = lowS n2 m2 1 := by
  have g1 : 0 < Nat.gcd n1 m1 := Nat.gcd_pos_of_pos_left _ a1
  have g2 : 0 < Nat.gcd n2 m2 := Nat.gcd_pos_of_pos_left _ a2
  have e1 : Nat.gcd n1 m1 * (n1 / Nat.gcd n1 m1) = n1 := Nat.mul_div_cancel' (Nat.gcd_dvd_left _ _)
  have e2 : Nat.gcd n1 m1 * (m1 / Nat.gcd n1 m1) = m1 := Nat.mul_div_cancel' (Nat.gcd_dvd_right _ _)
  have e3 : Nat.gcd n2 m2 * (n2 / Nat.gcd n2 m2) = n2 := Nat.mul_div_cancel' (Nat.gcd_dvd_left _ _)
  have e4 : Nat.gcd n2 m2 * (m2 / Nat.gcd n2 m2) = m2 := Nat.mul_div_cancel' (Nat.gcd_dvd_right _ _)
  have c1 := Nat.coprime_div_gcd_div_gcd g1
  have c2 := Nat.coprime_div_gcd_div_gcd g2
  unfold lowS
  generalize hG1 : Nat.gcd n1 m1 = G1 at *
  generalize hG2 : Nat.gcd n2 m2 = G2 at *
  generalize hp : n1 / G1 = p at *
  generalize hq : m1 / G1 = q at *
  generalize hp2 : n2 / G2 = p2 at *
  generalize hq2 : m2 / G2 = q2 at *
  have k : p * p2 = q * q2 := by
    apply Nat.eq_of_mul_eq_mul_left (Nat.mul_pos g1 g2)
    have l1 : G1 * G2 * (p * p2) = (G1 * p) * (G2 * p2) := by ac_rfl
    have l2 : G1 * G2 * (q * q2) = (G1 * q) * (G2 * q2) := by ac_rfl
    rw [l1, l2, e1, e2, e3, e4, h]
  have d1 : p ∣ q2 := c1.dvd_of_dvd_mul_left (k ▸ Nat.dvd_mul_right p p2)
  have d2 : q2 ∣ p := c2.symm.dvd_of_dvd_mul_right (k.symm ▸ Nat.dvd_mul_left q2 q)
  have ep : p = q2 := Nat.dvd_antisymm d1 d2
  have p0 : 0 < p := by
    apply Nat.pos_of_ne_zero
    intro e0
    rw [e0, Nat.mul_zero] at e1
    omega
  have eq2 : q = p2 := by
    rw [← ep] at k
    apply Nat.eq_of_mul_eq_mul_left p0
    rw [k, Nat.mul_comm]
  subst ep eq2
  rw [if_pos rfl, if_neg (show ¬ (1 : Int32) = 0 by decide)]
  by_cases c : 99 < p ∨ 99 < q
  · rw [if_pos c, if_pos c.symm]
  · rw [if_neg c, if_neg (fun e => c e.symm)]
theorem md_eq {σ : Nat → Int32} (hI : I10 σ) (hS : SND σ) {a b : Nat} (ha : a < 5) (hb : b < 5) (hab : a ≠ b) : mdO σ a b 0 (fnd (stdI σ a b) 1 15) = mdO σ b a 1 (fnd (stdI σ b a) 1 15) := by
  obtain ⟨x, y, _, hpot⟩ := mea_pot hI
  have hp := hpot hS
  cases h1 : fnd (stdI σ a b) 1 15 with
  | none => rw [md_rev ha hb hab h1]; rfl
  | some i =>
    cases h2 : fnd (stdI σ b a) 1 15 with
    | none => rw [md_rev hb ha (Ne.symm hab) h2] at h1; cases h1
    | some j =>
      obtain ⟨i1, i2, i3⟩ := fnd_some h1
      obtain ⟨j1, j2, j3⟩ := fnd_some h2
      have si := szM_in (midN i)
      have sj := szM_in (midN j)
      have hsi : 2 ≤ wSz i ∧ wSz i ≤ 5 := si
      have hsj : 2 ≤ wSz j ∧ wSz j ≤ 5 := sj
      have li : ∀ k, k ≤ wSz i - 1 → oSt a b i k < 5 := fun k hk => (ways_ok a b i k ha hb hab (by omega) (by omega)).1
      have lj : ∀ k, k ≤ wSz j - 1 → oSt b a j k < 5 := fun k hk => (ways_ok b a j k hb ha (Ne.symm hab) (by omega) (by omega)).1
      have pi := pn_pot hp _ li i1
      have pj := pn_pot hp _ lj j1
      obtain ⟨_, u1, _⟩ := prW_nat hI (ups := true) _ li i1
      obtain ⟨_, u2, _⟩ := prW_nat hI (ups := false) _ li i1
      obtain ⟨_, v1, _⟩ := prW_nat hI (ups := true) _ lj j1
      obtain ⟨_, v2, _⟩ := prW_nat hI (ups := false) _ lj j1
      have oa : oSt a b i 0 = a := if_pos rfl
      have ob : oSt a b i (wSz i - 1) = b := (if_neg (by omega)).trans (if_pos (by omega))
      have oc : oSt b a j 0 = b := if_pos rfl
      have od : oSt b a j (wSz j - 1) = a := (if_neg (by omega)).trans (if_pos (by omega))
      rw [oa, ob] at pi
      rw [oc, od] at pj
      have xa := hp.1 a ha
      have xb := hp.1 b hb
      show lowS _ _ 0 = lowS _ _ 1
      refine low_eq u1 u2 v1 v2 ?_
      generalize pNat σ (oSt a b i) true (wSz i - 1) = U1 at *
      generalize pNat σ (oSt a b i) false (wSz i - 1) = D1 at *
      generalize pNat σ (oSt b a j) true (wSz j - 1) = U2 at *
      generalize pNat σ (oSt b a j) false (wSz j - 1) = D2 at *
      apply Nat.eq_of_mul_eq_mul_left (Nat.mul_pos (Nat.mul_pos xa.1 xa.2) (Nat.mul_pos xb.1 xb.2))
      have l1 : x a * y a * (x b * y b) * (U1 * U2) = (x a * U1 * y b) * (x b * U2 * y a) := by ac_rfl
      have l2 : x a * y a * (x b * y b) * (D1 * D2) = (x b * D1 * y a) * (x a * D2 * y b) := by ac_rfl
      rw [l1, l2, pi, pj]
