/-! texts: both read the same -/
def okR (t : Nat → Nat) (s i m : Nat) : Bool := match rdF t s i m with
  | none => false
  | some q => me q
theorem okR_n {t : Nat → Nat} {s i m : Nat} (h : dn s (t i) = none) : okR t s i (m + 1) = false := by unfold okR; rw [rdF_n h]
theorem okR_s {t : Nat → Nat} {s i m q : Nat} (h : dn s (t i) = some q) : okR t s i (m + 1) = okR t q (i + 1) m := by unfold okR; rw [rdF_s h]
def JW (len : Nat) (s : PS) (E : Nat) (F : Bool) : Prop := s.2 = true ∧ E = s.1 ∧ F = false ∧ s.1 ≤ len
def JO (t : Nat → Nat) (len st : Nat) (s : PS) (E : Nat) (F : Bool) : Prop := s.2 = false ∧ s.1 ≤ len ∧ rdE t st s.1 (len - s.1) = E ∧ okR t st s.1 (len - s.1) = F
def JJ (t : Nat → Nat) (len st : Nat) (s : PS) (E : Nat) (F : Bool) : Prop := JW len s E F ∨ JO t len st s E F
theorem JO.no1 {t : Nat → Nat} {len st p E : Nat} {F : Bool} (h : JO t len st (p, false) E F) (hm : me st = false) (hn : p < len → dn st (t p) = none) : JW len (p, true) E F := by
  obtain ⟨_, h1, h2, h3⟩ := h
  have h1 : p ≤ len := h1
  by_cases e : p < len
  · rw [show len - p = (len - p - 1) + 1 by omega] at h2 h3
    have h2 : rdE t st p (len - p - 1 + 1) = E := h2
    have h3 : okR t st p (len - p - 1 + 1) = F := h3
    rw [rdE_n (hn e)] at h2
    rw [okR_n (hn e)] at h3
    exact ⟨rfl, h2.symm, h3.symm, h1⟩
  · have e2 : len - p = 0 := by omega
    have h2 : rdE t st p (len - p) = E := h2
    have h3 : okR t st p (len - p) = F := h3
    rw [e2] at h2 h3
    exact ⟨rfl, h2.symm, by rw [← h3]; exact hm, h1⟩
theorem JO.go1 {t : Nat → Nat} {len st p E q : Nat} {F : Bool} (h : JO t len st (p, false) E F) (hp : p < len) (hn : dn st (t p) = some q) : JO t len q (p + 1, false) E F := by
  obtain ⟨_, h1, h2, h3⟩ := h
  have h2 : rdE t st p (len - p) = E := h2
  have h3 : okR t st p (len - p) = F := h3
  rw [show len - p = (len - (p + 1)) + 1 by omega] at h2 h3
  rw [rdE_s hn] at h2
  rw [okR_s hn] at h3
  exact ⟨rfl, hp, h2, h3⟩
def ivP (t : Nat → Nat) (len l h : Nat) (s : PS) : PS := if s.2 = true ∨ ¬ (l ≤ nxN t len s.1 ∧ nxN t len s.1 ≤ h) then (s.1, true) else (s.1 + 1, false)
theorem dgP_iv (t : Nat → Nat) (len l h : Nat) (s : PS) : dgP t len l h s = ivP t len (l + 48) (h + 48) s := rfl
theorem sgP_iv (t : Nat → Nat) (len c : Nat) (s : PS) : sgP t len c s = ivP t len c c s := by
  unfold sgP ivP
  have e : (s.2 = true ∨ nxN t len s.1 ≠ c) ↔ (s.2 = true ∨ ¬ (c ≤ nxN t len s.1 ∧ nxN t len s.1 ≤ c)) := by
    constructor <;> intro h <;> rcases h with h | h <;> first | exact Or.inl h | exact Or.inr (by omega)
  by_cases h : s.2 = true ∨ nxN t len s.1 ≠ c
  · rw [if_pos h, if_pos (e.mp h)]
  · rw [if_neg h, if_neg (fun x => h (e.mpr x))]
/-- one sign out of an interval -/
theorem JJ.iv {t : Nat → Nat} {len st q l h E : Nat} {F : Bool} {s : PS} (j : JJ t len st s E F) (h0 : 0 < l) (hm : me st = false) (ha : ∀ x, l ≤ x → x ≤ h → dn st x = some q) (hb : s.1 < len → ¬ (l ≤ t s.1 ∧ t s.1 ≤ h) → dn st (t s.1) = none) : JJ t len q (ivP t len l h s) E F := by
  obtain ⟨p, w⟩ := s
  unfold ivP
  by_cases e : w = true ∨ ¬ (l ≤ nxN t len p ∧ nxN t len p ≤ h)
  · rw [if_pos e]
    rcases j with ⟨j1, j2, j3, j4⟩ | j
    · exact Or.inl ⟨rfl, j2, j3, j4⟩
    · have jw : w = false := j.1
      subst jw
      rcases e with e | e
      · cases e
      · exact Or.inl (j.no1 hm (fun hp => hb hp (by rw [nxN_lt hp] at e; exact e)))
  · rw [if_neg e]
    rcases j with ⟨j1, j2, j3, j4⟩ | j
    · exact absurd (Or.inl j1) e
    · have jw : w = false := j.1
      subst jw
      have hx := Decidable.of_not_not (fun x => e (Or.inr x))
      have hp : p < len := by
        unfold nxN at hx
        split at hx
        · assumption
        · omega
      rw [nxN_lt hp] at hx
      exact Or.inr (j.go1 hp (ha _ hx.1 hx.2))
theorem dn1 {st l h q : Nat} (e : trs st = [(l, h, q)]) (hm : me st = false) (h9 : h < 59 ∨ 59 < l) (x : Nat) : (l ≤ x → x ≤ h → dn st x = some q) ∧ (¬ (l ≤ x ∧ x ≤ h) → dn st x = none) := by
  constructor
  · intro h1 h2
    rw [dn_o (by omega), e]; exact pick_t ⟨h1, h2⟩
  · intro h1
    unfold dn
    split
    · rw [hm]; rfl
    · rw [e]; exact pick_f h1
theorem JJ.sg {t : Nat → Nat} {len st q c E : Nat} {F : Bool} {s : PS} (j : JJ t len st s E F) (e : trs st = [(c, c, q)]) (hm : me st = false) (h0 : 0 < c) (h9 : c < 59 ∨ 59 < c) : JJ t len q (sgP t len c s) E F := by
  rw [sgP_iv]
  exact j.iv h0 hm (fun x => (dn1 e hm h9 x).1) (fun _ => (dn1 e hm h9 _).2)
theorem JJ.dg {t : Nat → Nat} {len st q l h E : Nat} {F : Bool} {s : PS} (j : JJ t len st s E F) (e : trs st = [(l + 48, h + 48, q)]) (hm : me st = false) (h9 : h ≤ 9) : JJ t len q (dgP t len l h s) E F := by
  rw [dgP_iv]
  exact j.iv (by omega) hm (fun x => (dn1 e hm (by omega) x).1) (fun _ => (dn1 e hm (by omega) _).2)
/-- after a part: wrong, or at an end that may stand -/
def FN (t : Nat → Nat) (len p : Nat) (s : PS) (E : Nat) (F : Bool) : Prop := JW len s E F ∨ ∃ st, me st = true ∧ JO t len st s E F ∧ p < s.1 ∧ (s.1 < len → t s.1 ≠ 59 → dn st (t s.1) = none)
theorem FN.of19 {t : Nat → Nat} {len p E : Nat} {F : Bool} {s : PS} (j : JJ t len 19 s E F) (hp : s.2 = false → p < s.1) : FN t len p s E F := by
  rcases j with j | j
  · exact Or.inl j
  · exact Or.inr ⟨19, rfl, j, hp j.1, fun _ h => (dn_o h).trans rfl⟩
def dgt (x : Nat) : Prop := 48 ≤ x ∧ x ≤ 57
theorem nmC_no {t : Nat → Nat} {len most its p : Nat} (h : ¬ dgt (nxN t len p)) : nmC t len most its p = false := decide_eq_false (fun e => h ⟨e.1, e.2.1⟩)
theorem nmL_no {t : Nat → Nat} {len most m its p : Nat} (h : nmC t len most its p = false) : nmL t len most m its p = (its, p) := by
  cases m with
  | zero => rfl
  | succ m => exact if_neg (by rw [h]; decide)
theorem nmL_yes {t : Nat → Nat} {len most m its p : Nat} (h : nmC t len most its p = true) : nmL t len most (m + 1) its p = nmL t len most m (10 * its + (nxN t len p - 48)) (p + 1) := if_pos h
/-- numbers of up to 99, in the middle: the state behind them -/
theorem nm_mid {t : Nat → Nat} {len m its p E : Nat} {F : Bool} (hm : p + (m + 1) = len + 1) (h9 : 1 ≤ its ∧ its ≤ 9) (j : JO t len 5 (p, false) E F) :
    (nmL t len 99 (m + 1) its p = (its, p) ∧ ¬ dgt (nxN t len p)) ∨ (nmL t len 99 (m + 1) its p = (10 * its + (nxN t len p - 48), p + 1) ∧ dgt (nxN t len p) ∧ JO t len 6 (p + 1, false) E F) := by
  by_cases h : dgt (nxN t len p)
  · have hc : nmC t len 99 its p = true := decide_eq_true ⟨h.1, h.2, by have := h.2; omega⟩
    have hp := nmC_lt hc
    refine Or.inr ⟨?_, h, j.go1 hp ?_⟩
    · rw [nmL_yes hc, nmL_no (decide_eq_false (fun e => by have := e.2.2; have := h.1; omega))]
    · rw [nxN_lt hp] at h
      have h1 := h.1
      have h2 := h.2
      rw [dn_o (by omega)]; exact pick_t ⟨h1, h2⟩
  · exact Or.inl ⟨nmL_no (nmC_no h), h⟩
/-- .. at the end -/
theorem nm_end {t : Nat → Nat} {len m its p E st st2 most : Nat} {F : Bool} (hm : p + (m + 1) = len + 1) (j : JO t len st (p, false) E F) (hst : trs st = [(48, 57, st2)]) (hme : me st = true) (hmost : 10 * its + 9 ≤ most)
    (hn : ∀ its2, nxN t len p - 48 + 10 * its = its2 → dgt (nxN t len p) → JO t len st2 (p + 1, false) E F → FN t len p ((nmL t len most m its2 (p + 1)).2, false) E F) : FN t len (p - 1) ((nmL t len most (m + 1) its p).2, false) E F ∨ p = 0 := by
  by_cases h : dgt (nxN t len p)
  · have hc : nmC t len most its p = true := decide_eq_true ⟨h.1, h.2, by have := h.2; omega⟩
    have hp := nmC_lt hc
    rw [nmL_yes hc]
    have hx := h
    rw [nxN_lt hp] at hx
    have h1 := hx.1
    have h2 := hx.2
    have r := hn _ rfl h (j.go1 hp (by rw [dn_o (by omega), hst]; exact pick_t ⟨h1, h2⟩))
    rw [Nat.add_comm] at r
    rcases r with r | ⟨s9, r1, r2, r3, r4⟩
    · exact Or.inl (Or.inl r)
    · exact Or.inl (Or.inr ⟨s9, r1, r2, by show p - 1 < _; have r3 : p < _ := r3; omega, r4⟩)
  · rw [nmL_no (nmC_no h)]
    by_cases h0 : p = 0
    · exact Or.inr h0
    · refine Or.inl (Or.inr ⟨st, hme, j, by show p - 1 < p; omega, fun hp h59 => ?_⟩)
      have hp : p < len := hp
      rw [nxN_lt hp] at h
      rw [dn_o h59, hst]; exact pick_f h
theorem nm_19 {t : Nat → Nat} {len m its p E most : Nat} {F : Bool} (j : JO t len 19 (p + 1, false) E F) (h : most < 10 * its) : FN t len p ((nmL t len most m its (p + 1)).2, false) E F := by
  rw [nmL_no (decide_eq_false (fun e => by have := e.2.2; omega))]
  exact FN.of19 (Or.inr j) (fun _ => Nat.lt_succ_self p)
theorem FN.wk {t : Nat → Nat} {len p p2 E : Nat} {F : Bool} {s : PS} (h : FN t len p s E F) (hp : p2 ≤ p) : FN t len p2 s E F := by
  rcases h with h | ⟨st, a, b, c, d⟩
  · exact Or.inl h
  · exact Or.inr ⟨st, a, b, by omega, d⟩
/-- a down -/
theorem nm_down {t : Nat → Nat} {len E : Nat} {F : Bool} {s : PS} (j : JJ t len 7 s E F) : FN t len s.1 (nmP t len 99 s) E F := by
  have j2 := j.dg (l := 1) (h := 9) (q := 8) rfl rfl (by decide)
  unfold nmP
  by_cases hw : (dgP t len 1 9 s).2 = true
  · rw [if_pos hw]
    rcases j2 with j2 | j2
    · exact Or.inl j2
    · exact absurd (hw.symm.trans j2.1) (by decide)
  · rw [if_neg hw]
    have hc : ¬ (s.2 = true ∨ ¬ (1 + 48 ≤ nxN t len s.1 ∧ nxN t len s.1 ≤ 9 + 48)) := fun h => hw (by rw [dgP_w h])
    have hd := Decidable.of_not_not (fun h => hc (Or.inr h))
    have ew : dgP t len 1 9 s = (s.1 + 1, false) := dgP_o hc
    rw [ew] at j2 ⊢
    rcases j2 with j2 | j2
    · cases j2.1
    · have hle : s.1 + 1 ≤ len := j2.2.1
      have r := nm_end (m := len - (s.1 + 1)) (its := nxN t len s.1 - 48) (most := 99) (by omega) j2 (st2 := 19) rfl rfl (by omega) (fun its2 e hg j3 => nm_19 j3 (by omega))
      rw [show len - (s.1 + 1) + 1 = len + 1 - (s.1 + 1) by omega] at r
      exact r.resolve_right (by omega)
/-- a length -/
theorem nm_len {t : Nat → Nat} {len E : Nat} {F : Bool} {s : PS} (j : JJ t len 15 s E F) : FN t len s.1 (nmP t len 9999 s) E F := by
  have j2 := j.dg (l := 1) (h := 9) (q := 16) rfl rfl (by decide)
  unfold nmP
  by_cases hw : (dgP t len 1 9 s).2 = true
  · rw [if_pos hw]
    rcases j2 with j2 | j2
    · exact Or.inl j2
    · exact absurd (hw.symm.trans j2.1) (by decide)
  · rw [if_neg hw]
    have hc : ¬ (s.2 = true ∨ ¬ (1 + 48 ≤ nxN t len s.1 ∧ nxN t len s.1 ≤ 9 + 48)) := fun h => hw (by rw [dgP_w h])
    have hd := Decidable.of_not_not (fun h => hc (Or.inr h))
    have ew : dgP t len 1 9 s = (s.1 + 1, false) := dgP_o hc
    rw [ew] at j2 ⊢
    rcases j2 with j2 | j2
    · cases j2.1
    · have hle : s.1 + 1 ≤ len := j2.2.1
      have r := nm_end (m := len - (s.1 + 1)) (its := nxN t len s.1 - 48) (most := 9999) (by omega) j2 (st2 := 17) rfl rfl (by omega) (fun i2 e2 g2 k2 => by
        have l2 : s.1 + 1 + 1 ≤ len := k2.2.1
        have g2a := g2.1
        have g2b := g2.2
        have r := nm_end (m := len - (s.1 + 1 + 1)) (its := i2) (most := 9999) (by omega) k2 (st2 := 18) rfl rfl (by omega) (fun i3 e3 g3 k3 => by
          have l3 : s.1 + 1 + 1 + 1 ≤ len := k3.2.1
          have g3a := g3.1
          have g3b := g3.2
          have r := nm_end (m := len - (s.1 + 1 + 1 + 1)) (its := i3) (most := 9999) (by omega) k3 (st2 := 19) rfl rfl (by omega) (fun i4 e4 g4 k4 => nm_19 k4 (by have := g4.1; omega))
          rw [show len - (s.1 + 1 + 1 + 1) + 1 = len - (s.1 + 1 + 1) by omega] at r
          exact (r.resolve_right (by omega)).wk (by omega))
        rw [show len - (s.1 + 1 + 1) + 1 = len - (s.1 + 1) by omega] at r
        exact (r.resolve_right (by omega)).wk (by omega))
      rw [show len - (s.1 + 1) + 1 = len + 1 - (s.1 + 1) by omega] at r
      exact r.resolve_right (by omega)
/-- an up, and the sign behind it -/
theorem nm_up {t : Nat → Nat} {len E : Nat} {F : Bool} {s : PS} (j : JJ t len 4 s E F) : JJ t len 7 (sgP t len 47 (nmP t len 99 s)) E F := by
  have j2 := j.dg (l := 1) (h := 9) (q := 5) rfl rfl (by decide)
  unfold nmP
  by_cases hw : (dgP t len 1 9 s).2 = true
  · rw [if_pos hw]
    rcases j2 with j2 | j2
    · rw [sgP_w (Or.inl hw)]; exact Or.inl ⟨rfl, j2.2⟩
    · exact absurd (hw.symm.trans j2.1) (by decide)
  · rw [if_neg hw]
    have hc : ¬ (s.2 = true ∨ ¬ (1 + 48 ≤ nxN t len s.1 ∧ nxN t len s.1 ≤ 9 + 48)) := fun h => hw (by rw [dgP_w h])
    have hd := Decidable.of_not_not (fun h => hc (Or.inr h))
    have ew : dgP t len 1 9 s = (s.1 + 1, false) := dgP_o hc
    rw [ew] at j2 ⊢
    rcases j2 with j2 | j2
    · cases j2.1
    · have hle : s.1 + 1 ≤ len := j2.2.1
      have r := nm_mid (m := len - (s.1 + 1)) (its := nxN t len s.1 - 48) (by omega) (by omega) j2
      rw [show len - (s.1 + 1) + 1 = len + 1 - (s.1 + 1) by omega] at r
      rcases r with ⟨r1, r2⟩ | ⟨r1, r2, r3⟩
      · rw [r1, sgP_iv]
        refine JJ.iv (Or.inr j2) (by decide) rfl (fun x h1 h2 => ?_) (fun hp hx => ?_)
        · obtain rfl : x = 47 := by omega
          rfl
        · have hp : s.1 + 1 < len := hp
          rw [nxN_lt hp] at r2
          have hx : ¬ (47 ≤ t (s.1 + 1) ∧ t (s.1 + 1) ≤ 47) := hx
          show dn 5 (t (s.1 + 1)) = none
          unfold dn
          split
          · rfl
          · exact (pick_f r2).trans (pick_f hx)
      · rw [r1]
        exact JJ.sg (Or.inr r3) rfl rfl (by decide) (by decide)
theorem dgP_mono {t : Nat → Nat} {len l h : Nat} {s : PS} : s.1 ≤ (dgP t len l h s).1 := by unfold dgP; split <;> simp
theorem sgP_mono {t : Nat → Nat} {len c : Nat} {s : PS} : s.1 ≤ (sgP t len c s).1 := by unfold sgP; split <;> simp
theorem nmP_mono {t : Nat → Nat} {len most : Nat} {s : PS} (hp : s.1 ≤ len) : s.1 ≤ (nmP t len most s).1 := by
  unfold nmP
  split
  · exact dgP_mono
  · exact Nat.le_trans dgP_mono (nmL_le _ _ _ (dgP_le hp)).2
theorem JJ.dg0 {t : Nat → Nat} {len p E : Nat} {F : Bool} (j : JO t len 0 (p, false) E F) (h1 : nxN t len p ≠ 45) (h2 : nxN t len p ≠ 98) (h3 : nxN t len p ≠ 115) : JJ t len 1 (dgP t len 0 4 (p, false)) E F := by
  rw [dgP_iv]
  refine JJ.iv (Or.inr j) (by decide) rfl (fun x a b => ?_) (fun hp hx => ?_)
  · rw [dn_o (by omega)]; exact pick_t ⟨a, b⟩
  · have hp : p < len := hp
    rw [nxN_lt hp] at h1 h2 h3
    have hx : ¬ (0 + 48 ≤ t p ∧ t p ≤ 4 + 48) := hx
    show dn 0 (t p) = none
    unfold dn
    split
    · rfl
    · show pick [_, _, _, _] (t p) = none
      rw [pick_f hx, pick_f (by omega), pick_f (by omega), pick_f (by omega)]; rfl
theorem JO.kind {t : Nat → Nat} {len p E c q : Nat} {F : Bool} (j : JO t len 0 (p, false) E F) (hc : nxN t len p = c) (h0 : 0 < c) (hd : dn 0 c = some q) : JO t len q (p + 1, false) E F := by
  have hp : p < len := by unfold nxN at hc; split at hc <;> omega
  rw [nxN_lt hp] at hc
  exact j.go1 hp (by rw [hc]; exact hd)
theorem pE_t {t : Nat → Nat} {len p E : Nat} {F : Bool} (j : JO t len 0 (p, false) E F) (h1 : nxN t len p ≠ 45) (h2 : nxN t len p ≠ 98) (h3 : nxN t len p ≠ 115) : FN t len p (pE116 t len p) E F := by
  have hp : p ≤ len := j.2.1
  have a1 := JJ.dg0 j h1 h2 h3
  have a2 := a1.sg (q := 2) (c := 62) rfl rfl (by decide) (by decide)
  have a3 := a2.dg (q := 3) (l := 0) (h := 4) rfl rfl (by decide)
  have a4 := a3.sg (q := 4) (c := 61) rfl rfl (by decide) (by decide)
  have a5 := nm_down (nm_up a4)
  refine a5.wk ?_
  exact Nat.le_trans (show p ≤ (dgP t len 0 4 (p, false)).1 from dgP_mono (s := (p, false))) (Nat.le_trans sgP_mono (Nat.le_trans dgP_mono (Nat.le_trans sgP_mono (Nat.le_trans (nmP_mono (sgP_le (by decide) (dgP_le (sgP_le (by decide) (dgP_le hp))))) sgP_mono))))
theorem pE_d {t : Nat → Nat} {len p E : Nat} {F : Bool} (j : JO t len 0 (p, false) E F) (h : nxN t len p = 45) : FN t len p (pE45 t len p) E F := by
  have j1 := j.kind h (by decide) (show dn 0 45 = some 9 from rfl)
  have a1 := (show JJ t len 9 (p + 1, false) E F from Or.inr j1).dg (q := 11) (l := 0) (h := 4) rfl rfl (by decide)
  have a2 := a1.sg (q := 12) (c := 62) rfl rfl (by decide) (by decide)
  have a3 := a2.dg (q := 19) (l := 0) (h := 4) rfl rfl (by decide)
  exact FN.of19 a3 (fun _ => Nat.lt_of_lt_of_le (Nat.lt_succ_self p) (Nat.le_trans (dgP_mono (s := (p + 1, false))) (Nat.le_trans sgP_mono dgP_mono)))
theorem pE_s {t : Nat → Nat} {len p E : Nat} {F : Bool} (j : JO t len 0 (p, false) E F) (h : nxN t len p = 115) : FN t len p (pE115 t len p) E F := by
  have j1 := j.kind h (by decide) (show dn 0 115 = some 10 from rfl)
  have a1 := (show JJ t len 10 (p + 1, false) E F from Or.inr j1).dg (q := 11) (l := 0) (h := 7) rfl rfl (by decide)
  have a2 := a1.sg (q := 12) (c := 62) rfl rfl (by decide) (by decide)
  have a3 := a2.dg (q := 19) (l := 0) (h := 4) rfl rfl (by decide)
  exact FN.of19 a3 (fun _ => Nat.lt_of_lt_of_le (Nat.lt_succ_self p) (Nat.le_trans (dgP_mono (s := (p + 1, false))) (Nat.le_trans sgP_mono dgP_mono)))
theorem pE_b {t : Nat → Nat} {len p E : Nat} {F : Bool} (j : JO t len 0 (p, false) E F) (h : nxN t len p = 98) : FN t len p (pE98 t len p) E F := by
  have j1 := j.kind h (by decide) (show dn 0 98 = some 13 from rfl)
  have a1 := (show JJ t len 13 (p + 1, false) E F from Or.inr j1).dg (q := 14) (l := 0) (h := 4) rfl rfl (by decide)
  have a2 := a1.sg (q := 15) (c := 61) rfl rfl (by decide) (by decide)
  refine (nm_len a2).wk ?_
  exact Nat.le_trans (Nat.le_succ p) (Nat.le_trans (dgP_mono (s := (p + 1, false))) sgP_mono)
/-- all kinds at once -/
def pK (t : Nat → Nat) (len p : Nat) : Nat := if nxN t len p = 45 then 45 else if nxN t len p = 98 then 98 else if nxN t len p = 115 then 115 else 116
def pE (t : Nat → Nat) (len p : Nat) : PS := if nxN t len p = 45 then pE45 t len p else if nxN t len p = 98 then pE98 t len p else if nxN t len p = 115 then pE115 t len p else pE116 t len p
theorem pE_FN {t : Nat → Nat} {len p E : Nat} {F : Bool} (j : JO t len 0 (p, false) E F) : FN t len p (pE t len p) E F := by
  unfold pE
  split
  · exact pE_d j (by assumption)
  · split
    · exact pE_b j (by assumption)
    · split
      · exact pE_s j (by assumption)
      · exact pE_t j (by assumption) (by assumption) (by assumption)
