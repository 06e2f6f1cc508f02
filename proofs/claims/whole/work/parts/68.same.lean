/-! texts: both read the same -/
def okR (t : Nat → Nat) (s i m : Nat) : Bool := match rdF t s i m with
  | none => false
  | some q => me q
theorem okR_n {t : Nat → Nat} {s i m : Nat} (h : dn s (t i) = none) : okR t s i (m + 1) = false := by unfold okR; rw [rdF_n h]
theorem okR_s {t : Nat → Nat} {s i m q : Nat} (h : dn s (t i) = some q) : okR t s i (m + 1) = okR t q (i + 1) m := by unfold okR; rw [rdF_s h]
def JW (len : Nat) (s : PS) (E : Nat) (F : Bool) : Prop := s.2 = true ∧ E = s.1 ∧ F = false ∧ s.1 ≤ len
def JO (t : Nat → Nat) (len st : Nat) (s : PS) (E : Nat) (F : Bool) : Prop := s.2 = false ∧ s.1 ≤ len ∧ rdE t st s.1 (len - s.1) = E ∧ okR t st s.1 (len - s.1) = F
def JJ (t : Nat → Nat) (len st : Nat) (s : PS) (E : Nat) (F : Bool) : Prop := JW len s E F ∨ JO t len st s E F
theorem JO.no1 {t : Nat → Nat} {len st p E : Nat} {F : Bool} (h : JO t len st (p, false) E F) (hm : me st = false) (hn : p < len → dn st (t p) = none) : JW len (p, true) E F := by
  obtain ⟨_, h1, h2, h3⟩ := h
  have h1 : p ≤ len := h1
  by_cases e : p < len
  · rw [show len - p = (len - p - 1) + 1 by omega] at h2 h3
    have h2 : rdE t st p (len - p - 1 + 1) = E := h2
    have h3 : okR t st p (len - p - 1 + 1) = F := h3
    rw [rdE_n (hn e)] at h2
    rw [okR_n (hn e)] at h3
    exact ⟨rfl, h2.symm, h3.symm, h1⟩
  · have e2 : len - p = 0 := by omega
    have h2 : rdE t st p (len - p) = E := h2
    have h3 : okR t st p (len - p) = F := h3
    rw [e2] at h2 h3
    exact ⟨rfl, h2.symm, by rw [← h3]; exact hm, h1⟩
theorem JO.go1 {t : Nat → Nat} {len st p E q : Nat} {F : Bool} (h : JO t len st (p, false) E F) (hp : p < len) (hn : dn st (t p) = some q) : JO t len q (p + 1, false) E F := by
  obtain ⟨_, h1, h2, h3⟩ := h
  have h2 : rdE t st p (len - p) = E := h2
  have h3 : okR t st p (len - p) = F := h3
  rw [show len - p = (len - (p + 1)) + 1 by omega] at h2 h3
  rw [rdE_s hn] at h2
  rw [okR_s hn] at h3
  exact ⟨rfl, hp, h2, h3⟩
def ivP (t : Nat → Nat) (len l h : Nat) (s : PS) : PS := if s.2 = true ∨ ¬ (l ≤ nxN t len s.1 ∧ nxN t len s.1 ≤ h) then (s.1, true) else (s.1 + 1, false)
theorem dgP_iv (t : Nat → Nat) (len l h : Nat) (s : PS) : dgP t len l h s = ivP t len (l + 48) (h + 48) s := rfl
theorem sgP_iv (t : Nat → Nat) (len c : Nat) (s : PS) : sgP t len c s = ivP t len c c s := by
  unfold sgP ivP
  have e : (s.2 = true ∨ nxN t len s.1 ≠ c) ↔ (s.2 = true ∨ ¬ (c ≤ nxN t len s.1 ∧ nxN t len s.1 ≤ c)) := by
    constructor <;> intro h <;> rcases h with h | h <;> first | exact Or.inl h | exact Or.inr (by omega)
  by_cases h : s.2 = true ∨ nxN t len s.1 ≠ c
  · rw [if_pos h, if_pos (e.mp h)]
  · rw [if_neg h, if_neg (fun x => h (e.mpr x))]
/-- one sign out of an interval -/
theorem JJ.iv {t : Nat → Nat} {len st q l h E : Nat} {F : Bool} {s : PS} (j : JJ t len st s E F) (h0 : 0 < l) (hm : me st = false) (ha : ∀ x, l ≤ x → x ≤ h → dn st x = some q) (hb : s.1 < len → ¬ (l ≤ t s.1 ∧ t s.1 ≤ h) → dn st (t s.1) = none) : JJ t len q (ivP t len l h s) E F := by
  obtain ⟨p, w⟩ := s
  unfold ivP
  by_cases e : w = true ∨ ¬ (l ≤ nxN t len p ∧ nxN t len p ≤ h)
  · rw [if_pos e]
    rcases j with ⟨j1, j2, j3, j4⟩ | j
    · exact Or.inl ⟨rfl, j2, j3, j4⟩
    · have jw : w = false := j.1
      subst jw
      rcases e with e | e
      · cases e
      · exact Or.inl (j.no1 hm (fun hp => hb hp (by rw [nxN_lt hp] at e; exact e)))
  · rw [if_neg e]
    rcases j with ⟨j1, j2, j3, j4⟩ | j
    · exact absurd (Or.inl j1) e
    · have jw : w = false := j.1
      subst jw
      have hx := Decidable.of_not_not (fun x => e (Or.inr x))
      have hp : p < len := by
        unfold nxN at hx
        split at hx
        · assumption
        · omega
      rw [nxN_lt hp] at hx
      exact Or.inr (j.go1 hp (ha _ hx.1 hx.2))
theorem dn1 {st l h q : Nat} (e : trs st = [(l, h, q)]) (hm : me st = false) (h9 : h < 59 ∨ 59 < l) (x : Nat) : (l ≤ x → x ≤ h → dn st x = some q) ∧ (¬ (l ≤ x ∧ x ≤ h) → dn st x = none) := by
  constructor
  · intro h1 h2
    rw [dn_o (by omega), e]; exact pick_t ⟨h1, h2⟩
  · intro h1
    unfold dn
    split
    · rw [hm]; rfl
    · rw [e]; exact pick_f h1
theorem JJ.sg {t : Nat → Nat} {len st q c E : Nat} {F : Bool} {s : PS} (j : JJ t len st s E F) (e : trs st = [(c, c, q)]) (hm : me st = false) (h0 : 0 < c) (h9 : c < 59 ∨ 59 < c) : JJ t len q (sgP t len c s) E F := by
  rw [sgP_iv]
  exact j.iv h0 hm (fun x => (dn1 e hm h9 x).1) (fun _ => (dn1 e hm h9 _).2)
theorem JJ.dg {t : Nat → Nat} {len st q l h E : Nat} {F : Bool} {s : PS} (j : JJ t len st s E F) (e : trs st = [(l + 48, h + 48, q)]) (hm : me st = false) (h9 : h ≤ 9) : JJ t len q (dgP t len l h s) E F := by
  rw [dgP_iv]
  exact j.iv (by omega) hm (fun x => (dn1 e hm (by omega) x).1) (fun _ => (dn1 e hm (by omega) _).2)
/-- after a part: wrong, or at an end that may stand -/
def FN (t : Nat → Nat) (len p : Nat) (s : PS) (E : Nat) (F : Bool) : Prop := JW len s E F ∨ ∃ st, me st = true ∧ JO t len st s E F ∧ p < s.1 ∧ (s.1 < len → t s.1 ≠ 59 → dn st (t s.1) = none)
theorem FN.of19 {t : Nat → Nat} {len p E : Nat} {F : Bool} {s : PS} (j : JJ t len 19 s E F) (hp : s.2 = false → p < s.1) : FN t len p s E F := by
  rcases j with j | j
  · exact Or.inl j
  · exact Or.inr ⟨19, rfl, j, hp j.1, fun _ h => (dn_o h).trans rfl⟩
def dgt (x : Nat) : Prop := 48 ≤ x ∧ x ≤ 57
theorem nmC_no {t : Nat → Nat} {len most its p : Nat} (h : ¬ dgt (nxN t len p)) : nmC t len most its p = false := decide_eq_false (fun e => h ⟨e.1, e.2.1⟩)
theorem nmL_no {t : Nat → Nat} {len most m its p : Nat} (h : nmC t len most its p = false) : nmL t len most m its p = (its, p) := by
  cases m with
  | zero => rfl
  | succ m => exact if_neg (by rw [h]; decide)
theorem nmL_yes {t : Nat → Nat} {len most m its p : Nat} (h : nmC t len most its p = true) : nmL t len most (m + 1) its p = nmL t len most m (10 * its + (nxN t len p - 48)) (p + 1) := if_pos h
/-- numbers of up to 99, in the middle: the state behind them -/
theorem nm_mid {t : Nat → Nat} {len m its p E : Nat} {F : Bool} (hm : p + (m + 1) = len + 1) (h9 : 1 ≤ its ∧ its ≤ 9) (j : JO t len 5 (p, false) E F) :
    (nmL t len 99 (m + 1) its p = (its, p) ∧ ¬ dgt (nxN t len p)) ∨ (nmL t len 99 (m + 1) its p = (10 * its + (nxN t len p - 48), p + 1) ∧ dgt (nxN t len p) ∧ JO t len 6 (p + 1, false) E F) := by
  by_cases h : dgt (nxN t len p)
  · have hc : nmC t len 99 its p = true := decide_eq_true ⟨h.1, h.2, by have := h.2; omega⟩
    have hp := nmC_lt hc
    refine Or.inr ⟨?_, h, j.go1 hp ?_⟩
    · rw [nmL_yes hc, nmL_no (decide_eq_false (fun e => by have := e.2.2; have := h.1; omega))]
    · rw [nxN_lt hp] at h
      have h1 := h.1
      have h2 := h.2
      rw [dn_o (by omega)]; exact pick_t ⟨h1, h2⟩
  · exact Or.inl ⟨nmL_no (nmC_no h), h⟩
/-- .. at the end -/
theorem nm_end {t : Nat → Nat} {len m its p E st st2 most : Nat} {F : Bool} (hm : p + (m + 1) = len + 1) (j : JO t len st (p, false) E F) (hst : trs st = [(48, 57, st2)]) (hme : me st = true) (hmost : 10 * its + 9 ≤ most)
    (hn : ∀ its2, nxN t len p - 48 + 10 * its = its2 → dgt (nxN t len p) → JO t len st2 (p + 1, false) E F → FN t len p ((nmL t len most m its2 (p + 1)).2, false) E F) : FN t len (p - 1) ((nmL t len most (m + 1) its p).2, false) E F ∨ p = 0 := by
  by_cases h : dgt (nxN t len p)
  · have hc : nmC t len most its p = true := decide_eq_true ⟨h.1, h.2, by have := h.2; omega⟩
    have hp := nmC_lt hc
    rw [nmL_yes hc]
    have hx := h
    rw [nxN_lt hp] at hx
    have h1 := hx.1
    have h2 := hx.2
    have r := hn _ rfl h (j.go1 hp (by rw [dn_o (by omega), hst]; exact pick_t ⟨h1, h2⟩))
    rw [Nat.add_comm] at r
    rcases r with r | ⟨s9, r1, r2, r3, r4⟩
    · exact Or.inl (Or.inl r)
    · exact Or.inl (Or.inr ⟨s9, r1, r2, by show p - 1 < _; have r3 : p < _ := r3; omega, r4⟩)
  · rw [nmL_no (nmC_no h)]
    by_cases h0 : p = 0
    · exact Or.inr h0
    · refine Or.inl (Or.inr ⟨st, hme, j, by show p - 1 < p; omega, fun hp h59 => ?_⟩)
      have hp : p < len := hp
      rw [nxN_lt hp] at h
      rw [dn_o h59, hst]; exact pick_f h
theorem nm_19 {t : Nat → Nat} {len m its p E most : Nat} {F : Bool} (j : JO t len 19 (p + 1, false) E F) (h : most < 10 * its) : FN t len p ((nmL t len most m its (p + 1)).2, false) E F := by
  rw [nmL_no (decide_eq_false (fun e => by have := e.2.2; omega))]
  exact FN.of19 (Or.inr j) (fun _ => Nat.lt_succ_self p)
theorem FN.wk {t : Nat → Nat} {len p p2 E : Nat} {F : Bool} {s : PS} (h : FN t len p s E F) (hp : p2 ≤ p) : FN t len p2 s E F := by
  rcases h with h | ⟨st, a, b, c, d⟩
  · exact Or.inl h
  · exact Or.inr ⟨st, a, b, by omega, d⟩
/-- a down -/
theorem nm_down {t : Nat → Nat} {len E : Nat} {F : Bool} {s : PS} (j : JJ t len 7 s E F) : FN t len s.1 (nmP t len 99 s) E F := by
  have j2 := j.dg (l := 1) (h := 9) (q := 8) rfl rfl (by decide)
  unfold nmP
  by_cases hw : (dgP t len 1 9 s).2 = true
  · rw [if_pos hw]
    rcases j2 with j2 | j2
    · exact Or.inl j2
    · exact absurd (hw.symm.trans j2.1) (by decide)
  · rw [if_neg hw]
    have hc : ¬ (s.2 = true ∨ ¬ (1 + 48 ≤ nxN t len s.1 ∧ nxN t len s.1 ≤ 9 + 48)) := fun h => hw (by rw [dgP_w h])
    have hd := Decidable.of_not_not (fun h => hc (Or.inr h))
    have ew : dgP t len 1 9 s = (s.1 + 1, false) := dgP_o hc
    rw [ew] at j2 ⊢
    rcases j2 with j2 | j2
    · cases j2.1
    · have hle : s.1 + 1 ≤ len := j2.2.1
      have r := nm_end (m := len - (s.1 + 1)) (its := nxN t len s.1 - 48) (most := 99) (by omega) j2 (st2 := 19) rfl rfl (by omega) (fun its2 e hg j3 => nm_19 j3 (by omega))
      rw [show len - (s.1 + 1) + 1 = len + 1 - (s.1 + 1) by omega] at r
      exact r.resolve_right (by omega)
/-- a length -/
theorem nm_len {t : Nat → Nat} {len E : Nat} {F : Bool} {s : PS} (j : JJ t len 15 s E F) : FN t len s.1 (nmP t len 9999 s) E F := by
  have j2 := j.dg (l := 1) (h := 9) (q := 16) rfl rfl (by decide)
  unfold nmP
  by_cases hw : (dgP t len 1 9 s).2 = true
  · rw [if_pos hw]
    rcases j2 with j2 | j2
    · exact Or.inl j2
    · exact absurd (hw.symm.trans j2.1) (by decide)
  · rw [if_neg hw]
    have hc : ¬ (s.2 = true ∨ ¬ (1 + 48 ≤ nxN t len s.1 ∧ nxN t len s.1 ≤ 9 + 48)) := fun h => hw (by rw [dgP_w h])
    have hd := Decidable.of_not_not (fun h => hc (Or.inr h))
    have ew : dgP t len 1 9 s = (s.1 + 1, false) := dgP_o hc
    rw [ew] at j2 ⊢
    rcases j2 with j2 | j2
    · cases j2.1
    · have hle : s.1 + 1 ≤ len := j2.2.1
      have r := nm_end (m := len - (s.1 + 1)) (its := nxN t len s.1 - 48) (most := 9999) (by omega) j2 (st2 := 17) rfl rfl (by omega) (fun i2 e2 g2 k2 => by
        have l2 : s.1 + 1 + 1 ≤ len := k2.2.1
        have g2a := g2.1
        have g2b := g2.2
        have r := nm_end (m := len - (s.1 + 1 + 1)) (its := i2) (most := 9999) (by omega) k2 (st2 := 18) rfl rfl (by omega) (fun i3 e3 g3 k3 => by
          have l3 : s.1 + 1 + 1 + 1 ≤ len := k3.2.1
          have g3a := g3.1
          have g3b := g3.2
          have r := nm_end (m := len - (s.1 + 1 + 1 + 1)) (its := i3) (most := 9999) (by omega) k3 (st2 := 19) rfl rfl (by omega) (fun i4 e4 g4 k4 => nm_19 k4 (by have := g4.1; omega))
          rw [show len - (s.1 + 1 + 1 + 1) + 1 = len - (s.1 + 1 + 1) by omega] at r
          exact (r.resolve_right (by omega)).wk (by omega))
        rw [show len - (s.1 + 1 + 1) + 1 = len - (s.1 + 1) by omega] at r
        exact (r.resolve_right (by omega)).wk (by omega))
      rw [show len - (s.1 + 1) + 1 = len + 1 - (s.1 + 1) by omega] at r
      exact r.resolve_right (by omega)
/-- an up, and the sign behind it -/
theorem nm_up {t : Nat → Nat} {len E : Nat} {F : Bool} {s : PS} (j : JJ t len 4 s E F) : JJ t len 7 (sgP t len 47 (nmP t len 99 s)) E F := by
  have j2 := j.dg (l := 1) (h := 9) (q := 5) rfl rfl (by decide)
  unfold nmP
  by_cases hw : (dgP t len 1 9 s).2 = true
  · rw [if_pos hw]
    rcases j2 with j2 | j2
    · rw [sgP_w (Or.inl hw)]; exact Or.inl ⟨rfl, j2.2⟩
    · exact absurd (hw.symm.trans j2.1) (by decide)
  · rw [if_neg hw]
    have hc : ¬ (s.2 = true ∨ ¬ (1 + 48 ≤ nxN t len s.1 ∧ nxN t len s.1 ≤ 9 + 48)) := fun h => hw (by rw [dgP_w h])
    have hd := Decidable.of_not_not (fun h => hc (Or.inr h))
    have ew : dgP t len 1 9 s = (s.1 + 1, false) := dgP_o hc
    rw [ew] at j2 ⊢
    rcases j2 with j2 | j2
    · cases j2.1
    · have hle : s.1 + 1 ≤ len := j2.2.1
      have r := nm_mid (m := len - (s.1 + 1)) (its := nxN t len s.1 - 48) (by omega) (by omega) j2
      rw [show len - (s.1 + 1) + 1 = len + 1 - (s.1 + 1) by omega] at r
      rcases r with ⟨r1, r2⟩ | ⟨r1, r2, r3⟩
      · rw [r1, sgP_iv]
        refine JJ.iv (Or.inr j2) (by decide) rfl (fun x h1 h2 => ?_) (fun hp hx => ?_)
        · obtain rfl : x = 47 := by omega
          rfl
        · have hp : s.1 + 1 < len := hp
          rw [nxN_lt hp] at r2
          have hx : ¬ (47 ≤ t (s.1 + 1) ∧ t (s.1 + 1) ≤ 47) := hx
          show dn 5 (t (s.1 + 1)) = none
          unfold dn
          split
          · rfl
          · exact (pick_f r2).trans (pick_f hx)
      · rw [r1]
        exact JJ.sg (Or.inr r3) rfl rfl (by decide) (by decide)
theorem dgP_mono {t : Nat → Nat} {len l h : Nat} {s : PS} : s.1 ≤ (dgP t len l h s).1 := by unfold dgP; split <;> simp
theorem sgP_mono {t : Nat → Nat} {len c : Nat} {s : PS} : s.1 ≤ (sgP t len c s).1 := by unfold sgP; split <;> simp
theorem nmP_mono {t : Nat → Nat} {len most : Nat} {s : PS} (hp : s.1 ≤ len) : s.1 ≤ (nmP t len most s).1 := by
  unfold nmP
  split
  · exact dgP_mono
  · exact Nat.le_trans dgP_mono (nmL_le _ _ _ (dgP_le hp)).2
theorem JJ.dg0 {t : Nat → Nat} {len p E : Nat} {F : Bool} (j : JO t len 0 (p, false) E F) (h1 : nxN t len p ≠ 45) (h2 : nxN t len p ≠ 98) (h3 : nxN t len p ≠ 115) : JJ t len 1 (dgP t len 0 4 (p, false)) E F := by
  rw [dgP_iv]
  refine JJ.iv (Or.inr j) (by decide) rfl (fun x a b => ?_) (fun hp hx => ?_)
  · rw [dn_o (by omega)]; exact pick_t ⟨a, b⟩
  · have hp : p < len := hp
    rw [nxN_lt hp] at h1 h2 h3
    have hx : ¬ (0 + 48 ≤ t p ∧ t p ≤ 4 + 48) := hx
    show dn 0 (t p) = none
    unfold dn
    split
    · rfl
    · show pick [_, _, _, _] (t p) = none
      rw [pick_f hx, pick_f (by omega), pick_f (by omega), pick_f (by omega)]; rfl
theorem JO.kind {t : Nat → Nat} {len p E c q : Nat} {F : Bool} (j : JO t len 0 (p, false) E F) (hc : nxN t len p = c) (h0 : 0 < c) (hd : dn 0 c = some q) : JO t len q (p + 1, false) E F := by
  have hp : p < len := by unfold nxN at hc; split at hc <;> omega
  rw [nxN_lt hp] at hc
  exact j.go1 hp (by rw [hc]; exact hd)
theorem pE_t {t : Nat → Nat} {len p E : Nat} {F : Bool} (j : JO t len 0 (p, false) E F) (h1 : nxN t len p ≠ 45) (h2 : nxN t len p ≠ 98) (h3 : nxN t len p ≠ 115) : FN t len p (pE116 t len p) E F := by
  have hp : p ≤ len := j.2.1
  have a1 := JJ.dg0 j h1 h2 h3
  have a2 := a1.sg (q := 2) (c := 62) rfl rfl (by decide) (by decide)
  have a3 := a2.dg (q := 3) (l := 0) (h := 4) rfl rfl (by decide)
  have a4 := a3.sg (q := 4) (c := 61) rfl rfl (by decide) (by decide)
  have a5 := nm_down (nm_up a4)
  refine a5.wk ?_
  exact Nat.le_trans (show p ≤ (dgP t len 0 4 (p, false)).1 from dgP_mono (s := (p, false))) (Nat.le_trans sgP_mono (Nat.le_trans dgP_mono (Nat.le_trans sgP_mono (Nat.le_trans (nmP_mono (sgP_le (by decide) (dgP_le (sgP_le (by decide) (dgP_le hp))))) sgP_mono))))
theorem pE_d {t : Nat → Nat} {len p E : Nat} {F : Bool} (j : JO t len 0 (p, false) E F) (h : nxN t len p = 45) : FN t len p (pE45 t len p) E F := by
  have j1 := j.kind h (by decide) (show dn 0 45 = some 9 from rfl)
  have a1 := (show JJ t len 9 (p + 1, false) E F from Or.inr j1).dg (q := 11) (l := 0) (h := 4) rfl rfl (by decide)
  have a2 := a1.sg (q := 12) (c := 62) rfl rfl (by decide) (by decide)
  have a3 := a2.dg (q := 19) (l := 0) (h := 4) rfl rfl (by decide)
  exact FN.of19 a3 (fun _ => Nat.lt_of_lt_of_le (Nat.lt_succ_self p) (Nat.le_trans (dgP_mono (s := (p + 1, false))) (Nat.le_trans sgP_mono dgP_mono)))
theorem pE_s {t : Nat → Nat} {len p E : Nat} {F : Bool} (j : JO t len 0 (p, false) E F) (h : nxN t len p = 115) : FN t len p (pE115 t len p) E F := by
  have j1 := j.kind h (by decide) (show dn 0 115 = some 10 from rfl)
  have a1 := (show JJ t len 10 (p + 1, false) E F from Or.inr j1).dg (q := 11) (l := 0) (h := 7) rfl rfl (by decide)
  have a2 := a1.sg (q := 12) (c := 62) rfl rfl (by decide) (by decide)
  have a3 := a2.dg (q := 19) (l := 0) (h := 4) rfl rfl (by decide)
  exact FN.of19 a3 (fun _ => Nat.lt_of_lt_of_le (Nat.lt_succ_self p) (Nat.le_trans (dgP_mono (s := (p + 1, false))) (Nat.le_trans sgP_mono dgP_mono)))
theorem pE_b {t : Nat → Nat} {len p E : Nat} {F : Bool} (j : JO t len 0 (p, false) E F) (h : nxN t len p = 98) : FN t len p (pE98 t len p) E F := by
  have j1 := j.kind h (by decide) (show dn 0 98 = some 13 from rfl)
  have a1 := (show JJ t len 13 (p + 1, false) E F from Or.inr j1).dg (q := 14) (l := 0) (h := 4) rfl rfl (by decide)
  have a2 := a1.sg (q := 15) (c := 61) rfl rfl (by decide) (by decide)
  refine (nm_len a2).wk ?_
  exact Nat.le_trans (Nat.le_succ p) (Nat.le_trans (dgP_mono (s := (p + 1, false))) sgP_mono)
/-- all kinds at once -/
def pK (t : Nat → Nat) (len p : Nat) : Nat := if nxN t len p = 45 then 45 else if nxN t len p = 98 then 98 else if nxN t len p = 115 then 115 else 116
def pE (t : Nat → Nat) (len p : Nat) : PS := if nxN t len p = 45 then pE45 t len p else if nxN t len p = 98 then pE98 t len p else if nxN t len p = 115 then pE115 t len p else pE116 t len p
def pU (t : Nat → Nat) (len p : Nat) (v : Nat → Int32) : Nat → Int32 := if nxN t len p = 45 then pU45 t len p v else if nxN t len p = 98 then pU98 t len p v else if nxN t len p = 115 then pU115 t len p v else pU116 t len p v
theorem pE_FN {t : Nat → Nat} {len p E : Nat} {F : Bool} (j : JO t len 0 (p, false) E F) : FN t len p (pE t len p) E F := by
  unfold pE
  split
  · exact pE_d j (by assumption)
  · split
    · exact pE_b j (by assumption)
    · split
      · exact pE_s j (by assumption)
      · exact pE_t j (by assumption) (by assumption) (by assumption)
theorem pU_o (t : Nat → Nat) (len p : Nat) (v : Nat → Int32) {k : Nat} (h : k < 6) : pU t len p v k = v k := by
  unfold pU
  split
  · unfold pU45; rw [upd_ne (by omega), upd_ne (by omega), upd_ne (by omega)]
  · split
    · unfold pU98; rw [upd_ne (by omega), upd_ne (by omega), upd_ne (by omega)]
    · split
      · unfold pU115; rw [upd_ne (by omega), upd_ne (by omega), upd_ne (by omega)]
      · unfold pU116; rw [upd_ne (by omega), upd_ne (by omega), upd_ne (by omega), upd_ne (by omega), upd_ne (by omega)]
theorem q9_part {g : GE} {M : Mem} {sz : Nat} {len : Nat} {tx v : Nat → Int32} {t : Nat → Nat} (hl : len ≤ 60) (ht : TX t tx len) (hM : MT9 g M len tx v) {p : Nat} (hs : PV v (p, false)) (hp : p ≤ len) : Run g m_X9_part [rf g 96] M sz 0 0 (Ret none (mup M 96 (MO g (psV (pU t len p v) (pE t len p))))) := by
  unfold pU pE
  by_cases h1 : nxN t len p = 45
  · rw [if_pos h1, if_pos h1]; exact q9_part_45 hl ht hM hs hp h1
  · rw [if_neg h1, if_neg h1]
    by_cases h2 : nxN t len p = 98
    · rw [if_pos h2, if_pos h2]; exact q9_part_98 hl ht hM hs hp h2
    · rw [if_neg h2, if_neg h2]
      by_cases h3 : nxN t len p = 115
      · rw [if_pos h3, if_pos h3]; exact q9_part_115 hl ht hM hs hp h3
      · rw [if_neg h3, if_neg h3]; exact q9_part_116 hl ht hM hs hp h1 h2 h3
theorem okT_eq (t : Nat → Nat) (len : Nat) : okT t len = okR t 0 0 len := rfl
/-- what reading leaves of the model's numbers -/
def WV (v v2 : Nat → Int32) (E : Nat) (F : Bool) : Prop := (∀ k, k < 4 → v2 k = v k) ∧ PV v2 (E, !F)
set_option maxRecDepth 20000 in
theorem q9_isWhole {g : GE} {M : Mem} {sz : Nat} {len : Nat} {tx v : Nat → Int32} {t : Nat → Nat} (hl : len ≤ 60) (ht : TX t tx len) (hM : MT9 g M len tx v) : Run g m_X9_isWhole [rf g 96] M sz 0 0 (RetP (some (.int (bI (okT t len)))) (fun M1 => ∃ v2, M1 = mup M 96 (MO g v2) ∧ WV v v2 (rdE t 0 0 len) (okT t len))) := by
  have L : ∀ (m p : Nat) (u : Nat → Int32), len - p < m → p ≤ len → PV u (p, false) → (∀ k, k < 4 → u k = v k) → JO t len 0 (p, false) (rdE t 0 0 len) (okT t len) → V g m_X9_isWhole 12 [(1, .int 1), (0, rf g 96)] [] (mup M 96 (MO g u)) sz 0 0 (RetP (some (.int (bI (okT t len)))) (fun M1 => ∃ v2, M1 = mup M 96 (MO g v2) ∧ WV v v2 (rdE t 0 0 len) (okT t len))) := by
    intro m
    induction m with
    | zero => intro p u h; omega
    | succ m ih =>
      intro p u hm hp hu hu4 j
      have e2 : u 2 = v 2 := hu4 2 (by decide)
      have e9a : (psV (pU t len p u) (pE t len p)) 2 = v 2 := (psV_o (by decide) (by decide)).trans ((pU_o t len p u (by decide)).trans e2)
      have e9 : (psV (pU t len p u) (pE t len p)) 2 = nI len := e9a.trans hM.2.2
      rcases pE_FN j with ⟨r1, r2, r3, r4⟩ | ⟨st, k0, ⟨k1, k2, k3, k4⟩, k5, k6⟩
      · skip
        refine V_iload_n 0 dX9_isWhole_12 rfl ?_
        refine V_if_eq (tgt := 70) dX9_isWhole_13 (by decide) (fun c13 => absurd c13 (by decide)) (fun c13 => ?_)
        refine V_aload_n 1 dX9_isWhole_16 rfl ?_
        refine C_X9_198 (mup_eq _ _ _) rfl ⟨Nat.le_of_ble_eq_true rfl, Nat.le_of_ble_eq_true rfl⟩ (q9_part hl ht (MT9.v hM e2) hu hp) rfl (Nat.le_of_ble_eq_true rfl) dX9_isWhole_17 rfl ?_
        rw [mup_mup]
        refine V_aload_n 1 dX9_isWhole_20 rfl ?_
        refine G_X9_165 rfl (mup_eq _ _ _) rfl dX9_isWhole_21 ?_
        refine V_if_ne (tgt := 42) dX9_isWhole_24 (by decide) (fun c24 => ?_) (fun c24 => absurd c24 (show ¬ (psV (pU t len p u) (pE t len p)) 5 = 0 by rw [(psV_pv _ _).2, r1]; decide))
        refine V_pc (pc2 := 42) rfl ?_
        refine V_iconst (v := 0) dX9_isWhole_42 rfl ?_
        refine V_istore_n (lv2 := [(1, .int _), (0, .ref _)]) dX9_isWhole_43 (Nat.le_of_ble_eq_true rfl) rfl ?_
        refine V_iload_n 0 dX9_isWhole_44 rfl ?_
        refine V_if_eq (tgt := 12) dX9_isWhole_45 (by decide) (fun c45 => ?_) (fun c45 => absurd rfl c45)
        refine V_iload_n 0 dX9_isWhole_12 rfl ?_
        refine V_if_eq (tgt := 70) dX9_isWhole_13 (by decide) (fun c13 => ?_) (fun c13 => absurd rfl c13)
        refine V_aload_n 1 dX9_isWhole_70 rfl ?_
        refine G_X9_165 rfl (mup_eq _ _ _) rfl dX9_isWhole_71 ?_
        refine V_pc (pc2 := 74) rfl ?_
        refine V_if_ne (tgt := 81) dX9_isWhole_74 (by decide) (fun c74 => ?_) (fun c74 => absurd c74 (show ¬ (psV (pU t len p u) (pE t len p)) 5 = 0 by rw [(psV_pv _ _).2, r1]; decide))
        refine V_iconst (v := 0) dX9_isWhole_81 rfl ?_
        refine V_zret (st := []) dX9_isWhole_82 rfl (by simp) ?_
        refine ⟨by rw [show okT t len = false from r3]; rfl, _, rfl, fun k hk => (psV_o (by omega) (by omega)).trans ((pU_o t len p u (by omega)).trans (hu4 k hk)), ?_⟩
        have e7 : (rdE t 0 0 len, !okT t len) = pE t len p := Prod.ext r2 (by rw [show okT t len = false from r3, r1]; rfl)
        rw [e7]
        exact psV_pv _ _
      · by_cases hq9 : (pE t len p).1 = len
        · have hF9 : okT t len = true := by rw [← k4, hq9, Nat.sub_self]; exact k0
          refine V_iload_n 0 dX9_isWhole_12 rfl ?_
          refine V_if_eq (tgt := 70) dX9_isWhole_13 (by decide) (fun c13 => absurd c13 (by decide)) (fun c13 => ?_)
          refine V_aload_n 1 dX9_isWhole_16 rfl ?_
          refine C_X9_198 (mup_eq _ _ _) rfl ⟨Nat.le_of_ble_eq_true rfl, Nat.le_of_ble_eq_true rfl⟩ (q9_part hl ht (MT9.v hM e2) hu hp) rfl (Nat.le_of_ble_eq_true rfl) dX9_isWhole_17 rfl ?_
          rw [mup_mup]
          refine V_aload_n 1 dX9_isWhole_20 rfl ?_
          refine G_X9_165 rfl (mup_eq _ _ _) rfl dX9_isWhole_21 ?_
          refine V_if_ne (tgt := 42) dX9_isWhole_24 (by decide) (fun c24 => absurd (show (psV (pU t len p u) (pE t len p)) 5 = 0 by rw [(psV_pv _ _).2, k1]; rfl) c24) (fun c24 => ?_)
          refine V_pc (pc2 := 27) rfl ?_
          refine V_aload_n 1 dX9_isWhole_27 rfl ?_
          refine G_X9_162 rfl (mup_eq _ _ _) rfl dX9_isWhole_28 ?_
          refine V_aload_n 1 dX9_isWhole_31 rfl ?_
          refine G_X9_159 rfl (mup_eq _ _ _) rfl dX9_isWhole_32 ?_
          refine V_icmp_ge (tgt := 42) dX9_isWhole_35 (by decide) (fun c35 => ?_) (fun c35 => absurd (show (psV (pU t len p u) (pE t len p)) 2 ≤ (psV (pU t len p u) (pE t len p)) 4 by rw [e9, (psV_pv _ _).1, hq9]; exact nI_le (Nat.le_refl _) (by omega)) c35)
          refine V_iconst (v := 0) dX9_isWhole_42 rfl ?_
          refine V_istore_n (lv2 := [(1, .int _), (0, .ref _)]) dX9_isWhole_43 (Nat.le_of_ble_eq_true rfl) rfl ?_
          refine V_iload_n 0 dX9_isWhole_44 rfl ?_
          refine V_pc (pc2 := 45) rfl ?_
          refine V_if_eq (tgt := 12) dX9_isWhole_45 (by decide) (fun c45 => ?_) (fun c45 => absurd rfl c45)
          refine V_iload_n 0 dX9_isWhole_12 rfl ?_
          refine V_if_eq (tgt := 70) dX9_isWhole_13 (by decide) (fun c13 => ?_) (fun c13 => absurd rfl c13)
          refine V_aload_n 1 dX9_isWhole_70 rfl ?_
          refine G_X9_165 rfl (mup_eq _ _ _) rfl dX9_isWhole_71 ?_
          refine V_if_ne (tgt := 81) dX9_isWhole_74 (by decide) (fun c74 => absurd (show (psV (pU t len p u) (pE t len p)) 5 = 0 by rw [(psV_pv _ _).2, k1]; rfl) c74) (fun c74 => ?_)
          refine V_iconst (v := 1) dX9_isWhole_77 rfl ?_
          refine V_goto (tgt := 82) dX9_isWhole_78 (by decide) ?_
          refine V_pc (pc2 := 82) rfl ?_
          refine V_zret (st := []) dX9_isWhole_82 rfl (by simp) ?_
          refine ⟨by rw [show okT t len = true from hF9]; rfl, _, rfl, fun k hk => (psV_o (by omega) (by omega)).trans ((pU_o t len p u (by omega)).trans (hu4 k hk)), ?_⟩
          have e7 : (rdE t 0 0 len, !okT t len) = pE t len p := Prod.ext (by show rdE t 0 0 len = _; rw [← k3, hq9, Nat.sub_self]; rfl) (by rw [show okT t len = true from hF9, k1]; rfl)
          rw [e7]
          exact psV_pv _ _
        · have hlt9 : (pE t len p).1 < len := by omega
          by_cases h59 : t (pE t len p).1 = 59
          · have hsg : sgP t len 59 (pE t len p) = ((pE t len p).1 + 1, false) := sgP_o (fun h => h.elim (fun h => by rw [k1] at h; cases h) (fun h => h (by rw [nxN_lt hlt9]; exact h59)))
            have hs9 : (sgP t len 59 (pE t len p)).2 = false := by rw [hsg]
            have hnx : JO t len 0 ((pE t len p).1 + 1, false) (rdE t 0 0 len) (okT t len) := by
              have j2 : JO t len st ((pE t len p).1, false) (rdE t 0 0 len) (okT t len) := ⟨rfl, k2, k3, k4⟩
              exact j2.go1 hlt9 (by unfold dn; rw [if_pos h59, if_pos k0])
            refine V_iload_n 0 dX9_isWhole_12 rfl ?_
            refine V_if_eq (tgt := 70) dX9_isWhole_13 (by decide) (fun c13 => absurd c13 (by decide)) (fun c13 => ?_)
            refine V_aload_n 1 dX9_isWhole_16 rfl ?_
            refine C_X9_198 (mup_eq _ _ _) rfl ⟨Nat.le_of_ble_eq_true rfl, Nat.le_of_ble_eq_true rfl⟩ (q9_part hl ht (MT9.v hM e2) hu hp) rfl (Nat.le_of_ble_eq_true rfl) dX9_isWhole_17 rfl ?_
            rw [mup_mup]
            refine V_aload_n 1 dX9_isWhole_20 rfl ?_
            refine G_X9_165 rfl (mup_eq _ _ _) rfl dX9_isWhole_21 ?_
            refine V_if_ne (tgt := 42) dX9_isWhole_24 (by decide) (fun c24 => absurd (show (psV (pU t len p u) (pE t len p)) 5 = 0 by rw [(psV_pv _ _).2, k1]; rfl) c24) (fun c24 => ?_)
            refine V_pc (pc2 := 27) rfl ?_
            refine V_aload_n 1 dX9_isWhole_27 rfl ?_
            refine G_X9_162 rfl (mup_eq _ _ _) rfl dX9_isWhole_28 ?_
            refine V_aload_n 1 dX9_isWhole_31 rfl ?_
            refine G_X9_159 rfl (mup_eq _ _ _) rfl dX9_isWhole_32 ?_
            refine V_icmp_ge (tgt := 42) dX9_isWhole_35 (by decide) (fun c35 => absurd c35 (show ¬ (psV (pU t len p u) (pE t len p)) 2 ≤ (psV (pU t len p u) (pE t len p)) 4 by rw [e9, (psV_pv _ _).1]; exact nI_ge hlt9 (by omega))) (fun c35 => ?_)
            refine V_iconst (v := 1) dX9_isWhole_38 rfl ?_
            refine V_goto (tgt := 43) dX9_isWhole_39 (by decide) ?_
            refine V_istore_n (lv2 := [(1, .int _), (0, .ref _)]) dX9_isWhole_43 (Nat.le_of_ble_eq_true rfl) rfl ?_
            refine V_pc (pc2 := 44) rfl ?_
            refine V_iload_n 0 dX9_isWhole_44 rfl ?_
            refine V_if_eq (tgt := 12) dX9_isWhole_45 (by decide) (fun c45 => absurd c45 (by decide)) (fun c45 => ?_)
            refine V_aload_n 1 dX9_isWhole_48 rfl ?_
            refine V_bipush (v := 59) dX9_isWhole_49 (by decide) ?_
            refine C_X9_181 (mup_eq _ _ _) rfl ⟨Nat.le_of_ble_eq_true rfl, Nat.le_of_ble_eq_true rfl⟩ (q9_sign hl ht (MT9.v hM e9a) (psV_pv _ _) k2 59 rfl (by decide)) rfl (Nat.le_of_ble_eq_true rfl) dX9_isWhole_51 rfl ?_
            rw [mup_mup, psV_psV]
            refine V_aload_n 1 dX9_isWhole_54 rfl ?_
            refine G_X9_165 rfl (mup_eq _ _ _) rfl dX9_isWhole_55 ?_
            refine V_if_ne (tgt := 65) dX9_isWhole_58 (by decide) (fun c58 => absurd (show (psV (pU t len p u) (sgP t len 59 (pE t len p))) 5 = 0 by rw [(psV_pv _ _).2, hs9]; rfl) c58) (fun c58 => ?_)
            refine V_pc (pc2 := 61) rfl ?_
            refine V_iconst (v := 1) dX9_isWhole_61 rfl ?_
            refine V_goto (tgt := 66) dX9_isWhole_62 (by decide) ?_
            refine V_istore_n (lv2 := [(1, .int _), (0, .ref _)]) dX9_isWhole_66 (Nat.le_of_ble_eq_true rfl) rfl ?_
            refine V_goto (tgt := 12) dX9_isWhole_67 (by decide) ?_
            refine V_lv (lv2 := [(1, .int _), (0, .ref _)]) [0, 1] rfl ?_
            rw [hsg]
            exact ih ((pE t len p).1 + 1) (psV (pU t len p u) ((pE t len p).1 + 1, false)) (by omega) hlt9 (psV_pv _ _) (fun k hk => (psV_o (by omega) (by omega)).trans ((pU_o t len p u (by omega)).trans (hu4 k hk))) hnx
          · have hsg : sgP t len 59 (pE t len p) = ((pE t len p).1, true) := sgP_w (Or.inr (by rw [nxN_lt hlt9]; exact h59))
            have hs9 : (sgP t len 59 (pE t len p)).2 = true := by rw [hsg]
            have hE9 : rdE t 0 0 len = (pE t len p).1 := by rw [← k3, show len - (pE t len p).1 = (len - (pE t len p).1 - 1) + 1 by omega, rdE_n (k6 hlt9 h59)]
            have hF9 : okT t len = false := by rw [← k4, show len - (pE t len p).1 = (len - (pE t len p).1 - 1) + 1 by omega, okR_n (k6 hlt9 h59)]
            refine V_iload_n 0 dX9_isWhole_12 rfl ?_
            refine V_if_eq (tgt := 70) dX9_isWhole_13 (by decide) (fun c13 => absurd c13 (by decide)) (fun c13 => ?_)
            refine V_aload_n 1 dX9_isWhole_16 rfl ?_
            refine C_X9_198 (mup_eq _ _ _) rfl ⟨Nat.le_of_ble_eq_true rfl, Nat.le_of_ble_eq_true rfl⟩ (q9_part hl ht (MT9.v hM e2) hu hp) rfl (Nat.le_of_ble_eq_true rfl) dX9_isWhole_17 rfl ?_
            rw [mup_mup]
            refine V_aload_n 1 dX9_isWhole_20 rfl ?_
            refine G_X9_165 rfl (mup_eq _ _ _) rfl dX9_isWhole_21 ?_
            refine V_if_ne (tgt := 42) dX9_isWhole_24 (by decide) (fun c24 => absurd (show (psV (pU t len p u) (pE t len p)) 5 = 0 by rw [(psV_pv _ _).2, k1]; rfl) c24) (fun c24 => ?_)
            refine V_pc (pc2 := 27) rfl ?_
            refine V_aload_n 1 dX9_isWhole_27 rfl ?_
            refine G_X9_162 rfl (mup_eq _ _ _) rfl dX9_isWhole_28 ?_
            refine V_aload_n 1 dX9_isWhole_31 rfl ?_
            refine G_X9_159 rfl (mup_eq _ _ _) rfl dX9_isWhole_32 ?_
            refine V_icmp_ge (tgt := 42) dX9_isWhole_35 (by decide) (fun c35 => absurd c35 (show ¬ (psV (pU t len p u) (pE t len p)) 2 ≤ (psV (pU t len p u) (pE t len p)) 4 by rw [e9, (psV_pv _ _).1]; exact nI_ge hlt9 (by omega))) (fun c35 => ?_)
            refine V_iconst (v := 1) dX9_isWhole_38 rfl ?_
            refine V_goto (tgt := 43) dX9_isWhole_39 (by decide) ?_
            refine V_istore_n (lv2 := [(1, .int _), (0, .ref _)]) dX9_isWhole_43 (Nat.le_of_ble_eq_true rfl) rfl ?_
            refine V_pc (pc2 := 44) rfl ?_
            refine V_iload_n 0 dX9_isWhole_44 rfl ?_
            refine V_if_eq (tgt := 12) dX9_isWhole_45 (by decide) (fun c45 => absurd c45 (by decide)) (fun c45 => ?_)
            refine V_aload_n 1 dX9_isWhole_48 rfl ?_
            refine V_bipush (v := 59) dX9_isWhole_49 (by decide) ?_
            refine C_X9_181 (mup_eq _ _ _) rfl ⟨Nat.le_of_ble_eq_true rfl, Nat.le_of_ble_eq_true rfl⟩ (q9_sign hl ht (MT9.v hM e9a) (psV_pv _ _) k2 59 rfl (by decide)) rfl (Nat.le_of_ble_eq_true rfl) dX9_isWhole_51 rfl ?_
            rw [mup_mup, psV_psV]
            refine V_aload_n 1 dX9_isWhole_54 rfl ?_
            refine G_X9_165 rfl (mup_eq _ _ _) rfl dX9_isWhole_55 ?_
            refine V_if_ne (tgt := 65) dX9_isWhole_58 (by decide) (fun c58 => ?_) (fun c58 => absurd c58 (show ¬ (psV (pU t len p u) (sgP t len 59 (pE t len p))) 5 = 0 by rw [(psV_pv _ _).2, hs9]; decide))
            refine V_pc (pc2 := 65) rfl ?_
            refine V_iconst (v := 0) dX9_isWhole_65 rfl ?_
            refine V_istore_n (lv2 := [(1, .int _), (0, .ref _)]) dX9_isWhole_66 (Nat.le_of_ble_eq_true rfl) rfl ?_
            refine V_goto (tgt := 12) dX9_isWhole_67 (by decide) ?_
            refine V_iload_n 0 dX9_isWhole_12 rfl ?_
            refine V_if_eq (tgt := 70) dX9_isWhole_13 (by decide) (fun c13 => ?_) (fun c13 => absurd rfl c13)
            refine V_aload_n 1 dX9_isWhole_70 rfl ?_
            refine G_X9_165 rfl (mup_eq _ _ _) rfl dX9_isWhole_71 ?_
            refine V_if_ne (tgt := 81) dX9_isWhole_74 (by decide) (fun c74 => ?_) (fun c74 => absurd c74 (show ¬ (psV (pU t len p u) (sgP t len 59 (pE t len p))) 5 = 0 by rw [(psV_pv _ _).2, hs9]; decide))
            refine V_pc (pc2 := 81) rfl ?_
            refine V_iconst (v := 0) dX9_isWhole_81 rfl ?_
            refine V_zret (st := []) dX9_isWhole_82 rfl (by simp) ?_
            refine ⟨by rw [show okT t len = false from hF9]; rfl, _, rfl, fun k hk => (psV_o (by omega) (by omega)).trans ((pU_o t len p u (by omega)).trans (hu4 k hk)), ?_⟩
            have e7 : (rdE t 0 0 len, !okT t len) = sgP t len 59 (pE t len p) := Prod.ext (by rw [hsg]; exact hE9) (by rw [show okT t len = false from hF9, hs9]; rfl)
            rw [e7]
            exact psV_pv _ _
  refine Run.of rfl (by decide) (Nat.le_of_ble_eq_true rfl) ?_
  show V g m_X9_isWhole 0 _ [] _ _ _ _ _
  refine V_aload_n 0 dX9_isWhole_0 rfl ?_
  refine V_iconst (v := 0) dX9_isWhole_1 rfl ?_
  refine P_X9_162 rfl hM.1 (Nat.le_of_ble_eq_true rfl) rfl rfl dX9_isWhole_2 ?_
  refine V_aload_n 0 dX9_isWhole_5 rfl ?_
  refine V_iconst (v := 0) dX9_isWhole_6 rfl ?_
  refine P_X9_165 rfl (mup_eq _ _ _) (Nat.le_of_ble_eq_true rfl) rfl rfl dX9_isWhole_7 ?_
  refine V_iconst (v := 1) dX9_isWhole_10 rfl ?_
  refine V_pc (pc2 := 11) rfl ?_
  refine V_istore_n (lv2 := [(1, .int _), (0, .ref _)]) dX9_isWhole_11 (Nat.le_of_ble_eq_true rfl) rfl ?_
  refine V_lv (lv2 := [(1, .int _), (0, .ref _)]) [0, 1] rfl ?_
  rw [mup_mup]
  exact L (len + 1) 0 (upd (upd v 4 0) 5 0) (by omega) (Nat.zero_le _) ⟨(upd_ne (by decide)).trans (upd_at _ _ _), upd_at _ _ _⟩ (fun k hk => (upd_ne (by omega)).trans (upd_ne (by omega))) ⟨rfl, Nat.zero_le _, rfl, rfl⟩

theorem ML.wv {g : GE} {M : Mem} {σ sn : Nat → Int32} {hk : Bool} {n : Nat} {ps : Nat → Nat → Int32} {len : Nat} {tx : Nat → Int32} {th : Int32} (h : ML g M σ sn hk n ps len tx th) {v v2 : Nat → Int32} (hM : MD g M σ v) (v0 : v 0 = nI n) (v1 : v 1 = bI hk) (v2' : v 2 = nI len) (v3 : v 3 = th) (e : ∀ k, k < 4 → v2 k = v k) : ML g (mup M 96 (MO g v2)) σ sn hk n ps len tx th := by
  obtain ⟨_, ⟨pf, f1, f2⟩, f3, f4, a, b, f5, f6⟩ := h
  exact ⟨⟨_, hM.v _, (e 0 (by decide)).trans v0, (e 1 (by decide)).trans v1, (e 2 (by decide)).trans v2', (e 3 (by decide)).trans v3⟩, ⟨pf, (mup_ne _ _ (by decide)).trans f1, f2⟩, (mup_ne _ _ (by decide)).trans f3, (mup_ne _ _ (by decide)).trans f4, a, b, (mup_ne _ _ (by decide)).trans f5, (mup_ne _ _ (by decide)).trans f6⟩
set_option maxRecDepth 20000 in
theorem q9_firstError_ok {g : GE} {M : Mem} {sz : Nat} {σ sn : Nat → Int32} {hk : Bool} {n : Nat} {ps : Nat → Nat → Int32} {len : Nat} {tx : Nat → Int32} {th : Int32} (hL : ML g M σ sn hk n ps len tx th) {t : Nat → Nat} (hl : len ≤ 60) (ht : TX t tx len) : Run g m_X9_firstError [rf g 96] M sz 0 0 (RetP (some (.int (nI (rdE t 0 0 len)))) (fun M2 => ML g M2 (σ) (sn) (hk) (n) (ps) (len) (tx) (0) ∧ FR M M2 96 9)) := by
  obtain ⟨⟨v, hM, v0, v1, v2', v3⟩, ⟨pf, f1, f2⟩, f3, f4, f5⟩ := id hL
  refine Run.of rfl (by decide) (Nat.le_of_ble_eq_true rfl) ?_
  show V g m_X9_firstError 0 _ [] _ _ _ _ _
  refine V_aload_n 0 dX9_firstError_0 rfl ?_
  refine V_iconst (v := 0) dX9_firstError_1 rfl ?_
  refine P_X9_40 rfl hM.1 (Nat.le_of_ble_eq_true rfl) rfl rfl dX9_firstError_2 ?_
  refine V_aload_n 0 dX9_firstError_5 rfl ?_
  refine Cp_X9_201 (mup_eq _ _ _) rfl ⟨Nat.le_of_ble_eq_true rfl, Nat.le_of_ble_eq_true rfl⟩ (q9_isWhole hl ht (v := upd v 3 0) ⟨mup_eq _ _ _, (mup_ne _ _ (by decide)).trans f4, v2'⟩) rfl (Nat.le_of_ble_eq_true rfl) dX9_firstError_6 rfl (fun _ h6 => ?_)
  obtain ⟨v2, rfl, hWV⟩ := h6
  have hL3 := (hL.thr (c := 0) hM v0 v1 v2').wv (hM.v _) v0 v1 v2' (upd_at _ _ _) hWV.1
  refine V_if_eq (tgt := 19) dX9_firstError_9 (by decide) (fun c9 => ?_) (fun c9 => ?_)
  · refine V_aload_n 0 dX9_firstError_19 rfl ?_
    refine G_X9_162 rfl (mup_eq _ _ _) rfl dX9_firstError_20 ?_
    refine V_iret (st := []) dX9_firstError_23 rfl ?_
    rw [show v2 4 = nI (rdE t 0 0 len) from hWV.2.1]
    exact ⟨rfl, hL3, (((FR.refl M 96 9).put (by omega)).put (by omega))⟩
  · refine V_aload_n 0 dX9_firstError_12 rfl ?_
    refine G_X9_159 rfl (mup_eq _ _ _) rfl dX9_firstError_13 ?_
    refine V_goto (tgt := 23) dX9_firstError_16 (by decide) ?_
    refine V_iret (st := []) dX9_firstError_23 rfl ?_
    have e8 : v2 2 = nI len := (hWV.1 2 (by decide)).trans v2'
    have hF9 : okT t len = true := bI_1 c9
    have e7 : rdE t 0 0 len = len := by
      rcases rd_end (t := t) len 0 0 (by decide) with ⟨a, b, c⟩ | ⟨q, a, b, c⟩
      · unfold okT at hF9; rw [a] at hF9; cases hF9
      · rw [c, Nat.zero_add]
    rw [e8, e7]
    exact ⟨rfl, hL3, (((FR.refl M 96 9).put (by omega)).put (by omega))⟩

theorem tx_of {len : Nat} {tx : Nat → Int32} (h : ∀ k, k < len → ∃ c : Nat, 33 ≤ c ∧ c ≤ 126 ∧ tx k = nI c) : TX (fun k => (tx k).toNatClampNeg) tx len := by
  intro k hk
  obtain ⟨c, c1, c2, e⟩ := h k hk
  have e2 : (tx k).toNatClampNeg = c := by rw [e, nI_clamp (by omega)]
  show 33 ≤ (tx k).toNatClampNeg ∧ (tx k).toNatClampNeg ≤ 126 ∧ tx k = nI (tx k).toNatClampNeg
  rw [e2]
  exact ⟨c1, c2, e⟩
theorem op_firstError (g : GE) : OPD g m_X8_firstError m_X9_firstError := by
  rintro M sz ⟨th, σ, τ, sn, hk, n, ps, len, tx, hW⟩
  obtain ⟨w1, w2, ⟨i1, i2, i3, i4, i5, i6⟩, o, w4⟩ := id hW
  exact OPD.ok hW (σ2 := σ) (τ2 := τ) (sn2 := sn) (hk2 := hk) (n2 := n) (ps2 := ps) (len2 := len) (tx2 := tx) ⟨i1, i2, i3, i4, i5, i6⟩ (x_firstError_ok w1 i5 (tx_of i6)) (fun M2 sz2 h => q9_firstError_ok h i5 (tx_of i6))
