/-! texts: works, in numbers -/
def VD (t : Nat → Nat) (len p : Nat) : Prop := ∃ E, JO t len 0 (p, false) E true
theorem vd_next {t : Nat → Nat} {len p : Nat} (h : VD t len p) : PG t len p ∧ p < (pE t len p).1 ∧ (pE t len p).1 ≤ len ∧ ((pE t len p).1 = len ∨ ((pE t len p).1 < len ∧ t (pE t len p).1 = 59) ∧ VD t len ((pE t len p).1 + 1)) := by
  obtain ⟨E, j⟩ := h
  rcases pE_FN j with ⟨_, _, r3, _⟩ | ⟨st, k0, ⟨k1, k2, k3, k4⟩, k5, k6⟩
  · cases r3
  · refine ⟨k1, k5, k2, ?_⟩
    by_cases e : (pE t len p).1 = len
    · exact Or.inl e
    · have hlt : (pE t len p).1 < len := by omega
      have h59 : t (pE t len p).1 = 59 := Decidable.byContradiction fun h59 => by
        rw [show len - (pE t len p).1 = (len - (pE t len p).1 - 1) + 1 by omega, okR_n (k6 hlt h59)] at k4
        cases k4
      have j2 : JO t len st ((pE t len p).1, false) E true := ⟨rfl, k2, k3, k4⟩
      exact Or.inr ⟨⟨hlt, h59⟩, E, j2.go1 hlt (by unfold dn; rw [if_pos h59, if_pos k0])⟩
theorem vd_0 {t : Nat → Nat} {len : Nat} (h : okT t len = true) : VD t len 0 := ⟨_, rfl, Nat.zero_le _, rfl, h⟩
def VR (t : Nat → Nat) (len p : Nat) : Prop := (pK t len p = 45 ∧ pN t len p 0 < 5 ∧ pN t len p 1 < 5) ∨ (pK t len p = 98 ∧ pN t len p 0 < 5 ∧ 1 ≤ pN t len p 1 ∧ pN t len p 1 ≤ 9999) ∨ (pK t len p = 115 ∧ pN t len p 0 < 8 ∧ pN t len p 1 < 5) ∨
  (pK t len p = 116 ∧ pN t len p 0 < 5 ∧ pN t len p 1 < 5 ∧ 1 ≤ pN t len p 2 ∧ pN t len p 2 ≤ 99 ∧ 1 ≤ pN t len p 3 ∧ pN t len p 3 ≤ 99)
theorem vr_of {t : Nat → Nat} {len p : Nat} (hg : PG t len p) : VR t len p := by
  unfold VR pK
  by_cases c1 : nxN t len p = 45
  · obtain ⟨a1, a2, a3, a4, a5, a6, a7, a8, _⟩ := sh45 c1 hg
    rw [if_pos c1, (pN_45 c1).1, (pN_45 c1).2]
    exact Or.inl ⟨rfl, by omega, by omega⟩
  · by_cases c2 : nxN t len p = 98
    · obtain ⟨a1, a2, a3, a4, a5, a6, a7, a8, _⟩ := sh98 c2 hg
      rw [if_neg c1, if_pos c2, (pN_98 c2).1, (pN_98 c2).2]
      have := nmL_val (t := t) (len := len) (most := 9999) (len + 1 - (p + 3 + 1)) (t (p + 3) - 48) (p + 3 + 1) (by omega) (by omega)
      exact Or.inr (Or.inl ⟨rfl, by omega, this⟩)
    · by_cases c3 : nxN t len p = 115
      · obtain ⟨a1, a2, a3, a4, a5, a6, a7, a8, _⟩ := sh115 c3 hg
        rw [if_neg c1, if_neg c2, if_pos c3, (pN_115 c3).1, (pN_115 c3).2]
        exact Or.inr (Or.inr (Or.inl ⟨rfl, by omega, by omega⟩))
      · obtain ⟨a1, a2, a3, a4, a5, a6, a7, a8, a9, b1, b2, b3, b4, b5, _⟩ := sh116 c1 c2 c3 hg
        obtain ⟨n0, n1, n2, n3⟩ := pN_116 c1 c2 c3
        rw [if_neg c1, if_neg c2, if_neg c3, n0, n1, n2, n3]
        have h1 := nmL_val (t := t) (len := len) (most := 99) (len + 1 - (p + 4 + 1)) (t (p + 4) - 48) (p + 4 + 1) (by omega) (by omega)
        have h2 := nmL_val (t := t) (len := len) (most := 99) (len + 1 - ((nmR t len 99 (p + 4, false)).2 + 1 + 1)) (t ((nmR t len 99 (p + 4, false)).2 + 1) - 48) ((nmR t len 99 (p + 4, false)).2 + 1 + 1) (by omega) (by omega)
        exact Or.inr (Or.inr (Or.inr ⟨rfl, by omega, by omega, h1.1, h1.2, h2.1, h2.2⟩))
def wk (t : Nat → Nat) (len : Nat) : Nat → Nat → Nat → (Nat → Int32) → Nat × Int32 × (Nat → Int32)
  | 0, _, n, σ => (n, 0, σ)
  | m + 1, p, n, σ => if p < len then (if (doP σ (pK t len p) (pN t len p)).1 = 0 then wk t len m ((pE t len p).1 + 1) (n + 1) (doP σ (pK t len p) (pN t len p)).2 else (n, (doP σ (pK t len p) (pN t len p)).1, (doP σ (pK t len p) (pN t len p)).2)) else (n, 0, σ)
theorem wk_end {t : Nat → Nat} {len m p n : Nat} {σ : Nat → Int32} (h : len ≤ p) : wk t len m p n σ = (n, 0, σ) := by
  cases m with
  | zero => rfl
  | succ m => exact if_neg (by omega)
theorem wk_go {t : Nat → Nat} {len m p n : Nat} {σ : Nat → Int32} (h : p < len) (h0 : (doP σ (pK t len p) (pN t len p)).1 = 0) : wk t len (m + 1) p n σ = wk t len m ((pE t len p).1 + 1) (n + 1) (doP σ (pK t len p) (pN t len p)).2 := by
  show (if p < len then _ else _) = _
  rw [if_pos h, if_pos h0]
theorem wk_no {t : Nat → Nat} {len m p n : Nat} {σ : Nat → Int32} (h : p < len) (h0 : ¬ (doP σ (pK t len p) (pN t len p)).1 = 0) : wk t len (m + 1) p n σ = (n, (doP σ (pK t len p) (pN t len p)).1, (doP σ (pK t len p) (pN t len p)).2) := by
  show (if p < len then _ else _) = _
  rw [if_pos h, if_neg h0]
def wkS (r : Nat × Int32 × (Nat → Int32)) : Nat → Int32 := upd (upd r.2.2 63 (if r.2.1 = 0 then 0 else nI (r.1 + 1))) 64 r.2.1
theorem IS.many {σ : Nat → Int32} (h : IS σ) : ∃ m, m ≤ 8 ∧ σ 60 = nI m ∧ ∀ i, i < m → ∃ q, q < 5 ∧ σ (28 + 4 * i) = nI q := by
  obtain ⟨m, h8, hm, hb⟩ := h.2.1
  exact ⟨m, h8, hm, fun i hi => (hb i hi).1⟩
theorem barS_le (σ : Nat → Int32) (q p : Nat) (x : Int64) : ∃ w : Nat, w ≤ 3 ∧ barS σ q p x = nI w := by
  unfold barS
  split
  · exact ⟨1, by decide, rfl⟩
  · split
    · exact ⟨2, by decide, rfl⟩
    · split
      · exact ⟨3, by decide, rfl⟩
      · exact ⟨0, by decide, rfl⟩
theorem doP_IS {t : Nat → Nat} {len p : Nat} {σ : Nat → Int32} (hI : IS σ) (hr : VR t len p) : IS (doP σ (pK t len p) (pN t len p)).2 ∧ ∃ w : Nat, w ≤ 8 ∧ (doP σ (pK t len p) (pN t len p)).1 = nI w := by
  rcases hr with ⟨k, h0, h1⟩ | ⟨k, h0, h1, h2⟩ | ⟨k, h0, h1⟩ | ⟨k, h0, h1, u1, u2, d1, d2⟩
  · rw [k]; show IS (doD σ _ _).2 ∧ ∃ w : Nat, w ≤ 8 ∧ (doD σ _ _).1 = nI w
    unfold doD
    split
    · exact ⟨hI, 4, by decide, rfl⟩
    · rename_i hab
      split
      · exact ⟨hI, 6, by decide, rfl⟩
      · exact ⟨hI.put h0 h1 hab (Or.inl ⟨rfl, rfl⟩), 0, by decide, rfl⟩
  · rw [k]; show IS (doB σ _ _).2 ∧ ∃ w : Nat, w ≤ 8 ∧ (doB σ _ _).1 = nI w
    unfold doB
    split
    · exact ⟨hI, 8, by decide, rfl⟩
    · rename_i h8
      obtain ⟨m, hm8, hm, _⟩ := hI.many
      have hlt : m < 8 := Nat.lt_of_le_of_ne hm8 (fun e => h8 (by rw [hm, e]; rfl))
      refine ⟨?_, 0, by decide, rfl⟩
      show IS (comeS σ (σ 60).toNatClampNeg _ _)
      rw [hm, nI_clamp (by omega)]
      exact hI.come hm hlt h0 (fun e => by have := (nI_ltI (b := 1) (by omega) (by decide)).mp e; omega) ((nI_leI (b := 99999) (by omega) (by decide)).mpr (by omega))
  · rw [k]; show IS (doS σ _ _).2 ∧ ∃ w : Nat, w ≤ 8 ∧ (doS σ _ _).1 = nI w
    unfold doS
    obtain ⟨m, hm8, hm, hq⟩ := hI.many
    rw [hm, nI_clamp (by omega)]
    split
    · rename_i hlt
      obtain ⟨q, hq5, eq⟩ := hq _ hlt
      have ebo := boR_eq eq hq5
      split
      · rename_i hb
        refine ⟨?_, 0, by decide, rfl⟩
        unfold baR at hb
        show IS (sendS σ _ (boR σ _) _)
        rw [ebo] at hb ⊢
        exact hI.send hm hlt hm8 hq5 h1 eq hb
      · obtain ⟨w, w3, e⟩ := barS_le σ (boR σ (pN t len p 0)) (pN t len p 1) (σ (28 + 4 * pN t len p 0 + 1)).toInt64
        exact ⟨hI, w, by omega, e⟩
    · exact ⟨hI, 7, by decide, rfl⟩
  · rw [k]; show IS (doTb σ _ _ _ _).2 ∧ ∃ w : Nat, w ≤ 8 ∧ (doTb σ _ _ _ _).1 = nI w
    unfold doTb
    split
    · exact ⟨hI, 4, by decide, rfl⟩
    · rename_i hab
      split
      · exact ⟨hI, 5, by decide, rfl⟩
      · exact ⟨hI.put h0 h1 hab (UDn u1 u2 d1 d2), 0, by decide, rfl⟩
theorem IS.fin {r : Nat × Int32 × (Nat → Int32)} (h : IS r.2.2) (hn : r.1 ≤ 61) (hw : ∃ w : Nat, w ≤ 8 ∧ r.2.1 = nI w) : IS (wkS r) := by
  obtain ⟨w, w8, ew⟩ := hw
  obtain ⟨h1, ⟨m, hm, hm2, h2⟩, h3, h4, h5, h6, _⟩ := h
  have e : ∀ k, k < 63 → wkS r k = r.2.2 k := fun k hk => by unfold wkS; rw [upd_ne (by omega), upd_ne (by omega)]
  refine ⟨fun k hk => by rw [e _ (by omega), e _ (by omega)]; exact h1 k hk, ⟨m, hm, by rw [e _ (by omega)]; exact hm2, fun i hi => by rw [e _ (by omega), e _ (by omega)]; exact h2 i hi⟩, fun i hi => by rw [e _ (by omega)]; exact h3 i hi, by rw [e _ (by omega)]; exact h4, by rw [e _ (by omega)]; exact h5, by rw [e _ (by omega)]; exact h6, ?_⟩
  have e63 : wkS r 63 = if r.2.1 = 0 then 0 else nI (r.1 + 1) := by unfold wkS; rw [upd_ne (by decide), upd_at]
  have e64 : wkS r 64 = r.2.1 := by unfold wkS; rw [upd_at]
  rw [e63, e64]
  by_cases h0 : r.2.1 = 0
  · rw [if_pos h0]; exact Or.inl ⟨rfl, h0⟩
  · rw [if_neg h0]
    refine Or.inr ⟨r.1, w, by omega, ?_, w8, rfl, ew⟩
    refine Nat.pos_of_ne_zero fun e0 => h0 ?_
    rw [ew, e0]; rfl
