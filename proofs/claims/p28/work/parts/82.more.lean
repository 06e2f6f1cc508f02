/-! more of what was shown of the class (whole's rows) -/
theorem wk_facts {t : Nat → Nat} {len : Nat} (hl : len ≤ 60) : ∀ m p n (σ : Nat → Int32), IS σ → n ≤ p → p ≤ len + 1 → (p < len → VD t len p) → IS (wk t len m p n σ).2.2 ∧ (wk t len m p n σ).1 ≤ 61 ∧ ∃ w : Nat, w ≤ 8 ∧ (wk t len m p n σ).2.1 = nI w := by
  intro m
  induction m with
  | zero => intro p n σ h1 h2 h3 h4; exact ⟨h1, by show n ≤ 61; omega, 0, by decide, rfl⟩
  | succ m ih =>
    intro p n σ h1 h2 h3 h4
    by_cases hp : p < len
    · have hv := vd_next (h4 hp)
      obtain ⟨d1, d2⟩ := doP_IS h1 (vr_of hv.1)
      by_cases h0 : (doP σ (pK t len p) (pN t len p)).1 = 0
      · rw [wk_go hp h0]
        refine ih _ _ _ d1 (by omega) (by omega) (fun hq => ?_)
        rcases hv.2.2.2 with e | ⟨_, e⟩
        · omega
        · exact e
      · rw [wk_no hp h0]; exact ⟨d1, by show n ≤ 61; omega, d2⟩
    · rw [wk_end (by omega)]; exact ⟨h1, by show n ≤ 61; omega, 0, by decide, rfl⟩
theorem isB_ex {σ : Nat → Int32} {w : Int32} {m : Nat} (hm : σ 60 = nI m) (hm8 : m ≤ 8) (h : isB σ w = true) : ∃ i, i < m ∧ w = nI i := by
  unfold isB at h
  rw [hm, Bool.and_eq_true, decide_eq_true_eq, decide_eq_true_eq] at h
  obtain ⟨i, hi, e⟩ := nI_of (x := w) (Int32.not_lt.mpr h.1)
  subst e
  exact ⟨i, (nI_ltI hi (by omega)).mp h.2, rfl⟩
theorem tx_of {len : Nat} {tx : Nat → Int32} (h : ∀ k, k < len → ∃ c : Nat, 33 ≤ c ∧ c ≤ 126 ∧ tx k = nI c) : TX (fun k => (tx k).toNatClampNeg) tx len := by
  intro k hk
  obtain ⟨c, c1, c2, e⟩ := h k hk
  have e2 : (tx k).toNatClampNeg = c := by rw [e, nI_clamp (by omega)]
  show 33 ≤ (tx k).toNatClampNeg ∧ (tx k).toNatClampNeg ≤ 126 ∧ tx k = nI (tx k).toNatClampNeg
  rw [e2]
  exact ⟨c1, c2, e⟩
theorem pshN_le {n : Nat} (h : n ≤ 6) : pshN n ≤ 6 := by unfold pshN; split <;> omega
theorem V.less {g : GE} {mt : MT} {pc : Nat} {lv : List (Nat × Value)} {st : List Value} {M : Mem} {sz kc ks kc2 ks2 : Nat} {Q : Ou → Mem → Prop} (h : V g mt pc lv st M sz kc ks Q) (h1 : kc ≤ kc2) (h2 : ks ≤ ks2) : V g mt pc lv st M sz kc2 ks2 Q := by
  intro p e R s m args below meth c H locs cells slots mc ms ls a1 a2 a3 a4 a5 a6 a7 a8 a9
  exact h p e R s m args below meth c H locs cells slots mc ms ls a1 a2 a3 a4 a5 (by omega) (by omega) a8 a9
theorem fnd_cong {P P2 : Nat → Bool} : ∀ {m i : Nat}, (∀ k, i ≤ k → k < i + m → P k = P2 k) → fnd P i m = fnd P2 i m
  | 0, i, h => rfl
  | m + 1, i, h => by
    have h0 := h i (Nat.le_refl _) (by omega)
    have ih := fnd_cong (m := m) (i := i + 1) (fun k h1 h2 => h k (by omega) (by omega))
    cases hp : P2 i with
    | true => rw [fnd_t hp, fnd_t (h0.trans hp)]
    | false => rw [fnd_f hp, fnd_f (h0.trans hp), ih]
theorem V.szle {g : GE} {mt : MT} {pc : Nat} {lv : List (Nat × Value)} {st : List Value} {M : Mem} {sz sz2 kc ks : Nat} {Q : Ou → Mem → Prop} (h : V g mt pc lv st M sz2 kc ks Q) (h1 : sz ≤ sz2) : V g mt pc lv st M sz kc ks Q := by
  intro p e R s m args below meth c H locs cells slots mc ms ls a1 a2 a3 a4 a5 a6 a7 a8 a9
  exact h p e R s m args below meth c H locs cells slots mc ms ls a1 a2 a3 a4 (by omega) a6 a7 a8 a9
theorem GS.neg {s : ST} (h : GS s) {k : Nat} (hk : k < 5) : ¬ 0 < s.1 k ↔ s.1 k = 0 := by
  obtain ⟨x, e, hx⟩ := h.2 k hk
  have h9 : x < 2 ^ 63 := Nat.lt_of_le_of_lt hx (Nat.lt_of_le_of_lt (Nat.pow_le_pow_right (by decide) (Nat.sub_le 5 _)) (by decide))
  rw [e, show (0 : Int64) = lN 0 from rfl, pk_lLT (by decide) h9, pk_lEQ h9 (by decide)]
  omega
theorem updL_at (f : Nat → Int64) (k : Nat) (x : Int64) : updL f k x k = x := if_pos rfl
theorem updL_ne {f : Nat → Int64} {k j : Nat} {x : Int64} (h : j ≠ k) : updL f k x j = f j := if_neg h
theorem gs_stp {σ : Nat → Int32} (hI : I10 σ) {s : ST} (h : GS s) {k : Nat} (hk : k < 25) : GS (stp σ k s) ∧ (stp σ k s = s ∨ zc (stp σ k s) < zc s) := by
  unfold stp
  by_cases hg : goes σ k s = true
  · rw [if_pos hg]
    have ha : k / 5 < 5 := by omega
    have hb : k % 5 < 5 := by omega
    obtain ⟨g1, g2, g3⟩ := goes_t.mp hg
    obtain ⟨x, e1, e2⟩ := h.2 _ ha
    obtain ⟨u, u1, u2, e3⟩ := upS_nat hI ha hb g3
    have hz5 := h.1
    have hx9 : x < 2 ^ 63 := Nat.lt_of_le_of_lt e2 (Nat.lt_of_le_of_lt (Nat.pow_le_pow_right (by decide) (Nat.sub_le 5 _)) (by decide))
    have hx1 : 1 ≤ x := by
      rw [e1, show (0 : Int64) = lN 0 from rfl, pk_lLT (by decide) hx9] at g1
      exact g1
    have r := h.set (t := nxt σ k s) hb ((h.neg hb).mp g2) (x := x * u) (by show updL _ _ _ _ = _; rw [updL_at, e1, e3, nI_64 (by omega), lN_mulN]) (Nat.mul_pos hx1 u1) (by rw [Nat.pow_succ]; exact Nat.mul_le_mul e2 u2) (fun j hj => updL_ne hj)
    exact ⟨r.1, Or.inr (by omega)⟩
  · rw [if_neg hg]
    exact ⟨h, Or.inl rfl⟩
theorem gs_rnd {σ : Nat → Int32} (hI : I10 σ) {s : ST} (h : GS s) : ∀ k, k ≤ 25 → GS (rnd σ k s) ∧ (rnd σ k s = s ∨ zc (rnd σ k s) < zc s) := by
  intro k
  induction k with
  | zero => intro _; exact ⟨h, Or.inl rfl⟩
  | succ k ih =>
    intro hk
    obtain ⟨i1, i2⟩ := ih (by omega)
    obtain ⟨j1, j2⟩ := gs_stp hI i1 (k := k) (by omega)
    refine ⟨j1, ?_⟩
    show stp σ k (rnd σ k s) = s ∨ zc (stp σ k (rnd σ k s)) < zc s
    rcases j2 with j2 | j2
    · rw [j2]; exact i2
    · rcases i2 with i2 | i2
      · rw [i2] at j2 ⊢; exact Or.inr j2
      · exact Or.inr (by omega)
theorem gs_rep {σ : Nat → Int32} (hI : I10 σ) {s : ST} (h : GS s) : ∀ n, GS (rep σ n s)
  | 0 => h
  | n + 1 => (gs_rnd hI (gs_rep hI h n) 25 (Nat.le_refl _)).1
theorem gs_one {s : ST} (h : GS s) {p : Nat} (hp : p < 5) (h0 : ¬ 0 < s.1 p) : GS (one s p) ∧ zc (one s p) ≤ 4 := by
  have r := h.set (t := one s p) hp ((h.neg hp).mp h0) (x := 1) (by show updL _ _ _ _ = _; rw [updL_at]; rfl) (Nat.le_refl _) (show 99 ^ 0 ≤ _ from Nat.pow_le_pow_right (by decide) (Nat.zero_le _)) (fun j hj => updL_ne hj)
  have := h.1
  exact ⟨r.1, by omega⟩
theorem gs_mea {σ : Nat → Int32} (hI : I10 σ) : ∀ p, p ≤ 5 → GS (meaS σ p) := by
  intro p
  induction p with
  | zero => intro _; exact ⟨cnt_le _ 5, fun k _ => ⟨0, rfl, Nat.zero_le _⟩⟩
  | succ p ih =>
    intro hp
    have i := ih (by omega)
    unfold meaS
    split
    · exact i
    · rename_i h; exact gs_rep hI (gs_one i (by omega) h).1 4
theorem σ0_z : ∀ k, k < 20 → σ0 k = 0 := by
  intro k hk
  unfold σ0
  rw [if_neg (by omega), if_neg (by omega)]
theorem IS_0 : IS σ0 := by
  refine ⟨fun k hk => Or.inl ⟨σ0_z k (by omega), σ0_z (10 + k) (by omega)⟩, ⟨0, by decide, rfl, fun i hi => absurd hi (Nat.not_lt_zero i)⟩, fun i hi => ⟨36, by decide, by decide, ?_⟩, ⟨0, by decide, rfl⟩, ⟨0, by decide, rfl⟩, ⟨4, by decide, by decide, rfl⟩, Or.inl ⟨rfl, rfl⟩⟩
  unfold σ0
  rw [if_pos (by omega)]
  rfl
theorem isP_ex {p : Int32} (h : isP p = true) : ∃ i, i < 5 ∧ p = nI i := by
  simp only [isP, Bool.and_eq_true, decide_eq_true_eq] at h
  obtain ⟨i, hi, e⟩ := nI_of (x := p) (Int32.not_lt.mpr h.1)
  subst e
  exact ⟨i, by have := (nI_ltI hi (show 5 < 2 ^ 31 by decide)).mp h.2; omega, rfl⟩
theorem gs_nxt {σ : Nat → Int32} (hI : I10 σ) {s : ST} (h : GS s) {k : Nat} (hk : k < 25) (hg : 0 < s.1 (k / 5) ∧ ¬ 0 < s.1 (k % 5) ∧ hasS σ (k / 5) (k % 5) = true) : zc (nxt σ k s) < zc s := by
  have ha : k / 5 < 5 := by omega
  have hb : k % 5 < 5 := by omega
  obtain ⟨g1, g2, g3⟩ := hg
  obtain ⟨x, e1, e2⟩ := h.2 _ ha
  obtain ⟨u, u1, u2, e3⟩ := upS_nat hI ha hb g3
  have hx9 : x < 2 ^ 63 := Nat.lt_of_le_of_lt e2 (Nat.lt_of_le_of_lt (Nat.pow_le_pow_right (by decide) (Nat.sub_le 5 _)) (by decide))
  have hx1 : 1 ≤ x := by
    rw [e1, show (0 : Int64) = lN 0 from rfl, pk_lLT (by decide) hx9] at g1
    exact g1
  have r := h.set (t := nxt σ k s) hb ((h.neg hb).mp g2) (x := x * u) (by show updL _ _ _ _ = _; rw [updL_at, e1, e3, nI_64 (by omega), lN_mulN]) (Nat.mul_pos hx1 u1) (by rw [Nat.pow_succ]; exact Nat.mul_le_mul e2 u2) (fun j hj => updL_ne hj)
  omega
