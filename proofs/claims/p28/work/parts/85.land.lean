/-! a land of the law's: what it holds, and what its calls keep -/
abbrev LndS : Type := (Nat → Int32) × (Nat → Int32) × Bool × Nat × (Nat → Nat → Int32)
def CS (g : GE) (M : Mem) (S : LndS) (len : Nat) (tx : Nat → Int32) : Prop := CW g M S.1 S.2.1 S.2.2.1 S.2.2.2.1 S.2.2.2.2 len tx
/-- the bolts' sendings: at most T; of a bolt that was never sent, nothing is gained -/
def BJ (T : Nat) (σ : Nat → Int32) : Prop := ∃ n : Nat, n ≤ 8 ∧ σ 60 = nI n ∧ ∀ i, i < n → ∃ s : Nat, s ≤ T ∧ σ (28 + 4 * i + 3) = nI s ∧ (s = 0 → σ (28 + 4 * i + 2) = 0)
theorem BJ.mono {T T2 : Nat} {σ : Nat → Int32} (h : BJ T σ) (e : T ≤ T2) : BJ T2 σ := by
  obtain ⟨n, h1, h2, h3⟩ := h
  refine ⟨n, h1, h2, fun i hi => ?_⟩
  obtain ⟨s, a, b, c⟩ := h3 i hi
  exact ⟨s, by omega, b, c⟩
theorem BJ.ext {T : Nat} {σ τ : Nat → Int32} (h : BJ T σ) (e : ∀ k, 28 ≤ k → k < 61 → τ k = σ k) : BJ T τ := by
  obtain ⟨n, h1, h2, h3⟩ := h
  refine ⟨n, h1, (e 60 (by omega) (by omega)).trans h2, fun i hi => ?_⟩
  obtain ⟨s, a, b, c⟩ := h3 i hi
  exact ⟨s, a, (e _ (by omega) (by omega)).trans b, fun hs => (e _ (by omega) (by omega)).trans (c hs)⟩
theorem BJ.come {T : Nat} {σ : Nat → Int32} (h : BJ T σ) {m : Nat} (hm : σ 60 = nI m) (hm8 : m < 8) (p l : Int32) : BJ T (comeS σ m p l) := by
  obtain ⟨n, h1, h2, h3⟩ := h
  have hn : n = m := (nI_eq (by omega) (by omega)).mp (h2.symm.trans hm)
  subst hn
  refine ⟨n + 1, by omega, by unfold comeS; rw [upd_at], fun i hi => ?_⟩
  unfold comeS
  by_cases c : i = n
  · subst c
    exact ⟨0, Nat.zero_le _, by rw [upd_ne (by omega), upd_at]; rfl, fun _ => by rw [upd_ne (by omega), upd_ne (by omega), upd_at]⟩
  · obtain ⟨s, a, b, e⟩ := h3 i (by omega)
    exact ⟨s, a, by rw [upd_ne (by omega), upd_ne (by omega), upd_ne (by omega), upd_ne (by omega), upd_ne (by omega)]; exact b, fun hs => by rw [upd_ne (by omega), upd_ne (by omega), upd_ne (by omega), upd_ne (by omega), upd_ne (by omega)]; exact e hs⟩
theorem BJ.go {T : Nat} {σ : Nat → Int32} (h : BJ T σ) {i m : Nat} (hm : σ 60 = nI m) (hi : i < m) (hm8 : m ≤ 8) : BJ T (goS σ i m) := by
  obtain ⟨n, h1, h2, h3⟩ := h
  have hn : n = m := (nI_eq (by omega) (by omega)).mp (h2.symm.trans hm)
  subst hn
  refine ⟨n - 1, by omega, goS_60 _ _ _, fun j hj => ?_⟩
  by_cases c : i ≤ j
  · obtain ⟨s, a, b, e⟩ := h3 (j + 1) (by omega)
    refine ⟨s, a, ?_, fun hs => ?_⟩
    · unfold goS
      rw [upd_ne (by omega), upd_ne (by omega), if_pos (by omega)]
      exact b
    · unfold goS
      rw [upd_ne (by omega), upd_ne (by omega), if_pos (by omega)]
      exact e hs
  · obtain ⟨s, a, b, e⟩ := h3 j (by omega)
    refine ⟨s, a, ?_, fun hs => ?_⟩
    · unfold goS
      rw [upd_ne (by omega), upd_ne (by omega), if_neg (by omega)]
      exact b
    · unfold goS
      rw [upd_ne (by omega), upd_ne (by omega), if_neg (by omega)]
      exact e hs
theorem BJ.send {T : Nat} {σ : Nat → Int32} (h : BJ T σ) {i q p m : Nat} (hm : σ 60 = nI m) (hi : i < m) (hm8 : m ≤ 8) : BJ (T + 1) (sendS σ i q p) := by
  obtain ⟨n, h1, h2, h3⟩ := h
  have hn : n = m := (nI_eq (by omega) (by omega)).mp (h2.symm.trans hm)
  subst hn
  refine ⟨n, h1, ?_, fun j hj => ?_⟩
  · unfold sendS
    rw [upd_ne (by omega), upd_ne (by omega), upd_ne (by omega), upd_ne (by omega), upd_ne (by omega)]
    exact h2
  · obtain ⟨s, a, b, e⟩ := h3 j hj
    unfold sendS
    by_cases c : j = i
    · subst c
      exact ⟨s + 1, by omega, by rw [upd_ne (by omega), upd_at, b, nI_1], fun h0 => absurd h0 (by omega)⟩
    · exact ⟨s, by omega, by rw [upd_ne (by omega), upd_ne (by omega), upd_ne (by omega), upd_ne (by omega), upd_ne (by omega)]; exact b, fun hs => by rw [upd_ne (by omega), upd_ne (by omega), upd_ne (by omega), upd_ne (by omega), upd_ne (by omega)]; exact e hs⟩
theorem doP_BJ {t : Nat → Nat} {len p T : Nat} {σ : Nat → Int32} (h : BJ T σ) (hI : IS σ) (hr : VR t len p) : BJ (T + 1) (doP σ (pK t len p) (pN t len p)).2 := by
  have h' := h.mono (Nat.le_succ T)
  rcases hr with ⟨k, h0, h1⟩ | ⟨k, h0, h1, h2⟩ | ⟨k, h0, h1⟩ | ⟨k, h0, h1, u1, u2, d1, d2⟩
  · rw [k]; show BJ (T + 1) (doD σ _ _).2
    unfold doD
    split
    · exact h'
    · rename_i hab
      split
      · exact h'
      · exact h'.ext (fun k hk _ => putS_big h0 h1 hab (by omega))
  · rw [k]; show BJ (T + 1) (doB σ _ _).2
    unfold doB
    split
    · exact h'
    · rename_i h8
      obtain ⟨m, hm8, hm, _⟩ := hI.many
      have hlt : m < 8 := Nat.lt_of_le_of_ne hm8 (fun e => h8 (by rw [hm, e]; rfl))
      show BJ (T + 1) (comeS σ (σ 60).toNatClampNeg _ _)
      rw [hm, nI_clamp (by omega)]
      exact h'.come hm hlt _ _
  · rw [k]; show BJ (T + 1) (doS σ _ _).2
    unfold doS
    obtain ⟨m, hm8, hm, hq⟩ := hI.many
    rw [hm, nI_clamp (by omega)]
    split
    · rename_i hlt
      split
      · exact h.send hm hlt hm8
      · exact h'
    · exact h'
  · rw [k]; show BJ (T + 1) (doTb σ _ _ _ _).2
    unfold doTb
    split
    · exact h'
    · rename_i hab
      split
      · exact h'
      · exact h'.ext (fun k hk _ => putS_big h0 h1 hab (by omega))
theorem wk_BJ {t : Nat → Nat} {len : Nat} : ∀ m p n T (σ : Nat → Int32), BJ T σ → IS σ → p ≤ len + 1 → (p < len → VD t len p) → BJ (T + m) (wk t len m p n σ).2.2 := by
  intro m
  induction m with
  | zero => intro p n T σ h h1 h3 h4; exact h
  | succ m ih =>
    intro p n T σ h h1 h3 h4
    by_cases hp : p < len
    · have hv := vd_next (h4 hp)
      obtain ⟨d1, d2⟩ := doP_IS h1 (vr_of hv.1)
      have d3 := doP_BJ h h1 (vr_of hv.1)
      by_cases h0 : (doP σ (pK t len p) (pN t len p)).1 = 0
      · rw [wk_go hp h0, show T + (m + 1) = T + 1 + m by omega]
        refine ih _ _ _ _ d3 d1 (by omega) (fun hq => ?_)
        rcases hv.2.2.2 with e | ⟨_, e⟩
        · omega
        · exact e
      · rw [wk_no hp h0]; exact d3.mono (by omega)
    · rw [wk_end (by omega)]; exact h.mono (by omega)
def JS (T : Nat) (σ : Nat → Int32) : Prop := IS σ ∧ BJ T σ
theorem JS.mono {T T2 : Nat} {σ : Nat → Int32} (h : JS T σ) (e : T ≤ T2) : JS T2 σ := ⟨h.1, h.2.mono e⟩
def LOK (T : Nat) (S : LndS) : Prop := JS T S.1 ∧ (S.2.2.1 = true → JS T S.2.1) ∧ S.2.2.2.1 ≤ 6 ∧ ∀ i, i < S.2.2.2.1 → JS T (S.2.2.2.2 i)
theorem JS.psh {T n : Nat} {ps : Nat → Nat → Int32} {σ : Nat → Int32} (hn : n ≤ 6) (hp : ∀ i, i < n → JS T (ps i)) (hs : JS T σ) : ∀ i, i < pshN n → JS T (pshP n ps σ i) := by
  intro i hi
  unfold pshN at hi
  unfold pshP
  by_cases h6 : n = 6
  · rw [if_pos h6] at hi ⊢
    rw [if_pos h6]
    by_cases e : i = 5
    · rw [if_pos e]; exact hs
    · rw [if_neg e]; unfold rotP; rw [if_pos (by omega)]; exact hp _ (by omega)
  · rw [if_neg h6] at hi ⊢
    rw [if_neg h6]
    by_cases e : i = n
    · rw [if_pos e]; exact hs
    · rw [if_neg e]; exact hp _ (by omega)
theorem LOK.mono {T T2 : Nat} {S : LndS} (h : LOK T S) (e : T ≤ T2) : LOK T2 S := ⟨h.1.mono e, fun k => (h.2.1 k).mono e, h.2.2.1, fun i hi => (h.2.2.2 i hi).mono e⟩
/-- a state is saved, another is there now -/
theorem LOK.psh {T : Nat} {σ τ : Nat → Int32} {hk : Bool} {n : Nat} {ps : Nat → Nat → Int32} (h : LOK T (σ, τ, hk, n, ps)) {T2 : Nat} {σ2 : Nat → Int32} (e : T ≤ T2) (h2 : JS T2 σ2) : LOK T2 (σ2, τ, hk, pshN n, pshP n ps σ) :=
  ⟨h2, fun k => (h.2.1 k).mono e, pshN_le h.2.2.1, JS.psh h.2.2.1 (fun i hi => (h.2.2.2 i hi).mono e) (h.1.mono e)⟩
/-- a call of the law's: from a land S, its buffer left as it is -/
def OPX (T : Nat) (y : MT) (As : List Value) (S : LndS) : Prop := ∃ (r : Int32) (S2 : LndS) (c : Nat), c ≤ 1 ∧ LOK T S2 ∧ ∀ (g : GE) (M : Mem) (sz len : Nat) (tx : Nat → Int32), CS g M S len tx → Run g y (rf g 0 :: As) M sz c (6 * c) (RetP (some (.int r)) (fun M2 => CS g M2 S2 len tx ∧ FR M M2 0 96))
section
variable {T : Nat} {y : MT} {As : List Value} {r : Int32} {σ τ : Nat → Int32} {hk : Bool} {n : Nat} {ps : Nat → Nat → Int32} {σ2 τ2 : Nat → Int32} {hk2 : Bool} {n2 : Nat} {ps2 : Nat → Nat → Int32}
theorem OPX.bad (h : LOK T (σ, τ, hk, n, ps)) (k : ∀ (g : GE) (M : Mem) (sz len : Nat) (tx : Nat → Int32), CW g M σ τ hk n ps len tx → Run g y (rf g 0 :: As) M sz 1 6 (RetP (some (.int r)) (fun M2 => M2 = M))) : OPX T y As (σ, τ, hk, n, ps) :=
  ⟨r, _, 1, Nat.le_refl _, h, fun g M sz len tx w => (k g M sz len tx w).mono fun o M2 q => ⟨q.1, by rw [q.2]; exact ⟨w, FR.refl M 0 96⟩⟩⟩
theorem OPX.bad2 (h : LOK T (σ, τ, hk, n, ps)) (k : ∀ (g : GE) (M : Mem) (sz len : Nat) (tx : Nat → Int32), CW g M σ τ hk n ps len tx → Run g y (rf g 0 :: As) M sz 1 6 (RetP (some (.int r)) (fun M2 => CW g M2 σ τ hk n ps len tx ∧ FR M M2 0 96))) : OPX T y As (σ, τ, hk, n, ps) :=
  ⟨r, _, 1, Nat.le_refl _, h, fun g M sz len tx w => k g M sz len tx w⟩
theorem OPX.ok (h : LOK T (σ2, τ2, hk2, n2, ps2)) (k : ∀ (g : GE) (M : Mem) (sz len : Nat) (tx : Nat → Int32), CW g M σ τ hk n ps len tx → Run g y (rf g 0 :: As) M sz 0 0 (RetP (some (.int r)) (fun M2 => CW g M2 σ2 τ2 hk2 n2 ps2 len tx ∧ FR M M2 0 96))) : OPX T y As (σ, τ, hk, n, ps) :=
  ⟨r, _, 0, Nat.zero_le _, h, fun g M sz len tx w => k g M sz len tx w⟩
end
theorem not_t {b : Bool} (h : ¬ b = true) : b = false := (Bool.not_eq_true _).mp h
theorem ox_stick {T : Nat} {S : LndS} (h : LOK T S) (a b : Int32) : OPX (T + 1) m_L_stick [.int a, .int b] S := by
  obtain ⟨σ, τ, hk, n, ps⟩ := S
  have h' := h.mono (Nat.le_succ T)
  have i1 : IS σ := h.1.1
  have i2 : BJ T σ := h.1.2
  have i3 : n ≤ 6 := h.2.2.1
  by_cases ha : isP a = true
  · by_cases hb : b < 20 ∨ ¬ b ≤ 60
    · exact OPX.bad h' (fun g M sz len tx w => h_stick_x1 w.1 (x_stick_2 w ha hb))
    · obtain ⟨i, hi, rfl⟩ := isP_ex ha
      have hb1 : ¬ b < 20 := fun h => hb (Or.inl h)
      have hb2 : b ≤ 60 := Decidable.of_not_not (fun h => hb (Or.inr h))
      exact OPX.ok (h.psh (Nat.le_succ T) ⟨i1.stick hi hb1 hb2, (i2.mono (Nat.le_succ T)).ext (fun k _ _ => upd_ne (by omega))⟩) (fun g M sz len tx w => h_stick_ok w.1 (x_stick_ok w i3 i hi rfl hb1 hb2))
  · exact OPX.bad h' (fun g M sz len tx w => h_stick_x0 w.1 (x_stick_1 w (not_t ha)))
theorem ox_set {T : Nat} {S : LndS} (h : LOK T S) (a b : Int32) : OPX (T + 1) m_L_set [.int a, .int b] S := by
  obtain ⟨σ, τ, hk, n, ps⟩ := S
  have h' := h.mono (Nat.le_succ T)
  have i1 : IS σ := h.1.1
  have i2 : BJ T σ := h.1.2
  have i3 : n ≤ 6 := h.2.2.1
  by_cases ha : a < 0 ∨ ¬ a ≤ 2
  · exact OPX.bad h' (fun g M sz len tx w => h_set_x0 w.1 (x_set_1 w ha))
  · have ha1 : ¬ a < 0 := fun h => ha (Or.inl h)
    have ha2 : a ≤ 2 := Decidable.of_not_not (fun h => ha (Or.inr h))
    obtain ⟨i, hi0, hi, rfl⟩ := nI_rng (l := 0) (h := 2) ha1 ha2 (by decide) (by decide)
    by_cases hb : b < seLo (nI i) ∨ ¬ b ≤ seHi (nI i)
    · exact OPX.bad h' (fun g M sz len tx w => h_set_x1 w.1 (x_set_2 w ha1 ha2 hb))
    · have hb1 : ¬ b < seLo (nI i) := fun h => hb (Or.inl h)
      have hb2 : b ≤ seHi (nI i) := Decidable.of_not_not (fun h => hb (Or.inr h))
      exact OPX.ok (h.psh (Nat.le_succ T) ⟨i1.set (by omega) hb1 hb2, (i2.mono (Nat.le_succ T)).ext (fun k _ _ => upd_ne (by omega))⟩) (fun g M sz len tx w => h_set_ok w.1 (x_set_ok w i3 i (by omega) rfl hb1 hb2))
theorem ox_drop {T : Nat} {S : LndS} (h : LOK T S) (a b : Int32) : OPX (T + 1) m_L_drop [.int a, .int b] S := by
  obtain ⟨σ, τ, hk, n, ps⟩ := S
  have h' := h.mono (Nat.le_succ T)
  have i1 : IS σ := h.1.1
  have i2 : BJ T σ := h.1.2
  have i3 : n ≤ 6 := h.2.2.1
  by_cases ha : isP a = true
  · by_cases hb : isP b = true
    · obtain ⟨i, hi, rfl⟩ := isP_ex ha
      obtain ⟨j, hj, rfl⟩ := isP_ex hb
      cases hh : hasS σ i j with
      | false => exact OPX.bad h' (fun g M sz len tx w => h_drop_x2 w.1 (x_drop_2 w i1.1 i j hi hj rfl rfl hh))
      | true => exact OPX.ok (h.psh (Nat.le_succ T) ⟨i1.put hi hj (hasNe hh) (Or.inl ⟨rfl, rfl⟩), (i2.mono (Nat.le_succ T)).ext (fun k _ _ => putS_big hi hj (hasNe hh) (by omega))⟩) (fun g M sz len tx w => h_drop_ok w.1 (x_drop_ok w i3 i1.1 i j hi hj rfl rfl hh))
    · exact OPX.bad h' (fun g M sz len tx w => h_drop_x0 w.1 (x_drop_1b w ha (not_t hb)))
  · exact OPX.bad h' (fun g M sz len tx w => h_drop_x0 w.1 (x_drop_1a w (not_t ha)))
theorem ox_table {T : Nat} {S : LndS} (h : LOK T S) (a b u d : Int32) : OPX (T + 1) m_L_table [.int a, .int b, .int u, .int d] S := by
  obtain ⟨σ, τ, hk, n, ps⟩ := S
  have h' := h.mono (Nat.le_succ T)
  have i1 : IS σ := h.1.1
  have i2 : BJ T σ := h.1.2
  have i3 : n ≤ 6 := h.2.2.1
  by_cases hP : isP a = true ∧ isP b = true
  · obtain ⟨ha, hb⟩ := hP
    by_cases hab : a = b
    · exact OPX.bad h' (fun g M sz len tx w => h_table_x1 w.1 (x_table_2a w ha hb hab))
    · by_cases hu : u < 1 ∨ ¬ u ≤ 99
      · exact OPX.bad h' (fun g M sz len tx w => h_table_x1 w.1 (x_table_2b w ha hb hab hu))
      · have hu1 : ¬ u < 1 := fun h => hu (Or.inl h)
        have hu2 : u ≤ 99 := Decidable.of_not_not (fun h => hu (Or.inr h))
        by_cases hd : d < 1 ∨ ¬ d ≤ 99
        · exact OPX.bad h' (fun g M sz len tx w => h_table_x1 w.1 (x_table_2c w ha hb hab hu1 hu2 hd))
        · have hd1 : ¬ d < 1 := fun h => hd (Or.inl h)
          have hd2 : d ≤ 99 := Decidable.of_not_not (fun h => hd (Or.inr h))
          obtain ⟨i, hi, rfl⟩ := isP_ex ha
          obtain ⟨j, hj, rfl⟩ := isP_ex hb
          have hij : i ≠ j := fun e => hab (by rw [e])
          by_cases ho : (fnd (wouS (putS σ i j u d) i j) 0 37) = none
          · exact OPX.ok (h.psh (Nat.le_succ T) ⟨i1.put hi hj hij (UD_of hu1 hu2 hd1 hd2), (i2.mono (Nat.le_succ T)).ext (fun k _ _ => putS_big hi hj hij (by omega))⟩) (fun g M sz len tx w => h_table_ok w.1 (x_table_ok w i3 i1.1 i j hi hj rfl rfl hij hu1 hu2 hd1 hd2 ho))
          · exact OPX.bad2 h' (fun g M sz len tx w => h_table_x2 w.1 (x_table_3 w i1.1 i j hi hj rfl rfl hij hu1 hu2 hd1 hd2 ho))
  · have hh : isP a = false ∨ isP b = false := by
      by_cases ha : isP a = true
      · exact Or.inr (not_t fun hb => hP ⟨ha, hb⟩)
      · exact Or.inl (not_t ha)
    exact OPX.bad h' (fun g M sz len tx w => h_table_x0 w.1 (x_table_1 w hh))
theorem ox_bolt {T : Nat} {S : LndS} (h : LOK T S) (a b : Int32) : OPX (T + 1) m_L_bolt [.int a, .int b] S := by
  obtain ⟨σ, τ, hk, n, ps⟩ := S
  have h' := h.mono (Nat.le_succ T)
  have i1 : IS σ := h.1.1
  have i2 : BJ T σ := h.1.2
  have i3 : n ≤ 6 := h.2.2.1
  by_cases ha : isP a = true
  · by_cases hb : b < 1 ∨ ¬ b ≤ 9999
    · exact OPX.bad h' (fun g M sz len tx w => h_bolt_x1 w.1 (x_bolt_2 w ha hb))
    · have hb1 : ¬ b < 1 := fun h => hb (Or.inl h)
      have hb2 : b ≤ 9999 := Decidable.of_not_not (fun h => hb (Or.inr h))
      obtain ⟨m, hm, hm2, _⟩ := i1.2.1
      by_cases h8 : m = 8
      · subst h8
        exact OPX.bad h' (fun g M sz len tx w => h_bolt_x2 w.1 (x_bolt_3 w ha hb1 hb2 hm2))
      · have ha2 := ha
        obtain ⟨q, hq, rfl⟩ := isP_ex ha
        exact OPX.ok (h.psh (Nat.le_succ T) ⟨i1.come hm2 (by omega) hq hb1 (Int32.le_trans hb2 (by decide)), (i2.mono (Nat.le_succ T)).come hm2 (by omega) _ _⟩) (fun g M sz len tx w => h_bolt_ok w.1 (x_bolt_ok w i3 ha2 hb1 hb2 m hm2 (by omega)))
  · exact OPX.bad h' (fun g M sz len tx w => h_bolt_x0 w.1 (x_bolt_1 w (not_t ha)))
theorem ox_send {T : Nat} {S : LndS} (h : LOK T S) (a b : Int32) : OPX (T + 1) m_L_send [.int a, .int b] S := by
  obtain ⟨σ, τ, hk, n, ps⟩ := S
  have h' := h.mono (Nat.le_succ T)
  have i1 : IS σ := h.1.1
  have i2 : BJ T σ := h.1.2
  have i3 : n ≤ 6 := h.2.2.1
  obtain ⟨m, hm8, hm, hbs⟩ := i1.2.1
  cases ha : isB σ a with
  | false => exact OPX.bad h' (fun g M sz len tx w => h_send_x0 w.1 (x_send_1a w ha))
  | true =>
    cases hb : isP b with
    | false => exact OPX.bad h' (fun g M sz len tx w => h_send_x0 w.1 (x_send_1b w ha hb))
    | true =>
      have ha2 := ha
      obtain ⟨i, hi, rfl⟩ := isB_ex hm hm8 ha
      obtain ⟨p, hp, rfl⟩ := isP_ex hb
      obtain ⟨⟨q, hq, hσq⟩, _⟩ := hbs i hi
      by_cases hbar : barS σ q p (σ (28 + 4 * i + 1)).toInt64 = 0
      · exact OPX.ok (h.psh (Nat.le_succ T) ⟨i1.send hm hi hm8 hq hp hσq hbar, i2.send hm hi hm8⟩) (fun g M sz len tx w => h_send_ok w.1 (x_send_ok w i3 i1.1 i q p rfl rfl (by omega) hq hp hσq ha2 hbar))
      · exact OPX.bad h' (fun g M sz len tx w => h_send_x2 w.1 (x_send_2 w i1.1 i q p rfl rfl (by omega) hq hp hσq ha2 hbar))
theorem ox_sell {T : Nat} {S : LndS} (h : LOK T S) (a : Int32) : OPX (T + 1) m_L_sell [.int a] S := by
  obtain ⟨σ, τ, hk, n, ps⟩ := S
  have h' := h.mono (Nat.le_succ T)
  have i1 : IS σ := h.1.1
  have i2 : BJ T σ := h.1.2
  have i3 : n ≤ 6 := h.2.2.1
  obtain ⟨m, hm8, hm, hbs⟩ := i1.2.1
  cases ha : isB σ a with
  | false => exact OPX.bad h' (fun g M sz len tx w => h_sell_x0 w.1 (x_sell_1 w ha))
  | true =>
    have ha2 := ha
    obtain ⟨i, hi, rfl⟩ := isB_ex hm hm8 ha
    obtain ⟨⟨q, hq, hσq⟩, _⟩ := hbs i hi
    have hs : 0 < σ (20 + q) := by
      obtain ⟨k, k1, k2, k3⟩ := i1.2.2.1 q hq
      rw [k3]; exact nI_gt0 (by omega) (by omega)
    exact OPX.ok (h.psh (Nat.le_succ T) ⟨i1.go hm hm8 hi, (i2.mono (Nat.le_succ T)).go hm hi hm8⟩) (fun g M sz len tx w => h_sell_ok w.1 (x_sell_ok w i3 i q m rfl hm hm8 hi hq hσq hs ha2))
theorem JS.ext {T : Nat} {σ τ : Nat → Int32} (h : ∀ k, k < 65 → σ k = τ k) (hs : JS T σ) : JS T τ := ⟨hs.1.ext h, hs.2.ext (fun k _ hk => (h k (by omega)).symm)⟩
theorem ox_undo {T : Nat} {S : LndS} (h : LOK T S) : OPX (T + 1) m_L_undo [] S := by
  obtain ⟨σ, τ, hk, n, ps⟩ := S
  have h' := h.mono (Nat.le_succ T)
  have i3 : n ≤ 6 := h.2.2.1
  cases n with
  | zero => exact OPX.bad h' (fun g M sz len tx w => h_undo_x2 w.1 (x_undo_1 w rfl))
  | succ n => exact OPX.ok (σ2 := rowN (ps n) σ 65) (τ2 := τ) (hk2 := hk) (n2 := n) (ps2 := ps) ⟨(h'.2.2.2 n (Nat.lt_succ_self n)).ext (fun k hk => (rowN_in hk).symm), h'.2.1, by show n ≤ 6; omega, fun i hi => h'.2.2.2 i (Nat.lt_succ_of_lt hi)⟩ (fun g M sz len tx w => h_undo_ok w.1 (x_undo_ok w (by omega)))
theorem ox_restore {T : Nat} {S : LndS} (h : LOK T S) : OPX (T + 1) m_L_restore [] S := by
  obtain ⟨σ, τ, hk, n, ps⟩ := S
  have h' := h.mono (Nat.le_succ T)
  have i3 : n ≤ 6 := h.2.2.1
  cases hk with
  | false => exact OPX.bad h' (fun g M sz len tx w => h_restore_x2 w.1 (x_restore_1 w rfl))
  | true => exact OPX.ok (h.psh (Nat.le_succ T) ((h'.2.1 rfl).ext (fun k hk => (rowN_in hk).symm))) (fun g M sz len tx w => h_restore_ok w.1 (x_restore_ok w i3 rfl (fun _ _ => rfl)))
theorem ox_keep {T : Nat} {S : LndS} (h : LOK T S) : OPX (T + 1) m_X8_keep [] S := by
  obtain ⟨σ, τ, hk, n, ps⟩ := S
  have h' := h.mono (Nat.le_succ T)
  exact OPX.ok (σ2 := σ) (τ2 := σ) (hk2 := true) (n2 := n) (ps2 := ps) ⟨h'.1, fun _ => h'.1, h'.2.2.1, h'.2.2.2⟩ (fun g M sz len tx w => x_keep_ok w)
