/-! the worlds -/
def XO (g : GE) (hk : Bool) : va_E := eO 8 [rf g 1, rf g 11, rf g 21, rf g 83, rf g 85, rf g 90, rf g 92, rf g 95, .int (bI hk)]
def TO (g : GE) (len : Nat) (st : Int32) : va_E := eO 5 [rf g 84, .int (nI len), .int st]
def TT (g : GE) (M : Mem) (len : Nat) (tx : Nat → Int32) : Prop := (∃ st, M 83 = some (TO g len st)) ∧ M 84 = some (eI g 60 tx)
/-- what is used anew at each call -/
def SC (g : GE) (M : Mem) : Prop := RW g M ∧ (∃ f p, TW g M 88 f p) ∧ (∃ w z, M 90 = some (eO 6 [rf g 91, .int z]) ∧ M 91 = some (eI g 5 w)) ∧ (M 92 = some (eO 2 [rf g 93, rf g 94]) ∧ ∃ a b, M 93 = some (eJ g 5 a) ∧ M 94 = some (eJ g 5 b)) ∧ ∃ w, M 95 = some (eI g 4 w)
/-- the class's world -/
def CW (g : GE) (M : Mem) (σ τ : Nat → Int32) (hk : Bool) (n : Nat) (ps : Nat → Nat → Int32) (len : Nat) (tx : Nat → Int32) : Prop := M 0 = some (XO g hk) ∧ YW g M 1 σ ∧ YW g M 11 τ ∧ HW g M n ps ∧ TT g M len tx ∧ SC g M
theorem TT.fr {g : GE} {M M1 : Mem} {len : Nat} {tx : Nat → Int32} (h : TT g M len tx) (e : ∀ k, 83 ≤ k → k < 85 → M1 k = M k) : TT g M1 len tx := by
  obtain ⟨⟨st, h1⟩, h2⟩ := h
  exact ⟨⟨st, (e _ (by omega) (by omega)).trans h1⟩, (e _ (by omega) (by omega)).trans h2⟩
theorem SC.fr {g : GE} {M M1 : Mem} (h : SC g M) (e : ∀ k, 85 ≤ k → k < 96 → M1 k = M k) : SC g M1 := by
  obtain ⟨⟨r1, r2, r3⟩, ⟨f, p, t1, t2⟩, ⟨w, z, w1, w2⟩, ⟨m1, a, b, m2, m3⟩, ⟨u, u1⟩⟩ := h
  exact ⟨⟨(e _ (by omega) (by omega)).trans r1, (e _ (by omega) (by omega)).trans r2, (e _ (by omega) (by omega)).trans r3⟩, ⟨f, p, (e _ (by omega) (by omega)).trans t1, (e _ (by omega) (by omega)).trans t2⟩, ⟨w, z, (e _ (by omega) (by omega)).trans w1, (e _ (by omega) (by omega)).trans w2⟩, ⟨(e _ (by omega) (by omega)).trans m1, a, b, (e _ (by omega) (by omega)).trans m2, (e _ (by omega) (by omega)).trans m3⟩, ⟨u, (e _ (by omega) (by omega)).trans u1⟩⟩
section
variable {g : GE} {M M1 : Mem} {σ τ : Nat → Int32} {hk : Bool} {n : Nat} {ps : Nat → Nat → Int32} {len : Nat} {tx : Nat → Int32}
theorem CW.fr (h : CW g M σ τ hk n ps len tx) (e : ∀ k, k < 96 → M1 k = M k) : CW g M1 σ τ hk n ps len tx :=
  ⟨(e _ (by omega)).trans h.1, h.2.1.fr (fun k a b => e k (by omega)), h.2.2.1.fr (fun k a b => e k (by omega)), h.2.2.2.1.fr (fun k a b => e k (by omega)), h.2.2.2.2.1.fr (fun k a b => e k (by omega)), h.2.2.2.2.2.fr (fun k a b => e k (by omega))⟩
theorem CW.psh (h : CW g M σ τ hk n ps len tx) {n2 : Nat} {ps2 : Nat → Nat → Int32} (hH : HW g M1 n2 ps2) (e : FR M M1 21 62) : CW g M1 σ τ hk n2 ps2 len tx :=
  ⟨(e _ (by omega)).trans h.1, h.2.1.fr (fun k a b => e k (by omega)), h.2.2.1.fr (fun k a b => e k (by omega)), hH, h.2.2.2.2.1.fr (fun k a b => e k (by omega)), h.2.2.2.2.2.fr (fun k a b => e k (by omega))⟩
theorem CW.now (h : CW g M σ τ hk n ps len tx) {σ2 : Nat → Int32} (hY : YW g M1 1 σ2) (e : FR M M1 1 10) : CW g M1 σ2 τ hk n ps len tx :=
  ⟨(e _ (by omega)).trans h.1, hY, h.2.2.1.fr (fun k a b => e k (by omega)), h.2.2.2.1.fr (fun k a b => e k (by omega)), h.2.2.2.2.1.fr (fun k a b => e k (by omega)), h.2.2.2.2.2.fr (fun k a b => e k (by omega))⟩
theorem CW.txt (h : CW g M σ τ hk n ps len tx) {len2 : Nat} {tx2 : Nat → Int32} (hY : TT g M1 len2 tx2) (e : FR M M1 83 2) : CW g M1 σ τ hk n ps len2 tx2 :=
  ⟨(e _ (by omega)).trans h.1, h.2.1.fr (fun k a b => e k (by omega)), h.2.2.1.fr (fun k a b => e k (by omega)), h.2.2.2.1.fr (fun k a b => e k (by omega)), hY, h.2.2.2.2.2.fr (fun k a b => e k (by omega))⟩
theorem CW.scr (h : CW g M σ τ hk n ps len tx) (hY : SC g M1) (e : FR M M1 85 11) : CW g M1 σ τ hk n ps len tx :=
  ⟨(e _ (by omega)).trans h.1, h.2.1.fr (fun k a b => e k (by omega)), h.2.2.1.fr (fun k a b => e k (by omega)), h.2.2.2.1.fr (fun k a b => e k (by omega)), h.2.2.2.2.1.fr (fun k a b => e k (by omega)), hY⟩
end
theorem TabR.hi {f : Nat → Int32} {p : Int32} {σ τ : Nat → Int32} (h : TabR f p σ) (e : ∀ k, k < 20 → σ k = τ k) : TabR f p τ := by
  obtain ⟨h1, h2, h3⟩ := h
  refine ⟨fun a b ha hb hab => ?_, h2, ?_⟩
  · have := pr_lt a b ha hb hab
    rw [h1 a b ha hb hab]; unfold upS; rw [e _ (by omega), e _ (by omega)]
  · rw [h3]; unfold hv; rw [e 0 (by omega), e 1 (by omega), e 2 (by omega), e 3 (by omega), e 4 (by omega), e 5 (by omega), e 6 (by omega), e 7 (by omega), e 8 (by omega), e 9 (by omega)]
theorem TS.hi {g : GE} {M : Mem} {t : Nat} {σ τ : Nat → Int32} (h : TS g M t σ) (e : ∀ k, k < 20 → σ k = τ k) : TS g M t τ := by
  obtain ⟨f, p, h1, h2⟩ := h
  exact ⟨f, p, h1, h2.hi e⟩
theorem BW.hi {g : GE} {M : Mem} {b : Nat} {σ τ : Nat → Int32} (h : BW g M b σ) (e : ∀ k, 28 ≤ k → k < 63 → σ k = τ k) : BW g M b τ := by
  obtain ⟨h1, h2, h3, h4, h5⟩ := h
  have eb : ∀ q, q < 4 → bR σ q = bR τ q := by
    intro q hq
    funext k
    unfold bR
    split
    · rw [e _ (by omega) (by omega)]
    · rfl
  exact ⟨by rw [← e 60 (by omega) (by omega), ← e 61 (by omega) (by omega), ← e 62 (by omega) (by omega)]; exact h1, eb 0 (by omega) ▸ h2, eb 1 (by omega) ▸ h3, eb 2 (by omega) ▸ h4, eb 3 (by omega) ▸ h5⟩
theorem stR_hi {σ τ : Nat → Int32} (e : ∀ k, 20 ≤ k → k < 25 → σ k = τ k) : stR σ = stR τ := by
  funext k; unfold stR; split
  · exact e _ (by omega) (by omega)
  · rfl
theorem seR_hi {σ τ : Nat → Int32} (e : ∀ k, 25 ≤ k → k < 28 → σ k = τ k) : seR σ = seR τ := by
  funext k; unfold seR; split
  · exact e _ (by omega) (by omega)
  · rfl
section
variable {g : GE} {M M1 : Mem} {y : Nat} {σ : Nat → Int32}
theorem YW.stick (h : YW g M y σ) {i : Nat} (hi : i < 5) (x : Int32) : YW g (mup M (y + 1) (eI g 5 (upd (stR σ) i x))) y (upd σ (20 + i) x) := by
  obtain ⟨⟨p, h1, h2⟩, h3, h4, h5, h6⟩ := h
  refine ⟨⟨p, ?_, ?_⟩, ?_, ?_, ?_, ?_⟩
  · rw [mup_ne _ _ (by omega), upd_ne (by omega)]; exact h1
  · rw [upd_ne (by omega), upd_ne (by omega)]; exact h2
  · rw [mup_eq, stR_upd hi]
  · rw [mup_ne _ _ (by omega), seR_ne (by omega)]; exact h4
  · exact (h5.fr (fun k a b => mup_ne _ _ (by omega))).hi (fun k hk => (upd_ne (by omega)).symm)
  · exact (h6.fr (fun k a b => mup_ne _ _ (by omega))).hi (fun k a b => (upd_ne (by omega)).symm)
theorem YW.set (h : YW g M y σ) {i : Nat} (hi : i < 3) (x : Int32) : YW g (mup M (y + 2) (eI g 3 (upd (seR σ) i x))) y (upd σ (25 + i) x) := by
  obtain ⟨⟨p, h1, h2⟩, h3, h4, h5, h6⟩ := h
  refine ⟨⟨p, ?_, ?_⟩, ?_, ?_, ?_, ?_⟩
  · rw [mup_ne _ _ (by omega), upd_ne (by omega)]; exact h1
  · rw [upd_ne (by omega), upd_ne (by omega)]; exact h2
  · rw [mup_ne _ _ (by omega), stR_ne (by omega)]; exact h3
  · rw [mup_eq, seR_upd hi]
  · exact (h5.fr (fun k a b => mup_ne _ _ (by omega))).hi (fun k hk => (upd_ne (by omega)).symm)
  · exact (h6.fr (fun k a b => mup_ne _ _ (by omega))).hi (fun k a b => (upd_ne (by omega)).symm)
theorem YW.tab (h : YW g M y σ) {σ2 : Nat → Int32} (hT : TS g M1 (y + 3) σ2) (e : FR M M1 (y + 3) 2) (hs : ∀ k, 20 ≤ k → σ2 k = σ k) : YW g M1 y σ2 := by
  obtain ⟨⟨p, h1, h2⟩, h3, h4, h5, h6⟩ := h
  refine ⟨⟨p, ?_, ?_⟩, ?_, ?_, hT, ?_⟩
  · rw [e _ (by omega), hs _ (by omega)]; exact h1
  · rw [hs _ (by omega), hs _ (by omega)]; exact h2
  · rw [e _ (by omega), stR_hi (fun k a b => hs k a)]; exact h3
  · rw [e _ (by omega), seR_hi (fun k a b => hs k (by omega))]; exact h4
  · exact (h6.fr (fun k a b => e k (by omega))).hi (fun k a b => (hs k (by omega)).symm)
theorem YW.bol (h : YW g M y σ) {σ2 : Nat → Int32} (hB : BW g M1 (y + 5) σ2) (e : FR M M1 (y + 5) 5) (hs : ∀ k, k < 28 ∨ 63 ≤ k → σ2 k = σ k) : YW g M1 y σ2 := by
  obtain ⟨⟨p, h1, h2⟩, h3, h4, h5, h6⟩ := h
  refine ⟨⟨p, ?_, ?_⟩, ?_, ?_, ?_, hB⟩
  · rw [e _ (by omega), hs _ (by omega)]; exact h1
  · rw [hs _ (by omega), hs _ (by omega)]; exact h2
  · rw [e _ (by omega), stR_hi (fun k a b => hs k (by omega))]; exact h3
  · rw [e _ (by omega), seR_hi (fun k a b => hs k (by omega))]; exact h4
  · exact (h5.fr (fun k a b => e k (by omega))).hi (fun k hk => (hs k (by omega)).symm)
/-- the reference's world; th: what the latest call threw -/
def ML (g : GE) (M : Mem) (σ sn : Nat → Int32) (hk : Bool) (n : Nat) (ps : Nat → Nat → Int32) (len : Nat) (tx : Nat → Int32) (th : Int32) : Prop :=
  (∃ v, MD g M σ v ∧ v 0 = nI n ∧ v 1 = bI hk ∧ v 2 = nI len ∧ v 3 = th) ∧ (∃ pf, M 98 = some (eI g 390 pf) ∧ PF pf n ps) ∧ M 99 = some (eI g 65 sn) ∧ M 100 = some (eI g 60 tx) ∧ ∃ a b, M 103 = some (eJ g 5 a) ∧ M 104 = some (eJ g 5 b)
theorem MD.fr {v : Nat → Int32} (h : MD g M σ v) (e : ∀ k, 96 ≤ k → k < 105 → M1 k = M k) : MD g M1 σ v := ⟨(e _ (by omega) (by omega)).trans h.1, (e _ (by omega) (by omega)).trans h.2.1, (e _ (by omega) (by omega)).trans h.2.2.1, (e _ (by omega) (by omega)).trans h.2.2.2⟩
theorem ML.fr {sn : Nat → Int32} {hk : Bool} {n : Nat} {ps : Nat → Nat → Int32} {len : Nat} {tx : Nat → Int32} {th : Int32} (h : ML g M σ sn hk n ps len tx th) (e : ∀ k, 96 ≤ k → k < 105 → M1 k = M k) : ML g M1 σ sn hk n ps len tx th := by
  obtain ⟨⟨v, v1, v2⟩, ⟨pf, p1, p2⟩, h3, h4, a, b, h5, h6⟩ := h
  exact ⟨⟨v, v1.fr e, v2⟩, ⟨pf, (e _ (by omega) (by omega)).trans p1, p2⟩, (e _ (by omega) (by omega)).trans h3, (e _ (by omega) (by omega)).trans h4, a, b, (e _ (by omega) (by omega)).trans h5, (e _ (by omega) (by omega)).trans h6⟩
/-- what both hold together -/
def INV (σ τ sn : Nat → Int32) (hk : Bool) (n : Nat) (ps : Nat → Nat → Int32) (len : Nat) (tx : Nat → Int32) : Prop :=
  IS σ ∧ (hk = true → IS τ ∧ ∀ k, k < 65 → sn k = τ k) ∧ n ≤ 6 ∧ (∀ i, i < n → IS (ps i)) ∧ len ≤ 60 ∧ ∀ k, k < len → ∃ c : Nat, 33 ≤ c ∧ c ≤ 126 ∧ tx k = nI c
end
theorem IS.psh {n : Nat} {ps : Nat → Nat → Int32} {σ : Nat → Int32} (hn : n ≤ 6) (hp : ∀ i, i < n → IS (ps i)) (hs : IS σ) : ∀ i, i < pshN n → IS (pshP n ps σ i) := by
  intro i hi
  unfold pshN at hi
  unfold pshP
  by_cases h6 : n = 6
  · rw [if_pos h6] at hi ⊢
    rw [if_pos h6]
    by_cases e : i = 5
    · rw [if_pos e]; exact hs
    · rw [if_neg e]; unfold rotP; rw [if_pos (by omega)]; exact hp _ (by omega)
  · rw [if_neg h6] at hi ⊢
    rw [if_neg h6]
    by_cases e : i = n
    · rw [if_pos e]; exact hs
    · rw [if_neg e]; exact hp _ (by omega)
set_option maxRecDepth 20000 in
theorem r_bound {g : GE} {M : Mem} {sz : Nat} {σ τ : Nat → Int32} {hk : Bool} {n : Nat} {ps : Nat → Nat → Int32} {len : Nat} {tx : Nat → Int32} (hC : CW g M σ τ hk n ps len tx) : Run g m_X8_bound [rf g 0] M sz 0 0 (Ret (some (.int (σ 25))) M) := by
  obtain ⟨p, h1, _⟩ := hC.2.1.1
  refine Run.of rfl (by decide) (Nat.le_of_ble_eq_true rfl) ?_
  show V g m_X8_bound 0 _ [] _ _ _ _ _
  refine V_aload_n 0 dX8_bound_0 rfl ?_
  refine G_X8_10 rfl hC.1 rfl dX8_bound_1 ?_
  refine G_X8_136 rfl h1 rfl dX8_bound_4 ?_
  refine V_iconst (v := 0) dX8_bound_7 rfl ?_
  refine C_X8_77 rfl ⟨Nat.le_of_ble_eq_true rfl, Nat.le_of_ble_eq_true rfl⟩ (r_at hC.2.1.2.2.1 0 rfl (by decide) (by decide)) rfl (Nat.le_of_ble_eq_true rfl) dX8_bound_8 rfl ?_
  rw [seR_at (by decide)]
  refine V_iret (st := []) dX8_bound_11 rfl ?_
  exact ⟨rfl, rfl⟩
set_option maxRecDepth 20000 in
theorem r_rounding {g : GE} {M : Mem} {sz : Nat} {σ τ : Nat → Int32} {hk : Bool} {n : Nat} {ps : Nat → Nat → Int32} {len : Nat} {tx : Nat → Int32} (hC : CW g M σ τ hk n ps len tx) : Run g m_X8_rounding [rf g 0] M sz 0 0 (Ret (some (.int (σ 26))) M) := by
  obtain ⟨p, h1, _⟩ := hC.2.1.1
  refine Run.of rfl (by decide) (Nat.le_of_ble_eq_true rfl) ?_
  show V g m_X8_rounding 0 _ [] _ _ _ _ _
  refine V_aload_n 0 dX8_rounding_0 rfl ?_
  refine G_X8_10 rfl hC.1 rfl dX8_rounding_1 ?_
  refine G_X8_136 rfl h1 rfl dX8_rounding_4 ?_
  refine V_iconst (v := 1) dX8_rounding_7 rfl ?_
  refine C_X8_77 rfl ⟨Nat.le_of_ble_eq_true rfl, Nat.le_of_ble_eq_true rfl⟩ (r_at hC.2.1.2.2.1 1 rfl (by decide) (by decide)) rfl (Nat.le_of_ble_eq_true rfl) dX8_rounding_8 rfl ?_
  rw [seR_at (by decide)]
  refine V_iret (st := []) dX8_rounding_11 rfl ?_
  exact ⟨rfl, rfl⟩
set_option maxRecDepth 20000 in
theorem r_checkBolt_ok {g : GE} {M : Mem} {sz : Nat} {σ τ : Nat → Int32} {hk : Bool} {n : Nat} {ps : Nat → Nat → Int32} {len : Nat} {tx : Nat → Int32} (hC : CW g M σ τ hk n ps len tx) {w : Int32} (h : (decide (0 ≤ w) && decide (w < σ 60)) = true) : Run g m_X8_checkBolt [rf g 0, .int w] M sz 0 0 (Ret none M) := by
  obtain ⟨p, h1, _⟩ := hC.2.1.1
  refine Run.of rfl (by decide) (Nat.le_of_ble_eq_true rfl) ?_
  show V g m_X8_checkBolt 0 _ [] _ _ _ _ _
  refine V_aload_n 0 dX8_checkBolt_0 rfl ?_
  refine G_X8_10 rfl hC.1 rfl dX8_checkBolt_1 ?_
  refine G_X8_139 rfl h1 rfl dX8_checkBolt_4 ?_
  refine V_iload_n 1 dX8_checkBolt_7 rfl ?_
  refine C_X8_396 hC.2.1.2.2.2.2.1 rfl ⟨Nat.le_of_ble_eq_true rfl, Nat.le_of_ble_eq_true rfl⟩ (r_bhas hC.2.1.2.2.2.2 _) rfl (Nat.le_of_ble_eq_true rfl) dX8_checkBolt_8 rfl ?_
  refine V_if_ne (tgt := 25) dX8_checkBolt_11 (by decide) (fun c11 => ?_) (fun c11 => absurd c11 (by rw [h]; decide))
  refine V_ret (st := []) dX8_checkBolt_25 rfl ?_
  exact ⟨rfl, rfl⟩
set_option maxRecDepth 20000 in
theorem r_checkBolt_bad {g : GE} {M : Mem} {sz : Nat} {σ τ : Nat → Int32} {hk : Bool} {n : Nat} {ps : Nat → Nat → Int32} {len : Nat} {tx : Nat → Int32} (hC : CW g M σ τ hk n ps len tx) {w : Int32} (h : (decide (0 ≤ w) && decide (w < σ 60)) = false) : Run g m_X8_checkBolt [rf g 0, .int w] M sz 1 6 (Thr (exN 0) M) := by
  obtain ⟨p, h1, _⟩ := hC.2.1.1
  refine Run.of rfl (by decide) (Nat.le_of_ble_eq_true rfl) ?_
  show V g m_X8_checkBolt 0 _ [] _ _ _ _ _
  refine V_aload_n 0 dX8_checkBolt_0 rfl ?_
  refine G_X8_10 rfl hC.1 rfl dX8_checkBolt_1 ?_
  refine G_X8_139 rfl h1 rfl dX8_checkBolt_4 ?_
  refine V_iload_n 1 dX8_checkBolt_7 rfl ?_
  refine C_X8_396 hC.2.1.2.2.2.2.1 rfl ⟨Nat.le_of_ble_eq_true rfl, Nat.le_of_ble_eq_true rfl⟩ (r_bhas hC.2.1.2.2.2.2 _) rfl (Nat.le_of_ble_eq_true rfl) dX8_checkBolt_8 rfl ?_
  refine V_if_ne (tgt := 25) dX8_checkBolt_11 (by decide) (fun c11 => absurd (by rw [h]; rfl) c11) (fun c11 => ?_)
  refine V_throwSW 0 12 (by decide) (by decide) rfl rfl rfl rfl rfl (Nat.le_of_ble_eq_true rfl) (Nat.le_of_ble_eq_true rfl) dX8_checkBolt_14 dX8_checkBolt_17 dX8_checkBolt_18 dX8_checkBolt_21 dX8_checkBolt_24 ?_
  exact ⟨rfl, rfl⟩
