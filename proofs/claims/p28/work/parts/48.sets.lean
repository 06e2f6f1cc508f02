/-! set, drop, table, bolt -/
theorem i_lt {a : Int32} (n : Nat) (h : n + 1 < 2 ^ 31) : a < nI (n + 1) ↔ a ≤ nI n := by
  rw [Int32.lt_iff_toInt_lt, Int32.le_iff_toInt_le, nI_toInt h, nI_toInt (by omega)]; omega
def seLo (a : Int32) : Int32 := if a = 2 then 1 else 0
def seHi (a : Int32) : Int32 := if a = 0 then 500 else if a = 1 then 1 else 4
theorem TS.has {g : GE} {M : Mem} {sz : Nat} {t : Nat} {σ : Nat → Int32} (h : TS g M t σ) (hI : I10 σ) {x y : Int32} (a b : Nat) (hx : x = nI a) (hy : y = nI b) (ha : a < 5) (hb : b < 5) : Run g m_X4_has [rf g t, .int x, .int y] M sz 0 0 (Ret (some (.int (bI (hasS σ a b)))) M) := by
  obtain ⟨f, p, h1, h2, h3, h4⟩ := h
  have e := r_has (sz := sz) h1 a b hx hy ha hb
  have e2 : decide (0 < f (5 * a + b)) = hasS σ a b := by
    by_cases hab : a = b
    · subst hab
      rw [show 5 * a + a = 6 * a by omega, h3 a ha]
      cases h9 : hasS σ a a with
      | false => rfl
      | true => exact absurd rfl (hasNe h9)
    · rw [h2 a b ha hb hab, hI.pos ha hb hab]
  rw [e2] at e
  exact e
theorem TS.up {g : GE} {M : Mem} {sz : Nat} {t : Nat} {σ : Nat → Int32} (h : TS g M t σ) {x y : Int32} (a b : Nat) (hx : x = nI a) (hy : y = nI b) (ha : a < 5) (hb : b < 5) (hab : a ≠ b) : Run g m_X4_up [rf g t, .int x, .int y] M sz 0 0 (Ret (some (.int (upS σ a b))) M) := by
  obtain ⟨f, p, h1, h2, h3, h4⟩ := h
  have e := r_up (sz := sz) h1 a b hx hy ha hb
  rw [h2 a b ha hb hab] at e
  exact e
theorem TS.standing {g : GE} {M : Mem} {sz : Nat} {t : Nat} {σ : Nat → Int32} (h : TS g M t σ) (hR : RW g M) : Run g m_X3_standing [rf g 85, rf g t] M sz 0 0 (Ret (some (.int (nI (cnt (thr σ) 37)))) M) := by
  obtain ⟨f, p, h1, h2⟩ := h
  exact r_standing hR h1 h2
theorem TS.lay {g : GE} {M : Mem} {sz : Nat} {t : Nat} {σ : Nat → Int32} (h : TS g M t σ) {x y : Int32} (a b : Nat) (hx : x = nI a) (hy : y = nI b) (ha : a < 5) (hb : b < 5) (hab : a ≠ b) {u d : Int32} (hud : UD u d) : Run g m_X4_lay [rf g t, .int x, .int y, .int u, .int d] M sz 0 0 (RetP none (fun M1 => TS g M1 t (putS σ a b u d) ∧ FR M M1 t 2)) := by
  obtain ⟨f, p, h1, h2⟩ := h
  refine (r_lay h1 a b hx hy ha hb hab).mono fun o M1 q => ⟨q.1, ?_⟩
  rw [q.2]
  exact ⟨⟨_, _, ⟨mup_eq _ _ _, (mup_ne _ _ (by omega)).trans (mup_eq _ _ _)⟩, h2.lay ha hb hab hud⟩, ((FR.refl M t 2).put (by omega)).put (by omega)⟩
set_option maxRecDepth 20000 in
theorem r_least {g : GE} {M : Mem} {sz : Nat} (a : Int32) : Run g m_X8_leastOfSetting [.int a] M sz 0 0 (Ret (some (.int (seLo a))) M) := by
  refine Run.of rfl (by decide) (Nat.le_of_ble_eq_true rfl) ?_
  show V g m_X8_leastOfSetting 0 _ [] _ _ _ _ _
  refine V_iload_n 0 dX8_leastOfSetting_0 rfl ?_
  refine V_iconst (v := 2) dX8_leastOfSetting_1 rfl ?_
  refine V_icmp_ne (tgt := 9) dX8_leastOfSetting_2 (by decide) (fun c2 => ?_) (fun c2 => ?_)
  · refine V_iconst (v := 0) dX8_leastOfSetting_9 rfl ?_
    refine V_iret (st := []) dX8_leastOfSetting_10 rfl ?_
    exact ⟨by unfold seLo; rw [if_neg c2], rfl⟩
  · refine V_iconst (v := 1) dX8_leastOfSetting_5 rfl ?_
    refine V_goto (tgt := 10) dX8_leastOfSetting_6 (by decide) ?_
    refine V_iret (st := []) dX8_leastOfSetting_10 rfl ?_
    exact ⟨by unfold seLo; rw [if_pos c2], rfl⟩
set_option maxRecDepth 20000 in
theorem r_most {g : GE} {M : Mem} {sz : Nat} (a : Int32) : Run g m_X8_mostOfSetting [.int a] M sz 0 0 (Ret (some (.int (seHi a))) M) := by
  refine Run.of rfl (by decide) (Nat.le_of_ble_eq_true rfl) ?_
  show V g m_X8_mostOfSetting 0 _ [] _ _ _ _ _
  refine V_iload_n 0 dX8_mostOfSetting_0 rfl ?_
  refine V_if_ne (tgt := 8) dX8_mostOfSetting_1 (by decide) (fun c1 => ?_) (fun c1 => ?_)
  · refine V_iload_n 0 dX8_mostOfSetting_8 rfl ?_
    refine V_iconst (v := 1) dX8_mostOfSetting_9 rfl ?_
    refine V_icmp_ne (tgt := 17) dX8_mostOfSetting_10 (by decide) (fun c10 => ?_) (fun c10 => ?_)
    · refine V_iconst (v := 4) dX8_mostOfSetting_17 rfl ?_
      refine V_iret (st := []) dX8_mostOfSetting_18 rfl ?_
      exact ⟨by unfold seHi; rw [if_neg c1, if_neg c10], rfl⟩
    · refine V_iconst (v := 1) dX8_mostOfSetting_13 rfl ?_
      refine V_goto (tgt := 18) dX8_mostOfSetting_14 (by decide) ?_
      refine V_iret (st := []) dX8_mostOfSetting_18 rfl ?_
      exact ⟨by unfold seHi; rw [if_neg c1, if_pos c10], rfl⟩
  · refine V_sipush (v := 500) dX8_mostOfSetting_4 (by decide) ?_
    refine V_iret (st := []) dX8_mostOfSetting_7 rfl ?_
    exact ⟨by unfold seHi; rw [if_pos c1], rfl⟩
set_option maxRecDepth 20000 in
theorem x_set_1 {g : GE} {M : Mem} {sz : Nat} {σ τ : Nat → Int32} {hk : Bool} {n : Nat} {ps : Nat → Nat → Int32} {len : Nat} {tx : Nat → Int32} (hC : CW g M σ τ hk n ps len tx) {a b : Int32} (ha : a < 0 ∨ ¬ a ≤ 2) : Run g m_X8_set [rf g 0, .int a, .int b] M sz 1 6 (Thr (exN 0) M) := by
  refine Run.of rfl (by decide) (Nat.le_of_ble_eq_true rfl) ?_
  show V g m_X8_set 0 _ [] _ _ _ _ _
  refine V_iload_n 1 dX8_set_0 rfl ?_
  refine V_if_lt (tgt := 9) dX8_set_1 (by decide) (fun c1 => ?_) (fun c1 => ?_)
  · refine V_throwS 0 2 (by decide) (by decide) rfl rfl rfl rfl rfl (Nat.le_of_ble_eq_true rfl) (Nat.le_of_ble_eq_true rfl) dX8_set_9 dX8_set_12 dX8_set_13 dX8_set_15 dX8_set_18 ?_
    exact ⟨rfl, rfl⟩
  · refine V_iload_n 1 dX8_set_4 rfl ?_
    refine V_iconst (v := 3) dX8_set_5 rfl ?_
    refine V_icmp_lt (tgt := 19) dX8_set_6 (by decide) (fun c6 => ?_) (fun c6 => ?_)
    · exact absurd ((i_lt 2 (by decide)).mp c6) (fun h => ha.elim c1 (fun h2 => h2 h))
    · refine V_throwS 0 2 (by decide) (by decide) rfl rfl rfl rfl rfl (Nat.le_of_ble_eq_true rfl) (Nat.le_of_ble_eq_true rfl) dX8_set_9 dX8_set_12 dX8_set_13 dX8_set_15 dX8_set_18 ?_
      exact ⟨rfl, rfl⟩
set_option maxRecDepth 20000 in
theorem x_set_2 {g : GE} {M : Mem} {sz : Nat} {σ τ : Nat → Int32} {hk : Bool} {n : Nat} {ps : Nat → Nat → Int32} {len : Nat} {tx : Nat → Int32} (hC : CW g M σ τ hk n ps len tx) {a b : Int32} (ha : ¬ a < 0) (ha2 : a ≤ 2) (hb : b < seLo a ∨ ¬ b ≤ seHi a) : Run g m_X8_set [rf g 0, .int a, .int b] M sz 1 6 (Thr (exN 1) M) := by
  refine Run.of rfl (by decide) (Nat.le_of_ble_eq_true rfl) ?_
  show V g m_X8_set 0 _ [] _ _ _ _ _
  refine V_iload_n 1 dX8_set_0 rfl ?_
  refine V_if_lt (tgt := 9) dX8_set_1 (by decide) (fun c1 => absurd c1 ha) (fun c1 => ?_)
  refine V_iload_n 1 dX8_set_4 rfl ?_
  refine V_iconst (v := 3) dX8_set_5 rfl ?_
  refine V_icmp_lt (tgt := 19) dX8_set_6 (by decide) (fun c6 => ?_) (fun c6 => absurd ((i_lt 2 (by decide)).mpr ha2) c6)
  refine V_iload_n 2 dX8_set_19 rfl ?_
  refine V_iload_n 1 dX8_set_20 rfl ?_
  refine V_pc (pc2 := 21) rfl ?_
  refine C_X8_129 rfl ⟨Nat.le_of_ble_eq_true rfl, Nat.le_of_ble_eq_true rfl⟩ (r_least _) rfl (Nat.le_of_ble_eq_true rfl) dX8_set_21 rfl ?_
  refine V_iload_n 1 dX8_set_24 rfl ?_
  refine C_X8_133 rfl ⟨Nat.le_of_ble_eq_true rfl, Nat.le_of_ble_eq_true rfl⟩ (r_most _) rfl (Nat.le_of_ble_eq_true rfl) dX8_set_25 rfl ?_
  refine Ct_X8_66 rfl rfl ⟨Nat.le_of_ble_eq_true rfl, Nat.le_of_ble_eq_true rfl⟩ (r_checkRange_bad hb) rfl (Nat.le_of_ble_eq_true rfl) dX8_set_28 rfl ?_
  exact ⟨rfl, rfl⟩
set_option maxRecDepth 20000 in
theorem x_set_ok {g : GE} {M : Mem} {sz : Nat} {σ τ : Nat → Int32} {hk : Bool} {n : Nat} {ps : Nat → Nat → Int32} {len : Nat} {tx : Nat → Int32} (hC : CW g M σ τ hk n ps len tx) (hn : n ≤ 6) {a b : Int32} (i : Nat) (hi : i < 3) (ha : a = nI i) (hb : ¬ b < seLo a) (hb2 : b ≤ seHi a) : Run g m_X8_set [rf g 0, .int a, .int b] M sz 0 0 (RetP (some (.int (σ (25 + i)))) (fun M2 => CW g M2 (upd σ (25 + i) b) (τ) (hk) (pshN n) (pshP n ps σ) (len) (tx) ∧ FR M M2 0 96)) := by
  subst ha
  obtain ⟨p0, y1, y2⟩ := hC.2.1.1
  refine Run.of rfl (by decide) (Nat.le_of_ble_eq_true rfl) ?_
  show V g m_X8_set 0 _ [] _ _ _ _ _
  refine V_iload_n 1 dX8_set_0 rfl ?_
  refine V_if_lt (tgt := 9) dX8_set_1 (by decide) (fun c1 => absurd c1 (nI_pos (by omega))) (fun c1 => ?_)
  refine V_iload_n 1 dX8_set_4 rfl ?_
  refine V_iconst (v := 3) dX8_set_5 rfl ?_
  refine V_icmp_lt (tgt := 19) dX8_set_6 (by decide) (fun c6 => ?_) (fun c6 => absurd (nI_lt (b := 3) hi (by decide)) c6)
  refine V_iload_n 2 dX8_set_19 rfl ?_
  refine V_iload_n 1 dX8_set_20 rfl ?_
  refine V_pc (pc2 := 21) rfl ?_
  refine C_X8_129 rfl ⟨Nat.le_of_ble_eq_true rfl, Nat.le_of_ble_eq_true rfl⟩ (r_least _) rfl (Nat.le_of_ble_eq_true rfl) dX8_set_21 rfl ?_
  refine V_iload_n 1 dX8_set_24 rfl ?_
  refine C_X8_133 rfl ⟨Nat.le_of_ble_eq_true rfl, Nat.le_of_ble_eq_true rfl⟩ (r_most _) rfl (Nat.le_of_ble_eq_true rfl) dX8_set_25 rfl ?_
  refine C_X8_66 rfl ⟨Nat.le_of_ble_eq_true rfl, Nat.le_of_ble_eq_true rfl⟩ (r_checkRange_ok hb hb2) rfl (Nat.le_of_ble_eq_true rfl) dX8_set_28 rfl ?_
  refine V_aload_n 0 dX8_set_31 rfl ?_
  refine G_X8_22 rfl hC.1 rfl dX8_set_32 ?_
  refine V_aload_n 0 dX8_set_35 rfl ?_
  refine G_X8_10 rfl hC.1 rfl dX8_set_36 ?_
  refine V_pc (pc2 := 39) rfl ?_
  refine Cp_X8_70 hC.2.2.2.1.choose_spec.1 rfl ⟨Nat.le_of_ble_eq_true rfl, Nat.le_of_ble_eq_true rfl⟩ (r_push hC.2.2.2.1 hn hC.2.1 (by omega)) rfl (Nat.le_of_ble_eq_true rfl) dX8_set_39 rfl (fun _ q9 => ?_)
  have hC2 := hC.psh q9.1 q9.2
  have hF2 := q9.2
  clear q9
  obtain ⟨p9, y3, y4⟩ := hC2.2.1.1
  refine V_aload_n 0 dX8_set_42 rfl ?_
  refine G_X8_10 rfl hC2.1 rfl dX8_set_43 ?_
  refine G_X8_136 rfl y3 rfl dX8_set_46 ?_
  refine V_iload_n 1 dX8_set_49 rfl ?_
  refine C_X8_77 rfl ⟨Nat.le_of_ble_eq_true rfl, Nat.le_of_ble_eq_true rfl⟩ (r_at hC2.2.1.2.2.1 i rfl hi (by decide)) rfl (Nat.le_of_ble_eq_true rfl) dX8_set_50 rfl ?_
  rw [seR_at hi]
  refine V_istore_n (lv2 := [(3, .int _), (0, .ref _), (1, .int _), (2, .int _)]) dX8_set_53 (Nat.le_of_ble_eq_true rfl) rfl ?_
  refine V_aload_n 1 dX8_set_54 rfl ?_
  refine V_pc (pc2 := 55) rfl ?_
  refine G_X8_10 rfl hC2.1 rfl dX8_set_55 ?_
  refine G_X8_136 rfl y3 rfl dX8_set_58 ?_
  refine V_iload_n 2 dX8_set_61 rfl ?_
  refine V_iload_n 3 dX8_set_62 rfl ?_
  refine C_X8_81 rfl ⟨Nat.le_of_ble_eq_true rfl, Nat.le_of_ble_eq_true rfl⟩ (r_put hC2.2.1.2.2.1 i rfl hi (by decide)) rfl (Nat.le_of_ble_eq_true rfl) dX8_set_63 rfl ?_
  refine V_iload_n 0 dX8_set_66 rfl ?_
  refine V_iret (st := []) dX8_set_67 rfl ?_
  exact ⟨rfl, hC2.now (hC2.2.1.set hi b) ((FR.refl _ 1 10).put (by omega)), (hF2.wide (by omega)).put (by omega)⟩
theorem nI_rng {x : Int32} {l h : Nat} (hl : ¬ x < nI l) (hh : x ≤ nI h) (h3 : l < 2 ^ 31) (h4 : h < 2 ^ 31) : ∃ k : Nat, l ≤ k ∧ k ≤ h ∧ x = nI k := by
  have h0 : ¬ x < 0 := by
    intro hx
    apply hl
    rw [Int32.lt_iff_toInt_lt] at hx ⊢
    rw [nI_toInt h3]
    have : (0 : Int32).toInt = 0 := rfl
    omega
  obtain ⟨k, hk, rfl⟩ := nI_of h0
  refine ⟨k, ?_, ?_, rfl⟩
  · have := mt (nI_ltI hk h3).mpr hl; omega
  · exact (nI_leI hk h4).mp hh
theorem IS.set {σ : Nat → Int32} (h : IS σ) {i : Nat} (hi : i < 3) {x : Int32} (hx : ¬ x < seLo (nI i)) (hx2 : x ≤ seHi (nI i)) : IS (upd σ (25 + i) x) := by
  obtain ⟨h1, ⟨n, hn, hn2, h2⟩, h3, h4, h5, h6, h7⟩ := h
  refine ⟨h1.upd (by omega), ⟨n, hn, by rw [upd_ne (by omega)]; exact hn2, fun j hj => by rw [upd_ne (by omega), upd_ne (by omega)]; exact h2 j hj⟩, fun j hj => by rw [upd_ne (by omega)]; exact h3 j hj, ?_, ?_, ?_, by rw [upd_ne (by omega), upd_ne (by omega)]; exact h7⟩
  · match i, hi with
    | 0, _ => rw [upd_at]; obtain ⟨k, a, b, c⟩ := nI_rng (l := 0) (h := 500) hx hx2 (by decide) (by decide); exact ⟨k, b, c⟩
    | 1, _ => rw [upd_ne (by omega)]; exact h4
    | 2, _ => rw [upd_ne (by omega)]; exact h4
  · match i, hi with
    | 0, _ => rw [upd_ne (by omega)]; exact h5
    | 1, _ => rw [upd_at]; obtain ⟨k, a, b, c⟩ := nI_rng (l := 0) (h := 1) hx hx2 (by decide) (by decide); exact ⟨k, b, c⟩
    | 2, _ => rw [upd_ne (by omega)]; exact h5
  · match i, hi with
    | 0, _ => rw [upd_ne (by omega)]; exact h6
    | 1, _ => rw [upd_ne (by omega)]; exact h6
    | 2, _ => rw [upd_at]; exact nI_rng (l := 1) (h := 4) hx hx2 (by decide) (by decide)
set_option maxRecDepth 20000 in
theorem x_drop_1a {g : GE} {M : Mem} {sz : Nat} {σ τ : Nat → Int32} {hk : Bool} {n : Nat} {ps : Nat → Nat → Int32} {len : Nat} {tx : Nat → Int32} (hC : CW g M σ τ hk n ps len tx) {a b : Int32} (ha : isP a = false) : Run g m_X8_drop [rf g 0, .int a, .int b] M sz 1 6 (Thr (exN 0) M) := by
  refine Run.of rfl (by decide) (Nat.le_of_ble_eq_true rfl) ?_
  show V g m_X8_drop 0 _ [] _ _ _ _ _
  refine V_iload_n 1 dX8_drop_0 rfl ?_
  refine Ct_X8_62 rfl rfl ⟨Nat.le_of_ble_eq_true rfl, Nat.le_of_ble_eq_true rfl⟩ (r_checkParish_bad ha) rfl (Nat.le_of_ble_eq_true rfl) dX8_drop_1 rfl ?_
  exact ⟨rfl, rfl⟩
set_option maxRecDepth 20000 in
theorem x_drop_1b {g : GE} {M : Mem} {sz : Nat} {σ τ : Nat → Int32} {hk : Bool} {n : Nat} {ps : Nat → Nat → Int32} {len : Nat} {tx : Nat → Int32} (hC : CW g M σ τ hk n ps len tx) {a b : Int32} (ha : isP a = true) (hb : isP b = false) : Run g m_X8_drop [rf g 0, .int a, .int b] M sz 1 6 (Thr (exN 0) M) := by
  refine Run.of rfl (by decide) (Nat.le_of_ble_eq_true rfl) ?_
  show V g m_X8_drop 0 _ [] _ _ _ _ _
  refine V_iload_n 1 dX8_drop_0 rfl ?_
  refine C_X8_62 rfl ⟨Nat.le_of_ble_eq_true rfl, Nat.le_of_ble_eq_true rfl⟩ (r_checkParish_ok ha) rfl (Nat.le_of_ble_eq_true rfl) dX8_drop_1 rfl ?_
  refine V_iload_n 2 dX8_drop_4 rfl ?_
  refine Ct_X8_62 rfl rfl ⟨Nat.le_of_ble_eq_true rfl, Nat.le_of_ble_eq_true rfl⟩ (r_checkParish_bad hb) rfl (Nat.le_of_ble_eq_true rfl) dX8_drop_5 rfl ?_
  exact ⟨rfl, rfl⟩
set_option maxRecDepth 20000 in
theorem x_drop_2 {g : GE} {M : Mem} {sz : Nat} {σ τ : Nat → Int32} {hk : Bool} {n : Nat} {ps : Nat → Nat → Int32} {len : Nat} {tx : Nat → Int32} (hC : CW g M σ τ hk n ps len tx) (hI : I10 σ) {a b : Int32} (i j : Nat) (hi : i < 5) (hj : j < 5) (ha : a = nI i) (hb : b = nI j) (hh : hasS σ i j = false) : Run g m_X8_drop [rf g 0, .int a, .int b] M sz 1 6 (Thr (exN 2) M) := by
  subst ha hb
  obtain ⟨p0, y1, y2⟩ := hC.2.1.1
  refine Run.of rfl (by decide) (Nat.le_of_ble_eq_true rfl) ?_
  show V g m_X8_drop 0 _ [] _ _ _ _ _
  refine V_iload_n 1 dX8_drop_0 rfl ?_
  refine C_X8_62 rfl ⟨Nat.le_of_ble_eq_true rfl, Nat.le_of_ble_eq_true rfl⟩ (r_checkParish_ok (isP_nI hi)) rfl (Nat.le_of_ble_eq_true rfl) dX8_drop_1 rfl ?_
  refine V_iload_n 2 dX8_drop_4 rfl ?_
  refine C_X8_62 rfl ⟨Nat.le_of_ble_eq_true rfl, Nat.le_of_ble_eq_true rfl⟩ (r_checkParish_ok (isP_nI hj)) rfl (Nat.le_of_ble_eq_true rfl) dX8_drop_5 rfl ?_
  refine V_aload_n 0 dX8_drop_8 rfl ?_
  refine G_X8_10 rfl hC.1 rfl dX8_drop_9 ?_
  refine G_X8_89 rfl y1 rfl dX8_drop_12 ?_
  refine V_pc (pc2 := 15) rfl ?_
  refine V_iload_n 1 dX8_drop_15 rfl ?_
  refine V_iload_n 2 dX8_drop_16 rfl ?_
  refine C_X8_118 (show _ = some (eO 4 [rf g (1 + 3 + 1), .int _]) from hC.2.1.2.2.2.1.choose_spec.choose_spec.1.1) rfl ⟨Nat.le_of_ble_eq_true rfl, Nat.le_of_ble_eq_true rfl⟩ (hC.2.1.2.2.2.1.has hI i j rfl rfl hi hj) rfl (Nat.le_of_ble_eq_true rfl) dX8_drop_17 rfl ?_
  refine V_if_ne (tgt := 33) dX8_drop_20 (by decide) (fun c20 => absurd (by rw [hh]; rfl) c20) (fun c20 => ?_)
  refine V_throwS 2 1 (by decide) (by decide) rfl rfl rfl rfl rfl (Nat.le_of_ble_eq_true rfl) (Nat.le_of_ble_eq_true rfl) dX8_drop_23 dX8_drop_26 dX8_drop_27 dX8_drop_29 dX8_drop_32 ?_
  exact ⟨rfl, rfl⟩
set_option maxRecDepth 20000 in
theorem x_drop_ok {g : GE} {M : Mem} {sz : Nat} {σ τ : Nat → Int32} {hk : Bool} {n : Nat} {ps : Nat → Nat → Int32} {len : Nat} {tx : Nat → Int32} (hC : CW g M σ τ hk n ps len tx) (hn : n ≤ 6) (hI : I10 σ) {a b : Int32} (i j : Nat) (hi : i < 5) (hj : j < 5) (ha : a = nI i) (hb : b = nI j) (hh : hasS σ i j = true) : Run g m_X8_drop [rf g 0, .int a, .int b] M sz 0 0 (RetP (some (.int (nI (cnt (thr (putS σ i j 0 0)) 37)))) (fun M2 => CW g M2 (putS σ i j 0 0) (τ) (hk) (pshN n) (pshP n ps σ) (len) (tx) ∧ FR M M2 0 96)) := by
  subst ha hb
  obtain ⟨p0, y1, y2⟩ := hC.2.1.1
  refine Run.of rfl (by decide) (Nat.le_of_ble_eq_true rfl) ?_
  show V g m_X8_drop 0 _ [] _ _ _ _ _
  refine V_iload_n 1 dX8_drop_0 rfl ?_
  refine C_X8_62 rfl ⟨Nat.le_of_ble_eq_true rfl, Nat.le_of_ble_eq_true rfl⟩ (r_checkParish_ok (isP_nI hi)) rfl (Nat.le_of_ble_eq_true rfl) dX8_drop_1 rfl ?_
  refine V_iload_n 2 dX8_drop_4 rfl ?_
  refine C_X8_62 rfl ⟨Nat.le_of_ble_eq_true rfl, Nat.le_of_ble_eq_true rfl⟩ (r_checkParish_ok (isP_nI hj)) rfl (Nat.le_of_ble_eq_true rfl) dX8_drop_5 rfl ?_
  refine V_aload_n 0 dX8_drop_8 rfl ?_
  refine G_X8_10 rfl hC.1 rfl dX8_drop_9 ?_
  refine G_X8_89 rfl y1 rfl dX8_drop_12 ?_
  refine V_pc (pc2 := 15) rfl ?_
  refine V_iload_n 1 dX8_drop_15 rfl ?_
  refine V_iload_n 2 dX8_drop_16 rfl ?_
  refine C_X8_118 (show _ = some (eO 4 [rf g (1 + 3 + 1), .int _]) from hC.2.1.2.2.2.1.choose_spec.choose_spec.1.1) rfl ⟨Nat.le_of_ble_eq_true rfl, Nat.le_of_ble_eq_true rfl⟩ (hC.2.1.2.2.2.1.has hI i j rfl rfl hi hj) rfl (Nat.le_of_ble_eq_true rfl) dX8_drop_17 rfl ?_
  refine V_if_ne (tgt := 33) dX8_drop_20 (by decide) (fun c20 => ?_) (fun c20 => absurd c20 (by rw [hh]; decide))
  refine V_aload_n 0 dX8_drop_33 rfl ?_
  refine G_X8_22 rfl hC.1 rfl dX8_drop_34 ?_
  refine V_aload_n 0 dX8_drop_37 rfl ?_
  refine G_X8_10 rfl hC.1 rfl dX8_drop_38 ?_
  refine V_pc (pc2 := 41) rfl ?_
  refine Cp_X8_70 hC.2.2.2.1.choose_spec.1 rfl ⟨Nat.le_of_ble_eq_true rfl, Nat.le_of_ble_eq_true rfl⟩ (r_push hC.2.2.2.1 hn hC.2.1 (by omega)) rfl (Nat.le_of_ble_eq_true rfl) dX8_drop_41 rfl (fun _ q9 => ?_)
  have hC2 := hC.psh q9.1 q9.2
  have hF2 := q9.2
  clear q9
  obtain ⟨p9, y3, y4⟩ := hC2.2.1.1
  refine V_aload_n 0 dX8_drop_44 rfl ?_
  refine G_X8_10 rfl hC2.1 rfl dX8_drop_45 ?_
  refine G_X8_89 rfl y3 rfl dX8_drop_48 ?_
  refine V_iload_n 1 dX8_drop_51 rfl ?_
  refine V_iload_n 2 dX8_drop_52 rfl ?_
  refine V_iconst (v := 0) dX8_drop_53 rfl ?_
  refine V_iconst (v := 0) dX8_drop_54 rfl ?_
  refine V_pc (pc2 := 55) rfl ?_
  refine Cp_X8_108 (show _ = some (eO 4 [rf g (1 + 3 + 1), .int _]) from hC2.2.1.2.2.2.1.choose_spec.choose_spec.1.1) rfl ⟨Nat.le_of_ble_eq_true rfl, Nat.le_of_ble_eq_true rfl⟩ (hC2.2.1.2.2.2.1.lay i j rfl rfl hi hj (hasNe hh) (Or.inl ⟨rfl, rfl⟩)) rfl (Nat.le_of_ble_eq_true rfl) dX8_drop_55 rfl (fun _ q8 => ?_)
  have hC3 := hC2.now (hC2.2.1.tab q8.1 q8.2 (fun k hk => putS_big hi hj (hasNe hh) hk)) (q8.2.wide (by omega))
  have hF3 := q8.2
  clear q8
  obtain ⟨z9, z3, z4⟩ := hC3.2.1.1
  refine V_aload_n 0 dX8_drop_58 rfl ?_
  refine G_X8_36 rfl hC3.1 rfl dX8_drop_59 ?_
  refine V_aload_n 0 dX8_drop_62 rfl ?_
  refine G_X8_10 rfl hC3.1 rfl dX8_drop_63 ?_
  refine G_X8_89 rfl z3 rfl dX8_drop_66 ?_
  refine C_X8_114 hC3.2.2.2.2.2.1.1 rfl ⟨Nat.le_of_ble_eq_true rfl, Nat.le_of_ble_eq_true rfl⟩ (hC3.2.1.2.2.2.1.standing hC3.2.2.2.2.2.1) rfl (Nat.le_of_ble_eq_true rfl) dX8_drop_69 rfl ?_
  refine V_iret (st := []) dX8_drop_72 rfl ?_
  exact ⟨rfl, hC3, FR.trans (FR.wide hF2 (b2 := 0) (n2 := 96) (by omega)) hF3 (by omega)⟩
theorem IS.put {σ : Nat → Int32} (h : IS σ) {a b : Nat} {u d : Int32} (ha : a < 5) (hb : b < 5) (hab : a ≠ b) (hud : UD u d) : IS (putS σ a b u d) := by
  obtain ⟨h1, ⟨n, hn, hn2, h2⟩, h3, h4, h5, h6, h7⟩ := h
  have e : ∀ k, 20 ≤ k → putS σ a b u d k = σ k := fun k hk => putS_big ha hb hab hk
  exact ⟨h1.put ha hb hab hud, ⟨n, hn, by rw [e _ (by omega)]; exact hn2, fun j hj => by rw [e _ (by omega), e _ (by omega)]; exact h2 j hj⟩, fun j hj => by rw [e _ (by omega)]; exact h3 j hj, by rw [e _ (by omega)]; exact h4, by rw [e _ (by omega)]; exact h5, by rw [e _ (by omega)]; exact h6, by rw [e _ (by omega), e _ (by omega)]; exact h7⟩
