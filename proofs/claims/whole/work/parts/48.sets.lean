/-! set, drop, table, bolt -/
theorem i_lt {a : Int32} (n : Nat) (h : n + 1 < 2 ^ 31) : a < nI (n + 1) ↔ a ≤ nI n := by
  rw [Int32.lt_iff_toInt_lt, Int32.le_iff_toInt_le, nI_toInt h, nI_toInt (by omega)]; omega
def seLo (a : Int32) : Int32 := if a = 2 then 1 else 0
def seHi (a : Int32) : Int32 := if a = 0 then 500 else if a = 1 then 1 else 4
theorem TS.has {g : GE} {M : Mem} {sz : Nat} {t : Nat} {σ : Nat → Int32} (h : TS g M t σ) (hI : I10 σ) {x y : Int32} (a b : Nat) (hx : x = nI a) (hy : y = nI b) (ha : a < 5) (hb : b < 5) : Run g m_X4_has [rf g t, .int x, .int y] M sz 0 0 (Ret (some (.int (bI (hasS σ a b)))) M) := by
  obtain ⟨f, p, h1, h2, h3, h4⟩ := h
  have e := r_has (sz := sz) h1 a b hx hy ha hb
  have e2 : decide (0 < f (5 * a + b)) = hasS σ a b := by
    by_cases hab : a = b
    · subst hab
      rw [show 5 * a + a = 6 * a by omega, h3 a ha]
      cases h9 : hasS σ a a with
      | false => rfl
      | true => exact absurd rfl (hasNe h9)
    · rw [h2 a b ha hb hab, hI.pos ha hb hab]
  rw [e2] at e
  exact e
theorem TS.up {g : GE} {M : Mem} {sz : Nat} {t : Nat} {σ : Nat → Int32} (h : TS g M t σ) {x y : Int32} (a b : Nat) (hx : x = nI a) (hy : y = nI b) (ha : a < 5) (hb : b < 5) (hab : a ≠ b) : Run g m_X4_up [rf g t, .int x, .int y] M sz 0 0 (Ret (some (.int (upS σ a b))) M) := by
  obtain ⟨f, p, h1, h2, h3, h4⟩ := h
  have e := r_up (sz := sz) h1 a b hx hy ha hb
  rw [h2 a b ha hb hab] at e
  exact e
theorem TS.standing {g : GE} {M : Mem} {sz : Nat} {t : Nat} {σ : Nat → Int32} (h : TS g M t σ) (hR : RW g M) : Run g m_X3_standing [rf g 85, rf g t] M sz 0 0 (Ret (some (.int (nI (cnt (thr σ) 37)))) M) := by
  obtain ⟨f, p, h1, h2⟩ := h
  exact r_standing hR h1 h2
theorem TS.lay {g : GE} {M : Mem} {sz : Nat} {t : Nat} {σ : Nat → Int32} (h : TS g M t σ) {x y : Int32} (a b : Nat) (hx : x = nI a) (hy : y = nI b) (ha : a < 5) (hb : b < 5) (hab : a ≠ b) {u d : Int32} (hud : UD u d) : Run g m_X4_lay [rf g t, .int x, .int y, .int u, .int d] M sz 0 0 (RetP none (fun M1 => TS g M1 t (putS σ a b u d) ∧ FR M M1 t 2)) := by
  obtain ⟨f, p, h1, h2⟩ := h
  refine (r_lay h1 a b hx hy ha hb hab).mono fun o M1 q => ⟨q.1, ?_⟩
  rw [q.2]
  exact ⟨⟨_, _, ⟨mup_eq _ _ _, (mup_ne _ _ (by omega)).trans (mup_eq _ _ _)⟩, h2.lay ha hb hab hud⟩, ((FR.refl M t 2).put (by omega)).put (by omega)⟩
set_option maxRecDepth 20000 in
theorem r_least {g : GE} {M : Mem} {sz : Nat} (a : Int32) : Run g m_X8_leastOfSetting [.int a] M sz 0 0 (Ret (some (.int (seLo a))) M) := by
  refine Run.of rfl (by decide) (Nat.le_of_ble_eq_true rfl) ?_
  show V g m_X8_leastOfSetting 0 _ [] _ _ _ _ _
  refine V_iload_n 0 dX8_leastOfSetting_0 rfl ?_
  refine V_iconst (v := 2) dX8_leastOfSetting_1 rfl ?_
  refine V_icmp_ne (tgt := 9) dX8_leastOfSetting_2 (by decide) (fun c2 => ?_) (fun c2 => ?_)
  · refine V_iconst (v := 0) dX8_leastOfSetting_9 rfl ?_
    refine V_iret (st := []) dX8_leastOfSetting_10 rfl ?_
    exact ⟨by unfold seLo; rw [if_neg c2], rfl⟩
  · refine V_iconst (v := 1) dX8_leastOfSetting_5 rfl ?_
    refine V_goto (tgt := 10) dX8_leastOfSetting_6 (by decide) ?_
    refine V_iret (st := []) dX8_leastOfSetting_10 rfl ?_
    exact ⟨by unfold seLo; rw [if_pos c2], rfl⟩

set_option maxRecDepth 20000 in
theorem r_most {g : GE} {M : Mem} {sz : Nat} (a : Int32) : Run g m_X8_mostOfSetting [.int a] M sz 0 0 (Ret (some (.int (seHi a))) M) := by
  refine Run.of rfl (by decide) (Nat.le_of_ble_eq_true rfl) ?_
  show V g m_X8_mostOfSetting 0 _ [] _ _ _ _ _
  refine V_iload_n 0 dX8_mostOfSetting_0 rfl ?_
  refine V_if_ne (tgt := 8) dX8_mostOfSetting_1 (by decide) (fun c1 => ?_) (fun c1 => ?_)
  · refine V_iload_n 0 dX8_mostOfSetting_8 rfl ?_
    refine V_iconst (v := 1) dX8_mostOfSetting_9 rfl ?_
    refine V_icmp_ne (tgt := 17) dX8_mostOfSetting_10 (by decide) (fun c10 => ?_) (fun c10 => ?_)
    · refine V_iconst (v := 4) dX8_mostOfSetting_17 rfl ?_
      refine V_iret (st := []) dX8_mostOfSetting_18 rfl ?_
      exact ⟨by unfold seHi; rw [if_neg c1, if_neg c10], rfl⟩
    · refine V_iconst (v := 1) dX8_mostOfSetting_13 rfl ?_
      refine V_goto (tgt := 18) dX8_mostOfSetting_14 (by decide) ?_
      refine V_iret (st := []) dX8_mostOfSetting_18 rfl ?_
      exact ⟨by unfold seHi; rw [if_neg c1, if_pos c10], rfl⟩
  · refine V_sipush (v := 500) dX8_mostOfSetting_4 (by decide) ?_
    refine V_iret (st := []) dX8_mostOfSetting_7 rfl ?_
    exact ⟨by unfold seHi; rw [if_pos c1], rfl⟩

set_option maxRecDepth 20000 in
theorem x_set_1 {g : GE} {M : Mem} {sz : Nat} {σ τ : Nat → Int32} {hk : Bool} {n : Nat} {ps : Nat → Nat → Int32} {len : Nat} {tx : Nat → Int32} (hC : CW g M σ τ hk n ps len tx) {a b : Int32} (ha : a < 0 ∨ ¬ a ≤ 2) : Run g m_X8_set [rf g 0, .int a, .int b] M sz 1 6 (Thr (exN 0) M) := by
  refine Run.of rfl (by decide) (Nat.le_of_ble_eq_true rfl) ?_
  show V g m_X8_set 0 _ [] _ _ _ _ _
  refine V_iload_n 1 dX8_set_0 rfl ?_
  refine V_if_lt (tgt := 9) dX8_set_1 (by decide) (fun c1 => ?_) (fun c1 => ?_)
  · refine V_throwS 0 2 (by decide) (by decide) rfl rfl rfl rfl rfl (Nat.le_of_ble_eq_true rfl) (Nat.le_of_ble_eq_true rfl) dX8_set_9 dX8_set_12 dX8_set_13 dX8_set_15 dX8_set_18 ?_
    exact ⟨rfl, rfl⟩
  · refine V_iload_n 1 dX8_set_4 rfl ?_
    refine V_iconst (v := 3) dX8_set_5 rfl ?_
    refine V_icmp_lt (tgt := 19) dX8_set_6 (by decide) (fun c6 => ?_) (fun c6 => ?_)
    · exact absurd ((i_lt 2 (by decide)).mp c6) (fun h => ha.elim c1 (fun h2 => h2 h))
    · refine V_throwS 0 2 (by decide) (by decide) rfl rfl rfl rfl rfl (Nat.le_of_ble_eq_true rfl) (Nat.le_of_ble_eq_true rfl) dX8_set_9 dX8_set_12 dX8_set_13 dX8_set_15 dX8_set_18 ?_
      exact ⟨rfl, rfl⟩

set_option maxRecDepth 20000 in
theorem x_set_2 {g : GE} {M : Mem} {sz : Nat} {σ τ : Nat → Int32} {hk : Bool} {n : Nat} {ps : Nat → Nat → Int32} {len : Nat} {tx : Nat → Int32} (hC : CW g M σ τ hk n ps len tx) {a b : Int32} (ha : ¬ a < 0) (ha2 : a ≤ 2) (hb : b < seLo a ∨ ¬ b ≤ seHi a) : Run g m_X8_set [rf g 0, .int a, .int b] M sz 1 6 (Thr (exN 1) M) := by
  refine Run.of rfl (by decide) (Nat.le_of_ble_eq_true rfl) ?_
  show V g m_X8_set 0 _ [] _ _ _ _ _
  refine V_iload_n 1 dX8_set_0 rfl ?_
  refine V_if_lt (tgt := 9) dX8_set_1 (by decide) (fun c1 => absurd c1 ha) (fun c1 => ?_)
  refine V_iload_n 1 dX8_set_4 rfl ?_
  refine V_iconst (v := 3) dX8_set_5 rfl ?_
  refine V_icmp_lt (tgt := 19) dX8_set_6 (by decide) (fun c6 => ?_) (fun c6 => absurd ((i_lt 2 (by decide)).mpr ha2) c6)
  refine V_iload_n 2 dX8_set_19 rfl ?_
  refine V_iload_n 1 dX8_set_20 rfl ?_
  refine V_pc (pc2 := 21) rfl ?_
  refine C_X8_129 rfl ⟨Nat.le_of_ble_eq_true rfl, Nat.le_of_ble_eq_true rfl⟩ (r_least _) rfl (Nat.le_of_ble_eq_true rfl) dX8_set_21 rfl ?_
  refine V_iload_n 1 dX8_set_24 rfl ?_
  refine C_X8_133 rfl ⟨Nat.le_of_ble_eq_true rfl, Nat.le_of_ble_eq_true rfl⟩ (r_most _) rfl (Nat.le_of_ble_eq_true rfl) dX8_set_25 rfl ?_
  refine Ct_X8_66 rfl rfl ⟨Nat.le_of_ble_eq_true rfl, Nat.le_of_ble_eq_true rfl⟩ (r_checkRange_bad hb) rfl (Nat.le_of_ble_eq_true rfl) dX8_set_28 rfl ?_
  exact ⟨rfl, rfl⟩

set_option maxRecDepth 20000 in
theorem x_set_ok {g : GE} {M : Mem} {sz : Nat} {σ τ : Nat → Int32} {hk : Bool} {n : Nat} {ps : Nat → Nat → Int32} {len : Nat} {tx : Nat → Int32} (hC : CW g M σ τ hk n ps len tx) (hn : n ≤ 6) {a b : Int32} (i : Nat) (hi : i < 3) (ha : a = nI i) (hb : ¬ b < seLo a) (hb2 : b ≤ seHi a) : Run g m_X8_set [rf g 0, .int a, .int b] M sz 0 0 (RetP (some (.int (σ (25 + i)))) (fun M2 => CW g M2 (upd σ (25 + i) b) (τ) (hk) (pshN n) (pshP n ps σ) (len) (tx) ∧ FR M M2 0 96)) := by
  subst ha
  obtain ⟨p0, y1, y2⟩ := hC.2.1.1
  refine Run.of rfl (by decide) (Nat.le_of_ble_eq_true rfl) ?_
  show V g m_X8_set 0 _ [] _ _ _ _ _
  refine V_iload_n 1 dX8_set_0 rfl ?_
  refine V_if_lt (tgt := 9) dX8_set_1 (by decide) (fun c1 => absurd c1 (nI_pos (by omega))) (fun c1 => ?_)
  refine V_iload_n 1 dX8_set_4 rfl ?_
  refine V_iconst (v := 3) dX8_set_5 rfl ?_
  refine V_icmp_lt (tgt := 19) dX8_set_6 (by decide) (fun c6 => ?_) (fun c6 => absurd (nI_lt (b := 3) hi (by decide)) c6)
  refine V_iload_n 2 dX8_set_19 rfl ?_
  refine V_iload_n 1 dX8_set_20 rfl ?_
  refine V_pc (pc2 := 21) rfl ?_
  refine C_X8_129 rfl ⟨Nat.le_of_ble_eq_true rfl, Nat.le_of_ble_eq_true rfl⟩ (r_least _) rfl (Nat.le_of_ble_eq_true rfl) dX8_set_21 rfl ?_
  refine V_iload_n 1 dX8_set_24 rfl ?_
  refine C_X8_133 rfl ⟨Nat.le_of_ble_eq_true rfl, Nat.le_of_ble_eq_true rfl⟩ (r_most _) rfl (Nat.le_of_ble_eq_true rfl) dX8_set_25 rfl ?_
  refine C_X8_66 rfl ⟨Nat.le_of_ble_eq_true rfl, Nat.le_of_ble_eq_true rfl⟩ (r_checkRange_ok hb hb2) rfl (Nat.le_of_ble_eq_true rfl) dX8_set_28 rfl ?_
  refine V_aload_n 0 dX8_set_31 rfl ?_
  refine G_X8_22 rfl hC.1 rfl dX8_set_32 ?_
  refine V_aload_n 0 dX8_set_35 rfl ?_
  refine G_X8_10 rfl hC.1 rfl dX8_set_36 ?_
  refine V_pc (pc2 := 39) rfl ?_
  refine Cp_X8_70 hC.2.2.2.1.choose_spec.1 rfl ⟨Nat.le_of_ble_eq_true rfl, Nat.le_of_ble_eq_true rfl⟩ (r_push hC.2.2.2.1 hn hC.2.1 (by omega)) rfl (Nat.le_of_ble_eq_true rfl) dX8_set_39 rfl (fun _ q9 => ?_)
  have hC2 := hC.psh q9.1 q9.2
  have hF2 := q9.2
  clear q9
  obtain ⟨p9, y3, y4⟩ := hC2.2.1.1
  refine V_aload_n 0 dX8_set_42 rfl ?_
  refine G_X8_10 rfl hC2.1 rfl dX8_set_43 ?_
  refine G_X8_136 rfl y3 rfl dX8_set_46 ?_
  refine V_iload_n 1 dX8_set_49 rfl ?_
  refine C_X8_77 rfl ⟨Nat.le_of_ble_eq_true rfl, Nat.le_of_ble_eq_true rfl⟩ (r_at hC2.2.1.2.2.1 i rfl hi (by decide)) rfl (Nat.le_of_ble_eq_true rfl) dX8_set_50 rfl ?_
  rw [seR_at hi]
  refine V_istore_n (lv2 := [(3, .int _), (0, .ref _), (1, .int _), (2, .int _)]) dX8_set_53 (Nat.le_of_ble_eq_true rfl) rfl ?_
  refine V_aload_n 1 dX8_set_54 rfl ?_
  refine V_pc (pc2 := 55) rfl ?_
  refine G_X8_10 rfl hC2.1 rfl dX8_set_55 ?_
  refine G_X8_136 rfl y3 rfl dX8_set_58 ?_
  refine V_iload_n 2 dX8_set_61 rfl ?_
  refine V_iload_n 3 dX8_set_62 rfl ?_
  refine C_X8_81 rfl ⟨Nat.le_of_ble_eq_true rfl, Nat.le_of_ble_eq_true rfl⟩ (r_put hC2.2.1.2.2.1 i rfl hi (by decide)) rfl (Nat.le_of_ble_eq_true rfl) dX8_set_63 rfl ?_
  refine V_iload_n 0 dX8_set_66 rfl ?_
  refine V_iret (st := []) dX8_set_67 rfl ?_
  exact ⟨rfl, hC2.now (hC2.2.1.set hi b) ((FR.refl _ 1 10).put (by omega)), (hF2.wide (by omega)).put (by omega)⟩

set_option maxRecDepth 20000 in
theorem q9_set_1 {g : GE} {M : Mem} {sz : Nat} {σ sn : Nat → Int32} {hk : Bool} {n : Nat} {ps : Nat → Nat → Int32} {len : Nat} {tx : Nat → Int32} {th : Int32} (hL : ML g M σ sn hk n ps len tx th) {a b : Int32} (ha : a < 0 ∨ ¬ a ≤ 2) : Run g m_X9_set [rf g 96, .int a, .int b] M sz 0 0 (RetP (some (.int 0)) (fun M2 => ML g M2 (σ) (sn) (hk) (n) (ps) (len) (tx) (1) ∧ FR M M2 96 9)) := by
  obtain ⟨⟨v, hM, v0, v1, v2, v3⟩, ⟨pf, f1, f2⟩, f3, f4, f5⟩ := id hL
  refine Run.of rfl (by decide) (Nat.le_of_ble_eq_true rfl) ?_
  show V g m_X9_set 0 _ [] _ _ _ _ _
  refine V_iload_n 1 dX9_set_0 rfl ?_
  refine V_if_ne (tgt := 15) dX9_set_1 (by decide) (fun c1 => ?_) (fun c1 => ?_)
  · refine V_iload_n 1 dX9_set_15 rfl ?_
    refine V_iconst (v := 1) dX9_set_16 rfl ?_
    refine V_icmp_ne (tgt := 29) dX9_set_17 (by decide) (fun c17 => ?_) (fun c17 => ?_)
    · refine V_iload_n 2 dX9_set_29 rfl ?_
      refine V_iconst (v := 1) dX9_set_30 rfl ?_
      refine V_iconst (v := 4) dX9_set_31 rfl ?_
      refine C_X9_44 rfl ⟨Nat.le_of_ble_eq_true rfl, Nat.le_of_ble_eq_true rfl⟩ (r9_in _ _ _) rfl (Nat.le_of_ble_eq_true rfl) dX9_set_32 rfl ?_
      refine V_istore_n (lv2 := [(3, .int _), (0, .ref _), (1, .int _), (2, .int _)]) dX9_set_35 (Nat.le_of_ble_eq_true rfl) rfl ?_
      refine V_aload_n 1 dX9_set_36 rfl ?_
      refine V_iload_n 2 dX9_set_37 rfl ?_
      refine V_pc (pc2 := 38) rfl ?_
      refine V_iconst (v := 0) dX9_set_38 rfl ?_
      refine V_iconst (v := 2) dX9_set_39 rfl ?_
      refine C_X9_44 rfl ⟨Nat.le_of_ble_eq_true rfl, Nat.le_of_ble_eq_true rfl⟩ (r9_in _ _ _) rfl (Nat.le_of_ble_eq_true rfl) dX9_set_40 rfl ?_
      refine V_if_ne (tgt := 50) dX9_set_43 (by decide) (fun c43 => absurd (by rw [inI_f ha]; rfl) c43) (fun c43 => ?_)
      refine V_iconst (v := 1) dX9_set_46 rfl ?_
      refine V_goto (tgt := 59) dX9_set_47 (by decide) ?_
      refine C_X9_111 hM.1 rfl ⟨Nat.le_of_ble_eq_true rfl, Nat.le_of_ble_eq_true rfl⟩ (r9_refused hM 1) rfl (Nat.le_of_ble_eq_true rfl) dX9_set_59 rfl ?_
      refine V_if_eq (tgt := 67) dX9_set_62 (by decide) (fun c62 => absurd c62 (by decide)) (fun c62 => ?_)
      refine V_pc (pc2 := 65) rfl ?_
      refine V_iconst (v := 0) dX9_set_65 rfl ?_
      refine V_iret (st := []) dX9_set_66 rfl ?_
      refine ⟨rfl, hL.thr hM v0 v1 v2, (FR.refl M 96 9).put (by omega)⟩
    · refine V_iload_n 2 dX9_set_20 rfl ?_
      refine V_iconst (v := 0) dX9_set_21 rfl ?_
      refine V_iconst (v := 1) dX9_set_22 rfl ?_
      refine C_X9_44 rfl ⟨Nat.le_of_ble_eq_true rfl, Nat.le_of_ble_eq_true rfl⟩ (r9_in _ _ _) rfl (Nat.le_of_ble_eq_true rfl) dX9_set_23 rfl ?_
      refine V_goto (tgt := 35) dX9_set_26 (by decide) ?_
      refine V_istore_n (lv2 := [(3, .int _), (0, .ref _), (1, .int _), (2, .int _)]) dX9_set_35 (Nat.le_of_ble_eq_true rfl) rfl ?_
      refine V_aload_n 1 dX9_set_36 rfl ?_
      refine V_pc (pc2 := 37) rfl ?_
      refine V_iload_n 2 dX9_set_37 rfl ?_
      refine V_iconst (v := 0) dX9_set_38 rfl ?_
      refine V_iconst (v := 2) dX9_set_39 rfl ?_
      refine C_X9_44 rfl ⟨Nat.le_of_ble_eq_true rfl, Nat.le_of_ble_eq_true rfl⟩ (r9_in _ _ _) rfl (Nat.le_of_ble_eq_true rfl) dX9_set_40 rfl ?_
      refine V_if_ne (tgt := 50) dX9_set_43 (by decide) (fun c43 => absurd (by rw [inI_f ha]; rfl) c43) (fun c43 => ?_)
      refine V_iconst (v := 1) dX9_set_46 rfl ?_
      refine V_goto (tgt := 59) dX9_set_47 (by decide) ?_
      refine C_X9_111 hM.1 rfl ⟨Nat.le_of_ble_eq_true rfl, Nat.le_of_ble_eq_true rfl⟩ (r9_refused hM 1) rfl (Nat.le_of_ble_eq_true rfl) dX9_set_59 rfl ?_
      refine V_pc (pc2 := 62) rfl ?_
      refine V_if_eq (tgt := 67) dX9_set_62 (by decide) (fun c62 => absurd c62 (by decide)) (fun c62 => ?_)
      refine V_iconst (v := 0) dX9_set_65 rfl ?_
      refine V_iret (st := []) dX9_set_66 rfl ?_
      refine ⟨rfl, hL.thr hM v0 v1 v2, (FR.refl M 96 9).put (by omega)⟩
  · refine V_iload_n 2 dX9_set_4 rfl ?_
    refine V_iconst (v := 0) dX9_set_5 rfl ?_
    refine V_sipush (v := 500) dX9_set_6 (by decide) ?_
    refine C_X9_44 rfl ⟨Nat.le_of_ble_eq_true rfl, Nat.le_of_ble_eq_true rfl⟩ (r9_in _ _ _) rfl (Nat.le_of_ble_eq_true rfl) dX9_set_9 rfl ?_
    refine V_goto (tgt := 35) dX9_set_12 (by decide) ?_
    refine V_istore_n (lv2 := [(3, .int _), (0, .ref _), (1, .int _), (2, .int _)]) dX9_set_35 (Nat.le_of_ble_eq_true rfl) rfl ?_
    refine V_aload_n 1 dX9_set_36 rfl ?_
    refine V_pc (pc2 := 37) rfl ?_
    refine V_iload_n 2 dX9_set_37 rfl ?_
    refine V_iconst (v := 0) dX9_set_38 rfl ?_
    refine V_iconst (v := 2) dX9_set_39 rfl ?_
    refine C_X9_44 rfl ⟨Nat.le_of_ble_eq_true rfl, Nat.le_of_ble_eq_true rfl⟩ (r9_in _ _ _) rfl (Nat.le_of_ble_eq_true rfl) dX9_set_40 rfl ?_
    refine V_if_ne (tgt := 50) dX9_set_43 (by decide) (fun c43 => absurd (by rw [inI_f ha]; rfl) c43) (fun c43 => ?_)
    refine V_iconst (v := 1) dX9_set_46 rfl ?_
    refine V_goto (tgt := 59) dX9_set_47 (by decide) ?_
    refine C_X9_111 hM.1 rfl ⟨Nat.le_of_ble_eq_true rfl, Nat.le_of_ble_eq_true rfl⟩ (r9_refused hM 1) rfl (Nat.le_of_ble_eq_true rfl) dX9_set_59 rfl ?_
    refine V_pc (pc2 := 62) rfl ?_
    refine V_if_eq (tgt := 67) dX9_set_62 (by decide) (fun c62 => absurd c62 (by decide)) (fun c62 => ?_)
    refine V_iconst (v := 0) dX9_set_65 rfl ?_
    refine V_iret (st := []) dX9_set_66 rfl ?_
    refine ⟨rfl, hL.thr hM v0 v1 v2, (FR.refl M 96 9).put (by omega)⟩

set_option maxRecDepth 20000 in
theorem q9_set_20 {g : GE} {M : Mem} {sz : Nat} {σ sn : Nat → Int32} {hk : Bool} {n : Nat} {ps : Nat → Nat → Int32} {len : Nat} {tx : Nat → Int32} {th : Int32} (hL : ML g M σ sn hk n ps len tx th) {b : Int32} (hb : b < 0 ∨ ¬ b ≤ 500) : Run g m_X9_set [rf g 96, .int 0, .int b] M sz 0 0 (RetP (some (.int 0)) (fun M2 => ML g M2 (σ) (sn) (hk) (n) (ps) (len) (tx) (2) ∧ FR M M2 96 9)) := by
  obtain ⟨⟨v, hM, v0, v1, v2, v3⟩, ⟨pf, f1, f2⟩, f3, f4, f5⟩ := id hL
  refine Run.of rfl (by decide) (Nat.le_of_ble_eq_true rfl) ?_
  show V g m_X9_set 0 _ [] _ _ _ _ _
  refine V_iload_n 1 dX9_set_0 rfl ?_
  refine V_if_ne (tgt := 15) dX9_set_1 (by decide) (fun c1 => absurd rfl c1) (fun c1 => ?_)
  refine V_iload_n 2 dX9_set_4 rfl ?_
  refine V_iconst (v := 0) dX9_set_5 rfl ?_
  refine V_sipush (v := 500) dX9_set_6 (by decide) ?_
  refine C_X9_44 rfl ⟨Nat.le_of_ble_eq_true rfl, Nat.le_of_ble_eq_true rfl⟩ (r9_in _ _ _) rfl (Nat.le_of_ble_eq_true rfl) dX9_set_9 rfl ?_
  refine V_goto (tgt := 35) dX9_set_12 (by decide) ?_
  refine V_pc (pc2 := 35) rfl ?_
  refine V_istore_n (lv2 := [(3, .int _), (0, .ref _), (1, .int _), (2, .int _)]) dX9_set_35 (Nat.le_of_ble_eq_true rfl) rfl ?_
  refine V_aload_n 1 dX9_set_36 rfl ?_
  refine V_iload_n 2 dX9_set_37 rfl ?_
  refine V_iconst (v := 0) dX9_set_38 rfl ?_
  refine V_iconst (v := 2) dX9_set_39 rfl ?_
  refine C_X9_44 rfl ⟨Nat.le_of_ble_eq_true rfl, Nat.le_of_ble_eq_true rfl⟩ (r9_in _ _ _) rfl (Nat.le_of_ble_eq_true rfl) dX9_set_40 rfl ?_
  refine V_if_ne (tgt := 50) dX9_set_43 (by decide) (fun c43 => ?_) (fun c43 => absurd c43 (by decide))
  refine V_iload_n 0 dX9_set_50 rfl ?_
  refine V_pc (pc2 := 51) rfl ?_
  refine V_if_eq (tgt := 58) dX9_set_51 (by decide) (fun c51 => ?_) (fun c51 => absurd (by rw [inI_f hb]; rfl) c51)
  refine V_iconst (v := 2) dX9_set_58 rfl ?_
  refine C_X9_111 hM.1 rfl ⟨Nat.le_of_ble_eq_true rfl, Nat.le_of_ble_eq_true rfl⟩ (r9_refused hM 2) rfl (Nat.le_of_ble_eq_true rfl) dX9_set_59 rfl ?_
  refine V_if_eq (tgt := 67) dX9_set_62 (by decide) (fun c62 => absurd c62 (by decide)) (fun c62 => ?_)
  refine V_iconst (v := 0) dX9_set_65 rfl ?_
  refine V_iret (st := []) dX9_set_66 rfl ?_
  refine ⟨rfl, hL.thr hM v0 v1 v2, (FR.refl M 96 9).put (by omega)⟩

set_option maxRecDepth 20000 in
theorem q9_set_ok0 {g : GE} {M : Mem} {sz : Nat} {σ sn : Nat → Int32} {hk : Bool} {n : Nat} {ps : Nat → Nat → Int32} {len : Nat} {tx : Nat → Int32} {th : Int32} (hL : ML g M σ sn hk n ps len tx th) (hn : n ≤ 6) {b : Int32} (hb : ¬ b < 0) (hb2 : b ≤ 500) : Run g m_X9_set [rf g 96, .int 0, .int b] M sz 0 0 (RetP (some (.int (σ (25 + 0)))) (fun M2 => ML g M2 (upd σ (25 + 0) b) (sn) (hk) (pshN n) (pshP n ps σ) (len) (tx) (0) ∧ FR M M2 96 9)) := by
  obtain ⟨⟨v, hM, v0, v1, v2, v3⟩, ⟨pf, f1, f2⟩, f3, f4, f5⟩ := id hL
  refine Run.of rfl (by decide) (Nat.le_of_ble_eq_true rfl) ?_
  show V g m_X9_set 0 _ [] _ _ _ _ _
  refine V_iload_n 1 dX9_set_0 rfl ?_
  refine V_if_ne (tgt := 15) dX9_set_1 (by decide) (fun c1 => absurd rfl c1) (fun c1 => ?_)
  refine V_iload_n 2 dX9_set_4 rfl ?_
  refine V_iconst (v := 0) dX9_set_5 rfl ?_
  refine V_sipush (v := 500) dX9_set_6 (by decide) ?_
  refine C_X9_44 rfl ⟨Nat.le_of_ble_eq_true rfl, Nat.le_of_ble_eq_true rfl⟩ (r9_in _ _ _) rfl (Nat.le_of_ble_eq_true rfl) dX9_set_9 rfl ?_
  refine V_goto (tgt := 35) dX9_set_12 (by decide) ?_
  refine V_pc (pc2 := 35) rfl ?_
  refine V_istore_n (lv2 := [(3, .int _), (0, .ref _), (1, .int _), (2, .int _)]) dX9_set_35 (Nat.le_of_ble_eq_true rfl) rfl ?_
  refine V_aload_n 1 dX9_set_36 rfl ?_
  refine V_iload_n 2 dX9_set_37 rfl ?_
  refine V_iconst (v := 0) dX9_set_38 rfl ?_
  refine V_iconst (v := 2) dX9_set_39 rfl ?_
  refine C_X9_44 rfl ⟨Nat.le_of_ble_eq_true rfl, Nat.le_of_ble_eq_true rfl⟩ (r9_in _ _ _) rfl (Nat.le_of_ble_eq_true rfl) dX9_set_40 rfl ?_
  refine V_if_ne (tgt := 50) dX9_set_43 (by decide) (fun c43 => ?_) (fun c43 => absurd c43 (by decide))
  refine V_iload_n 0 dX9_set_50 rfl ?_
  refine V_pc (pc2 := 51) rfl ?_
  refine V_if_eq (tgt := 58) dX9_set_51 (by decide) (fun c51 => absurd c51 (by rw [inI_t hb hb2]; decide)) (fun c51 => ?_)
  refine V_iconst (v := 0) dX9_set_54 rfl ?_
  refine V_goto (tgt := 59) dX9_set_55 (by decide) ?_
  refine C_X9_111 hM.1 rfl ⟨Nat.le_of_ble_eq_true rfl, Nat.le_of_ble_eq_true rfl⟩ (r9_refused hM 0) rfl (Nat.le_of_ble_eq_true rfl) dX9_set_59 rfl ?_
  refine V_if_eq (tgt := 67) dX9_set_62 (by decide) (fun c62 => ?_) (fun c62 => absurd (by decide) c62)
  refine V_aload_n 1 dX9_set_67 rfl ?_
  refine Cp_X9_114 (hM.v _).1 rfl ⟨Nat.le_of_ble_eq_true rfl, Nat.le_of_ble_eq_true rfl⟩ (r9_saves (hM.v _) (show _ = some (eI g 390 pf) from (mup_ne _ _ (by decide)).trans f1) n (show upd v 3 _ 0 = nI n from v0) hn f2) rfl (Nat.le_of_ble_eq_true rfl) dX9_set_68 rfl (fun _ q9 => ?_)
  have hL2 := hL.sav hM v0 v1 v2 q9
  have hF2 := SV.fr q9
  clear q9
  obtain ⟨⟨w, hW, w0, w1, w2, w3⟩, ⟨pf2, g1, g2⟩, g3, g4, g5⟩ := id hL2
  refine V_aload_n 1 dX9_set_71 rfl ?_
  refine V_pc (pc2 := 72) rfl ?_
  refine G_X9_7 rfl hW.1 rfl dX9_set_72 ?_
  refine V_bipush (v := 25) dX9_set_75 (by decide) ?_
  refine V_iload_n 2 dX9_set_77 rfl ?_
  refine V_iadd dX9_set_78 ?_
  refine V_iald hW.2.1 (show vp_in (nI 25) 65 from vp_in_nI (by decide) (by decide)) dX9_set_79 ?_
  refine V_istore (lv2 := [(4, .int _), (3, .int _), (0, .ref _), (1, .int _), (2, .int _)]) dX9_set_80 (Nat.le_of_ble_eq_true rfl) rfl ?_
  refine V_aload_n 2 dX9_set_82 rfl ?_
  refine G_X9_7 rfl hW.1 rfl dX9_set_83 ?_
  refine V_pc (pc2 := 86) rfl ?_
  refine V_bipush (v := 25) dX9_set_86 (by decide) ?_
  refine V_iload_n 3 dX9_set_88 rfl ?_
  refine V_iadd dX9_set_89 ?_
  refine V_iload_n 4 dX9_set_90 rfl ?_
  refine V_iast hW.2.1 (show vp_in (nI 25) 65 from vp_in_nI (by decide) (by decide)) dX9_set_91 ?_
  refine V_iload 0 dX9_set_92 rfl ?_
  refine V_iret (st := []) dX9_set_94 rfl ?_
  exact ⟨rfl, hL2.set _, hF2.put (by omega)⟩

set_option maxRecDepth 20000 in
theorem q9_set_21 {g : GE} {M : Mem} {sz : Nat} {σ sn : Nat → Int32} {hk : Bool} {n : Nat} {ps : Nat → Nat → Int32} {len : Nat} {tx : Nat → Int32} {th : Int32} (hL : ML g M σ sn hk n ps len tx th) {b : Int32} (hb : b < 0 ∨ ¬ b ≤ 1) : Run g m_X9_set [rf g 96, .int 1, .int b] M sz 0 0 (RetP (some (.int 0)) (fun M2 => ML g M2 (σ) (sn) (hk) (n) (ps) (len) (tx) (2) ∧ FR M M2 96 9)) := by
  obtain ⟨⟨v, hM, v0, v1, v2, v3⟩, ⟨pf, f1, f2⟩, f3, f4, f5⟩ := id hL
  refine Run.of rfl (by decide) (Nat.le_of_ble_eq_true rfl) ?_
  show V g m_X9_set 0 _ [] _ _ _ _ _
  refine V_iload_n 1 dX9_set_0 rfl ?_
  refine V_if_ne (tgt := 15) dX9_set_1 (by decide) (fun c1 => ?_) (fun c1 => absurd c1 (by decide))
  refine V_iload_n 1 dX9_set_15 rfl ?_
  refine V_iconst (v := 1) dX9_set_16 rfl ?_
  refine V_icmp_ne (tgt := 29) dX9_set_17 (by decide) (fun c17 => absurd rfl c17) (fun c17 => ?_)
  refine V_iload_n 2 dX9_set_20 rfl ?_
  refine V_iconst (v := 0) dX9_set_21 rfl ?_
  refine V_pc (pc2 := 22) rfl ?_
  refine V_iconst (v := 1) dX9_set_22 rfl ?_
  refine C_X9_44 rfl ⟨Nat.le_of_ble_eq_true rfl, Nat.le_of_ble_eq_true rfl⟩ (r9_in _ _ _) rfl (Nat.le_of_ble_eq_true rfl) dX9_set_23 rfl ?_
  refine V_goto (tgt := 35) dX9_set_26 (by decide) ?_
  refine V_istore_n (lv2 := [(3, .int _), (0, .ref _), (1, .int _), (2, .int _)]) dX9_set_35 (Nat.le_of_ble_eq_true rfl) rfl ?_
  refine V_aload_n 1 dX9_set_36 rfl ?_
  refine V_iload_n 2 dX9_set_37 rfl ?_
  refine V_iconst (v := 0) dX9_set_38 rfl ?_
  refine V_iconst (v := 2) dX9_set_39 rfl ?_
  refine V_pc (pc2 := 40) rfl ?_
  refine C_X9_44 rfl ⟨Nat.le_of_ble_eq_true rfl, Nat.le_of_ble_eq_true rfl⟩ (r9_in _ _ _) rfl (Nat.le_of_ble_eq_true rfl) dX9_set_40 rfl ?_
  refine V_if_ne (tgt := 50) dX9_set_43 (by decide) (fun c43 => ?_) (fun c43 => absurd c43 (by decide))
  refine V_iload_n 0 dX9_set_50 rfl ?_
  refine V_if_eq (tgt := 58) dX9_set_51 (by decide) (fun c51 => ?_) (fun c51 => absurd (by rw [inI_f hb]; rfl) c51)
  refine V_iconst (v := 2) dX9_set_58 rfl ?_
  refine C_X9_111 hM.1 rfl ⟨Nat.le_of_ble_eq_true rfl, Nat.le_of_ble_eq_true rfl⟩ (r9_refused hM 2) rfl (Nat.le_of_ble_eq_true rfl) dX9_set_59 rfl ?_
  refine V_if_eq (tgt := 67) dX9_set_62 (by decide) (fun c62 => absurd c62 (by decide)) (fun c62 => ?_)
  refine V_iconst (v := 0) dX9_set_65 rfl ?_
  refine V_pc (pc2 := 66) rfl ?_
  refine V_iret (st := []) dX9_set_66 rfl ?_
  refine ⟨rfl, hL.thr hM v0 v1 v2, (FR.refl M 96 9).put (by omega)⟩

set_option maxRecDepth 20000 in
theorem q9_set_ok1 {g : GE} {M : Mem} {sz : Nat} {σ sn : Nat → Int32} {hk : Bool} {n : Nat} {ps : Nat → Nat → Int32} {len : Nat} {tx : Nat → Int32} {th : Int32} (hL : ML g M σ sn hk n ps len tx th) (hn : n ≤ 6) {b : Int32} (hb : ¬ b < 0) (hb2 : b ≤ 1) : Run g m_X9_set [rf g 96, .int 1, .int b] M sz 0 0 (RetP (some (.int (σ (25 + 1)))) (fun M2 => ML g M2 (upd σ (25 + 1) b) (sn) (hk) (pshN n) (pshP n ps σ) (len) (tx) (0) ∧ FR M M2 96 9)) := by
  obtain ⟨⟨v, hM, v0, v1, v2, v3⟩, ⟨pf, f1, f2⟩, f3, f4, f5⟩ := id hL
  refine Run.of rfl (by decide) (Nat.le_of_ble_eq_true rfl) ?_
  show V g m_X9_set 0 _ [] _ _ _ _ _
  refine V_iload_n 1 dX9_set_0 rfl ?_
  refine V_if_ne (tgt := 15) dX9_set_1 (by decide) (fun c1 => ?_) (fun c1 => absurd c1 (by decide))
  refine V_iload_n 1 dX9_set_15 rfl ?_
  refine V_iconst (v := 1) dX9_set_16 rfl ?_
  refine V_icmp_ne (tgt := 29) dX9_set_17 (by decide) (fun c17 => absurd rfl c17) (fun c17 => ?_)
  refine V_iload_n 2 dX9_set_20 rfl ?_
  refine V_iconst (v := 0) dX9_set_21 rfl ?_
  refine V_pc (pc2 := 22) rfl ?_
  refine V_iconst (v := 1) dX9_set_22 rfl ?_
  refine C_X9_44 rfl ⟨Nat.le_of_ble_eq_true rfl, Nat.le_of_ble_eq_true rfl⟩ (r9_in _ _ _) rfl (Nat.le_of_ble_eq_true rfl) dX9_set_23 rfl ?_
  refine V_goto (tgt := 35) dX9_set_26 (by decide) ?_
  refine V_istore_n (lv2 := [(3, .int _), (0, .ref _), (1, .int _), (2, .int _)]) dX9_set_35 (Nat.le_of_ble_eq_true rfl) rfl ?_
  refine V_aload_n 1 dX9_set_36 rfl ?_
  refine V_iload_n 2 dX9_set_37 rfl ?_
  refine V_iconst (v := 0) dX9_set_38 rfl ?_
  refine V_iconst (v := 2) dX9_set_39 rfl ?_
  refine V_pc (pc2 := 40) rfl ?_
  refine C_X9_44 rfl ⟨Nat.le_of_ble_eq_true rfl, Nat.le_of_ble_eq_true rfl⟩ (r9_in _ _ _) rfl (Nat.le_of_ble_eq_true rfl) dX9_set_40 rfl ?_
  refine V_if_ne (tgt := 50) dX9_set_43 (by decide) (fun c43 => ?_) (fun c43 => absurd c43 (by decide))
  refine V_iload_n 0 dX9_set_50 rfl ?_
  refine V_if_eq (tgt := 58) dX9_set_51 (by decide) (fun c51 => absurd c51 (by rw [inI_t hb hb2]; decide)) (fun c51 => ?_)
  refine V_iconst (v := 0) dX9_set_54 rfl ?_
  refine V_goto (tgt := 59) dX9_set_55 (by decide) ?_
  refine C_X9_111 hM.1 rfl ⟨Nat.le_of_ble_eq_true rfl, Nat.le_of_ble_eq_true rfl⟩ (r9_refused hM 0) rfl (Nat.le_of_ble_eq_true rfl) dX9_set_59 rfl ?_
  refine V_if_eq (tgt := 67) dX9_set_62 (by decide) (fun c62 => ?_) (fun c62 => absurd (by decide) c62)
  refine V_pc (pc2 := 67) rfl ?_
  refine V_aload_n 1 dX9_set_67 rfl ?_
  refine Cp_X9_114 (hM.v _).1 rfl ⟨Nat.le_of_ble_eq_true rfl, Nat.le_of_ble_eq_true rfl⟩ (r9_saves (hM.v _) (show _ = some (eI g 390 pf) from (mup_ne _ _ (by decide)).trans f1) n (show upd v 3 _ 0 = nI n from v0) hn f2) rfl (Nat.le_of_ble_eq_true rfl) dX9_set_68 rfl (fun _ q9 => ?_)
  have hL2 := hL.sav hM v0 v1 v2 q9
  have hF2 := SV.fr q9
  clear q9
  obtain ⟨⟨w, hW, w0, w1, w2, w3⟩, ⟨pf2, g1, g2⟩, g3, g4, g5⟩ := id hL2
  refine V_aload_n 1 dX9_set_71 rfl ?_
  refine G_X9_7 rfl hW.1 rfl dX9_set_72 ?_
  refine V_bipush (v := 25) dX9_set_75 (by decide) ?_
  refine V_iload_n 2 dX9_set_77 rfl ?_
  refine V_iadd dX9_set_78 ?_
  refine V_iald hW.2.1 (show vp_in (nI 26) 65 from vp_in_nI (by decide) (by decide)) dX9_set_79 ?_
  refine V_pc (pc2 := 80) rfl ?_
  refine V_istore (lv2 := [(4, .int _), (3, .int _), (0, .ref _), (1, .int _), (2, .int _)]) dX9_set_80 (Nat.le_of_ble_eq_true rfl) rfl ?_
  refine V_aload_n 2 dX9_set_82 rfl ?_
  refine G_X9_7 rfl hW.1 rfl dX9_set_83 ?_
  refine V_bipush (v := 25) dX9_set_86 (by decide) ?_
  refine V_iload_n 3 dX9_set_88 rfl ?_
  refine V_iadd dX9_set_89 ?_
  refine V_iload_n 4 dX9_set_90 rfl ?_
  refine V_iast hW.2.1 (show vp_in (nI 26) 65 from vp_in_nI (by decide) (by decide)) dX9_set_91 ?_
  refine V_pc (pc2 := 92) rfl ?_
  refine V_iload 0 dX9_set_92 rfl ?_
  refine V_iret (st := []) dX9_set_94 rfl ?_
  exact ⟨rfl, hL2.set _, hF2.put (by omega)⟩

set_option maxRecDepth 20000 in
theorem q9_set_22 {g : GE} {M : Mem} {sz : Nat} {σ sn : Nat → Int32} {hk : Bool} {n : Nat} {ps : Nat → Nat → Int32} {len : Nat} {tx : Nat → Int32} {th : Int32} (hL : ML g M σ sn hk n ps len tx th) {b : Int32} (hb : b < 1 ∨ ¬ b ≤ 4) : Run g m_X9_set [rf g 96, .int 2, .int b] M sz 0 0 (RetP (some (.int 0)) (fun M2 => ML g M2 (σ) (sn) (hk) (n) (ps) (len) (tx) (2) ∧ FR M M2 96 9)) := by
  obtain ⟨⟨v, hM, v0, v1, v2, v3⟩, ⟨pf, f1, f2⟩, f3, f4, f5⟩ := id hL
  refine Run.of rfl (by decide) (Nat.le_of_ble_eq_true rfl) ?_
  show V g m_X9_set 0 _ [] _ _ _ _ _
  refine V_iload_n 1 dX9_set_0 rfl ?_
  refine V_if_ne (tgt := 15) dX9_set_1 (by decide) (fun c1 => ?_) (fun c1 => absurd c1 (by decide))
  refine V_iload_n 1 dX9_set_15 rfl ?_
  refine V_iconst (v := 1) dX9_set_16 rfl ?_
  refine V_icmp_ne (tgt := 29) dX9_set_17 (by decide) (fun c17 => ?_) (fun c17 => absurd c17 (by decide))
  refine V_iload_n 2 dX9_set_29 rfl ?_
  refine V_iconst (v := 1) dX9_set_30 rfl ?_
  refine V_pc (pc2 := 31) rfl ?_
  refine V_iconst (v := 4) dX9_set_31 rfl ?_
  refine C_X9_44 rfl ⟨Nat.le_of_ble_eq_true rfl, Nat.le_of_ble_eq_true rfl⟩ (r9_in _ _ _) rfl (Nat.le_of_ble_eq_true rfl) dX9_set_32 rfl ?_
  refine V_istore_n (lv2 := [(3, .int _), (0, .ref _), (1, .int _), (2, .int _)]) dX9_set_35 (Nat.le_of_ble_eq_true rfl) rfl ?_
  refine V_aload_n 1 dX9_set_36 rfl ?_
  refine V_iload_n 2 dX9_set_37 rfl ?_
  refine V_iconst (v := 0) dX9_set_38 rfl ?_
  refine V_iconst (v := 2) dX9_set_39 rfl ?_
  refine C_X9_44 rfl ⟨Nat.le_of_ble_eq_true rfl, Nat.le_of_ble_eq_true rfl⟩ (r9_in _ _ _) rfl (Nat.le_of_ble_eq_true rfl) dX9_set_40 rfl ?_
  refine V_pc (pc2 := 43) rfl ?_
  refine V_if_ne (tgt := 50) dX9_set_43 (by decide) (fun c43 => ?_) (fun c43 => absurd c43 (by decide))
  refine V_iload_n 0 dX9_set_50 rfl ?_
  refine V_if_eq (tgt := 58) dX9_set_51 (by decide) (fun c51 => ?_) (fun c51 => absurd (by rw [inI_f hb]; rfl) c51)
  refine V_iconst (v := 2) dX9_set_58 rfl ?_
  refine C_X9_111 hM.1 rfl ⟨Nat.le_of_ble_eq_true rfl, Nat.le_of_ble_eq_true rfl⟩ (r9_refused hM 2) rfl (Nat.le_of_ble_eq_true rfl) dX9_set_59 rfl ?_
  refine V_if_eq (tgt := 67) dX9_set_62 (by decide) (fun c62 => absurd c62 (by decide)) (fun c62 => ?_)
  refine V_iconst (v := 0) dX9_set_65 rfl ?_
  refine V_iret (st := []) dX9_set_66 rfl ?_
  refine ⟨rfl, hL.thr hM v0 v1 v2, (FR.refl M 96 9).put (by omega)⟩

set_option maxRecDepth 20000 in
theorem q9_set_ok2 {g : GE} {M : Mem} {sz : Nat} {σ sn : Nat → Int32} {hk : Bool} {n : Nat} {ps : Nat → Nat → Int32} {len : Nat} {tx : Nat → Int32} {th : Int32} (hL : ML g M σ sn hk n ps len tx th) (hn : n ≤ 6) {b : Int32} (hb : ¬ b < 1) (hb2 : b ≤ 4) : Run g m_X9_set [rf g 96, .int 2, .int b] M sz 0 0 (RetP (some (.int (σ (25 + 2)))) (fun M2 => ML g M2 (upd σ (25 + 2) b) (sn) (hk) (pshN n) (pshP n ps σ) (len) (tx) (0) ∧ FR M M2 96 9)) := by
  obtain ⟨⟨v, hM, v0, v1, v2, v3⟩, ⟨pf, f1, f2⟩, f3, f4, f5⟩ := id hL
  refine Run.of rfl (by decide) (Nat.le_of_ble_eq_true rfl) ?_
  show V g m_X9_set 0 _ [] _ _ _ _ _
  refine V_iload_n 1 dX9_set_0 rfl ?_
  refine V_if_ne (tgt := 15) dX9_set_1 (by decide) (fun c1 => ?_) (fun c1 => absurd c1 (by decide))
  refine V_iload_n 1 dX9_set_15 rfl ?_
  refine V_iconst (v := 1) dX9_set_16 rfl ?_
  refine V_icmp_ne (tgt := 29) dX9_set_17 (by decide) (fun c17 => ?_) (fun c17 => absurd c17 (by decide))
  refine V_iload_n 2 dX9_set_29 rfl ?_
  refine V_iconst (v := 1) dX9_set_30 rfl ?_
  refine V_pc (pc2 := 31) rfl ?_
  refine V_iconst (v := 4) dX9_set_31 rfl ?_
  refine C_X9_44 rfl ⟨Nat.le_of_ble_eq_true rfl, Nat.le_of_ble_eq_true rfl⟩ (r9_in _ _ _) rfl (Nat.le_of_ble_eq_true rfl) dX9_set_32 rfl ?_
  refine V_istore_n (lv2 := [(3, .int _), (0, .ref _), (1, .int _), (2, .int _)]) dX9_set_35 (Nat.le_of_ble_eq_true rfl) rfl ?_
  refine V_aload_n 1 dX9_set_36 rfl ?_
  refine V_iload_n 2 dX9_set_37 rfl ?_
  refine V_iconst (v := 0) dX9_set_38 rfl ?_
  refine V_iconst (v := 2) dX9_set_39 rfl ?_
  refine C_X9_44 rfl ⟨Nat.le_of_ble_eq_true rfl, Nat.le_of_ble_eq_true rfl⟩ (r9_in _ _ _) rfl (Nat.le_of_ble_eq_true rfl) dX9_set_40 rfl ?_
  refine V_pc (pc2 := 43) rfl ?_
  refine V_if_ne (tgt := 50) dX9_set_43 (by decide) (fun c43 => ?_) (fun c43 => absurd c43 (by decide))
  refine V_iload_n 0 dX9_set_50 rfl ?_
  refine V_if_eq (tgt := 58) dX9_set_51 (by decide) (fun c51 => absurd c51 (by rw [inI_t hb hb2]; decide)) (fun c51 => ?_)
  refine V_iconst (v := 0) dX9_set_54 rfl ?_
  refine V_goto (tgt := 59) dX9_set_55 (by decide) ?_
  refine C_X9_111 hM.1 rfl ⟨Nat.le_of_ble_eq_true rfl, Nat.le_of_ble_eq_true rfl⟩ (r9_refused hM 0) rfl (Nat.le_of_ble_eq_true rfl) dX9_set_59 rfl ?_
  refine V_if_eq (tgt := 67) dX9_set_62 (by decide) (fun c62 => ?_) (fun c62 => absurd (by decide) c62)
  refine V_aload_n 1 dX9_set_67 rfl ?_
  refine V_pc (pc2 := 68) rfl ?_
  refine Cp_X9_114 (hM.v _).1 rfl ⟨Nat.le_of_ble_eq_true rfl, Nat.le_of_ble_eq_true rfl⟩ (r9_saves (hM.v _) (show _ = some (eI g 390 pf) from (mup_ne _ _ (by decide)).trans f1) n (show upd v 3 _ 0 = nI n from v0) hn f2) rfl (Nat.le_of_ble_eq_true rfl) dX9_set_68 rfl (fun _ q9 => ?_)
  have hL2 := hL.sav hM v0 v1 v2 q9
  have hF2 := SV.fr q9
  clear q9
  obtain ⟨⟨w, hW, w0, w1, w2, w3⟩, ⟨pf2, g1, g2⟩, g3, g4, g5⟩ := id hL2
  refine V_aload_n 1 dX9_set_71 rfl ?_
  refine G_X9_7 rfl hW.1 rfl dX9_set_72 ?_
  refine V_bipush (v := 25) dX9_set_75 (by decide) ?_
  refine V_iload_n 2 dX9_set_77 rfl ?_
  refine V_iadd dX9_set_78 ?_
  refine V_iald hW.2.1 (show vp_in (nI 27) 65 from vp_in_nI (by decide) (by decide)) dX9_set_79 ?_
  refine V_istore (lv2 := [(4, .int _), (3, .int _), (0, .ref _), (1, .int _), (2, .int _)]) dX9_set_80 (Nat.le_of_ble_eq_true rfl) rfl ?_
  refine V_pc (pc2 := 82) rfl ?_
  refine V_aload_n 2 dX9_set_82 rfl ?_
  refine G_X9_7 rfl hW.1 rfl dX9_set_83 ?_
  refine V_bipush (v := 25) dX9_set_86 (by decide) ?_
  refine V_iload_n 3 dX9_set_88 rfl ?_
  refine V_iadd dX9_set_89 ?_
  refine V_iload_n 4 dX9_set_90 rfl ?_
  refine V_iast hW.2.1 (show vp_in (nI 27) 65 from vp_in_nI (by decide) (by decide)) dX9_set_91 ?_
  refine V_iload 0 dX9_set_92 rfl ?_
  refine V_pc (pc2 := 94) rfl ?_
  refine V_iret (st := []) dX9_set_94 rfl ?_
  exact ⟨rfl, hL2.set _, hF2.put (by omega)⟩

theorem nI_rng {x : Int32} {l h : Nat} (hl : ¬ x < nI l) (hh : x ≤ nI h) (h3 : l < 2 ^ 31) (h4 : h < 2 ^ 31) : ∃ k : Nat, l ≤ k ∧ k ≤ h ∧ x = nI k := by
  have h0 : ¬ x < 0 := by
    intro hx
    apply hl
    rw [Int32.lt_iff_toInt_lt] at hx ⊢
    rw [nI_toInt h3]
    have : (0 : Int32).toInt = 0 := rfl
    omega
  obtain ⟨k, hk, rfl⟩ := nI_of h0
  refine ⟨k, ?_, ?_, rfl⟩
  · have := mt (nI_ltI hk h3).mpr hl; omega
  · exact (nI_leI hk h4).mp hh
theorem IS.set {σ : Nat → Int32} (h : IS σ) {i : Nat} (hi : i < 3) {x : Int32} (hx : ¬ x < seLo (nI i)) (hx2 : x ≤ seHi (nI i)) : IS (upd σ (25 + i) x) := by
  obtain ⟨h1, ⟨n, hn, hn2, h2⟩, h3, h4, h5, h6, h7⟩ := h
  refine ⟨h1.upd (by omega), ⟨n, hn, by rw [upd_ne (by omega)]; exact hn2, fun j hj => by rw [upd_ne (by omega), upd_ne (by omega)]; exact h2 j hj⟩, fun j hj => by rw [upd_ne (by omega)]; exact h3 j hj, ?_, ?_, ?_, by rw [upd_ne (by omega), upd_ne (by omega)]; exact h7⟩
  · match i, hi with
    | 0, _ => rw [upd_at]; obtain ⟨k, a, b, c⟩ := nI_rng (l := 0) (h := 500) hx hx2 (by decide) (by decide); exact ⟨k, b, c⟩
    | 1, _ => rw [upd_ne (by omega)]; exact h4
    | 2, _ => rw [upd_ne (by omega)]; exact h4
  · match i, hi with
    | 0, _ => rw [upd_ne (by omega)]; exact h5
    | 1, _ => rw [upd_at]; obtain ⟨k, a, b, c⟩ := nI_rng (l := 0) (h := 1) hx hx2 (by decide) (by decide); exact ⟨k, b, c⟩
    | 2, _ => rw [upd_ne (by omega)]; exact h5
  · match i, hi with
    | 0, _ => rw [upd_ne (by omega)]; exact h6
    | 1, _ => rw [upd_ne (by omega)]; exact h6
    | 2, _ => rw [upd_at]; exact nI_rng (l := 1) (h := 4) hx hx2 (by decide) (by decide)
theorem op_set (g : GE) (a b : Int32) : OPL g m_L_set m_X9_set [rf g 0, .int a, .int b, rf g 105] [rf g 96, .int a, .int b] := by
  rintro M sz ⟨th, σ, τ, sn, hk, n, ps, len, tx, hW⟩
  obtain ⟨w1, w2, ⟨i1, i2, i3, i4, i5, i6⟩, o, w4⟩ := id hW
  by_cases ha : a < 0 ∨ ¬ a ≤ 2
  · exact OPL.bad hW (c := 1) (by decide) (by decide) (h_set_1 w1.1 (x_set_1 w1 ha)) (fun M2 sz2 h => q9_set_1 h ha)
  · have ha1 : ¬ a < 0 := fun h => ha (Or.inl h)
    have ha2 : a ≤ 2 := Decidable.of_not_not (fun h => ha (Or.inr h))
    obtain ⟨i, hi0, hi, rfl⟩ := nI_rng (l := 0) (h := 2) ha1 ha2 (by decide) (by decide)
    by_cases hb : b < seLo (nI i) ∨ ¬ b ≤ seHi (nI i)
    · refine OPL.bad hW (c := 2) (by decide) (by decide) (h_set_2 w1.1 (x_set_2 w1 ha1 ha2 hb)) (fun M2 sz2 h => ?_)
      match i, hi with
      | 0, _ => exact q9_set_20 h hb
      | 1, _ => exact q9_set_21 h hb
      | 2, _ => exact q9_set_22 h hb
    · have hb1 : ¬ b < seLo (nI i) := fun h => hb (Or.inl h)
      have hb2 : b ≤ seHi (nI i) := Decidable.of_not_not (fun h => hb (Or.inr h))
      refine OPL.ok hW (σ2 := upd σ (25 + i) b) (τ2 := τ) (sn2 := sn) (hk2 := hk) (n2 := pshN n) (ps2 := pshP n ps σ) (len2 := len) (tx2 := tx) ⟨i1.set (by omega) hb1 hb2, i2, pshN_le i3, IS.psh i3 i4 i1, i5, i6⟩ (h_set_ok w1.1 (x_set_ok w1 i3 i (by omega) rfl hb1 hb2) (fun M1 q => CW.out w4 q.2)) (fun M2 sz2 h => ?_)
      match i, hi with
      | 0, _ => exact q9_set_ok0 h i3 hb1 hb2
      | 1, _ => exact q9_set_ok1 h i3 hb1 hb2
      | 2, _ => exact q9_set_ok2 h i3 hb1 hb2
set_option maxRecDepth 20000 in
theorem x_drop_1a {g : GE} {M : Mem} {sz : Nat} {σ τ : Nat → Int32} {hk : Bool} {n : Nat} {ps : Nat → Nat → Int32} {len : Nat} {tx : Nat → Int32} (hC : CW g M σ τ hk n ps len tx) {a b : Int32} (ha : isP a = false) : Run g m_X8_drop [rf g 0, .int a, .int b] M sz 1 6 (Thr (exN 0) M) := by
  refine Run.of rfl (by decide) (Nat.le_of_ble_eq_true rfl) ?_
  show V g m_X8_drop 0 _ [] _ _ _ _ _
  refine V_iload_n 1 dX8_drop_0 rfl ?_
  refine Ct_X8_62 rfl rfl ⟨Nat.le_of_ble_eq_true rfl, Nat.le_of_ble_eq_true rfl⟩ (r_checkParish_bad ha) rfl (Nat.le_of_ble_eq_true rfl) dX8_drop_1 rfl ?_
  exact ⟨rfl, rfl⟩

set_option maxRecDepth 20000 in
theorem x_drop_1b {g : GE} {M : Mem} {sz : Nat} {σ τ : Nat → Int32} {hk : Bool} {n : Nat} {ps : Nat → Nat → Int32} {len : Nat} {tx : Nat → Int32} (hC : CW g M σ τ hk n ps len tx) {a b : Int32} (ha : isP a = true) (hb : isP b = false) : Run g m_X8_drop [rf g 0, .int a, .int b] M sz 1 6 (Thr (exN 0) M) := by
  refine Run.of rfl (by decide) (Nat.le_of_ble_eq_true rfl) ?_
  show V g m_X8_drop 0 _ [] _ _ _ _ _
  refine V_iload_n 1 dX8_drop_0 rfl ?_
  refine C_X8_62 rfl ⟨Nat.le_of_ble_eq_true rfl, Nat.le_of_ble_eq_true rfl⟩ (r_checkParish_ok ha) rfl (Nat.le_of_ble_eq_true rfl) dX8_drop_1 rfl ?_
  refine V_iload_n 2 dX8_drop_4 rfl ?_
  refine Ct_X8_62 rfl rfl ⟨Nat.le_of_ble_eq_true rfl, Nat.le_of_ble_eq_true rfl⟩ (r_checkParish_bad hb) rfl (Nat.le_of_ble_eq_true rfl) dX8_drop_5 rfl ?_
  exact ⟨rfl, rfl⟩

set_option maxRecDepth 20000 in
theorem x_drop_2 {g : GE} {M : Mem} {sz : Nat} {σ τ : Nat → Int32} {hk : Bool} {n : Nat} {ps : Nat → Nat → Int32} {len : Nat} {tx : Nat → Int32} (hC : CW g M σ τ hk n ps len tx) (hI : I10 σ) {a b : Int32} (i j : Nat) (hi : i < 5) (hj : j < 5) (ha : a = nI i) (hb : b = nI j) (hh : hasS σ i j = false) : Run g m_X8_drop [rf g 0, .int a, .int b] M sz 1 6 (Thr (exN 2) M) := by
  subst ha hb
  obtain ⟨p0, y1, y2⟩ := hC.2.1.1
  refine Run.of rfl (by decide) (Nat.le_of_ble_eq_true rfl) ?_
  show V g m_X8_drop 0 _ [] _ _ _ _ _
  refine V_iload_n 1 dX8_drop_0 rfl ?_
  refine C_X8_62 rfl ⟨Nat.le_of_ble_eq_true rfl, Nat.le_of_ble_eq_true rfl⟩ (r_checkParish_ok (isP_nI hi)) rfl (Nat.le_of_ble_eq_true rfl) dX8_drop_1 rfl ?_
  refine V_iload_n 2 dX8_drop_4 rfl ?_
  refine C_X8_62 rfl ⟨Nat.le_of_ble_eq_true rfl, Nat.le_of_ble_eq_true rfl⟩ (r_checkParish_ok (isP_nI hj)) rfl (Nat.le_of_ble_eq_true rfl) dX8_drop_5 rfl ?_
  refine V_aload_n 0 dX8_drop_8 rfl ?_
  refine G_X8_10 rfl hC.1 rfl dX8_drop_9 ?_
  refine G_X8_89 rfl y1 rfl dX8_drop_12 ?_
  refine V_pc (pc2 := 15) rfl ?_
  refine V_iload_n 1 dX8_drop_15 rfl ?_
  refine V_iload_n 2 dX8_drop_16 rfl ?_
  refine C_X8_118 (show _ = some (eO 4 [rf g (1 + 3 + 1), .int _]) from hC.2.1.2.2.2.1.choose_spec.choose_spec.1.1) rfl ⟨Nat.le_of_ble_eq_true rfl, Nat.le_of_ble_eq_true rfl⟩ (hC.2.1.2.2.2.1.has hI i j rfl rfl hi hj) rfl (Nat.le_of_ble_eq_true rfl) dX8_drop_17 rfl ?_
  refine V_if_ne (tgt := 33) dX8_drop_20 (by decide) (fun c20 => absurd (by rw [hh]; rfl) c20) (fun c20 => ?_)
  refine V_throwS 2 1 (by decide) (by decide) rfl rfl rfl rfl rfl (Nat.le_of_ble_eq_true rfl) (Nat.le_of_ble_eq_true rfl) dX8_drop_23 dX8_drop_26 dX8_drop_27 dX8_drop_29 dX8_drop_32 ?_
  exact ⟨rfl, rfl⟩

set_option maxRecDepth 20000 in
theorem x_drop_ok {g : GE} {M : Mem} {sz : Nat} {σ τ : Nat → Int32} {hk : Bool} {n : Nat} {ps : Nat → Nat → Int32} {len : Nat} {tx : Nat → Int32} (hC : CW g M σ τ hk n ps len tx) (hn : n ≤ 6) (hI : I10 σ) {a b : Int32} (i j : Nat) (hi : i < 5) (hj : j < 5) (ha : a = nI i) (hb : b = nI j) (hh : hasS σ i j = true) : Run g m_X8_drop [rf g 0, .int a, .int b] M sz 0 0 (RetP (some (.int (nI (cnt (thr (putS σ i j 0 0)) 37)))) (fun M2 => CW g M2 (putS σ i j 0 0) (τ) (hk) (pshN n) (pshP n ps σ) (len) (tx) ∧ FR M M2 0 96)) := by
  subst ha hb
  obtain ⟨p0, y1, y2⟩ := hC.2.1.1
  refine Run.of rfl (by decide) (Nat.le_of_ble_eq_true rfl) ?_
  show V g m_X8_drop 0 _ [] _ _ _ _ _
  refine V_iload_n 1 dX8_drop_0 rfl ?_
  refine C_X8_62 rfl ⟨Nat.le_of_ble_eq_true rfl, Nat.le_of_ble_eq_true rfl⟩ (r_checkParish_ok (isP_nI hi)) rfl (Nat.le_of_ble_eq_true rfl) dX8_drop_1 rfl ?_
  refine V_iload_n 2 dX8_drop_4 rfl ?_
  refine C_X8_62 rfl ⟨Nat.le_of_ble_eq_true rfl, Nat.le_of_ble_eq_true rfl⟩ (r_checkParish_ok (isP_nI hj)) rfl (Nat.le_of_ble_eq_true rfl) dX8_drop_5 rfl ?_
  refine V_aload_n 0 dX8_drop_8 rfl ?_
  refine G_X8_10 rfl hC.1 rfl dX8_drop_9 ?_
  refine G_X8_89 rfl y1 rfl dX8_drop_12 ?_
  refine V_pc (pc2 := 15) rfl ?_
  refine V_iload_n 1 dX8_drop_15 rfl ?_
  refine V_iload_n 2 dX8_drop_16 rfl ?_
  refine C_X8_118 (show _ = some (eO 4 [rf g (1 + 3 + 1), .int _]) from hC.2.1.2.2.2.1.choose_spec.choose_spec.1.1) rfl ⟨Nat.le_of_ble_eq_true rfl, Nat.le_of_ble_eq_true rfl⟩ (hC.2.1.2.2.2.1.has hI i j rfl rfl hi hj) rfl (Nat.le_of_ble_eq_true rfl) dX8_drop_17 rfl ?_
  refine V_if_ne (tgt := 33) dX8_drop_20 (by decide) (fun c20 => ?_) (fun c20 => absurd c20 (by rw [hh]; decide))
  refine V_aload_n 0 dX8_drop_33 rfl ?_
  refine G_X8_22 rfl hC.1 rfl dX8_drop_34 ?_
  refine V_aload_n 0 dX8_drop_37 rfl ?_
  refine G_X8_10 rfl hC.1 rfl dX8_drop_38 ?_
  refine V_pc (pc2 := 41) rfl ?_
  refine Cp_X8_70 hC.2.2.2.1.choose_spec.1 rfl ⟨Nat.le_of_ble_eq_true rfl, Nat.le_of_ble_eq_true rfl⟩ (r_push hC.2.2.2.1 hn hC.2.1 (by omega)) rfl (Nat.le_of_ble_eq_true rfl) dX8_drop_41 rfl (fun _ q9 => ?_)
  have hC2 := hC.psh q9.1 q9.2
  have hF2 := q9.2
  clear q9
  obtain ⟨p9, y3, y4⟩ := hC2.2.1.1
  refine V_aload_n 0 dX8_drop_44 rfl ?_
  refine G_X8_10 rfl hC2.1 rfl dX8_drop_45 ?_
  refine G_X8_89 rfl y3 rfl dX8_drop_48 ?_
  refine V_iload_n 1 dX8_drop_51 rfl ?_
  refine V_iload_n 2 dX8_drop_52 rfl ?_
  refine V_iconst (v := 0) dX8_drop_53 rfl ?_
  refine V_iconst (v := 0) dX8_drop_54 rfl ?_
  refine V_pc (pc2 := 55) rfl ?_
  refine Cp_X8_108 (show _ = some (eO 4 [rf g (1 + 3 + 1), .int _]) from hC2.2.1.2.2.2.1.choose_spec.choose_spec.1.1) rfl ⟨Nat.le_of_ble_eq_true rfl, Nat.le_of_ble_eq_true rfl⟩ (hC2.2.1.2.2.2.1.lay i j rfl rfl hi hj (hasNe hh) (Or.inl ⟨rfl, rfl⟩)) rfl (Nat.le_of_ble_eq_true rfl) dX8_drop_55 rfl (fun _ q8 => ?_)
  have hC3 := hC2.now (hC2.2.1.tab q8.1 q8.2 (fun k hk => putS_big hi hj (hasNe hh) hk)) (q8.2.wide (by omega))
  have hF3 := q8.2
  clear q8
  obtain ⟨z9, z3, z4⟩ := hC3.2.1.1
  refine V_aload_n 0 dX8_drop_58 rfl ?_
  refine G_X8_36 rfl hC3.1 rfl dX8_drop_59 ?_
  refine V_aload_n 0 dX8_drop_62 rfl ?_
  refine G_X8_10 rfl hC3.1 rfl dX8_drop_63 ?_
  refine G_X8_89 rfl z3 rfl dX8_drop_66 ?_
  refine C_X8_114 hC3.2.2.2.2.2.1.1 rfl ⟨Nat.le_of_ble_eq_true rfl, Nat.le_of_ble_eq_true rfl⟩ (hC3.2.1.2.2.2.1.standing hC3.2.2.2.2.2.1) rfl (Nat.le_of_ble_eq_true rfl) dX8_drop_69 rfl ?_
  refine V_iret (st := []) dX8_drop_72 rfl ?_
  exact ⟨rfl, hC3, FR.trans (FR.wide hF2 (b2 := 0) (n2 := 96) (by omega)) hF3 (by omega)⟩

set_option maxRecDepth 20000 in
theorem q9_drop_1 {g : GE} {M : Mem} {sz : Nat} {σ sn : Nat → Int32} {hk : Bool} {n : Nat} {ps : Nat → Nat → Int32} {len : Nat} {tx : Nat → Int32} {th : Int32} (hL : ML g M σ sn hk n ps len tx th) {a b : Int32} (ha : isP a = false ∨ isP b = false) : Run g m_X9_drop [rf g 96, .int a, .int b] M sz 0 0 (RetP (some (.int 0)) (fun M2 => ML g M2 (σ) (sn) (hk) (n) (ps) (len) (tx) (1) ∧ FR M M2 96 9)) := by
  obtain ⟨⟨v, hM, v0, v1, v2, v3⟩, ⟨pf, f1, f2⟩, f3, f4, f5⟩ := id hL
  refine Run.of rfl (by decide) (Nat.le_of_ble_eq_true rfl) ?_
  show V g m_X9_drop 0 _ [] _ _ _ _ _
  refine V_aload_n 0 dX9_drop_0 rfl ?_
  refine V_iload_n 1 dX9_drop_1 rfl ?_
  refine C_X9_55 rfl ⟨Nat.le_of_ble_eq_true rfl, Nat.le_of_ble_eq_true rfl⟩ (r9_isParish _) rfl (Nat.le_of_ble_eq_true rfl) dX9_drop_2 rfl ?_
  refine V_if_eq (tgt := 15) dX9_drop_5 (by decide) (fun c5 => ?_) (fun c5 => ?_)
  · refine V_iconst (v := 1) dX9_drop_15 rfl ?_
    refine V_goto (tgt := 33) dX9_drop_16 (by decide) ?_
    refine C_X9_111 hM.1 rfl ⟨Nat.le_of_ble_eq_true rfl, Nat.le_of_ble_eq_true rfl⟩ (r9_refused hM 1) rfl (Nat.le_of_ble_eq_true rfl) dX9_drop_33 rfl ?_
    refine V_if_eq (tgt := 41) dX9_drop_36 (by decide) (fun c36 => absurd c36 (by decide)) (fun c36 => ?_)
    refine V_iconst (v := 0) dX9_drop_39 rfl ?_
    refine V_iret (st := []) dX9_drop_40 rfl ?_
    refine ⟨rfl, hL.thr hM v0 v1 v2, (FR.refl M 96 9).put (by omega)⟩
  · refine V_iload_n 2 dX9_drop_8 rfl ?_
    refine C_X9_55 rfl ⟨Nat.le_of_ble_eq_true rfl, Nat.le_of_ble_eq_true rfl⟩ (r9_isParish _) rfl (Nat.le_of_ble_eq_true rfl) dX9_drop_9 rfl ?_
    refine V_if_ne (tgt := 19) dX9_drop_12 (by decide) (fun c12 => ?_) (fun c12 => ?_)
    · exact (ha.elim (fun h => c5 (by rw [h]; rfl)) (fun h => c12 (by rw [h]; rfl))).elim
    · refine V_iconst (v := 1) dX9_drop_15 rfl ?_
      refine V_goto (tgt := 33) dX9_drop_16 (by decide) ?_
      refine C_X9_111 hM.1 rfl ⟨Nat.le_of_ble_eq_true rfl, Nat.le_of_ble_eq_true rfl⟩ (r9_refused hM 1) rfl (Nat.le_of_ble_eq_true rfl) dX9_drop_33 rfl ?_
      refine V_if_eq (tgt := 41) dX9_drop_36 (by decide) (fun c36 => absurd c36 (by decide)) (fun c36 => ?_)
      refine V_iconst (v := 0) dX9_drop_39 rfl ?_
      refine V_iret (st := []) dX9_drop_40 rfl ?_
      refine ⟨rfl, hL.thr hM v0 v1 v2, (FR.refl M 96 9).put (by omega)⟩

set_option maxRecDepth 20000 in
theorem q9_drop_2 {g : GE} {M : Mem} {sz : Nat} {σ sn : Nat → Int32} {hk : Bool} {n : Nat} {ps : Nat → Nat → Int32} {len : Nat} {tx : Nat → Int32} {th : Int32} (hL : ML g M σ sn hk n ps len tx th) {a b : Int32} (i j : Nat) (hi : i < 5) (hj : j < 5) (ha : a = nI i) (hb : b = nI j) (hh : hasS σ i j = false) : Run g m_X9_drop [rf g 96, .int a, .int b] M sz 0 0 (RetP (some (.int 0)) (fun M2 => ML g M2 (σ) (sn) (hk) (n) (ps) (len) (tx) (2) ∧ FR M M2 96 9)) := by
  subst ha hb
  obtain ⟨⟨v, hM, v0, v1, v2, v3⟩, ⟨pf, f1, f2⟩, f3, f4, f5⟩ := id hL
  refine Run.of rfl (by decide) (Nat.le_of_ble_eq_true rfl) ?_
  show V g m_X9_drop 0 _ [] _ _ _ _ _
  refine V_aload_n 0 dX9_drop_0 rfl ?_
  refine V_iload_n 1 dX9_drop_1 rfl ?_
  refine C_X9_55 rfl ⟨Nat.le_of_ble_eq_true rfl, Nat.le_of_ble_eq_true rfl⟩ (r9_isParish _) rfl (Nat.le_of_ble_eq_true rfl) dX9_drop_2 rfl ?_
  refine V_if_eq (tgt := 15) dX9_drop_5 (by decide) (fun c5 => absurd c5 (by rw [isP_nI hi]; decide)) (fun c5 => ?_)
  refine V_iload_n 2 dX9_drop_8 rfl ?_
  refine C_X9_55 rfl ⟨Nat.le_of_ble_eq_true rfl, Nat.le_of_ble_eq_true rfl⟩ (r9_isParish _) rfl (Nat.le_of_ble_eq_true rfl) dX9_drop_9 rfl ?_
  refine V_if_ne (tgt := 19) dX9_drop_12 (by decide) (fun c12 => ?_) (fun c12 => absurd c12 (by rw [isP_nI hj]; decide))
  refine V_pc (pc2 := 19) rfl ?_
  refine V_aload_n 0 dX9_drop_19 rfl ?_
  refine V_iload_n 1 dX9_drop_20 rfl ?_
  refine V_iload_n 2 dX9_drop_21 rfl ?_
  refine C_X9_66 hM.1 rfl ⟨Nat.le_of_ble_eq_true rfl, Nat.le_of_ble_eq_true rfl⟩ (r9_has hM i j rfl rfl hi hj) rfl (Nat.le_of_ble_eq_true rfl) dX9_drop_22 rfl ?_
  refine V_if_eq (tgt := 32) dX9_drop_25 (by decide) (fun c25 => ?_) (fun c25 => absurd (by rw [hh]; rfl) c25)
  refine V_iconst (v := 2) dX9_drop_32 rfl ?_
  refine C_X9_111 hM.1 rfl ⟨Nat.le_of_ble_eq_true rfl, Nat.le_of_ble_eq_true rfl⟩ (r9_refused hM 2) rfl (Nat.le_of_ble_eq_true rfl) dX9_drop_33 rfl ?_
  refine V_if_eq (tgt := 41) dX9_drop_36 (by decide) (fun c36 => absurd c36 (by decide)) (fun c36 => ?_)
  refine V_pc (pc2 := 39) rfl ?_
  refine V_iconst (v := 0) dX9_drop_39 rfl ?_
  refine V_iret (st := []) dX9_drop_40 rfl ?_
  refine ⟨rfl, hL.thr hM v0 v1 v2, (FR.refl M 96 9).put (by omega)⟩

set_option maxRecDepth 20000 in
theorem q9_drop_ok {g : GE} {M : Mem} {sz : Nat} {σ sn : Nat → Int32} {hk : Bool} {n : Nat} {ps : Nat → Nat → Int32} {len : Nat} {tx : Nat → Int32} {th : Int32} (hL : ML g M σ sn hk n ps len tx th) (hn : n ≤ 6) {a b : Int32} (i j : Nat) (hi : i < 5) (hj : j < 5) (ha : a = nI i) (hb : b = nI j) (hh : hasS σ i j = true) : Run g m_X9_drop [rf g 96, .int a, .int b] M sz 0 0 (RetP (some (.int (nI (cnt (thr (putS σ i j 0 0)) 37)))) (fun M2 => ML g M2 (putS σ i j 0 0) (sn) (hk) (pshN n) (pshP n ps σ) (len) (tx) (0) ∧ FR M M2 96 9)) := by
  subst ha hb
  obtain ⟨⟨v, hM, v0, v1, v2, v3⟩, ⟨pf, f1, f2⟩, f3, f4, f5⟩ := id hL
  refine Run.of rfl (by decide) (Nat.le_of_ble_eq_true rfl) ?_
  show V g m_X9_drop 0 _ [] _ _ _ _ _
  refine V_aload_n 0 dX9_drop_0 rfl ?_
  refine V_iload_n 1 dX9_drop_1 rfl ?_
  refine C_X9_55 rfl ⟨Nat.le_of_ble_eq_true rfl, Nat.le_of_ble_eq_true rfl⟩ (r9_isParish _) rfl (Nat.le_of_ble_eq_true rfl) dX9_drop_2 rfl ?_
  refine V_if_eq (tgt := 15) dX9_drop_5 (by decide) (fun c5 => absurd c5 (by rw [isP_nI hi]; decide)) (fun c5 => ?_)
  refine V_iload_n 2 dX9_drop_8 rfl ?_
  refine C_X9_55 rfl ⟨Nat.le_of_ble_eq_true rfl, Nat.le_of_ble_eq_true rfl⟩ (r9_isParish _) rfl (Nat.le_of_ble_eq_true rfl) dX9_drop_9 rfl ?_
  refine V_if_ne (tgt := 19) dX9_drop_12 (by decide) (fun c12 => ?_) (fun c12 => absurd c12 (by rw [isP_nI hj]; decide))
  refine V_pc (pc2 := 19) rfl ?_
  refine V_aload_n 0 dX9_drop_19 rfl ?_
  refine V_iload_n 1 dX9_drop_20 rfl ?_
  refine V_iload_n 2 dX9_drop_21 rfl ?_
  refine C_X9_66 hM.1 rfl ⟨Nat.le_of_ble_eq_true rfl, Nat.le_of_ble_eq_true rfl⟩ (r9_has hM i j rfl rfl hi hj) rfl (Nat.le_of_ble_eq_true rfl) dX9_drop_22 rfl ?_
  refine V_if_eq (tgt := 32) dX9_drop_25 (by decide) (fun c25 => absurd c25 (by rw [hh]; decide)) (fun c25 => ?_)
  refine V_iconst (v := 0) dX9_drop_28 rfl ?_
  refine V_goto (tgt := 33) dX9_drop_29 (by decide) ?_
  refine C_X9_111 hM.1 rfl ⟨Nat.le_of_ble_eq_true rfl, Nat.le_of_ble_eq_true rfl⟩ (r9_refused hM 0) rfl (Nat.le_of_ble_eq_true rfl) dX9_drop_33 rfl ?_
  refine V_pc (pc2 := 36) rfl ?_
  refine V_if_eq (tgt := 41) dX9_drop_36 (by decide) (fun c36 => ?_) (fun c36 => absurd (by decide) c36)
  refine V_aload_n 0 dX9_drop_41 rfl ?_
  refine Cp_X9_114 (hM.v _).1 rfl ⟨Nat.le_of_ble_eq_true rfl, Nat.le_of_ble_eq_true rfl⟩ (r9_saves (hM.v _) (show _ = some (eI g 390 pf) from (mup_ne _ _ (by decide)).trans f1) n (show upd v 3 _ 0 = nI n from v0) hn f2) rfl (Nat.le_of_ble_eq_true rfl) dX9_drop_42 rfl (fun _ q9 => ?_)
  have hL2 := hL.sav hM v0 v1 v2 q9
  have hF2 := SV.fr q9
  clear q9
  obtain ⟨⟨w, hW, w0, w1, w2, w3⟩, ⟨pf2, g1, g2⟩, g3, g4, g5⟩ := id hL2
  refine V_aload_n 0 dX9_drop_45 rfl ?_
  refine V_iload_n 1 dX9_drop_46 rfl ?_
  refine V_iload_n 2 dX9_drop_47 rfl ?_
  refine V_iconst (v := 0) dX9_drop_48 rfl ?_
  refine V_iconst (v := 0) dX9_drop_49 rfl ?_
  refine V_pc (pc2 := 50) rfl ?_
  refine C_X9_104 hW.1 rfl ⟨Nat.le_of_ble_eq_true rfl, Nat.le_of_ble_eq_true rfl⟩ (r9_puts hW i j rfl rfl hi hj (hasNe hh)) rfl (Nat.le_of_ble_eq_true rfl) dX9_drop_50 rfl ?_
  refine V_aload_n 0 dX9_drop_53 rfl ?_
  refine C_X9_127 (hW.put _).1 rfl ⟨Nat.le_of_ble_eq_true rfl, Nat.le_of_ble_eq_true rfl⟩ (r9_rings (hW.put _)) rfl (Nat.le_of_ble_eq_true rfl) dX9_drop_54 rfl ?_
  refine V_iret (st := []) dX9_drop_57 rfl ?_
  exact ⟨rfl, hL2.set _, hF2.put (by omega)⟩

theorem IS.put {σ : Nat → Int32} (h : IS σ) {a b : Nat} {u d : Int32} (ha : a < 5) (hb : b < 5) (hab : a ≠ b) (hud : UD u d) : IS (putS σ a b u d) := by
  obtain ⟨h1, ⟨n, hn, hn2, h2⟩, h3, h4, h5, h6, h7⟩ := h
  have e : ∀ k, 20 ≤ k → putS σ a b u d k = σ k := fun k hk => putS_big ha hb hab hk
  exact ⟨h1.put ha hb hab hud, ⟨n, hn, by rw [e _ (by omega)]; exact hn2, fun j hj => by rw [e _ (by omega), e _ (by omega)]; exact h2 j hj⟩, fun j hj => by rw [e _ (by omega)]; exact h3 j hj, by rw [e _ (by omega)]; exact h4, by rw [e _ (by omega)]; exact h5, by rw [e _ (by omega)]; exact h6, by rw [e _ (by omega), e _ (by omega)]; exact h7⟩
theorem op_drop (g : GE) (a b : Int32) : OPL g m_L_drop m_X9_drop [rf g 0, .int a, .int b, rf g 105] [rf g 96, .int a, .int b] := by
  rintro M sz ⟨th, σ, τ, sn, hk, n, ps, len, tx, hW⟩
  obtain ⟨w1, w2, ⟨i1, i2, i3, i4, i5, i6⟩, o, w4⟩ := id hW
  by_cases ha : isP a = true
  · by_cases hb : isP b = true
    · obtain ⟨i, hi, rfl⟩ := isP_ex ha
      obtain ⟨j, hj, rfl⟩ := isP_ex hb
      cases hh : hasS σ i j with
      | false => exact OPL.bad hW (c := 2) (by decide) (by decide) (h_drop_2 w1.1 (x_drop_2 w1 i1.1 i j hi hj rfl rfl hh)) (fun M2 sz2 h => q9_drop_2 h i j hi hj rfl rfl hh)
      | true => exact OPL.ok hW (σ2 := putS σ i j 0 0) (τ2 := τ) (sn2 := sn) (hk2 := hk) (n2 := pshN n) (ps2 := pshP n ps σ) (len2 := len) (tx2 := tx) ⟨i1.put hi hj (hasNe hh) (Or.inl ⟨rfl, rfl⟩), i2, pshN_le i3, IS.psh i3 i4 i1, i5, i6⟩ (h_drop_ok w1.1 (x_drop_ok w1 i3 i1.1 i j hi hj rfl rfl hh) (fun M1 q => CW.out w4 q.2)) (fun M2 sz2 h => q9_drop_ok h i3 i j hi hj rfl rfl hh)
    · have hb2 : isP b = false := (Bool.not_eq_true _).mp hb
      exact OPL.bad hW (c := 1) (by decide) (by decide) (h_drop_1 w1.1 (x_drop_1b w1 ha hb2)) (fun M2 sz2 h => q9_drop_1 h (Or.inr hb2))
  · have ha2 : isP a = false := (Bool.not_eq_true _).mp ha
    exact OPL.bad hW (c := 1) (by decide) (by decide) (h_drop_1 w1.1 (x_drop_1a w1 ha2)) (fun M2 sz2 h => q9_drop_1 h (Or.inl ha2))
