/-! tableOf, turned, bolt, boltOf, stopped -/
theorem TS.standingWith {g : GE} {M : Mem} {sz : Nat} {t : Nat} {σ : Nat → Int32} (h : TS g M t σ) (hR : RW g M) {x y : Int32} (a b : Nat) (hx : x = nI a) (hy : y = nI b) (ha : a < 5) (hb : b < 5) : Run g m_X3_standingWith [rf g 85, rf g t, .int x, .int y] M sz 0 0 (Ret (some (.int (nI (cnt (fun r => rHas r a b && thr σ r) 37)))) M) := by
  obtain ⟨f, p, h1, h2⟩ := h
  exact r_standingWith hR h1 h2 a b hx hy ha hb
def ofTabS (σ : Nat → Int32) (i j : Nat) (c : Int32) : Int32 := if c = 2 then nI (cnt (fun r => rHas r i j && thr σ r) 37) else if hasS σ i j = false then -1 else if c = 0 then upS σ i j else upS σ j i
theorem ofTab_2 {σ : Nat → Int32} {i j : Nat} {c : Int32} (h : c = 2) : ofTabS σ i j c = nI (cnt (fun r => rHas r i j && thr σ r) 37) := if_pos h
theorem ofTab_n {σ : Nat → Int32} {i j : Nat} {c : Int32} (h : ¬ c = 2) (h2 : hasS σ i j = false) : ofTabS σ i j c = -1 := by unfold ofTabS; rw [if_neg h, if_pos h2]
theorem ofTab_0 {σ : Nat → Int32} {i j : Nat} {c : Int32} (h : ¬ c = 2) (h2 : hasS σ i j = true) (h3 : c = 0) : ofTabS σ i j c = upS σ i j := by unfold ofTabS; rw [if_neg h, if_neg (by rw [h2]; decide), if_pos h3]
theorem ofTab_1 {σ : Nat → Int32} {i j : Nat} {c : Int32} (h : ¬ c = 2) (h2 : hasS σ i j = true) (h3 : ¬ c = 0) : ofTabS σ i j c = upS σ j i := by unfold ofTabS; rw [if_neg h, if_neg (by rw [h2]; decide), if_neg h3]
def turnedS (σ : Nat → Int32) (i j : Nat) (l : Int64) : Int32 := if hasS σ i j = true then (turnS σ i j l).toInt32 else -1
theorem turned_t {σ : Nat → Int32} {i j : Nat} {l : Int64} (h : hasS σ i j = true) : turnedS σ i j l = (turnS σ i j l).toInt32 := if_pos h
theorem turned_f {σ : Nat → Int32} {i j : Nat} {l : Int64} (h : hasS σ i j = false) : turnedS σ i j l = -1 := if_neg (by rw [h]; decide)
set_option maxRecDepth 20000 in
theorem x_tableOf_ok {g : GE} {M : Mem} {sz : Nat} {σ τ : Nat → Int32} {hk : Bool} {n : Nat} {ps : Nat → Nat → Int32} {len : Nat} {tx : Nat → Int32} (hC : CW g M σ τ hk n ps len tx) {a b c : Int32} (hI : I10 σ) (i j : Nat) (hi : i < 5) (hj : j < 5) (ha : a = nI i) (hb : b = nI j) (hij : i ≠ j) (hc : ¬ c < 0) (hc2 : c ≤ 2) : Run g m_X8_tableOf [rf g 0, .int a, .int b, .int c] M sz 0 0 (RetP (some (.int (ofTabS σ i j c))) (fun M2 => CW g M2 (σ) (τ) (hk) (n) (ps) (len) (tx) ∧ FR M M2 0 96)) := by
  subst ha hb
  obtain ⟨p0, y1, y2⟩ := hC.2.1.1
  refine Run.of rfl (by decide) (Nat.le_of_ble_eq_true rfl) ?_
  show V g m_X8_tableOf 0 _ [] _ _ _ _ _
  refine V_iload_n 1 dX8_tableOf_0 rfl ?_
  refine V_iload_n 2 dX8_tableOf_1 rfl ?_
  refine C_X8_85 rfl ⟨Nat.le_of_ble_eq_true rfl, Nat.le_of_ble_eq_true rfl⟩ (r_checkPair_ok (isP_nI hi) (isP_nI hj) (fun e => hij ((nI_eq (by omega) (by omega)).mp e))) rfl (Nat.le_of_ble_eq_true rfl) dX8_tableOf_2 rfl ?_
  refine V_iload_n 3 dX8_tableOf_5 rfl ?_
  refine V_iconst (v := 0) dX8_tableOf_6 rfl ?_
  refine V_iconst (v := 2) dX8_tableOf_7 rfl ?_
  refine C_X8_66 rfl ⟨Nat.le_of_ble_eq_true rfl, Nat.le_of_ble_eq_true rfl⟩ (r_checkRange_ok hc hc2) rfl (Nat.le_of_ble_eq_true rfl) dX8_tableOf_8 rfl ?_
  refine V_pc (pc2 := 11) rfl ?_
  refine V_iload_n 3 dX8_tableOf_11 rfl ?_
  refine V_iconst (v := 2) dX8_tableOf_12 rfl ?_
  refine V_icmp_ne (tgt := 33) dX8_tableOf_13 (by decide) (fun c13 => ?_) (fun c13 => ?_)
  · refine V_aload_n 0 dX8_tableOf_33 rfl ?_
    refine G_X8_10 rfl hC.1 rfl dX8_tableOf_34 ?_
    refine G_X8_89 rfl y1 rfl dX8_tableOf_37 ?_
    refine V_iload_n 1 dX8_tableOf_40 rfl ?_
    refine V_iload_n 2 dX8_tableOf_41 rfl ?_
    refine C_X8_118 (show _ = some (eO 4 [rf g (1 + 3 + 1), .int _]) from hC.2.1.2.2.2.1.choose_spec.choose_spec.1.1) rfl ⟨Nat.le_of_ble_eq_true rfl, Nat.le_of_ble_eq_true rfl⟩ (hC.2.1.2.2.2.1.has hI i j rfl rfl hi hj) rfl (Nat.le_of_ble_eq_true rfl) dX8_tableOf_42 rfl ?_
    refine V_if_ne (tgt := 50) dX8_tableOf_45 (by decide) (fun c45 => ?_) (fun c45 => ?_)
    · refine V_iload_n 3 dX8_tableOf_50 rfl ?_
      refine V_if_ne (tgt := 69) dX8_tableOf_51 (by decide) (fun c51 => ?_) (fun c51 => ?_)
      · refine V_aload_n 0 dX8_tableOf_69 rfl ?_
        refine G_X8_10 rfl hC.1 rfl dX8_tableOf_70 ?_
        refine G_X8_89 rfl y1 rfl dX8_tableOf_73 ?_
        refine V_iload_n 2 dX8_tableOf_76 rfl ?_
        refine V_iload_n 1 dX8_tableOf_77 rfl ?_
        refine C_X8_236 (show _ = some (eO 4 [rf g (1 + 3 + 1), .int _]) from hC.2.1.2.2.2.1.choose_spec.choose_spec.1.1) rfl ⟨Nat.le_of_ble_eq_true rfl, Nat.le_of_ble_eq_true rfl⟩ (hC.2.1.2.2.2.1.up j i rfl rfl hj hi (Ne.symm hij)) rfl (Nat.le_of_ble_eq_true rfl) dX8_tableOf_78 rfl ?_
        refine V_iret (st := []) dX8_tableOf_81 rfl ?_
        rw [ofTab_1 c13 (bI_1 c45) c51]
        exact ⟨rfl, hC, FR.refl _ _ _⟩
      · refine V_aload_n 0 dX8_tableOf_54 rfl ?_
        refine G_X8_10 rfl hC.1 rfl dX8_tableOf_55 ?_
        refine G_X8_89 rfl y1 rfl dX8_tableOf_58 ?_
        refine V_iload_n 1 dX8_tableOf_61 rfl ?_
        refine V_iload_n 2 dX8_tableOf_62 rfl ?_
        refine C_X8_236 (show _ = some (eO 4 [rf g (1 + 3 + 1), .int _]) from hC.2.1.2.2.2.1.choose_spec.choose_spec.1.1) rfl ⟨Nat.le_of_ble_eq_true rfl, Nat.le_of_ble_eq_true rfl⟩ (hC.2.1.2.2.2.1.up i j rfl rfl hi hj hij) rfl (Nat.le_of_ble_eq_true rfl) dX8_tableOf_63 rfl ?_
        refine V_goto (tgt := 81) dX8_tableOf_66 (by decide) ?_
        refine V_pc (pc2 := 81) rfl ?_
        refine V_iret (st := []) dX8_tableOf_81 rfl ?_
        rw [ofTab_0 c13 (bI_1 c45) c51]
        exact ⟨rfl, hC, FR.refl _ _ _⟩
    · refine V_iconst (v := -1) dX8_tableOf_48 rfl ?_
      refine V_iret (st := []) dX8_tableOf_49 rfl ?_
      rw [ofTab_n c13 (bI_0 c45)]
      exact ⟨rfl, hC, FR.refl _ _ _⟩
  · refine V_aload_n 0 dX8_tableOf_16 rfl ?_
    refine G_X8_36 rfl hC.1 rfl dX8_tableOf_17 ?_
    refine V_aload_n 0 dX8_tableOf_20 rfl ?_
    refine G_X8_10 rfl hC.1 rfl dX8_tableOf_21 ?_
    refine G_X8_89 rfl y1 rfl dX8_tableOf_24 ?_
    refine V_iload_n 1 dX8_tableOf_27 rfl ?_
    refine V_iload_n 2 dX8_tableOf_28 rfl ?_
    refine V_pc (pc2 := 29) rfl ?_
    refine C_X8_232 hC.2.2.2.2.2.1.1 rfl ⟨Nat.le_of_ble_eq_true rfl, Nat.le_of_ble_eq_true rfl⟩ (hC.2.1.2.2.2.1.standingWith hC.2.2.2.2.2.1 i j rfl rfl hi hj) rfl (Nat.le_of_ble_eq_true rfl) dX8_tableOf_29 rfl ?_
    refine V_iret (st := []) dX8_tableOf_32 rfl ?_
    rw [ofTab_2 c13]
    exact ⟨rfl, hC, FR.refl _ _ _⟩
set_option maxRecDepth 20000 in
theorem x_turned_ok {g : GE} {M : Mem} {sz : Nat} {σ τ : Nat → Int32} {hk : Bool} {n : Nat} {ps : Nat → Nat → Int32} {len : Nat} {tx : Nat → Int32} (hC : CW g M σ τ hk n ps len tx) {a b c : Int32} (hI : I10 σ) (i j : Nat) (hi : i < 5) (hj : j < 5) (ha : a = nI i) (hb : b = nI j) (hij : i ≠ j) (hc : ¬ c < 0) (hc2 : c ≤ 99999) : Run g m_X8_turned [rf g 0, .int a, .int b, .int c] M sz 0 0 (RetP (some (.int (turnedS σ i j c.toInt64))) (fun M2 => CW g M2 (σ) (τ) (hk) (n) (ps) (len) (tx) ∧ FR M M2 0 96)) := by
  subst ha hb
  obtain ⟨p0, y1, y2⟩ := hC.2.1.1
  refine Run.of rfl (by decide) (Nat.le_of_ble_eq_true rfl) ?_
  show V g m_X8_turned 0 _ [] _ _ _ _ _
  refine V_iload_n 1 dX8_turned_0 rfl ?_
  refine V_iload_n 2 dX8_turned_1 rfl ?_
  refine C_X8_85 rfl ⟨Nat.le_of_ble_eq_true rfl, Nat.le_of_ble_eq_true rfl⟩ (r_checkPair_ok (isP_nI hi) (isP_nI hj) (fun e => hij ((nI_eq (by omega) (by omega)).mp e))) rfl (Nat.le_of_ble_eq_true rfl) dX8_turned_2 rfl ?_
  refine V_iload_n 3 dX8_turned_5 rfl ?_
  refine V_iconst (v := 0) dX8_turned_6 rfl ?_
  refine V_ldcw z_X8_294 dX8_turned_7 ?_
  refine C_X8_66 rfl ⟨Nat.le_of_ble_eq_true rfl, Nat.le_of_ble_eq_true rfl⟩ (r_checkRange_ok hc hc2) rfl (Nat.le_of_ble_eq_true rfl) dX8_turned_10 rfl ?_
  refine V_pc (pc2 := 13) rfl ?_
  refine V_aload_n 0 dX8_turned_13 rfl ?_
  refine G_X8_10 rfl hC.1 rfl dX8_turned_14 ?_
  refine G_X8_89 rfl y1 rfl dX8_turned_17 ?_
  refine V_iload_n 1 dX8_turned_20 rfl ?_
  refine V_iload_n 2 dX8_turned_21 rfl ?_
  refine C_X8_118 (show _ = some (eO 4 [rf g (1 + 3 + 1), .int _]) from hC.2.1.2.2.2.1.choose_spec.choose_spec.1.1) rfl ⟨Nat.le_of_ble_eq_true rfl, Nat.le_of_ble_eq_true rfl⟩ (hC.2.1.2.2.2.1.has hI i j rfl rfl hi hj) rfl (Nat.le_of_ble_eq_true rfl) dX8_turned_22 rfl ?_
  refine V_if_ne (tgt := 30) dX8_turned_25 (by decide) (fun c25 => ?_) (fun c25 => ?_)
  · refine V_iload_n 3 dX8_turned_30 rfl ?_
    refine V_i2l dX8_turned_31 ?_
    refine V_aload_n 0 dX8_turned_32 rfl ?_
    refine G_X8_10 rfl hC.1 rfl dX8_turned_33 ?_
    refine G_X8_89 rfl y1 rfl dX8_turned_36 ?_
    refine V_iload_n 1 dX8_turned_39 rfl ?_
    refine V_iload_n 2 dX8_turned_40 rfl ?_
    refine V_pc (pc2 := 41) rfl ?_
    refine C_X8_236 (show _ = some (eO 4 [rf g (1 + 3 + 1), .int _]) from hC.2.1.2.2.2.1.choose_spec.choose_spec.1.1) rfl ⟨Nat.le_of_ble_eq_true rfl, Nat.le_of_ble_eq_true rfl⟩ (hC.2.1.2.2.2.1.up i j rfl rfl hi hj hij) rfl (Nat.le_of_ble_eq_true rfl) dX8_turned_41 rfl ?_
    refine V_aload_n 0 dX8_turned_44 rfl ?_
    refine G_X8_10 rfl hC.1 rfl dX8_turned_45 ?_
    refine G_X8_89 rfl y1 rfl dX8_turned_48 ?_
    refine V_iload_n 2 dX8_turned_51 rfl ?_
    refine V_iload_n 1 dX8_turned_52 rfl ?_
    refine C_X8_236 (show _ = some (eO 4 [rf g (1 + 3 + 1), .int _]) from hC.2.1.2.2.2.1.choose_spec.choose_spec.1.1) rfl ⟨Nat.le_of_ble_eq_true rfl, Nat.le_of_ble_eq_true rfl⟩ (hC.2.1.2.2.2.1.up j i rfl rfl hj hi (Ne.symm hij)) rfl (Nat.le_of_ble_eq_true rfl) dX8_turned_53 rfl ?_
    refine V_aload_n 0 dX8_turned_56 rfl ?_
    refine V_pc (pc2 := 57) rfl ?_
    refine C_X8_295 hC.1 rfl ⟨Nat.le_of_ble_eq_true rfl, Nat.le_of_ble_eq_true rfl⟩ (r_rounding hC) rfl (Nat.le_of_ble_eq_true rfl) dX8_turned_57 rfl ?_
    refine C_X8_298 rfl ⟨Nat.le_of_ble_eq_true rfl, Nat.le_of_ble_eq_true rfl⟩ (r_turn _ _ _ _ (hasPos2 hI hi hj (bI_1 c25))) rfl (Nat.le_of_ble_eq_true rfl) dX8_turned_60 rfl ?_
    refine V_l2i dX8_turned_63 ?_
    refine V_iret (st := []) dX8_turned_64 rfl ?_
    rw [turned_t (bI_1 c25)]
    exact ⟨rfl, hC, FR.refl _ _ _⟩
  · refine V_iconst (v := -1) dX8_turned_28 rfl ?_
    refine V_iret (st := []) dX8_turned_29 rfl ?_
    rw [turned_f (bI_0 c25)]
    exact ⟨rfl, hC, FR.refl _ _ _⟩
set_option maxRecDepth 20000 in
theorem x_tableOf_1 {g : GE} {M : Mem} {sz : Nat} {σ τ : Nat → Int32} {hk : Bool} {n : Nat} {ps : Nat → Nat → Int32} {len : Nat} {tx : Nat → Int32} (hC : CW g M σ τ hk n ps len tx) {a b c : Int32} (h : isP a = false ∨ isP b = false) : Run g m_X8_tableOf [rf g 0, .int a, .int b, .int c] M sz 1 6 (Thr (exN 0) M) := by
  refine Run.of rfl (by decide) (Nat.le_of_ble_eq_true rfl) ?_
  show V g m_X8_tableOf 0 _ [] _ _ _ _ _
  refine V_iload_n 1 dX8_tableOf_0 rfl ?_
  refine V_iload_n 2 dX8_tableOf_1 rfl ?_
  refine Ct_X8_85 rfl rfl ⟨Nat.le_of_ble_eq_true rfl, Nat.le_of_ble_eq_true rfl⟩ (r_checkPair_bad h) rfl (Nat.le_of_ble_eq_true rfl) dX8_tableOf_2 rfl ?_
  exact ⟨rfl, rfl⟩
set_option maxRecDepth 20000 in
theorem x_tableOf_2a {g : GE} {M : Mem} {sz : Nat} {σ τ : Nat → Int32} {hk : Bool} {n : Nat} {ps : Nat → Nat → Int32} {len : Nat} {tx : Nat → Int32} (hC : CW g M σ τ hk n ps len tx) {a b c : Int32} (ha : isP a = true) (hb : isP b = true) (h : a = b) : Run g m_X8_tableOf [rf g 0, .int a, .int b, .int c] M sz 1 6 (Thr (exN 1) M) := by
  refine Run.of rfl (by decide) (Nat.le_of_ble_eq_true rfl) ?_
  show V g m_X8_tableOf 0 _ [] _ _ _ _ _
  refine V_iload_n 1 dX8_tableOf_0 rfl ?_
  refine V_iload_n 2 dX8_tableOf_1 rfl ?_
  refine Ct_X8_85 rfl rfl ⟨Nat.le_of_ble_eq_true rfl, Nat.le_of_ble_eq_true rfl⟩ (r_checkPair_same ha hb h) rfl (Nat.le_of_ble_eq_true rfl) dX8_tableOf_2 rfl ?_
  exact ⟨rfl, rfl⟩
set_option maxRecDepth 20000 in
theorem x_tableOf_2b {g : GE} {M : Mem} {sz : Nat} {σ τ : Nat → Int32} {hk : Bool} {n : Nat} {ps : Nat → Nat → Int32} {len : Nat} {tx : Nat → Int32} (hC : CW g M σ τ hk n ps len tx) {a b c : Int32} (ha : isP a = true) (hb : isP b = true) (h : a ≠ b) (hc : c < 0 ∨ ¬ c ≤ 2) : Run g m_X8_tableOf [rf g 0, .int a, .int b, .int c] M sz 1 6 (Thr (exN 1) M) := by
  refine Run.of rfl (by decide) (Nat.le_of_ble_eq_true rfl) ?_
  show V g m_X8_tableOf 0 _ [] _ _ _ _ _
  refine V_iload_n 1 dX8_tableOf_0 rfl ?_
  refine V_iload_n 2 dX8_tableOf_1 rfl ?_
  refine C_X8_85 rfl ⟨Nat.le_of_ble_eq_true rfl, Nat.le_of_ble_eq_true rfl⟩ (r_checkPair_ok ha hb h) rfl (Nat.le_of_ble_eq_true rfl) dX8_tableOf_2 rfl ?_
  refine V_iload_n 3 dX8_tableOf_5 rfl ?_
  refine V_iconst (v := 0) dX8_tableOf_6 rfl ?_
  refine V_iconst (v := 2) dX8_tableOf_7 rfl ?_
  refine Ct_X8_66 rfl rfl ⟨Nat.le_of_ble_eq_true rfl, Nat.le_of_ble_eq_true rfl⟩ (r_checkRange_bad hc) rfl (Nat.le_of_ble_eq_true rfl) dX8_tableOf_8 rfl ?_
  exact ⟨rfl, rfl⟩
set_option maxRecDepth 20000 in
theorem x_turned_1 {g : GE} {M : Mem} {sz : Nat} {σ τ : Nat → Int32} {hk : Bool} {n : Nat} {ps : Nat → Nat → Int32} {len : Nat} {tx : Nat → Int32} (hC : CW g M σ τ hk n ps len tx) {a b c : Int32} (h : isP a = false ∨ isP b = false) : Run g m_X8_turned [rf g 0, .int a, .int b, .int c] M sz 1 6 (Thr (exN 0) M) := by
  refine Run.of rfl (by decide) (Nat.le_of_ble_eq_true rfl) ?_
  show V g m_X8_turned 0 _ [] _ _ _ _ _
  refine V_iload_n 1 dX8_turned_0 rfl ?_
  refine V_iload_n 2 dX8_turned_1 rfl ?_
  refine Ct_X8_85 rfl rfl ⟨Nat.le_of_ble_eq_true rfl, Nat.le_of_ble_eq_true rfl⟩ (r_checkPair_bad h) rfl (Nat.le_of_ble_eq_true rfl) dX8_turned_2 rfl ?_
  exact ⟨rfl, rfl⟩
set_option maxRecDepth 20000 in
theorem x_turned_2a {g : GE} {M : Mem} {sz : Nat} {σ τ : Nat → Int32} {hk : Bool} {n : Nat} {ps : Nat → Nat → Int32} {len : Nat} {tx : Nat → Int32} (hC : CW g M σ τ hk n ps len tx) {a b c : Int32} (ha : isP a = true) (hb : isP b = true) (h : a = b) : Run g m_X8_turned [rf g 0, .int a, .int b, .int c] M sz 1 6 (Thr (exN 1) M) := by
  refine Run.of rfl (by decide) (Nat.le_of_ble_eq_true rfl) ?_
  show V g m_X8_turned 0 _ [] _ _ _ _ _
  refine V_iload_n 1 dX8_turned_0 rfl ?_
  refine V_iload_n 2 dX8_turned_1 rfl ?_
  refine Ct_X8_85 rfl rfl ⟨Nat.le_of_ble_eq_true rfl, Nat.le_of_ble_eq_true rfl⟩ (r_checkPair_same ha hb h) rfl (Nat.le_of_ble_eq_true rfl) dX8_turned_2 rfl ?_
  exact ⟨rfl, rfl⟩
set_option maxRecDepth 20000 in
theorem x_turned_2b {g : GE} {M : Mem} {sz : Nat} {σ τ : Nat → Int32} {hk : Bool} {n : Nat} {ps : Nat → Nat → Int32} {len : Nat} {tx : Nat → Int32} (hC : CW g M σ τ hk n ps len tx) {a b c : Int32} (ha : isP a = true) (hb : isP b = true) (h : a ≠ b) (hc : c < 0 ∨ ¬ c ≤ 99999) : Run g m_X8_turned [rf g 0, .int a, .int b, .int c] M sz 1 6 (Thr (exN 1) M) := by
  refine Run.of rfl (by decide) (Nat.le_of_ble_eq_true rfl) ?_
  show V g m_X8_turned 0 _ [] _ _ _ _ _
  refine V_iload_n 1 dX8_turned_0 rfl ?_
  refine V_iload_n 2 dX8_turned_1 rfl ?_
  refine C_X8_85 rfl ⟨Nat.le_of_ble_eq_true rfl, Nat.le_of_ble_eq_true rfl⟩ (r_checkPair_ok ha hb h) rfl (Nat.le_of_ble_eq_true rfl) dX8_turned_2 rfl ?_
  refine V_iload_n 3 dX8_turned_5 rfl ?_
  refine V_iconst (v := 0) dX8_turned_6 rfl ?_
  refine V_ldcw z_X8_294 dX8_turned_7 ?_
  refine Ct_X8_66 rfl rfl ⟨Nat.le_of_ble_eq_true rfl, Nat.le_of_ble_eq_true rfl⟩ (r_checkRange_bad hc) rfl (Nat.le_of_ble_eq_true rfl) dX8_turned_10 rfl ?_
  exact ⟨rfl, rfl⟩
set_option maxRecDepth 20000 in
theorem x_bolt_1 {g : GE} {M : Mem} {sz : Nat} {σ τ : Nat → Int32} {hk : Bool} {n : Nat} {ps : Nat → Nat → Int32} {len : Nat} {tx : Nat → Int32} (hC : CW g M σ τ hk n ps len tx) {a b : Int32} (ha : isP a = false) : Run g m_X8_bolt [rf g 0, .int a, .int b] M sz 1 6 (Thr (exN 0) M) := by
  refine Run.of rfl (by decide) (Nat.le_of_ble_eq_true rfl) ?_
  show V g m_X8_bolt 0 _ [] _ _ _ _ _
  refine V_iload_n 1 dX8_bolt_0 rfl ?_
  refine Ct_X8_62 rfl rfl ⟨Nat.le_of_ble_eq_true rfl, Nat.le_of_ble_eq_true rfl⟩ (r_checkParish_bad ha) rfl (Nat.le_of_ble_eq_true rfl) dX8_bolt_1 rfl ?_
  exact ⟨rfl, rfl⟩
set_option maxRecDepth 20000 in
theorem x_bolt_2 {g : GE} {M : Mem} {sz : Nat} {σ τ : Nat → Int32} {hk : Bool} {n : Nat} {ps : Nat → Nat → Int32} {len : Nat} {tx : Nat → Int32} (hC : CW g M σ τ hk n ps len tx) {a b : Int32} (ha : isP a = true) (hb : b < 1 ∨ ¬ b ≤ 9999) : Run g m_X8_bolt [rf g 0, .int a, .int b] M sz 1 6 (Thr (exN 1) M) := by
  refine Run.of rfl (by decide) (Nat.le_of_ble_eq_true rfl) ?_
  show V g m_X8_bolt 0 _ [] _ _ _ _ _
  refine V_iload_n 1 dX8_bolt_0 rfl ?_
  refine C_X8_62 rfl ⟨Nat.le_of_ble_eq_true rfl, Nat.le_of_ble_eq_true rfl⟩ (r_checkParish_ok ha) rfl (Nat.le_of_ble_eq_true rfl) dX8_bolt_1 rfl ?_
  refine V_iload_n 2 dX8_bolt_4 rfl ?_
  refine V_iconst (v := 1) dX8_bolt_5 rfl ?_
  refine V_sipush (v := 9999) dX8_bolt_6 (by decide) ?_
  refine Ct_X8_66 rfl rfl ⟨Nat.le_of_ble_eq_true rfl, Nat.le_of_ble_eq_true rfl⟩ (r_checkRange_bad hb) rfl (Nat.le_of_ble_eq_true rfl) dX8_bolt_9 rfl ?_
  exact ⟨rfl, rfl⟩
set_option maxRecDepth 20000 in
theorem x_bolt_3 {g : GE} {M : Mem} {sz : Nat} {σ τ : Nat → Int32} {hk : Bool} {n : Nat} {ps : Nat → Nat → Int32} {len : Nat} {tx : Nat → Int32} (hC : CW g M σ τ hk n ps len tx) {a b : Int32} (ha : isP a = true) (hb : ¬ b < 1) (hb2 : b ≤ 9999) (hm : σ 60 = nI 8) : Run g m_X8_bolt [rf g 0, .int a, .int b] M sz 1 6 (Thr (exN 2) M) := by
  obtain ⟨p0, y1, y2⟩ := hC.2.1.1
  refine Run.of rfl (by decide) (Nat.le_of_ble_eq_true rfl) ?_
  show V g m_X8_bolt 0 _ [] _ _ _ _ _
  refine V_iload_n 1 dX8_bolt_0 rfl ?_
  refine C_X8_62 rfl ⟨Nat.le_of_ble_eq_true rfl, Nat.le_of_ble_eq_true rfl⟩ (r_checkParish_ok ha) rfl (Nat.le_of_ble_eq_true rfl) dX8_bolt_1 rfl ?_
  refine V_iload_n 2 dX8_bolt_4 rfl ?_
  refine V_iconst (v := 1) dX8_bolt_5 rfl ?_
  refine V_sipush (v := 9999) dX8_bolt_6 (by decide) ?_
  refine C_X8_66 rfl ⟨Nat.le_of_ble_eq_true rfl, Nat.le_of_ble_eq_true rfl⟩ (r_checkRange_ok hb hb2) rfl (Nat.le_of_ble_eq_true rfl) dX8_bolt_9 rfl ?_
  refine V_aload_n 0 dX8_bolt_12 rfl ?_
  refine V_pc (pc2 := 13) rfl ?_
  refine G_X8_10 rfl hC.1 rfl dX8_bolt_13 ?_
  refine G_X8_139 rfl y1 rfl dX8_bolt_16 ?_
  refine G_X8_143 rfl (show _ = some (BO g 6 (σ 60) (σ 62) (σ 61)) from hC.2.1.2.2.2.2.1) rfl dX8_bolt_19 ?_
  refine V_bipush (v := 8) dX8_bolt_22 (by decide) ?_
  refine V_icmp_lt (tgt := 37) dX8_bolt_24 (by decide) (fun c24 => absurd c24 (by rw [hm]; decide)) (fun c24 => ?_)
  refine V_throwS 2 3 (by decide) (by decide) rfl rfl rfl rfl rfl (Nat.le_of_ble_eq_true rfl) (Nat.le_of_ble_eq_true rfl) dX8_bolt_27 dX8_bolt_30 dX8_bolt_31 dX8_bolt_33 dX8_bolt_36 ?_
  exact ⟨rfl, rfl⟩
theorem comeS_o {σ : Nat → Int32} {m k : Nat} {a b : Int32} (hk : k < 28 ∨ 61 ≤ k) (hm : m < 8) : comeS σ m a b k = σ k := by
  unfold comeS; rw [upd_ne (by omega), upd_ne (by omega), upd_ne (by omega), upd_ne (by omega), upd_ne (by omega)]
set_option maxRecDepth 20000 in
theorem x_bolt_ok {g : GE} {M : Mem} {sz : Nat} {σ τ : Nat → Int32} {hk : Bool} {n : Nat} {ps : Nat → Nat → Int32} {len : Nat} {tx : Nat → Int32} (hC : CW g M σ τ hk n ps len tx) (hn : n ≤ 6) {a b : Int32} (ha : isP a = true) (hb : ¬ b < 1) (hb2 : b ≤ 9999) (m : Nat) (hm : σ 60 = nI m) (hm8 : m < 8) : Run g m_X8_bolt [rf g 0, .int a, .int b] M sz 0 0 (RetP (some (.int (nI m))) (fun M2 => CW g M2 (comeS σ m a b) (τ) (hk) (pshN n) (pshP n ps σ) (len) (tx) ∧ FR M M2 0 96)) := by
  obtain ⟨p0, y1, y2⟩ := hC.2.1.1
  refine Run.of rfl (by decide) (Nat.le_of_ble_eq_true rfl) ?_
  show V g m_X8_bolt 0 _ [] _ _ _ _ _
  refine V_iload_n 1 dX8_bolt_0 rfl ?_
  refine C_X8_62 rfl ⟨Nat.le_of_ble_eq_true rfl, Nat.le_of_ble_eq_true rfl⟩ (r_checkParish_ok ha) rfl (Nat.le_of_ble_eq_true rfl) dX8_bolt_1 rfl ?_
  refine V_iload_n 2 dX8_bolt_4 rfl ?_
  refine V_iconst (v := 1) dX8_bolt_5 rfl ?_
  refine V_sipush (v := 9999) dX8_bolt_6 (by decide) ?_
  refine C_X8_66 rfl ⟨Nat.le_of_ble_eq_true rfl, Nat.le_of_ble_eq_true rfl⟩ (r_checkRange_ok hb hb2) rfl (Nat.le_of_ble_eq_true rfl) dX8_bolt_9 rfl ?_
  refine V_aload_n 0 dX8_bolt_12 rfl ?_
  refine V_pc (pc2 := 13) rfl ?_
  refine G_X8_10 rfl hC.1 rfl dX8_bolt_13 ?_
  refine G_X8_139 rfl y1 rfl dX8_bolt_16 ?_
  refine G_X8_143 rfl (show _ = some (BO g 6 (σ 60) (σ 62) (σ 61)) from hC.2.1.2.2.2.2.1) rfl dX8_bolt_19 ?_
  refine V_bipush (v := 8) dX8_bolt_22 (by decide) ?_
  refine V_icmp_lt (tgt := 37) dX8_bolt_24 (by decide) (fun c24 => ?_) (fun c24 => absurd (by rw [hm]; exact nI_lt (b := 8) hm8 (by decide)) c24)
  refine V_aload_n 0 dX8_bolt_37 rfl ?_
  refine G_X8_22 rfl hC.1 rfl dX8_bolt_38 ?_
  refine V_aload_n 0 dX8_bolt_41 rfl ?_
  refine V_pc (pc2 := 42) rfl ?_
  refine G_X8_10 rfl hC.1 rfl dX8_bolt_42 ?_
  refine Cp_X8_70 hC.2.2.2.1.choose_spec.1 rfl ⟨Nat.le_of_ble_eq_true rfl, Nat.le_of_ble_eq_true rfl⟩ (r_push hC.2.2.2.1 hn hC.2.1 (by omega)) rfl (Nat.le_of_ble_eq_true rfl) dX8_bolt_45 rfl (fun _ q9 => ?_)
  have hC2 := hC.psh q9.1 q9.2
  have hF2 := q9.2
  clear q9
  obtain ⟨p9, y3, y4⟩ := hC2.2.1.1
  refine V_aload_n 0 dX8_bolt_48 rfl ?_
  refine G_X8_10 rfl hC2.1 rfl dX8_bolt_49 ?_
  refine G_X8_139 rfl y3 rfl dX8_bolt_52 ?_
  refine V_iload_n 1 dX8_bolt_55 rfl ?_
  refine V_iload_n 2 dX8_bolt_56 rfl ?_
  refine Cp_X8_151 (show _ = some (BO g 6 (σ 60) (σ 62) (σ 61)) from hC2.2.1.2.2.2.2.1) rfl ⟨Nat.le_of_ble_eq_true rfl, Nat.le_of_ble_eq_true rfl⟩ (r_come hC2.2.1.2.2.2.2 m hm hm8 a b) rfl (Nat.le_of_ble_eq_true rfl) dX8_bolt_57 rfl (fun _ q8 => ?_)
  have hC3 := hC2.now (hC2.2.1.bol q8.1 q8.2 (fun k hk => comeS_o (by omega) hm8)) (q8.2.wide (by omega))
  have hF3 := q8.2
  clear q8
  obtain ⟨z9, z3, z4⟩ := hC3.2.1.1
  refine V_pc (pc2 := 60) rfl ?_
  refine V_aload_n 0 dX8_bolt_60 rfl ?_
  refine G_X8_10 rfl hC3.1 rfl dX8_bolt_61 ?_
  refine G_X8_139 rfl z3 rfl dX8_bolt_64 ?_
  refine G_X8_143 rfl (show _ = some (BO g 6 (comeS σ m a b 60) (comeS σ m a b 62) (comeS σ m a b 61)) from hC3.2.1.2.2.2.2.1) rfl dX8_bolt_67 ?_
  refine V_iconst (v := 1) dX8_bolt_70 rfl ?_
  refine V_isub dX8_bolt_71 ?_
  refine V_iret (st := []) dX8_bolt_72 rfl ?_
  rw [show comeS σ m a b 60 = nI (m + 1) from upd_at _ _ _, show nI (m + 1) - 1 = nI m by rw [show (1 : Int32) = nI 1 from rfl, pk_sub (by omega)]; rfl]
  exact ⟨rfl, hC3, FR.trans (b := 0) (n := 96) (FR.wide hF2 (b2 := 0) (n2 := 96) (by omega)) hF3 (by omega)⟩
theorem IS.come {σ : Nat → Int32} (h : IS σ) {m q : Nat} (hm : σ 60 = nI m) (hm8 : m < 8) (hq : q < 5) {b : Int32} (hb : ¬ b < 1) (hb2 : b ≤ 99999) : IS (comeS σ m (nI q) b) := by
  obtain ⟨h1, ⟨n, hn, hn2, h2⟩, h3, h4, h5, h6, h7⟩ := h
  obtain rfl : n = m := (nI_eq (by omega) (by omega)).mp (hn2.symm.trans hm)
  have e : ∀ k, k < 28 ∨ 61 ≤ k → comeS σ n (nI q) b k = σ k := fun k hk => comeS_o hk hm8
  refine ⟨fun k hk => by rw [e _ (by omega), e _ (by omega)]; exact h1 k hk, ⟨n + 1, by omega, upd_at _ _ _, fun j hj => ?_⟩, fun j hj => by rw [e _ (by omega)]; exact h3 j hj, by rw [e _ (by omega)]; exact h4, by rw [e _ (by omega)]; exact h5, by rw [e _ (by omega)]; exact h6, by rw [e _ (by omega), e _ (by omega)]; exact h7⟩
  unfold comeS
  rw [upd_ne (show 28 + 4 * j ≠ 60 by omega), upd_ne (show 28 + 4 * j + 1 ≠ 60 by omega), upd_ne (show 28 + 4 * j ≠ 28 + 4 * n + 3 by omega), upd_ne (show 28 + 4 * j + 1 ≠ 28 + 4 * n + 3 by omega), upd_ne (show 28 + 4 * j ≠ 28 + 4 * n + 2 by omega), upd_ne (show 28 + 4 * j + 1 ≠ 28 + 4 * n + 2 by omega), upd_ne (show 28 + 4 * j ≠ 28 + 4 * n + 1 by omega)]
  by_cases hjn : j = n
  · subst hjn
    rw [upd_at, upd_at]
    obtain ⟨l, l1, l2, l3⟩ := nI_rng (l := 1) (h := 99999) hb hb2 (by decide) (by decide)
    exact ⟨⟨q, hq, rfl⟩, l, l2, l3⟩
  · rw [upd_ne (by omega), upd_ne (by omega), upd_ne (by omega)]
    exact h2 j (by omega)
def stopS (σ : Nat → Int32) (c : Int32) : Int32 := if σ 64 = 0 then -1 else if c = 0 then σ 63 - 1 else σ 64
set_option maxRecDepth 20000 in
theorem x_stopped_1 {g : GE} {M : Mem} {sz : Nat} {σ τ : Nat → Int32} {hk : Bool} {n : Nat} {ps : Nat → Nat → Int32} {len : Nat} {tx : Nat → Int32} (hC : CW g M σ τ hk n ps len tx) {c : Int32} (hc : c < 0 ∨ ¬ c ≤ 1) : Run g m_X8_stopped [rf g 0, .int c] M sz 1 6 (Thr (exN 1) M) := by
  refine Run.of rfl (by decide) (Nat.le_of_ble_eq_true rfl) ?_
  show V g m_X8_stopped 0 _ [] _ _ _ _ _
  refine V_iload_n 1 dX8_stopped_0 rfl ?_
  refine V_iconst (v := 0) dX8_stopped_1 rfl ?_
  refine V_iconst (v := 1) dX8_stopped_2 rfl ?_
  refine Ct_X8_66 rfl rfl ⟨Nat.le_of_ble_eq_true rfl, Nat.le_of_ble_eq_true rfl⟩ (r_checkRange_bad hc) rfl (Nat.le_of_ble_eq_true rfl) dX8_stopped_3 rfl ?_
  exact ⟨rfl, rfl⟩
set_option maxRecDepth 20000 in
theorem x_stopped_ok {g : GE} {M : Mem} {sz : Nat} {σ τ : Nat → Int32} {hk : Bool} {n : Nat} {ps : Nat → Nat → Int32} {len : Nat} {tx : Nat → Int32} (hC : CW g M σ τ hk n ps len tx) {c : Int32} (hc : ¬ c < 0) (hc2 : c ≤ 1) : Run g m_X8_stopped [rf g 0, .int c] M sz 0 0 (RetP (some (.int (stopS σ c))) (fun M2 => CW g M2 (σ) (τ) (hk) (n) (ps) (len) (tx) ∧ FR M M2 0 96)) := by
  obtain ⟨p0, y1, y2⟩ := hC.2.1.1
  refine Run.of rfl (by decide) (Nat.le_of_ble_eq_true rfl) ?_
  show V g m_X8_stopped 0 _ [] _ _ _ _ _
  refine V_iload_n 1 dX8_stopped_0 rfl ?_
  refine V_iconst (v := 0) dX8_stopped_1 rfl ?_
  refine V_iconst (v := 1) dX8_stopped_2 rfl ?_
  refine C_X8_66 rfl ⟨Nat.le_of_ble_eq_true rfl, Nat.le_of_ble_eq_true rfl⟩ (r_checkRange_ok hc hc2) rfl (Nat.le_of_ble_eq_true rfl) dX8_stopped_3 rfl ?_
  refine V_aload_n 0 dX8_stopped_6 rfl ?_
  refine G_X8_10 rfl hC.1 rfl dX8_stopped_7 ?_
  refine G_X8_216 rfl y1 rfl dX8_stopped_10 ?_
  refine V_pc (pc2 := 13) rfl ?_
  refine V_if_ne (tgt := 18) dX8_stopped_13 (by decide) (fun c13 => ?_) (fun c13 => ?_)
  · refine V_iload_n 1 dX8_stopped_18 rfl ?_
    refine V_if_ne (tgt := 32) dX8_stopped_19 (by decide) (fun c19 => ?_) (fun c19 => ?_)
    · refine V_aload_n 0 dX8_stopped_32 rfl ?_
      refine G_X8_10 rfl hC.1 rfl dX8_stopped_33 ?_
      refine G_X8_216 rfl y1 rfl dX8_stopped_36 ?_
      refine V_iret (st := []) dX8_stopped_39 rfl ?_
      unfold stopS
      rw [if_neg c13, if_neg c19]
      exact ⟨rfl, hC, FR.refl _ _ _⟩
    · refine V_aload_n 0 dX8_stopped_22 rfl ?_
      refine G_X8_10 rfl hC.1 rfl dX8_stopped_23 ?_
      refine G_X8_213 rfl y1 rfl dX8_stopped_26 ?_
      refine V_goto (tgt := 39) dX8_stopped_29 (by decide) ?_
      refine V_iret (st := []) dX8_stopped_39 rfl ?_
      have e := y2.resolve_left c13
      unfold stopS
      rw [if_neg c13, if_pos c19, e, Int32.add_sub_cancel]
      exact ⟨rfl, hC, FR.refl _ _ _⟩
  · refine V_iconst (v := -1) dX8_stopped_16 rfl ?_
    refine V_iret (st := []) dX8_stopped_17 rfl ?_
    unfold stopS
    rw [if_pos c13]
    exact ⟨rfl, hC, FR.refl _ _ _⟩
theorem IS.stop {σ : Nat → Int32} (h : IS σ) : σ 63 = 0 ↔ σ 64 = 0 := by
  rcases h.2.2.2.2.2.2 with ⟨a, b⟩ | ⟨n, w, a, b, c, d, e⟩
  · exact ⟨fun _ => b, fun _ => a⟩
  · rw [d, e]
    exact ⟨fun h => absurd ((nI_eq (b := 0) (by omega) (by decide)).mp h) (by omega), fun h => absurd ((nI_eq (b := 0) (by omega) (by decide)).mp h) (by omega)⟩
