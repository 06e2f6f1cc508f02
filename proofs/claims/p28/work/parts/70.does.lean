/-! texts: what a part does -/
def boR (σ : Nat → Int32) (i : Nat) : Nat := (σ (28 + 4 * i)).toNatClampNeg
def baR (σ : Nat → Int32) (i p : Nat) : Int32 := barS σ (boR σ i) p (σ (28 + 4 * i + 1)).toInt64
def doD (σ : Nat → Int32) (a b : Nat) : Int32 × (Nat → Int32) := if a = b then (4, σ) else if hasS σ a b = false then (6, σ) else (0, putS σ a b 0 0)
def doB (σ : Nat → Int32) (a l : Nat) : Int32 × (Nat → Int32) := if σ 60 = 8 then (8, σ) else (0, comeS σ (σ 60).toNatClampNeg (nI a) (nI l))
def doS (σ : Nat → Int32) (i p : Nat) : Int32 × (Nat → Int32) := if i < (σ 60).toNatClampNeg then (if baR σ i p = 0 then (0, sendS σ i (boR σ i) p) else (baR σ i p, σ)) else (7, σ)
def doTb (σ : Nat → Int32) (a b u d : Nat) : Int32 × (Nat → Int32) := if a = b then (4, σ) else if (fnd (wouS (putS σ a b (nI u) (nI d)) a b) 0 37).isSome = true then (5, σ) else (0, putS σ a b (nI u) (nI d))
def doP (σ : Nat → Int32) (kd : Nat) (n : Nat → Nat) : Int32 × (Nat → Int32) := if kd = 45 then doD σ (n 0) (n 1) else if kd = 98 then doB σ (n 0) (n 1) else if kd = 115 then doS σ (n 0) (n 1) else doTb σ (n 0) (n 1) (n 2) (n 3)
theorem isB_nI {σ : Nat → Int32} {m a : Nat} (hm : σ 60 = nI m) (hm8 : m ≤ 8) (ha : a < 2 ^ 31) : (decide (0 ≤ nI a) && decide (nI a < σ 60)) = decide (a < m) := by
  rw [hm, decide_eq_true (nI_pos' ha), Bool.true_and]
  exact decide_eq_decide.mpr (nI_ltI ha (by omega))
theorem UDn {u d : Nat} (hu : 1 ≤ u) (hu2 : u ≤ 99) (hd : 1 ≤ d) (hd2 : d ≤ 99) : UD (nI u) (nI d) := Or.inr ⟨u, d, hu, hu2, hd, hd2, rfl, rfl⟩
theorem boR_eq {σ : Nat → Int32} {i q : Nat} (h : σ (28 + 4 * i) = nI q) (hq : q < 5) : boR σ i = q := by unfold boR; rw [h, nI_clamp (by omega)]
set_option maxRecDepth 20000 in
theorem x_doDrop {g : GE} {M : Mem} {sz : Nat} {σ τ : Nat → Int32} {hk : Bool} {n : Nat} {ps : Nat → Nat → Int32} {len : Nat} {tx : Nat → Int32} (hC : CW g M σ τ hk n ps len tx) (hI : I10 σ) {x y : Int32} (a b : Nat) (hx : x = nI a) (hy : y = nI b) (ha : a < 5) (hb : b < 5) : Run g m_X8_doDrop [rf g 0, .int x, .int y] M sz 0 0 (RetP (some (.int (doD σ a b).1)) (fun M2 => CW g M2 ((doD σ a b).2) (τ) (hk) (n) (ps) (len) (tx) ∧ FR M M2 0 96)) := by
  subst hx hy
  obtain ⟨p0, y1, y2⟩ := hC.2.1.1
  refine Run.of rfl (by decide) (Nat.le_of_ble_eq_true rfl) ?_
  show V g m_X8_doDrop 0 _ [] _ _ _ _ _
  refine V_iload_n 1 dX8_doDrop_0 rfl ?_
  refine V_iload_n 2 dX8_doDrop_1 rfl ?_
  refine V_icmp_ne (tgt := 7) dX8_doDrop_2 (by decide) (fun c2 => ?_) (fun c2 => ?_)
  · refine V_aload_n 0 dX8_doDrop_7 rfl ?_
    refine G_X8_10 rfl hC.1 rfl dX8_doDrop_8 ?_
    refine G_X8_89 rfl y1 rfl dX8_doDrop_11 ?_
    refine V_iload_n 1 dX8_doDrop_14 rfl ?_
    refine V_iload_n 2 dX8_doDrop_15 rfl ?_
    refine C_X8_118 (show _ = some (eO 4 [rf g (1 + 3 + 1), .int _]) from hC.2.1.2.2.2.1.choose_spec.choose_spec.1.1) rfl ⟨Nat.le_of_ble_eq_true rfl, Nat.le_of_ble_eq_true rfl⟩ (hC.2.1.2.2.2.1.has hI a b rfl rfl ha hb) rfl (Nat.le_of_ble_eq_true rfl) dX8_doDrop_16 rfl ?_
    refine V_if_ne (tgt := 25) dX8_doDrop_19 (by decide) (fun c19 => ?_) (fun c19 => ?_)
    · refine V_aload_n 0 dX8_doDrop_25 rfl ?_
      refine G_X8_10 rfl hC.1 rfl dX8_doDrop_26 ?_
      refine G_X8_89 rfl y1 rfl dX8_doDrop_29 ?_
      refine V_iload_n 1 dX8_doDrop_32 rfl ?_
      refine V_iload_n 2 dX8_doDrop_33 rfl ?_
      refine V_iconst (v := 0) dX8_doDrop_34 rfl ?_
      refine V_iconst (v := 0) dX8_doDrop_35 rfl ?_
      refine V_pc (pc2 := 36) rfl ?_
      refine Cp_X8_108 (show _ = some (eO 4 [rf g (1 + 3 + 1), .int _]) from hC.2.1.2.2.2.1.choose_spec.choose_spec.1.1) rfl ⟨Nat.le_of_ble_eq_true rfl, Nat.le_of_ble_eq_true rfl⟩ (hC.2.1.2.2.2.1.lay a b rfl rfl ha hb (show ¬ a = b from fun e => c2 (by rw [e])) (Or.inl ⟨rfl, rfl⟩)) rfl (Nat.le_of_ble_eq_true rfl) dX8_doDrop_36 rfl (fun _ q8 => ?_)
      have hC3 := hC.now (hC.2.1.tab q8.1 q8.2 (fun k hk => putS_big ha hb (show ¬ a = b from fun e => c2 (by rw [e])) hk)) (q8.2.wide (by omega))
      have hF3 := q8.2
      refine V_iconst (v := 0) dX8_doDrop_39 rfl ?_
      refine V_iret (st := []) dX8_doDrop_40 rfl ?_
      rw [show doD σ a b = (0, putS σ a b 0 0) by unfold doD; rw [if_neg (show ¬ a = b from fun e => c2 (by rw [e])), if_neg (by rw [bI_1 c19]; decide)]]
      exact ⟨rfl, hC3, hF3.wide (by omega)⟩
    · refine V_bipush (v := 6) dX8_doDrop_22 (by decide) ?_
      refine V_iret (st := []) dX8_doDrop_24 rfl ?_
      rw [show doD σ a b = (6, σ) by unfold doD; rw [if_neg (show ¬ a = b from fun e => c2 (by rw [e])), if_pos (bI_0 c19)]]
      exact ⟨rfl, hC, FR.refl _ _ _⟩
  · refine V_iconst (v := 4) dX8_doDrop_5 rfl ?_
    refine V_iret (st := []) dX8_doDrop_6 rfl ?_
    rw [show doD σ a b = (4, σ) from if_pos ((nI_eq (by omega) (by omega)).mp c2)]
    exact ⟨rfl, hC, FR.refl _ _ _⟩
set_option maxRecDepth 20000 in
theorem x_doBolt {g : GE} {M : Mem} {sz : Nat} {σ τ : Nat → Int32} {hk : Bool} {n : Nat} {ps : Nat → Nat → Int32} {len : Nat} {tx : Nat → Int32} (hC : CW g M σ τ hk n ps len tx) {x y : Int32} (a b m : Nat) (hx : x = nI a) (hy : y = nI b) (hm : σ 60 = nI m) (hm8 : m ≤ 8) : Run g m_X8_doBolt [rf g 0, .int x, .int y] M sz 0 0 (RetP (some (.int (doB σ a b).1)) (fun M2 => CW g M2 ((doB σ a b).2) (τ) (hk) (n) (ps) (len) (tx) ∧ FR M M2 0 96)) := by
  subst hx hy
  obtain ⟨p0, y1, y2⟩ := hC.2.1.1
  refine Run.of rfl (by decide) (Nat.le_of_ble_eq_true rfl) ?_
  show V g m_X8_doBolt 0 _ [] _ _ _ _ _
  refine V_aload_n 0 dX8_doBolt_0 rfl ?_
  refine G_X8_10 rfl hC.1 rfl dX8_doBolt_1 ?_
  refine G_X8_139 rfl y1 rfl dX8_doBolt_4 ?_
  refine G_X8_143 rfl (show _ = some (BO g 6 (σ 60) (σ 62) (σ 61)) from hC.2.1.2.2.2.2.1) rfl dX8_doBolt_7 ?_
  refine V_bipush (v := 8) dX8_doBolt_10 (by decide) ?_
  refine V_icmp_lt (tgt := 18) dX8_doBolt_12 (by decide) (fun c12 => ?_) (fun c12 => ?_)
  · refine V_aload_n 0 dX8_doBolt_18 rfl ?_
    refine G_X8_10 rfl hC.1 rfl dX8_doBolt_19 ?_
    refine G_X8_139 rfl y1 rfl dX8_doBolt_22 ?_
    refine V_iload_n 1 dX8_doBolt_25 rfl ?_
    refine V_iload_n 2 dX8_doBolt_26 rfl ?_
    refine Cp_X8_151 (show _ = some (BO g 6 (σ 60) (σ 62) (σ 61)) from hC.2.1.2.2.2.2.1) rfl ⟨Nat.le_of_ble_eq_true rfl, Nat.le_of_ble_eq_true rfl⟩ (r_come hC.2.1.2.2.2.2 m hm (by rw [hm] at c12; exact (nI_ltI (b := 8) (by omega) (by decide)).mp c12) (nI a) (nI b)) rfl (Nat.le_of_ble_eq_true rfl) dX8_doBolt_27 rfl (fun _ q8 => ?_)
    have hlt : m < 8 := by rw [hm] at c12; exact (nI_ltI (b := 8) (by omega) (by decide)).mp c12
    have hC3 := hC.now (hC.2.1.bol q8.1 q8.2 (fun k hk => comeS_o (by omega) hlt)) (q8.2.wide (by omega))
    have hF3 := q8.2
    refine V_iconst (v := 0) dX8_doBolt_30 rfl ?_
    refine V_pc (pc2 := 31) rfl ?_
    refine V_iret (st := []) dX8_doBolt_31 rfl ?_
    rw [show doB σ a b = (0, comeS σ m (nI a) (nI b)) by unfold doB; rw [if_neg (by rw [hm]; exact fun e => by have := (nI_eq (b := 8) (by omega) (by decide)).mp e; omega), hm, nI_clamp (by omega)]]
    exact ⟨rfl, hC3, hF3.wide (by omega)⟩
  · refine V_bipush (v := 8) dX8_doBolt_15 (by decide) ?_
    refine V_iret (st := []) dX8_doBolt_17 rfl ?_
    have hm88 : m = 8 := by rw [hm] at c12; have := mt (nI_ltI (b := 8) (by omega) (by decide)).mpr c12; omega
    rw [show doB σ a b = (8, σ) from if_pos (by rw [hm, hm88]; rfl)]
    exact ⟨rfl, hC, FR.refl _ _ _⟩
set_option maxRecDepth 20000 in
theorem x_doSend {g : GE} {M : Mem} {sz : Nat} {σ τ : Nat → Int32} {hk : Bool} {n : Nat} {ps : Nat → Nat → Int32} {len : Nat} {tx : Nat → Int32} (hC : CW g M σ τ hk n ps len tx) (hI : I10 σ) {x y : Int32} (i p m : Nat) (hx : x = nI i) (hy : y = nI p) (hi : i < 8) (hp : p < 5) (hm : σ 60 = nI m) (hm8 : m ≤ 8) (hσ : i < m → ∃ q, q < 5 ∧ σ (28 + 4 * i) = nI q) : Run g m_X8_doSend [rf g 0, .int x, .int y] M sz 0 0 (RetP (some (.int (doS σ i p).1)) (fun M2 => CW g M2 ((doS σ i p).2) (τ) (hk) (n) (ps) (len) (tx) ∧ FR M M2 0 96)) := by
  subst hx hy
  obtain ⟨p0, y1, y2⟩ := hC.2.1.1
  refine Run.of rfl (by decide) (Nat.le_of_ble_eq_true rfl) ?_
  show V g m_X8_doSend 0 _ [] _ _ _ _ _
  refine V_aload_n 0 dX8_doSend_0 rfl ?_
  refine G_X8_10 rfl hC.1 rfl dX8_doSend_1 ?_
  refine G_X8_139 rfl y1 rfl dX8_doSend_4 ?_
  refine V_iload_n 1 dX8_doSend_7 rfl ?_
  refine C_X8_396 (show _ = some (BO g 6 (σ 60) (σ 62) (σ 61)) from hC.2.1.2.2.2.2.1) rfl ⟨Nat.le_of_ble_eq_true rfl, Nat.le_of_ble_eq_true rfl⟩ (r_bhas hC.2.1.2.2.2.2 _) rfl (Nat.le_of_ble_eq_true rfl) dX8_doSend_8 rfl ?_
  rw [isB_nI hm hm8 (by omega)]
  refine V_if_ne (tgt := 17) dX8_doSend_11 (by decide) (fun c11 => ?_) (fun c11 => ?_)
  · refine V_aload_n 0 dX8_doSend_17 rfl ?_
    refine V_iload_n 1 dX8_doSend_18 rfl ?_
    refine V_iload_n 2 dX8_doSend_19 rfl ?_
    have hlt : i < m := of_decide_eq_true (bI_1 c11)
    obtain ⟨q, hq, hσq⟩ := hσ hlt
    have ebo := boR_eq hσq hq
    refine C_X8_157 hC.1 rfl ⟨Nat.le_of_ble_eq_true rfl, Nat.le_of_ble_eq_true rfl⟩ (r_whyNoSend hC hI i q p rfl rfl hi hq hp hσq) rfl (Nat.le_of_ble_eq_true rfl) dX8_doSend_20 rfl ?_
    have ebar : barS σ q p (σ (28 + 4 * i + 1)).toInt64 = baR σ i p := by unfold baR; rw [ebo]
    rw [ebar]
    refine V_istore_n (lv2 := [(3, .int _), (0, .ref _), (1, .int _), (2, .int _)]) dX8_doSend_23 (Nat.le_of_ble_eq_true rfl) rfl ?_
    refine V_iload_n 0 dX8_doSend_24 rfl ?_
    refine V_if_ne (tgt := 34) dX8_doSend_25 (by decide) (fun c25 => ?_) (fun c25 => ?_)
    · refine V_iload_n 0 dX8_doSend_34 rfl ?_
      refine V_iret (st := []) dX8_doSend_35 rfl ?_
      have hb0 : ¬ baR σ i p = 0 := c25
      rw [show doS σ i p = (baR σ i p, σ) by unfold doS; rw [hm, nI_clamp (by omega), if_pos hlt, if_neg hb0]]
      exact ⟨rfl, hC, FR.refl _ _ _⟩
    · refine V_aload_n 1 dX8_doSend_28 rfl ?_
      refine V_iload_n 2 dX8_doSend_29 rfl ?_
      refine V_iload_n 3 dX8_doSend_30 rfl ?_
      refine Cp_X8_163 hC.1 rfl ⟨Nat.le_of_ble_eq_true rfl, Nat.le_of_ble_eq_true rfl⟩ (r_moveBolt hC hI i q p rfl rfl hi hq hp hσq (barS_0' (ebar.trans c25))) rfl (Nat.le_of_ble_eq_true rfl) dX8_doSend_31 rfl (fun _ q8 => ?_)
      refine V_iload_n 0 dX8_doSend_34 rfl ?_
      refine V_iret (st := []) dX8_doSend_35 rfl ?_
      have hb0 : baR σ i p = 0 := c25
      rw [show doS σ i p = (0, sendS σ i q p) by unfold doS; rw [hm, nI_clamp (by omega), if_pos hlt, if_pos hb0, ebo]]
      exact ⟨by rw [hb0], q8.1, q8.2.wide (by omega)⟩
  · refine V_bipush (v := 7) dX8_doSend_14 (by decide) ?_
    refine V_iret (st := []) dX8_doSend_16 rfl ?_
    rw [show doS σ i p = (7, σ) by unfold doS; rw [hm, nI_clamp (by omega), if_neg (of_decide_eq_false (bI_0 c11))]]
    exact ⟨rfl, hC, FR.refl _ _ _⟩
set_option maxRecDepth 20000 in
theorem x_doTable {g : GE} {M : Mem} {sz : Nat} {σ τ : Nat → Int32} {hk : Bool} {n : Nat} {ps : Nat → Nat → Int32} {len : Nat} {tx : Nat → Int32} (hC : CW g M σ τ hk n ps len tx) (hI : I10 σ) {x y z w : Int32} (a b u d : Nat) (hx : x = nI a) (hy : y = nI b) (hz : z = nI u) (hw : w = nI d) (ha : a < 5) (hb : b < 5) (hud : UD (nI u) (nI d)) : Run g m_X8_doTable [rf g 0, .int x, .int y, .int z, .int w] M sz 0 0 (RetP (some (.int (doTb σ a b u d).1)) (fun M2 => CW g M2 ((doTb σ a b u d).2) (τ) (hk) (n) (ps) (len) (tx) ∧ FR M M2 0 96)) := by
  subst hx hy hz hw
  obtain ⟨p0, y1, y2⟩ := hC.2.1.1
  refine Run.of rfl (by decide) (Nat.le_of_ble_eq_true rfl) ?_
  show V g m_X8_doTable 0 _ [] _ _ _ _ _
  refine V_iload_n 1 dX8_doTable_0 rfl ?_
  refine V_iload_n 2 dX8_doTable_1 rfl ?_
  refine V_icmp_ne (tgt := 7) dX8_doTable_2 (by decide) (fun c2 => ?_) (fun c2 => ?_)
  · refine V_aload_n 0 dX8_doTable_7 rfl ?_
    refine G_X8_36 rfl hC.1 rfl dX8_doTable_8 ?_
    refine V_aload_n 0 dX8_doTable_11 rfl ?_
    refine G_X8_10 rfl hC.1 rfl dX8_doTable_12 ?_
    refine G_X8_89 rfl y1 rfl dX8_doTable_15 ?_
    refine V_iload_n 1 dX8_doTable_18 rfl ?_
    refine V_iload_n 2 dX8_doTable_19 rfl ?_
    refine V_pc (pc2 := 20) rfl ?_
    refine V_iload_n 3 dX8_doTable_20 rfl ?_
    refine V_iload 4 dX8_doTable_21 rfl ?_
    refine V_aload_n 0 dX8_doTable_23 rfl ?_
    refine C_X8_93 hC.1 rfl ⟨Nat.le_of_ble_eq_true rfl, Nat.le_of_ble_eq_true rfl⟩ (r_bound hC) rfl (Nat.le_of_ble_eq_true rfl) dX8_doTable_24 rfl ?_
    refine Cp_X8_97 hC.2.2.2.2.2.1.1 rfl ⟨Nat.le_of_ble_eq_true rfl, Nat.le_of_ble_eq_true rfl⟩ (hC.first hI a b rfl rfl ha hb (show ¬ a = b from fun e => c2 (by rw [e])) hud rfl) rfl (Nat.le_of_ble_eq_true rfl) dX8_doTable_27 rfl (fun _ q7 => ?_)
    obtain ⟨hC2, hF2⟩ := q7
    obtain ⟨p9, y3, y4⟩ := hC2.2.1.1
    refine V_if_lt (tgt := 35) dX8_doTable_30 (by decide) (fun c30 => ?_) (fun c30 => ?_)
    · refine V_aload_n 0 dX8_doTable_35 rfl ?_
      refine G_X8_10 rfl hC2.1 rfl dX8_doTable_36 ?_
      refine G_X8_89 rfl y3 rfl dX8_doTable_39 ?_
      refine V_iload_n 1 dX8_doTable_42 rfl ?_
      refine V_iload_n 2 dX8_doTable_43 rfl ?_
      refine V_iload_n 3 dX8_doTable_44 rfl ?_
      refine V_iload 4 dX8_doTable_45 rfl ?_
      refine V_pc (pc2 := 47) rfl ?_
      refine Cp_X8_108 (show _ = some (eO 4 [rf g (1 + 3 + 1), .int _]) from hC2.2.1.2.2.2.1.choose_spec.choose_spec.1.1) rfl ⟨Nat.le_of_ble_eq_true rfl, Nat.le_of_ble_eq_true rfl⟩ (hC2.2.1.2.2.2.1.lay a b rfl rfl ha hb (show ¬ a = b from fun e => c2 (by rw [e])) hud) rfl (Nat.le_of_ble_eq_true rfl) dX8_doTable_47 rfl (fun _ q8 => ?_)
      have hC3 := hC2.now (hC2.2.1.tab q8.1 q8.2 (fun k hk => putS_big ha hb (show ¬ a = b from fun e => c2 (by rw [e])) hk)) (q8.2.wide (by omega))
      have hF3 := q8.2
      refine V_iconst (v := 0) dX8_doTable_50 rfl ?_
      refine V_iret (st := []) dX8_doTable_51 rfl ?_
      have hso : ¬ (fnd (wouS (putS σ a b (nI u) (nI d)) a b) 0 37).isSome = true := by rw [(optI_neg _ fnd37).mp c30]; decide
      rw [show doTb σ a b u d = (0, putS σ a b (nI u) (nI d)) by unfold doTb; rw [if_neg (show ¬ a = b from fun e => c2 (by rw [e])), if_neg hso]]
      exact ⟨rfl, hC3, (FR.wide hF2 (b2 := 0) (n2 := 96) (by omega)).trans (b := 0) (n := 96) hF3 (by omega)⟩
    · refine V_iconst (v := 5) dX8_doTable_33 rfl ?_
      refine V_iret (st := []) dX8_doTable_34 rfl ?_
      have hso : (fnd (wouS (putS σ a b (nI u) (nI d)) a b) 0 37).isSome = true := by
        cases e : fnd (wouS (putS σ a b (nI u) (nI d)) a b) 0 37 with
        | none => exact absurd ((optI_neg _ fnd37).mpr e) c30
        | some r => rfl
      rw [show doTb σ a b u d = (5, σ) by unfold doTb; rw [if_neg (show ¬ a = b from fun e => c2 (by rw [e])), if_pos hso]]
      exact ⟨rfl, hC2, hF2.wide (by omega)⟩
  · refine V_iconst (v := 4) dX8_doTable_5 rfl ?_
    refine V_iret (st := []) dX8_doTable_6 rfl ?_
    rw [show doTb σ a b u d = (4, σ) from if_pos ((nI_eq (by omega) (by omega)).mp c2)]
    exact ⟨rfl, hC, FR.refl _ _ _⟩
set_option maxRecDepth 20000 in
theorem x_doPart_45 {g : GE} {M : Mem} {sz : Nat} {σ τ : Nat → Int32} {hk : Bool} {n : Nat} {ps : Nat → Nat → Int32} {len : Nat} {tx : Nat → Int32} (hC : CW g M σ τ hk n ps len tx) (hI : I10 σ) {w : Nat → Int32} (h95 : M 95 = some (eI g 4 w)) (nn : Nat → Nat) (e0 : w 0 = nI (nn 0)) (e1 : w 1 = nI (nn 1)) (h0 : nn 0 < 5) (h1 : nn 1 < 5) : Run g m_X8_doPart [rf g 0, .int 45] M sz 0 0 (RetP (some (.int (doP σ 45 nn).1)) (fun M2 => CW g M2 ((doP σ 45 nn).2) (τ) (hk) (n) (ps) (len) (tx) ∧ FR M M2 0 96)) := by
  refine Run.of rfl (by decide) (Nat.le_of_ble_eq_true rfl) ?_
  show V g m_X8_doPart 0 _ [] _ _ _ _ _
  refine V_aload_n 0 dX8_doPart_0 rfl ?_
  refine G_X8_54 rfl hC.1 rfl dX8_doPart_1 ?_
  refine V_iconst (v := 0) dX8_doPart_4 rfl ?_
  refine C_X8_77 rfl ⟨Nat.le_of_ble_eq_true rfl, Nat.le_of_ble_eq_true rfl⟩ (r_at h95 0 rfl (by decide) (by decide)) rfl (Nat.le_of_ble_eq_true rfl) dX8_doPart_5 rfl ?_
  rw [e0]
  refine V_istore_n (lv2 := [(2, .int _), (0, .ref _), (1, .int _)]) dX8_doPart_8 (Nat.le_of_ble_eq_true rfl) rfl ?_
  refine V_aload_n 1 dX8_doPart_9 rfl ?_
  refine G_X8_54 rfl hC.1 rfl dX8_doPart_10 ?_
  refine V_pc (pc2 := 13) rfl ?_
  refine V_iconst (v := 1) dX8_doPart_13 rfl ?_
  refine C_X8_77 rfl ⟨Nat.le_of_ble_eq_true rfl, Nat.le_of_ble_eq_true rfl⟩ (r_at h95 1 rfl (by decide) (by decide)) rfl (Nat.le_of_ble_eq_true rfl) dX8_doPart_14 rfl ?_
  rw [e1]
  refine V_istore_n (lv2 := [(3, .int _), (2, .int _), (0, .ref _), (1, .int _)]) dX8_doPart_17 (Nat.le_of_ble_eq_true rfl) rfl ?_
  refine V_iload_n 3 dX8_doPart_18 rfl ?_
  refine V_look (off := 33) (tgt := 52) dX8_doPart_19 (by decide) (by decide) (by decide) ?_
  refine V_aload_n 2 dX8_doPart_52 rfl ?_
  refine V_iload_n 1 dX8_doPart_53 rfl ?_
  refine V_iload_n 0 dX8_doPart_54 rfl ?_
  refine V_pc (pc2 := 55) rfl ?_
  refine Cp_X8_384 hC.1 rfl ⟨Nat.le_of_ble_eq_true rfl, Nat.le_of_ble_eq_true rfl⟩ (x_doDrop hC hI (nn 0) (nn 1) rfl rfl h0 h1) rfl (Nat.le_of_ble_eq_true rfl) dX8_doPart_55 rfl (fun _ q7 => ?_)
  refine V_iret (st := []) dX8_doPart_58 rfl ?_
  exact ⟨rfl, q7⟩
set_option maxRecDepth 20000 in
theorem x_doPart_98 {g : GE} {M : Mem} {sz : Nat} {σ τ : Nat → Int32} {hk : Bool} {n : Nat} {ps : Nat → Nat → Int32} {len : Nat} {tx : Nat → Int32} (hC : CW g M σ τ hk n ps len tx) {w : Nat → Int32} (h95 : M 95 = some (eI g 4 w)) (nn : Nat → Nat) (e0 : w 0 = nI (nn 0)) (e1 : w 1 = nI (nn 1)) (m : Nat) (hm : σ 60 = nI m) (hm8 : m ≤ 8) : Run g m_X8_doPart [rf g 0, .int 98] M sz 0 0 (RetP (some (.int (doP σ 98 nn).1)) (fun M2 => CW g M2 ((doP σ 98 nn).2) (τ) (hk) (n) (ps) (len) (tx) ∧ FR M M2 0 96)) := by
  refine Run.of rfl (by decide) (Nat.le_of_ble_eq_true rfl) ?_
  show V g m_X8_doPart 0 _ [] _ _ _ _ _
  refine V_aload_n 0 dX8_doPart_0 rfl ?_
  refine G_X8_54 rfl hC.1 rfl dX8_doPart_1 ?_
  refine V_iconst (v := 0) dX8_doPart_4 rfl ?_
  refine C_X8_77 rfl ⟨Nat.le_of_ble_eq_true rfl, Nat.le_of_ble_eq_true rfl⟩ (r_at h95 0 rfl (by decide) (by decide)) rfl (Nat.le_of_ble_eq_true rfl) dX8_doPart_5 rfl ?_
  rw [e0]
  refine V_istore_n (lv2 := [(2, .int _), (0, .ref _), (1, .int _)]) dX8_doPart_8 (Nat.le_of_ble_eq_true rfl) rfl ?_
  refine V_aload_n 1 dX8_doPart_9 rfl ?_
  refine G_X8_54 rfl hC.1 rfl dX8_doPart_10 ?_
  refine V_pc (pc2 := 13) rfl ?_
  refine V_iconst (v := 1) dX8_doPart_13 rfl ?_
  refine C_X8_77 rfl ⟨Nat.le_of_ble_eq_true rfl, Nat.le_of_ble_eq_true rfl⟩ (r_at h95 1 rfl (by decide) (by decide)) rfl (Nat.le_of_ble_eq_true rfl) dX8_doPart_14 rfl ?_
  rw [e1]
  refine V_istore_n (lv2 := [(3, .int _), (2, .int _), (0, .ref _), (1, .int _)]) dX8_doPart_17 (Nat.le_of_ble_eq_true rfl) rfl ?_
  refine V_iload_n 3 dX8_doPart_18 rfl ?_
  refine V_look (off := 40) (tgt := 59) dX8_doPart_19 (by decide) (by decide) (by decide) ?_
  refine V_aload_n 2 dX8_doPart_59 rfl ?_
  refine V_iload_n 1 dX8_doPart_60 rfl ?_
  refine V_iload_n 0 dX8_doPart_61 rfl ?_
  refine V_pc (pc2 := 62) rfl ?_
  refine Cp_X8_387 hC.1 rfl ⟨Nat.le_of_ble_eq_true rfl, Nat.le_of_ble_eq_true rfl⟩ (x_doBolt hC (nn 0) (nn 1) m rfl rfl hm hm8) rfl (Nat.le_of_ble_eq_true rfl) dX8_doPart_62 rfl (fun _ q7 => ?_)
  refine V_iret (st := []) dX8_doPart_65 rfl ?_
  exact ⟨rfl, q7⟩
set_option maxRecDepth 20000 in
theorem x_doPart_115 {g : GE} {M : Mem} {sz : Nat} {σ τ : Nat → Int32} {hk : Bool} {n : Nat} {ps : Nat → Nat → Int32} {len : Nat} {tx : Nat → Int32} (hC : CW g M σ τ hk n ps len tx) (hI : I10 σ) {w : Nat → Int32} (h95 : M 95 = some (eI g 4 w)) (nn : Nat → Nat) (e0 : w 0 = nI (nn 0)) (e1 : w 1 = nI (nn 1)) (m : Nat) (h0 : nn 0 < 8) (h1 : nn 1 < 5) (hm : σ 60 = nI m) (hm8 : m ≤ 8) (hσ : nn 0 < m → ∃ q, q < 5 ∧ σ (28 + 4 * nn 0) = nI q) : Run g m_X8_doPart [rf g 0, .int 115] M sz 0 0 (RetP (some (.int (doP σ 115 nn).1)) (fun M2 => CW g M2 ((doP σ 115 nn).2) (τ) (hk) (n) (ps) (len) (tx) ∧ FR M M2 0 96)) := by
  refine Run.of rfl (by decide) (Nat.le_of_ble_eq_true rfl) ?_
  show V g m_X8_doPart 0 _ [] _ _ _ _ _
  refine V_aload_n 0 dX8_doPart_0 rfl ?_
  refine G_X8_54 rfl hC.1 rfl dX8_doPart_1 ?_
  refine V_iconst (v := 0) dX8_doPart_4 rfl ?_
  refine C_X8_77 rfl ⟨Nat.le_of_ble_eq_true rfl, Nat.le_of_ble_eq_true rfl⟩ (r_at h95 0 rfl (by decide) (by decide)) rfl (Nat.le_of_ble_eq_true rfl) dX8_doPart_5 rfl ?_
  rw [e0]
  refine V_istore_n (lv2 := [(2, .int _), (0, .ref _), (1, .int _)]) dX8_doPart_8 (Nat.le_of_ble_eq_true rfl) rfl ?_
  refine V_aload_n 1 dX8_doPart_9 rfl ?_
  refine G_X8_54 rfl hC.1 rfl dX8_doPart_10 ?_
  refine V_pc (pc2 := 13) rfl ?_
  refine V_iconst (v := 1) dX8_doPart_13 rfl ?_
  refine C_X8_77 rfl ⟨Nat.le_of_ble_eq_true rfl, Nat.le_of_ble_eq_true rfl⟩ (r_at h95 1 rfl (by decide) (by decide)) rfl (Nat.le_of_ble_eq_true rfl) dX8_doPart_14 rfl ?_
  rw [e1]
  refine V_istore_n (lv2 := [(3, .int _), (2, .int _), (0, .ref _), (1, .int _)]) dX8_doPart_17 (Nat.le_of_ble_eq_true rfl) rfl ?_
  refine V_iload_n 3 dX8_doPart_18 rfl ?_
  refine V_look (off := 47) (tgt := 66) dX8_doPart_19 (by decide) (by decide) (by decide) ?_
  refine V_aload_n 2 dX8_doPart_66 rfl ?_
  refine V_iload_n 1 dX8_doPart_67 rfl ?_
  refine V_iload_n 0 dX8_doPart_68 rfl ?_
  refine V_pc (pc2 := 69) rfl ?_
  refine Cp_X8_390 hC.1 rfl ⟨Nat.le_of_ble_eq_true rfl, Nat.le_of_ble_eq_true rfl⟩ (x_doSend hC hI (nn 0) (nn 1) m rfl rfl h0 h1 hm hm8 hσ) rfl (Nat.le_of_ble_eq_true rfl) dX8_doPart_69 rfl (fun _ q7 => ?_)
  refine V_iret (st := []) dX8_doPart_72 rfl ?_
  exact ⟨rfl, q7⟩
set_option maxRecDepth 20000 in
theorem x_doPart_116 {g : GE} {M : Mem} {sz : Nat} {σ τ : Nat → Int32} {hk : Bool} {n : Nat} {ps : Nat → Nat → Int32} {len : Nat} {tx : Nat → Int32} (hC : CW g M σ τ hk n ps len tx) (hI : I10 σ) {w : Nat → Int32} (h95 : M 95 = some (eI g 4 w)) (nn : Nat → Nat) (e0 : w 0 = nI (nn 0)) (e1 : w 1 = nI (nn 1)) (e2 : w 2 = nI (nn 2)) (e3 : w 3 = nI (nn 3)) (h0 : nn 0 < 5) (h1 : nn 1 < 5) (hud : UD (nI (nn 2)) (nI (nn 3))) {x : Int32} (c : Nat) (hx : x = nI c) (hc : 48 ≤ c ∧ c ≤ 57) : Run g m_X8_doPart [rf g 0, .int x] M sz 0 0 (RetP (some (.int (doP σ 116 nn).1)) (fun M2 => CW g M2 ((doP σ 116 nn).2) (τ) (hk) (n) (ps) (len) (tx) ∧ FR M M2 0 96)) := by
  subst hx
  refine Run.of rfl (by decide) (Nat.le_of_ble_eq_true rfl) ?_
  show V g m_X8_doPart 0 _ [] _ _ _ _ _
  refine V_aload_n 0 dX8_doPart_0 rfl ?_
  refine G_X8_54 rfl hC.1 rfl dX8_doPart_1 ?_
  refine V_iconst (v := 0) dX8_doPart_4 rfl ?_
  refine C_X8_77 rfl ⟨Nat.le_of_ble_eq_true rfl, Nat.le_of_ble_eq_true rfl⟩ (r_at h95 0 rfl (by decide) (by decide)) rfl (Nat.le_of_ble_eq_true rfl) dX8_doPart_5 rfl ?_
  rw [e0]
  refine V_istore_n (lv2 := [(2, .int _), (0, .ref _), (1, .int _)]) dX8_doPart_8 (Nat.le_of_ble_eq_true rfl) rfl ?_
  refine V_aload_n 1 dX8_doPart_9 rfl ?_
  refine G_X8_54 rfl hC.1 rfl dX8_doPart_10 ?_
  refine V_pc (pc2 := 13) rfl ?_
  refine V_iconst (v := 1) dX8_doPart_13 rfl ?_
  refine C_X8_77 rfl ⟨Nat.le_of_ble_eq_true rfl, Nat.le_of_ble_eq_true rfl⟩ (r_at h95 1 rfl (by decide) (by decide)) rfl (Nat.le_of_ble_eq_true rfl) dX8_doPart_14 rfl ?_
  rw [e1]
  refine V_istore_n (lv2 := [(3, .int _), (2, .int _), (0, .ref _), (1, .int _)]) dX8_doPart_17 (Nat.le_of_ble_eq_true rfl) rfl ?_
  refine V_iload_n 3 dX8_doPart_18 rfl ?_
  refine V_look (off := 54) (tgt := 73) dX8_doPart_19 (by decide) (by rw [nI_toInt (by omega)]; show Op.lookupswitch.offset [(45, _), (98, _), (115, _)] _ _ = _; rw [Op.lookupswitch.offset_cons, if_neg (by omega), Op.lookupswitch.offset_cons, if_neg (by omega), Op.lookupswitch.offset_cons, if_neg (by omega)]; rfl) (by decide) ?_
  refine V_aload_n 2 dX8_doPart_73 rfl ?_
  refine V_iload_n 1 dX8_doPart_74 rfl ?_
  refine V_iload_n 0 dX8_doPart_75 rfl ?_
  refine V_pc (pc2 := 76) rfl ?_
  refine V_aload_n 2 dX8_doPart_76 rfl ?_
  refine G_X8_54 rfl hC.1 rfl dX8_doPart_77 ?_
  refine V_iconst (v := 2) dX8_doPart_80 rfl ?_
  refine C_X8_77 rfl ⟨Nat.le_of_ble_eq_true rfl, Nat.le_of_ble_eq_true rfl⟩ (r_at h95 2 rfl (by decide) (by decide)) rfl (Nat.le_of_ble_eq_true rfl) dX8_doPart_81 rfl ?_
  rw [e2]
  refine V_aload_n 2 dX8_doPart_84 rfl ?_
  refine G_X8_54 rfl hC.1 rfl dX8_doPart_85 ?_
  refine V_iconst (v := 3) dX8_doPart_88 rfl ?_
  refine C_X8_77 rfl ⟨Nat.le_of_ble_eq_true rfl, Nat.le_of_ble_eq_true rfl⟩ (r_at h95 3 rfl (by decide) (by decide)) rfl (Nat.le_of_ble_eq_true rfl) dX8_doPart_89 rfl ?_
  rw [e3]
  refine V_pc (pc2 := 92) rfl ?_
  refine Cp_X8_393 hC.1 rfl ⟨Nat.le_of_ble_eq_true rfl, Nat.le_of_ble_eq_true rfl⟩ (x_doTable hC hI (nn 0) (nn 1) (nn 2) (nn 3) rfl rfl rfl rfl h0 h1 hud) rfl (Nat.le_of_ble_eq_true rfl) dX8_doPart_92 rfl (fun _ q7 => ?_)
  refine V_iret (st := []) dX8_doPart_95 rfl ?_
  exact ⟨rfl, q7⟩
