/-! ring -/
def clampG (x : Int64) : Int32 := if x < 0 then 0 else if 2000000000 < x then 2000000000 else x.toInt32
def toldS (σ : Nat → Int32) (r : Nat) (c : Int32) : Int32 := if c = 0 then nI (rSz r) else if c = 1 then nI (rC r) else if c = 3 then bI (offS σ r) else clampG (gainS σ r + 1000000)
theorem clampG_eq (x : Int64) : (lmax 0 (lmin 2000000000 x)).toInt32 = clampG x := by
  unfold clampG lmax lmin
  by_cases h : x < 0
  · have h2 : ¬ (2000000000 : Int64) ≤ x := fun e => by
      have := Int64.lt_of_le_of_lt e h
      exact absurd this (by decide)
    rw [if_pos h, if_neg h2, if_neg (fun e => by have := Int64.lt_trans e h; exact absurd this (by decide))]
    rfl
  · rw [if_neg h]
    by_cases h2 : (2000000000 : Int64) < x
    · rw [if_pos h2, if_pos (Int64.le_of_lt h2), if_pos (by decide)]
      rfl
    · rw [if_neg h2]
      by_cases h3 : (2000000000 : Int64) ≤ x
      · have e : x = 2000000000 := Int64.le_antisymm (Int64.not_lt.mp h2) h3
        subst e
        rw [if_pos h3, if_pos (by decide)]
      · rw [if_neg h3]
        by_cases h4 : 0 < x
        · rw [if_pos h4]
        · have e : x = 0 := Int64.le_antisymm (Int64.not_lt.mp h4) (Int64.not_lt.mp h)
          subst e
          rfl
theorem TS.standingAt {g : GE} {M : Mem} {sz : Nat} {t : Nat} {σ : Nat → Int32} (h : TS g M t σ) (hR : RW g M) {x : Int32} (q : Nat) (hx : x = nI q) (hq : q < 2 ^ 31) : Run g m_X3_standingAt [rf g 85, rf g t, .int x] M sz 0 0 (Ret (some (.int (optI (fnd (atS σ q) 0 37)))) M) := by
  obtain ⟨f, p, h1, h2⟩ := h
  exact r_standingAt hR h1 h2 q hx hq
theorem TS.gain {g : GE} {M : Mem} {sz : Nat} {t : Nat} {σ : Nat → Int32} (h : TS g M t σ) (hR : RW g M) (hI : I10 σ) {x : Int32} (r : Nat) (hx : x = nI r) (hr : r < 37) (ht : thr σ r = true) : Run g m_X3_gain [rf g 85, rf g t, .int x] M sz 0 0 (Ret (some (.long (gainS σ r))) M) := by
  obtain ⟨f, p, h1, h2⟩ := h
  exact r_gain hR h1 h2 r hx hr hI ht
theorem TS.isOff {g : GE} {M : Mem} {sz : Nat} {t : Nat} {σ : Nat → Int32} (h : TS g M t σ) (hR : RW g M) (hI : I10 σ) {x : Int32} (r : Nat) (hx : x = nI r) (hr : r < 37) (ht : thr σ r = true) {b : Int32} (hb : b = σ 25) : Run g m_X3_isOff [rf g 85, rf g t, .int x, .int b] M sz 0 0 (Ret (some (.int (bI (offS σ r)))) M) := by
  obtain ⟨f, p, h1, h2⟩ := h
  exact r_isOff hR h1 h2 r hx hr hI ht hb
set_option maxRecDepth 20000 in
theorem x_ring_1a {g : GE} {M : Mem} {sz : Nat} {σ τ : Nat → Int32} {hk : Bool} {n : Nat} {ps : Nat → Nat → Int32} {len : Nat} {tx : Nat → Int32} (hC : CW g M σ τ hk n ps len tx) {a b : Int32} (ha : ¬ 0 ≤ a) : Run g m_X8_ring [rf g 0, .int a, .int b] M sz 1 6 (Thr (exN 1) M) := by
  refine Run.of rfl (by decide) (Nat.le_of_ble_eq_true rfl) ?_
  show V g m_X8_ring 0 _ [] _ _ _ _ _
  refine V_iload_n 1 dX8_ring_0 rfl ?_
  refine V_if_ge (tgt := 14) dX8_ring_1 (by decide) (fun c1 => absurd c1 ha) (fun c1 => ?_)
  refine V_throwS 1 9 (by decide) (by decide) rfl rfl rfl rfl rfl (Nat.le_of_ble_eq_true rfl) (Nat.le_of_ble_eq_true rfl) dX8_ring_4 dX8_ring_7 dX8_ring_8 dX8_ring_10 dX8_ring_13 ?_
  exact ⟨rfl, rfl⟩
set_option maxRecDepth 20000 in
theorem x_ring_1b {g : GE} {M : Mem} {sz : Nat} {σ τ : Nat → Int32} {hk : Bool} {n : Nat} {ps : Nat → Nat → Int32} {len : Nat} {tx : Nat → Int32} (hC : CW g M σ τ hk n ps len tx) {a b : Int32} (ha : 0 ≤ a) (hb : b < 0 ∨ ¬ b ≤ 3) : Run g m_X8_ring [rf g 0, .int a, .int b] M sz 1 6 (Thr (exN 1) M) := by
  refine Run.of rfl (by decide) (Nat.le_of_ble_eq_true rfl) ?_
  show V g m_X8_ring 0 _ [] _ _ _ _ _
  refine V_iload_n 1 dX8_ring_0 rfl ?_
  refine V_if_ge (tgt := 14) dX8_ring_1 (by decide) (fun c1 => ?_) (fun c1 => absurd ha c1)
  refine V_iload_n 2 dX8_ring_14 rfl ?_
  refine V_iconst (v := 0) dX8_ring_15 rfl ?_
  refine V_iconst (v := 3) dX8_ring_16 rfl ?_
  refine Ct_X8_66 rfl rfl ⟨Nat.le_of_ble_eq_true rfl, Nat.le_of_ble_eq_true rfl⟩ (r_checkRange_bad hb) rfl (Nat.le_of_ble_eq_true rfl) dX8_ring_17 rfl ?_
  exact ⟨rfl, rfl⟩
set_option maxRecDepth 20000 in
theorem x_ring_n0 {g : GE} {M : Mem} {sz : Nat} {σ τ : Nat → Int32} {hk : Bool} {n : Nat} {ps : Nat → Nat → Int32} {len : Nat} {tx : Nat → Int32} (hC : CW g M σ τ hk n ps len tx) {a : Int32} (q : Nat) (ha : a = nI q) (hq : q < 2 ^ 31) (ho : fnd (atS σ q) 0 37 = none) : Run g m_X8_ring [rf g 0, .int a, .int 0] M sz 0 0 (RetP (some (.int (-1))) (fun M2 => CW g M2 (σ) (τ) (hk) (n) (ps) (len) (tx) ∧ FR M M2 0 96)) := by
  subst ha
  obtain ⟨p0, y1, y2⟩ := hC.2.1.1
  refine Run.of rfl (by decide) (Nat.le_of_ble_eq_true rfl) ?_
  show V g m_X8_ring 0 _ [] _ _ _ _ _
  refine V_iload_n 1 dX8_ring_0 rfl ?_
  refine V_if_ge (tgt := 14) dX8_ring_1 (by decide) (fun c1 => ?_) (fun c1 => absurd (Int32.not_lt.mp (nI_pos hq)) c1)
  refine V_iload_n 2 dX8_ring_14 rfl ?_
  refine V_iconst (v := 0) dX8_ring_15 rfl ?_
  refine V_iconst (v := 3) dX8_ring_16 rfl ?_
  refine C_X8_66 rfl ⟨Nat.le_of_ble_eq_true rfl, Nat.le_of_ble_eq_true rfl⟩ (r_checkRange_ok (by decide) (by decide)) rfl (Nat.le_of_ble_eq_true rfl) dX8_ring_17 rfl ?_
  refine V_aload_n 0 dX8_ring_20 rfl ?_
  refine V_pc (pc2 := 21) rfl ?_
  refine G_X8_36 rfl hC.1 rfl dX8_ring_21 ?_
  refine V_aload_n 0 dX8_ring_24 rfl ?_
  refine G_X8_10 rfl hC.1 rfl dX8_ring_25 ?_
  refine G_X8_89 rfl y1 rfl dX8_ring_28 ?_
  refine V_iload_n 1 dX8_ring_31 rfl ?_
  refine C_X8_241 hC.2.2.2.2.2.1.1 rfl ⟨Nat.le_of_ble_eq_true rfl, Nat.le_of_ble_eq_true rfl⟩ (hC.2.1.2.2.2.1.standingAt hC.2.2.2.2.2.1 q rfl hq) rfl (Nat.le_of_ble_eq_true rfl) dX8_ring_32 rfl ?_
  refine V_istore_n (lv2 := [(3, .int _), (0, .ref _), (1, .int _), (2, .int _)]) dX8_ring_35 (Nat.le_of_ble_eq_true rfl) rfl ?_
  refine V_iload_n 0 dX8_ring_36 rfl ?_
  refine V_pc (pc2 := 37) rfl ?_
  refine V_if_ge (tgt := 42) dX8_ring_37 (by decide) (fun c37 => absurd c37 (by rw [ho]; decide)) (fun c37 => ?_)
  refine V_iconst (v := -1) dX8_ring_40 rfl ?_
  refine V_iret (st := []) dX8_ring_41 rfl ?_
  exact ⟨rfl, hC, FR.refl _ _ _⟩
set_option maxRecDepth 20000 in
theorem x_ring_s0 {g : GE} {M : Mem} {sz : Nat} {σ τ : Nat → Int32} {hk : Bool} {n : Nat} {ps : Nat → Nat → Int32} {len : Nat} {tx : Nat → Int32} (hC : CW g M σ τ hk n ps len tx) (hI : I10 σ) {a : Int32} (q r : Nat) (ha : a = nI q) (hq : q < 2 ^ 31) (ho : fnd (atS σ q) 0 37 = some r) (hr : r < 37) (ht : thr σ r = true) : Run g m_X8_ring [rf g 0, .int a, .int 0] M sz 0 0 (RetP (some (.int (toldS σ r 0))) (fun M2 => CW g M2 (σ) (τ) (hk) (n) (ps) (len) (tx) ∧ FR M M2 0 96)) := by
  subst ha
  obtain ⟨p0, y1, y2⟩ := hC.2.1.1
  refine Run.of rfl (by decide) (Nat.le_of_ble_eq_true rfl) ?_
  show V g m_X8_ring 0 _ [] _ _ _ _ _
  refine V_iload_n 1 dX8_ring_0 rfl ?_
  refine V_if_ge (tgt := 14) dX8_ring_1 (by decide) (fun c1 => ?_) (fun c1 => absurd (Int32.not_lt.mp (nI_pos hq)) c1)
  refine V_iload_n 2 dX8_ring_14 rfl ?_
  refine V_iconst (v := 0) dX8_ring_15 rfl ?_
  refine V_iconst (v := 3) dX8_ring_16 rfl ?_
  refine C_X8_66 rfl ⟨Nat.le_of_ble_eq_true rfl, Nat.le_of_ble_eq_true rfl⟩ (r_checkRange_ok (by decide) (by decide)) rfl (Nat.le_of_ble_eq_true rfl) dX8_ring_17 rfl ?_
  refine V_aload_n 0 dX8_ring_20 rfl ?_
  refine V_pc (pc2 := 21) rfl ?_
  refine G_X8_36 rfl hC.1 rfl dX8_ring_21 ?_
  refine V_aload_n 0 dX8_ring_24 rfl ?_
  refine G_X8_10 rfl hC.1 rfl dX8_ring_25 ?_
  refine G_X8_89 rfl y1 rfl dX8_ring_28 ?_
  refine V_iload_n 1 dX8_ring_31 rfl ?_
  refine C_X8_241 hC.2.2.2.2.2.1.1 rfl ⟨Nat.le_of_ble_eq_true rfl, Nat.le_of_ble_eq_true rfl⟩ (hC.2.1.2.2.2.1.standingAt hC.2.2.2.2.2.1 q rfl hq) rfl (Nat.le_of_ble_eq_true rfl) dX8_ring_32 rfl ?_
  rw [ho]
  show V g m_X8_ring 35 _ [.int (nI r)] _ _ _ _ _
  refine V_istore_n (lv2 := [(3, .int _), (0, .ref _), (1, .int _), (2, .int _)]) dX8_ring_35 (Nat.le_of_ble_eq_true rfl) rfl ?_
  refine V_iload_n 0 dX8_ring_36 rfl ?_
  refine V_pc (pc2 := 37) rfl ?_
  refine V_if_ge (tgt := 42) dX8_ring_37 (by decide) (fun c37 => ?_) (fun c37 => absurd (by exact Int32.not_lt.mp (nI_pos (by omega))) c37)
  refine V_iload_n 3 dX8_ring_42 rfl ?_
  refine V_tabIn (off := 25) (tgt := 68) dX8_ring_43 (by decide) (by decide) (by decide) (by decide) ?_
  refine V_iload_n 0 dX8_ring_68 rfl ?_
  refine C_X8_245 rfl ⟨Nat.le_of_ble_eq_true rfl, Nat.le_of_ble_eq_true rfl⟩ (r_ringSize r rfl hr) rfl (Nat.le_of_ble_eq_true rfl) dX8_ring_69 rfl ?_
  refine V_iret (st := []) dX8_ring_72 rfl ?_
  exact ⟨rfl, hC, FR.refl _ _ _⟩
set_option maxRecDepth 20000 in
theorem x_ring_n1 {g : GE} {M : Mem} {sz : Nat} {σ τ : Nat → Int32} {hk : Bool} {n : Nat} {ps : Nat → Nat → Int32} {len : Nat} {tx : Nat → Int32} (hC : CW g M σ τ hk n ps len tx) {a : Int32} (q : Nat) (ha : a = nI q) (hq : q < 2 ^ 31) (ho : fnd (atS σ q) 0 37 = none) : Run g m_X8_ring [rf g 0, .int a, .int 1] M sz 0 0 (RetP (some (.int (-1))) (fun M2 => CW g M2 (σ) (τ) (hk) (n) (ps) (len) (tx) ∧ FR M M2 0 96)) := by
  subst ha
  obtain ⟨p0, y1, y2⟩ := hC.2.1.1
  refine Run.of rfl (by decide) (Nat.le_of_ble_eq_true rfl) ?_
  show V g m_X8_ring 0 _ [] _ _ _ _ _
  refine V_iload_n 1 dX8_ring_0 rfl ?_
  refine V_if_ge (tgt := 14) dX8_ring_1 (by decide) (fun c1 => ?_) (fun c1 => absurd (Int32.not_lt.mp (nI_pos hq)) c1)
  refine V_iload_n 2 dX8_ring_14 rfl ?_
  refine V_iconst (v := 0) dX8_ring_15 rfl ?_
  refine V_iconst (v := 3) dX8_ring_16 rfl ?_
  refine C_X8_66 rfl ⟨Nat.le_of_ble_eq_true rfl, Nat.le_of_ble_eq_true rfl⟩ (r_checkRange_ok (by decide) (by decide)) rfl (Nat.le_of_ble_eq_true rfl) dX8_ring_17 rfl ?_
  refine V_aload_n 0 dX8_ring_20 rfl ?_
  refine V_pc (pc2 := 21) rfl ?_
  refine G_X8_36 rfl hC.1 rfl dX8_ring_21 ?_
  refine V_aload_n 0 dX8_ring_24 rfl ?_
  refine G_X8_10 rfl hC.1 rfl dX8_ring_25 ?_
  refine G_X8_89 rfl y1 rfl dX8_ring_28 ?_
  refine V_iload_n 1 dX8_ring_31 rfl ?_
  refine C_X8_241 hC.2.2.2.2.2.1.1 rfl ⟨Nat.le_of_ble_eq_true rfl, Nat.le_of_ble_eq_true rfl⟩ (hC.2.1.2.2.2.1.standingAt hC.2.2.2.2.2.1 q rfl hq) rfl (Nat.le_of_ble_eq_true rfl) dX8_ring_32 rfl ?_
  refine V_istore_n (lv2 := [(3, .int _), (0, .ref _), (1, .int _), (2, .int _)]) dX8_ring_35 (Nat.le_of_ble_eq_true rfl) rfl ?_
  refine V_iload_n 0 dX8_ring_36 rfl ?_
  refine V_pc (pc2 := 37) rfl ?_
  refine V_if_ge (tgt := 42) dX8_ring_37 (by decide) (fun c37 => absurd c37 (by rw [ho]; decide)) (fun c37 => ?_)
  refine V_iconst (v := -1) dX8_ring_40 rfl ?_
  refine V_iret (st := []) dX8_ring_41 rfl ?_
  exact ⟨rfl, hC, FR.refl _ _ _⟩
set_option maxRecDepth 20000 in
theorem x_ring_s1 {g : GE} {M : Mem} {sz : Nat} {σ τ : Nat → Int32} {hk : Bool} {n : Nat} {ps : Nat → Nat → Int32} {len : Nat} {tx : Nat → Int32} (hC : CW g M σ τ hk n ps len tx) (hI : I10 σ) {a : Int32} (q r : Nat) (ha : a = nI q) (hq : q < 2 ^ 31) (ho : fnd (atS σ q) 0 37 = some r) (hr : r < 37) (ht : thr σ r = true) : Run g m_X8_ring [rf g 0, .int a, .int 1] M sz 0 0 (RetP (some (.int (toldS σ r 1))) (fun M2 => CW g M2 (σ) (τ) (hk) (n) (ps) (len) (tx) ∧ FR M M2 0 96)) := by
  subst ha
  obtain ⟨p0, y1, y2⟩ := hC.2.1.1
  refine Run.of rfl (by decide) (Nat.le_of_ble_eq_true rfl) ?_
  show V g m_X8_ring 0 _ [] _ _ _ _ _
  refine V_iload_n 1 dX8_ring_0 rfl ?_
  refine V_if_ge (tgt := 14) dX8_ring_1 (by decide) (fun c1 => ?_) (fun c1 => absurd (Int32.not_lt.mp (nI_pos hq)) c1)
  refine V_iload_n 2 dX8_ring_14 rfl ?_
  refine V_iconst (v := 0) dX8_ring_15 rfl ?_
  refine V_iconst (v := 3) dX8_ring_16 rfl ?_
  refine C_X8_66 rfl ⟨Nat.le_of_ble_eq_true rfl, Nat.le_of_ble_eq_true rfl⟩ (r_checkRange_ok (by decide) (by decide)) rfl (Nat.le_of_ble_eq_true rfl) dX8_ring_17 rfl ?_
  refine V_aload_n 0 dX8_ring_20 rfl ?_
  refine V_pc (pc2 := 21) rfl ?_
  refine G_X8_36 rfl hC.1 rfl dX8_ring_21 ?_
  refine V_aload_n 0 dX8_ring_24 rfl ?_
  refine G_X8_10 rfl hC.1 rfl dX8_ring_25 ?_
  refine G_X8_89 rfl y1 rfl dX8_ring_28 ?_
  refine V_iload_n 1 dX8_ring_31 rfl ?_
  refine C_X8_241 hC.2.2.2.2.2.1.1 rfl ⟨Nat.le_of_ble_eq_true rfl, Nat.le_of_ble_eq_true rfl⟩ (hC.2.1.2.2.2.1.standingAt hC.2.2.2.2.2.1 q rfl hq) rfl (Nat.le_of_ble_eq_true rfl) dX8_ring_32 rfl ?_
  rw [ho]
  show V g m_X8_ring 35 _ [.int (nI r)] _ _ _ _ _
  refine V_istore_n (lv2 := [(3, .int _), (0, .ref _), (1, .int _), (2, .int _)]) dX8_ring_35 (Nat.le_of_ble_eq_true rfl) rfl ?_
  refine V_iload_n 0 dX8_ring_36 rfl ?_
  refine V_pc (pc2 := 37) rfl ?_
  refine V_if_ge (tgt := 42) dX8_ring_37 (by decide) (fun c37 => ?_) (fun c37 => absurd (by exact Int32.not_lt.mp (nI_pos (by omega))) c37)
  refine V_iload_n 3 dX8_ring_42 rfl ?_
  refine V_tabIn (off := 30) (tgt := 73) dX8_ring_43 (by decide) (by decide) (by decide) (by decide) ?_
  refine V_getR st_X8_248 dX8_ring_73 ?_
  refine V_iload_n 0 dX8_ring_76 rfl ?_
  refine C_X8_77 rfl ⟨Nat.le_of_ble_eq_true rfl, Nat.le_of_ble_eq_true rfl⟩ (r_atR r rfl hr) rfl (Nat.le_of_ble_eq_true rfl) dX8_ring_77 rfl ?_
  rw [ringsF_eq r hr]
  refine V_iret (st := []) dX8_ring_80 rfl ?_
  exact ⟨rfl, hC, FR.refl _ _ _⟩
set_option maxRecDepth 20000 in
theorem x_ring_n2 {g : GE} {M : Mem} {sz : Nat} {σ τ : Nat → Int32} {hk : Bool} {n : Nat} {ps : Nat → Nat → Int32} {len : Nat} {tx : Nat → Int32} (hC : CW g M σ τ hk n ps len tx) {a : Int32} (q : Nat) (ha : a = nI q) (hq : q < 2 ^ 31) (ho : fnd (atS σ q) 0 37 = none) : Run g m_X8_ring [rf g 0, .int a, .int 2] M sz 0 0 (RetP (some (.int (-1))) (fun M2 => CW g M2 (σ) (τ) (hk) (n) (ps) (len) (tx) ∧ FR M M2 0 96)) := by
  subst ha
  obtain ⟨p0, y1, y2⟩ := hC.2.1.1
  refine Run.of rfl (by decide) (Nat.le_of_ble_eq_true rfl) ?_
  show V g m_X8_ring 0 _ [] _ _ _ _ _
  refine V_iload_n 1 dX8_ring_0 rfl ?_
  refine V_if_ge (tgt := 14) dX8_ring_1 (by decide) (fun c1 => ?_) (fun c1 => absurd (Int32.not_lt.mp (nI_pos hq)) c1)
  refine V_iload_n 2 dX8_ring_14 rfl ?_
  refine V_iconst (v := 0) dX8_ring_15 rfl ?_
  refine V_iconst (v := 3) dX8_ring_16 rfl ?_
  refine C_X8_66 rfl ⟨Nat.le_of_ble_eq_true rfl, Nat.le_of_ble_eq_true rfl⟩ (r_checkRange_ok (by decide) (by decide)) rfl (Nat.le_of_ble_eq_true rfl) dX8_ring_17 rfl ?_
  refine V_aload_n 0 dX8_ring_20 rfl ?_
  refine V_pc (pc2 := 21) rfl ?_
  refine G_X8_36 rfl hC.1 rfl dX8_ring_21 ?_
  refine V_aload_n 0 dX8_ring_24 rfl ?_
  refine G_X8_10 rfl hC.1 rfl dX8_ring_25 ?_
  refine G_X8_89 rfl y1 rfl dX8_ring_28 ?_
  refine V_iload_n 1 dX8_ring_31 rfl ?_
  refine C_X8_241 hC.2.2.2.2.2.1.1 rfl ⟨Nat.le_of_ble_eq_true rfl, Nat.le_of_ble_eq_true rfl⟩ (hC.2.1.2.2.2.1.standingAt hC.2.2.2.2.2.1 q rfl hq) rfl (Nat.le_of_ble_eq_true rfl) dX8_ring_32 rfl ?_
  refine V_istore_n (lv2 := [(3, .int _), (0, .ref _), (1, .int _), (2, .int _)]) dX8_ring_35 (Nat.le_of_ble_eq_true rfl) rfl ?_
  refine V_iload_n 0 dX8_ring_36 rfl ?_
  refine V_pc (pc2 := 37) rfl ?_
  refine V_if_ge (tgt := 42) dX8_ring_37 (by decide) (fun c37 => absurd c37 (by rw [ho]; decide)) (fun c37 => ?_)
  refine V_iconst (v := -1) dX8_ring_40 rfl ?_
  refine V_iret (st := []) dX8_ring_41 rfl ?_
  exact ⟨rfl, hC, FR.refl _ _ _⟩
set_option maxRecDepth 20000 in
theorem x_ring_s2 {g : GE} {M : Mem} {sz : Nat} {σ τ : Nat → Int32} {hk : Bool} {n : Nat} {ps : Nat → Nat → Int32} {len : Nat} {tx : Nat → Int32} (hC : CW g M σ τ hk n ps len tx) (hI : I10 σ) {a : Int32} (q r : Nat) (ha : a = nI q) (hq : q < 2 ^ 31) (ho : fnd (atS σ q) 0 37 = some r) (hr : r < 37) (ht : thr σ r = true) : Run g m_X8_ring [rf g 0, .int a, .int 2] M sz 0 0 (RetP (some (.int (toldS σ r 2))) (fun M2 => CW g M2 (σ) (τ) (hk) (n) (ps) (len) (tx) ∧ FR M M2 0 96)) := by
  subst ha
  obtain ⟨p0, y1, y2⟩ := hC.2.1.1
  refine Run.of rfl (by decide) (Nat.le_of_ble_eq_true rfl) ?_
  show V g m_X8_ring 0 _ [] _ _ _ _ _
  refine V_iload_n 1 dX8_ring_0 rfl ?_
  refine V_if_ge (tgt := 14) dX8_ring_1 (by decide) (fun c1 => ?_) (fun c1 => absurd (Int32.not_lt.mp (nI_pos hq)) c1)
  refine V_iload_n 2 dX8_ring_14 rfl ?_
  refine V_iconst (v := 0) dX8_ring_15 rfl ?_
  refine V_iconst (v := 3) dX8_ring_16 rfl ?_
  refine C_X8_66 rfl ⟨Nat.le_of_ble_eq_true rfl, Nat.le_of_ble_eq_true rfl⟩ (r_checkRange_ok (by decide) (by decide)) rfl (Nat.le_of_ble_eq_true rfl) dX8_ring_17 rfl ?_
  refine V_aload_n 0 dX8_ring_20 rfl ?_
  refine V_pc (pc2 := 21) rfl ?_
  refine G_X8_36 rfl hC.1 rfl dX8_ring_21 ?_
  refine V_aload_n 0 dX8_ring_24 rfl ?_
  refine G_X8_10 rfl hC.1 rfl dX8_ring_25 ?_
  refine G_X8_89 rfl y1 rfl dX8_ring_28 ?_
  refine V_iload_n 1 dX8_ring_31 rfl ?_
  refine C_X8_241 hC.2.2.2.2.2.1.1 rfl ⟨Nat.le_of_ble_eq_true rfl, Nat.le_of_ble_eq_true rfl⟩ (hC.2.1.2.2.2.1.standingAt hC.2.2.2.2.2.1 q rfl hq) rfl (Nat.le_of_ble_eq_true rfl) dX8_ring_32 rfl ?_
  rw [ho]
  show V g m_X8_ring 35 _ [.int (nI r)] _ _ _ _ _
  refine V_istore_n (lv2 := [(3, .int _), (0, .ref _), (1, .int _), (2, .int _)]) dX8_ring_35 (Nat.le_of_ble_eq_true rfl) rfl ?_
  refine V_iload_n 0 dX8_ring_36 rfl ?_
  refine V_pc (pc2 := 37) rfl ?_
  refine V_if_ge (tgt := 42) dX8_ring_37 (by decide) (fun c37 => ?_) (fun c37 => absurd (by exact Int32.not_lt.mp (nI_pos (by omega))) c37)
  refine V_iload_n 3 dX8_ring_42 rfl ?_
  refine V_tabIn (off := 38) (tgt := 81) dX8_ring_43 (by decide) (by decide) (by decide) (by decide) ?_
  refine V_lconst (v := 0) dX8_ring_81 rfl ?_
  refine V_ldc2 z_X8_251 dX8_ring_82 ?_
  refine V_aload_n 1 dX8_ring_85 rfl ?_
  refine G_X8_36 rfl hC.1 rfl dX8_ring_86 ?_
  refine V_aload_n 1 dX8_ring_89 rfl ?_
  refine V_pc (pc2 := 90) rfl ?_
  refine G_X8_10 rfl hC.1 rfl dX8_ring_90 ?_
  refine G_X8_89 rfl y1 rfl dX8_ring_93 ?_
  refine V_iload_n 0 dX8_ring_96 rfl ?_
  refine C_X8_253 hC.2.2.2.2.2.1.1 rfl ⟨Nat.le_of_ble_eq_true rfl, Nat.le_of_ble_eq_true rfl⟩ (hC.2.1.2.2.2.1.gain hC.2.2.2.2.2.1 hI r rfl hr ht) rfl (Nat.le_of_ble_eq_true rfl) dX8_ring_97 rfl ?_
  refine V_ldc2 z_X8_257 dX8_ring_100 ?_
  refine V_ladd dX8_ring_103 ?_
  refine C_X8_259 rfl ⟨Nat.le_of_ble_eq_true rfl, Nat.le_of_ble_eq_true rfl⟩ (r_lmin _ _) rfl (Nat.le_of_ble_eq_true rfl) dX8_ring_104 rfl ?_
  refine C_X8_263 rfl ⟨Nat.le_of_ble_eq_true rfl, Nat.le_of_ble_eq_true rfl⟩ (r_lmax _ _) rfl (Nat.le_of_ble_eq_true rfl) dX8_ring_107 rfl ?_
  refine V_pc (pc2 := 110) rfl ?_
  refine V_l2i dX8_ring_110 ?_
  refine V_iret (st := []) dX8_ring_111 rfl ?_
  rw [clampG_eq, show toldS σ r 2 = clampG (gainS σ r + 1000000) by unfold toldS; rw [if_neg (by decide), if_neg (by decide), if_neg (by decide)]]
  exact ⟨rfl, hC, FR.refl _ _ _⟩
set_option maxRecDepth 20000 in
theorem x_ring_n3 {g : GE} {M : Mem} {sz : Nat} {σ τ : Nat → Int32} {hk : Bool} {n : Nat} {ps : Nat → Nat → Int32} {len : Nat} {tx : Nat → Int32} (hC : CW g M σ τ hk n ps len tx) {a : Int32} (q : Nat) (ha : a = nI q) (hq : q < 2 ^ 31) (ho : fnd (atS σ q) 0 37 = none) : Run g m_X8_ring [rf g 0, .int a, .int 3] M sz 0 0 (RetP (some (.int (-1))) (fun M2 => CW g M2 (σ) (τ) (hk) (n) (ps) (len) (tx) ∧ FR M M2 0 96)) := by
  subst ha
  obtain ⟨p0, y1, y2⟩ := hC.2.1.1
  refine Run.of rfl (by decide) (Nat.le_of_ble_eq_true rfl) ?_
  show V g m_X8_ring 0 _ [] _ _ _ _ _
  refine V_iload_n 1 dX8_ring_0 rfl ?_
  refine V_if_ge (tgt := 14) dX8_ring_1 (by decide) (fun c1 => ?_) (fun c1 => absurd (Int32.not_lt.mp (nI_pos hq)) c1)
  refine V_iload_n 2 dX8_ring_14 rfl ?_
  refine V_iconst (v := 0) dX8_ring_15 rfl ?_
  refine V_iconst (v := 3) dX8_ring_16 rfl ?_
  refine C_X8_66 rfl ⟨Nat.le_of_ble_eq_true rfl, Nat.le_of_ble_eq_true rfl⟩ (r_checkRange_ok (by decide) (by decide)) rfl (Nat.le_of_ble_eq_true rfl) dX8_ring_17 rfl ?_
  refine V_aload_n 0 dX8_ring_20 rfl ?_
  refine V_pc (pc2 := 21) rfl ?_
  refine G_X8_36 rfl hC.1 rfl dX8_ring_21 ?_
  refine V_aload_n 0 dX8_ring_24 rfl ?_
  refine G_X8_10 rfl hC.1 rfl dX8_ring_25 ?_
  refine G_X8_89 rfl y1 rfl dX8_ring_28 ?_
  refine V_iload_n 1 dX8_ring_31 rfl ?_
  refine C_X8_241 hC.2.2.2.2.2.1.1 rfl ⟨Nat.le_of_ble_eq_true rfl, Nat.le_of_ble_eq_true rfl⟩ (hC.2.1.2.2.2.1.standingAt hC.2.2.2.2.2.1 q rfl hq) rfl (Nat.le_of_ble_eq_true rfl) dX8_ring_32 rfl ?_
  refine V_istore_n (lv2 := [(3, .int _), (0, .ref _), (1, .int _), (2, .int _)]) dX8_ring_35 (Nat.le_of_ble_eq_true rfl) rfl ?_
  refine V_iload_n 0 dX8_ring_36 rfl ?_
  refine V_pc (pc2 := 37) rfl ?_
  refine V_if_ge (tgt := 42) dX8_ring_37 (by decide) (fun c37 => absurd c37 (by rw [ho]; decide)) (fun c37 => ?_)
  refine V_iconst (v := -1) dX8_ring_40 rfl ?_
  refine V_iret (st := []) dX8_ring_41 rfl ?_
  exact ⟨rfl, hC, FR.refl _ _ _⟩
set_option maxRecDepth 20000 in
theorem x_ring_s3 {g : GE} {M : Mem} {sz : Nat} {σ τ : Nat → Int32} {hk : Bool} {n : Nat} {ps : Nat → Nat → Int32} {len : Nat} {tx : Nat → Int32} (hC : CW g M σ τ hk n ps len tx) (hI : I10 σ) {a : Int32} (q r : Nat) (ha : a = nI q) (hq : q < 2 ^ 31) (ho : fnd (atS σ q) 0 37 = some r) (hr : r < 37) (ht : thr σ r = true) : Run g m_X8_ring [rf g 0, .int a, .int 3] M sz 0 0 (RetP (some (.int (toldS σ r 3))) (fun M2 => CW g M2 (σ) (τ) (hk) (n) (ps) (len) (tx) ∧ FR M M2 0 96)) := by
  subst ha
  obtain ⟨p0, y1, y2⟩ := hC.2.1.1
  refine Run.of rfl (by decide) (Nat.le_of_ble_eq_true rfl) ?_
  show V g m_X8_ring 0 _ [] _ _ _ _ _
  refine V_iload_n 1 dX8_ring_0 rfl ?_
  refine V_if_ge (tgt := 14) dX8_ring_1 (by decide) (fun c1 => ?_) (fun c1 => absurd (Int32.not_lt.mp (nI_pos hq)) c1)
  refine V_iload_n 2 dX8_ring_14 rfl ?_
  refine V_iconst (v := 0) dX8_ring_15 rfl ?_
  refine V_iconst (v := 3) dX8_ring_16 rfl ?_
  refine C_X8_66 rfl ⟨Nat.le_of_ble_eq_true rfl, Nat.le_of_ble_eq_true rfl⟩ (r_checkRange_ok (by decide) (by decide)) rfl (Nat.le_of_ble_eq_true rfl) dX8_ring_17 rfl ?_
  refine V_aload_n 0 dX8_ring_20 rfl ?_
  refine V_pc (pc2 := 21) rfl ?_
  refine G_X8_36 rfl hC.1 rfl dX8_ring_21 ?_
  refine V_aload_n 0 dX8_ring_24 rfl ?_
  refine G_X8_10 rfl hC.1 rfl dX8_ring_25 ?_
  refine G_X8_89 rfl y1 rfl dX8_ring_28 ?_
  refine V_iload_n 1 dX8_ring_31 rfl ?_
  refine C_X8_241 hC.2.2.2.2.2.1.1 rfl ⟨Nat.le_of_ble_eq_true rfl, Nat.le_of_ble_eq_true rfl⟩ (hC.2.1.2.2.2.1.standingAt hC.2.2.2.2.2.1 q rfl hq) rfl (Nat.le_of_ble_eq_true rfl) dX8_ring_32 rfl ?_
  rw [ho]
  show V g m_X8_ring 35 _ [.int (nI r)] _ _ _ _ _
  refine V_istore_n (lv2 := [(3, .int _), (0, .ref _), (1, .int _), (2, .int _)]) dX8_ring_35 (Nat.le_of_ble_eq_true rfl) rfl ?_
  refine V_iload_n 0 dX8_ring_36 rfl ?_
  refine V_pc (pc2 := 37) rfl ?_
  refine V_if_ge (tgt := 42) dX8_ring_37 (by decide) (fun c37 => ?_) (fun c37 => absurd (by exact Int32.not_lt.mp (nI_pos (by omega))) c37)
  refine V_iload_n 3 dX8_ring_42 rfl ?_
  refine V_tabOut (tgt := 112) dX8_ring_43 (by decide) (by decide) ?_
  refine V_aload_n 1 dX8_ring_112 rfl ?_
  refine G_X8_36 rfl hC.1 rfl dX8_ring_113 ?_
  refine V_aload_n 1 dX8_ring_116 rfl ?_
  refine G_X8_10 rfl hC.1 rfl dX8_ring_117 ?_
  refine G_X8_89 rfl y1 rfl dX8_ring_120 ?_
  refine V_pc (pc2 := 123) rfl ?_
  refine V_iload_n 0 dX8_ring_123 rfl ?_
  refine V_aload_n 1 dX8_ring_124 rfl ?_
  refine C_X8_93 hC.1 rfl ⟨Nat.le_of_ble_eq_true rfl, Nat.le_of_ble_eq_true rfl⟩ (r_bound hC) rfl (Nat.le_of_ble_eq_true rfl) dX8_ring_125 rfl ?_
  refine C_X8_265 hC.2.2.2.2.2.1.1 rfl ⟨Nat.le_of_ble_eq_true rfl, Nat.le_of_ble_eq_true rfl⟩ (hC.2.1.2.2.2.1.isOff hC.2.2.2.2.2.1 hI r rfl hr ht rfl) rfl (Nat.le_of_ble_eq_true rfl) dX8_ring_128 rfl ?_
  refine V_if_eq (tgt := 138) dX8_ring_131 (by decide) (fun c131 => ?_) (fun c131 => ?_)
  · refine V_iconst (v := 0) dX8_ring_138 rfl ?_
    refine V_iret (st := []) dX8_ring_139 rfl ?_
    refine ⟨?_, hC, FR.refl _ _ _⟩
    unfold toldS
    rw [bI_0 c131]
    rfl
  · refine V_iconst (v := 1) dX8_ring_134 rfl ?_
    refine V_goto (tgt := 139) dX8_ring_135 (by decide) ?_
    refine V_iret (st := []) dX8_ring_139 rfl ?_
    refine ⟨?_, hC, FR.refl _ _ _⟩
    unfold toldS
    rw [bI_1 c131]
    rfl
