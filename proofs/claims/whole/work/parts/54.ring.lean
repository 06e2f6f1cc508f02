/-! ring -/
def clampG (x : Int64) : Int32 := if x < 0 then 0 else if 2000000000 < x then 2000000000 else x.toInt32
def toldS (σ : Nat → Int32) (r : Nat) (c : Int32) : Int32 := if c = 0 then nI (rSz r) else if c = 1 then nI (rC r) else if c = 3 then bI (offS σ r) else clampG (gainS σ r + 1000000)
theorem clampG_eq (x : Int64) : (lmax 0 (lmin 2000000000 x)).toInt32 = clampG x := by
  unfold clampG lmax lmin
  by_cases h : x < 0
  · have h2 : ¬ (2000000000 : Int64) ≤ x := fun e => by
      have := Int64.lt_of_le_of_lt e h
      exact absurd this (by decide)
    rw [if_pos h, if_neg h2, if_neg (fun e => by have := Int64.lt_trans e h; exact absurd this (by decide))]
    rfl
  · rw [if_neg h]
    by_cases h2 : (2000000000 : Int64) < x
    · rw [if_pos h2, if_pos (Int64.le_of_lt h2), if_pos (by decide)]
      rfl
    · rw [if_neg h2]
      by_cases h3 : (2000000000 : Int64) ≤ x
      · have e : x = 2000000000 := Int64.le_antisymm (Int64.not_lt.mp h2) h3
        subst e
        rw [if_pos h3, if_pos (by decide)]
      · rw [if_neg h3]
        by_cases h4 : 0 < x
        · rw [if_pos h4]
        · have e : x = 0 := Int64.le_antisymm (Int64.not_lt.mp h4) (Int64.not_lt.mp h)
          subst e
          rfl
def optT (σ : Nat → Int32) (c : Int32) : Option Nat → Int32
  | none => -1
  | some r => toldS σ r c
theorem TS.standingAt {g : GE} {M : Mem} {sz : Nat} {t : Nat} {σ : Nat → Int32} (h : TS g M t σ) (hR : RW g M) {x : Int32} (q : Nat) (hx : x = nI q) (hq : q < 2 ^ 31) : Run g m_X3_standingAt [rf g 85, rf g t, .int x] M sz 0 0 (Ret (some (.int (optI (fnd (atS σ q) 0 37)))) M) := by
  obtain ⟨f, p, h1, h2⟩ := h
  exact r_standingAt hR h1 h2 q hx hq
theorem TS.gain {g : GE} {M : Mem} {sz : Nat} {t : Nat} {σ : Nat → Int32} (h : TS g M t σ) (hR : RW g M) (hI : I10 σ) {x : Int32} (r : Nat) (hx : x = nI r) (hr : r < 37) (ht : thr σ r = true) : Run g m_X3_gain [rf g 85, rf g t, .int x] M sz 0 0 (Ret (some (.long (gainS σ r))) M) := by
  obtain ⟨f, p, h1, h2⟩ := h
  exact r_gain hR h1 h2 r hx hr hI ht
theorem TS.isOff {g : GE} {M : Mem} {sz : Nat} {t : Nat} {σ : Nat → Int32} (h : TS g M t σ) (hR : RW g M) (hI : I10 σ) {x : Int32} (r : Nat) (hx : x = nI r) (hr : r < 37) (ht : thr σ r = true) {b : Int32} (hb : b = σ 25) : Run g m_X3_isOff [rf g 85, rf g t, .int x, .int b] M sz 0 0 (Ret (some (.int (bI (offS σ r)))) M) := by
  obtain ⟨f, p, h1, h2⟩ := h
  exact r_isOff hR h1 h2 r hx hr hI ht hb
set_option maxRecDepth 20000 in
theorem x_ring_1a {g : GE} {M : Mem} {sz : Nat} {σ τ : Nat → Int32} {hk : Bool} {n : Nat} {ps : Nat → Nat → Int32} {len : Nat} {tx : Nat → Int32} (hC : CW g M σ τ hk n ps len tx) {a b : Int32} (ha : ¬ 0 ≤ a) : Run g m_X8_ring [rf g 0, .int a, .int b] M sz 1 6 (Thr (exN 1) M) := by
  refine Run.of rfl (by decide) (Nat.le_of_ble_eq_true rfl) ?_
  show V g m_X8_ring 0 _ [] _ _ _ _ _
  refine V_iload_n 1 dX8_ring_0 rfl ?_
  refine V_if_ge (tgt := 14) dX8_ring_1 (by decide) (fun c1 => absurd c1 ha) (fun c1 => ?_)
  refine V_throwS 1 9 (by decide) (by decide) rfl rfl rfl rfl rfl (Nat.le_of_ble_eq_true rfl) (Nat.le_of_ble_eq_true rfl) dX8_ring_4 dX8_ring_7 dX8_ring_8 dX8_ring_10 dX8_ring_13 ?_
  exact ⟨rfl, rfl⟩

set_option maxRecDepth 20000 in
theorem x_ring_1b {g : GE} {M : Mem} {sz : Nat} {σ τ : Nat → Int32} {hk : Bool} {n : Nat} {ps : Nat → Nat → Int32} {len : Nat} {tx : Nat → Int32} (hC : CW g M σ τ hk n ps len tx) {a b : Int32} (ha : 0 ≤ a) (hb : b < 0 ∨ ¬ b ≤ 3) : Run g m_X8_ring [rf g 0, .int a, .int b] M sz 1 6 (Thr (exN 1) M) := by
  refine Run.of rfl (by decide) (Nat.le_of_ble_eq_true rfl) ?_
  show V g m_X8_ring 0 _ [] _ _ _ _ _
  refine V_iload_n 1 dX8_ring_0 rfl ?_
  refine V_if_ge (tgt := 14) dX8_ring_1 (by decide) (fun c1 => ?_) (fun c1 => absurd ha c1)
  refine V_iload_n 2 dX8_ring_14 rfl ?_
  refine V_iconst (v := 0) dX8_ring_15 rfl ?_
  refine V_iconst (v := 3) dX8_ring_16 rfl ?_
  refine Ct_X8_66 rfl rfl ⟨Nat.le_of_ble_eq_true rfl, Nat.le_of_ble_eq_true rfl⟩ (r_checkRange_bad hb) rfl (Nat.le_of_ble_eq_true rfl) dX8_ring_17 rfl ?_
  exact ⟨rfl, rfl⟩

set_option maxRecDepth 20000 in
theorem x_ring_n0 {g : GE} {M : Mem} {sz : Nat} {σ τ : Nat → Int32} {hk : Bool} {n : Nat} {ps : Nat → Nat → Int32} {len : Nat} {tx : Nat → Int32} (hC : CW g M σ τ hk n ps len tx) {a : Int32} (q : Nat) (ha : a = nI q) (hq : q < 2 ^ 31) (ho : fnd (atS σ q) 0 37 = none) : Run g m_X8_ring [rf g 0, .int a, .int 0] M sz 0 0 (RetP (some (.int (-1))) (fun M2 => CW g M2 (σ) (τ) (hk) (n) (ps) (len) (tx) ∧ FR M M2 0 96)) := by
  subst ha
  obtain ⟨p0, y1, y2⟩ := hC.2.1.1
  refine Run.of rfl (by decide) (Nat.le_of_ble_eq_true rfl) ?_
  show V g m_X8_ring 0 _ [] _ _ _ _ _
  refine V_iload_n 1 dX8_ring_0 rfl ?_
  refine V_if_ge (tgt := 14) dX8_ring_1 (by decide) (fun c1 => ?_) (fun c1 => absurd (Int32.not_lt.mp (nI_pos hq)) c1)
  refine V_iload_n 2 dX8_ring_14 rfl ?_
  refine V_iconst (v := 0) dX8_ring_15 rfl ?_
  refine V_iconst (v := 3) dX8_ring_16 rfl ?_
  refine C_X8_66 rfl ⟨Nat.le_of_ble_eq_true rfl, Nat.le_of_ble_eq_true rfl⟩ (r_checkRange_ok (by decide) (by decide)) rfl (Nat.le_of_ble_eq_true rfl) dX8_ring_17 rfl ?_
  refine V_aload_n 0 dX8_ring_20 rfl ?_
  refine V_pc (pc2 := 21) rfl ?_
  refine G_X8_36 rfl hC.1 rfl dX8_ring_21 ?_
  refine V_aload_n 0 dX8_ring_24 rfl ?_
  refine G_X8_10 rfl hC.1 rfl dX8_ring_25 ?_
  refine G_X8_89 rfl y1 rfl dX8_ring_28 ?_
  refine V_iload_n 1 dX8_ring_31 rfl ?_
  refine C_X8_241 hC.2.2.2.2.2.1.1 rfl ⟨Nat.le_of_ble_eq_true rfl, Nat.le_of_ble_eq_true rfl⟩ (hC.2.1.2.2.2.1.standingAt hC.2.2.2.2.2.1 q rfl hq) rfl (Nat.le_of_ble_eq_true rfl) dX8_ring_32 rfl ?_
  refine V_istore_n (lv2 := [(3, .int _), (0, .ref _), (1, .int _), (2, .int _)]) dX8_ring_35 (Nat.le_of_ble_eq_true rfl) rfl ?_
  refine V_iload_n 0 dX8_ring_36 rfl ?_
  refine V_pc (pc2 := 37) rfl ?_
  refine V_if_ge (tgt := 42) dX8_ring_37 (by decide) (fun c37 => absurd c37 (by rw [ho]; decide)) (fun c37 => ?_)
  refine V_iconst (v := -1) dX8_ring_40 rfl ?_
  refine V_iret (st := []) dX8_ring_41 rfl ?_
  exact ⟨rfl, hC, FR.refl _ _ _⟩

set_option maxRecDepth 20000 in
theorem x_ring_s0 {g : GE} {M : Mem} {sz : Nat} {σ τ : Nat → Int32} {hk : Bool} {n : Nat} {ps : Nat → Nat → Int32} {len : Nat} {tx : Nat → Int32} (hC : CW g M σ τ hk n ps len tx) (hI : I10 σ) {a : Int32} (q r : Nat) (ha : a = nI q) (hq : q < 2 ^ 31) (ho : fnd (atS σ q) 0 37 = some r) (hr : r < 37) (ht : thr σ r = true) : Run g m_X8_ring [rf g 0, .int a, .int 0] M sz 0 0 (RetP (some (.int (toldS σ r 0))) (fun M2 => CW g M2 (σ) (τ) (hk) (n) (ps) (len) (tx) ∧ FR M M2 0 96)) := by
  subst ha
  obtain ⟨p0, y1, y2⟩ := hC.2.1.1
  refine Run.of rfl (by decide) (Nat.le_of_ble_eq_true rfl) ?_
  show V g m_X8_ring 0 _ [] _ _ _ _ _
  refine V_iload_n 1 dX8_ring_0 rfl ?_
  refine V_if_ge (tgt := 14) dX8_ring_1 (by decide) (fun c1 => ?_) (fun c1 => absurd (Int32.not_lt.mp (nI_pos hq)) c1)
  refine V_iload_n 2 dX8_ring_14 rfl ?_
  refine V_iconst (v := 0) dX8_ring_15 rfl ?_
  refine V_iconst (v := 3) dX8_ring_16 rfl ?_
  refine C_X8_66 rfl ⟨Nat.le_of_ble_eq_true rfl, Nat.le_of_ble_eq_true rfl⟩ (r_checkRange_ok (by decide) (by decide)) rfl (Nat.le_of_ble_eq_true rfl) dX8_ring_17 rfl ?_
  refine V_aload_n 0 dX8_ring_20 rfl ?_
  refine V_pc (pc2 := 21) rfl ?_
  refine G_X8_36 rfl hC.1 rfl dX8_ring_21 ?_
  refine V_aload_n 0 dX8_ring_24 rfl ?_
  refine G_X8_10 rfl hC.1 rfl dX8_ring_25 ?_
  refine G_X8_89 rfl y1 rfl dX8_ring_28 ?_
  refine V_iload_n 1 dX8_ring_31 rfl ?_
  refine C_X8_241 hC.2.2.2.2.2.1.1 rfl ⟨Nat.le_of_ble_eq_true rfl, Nat.le_of_ble_eq_true rfl⟩ (hC.2.1.2.2.2.1.standingAt hC.2.2.2.2.2.1 q rfl hq) rfl (Nat.le_of_ble_eq_true rfl) dX8_ring_32 rfl ?_
  rw [ho]
  show V g m_X8_ring 35 _ [.int (nI r)] _ _ _ _ _
  refine V_istore_n (lv2 := [(3, .int _), (0, .ref _), (1, .int _), (2, .int _)]) dX8_ring_35 (Nat.le_of_ble_eq_true rfl) rfl ?_
  refine V_iload_n 0 dX8_ring_36 rfl ?_
  refine V_pc (pc2 := 37) rfl ?_
  refine V_if_ge (tgt := 42) dX8_ring_37 (by decide) (fun c37 => ?_) (fun c37 => absurd (by exact Int32.not_lt.mp (nI_pos (by omega))) c37)
  refine V_iload_n 3 dX8_ring_42 rfl ?_
  refine V_tabIn (off := 25) (tgt := 68) dX8_ring_43 (by decide) (by decide) (by decide) (by decide) ?_
  refine V_iload_n 0 dX8_ring_68 rfl ?_
  refine C_X8_245 rfl ⟨Nat.le_of_ble_eq_true rfl, Nat.le_of_ble_eq_true rfl⟩ (r_ringSize r rfl hr) rfl (Nat.le_of_ble_eq_true rfl) dX8_ring_69 rfl ?_
  refine V_iret (st := []) dX8_ring_72 rfl ?_
  exact ⟨rfl, hC, FR.refl _ _ _⟩

set_option maxRecDepth 20000 in
theorem x_ring_n1 {g : GE} {M : Mem} {sz : Nat} {σ τ : Nat → Int32} {hk : Bool} {n : Nat} {ps : Nat → Nat → Int32} {len : Nat} {tx : Nat → Int32} (hC : CW g M σ τ hk n ps len tx) {a : Int32} (q : Nat) (ha : a = nI q) (hq : q < 2 ^ 31) (ho : fnd (atS σ q) 0 37 = none) : Run g m_X8_ring [rf g 0, .int a, .int 1] M sz 0 0 (RetP (some (.int (-1))) (fun M2 => CW g M2 (σ) (τ) (hk) (n) (ps) (len) (tx) ∧ FR M M2 0 96)) := by
  subst ha
  obtain ⟨p0, y1, y2⟩ := hC.2.1.1
  refine Run.of rfl (by decide) (Nat.le_of_ble_eq_true rfl) ?_
  show V g m_X8_ring 0 _ [] _ _ _ _ _
  refine V_iload_n 1 dX8_ring_0 rfl ?_
  refine V_if_ge (tgt := 14) dX8_ring_1 (by decide) (fun c1 => ?_) (fun c1 => absurd (Int32.not_lt.mp (nI_pos hq)) c1)
  refine V_iload_n 2 dX8_ring_14 rfl ?_
  refine V_iconst (v := 0) dX8_ring_15 rfl ?_
  refine V_iconst (v := 3) dX8_ring_16 rfl ?_
  refine C_X8_66 rfl ⟨Nat.le_of_ble_eq_true rfl, Nat.le_of_ble_eq_true rfl⟩ (r_checkRange_ok (by decide) (by decide)) rfl (Nat.le_of_ble_eq_true rfl) dX8_ring_17 rfl ?_
  refine V_aload_n 0 dX8_ring_20 rfl ?_
  refine V_pc (pc2 := 21) rfl ?_
  refine G_X8_36 rfl hC.1 rfl dX8_ring_21 ?_
  refine V_aload_n 0 dX8_ring_24 rfl ?_
  refine G_X8_10 rfl hC.1 rfl dX8_ring_25 ?_
  refine G_X8_89 rfl y1 rfl dX8_ring_28 ?_
  refine V_iload_n 1 dX8_ring_31 rfl ?_
  refine C_X8_241 hC.2.2.2.2.2.1.1 rfl ⟨Nat.le_of_ble_eq_true rfl, Nat.le_of_ble_eq_true rfl⟩ (hC.2.1.2.2.2.1.standingAt hC.2.2.2.2.2.1 q rfl hq) rfl (Nat.le_of_ble_eq_true rfl) dX8_ring_32 rfl ?_
  refine V_istore_n (lv2 := [(3, .int _), (0, .ref _), (1, .int _), (2, .int _)]) dX8_ring_35 (Nat.le_of_ble_eq_true rfl) rfl ?_
  refine V_iload_n 0 dX8_ring_36 rfl ?_
  refine V_pc (pc2 := 37) rfl ?_
  refine V_if_ge (tgt := 42) dX8_ring_37 (by decide) (fun c37 => absurd c37 (by rw [ho]; decide)) (fun c37 => ?_)
  refine V_iconst (v := -1) dX8_ring_40 rfl ?_
  refine V_iret (st := []) dX8_ring_41 rfl ?_
  exact ⟨rfl, hC, FR.refl _ _ _⟩

set_option maxRecDepth 20000 in
theorem x_ring_s1 {g : GE} {M : Mem} {sz : Nat} {σ τ : Nat → Int32} {hk : Bool} {n : Nat} {ps : Nat → Nat → Int32} {len : Nat} {tx : Nat → Int32} (hC : CW g M σ τ hk n ps len tx) (hI : I10 σ) {a : Int32} (q r : Nat) (ha : a = nI q) (hq : q < 2 ^ 31) (ho : fnd (atS σ q) 0 37 = some r) (hr : r < 37) (ht : thr σ r = true) : Run g m_X8_ring [rf g 0, .int a, .int 1] M sz 0 0 (RetP (some (.int (toldS σ r 1))) (fun M2 => CW g M2 (σ) (τ) (hk) (n) (ps) (len) (tx) ∧ FR M M2 0 96)) := by
  subst ha
  obtain ⟨p0, y1, y2⟩ := hC.2.1.1
  refine Run.of rfl (by decide) (Nat.le_of_ble_eq_true rfl) ?_
  show V g m_X8_ring 0 _ [] _ _ _ _ _
  refine V_iload_n 1 dX8_ring_0 rfl ?_
  refine V_if_ge (tgt := 14) dX8_ring_1 (by decide) (fun c1 => ?_) (fun c1 => absurd (Int32.not_lt.mp (nI_pos hq)) c1)
  refine V_iload_n 2 dX8_ring_14 rfl ?_
  refine V_iconst (v := 0) dX8_ring_15 rfl ?_
  refine V_iconst (v := 3) dX8_ring_16 rfl ?_
  refine C_X8_66 rfl ⟨Nat.le_of_ble_eq_true rfl, Nat.le_of_ble_eq_true rfl⟩ (r_checkRange_ok (by decide) (by decide)) rfl (Nat.le_of_ble_eq_true rfl) dX8_ring_17 rfl ?_
  refine V_aload_n 0 dX8_ring_20 rfl ?_
  refine V_pc (pc2 := 21) rfl ?_
  refine G_X8_36 rfl hC.1 rfl dX8_ring_21 ?_
  refine V_aload_n 0 dX8_ring_24 rfl ?_
  refine G_X8_10 rfl hC.1 rfl dX8_ring_25 ?_
  refine G_X8_89 rfl y1 rfl dX8_ring_28 ?_
  refine V_iload_n 1 dX8_ring_31 rfl ?_
  refine C_X8_241 hC.2.2.2.2.2.1.1 rfl ⟨Nat.le_of_ble_eq_true rfl, Nat.le_of_ble_eq_true rfl⟩ (hC.2.1.2.2.2.1.standingAt hC.2.2.2.2.2.1 q rfl hq) rfl (Nat.le_of_ble_eq_true rfl) dX8_ring_32 rfl ?_
  rw [ho]
  show V g m_X8_ring 35 _ [.int (nI r)] _ _ _ _ _
  refine V_istore_n (lv2 := [(3, .int _), (0, .ref _), (1, .int _), (2, .int _)]) dX8_ring_35 (Nat.le_of_ble_eq_true rfl) rfl ?_
  refine V_iload_n 0 dX8_ring_36 rfl ?_
  refine V_pc (pc2 := 37) rfl ?_
  refine V_if_ge (tgt := 42) dX8_ring_37 (by decide) (fun c37 => ?_) (fun c37 => absurd (by exact Int32.not_lt.mp (nI_pos (by omega))) c37)
  refine V_iload_n 3 dX8_ring_42 rfl ?_
  refine V_tabIn (off := 30) (tgt := 73) dX8_ring_43 (by decide) (by decide) (by decide) (by decide) ?_
  refine V_getR st_X8_248 dX8_ring_73 ?_
  refine V_iload_n 0 dX8_ring_76 rfl ?_
  refine C_X8_77 rfl ⟨Nat.le_of_ble_eq_true rfl, Nat.le_of_ble_eq_true rfl⟩ (r_atR r rfl hr) rfl (Nat.le_of_ble_eq_true rfl) dX8_ring_77 rfl ?_
  rw [ringsF_eq r hr]
  refine V_iret (st := []) dX8_ring_80 rfl ?_
  exact ⟨rfl, hC, FR.refl _ _ _⟩

set_option maxRecDepth 20000 in
theorem x_ring_n2 {g : GE} {M : Mem} {sz : Nat} {σ τ : Nat → Int32} {hk : Bool} {n : Nat} {ps : Nat → Nat → Int32} {len : Nat} {tx : Nat → Int32} (hC : CW g M σ τ hk n ps len tx) {a : Int32} (q : Nat) (ha : a = nI q) (hq : q < 2 ^ 31) (ho : fnd (atS σ q) 0 37 = none) : Run g m_X8_ring [rf g 0, .int a, .int 2] M sz 0 0 (RetP (some (.int (-1))) (fun M2 => CW g M2 (σ) (τ) (hk) (n) (ps) (len) (tx) ∧ FR M M2 0 96)) := by
  subst ha
  obtain ⟨p0, y1, y2⟩ := hC.2.1.1
  refine Run.of rfl (by decide) (Nat.le_of_ble_eq_true rfl) ?_
  show V g m_X8_ring 0 _ [] _ _ _ _ _
  refine V_iload_n 1 dX8_ring_0 rfl ?_
  refine V_if_ge (tgt := 14) dX8_ring_1 (by decide) (fun c1 => ?_) (fun c1 => absurd (Int32.not_lt.mp (nI_pos hq)) c1)
  refine V_iload_n 2 dX8_ring_14 rfl ?_
  refine V_iconst (v := 0) dX8_ring_15 rfl ?_
  refine V_iconst (v := 3) dX8_ring_16 rfl ?_
  refine C_X8_66 rfl ⟨Nat.le_of_ble_eq_true rfl, Nat.le_of_ble_eq_true rfl⟩ (r_checkRange_ok (by decide) (by decide)) rfl (Nat.le_of_ble_eq_true rfl) dX8_ring_17 rfl ?_
  refine V_aload_n 0 dX8_ring_20 rfl ?_
  refine V_pc (pc2 := 21) rfl ?_
  refine G_X8_36 rfl hC.1 rfl dX8_ring_21 ?_
  refine V_aload_n 0 dX8_ring_24 rfl ?_
  refine G_X8_10 rfl hC.1 rfl dX8_ring_25 ?_
  refine G_X8_89 rfl y1 rfl dX8_ring_28 ?_
  refine V_iload_n 1 dX8_ring_31 rfl ?_
  refine C_X8_241 hC.2.2.2.2.2.1.1 rfl ⟨Nat.le_of_ble_eq_true rfl, Nat.le_of_ble_eq_true rfl⟩ (hC.2.1.2.2.2.1.standingAt hC.2.2.2.2.2.1 q rfl hq) rfl (Nat.le_of_ble_eq_true rfl) dX8_ring_32 rfl ?_
  refine V_istore_n (lv2 := [(3, .int _), (0, .ref _), (1, .int _), (2, .int _)]) dX8_ring_35 (Nat.le_of_ble_eq_true rfl) rfl ?_
  refine V_iload_n 0 dX8_ring_36 rfl ?_
  refine V_pc (pc2 := 37) rfl ?_
  refine V_if_ge (tgt := 42) dX8_ring_37 (by decide) (fun c37 => absurd c37 (by rw [ho]; decide)) (fun c37 => ?_)
  refine V_iconst (v := -1) dX8_ring_40 rfl ?_
  refine V_iret (st := []) dX8_ring_41 rfl ?_
  exact ⟨rfl, hC, FR.refl _ _ _⟩

set_option maxRecDepth 20000 in
theorem x_ring_s2 {g : GE} {M : Mem} {sz : Nat} {σ τ : Nat → Int32} {hk : Bool} {n : Nat} {ps : Nat → Nat → Int32} {len : Nat} {tx : Nat → Int32} (hC : CW g M σ τ hk n ps len tx) (hI : I10 σ) {a : Int32} (q r : Nat) (ha : a = nI q) (hq : q < 2 ^ 31) (ho : fnd (atS σ q) 0 37 = some r) (hr : r < 37) (ht : thr σ r = true) : Run g m_X8_ring [rf g 0, .int a, .int 2] M sz 0 0 (RetP (some (.int (toldS σ r 2))) (fun M2 => CW g M2 (σ) (τ) (hk) (n) (ps) (len) (tx) ∧ FR M M2 0 96)) := by
  subst ha
  obtain ⟨p0, y1, y2⟩ := hC.2.1.1
  refine Run.of rfl (by decide) (Nat.le_of_ble_eq_true rfl) ?_
  show V g m_X8_ring 0 _ [] _ _ _ _ _
  refine V_iload_n 1 dX8_ring_0 rfl ?_
  refine V_if_ge (tgt := 14) dX8_ring_1 (by decide) (fun c1 => ?_) (fun c1 => absurd (Int32.not_lt.mp (nI_pos hq)) c1)
  refine V_iload_n 2 dX8_ring_14 rfl ?_
  refine V_iconst (v := 0) dX8_ring_15 rfl ?_
  refine V_iconst (v := 3) dX8_ring_16 rfl ?_
  refine C_X8_66 rfl ⟨Nat.le_of_ble_eq_true rfl, Nat.le_of_ble_eq_true rfl⟩ (r_checkRange_ok (by decide) (by decide)) rfl (Nat.le_of_ble_eq_true rfl) dX8_ring_17 rfl ?_
  refine V_aload_n 0 dX8_ring_20 rfl ?_
  refine V_pc (pc2 := 21) rfl ?_
  refine G_X8_36 rfl hC.1 rfl dX8_ring_21 ?_
  refine V_aload_n 0 dX8_ring_24 rfl ?_
  refine G_X8_10 rfl hC.1 rfl dX8_ring_25 ?_
  refine G_X8_89 rfl y1 rfl dX8_ring_28 ?_
  refine V_iload_n 1 dX8_ring_31 rfl ?_
  refine C_X8_241 hC.2.2.2.2.2.1.1 rfl ⟨Nat.le_of_ble_eq_true rfl, Nat.le_of_ble_eq_true rfl⟩ (hC.2.1.2.2.2.1.standingAt hC.2.2.2.2.2.1 q rfl hq) rfl (Nat.le_of_ble_eq_true rfl) dX8_ring_32 rfl ?_
  rw [ho]
  show V g m_X8_ring 35 _ [.int (nI r)] _ _ _ _ _
  refine V_istore_n (lv2 := [(3, .int _), (0, .ref _), (1, .int _), (2, .int _)]) dX8_ring_35 (Nat.le_of_ble_eq_true rfl) rfl ?_
  refine V_iload_n 0 dX8_ring_36 rfl ?_
  refine V_pc (pc2 := 37) rfl ?_
  refine V_if_ge (tgt := 42) dX8_ring_37 (by decide) (fun c37 => ?_) (fun c37 => absurd (by exact Int32.not_lt.mp (nI_pos (by omega))) c37)
  refine V_iload_n 3 dX8_ring_42 rfl ?_
  refine V_tabIn (off := 38) (tgt := 81) dX8_ring_43 (by decide) (by decide) (by decide) (by decide) ?_
  refine V_lconst (v := 0) dX8_ring_81 rfl ?_
  refine V_ldc2 z_X8_251 dX8_ring_82 ?_
  refine V_aload_n 1 dX8_ring_85 rfl ?_
  refine G_X8_36 rfl hC.1 rfl dX8_ring_86 ?_
  refine V_aload_n 1 dX8_ring_89 rfl ?_
  refine V_pc (pc2 := 90) rfl ?_
  refine G_X8_10 rfl hC.1 rfl dX8_ring_90 ?_
  refine G_X8_89 rfl y1 rfl dX8_ring_93 ?_
  refine V_iload_n 0 dX8_ring_96 rfl ?_
  refine C_X8_253 hC.2.2.2.2.2.1.1 rfl ⟨Nat.le_of_ble_eq_true rfl, Nat.le_of_ble_eq_true rfl⟩ (hC.2.1.2.2.2.1.gain hC.2.2.2.2.2.1 hI r rfl hr ht) rfl (Nat.le_of_ble_eq_true rfl) dX8_ring_97 rfl ?_
  refine V_ldc2 z_X8_257 dX8_ring_100 ?_
  refine V_ladd dX8_ring_103 ?_
  refine C_X8_259 rfl ⟨Nat.le_of_ble_eq_true rfl, Nat.le_of_ble_eq_true rfl⟩ (r_lmin _ _) rfl (Nat.le_of_ble_eq_true rfl) dX8_ring_104 rfl ?_
  refine C_X8_263 rfl ⟨Nat.le_of_ble_eq_true rfl, Nat.le_of_ble_eq_true rfl⟩ (r_lmax _ _) rfl (Nat.le_of_ble_eq_true rfl) dX8_ring_107 rfl ?_
  refine V_pc (pc2 := 110) rfl ?_
  refine V_l2i dX8_ring_110 ?_
  refine V_iret (st := []) dX8_ring_111 rfl ?_
  rw [clampG_eq, show toldS σ r 2 = clampG (gainS σ r + 1000000) by unfold toldS; rw [if_neg (by decide), if_neg (by decide), if_neg (by decide)]]
  exact ⟨rfl, hC, FR.refl _ _ _⟩

set_option maxRecDepth 20000 in
theorem x_ring_n3 {g : GE} {M : Mem} {sz : Nat} {σ τ : Nat → Int32} {hk : Bool} {n : Nat} {ps : Nat → Nat → Int32} {len : Nat} {tx : Nat → Int32} (hC : CW g M σ τ hk n ps len tx) {a : Int32} (q : Nat) (ha : a = nI q) (hq : q < 2 ^ 31) (ho : fnd (atS σ q) 0 37 = none) : Run g m_X8_ring [rf g 0, .int a, .int 3] M sz 0 0 (RetP (some (.int (-1))) (fun M2 => CW g M2 (σ) (τ) (hk) (n) (ps) (len) (tx) ∧ FR M M2 0 96)) := by
  subst ha
  obtain ⟨p0, y1, y2⟩ := hC.2.1.1
  refine Run.of rfl (by decide) (Nat.le_of_ble_eq_true rfl) ?_
  show V g m_X8_ring 0 _ [] _ _ _ _ _
  refine V_iload_n 1 dX8_ring_0 rfl ?_
  refine V_if_ge (tgt := 14) dX8_ring_1 (by decide) (fun c1 => ?_) (fun c1 => absurd (Int32.not_lt.mp (nI_pos hq)) c1)
  refine V_iload_n 2 dX8_ring_14 rfl ?_
  refine V_iconst (v := 0) dX8_ring_15 rfl ?_
  refine V_iconst (v := 3) dX8_ring_16 rfl ?_
  refine C_X8_66 rfl ⟨Nat.le_of_ble_eq_true rfl, Nat.le_of_ble_eq_true rfl⟩ (r_checkRange_ok (by decide) (by decide)) rfl (Nat.le_of_ble_eq_true rfl) dX8_ring_17 rfl ?_
  refine V_aload_n 0 dX8_ring_20 rfl ?_
  refine V_pc (pc2 := 21) rfl ?_
  refine G_X8_36 rfl hC.1 rfl dX8_ring_21 ?_
  refine V_aload_n 0 dX8_ring_24 rfl ?_
  refine G_X8_10 rfl hC.1 rfl dX8_ring_25 ?_
  refine G_X8_89 rfl y1 rfl dX8_ring_28 ?_
  refine V_iload_n 1 dX8_ring_31 rfl ?_
  refine C_X8_241 hC.2.2.2.2.2.1.1 rfl ⟨Nat.le_of_ble_eq_true rfl, Nat.le_of_ble_eq_true rfl⟩ (hC.2.1.2.2.2.1.standingAt hC.2.2.2.2.2.1 q rfl hq) rfl (Nat.le_of_ble_eq_true rfl) dX8_ring_32 rfl ?_
  refine V_istore_n (lv2 := [(3, .int _), (0, .ref _), (1, .int _), (2, .int _)]) dX8_ring_35 (Nat.le_of_ble_eq_true rfl) rfl ?_
  refine V_iload_n 0 dX8_ring_36 rfl ?_
  refine V_pc (pc2 := 37) rfl ?_
  refine V_if_ge (tgt := 42) dX8_ring_37 (by decide) (fun c37 => absurd c37 (by rw [ho]; decide)) (fun c37 => ?_)
  refine V_iconst (v := -1) dX8_ring_40 rfl ?_
  refine V_iret (st := []) dX8_ring_41 rfl ?_
  exact ⟨rfl, hC, FR.refl _ _ _⟩

set_option maxRecDepth 20000 in
theorem x_ring_s3 {g : GE} {M : Mem} {sz : Nat} {σ τ : Nat → Int32} {hk : Bool} {n : Nat} {ps : Nat → Nat → Int32} {len : Nat} {tx : Nat → Int32} (hC : CW g M σ τ hk n ps len tx) (hI : I10 σ) {a : Int32} (q r : Nat) (ha : a = nI q) (hq : q < 2 ^ 31) (ho : fnd (atS σ q) 0 37 = some r) (hr : r < 37) (ht : thr σ r = true) : Run g m_X8_ring [rf g 0, .int a, .int 3] M sz 0 0 (RetP (some (.int (toldS σ r 3))) (fun M2 => CW g M2 (σ) (τ) (hk) (n) (ps) (len) (tx) ∧ FR M M2 0 96)) := by
  subst ha
  obtain ⟨p0, y1, y2⟩ := hC.2.1.1
  refine Run.of rfl (by decide) (Nat.le_of_ble_eq_true rfl) ?_
  show V g m_X8_ring 0 _ [] _ _ _ _ _
  refine V_iload_n 1 dX8_ring_0 rfl ?_
  refine V_if_ge (tgt := 14) dX8_ring_1 (by decide) (fun c1 => ?_) (fun c1 => absurd (Int32.not_lt.mp (nI_pos hq)) c1)
  refine V_iload_n 2 dX8_ring_14 rfl ?_
  refine V_iconst (v := 0) dX8_ring_15 rfl ?_
  refine V_iconst (v := 3) dX8_ring_16 rfl ?_
  refine C_X8_66 rfl ⟨Nat.le_of_ble_eq_true rfl, Nat.le_of_ble_eq_true rfl⟩ (r_checkRange_ok (by decide) (by decide)) rfl (Nat.le_of_ble_eq_true rfl) dX8_ring_17 rfl ?_
  refine V_aload_n 0 dX8_ring_20 rfl ?_
  refine V_pc (pc2 := 21) rfl ?_
  refine G_X8_36 rfl hC.1 rfl dX8_ring_21 ?_
  refine V_aload_n 0 dX8_ring_24 rfl ?_
  refine G_X8_10 rfl hC.1 rfl dX8_ring_25 ?_
  refine G_X8_89 rfl y1 rfl dX8_ring_28 ?_
  refine V_iload_n 1 dX8_ring_31 rfl ?_
  refine C_X8_241 hC.2.2.2.2.2.1.1 rfl ⟨Nat.le_of_ble_eq_true rfl, Nat.le_of_ble_eq_true rfl⟩ (hC.2.1.2.2.2.1.standingAt hC.2.2.2.2.2.1 q rfl hq) rfl (Nat.le_of_ble_eq_true rfl) dX8_ring_32 rfl ?_
  rw [ho]
  show V g m_X8_ring 35 _ [.int (nI r)] _ _ _ _ _
  refine V_istore_n (lv2 := [(3, .int _), (0, .ref _), (1, .int _), (2, .int _)]) dX8_ring_35 (Nat.le_of_ble_eq_true rfl) rfl ?_
  refine V_iload_n 0 dX8_ring_36 rfl ?_
  refine V_pc (pc2 := 37) rfl ?_
  refine V_if_ge (tgt := 42) dX8_ring_37 (by decide) (fun c37 => ?_) (fun c37 => absurd (by exact Int32.not_lt.mp (nI_pos (by omega))) c37)
  refine V_iload_n 3 dX8_ring_42 rfl ?_
  refine V_tabOut (tgt := 112) dX8_ring_43 (by decide) (by decide) ?_
  refine V_aload_n 1 dX8_ring_112 rfl ?_
  refine G_X8_36 rfl hC.1 rfl dX8_ring_113 ?_
  refine V_aload_n 1 dX8_ring_116 rfl ?_
  refine G_X8_10 rfl hC.1 rfl dX8_ring_117 ?_
  refine G_X8_89 rfl y1 rfl dX8_ring_120 ?_
  refine V_pc (pc2 := 123) rfl ?_
  refine V_iload_n 0 dX8_ring_123 rfl ?_
  refine V_aload_n 1 dX8_ring_124 rfl ?_
  refine C_X8_93 hC.1 rfl ⟨Nat.le_of_ble_eq_true rfl, Nat.le_of_ble_eq_true rfl⟩ (r_bound hC) rfl (Nat.le_of_ble_eq_true rfl) dX8_ring_125 rfl ?_
  refine C_X8_265 hC.2.2.2.2.2.1.1 rfl ⟨Nat.le_of_ble_eq_true rfl, Nat.le_of_ble_eq_true rfl⟩ (hC.2.1.2.2.2.1.isOff hC.2.2.2.2.2.1 hI r rfl hr ht rfl) rfl (Nat.le_of_ble_eq_true rfl) dX8_ring_128 rfl ?_
  refine V_if_eq (tgt := 138) dX8_ring_131 (by decide) (fun c131 => ?_) (fun c131 => ?_)
  · refine V_iconst (v := 0) dX8_ring_138 rfl ?_
    refine V_iret (st := []) dX8_ring_139 rfl ?_
    refine ⟨?_, hC, FR.refl _ _ _⟩
    unfold toldS
    rw [bI_0 c131]
    rfl
  · refine V_iconst (v := 1) dX8_ring_134 rfl ?_
    refine V_goto (tgt := 139) dX8_ring_135 (by decide) ?_
    refine V_iret (st := []) dX8_ring_139 rfl ?_
    refine ⟨?_, hC, FR.refl _ _ _⟩
    unfold toldS
    rw [bI_1 c131]
    rfl

set_option maxRecDepth 20000 in
theorem r9_told {g : GE} {M : Mem} {sz : Nat} {σ v : Nat → Int32} (hM : MD g M σ v) (hI : I10 σ) {x : Int32} (r : Nat) (hx : x = nI r) (hr : r < 37) (ht : thr σ r = true) (c : Int32) : Run g m_X9_told [rf g 96, .int x, .int c] M sz 0 0 (Ret (some (.int (toldS σ r c))) M) := by
  subst hx
  refine Run.of rfl (by decide) (Nat.le_of_ble_eq_true rfl) ?_
  show V g m_X9_told 0 _ [] _ _ _ _ _
  refine V_aload_n 0 dX9_told_0 rfl ?_
  refine V_iload_n 1 dX9_told_1 rfl ?_
  refine C_X9_85 hM.1 rfl ⟨Nat.le_of_ble_eq_true rfl, Nat.le_of_ble_eq_true rfl⟩ (r9_gain hM r rfl hr hI ht) rfl (Nat.le_of_ble_eq_true rfl) dX9_told_2 rfl ?_
  refine V_ldc2 z_X9_227 dX9_told_5 ?_
  refine V_ladd dX9_told_8 ?_
  refine V_lstore_n (lv2 := [(3, .long _), (0, .ref _), (1, .int _), (2, .int _)]) dX9_told_9 (Nat.le_of_ble_eq_true rfl) rfl ?_
  refine V_iload_n 3 dX9_told_10 rfl ?_
  refine V_pc (pc2 := 11) rfl ?_
  refine V_if_ne (tgt := 23) dX9_told_11 (by decide) (fun c11 => ?_) (fun c11 => ?_)
  · refine V_iload_n 3 dX9_told_23 rfl ?_
    refine V_iconst (v := 1) dX9_told_24 rfl ?_
    refine V_icmp_ne (tgt := 37) dX9_told_25 (by decide) (fun c25 => ?_) (fun c25 => ?_)
    · refine V_iload_n 3 dX9_told_37 rfl ?_
      refine V_iconst (v := 3) dX9_told_38 rfl ?_
      refine V_icmp_ne (tgt := 58) dX9_told_39 (by decide) (fun c39 => ?_) (fun c39 => ?_)
      · refine V_lload_n 0 dX9_told_58 rfl ?_
        refine V_lconst (v := 0) dX9_told_59 rfl ?_
        refine V_lcmp dX9_told_60 ?_
        refine V_if_ge (tgt := 68) dX9_told_61 (by decide) (fun c61 => ?_) (fun c61 => ?_)
        · refine V_lload_n 0 dX9_told_68 rfl ?_
          refine V_ldc2 z_X9_229 dX9_told_69 ?_
          refine V_lcmp dX9_told_72 ?_
          refine V_if_le (tgt := 81) dX9_told_73 (by decide) (fun c73 => ?_) (fun c73 => ?_)
          · refine V_lload_n 0 dX9_told_81 rfl ?_
            refine V_l2i dX9_told_82 ?_
            refine V_iret (st := []) dX9_told_83 rfl ?_
            exact ⟨by unfold toldS clampG; rw [if_neg c11, if_neg c25, if_neg c39, if_neg (Int64.not_lt.mpr (lgc_ge.mp c61)), if_neg (Int64.not_lt.mpr (lgc_le.mp c73))], rfl⟩
          · refine V_ldc z_X9_231 dX9_told_76 ?_
            refine V_goto (tgt := 83) dX9_told_78 (by decide) ?_
            refine V_iret (st := []) dX9_told_83 rfl ?_
            exact ⟨by unfold toldS clampG; rw [if_neg c11, if_neg c25, if_neg c39, if_neg (Int64.not_lt.mpr (lgc_ge.mp c61)), if_pos (lgc_gt.mp (Int32.not_le.mp c73))], rfl⟩
        · refine V_iconst (v := 0) dX9_told_64 rfl ?_
          refine V_goto (tgt := 83) dX9_told_65 (by decide) ?_
          refine V_iret (st := []) dX9_told_83 rfl ?_
          exact ⟨by unfold toldS clampG; rw [if_neg c11, if_neg c25, if_neg c39, if_pos (lgc_lt.mp (Int32.not_le.mp c61))], rfl⟩
      · refine V_aload_n 1 dX9_told_42 rfl ?_
        refine V_iload_n 2 dX9_told_43 rfl ?_
        refine C_X9_92 hM.1 rfl ⟨Nat.le_of_ble_eq_true rfl, Nat.le_of_ble_eq_true rfl⟩ (r9_isOff hM r rfl hr hI ht) rfl (Nat.le_of_ble_eq_true rfl) dX9_told_44 rfl ?_
        refine V_if_eq (tgt := 54) dX9_told_47 (by decide) (fun c47 => ?_) (fun c47 => ?_)
        · refine V_iconst (v := 0) dX9_told_54 rfl ?_
          refine V_goto (tgt := 83) dX9_told_55 (by decide) ?_
          refine V_iret (st := []) dX9_told_83 rfl ?_
          exact ⟨by unfold toldS; rw [if_neg c11, if_neg c25, if_pos c39, bI_0 c47]; rfl, rfl⟩
        · refine V_iconst (v := 1) dX9_told_50 rfl ?_
          refine V_goto (tgt := 83) dX9_told_51 (by decide) ?_
          refine V_iret (st := []) dX9_told_83 rfl ?_
          exact ⟨by unfold toldS; rw [if_neg c11, if_neg c25, if_pos c39, bI_1 c47]; rfl, rfl⟩
    · refine V_aload_n 1 dX9_told_28 rfl ?_
      refine G_X9_25 rfl hM.1 rfl dX9_told_29 ?_
      refine V_iload_n 2 dX9_told_32 rfl ?_
      refine V_iald hM.2.2.2 (vp_in_nI hr (by decide)) dX9_told_33 ?_
      refine V_goto (tgt := 83) dX9_told_34 (by decide) ?_
      refine V_iret (st := []) dX9_told_83 rfl ?_
      exact ⟨by unfold toldS; rw [if_neg c11, if_pos c25, cd9 hr], rfl⟩
  · refine V_aload_n 1 dX9_told_14 rfl ?_
    refine G_X9_22 rfl hM.1 rfl dX9_told_15 ?_
    refine V_iload_n 2 dX9_told_18 rfl ?_
    refine V_iald hM.2.2.1 (vp_in_nI hr (by decide)) dX9_told_19 ?_
    refine V_goto (tgt := 83) dX9_told_20 (by decide) ?_
    refine V_iret (st := []) dX9_told_83 rfl ?_
    exact ⟨by unfold toldS; rw [if_pos c11, sz9 hr], rfl⟩

set_option maxRecDepth 20000 in
theorem q9_ring_1 {g : GE} {M : Mem} {sz : Nat} {σ sn : Nat → Int32} {hk : Bool} {n : Nat} {ps : Nat → Nat → Int32} {len : Nat} {tx : Nat → Int32} {th : Int32} (hL : ML g M σ sn hk n ps len tx th) {a b : Int32} (h : ¬ 0 ≤ a ∨ (b < 0 ∨ ¬ b ≤ 3)) : Run g m_X9_ring [rf g 96, .int a, .int b] M sz 0 0 (RetP (some (.int 0)) (fun M2 => ML g M2 (σ) (sn) (hk) (n) (ps) (len) (tx) (1) ∧ FR M M2 96 9)) := by
  obtain ⟨⟨v, hM, v0, v1, v2, v3⟩, ⟨pf, f1, f2⟩, f3, f4, f5⟩ := id hL
  refine Run.of rfl (by decide) (Nat.le_of_ble_eq_true rfl) ?_
  show V g m_X9_ring 0 _ [] _ _ _ _ _
  refine V_aload_n 0 dX9_ring_0 rfl ?_
  refine V_iload_n 1 dX9_ring_1 rfl ?_
  refine V_if_lt (tgt := 14) dX9_ring_2 (by decide) (fun c2 => ?_) (fun c2 => ?_)
  · refine V_iconst (v := 1) dX9_ring_14 rfl ?_
    refine V_goto (tgt := 19) dX9_ring_15 (by decide) ?_
    refine C_X9_111 hM.1 rfl ⟨Nat.le_of_ble_eq_true rfl, Nat.le_of_ble_eq_true rfl⟩ (r9_refused hM 1) rfl (Nat.le_of_ble_eq_true rfl) dX9_ring_19 rfl ?_
    refine V_if_eq (tgt := 27) dX9_ring_22 (by decide) (fun c22 => absurd c22 (by decide)) (fun c22 => ?_)
    refine V_iconst (v := 0) dX9_ring_25 rfl ?_
    refine V_iret (st := []) dX9_ring_26 rfl ?_
    refine ⟨rfl, hL.thr hM v0 v1 v2, (FR.refl M 96 9).put (by omega)⟩
  · refine V_iload_n 2 dX9_ring_5 rfl ?_
    refine V_iconst (v := 0) dX9_ring_6 rfl ?_
    refine V_iconst (v := 3) dX9_ring_7 rfl ?_
    refine C_X9_44 rfl ⟨Nat.le_of_ble_eq_true rfl, Nat.le_of_ble_eq_true rfl⟩ (r9_in _ _ _) rfl (Nat.le_of_ble_eq_true rfl) dX9_ring_8 rfl ?_
    refine V_if_ne (tgt := 18) dX9_ring_11 (by decide) (fun c11 => ?_) (fun c11 => ?_)
    · exact (h.elim (fun h => h (Int32.not_lt.mp c2)) (fun h => c11 (by rw [inI_f h]; rfl))).elim
    · refine V_iconst (v := 1) dX9_ring_14 rfl ?_
      refine V_goto (tgt := 19) dX9_ring_15 (by decide) ?_
      refine C_X9_111 hM.1 rfl ⟨Nat.le_of_ble_eq_true rfl, Nat.le_of_ble_eq_true rfl⟩ (r9_refused hM 1) rfl (Nat.le_of_ble_eq_true rfl) dX9_ring_19 rfl ?_
      refine V_if_eq (tgt := 27) dX9_ring_22 (by decide) (fun c22 => absurd c22 (by decide)) (fun c22 => ?_)
      refine V_iconst (v := 0) dX9_ring_25 rfl ?_
      refine V_iret (st := []) dX9_ring_26 rfl ?_
      refine ⟨rfl, hL.thr hM v0 v1 v2, (FR.refl M 96 9).put (by omega)⟩

set_option maxRecDepth 20000 in
theorem ring_loop {g : GE} {M : Mem} {sz : Nat} {σ w : Nat → Int32} (hM : MD g M σ w) (hI : I10 σ) (q : Nat) (hq : q < 2 ^ 31) {a c : Int32} {Q : Ou → Mem → Prop} : ∀ m i : Nat, i + m = 37 → cnt (thr σ) i ≤ q → Q (.inl (some (.int (optT σ c (fnd (atS σ q) i m))))) M → V g m_X9_ring 32 [(4, .int (nI i)), (3, .int (nI (q - cnt (thr σ) i))), (0, rf g 96), (1, .int a), (2, .int c)] [] M sz 0 0 Q := by
  intro m
  induction m with
  | zero =>
    intro i hi hc hq9
    obtain rfl : i = 37 := by omega
    refine V_iload 0 dX9_ring_32 rfl ?_
    refine V_bipush (v := 37) dX9_ring_34 (by decide) ?_
    refine V_icmp_ge (tgt := 69) dX9_ring_36 (by decide) (fun c36 => ?_) (fun c36 => absurd (by decide) c36)
    refine V_iconst (v := -1) dX9_ring_69 rfl ?_
    refine V_iret (st := []) dX9_ring_70 rfl ?_
    exact hq9
  | succ m ih =>
    intro i hi hc hq9
    have hlt : i < 37 := by omega
    refine V_iload 0 dX9_ring_32 rfl ?_
    refine V_bipush (v := 37) dX9_ring_34 (by decide) ?_
    refine V_icmp_ge (tgt := 69) dX9_ring_36 (by decide) (fun c36 => absurd c36 (nI_ge (b := 37) hlt (by decide))) (fun c36 => ?_)
    refine V_aload_n 2 dX9_ring_39 rfl ?_
    refine V_iload 0 dX9_ring_40 rfl ?_
    refine C_X9_89 hM.1 rfl ⟨Nat.le_of_ble_eq_true rfl, Nat.le_of_ble_eq_true rfl⟩ (r9_isThere hM i rfl hlt) rfl (Nat.le_of_ble_eq_true rfl) dX9_ring_42 rfl ?_
    refine V_if_eq (tgt := 63) dX9_ring_45 (by decide) (fun c45 => ?_) (fun c45 => ?_)
    · refine V_iinc (v := _ + 1) (lv2 := [(4, .int _), (3, .int _), (0, .ref _), (1, .int _), (2, .int _)]) 0 dX9_ring_63 rfl rfl (Nat.le_of_ble_eq_true rfl) rfl ?_
      refine V_goto (tgt := 32) dX9_ring_66 (by decide) ?_
      refine V_lv (lv2 := [(4, .int _), (3, .int _), (0, .ref _), (1, .int _), (2, .int _)]) [0, 1, 2, 3, 4] rfl ?_
      rw [nI_1]
      have e2 := cnt_f (bI_0 c45)
      have e1 : atS σ q i = false := by unfold atS; rw [bI_0 c45]; rfl
      rw [fnd_f e1] at hq9
      rw [← e2]
      exact ih (i + 1) (by omega) (by rw [e2]; exact hc) hq9
    · refine V_iload_n 1 dX9_ring_48 rfl ?_
      refine V_if_ne (tgt := 60) dX9_ring_49 (by decide) (fun c49 => ?_) (fun c49 => ?_)
      · refine V_iinc (v := _ + (-1)) (lv2 := [(3, .int _), (4, .int _), (0, .ref _), (1, .int _), (2, .int _)]) 1 dX9_ring_60 rfl rfl (Nat.le_of_ble_eq_true rfl) rfl ?_
        refine V_iinc (v := _ + 1) (lv2 := [(4, .int _), (3, .int _), (0, .ref _), (1, .int _), (2, .int _)]) 1 dX9_ring_63 rfl rfl (Nat.le_of_ble_eq_true rfl) rfl ?_
        refine V_goto (tgt := 32) dX9_ring_66 (by decide) ?_
        refine V_lv (lv2 := [(4, .int _), (3, .int _), (0, .ref _), (1, .int _), (2, .int _)]) [0, 1, 2, 3, 4] rfl ?_
        rw [nI_1]
        have e2 := cnt_t (bI_1 c45)
        have e0 : ¬ q - cnt (thr σ) i = 0 := fun e => c49 (by rw [e]; rfl)
        have e1 : atS σ q i = false := by unfold atS; rw [bI_1 c45, Bool.true_and]; exact beq_false_of_ne (by omega)
        rw [fnd_f e1] at hq9
        rw [show nI (q - cnt (thr σ) i) + -1 = nI (q - cnt (thr σ) (i + 1)) by rw [e2, ← Int32.sub_eq_add_neg, show (1 : Int32) = nI 1 from rfl, pk_sub (by omega)]; congr 1]
        exact ih (i + 1) (by omega) (by omega) hq9
      · refine V_aload_n 2 dX9_ring_52 rfl ?_
        refine V_iload 0 dX9_ring_53 rfl ?_
        refine V_iload_n 4 dX9_ring_55 rfl ?_
        refine C_X9_232 hM.1 rfl ⟨Nat.le_of_ble_eq_true rfl, Nat.le_of_ble_eq_true rfl⟩ (r9_told hM hI i rfl hlt (bI_1 c45) c) rfl (Nat.le_of_ble_eq_true rfl) dX9_ring_56 rfl ?_
        refine V_iret (st := []) dX9_ring_59 rfl ?_
        have e0 : q - cnt (thr σ) i = 0 := (nI_eq (b := 0) (by omega) (by decide)).mp c49
        have e1 : atS σ q i = true := by unfold atS; rw [bI_1 c45, Bool.true_and, beq_iff_eq]; omega
        rw [fnd_t e1] at hq9
        exact hq9

set_option maxRecDepth 20000 in
theorem q9_ring_ok {g : GE} {M : Mem} {sz : Nat} {σ sn : Nat → Int32} {hk : Bool} {n : Nat} {ps : Nat → Nat → Int32} {len : Nat} {tx : Nat → Int32} {th : Int32} (hL : ML g M σ sn hk n ps len tx th) (hI : I10 σ) {a b : Int32} (q : Nat) (ha : a = nI q) (hq : q < 2 ^ 31) (hb : ¬ b < 0) (hb2 : b ≤ 3) : Run g m_X9_ring [rf g 96, .int a, .int b] M sz 0 0 (RetP (some (.int (optT σ b (fnd (atS σ q) 0 37)))) (fun M2 => ML g M2 (σ) (sn) (hk) (n) (ps) (len) (tx) (0) ∧ FR M M2 96 9)) := by
  subst ha
  obtain ⟨⟨v, hM, v0, v1, v2, v3⟩, ⟨pf, f1, f2⟩, f3, f4, f5⟩ := id hL
  refine Run.of rfl (by decide) (Nat.le_of_ble_eq_true rfl) ?_
  show V g m_X9_ring 0 _ [] _ _ _ _ _
  refine V_aload_n 0 dX9_ring_0 rfl ?_
  refine V_iload_n 1 dX9_ring_1 rfl ?_
  refine V_if_lt (tgt := 14) dX9_ring_2 (by decide) (fun c2 => absurd c2 (nI_pos hq)) (fun c2 => ?_)
  refine V_iload_n 2 dX9_ring_5 rfl ?_
  refine V_iconst (v := 0) dX9_ring_6 rfl ?_
  refine V_iconst (v := 3) dX9_ring_7 rfl ?_
  refine C_X9_44 rfl ⟨Nat.le_of_ble_eq_true rfl, Nat.le_of_ble_eq_true rfl⟩ (r9_in _ _ _) rfl (Nat.le_of_ble_eq_true rfl) dX9_ring_8 rfl ?_
  refine V_pc (pc2 := 11) rfl ?_
  refine V_if_ne (tgt := 18) dX9_ring_11 (by decide) (fun c11 => ?_) (fun c11 => absurd c11 (by rw [inI_t hb hb2]; decide))
  refine V_iconst (v := 0) dX9_ring_18 rfl ?_
  refine C_X9_111 hM.1 rfl ⟨Nat.le_of_ble_eq_true rfl, Nat.le_of_ble_eq_true rfl⟩ (r9_refused hM 0) rfl (Nat.le_of_ble_eq_true rfl) dX9_ring_19 rfl ?_
  refine V_if_eq (tgt := 27) dX9_ring_22 (by decide) (fun c22 => ?_) (fun c22 => absurd (by decide) c22)
  refine V_iload_n 1 dX9_ring_27 rfl ?_
  refine V_istore_n (lv2 := [(3, .int _), (0, .ref _), (1, .int _), (2, .int _)]) dX9_ring_28 (Nat.le_of_ble_eq_true rfl) rfl ?_
  refine V_iconst (v := 0) dX9_ring_29 rfl ?_
  refine V_istore (lv2 := [(4, .int _), (3, .int _), (0, .ref _), (1, .int _), (2, .int _)]) dX9_ring_30 (Nat.le_of_ble_eq_true rfl) rfl ?_
  refine V_lv (lv2 := [(4, .int _), (3, .int _), (0, .ref _), (1, .int _), (2, .int _)]) [0, 1, 2, 3, 4] rfl ?_
  exact ring_loop (hM.v _) hI q hq 37 0 rfl (Nat.zero_le _) ⟨rfl, hL.thr hM v0 v1 v2, (FR.refl M 96 9).put (by omega)⟩

theorem op_ring (g : GE) (a b : Int32) : OPL g m_L_ring m_X9_ring [rf g 0, .int a, .int b, rf g 105] [rf g 96, .int a, .int b] := by
  rintro M sz ⟨th, σ, τ, sn, hk, n, ps, len, tx, hW⟩
  obtain ⟨w1, w2, ⟨i1, i2, i3, i4, i5, i6⟩, o, w4⟩ := id hW
  by_cases ha : 0 ≤ a
  · by_cases hb : b < 0 ∨ ¬ b ≤ 3
    · exact OPL.bad hW (c := 1) (by decide) (by decide) (h_ring_1 w1.1 (x_ring_1b w1 ha hb)) (fun M2 sz2 h => q9_ring_1 h (Or.inr hb))
    · have hb1 : ¬ b < 0 := fun h => hb (Or.inl h)
      have hb2 : b ≤ 3 := Decidable.of_not_not (fun h => hb (Or.inr h))
      obtain ⟨q, hq, rfl⟩ := nI_of (Int32.not_lt.mpr ha)
      refine OPL.ok hW (σ2 := σ) (τ2 := τ) (sn2 := sn) (hk2 := hk) (n2 := n) (ps2 := ps) (len2 := len) (tx2 := tx) ⟨i1, i2, i3, i4, i5, i6⟩ (h_ring_ok w1.1 (?_ : Run g m_X8_ring [rf g 0, .int (nI q), .int b] M sz 0 0 (RetP (some (.int (optT σ b (fnd (atS σ q) 0 37)))) (fun M2 => CW g M2 σ τ hk n ps len tx ∧ FR M M2 0 96))) (fun M1 q => CW.out w4 q.2)) (fun M2 sz2 h => q9_ring_ok h i1.1 q rfl hq hb1 hb2)
      obtain ⟨c, _, hc, rfl⟩ := nI_rng (l := 0) (h := 3) hb1 hb2 (by decide) (by decide)
      cases ho : fnd (atS σ q) 0 37 with
      | none =>
        match c, hc with
        | 0, _ => exact x_ring_n0 w1 q rfl hq ho
        | 1, _ => exact x_ring_n1 w1 q rfl hq ho
        | 2, _ => exact x_ring_n2 w1 q rfl hq ho
        | 3, _ => exact x_ring_n3 w1 q rfl hq ho
      | some r =>
        have hr := fnd37 r ho
        have ht : thr σ r = true := by
          have e := (fnd_some ho).1
          unfold atS at e
          exact (Bool.and_eq_true _ _ ▸ e).1
        match c, hc with
        | 0, _ => exact x_ring_s0 w1 i1.1 q r rfl hq ho hr ht
        | 1, _ => exact x_ring_s1 w1 i1.1 q r rfl hq ho hr ht
        | 2, _ => exact x_ring_s2 w1 i1.1 q r rfl hq ho hr ht
        | 3, _ => exact x_ring_s3 w1 i1.1 q r rfl hq ho hr ht
  · exact OPL.bad hW (c := 1) (by decide) (by decide) (h_ring_1 w1.1 (x_ring_1a w1 ha)) (fun M2 sz2 h => q9_ring_1 h (Or.inl ha))
