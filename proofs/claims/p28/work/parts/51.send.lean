/-! send, sell, boltOf, append -/
def isB (σ : Nat → Int32) (w : Int32) : Bool := decide (0 ≤ w) && decide (w < σ 60)
theorem nI_64 {a : Nat} (h : a < 2 ^ 31) : (nI a).toInt64 = lN a := by
  apply Int64.toInt_inj.mp
  rw [Int32.toInt_toInt64, nI_toInt h, pk_lT (by omega)]
theorem lN_32 {a : Nat} (h : a < 2 ^ 31) : (lN a).toInt32 = nI a := by
  rw [← nI_64 h, Int32.toInt32_toInt64]
theorem lN_mulN (a b : Nat) : lN a * lN b = lN (a * b) := (Int64.ofNat_mul a b).symm
/-- a length turned is a length -/
theorem turnS_nat {σ : Nat → Int32} (hI : I10 σ) {a b : Nat} (ha : a < 5) (hb : b < 5) (hh : hasS σ a b = true) {x : Nat} (hx : x ≤ 99999) : ∃ t : Nat, t < 2 ^ 31 ∧ turnS σ a b (nI x).toInt64 = lN t := by
  obtain ⟨u, d, u1, u2, d1, d2, e1, e2⟩ : ∃ u d : Nat, 1 ≤ u ∧ u ≤ 99 ∧ 1 ≤ d ∧ d ≤ 99 ∧ upS σ a b = nI u ∧ upS σ b a = nI d := by
    have hab := hasNe hh
    rw [hasS_eq ha hb hab, decide_eq_true_eq] at hh
    rcases hI _ (pr_lt a b ha hb hab) with ⟨z, _⟩ | ⟨u, d, u1, u2, d1, d2, e1, e2⟩
    · rw [z] at hh; exact absurd hh (by decide)
    · unfold upS
      rw [pr_comm b a]
      by_cases hlt : a < b
      · rw [if_pos hlt, if_neg (by omega)]; exact ⟨u, d, u1, u2, d1, d2, e1, e2⟩
      · rw [if_neg hlt, if_pos (by omega)]; exact ⟨d, u, d1, d2, u1, u2, e2, e1⟩
  unfold turnS turnF
  rw [e1, e2, nI_64 (by omega), nI_64 (by omega), nI_64 (by omega)]
  have hxu : x * u ≤ 99999 * 99 := Nat.mul_le_mul hx u2
  split
  · rw [lN_mulN, pk_lDiv (by omega) d1 (by omega)]
    exact ⟨_, Nat.lt_of_le_of_lt (Nat.div_le_self _ _) (by omega), rfl⟩
  · rw [show (2 : Int64) = lN 2 from rfl, lN_mulN, lN_mulN, lN_mulN, lN_add, pk_lDiv (by rw [Nat.mul_assoc]; omega) (by omega) (by omega)]
    exact ⟨_, Nat.lt_of_le_of_lt (Nat.div_le_self _ _) (by rw [Nat.mul_assoc]; omega), rfl⟩
set_option maxRecDepth 20000 in
theorem r_lengthSent {g : GE} {M : Mem} {sz : Nat} {σ τ : Nat → Int32} {hk : Bool} {n : Nat} {ps : Nat → Nat → Int32} {len : Nat} {tx : Nat → Int32} (hC : CW g M σ τ hk n ps len tx) (hI : I10 σ) {x y : Int32} (i q p : Nat) (hx : x = nI i) (hy : y = nI p) (hi : i < 8) (hq : q < 5) (hp : p < 5) (hσq : σ (28 + 4 * i) = nI q) (hh : hasS σ q p = true) : Run g m_X8_lengthSent [rf g 0, .int x, .int y] M sz 0 0 (Ret (some (.long (turnS σ q p (σ (28 + 4 * i + 1)).toInt64))) M) := by
  subst hx hy
  obtain ⟨p0, y1, y2⟩ := hC.2.1.1
  have hB := hC.2.1.2.2.2.2
  refine Run.of rfl (by decide) (Nat.le_of_ble_eq_true rfl) ?_
  show V g m_X8_lengthSent 0 _ [] _ _ _ _ _
  refine V_aload_n 0 dX8_lengthSent_0 rfl ?_
  refine G_X8_10 rfl hC.1 rfl dX8_lengthSent_1 ?_
  refine G_X8_139 rfl y1 rfl dX8_lengthSent_4 ?_
  refine G_X8_169 rfl (show _ = some (BO g 6 (σ 60) (σ 62) (σ 61)) from hB.1) rfl dX8_lengthSent_7 ?_
  refine V_iload_n 1 dX8_lengthSent_10 rfl ?_
  refine C_X8_77 rfl ⟨Nat.le_of_ble_eq_true rfl, Nat.le_of_ble_eq_true rfl⟩ (r_at hB.2.1 i rfl hi (by decide)) rfl (Nat.le_of_ble_eq_true rfl) dX8_lengthSent_11 rfl ?_
  rw [bR_at hi, show σ (28 + 4 * i + 0) = nI q from hσq]
  refine V_istore_n (lv2 := [(3, .int _), (0, .ref _), (1, .int _), (2, .int _)]) dX8_lengthSent_14 (Nat.le_of_ble_eq_true rfl) rfl ?_
  refine V_pc (pc2 := 15) rfl ?_
  refine V_aload_n 1 dX8_lengthSent_15 rfl ?_
  refine G_X8_10 rfl hC.1 rfl dX8_lengthSent_16 ?_
  refine G_X8_139 rfl y1 rfl dX8_lengthSent_19 ?_
  refine G_X8_166 rfl (show _ = some (BO g 6 (σ 60) (σ 62) (σ 61)) from hB.1) rfl dX8_lengthSent_22 ?_
  refine V_iload_n 2 dX8_lengthSent_25 rfl ?_
  refine C_X8_77 rfl ⟨Nat.le_of_ble_eq_true rfl, Nat.le_of_ble_eq_true rfl⟩ (r_at hB.2.2.1 i rfl hi (by decide)) rfl (Nat.le_of_ble_eq_true rfl) dX8_lengthSent_26 rfl ?_
  rw [bR_at hi]
  refine V_istore (lv2 := [(4, .int _), (3, .int _), (0, .ref _), (1, .int _), (2, .int _)]) dX8_lengthSent_29 (Nat.le_of_ble_eq_true rfl) rfl ?_
  refine V_iload 0 dX8_lengthSent_31 rfl ?_
  refine V_pc (pc2 := 33) rfl ?_
  refine V_i2l dX8_lengthSent_33 ?_
  refine V_aload_n 2 dX8_lengthSent_34 rfl ?_
  refine G_X8_10 rfl hC.1 rfl dX8_lengthSent_35 ?_
  refine G_X8_89 rfl y1 rfl dX8_lengthSent_38 ?_
  refine V_iload_n 1 dX8_lengthSent_41 rfl ?_
  refine V_iload_n 4 dX8_lengthSent_42 rfl ?_
  refine C_X8_236 (show _ = some (eO 4 [rf g (1 + 3 + 1), .int _]) from hC.2.1.2.2.2.1.choose_spec.choose_spec.1.1) rfl ⟨Nat.le_of_ble_eq_true rfl, Nat.le_of_ble_eq_true rfl⟩ (hC.2.1.2.2.2.1.up q p rfl rfl hq hp (hasNe hh)) rfl (Nat.le_of_ble_eq_true rfl) dX8_lengthSent_43 rfl ?_
  refine V_aload_n 2 dX8_lengthSent_46 rfl ?_
  refine V_pc (pc2 := 47) rfl ?_
  refine G_X8_10 rfl hC.1 rfl dX8_lengthSent_47 ?_
  refine G_X8_89 rfl y1 rfl dX8_lengthSent_50 ?_
  refine V_iload_n 4 dX8_lengthSent_53 rfl ?_
  refine V_iload_n 1 dX8_lengthSent_54 rfl ?_
  refine C_X8_236 (show _ = some (eO 4 [rf g (1 + 3 + 1), .int _]) from hC.2.1.2.2.2.1.choose_spec.choose_spec.1.1) rfl ⟨Nat.le_of_ble_eq_true rfl, Nat.le_of_ble_eq_true rfl⟩ (hC.2.1.2.2.2.1.up p q rfl rfl hp hq (Ne.symm (hasNe hh))) rfl (Nat.le_of_ble_eq_true rfl) dX8_lengthSent_55 rfl ?_
  refine V_aload_n 2 dX8_lengthSent_58 rfl ?_
  refine C_X8_295 hC.1 rfl ⟨Nat.le_of_ble_eq_true rfl, Nat.le_of_ble_eq_true rfl⟩ (r_rounding hC) rfl (Nat.le_of_ble_eq_true rfl) dX8_lengthSent_59 rfl ?_
  refine C_X8_298 rfl ⟨Nat.le_of_ble_eq_true rfl, Nat.le_of_ble_eq_true rfl⟩ (r_turn _ _ _ _ (hasPos2 hI hq hp hh)) rfl (Nat.le_of_ble_eq_true rfl) dX8_lengthSent_62 rfl ?_
  refine V_pc (pc2 := 65) rfl ?_
  refine V_lret (st := []) dX8_lengthSent_65 rfl ?_
  exact ⟨rfl, rfl⟩
set_option maxRecDepth 20000 in
theorem r_whyNoSend {g : GE} {M : Mem} {sz : Nat} {σ τ : Nat → Int32} {hk : Bool} {n : Nat} {ps : Nat → Nat → Int32} {len : Nat} {tx : Nat → Int32} (hC : CW g M σ τ hk n ps len tx) (hI : I10 σ) {x y : Int32} (i q p : Nat) (hx : x = nI i) (hy : y = nI p) (hi : i < 8) (hq : q < 5) (hp : p < 5) (hσq : σ (28 + 4 * i) = nI q) : Run g m_X8_whyNoSend [rf g 0, .int x, .int y] M sz 0 0 (Ret (some (.int (barS σ q p (σ (28 + 4 * i + 1)).toInt64))) M) := by
  subst hx hy
  obtain ⟨p0, y1, y2⟩ := hC.2.1.1
  have hB := hC.2.1.2.2.2.2
  have E : nI q = nI p ↔ q = p := nI_eq (by omega) (by omega)
  refine Run.of rfl (by decide) (Nat.le_of_ble_eq_true rfl) ?_
  show V g m_X8_whyNoSend 0 _ [] _ _ _ _ _
  refine V_aload_n 0 dX8_whyNoSend_0 rfl ?_
  refine G_X8_10 rfl hC.1 rfl dX8_whyNoSend_1 ?_
  refine G_X8_139 rfl y1 rfl dX8_whyNoSend_4 ?_
  refine G_X8_169 rfl (show _ = some (BO g 6 (σ 60) (σ 62) (σ 61)) from hB.1) rfl dX8_whyNoSend_7 ?_
  refine V_iload_n 1 dX8_whyNoSend_10 rfl ?_
  refine C_X8_77 rfl ⟨Nat.le_of_ble_eq_true rfl, Nat.le_of_ble_eq_true rfl⟩ (r_at hB.2.1 i rfl hi (by decide)) rfl (Nat.le_of_ble_eq_true rfl) dX8_whyNoSend_11 rfl ?_
  rw [bR_at hi, show σ (28 + 4 * i + 0) = nI q from hσq]
  refine V_istore_n (lv2 := [(3, .int _), (0, .ref _), (1, .int _), (2, .int _)]) dX8_whyNoSend_14 (Nat.le_of_ble_eq_true rfl) rfl ?_
  refine V_pc (pc2 := 15) rfl ?_
  refine V_iload_n 0 dX8_whyNoSend_15 rfl ?_
  refine V_iload_n 3 dX8_whyNoSend_16 rfl ?_
  refine V_icmp_ne (tgt := 22) dX8_whyNoSend_17 (by decide) (fun c17 => ?_) (fun c17 => ?_)
  · refine V_aload_n 1 dX8_whyNoSend_22 rfl ?_
    refine G_X8_10 rfl hC.1 rfl dX8_whyNoSend_23 ?_
    refine G_X8_89 rfl y1 rfl dX8_whyNoSend_26 ?_
    refine V_iload_n 0 dX8_whyNoSend_29 rfl ?_
    refine V_iload_n 3 dX8_whyNoSend_30 rfl ?_
    refine C_X8_118 (show _ = some (eO 4 [rf g (1 + 3 + 1), .int _]) from hC.2.1.2.2.2.1.choose_spec.choose_spec.1.1) rfl ⟨Nat.le_of_ble_eq_true rfl, Nat.le_of_ble_eq_true rfl⟩ (hC.2.1.2.2.2.1.has hI q p rfl rfl hq hp) rfl (Nat.le_of_ble_eq_true rfl) dX8_whyNoSend_31 rfl ?_
    refine V_if_ne (tgt := 39) dX8_whyNoSend_34 (by decide) (fun c34 => ?_) (fun c34 => ?_)
    · refine V_aload_n 1 dX8_whyNoSend_39 rfl ?_
      refine V_iload_n 2 dX8_whyNoSend_40 rfl ?_
      refine V_iload_n 3 dX8_whyNoSend_41 rfl ?_
      refine C_X8_399 hC.1 rfl ⟨Nat.le_of_ble_eq_true rfl, Nat.le_of_ble_eq_true rfl⟩ (r_lengthSent hC hI i q p rfl rfl hi hq hp hσq (bI_1 c34)) rfl (Nat.le_of_ble_eq_true rfl) dX8_whyNoSend_42 rfl ?_
      refine V_ldc2 z_X8_403 dX8_whyNoSend_45 ?_
      refine V_lcmp dX8_whyNoSend_48 ?_
      refine V_if_le (tgt := 56) dX8_whyNoSend_49 (by decide) (fun c49 => ?_) (fun c49 => ?_)
      · refine V_iconst (v := 0) dX8_whyNoSend_56 rfl ?_
        refine V_iret (st := []) dX8_whyNoSend_57 rfl ?_
        refine ⟨?_, rfl⟩; rw [barS_0 (fun h => c17 (E.mpr h)) (bI_1 c34) (fun h => absurd (lgc_gt.mpr h) (Int32.not_lt.mpr c49))]
      · refine V_iconst (v := 3) dX8_whyNoSend_52 rfl ?_
        refine V_goto (tgt := 57) dX8_whyNoSend_53 (by decide) ?_
        refine V_iret (st := []) dX8_whyNoSend_57 rfl ?_
        refine ⟨?_, rfl⟩; rw [barS_3 (fun h => c17 (E.mpr h)) (bI_1 c34) (lgc_gt.mp (Int32.not_le.mp c49))]
    · refine V_iconst (v := 2) dX8_whyNoSend_37 rfl ?_
      refine V_iret (st := []) dX8_whyNoSend_38 rfl ?_
      refine ⟨?_, rfl⟩; rw [barS_2 (fun h => c17 (E.mpr h)) (bI_0 c34)]
  · refine V_iconst (v := 1) dX8_whyNoSend_20 rfl ?_
    refine V_iret (st := []) dX8_whyNoSend_21 rfl ?_
    refine ⟨?_, rfl⟩; rw [barS_1 (E.mp c17)]
theorem sendS_o {σ : Nat → Int32} {i q p k : Nat} (hi : i < 8) (hk : k < 28 ∨ 62 ≤ k ∨ k = 60) : sendS σ i q p k = σ k := by
  unfold sendS; rw [upd_ne (by omega), upd_ne (by omega), upd_ne (by omega), upd_ne (by omega), upd_ne (by omega)]
set_option maxRecDepth 20000 in
theorem r_moveBolt {g : GE} {M : Mem} {sz : Nat} {σ τ : Nat → Int32} {hk : Bool} {n : Nat} {ps : Nat → Nat → Int32} {len : Nat} {tx : Nat → Int32} (hC : CW g M σ τ hk n ps len tx) (hI : I10 σ) {x y : Int32} (i q p : Nat) (hx : x = nI i) (hy : y = nI p) (hi : i < 8) (hq : q < 5) (hp : p < 5) (hσq : σ (28 + 4 * i) = nI q) (hh : hasS σ q p = true) : Run g m_X8_moveBolt [rf g 0, .int x, .int y] M sz 0 0 (RetP none (fun M1 => CW g M1 (sendS σ i q p) τ hk n ps len tx ∧ FR M M1 1 10)) := by
  subst hx hy
  obtain ⟨p0, y1, y2⟩ := hC.2.1.1
  have hB := hC.2.1.2.2.2.2
  refine Run.of rfl (by decide) (Nat.le_of_ble_eq_true rfl) ?_
  show V g m_X8_moveBolt 0 _ [] _ _ _ _ _
  refine V_aload_n 0 dX8_moveBolt_0 rfl ?_
  refine G_X8_10 rfl hC.1 rfl dX8_moveBolt_1 ?_
  refine G_X8_139 rfl y1 rfl dX8_moveBolt_4 ?_
  refine G_X8_169 rfl (show _ = some (BO g 6 (σ 60) (σ 62) (σ 61)) from hB.1) rfl dX8_moveBolt_7 ?_
  refine V_iload_n 1 dX8_moveBolt_10 rfl ?_
  refine C_X8_77 rfl ⟨Nat.le_of_ble_eq_true rfl, Nat.le_of_ble_eq_true rfl⟩ (r_at hB.2.1 i rfl hi (by decide)) rfl (Nat.le_of_ble_eq_true rfl) dX8_moveBolt_11 rfl ?_
  rw [bR_at hi, show σ (28 + 4 * i + 0) = nI q from hσq]
  refine V_istore_n (lv2 := [(3, .int _), (0, .ref _), (1, .int _), (2, .int _)]) dX8_moveBolt_14 (Nat.le_of_ble_eq_true rfl) rfl ?_
  refine V_pc (pc2 := 15) rfl ?_
  refine V_aload_n 1 dX8_moveBolt_15 rfl ?_
  refine G_X8_10 rfl hC.1 rfl dX8_moveBolt_16 ?_
  refine G_X8_139 rfl y1 rfl dX8_moveBolt_19 ?_
  refine G_X8_166 rfl (show _ = some (BO g 6 (σ 60) (σ 62) (σ 61)) from hB.1) rfl dX8_moveBolt_22 ?_
  refine V_iload_n 2 dX8_moveBolt_25 rfl ?_
  refine C_X8_77 rfl ⟨Nat.le_of_ble_eq_true rfl, Nat.le_of_ble_eq_true rfl⟩ (r_at hB.2.2.1 i rfl hi (by decide)) rfl (Nat.le_of_ble_eq_true rfl) dX8_moveBolt_26 rfl ?_
  rw [bR_at hi]
  refine V_istore (lv2 := [(4, .int _), (3, .int _), (0, .ref _), (1, .int _), (2, .int _)]) dX8_moveBolt_29 (Nat.le_of_ble_eq_true rfl) rfl ?_
  refine V_aload_n 2 dX8_moveBolt_31 rfl ?_
  refine V_pc (pc2 := 32) rfl ?_
  refine V_iload_n 3 dX8_moveBolt_32 rfl ?_
  refine V_iload_n 4 dX8_moveBolt_33 rfl ?_
  refine C_X8_399 hC.1 rfl ⟨Nat.le_of_ble_eq_true rfl, Nat.le_of_ble_eq_true rfl⟩ (r_lengthSent hC hI i q p rfl rfl hi hq hp hσq hh) rfl (Nat.le_of_ble_eq_true rfl) dX8_moveBolt_34 rfl ?_
  refine V_lstore (lv2 := [(5, .long _), (4, .int _), (3, .int _), (0, .ref _), (1, .int _), (2, .int _)]) dX8_moveBolt_37 (Nat.le_of_ble_eq_true rfl) rfl ?_
  refine V_iload 1 dX8_moveBolt_39 rfl ?_
  refine V_i2l dX8_moveBolt_41 ?_
  refine V_lload 0 dX8_moveBolt_42 rfl ?_
  refine V_aload_n 3 dX8_moveBolt_44 rfl ?_
  refine V_pc (pc2 := 45) rfl ?_
  refine G_X8_10 rfl hC.1 rfl dX8_moveBolt_45 ?_
  refine G_X8_89 rfl y1 rfl dX8_moveBolt_48 ?_
  refine V_iload_n 2 dX8_moveBolt_51 rfl ?_
  refine V_iload_n 5 dX8_moveBolt_52 rfl ?_
  refine C_X8_236 (show _ = some (eO 4 [rf g (1 + 3 + 1), .int _]) from hC.2.1.2.2.2.1.choose_spec.choose_spec.1.1) rfl ⟨Nat.le_of_ble_eq_true rfl, Nat.le_of_ble_eq_true rfl⟩ (hC.2.1.2.2.2.1.up q p rfl rfl hq hp (hasNe hh)) rfl (Nat.le_of_ble_eq_true rfl) dX8_moveBolt_53 rfl ?_
  refine V_aload_n 3 dX8_moveBolt_56 rfl ?_
  refine G_X8_10 rfl hC.1 rfl dX8_moveBolt_57 ?_
  refine G_X8_89 rfl y1 rfl dX8_moveBolt_60 ?_
  refine V_pc (pc2 := 63) rfl ?_
  refine V_iload_n 5 dX8_moveBolt_63 rfl ?_
  refine V_iload_n 2 dX8_moveBolt_64 rfl ?_
  refine C_X8_236 (show _ = some (eO 4 [rf g (1 + 3 + 1), .int _]) from hC.2.1.2.2.2.1.choose_spec.choose_spec.1.1) rfl ⟨Nat.le_of_ble_eq_true rfl, Nat.le_of_ble_eq_true rfl⟩ (hC.2.1.2.2.2.1.up p q rfl rfl hp hq (Ne.symm (hasNe hh))) rfl (Nat.le_of_ble_eq_true rfl) dX8_moveBolt_65 rfl ?_
  refine C_X8_405 rfl ⟨Nat.le_of_ble_eq_true rfl, Nat.le_of_ble_eq_true rfl⟩ (r_gainOfTurn _ _ _ _ (hasPos2 hI hq hp hh)) rfl (Nat.le_of_ble_eq_true rfl) dX8_moveBolt_68 rfl ?_
  refine V_lstore (lv2 := [(7, .long _), (5, .long _), (4, .int _), (3, .int _), (0, .ref _), (1, .int _), (2, .int _)]) dX8_moveBolt_71 (Nat.le_of_ble_eq_true rfl) rfl ?_
  refine V_aload_n 4 dX8_moveBolt_73 rfl ?_
  refine G_X8_10 rfl hC.1 rfl dX8_moveBolt_74 ?_
  refine G_X8_139 rfl y1 rfl dX8_moveBolt_77 ?_
  refine V_pc (pc2 := 80) rfl ?_
  refine V_iload_n 5 dX8_moveBolt_80 rfl ?_
  refine V_iload_n 6 dX8_moveBolt_81 rfl ?_
  refine V_lload 1 dX8_moveBolt_82 rfl ?_
  refine V_l2i dX8_moveBolt_84 ?_
  refine V_lload 0 dX8_moveBolt_85 rfl ?_
  refine V_l2i dX8_moveBolt_87 ?_
  refine Cp_X8_409 (show _ = some (BO g 6 (σ 60) (σ 62) (σ 61)) from hB.1) rfl ⟨Nat.le_of_ble_eq_true rfl, Nat.le_of_ble_eq_true rfl⟩ (r_move hB i rfl hi _ _ _) rfl (Nat.le_of_ble_eq_true rfl) dX8_moveBolt_88 rfl (fun _ q8 => ?_)
  refine V_ret (st := []) dX8_moveBolt_91 rfl ?_
  refine ⟨rfl, hC.now (hC.2.1.bol (σ2 := sendS σ i q p) q8.1 q8.2 (fun k hk => ?_)) (q8.2.wide (by omega)), q8.2.wide (by omega)⟩
  exact sendS_o hi (by omega)
set_option maxRecDepth 20000 in
theorem x_send_1a {g : GE} {M : Mem} {sz : Nat} {σ τ : Nat → Int32} {hk : Bool} {n : Nat} {ps : Nat → Nat → Int32} {len : Nat} {tx : Nat → Int32} (hC : CW g M σ τ hk n ps len tx) {a b : Int32} (ha : isB σ a = false) : Run g m_X8_send [rf g 0, .int a, .int b] M sz 1 6 (Thr (exN 0) M) := by
  refine Run.of rfl (by decide) (Nat.le_of_ble_eq_true rfl) ?_
  show V g m_X8_send 0 _ [] _ _ _ _ _
  refine V_aload_n 0 dX8_send_0 rfl ?_
  refine V_iload_n 1 dX8_send_1 rfl ?_
  refine Ct_X8_154 hC.1 rfl rfl ⟨Nat.le_of_ble_eq_true rfl, Nat.le_of_ble_eq_true rfl⟩ (r_checkBolt_bad hC ha) rfl (Nat.le_of_ble_eq_true rfl) dX8_send_2 rfl ?_
  exact ⟨rfl, rfl⟩
set_option maxRecDepth 20000 in
theorem x_send_1b {g : GE} {M : Mem} {sz : Nat} {σ τ : Nat → Int32} {hk : Bool} {n : Nat} {ps : Nat → Nat → Int32} {len : Nat} {tx : Nat → Int32} (hC : CW g M σ τ hk n ps len tx) {a b : Int32} (ha : isB σ a = true) (hb : isP b = false) : Run g m_X8_send [rf g 0, .int a, .int b] M sz 1 6 (Thr (exN 0) M) := by
  refine Run.of rfl (by decide) (Nat.le_of_ble_eq_true rfl) ?_
  show V g m_X8_send 0 _ [] _ _ _ _ _
  refine V_aload_n 0 dX8_send_0 rfl ?_
  refine V_iload_n 1 dX8_send_1 rfl ?_
  refine C_X8_154 hC.1 rfl ⟨Nat.le_of_ble_eq_true rfl, Nat.le_of_ble_eq_true rfl⟩ (r_checkBolt_ok hC ha) rfl (Nat.le_of_ble_eq_true rfl) dX8_send_2 rfl ?_
  refine V_iload_n 2 dX8_send_5 rfl ?_
  refine Ct_X8_62 rfl rfl ⟨Nat.le_of_ble_eq_true rfl, Nat.le_of_ble_eq_true rfl⟩ (r_checkParish_bad hb) rfl (Nat.le_of_ble_eq_true rfl) dX8_send_6 rfl ?_
  exact ⟨rfl, rfl⟩
set_option maxRecDepth 20000 in
theorem x_send_2 {g : GE} {M : Mem} {sz : Nat} {σ τ : Nat → Int32} {hk : Bool} {n : Nat} {ps : Nat → Nat → Int32} {len : Nat} {tx : Nat → Int32} (hC : CW g M σ τ hk n ps len tx) (hI : I10 σ) {x y : Int32} (i q p : Nat) (hx : x = nI i) (hy : y = nI p) (hi : i < 8) (hq : q < 5) (hp : p < 5) (hσq : σ (28 + 4 * i) = nI q) (hbo : isB σ x = true) (hbar : ¬ barS σ q p (σ (28 + 4 * i + 1)).toInt64 = 0) : Run g m_X8_send [rf g 0, .int x, .int y] M sz 1 6 (Thr (exN 2) M) := by
  subst hx hy
  refine Run.of rfl (by decide) (Nat.le_of_ble_eq_true rfl) ?_
  show V g m_X8_send 0 _ [] _ _ _ _ _
  refine V_aload_n 0 dX8_send_0 rfl ?_
  refine V_iload_n 1 dX8_send_1 rfl ?_
  refine C_X8_154 hC.1 rfl ⟨Nat.le_of_ble_eq_true rfl, Nat.le_of_ble_eq_true rfl⟩ (r_checkBolt_ok hC hbo) rfl (Nat.le_of_ble_eq_true rfl) dX8_send_2 rfl ?_
  refine V_iload_n 2 dX8_send_5 rfl ?_
  refine C_X8_62 rfl ⟨Nat.le_of_ble_eq_true rfl, Nat.le_of_ble_eq_true rfl⟩ (r_checkParish_ok (isP_nI hp)) rfl (Nat.le_of_ble_eq_true rfl) dX8_send_6 rfl ?_
  refine V_aload_n 0 dX8_send_9 rfl ?_
  refine V_iload_n 1 dX8_send_10 rfl ?_
  refine V_pc (pc2 := 11) rfl ?_
  refine V_iload_n 2 dX8_send_11 rfl ?_
  refine C_X8_157 hC.1 rfl ⟨Nat.le_of_ble_eq_true rfl, Nat.le_of_ble_eq_true rfl⟩ (r_whyNoSend hC hI i q p rfl rfl hi hq hp hσq) rfl (Nat.le_of_ble_eq_true rfl) dX8_send_12 rfl ?_
  refine V_if_eq (tgt := 28) dX8_send_15 (by decide) (fun c15 => absurd c15 hbar) (fun c15 => ?_)
  refine V_throwS 2 4 (by decide) (by decide) rfl rfl rfl rfl rfl (Nat.le_of_ble_eq_true rfl) (Nat.le_of_ble_eq_true rfl) dX8_send_18 dX8_send_21 dX8_send_22 dX8_send_24 dX8_send_27 ?_
  exact ⟨rfl, rfl⟩
theorem sendS_1 {σ : Nat → Int32} {i q p : Nat} (hi : i < 8) : sendS σ i q p (28 + 4 * i + 1) = (turnS σ q p (σ (28 + 4 * i + 1)).toInt64).toInt32 := by
  unfold sendS; rw [upd_ne (show 28 + 4 * i + 1 ≠ 61 by omega), upd_ne (show 28 + 4 * i + 1 ≠ 28 + 4 * i + 3 by omega), upd_ne (show 28 + 4 * i + 1 ≠ 28 + 4 * i + 2 by omega), upd_at]
set_option maxRecDepth 20000 in
theorem x_send_ok {g : GE} {M : Mem} {sz : Nat} {σ τ : Nat → Int32} {hk : Bool} {n : Nat} {ps : Nat → Nat → Int32} {len : Nat} {tx : Nat → Int32} (hC : CW g M σ τ hk n ps len tx) (hn : n ≤ 6) (hI : I10 σ) {x y : Int32} (i q p : Nat) (hx : x = nI i) (hy : y = nI p) (hi : i < 8) (hq : q < 5) (hp : p < 5) (hσq : σ (28 + 4 * i) = nI q) (hbo : isB σ x = true) (hbar : barS σ q p (σ (28 + 4 * i + 1)).toInt64 = 0) : Run g m_X8_send [rf g 0, .int x, .int y] M sz 0 0 (RetP (some (.int (turnS σ q p (σ (28 + 4 * i + 1)).toInt64).toInt32)) (fun M2 => CW g M2 (sendS σ i q p) (τ) (hk) (pshN n) (pshP n ps σ) (len) (tx) ∧ FR M M2 0 96)) := by
  subst hx hy
  obtain ⟨p0, y1, y2⟩ := hC.2.1.1
  refine Run.of rfl (by decide) (Nat.le_of_ble_eq_true rfl) ?_
  show V g m_X8_send 0 _ [] _ _ _ _ _
  refine V_aload_n 0 dX8_send_0 rfl ?_
  refine V_iload_n 1 dX8_send_1 rfl ?_
  refine C_X8_154 hC.1 rfl ⟨Nat.le_of_ble_eq_true rfl, Nat.le_of_ble_eq_true rfl⟩ (r_checkBolt_ok hC hbo) rfl (Nat.le_of_ble_eq_true rfl) dX8_send_2 rfl ?_
  refine V_iload_n 2 dX8_send_5 rfl ?_
  refine C_X8_62 rfl ⟨Nat.le_of_ble_eq_true rfl, Nat.le_of_ble_eq_true rfl⟩ (r_checkParish_ok (isP_nI hp)) rfl (Nat.le_of_ble_eq_true rfl) dX8_send_6 rfl ?_
  refine V_aload_n 0 dX8_send_9 rfl ?_
  refine V_iload_n 1 dX8_send_10 rfl ?_
  refine V_pc (pc2 := 11) rfl ?_
  refine V_iload_n 2 dX8_send_11 rfl ?_
  refine C_X8_157 hC.1 rfl ⟨Nat.le_of_ble_eq_true rfl, Nat.le_of_ble_eq_true rfl⟩ (r_whyNoSend hC hI i q p rfl rfl hi hq hp hσq) rfl (Nat.le_of_ble_eq_true rfl) dX8_send_12 rfl ?_
  refine V_if_eq (tgt := 28) dX8_send_15 (by decide) (fun c15 => ?_) (fun c15 => absurd hbar c15)
  refine V_aload_n 0 dX8_send_28 rfl ?_
  refine G_X8_22 rfl hC.1 rfl dX8_send_29 ?_
  refine V_aload_n 0 dX8_send_32 rfl ?_
  refine G_X8_10 rfl hC.1 rfl dX8_send_33 ?_
  refine Cp_X8_70 hC.2.2.2.1.choose_spec.1 rfl ⟨Nat.le_of_ble_eq_true rfl, Nat.le_of_ble_eq_true rfl⟩ (r_push hC.2.2.2.1 hn hC.2.1 (by omega)) rfl (Nat.le_of_ble_eq_true rfl) dX8_send_36 rfl (fun _ q9 => ?_)
  have hC2 := hC.psh q9.1 q9.2
  have hF2 := q9.2
  clear q9
  obtain ⟨p9, y3, y4⟩ := hC2.2.1.1
  refine V_pc (pc2 := 39) rfl ?_
  refine V_aload_n 0 dX8_send_39 rfl ?_
  refine V_iload_n 1 dX8_send_40 rfl ?_
  refine V_iload_n 2 dX8_send_41 rfl ?_
  refine Cp_X8_163 hC2.1 rfl ⟨Nat.le_of_ble_eq_true rfl, Nat.le_of_ble_eq_true rfl⟩ (r_moveBolt hC2 hI i q p rfl rfl hi hq hp hσq (barS_0' hbar)) rfl (Nat.le_of_ble_eq_true rfl) dX8_send_42 rfl (fun _ q8 => ?_)
  have hC3 := q8.1
  have hF3 := q8.2
  clear q8
  obtain ⟨z9, z3, z4⟩ := hC3.2.1.1
  refine V_aload_n 0 dX8_send_45 rfl ?_
  refine G_X8_10 rfl hC3.1 rfl dX8_send_46 ?_
  refine G_X8_139 rfl z3 rfl dX8_send_49 ?_
  refine G_X8_166 rfl (show _ = some (BO g 6 (sendS σ i q p 60) (sendS σ i q p 62) (sendS σ i q p 61)) from hC3.2.1.2.2.2.2.1) rfl dX8_send_52 ?_
  refine V_pc (pc2 := 55) rfl ?_
  refine V_iload_n 1 dX8_send_55 rfl ?_
  refine C_X8_77 rfl ⟨Nat.le_of_ble_eq_true rfl, Nat.le_of_ble_eq_true rfl⟩ (r_at hC3.2.1.2.2.2.2.2.2.1 i rfl hi (by decide)) rfl (Nat.le_of_ble_eq_true rfl) dX8_send_56 rfl ?_
  rw [bR_at hi, sendS_1 hi]
  refine V_iret (st := []) dX8_send_59 rfl ?_
  exact ⟨rfl, hC3, FR.trans (b := 0) (n := 96) (FR.wide hF2 (b2 := 0) (n2 := 96) (by omega)) hF3 (by omega)⟩
theorem IS.send {σ : Nat → Int32} (h : IS σ) {i q p m : Nat} (hm : σ 60 = nI m) (hi : i < m) (hm8 : m ≤ 8) (hq : q < 5) (hp : p < 5) (hσq : σ (28 + 4 * i) = nI q) (hbar : barS σ q p (σ (28 + 4 * i + 1)).toInt64 = 0) : IS (sendS σ i q p) := by
  obtain ⟨h1, ⟨n, hn, hn2, h2⟩, h3, h4, h5, h6, h7⟩ := h
  obtain rfl : n = m := (nI_eq (by omega) (by omega)).mp (hn2.symm.trans hm)
  have hh := barS_0' hbar
  have e : ∀ k, k < 28 ∨ 62 ≤ k ∨ k = 60 → sendS σ i q p k = σ k := fun k hk => sendS_o (by omega) hk
  refine ⟨fun k hk => by rw [e _ (by omega), e _ (by omega)]; exact h1 k hk, ⟨n, hn, by rw [e _ (by omega)]; exact hn2, fun j hj => ?_⟩, fun j hj => by rw [e _ (by omega)]; exact h3 j hj, by rw [e _ (by omega)]; exact h4, by rw [e _ (by omega)]; exact h5, by rw [e _ (by omega)]; exact h6, by rw [e _ (by omega), e _ (by omega)]; exact h7⟩
  by_cases hji : j = i
  · subst hji
    rw [sendS_1 (by omega)]
    refine ⟨⟨p, hp, ?_⟩, ?_⟩
    · unfold sendS
      rw [upd_ne (by omega), upd_ne (by omega), upd_ne (by omega), upd_ne (by omega), upd_at]
    · obtain ⟨l, l1, l2⟩ := (h2 j hj).2
      unfold barS at hbar
      split at hbar
      · exact absurd hbar (by decide)
      · split at hbar
        · exact absurd hbar (by decide)
        · split at hbar
          · exact absurd hbar (by decide)
          · rename_i h9
            rw [l2] at h9 ⊢
            obtain ⟨t, t1, t2⟩ := turnS_nat h1 hq hp hh l1
            rw [t2] at h9 ⊢
            refine ⟨t, ?_, lN_32 t1⟩
            have := mt (pk_lLT (a := 99999) (b := t) (by decide) (by omega)).mpr h9
            omega
  · unfold sendS
    rw [upd_ne (by omega), upd_ne (by omega), upd_ne (by omega), upd_ne (by omega), upd_ne (by omega), upd_ne (by omega), upd_ne (by omega), upd_ne (by omega), upd_ne (by omega), upd_ne (by omega)]
    exact h2 j hj
