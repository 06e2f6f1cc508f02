/-! lengths and bolts: the reference; greatest divisors -/
def turnS (σ : Nat → Int32) (a b : Nat) (x : Int64) : Int64 := turnF x (upS σ a b) (upS σ b a) (σ 26)
def gainT (σ : Nat → Int32) (a b : Nat) (x : Int64) : Int64 := gainF x (turnS σ a b x) (upS σ a b) (upS σ b a)
theorem hasNe {σ : Nat → Int32} {a b : Nat} (h : hasS σ a b = true) : a ≠ b := by
  unfold hasS hasL at h
  rw [Bool.and_eq_true, bne_iff_ne] at h
  exact h.1
theorem hasPos {σ : Nat → Int32} (hI : I10 σ) {a b : Nat} (ha : a < 5) (hb : b < 5) (h : hasS σ a b = true) : 0 < upS σ a b := by
  have := hI.pos ha hb (hasNe h)
  rw [h] at this
  exact of_decide_eq_true this.symm
theorem hasPos2 {σ : Nat → Int32} (hI : I10 σ) {a b : Nat} (ha : a < 5) (hb : b < 5) (h : hasS σ a b = true) : 0 < upS σ b a := hasPos hI hb ha (by rw [hasS_comm]; exact h)
theorem gcd_step (x y : Nat) : Nat.gcd x y = Nat.gcd y (x % y) := by rw [Nat.gcd_comm x y, Nat.gcd_rec y x, Nat.gcd_comm]
theorem lN_rem {a b : Nat} (ha : a < 2 ^ 63) (h0 : 0 < b) (hb : b < 2 ^ 63) : lN a - lN a / lN b * lN b = lN (a % b) := pk_lRem ha h0 hb
theorem lN_0 : (0 : Int64) = lN 0 := rfl
theorem lN_eq0 {b : Nat} (hb : b < 2 ^ 63) : lN b = 0 ↔ b = 0 := by rw [lN_0]; exact pk_lEQ hb (by decide)
set_option maxRecDepth 20000 in
theorem r_commonDivisor {g : GE} {M : Mem} {sz : Nat} (x y : Nat) (hx : x < 2 ^ 63) (hy : y < 2 ^ 60) : Run g m_X8_commonDivisor [.long (lN x), .long (lN y)] M sz 0 0 (Ret (some (.long (lN (Nat.gcd x y)))) M) := by
  have E : ∀ a i : Nat, i < 1000 → V g m_X8_commonDivisor 9 [(8, .int (nI i)), (6, .long (lN 0)), (4, .long (lN a)), (0, .long (lN x)), (2, .long (lN y))] [] M sz 0 0 (Ret (some (.long (lN (Nat.gcd a 0)))) M) := by
    intro a i hi
    rw [Nat.gcd_zero_right]
    refine V_iload 0 dX8_commonDivisor_9 rfl ?_
    refine V_sipush (v := 1000) dX8_commonDivisor_11 (by decide) ?_
    refine V_icmp_ge (tgt := 45) dX8_commonDivisor_14 (by decide) (fun c14 => absurd c14 (nI_ge (b := 1000) hi (by decide))) (fun c14 => ?_)
    refine V_lload 1 dX8_commonDivisor_17 rfl ?_
    refine V_lconst (v := 0) dX8_commonDivisor_19 rfl ?_
    refine V_lcmp dX8_commonDivisor_20 ?_
    refine V_if_le (tgt := 45) dX8_commonDivisor_21 (by decide) (fun c21 => ?_) (fun c21 => absurd (lgc_le.mpr (Int64.le_refl _)) c21)
    refine V_pc (pc2 := 45) rfl ?_
    refine V_lload 2 dX8_commonDivisor_45 rfl ?_
    refine V_lret (st := []) dX8_commonDivisor_47 rfl ?_
    exact ⟨rfl, rfl⟩
  have S : ∀ a b i : Nat, i < 1000 → 0 < b → a < 2 ^ 63 → b < 2 ^ 63 → V g m_X8_commonDivisor 9 [(8, .int (nI (i + 1))), (6, .long (lN (a % b))), (4, .long (lN b)), (0, .long (lN x)), (2, .long (lN y))] [] M sz 0 0 (Ret (some (.long (lN (Nat.gcd b (a % b))))) M) → V g m_X8_commonDivisor 9 [(8, .int (nI i)), (6, .long (lN b)), (4, .long (lN a)), (0, .long (lN x)), (2, .long (lN y))] [] M sz 0 0 (Ret (some (.long (lN (Nat.gcd a b)))) M) := by
    intro a b i hi hb0 ha hb hk
    rw [gcd_step]
    refine V_iload 0 dX8_commonDivisor_9 rfl ?_
    refine V_sipush (v := 1000) dX8_commonDivisor_11 (by decide) ?_
    refine V_icmp_ge (tgt := 45) dX8_commonDivisor_14 (by decide) (fun c14 => absurd c14 (nI_ge (b := 1000) hi (by decide))) (fun c14 => ?_)
    refine V_lload 1 dX8_commonDivisor_17 rfl ?_
    refine V_lconst (v := 0) dX8_commonDivisor_19 rfl ?_
    refine V_lcmp dX8_commonDivisor_20 ?_
    refine V_if_le (tgt := 45) dX8_commonDivisor_21 (by decide) (fun c21 => absurd c21 (fun h => absurd ((pk_lLE hb (by decide)).mp (show lN b ≤ lN 0 from lgc_le.mp h)) (by omega))) (fun c21 => ?_)
    refine V_pc (pc2 := 24) rfl ?_
    refine V_lload 2 dX8_commonDivisor_24 rfl ?_
    refine V_lload 1 dX8_commonDivisor_26 rfl ?_
    refine V_lrem dX8_commonDivisor_28 (fun e => absurd hb0 (by rw [(lN_eq0 hb).mp e]; exact Nat.lt_irrefl 0)) ?_
    refine V_lstore (lv2 := [(9, .long _), (8, .int _), (6, .long _), (4, .long _), (0, .long _), (2, .long _)]) dX8_commonDivisor_29 (Nat.le_of_ble_eq_true rfl) rfl ?_
    refine V_lload 2 dX8_commonDivisor_31 rfl ?_
    refine V_lstore (lv2 := [(4, .long _), (9, .long _), (8, .int _), (6, .long _), (0, .long _), (2, .long _)]) dX8_commonDivisor_33 (Nat.le_of_ble_eq_true rfl) rfl ?_
    refine V_lload 1 dX8_commonDivisor_35 rfl ?_
    refine V_lstore (lv2 := [(6, .long _), (4, .long _), (9, .long _), (8, .int _), (0, .long _), (2, .long _)]) dX8_commonDivisor_37 (Nat.le_of_ble_eq_true rfl) rfl ?_
    refine V_pc (pc2 := 39) rfl ?_
    refine V_iinc (v := _ + 1) (lv2 := [(8, .int _), (6, .long _), (4, .long _), (9, .long _), (0, .long _), (2, .long _)]) 3 dX8_commonDivisor_39 rfl rfl (Nat.le_of_ble_eq_true rfl) rfl ?_
    refine V_goto (tgt := 9) dX8_commonDivisor_42 (by decide) ?_
    refine V_lv (lv2 := [(8, .int _), (6, .long _), (4, .long _), (0, .long _), (2, .long _)]) [0, 1, 2, 4, 5] rfl ?_
    rw [lN_rem ha hb0 hb, nI_1]
    exact hk
  have L : ∀ n a b i : Nat, b < 2 ^ n → i + (2 * n + 1) < 1000 → a < 2 ^ 63 → b < 2 ^ 63 → V g m_X8_commonDivisor 9 [(8, .int (nI i)), (6, .long (lN b)), (4, .long (lN a)), (0, .long (lN x)), (2, .long (lN y))] [] M sz 0 0 (Ret (some (.long (lN (Nat.gcd a b)))) M) := by
    intro n
    induction n with
    | zero =>
      intro a b i hb hi ha hb2
      obtain rfl : b = 0 := by omega
      exact E a i (by omega)
    | succ n ih =>
      intro a b i hbn hi ha hb2
      rcases Nat.eq_zero_or_pos b with rfl | hb0
      · exact E a i (by omega)
      · refine S a b i (by omega) hb0 ha hb2 ?_
        have h1 := Nat.mod_lt a hb0
        rw [Nat.pow_succ] at hbn
        by_cases hr : a % b < 2 ^ n
        · exact ih b (a % b) (i + 1) hr (by omega) hb2 (by omega)
        · have hr0 : 0 < a % b := by have := Nat.pow_pos (n := n) (show 0 < 2 by decide); omega
          refine S b (a % b) (i + 1) (by omega) hr0 hb2 (by omega) ?_
          have h3 : b % (a % b) = b - a % b := by
            rw [Nat.mod_eq_sub_mod (by omega), Nat.mod_eq_of_lt (by omega)]
          rw [h3]
          exact ih (a % b) (b - a % b) (i + 1 + 1) (by omega) (by omega) (by omega) (by omega)
  refine Run.of rfl (by decide) (Nat.le_of_ble_eq_true rfl) ?_
  show V g m_X8_commonDivisor 0 _ [] _ _ _ _ _
  refine V_lload_n 0 dX8_commonDivisor_0 rfl ?_
  refine V_lstore (lv2 := [(4, .long _), (0, .long _), (2, .long _)]) dX8_commonDivisor_1 (Nat.le_of_ble_eq_true rfl) rfl ?_
  refine V_lload_n 2 dX8_commonDivisor_3 rfl ?_
  refine V_lstore (lv2 := [(6, .long _), (4, .long _), (0, .long _), (2, .long _)]) dX8_commonDivisor_4 (Nat.le_of_ble_eq_true rfl) rfl ?_
  refine V_iconst (v := 0) dX8_commonDivisor_6 rfl ?_
  refine V_istore (lv2 := [(8, .int _), (6, .long _), (4, .long _), (0, .long _), (2, .long _)]) dX8_commonDivisor_7 (Nat.le_of_ble_eq_true rfl) rfl ?_
  refine V_lv (lv2 := [(8, .int _), (6, .long _), (4, .long _), (0, .long _), (2, .long _)]) [0, 1, 2, 3, 4] rfl ?_
  exact L 60 x y 0 hy (by decide) hx (by omega)
/-- a fraction's up or down in lowest terms, if both are at most 99 -/
def lowS (n m : Nat) (w : Int32) : Int32 := if 99 < n / Nat.gcd n m ∨ 99 < m / Nat.gcd n m then -1 else nI (if w = 0 then n / Nat.gcd n m else m / Nat.gcd n m)
theorem lN_div {a b : Nat} (ha : a < 2 ^ 63) (h0 : 0 < b) (hb : b < 2 ^ 63) : lN a / lN b = lN (a / b) := pk_lDiv ha h0 hb
theorem l99 {a : Nat} (ha : a < 2 ^ 63) : (99 : Int64) < lN a ↔ 99 < a := pk_lLT (a := 99) (by decide) ha
set_option maxRecDepth 20000 in
theorem r_lowestTerm {g : GE} {M : Mem} {sz : Nat} (x y : Nat) (w : Int32) (hx : 0 < x) (hx2 : x < 2 ^ 60) (hy : 0 < y) (hy2 : y < 2 ^ 60) : Run g m_X8_lowestTerm [.long (lN x), .long (lN y), .int w] M sz 0 0 (Ret (some (.int (lowS x y w))) M) := by
  have hg : 0 < Nat.gcd x y := Nat.gcd_pos_of_pos_left _ hx
  have hg3 : Nat.gcd x y ≤ x := Nat.gcd_le_left _ hx
  have hg2 : Nat.gcd x y < 2 ^ 63 := by omega
  have hx3 : x / Nat.gcd x y < 2 ^ 63 := Nat.lt_of_le_of_lt (Nat.div_le_self _ _) (by omega)
  have hy3 : y / Nat.gcd x y < 2 ^ 63 := Nat.lt_of_le_of_lt (Nat.div_le_self _ _) (by omega)
  refine Run.of rfl (by decide) (Nat.le_of_ble_eq_true rfl) ?_
  show V g m_X8_lowestTerm 0 _ [] _ _ _ _ _
  refine V_lload_n 0 dX8_lowestTerm_0 rfl ?_
  refine V_lload_n 1 dX8_lowestTerm_1 rfl ?_
  refine C_X8_430 rfl ⟨Nat.le_of_ble_eq_true rfl, Nat.le_of_ble_eq_true rfl⟩ (r_commonDivisor x y (by omega) hy2) rfl (Nat.le_of_ble_eq_true rfl) dX8_lowestTerm_2 rfl ?_
  refine V_lstore (lv2 := [(5, .long _), (0, .long _), (2, .long _), (4, .int _)]) dX8_lowestTerm_5 (Nat.le_of_ble_eq_true rfl) rfl ?_
  refine V_lload 0 dX8_lowestTerm_7 rfl ?_
  refine V_lconst (v := 0) dX8_lowestTerm_9 rfl ?_
  refine V_lcmp dX8_lowestTerm_10 ?_
  refine V_pc (pc2 := 11) rfl ?_
  refine V_if_gt (tgt := 16) dX8_lowestTerm_11 (by decide) (fun c11 => ?_) (fun c11 => absurd (lgc_gt.mpr ((pk_lLT (a := 0) (by decide) hg2).mpr hg)) c11)
  refine V_lload_n 1 dX8_lowestTerm_16 rfl ?_
  refine V_lload 0 dX8_lowestTerm_17 rfl ?_
  refine V_ldiv dX8_lowestTerm_19 (fun e => absurd hg (by rw [(lN_eq0 hg2).mp e]; exact Nat.lt_irrefl 0)) ?_
  refine V_lstore (lv2 := [(7, .long _), (5, .long _), (0, .long _), (2, .long _), (4, .int _)]) dX8_lowestTerm_20 (Nat.le_of_ble_eq_true rfl) rfl ?_
  refine V_lload_n 3 dX8_lowestTerm_22 rfl ?_
  refine V_lload 1 dX8_lowestTerm_23 rfl ?_
  refine V_ldiv dX8_lowestTerm_25 (fun e => absurd hg (by rw [(lN_eq0 hg2).mp e]; exact Nat.lt_irrefl 0)) ?_
  refine V_pc (pc2 := 26) rfl ?_
  refine V_lstore (lv2 := [(9, .long _), (7, .long _), (5, .long _), (0, .long _), (2, .long _), (4, .int _)]) dX8_lowestTerm_26 (Nat.le_of_ble_eq_true rfl) rfl ?_
  refine V_lload 1 dX8_lowestTerm_28 rfl ?_
  refine V_ldc2 z_X8_433 dX8_lowestTerm_30 ?_
  refine V_lcmp dX8_lowestTerm_33 ?_
  refine V_if_gt (tgt := 46) dX8_lowestTerm_34 (by decide) (fun c34 => ?_) (fun c34 => ?_)
  · refine V_iconst (v := -1) dX8_lowestTerm_46 rfl ?_
    refine V_iret (st := []) dX8_lowestTerm_47 rfl ?_
    refine ⟨?_, rfl⟩; rw [lgc_gt, lN_div (by omega) hg hg2, l99 hx3] at c34; unfold lowS; rw [if_pos (Or.inl c34)]
  · refine V_lload 0 dX8_lowestTerm_37 rfl ?_
    refine V_ldc2 z_X8_433 dX8_lowestTerm_39 ?_
    refine V_lcmp dX8_lowestTerm_42 ?_
    refine V_if_le (tgt := 48) dX8_lowestTerm_43 (by decide) (fun c43 => ?_) (fun c43 => ?_)
    · refine V_iload 5 dX8_lowestTerm_48 rfl ?_
      refine V_if_ne (tgt := 58) dX8_lowestTerm_50 (by decide) (fun c50 => ?_) (fun c50 => ?_)
      · refine V_lload 0 dX8_lowestTerm_58 rfl ?_
        refine V_l2i dX8_lowestTerm_60 ?_
        refine V_iret (st := []) dX8_lowestTerm_61 rfl ?_
        refine ⟨?_, rfl⟩; rw [lgc_gt, lN_div (by omega) hg hg2, l99 hx3] at c34; rw [lgc_le, ← Int64.not_lt, lN_div (by omega) hg hg2, l99 hy3] at c43; unfold lowS; rw [if_neg (by omega), if_neg c50, lN_div (by omega) hg hg2, lN_i]
      · refine V_lload 1 dX8_lowestTerm_53 rfl ?_
        refine V_goto (tgt := 60) dX8_lowestTerm_55 (by decide) ?_
        refine V_l2i dX8_lowestTerm_60 ?_
        refine V_iret (st := []) dX8_lowestTerm_61 rfl ?_
        refine ⟨?_, rfl⟩; rw [lgc_gt, lN_div (by omega) hg hg2, l99 hx3] at c34; rw [lgc_le, ← Int64.not_lt, lN_div (by omega) hg hg2, l99 hy3] at c43; unfold lowS; rw [if_neg (by omega), if_pos c50, lN_div (by omega) hg hg2, lN_i]
    · refine V_iconst (v := -1) dX8_lowestTerm_46 rfl ?_
      refine V_iret (st := []) dX8_lowestTerm_47 rfl ?_
      refine ⟨?_, rfl⟩; rw [lgc_le, ← Int64.not_lt, lN_div (by omega) hg hg2, l99 hy3] at c43; unfold lowS; rw [if_pos (Or.inr (by omega))]
