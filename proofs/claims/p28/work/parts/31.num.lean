/-! numbers: comparisons of longs, the JDK's small functions, turns of lengths -/
theorem fa_lt' (a b : Int32) : a < b ↔ a.toInt < b.toInt := Int32.lt_iff_toInt_lt
theorem fa_lt64' (a b : Int64) : a < b ↔ a.toInt < b.toInt := Int64.lt_iff_toInt_lt
theorem fb_rng' (x : Int32) : -2147483648 ≤ x.toInt ∧ x.toInt < 2147483648 := ⟨Int32.le_toInt x, Int32.toInt_lt x⟩
theorem lgc_gt {x y : Int64} : 0 < lg_cmp x y ↔ y < x := by
  unfold lg_cmp
  by_cases h : x > y
  · rw [if_pos h]; exact ⟨fun _ => h, fun _ => by decide⟩
  · rw [if_neg h]
    by_cases h2 : x = y
    · rw [if_pos h2]; exact ⟨fun h3 => absurd h3 (by decide), fun h3 => absurd h3 h⟩
    · rw [if_neg h2]; exact ⟨fun h3 => absurd h3 (by decide), fun h3 => absurd h3 h⟩
theorem lgc_eq {x y : Int64} : lg_cmp x y = 0 ↔ x = y := by
  unfold lg_cmp
  by_cases h : x > y
  · rw [if_pos h]
    exact ⟨fun h2 => absurd h2 (by decide), fun h2 => absurd h (by rw [h2]; exact Int64.lt_irrefl)⟩
  · rw [if_neg h]
    by_cases h2 : x = y
    · rw [if_pos h2]; exact ⟨fun _ => h2, fun _ => rfl⟩
    · rw [if_neg h2]; exact ⟨fun h3 => absurd h3 (by decide), fun h3 => absurd h3 h2⟩
theorem lgc_lt {x y : Int64} : lg_cmp x y < 0 ↔ x < y := by
  unfold lg_cmp
  by_cases h : x > y
  · rw [if_pos h]
    exact ⟨fun h2 => absurd h2 (by decide), fun h2 => absurd (Int64.lt_trans h h2) Int64.lt_irrefl⟩
  · rw [if_neg h]
    by_cases h2 : x = y
    · rw [if_pos h2, h2]; exact ⟨fun h3 => absurd h3 (by decide), fun h3 => absurd h3 Int64.lt_irrefl⟩
    · rw [if_neg h2]
      refine ⟨fun _ => ?_, fun _ => by decide⟩
      rcases Int64.lt_or_eq_of_le (Int64.not_lt.mp h) with h3 | h3
      · exact h3
      · exact absurd h3 h2
theorem lgc_ge {x y : Int64} : 0 ≤ lg_cmp x y ↔ y ≤ x := by
  rw [← Int32.not_lt, lgc_lt, Int64.not_lt]
theorem lgc_le {x y : Int64} : lg_cmp x y ≤ 0 ↔ x ≤ y := by
  rw [← Int32.not_lt, lgc_gt, Int64.not_lt]
def fdiv (x y : Int64) : Int64 := if (x ^^^ y) < 0 ∧ x / y * y ≠ x then x / y - 1 else x / y
def labs (x : Int64) : Int64 := if 0 ≤ x then x else -x
def lmax (x y : Int64) : Int64 := if x < y then y else x
def lmin (x y : Int64) : Int64 := if x ≤ y then x else y
def imax (x y : Int32) : Int32 := if x < y then y else x
def imin (x y : Int32) : Int32 := if x ≤ y then x else y
set_option maxRecDepth 20000 in
theorem r_floorDiv {g : GE} {M : Mem} {sz : Nat} (x y : Int64) (h0 : ¬ y = 0) : Run g m_J9_floorDiv_f86c9 [.long x, .long y] M sz 0 0 (Ret (some (.long (fdiv x y))) M) := by
  refine Run.ofF rfl (by decide +kernel) (Nat.le_of_ble_eq_true rfl) ?_
  show V g m_J9_floorDiv_f86c9 0 _ [] _ _ _ _ _
  refine V_lload_n 0 dJ9_floorDiv_f86c9_0 rfl ?_
  refine V_lload_n 1 dJ9_floorDiv_f86c9_1 rfl ?_
  refine V_ldiv dJ9_floorDiv_f86c9_2 h0 ?_
  refine V_lstore (lv2 := [(4, .long _), (0, .long _), (2, .long _)]) dJ9_floorDiv_f86c9_3 (Nat.le_of_ble_eq_true rfl) rfl ?_
  refine V_lload_n 1 dJ9_floorDiv_f86c9_5 rfl ?_
  refine V_lload_n 2 dJ9_floorDiv_f86c9_6 rfl ?_
  refine V_lxor dJ9_floorDiv_f86c9_7 ?_
  refine V_pc (pc2 := 8) rfl ?_
  refine V_lconst (v := 0) dJ9_floorDiv_f86c9_8 rfl ?_
  refine V_lcmp dJ9_floorDiv_f86c9_9 ?_
  refine V_if_ge (tgt := 27) dJ9_floorDiv_f86c9_10 (by decide) (fun c10 => ?_) (fun c10 => ?_)
  · refine V_lload 0 dJ9_floorDiv_f86c9_27 rfl ?_
    refine V_lret (st := []) dJ9_floorDiv_f86c9_29 rfl ?_
    refine ⟨?_, rfl⟩; unfold fdiv; rw [if_neg (fun h => absurd h.1 (Int64.not_lt.mpr (lgc_ge.mp c10)))]
  · refine V_lload 0 dJ9_floorDiv_f86c9_13 rfl ?_
    refine V_lload_n 2 dJ9_floorDiv_f86c9_15 rfl ?_
    refine V_lmul dJ9_floorDiv_f86c9_16 ?_
    refine V_lload_n 1 dJ9_floorDiv_f86c9_17 rfl ?_
    refine V_lcmp dJ9_floorDiv_f86c9_18 ?_
    refine V_if_eq (tgt := 27) dJ9_floorDiv_f86c9_19 (by decide) (fun c19 => ?_) (fun c19 => ?_)
    · refine V_lload 0 dJ9_floorDiv_f86c9_27 rfl ?_
      refine V_lret (st := []) dJ9_floorDiv_f86c9_29 rfl ?_
      refine ⟨?_, rfl⟩; unfold fdiv; rw [if_neg (fun h => h.2 (lgc_eq.mp c19))]
    · refine V_lload 0 dJ9_floorDiv_f86c9_22 rfl ?_
      refine V_lconst (v := 1) dJ9_floorDiv_f86c9_24 rfl ?_
      refine V_lsub dJ9_floorDiv_f86c9_25 ?_
      refine V_lret (st := []) dJ9_floorDiv_f86c9_26 rfl ?_
      refine ⟨?_, rfl⟩; unfold fdiv; rw [if_pos ⟨Int64.not_le.mp (fun h => c10 (lgc_ge.mpr h)), fun h => c19 (lgc_eq.mpr h)⟩]
set_option maxRecDepth 20000 in
theorem r_labs {g : GE} {M : Mem} {sz : Nat} (x : Int64) : Run g m_J9_abs_067f4 [.long x] M sz 0 0 (Ret (some (.long (labs x))) M) := by
  refine Run.ofF rfl (by decide +kernel) (Nat.le_of_ble_eq_true rfl) ?_
  show V g m_J9_abs_067f4 0 _ [] _ _ _ _ _
  refine V_lload_n 0 dJ9_abs_067f4_0 rfl ?_
  refine V_lconst (v := 0) dJ9_abs_067f4_1 rfl ?_
  refine V_lcmp dJ9_abs_067f4_2 ?_
  refine V_if_ge (tgt := 11) dJ9_abs_067f4_3 (by decide) (fun c3 => ?_) (fun c3 => ?_)
  · refine V_lload_n 0 dJ9_abs_067f4_11 rfl ?_
    refine V_lret (st := []) dJ9_abs_067f4_12 rfl ?_
    refine ⟨?_, rfl⟩; unfold labs; rw [if_pos (lgc_ge.mp c3)]
  · refine V_lload_n 0 dJ9_abs_067f4_6 rfl ?_
    refine V_lneg dJ9_abs_067f4_7 ?_
    refine V_goto (tgt := 12) dJ9_abs_067f4_8 (by decide) ?_
    refine V_lret (st := []) dJ9_abs_067f4_12 rfl ?_
    refine ⟨?_, rfl⟩; unfold labs; rw [if_neg (fun h => c3 (lgc_ge.mpr h))]
set_option maxRecDepth 20000 in
theorem r_lmax {g : GE} {M : Mem} {sz : Nat} (x y : Int64) : Run g m_J9_max_f86c9 [.long x, .long y] M sz 0 0 (Ret (some (.long (lmax x y))) M) := by
  refine Run.ofF rfl (by decide +kernel) (Nat.le_of_ble_eq_true rfl) ?_
  show V g m_J9_max_f86c9 0 _ [] _ _ _ _ _
  refine V_lload_n 0 dJ9_max_f86c9_0 rfl ?_
  refine V_lload_n 1 dJ9_max_f86c9_1 rfl ?_
  refine V_lcmp dJ9_max_f86c9_2 ?_
  refine V_if_lt (tgt := 10) dJ9_max_f86c9_3 (by decide) (fun c3 => ?_) (fun c3 => ?_)
  · refine V_lload_n 1 dJ9_max_f86c9_10 rfl ?_
    refine V_lret (st := []) dJ9_max_f86c9_11 rfl ?_
    refine ⟨?_, rfl⟩; unfold lmax; rw [if_pos (lgc_lt.mp c3)]
  · refine V_lload_n 0 dJ9_max_f86c9_6 rfl ?_
    refine V_goto (tgt := 11) dJ9_max_f86c9_7 (by decide) ?_
    refine V_lret (st := []) dJ9_max_f86c9_11 rfl ?_
    refine ⟨?_, rfl⟩; unfold lmax; rw [if_neg (fun h => c3 (lgc_lt.mpr h))]
set_option maxRecDepth 20000 in
theorem r_lmin {g : GE} {M : Mem} {sz : Nat} (x y : Int64) : Run g m_J9_min_f86c9 [.long x, .long y] M sz 0 0 (Ret (some (.long (lmin x y))) M) := by
  refine Run.ofF rfl (by decide +kernel) (Nat.le_of_ble_eq_true rfl) ?_
  show V g m_J9_min_f86c9 0 _ [] _ _ _ _ _
  refine V_lload_n 0 dJ9_min_f86c9_0 rfl ?_
  refine V_lload_n 1 dJ9_min_f86c9_1 rfl ?_
  refine V_lcmp dJ9_min_f86c9_2 ?_
  refine V_if_gt (tgt := 10) dJ9_min_f86c9_3 (by decide) (fun c3 => ?_) (fun c3 => ?_)
  · refine V_lload_n 1 dJ9_min_f86c9_10 rfl ?_
    refine V_lret (st := []) dJ9_min_f86c9_11 rfl ?_
    refine ⟨?_, rfl⟩; unfold lmin; first | rw [if_pos (lgc_le.mp c3)] | rw [if_neg (fun h => Int64.not_le.mpr (lgc_gt.mp c3) h)]
  · refine V_lload_n 0 dJ9_min_f86c9_6 rfl ?_
    refine V_goto (tgt := 11) dJ9_min_f86c9_7 (by decide) ?_
    refine V_lret (st := []) dJ9_min_f86c9_11 rfl ?_
    refine ⟨?_, rfl⟩; unfold lmin; first | rw [if_neg (fun h => c3 (lgc_le.mpr h))] | rw [if_pos (Int64.not_lt.mp (fun h => c3 (lgc_gt.mpr h)))]
set_option maxRecDepth 20000 in
theorem r_imax {g : GE} {M : Mem} {sz : Nat} (x y : Int32) : Run g m_J9_max_7cf53 [.int x, .int y] M sz 0 0 (Ret (some (.int (imax x y))) M) := by
  refine Run.ofF rfl (by decide +kernel) (Nat.le_of_ble_eq_true rfl) ?_
  show V g m_J9_max_7cf53 0 _ [] _ _ _ _ _
  refine V_iload_n 0 dJ9_max_7cf53_0 rfl ?_
  refine V_iload_n 1 dJ9_max_7cf53_1 rfl ?_
  refine V_icmp_lt (tgt := 9) dJ9_max_7cf53_2 (by decide) (fun c2 => ?_) (fun c2 => ?_)
  · refine V_iload_n 1 dJ9_max_7cf53_9 rfl ?_
    refine V_iret (st := []) dJ9_max_7cf53_10 rfl ?_
    refine ⟨?_, rfl⟩; unfold imax; rw [if_pos c2]
  · refine V_iload_n 0 dJ9_max_7cf53_5 rfl ?_
    refine V_goto (tgt := 10) dJ9_max_7cf53_6 (by decide) ?_
    refine V_iret (st := []) dJ9_max_7cf53_10 rfl ?_
    refine ⟨?_, rfl⟩; unfold imax; rw [if_neg c2]
set_option maxRecDepth 20000 in
theorem r_imin {g : GE} {M : Mem} {sz : Nat} (x y : Int32) : Run g m_J9_min_7cf53 [.int x, .int y] M sz 0 0 (Ret (some (.int (imin x y))) M) := by
  refine Run.ofF rfl (by decide +kernel) (Nat.le_of_ble_eq_true rfl) ?_
  show V g m_J9_min_7cf53 0 _ [] _ _ _ _ _
  refine V_iload_n 0 dJ9_min_7cf53_0 rfl ?_
  refine V_iload_n 1 dJ9_min_7cf53_1 rfl ?_
  refine V_icmp_gt (tgt := 9) dJ9_min_7cf53_2 (by decide) (fun c2 => ?_) (fun c2 => ?_)
  · refine V_iload_n 1 dJ9_min_7cf53_9 rfl ?_
    refine V_iret (st := []) dJ9_min_7cf53_10 rfl ?_
    refine ⟨?_, rfl⟩; unfold imin; first | rw [if_pos c2] | rw [if_neg (fun h => Int32.not_le.mpr c2 h)]
  · refine V_iload_n 0 dJ9_min_7cf53_5 rfl ?_
    refine V_goto (tgt := 10) dJ9_min_7cf53_6 (by decide) ?_
    refine V_iret (st := []) dJ9_min_7cf53_10 rfl ?_
    refine ⟨?_, rfl⟩; unfold imin; first | rw [if_neg c2] | rw [if_pos (Int32.not_lt.mp c2)]
def popc (x : Int32) : Int32 :=
  let a := x - ((x.toUInt32 >>> ((1 : Int32).toUInt32 &&& Int32.toUInt32 31)).toInt32 &&& 1431655765)
  let b := (a &&& 858993459) + ((a.toUInt32 >>> ((2 : Int32).toUInt32 &&& Int32.toUInt32 31)).toInt32 &&& 858993459)
  let c := (b + (b.toUInt32 >>> ((4 : Int32).toUInt32 &&& Int32.toUInt32 31)).toInt32) &&& 252645135
  let d := c + (c.toUInt32 >>> ((8 : Int32).toUInt32 &&& Int32.toUInt32 31)).toInt32
  let e := d + (d.toUInt32 >>> ((16 : Int32).toUInt32 &&& Int32.toUInt32 31)).toInt32
  e &&& 63
set_option maxRecDepth 20000 in
theorem r_bitCount {g : GE} {M : Mem} {sz : Nat} (x : Int32) : Run g m_J6_bitCount_0f7a4 [.int x] M sz 0 0 (Ret (some (.int (popc x))) M) := by
  refine Run.ofF rfl (by decide +kernel) (Nat.le_of_ble_eq_true rfl) ?_
  show V g m_J6_bitCount_0f7a4 0 _ [] _ _ _ _ _
  refine V_iload_n 0 dJ6_bitCount_0f7a4_0 rfl ?_
  refine V_iload_n 0 dJ6_bitCount_0f7a4_1 rfl ?_
  refine V_iconst (v := 1) dJ6_bitCount_0f7a4_2 rfl ?_
  refine V_iushr dJ6_bitCount_0f7a4_3 ?_
  refine V_ldcw z_J6_265 dJ6_bitCount_0f7a4_4 ?_
  refine V_iand dJ6_bitCount_0f7a4_7 ?_
  refine V_isub dJ6_bitCount_0f7a4_8 ?_
  refine V_pc (pc2 := 9) rfl ?_
  refine V_istore_n (lv2 := [(0, .int _)]) dJ6_bitCount_0f7a4_9 (Nat.le_of_ble_eq_true rfl) rfl ?_
  refine V_iload_n 0 dJ6_bitCount_0f7a4_10 rfl ?_
  refine V_ldcw z_J6_266 dJ6_bitCount_0f7a4_11 ?_
  refine V_iand dJ6_bitCount_0f7a4_14 ?_
  refine V_iload_n 0 dJ6_bitCount_0f7a4_15 rfl ?_
  refine V_iconst (v := 2) dJ6_bitCount_0f7a4_16 rfl ?_
  refine V_iushr dJ6_bitCount_0f7a4_17 ?_
  refine V_ldcw z_J6_266 dJ6_bitCount_0f7a4_18 ?_
  refine V_pc (pc2 := 21) rfl ?_
  refine V_iand dJ6_bitCount_0f7a4_21 ?_
  refine V_iadd dJ6_bitCount_0f7a4_22 ?_
  refine V_istore_n (lv2 := [(0, .int _)]) dJ6_bitCount_0f7a4_23 (Nat.le_of_ble_eq_true rfl) rfl ?_
  refine V_iload_n 0 dJ6_bitCount_0f7a4_24 rfl ?_
  refine V_iload_n 0 dJ6_bitCount_0f7a4_25 rfl ?_
  refine V_iconst (v := 4) dJ6_bitCount_0f7a4_26 rfl ?_
  refine V_iushr dJ6_bitCount_0f7a4_27 ?_
  refine V_iadd dJ6_bitCount_0f7a4_28 ?_
  refine V_pc (pc2 := 29) rfl ?_
  refine V_ldcw z_J6_267 dJ6_bitCount_0f7a4_29 ?_
  refine V_iand dJ6_bitCount_0f7a4_32 ?_
  refine V_istore_n (lv2 := [(0, .int _)]) dJ6_bitCount_0f7a4_33 (Nat.le_of_ble_eq_true rfl) rfl ?_
  refine V_iload_n 0 dJ6_bitCount_0f7a4_34 rfl ?_
  refine V_iload_n 0 dJ6_bitCount_0f7a4_35 rfl ?_
  refine V_bipush (v := 8) dJ6_bitCount_0f7a4_36 (by decide) ?_
  refine V_iushr dJ6_bitCount_0f7a4_38 ?_
  refine V_iadd dJ6_bitCount_0f7a4_39 ?_
  refine V_pc (pc2 := 40) rfl ?_
  refine V_istore_n (lv2 := [(0, .int _)]) dJ6_bitCount_0f7a4_40 (Nat.le_of_ble_eq_true rfl) rfl ?_
  refine V_iload_n 0 dJ6_bitCount_0f7a4_41 rfl ?_
  refine V_iload_n 0 dJ6_bitCount_0f7a4_42 rfl ?_
  refine V_bipush (v := 16) dJ6_bitCount_0f7a4_43 (by decide) ?_
  refine V_iushr dJ6_bitCount_0f7a4_45 ?_
  refine V_iadd dJ6_bitCount_0f7a4_46 ?_
  refine V_istore_n (lv2 := [(0, .int _)]) dJ6_bitCount_0f7a4_47 (Nat.le_of_ble_eq_true rfl) rfl ?_
  refine V_iload_n 0 dJ6_bitCount_0f7a4_48 rfl ?_
  refine V_pc (pc2 := 49) rfl ?_
  refine V_bipush (v := 63) dJ6_bitCount_0f7a4_49 (by decide) ?_
  refine V_iand dJ6_bitCount_0f7a4_51 ?_
  refine V_iret (st := []) dJ6_bitCount_0f7a4_52 rfl ?_
  exact ⟨rfl, rfl⟩
/-- turning a length -/
def turnF (x : Int64) (u d r : Int32) : Int64 := if r = 1 then x * u.toInt64 / d.toInt64 else (2 * x * u.toInt64 + d.toInt64) / (2 * d.toInt64)
def gainF (x t : Int64) (u d : Int32) : Int64 := fdiv ((t * d.toInt64 - x * u.toInt64) * 1000) d.toInt64
theorem pos_i64 {d : Int32} (h : 0 < d) : 0 < d.toInt64 := (fa_lt64' _ _).mpr (by rw [Int32.toInt_toInt64]; exact (fa_lt' _ _).mp h)
theorem nz_i64 {d : Int32} (h : 0 < d) : ¬ d.toInt64 = 0 := fun e => by
  have := pos_i64 h
  rw [e] at this
  exact absurd this (by decide)
theorem nz_2i64 {d : Int32} (h : 0 < d) : ¬ 2 * d.toInt64 = 0 := fun e => by
  have h1 := (fa_lt' _ _).mp h
  have h2 : (2 * d.toInt64).toInt = 0 := by rw [e]; rfl
  rw [Int64.toInt_mul, Int32.toInt_toInt64] at h2
  have h3 := (fb_rng' d)
  have h4 : (2 : Int64).toInt * d.toInt = 2 * d.toInt := rfl
  rw [h4] at h2
  rw [Int.bmod_eq_of_le (by omega) (by omega)] at h2
  have : (0 : Int32).toInt = 0 := rfl
  omega
set_option maxRecDepth 20000 in
theorem r_turn {g : GE} {M : Mem} {sz : Nat} (x : Int64) (u d r : Int32) (hd : 0 < d) : Run g m_X8_turn [.long x, .int u, .int d, .int r] M sz 0 0 (Ret (some (.long (turnF x u d r))) M) := by
  refine Run.ofF rfl (by decide +kernel) (Nat.le_of_ble_eq_true rfl) ?_
  show V g m_X8_turn 0 _ [] _ _ _ _ _
  refine V_iload_n 2 dX8_turn_0 rfl ?_
  refine V_if_gt (tgt := 6) dX8_turn_1 (by decide) (fun c1 => ?_) (fun c1 => absurd hd c1)
  refine V_iload 3 dX8_turn_6 rfl ?_
  refine V_iconst (v := 1) dX8_turn_8 rfl ?_
  refine V_icmp_ne (tgt := 20) dX8_turn_9 (by decide) (fun c9 => ?_) (fun c9 => ?_)
  · refine V_ldc2 z_X8_423 dX8_turn_20 ?_
    refine V_lload_n 0 dX8_turn_23 rfl ?_
    refine V_lmul dX8_turn_24 ?_
    refine V_iload_n 1 dX8_turn_25 rfl ?_
    refine V_i2l dX8_turn_26 ?_
    refine V_lmul dX8_turn_27 ?_
    refine V_iload_n 2 dX8_turn_28 rfl ?_
    refine V_pc (pc2 := 29) rfl ?_
    refine V_i2l dX8_turn_29 ?_
    refine V_ladd dX8_turn_30 ?_
    refine V_ldc2 z_X8_423 dX8_turn_31 ?_
    refine V_iload_n 2 dX8_turn_34 rfl ?_
    refine V_i2l dX8_turn_35 ?_
    refine V_lmul dX8_turn_36 ?_
    refine V_ldiv dX8_turn_37 (nz_2i64 hd) ?_
    refine V_lret (st := []) dX8_turn_38 rfl ?_
    refine ⟨?_, rfl⟩; unfold turnF; rw [if_neg c9]
  · refine V_lload_n 0 dX8_turn_12 rfl ?_
    refine V_iload_n 1 dX8_turn_13 rfl ?_
    refine V_i2l dX8_turn_14 ?_
    refine V_lmul dX8_turn_15 ?_
    refine V_iload_n 2 dX8_turn_16 rfl ?_
    refine V_i2l dX8_turn_17 ?_
    refine V_ldiv dX8_turn_18 (nz_i64 hd) ?_
    refine V_pc (pc2 := 19) rfl ?_
    refine V_lret (st := []) dX8_turn_19 rfl ?_
    refine ⟨?_, rfl⟩; unfold turnF; rw [if_pos c9]
set_option maxRecDepth 20000 in
theorem r_gainOfTurn {g : GE} {M : Mem} {sz : Nat} (x t : Int64) (u d : Int32) (hd : 0 < d) : Run g m_X8_gainOfTurn [.long x, .long t, .int u, .int d] M sz 0 0 (Ret (some (.long (gainF x t u d))) M) := by
  refine Run.ofF rfl (by decide +kernel) (Nat.le_of_ble_eq_true rfl) ?_
  show V g m_X8_gainOfTurn 0 _ [] _ _ _ _ _
  refine V_iload 3 dX8_gainOfTurn_0 rfl ?_
  refine V_if_le (tgt := 29) dX8_gainOfTurn_2 (by decide) (fun c2 => absurd c2 (Int32.not_le.mpr hd)) (fun c2 => ?_)
  refine V_lload_n 1 dX8_gainOfTurn_5 rfl ?_
  refine V_iload 3 dX8_gainOfTurn_6 rfl ?_
  refine V_i2l dX8_gainOfTurn_8 ?_
  refine V_lmul dX8_gainOfTurn_9 ?_
  refine V_lload_n 0 dX8_gainOfTurn_10 rfl ?_
  refine V_pc (pc2 := 11) rfl ?_
  refine V_iload 2 dX8_gainOfTurn_11 rfl ?_
  refine V_i2l dX8_gainOfTurn_13 ?_
  refine V_lmul dX8_gainOfTurn_14 ?_
  refine V_lsub dX8_gainOfTurn_15 ?_
  refine V_ldc2 z_X8_425 dX8_gainOfTurn_16 ?_
  refine V_lmul dX8_gainOfTurn_19 ?_
  refine V_iload 3 dX8_gainOfTurn_20 rfl ?_
  refine V_i2l dX8_gainOfTurn_22 ?_
  refine V_pc (pc2 := 23) rfl ?_
  refine C_X8_427 rfl ⟨Nat.le_of_ble_eq_true rfl, Nat.le_of_ble_eq_true rfl⟩ (r_floorDiv _ _ (nz_i64 hd)) rfl (Nat.le_of_ble_eq_true rfl) dX8_gainOfTurn_23 rfl ?_
  refine V_goto (tgt := 30) dX8_gainOfTurn_26 (by decide) ?_
  refine V_lret (st := []) dX8_gainOfTurn_30 rfl ?_
  exact ⟨rfl, rfl⟩
