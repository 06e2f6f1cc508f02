/-! tests of arguments; Tables; Rings, what it reads -/
set_option maxRecDepth 20000 in
theorem r_checkParish_ok {g : GE} {M : Mem} {sz : Nat} {p : Int32} (h : isP p = true) : Run g m_X8_checkParish [.int p] M sz 0 0 (Ret none M) := by
  refine Run.of rfl (by decide) (Nat.le_of_ble_eq_true rfl) ?_
  show V g m_X8_checkParish 0 _ [] _ _ _ _ _
  refine V_iload_n 0 dX8_checkParish_0 rfl ?_
  refine C_X8_412 rfl ⟨Nat.le_of_ble_eq_true rfl, Nat.le_of_ble_eq_true rfl⟩ (r_isParish _) rfl (Nat.le_of_ble_eq_true rfl) dX8_checkParish_1 rfl ?_
  refine V_if_ne (tgt := 18) dX8_checkParish_4 (by decide) (fun c4 => ?_) (fun c4 => absurd c4 (by rw [h]; decide))
  refine V_ret (st := []) dX8_checkParish_18 rfl ?_
  exact ⟨rfl, rfl⟩
set_option maxRecDepth 20000 in
theorem r_checkParish_bad {g : GE} {M : Mem} {sz : Nat} {p : Int32} (h : isP p = false) : Run g m_X8_checkParish [.int p] M sz 1 6 (Thr (exN 0) M) := by
  refine Run.of rfl (by decide) (Nat.le_of_ble_eq_true rfl) ?_
  show V g m_X8_checkParish 0 _ [] _ _ _ _ _
  refine V_iload_n 0 dX8_checkParish_0 rfl ?_
  refine C_X8_412 rfl ⟨Nat.le_of_ble_eq_true rfl, Nat.le_of_ble_eq_true rfl⟩ (r_isParish _) rfl (Nat.le_of_ble_eq_true rfl) dX8_checkParish_1 rfl ?_
  refine V_if_ne (tgt := 18) dX8_checkParish_4 (by decide) (fun c4 => absurd (by rw [h]; rfl) c4) (fun c4 => ?_)
  refine V_throwSW 0 10 (by decide) (by decide) rfl rfl rfl rfl rfl (Nat.le_of_ble_eq_true rfl) (Nat.le_of_ble_eq_true rfl) dX8_checkParish_7 dX8_checkParish_10 dX8_checkParish_11 dX8_checkParish_14 dX8_checkParish_17 ?_
  exact ⟨rfl, rfl⟩
set_option maxRecDepth 20000 in
theorem r_checkPair_ok {g : GE} {M : Mem} {sz : Nat} {p q : Int32} (h1 : isP p = true) (h2 : isP q = true) (h3 : p ≠ q) : Run g m_X8_checkPair [.int p, .int q] M sz 0 0 (Ret none M) := by
  refine Run.of rfl (by decide) (Nat.le_of_ble_eq_true rfl) ?_
  show V g m_X8_checkPair 0 _ [] _ _ _ _ _
  refine V_iload_n 0 dX8_checkPair_0 rfl ?_
  refine C_X8_412 rfl ⟨Nat.le_of_ble_eq_true rfl, Nat.le_of_ble_eq_true rfl⟩ (r_isParish _) rfl (Nat.le_of_ble_eq_true rfl) dX8_checkPair_1 rfl ?_
  refine V_if_eq (tgt := 14) dX8_checkPair_4 (by decide) (fun c4 => absurd c4 (by rw [h1]; decide)) (fun c4 => ?_)
  refine V_iload_n 1 dX8_checkPair_7 rfl ?_
  refine C_X8_412 rfl ⟨Nat.le_of_ble_eq_true rfl, Nat.le_of_ble_eq_true rfl⟩ (r_isParish _) rfl (Nat.le_of_ble_eq_true rfl) dX8_checkPair_8 rfl ?_
  refine V_if_ne (tgt := 25) dX8_checkPair_11 (by decide) (fun c11 => ?_) (fun c11 => absurd c11 (by rw [h2]; decide))
  refine V_iload_n 0 dX8_checkPair_25 rfl ?_
  refine V_pc (pc2 := 26) rfl ?_
  refine V_iload_n 1 dX8_checkPair_26 rfl ?_
  refine V_icmp_ne (tgt := 41) dX8_checkPair_27 (by decide) (fun c27 => ?_) (fun c27 => absurd c27 h3)
  refine V_ret (st := []) dX8_checkPair_41 rfl ?_
  exact ⟨rfl, rfl⟩
set_option maxRecDepth 20000 in
theorem r_checkPair_bad {g : GE} {M : Mem} {sz : Nat} {p q : Int32} (h : isP p = false ∨ isP q = false) : Run g m_X8_checkPair [.int p, .int q] M sz 1 6 (Thr (exN 0) M) := by
  refine Run.of rfl (by decide) (Nat.le_of_ble_eq_true rfl) ?_
  show V g m_X8_checkPair 0 _ [] _ _ _ _ _
  refine V_iload_n 0 dX8_checkPair_0 rfl ?_
  refine C_X8_412 rfl ⟨Nat.le_of_ble_eq_true rfl, Nat.le_of_ble_eq_true rfl⟩ (r_isParish _) rfl (Nat.le_of_ble_eq_true rfl) dX8_checkPair_1 rfl ?_
  refine V_if_eq (tgt := 14) dX8_checkPair_4 (by decide) (fun c4 => ?_) (fun c4 => ?_)
  · refine V_throwSW 0 10 (by decide) (by decide) rfl rfl rfl rfl rfl (Nat.le_of_ble_eq_true rfl) (Nat.le_of_ble_eq_true rfl) dX8_checkPair_14 dX8_checkPair_17 dX8_checkPair_18 dX8_checkPair_21 dX8_checkPair_24 ?_
    exact ⟨rfl, rfl⟩
  · refine V_iload_n 1 dX8_checkPair_7 rfl ?_
    refine C_X8_412 rfl ⟨Nat.le_of_ble_eq_true rfl, Nat.le_of_ble_eq_true rfl⟩ (r_isParish _) rfl (Nat.le_of_ble_eq_true rfl) dX8_checkPair_8 rfl ?_
    refine V_if_ne (tgt := 25) dX8_checkPair_11 (by decide) (fun c11 => ?_) (fun c11 => ?_)
    · rcases h with h | h
      exact absurd (by rw [h]; rfl) c4
      exact absurd (by rw [h]; rfl) c11
    · refine V_throwSW 0 10 (by decide) (by decide) rfl rfl rfl rfl rfl (Nat.le_of_ble_eq_true rfl) (Nat.le_of_ble_eq_true rfl) dX8_checkPair_14 dX8_checkPair_17 dX8_checkPair_18 dX8_checkPair_21 dX8_checkPair_24 ?_
      exact ⟨rfl, rfl⟩
set_option maxRecDepth 20000 in
theorem r_checkPair_same {g : GE} {M : Mem} {sz : Nat} {p q : Int32} (h1 : isP p = true) (h2 : isP q = true) (h3 : p = q) : Run g m_X8_checkPair [.int p, .int q] M sz 1 6 (Thr (exN 1) M) := by
  refine Run.of rfl (by decide) (Nat.le_of_ble_eq_true rfl) ?_
  show V g m_X8_checkPair 0 _ [] _ _ _ _ _
  refine V_iload_n 0 dX8_checkPair_0 rfl ?_
  refine C_X8_412 rfl ⟨Nat.le_of_ble_eq_true rfl, Nat.le_of_ble_eq_true rfl⟩ (r_isParish _) rfl (Nat.le_of_ble_eq_true rfl) dX8_checkPair_1 rfl ?_
  refine V_if_eq (tgt := 14) dX8_checkPair_4 (by decide) (fun c4 => absurd c4 (by rw [h1]; decide)) (fun c4 => ?_)
  refine V_iload_n 1 dX8_checkPair_7 rfl ?_
  refine C_X8_412 rfl ⟨Nat.le_of_ble_eq_true rfl, Nat.le_of_ble_eq_true rfl⟩ (r_isParish _) rfl (Nat.le_of_ble_eq_true rfl) dX8_checkPair_8 rfl ?_
  refine V_if_ne (tgt := 25) dX8_checkPair_11 (by decide) (fun c11 => ?_) (fun c11 => absurd c11 (by rw [h2]; decide))
  refine V_iload_n 0 dX8_checkPair_25 rfl ?_
  refine V_pc (pc2 := 26) rfl ?_
  refine V_iload_n 1 dX8_checkPair_26 rfl ?_
  refine V_icmp_ne (tgt := 41) dX8_checkPair_27 (by decide) (fun c27 => absurd h3 c27) (fun c27 => ?_)
  refine V_throwSW 1 11 (by decide) (by decide) rfl rfl rfl rfl rfl (Nat.le_of_ble_eq_true rfl) (Nat.le_of_ble_eq_true rfl) dX8_checkPair_30 dX8_checkPair_33 dX8_checkPair_34 dX8_checkPair_37 dX8_checkPair_40 ?_
  exact ⟨rfl, rfl⟩
set_option maxRecDepth 20000 in
theorem r_checkRange_ok {g : GE} {M : Mem} {sz : Nat} {v l m : Int32} (h1 : ¬ v < l) (h2 : v ≤ m) : Run g m_X8_checkRange [.int v, .int l, .int m] M sz 0 0 (Ret none M) := by
  refine Run.of rfl (by decide) (Nat.le_of_ble_eq_true rfl) ?_
  show V g m_X8_checkRange 0 _ [] _ _ _ _ _
  refine V_iload_n 0 dX8_checkRange_0 rfl ?_
  refine V_iload_n 1 dX8_checkRange_1 rfl ?_
  refine V_icmp_lt (tgt := 10) dX8_checkRange_2 (by decide) (fun c2 => absurd c2 h1) (fun c2 => ?_)
  refine V_iload_n 0 dX8_checkRange_5 rfl ?_
  refine V_iload_n 2 dX8_checkRange_6 rfl ?_
  refine V_icmp_le (tgt := 21) dX8_checkRange_7 (by decide) (fun c7 => ?_) (fun c7 => absurd h2 c7)
  refine V_ret (st := []) dX8_checkRange_21 rfl ?_
  exact ⟨rfl, rfl⟩
set_option maxRecDepth 20000 in
theorem r_checkRange_bad {g : GE} {M : Mem} {sz : Nat} {v l m : Int32} (h : v < l ∨ ¬ v ≤ m) : Run g m_X8_checkRange [.int v, .int l, .int m] M sz 1 6 (Thr (exN 1) M) := by
  refine Run.of rfl (by decide) (Nat.le_of_ble_eq_true rfl) ?_
  show V g m_X8_checkRange 0 _ [] _ _ _ _ _
  refine V_iload_n 0 dX8_checkRange_0 rfl ?_
  refine V_iload_n 1 dX8_checkRange_1 rfl ?_
  refine V_icmp_lt (tgt := 10) dX8_checkRange_2 (by decide) (fun c2 => ?_) (fun c2 => ?_)
  · refine V_throwSW 1 13 (by decide) (by decide) rfl rfl rfl rfl rfl (Nat.le_of_ble_eq_true rfl) (Nat.le_of_ble_eq_true rfl) dX8_checkRange_10 dX8_checkRange_13 dX8_checkRange_14 dX8_checkRange_17 dX8_checkRange_20 ?_
    exact ⟨rfl, rfl⟩
  · refine V_iload_n 0 dX8_checkRange_5 rfl ?_
    refine V_iload_n 2 dX8_checkRange_6 rfl ?_
    refine V_icmp_le (tgt := 21) dX8_checkRange_7 (by decide) (fun c7 => ?_) (fun c7 => ?_)
    · rcases h with h | h
      exact absurd h c2
      exact absurd c7 h
    · refine V_throwSW 1 13 (by decide) (by decide) rfl rfl rfl rfl rfl (Nat.le_of_ble_eq_true rfl) (Nat.le_of_ble_eq_true rfl) dX8_checkRange_10 dX8_checkRange_13 dX8_checkRange_14 dX8_checkRange_17 dX8_checkRange_20 ?_
      exact ⟨rfl, rfl⟩
set_option maxRecDepth 20000 in
theorem r_ringSize {g : GE} {M : Mem} {sz : Nat} {p : Int32} (r : Nat) (hp : p = nI r) (hr : r < 37) : Run g m_X8_ringSize [.int p] M sz 0 0 (Ret (some (.int (nI (rSz r)))) M) := by
  subst hp
  have h10 : (10 : Int32) ≤ nI r ↔ 10 ≤ r := nI_leI (by decide) (by omega)
  have h25 : (25 : Int32) ≤ nI r ↔ 25 ≤ r := nI_leI (by decide) (by omega)
  refine Run.of rfl (by decide) (Nat.le_of_ble_eq_true rfl) ?_
  show V g m_X8_ringSize 0 _ [] _ _ _ _ _
  refine V_iload_n 0 dX8_ringSize_0 rfl ?_
  refine V_bipush (v := 10) dX8_ringSize_1 (by decide) ?_
  refine V_icmp_ge (tgt := 8) dX8_ringSize_3 (by decide) (fun c3 => ?_) (fun c3 => ?_)
  · refine V_iload_n 0 dX8_ringSize_8 rfl ?_
    refine V_bipush (v := 25) dX8_ringSize_9 (by decide) ?_
    refine V_icmp_ge (tgt := 18) dX8_ringSize_11 (by decide) (fun c11 => ?_) (fun c11 => ?_)
    · refine V_iconst (v := 5) dX8_ringSize_18 rfl ?_
      refine V_iret (st := []) dX8_ringSize_19 rfl ?_
      refine ⟨?_, rfl⟩; unfold rSz; first | (rw [if_pos (by rw [h10] at c3; omega)]; rfl) | (rw [if_neg (by rw [h10] at c3; omega), if_pos (by rw [h25] at c11; omega)]; rfl) | (rw [if_neg (by rw [h10] at c3; omega), if_neg (by rw [h25] at c11; omega)]; rfl)
    · refine V_iconst (v := 4) dX8_ringSize_14 rfl ?_
      refine V_goto (tgt := 19) dX8_ringSize_15 (by decide) ?_
      refine V_iret (st := []) dX8_ringSize_19 rfl ?_
      refine ⟨?_, rfl⟩; unfold rSz; first | (rw [if_pos (by rw [h10] at c3; omega)]; rfl) | (rw [if_neg (by rw [h10] at c3; omega), if_pos (by rw [h25] at c11; omega)]; rfl) | (rw [if_neg (by rw [h10] at c3; omega), if_neg (by rw [h25] at c11; omega)]; rfl)
  · refine V_iconst (v := 3) dX8_ringSize_6 rfl ?_
    refine V_iret (st := []) dX8_ringSize_7 rfl ?_
    refine ⟨?_, rfl⟩; unfold rSz; first | (rw [if_pos (by rw [h10] at c3; omega)]; rfl) | (rw [if_neg (by rw [h10] at c3; omega), if_pos (by rw [h25] at c11; omega)]; rfl) | (rw [if_neg (by rw [h10] at c3; omega), if_neg (by rw [h25] at c11; omega)]; rfl)
theorem imin_nI {a b : Nat} (ha : a < 2 ^ 31) (hb : b < 2 ^ 31) : imin (nI a) (nI b) = nI (min a b) := by
  unfold imin
  by_cases h : a ≤ b
  · rw [if_pos (nI_le h hb), Nat.min_eq_left h]
  · rw [if_neg (nI_ge (by omega) ha), Nat.min_eq_right (by omega)]
theorem imax_nI {a b : Nat} (ha : a < 2 ^ 31) (hb : b < 2 ^ 31) : imax (nI a) (nI b) = nI (max a b) := by
  unfold imax
  by_cases h : a < b
  · rw [if_pos (nI_lt h hb), Nat.max_eq_right (by omega)]
  · rw [if_neg (nI_nlt (by omega) ha), Nat.max_eq_left (by omega)]
theorem bitOf_eq : ∀ a b, a < 5 → b < 5 → (1 : Int32) <<< ((nI (min a b) * 5 + nI (max a b)) &&& 31) = nI (2 ^ pbit a b) := by
  have h : ((List.range 5).all fun a => (List.range 5).all fun b => decide ((1 : Int32) <<< ((nI (min a b) * 5 + nI (max a b)) &&& 31) = nI (2 ^ pbit a b))) = true := by decide +kernel
  intro a b ha hb
  exact of_decide_eq_true (all_lt (all_lt h a ha) b hb)
set_option maxRecDepth 20000 in
theorem r_bitOf {g : GE} {M : Mem} {sz : Nat} {p q : Int32} (a b : Nat) (hp : p = nI a) (hq : q = nI b) (ha : a < 5) (hb : b < 5) : Run g m_X8_bitOf [.int p, .int q] M sz 0 0 (Ret (some (.int (nI (2 ^ pbit a b)))) M) := by
  subst hp hq
  refine Run.of rfl (by decide) (Nat.le_of_ble_eq_true rfl) ?_
  show V g m_X8_bitOf 0 _ [] _ _ _ _ _
  refine V_iconst (v := 1) dX8_bitOf_0 rfl ?_
  refine V_iload_n 0 dX8_bitOf_1 rfl ?_
  refine V_iload_n 1 dX8_bitOf_2 rfl ?_
  refine C_X8_435 rfl ⟨Nat.le_of_ble_eq_true rfl, Nat.le_of_ble_eq_true rfl⟩ (r_imin _ _) rfl (Nat.le_of_ble_eq_true rfl) dX8_bitOf_3 rfl ?_
  refine V_iconst (v := 5) dX8_bitOf_6 rfl ?_
  refine V_imul dX8_bitOf_7 ?_
  refine V_iload_n 0 dX8_bitOf_8 rfl ?_
  refine V_pc (pc2 := 9) rfl ?_
  refine V_iload_n 1 dX8_bitOf_9 rfl ?_
  refine C_X8_208 rfl ⟨Nat.le_of_ble_eq_true rfl, Nat.le_of_ble_eq_true rfl⟩ (r_imax _ _) rfl (Nat.le_of_ble_eq_true rfl) dX8_bitOf_10 rfl ?_
  refine V_iadd dX8_bitOf_13 ?_
  refine V_ishl dX8_bitOf_14 ?_
  refine V_iret (st := []) dX8_bitOf_15 rfl ?_
  rw [imin_nI (by omega) (by omega), imax_nI (by omega) (by omega), bitOf_eq a b ha hb]; exact ⟨rfl, rfl⟩
/-- a row of numbers, the first i by another -/
def rowN (f h : Nat → Int32) (i : Nat) : Nat → Int32 := fun k => if k < i then f k else h k
theorem rowN_0 (f h : Nat → Int32) : rowN f h 0 = h := by funext k; unfold rowN; rw [if_neg (Nat.not_lt_zero k)]
theorem rowN_s (f h : Nat → Int32) (i : Nat) : upd (rowN f h i) i (f i) = rowN f h (i + 1) := by
  funext k
  unfold upd rowN
  by_cases hk : k = i
  · subst hk; rw [if_pos rfl, if_pos (Nat.lt_succ_self k)]
  · rw [if_neg hk]
    by_cases h2 : k < i
    · rw [if_pos h2, if_pos (by omega)]
    · rw [if_neg h2, if_neg (by omega)]
theorem mup_mup (M : Mem) (k : Nat) (e e2 : va_E) : mup (mup M k e) k e2 = mup M k e2 := by
  funext j
  unfold mup
  split <;> rfl
theorem mup_self {M : Mem} {k : Nat} {e : va_E} (h : M k = some e) : mup M k e = M := by
  funext j
  unfold mup
  split
  · rename_i hj; rw [hj, h]
  · rfl
set_option maxRecDepth 20000 in
theorem r_copyRow {g : GE} {M : Mem} {sz : Nat} {a b n : Nat} {f h : Nat → Int32} (ha : M a = some (eI g n f)) (hb : M b = some (eI g n h)) (hab : a ≠ b) (hn : n < 2 ^ 31) : Run g m_X8_copyRow [rf g a, rf g b] M sz 0 0 (Ret none (mup M b (eI g n f))) := by
  have L : ∀ m i : Nat, i + m = n → V g m_X8_copyRow 11 [(2, .int (nI i)), (0, rf g a), (1, rf g b)] [] (mup M b (eI g n (rowN f h i))) sz 0 0 (Ret none (mup M b (eI g n f))) := by
    intro m
    induction m with
    | zero =>
      intro i hi
      obtain rfl : i = n := by omega
      refine V_iload_n 0 dX8_copyRow_11 rfl ?_
      refine V_aload_n 1 dX8_copyRow_12 rfl ?_
      refine V_alenI (by rw [mup_ne M _ hab]; exact ha) rfl dX8_copyRow_13 ?_
      refine V_icmp_ge (tgt := 35) dX8_copyRow_14 (by decide) (fun c14 => ?_) (fun c14 => absurd (nI_le (Nat.le_refl _) hn) c14)
      exact V_ext (f2 := f) (mup_eq _ _ _) (fun k hk => if_pos hk) (by rw [mup_mup]; exact V_ret (st := []) dX8_copyRow_35 rfl ⟨rfl, rfl⟩)
    | succ m ih =>
      intro i hi
      have hlt : i < n := by omega
      refine V_iload_n 0 dX8_copyRow_11 rfl ?_
      refine V_aload_n 1 dX8_copyRow_12 rfl ?_
      refine V_alenI (by rw [mup_ne M _ hab]; exact ha) rfl dX8_copyRow_13 ?_
      refine V_icmp_ge (tgt := 35) dX8_copyRow_14 (by decide) (fun c14 => absurd c14 (nI_ge hlt hn)) (fun c14 => ?_)
      refine V_iload_n 0 dX8_copyRow_17 rfl ?_
      refine V_aload_n 2 dX8_copyRow_18 rfl ?_
      refine V_alenI (mup_eq _ _ _) rfl dX8_copyRow_19 ?_
      refine V_pc (pc2 := 20) rfl ?_
      refine V_icmp_ge (tgt := 35) dX8_copyRow_20 (by decide) (fun c20 => absurd c20 (nI_ge hlt hn)) (fun c20 => ?_)
      refine V_aload_n 2 dX8_copyRow_23 rfl ?_
      refine V_iload_n 0 dX8_copyRow_24 rfl ?_
      refine V_aload_n 1 dX8_copyRow_25 rfl ?_
      refine V_iload_n 0 dX8_copyRow_26 rfl ?_
      refine V_iald (by rw [mup_ne M _ hab]; exact ha) (vp_in_nI hlt hn) dX8_copyRow_27 ?_
      refine V_iast (mup_eq _ _ _) (vp_in_nI hlt hn) dX8_copyRow_28 ?_
      refine V_iinc (v := _ + 1) (lv2 := [(2, .int _), (0, .ref _), (1, .ref _)]) 0 dX8_copyRow_29 rfl rfl (Nat.le_of_ble_eq_true rfl) rfl ?_
      refine V_pc (pc2 := 32) rfl ?_
      refine V_goto (tgt := 11) dX8_copyRow_32 (by decide) ?_
      refine V_lv (lv2 := [(2, .int _), (0, .ref _), (1, .ref _)]) [0, 1, 2] rfl ?_
      rw [nI_1, nI_clamp (by omega), mup_mup, rowN_s]
      exact ih (i + 1) (by omega)
  refine Run.of rfl (by decide) (Nat.le_of_ble_eq_true rfl) ?_
  show V g m_X8_copyRow 0 _ [] _ _ _ _ _
  refine V_aload_n 0 dX8_copyRow_0 rfl ?_
  refine V_ifnull dX8_copyRow_1 ?_
  refine V_aload_n 1 dX8_copyRow_4 rfl ?_
  refine V_ifnonnull (tgt := 9) dX8_copyRow_5 (by decide) ?_
  refine V_iconst (v := 0) dX8_copyRow_9 rfl ?_
  refine V_istore_n (lv2 := [(2, .int _), (0, .ref _), (1, .ref _)]) dX8_copyRow_10 (Nat.le_of_ble_eq_true rfl) rfl ?_
  have e := L n 0 (by omega)
  rw [rowN_0, mup_self hb] at e
  exact e
/-- a Tables object at t, its row behind it -/
def TW (g : GE) (M : Mem) (t : Nat) (f : Nat → Int32) (p : Int32) : Prop := M t = some (eO 4 [rf g (t + 1), .int p]) ∧ M (t + 1) = some (eI g 25 f)
theorem ix5 {a b : Nat} (ha : a < 5) (hb : b < 5) : nI a * 5 + nI b = nI (5 * a + b) := by
  rw [show (5 : Int32) = nI 5 from rfl, pk_mul, nI_add, Nat.mul_comm]
set_option maxRecDepth 20000 in
theorem r_up {g : GE} {M : Mem} {sz : Nat} {t : Nat} {f : Nat → Int32} {p : Int32} (hT : TW g M t f p) {x y : Int32} (a b : Nat) (hx : x = nI a) (hy : y = nI b) (ha : a < 5) (hb : b < 5) : Run g m_X4_up [rf g t, .int x, .int y] M sz 0 0 (Ret (some (.int (f (5 * a + b)))) M) := by
  subst hx hy
  have h25 : 5 * a + b < 25 := by omega
  obtain ⟨hT1, hT2⟩ := hT
  refine Run.of rfl (by decide) (Nat.le_of_ble_eq_true rfl) ?_
  show V g m_X4_up 0 _ [] _ _ _ _ _
  refine V_iload_n 1 dX4_up_0 rfl ?_
  refine V_if_lt (tgt := 18) dX4_up_1 (by decide) (fun c1 => absurd c1 (nI_pos (by omega))) (fun c1 => ?_)
  refine V_iload_n 1 dX4_up_4 rfl ?_
  refine V_iconst (v := 5) dX4_up_5 rfl ?_
  refine V_icmp_ge (tgt := 18) dX4_up_6 (by decide) (fun c6 => absurd c6 (nI_ge (b := 5) ha (by decide))) (fun c6 => ?_)
  refine V_iload_n 2 dX4_up_9 rfl ?_
  refine V_if_lt (tgt := 18) dX4_up_10 (by decide) (fun c10 => absurd c10 (nI_pos (by omega))) (fun c10 => ?_)
  refine V_pc (pc2 := 13) rfl ?_
  refine V_iload_n 2 dX4_up_13 rfl ?_
  refine V_iconst (v := 5) dX4_up_14 rfl ?_
  refine V_icmp_lt (tgt := 20) dX4_up_15 (by decide) (fun c15 => ?_) (fun c15 => absurd (nI_lt (b := 5) hb (by decide)) c15)
  refine V_iload_n 1 dX4_up_20 rfl ?_
  refine V_iconst (v := 5) dX4_up_21 rfl ?_
  refine V_imul dX4_up_22 ?_
  refine V_iload_n 2 dX4_up_23 rfl ?_
  refine V_iadd dX4_up_24 ?_
  refine V_pc (pc2 := 25) rfl ?_
  refine V_istore_n (lv2 := [(3, .int _), (0, .ref _), (1, .int _), (2, .int _)]) dX4_up_25 (Nat.le_of_ble_eq_true rfl) rfl ?_
  refine V_iload_n 0 dX4_up_26 rfl ?_
  refine V_if_lt (tgt := 48) dX4_up_27 (by decide) (fun c27 => absurd c27 (by rw [ix5 ha hb]; exact nI_pos (by omega))) (fun c27 => ?_)
  refine V_iload_n 0 dX4_up_30 rfl ?_
  refine V_aload_n 1 dX4_up_31 rfl ?_
  refine G_X4_9 rfl hT1 rfl dX4_up_32 ?_
  refine V_alenI hT2 rfl dX4_up_35 ?_
  refine V_icmp_ge (tgt := 48) dX4_up_36 (by decide) (fun c36 => absurd c36 (by rw [ix5 ha hb]; exact nI_ge (b := 25) h25 (by decide))) (fun c36 => ?_)
  refine V_pc (pc2 := 39) rfl ?_
  refine V_aload_n 1 dX4_up_39 rfl ?_
  refine G_X4_9 rfl hT1 rfl dX4_up_40 ?_
  refine V_iload_n 0 dX4_up_43 rfl ?_
  refine V_iald hT2 (by rw [ix5 ha hb]; exact vp_in_nI h25 (by decide)) dX4_up_44 ?_
  refine V_goto (tgt := 49) dX4_up_45 (by decide) ?_
  refine V_iret (st := []) dX4_up_49 rfl ?_
  rw [ix5 ha hb, nI_clamp (by omega)]; exact ⟨rfl, rfl⟩
set_option maxRecDepth 20000 in
theorem r_has {g : GE} {M : Mem} {sz : Nat} {t : Nat} {f : Nat → Int32} {p : Int32} (hT : TW g M t f p) {x y : Int32} (a b : Nat) (hx : x = nI a) (hy : y = nI b) (ha : a < 5) (hb : b < 5) : Run g m_X4_has [rf g t, .int x, .int y] M sz 0 0 (Ret (some (.int (bI (decide (0 < f (5 * a + b)))))) M) := by
  refine Run.of rfl (by decide) (Nat.le_of_ble_eq_true rfl) ?_
  show V g m_X4_has 0 _ [] _ _ _ _ _
  refine V_aload_n 0 dX4_has_0 rfl ?_
  refine V_iload_n 1 dX4_has_1 rfl ?_
  refine V_iload_n 2 dX4_has_2 rfl ?_
  refine C_X4_23 hT.1 rfl ⟨Nat.le_of_ble_eq_true rfl, Nat.le_of_ble_eq_true rfl⟩ (r_up hT a b hx hy ha hb) rfl (Nat.le_of_ble_eq_true rfl) dX4_has_3 rfl ?_
  refine V_if_le (tgt := 13) dX4_has_6 (by decide) (fun c6 => ?_) (fun c6 => ?_)
  · refine V_iconst (v := 0) dX4_has_13 rfl ?_
    refine V_zret (st := []) dX4_has_14 rfl (by simp) ?_
    exact ⟨by rw [decide_eq_false (Int32.not_lt.mpr c6)]; rfl, rfl⟩
  · refine V_iconst (v := 1) dX4_has_9 rfl ?_
    refine V_goto (tgt := 14) dX4_has_10 (by decide) ?_
    refine V_zret (st := []) dX4_has_14 rfl (by simp) ?_
    exact ⟨by rw [decide_eq_true (Int32.not_le.mp c6)]; rfl, rfl⟩
set_option maxRecDepth 20000 in
theorem r_size {g : GE} {M : Mem} {sz : Nat} {t : Nat} {f : Nat → Int32} {p : Int32} (hT : TW g M t f p) : Run g m_X4_size [rf g t] M sz 0 0 (Ret (some (.int (popc p))) M) := by
  refine Run.of rfl (by decide) (Nat.le_of_ble_eq_true rfl) ?_
  show V g m_X4_size 0 _ [] _ _ _ _ _
  refine V_aload_n 0 dX4_size_0 rfl ?_
  refine G_X4_15 rfl hT.1 rfl dX4_size_1 ?_
  refine C_X4_27 rfl ⟨Nat.le_of_ble_eq_true rfl, Nat.le_of_ble_eq_true rfl⟩ (r_bitCount _) rfl (Nat.le_of_ble_eq_true rfl) dX4_size_4 rfl ?_
  refine V_iret (st := []) dX4_size_7 rfl ?_
  exact ⟨rfl, rfl⟩
set_option maxRecDepth 20000 in
theorem r_tcopy {g : GE} {M : Mem} {sz : Nat} {t u : Nat} {f h : Nat → Int32} {p q : Int32} (hT : TW g M t f p) (hU : TW g M u h q) (htu : t ≠ u ∧ t + 1 ≠ u ∧ t ≠ u + 1) : Run g m_X4_copy [rf g t, rf g u] M sz 0 0 (Ret none (mup (mup M (t + 1) (eI g 25 h)) t (eO 4 [rf g (t + 1), .int q]))) := by
  refine Run.of rfl (by decide) (Nat.le_of_ble_eq_true rfl) ?_
  show V g m_X4_copy 0 _ [] _ _ _ _ _
  refine V_aload_n 1 dX4_copy_0 rfl ?_
  refine G_X4_9 rfl hU.1 rfl dX4_copy_1 ?_
  refine V_aload_n 0 dX4_copy_4 rfl ?_
  refine G_X4_9 rfl hT.1 rfl dX4_copy_5 ?_
  refine C_X4_19 rfl ⟨Nat.le_of_ble_eq_true rfl, Nat.le_of_ble_eq_true rfl⟩ (r_copyRow hU.2 hT.2 (by omega) (by decide)) rfl (Nat.le_of_ble_eq_true rfl) dX4_copy_8 rfl ?_
  refine V_aload_n 0 dX4_copy_11 rfl ?_
  refine V_aload_n 1 dX4_copy_12 rfl ?_
  refine V_pc (pc2 := 13) rfl ?_
  refine G_X4_15 rfl (by rw [mup_ne M _ (by omega)]; exact hU.1) rfl dX4_copy_13 ?_
  refine P_X4_15 rfl (by rw [mup_ne M _ (by omega)]; exact hT.1) (Nat.le_of_ble_eq_true rfl) rfl rfl dX4_copy_16 ?_
  refine V_ret (st := []) dX4_copy_19 rfl ?_
  exact ⟨rfl, rfl⟩
