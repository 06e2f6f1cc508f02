/-! leaves: rows, tests of arguments, numbers -/
set_option maxRecDepth 20000 in
theorem r_at {g : GE} {M : Mem} {sz : Nat} {a n : Nat} {f : Nat → Int32} {p : Int32} (hM : M a = some (eI g n f)) (i : Nat) (hp : p = nI i) (hi : i < n) (hn : n < 2 ^ 31) : Run g m_X8_at [rf g a, .int p] M sz 0 0 (Ret (some (.int (f i))) M) := by
  subst hp
  refine Run.of rfl (by decide) (Nat.le_of_ble_eq_true rfl) ?_
  show V g m_X8_at 0 _ [] _ _ _ _ _
  refine V_aload_n 0 dX8_at_0 rfl ?_
  refine V_ifnull dX8_at_1 ?_
  refine V_iload_n 1 dX8_at_4 rfl ?_
  refine V_if_lt (tgt := 20) dX8_at_5 (by decide) (fun c5 => absurd c5 (nI_pos (by omega))) (fun c5 => ?_)
  refine V_iload_n 1 dX8_at_8 rfl ?_
  refine V_aload_n 0 dX8_at_9 rfl ?_
  refine V_alenI hM rfl dX8_at_10 ?_
  refine V_pc (pc2 := 11) rfl ?_
  refine V_icmp_ge (tgt := 20) dX8_at_11 (by decide) (fun c11 => absurd c11 (nI_ge hi hn)) (fun c11 => ?_)
  refine V_aload_n 0 dX8_at_14 rfl ?_
  refine V_iload_n 1 dX8_at_15 rfl ?_
  refine V_iald hM (vp_in_nI hi hn) dX8_at_16 ?_
  refine V_goto (tgt := 21) dX8_at_17 (by decide) ?_
  refine V_iret (st := []) dX8_at_21 rfl ?_
  rw [nI_clamp (by omega)]; exact ⟨rfl, rfl⟩
set_option maxRecDepth 20000 in
theorem r_longAt {g : GE} {M : Mem} {sz : Nat} {a n : Nat} {f : Nat → Int64} {p : Int32} (hM : M a = some (eJ g n f)) (i : Nat) (hp : p = nI i) (hi : i < n) (hn : n < 2 ^ 31) : Run g m_X8_longAt [rf g a, .int p] M sz 0 0 (Ret (some (.long (f i))) M) := by
  subst hp
  refine Run.of rfl (by decide) (Nat.le_of_ble_eq_true rfl) ?_
  show V g m_X8_longAt 0 _ [] _ _ _ _ _
  refine V_aload_n 0 dX8_longAt_0 rfl ?_
  refine V_ifnull dX8_longAt_1 ?_
  refine V_iload_n 1 dX8_longAt_4 rfl ?_
  refine V_if_lt (tgt := 20) dX8_longAt_5 (by decide) (fun c5 => absurd c5 (nI_pos (by omega))) (fun c5 => ?_)
  refine V_iload_n 1 dX8_longAt_8 rfl ?_
  refine V_aload_n 0 dX8_longAt_9 rfl ?_
  refine V_alenJ hM rfl dX8_longAt_10 ?_
  refine V_pc (pc2 := 11) rfl ?_
  refine V_icmp_ge (tgt := 20) dX8_longAt_11 (by decide) (fun c11 => absurd c11 (nI_ge hi hn)) (fun c11 => ?_)
  refine V_aload_n 0 dX8_longAt_14 rfl ?_
  refine V_iload_n 1 dX8_longAt_15 rfl ?_
  refine V_lald hM (vp_in_nI hi hn) dX8_longAt_16 ?_
  refine V_goto (tgt := 21) dX8_longAt_17 (by decide) ?_
  refine V_lret (st := []) dX8_longAt_21 rfl ?_
  rw [nI_clamp (by omega)]; exact ⟨rfl, rfl⟩
set_option maxRecDepth 20000 in
theorem r_put {g : GE} {M : Mem} {sz : Nat} {a n : Nat} {f : Nat → Int32} {p : Int32} {x : Int32} (hM : M a = some (eI g n f)) (i : Nat) (hp : p = nI i) (hi : i < n) (hn : n < 2 ^ 31) : Run g m_X8_put [rf g a, .int p, .int x] M sz 0 0 (Ret none (mup M a (eI g n (upd f i x)))) := by
  subst hp
  refine Run.of rfl (by decide) (Nat.le_of_ble_eq_true rfl) ?_
  show V g m_X8_put 0 _ [] _ _ _ _ _
  refine V_aload_n 0 dX8_put_0 rfl ?_
  refine V_ifnull dX8_put_1 ?_
  refine V_iload_n 1 dX8_put_4 rfl ?_
  refine V_if_lt (tgt := 18) dX8_put_5 (by decide) (fun c5 => absurd c5 (nI_pos (by omega))) (fun c5 => ?_)
  refine V_iload_n 1 dX8_put_8 rfl ?_
  refine V_aload_n 0 dX8_put_9 rfl ?_
  refine V_alenI hM rfl dX8_put_10 ?_
  refine V_pc (pc2 := 11) rfl ?_
  refine V_icmp_ge (tgt := 18) dX8_put_11 (by decide) (fun c11 => absurd c11 (nI_ge hi hn)) (fun c11 => ?_)
  refine V_aload_n 0 dX8_put_14 rfl ?_
  refine V_iload_n 1 dX8_put_15 rfl ?_
  refine V_iload_n 2 dX8_put_16 rfl ?_
  refine V_iast hM (vp_in_nI hi hn) dX8_put_17 ?_
  refine V_ret (st := []) dX8_put_18 rfl ?_
  rw [nI_clamp (by omega)]; exact ⟨rfl, rfl⟩
set_option maxRecDepth 20000 in
theorem r_putLong {g : GE} {M : Mem} {sz : Nat} {a n : Nat} {f : Nat → Int64} {p : Int32} {x : Int64} (hM : M a = some (eJ g n f)) (i : Nat) (hp : p = nI i) (hi : i < n) (hn : n < 2 ^ 31) : Run g m_X8_putLong [rf g a, .int p, .long x] M sz 0 0 (Ret none (mup M a (eJ g n (vp_updL f i x)))) := by
  subst hp
  refine Run.of rfl (by decide) (Nat.le_of_ble_eq_true rfl) ?_
  show V g m_X8_putLong 0 _ [] _ _ _ _ _
  refine V_aload_n 0 dX8_putLong_0 rfl ?_
  refine V_ifnull dX8_putLong_1 ?_
  refine V_iload_n 1 dX8_putLong_4 rfl ?_
  refine V_if_lt (tgt := 18) dX8_putLong_5 (by decide) (fun c5 => absurd c5 (nI_pos (by omega))) (fun c5 => ?_)
  refine V_iload_n 1 dX8_putLong_8 rfl ?_
  refine V_aload_n 0 dX8_putLong_9 rfl ?_
  refine V_alenJ hM rfl dX8_putLong_10 ?_
  refine V_pc (pc2 := 11) rfl ?_
  refine V_icmp_ge (tgt := 18) dX8_putLong_11 (by decide) (fun c11 => absurd c11 (nI_ge hi hn)) (fun c11 => ?_)
  refine V_aload_n 0 dX8_putLong_14 rfl ?_
  refine V_iload_n 1 dX8_putLong_15 rfl ?_
  refine V_lload_n 2 dX8_putLong_16 rfl ?_
  refine V_last hM (vp_in_nI hi hn) dX8_putLong_17 ?_
  refine V_ret (st := []) dX8_putLong_18 rfl ?_
  rw [nI_clamp (by omega)]; exact ⟨rfl, rfl⟩
set_option maxRecDepth 20000 in
theorem r_atR {g : GE} {M : Mem} {sz : Nat} {p : Int32} (i : Nat) (hp : p = nI i) (hi : i < 37) : Run g m_X8_at [.ref (gR g), .int p] M sz 0 0 (Ret (some (.int (ringsF i))) M) := by
  subst hp
  refine Run.of rfl (by decide) (Nat.le_of_ble_eq_true rfl) ?_
  show V g m_X8_at 0 _ [] _ _ _ _ _
  refine V_aload_n 0 dX8_at_0 rfl ?_
  refine V_ifnull dX8_at_1 ?_
  refine V_iload_n 1 dX8_at_4 rfl ?_
  refine V_if_lt (tgt := 20) dX8_at_5 (by decide) (fun c5 => absurd c5 (nI_pos (by omega))) (fun c5 => ?_)
  refine V_iload_n 1 dX8_at_8 rfl ?_
  refine V_aload_n 0 dX8_at_9 rfl ?_
  refine V_tlenR dX8_at_10 ?_
  refine V_pc (pc2 := 11) rfl ?_
  refine V_icmp_ge (tgt := 20) dX8_at_11 (by decide) (fun c11 => absurd c11 (nI_ge hi (by decide))) (fun c11 => ?_)
  refine V_aload_n 0 dX8_at_14 rfl ?_
  refine V_iload_n 1 dX8_at_15 rfl ?_
  refine V_taldR (vp_in_nI hi (by decide)) dX8_at_16 ?_
  refine V_goto (tgt := 21) dX8_at_17 (by decide) ?_
  refine V_iret (st := []) dX8_at_21 rfl ?_
  rw [nI_clamp (by omega)]; exact ⟨rfl, rfl⟩
set_option maxRecDepth 20000 in
theorem r_atM {g : GE} {M : Mem} {sz : Nat} {p : Int32} (i : Nat) (hp : p = nI i) (hi : i < 16) : Run g m_X8_at [.ref (gM g), .int p] M sz 0 0 (Ret (some (.int (middlesF i))) M) := by
  subst hp
  refine Run.of rfl (by decide) (Nat.le_of_ble_eq_true rfl) ?_
  show V g m_X8_at 0 _ [] _ _ _ _ _
  refine V_aload_n 0 dX8_at_0 rfl ?_
  refine V_ifnull dX8_at_1 ?_
  refine V_iload_n 1 dX8_at_4 rfl ?_
  refine V_if_lt (tgt := 20) dX8_at_5 (by decide) (fun c5 => absurd c5 (nI_pos (by omega))) (fun c5 => ?_)
  refine V_iload_n 1 dX8_at_8 rfl ?_
  refine V_aload_n 0 dX8_at_9 rfl ?_
  refine V_tlenM dX8_at_10 ?_
  refine V_pc (pc2 := 11) rfl ?_
  refine V_icmp_ge (tgt := 20) dX8_at_11 (by decide) (fun c11 => absurd c11 (nI_ge hi (by decide))) (fun c11 => ?_)
  refine V_aload_n 0 dX8_at_14 rfl ?_
  refine V_iload_n 1 dX8_at_15 rfl ?_
  refine V_taldM (vp_in_nI hi (by decide)) dX8_at_16 ?_
  refine V_goto (tgt := 21) dX8_at_17 (by decide) ?_
  refine V_iret (st := []) dX8_at_21 rfl ?_
  rw [nI_clamp (by omega)]; exact ⟨rfl, rfl⟩
def isP (p : Int32) : Bool := decide (0 ≤ p) && decide (p < 5)
theorem isP_t {p : Int32} (h1 : ¬ p < 0) (h2 : ¬ 5 ≤ p) : isP p = true := by
  have := Int32.not_lt.mp h1
  have := Int32.not_le.mp h2
  simp [isP, *]
theorem isP_f1 {p : Int32} (h : p < 0) : isP p = false := by
  have := Int32.not_le.mpr h
  simp [isP, *]
theorem isP_f2 {p : Int32} (h : 5 ≤ p) : isP p = false := by
  have := Int32.not_lt.mpr h
  simp [isP, *]
theorem isP_nI {i : Nat} (h : i < 5) : isP (nI i) = true := isP_t (nI_pos (by omega)) (fun h2 => absurd h2 (nI_ge (a := i) (b := 5) h (by decide)))
def bI (b : Bool) : Int32 := if b then 1 else 0
set_option maxRecDepth 20000 in
theorem r_isParish {g : GE} {M : Mem} {sz : Nat} (p : Int32) : Run g m_X8_isParish [.int p] M sz 0 0 (Ret (some (.int (bI (isP p)))) M) := by
  refine Run.of rfl (by decide) (Nat.le_of_ble_eq_true rfl) ?_
  show V g m_X8_isParish 0 _ [] _ _ _ _ _
  refine V_iload_n 0 dX8_isParish_0 rfl ?_
  refine V_if_lt (tgt := 13) dX8_isParish_1 (by decide) (fun c1 => ?_) (fun c1 => ?_)
  · refine V_iconst (v := 0) dX8_isParish_13 rfl ?_
    refine V_zret (st := []) dX8_isParish_14 rfl (by simp) ?_
    exact ⟨by rw [isP_f1 c1]; rfl, rfl⟩
  · refine V_iload_n 0 dX8_isParish_4 rfl ?_
    refine V_iconst (v := 5) dX8_isParish_5 rfl ?_
    refine V_icmp_ge (tgt := 13) dX8_isParish_6 (by decide) (fun c6 => ?_) (fun c6 => ?_)
    · refine V_iconst (v := 0) dX8_isParish_13 rfl ?_
      refine V_zret (st := []) dX8_isParish_14 rfl (by simp) ?_
      exact ⟨by rw [isP_f2 c6]; rfl, rfl⟩
    · refine V_iconst (v := 1) dX8_isParish_9 rfl ?_
      refine V_goto (tgt := 14) dX8_isParish_10 (by decide) ?_
      refine V_zret (st := []) dX8_isParish_14 rfl (by simp) ?_
      exact ⟨by rw [isP_t c1 c6]; rfl, rfl⟩
