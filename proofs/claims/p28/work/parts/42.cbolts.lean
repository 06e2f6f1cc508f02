/-! the class: bolts, yards -/
def FR (M M1 : Mem) (b n : Nat) : Prop := ∀ k, k < b ∨ b + n ≤ k → M1 k = M k
theorem FR.trans {M M1 M2 : Mem} {b n b1 n1 b2 n2 : Nat} (h : FR M M1 b1 n1) (h2 : FR M1 M2 b2 n2) (e : b ≤ b1 ∧ b1 + n1 ≤ b + n ∧ b ≤ b2 ∧ b2 + n2 ≤ b + n) : FR M M2 b n := fun k hk => (h2 k (by omega)).trans (h k (by omega))
theorem FR.refl (M : Mem) (b n : Nat) : FR M M b n := fun _ _ => rfl
theorem FR.put {M M1 : Mem} {b n k : Nat} {e : va_E} (h : FR M M1 b n) (hk : b ≤ k ∧ k < b + n) : FR M (mup M1 k e) b n := fun j hj => (mup_ne _ _ (by omega)).trans (h j hj)
/-- rows of a land -/
def bR (σ : Nat → Int32) (q : Nat) : Nat → Int32 := fun k => if k < 8 then σ (28 + 4 * k + q) else 0
def stR (σ : Nat → Int32) : Nat → Int32 := fun k => if k < 5 then σ (20 + k) else 0
def seR (σ : Nat → Int32) : Nat → Int32 := fun k => if k < 3 then σ (25 + k) else 0
theorem bR_upd {σ : Nat → Int32} {i q : Nat} {x : Int32} (hi : i < 8) : upd (bR σ q) i x = bR (upd σ (28 + 4 * i + q) x) q := by
  funext k
  by_cases hk : k = i
  · subst hk; unfold bR; rw [upd_at, if_pos hi, upd_at]
  · rw [upd_ne hk]
    unfold bR
    by_cases h8 : k < 8
    · rw [if_pos h8, if_pos h8, upd_ne (by omega)]
    · rw [if_neg h8, if_neg h8]
theorem bR_upd0 {σ : Nat → Int32} {i : Nat} {x : Int32} (hi : i < 8) : upd (bR σ 0) i x = bR (upd σ (28 + 4 * i) x) 0 := bR_upd hi
theorem bR_ne {σ : Nat → Int32} {j q : Nat} {x : Int32} (h : ∀ k, k < 8 → 28 + 4 * k + q ≠ j) : bR (upd σ j x) q = bR σ q := by
  funext k
  unfold bR
  by_cases h8 : k < 8
  · rw [if_pos h8, if_pos h8, upd_ne (h k h8)]
  · rw [if_neg h8, if_neg h8]
theorem bR_at {σ : Nat → Int32} {i q : Nat} (hi : i < 8) : bR σ q i = σ (28 + 4 * i + q) := if_pos hi
theorem stR_at {σ : Nat → Int32} {i : Nat} (hi : i < 5) : stR σ i = σ (20 + i) := if_pos hi
theorem seR_at {σ : Nat → Int32} {i : Nat} (hi : i < 3) : seR σ i = σ (25 + i) := if_pos hi
theorem stR_upd {σ : Nat → Int32} {i : Nat} {x : Int32} (hi : i < 5) : upd (stR σ) i x = stR (upd σ (20 + i) x) := by
  funext k
  by_cases hk : k = i
  · subst hk; unfold stR; rw [upd_at, if_pos hi, upd_at]
  · rw [upd_ne hk]
    unfold stR
    by_cases h8 : k < 5
    · rw [if_pos h8, if_pos h8, upd_ne (by omega)]
    · rw [if_neg h8, if_neg h8]
theorem seR_upd {σ : Nat → Int32} {i : Nat} {x : Int32} (hi : i < 3) : upd (seR σ) i x = seR (upd σ (25 + i) x) := by
  funext k
  by_cases hk : k = i
  · subst hk; unfold seR; rw [upd_at, if_pos hi, upd_at]
  · rw [upd_ne hk]
    unfold seR
    by_cases h8 : k < 3
    · rw [if_pos h8, if_pos h8, upd_ne (by omega)]
    · rw [if_neg h8, if_neg h8]
theorem stR_ne {σ : Nat → Int32} {j : Nat} {x : Int32} (h : j < 20 ∨ 25 ≤ j) : stR (upd σ j x) = stR σ := by
  funext k
  unfold stR
  by_cases h8 : k < 5
  · rw [if_pos h8, if_pos h8, upd_ne (by omega)]
  · rw [if_neg h8, if_neg h8]
theorem seR_ne {σ : Nat → Int32} {j : Nat} {x : Int32} (h : j < 25 ∨ 28 ≤ j) : seR (upd σ j x) = seR σ := by
  funext k
  unfold seR
  by_cases h8 : k < 3
  · rw [if_pos h8, if_pos h8, upd_ne (by omega)]
  · rw [if_neg h8, if_neg h8]
def BO (g : GE) (b : Nat) (z s t : Int32) : va_E := eO 0 [rf g (b + 1), rf g (b + 2), rf g (b + 3), rf g (b + 4), .int z, .int s, .int t]
/-- a Bolts object at b, its rows behind it -/
def BW (g : GE) (M : Mem) (b : Nat) (σ : Nat → Int32) : Prop := M b = some (BO g b (σ 60) (σ 62) (σ 61)) ∧ M (b + 1) = some (eI g 8 (bR σ 0)) ∧ M (b + 2) = some (eI g 8 (bR σ 1)) ∧ M (b + 3) = some (eI g 8 (bR σ 2)) ∧ M (b + 4) = some (eI g 8 (bR σ 3))
theorem BW.fr {g : GE} {M M1 : Mem} {b : Nat} {σ : Nat → Int32} (h : BW g M b σ) (e : ∀ k, b ≤ k → k < b + 5 → M1 k = M k) : BW g M1 b σ := ⟨(e _ (by omega) (by omega)).trans h.1, (e _ (by omega) (by omega)).trans h.2.1, (e _ (by omega) (by omega)).trans h.2.2.1, (e _ (by omega) (by omega)).trans h.2.2.2.1, (e _ (by omega) (by omega)).trans h.2.2.2.2⟩
/-- a row closed up -/
def shR (f : Nat → Int32) (i n : Nat) : Nat → Int32 := fun k => if i ≤ k ∧ k + 1 < n then f (k + 1) else f k
def shT (f : Nat → Int32) (i j : Nat) : Nat → Int32 := fun k => if i ≤ k ∧ k < j then f (k + 1) else f k
theorem shT_0 (f : Nat → Int32) (i : Nat) : shT f i i = f := by funext k; unfold shT; rw [if_neg (by omega)]
theorem shT_s (f : Nat → Int32) {i j : Nat} (h : i ≤ j) : upd (shT f i j) j (shT f i j (j + 1)) = shT f i (j + 1) := by
  funext k
  unfold upd shT
  by_cases hk : k = j
  · subst hk; rw [if_pos rfl, if_neg (by omega), if_pos (by omega)]
  · rw [if_neg hk]
    by_cases h2 : i ≤ k ∧ k < j
    · rw [if_pos h2, if_pos (by omega)]
    · rw [if_neg h2, if_neg (by omega)]
theorem shT_n (f : Nat → Int32) {i n : Nat} : shT f i (n - 1) = shR f i n := by
  funext k
  unfold shT shR
  by_cases h : i ≤ k ∧ k < n - 1
  · rw [if_pos h, if_pos (by omega)]
  · rw [if_neg h, if_neg (by omega)]
set_option maxRecDepth 20000 in
theorem r_bhas {g : GE} {M : Mem} {sz : Nat} {b : Nat} {σ : Nat → Int32} (hB : BW g M b σ) (w : Int32) : Run g m_X0_has [rf g b, .int w] M sz 0 0 (Ret (some (.int (bI (decide (0 ≤ w) && decide (w < σ 60))))) M) := by
  refine Run.of rfl (by decide) (Nat.le_of_ble_eq_true rfl) ?_
  show V g m_X0_has 0 _ [] _ _ _ _ _
  refine V_iload_n 1 dX0_has_0 rfl ?_
  refine V_if_lt (tgt := 16) dX0_has_1 (by decide) (fun c1 => ?_) (fun c1 => ?_)
  · refine V_iconst (v := 0) dX0_has_16 rfl ?_
    refine V_zret (st := []) dX0_has_17 rfl (by simp) ?_
    refine ⟨?_, rfl⟩; rw [decide_eq_false (Int32.not_le.mpr c1)]; rfl
  · refine V_iload_n 1 dX0_has_4 rfl ?_
    refine V_aload_n 0 dX0_has_5 rfl ?_
    refine G_X0_24 rfl hB.1 rfl dX0_has_6 ?_
    refine V_icmp_ge (tgt := 16) dX0_has_9 (by decide) (fun c9 => ?_) (fun c9 => ?_)
    · refine V_iconst (v := 0) dX0_has_16 rfl ?_
      refine V_zret (st := []) dX0_has_17 rfl (by simp) ?_
      refine ⟨?_, rfl⟩; rw [decide_eq_false (Int32.not_lt.mpr c9), Bool.and_false]; rfl
    · refine V_iconst (v := 1) dX0_has_12 rfl ?_
      refine V_goto (tgt := 17) dX0_has_13 (by decide) ?_
      refine V_zret (st := []) dX0_has_17 rfl (by simp) ?_
      refine ⟨?_, rfl⟩; rw [decide_eq_true (Int32.not_lt.mp c1), decide_eq_true (Int32.not_le.mp c9)]; rfl
set_option maxRecDepth 20000 in
theorem r_closeUp {g : GE} {M : Mem} {sz : Nat} {b r n i : Nat} {f : Nat → Int32} {s t y : Int32} (hB : M b = some (BO g b (nI n) s t)) (hr : M r = some (eI g 8 f)) (hbr : b ≠ r) (hn : n ≤ 8) (hi : i < n) (hy : y = nI i) : Run g m_X0_closeUp [rf g b, rf g r, .int y] M sz 0 0 (Ret none (mup M r (eI g 8 (shR f i n)))) := by
  subst hy
  have h1 : nI n - 1 = nI (n - 1) := by rw [show (1 : Int32) = nI 1 from rfl, pk_sub (by omega)]
  have L : ∀ m j : Nat, j + m = n - 1 → i ≤ j → V g m_X0_closeUp 2 [(3, .int (nI j)), (0, rf g b), (1, rf g r), (2, .int (nI i))] [] (mup M r (eI g 8 (shT f i j))) sz 0 0 (Ret none (mup M r (eI g 8 (shR f i n)))) := by
    intro m
    induction m with
    | zero =>
      intro j hj hij
      obtain rfl : j = n - 1 := by omega
      refine V_iload_n 0 dX0_closeUp_2 rfl ?_
      refine V_aload_n 1 dX0_closeUp_3 rfl ?_
      refine G_X0_24 rfl (show _ = some (BO g b (nI n) s t) from (by repeat (first | exact mup_eq _ _ _ | exact hB | rw [mup_ne _ _ (by omega)]))) rfl dX0_closeUp_4 ?_
      refine V_iconst (v := 1) dX0_closeUp_7 rfl ?_
      refine V_isub dX0_closeUp_8 ?_
      rw [h1]
      refine V_icmp_ge (tgt := 30) dX0_closeUp_9 (by decide) (fun c9 => ?_) (fun c9 => absurd (nI_le (Nat.le_refl _) (by omega)) c9)
      refine V_ret (st := []) dX0_closeUp_30 rfl ?_
      rw [shT_n]; exact ⟨rfl, rfl⟩
    | succ m ih =>
      intro j hj hij
      have hlt : j < n - 1 := by omega
      refine V_iload_n 0 dX0_closeUp_2 rfl ?_
      refine V_aload_n 1 dX0_closeUp_3 rfl ?_
      refine G_X0_24 rfl (show _ = some (BO g b (nI n) s t) from (by repeat (first | exact mup_eq _ _ _ | exact hB | rw [mup_ne _ _ (by omega)]))) rfl dX0_closeUp_4 ?_
      refine V_iconst (v := 1) dX0_closeUp_7 rfl ?_
      refine V_isub dX0_closeUp_8 ?_
      rw [h1]
      refine V_icmp_ge (tgt := 30) dX0_closeUp_9 (by decide) (fun c9 => absurd c9 (nI_ge hlt (by omega))) (fun c9 => ?_)
      refine V_aload_n 2 dX0_closeUp_12 rfl ?_
      refine V_pc (pc2 := 13) rfl ?_
      refine V_iload_n 0 dX0_closeUp_13 rfl ?_
      refine V_aload_n 2 dX0_closeUp_14 rfl ?_
      refine V_iload_n 0 dX0_closeUp_15 rfl ?_
      refine V_iconst (v := 1) dX0_closeUp_16 rfl ?_
      refine V_iadd dX0_closeUp_17 ?_
      refine C_X0_42 rfl ⟨Nat.le_of_ble_eq_true rfl, Nat.le_of_ble_eq_true rfl⟩ (r_at (mup_eq _ _ _) (j + 1) (nI_1 _) (by omega) (by decide)) rfl (Nat.le_of_ble_eq_true rfl) dX0_closeUp_18 rfl ?_
      refine C_X0_38 rfl ⟨Nat.le_of_ble_eq_true rfl, Nat.le_of_ble_eq_true rfl⟩ (r_put (mup_eq _ _ _) j rfl (by omega) (by decide)) rfl (Nat.le_of_ble_eq_true rfl) dX0_closeUp_21 rfl ?_
      refine V_iinc (v := _ + 1) (lv2 := [(3, .int _), (0, .ref _), (1, .ref _), (2, .int _)]) 0 dX0_closeUp_24 rfl rfl (Nat.le_of_ble_eq_true rfl) rfl ?_
      refine V_pc (pc2 := 27) rfl ?_
      refine V_goto (tgt := 2) dX0_closeUp_27 (by decide) ?_
      refine V_lv (lv2 := [(3, .int _), (0, .ref _), (1, .ref _), (2, .int _)]) [0, 1, 2, 3] rfl ?_
      rw [nI_1, mup_mup, shT_s f hij]
      exact ih (j + 1) (by omega) (by omega)
  refine Run.of rfl (by decide) (Nat.le_of_ble_eq_true rfl) ?_
  show V g m_X0_closeUp 0 _ [] _ _ _ _ _
  refine V_iload_n 2 dX0_closeUp_0 rfl ?_
  refine V_istore_n (lv2 := [(3, .int _), (0, .ref _), (1, .ref _), (2, .int _)]) dX0_closeUp_1 (Nat.le_of_ble_eq_true rfl) rfl ?_
  refine V_lv (lv2 := [(3, .int _), (0, .ref _), (1, .ref _), (2, .int _)]) [0, 1, 2, 3] rfl ?_
  have e := L (n - 1 - i) i (by omega) (Nat.le_refl _)
  rw [shT_0, mup_self hr] at e
  exact e
def goS (σ : Nat → Int32) (i n : Nat) : Nat → Int32 := upd (upd (fun k => if 28 + 4 * i ≤ k ∧ k < 28 + 4 * (n - 1) then σ (k + 4) else σ k) 60 (nI (n - 1))) 62 (σ 62 + 1)
theorem bR_go {σ : Nat → Int32} {i n q : Nat} (hq : q < 4) (hn : n ≤ 8) : bR (goS σ i n) q = shR (bR σ q) i n := by
  funext k
  unfold shR
  by_cases h8 : k < 8
  · rw [bR_at h8]
    unfold goS
    rw [upd_ne (by omega), upd_ne (by omega)]
    by_cases h : i ≤ k ∧ k + 1 < n
    · rw [if_pos h, if_pos (by omega), bR_at (by omega), show 28 + 4 * k + q + 4 = 28 + 4 * (k + 1) + q by omega]
    · rw [if_neg h, if_neg (by omega), bR_at h8]
  · rw [if_neg (by omega)]
    unfold bR
    rw [if_neg h8, if_neg h8]
theorem goS_60 (σ : Nat → Int32) (i n : Nat) : goS σ i n 60 = nI (n - 1) := by unfold goS; rw [upd_ne (by decide), upd_at]
theorem goS_62 (σ : Nat → Int32) (i n : Nat) : goS σ i n 62 = σ 62 + 1 := by unfold goS; rw [upd_at]
theorem goS_lo {σ : Nat → Int32} {i n k : Nat} (h : k < 28 ∨ 60 ≤ k) (hn : n ≤ 8) (h0 : k ≠ 60) (h2 : k ≠ 62) : goS σ i n k = σ k := by unfold goS; rw [upd_ne h2, upd_ne h0, if_neg (by omega)]
set_option maxRecDepth 20000 in
theorem r_come {g : GE} {M : Mem} {sz : Nat} {b : Nat} {σ : Nat → Int32} (hB : BW g M b σ) (n : Nat) (hn : σ 60 = nI n) (hn8 : n < 8) (p l : Int32) : Run g m_X0_come [rf g b, .int p, .int l] M sz 0 0 (RetP none (fun M1 => BW g M1 b (comeS σ n p l) ∧ FR M M1 b 5)) := by
  refine Run.of rfl (by decide) (Nat.le_of_ble_eq_true rfl) ?_
  show V g m_X0_come 0 _ [] _ _ _ _ _
  refine V_aload_n 0 dX0_come_0 rfl ?_
  refine G_X0_24 rfl (show _ = some (BO g b (σ 60) (σ 62) (σ 61)) from (by repeat (first | exact mup_eq _ _ _ | exact hB.1 | rw [mup_ne _ _ (by omega)]))) rfl dX0_come_1 ?_
  refine V_bipush (v := 8) dX0_come_4 (by decide) ?_
  rw [hn]
  refine V_icmp_lt (tgt := 10) dX0_come_6 (by decide) (fun c6 => ?_) (fun c6 => absurd (nI_lt (b := 8) hn8 (by decide)) c6)
  refine V_aload_n 0 dX0_come_10 rfl ?_
  refine G_X0_9 rfl (show _ = some (BO g b (σ 60) (σ 62) (σ 61)) from (by repeat (first | exact mup_eq _ _ _ | exact hB.1 | rw [mup_ne _ _ (by omega)]))) rfl dX0_come_11 ?_
  refine V_aload_n 0 dX0_come_14 rfl ?_
  refine V_pc (pc2 := 15) rfl ?_
  refine G_X0_24 rfl (show _ = some (BO g b (σ 60) (σ 62) (σ 61)) from (by repeat (first | exact mup_eq _ _ _ | exact hB.1 | rw [mup_ne _ _ (by omega)]))) rfl dX0_come_15 ?_
  refine V_iload_n 1 dX0_come_18 rfl ?_
  rw [hn]
  refine C_X0_38 rfl ⟨Nat.le_of_ble_eq_true rfl, Nat.le_of_ble_eq_true rfl⟩ (r_put (by repeat (first | exact mup_eq _ _ _ | exact hB.2.1 | rw [mup_ne _ _ (by omega)])) n rfl hn8 (by decide)) rfl (Nat.le_of_ble_eq_true rfl) dX0_come_19 rfl ?_
  refine V_aload_n 0 dX0_come_22 rfl ?_
  refine G_X0_15 rfl (show _ = some (BO g b (σ 60) (σ 62) (σ 61)) from (by repeat (first | exact mup_eq _ _ _ | exact hB.1 | rw [mup_ne _ _ (by omega)]))) rfl dX0_come_23 ?_
  refine V_aload_n 0 dX0_come_26 rfl ?_
  refine G_X0_24 rfl (show _ = some (BO g b (σ 60) (σ 62) (σ 61)) from (by repeat (first | exact mup_eq _ _ _ | exact hB.1 | rw [mup_ne _ _ (by omega)]))) rfl dX0_come_27 ?_
  refine V_iload_n 2 dX0_come_30 rfl ?_
  refine V_pc (pc2 := 31) rfl ?_
  rw [hn]
  refine C_X0_38 rfl ⟨Nat.le_of_ble_eq_true rfl, Nat.le_of_ble_eq_true rfl⟩ (r_put (by repeat (first | exact mup_eq _ _ _ | exact hB.2.2.1 | rw [mup_ne _ _ (by omega)])) n rfl hn8 (by decide)) rfl (Nat.le_of_ble_eq_true rfl) dX0_come_31 rfl ?_
  refine V_aload_n 0 dX0_come_34 rfl ?_
  refine G_X0_18 rfl (show _ = some (BO g b (σ 60) (σ 62) (σ 61)) from (by repeat (first | exact mup_eq _ _ _ | exact hB.1 | rw [mup_ne _ _ (by omega)]))) rfl dX0_come_35 ?_
  refine V_aload_n 0 dX0_come_38 rfl ?_
  refine G_X0_24 rfl (show _ = some (BO g b (σ 60) (σ 62) (σ 61)) from (by repeat (first | exact mup_eq _ _ _ | exact hB.1 | rw [mup_ne _ _ (by omega)]))) rfl dX0_come_39 ?_
  refine V_iconst (v := 0) dX0_come_42 rfl ?_
  rw [hn]
  refine C_X0_38 rfl ⟨Nat.le_of_ble_eq_true rfl, Nat.le_of_ble_eq_true rfl⟩ (r_put (by repeat (first | exact mup_eq _ _ _ | exact hB.2.2.2.1 | rw [mup_ne _ _ (by omega)])) n rfl hn8 (by decide)) rfl (Nat.le_of_ble_eq_true rfl) dX0_come_43 rfl ?_
  refine V_aload_n 0 dX0_come_46 rfl ?_
  refine V_pc (pc2 := 47) rfl ?_
  refine G_X0_21 rfl (show _ = some (BO g b (σ 60) (σ 62) (σ 61)) from (by repeat (first | exact mup_eq _ _ _ | exact hB.1 | rw [mup_ne _ _ (by omega)]))) rfl dX0_come_47 ?_
  refine V_aload_n 0 dX0_come_50 rfl ?_
  refine G_X0_24 rfl (show _ = some (BO g b (σ 60) (σ 62) (σ 61)) from (by repeat (first | exact mup_eq _ _ _ | exact hB.1 | rw [mup_ne _ _ (by omega)]))) rfl dX0_come_51 ?_
  refine V_iconst (v := 0) dX0_come_54 rfl ?_
  rw [hn]
  refine C_X0_38 rfl ⟨Nat.le_of_ble_eq_true rfl, Nat.le_of_ble_eq_true rfl⟩ (r_put (by repeat (first | exact mup_eq _ _ _ | exact hB.2.2.2.2 | rw [mup_ne _ _ (by omega)])) n rfl hn8 (by decide)) rfl (Nat.le_of_ble_eq_true rfl) dX0_come_55 rfl ?_
  refine V_aload_n 0 dX0_come_58 rfl ?_
  refine V_dup dX0_come_59 rfl ?_
  refine G_X0_24 rfl (show _ = some (BO g b (σ 60) (σ 62) (σ 61)) from (by repeat (first | exact mup_eq _ _ _ | exact hB.1 | rw [mup_ne _ _ (by omega)]))) rfl dX0_come_60 ?_
  refine V_pc (pc2 := 63) rfl ?_
  refine V_iconst (v := 1) dX0_come_63 rfl ?_
  rw [hn]
  refine V_iadd dX0_come_64 ?_
  refine P_X0_24 rfl (show _ = some (BO g b (σ 60) (σ 62) (σ 61)) from (by repeat (first | exact mup_eq _ _ _ | exact hB.1 | rw [mup_ne _ _ (by omega)]))) (Nat.le_of_ble_eq_true rfl) rfl rfl dX0_come_65 ?_
  refine V_ret (st := []) dX0_come_68 rfl ?_
  refine ⟨rfl, ⟨?_, ?_, ?_, ?_, ?_⟩, ?_⟩
  · rw [mup_eq, nI_1]; unfold comeS; rw [upd_at, upd_ne (by omega), upd_ne (by omega), upd_ne (by omega), upd_ne (by omega), upd_ne (by omega), upd_ne (by omega), upd_ne (by omega), upd_ne (by omega), upd_ne (by omega), upd_ne (by omega)]; rfl
  · unfold comeS; rw [bR_ne (by omega), bR_ne (by omega), bR_ne (by omega), bR_ne (by omega), ← bR_upd0 hn8]; exact (by repeat (first | exact mup_eq _ _ _ | exact rfl | rw [mup_ne _ _ (by omega)]))
  · unfold comeS; rw [bR_ne (by omega), bR_ne (by omega), bR_ne (by omega), ← bR_upd hn8, bR_ne (by omega)]; exact (by repeat (first | exact mup_eq _ _ _ | exact rfl | rw [mup_ne _ _ (by omega)]))
  · unfold comeS; rw [bR_ne (by omega), bR_ne (by omega), ← bR_upd hn8, bR_ne (by omega), bR_ne (by omega)]; exact (by repeat (first | exact mup_eq _ _ _ | exact rfl | rw [mup_ne _ _ (by omega)]))
  · unfold comeS; rw [bR_ne (by omega), ← bR_upd hn8, bR_ne (by omega), bR_ne (by omega), bR_ne (by omega)]; exact (by repeat (first | exact mup_eq _ _ _ | exact rfl | rw [mup_ne _ _ (by omega)]))
  · exact (((((FR.refl M b 5).put (by omega)).put (by omega)).put (by omega)).put (by omega)).put (by omega)
def moveS (σ : Nat → Int32) (i : Nat) (p l a : Int32) : Nat → Int32 := upd (upd (upd (upd (upd σ (28 + 4 * i) p) (28 + 4 * i + 1) l) (28 + 4 * i + 2) (σ (28 + 4 * i + 2) + a)) (28 + 4 * i + 3) (σ (28 + 4 * i + 3) + 1)) 61 (σ 61 + a)
set_option maxRecDepth 20000 in
theorem r_move {g : GE} {M : Mem} {sz : Nat} {b : Nat} {σ : Nat → Int32} (hB : BW g M b σ) {x : Int32} (i : Nat) (hx : x = nI i) (hi : i < 8) (p l a : Int32) : Run g m_X0_move [rf g b, .int x, .int p, .int l, .int a] M sz 0 0 (RetP none (fun M1 => BW g M1 b (moveS σ i p l a) ∧ FR M M1 b 5)) := by
  subst hx
  refine Run.of rfl (by decide) (Nat.le_of_ble_eq_true rfl) ?_
  show V g m_X0_move 0 _ [] _ _ _ _ _
  refine V_aload_n 0 dX0_move_0 rfl ?_
  refine G_X0_9 rfl (show _ = some (BO g b (σ 60) (σ 62) (σ 61)) from (by repeat (first | exact mup_eq _ _ _ | exact hB.1 | rw [mup_ne _ _ (by omega)]))) rfl dX0_move_1 ?_
  refine V_iload_n 1 dX0_move_4 rfl ?_
  refine V_iload_n 2 dX0_move_5 rfl ?_
  refine C_X0_38 rfl ⟨Nat.le_of_ble_eq_true rfl, Nat.le_of_ble_eq_true rfl⟩ (r_put (by repeat (first | exact mup_eq _ _ _ | exact hB.2.1 | rw [mup_ne _ _ (by omega)])) i rfl hi (by decide)) rfl (Nat.le_of_ble_eq_true rfl) dX0_move_6 rfl ?_
  refine V_aload_n 0 dX0_move_9 rfl ?_
  refine G_X0_15 rfl (show _ = some (BO g b (σ 60) (σ 62) (σ 61)) from (by repeat (first | exact mup_eq _ _ _ | exact hB.1 | rw [mup_ne _ _ (by omega)]))) rfl dX0_move_10 ?_
  refine V_pc (pc2 := 13) rfl ?_
  refine V_iload_n 1 dX0_move_13 rfl ?_
  refine V_iload_n 3 dX0_move_14 rfl ?_
  refine C_X0_38 rfl ⟨Nat.le_of_ble_eq_true rfl, Nat.le_of_ble_eq_true rfl⟩ (r_put (by repeat (first | exact mup_eq _ _ _ | exact hB.2.2.1 | rw [mup_ne _ _ (by omega)])) i rfl hi (by decide)) rfl (Nat.le_of_ble_eq_true rfl) dX0_move_15 rfl ?_
  refine V_aload_n 0 dX0_move_18 rfl ?_
  refine G_X0_18 rfl (show _ = some (BO g b (σ 60) (σ 62) (σ 61)) from (by repeat (first | exact mup_eq _ _ _ | exact hB.1 | rw [mup_ne _ _ (by omega)]))) rfl dX0_move_19 ?_
  refine V_iload_n 1 dX0_move_22 rfl ?_
  refine V_aload_n 0 dX0_move_23 rfl ?_
  refine G_X0_18 rfl (show _ = some (BO g b (σ 60) (σ 62) (σ 61)) from (by repeat (first | exact mup_eq _ _ _ | exact hB.1 | rw [mup_ne _ _ (by omega)]))) rfl dX0_move_24 ?_
  refine V_pc (pc2 := 27) rfl ?_
  refine V_iload_n 1 dX0_move_27 rfl ?_
  refine C_X0_42 rfl ⟨Nat.le_of_ble_eq_true rfl, Nat.le_of_ble_eq_true rfl⟩ (r_at (by repeat (first | exact mup_eq _ _ _ | exact hB.2.2.2.1 | rw [mup_ne _ _ (by omega)])) i rfl hi (by decide)) rfl (Nat.le_of_ble_eq_true rfl) dX0_move_28 rfl ?_
  rw [bR_at hi]
  refine V_iload 4 dX0_move_31 rfl ?_
  refine V_iadd dX0_move_33 ?_
  refine C_X0_38 rfl ⟨Nat.le_of_ble_eq_true rfl, Nat.le_of_ble_eq_true rfl⟩ (r_put (by repeat (first | exact mup_eq _ _ _ | exact hB.2.2.2.1 | rw [mup_ne _ _ (by omega)])) i rfl hi (by decide)) rfl (Nat.le_of_ble_eq_true rfl) dX0_move_34 rfl ?_
  refine V_aload_n 0 dX0_move_37 rfl ?_
  refine G_X0_21 rfl (show _ = some (BO g b (σ 60) (σ 62) (σ 61)) from (by repeat (first | exact mup_eq _ _ _ | exact hB.1 | rw [mup_ne _ _ (by omega)]))) rfl dX0_move_38 ?_
  refine V_iload_n 1 dX0_move_41 rfl ?_
  refine V_pc (pc2 := 42) rfl ?_
  refine V_aload_n 0 dX0_move_42 rfl ?_
  refine G_X0_21 rfl (show _ = some (BO g b (σ 60) (σ 62) (σ 61)) from (by repeat (first | exact mup_eq _ _ _ | exact hB.1 | rw [mup_ne _ _ (by omega)]))) rfl dX0_move_43 ?_
  refine V_iload_n 1 dX0_move_46 rfl ?_
  refine C_X0_42 rfl ⟨Nat.le_of_ble_eq_true rfl, Nat.le_of_ble_eq_true rfl⟩ (r_at (by repeat (first | exact mup_eq _ _ _ | exact hB.2.2.2.2 | rw [mup_ne _ _ (by omega)])) i rfl hi (by decide)) rfl (Nat.le_of_ble_eq_true rfl) dX0_move_47 rfl ?_
  rw [bR_at hi]
  refine V_iconst (v := 1) dX0_move_50 rfl ?_
  refine V_iadd dX0_move_51 ?_
  refine C_X0_38 rfl ⟨Nat.le_of_ble_eq_true rfl, Nat.le_of_ble_eq_true rfl⟩ (r_put (by repeat (first | exact mup_eq _ _ _ | exact hB.2.2.2.2 | rw [mup_ne _ _ (by omega)])) i rfl hi (by decide)) rfl (Nat.le_of_ble_eq_true rfl) dX0_move_52 rfl ?_
  refine V_aload_n 0 dX0_move_55 rfl ?_
  refine V_pc (pc2 := 56) rfl ?_
  refine V_dup dX0_move_56 rfl ?_
  refine G_X0_31 rfl (show _ = some (BO g b (σ 60) (σ 62) (σ 61)) from (by repeat (first | exact mup_eq _ _ _ | exact hB.1 | rw [mup_ne _ _ (by omega)]))) rfl dX0_move_57 ?_
  refine V_iload 4 dX0_move_60 rfl ?_
  refine V_iadd dX0_move_62 ?_
  refine P_X0_31 rfl (show _ = some (BO g b (σ 60) (σ 62) (σ 61)) from (by repeat (first | exact mup_eq _ _ _ | exact hB.1 | rw [mup_ne _ _ (by omega)]))) (Nat.le_of_ble_eq_true rfl) rfl rfl dX0_move_63 ?_
  refine V_ret (st := []) dX0_move_66 rfl ?_
  refine ⟨rfl, ⟨?_, ?_, ?_, ?_, ?_⟩, ?_⟩
  · rw [mup_eq]; unfold moveS; rw [upd_at, upd_ne (show 60 ≠ 61 by omega), upd_ne (show 62 ≠ 61 by omega), upd_ne (by omega), upd_ne (by omega), upd_ne (by omega), upd_ne (by omega), upd_ne (by omega), upd_ne (by omega), upd_ne (by omega), upd_ne (by omega)]; rfl
  · unfold moveS; rw [bR_ne (by omega), bR_ne (by omega), bR_ne (by omega), bR_ne (by omega), ← bR_upd0 hi]; exact (by repeat (first | exact mup_eq _ _ _ | exact rfl | rw [mup_ne _ _ (by omega)]))
  · unfold moveS; rw [bR_ne (by omega), bR_ne (by omega), bR_ne (by omega), ← bR_upd hi, bR_ne (by omega)]; exact (by repeat (first | exact mup_eq _ _ _ | exact rfl | rw [mup_ne _ _ (by omega)]))
  · unfold moveS; rw [bR_ne (by omega), bR_ne (by omega), ← bR_upd hi, bR_ne (by omega), bR_ne (by omega)]; exact (by repeat (first | exact mup_eq _ _ _ | exact rfl | rw [mup_ne _ _ (by omega)]))
  · unfold moveS; rw [bR_ne (by omega), ← bR_upd hi, bR_ne (by omega), bR_ne (by omega), bR_ne (by omega)]; exact (by repeat (first | exact mup_eq _ _ _ | exact rfl | rw [mup_ne _ _ (by omega)]))
  · exact (((((FR.refl M b 5).put (by omega)).put (by omega)).put (by omega)).put (by omega)).put (by omega)
set_option maxRecDepth 20000 in
theorem r_go {g : GE} {M : Mem} {sz : Nat} {b : Nat} {σ : Nat → Int32} (hB : BW g M b σ) {x : Int32} (i n : Nat) (hx : x = nI i) (hn : σ 60 = nI n) (hn8 : n ≤ 8) (hi : i < n) : Run g m_X0_go [rf g b, .int x] M sz 0 0 (RetP none (fun M1 => BW g M1 b (goS σ i n) ∧ FR M M1 b 5)) := by
  subst hx
  have hB1 : M b = some (BO g b (nI n) (σ 62) (σ 61)) := by rw [← hn]; exact hB.1
  refine Run.of rfl (by decide) (Nat.le_of_ble_eq_true rfl) ?_
  show V g m_X0_go 0 _ [] _ _ _ _ _
  refine V_aload_n 0 dX0_go_0 rfl ?_
  refine V_aload_n 0 dX0_go_1 rfl ?_
  refine G_X0_9 rfl (show _ = some (BO g b (nI n) (σ 62) (σ 61)) from (by repeat (first | exact mup_eq _ _ _ | exact hB1 | rw [mup_ne _ _ (by omega)]))) rfl dX0_go_2 ?_
  refine V_iload_n 1 dX0_go_5 rfl ?_
  refine C_X0_46 (show _ = some (BO g b (nI n) (σ 62) (σ 61)) from (by repeat (first | exact mup_eq _ _ _ | exact hB1 | rw [mup_ne _ _ (by omega)]))) rfl ⟨Nat.le_of_ble_eq_true rfl, Nat.le_of_ble_eq_true rfl⟩ (r_closeUp (by repeat (first | exact mup_eq _ _ _ | exact hB1 | rw [mup_ne _ _ (by omega)])) (by repeat (first | exact mup_eq _ _ _ | exact hB.2.1 | rw [mup_ne _ _ (by omega)])) (by omega) hn8 hi rfl) rfl (Nat.le_of_ble_eq_true rfl) dX0_go_6 rfl ?_
  refine V_aload_n 0 dX0_go_9 rfl ?_
  refine V_aload_n 0 dX0_go_10 rfl ?_
  refine V_pc (pc2 := 11) rfl ?_
  refine G_X0_15 rfl (show _ = some (BO g b (nI n) (σ 62) (σ 61)) from (by repeat (first | exact mup_eq _ _ _ | exact hB1 | rw [mup_ne _ _ (by omega)]))) rfl dX0_go_11 ?_
  refine V_iload_n 1 dX0_go_14 rfl ?_
  refine C_X0_46 (show _ = some (BO g b (nI n) (σ 62) (σ 61)) from (by repeat (first | exact mup_eq _ _ _ | exact hB1 | rw [mup_ne _ _ (by omega)]))) rfl ⟨Nat.le_of_ble_eq_true rfl, Nat.le_of_ble_eq_true rfl⟩ (r_closeUp (by repeat (first | exact mup_eq _ _ _ | exact hB1 | rw [mup_ne _ _ (by omega)])) (by repeat (first | exact mup_eq _ _ _ | exact hB.2.2.1 | rw [mup_ne _ _ (by omega)])) (by omega) hn8 hi rfl) rfl (Nat.le_of_ble_eq_true rfl) dX0_go_15 rfl ?_
  refine V_aload_n 0 dX0_go_18 rfl ?_
  refine V_aload_n 0 dX0_go_19 rfl ?_
  refine G_X0_18 rfl (show _ = some (BO g b (nI n) (σ 62) (σ 61)) from (by repeat (first | exact mup_eq _ _ _ | exact hB1 | rw [mup_ne _ _ (by omega)]))) rfl dX0_go_20 ?_
  refine V_iload_n 1 dX0_go_23 rfl ?_
  refine C_X0_46 (show _ = some (BO g b (nI n) (σ 62) (σ 61)) from (by repeat (first | exact mup_eq _ _ _ | exact hB1 | rw [mup_ne _ _ (by omega)]))) rfl ⟨Nat.le_of_ble_eq_true rfl, Nat.le_of_ble_eq_true rfl⟩ (r_closeUp (by repeat (first | exact mup_eq _ _ _ | exact hB1 | rw [mup_ne _ _ (by omega)])) (by repeat (first | exact mup_eq _ _ _ | exact hB.2.2.2.1 | rw [mup_ne _ _ (by omega)])) (by omega) hn8 hi rfl) rfl (Nat.le_of_ble_eq_true rfl) dX0_go_24 rfl ?_
  refine V_pc (pc2 := 27) rfl ?_
  refine V_aload_n 0 dX0_go_27 rfl ?_
  refine V_aload_n 0 dX0_go_28 rfl ?_
  refine G_X0_21 rfl (show _ = some (BO g b (nI n) (σ 62) (σ 61)) from (by repeat (first | exact mup_eq _ _ _ | exact hB1 | rw [mup_ne _ _ (by omega)]))) rfl dX0_go_29 ?_
  refine V_iload_n 1 dX0_go_32 rfl ?_
  refine C_X0_46 (show _ = some (BO g b (nI n) (σ 62) (σ 61)) from (by repeat (first | exact mup_eq _ _ _ | exact hB1 | rw [mup_ne _ _ (by omega)]))) rfl ⟨Nat.le_of_ble_eq_true rfl, Nat.le_of_ble_eq_true rfl⟩ (r_closeUp (by repeat (first | exact mup_eq _ _ _ | exact hB1 | rw [mup_ne _ _ (by omega)])) (by repeat (first | exact mup_eq _ _ _ | exact hB.2.2.2.2 | rw [mup_ne _ _ (by omega)])) (by omega) hn8 hi rfl) rfl (Nat.le_of_ble_eq_true rfl) dX0_go_33 rfl ?_
  refine V_aload_n 0 dX0_go_36 rfl ?_
  refine V_dup dX0_go_37 rfl ?_
  refine G_X0_24 rfl (show _ = some (BO g b (nI n) (σ 62) (σ 61)) from (by repeat (first | exact mup_eq _ _ _ | exact hB1 | rw [mup_ne _ _ (by omega)]))) rfl dX0_go_38 ?_
  refine V_pc (pc2 := 41) rfl ?_
  refine V_iconst (v := 1) dX0_go_41 rfl ?_
  refine V_isub dX0_go_42 ?_
  refine P_X0_24 rfl (show _ = some (BO g b (nI n) (σ 62) (σ 61)) from (by repeat (first | exact mup_eq _ _ _ | exact hB1 | rw [mup_ne _ _ (by omega)]))) (Nat.le_of_ble_eq_true rfl) rfl rfl dX0_go_43 ?_
  refine V_aload_n 0 dX0_go_46 rfl ?_
  refine V_dup dX0_go_47 rfl ?_
  refine G_X0_28 rfl (show _ = some (BO g b (nI n - 1) (σ 62) (σ 61)) from (by repeat (first | exact mup_eq _ _ _ | exact hB1 | rw [mup_ne _ _ (by omega)]))) rfl dX0_go_48 ?_
  refine V_iconst (v := 1) dX0_go_51 rfl ?_
  refine V_iadd dX0_go_52 ?_
  refine V_pc (pc2 := 53) rfl ?_
  refine P_X0_28 rfl (show _ = some (BO g b (nI n - 1) (σ 62) (σ 61)) from (by repeat (first | exact mup_eq _ _ _ | exact hB1 | rw [mup_ne _ _ (by omega)]))) (Nat.le_of_ble_eq_true rfl) rfl rfl dX0_go_53 ?_
  refine V_ret (st := []) dX0_go_56 rfl ?_
  refine ⟨rfl, ⟨?_, ?_, ?_, ?_, ?_⟩, ?_⟩
  · rw [mup_eq, goS_60, goS_62, goS_lo (by omega) hn8 (by omega) (by omega), show (1 : Int32) = nI 1 from rfl, pk_sub (by omega)]; rfl
  · rw [bR_go (by omega) hn8]; exact (by repeat (first | exact mup_eq _ _ _ | exact rfl | rw [mup_ne _ _ (by omega)]))
  · rw [bR_go (by omega) hn8]; exact (by repeat (first | exact mup_eq _ _ _ | exact rfl | rw [mup_ne _ _ (by omega)]))
  · rw [bR_go (by omega) hn8]; exact (by repeat (first | exact mup_eq _ _ _ | exact rfl | rw [mup_ne _ _ (by omega)]))
  · rw [bR_go (by omega) hn8]; exact (by repeat (first | exact mup_eq _ _ _ | exact rfl | rw [mup_ne _ _ (by omega)]))
  · exact ((((((FR.refl M b 5).put (by omega)).put (by omega)).put (by omega)).put (by omega)).put (by omega)).put (by omega)
def lenS (σ : Nat → Int32) : Nat → Int32
  | 0 => 0
  | n + 1 => lenS σ n + σ (28 + 4 * n + 1)
set_option maxRecDepth 20000 in
theorem r_lengthOfAll {g : GE} {M : Mem} {sz : Nat} {b : Nat} {σ : Nat → Int32} (hB : BW g M b σ) (n : Nat) (hn : σ 60 = nI n) (hn8 : n ≤ 8) : Run g m_X0_lengthOfAll [rf g b] M sz 0 0 (Ret (some (.int (lenS σ n))) M) := by
  have L : ∀ m j : Nat, j + m = n → V g m_X0_lengthOfAll 4 [(2, .int (nI j)), (1, .int (lenS σ j)), (0, rf g b)] [] M sz 0 0 (Ret (some (.int (lenS σ n))) M) := by
    intro m
    induction m with
    | zero =>
      intro j hj
      obtain rfl : j = n := by omega
      refine V_iload_n 0 dX0_lengthOfAll_4 rfl ?_
      refine V_aload_n 2 dX0_lengthOfAll_5 rfl ?_
      refine G_X0_24 rfl hB.1 rfl dX0_lengthOfAll_6 ?_
      rw [hn]
      refine V_icmp_ge (tgt := 29) dX0_lengthOfAll_9 (by decide) (fun c9 => ?_) (fun c9 => absurd (nI_le (Nat.le_refl _) (by omega)) c9)
      refine V_iload_n 1 dX0_lengthOfAll_29 rfl ?_
      refine V_iret (st := []) dX0_lengthOfAll_30 rfl ?_
      exact ⟨rfl, rfl⟩
    | succ m ih =>
      intro j hj
      have hlt : j < n := by omega
      refine V_iload_n 0 dX0_lengthOfAll_4 rfl ?_
      refine V_aload_n 2 dX0_lengthOfAll_5 rfl ?_
      refine G_X0_24 rfl hB.1 rfl dX0_lengthOfAll_6 ?_
      rw [hn]
      refine V_icmp_ge (tgt := 29) dX0_lengthOfAll_9 (by decide) (fun c9 => absurd c9 (nI_ge hlt (by omega))) (fun c9 => ?_)
      refine V_iload_n 1 dX0_lengthOfAll_12 rfl ?_
      refine V_aload_n 2 dX0_lengthOfAll_13 rfl ?_
      refine G_X0_15 rfl hB.1 rfl dX0_lengthOfAll_14 ?_
      refine V_pc (pc2 := 17) rfl ?_
      refine V_iload_n 0 dX0_lengthOfAll_17 rfl ?_
      refine C_X0_42 rfl ⟨Nat.le_of_ble_eq_true rfl, Nat.le_of_ble_eq_true rfl⟩ (r_at hB.2.2.1 j rfl (by omega) (by decide)) rfl (Nat.le_of_ble_eq_true rfl) dX0_lengthOfAll_18 rfl ?_
      rw [bR_at (by omega)]
      refine V_iadd dX0_lengthOfAll_21 ?_
      refine V_istore_n (lv2 := [(1, .int _), (2, .int _), (0, .ref _)]) dX0_lengthOfAll_22 (Nat.le_of_ble_eq_true rfl) rfl ?_
      refine V_iinc (v := _ + 1) (lv2 := [(2, .int _), (1, .int _), (0, .ref _)]) 1 dX0_lengthOfAll_23 rfl rfl (Nat.le_of_ble_eq_true rfl) rfl ?_
      refine V_goto (tgt := 4) dX0_lengthOfAll_26 (by decide) ?_
      refine V_lv (lv2 := [(2, .int _), (1, .int _), (0, .ref _)]) [0, 1, 2] rfl ?_
      rw [nI_1]
      exact ih (j + 1) (by omega)
  refine Run.of rfl (by decide) (Nat.le_of_ble_eq_true rfl) ?_
  show V g m_X0_lengthOfAll 0 _ [] _ _ _ _ _
  refine V_iconst (v := 0) dX0_lengthOfAll_0 rfl ?_
  refine V_istore_n (lv2 := [(1, .int _), (0, .ref _)]) dX0_lengthOfAll_1 (Nat.le_of_ble_eq_true rfl) rfl ?_
  refine V_iconst (v := 0) dX0_lengthOfAll_2 rfl ?_
  refine V_istore_n (lv2 := [(2, .int _), (1, .int _), (0, .ref _)]) dX0_lengthOfAll_3 (Nat.le_of_ble_eq_true rfl) rfl ?_
  refine V_lv (lv2 := [(2, .int _), (1, .int _), (0, .ref _)]) [0, 1, 2] rfl ?_
  exact L n 0 (by omega)
set_option maxRecDepth 20000 in
theorem r_bcopy {g : GE} {M : Mem} {sz : Nat} {b c : Nat} {σ τ : Nat → Int32} (hB : BW g M b σ) (hC : BW g M c τ) (hd : b + 5 ≤ c ∨ c + 5 ≤ b) : Run g m_X0_copy [rf g b, rf g c] M sz 0 0 (RetP none (fun M1 => BW g M1 b (τ) ∧ FR M M1 b 5)) := by
  refine Run.of rfl (by decide) (Nat.le_of_ble_eq_true rfl) ?_
  show V g m_X0_copy 0 _ [] _ _ _ _ _
  refine V_aload_n 1 dX0_copy_0 rfl ?_
  refine G_X0_9 rfl (show _ = some (BO g c (τ 60) (τ 62) (τ 61)) from (by repeat (first | exact mup_eq _ _ _ | exact hC.1 | rw [mup_ne _ _ (by omega)]))) rfl dX0_copy_1 ?_
  refine V_aload_n 0 dX0_copy_4 rfl ?_
  refine G_X0_9 rfl (show _ = some (BO g b (σ 60) (σ 62) (σ 61)) from (by repeat (first | exact mup_eq _ _ _ | exact hB.1 | rw [mup_ne _ _ (by omega)]))) rfl dX0_copy_5 ?_
  refine C_X0_34 rfl ⟨Nat.le_of_ble_eq_true rfl, Nat.le_of_ble_eq_true rfl⟩ (r_copyRow (by repeat (first | exact mup_eq _ _ _ | exact hC.2.1 | rw [mup_ne _ _ (by omega)])) (by repeat (first | exact mup_eq _ _ _ | exact hB.2.1 | rw [mup_ne _ _ (by omega)])) (by omega) (by decide)) rfl (Nat.le_of_ble_eq_true rfl) dX0_copy_8 rfl ?_
  refine V_aload_n 1 dX0_copy_11 rfl ?_
  refine G_X0_15 rfl (show _ = some (BO g c (τ 60) (τ 62) (τ 61)) from (by repeat (first | exact mup_eq _ _ _ | exact hC.1 | rw [mup_ne _ _ (by omega)]))) rfl dX0_copy_12 ?_
  refine V_pc (pc2 := 15) rfl ?_
  refine V_aload_n 0 dX0_copy_15 rfl ?_
  refine G_X0_15 rfl (show _ = some (BO g b (σ 60) (σ 62) (σ 61)) from (by repeat (first | exact mup_eq _ _ _ | exact hB.1 | rw [mup_ne _ _ (by omega)]))) rfl dX0_copy_16 ?_
  refine C_X0_34 rfl ⟨Nat.le_of_ble_eq_true rfl, Nat.le_of_ble_eq_true rfl⟩ (r_copyRow (by repeat (first | exact mup_eq _ _ _ | exact hC.2.2.1 | rw [mup_ne _ _ (by omega)])) (by repeat (first | exact mup_eq _ _ _ | exact hB.2.2.1 | rw [mup_ne _ _ (by omega)])) (by omega) (by decide)) rfl (Nat.le_of_ble_eq_true rfl) dX0_copy_19 rfl ?_
  refine V_aload_n 1 dX0_copy_22 rfl ?_
  refine G_X0_18 rfl (show _ = some (BO g c (τ 60) (τ 62) (τ 61)) from (by repeat (first | exact mup_eq _ _ _ | exact hC.1 | rw [mup_ne _ _ (by omega)]))) rfl dX0_copy_23 ?_
  refine V_aload_n 0 dX0_copy_26 rfl ?_
  refine G_X0_18 rfl (show _ = some (BO g b (σ 60) (σ 62) (σ 61)) from (by repeat (first | exact mup_eq _ _ _ | exact hB.1 | rw [mup_ne _ _ (by omega)]))) rfl dX0_copy_27 ?_
  refine C_X0_34 rfl ⟨Nat.le_of_ble_eq_true rfl, Nat.le_of_ble_eq_true rfl⟩ (r_copyRow (by repeat (first | exact mup_eq _ _ _ | exact hC.2.2.2.1 | rw [mup_ne _ _ (by omega)])) (by repeat (first | exact mup_eq _ _ _ | exact hB.2.2.2.1 | rw [mup_ne _ _ (by omega)])) (by omega) (by decide)) rfl (Nat.le_of_ble_eq_true rfl) dX0_copy_30 rfl ?_
  refine V_pc (pc2 := 33) rfl ?_
  refine V_aload_n 1 dX0_copy_33 rfl ?_
  refine G_X0_21 rfl (show _ = some (BO g c (τ 60) (τ 62) (τ 61)) from (by repeat (first | exact mup_eq _ _ _ | exact hC.1 | rw [mup_ne _ _ (by omega)]))) rfl dX0_copy_34 ?_
  refine V_aload_n 0 dX0_copy_37 rfl ?_
  refine G_X0_21 rfl (show _ = some (BO g b (σ 60) (σ 62) (σ 61)) from (by repeat (first | exact mup_eq _ _ _ | exact hB.1 | rw [mup_ne _ _ (by omega)]))) rfl dX0_copy_38 ?_
  refine C_X0_34 rfl ⟨Nat.le_of_ble_eq_true rfl, Nat.le_of_ble_eq_true rfl⟩ (r_copyRow (by repeat (first | exact mup_eq _ _ _ | exact hC.2.2.2.2 | rw [mup_ne _ _ (by omega)])) (by repeat (first | exact mup_eq _ _ _ | exact hB.2.2.2.2 | rw [mup_ne _ _ (by omega)])) (by omega) (by decide)) rfl (Nat.le_of_ble_eq_true rfl) dX0_copy_41 rfl ?_
  refine V_aload_n 0 dX0_copy_44 rfl ?_
  refine V_aload_n 1 dX0_copy_45 rfl ?_
  refine G_X0_24 rfl (show _ = some (BO g c (τ 60) (τ 62) (τ 61)) from (by repeat (first | exact mup_eq _ _ _ | exact hC.1 | rw [mup_ne _ _ (by omega)]))) rfl dX0_copy_46 ?_
  refine V_pc (pc2 := 49) rfl ?_
  refine P_X0_24 rfl (show _ = some (BO g b (σ 60) (σ 62) (σ 61)) from (by repeat (first | exact mup_eq _ _ _ | exact hB.1 | rw [mup_ne _ _ (by omega)]))) (Nat.le_of_ble_eq_true rfl) rfl rfl dX0_copy_49 ?_
  refine V_aload_n 0 dX0_copy_52 rfl ?_
  refine V_aload_n 1 dX0_copy_53 rfl ?_
  refine G_X0_28 rfl (show _ = some (BO g c (τ 60) (τ 62) (τ 61)) from (by repeat (first | exact mup_eq _ _ _ | exact hC.1 | rw [mup_ne _ _ (by omega)]))) rfl dX0_copy_54 ?_
  refine P_X0_28 rfl (show _ = some (BO g b (τ 60) (σ 62) (σ 61)) from (by repeat (first | exact mup_eq _ _ _ | exact hB.1 | rw [mup_ne _ _ (by omega)]))) (Nat.le_of_ble_eq_true rfl) rfl rfl dX0_copy_57 ?_
  refine V_aload_n 0 dX0_copy_60 rfl ?_
  refine V_aload_n 1 dX0_copy_61 rfl ?_
  refine G_X0_31 rfl (show _ = some (BO g c (τ 60) (τ 62) (τ 61)) from (by repeat (first | exact mup_eq _ _ _ | exact hC.1 | rw [mup_ne _ _ (by omega)]))) rfl dX0_copy_62 ?_
  refine V_pc (pc2 := 65) rfl ?_
  refine P_X0_31 rfl (show _ = some (BO g b (τ 60) (τ 62) (σ 61)) from (by repeat (first | exact mup_eq _ _ _ | exact hB.1 | rw [mup_ne _ _ (by omega)]))) (Nat.le_of_ble_eq_true rfl) rfl rfl dX0_copy_65 ?_
  refine V_ret (st := []) dX0_copy_68 rfl ?_
  refine ⟨rfl, ⟨?_, ?_, ?_, ?_, ?_⟩, ?_⟩
  · rw [mup_eq]; rfl
  · exact (by repeat (first | exact mup_eq _ _ _ | exact rfl | rw [mup_ne _ _ (by omega)]))
  · exact (by repeat (first | exact mup_eq _ _ _ | exact rfl | rw [mup_ne _ _ (by omega)]))
  · exact (by repeat (first | exact mup_eq _ _ _ | exact rfl | rw [mup_ne _ _ (by omega)]))
  · exact (by repeat (first | exact mup_eq _ _ _ | exact rfl | rw [mup_ne _ _ (by omega)]))
  · exact (((((((FR.refl M b 5).put (by omega)).put (by omega)).put (by omega)).put (by omega)).put (by omega)).put (by omega)).put (by omega)
