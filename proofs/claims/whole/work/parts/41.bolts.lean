/-! bolts -/
/-- what the numbers of a land keep -/
def IS (σ : Nat → Int32) : Prop := I10 σ ∧ (∃ n : Nat, n ≤ 8 ∧ σ 60 = nI n ∧ ∀ i, i < n → (∃ q : Nat, q < 5 ∧ σ (28 + 4 * i) = nI q) ∧ ∃ l : Nat, l ≤ 99999 ∧ σ (28 + 4 * i + 1) = nI l) ∧
  (∀ i, i < 5 → ∃ k : Nat, 20 ≤ k ∧ k ≤ 60 ∧ σ (20 + i) = nI k) ∧ (∃ k : Nat, k ≤ 500 ∧ σ 25 = nI k) ∧ (∃ k : Nat, k ≤ 1 ∧ σ 26 = nI k) ∧ (∃ k : Nat, 1 ≤ k ∧ k ≤ 4 ∧ σ 27 = nI k) ∧
  ((σ 63 = 0 ∧ σ 64 = 0) ∨ ∃ n w : Nat, n < 100 ∧ 1 ≤ w ∧ w ≤ 8 ∧ σ 63 = nI (n + 1) ∧ σ 64 = nI w)
theorem bix (i : Nat) : (28 : Int32) + 4 * nI i = nI (28 + 4 * i) := by rw [show (28 : Int32) = nI 28 from rfl, show (4 : Int32) = nI 4 from rfl, pk_mul, nI_add]
theorem bix1 (i : Nat) : (28 : Int32) + 4 * nI i + 1 = nI (28 + 4 * i + 1) := by rw [bix, nI_1]
theorem bixk (i k : Nat) : (28 : Int32) + 4 * nI i + nI k = nI (28 + 4 * i + k) := by rw [bix, nI_add]
theorem bix2 (i : Nat) : (28 : Int32) + 4 * nI i + 2 = nI (28 + 4 * i + 2) := bixk i 2
theorem bix3 (i : Nat) : (28 : Int32) + 4 * nI i + 3 = nI (28 + 4 * i + 3) := bixk i 3
theorem vb0 {i : Nat} (h : i < 8) : vp_in (28 + 4 * nI i) 65 := by rw [bix]; exact vp_in_nI (by omega) (by decide)
theorem vb1 {i : Nat} (h : i < 8) : vp_in (28 + 4 * nI i + 1) 65 := by rw [bix1]; exact vp_in_nI (by omega) (by decide)
theorem vb2 {i : Nat} (h : i < 8) : vp_in (28 + 4 * nI i + 2) 65 := by rw [bix2]; exact vp_in_nI (by omega) (by decide)
theorem vb3 {i : Nat} (h : i < 8) : vp_in (28 + 4 * nI i + 3) 65 := by rw [bix3]; exact vp_in_nI (by omega) (by decide)
theorem cb0 {i : Nat} (h : i < 8) : (28 + 4 * nI i : Int32).toNatClampNeg = 28 + 4 * i := by rw [bix]; exact nI_clamp (by omega)
theorem cb1 {i : Nat} (h : i < 8) : (28 + 4 * nI i + 1 : Int32).toNatClampNeg = 28 + 4 * i + 1 := by rw [bix1]; exact nI_clamp (by omega)
theorem cb2 {i : Nat} (h : i < 8) : (28 + 4 * nI i + 2 : Int32).toNatClampNeg = 28 + 4 * i + 2 := by rw [bix2]; exact nI_clamp (by omega)
theorem cb3 {i : Nat} (h : i < 8) : (28 + 4 * nI i + 3 : Int32).toNatClampNeg = 28 + 4 * i + 3 := by rw [bix3]; exact nI_clamp (by omega)
theorem v65 (k : Nat) (h : k < 65) : vp_in (nI k) 65 := vp_in_nI h (by decide)
theorem c60 : (60 : Int32).toNatClampNeg = 60 := rfl
theorem c61 : (61 : Int32).toNatClampNeg = 61 := rfl
theorem MO_set (g : GE) (v : Nat → Int32) : (MO g v) = MO g v := rfl
/-- beyond the tables -/
theorem hv_upd {σ : Nat → Int32} {k : Nat} {x : Int32} (h : 20 ≤ k) : hv (upd σ k x) = hv σ := by
  unfold hv
  rw [upd_ne (by omega), upd_ne (by omega), upd_ne (by omega), upd_ne (by omega), upd_ne (by omega), upd_ne (by omega), upd_ne (by omega), upd_ne (by omega), upd_ne (by omega), upd_ne (by omega)]
theorem upS_upd {σ : Nat → Int32} {k : Nat} {x : Int32} (h : 20 ≤ k) {a b : Nat} (ha : a < 5) (hb : b < 5) (hab : a ≠ b) : upS (upd σ k x) a b = upS σ a b := by
  have := pr_lt a b ha hb hab
  unfold upS
  rw [upd_ne (by omega), upd_ne (by omega)]
theorem I10.upd {σ : Nat → Int32} (hI : I10 σ) {k : Nat} {x : Int32} (h : 20 ≤ k) : I10 (upd σ k x) := by
  intro j hj
  rw [upd_ne (by omega), upd_ne (by omega)]
  exact hI j hj
theorem hasS_upd {σ : Nat → Int32} {k : Nat} {x : Int32} (h : 20 ≤ k) (a b : Nat) : hasS (upd σ k x) a b = hasS σ a b := by unfold hasS; rw [hv_upd h]
theorem turnS_upd {σ : Nat → Int32} {k : Nat} {x : Int32} (h : 28 ≤ k) {a b : Nat} (ha : a < 5) (hb : b < 5) (hab : a ≠ b) (l : Int64) : turnS (upd σ k x) a b l = turnS σ a b l := by
  unfold turnS
  rw [upS_upd (by omega) ha hb hab, upS_upd (by omega) hb ha (Ne.symm hab), upd_ne (by omega)]
set_option maxRecDepth 20000 in
theorem r9_refused {g : GE} {M : Mem} {sz : Nat} {σ v : Nat → Int32} (hM : MD g M σ v) (w : Int32) : Run g m_X9_refused [rf g 96, .int w] M sz 0 0 (Ret (some (.int (bI (decide (0 < w))))) (mup M 96 (MO g (upd v 3 w)))) := by
  refine Run.of rfl (by decide) (Nat.le_of_ble_eq_true rfl) ?_
  show V g m_X9_refused 0 _ [] _ _ _ _ _
  refine V_aload_n 0 dX9_refused_0 rfl ?_
  refine V_iload_n 1 dX9_refused_1 rfl ?_
  refine P_X9_40 rfl hM.1 (Nat.le_of_ble_eq_true rfl) rfl rfl dX9_refused_2 ?_
  refine V_iload_n 1 dX9_refused_5 rfl ?_
  refine V_if_le (tgt := 13) dX9_refused_6 (by decide) (fun c6 => ?_) (fun c6 => ?_)
  · refine V_iconst (v := 0) dX9_refused_13 rfl ?_
    refine V_zret (st := []) dX9_refused_14 rfl (by simp) ?_
    exact ⟨by rw [decide_eq_false (Int32.not_lt.mpr c6)]; rfl, rfl⟩
  · refine V_iconst (v := 1) dX9_refused_9 rfl ?_
    refine V_goto (tgt := 14) dX9_refused_10 (by decide) ?_
    refine V_zret (st := []) dX9_refused_14 rfl (by simp) ?_
    exact ⟨by rw [decide_eq_true (Int32.not_le.mp c6)]; rfl, rfl⟩

set_option maxRecDepth 20000 in
theorem r9_isBolt {g : GE} {M : Mem} {sz : Nat} {σ v : Nat → Int32} (hM : MD g M σ v) (w : Int32) : Run g m_X9_isBolt [rf g 96, .int w] M sz 0 0 (Ret (some (.int (bI (inI w 0 (σ 60 - 1))))) M) := by
  refine Run.of rfl (by decide) (Nat.le_of_ble_eq_true rfl) ?_
  show V g m_X9_isBolt 0 _ [] _ _ _ _ _
  refine V_iload_n 1 dX9_isBolt_0 rfl ?_
  refine V_iconst (v := 0) dX9_isBolt_1 rfl ?_
  refine V_aload_n 0 dX9_isBolt_2 rfl ?_
  refine G_X9_7 rfl hM.1 rfl dX9_isBolt_3 ?_
  refine V_bipush (v := 60) dX9_isBolt_6 (by decide) ?_
  refine V_iald hM.2.1 (v65 60 (by decide)) dX9_isBolt_8 ?_
  refine V_iconst (v := 1) dX9_isBolt_9 rfl ?_
  refine V_pc (pc2 := 10) rfl ?_
  refine V_isub dX9_isBolt_10 ?_
  refine C_X9_44 rfl ⟨Nat.le_of_ble_eq_true rfl, Nat.le_of_ble_eq_true rfl⟩ (r9_in _ _ _) rfl (Nat.le_of_ble_eq_true rfl) dX9_isBolt_11 rfl ?_
  refine V_zret (st := []) dX9_isBolt_14 rfl (bI_01 _) ?_
  exact ⟨rfl, rfl⟩

set_option maxRecDepth 20000 in
theorem r9_ofBolt {g : GE} {M : Mem} {sz : Nat} {σ v : Nat → Int32} (hM : MD g M σ v) {x w : Int32} (i q : Nat) (hx : x = nI i) (hw : w = nI q) (hi : i < 8) (hq : q < 4) : Run g m_X9_ofBolt [rf g 96, .int x, .int w] M sz 0 0 (Ret (some (.int (σ (28 + 4 * i + q)))) M) := by
  subst hx hw
  refine Run.of rfl (by decide) (Nat.le_of_ble_eq_true rfl) ?_
  show V g m_X9_ofBolt 0 _ [] _ _ _ _ _
  refine V_aload_n 0 dX9_ofBolt_0 rfl ?_
  refine G_X9_7 rfl hM.1 rfl dX9_ofBolt_1 ?_
  refine V_bipush (v := 28) dX9_ofBolt_4 (by decide) ?_
  refine V_iconst (v := 4) dX9_ofBolt_6 rfl ?_
  refine V_iload_n 1 dX9_ofBolt_7 rfl ?_
  refine V_imul dX9_ofBolt_8 ?_
  refine V_iadd dX9_ofBolt_9 ?_
  refine V_pc (pc2 := 10) rfl ?_
  refine V_iload_n 2 dX9_ofBolt_10 rfl ?_
  refine V_iadd dX9_ofBolt_11 ?_
  refine V_iald hM.2.1 (by rw [bixk]; exact v65 _ (by omega)) dX9_ofBolt_12 ?_
  refine V_iret (st := []) dX9_ofBolt_13 rfl ?_
  rw [bixk, nI_clamp (by omega)]; exact ⟨rfl, rfl⟩

def comeS (σ : Nat → Int32) (n : Nat) (p l : Int32) : Nat → Int32 := upd (upd (upd (upd (upd σ (28 + 4 * n) p) (28 + 4 * n + 1) l) (28 + 4 * n + 2) 0) (28 + 4 * n + 3) 0) 60 (nI (n + 1))
set_option maxRecDepth 20000 in
theorem r9_comes {g : GE} {M : Mem} {sz : Nat} {σ v : Nat → Int32} (hM : MD g M σ v) (n : Nat) (hn : σ 60 = nI n) (hn8 : n < 8) (p l : Int32) : Run g m_X9_comes [rf g 96, .int p, .int l] M sz 0 0 (Ret (some (.int (nI n))) (mup M 97 (eI g 65 (comeS σ n p l)))) := by
  refine Run.of rfl (by decide) (Nat.le_of_ble_eq_true rfl) ?_
  show V g m_X9_comes 0 _ [] _ _ _ _ _
  refine V_aload_n 0 dX9_comes_0 rfl ?_
  refine G_X9_7 rfl hM.1 rfl dX9_comes_1 ?_
  refine V_bipush (v := 60) dX9_comes_4 (by decide) ?_
  refine V_iald hM.2.1 (v65 60 (by decide)) dX9_comes_6 ?_
  rw [show σ (60 : Int32).toNatClampNeg = nI n from hn]
  refine V_istore_n (lv2 := [(3, .int _), (0, .ref _), (1, .int _), (2, .int _)]) dX9_comes_7 (Nat.le_of_ble_eq_true rfl) rfl ?_
  refine V_aload_n 1 dX9_comes_8 rfl ?_
  refine G_X9_7 rfl hM.1 rfl dX9_comes_9 ?_
  refine V_pc (pc2 := 12) rfl ?_
  refine V_bipush (v := 28) dX9_comes_12 (by decide) ?_
  refine V_iconst (v := 4) dX9_comes_14 rfl ?_
  refine V_iload_n 0 dX9_comes_15 rfl ?_
  refine V_imul dX9_comes_16 ?_
  refine V_iadd dX9_comes_17 ?_
  refine V_iload_n 2 dX9_comes_18 rfl ?_
  refine V_iast hM.2.1 (vb0 hn8) dX9_comes_19 ?_
  refine V_aload_n 1 dX9_comes_20 rfl ?_
  refine V_pc (pc2 := 21) rfl ?_
  refine G_X9_7 rfl (show _ = some (MO g v) by simp [mup, hM.1]) rfl dX9_comes_21 ?_
  refine V_bipush (v := 28) dX9_comes_24 (by decide) ?_
  refine V_iconst (v := 4) dX9_comes_26 rfl ?_
  refine V_iload_n 0 dX9_comes_27 rfl ?_
  refine V_imul dX9_comes_28 ?_
  refine V_iadd dX9_comes_29 ?_
  refine V_iconst (v := 1) dX9_comes_30 rfl ?_
  refine V_iadd dX9_comes_31 ?_
  refine V_pc (pc2 := 32) rfl ?_
  refine V_iload_n 3 dX9_comes_32 rfl ?_
  refine V_iast (mup_eq _ _ _) (vb1 hn8) dX9_comes_33 ?_
  refine V_aload_n 1 dX9_comes_34 rfl ?_
  refine G_X9_7 rfl (show _ = some (MO g v) by simp [mup, hM.1]) rfl dX9_comes_35 ?_
  refine V_bipush (v := 28) dX9_comes_38 (by decide) ?_
  refine V_iconst (v := 4) dX9_comes_40 rfl ?_
  refine V_iload_n 0 dX9_comes_41 rfl ?_
  refine V_imul dX9_comes_42 ?_
  refine V_pc (pc2 := 43) rfl ?_
  refine V_iadd dX9_comes_43 ?_
  refine V_iconst (v := 2) dX9_comes_44 rfl ?_
  refine V_iadd dX9_comes_45 ?_
  refine V_iconst (v := 0) dX9_comes_46 rfl ?_
  refine V_iast (mup_eq _ _ _) (vb2 hn8) dX9_comes_47 ?_
  refine V_aload_n 1 dX9_comes_48 rfl ?_
  refine G_X9_7 rfl (show _ = some (MO g v) by simp [mup, hM.1]) rfl dX9_comes_49 ?_
  refine V_bipush (v := 28) dX9_comes_52 (by decide) ?_
  refine V_pc (pc2 := 54) rfl ?_
  refine V_iconst (v := 4) dX9_comes_54 rfl ?_
  refine V_iload_n 0 dX9_comes_55 rfl ?_
  refine V_imul dX9_comes_56 ?_
  refine V_iadd dX9_comes_57 ?_
  refine V_iconst (v := 3) dX9_comes_58 rfl ?_
  refine V_iadd dX9_comes_59 ?_
  refine V_iconst (v := 0) dX9_comes_60 rfl ?_
  refine V_iast (mup_eq _ _ _) (vb3 hn8) dX9_comes_61 ?_
  refine V_pc (pc2 := 62) rfl ?_
  refine V_aload_n 1 dX9_comes_62 rfl ?_
  refine G_X9_7 rfl (show _ = some (MO g v) by simp [mup, hM.1]) rfl dX9_comes_63 ?_
  refine V_bipush (v := 60) dX9_comes_66 (by decide) ?_
  refine V_dup2 dX9_comes_68 rfl rfl ?_
  refine V_iald (mup_eq _ _ _) (v65 60 (by decide)) dX9_comes_69 ?_
  refine V_iconst (v := 1) dX9_comes_70 rfl ?_
  refine V_iadd dX9_comes_71 ?_
  refine V_iast (mup_eq _ _ _) (v65 60 (by decide)) dX9_comes_72 ?_
  refine V_pc (pc2 := 73) rfl ?_
  refine V_iload_n 0 dX9_comes_73 rfl ?_
  refine V_iret (st := []) dX9_comes_74 rfl ?_
  refine ⟨rfl, ?_⟩
  simp only [mup_mup]
  rw [cb0 hn8, cb1 hn8, cb2 hn8, cb3 hn8, c60, upd_ne (show 60 ≠ 28 + 4 * n + 3 by omega), upd_ne (show 60 ≠ 28 + 4 * n + 2 by omega), upd_ne (show 60 ≠ 28 + 4 * n + 1 by omega), upd_ne (show 60 ≠ 28 + 4 * n by omega), hn, nI_1]
  rfl

/-- why a bolt that lies in q can't go to p; x its length -/
def barS (σ : Nat → Int32) (q p : Nat) (x : Int64) : Int32 := if q = p then 1 else if hasS σ q p = false then 2 else if 99999 < turnS σ q p x then 3 else 0
theorem barS_1 {σ : Nat → Int32} {q p : Nat} {x : Int64} (h : q = p) : barS σ q p x = 1 := if_pos h
theorem barS_2 {σ : Nat → Int32} {q p : Nat} {x : Int64} (h : ¬ q = p) (h2 : hasS σ q p = false) : barS σ q p x = 2 := by unfold barS; rw [if_neg h, if_pos h2]
theorem barS_3 {σ : Nat → Int32} {q p : Nat} {x : Int64} (h : ¬ q = p) (h2 : hasS σ q p = true) (h3 : 99999 < turnS σ q p x) : barS σ q p x = 3 := by unfold barS; rw [if_neg h, if_neg (by rw [h2]; decide), if_pos h3]
theorem barS_0 {σ : Nat → Int32} {q p : Nat} {x : Int64} (h : ¬ q = p) (h2 : hasS σ q p = true) (h3 : ¬ 99999 < turnS σ q p x) : barS σ q p x = 0 := by unfold barS; rw [if_neg h, if_neg (by rw [h2]; decide), if_neg h3]
theorem barS_0' {σ : Nat → Int32} {q p : Nat} {x : Int64} (h : barS σ q p x = 0) : hasS σ q p = true := by
  unfold barS at h
  split at h
  · exact absurd h (by decide)
  · split at h
    · exact absurd h (by decide)
    · rename_i h2
      exact (Bool.not_eq_false _).mp h2
set_option maxRecDepth 20000 in
theorem r9_bar {g : GE} {M : Mem} {sz : Nat} {σ v : Nat → Int32} (hM : MD g M σ v) (hI : I10 σ) {x y : Int32} (i q p : Nat) (hx : x = nI i) (hy : y = nI p) (hi : i < 8) (hq : q < 5) (hp : p < 5) (hσq : σ (28 + 4 * i) = nI q) : Run g m_X9_bar [rf g 96, .int x, .int y] M sz 0 0 (Ret (some (.int (barS σ q p (σ (28 + 4 * i + 1)).toInt64))) M) := by
  subst hx hy
  have E : nI q = nI p ↔ q = p := nI_eq (by omega) (by omega)
  refine Run.of rfl (by decide) (Nat.le_of_ble_eq_true rfl) ?_
  show V g m_X9_bar 0 _ [] _ _ _ _ _
  refine V_aload_n 0 dX9_bar_0 rfl ?_
  refine V_iload_n 1 dX9_bar_1 rfl ?_
  refine V_iconst (v := 0) dX9_bar_2 rfl ?_
  refine C_X9_142 hM.1 rfl ⟨Nat.le_of_ble_eq_true rfl, Nat.le_of_ble_eq_true rfl⟩ (r9_ofBolt hM i 0 rfl rfl hi (by decide)) rfl (Nat.le_of_ble_eq_true rfl) dX9_bar_3 rfl ?_
  rw [show σ (28 + 4 * i + 0) = nI q from hσq]
  refine V_istore_n (lv2 := [(3, .int _), (0, .ref _), (1, .int _), (2, .int _)]) dX9_bar_6 (Nat.le_of_ble_eq_true rfl) rfl ?_
  refine V_iload_n 0 dX9_bar_7 rfl ?_
  refine V_iload_n 3 dX9_bar_8 rfl ?_
  refine V_pc (pc2 := 9) rfl ?_
  refine V_icmp_ne (tgt := 16) dX9_bar_9 (by decide) (fun c9 => ?_) (fun c9 => ?_)
  · refine V_aload_n 1 dX9_bar_16 rfl ?_
    refine V_iload_n 0 dX9_bar_17 rfl ?_
    refine V_iload_n 3 dX9_bar_18 rfl ?_
    refine C_X9_66 hM.1 rfl ⟨Nat.le_of_ble_eq_true rfl, Nat.le_of_ble_eq_true rfl⟩ (r9_has hM q p rfl rfl hq hp) rfl (Nat.le_of_ble_eq_true rfl) dX9_bar_19 rfl ?_
    refine V_if_ne (tgt := 29) dX9_bar_22 (by decide) (fun c22 => ?_) (fun c22 => ?_)
    · refine V_aload_n 1 dX9_bar_29 rfl ?_
      refine V_iload_n 0 dX9_bar_30 rfl ?_
      refine V_iload_n 3 dX9_bar_31 rfl ?_
      refine V_aload_n 1 dX9_bar_32 rfl ?_
      refine V_iload_n 2 dX9_bar_33 rfl ?_
      refine V_iconst (v := 1) dX9_bar_34 rfl ?_
      refine C_X9_142 hM.1 rfl ⟨Nat.le_of_ble_eq_true rfl, Nat.le_of_ble_eq_true rfl⟩ (r9_ofBolt hM i 1 rfl rfl hi (by decide)) rfl (Nat.le_of_ble_eq_true rfl) dX9_bar_35 rfl ?_
      refine V_pc (pc2 := 38) rfl ?_
      refine V_i2l dX9_bar_38 ?_
      refine C_X9_133 hM.1 rfl ⟨Nat.le_of_ble_eq_true rfl, Nat.le_of_ble_eq_true rfl⟩ (r9_turns hM q p rfl rfl hq hp hI (bI_1 c22) _) rfl (Nat.le_of_ble_eq_true rfl) dX9_bar_39 rfl ?_
      refine V_ldc2 z_X9_145 dX9_bar_42 ?_
      refine V_lcmp dX9_bar_45 ?_
      refine V_if_le (tgt := 53) dX9_bar_46 (by decide) (fun c46 => ?_) (fun c46 => ?_)
      · refine V_iconst (v := 0) dX9_bar_53 rfl ?_
        refine V_iret (st := []) dX9_bar_54 rfl ?_
        refine ⟨?_, rfl⟩; rw [barS_0 (fun h => c9 (E.mpr h)) (bI_1 c22) (fun h => absurd (lgc_gt.mpr h) (Int32.not_lt.mpr c46))]
      · refine V_iconst (v := 3) dX9_bar_49 rfl ?_
        refine V_goto (tgt := 54) dX9_bar_50 (by decide) ?_
        refine V_iret (st := []) dX9_bar_54 rfl ?_
        refine ⟨?_, rfl⟩; rw [barS_3 (fun h => c9 (E.mpr h)) (bI_1 c22) (lgc_gt.mp (Int32.not_le.mp c46))]
    · refine V_iconst (v := 2) dX9_bar_25 rfl ?_
      refine V_goto (tgt := 54) dX9_bar_26 (by decide) ?_
      refine V_iret (st := []) dX9_bar_54 rfl ?_
      refine ⟨?_, rfl⟩; rw [barS_2 (fun h => c9 (E.mpr h)) (bI_0 c22)]
  · refine V_iconst (v := 1) dX9_bar_12 rfl ?_
    refine V_goto (tgt := 54) dX9_bar_13 (by decide) ?_
    refine V_iret (st := []) dX9_bar_54 rfl ?_
    refine ⟨?_, rfl⟩; rw [barS_1 (E.mp c9)]

def sendS (σ : Nat → Int32) (i q p : Nat) : Nat → Int32 :=
  upd (upd (upd (upd (upd σ (28 + 4 * i) (nI p)) (28 + 4 * i + 1) (turnS σ q p (σ (28 + 4 * i + 1)).toInt64).toInt32) (28 + 4 * i + 2) (σ (28 + 4 * i + 2) + (gainT σ q p (σ (28 + 4 * i + 1)).toInt64).toInt32)) (28 + 4 * i + 3) (σ (28 + 4 * i + 3) + 1)) 61 (σ 61 + (gainT σ q p (σ (28 + 4 * i + 1)).toInt64).toInt32)
set_option maxRecDepth 20000 in
theorem r9_sends {g : GE} {M : Mem} {sz : Nat} {σ v : Nat → Int32} (hM : MD g M σ v) (hI : I10 σ) {x y : Int32} (i q p : Nat) (hx : x = nI i) (hy : y = nI p) (hi : i < 8) (hq : q < 5) (hp : p < 5) (hσq : σ (28 + 4 * i) = nI q) (hh : hasS σ q p = true) : Run g m_X9_sends [rf g 96, .int x, .int y] M sz 0 0 (Ret (some (.int (turnS σ q p (σ (28 + 4 * i + 1)).toInt64).toInt32)) (mup M 97 (eI g 65 (sendS σ i q p)))) := by
  subst hx hy
  have hqp := hasNe hh
  refine Run.of rfl (by decide) (Nat.le_of_ble_eq_true rfl) ?_
  show V g m_X9_sends 0 _ [] _ _ _ _ _
  refine V_aload_n 0 dX9_sends_0 rfl ?_
  refine V_iload_n 1 dX9_sends_1 rfl ?_
  refine V_iconst (v := 0) dX9_sends_2 rfl ?_
  refine C_X9_142 hM.1 rfl ⟨Nat.le_of_ble_eq_true rfl, Nat.le_of_ble_eq_true rfl⟩ (r9_ofBolt hM i 0 rfl rfl hi (by decide)) rfl (Nat.le_of_ble_eq_true rfl) dX9_sends_3 rfl ?_
  rw [show σ (28 + 4 * i + 0) = nI q from hσq]
  refine V_istore_n (lv2 := [(3, .int _), (0, .ref _), (1, .int _), (2, .int _)]) dX9_sends_6 (Nat.le_of_ble_eq_true rfl) rfl ?_
  refine V_aload_n 1 dX9_sends_7 rfl ?_
  refine V_iload_n 2 dX9_sends_8 rfl ?_
  refine V_pc (pc2 := 9) rfl ?_
  refine V_iconst (v := 1) dX9_sends_9 rfl ?_
  refine C_X9_142 hM.1 rfl ⟨Nat.le_of_ble_eq_true rfl, Nat.le_of_ble_eq_true rfl⟩ (r9_ofBolt hM i 1 rfl rfl hi (by decide)) rfl (Nat.le_of_ble_eq_true rfl) dX9_sends_10 rfl ?_
  refine V_istore (lv2 := [(4, .int _), (3, .int _), (0, .ref _), (1, .int _), (2, .int _)]) dX9_sends_13 (Nat.le_of_ble_eq_true rfl) rfl ?_
  refine V_aload_n 2 dX9_sends_15 rfl ?_
  refine V_iload_n 1 dX9_sends_16 rfl ?_
  refine V_iload_n 4 dX9_sends_17 rfl ?_
  refine V_iload 0 dX9_sends_18 rfl ?_
  refine V_i2l dX9_sends_20 ?_
  refine V_pc (pc2 := 21) rfl ?_
  refine C_X9_147 hM.1 rfl ⟨Nat.le_of_ble_eq_true rfl, Nat.le_of_ble_eq_true rfl⟩ (r9_gains hM q p rfl rfl hq hp hI hh _) rfl (Nat.le_of_ble_eq_true rfl) dX9_sends_21 rfl ?_
  refine V_l2i dX9_sends_24 ?_
  refine V_istore (lv2 := [(5, .int _), (4, .int _), (3, .int _), (0, .ref _), (1, .int _), (2, .int _)]) dX9_sends_25 (Nat.le_of_ble_eq_true rfl) rfl ?_
  refine V_aload_n 3 dX9_sends_27 rfl ?_
  refine G_X9_7 rfl hM.1 rfl dX9_sends_28 ?_
  refine V_bipush (v := 28) dX9_sends_31 (by decide) ?_
  refine V_iconst (v := 4) dX9_sends_33 rfl ?_
  refine V_iload_n 4 dX9_sends_34 rfl ?_
  refine V_pc (pc2 := 35) rfl ?_
  refine V_imul dX9_sends_35 ?_
  refine V_iadd dX9_sends_36 ?_
  refine V_iload_n 5 dX9_sends_37 rfl ?_
  refine V_iast hM.2.1 (vb0 hi) dX9_sends_38 ?_
  refine V_aload_n 3 dX9_sends_39 rfl ?_
  refine G_X9_7 rfl (hM.put _).1 rfl dX9_sends_40 ?_
  refine V_bipush (v := 28) dX9_sends_43 (by decide) ?_
  refine V_iconst (v := 4) dX9_sends_45 rfl ?_
  refine V_pc (pc2 := 46) rfl ?_
  refine V_iload_n 4 dX9_sends_46 rfl ?_
  refine V_imul dX9_sends_47 ?_
  refine V_iadd dX9_sends_48 ?_
  refine V_iconst (v := 1) dX9_sends_49 rfl ?_
  refine V_iadd dX9_sends_50 ?_
  refine V_aload_n 3 dX9_sends_51 rfl ?_
  refine V_iload_n 2 dX9_sends_52 rfl ?_
  refine V_iload_n 5 dX9_sends_53 rfl ?_
  refine V_pc (pc2 := 54) rfl ?_
  refine V_iload 1 dX9_sends_54 rfl ?_
  refine V_i2l dX9_sends_56 ?_
  refine C_X9_133 (hM.put _).1 rfl ⟨Nat.le_of_ble_eq_true rfl, Nat.le_of_ble_eq_true rfl⟩ (r9_turns (hM.put _) q p rfl rfl hq hp (hI.upd (by rw [cb0 hi]; omega)) (by rw [cb0 hi, hasS_upd (by omega)]; exact hh) _) rfl (Nat.le_of_ble_eq_true rfl) dX9_sends_57 rfl ?_
  rw [cb0 hi, turnS_upd (by omega) hq hp hqp]
  refine V_l2i dX9_sends_60 ?_
  refine V_iast (mup_eq _ _ _) (vb1 hi) dX9_sends_61 ?_
  refine V_aload_n 3 dX9_sends_62 rfl ?_
  refine G_X9_7 rfl (show _ = some (MO g v) by simp [mup, hM.1]) rfl dX9_sends_63 ?_
  refine V_bipush (v := 28) dX9_sends_66 (by decide) ?_
  refine V_pc (pc2 := 68) rfl ?_
  refine V_iconst (v := 4) dX9_sends_68 rfl ?_
  refine V_iload_n 4 dX9_sends_69 rfl ?_
  refine V_imul dX9_sends_70 ?_
  refine V_iadd dX9_sends_71 ?_
  refine V_iconst (v := 2) dX9_sends_72 rfl ?_
  refine V_iadd dX9_sends_73 ?_
  refine V_dup2 dX9_sends_74 rfl rfl ?_
  refine V_iald (mup_eq _ _ _) (vb2 hi) dX9_sends_75 ?_
  refine V_pc (pc2 := 76) rfl ?_
  refine V_iload 0 dX9_sends_76 rfl ?_
  refine V_iadd dX9_sends_78 ?_
  refine V_iast (mup_eq _ _ _) (vb2 hi) dX9_sends_79 ?_
  refine V_aload_n 3 dX9_sends_80 rfl ?_
  refine G_X9_7 rfl (show _ = some (MO g v) by simp [mup, hM.1]) rfl dX9_sends_81 ?_
  refine V_bipush (v := 28) dX9_sends_84 (by decide) ?_
  refine V_iconst (v := 4) dX9_sends_86 rfl ?_
  refine V_iload_n 4 dX9_sends_87 rfl ?_
  refine V_pc (pc2 := 88) rfl ?_
  refine V_imul dX9_sends_88 ?_
  refine V_iadd dX9_sends_89 ?_
  refine V_iconst (v := 3) dX9_sends_90 rfl ?_
  refine V_iadd dX9_sends_91 ?_
  refine V_dup2 dX9_sends_92 rfl rfl ?_
  refine V_iald (mup_eq _ _ _) (vb3 hi) dX9_sends_93 ?_
  refine V_iconst (v := 1) dX9_sends_94 rfl ?_
  refine V_iadd dX9_sends_95 ?_
  refine V_pc (pc2 := 96) rfl ?_
  refine V_iast (mup_eq _ _ _) (vb3 hi) dX9_sends_96 ?_
  refine V_aload_n 3 dX9_sends_97 rfl ?_
  refine G_X9_7 rfl (show _ = some (MO g v) by simp [mup, hM.1]) rfl dX9_sends_98 ?_
  refine V_bipush (v := 61) dX9_sends_101 (by decide) ?_
  refine V_dup2 dX9_sends_103 rfl rfl ?_
  refine V_iald (mup_eq _ _ _) (v65 61 (by decide)) dX9_sends_104 ?_
  refine V_iload 0 dX9_sends_105 rfl ?_
  refine V_iadd dX9_sends_107 ?_
  refine V_pc (pc2 := 108) rfl ?_
  refine V_iast (mup_eq _ _ _) (v65 61 (by decide)) dX9_sends_108 ?_
  refine V_aload_n 3 dX9_sends_109 rfl ?_
  refine V_iload_n 4 dX9_sends_110 rfl ?_
  refine V_iconst (v := 1) dX9_sends_111 rfl ?_
  have eM : mup M 97 (eI g 65 (sendS σ i q p)) = _ := rfl
  simp only [mup_mup]
  rw [cb1 hi, cb2 hi, cb3 hi, c61, upd_ne (show 28 + 4 * i + 2 ≠ 28 + 4 * i + 1 by omega), upd_ne (show 28 + 4 * i + 2 ≠ 28 + 4 * i by omega), upd_ne (show 28 + 4 * i + 3 ≠ 28 + 4 * i + 2 by omega), upd_ne (show 28 + 4 * i + 3 ≠ 28 + 4 * i + 1 by omega), upd_ne (show 28 + 4 * i + 3 ≠ 28 + 4 * i by omega), upd_ne (show 61 ≠ 28 + 4 * i + 3 by omega), upd_ne (show 61 ≠ 28 + 4 * i + 2 by omega), upd_ne (show 61 ≠ 28 + 4 * i + 1 by omega), upd_ne (show 61 ≠ 28 + 4 * i by omega)]
  rw [show upd (upd (upd (upd (upd σ (28 + 4 * i) (nI p)) (28 + 4 * i + 1) (turnS σ q p (σ (28 + 4 * i + 1)).toInt64).toInt32) (28 + 4 * i + 2) (σ (28 + 4 * i + 2) + (gainT σ q p (σ (28 + 4 * i + 1)).toInt64).toInt32)) (28 + 4 * i + 3) (σ (28 + 4 * i + 3) + 1)) 61 (σ 61 + (gainT σ q p (σ (28 + 4 * i + 1)).toInt64).toInt32) = sendS σ i q p from rfl]
  refine C_X9_142 (by rw [← eM]; exact (hM.put _).1) rfl ⟨Nat.le_of_ble_eq_true rfl, Nat.le_of_ble_eq_true rfl⟩ (r9_ofBolt (σ := sendS σ i q p) (by rw [← eM]; exact hM.put _) i 1 rfl rfl hi (by decide)) rfl (Nat.le_of_ble_eq_true rfl) dX9_sends_112 rfl ?_
  
  refine V_iret (st := []) dX9_sends_115 rfl ?_
  refine ⟨?_, rfl⟩; unfold sendS; rw [upd_ne (show 28 + 4 * i + 1 ≠ 61 by omega), upd_ne (show 28 + 4 * i + 1 ≠ 28 + 4 * i + 3 by omega), upd_ne (show 28 + 4 * i + 1 ≠ 28 + 4 * i + 2 by omega), upd_at]

