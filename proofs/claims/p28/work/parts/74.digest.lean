/-! digest -/
def hq (h : Int64) (x : Int32) : Int64 := 31 * h + x.toInt64
def foldN (f : Nat → Int64 → Int64) : Nat → Nat → Int64 → Int64
  | 0, _, h => h
  | m + 1, i, h => foldN f m (i + 1) (f i h)
theorem foldN_s (f : Nat → Int64 → Int64) (m i : Nat) (h : Int64) : foldN f (m + 1) i h = foldN f m (i + 1) (f i h) := rfl
def hCo (σ : Nat → Int32) (n : Nat) : Nat → Nat → Int64 → Int64 := foldN (fun k h => hq h (countS σ n k))
def pst (σ : Nat → Int32) (K a b : Nat) (h : Int64) : Int64 := hq (hq (hq (hq (hq (hq h (ofTabS σ a b 0)) (ofTabS σ a b 1)) (ofTabS σ a b 2)) (mdO σ a b 0 (fnd (stdI σ a b) 1 15))) (mdO σ a b 1 (fnd (stdI σ a b) 1 15))) (fC (bwS σ a b (100 : Int32).toInt64 K 16))
def hpI (σ : Nat → Int32) (K a : Nat) : Nat → Nat → Int64 → Int64 := foldN (fun b h => pst σ K a b h)
def hpO (σ : Nat → Int32) (K : Nat) : Nat → Nat → Int64 → Int64 := foldN (fun a h => hpI σ K a (4 - a) (a + 1) h)
def fo (σ : Nat → Int32) (r : Nat) : Nat → Nat → Int64 → Int64 := foldN (fun c h => hq h (toldS σ r (nI c)))
def rgA (σ : Nat → Int32) (i : Nat) : Nat := (fnd (atS σ i) 0 37).getD 0
def hrC (σ : Nat → Int32) : Nat → Nat → Int64 → Int64 := foldN (fun i h => fo σ (rgA σ i) 4 0 h)
def boF (σ : Nat → Int32) (i : Nat) : Nat → Nat → Int64 → Int64 := foldN (fun c h => hq h (boltedS σ i c))
def hbO (σ : Nat → Int32) : Nat → Nat → Int64 → Int64 := foldN (fun i h => boF σ i 4 0 h)
def htX (tx : Nat → Int32) : Nat → Nat → Int64 → Int64 := foldN (fun i h => hq h (tx i))
def dgS (σ : Nat → Int32) (n K m len : Nat) (tx : Nat → Int32) : Int64 :=
  htX tx len 0 (hq (31 * hq (hq (hq (hq (hbO σ m 0 (hrC σ (cnt (thr σ) 37) 0 (hpO σ K 5 0 (hCo σ n 18 0 3851)))) (stopS σ 0)) (stopS σ 1)) (codI (fnd (wouS (putS σ 0 1 3 2) 0 1) 0 37))) (turnedS σ 0 1 1000) + (shS σ).toInt64) (nI len))
theorem hrC_s (σ : Nat → Int32) (m i : Nat) (h : Int64) : hrC σ (m + 1) i h = hrC σ m (i + 1) (fo σ (rgA σ i) 4 0 h) := foldN_s _ _ _ _
theorem hbO_s (σ : Nat → Int32) (m i : Nat) (h : Int64) : hbO σ (m + 1) i h = hbO σ m (i + 1) (boF σ i 4 0 h) := foldN_s _ _ _ _
theorem hpO_s (σ : Nat → Int32) (K m a : Nat) (h : Int64) : hpO σ K (m + 1) a h = hpO σ K m (a + 1) (hpI σ K a (4 - a) (a + 1) h) := foldN_s _ _ _ _
theorem hpI_s (σ : Nat → Int32) (K a m b : Nat) (h : Int64) : hpI σ K a (m + 1) b h = hpI σ K a m (b + 1) (pst σ K a b h) := foldN_s _ _ _ _
theorem fo_s (σ : Nat → Int32) (r m c : Nat) (h : Int64) : fo σ r (m + 1) c h = fo σ r m (c + 1) (hq h (toldS σ r (nI c))) := foldN_s _ _ _ _
theorem boF_s (σ : Nat → Int32) (i m c : Nat) (h : Int64) : boF σ i (m + 1) c h = boF σ i m (c + 1) (hq h (boltedS σ i c)) := foldN_s _ _ _ _
theorem hCo_s (σ : Nat → Int32) (n m k : Nat) (h : Int64) : hCo σ n (m + 1) k h = hCo σ n m (k + 1) (hq h (countS σ n k)) := foldN_s _ _ _ _
theorem htX_s (tx : Nat → Int32) (m i : Nat) (h : Int64) : htX tx (m + 1) i h = htX tx m (i + 1) (hq h (tx i)) := foldN_s _ _ _ _
theorem cnt_le2 {p : Nat → Bool} : ∀ {n m : Nat}, n ≤ m → cnt p n ≤ cnt p m := by
  intro n m h
  induction m with
  | zero => rw [show n = 0 by omega]; exact Nat.le_refl _
  | succ m ih =>
    by_cases e : n = m + 1
    · rw [e]; exact Nat.le_refl _
    · exact Nat.le_trans (ih (by omega)) (Nat.le_add_right _ _)
theorem fnd_first {P : Nat → Bool} {r : Nat} (hr : P r = true) : ∀ (m i : Nat), i ≤ r → r < i + m → (∀ k, i ≤ k → k < r → P k = false) → fnd P i m = some r := by
  intro m
  induction m with
  | zero => intro i h1 h2; omega
  | succ m ih =>
    intro i h1 h2 h3
    by_cases e : i = r
    · subst e; exact fnd_t hr
    · rw [fnd_f (h3 i (Nat.le_refl _) (by omega))]
      exact ih (i + 1) (by omega) (by omega) (fun k a b => h3 k (by omega) b)
theorem fnd_at {σ : Nat → Int32} {r : Nat} (hr : r < 37) (ht : thr σ r = true) : fnd (atS σ (cnt (thr σ) r)) 0 37 = some r := by
  refine fnd_first (by unfold atS; rw [ht, Bool.true_and]; exact beq_self_eq_true _) 37 0 (Nat.zero_le _) (by omega) (fun k _ hk => ?_)
  unfold atS
  cases e : thr σ k with
  | false => rfl
  | true =>
    have h1 := cnt_t e
    have h2 := cnt_le2 (p := thr σ) (show k + 1 ≤ r by omega)
    rw [Bool.true_and]
    exact beq_false_of_ne (by omega)
theorem cnt_ex {p : Nat → Bool} : ∀ {n i : Nat}, i < cnt p n → ∃ r, r < n ∧ p r = true ∧ cnt p r = i
  | 0, i, h => absurd h (Nat.not_lt_zero _)
  | n + 1, i, h => by
    by_cases e : p n = true
    · rw [cnt_t e] at h
      by_cases e2 : i = cnt p n
      · exact ⟨n, by omega, e, e2.symm⟩
      · obtain ⟨r, a, b, c⟩ := cnt_ex (p := p) (n := n) (i := i) (by omega)
        exact ⟨r, by omega, b, c⟩
    · rw [cnt_f ((Bool.not_eq_true _).mp e)] at h
      obtain ⟨r, a, b, c⟩ := cnt_ex (p := p) (n := n) (i := i) h
      exact ⟨r, by omega, b, c⟩
set_option maxRecDepth 20000 in
theorem hpair_i {g : GE} {M : Mem} {sz : Nat} {σ τ : Nat → Int32} {hk : Bool} {n : Nat} {ps : Nat → Nat → Int32} {len : Nat} {tx : Nat → Int32} (hI : I10 σ) {K : Nat} (hK : σ 27 = nI K) (hK1 : 1 ≤ K) (hK4 : K ≤ 4) {a : Nat} (ha : a < 5) {h0 : Int64} {Q : Ou → Mem → Prop} : ∀ (m b : Nat) (h : Int64) (M9 : Mem), b + m = 5 → a < b → CW g M9 σ τ hk n ps len tx → FR M M9 0 96 → (∀ M8, CW g M8 σ τ hk n ps len tx → FR M M8 0 96 → V g m_X8_hashPairs 5 [(5, .int (nI (a + 1))), (3, .long (hpI σ K a m b h)), (0, rf g 0), (1, .long h0)] [] M8 sz 0 0 Q) → V g m_X8_hashPairs 17 [(6, .int (nI b)), (5, .int (nI a)), (3, .long h), (0, rf g 0), (1, .long h0)] [] M9 sz 0 0 Q := by
  intro m
  induction m with
  | zero =>
    intro b h M9 hb5 hab hD0 hF0 kk
    refine V_iload 0 dX8_hashPairs_17 rfl ?_
    refine V_iconst (v := 5) dX8_hashPairs_19 rfl ?_
    refine V_icmp_ge (tgt := 132) dX8_hashPairs_20 (by decide) (fun c20 => ?_) (fun c20 => absurd (nI_le (a := 5) (by omega) (by omega)) c20)
    refine V_iinc (v := _ + 1) (lv2 := [(5, .int _), (6, .int _), (3, .long _), (0, .ref _), (1, .long _)]) 1 dX8_hashPairs_132 rfl rfl (Nat.le_of_ble_eq_true rfl) rfl ?_
    refine V_goto (tgt := 5) dX8_hashPairs_135 (by decide) ?_
    refine V_lv (lv2 := [(5, .int _), (3, .long _), (0, .ref _), (1, .long _)]) [0, 2, 3, 4] rfl ?_
    rw [nI_1]
    exact kk M9 hD0 hF0
  | succ m ih =>
    intro b h M9 hb5 hab hD0 hF0 kk
    have hb : b < 5 := by omega
    refine V_iload 0 dX8_hashPairs_17 rfl ?_
    refine V_iconst (v := 5) dX8_hashPairs_19 rfl ?_
    refine V_icmp_ge (tgt := 132) dX8_hashPairs_20 (by decide) (fun c20 => absurd c20 (nI_ge (b := 5) hb (by decide))) (fun c20 => ?_)
    refine V_ldc2 z_X8_327 dX8_hashPairs_23 ?_
    refine V_lload_n 2 dX8_hashPairs_26 rfl ?_
    refine V_lmul dX8_hashPairs_27 ?_
    refine V_aload_n 3 dX8_hashPairs_28 rfl ?_
    refine V_pc (pc2 := 29) rfl ?_
    refine V_iload 1 dX8_hashPairs_29 rfl ?_
    refine V_iload 0 dX8_hashPairs_31 rfl ?_
    refine V_iconst (v := 0) dX8_hashPairs_33 rfl ?_
    refine Cp_X8_361 hD0.1 rfl ⟨Nat.le_of_ble_eq_true rfl, Nat.le_of_ble_eq_true rfl⟩ (x_tableOf_ok hD0 hI a b ha hb rfl rfl (by omega) (by decide) (by decide)) rfl (Nat.le_of_ble_eq_true rfl) dX8_hashPairs_34 rfl (fun _ q0 => ?_)
    have hD1 := q0.1
    have hF1 := hF0.trans (b := 0) (n := 96) q0.2 (by omega)
    refine V_i2l dX8_hashPairs_37 ?_
    refine V_ladd dX8_hashPairs_38 ?_
    refine V_lstore_n (lv2 := [(3, .long _), (6, .int _), (5, .int _), (0, .ref _), (1, .long _)]) dX8_hashPairs_39 (Nat.le_of_ble_eq_true rfl) rfl ?_
    refine V_ldc2 z_X8_327 dX8_hashPairs_40 ?_
    refine V_pc (pc2 := 43) rfl ?_
    refine V_lload_n 0 dX8_hashPairs_43 rfl ?_
    refine V_lmul dX8_hashPairs_44 ?_
    refine V_aload_n 3 dX8_hashPairs_45 rfl ?_
    refine V_iload 2 dX8_hashPairs_46 rfl ?_
    refine V_iload 1 dX8_hashPairs_48 rfl ?_
    refine V_iconst (v := 1) dX8_hashPairs_50 rfl ?_
    refine Cp_X8_361 hD1.1 rfl ⟨Nat.le_of_ble_eq_true rfl, Nat.le_of_ble_eq_true rfl⟩ (x_tableOf_ok hD1 hI a b ha hb rfl rfl (by omega) (by decide) (by decide)) rfl (Nat.le_of_ble_eq_true rfl) dX8_hashPairs_51 rfl (fun _ q1 => ?_)
    have hD2 := q1.1
    have hF2 := hF1.trans (b := 0) (n := 96) q1.2 (by omega)
    refine V_i2l dX8_hashPairs_54 ?_
    refine V_pc (pc2 := 55) rfl ?_
    refine V_ladd dX8_hashPairs_55 ?_
    refine V_lstore_n (lv2 := [(3, .long _), (6, .int _), (5, .int _), (0, .ref _), (1, .long _)]) dX8_hashPairs_56 (Nat.le_of_ble_eq_true rfl) rfl ?_
    refine V_ldc2 z_X8_327 dX8_hashPairs_57 ?_
    refine V_lload_n 0 dX8_hashPairs_60 rfl ?_
    refine V_lmul dX8_hashPairs_61 ?_
    refine V_aload_n 3 dX8_hashPairs_62 rfl ?_
    refine V_iload 2 dX8_hashPairs_63 rfl ?_
    refine V_iload 1 dX8_hashPairs_65 rfl ?_
    refine V_pc (pc2 := 67) rfl ?_
    refine V_iconst (v := 2) dX8_hashPairs_67 rfl ?_
    refine Cp_X8_361 hD2.1 rfl ⟨Nat.le_of_ble_eq_true rfl, Nat.le_of_ble_eq_true rfl⟩ (x_tableOf_ok hD2 hI a b ha hb rfl rfl (by omega) (by decide) (by decide)) rfl (Nat.le_of_ble_eq_true rfl) dX8_hashPairs_68 rfl (fun _ q2 => ?_)
    have hD3 := q2.1
    have hF3 := hF2.trans (b := 0) (n := 96) q2.2 (by omega)
    refine V_i2l dX8_hashPairs_71 ?_
    refine V_ladd dX8_hashPairs_72 ?_
    refine V_lstore_n (lv2 := [(3, .long _), (6, .int _), (5, .int _), (0, .ref _), (1, .long _)]) dX8_hashPairs_73 (Nat.le_of_ble_eq_true rfl) rfl ?_
    refine V_ldc2 z_X8_327 dX8_hashPairs_74 ?_
    refine V_lload_n 0 dX8_hashPairs_77 rfl ?_
    refine V_lmul dX8_hashPairs_78 ?_
    refine V_pc (pc2 := 79) rfl ?_
    refine V_aload_n 3 dX8_hashPairs_79 rfl ?_
    refine V_iload 2 dX8_hashPairs_80 rfl ?_
    refine V_iload 1 dX8_hashPairs_82 rfl ?_
    refine V_iconst (v := 0) dX8_hashPairs_84 rfl ?_
    refine Cp_X8_364 hD3.1 rfl ⟨Nat.le_of_ble_eq_true rfl, Nat.le_of_ble_eq_true rfl⟩ (x_mends_ok hD3 hI a b ha hb rfl rfl (by omega) (by decide) (by decide)) rfl (Nat.le_of_ble_eq_true rfl) dX8_hashPairs_85 rfl (fun _ q3 => ?_)
    have hD4 := q3.1
    have hF4 := hF3.trans (b := 0) (n := 96) q3.2 (by omega)
    refine V_i2l dX8_hashPairs_88 ?_
    refine V_ladd dX8_hashPairs_89 ?_
    refine V_lstore_n (lv2 := [(3, .long _), (6, .int _), (5, .int _), (0, .ref _), (1, .long _)]) dX8_hashPairs_90 (Nat.le_of_ble_eq_true rfl) rfl ?_
    refine V_pc (pc2 := 91) rfl ?_
    refine V_ldc2 z_X8_327 dX8_hashPairs_91 ?_
    refine V_lload_n 0 dX8_hashPairs_94 rfl ?_
    refine V_lmul dX8_hashPairs_95 ?_
    refine V_aload_n 3 dX8_hashPairs_96 rfl ?_
    refine V_iload 2 dX8_hashPairs_97 rfl ?_
    refine V_iload 1 dX8_hashPairs_99 rfl ?_
    refine V_iconst (v := 1) dX8_hashPairs_101 rfl ?_
    refine Cp_X8_364 hD4.1 rfl ⟨Nat.le_of_ble_eq_true rfl, Nat.le_of_ble_eq_true rfl⟩ (x_mends_ok hD4 hI a b ha hb rfl rfl (by omega) (by decide) (by decide)) rfl (Nat.le_of_ble_eq_true rfl) dX8_hashPairs_102 rfl (fun _ q4 => ?_)
    have hD5 := q4.1
    have hF5 := hF4.trans (b := 0) (n := 96) q4.2 (by omega)
    refine V_pc (pc2 := 105) rfl ?_
    refine V_i2l dX8_hashPairs_105 ?_
    refine V_ladd dX8_hashPairs_106 ?_
    refine V_lstore_n (lv2 := [(3, .long _), (6, .int _), (5, .int _), (0, .ref _), (1, .long _)]) dX8_hashPairs_107 (Nat.le_of_ble_eq_true rfl) rfl ?_
    refine V_ldc2 z_X8_327 dX8_hashPairs_108 ?_
    refine V_lload_n 0 dX8_hashPairs_111 rfl ?_
    refine V_lmul dX8_hashPairs_112 ?_
    refine V_aload_n 3 dX8_hashPairs_113 rfl ?_
    refine V_iload 2 dX8_hashPairs_114 rfl ?_
    refine V_pc (pc2 := 116) rfl ?_
    refine V_iload 1 dX8_hashPairs_116 rfl ?_
    refine V_bipush (v := 100) dX8_hashPairs_118 (by decide) ?_
    refine Cp_X8_367 hD5.1 rfl ⟨Nat.le_of_ble_eq_true rfl, Nat.le_of_ble_eq_true rfl⟩ (x_bestWay_ok hD5 hI a b K ha hb rfl rfl (by omega) hK hK1 hK4 (by decide) (by decide)) rfl (Nat.le_of_ble_eq_true rfl) dX8_hashPairs_120 rfl (fun _ q5 => ?_)
    have hD6 := q5.1
    have hF6 := hF5.trans (b := 0) (n := 96) q5.2 (by omega)
    refine V_i2l dX8_hashPairs_123 ?_
    refine V_ladd dX8_hashPairs_124 ?_
    refine V_lstore_n (lv2 := [(3, .long _), (6, .int _), (5, .int _), (0, .ref _), (1, .long _)]) dX8_hashPairs_125 (Nat.le_of_ble_eq_true rfl) rfl ?_
    refine V_iinc (v := _ + 1) (lv2 := [(6, .int _), (3, .long _), (5, .int _), (0, .ref _), (1, .long _)]) 1 dX8_hashPairs_126 rfl rfl (Nat.le_of_ble_eq_true rfl) rfl ?_
    refine V_goto (tgt := 17) dX8_hashPairs_129 (by decide) ?_
    refine V_lv (lv2 := [(6, .int _), (5, .int _), (3, .long _), (0, .ref _), (1, .long _)]) [0, 2, 1, 3, 4] rfl ?_
    rw [nI_1]
    rw [hpI_s] at kk
    exact ih (b + 1) (pst σ K a b h) _ (by omega) (by omega) hD6 hF6 kk
set_option maxRecDepth 20000 in
theorem x_hashPairs {g : GE} {M : Mem} {sz : Nat} {σ τ : Nat → Int32} {hk : Bool} {n : Nat} {ps : Nat → Nat → Int32} {len : Nat} {tx : Nat → Int32} (hC : CW g M σ τ hk n ps len tx) (hI : I10 σ) {K : Nat} (hK : σ 27 = nI K) (hK1 : 1 ≤ K) (hK4 : K ≤ 4) (h0 : Int64) : Run g m_X8_hashPairs [rf g 0, .long h0] M sz 0 0 (RetP (some (.long (hpO σ K 5 0 h0))) (fun M2 => CW g M2 σ τ hk n ps len tx ∧ FR M M2 0 96)) := by
  have L : ∀ (m a : Nat) (h : Int64) (M9 : Mem), a + m = 5 → CW g M9 σ τ hk n ps len tx → FR M M9 0 96 → V g m_X8_hashPairs 5 [(5, .int (nI (a))), (3, .long (h)), (0, rf g 0), (1, .long h0)] [] M9 sz 0 0 (RetP (some (.long (hpO σ K m a h))) (fun M2 => CW g M2 σ τ hk n ps len tx ∧ FR M M2 0 96)) := by
    intro m
    induction m with
    | zero =>
      intro a h M9 ha5 hD hF
      refine V_iload 0 dX8_hashPairs_5 rfl ?_
      refine V_iconst (v := 5) dX8_hashPairs_7 rfl ?_
      refine V_icmp_ge (tgt := 138) dX8_hashPairs_8 (by decide) (fun c8 => ?_) (fun c8 => absurd (nI_le (a := 5) (by omega) (by omega)) c8)
      refine V_lload_n 1 dX8_hashPairs_138 rfl ?_
      refine V_lret (st := []) dX8_hashPairs_139 rfl ?_
      exact ⟨rfl, hD, hF⟩
    | succ m ih =>
      intro a h M9 ha5 hD hF
      have ha : a < 5 := by omega
      refine V_iload 0 dX8_hashPairs_5 rfl ?_
      refine V_iconst (v := 5) dX8_hashPairs_7 rfl ?_
      refine V_icmp_ge (tgt := 138) dX8_hashPairs_8 (by decide) (fun c8 => absurd c8 (nI_ge (b := 5) ha (by decide))) (fun c8 => ?_)
      refine V_iload 0 dX8_hashPairs_11 rfl ?_
      refine V_iconst (v := 1) dX8_hashPairs_13 rfl ?_
      refine V_iadd dX8_hashPairs_14 ?_
      refine V_istore (lv2 := [(6, .int _), (5, .int _), (3, .long _), (0, .ref _), (1, .long _)]) dX8_hashPairs_15 (Nat.le_of_ble_eq_true rfl) rfl ?_
      refine V_lv (lv2 := [(6, .int _), (5, .int _), (3, .long _), (0, .ref _), (1, .long _)]) [0, 1, 2, 3, 4] rfl ?_
      rw [nI_1, hpO_s]
      exact hpair_i hI hK hK1 hK4 ha (4 - a) (a + 1) h M9 (by omega) (by omega) hD hF (fun M8 d f => ih (a + 1) (hpI σ K a (4 - a) (a + 1) h) M8 (by omega) d f)
  refine Run.of rfl (by decide) (Nat.le_of_ble_eq_true rfl) ?_
  show V g m_X8_hashPairs 0 _ [] _ _ _ _ _
  refine V_lload_n 1 dX8_hashPairs_0 rfl ?_
  refine V_lstore_n (lv2 := [(3, .long _), (0, .ref _), (1, .long _)]) dX8_hashPairs_1 (Nat.le_of_ble_eq_true rfl) rfl ?_
  refine V_iconst (v := 0) dX8_hashPairs_2 rfl ?_
  refine V_istore (lv2 := [(5, .int _), (3, .long _), (0, .ref _), (1, .long _)]) dX8_hashPairs_3 (Nat.le_of_ble_eq_true rfl) rfl ?_
  refine V_lv (lv2 := [(5, .int _), (3, .long _), (0, .ref _), (1, .long _)]) [0, 1, 2, 3] rfl ?_
  exact L 5 0 h0 M (by omega) hC (FR.refl _ _ _)
theorem x_ring_s {g : GE} {M : Mem} {sz : Nat} {σ τ : Nat → Int32} {hk : Bool} {n : Nat} {ps : Nat → Nat → Int32} {len : Nat} {tx : Nat → Int32} (hC : CW g M σ τ hk n ps len tx) (hI : I10 σ) {x y : Int32} (q r c : Nat) (hx : x = nI q) (hy : y = nI c) (hc : c < 4) (hq : q < 2 ^ 31) (ho : fnd (atS σ q) 0 37 = some r) (hr : r < 37) (ht : thr σ r = true) : Run g m_X8_ring [rf g 0, .int x, .int y] M sz 0 0 (RetP (some (.int (toldS σ r (nI c)))) (fun M2 => CW g M2 (σ) (τ) (hk) (n) (ps) (len) (tx) ∧ FR M M2 0 96)) := by
  subst hx hy
  match c, hc with
  | 0, _ => exact x_ring_s0 hC hI q r rfl hq ho hr ht
  | 1, _ => exact x_ring_s1 hC hI q r rfl hq ho hr ht
  | 2, _ => exact x_ring_s2 hC hI q r rfl hq ho hr ht
  | 3, _ => exact x_ring_s3 hC hI q r rfl hq ho hr ht
  | c + 4, h => exact absurd h (by omega)
theorem x_boltOf_s {g : GE} {M : Mem} {sz : Nat} {σ τ : Nat → Int32} {hk : Bool} {n : Nat} {ps : Nat → Nat → Int32} {len : Nat} {tx : Nat → Int32} (hC : CW g M σ τ hk n ps len tx) {x y : Int32} (i c : Nat) (hx : x = nI i) (hy : y = nI c) (hc : c < 4) (hi : i < 8) (hbo : isB σ (nI i) = true) : Run g m_X8_boltOf [rf g 0, .int x, .int y] M sz 0 0 (RetP (some (.int (boltedS σ i c))) (fun M2 => CW g M2 (σ) (τ) (hk) (n) (ps) (len) (tx) ∧ FR M M2 0 96)) := by
  subst hx hy
  match c, hc with
  | 0, _ => exact x_boltOf_ok0 hC i rfl hi hbo
  | 1, _ => exact x_boltOf_ok1 hC i rfl hi hbo
  | 2, _ => exact x_boltOf_ok2 hC i rfl hi hbo
  | 3, _ => exact x_boltOf_ok3 hC i rfl hi hbo
  | c + 4, h => exact absurd h (by omega)
set_option maxRecDepth 20000 in
theorem hring_i {g : GE} {M : Mem} {sz : Nat} {σ τ : Nat → Int32} {hk : Bool} {n : Nat} {ps : Nat → Nat → Int32} {len : Nat} {tx : Nat → Int32} (hI : I10 σ) {i r : Nat} (hi31 : i < 2 ^ 31) (ho : fnd (atS σ i) 0 37 = some r) (hr : r < 37) (ht : thr σ r = true) {h0 : Int64} {Q : Ou → Mem → Prop} : ∀ (m c : Nat) (h : Int64) (M9 : Mem), c + m = 4 → CW g M9 σ τ hk n ps len tx → FR M M9 0 96 → (∀ M8, CW g M8 σ τ hk n ps len tx → FR M M8 0 96 → V g m_X8_hashRings 21 [(6, .int (nI (i + 1))), (5, .int (nI (cnt (thr σ) 37))), (3, .long (fo σ r m c h)), (0, rf g 0), (1, .long h0)] [] M8 sz 0 0 Q) → V g m_X8_hashRings 31 [(7, .int (nI c)), (6, .int (nI i)), (5, .int (nI (cnt (thr σ) 37))), (3, .long h), (0, rf g 0), (1, .long h0)] [] M9 sz 0 0 Q := by
  intro m
  induction m with
  | zero =>
    intro c h M9 hc hD0 hF0 kk
    refine V_iload 0 dX8_hashRings_31 rfl ?_
    refine V_iconst (v := 3) dX8_hashRings_33 rfl ?_
    refine V_icmp_gt (tgt := 59) dX8_hashRings_34 (by decide) (fun c34 => ?_) (fun c34 => absurd (nI_lt (a := 3) (by omega) (by omega)) c34)
    refine V_iinc (v := _ + 1) (lv2 := [(6, .int _), (7, .int _), (5, .int _), (3, .long _), (0, .ref _), (1, .long _)]) 1 dX8_hashRings_59 rfl rfl (Nat.le_of_ble_eq_true rfl) rfl ?_
    refine V_goto (tgt := 21) dX8_hashRings_62 (by decide) ?_
    refine V_lv (lv2 := [(6, .int _), (5, .int _), (3, .long _), (0, .ref _), (1, .long _)]) [0, 2, 3, 4, 5] rfl ?_
    rw [nI_1]
    exact kk M9 hD0 hF0
  | succ m ih =>
    intro c h M9 hc hD0 hF0 kk
    refine V_iload 0 dX8_hashRings_31 rfl ?_
    refine V_iconst (v := 3) dX8_hashRings_33 rfl ?_
    refine V_icmp_gt (tgt := 59) dX8_hashRings_34 (by decide) (fun c34 => absurd c34 (nI_nlt (a := 3) (b := c) (by omega) (by omega))) (fun c34 => ?_)
    refine V_ldc2 z_X8_327 dX8_hashRings_37 ?_
    refine V_lload_n 3 dX8_hashRings_40 rfl ?_
    refine V_lmul dX8_hashRings_41 ?_
    refine V_aload_n 4 dX8_hashRings_42 rfl ?_
    refine V_pc (pc2 := 43) rfl ?_
    refine V_iload 1 dX8_hashRings_43 rfl ?_
    refine V_iload 0 dX8_hashRings_45 rfl ?_
    refine Cp_X8_370 hD0.1 rfl ⟨Nat.le_of_ble_eq_true rfl, Nat.le_of_ble_eq_true rfl⟩ (x_ring_s hD0 hI i r c rfl rfl (by omega) hi31 ho hr ht) rfl (Nat.le_of_ble_eq_true rfl) dX8_hashRings_47 rfl (fun _ q0 => ?_)
    have hD1 := q0.1
    have hF1 := hF0.trans (b := 0) (n := 96) q0.2 (by omega)
    refine V_i2l dX8_hashRings_50 ?_
    refine V_ladd dX8_hashRings_51 ?_
    refine V_lstore_n (lv2 := [(3, .long _), (7, .int _), (6, .int _), (5, .int _), (0, .ref _), (1, .long _)]) dX8_hashRings_52 (Nat.le_of_ble_eq_true rfl) rfl ?_
    refine V_iinc (v := _ + 1) (lv2 := [(7, .int _), (3, .long _), (6, .int _), (5, .int _), (0, .ref _), (1, .long _)]) 1 dX8_hashRings_53 rfl rfl (Nat.le_of_ble_eq_true rfl) rfl ?_
    refine V_goto (tgt := 31) dX8_hashRings_56 (by decide) ?_
    refine V_lv (lv2 := [(7, .int _), (6, .int _), (5, .int _), (3, .long _), (0, .ref _), (1, .long _)]) [0, 2, 3, 1, 4, 5] rfl ?_
    rw [nI_1]
    rw [fo_s] at kk
    exact ih (c + 1) _ _ (by omega) hD1 hF1 kk
set_option maxRecDepth 20000 in
theorem x_hashRings {g : GE} {M : Mem} {sz : Nat} {σ τ : Nat → Int32} {hk : Bool} {n : Nat} {ps : Nat → Nat → Int32} {len : Nat} {tx : Nat → Int32} (hC : CW g M σ τ hk n ps len tx) (hI : I10 σ) (h0 : Int64) : Run g m_X8_hashRings [rf g 0, .long h0] M sz 0 0 (RetP (some (.long (hrC σ (cnt (thr σ) 37) 0 h0))) (fun M2 => CW g M2 σ τ hk n ps len tx ∧ FR M M2 0 96)) := by
  obtain ⟨p0, y1, y2⟩ := hC.2.1.1
  have h37 := cnt_le (thr σ) 37
  have L : ∀ (m i : Nat) (h : Int64) (M9 : Mem), i + m = cnt (thr σ) 37 → CW g M9 σ τ hk n ps len tx → FR M M9 0 96 → V g m_X8_hashRings 21 [(6, .int (nI (i))), (5, .int (nI (cnt (thr σ) 37))), (3, .long (h)), (0, rf g 0), (1, .long h0)] [] M9 sz 0 0 (RetP (some (.long (hrC σ m i h))) (fun M2 => CW g M2 σ τ hk n ps len tx ∧ FR M M2 0 96)) := by
    intro m
    induction m with
    | zero =>
      intro i h M9 hi hD hF
      refine V_iload 0 dX8_hashRings_21 rfl ?_
      refine V_iload 1 dX8_hashRings_23 rfl ?_
      refine V_icmp_ge (tgt := 65) dX8_hashRings_25 (by decide) (fun c25 => ?_) (fun c25 => absurd (nI_le (by omega) (by omega)) c25)
      refine V_lload_n 2 dX8_hashRings_65 rfl ?_
      refine V_lret (st := []) dX8_hashRings_66 rfl ?_
      exact ⟨rfl, hD, hF⟩
    | succ m ih =>
      intro i h M9 hi hD hF
      refine V_iload 0 dX8_hashRings_21 rfl ?_
      refine V_iload 1 dX8_hashRings_23 rfl ?_
      refine V_icmp_ge (tgt := 65) dX8_hashRings_25 (by decide) (fun c25 => absurd c25 (nI_ge (by omega) (by omega))) (fun c25 => ?_)
      refine V_iconst (v := 0) dX8_hashRings_28 rfl ?_
      refine V_istore (lv2 := [(7, .int _), (6, .int _), (5, .int _), (3, .long _), (0, .ref _), (1, .long _)]) dX8_hashRings_29 (Nat.le_of_ble_eq_true rfl) rfl ?_
      refine V_lv (lv2 := [(7, .int _), (6, .int _), (5, .int _), (3, .long _), (0, .ref _), (1, .long _)]) [0, 1, 2, 3, 4, 5] rfl ?_
      obtain ⟨r, hr, ht, hcr⟩ := cnt_ex (p := thr σ) (n := 37) (i := i) (by omega)
      have ho : fnd (atS σ i) 0 37 = some r := by rw [← hcr]; exact fnd_at hr ht
      have h3 : rgA σ i = r := by unfold rgA; rw [ho, Option.getD_some]
      rw [hrC_s, h3]
      exact hring_i hI (by omega) ho hr ht 4 0 h M9 (by omega) hD hF (fun M8 d f => ih (i + 1) (fo σ r 4 0 h) M8 (by omega) d f)
  refine Run.of rfl (by decide) (Nat.le_of_ble_eq_true rfl) ?_
  show V g m_X8_hashRings 0 _ [] _ _ _ _ _
  refine V_lload_n 1 dX8_hashRings_0 rfl ?_
  refine V_lstore_n (lv2 := [(3, .long _), (0, .ref _), (1, .long _)]) dX8_hashRings_1 (Nat.le_of_ble_eq_true rfl) rfl ?_
  refine V_aload_n 1 dX8_hashRings_2 rfl ?_
  refine G_X8_36 rfl hC.1 rfl dX8_hashRings_3 ?_
  refine V_aload_n 1 dX8_hashRings_6 rfl ?_
  refine G_X8_10 rfl hC.1 rfl dX8_hashRings_7 ?_
  refine G_X8_89 rfl y1 rfl dX8_hashRings_10 ?_
  refine V_pc (pc2 := 13) rfl ?_
  refine C_X8_114 hC.2.2.2.2.2.1.1 rfl ⟨Nat.le_of_ble_eq_true rfl, Nat.le_of_ble_eq_true rfl⟩ (hC.2.1.2.2.2.1.standing hC.2.2.2.2.2.1) rfl (Nat.le_of_ble_eq_true rfl) dX8_hashRings_13 rfl ?_
  refine V_istore (lv2 := [(5, .int _), (3, .long _), (0, .ref _), (1, .long _)]) dX8_hashRings_16 (Nat.le_of_ble_eq_true rfl) rfl ?_
  refine V_iconst (v := 0) dX8_hashRings_18 rfl ?_
  refine V_istore (lv2 := [(6, .int _), (5, .int _), (3, .long _), (0, .ref _), (1, .long _)]) dX8_hashRings_19 (Nat.le_of_ble_eq_true rfl) rfl ?_
  refine V_lv (lv2 := [(6, .int _), (5, .int _), (3, .long _), (0, .ref _), (1, .long _)]) [0, 1, 2, 3, 4] rfl ?_
  exact L (cnt (thr σ) 37) 0 h0 M (by omega) hC (FR.refl _ _ _)
set_option maxRecDepth 20000 in
theorem hbolt_i {g : GE} {M : Mem} {sz : Nat} {σ τ : Nat → Int32} {hk : Bool} {n : Nat} {ps : Nat → Nat → Int32} {len : Nat} {tx : Nat → Int32} {mb i : Nat} (hi8 : i < 8) (hbo : isB σ (nI i) = true) {h0 : Int64} {Q : Ou → Mem → Prop} : ∀ (m c : Nat) (h : Int64) (M9 : Mem), c + m = 4 → CW g M9 σ τ hk n ps len tx → FR M M9 0 96 → (∀ M8, CW g M8 σ τ hk n ps len tx → FR M M8 0 96 → V g m_X8_hashBolts 17 [(6, .int (nI (i + 1))), (5, .int (nI mb)), (3, .long (boF σ i m c h)), (0, rf g 0), (1, .long h0)] [] M8 sz 0 0 Q) → V g m_X8_hashBolts 27 [(7, .int (nI c)), (6, .int (nI i)), (5, .int (nI mb)), (3, .long h), (0, rf g 0), (1, .long h0)] [] M9 sz 0 0 Q := by
  intro m
  induction m with
  | zero =>
    intro c h M9 hc hD0 hF0 kk
    refine V_iload 0 dX8_hashBolts_27 rfl ?_
    refine V_iconst (v := 3) dX8_hashBolts_29 rfl ?_
    refine V_icmp_gt (tgt := 55) dX8_hashBolts_30 (by decide) (fun c30 => ?_) (fun c30 => absurd (nI_lt (a := 3) (by omega) (by omega)) c30)
    refine V_iinc (v := _ + 1) (lv2 := [(6, .int _), (7, .int _), (5, .int _), (3, .long _), (0, .ref _), (1, .long _)]) 1 dX8_hashBolts_55 rfl rfl (Nat.le_of_ble_eq_true rfl) rfl ?_
    refine V_goto (tgt := 17) dX8_hashBolts_58 (by decide) ?_
    refine V_lv (lv2 := [(6, .int _), (5, .int _), (3, .long _), (0, .ref _), (1, .long _)]) [0, 2, 3, 4, 5] rfl ?_
    rw [nI_1]
    exact kk M9 hD0 hF0
  | succ m ih =>
    intro c h M9 hc hD0 hF0 kk
    refine V_iload 0 dX8_hashBolts_27 rfl ?_
    refine V_iconst (v := 3) dX8_hashBolts_29 rfl ?_
    refine V_icmp_gt (tgt := 55) dX8_hashBolts_30 (by decide) (fun c30 => absurd c30 (nI_nlt (a := 3) (b := c) (by omega) (by omega))) (fun c30 => ?_)
    refine V_ldc2 z_X8_327 dX8_hashBolts_33 ?_
    refine V_lload_n 3 dX8_hashBolts_36 rfl ?_
    refine V_lmul dX8_hashBolts_37 ?_
    refine V_aload_n 4 dX8_hashBolts_38 rfl ?_
    refine V_pc (pc2 := 39) rfl ?_
    refine V_iload 1 dX8_hashBolts_39 rfl ?_
    refine V_iload 0 dX8_hashBolts_41 rfl ?_
    refine Cp_X8_373 hD0.1 rfl ⟨Nat.le_of_ble_eq_true rfl, Nat.le_of_ble_eq_true rfl⟩ (x_boltOf_s hD0 i c rfl rfl (by omega) hi8 hbo) rfl (Nat.le_of_ble_eq_true rfl) dX8_hashBolts_43 rfl (fun _ q0 => ?_)
    have hD1 := q0.1
    have hF1 := hF0.trans (b := 0) (n := 96) q0.2 (by omega)
    refine V_i2l dX8_hashBolts_46 ?_
    refine V_ladd dX8_hashBolts_47 ?_
    refine V_lstore_n (lv2 := [(3, .long _), (7, .int _), (6, .int _), (5, .int _), (0, .ref _), (1, .long _)]) dX8_hashBolts_48 (Nat.le_of_ble_eq_true rfl) rfl ?_
    refine V_iinc (v := _ + 1) (lv2 := [(7, .int _), (3, .long _), (6, .int _), (5, .int _), (0, .ref _), (1, .long _)]) 1 dX8_hashBolts_49 rfl rfl (Nat.le_of_ble_eq_true rfl) rfl ?_
    refine V_goto (tgt := 27) dX8_hashBolts_52 (by decide) ?_
    refine V_lv (lv2 := [(7, .int _), (6, .int _), (5, .int _), (3, .long _), (0, .ref _), (1, .long _)]) [0, 2, 3, 1, 4, 5] rfl ?_
    rw [nI_1]
    rw [boF_s] at kk
    exact ih (c + 1) _ _ (by omega) hD1 hF1 kk
set_option maxRecDepth 20000 in
theorem x_hashBolts {g : GE} {M : Mem} {sz : Nat} {σ τ : Nat → Int32} {hk : Bool} {n : Nat} {ps : Nat → Nat → Int32} {len : Nat} {tx : Nat → Int32} (hC : CW g M σ τ hk n ps len tx) {mb : Nat} (hm : σ 60 = nI mb) (hm8 : mb ≤ 8) (h0 : Int64) : Run g m_X8_hashBolts [rf g 0, .long h0] M sz 0 0 (RetP (some (.long (hbO σ mb 0 h0))) (fun M2 => CW g M2 σ τ hk n ps len tx ∧ FR M M2 0 96)) := by
  obtain ⟨p0, y1, y2⟩ := hC.2.1.1
  have L : ∀ (m i : Nat) (h : Int64) (M9 : Mem), i + m = mb → CW g M9 σ τ hk n ps len tx → FR M M9 0 96 → V g m_X8_hashBolts 17 [(6, .int (nI (i))), (5, .int (nI mb)), (3, .long (h)), (0, rf g 0), (1, .long h0)] [] M9 sz 0 0 (RetP (some (.long (hbO σ m i h))) (fun M2 => CW g M2 σ τ hk n ps len tx ∧ FR M M2 0 96)) := by
    intro m
    induction m with
    | zero =>
      intro i h M9 hi hD hF
      refine V_iload 0 dX8_hashBolts_17 rfl ?_
      refine V_iload 1 dX8_hashBolts_19 rfl ?_
      refine V_icmp_ge (tgt := 61) dX8_hashBolts_21 (by decide) (fun c21 => ?_) (fun c21 => absurd (nI_le (by omega) (by omega)) c21)
      refine V_lload_n 2 dX8_hashBolts_61 rfl ?_
      refine V_lret (st := []) dX8_hashBolts_62 rfl ?_
      exact ⟨rfl, hD, hF⟩
    | succ m ih =>
      intro i h M9 hi hD hF
      refine V_iload 0 dX8_hashBolts_17 rfl ?_
      refine V_iload 1 dX8_hashBolts_19 rfl ?_
      refine V_icmp_ge (tgt := 61) dX8_hashBolts_21 (by decide) (fun c21 => absurd c21 (nI_ge (by omega) (by omega))) (fun c21 => ?_)
      refine V_iconst (v := 0) dX8_hashBolts_24 rfl ?_
      refine V_istore (lv2 := [(7, .int _), (6, .int _), (5, .int _), (3, .long _), (0, .ref _), (1, .long _)]) dX8_hashBolts_25 (Nat.le_of_ble_eq_true rfl) rfl ?_
      refine V_lv (lv2 := [(7, .int _), (6, .int _), (5, .int _), (3, .long _), (0, .ref _), (1, .long _)]) [0, 1, 2, 3, 4, 5] rfl ?_
      rw [hbO_s]
      exact hbolt_i (by omega) (by unfold isB; rw [isB_nI hm hm8 (by omega)]; exact decide_eq_true (by omega)) 4 0 h M9 (by omega) hD hF (fun M8 d f => ih (i + 1) (boF σ i 4 0 h) M8 (by omega) d f)
  refine Run.of rfl (by decide) (Nat.le_of_ble_eq_true rfl) ?_
  show V g m_X8_hashBolts 0 _ [] _ _ _ _ _
  refine V_lload_n 1 dX8_hashBolts_0 rfl ?_
  refine V_lstore_n (lv2 := [(3, .long _), (0, .ref _), (1, .long _)]) dX8_hashBolts_1 (Nat.le_of_ble_eq_true rfl) rfl ?_
  refine V_aload_n 1 dX8_hashBolts_2 rfl ?_
  refine G_X8_10 rfl hC.1 rfl dX8_hashBolts_3 ?_
  refine G_X8_139 rfl y1 rfl dX8_hashBolts_6 ?_
  refine G_X8_143 rfl (show _ = some (BO g 6 (σ 60) (σ 62) (σ 61)) from hC.2.1.2.2.2.2.1) rfl dX8_hashBolts_9 ?_
  rw [hm]
  refine V_istore (lv2 := [(5, .int _), (3, .long _), (0, .ref _), (1, .long _)]) dX8_hashBolts_12 (Nat.le_of_ble_eq_true rfl) rfl ?_
  refine V_pc (pc2 := 14) rfl ?_
  refine V_iconst (v := 0) dX8_hashBolts_14 rfl ?_
  refine V_istore (lv2 := [(6, .int _), (5, .int _), (3, .long _), (0, .ref _), (1, .long _)]) dX8_hashBolts_15 (Nat.le_of_ble_eq_true rfl) rfl ?_
  refine V_lv (lv2 := [(6, .int _), (5, .int _), (3, .long _), (0, .ref _), (1, .long _)]) [0, 1, 2, 3, 4] rfl ?_
  exact L mb 0 h0 M (by omega) hC (FR.refl _ _ _)
set_option maxRecDepth 20000 in
theorem x_digest_ok {g : GE} {M : Mem} {sz : Nat} {σ τ : Nat → Int32} {hk : Bool} {n : Nat} {ps : Nat → Nat → Int32} {len : Nat} {tx : Nat → Int32} (hC : CW g M σ τ hk n ps len tx) (hI : I10 σ) {K : Nat} (hK : σ 27 = nI K) (hK1 : 1 ≤ K) (hK4 : K ≤ 4) {mb : Nat} (hm : σ 60 = nI mb) (hm8 : mb ≤ 8) (hl : len ≤ 60) : Run g m_X8_digest [rf g 0] M sz 0 0 (RetP (some (.long (dgS σ n K mb len tx))) (fun M2 => CW g M2 σ τ hk n ps len tx ∧ FR M M2 0 96)) := by
  have LT : ∀ {M9 : Mem} (hD : CW g M9 σ τ hk n ps len tx) (hF : FR M M9 0 96) {z9 : Int32} (hz9 : M9 83 = some (TO g len z9)) (m i : Nat) (h : Int64), i + m = len → V g m_X8_digest 139 [(3, .int (nI (i))), (1, .long (h)), (0, rf g 0)] [] M9 sz 0 0 (RetP (some (.long (htX tx m i h))) (fun M2 => CW g M2 σ τ hk n ps len tx ∧ FR M M2 0 96)) := by
    intro M9 hD hF z9 hz9 m
    induction m with
    | zero =>
      intro i h hi
      refine V_iload_n 0 dX8_digest_139 rfl ?_
      refine V_aload_n 2 dX8_digest_140 rfl ?_
      refine G_X8_29 rfl hD.1 rfl dX8_digest_141 ?_
      refine G_X8_175 rfl (show _ = some (TO g len z9) from hz9) rfl dX8_digest_144 ?_
      refine V_icmp_ge (tgt := 175) dX8_digest_147 (by decide) (fun c147 => ?_) (fun c147 => absurd (nI_le (by omega) (by omega)) c147)
      refine V_lload_n 1 dX8_digest_175 rfl ?_
      refine V_lret (st := []) dX8_digest_176 rfl ?_
      exact ⟨rfl, hD, hF⟩
    | succ m ih =>
      intro i h hi
      refine V_iload_n 0 dX8_digest_139 rfl ?_
      refine V_aload_n 2 dX8_digest_140 rfl ?_
      refine G_X8_29 rfl hD.1 rfl dX8_digest_141 ?_
      refine G_X8_175 rfl (show _ = some (TO g len z9) from hz9) rfl dX8_digest_144 ?_
      refine V_icmp_ge (tgt := 175) dX8_digest_147 (by decide) (fun c147 => absurd c147 (nI_ge (by omega) (by omega))) (fun c147 => ?_)
      refine V_ldc2 z_X8_327 dX8_digest_150 ?_
      refine V_lload_n 1 dX8_digest_153 rfl ?_
      refine V_pc (pc2 := 154) rfl ?_
      refine V_lmul dX8_digest_154 ?_
      refine V_aload_n 2 dX8_digest_155 rfl ?_
      refine G_X8_29 rfl hD.1 rfl dX8_digest_156 ?_
      refine G_X8_202 rfl (show _ = some (TO g len z9) from hz9) rfl dX8_digest_159 ?_
      refine V_iload_n 0 dX8_digest_162 rfl ?_
      refine C_X8_77 rfl ⟨Nat.le_of_ble_eq_true rfl, Nat.le_of_ble_eq_true rfl⟩ (r_at hD.2.2.2.2.1.2 i rfl (by omega) (by decide)) rfl (Nat.le_of_ble_eq_true rfl) dX8_digest_163 rfl ?_
      refine V_i2l dX8_digest_166 ?_
      refine V_ladd dX8_digest_167 ?_
      refine V_pc (pc2 := 168) rfl ?_
      refine V_lstore_n (lv2 := [(1, .long _), (3, .int _), (0, .ref _)]) dX8_digest_168 (Nat.le_of_ble_eq_true rfl) rfl ?_
      refine V_iinc (v := _ + 1) (lv2 := [(3, .int _), (1, .long _), (0, .ref _)]) 1 dX8_digest_169 rfl rfl (Nat.le_of_ble_eq_true rfl) rfl ?_
      refine V_goto (tgt := 139) dX8_digest_172 (by decide) ?_
      refine V_lv (lv2 := [(3, .int _), (1, .long _), (0, .ref _)]) [0, 1, 2] rfl ?_
      rw [nI_1, htX_s]
      exact ih (i + 1) _ (by omega)
  have LC : ∀ (m i : Nat) (h : Int64) (M9 : Mem), i + m = 18 → CW g M9 σ τ hk n ps len tx → FR M M9 0 96 → V g m_X8_digest 6 [(3, .int (nI (i))), (1, .long (h)), (0, rf g 0)] [] M9 sz 0 0 (RetP (some (.long (htX tx len 0 (hq (31 * hq (hq (hq (hq (hbO σ mb 0 (hrC σ (cnt (thr σ) 37) 0 (hpO σ K 5 0 (hCo σ n m i h)))) (stopS σ 0)) (stopS σ 1)) (codI (fnd (wouS (putS σ 0 1 3 2) 0 1) 0 37))) (turnedS σ 0 1 1000) + (shS σ).toInt64) (nI len))))) (fun M2 => CW g M2 σ τ hk n ps len tx ∧ FR M M2 0 96)) := by
    intro m
    induction m with
    | zero =>
      intro i h M9 hi hD hF
      refine V_iload_n 0 dX8_digest_6 rfl ?_
      refine V_bipush (v := 17) dX8_digest_7 (by decide) ?_
      refine V_icmp_gt (tgt := 31) dX8_digest_9 (by decide) (fun c9 => ?_) (fun c9 => absurd (nI_lt (a := 17) (by omega) (by omega)) c9)
      have hD1 := hD
      have hF1 := hF
      refine V_aload_n 2 dX8_digest_31 rfl ?_
      refine V_lload_n 1 dX8_digest_32 rfl ?_
      refine Cp_X8_332 hD1.1 rfl ⟨Nat.le_of_ble_eq_true rfl, Nat.le_of_ble_eq_true rfl⟩ (x_hashPairs hD1 hI hK hK1 hK4 _) rfl (Nat.le_of_ble_eq_true rfl) dX8_digest_33 rfl (fun _ q1 => ?_)
      have hD2 := q1.1
      have hF2 := hF1.trans (b := 0) (n := 96) q1.2 (by omega)
      refine V_lstore_n (lv2 := [(1, .long _), (3, .int _), (0, .ref _)]) dX8_digest_36 (Nat.le_of_ble_eq_true rfl) rfl ?_
      refine V_pc (pc2 := 37) rfl ?_
      refine V_aload_n 2 dX8_digest_37 rfl ?_
      refine V_lload_n 0 dX8_digest_38 rfl ?_
      refine Cp_X8_336 hD2.1 rfl ⟨Nat.le_of_ble_eq_true rfl, Nat.le_of_ble_eq_true rfl⟩ (x_hashRings hD2 hI _) rfl (Nat.le_of_ble_eq_true rfl) dX8_digest_39 rfl (fun _ q2 => ?_)
      have hD3 := q2.1
      have hF3 := hF2.trans (b := 0) (n := 96) q2.2 (by omega)
      refine V_lstore_n (lv2 := [(1, .long _), (3, .int _), (0, .ref _)]) dX8_digest_42 (Nat.le_of_ble_eq_true rfl) rfl ?_
      refine V_aload_n 2 dX8_digest_43 rfl ?_
      refine V_lload_n 0 dX8_digest_44 rfl ?_
      refine Cp_X8_339 hD3.1 rfl ⟨Nat.le_of_ble_eq_true rfl, Nat.le_of_ble_eq_true rfl⟩ (x_hashBolts hD3 hm hm8 _) rfl (Nat.le_of_ble_eq_true rfl) dX8_digest_45 rfl (fun _ q3 => ?_)
      have hD4 := q3.1
      have hF4 := hF3.trans (b := 0) (n := 96) q3.2 (by omega)
      refine V_lstore_n (lv2 := [(1, .long _), (3, .int _), (0, .ref _)]) dX8_digest_48 (Nat.le_of_ble_eq_true rfl) rfl ?_
      refine V_pc (pc2 := 49) rfl ?_
      refine V_ldc2 z_X8_327 dX8_digest_49 ?_
      refine V_lload_n 0 dX8_digest_52 rfl ?_
      refine V_lmul dX8_digest_53 ?_
      refine V_aload_n 2 dX8_digest_54 rfl ?_
      refine V_iconst (v := 0) dX8_digest_55 rfl ?_
      refine Cp_X8_342 hD4.1 rfl ⟨Nat.le_of_ble_eq_true rfl, Nat.le_of_ble_eq_true rfl⟩ (x_stopped_ok hD4 (by decide) (by decide)) rfl (Nat.le_of_ble_eq_true rfl) dX8_digest_56 rfl (fun _ q4 => ?_)
      have hD5 := q4.1
      have hF5 := hF4.trans (b := 0) (n := 96) q4.2 (by omega)
      refine V_i2l dX8_digest_59 ?_
      refine V_ladd dX8_digest_60 ?_
      refine V_pc (pc2 := 61) rfl ?_
      refine V_lstore_n (lv2 := [(1, .long _), (3, .int _), (0, .ref _)]) dX8_digest_61 (Nat.le_of_ble_eq_true rfl) rfl ?_
      refine V_ldc2 z_X8_327 dX8_digest_62 ?_
      refine V_lload_n 0 dX8_digest_65 rfl ?_
      refine V_lmul dX8_digest_66 ?_
      refine V_aload_n 2 dX8_digest_67 rfl ?_
      refine V_iconst (v := 1) dX8_digest_68 rfl ?_
      refine Cp_X8_342 hD5.1 rfl ⟨Nat.le_of_ble_eq_true rfl, Nat.le_of_ble_eq_true rfl⟩ (x_stopped_ok hD5 (by decide) (by decide)) rfl (Nat.le_of_ble_eq_true rfl) dX8_digest_69 rfl (fun _ q5 => ?_)
      have hD6 := q5.1
      have hF6 := hF5.trans (b := 0) (n := 96) q5.2 (by omega)
      refine V_i2l dX8_digest_72 ?_
      refine V_pc (pc2 := 73) rfl ?_
      refine V_ladd dX8_digest_73 ?_
      refine V_lstore_n (lv2 := [(1, .long _), (3, .int _), (0, .ref _)]) dX8_digest_74 (Nat.le_of_ble_eq_true rfl) rfl ?_
      refine V_ldc2 z_X8_327 dX8_digest_75 ?_
      refine V_lload_n 0 dX8_digest_78 rfl ?_
      refine V_lmul dX8_digest_79 ?_
      refine V_aload_n 2 dX8_digest_80 rfl ?_
      refine V_iconst (v := 0) dX8_digest_81 rfl ?_
      refine V_iconst (v := 1) dX8_digest_82 rfl ?_
      refine V_pc (pc2 := 83) rfl ?_
      refine V_iconst (v := 3) dX8_digest_83 rfl ?_
      refine V_iconst (v := 2) dX8_digest_84 rfl ?_
      refine Cp_X8_345 hD6.1 rfl ⟨Nat.le_of_ble_eq_true rfl, Nat.le_of_ble_eq_true rfl⟩ (x_offBy_ok hD6 hI 0 1 (by decide) (by decide) rfl rfl (by decide) (by decide) (by decide) (by decide) (by decide)) rfl (Nat.le_of_ble_eq_true rfl) dX8_digest_85 rfl (fun _ q6 => ?_)
      have hD7 := q6.1
      have hF7 := hF6.trans (b := 0) (n := 96) q6.2 (by omega)
      refine V_i2l dX8_digest_88 ?_
      refine V_ladd dX8_digest_89 ?_
      refine V_lstore_n (lv2 := [(1, .long _), (3, .int _), (0, .ref _)]) dX8_digest_90 (Nat.le_of_ble_eq_true rfl) rfl ?_
      refine V_ldc2 z_X8_327 dX8_digest_91 ?_
      refine V_lload_n 0 dX8_digest_94 rfl ?_
      refine V_pc (pc2 := 95) rfl ?_
      refine V_lmul dX8_digest_95 ?_
      refine V_aload_n 2 dX8_digest_96 rfl ?_
      refine V_iconst (v := 0) dX8_digest_97 rfl ?_
      refine V_iconst (v := 1) dX8_digest_98 rfl ?_
      refine V_sipush (v := 1000) dX8_digest_99 (by decide) ?_
      refine Cp_X8_349 hD7.1 rfl ⟨Nat.le_of_ble_eq_true rfl, Nat.le_of_ble_eq_true rfl⟩ (x_turned_ok hD7 hI 0 1 (by decide) (by decide) rfl rfl (by decide) (by decide) (by decide)) rfl (Nat.le_of_ble_eq_true rfl) dX8_digest_102 rfl (fun _ q7 => ?_)
      have hD8 := q7.1
      have hF8 := hF7.trans (b := 0) (n := 96) q7.2 (by omega)
      refine V_i2l dX8_digest_105 ?_
      refine V_ladd dX8_digest_106 ?_
      refine V_pc (pc2 := 107) rfl ?_
      refine V_lstore_n (lv2 := [(1, .long _), (3, .int _), (0, .ref _)]) dX8_digest_107 (Nat.le_of_ble_eq_true rfl) rfl ?_
      refine V_ldc2 z_X8_327 dX8_digest_108 ?_
      refine V_lload_n 0 dX8_digest_111 rfl ?_
      refine V_lmul dX8_digest_112 ?_
      refine V_aload_n 2 dX8_digest_113 rfl ?_
      refine Cp_X8_353 hD8.1 rfl ⟨Nat.le_of_ble_eq_true rfl, Nat.le_of_ble_eq_true rfl⟩ (x_trueShare_ok hD8 hI) rfl (Nat.le_of_ble_eq_true rfl) dX8_digest_114 rfl (fun _ q8 => ?_)
      have hD9 := q8.1
      have hF9 := hF8.trans (b := 0) (n := 96) q8.2 (by omega)
      refine C_X8_357 rfl ⟨Nat.le_of_ble_eq_true rfl, Nat.le_of_ble_eq_true rfl⟩ (r_bitsOfShare (shS_ok σ)) rfl (Nat.le_of_ble_eq_true rfl) dX8_digest_117 rfl ?_
      refine V_ladd dX8_digest_120 ?_
      refine V_pc (pc2 := 121) rfl ?_
      refine V_lstore_n (lv2 := [(1, .long _), (3, .int _), (0, .ref _)]) dX8_digest_121 (Nat.le_of_ble_eq_true rfl) rfl ?_
      refine V_ldc2 z_X8_327 dX8_digest_122 ?_
      refine V_lload_n 0 dX8_digest_125 rfl ?_
      refine V_lmul dX8_digest_126 ?_
      refine V_aload_n 2 dX8_digest_127 rfl ?_
      obtain ⟨z9, hz9⟩ := hD9.2.2.2.2.1.1
      refine G_X8_29 rfl hD9.1 rfl dX8_digest_128 ?_
      refine G_X8_175 rfl (show _ = some (TO g len z9) from hz9) rfl dX8_digest_131 ?_
      refine V_i2l dX8_digest_134 ?_
      refine V_pc (pc2 := 135) rfl ?_
      refine V_ladd dX8_digest_135 ?_
      refine V_lstore_n (lv2 := [(1, .long _), (3, .int _), (0, .ref _)]) dX8_digest_136 (Nat.le_of_ble_eq_true rfl) rfl ?_
      refine V_iconst (v := 0) dX8_digest_137 rfl ?_
      refine V_istore_n (lv2 := [(3, .int _), (1, .long _), (0, .ref _)]) dX8_digest_138 (Nat.le_of_ble_eq_true rfl) rfl ?_
      refine V_lv (lv2 := [(3, .int _), (1, .long _), (0, .ref _)]) [0, 1, 2] rfl ?_
      exact LT hD9 hF9 hz9 len 0 _ (by omega)
    | succ m ih =>
      intro i h M9 hi hD hF
      refine V_iload_n 0 dX8_digest_6 rfl ?_
      refine V_bipush (v := 17) dX8_digest_7 (by decide) ?_
      refine V_icmp_gt (tgt := 31) dX8_digest_9 (by decide) (fun c9 => absurd c9 (nI_nlt (a := 17) (b := i) (by omega) (by omega))) (fun c9 => ?_)
      refine V_ldc2 z_X8_327 dX8_digest_12 ?_
      refine V_lload_n 1 dX8_digest_15 rfl ?_
      refine V_lmul dX8_digest_16 ?_
      refine V_aload_n 2 dX8_digest_17 rfl ?_
      refine V_pc (pc2 := 18) rfl ?_
      refine V_iload_n 0 dX8_digest_18 rfl ?_
      refine Cp_X8_329 hD.1 rfl ⟨Nat.le_of_ble_eq_true rfl, Nat.le_of_ble_eq_true rfl⟩ (x_count_ok hD hI mb hm hm8 i (by omega) rfl) rfl (Nat.le_of_ble_eq_true rfl) dX8_digest_19 rfl (fun _ q0 => ?_)
      refine V_i2l dX8_digest_22 ?_
      refine V_ladd dX8_digest_23 ?_
      refine V_lstore_n (lv2 := [(1, .long _), (3, .int _), (0, .ref _)]) dX8_digest_24 (Nat.le_of_ble_eq_true rfl) rfl ?_
      refine V_iinc (v := _ + 1) (lv2 := [(3, .int _), (1, .long _), (0, .ref _)]) 1 dX8_digest_25 rfl rfl (Nat.le_of_ble_eq_true rfl) rfl ?_
      refine V_goto (tgt := 6) dX8_digest_28 (by decide) ?_
      refine V_lv (lv2 := [(3, .int _), (1, .long _), (0, .ref _)]) [0, 1, 2] rfl ?_
      rw [nI_1, hCo_s]
      exact ih (i + 1) _ _ (by omega) q0.1 (hF.trans (b := 0) (n := 96) q0.2 (by omega))
  refine Run.of rfl (by decide) (Nat.le_of_ble_eq_true rfl) ?_
  show V g m_X8_digest 0 _ [] _ _ _ _ _
  refine V_ldc2 z_X8_325 dX8_digest_0 ?_
  refine V_lstore_n (lv2 := [(1, .long _), (0, .ref _)]) dX8_digest_3 (Nat.le_of_ble_eq_true rfl) rfl ?_
  refine V_iconst (v := 0) dX8_digest_4 rfl ?_
  refine V_istore_n (lv2 := [(3, .int _), (1, .long _), (0, .ref _)]) dX8_digest_5 (Nat.le_of_ble_eq_true rfl) rfl ?_
  refine V_lv (lv2 := [(3, .int _), (1, .long _), (0, .ref _)]) [0, 1, 2] rfl ?_
  exact LC 18 0 3851 M (by omega) hC (FR.refl _ _ _)
