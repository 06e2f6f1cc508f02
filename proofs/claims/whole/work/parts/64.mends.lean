/-! mends -/
def pNat (σ : Nat → Int32) (st : Nat → Nat) (ups : Bool) : Nat → Nat
  | 0 => 1
  | k + 1 => pNat σ st ups k * (if ups then upS σ (st k) (st (k + 1)) else upS σ (st (k + 1)) (st k)).toNatClampNeg
theorem prW_nat {σ : Nat → Int32} (hI : I10 σ) {st : Nat → Nat} {ups : Bool} : ∀ n : Nat, (∀ k, k ≤ n → st k < 5) → stdW σ st n = true → prW σ st ups n = lN (pNat σ st ups n) ∧ 1 ≤ pNat σ st ups n ∧ pNat σ st ups n ≤ 99 ^ n
  | 0, _, _ => ⟨rfl, Nat.le_refl _, Nat.le_refl _⟩
  | n + 1, h, hs => by
    have hs2 : (stdW σ st n && stdP σ st n) = true := hs
    rw [Bool.and_eq_true] at hs2
    obtain ⟨i1, i2, i3⟩ := prW_nat hI (ups := ups) n (fun k hk => h k (by omega)) hs2.1
    have hh : hasS σ (st n) (st (n + 1)) = true := hs2.2
    have hu : ∃ u : Nat, 1 ≤ u ∧ u ≤ 99 ∧ (if ups then upS σ (st n) (st (n + 1)) else upS σ (st (n + 1)) (st n)) = nI u := by
      cases ups with
      | true => exact upS_nat hI (h n (by omega)) (h (n + 1) (by omega)) hh
      | false => exact upS_nat hI (h (n + 1) (by omega)) (h n (by omega)) (by rw [hasS_comm]; exact hh)
    obtain ⟨u, u1, u2, u3⟩ := hu
    have e : pNat σ st ups (n + 1) = pNat σ st ups n * u := by
      show pNat σ st ups n * _ = _
      rw [u3, nI_clamp (by omega)]
    rw [e]
    refine ⟨?_, Nat.mul_pos i2 u1, ?_⟩
    · show prW σ st ups n * _ = _
      rw [u3, i1, nI_64 (by omega), lN_mulN]
    · rw [Nat.pow_succ]; exact Nat.mul_le_mul i3 u2
theorem p99 {n k : Nat} (h : n ≤ 99 ^ k) (hk : k ≤ 4) : n < 2 ^ 60 := Nat.lt_of_le_of_lt (Nat.le_trans h (Nat.pow_le_pow_right (by decide) hk)) (by decide)
def mdI (σ : Nat → Int32) (a b : Nat) (w : Int32) (i : Nat) : Int32 := lowS (pNat σ (oSt a b i) true (wSz i - 1)) (pNat σ (oSt a b i) false (wSz i - 1)) w
def mdO (σ : Nat → Int32) (a b : Nat) (w : Int32) : Option Nat → Int32
  | none => -1
  | some i => mdI σ a b w i
def mdS (σ : Nat → Int32) (a b : Nat) (w : Int32) : Int32 := mdO σ a b w (fnd (stdI σ a b) 1 15)
set_option maxRecDepth 20000 in
theorem x_mends_ok {g : GE} {M : Mem} {sz : Nat} {σ τ : Nat → Int32} {hk : Bool} {n : Nat} {ps : Nat → Nat → Int32} {len : Nat} {tx : Nat → Int32} (hC : CW g M σ τ hk n ps len tx) {a b c : Int32} (hI : I10 σ) (i j : Nat) (hi : i < 5) (hj : j < 5) (ha : a = nI i) (hb : b = nI j) (hij : i ≠ j) (hc : ¬ c < 0) (hc2 : c ≤ 1) : Run g m_X8_mends [rf g 0, .int a, .int b, .int c] M sz 0 0 (RetP (some (.int (mdO σ i j c (fnd (stdI σ i j) 1 15)))) (fun M2 => CW g M2 σ τ hk n ps len tx ∧ FR M M2 0 96)) := by
  subst ha hb
  have L : ∀ m q : Nat, q + m = 16 → ∀ M9, CW g M9 σ τ hk n ps len tx → FR M M9 0 96 → V g m_X8_mends 14 [(4, .int (nI q)), (0, rf g 0), (1, .int (nI i)), (2, .int (nI j)), (3, .int c)] [] M9 sz 0 0 (RetP (some (.int (mdO σ i j c (fnd (stdI σ i j) q m)))) (fun M2 => CW g M2 σ τ hk n ps len tx ∧ FR M M2 0 96)) := by
    intro m
    induction m with
    | zero =>
      intro q hq M9 hD hF
      obtain rfl : q = 16 := by omega
      refine V_iload 0 dX8_mends_14 rfl ?_
      refine V_bipush (v := 16) dX8_mends_16 (by decide) ?_
      refine V_icmp_ge (tgt := 90) dX8_mends_18 (by decide) (fun c18 => ?_) (fun c18 => absurd (by decide) c18)
      refine V_iconst (v := -1) dX8_mends_90 rfl ?_
      refine V_iret (st := []) dX8_mends_91 rfl ?_
      exact ⟨rfl, hD, hF⟩
    | succ m ih =>
      intro q hq M9 hD hF
      have hlt : q < 16 := by omega
      have hsz := szM_in (midN q)
      have hsz1 : 2 ≤ wSz q := hsz.1
      have hsz2 : wSz q ≤ 5 := hsz.2
      obtain ⟨w0, z0, w1, w2⟩ := hD.2.2.2.2.2.2.2.1
      refine V_iload 0 dX8_mends_14 rfl ?_
      refine V_bipush (v := 16) dX8_mends_16 (by decide) ?_
      refine V_icmp_ge (tgt := 90) dX8_mends_18 (by decide) (fun c18 => absurd c18 (nI_ge (b := 16) hlt (by decide))) (fun c18 => ?_)
      refine V_aload_n 1 dX8_mends_21 rfl ?_
      refine G_X8_43 rfl hD.1 rfl dX8_mends_22 ?_
      refine V_iload_n 2 dX8_mends_25 rfl ?_
      refine V_iload_n 3 dX8_mends_26 rfl ?_
      refine V_pc (pc2 := 27) rfl ?_
      refine V_iload 0 dX8_mends_27 rfl ?_
      refine Cp_X8_302 w1 rfl ⟨Nat.le_of_ble_eq_true rfl, Nat.le_of_ble_eq_true rfl⟩ (r_choose w1 w2 i j q rfl rfl rfl hi hj hij hlt) rfl (Nat.le_of_ble_eq_true rfl) dX8_mends_29 rfl (fun _ q9 => ?_)
      obtain ⟨hQ9, hF9⟩ := q9
      have hD2 := hD.wy hQ9 hF9
      have hF2 := hF.trans (b := 0) (n := 96) (FR.wide hF9 (b2 := 0) (n2 := 96) (by omega)) (by omega)
      obtain ⟨⟨w9, k1, k2, k3⟩, k4⟩ := id hQ9
      obtain ⟨p9, z1, z2⟩ := hD2.2.1.1
      refine V_aload_n 1 dX8_mends_32 rfl ?_
      refine G_X8_43 rfl hD2.1 rfl dX8_mends_33 ?_
      refine V_aload_n 1 dX8_mends_36 rfl ?_
      refine G_X8_10 rfl hD2.1 rfl dX8_mends_37 ?_
      refine G_X8_89 rfl z1 rfl dX8_mends_40 ?_
      refine C_X8_306 k1 rfl ⟨Nat.le_of_ble_eq_true rfl, Nat.le_of_ble_eq_true rfl⟩ (r_wstands hQ9 hI hD2.2.1.2.2.2.1) rfl (Nat.le_of_ble_eq_true rfl) dX8_mends_43 rfl ?_
      refine V_pc (pc2 := 46) rfl ?_
      refine V_if_eq (tgt := 84) dX8_mends_46 (by decide) (fun c46 => ?_) (fun c46 => ?_)
      · refine V_iinc (v := _ + 1) (lv2 := [(4, .int _), (0, .ref _), (1, .int _), (2, .int _), (3, .int _)]) 0 dX8_mends_84 rfl rfl (Nat.le_of_ble_eq_true rfl) rfl ?_
        refine V_goto (tgt := 14) dX8_mends_87 (by decide) ?_
        refine V_lv (lv2 := [(4, .int _), (0, .ref _), (1, .int _), (2, .int _), (3, .int _)]) [0, 1, 2, 3, 4] rfl ?_
        rw [nI_1, fnd_f (show stdI σ i j q = false from bI_0 c46)]
        exact ih (q + 1) (by omega) _ hD2 hF2
      · refine V_aload_n 1 dX8_mends_49 rfl ?_
        refine G_X8_43 rfl hD2.1 rfl dX8_mends_50 ?_
        refine V_aload_n 1 dX8_mends_53 rfl ?_
        refine G_X8_10 rfl hD2.1 rfl dX8_mends_54 ?_
        refine G_X8_89 rfl z1 rfl dX8_mends_57 ?_
        refine V_iconst (v := 1) dX8_mends_60 rfl ?_
        refine C_X8_317 k1 rfl ⟨Nat.le_of_ble_eq_true rfl, Nat.le_of_ble_eq_true rfl⟩ (r_wproductT hQ9 hI hD2.2.1.2.2.2.1) rfl (Nat.le_of_ble_eq_true rfl) dX8_mends_61 rfl ?_
        refine V_pc (pc2 := 64) rfl ?_
        refine V_aload_n 1 dX8_mends_64 rfl ?_
        refine G_X8_43 rfl hD2.1 rfl dX8_mends_65 ?_
        refine V_aload_n 1 dX8_mends_68 rfl ?_
        refine G_X8_10 rfl hD2.1 rfl dX8_mends_69 ?_
        refine G_X8_89 rfl z1 rfl dX8_mends_72 ?_
        refine V_iconst (v := 0) dX8_mends_75 rfl ?_
        refine C_X8_317 k1 rfl ⟨Nat.le_of_ble_eq_true rfl, Nat.le_of_ble_eq_true rfl⟩ (r_wproductF hQ9 hI hD2.2.1.2.2.2.1) rfl (Nat.le_of_ble_eq_true rfl) dX8_mends_76 rfl ?_
        refine V_iload_n 4 dX8_mends_79 rfl ?_
        refine V_pc (pc2 := 80) rfl ?_
        have hstd : stdI σ i j q = true := bI_1 c46
        have hst5 : ∀ k, k ≤ wSz q - 1 → oSt i j q k < 5 := fun k hk => (ways_ok i j q k hi hj hij hlt (by omega)).1
        obtain ⟨e1, e2, e3⟩ := prW_nat hI (ups := true) (wSz q - 1) hst5 hstd
        obtain ⟨e4, e5, e6⟩ := prW_nat hI (ups := false) (wSz q - 1) hst5 hstd
        rw [e1, e4]
        refine C_X8_321 rfl ⟨Nat.le_of_ble_eq_true rfl, Nat.le_of_ble_eq_true rfl⟩ (r_lowestTerm _ _ _ e2 (p99 e3 (by omega)) e5 (p99 e6 (by omega))) rfl (Nat.le_of_ble_eq_true rfl) dX8_mends_80 rfl ?_
        refine V_iret (st := []) dX8_mends_83 rfl ?_
        rw [fnd_t hstd]
        exact ⟨rfl, hD2, hF2⟩
  refine Run.of rfl (by decide) (Nat.le_of_ble_eq_true rfl) ?_
  show V g m_X8_mends 0 _ [] _ _ _ _ _
  refine V_iload_n 1 dX8_mends_0 rfl ?_
  refine V_iload_n 2 dX8_mends_1 rfl ?_
  refine C_X8_85 rfl ⟨Nat.le_of_ble_eq_true rfl, Nat.le_of_ble_eq_true rfl⟩ (r_checkPair_ok (isP_nI hi) (isP_nI hj) (fun e => hij ((nI_eq (by omega) (by omega)).mp e))) rfl (Nat.le_of_ble_eq_true rfl) dX8_mends_2 rfl ?_
  refine V_iload_n 3 dX8_mends_5 rfl ?_
  refine V_iconst (v := 0) dX8_mends_6 rfl ?_
  refine V_iconst (v := 1) dX8_mends_7 rfl ?_
  refine C_X8_66 rfl ⟨Nat.le_of_ble_eq_true rfl, Nat.le_of_ble_eq_true rfl⟩ (r_checkRange_ok hc hc2) rfl (Nat.le_of_ble_eq_true rfl) dX8_mends_8 rfl ?_
  refine V_pc (pc2 := 11) rfl ?_
  refine V_iconst (v := 1) dX8_mends_11 rfl ?_
  refine V_istore (lv2 := [(4, .int _), (0, .ref _), (1, .int _), (2, .int _), (3, .int _)]) dX8_mends_12 (Nat.le_of_ble_eq_true rfl) rfl ?_
  refine V_lv (lv2 := [(4, .int _), (0, .ref _), (1, .int _), (2, .int _), (3, .int _)]) [0, 1, 2, 3, 4] rfl ?_
  exact L 15 1 (by omega) M hC (FR.refl _ _ _)

set_option maxRecDepth 20000 in
theorem x_mends_1 {g : GE} {M : Mem} {sz : Nat} {σ τ : Nat → Int32} {hk : Bool} {n : Nat} {ps : Nat → Nat → Int32} {len : Nat} {tx : Nat → Int32} (hC : CW g M σ τ hk n ps len tx) {a b c : Int32} (h : isP a = false ∨ isP b = false) : Run g m_X8_mends [rf g 0, .int a, .int b, .int c] M sz 1 6 (Thr (exN 0) M) := by
  refine Run.of rfl (by decide) (Nat.le_of_ble_eq_true rfl) ?_
  show V g m_X8_mends 0 _ [] _ _ _ _ _
  refine V_iload_n 1 dX8_mends_0 rfl ?_
  refine V_iload_n 2 dX8_mends_1 rfl ?_
  refine Ct_X8_85 rfl rfl ⟨Nat.le_of_ble_eq_true rfl, Nat.le_of_ble_eq_true rfl⟩ (r_checkPair_bad h) rfl (Nat.le_of_ble_eq_true rfl) dX8_mends_2 rfl ?_
  exact ⟨rfl, rfl⟩

set_option maxRecDepth 20000 in
theorem x_mends_2a {g : GE} {M : Mem} {sz : Nat} {σ τ : Nat → Int32} {hk : Bool} {n : Nat} {ps : Nat → Nat → Int32} {len : Nat} {tx : Nat → Int32} (hC : CW g M σ τ hk n ps len tx) {a b c : Int32} (ha : isP a = true) (hb : isP b = true) (h : a = b) : Run g m_X8_mends [rf g 0, .int a, .int b, .int c] M sz 1 6 (Thr (exN 1) M) := by
  refine Run.of rfl (by decide) (Nat.le_of_ble_eq_true rfl) ?_
  show V g m_X8_mends 0 _ [] _ _ _ _ _
  refine V_iload_n 1 dX8_mends_0 rfl ?_
  refine V_iload_n 2 dX8_mends_1 rfl ?_
  refine Ct_X8_85 rfl rfl ⟨Nat.le_of_ble_eq_true rfl, Nat.le_of_ble_eq_true rfl⟩ (r_checkPair_same ha hb h) rfl (Nat.le_of_ble_eq_true rfl) dX8_mends_2 rfl ?_
  exact ⟨rfl, rfl⟩

set_option maxRecDepth 20000 in
theorem x_mends_2b {g : GE} {M : Mem} {sz : Nat} {σ τ : Nat → Int32} {hk : Bool} {n : Nat} {ps : Nat → Nat → Int32} {len : Nat} {tx : Nat → Int32} (hC : CW g M σ τ hk n ps len tx) {a b c : Int32} (ha : isP a = true) (hb : isP b = true) (h : a ≠ b) (hc : c < 0 ∨ ¬ c ≤ 1) : Run g m_X8_mends [rf g 0, .int a, .int b, .int c] M sz 1 6 (Thr (exN 1) M) := by
  refine Run.of rfl (by decide) (Nat.le_of_ble_eq_true rfl) ?_
  show V g m_X8_mends 0 _ [] _ _ _ _ _
  refine V_iload_n 1 dX8_mends_0 rfl ?_
  refine V_iload_n 2 dX8_mends_1 rfl ?_
  refine C_X8_85 rfl ⟨Nat.le_of_ble_eq_true rfl, Nat.le_of_ble_eq_true rfl⟩ (r_checkPair_ok ha hb h) rfl (Nat.le_of_ble_eq_true rfl) dX8_mends_2 rfl ?_
  refine V_iload_n 3 dX8_mends_5 rfl ?_
  refine V_iconst (v := 0) dX8_mends_6 rfl ?_
  refine V_iconst (v := 1) dX8_mends_7 rfl ?_
  refine Ct_X8_66 rfl rfl ⟨Nat.le_of_ble_eq_true rfl, Nat.le_of_ble_eq_true rfl⟩ (r_checkRange_bad hc) rfl (Nat.le_of_ble_eq_true rfl) dX8_mends_8 rfl ?_
  exact ⟨rfl, rfl⟩

set_option maxRecDepth 20000 in
theorem mend_p {g : GE} {M : Mem} {sz : Nat} {σ v : Nat → Int32} (hM : MD g M σ v) {x : Int32} {a b c s : Nat} (h2 : 2 ≤ s) (h5 : s ≤ 5) (hc : c < 2 ^ 31) (hd : ∀ k, k < s → dg c s k < 5) (hS : stdW σ (dg c s) (s - 1) = true) {Q : Ou → Mem → Prop} (kk : V g m_X9_mend 128 [(10, .int (nI s)), (8, .long (prW σ (dg c s) false (s - 1))), (6, .long (prW σ (dg c s) true (s - 1))), (5, .int (nI c)), (4, .int (nI s)), (0, rf g 96), (1, .int (nI a)), (2, .int (nI b)), (3, .int x)] [] M sz 0 0 Q) : ∀ m k : Nat, k + m = s → 1 ≤ k → V g m_X9_mend 55 [(10, .int (nI k)), (8, .long (prW σ (dg c s) false (k - 1))), (6, .long (prW σ (dg c s) true (k - 1))), (5, .int (nI c)), (4, .int (nI s)), (0, rf g 96), (1, .int (nI a)), (2, .int (nI b)), (3, .int x)] [] M sz 0 0 Q := by
  intro m
  induction m with
  | zero =>
    intro k hk h1
    obtain rfl : k = s := by omega
    refine V_iload 0 dX9_mend_55 rfl ?_
    refine V_iload 4 dX9_mend_57 rfl ?_
    refine V_icmp_ge (tgt := 128) dX9_mend_59 (by decide) (fun c59 => ?_) (fun c59 => absurd (nI_le (Nat.le_refl _) (by omega)) c59)
    exact kk
  | succ m ih =>
    intro k hk h1
    have hh : hasS σ (dg c s (k - 1)) (dg c s k) = true := by
      have e := allN_lt hS (k - 1) (by omega)
      unfold stdP at e
      rw [show k - 1 + 1 = k by omega] at e
      exact e
    refine V_iload 0 dX9_mend_55 rfl ?_
    refine V_iload 4 dX9_mend_57 rfl ?_
    refine V_icmp_ge (tgt := 128) dX9_mend_59 (by decide) (fun c59 => absurd c59 (nI_ge (by omega) (by omega))) (fun c59 => ?_)
    refine V_lload 2 dX9_mend_62 rfl ?_
    refine V_aload_n 5 dX9_mend_64 rfl ?_
    refine V_iload 3 dX9_mend_65 rfl ?_
    refine V_iload 4 dX9_mend_67 rfl ?_
    refine V_pc (pc2 := 69) rfl ?_
    refine V_iload 0 dX9_mend_69 rfl ?_
    refine V_iconst (v := 1) dX9_mend_71 rfl ?_
    refine V_isub dX9_mend_72 ?_
    rw [show (1 : Int32) = nI 1 from rfl, pk_sub (by omega)]
    refine C_X9_51 rfl ⟨Nat.le_of_ble_eq_true rfl, Nat.le_of_ble_eq_true rfl⟩ (r9_at c s (k - 1) rfl rfl rfl hc (by omega) h5) rfl (Nat.le_of_ble_eq_true rfl) dX9_mend_73 rfl ?_
    refine V_iload 3 dX9_mend_76 rfl ?_
    refine V_iload 4 dX9_mend_78 rfl ?_
    refine V_iload 0 dX9_mend_80 rfl ?_
    refine C_X9_51 rfl ⟨Nat.le_of_ble_eq_true rfl, Nat.le_of_ble_eq_true rfl⟩ (r9_at c s (k) rfl rfl rfl hc (by omega) h5) rfl (Nat.le_of_ble_eq_true rfl) dX9_mend_82 rfl ?_
    refine V_pc (pc2 := 85) rfl ?_
    refine C_X9_69 hM.1 rfl ⟨Nat.le_of_ble_eq_true rfl, Nat.le_of_ble_eq_true rfl⟩ (r9_up hM (dg c s (k - 1)) (dg c s k) rfl rfl (hd _ (by omega)) (hd _ (by omega)) (hasNe hh)) rfl (Nat.le_of_ble_eq_true rfl) dX9_mend_85 rfl ?_
    refine V_i2l dX9_mend_88 ?_
    refine V_lmul dX9_mend_89 ?_
    refine V_lstore (lv2 := [(6, .long _), (10, .int _), (8, .long _), (5, .int _), (4, .int _), (0, .ref _), (1, .int _), (2, .int _), (3, .int _)]) dX9_mend_90 (Nat.le_of_ble_eq_true rfl) rfl ?_
    refine V_lload 2 dX9_mend_92 rfl ?_
    refine V_aload_n 5 dX9_mend_94 rfl ?_
    refine V_iload 3 dX9_mend_95 rfl ?_
    refine V_iload 4 dX9_mend_97 rfl ?_
    refine V_pc (pc2 := 99) rfl ?_
    refine V_iload 1 dX9_mend_99 rfl ?_
    refine V_iconst (v := 1) dX9_mend_101 rfl ?_
    refine V_isub dX9_mend_102 ?_
    rw [show (1 : Int32) = nI 1 from rfl, pk_sub (by omega)]
    refine C_X9_51 rfl ⟨Nat.le_of_ble_eq_true rfl, Nat.le_of_ble_eq_true rfl⟩ (r9_at c s (k - 1) rfl rfl rfl hc (by omega) h5) rfl (Nat.le_of_ble_eq_true rfl) dX9_mend_103 rfl ?_
    refine V_iload 3 dX9_mend_106 rfl ?_
    refine V_iload 4 dX9_mend_108 rfl ?_
    refine V_iload 1 dX9_mend_110 rfl ?_
    refine C_X9_51 rfl ⟨Nat.le_of_ble_eq_true rfl, Nat.le_of_ble_eq_true rfl⟩ (r9_at c s (k) rfl rfl rfl hc (by omega) h5) rfl (Nat.le_of_ble_eq_true rfl) dX9_mend_112 rfl ?_
    refine V_pc (pc2 := 115) rfl ?_
    refine C_X9_72 hM.1 rfl ⟨Nat.le_of_ble_eq_true rfl, Nat.le_of_ble_eq_true rfl⟩ (r9_down hM (dg c s (k - 1)) (dg c s k) rfl rfl (hd _ (by omega)) (hd _ (by omega)) (hasNe hh)) rfl (Nat.le_of_ble_eq_true rfl) dX9_mend_115 rfl ?_
    refine V_i2l dX9_mend_118 ?_
    refine V_lmul dX9_mend_119 ?_
    refine V_lstore (lv2 := [(8, .long _), (6, .long _), (10, .int _), (5, .int _), (4, .int _), (0, .ref _), (1, .int _), (2, .int _), (3, .int _)]) dX9_mend_120 (Nat.le_of_ble_eq_true rfl) rfl ?_
    refine V_iinc (v := _ + 1) (lv2 := [(10, .int _), (8, .long _), (6, .long _), (5, .int _), (4, .int _), (0, .ref _), (1, .int _), (2, .int _), (3, .int _)]) 2 dX9_mend_122 rfl rfl (Nat.le_of_ble_eq_true rfl) rfl ?_
    refine V_goto (tgt := 55) dX9_mend_125 (by decide) ?_
    refine V_lv (lv2 := [(10, .int _), (8, .long _), (6, .long _), (5, .int _), (4, .int _), (0, .ref _), (1, .int _), (2, .int _), (3, .int _)]) [0, 1, 2, 3, 4, 5, 6, 7, 8] rfl ?_
    rw [nI_1]
    have i9 := ih (k + 1) (by omega) (by omega)
    rw [show k + 1 - 1 = (k - 1) + 1 by omega] at i9
    have e8 : ∀ u : Bool, prW σ (dg c s) u (k - 1 + 1) = prW σ (dg c s) u (k - 1) * (if u then upS σ (dg c s (k - 1)) (dg c s k) else upS σ (dg c s k) (dg c s (k - 1))).toInt64 := by
      intro u
      show prW σ (dg c s) u (k - 1) * _ = _
      rw [show k - 1 + 1 = k by omega]
    rw [e8 true, e8 false] at i9
    exact i9

set_option maxRecDepth 20000 in
theorem mend_q {g : GE} {M : Mem} {sz : Nat} {x : Int32} {a b c s : Nat} (p q : Nat) (hp : 0 < p) (hp2 : p < 2 ^ 60) (hq : 0 < q) (hq2' : q < 2 ^ 60) : V g m_X9_mend 128 [(10, .int (nI s)), (8, .long (lN q)), (6, .long (lN p)), (5, .int (nI c)), (4, .int (nI s)), (0, rf g 96), (1, .int (nI a)), (2, .int (nI b)), (3, .int x)] [] M sz 0 0 (Ret (some (.int (lowS p q x))) M) := by
  have hgp : 0 < Nat.gcd p q := Nat.gcd_pos_of_pos_left q hp
  have hgl0 : Nat.gcd p q ≤ p := Nat.le_of_dvd hp (Nat.gcd_dvd_left p q)
  have hgl : Nat.gcd p q < 2 ^ 63 := by omega
  have hg0 : ¬ lN (Nat.gcd p q) = 0 := fun e => by have := (lN_eq0 hgl).mp e; omega
  have hq1 : p / Nat.gcd p q < 2 ^ 63 := Nat.lt_of_le_of_lt (Nat.div_le_self _ _) (by omega)
  have hq2 : q / Nat.gcd p q < 2 ^ 63 := Nat.lt_of_le_of_lt (Nat.div_le_self _ _) (by omega)
  refine V_lload 2 dX9_mend_128 rfl ?_
  refine V_lload 1 dX9_mend_130 rfl ?_
  refine C_X9_270 rfl ⟨Nat.le_of_ble_eq_true rfl, Nat.le_of_ble_eq_true rfl⟩ (r9_divisor p q (by omega) (by omega)) rfl (Nat.le_of_ble_eq_true rfl) dX9_mend_132 rfl ?_
  refine V_lstore (lv2 := [(10, .long _), (8, .long _), (6, .long _), (5, .int _), (4, .int _), (0, .ref _), (1, .int _), (2, .int _), (3, .int _)]) dX9_mend_135 (Nat.le_of_ble_eq_true rfl) rfl ?_
  refine V_lload 2 dX9_mend_137 rfl ?_
  refine V_lload 0 dX9_mend_139 rfl ?_
  refine V_ldiv dX9_mend_141 (by assumption) ?_
  refine V_pc (pc2 := 142) rfl ?_
  rw [lN_div (by omega) hgp hgl]
  refine V_ldc2 z_X9_273 dX9_mend_142 ?_
  refine V_lcmp dX9_mend_145 ?_
  refine V_if_gt (tgt := 161) dX9_mend_146 (by decide) (fun c146 => ?_) (fun c146 => ?_)
  · refine V_iconst (v := -1) dX9_mend_161 rfl ?_
    refine V_goto (tgt := 180) dX9_mend_162 (by decide) ?_
    try rw [lN_i]
    refine V_iret (st := []) dX9_mend_180 rfl ?_
    exact ⟨by unfold lowS; rw [if_pos (Or.inl ((l99 hq1).mp (lgc_gt.mp c146)))], rfl⟩
  · refine V_lload 1 dX9_mend_149 rfl ?_
    refine V_lload 0 dX9_mend_151 rfl ?_
    refine V_ldiv dX9_mend_153 (by assumption) ?_
    rw [lN_div (by omega) hgp hgl]
    refine V_ldc2 z_X9_273 dX9_mend_154 ?_
    refine V_lcmp dX9_mend_157 ?_
    refine V_if_le (tgt := 165) dX9_mend_158 (by decide) (fun c158 => ?_) (fun c158 => ?_)
    · refine V_iload_n 8 dX9_mend_165 rfl ?_
      refine V_if_ne (tgt := 174) dX9_mend_166 (by decide) (fun c166 => ?_) (fun c166 => ?_)
      · refine V_lload 1 dX9_mend_174 rfl ?_
        refine V_lload 0 dX9_mend_176 rfl ?_
        refine V_ldiv dX9_mend_178 (by assumption) ?_
        rw [lN_div (by omega) hgp hgl]
        refine V_l2i dX9_mend_179 ?_
        try rw [lN_i]
        refine V_iret (st := []) dX9_mend_180 rfl ?_
        have hno : ¬ (99 < p / Nat.gcd p q ∨ 99 < q / Nat.gcd p q) := fun h => h.elim (fun h => c146 (lgc_gt.mpr ((l99 hq1).mpr h))) (fun h => absurd (lgc_gt.mpr ((l99 hq2).mpr h)) (Int32.not_lt.mpr c158))
        exact ⟨by unfold lowS; rw [if_neg hno, if_neg c166], rfl⟩
      · refine V_lload 2 dX9_mend_169 rfl ?_
        refine V_goto (tgt := 176) dX9_mend_171 (by decide) ?_
        refine V_lload 0 dX9_mend_176 rfl ?_
        refine V_ldiv dX9_mend_178 (by assumption) ?_
        rw [lN_div (by omega) hgp hgl]
        refine V_l2i dX9_mend_179 ?_
        try rw [lN_i]
        refine V_iret (st := []) dX9_mend_180 rfl ?_
        have hno : ¬ (99 < p / Nat.gcd p q ∨ 99 < q / Nat.gcd p q) := fun h => h.elim (fun h => c146 (lgc_gt.mpr ((l99 hq1).mpr h))) (fun h => absurd (lgc_gt.mpr ((l99 hq2).mpr h)) (Int32.not_lt.mpr c158))
        exact ⟨by unfold lowS; rw [if_neg hno, if_pos c166], rfl⟩
    · refine V_iconst (v := -1) dX9_mend_161 rfl ?_
      refine V_goto (tgt := 180) dX9_mend_162 (by decide) ?_
      try rw [lN_i]
      refine V_iret (st := []) dX9_mend_180 rfl ?_
      exact ⟨by unfold lowS; rw [if_pos (Or.inr ((l99 hq2).mp (lgc_gt.mp (Int32.not_le.mp c158))))], rfl⟩

theorem pNat_cong {σ : Nat → Int32} {st st2 : Nat → Nat} {u : Bool} : ∀ {n : Nat}, (∀ k, k ≤ n → st k = st2 k) → pNat σ st u n = pNat σ st2 u n
  | 0, _ => rfl
  | n + 1, h => by
    have i := pNat_cong (σ := σ) (u := u) (n := n) (fun k hk => h k (by omega))
    show pNat σ st u n * _ = pNat σ st2 u n * _
    rw [i, h n (by omega), h (n + 1) (by omega)]
set_option maxRecDepth 20000 in
theorem mend_in {g : GE} {M : Mem} {sz : Nat} {σ v : Nat → Int32} (hM : MD g M σ v) (hI : I10 σ) {x : Int32} {a b s : Nat} (ha : a < 5) (hb : b < 5) (hab : a ≠ b) (h2 : 2 ≤ s) (h5 : s ≤ 5) {F : Option Nat} (kk : fnd (stdI σ a b) (wlo (s + 1)) (16 - wlo (s + 1)) = F → V g m_X9_mend 3 [(4, .int (nI (s + 1))), (0, rf g 96), (1, .int (nI a)), (2, .int (nI b)), (3, .int x)] [] M sz 0 0 (Ret (some (.int (mdO σ a b x F))) M)) :
    ∀ m c : Nat, c + m = (a + 1) * 10 ^ (s - 1) → a * 10 ^ (s - 1) ≤ c → ∀ (j : Nat), wlo s ≤ j → j ≤ wlo (s + 1) → (∀ i, wlo s ≤ i → i < j → wC a b i < c) → (∀ i, j ≤ i → i < wlo (s + 1) → c ≤ wC a b i) → fnd (stdI σ a b) j (16 - j) = F → V g m_X9_mend 19 [(5, .int (nI c)), (4, .int (nI s)), (0, rf g 96), (1, .int (nI a)), (2, .int (nI b)), (3, .int x)] [] M sz 0 0 (Ret (some (.int (mdO σ a b x F))) M) := by
  have hpw : (a + 1) * 10 ^ (s - 1) ≤ 50000 := Nat.le_trans (Nat.mul_le_mul (show a + 1 ≤ 5 by omega) (Nat.pow_le_pow_right (by decide) (show s - 1 ≤ 4 by omega))) (by decide)
  have hwl := wlo_16 (s + 1)
  intro m
  induction m with
  | zero =>
    intro c hc hlo j h3 h4 h6 h7 hst
    have hjE : j = wlo (s + 1) := by
      refine Decidable.byContradiction fun hne => ?_
      have hj : j < wlo (s + 1) := by omega
      have hsj := (seg s j h2 h5 (by omega)).mpr ⟨h3, hj⟩
      have h8 := h7 j (Nat.le_refl _) hj
      have h9 := (wC_ok a b j ha hb hab (by omega)).2.2.2.2.2
      rw [hsj] at h9
      omega
    obtain rfl : c = (a + 1) * 10 ^ (s - 1) := by omega
    refine V_iload 0 dX9_mend_19 rfl ?_
    refine V_iload_n 3 dX9_mend_21 rfl ?_
    refine V_iconst (v := 1) dX9_mend_22 rfl ?_
    refine V_iadd dX9_mend_23 ?_
    refine V_iload 1 dX9_mend_24 rfl ?_
    refine C_X9_256 rfl ⟨Nat.le_of_ble_eq_true rfl, Nat.le_of_ble_eq_true rfl⟩ (r9_power s rfl h2 h5) rfl (Nat.le_of_ble_eq_true rfl) dX9_mend_26 rfl ?_
    refine V_imul dX9_mend_29 ?_
    refine V_pc (pc2 := 30) rfl ?_
    rw [nI_1, pk_mul]
    refine V_icmp_ge (tgt := 187) dX9_mend_30 (by decide) (fun c30 => ?_) (fun c30 => absurd (nI_le (Nat.le_refl _) (by omega)) c30)
    refine V_iinc (v := _ + 1) (lv2 := [(4, .int _), (5, .int _), (0, .ref _), (1, .int _), (2, .int _), (3, .int _)]) 1 dX9_mend_187 rfl rfl (Nat.le_of_ble_eq_true rfl) rfl ?_
    refine V_goto (tgt := 3) dX9_mend_190 (by decide) ?_
    refine V_lv (lv2 := [(4, .int _), (0, .ref _), (1, .int _), (2, .int _), (3, .int _)]) [0, 2, 3, 4, 5] rfl ?_
    rw [nI_1]
    exact kk (by rw [← hjE]; exact hst)
  | succ m ih =>
    intro c hc hlo j h3 h4 h6 h7 hst
    have hc9 : c < 10 ^ s := by
      have e1 : (a + 1) * 10 ^ (s - 1) ≤ 10 * 10 ^ (s - 1) := Nat.mul_le_mul_right _ (by omega)
      have e2 : 10 * 10 ^ (s - 1) = 10 ^ s := by rw [Nat.mul_comm, ← Nat.pow_succ, show (s - 1).succ = s by omega]
      omega
    by_cases hx : j < wlo (s + 1) ∧ wC a b j = c
    · obtain ⟨hj, hcj⟩ := hx
      have hsj := (seg s j h2 h5 (by omega)).mpr ⟨h3, hj⟩
      have hw9 := wC_ok a b j ha hb hab (by omega)
      have hisW : isW c s = true := by rw [← hcj, ← hsj]; exact hw9.2.1
      have hled : ledS σ c s a b = stdI σ a b j := by rw [← hcj, ← hsj]; exact led_yes ha hb hab (by omega)
      have hdst : stdW σ (dg c s) (s - 1) = stdI σ a b j := by rw [← hcj, ← hsj]; exact stdW_cong (fun k hk => wC_dg a b j k ha hb hab (by omega) (by omega))
      have hlow : ∀ i, wlo s ≤ i → i < j + 1 → wC a b i < c + 1 := by
        intro i a1 a2
        by_cases e : i = j
        · rw [e]; omega
        · exact Nat.lt_succ_of_lt (h6 i a1 (by omega))
      have hup : ∀ i, j + 1 ≤ i → i < wlo (s + 1) → c + 1 ≤ wC a b i := by
        intro i a1 a2
        have hsi := (seg s i h2 h5 (by omega)).mpr ⟨by omega, a2⟩
        have := wC_lt a b j i ha hb hab (by omega) (by omega) (by omega) (by omega)
        omega
      refine V_iload 0 dX9_mend_19 rfl ?_
      refine V_iload_n 3 dX9_mend_21 rfl ?_
      refine V_iconst (v := 1) dX9_mend_22 rfl ?_
      refine V_iadd dX9_mend_23 ?_
      refine V_iload 1 dX9_mend_24 rfl ?_
      refine C_X9_256 rfl ⟨Nat.le_of_ble_eq_true rfl, Nat.le_of_ble_eq_true rfl⟩ (r9_power s rfl h2 h5) rfl (Nat.le_of_ble_eq_true rfl) dX9_mend_26 rfl ?_
      refine V_imul dX9_mend_29 ?_
      refine V_pc (pc2 := 30) rfl ?_
      rw [nI_1, pk_mul]
      refine V_icmp_ge (tgt := 187) dX9_mend_30 (by decide) (fun c30 => absurd c30 (nI_ge (by omega) (by omega))) (fun c30 => ?_)
      refine V_aload_n 2 dX9_mend_33 rfl ?_
      refine V_iload 0 dX9_mend_34 rfl ?_
      refine V_iload 1 dX9_mend_36 rfl ?_
      refine V_iload_n 3 dX9_mend_38 rfl ?_
      refine V_iload_n 4 dX9_mend_39 rfl ?_
      refine C_X9_259 hM.1 rfl ⟨Nat.le_of_ble_eq_true rfl, Nat.le_of_ble_eq_true rfl⟩ (r9_leads hM c s a b rfl rfl rfl rfl (by omega) h2 h5 ha hb) rfl (Nat.le_of_ble_eq_true rfl) dX9_mend_40 rfl ?_
      rw [hled]
      refine V_if_eq (tgt := 181) dX9_mend_43 (by decide) (fun c43 => ?_) (fun c43 => ?_)
      · refine V_iinc (v := _ + 1) (lv2 := [(5, .int _), (4, .int _), (0, .ref _), (1, .int _), (2, .int _), (3, .int _)]) 0 dX9_mend_181 rfl rfl (Nat.le_of_ble_eq_true rfl) rfl ?_
        refine V_goto (tgt := 19) dX9_mend_184 (by decide) ?_
        refine V_lv (lv2 := [(5, .int _), (4, .int _), (0, .ref _), (1, .int _), (2, .int _), (3, .int _)]) [0, 1, 2, 3, 4, 5] rfl ?_
        rw [nI_1]
        exact ih (c + 1) (by omega) (by omega) (j + 1) (by omega) (by omega) (fun i a1 a2 => hlow i a1 a2) (fun i a1 a2 => hup i a1 a2) (by rw [← hst, show 16 - j = (16 - (j + 1)) + 1 by omega, fnd_f (show stdI σ a b j = false from bI_0 c43)])
      · refine V_lconst (v := 1) dX9_mend_46 rfl ?_
        refine V_lstore (lv2 := [(6, .long _), (5, .int _), (4, .int _), (0, .ref _), (1, .int _), (2, .int _), (3, .int _)]) dX9_mend_47 (Nat.le_of_ble_eq_true rfl) rfl ?_
        refine V_lconst (v := 1) dX9_mend_49 rfl ?_
        refine V_lstore (lv2 := [(8, .long _), (6, .long _), (5, .int _), (4, .int _), (0, .ref _), (1, .int _), (2, .int _), (3, .int _)]) dX9_mend_50 (Nat.le_of_ble_eq_true rfl) rfl ?_
        refine V_iconst (v := 1) dX9_mend_52 rfl ?_
        refine V_istore (lv2 := [(10, .int _), (8, .long _), (6, .long _), (5, .int _), (4, .int _), (0, .ref _), (1, .int _), (2, .int _), (3, .int _)]) dX9_mend_53 (Nat.le_of_ble_eq_true rfl) rfl ?_
        refine V_lv (lv2 := [(10, .int _), (8, .long _), (6, .long _), (5, .int _), (4, .int _), (0, .ref _), (1, .int _), (2, .int _), (3, .int _)]) [0, 1, 2, 3, 4, 5, 6, 7, 8] rfl ?_
        have hstd : stdI σ a b j = true := bI_1 c43
        have hfj : fnd (stdI σ a b) j (16 - j) = some j := by rw [show 16 - j = (16 - (j + 1)) + 1 by omega, fnd_t hstd]
        rw [← hst, hfj]
        have hd5 := isW_lt hisW
        have hS9 : stdW σ (dg c s) (s - 1) = true := by rw [hdst]; exact hstd
        obtain ⟨e1, e2, e3⟩ := prW_nat hI (st := dg c s) (ups := true) (s - 1) (fun k hk => hd5 k (by omega)) hS9
        obtain ⟨e4, e5, e6⟩ := prW_nat hI (st := dg c s) (ups := false) (s - 1) (fun k hk => hd5 k (by omega)) hS9
        refine mend_p hM h2 h5 (by omega) hd5 hS9 ?_ (s - 1) 1 (by omega) (Nat.le_refl _)
        rw [e1, e4]
        have e9 := mend_q (g := g) (M := M) (sz := sz) (x := x) (a := a) (b := b) (c := c) (s := s) _ _ e2 (p99 e3 (by omega)) e5 (p99 e6 (by omega))
        have ep : ∀ u : Bool, pNat σ (dg c s) u (s - 1) = pNat σ (oSt a b j) u (wSz j - 1) := by
          intro u
          rw [← hcj, ← hsj]
          exact pNat_cong (fun k hk => wC_dg a b j k ha hb hab (by omega) (by omega))
        rw [ep true, ep false] at e9
        rw [ep true, ep false]
        exact e9
    · have hled : ledS σ c s a b = false := by
        refine (Bool.not_eq_true _).mp fun h => hx ?_
        obtain ⟨i, hi, hsi, hci⟩ := led_no h2 h5 hc9 h
        obtain ⟨a1, a2⟩ := (seg s i h2 h5 hi).mp hsi
        have hji : j ≤ i := Nat.le_of_not_lt fun e => by have := h6 i a1 e; omega
        by_cases e : i = j
        · rw [← e]; exact ⟨a2, hci⟩
        · have hsj := (seg s j h2 h5 (by omega)).mpr ⟨h3, by omega⟩
          have h8 := wC_lt a b j i ha hb hab (by omega) (by omega) (by omega) (by omega)
          have h9 := h7 j (Nat.le_refl _) (by omega)
          omega
      have hnot : ∀ i, j ≤ i → i < wlo (s + 1) → c + 1 ≤ wC a b i := by
        intro i a1 a2
        have h8 := h7 i a1 a2
        have hne : wC a b i ≠ c := by
          intro e
          by_cases e2 : i = j
          · exact hx ⟨by omega, by rw [← e2]; exact e⟩
          · have hsi := (seg s i h2 h5 (by omega)).mpr ⟨by omega, a2⟩
            have hsj := (seg s j h2 h5 (by omega)).mpr ⟨h3, by omega⟩
            have h9 := wC_lt a b j i ha hb hab (by omega) (by omega) (by omega) (by omega)
            have h10 := h7 j (Nat.le_refl _) (by omega)
            omega
        omega
      refine V_iload 0 dX9_mend_19 rfl ?_
      refine V_iload_n 3 dX9_mend_21 rfl ?_
      refine V_iconst (v := 1) dX9_mend_22 rfl ?_
      refine V_iadd dX9_mend_23 ?_
      refine V_iload 1 dX9_mend_24 rfl ?_
      refine C_X9_256 rfl ⟨Nat.le_of_ble_eq_true rfl, Nat.le_of_ble_eq_true rfl⟩ (r9_power s rfl h2 h5) rfl (Nat.le_of_ble_eq_true rfl) dX9_mend_26 rfl ?_
      refine V_imul dX9_mend_29 ?_
      refine V_pc (pc2 := 30) rfl ?_
      rw [nI_1, pk_mul]
      refine V_icmp_ge (tgt := 187) dX9_mend_30 (by decide) (fun c30 => absurd c30 (nI_ge (by omega) (by omega))) (fun c30 => ?_)
      refine V_aload_n 2 dX9_mend_33 rfl ?_
      refine V_iload 0 dX9_mend_34 rfl ?_
      refine V_iload 1 dX9_mend_36 rfl ?_
      refine V_iload_n 3 dX9_mend_38 rfl ?_
      refine V_iload_n 4 dX9_mend_39 rfl ?_
      refine C_X9_259 hM.1 rfl ⟨Nat.le_of_ble_eq_true rfl, Nat.le_of_ble_eq_true rfl⟩ (r9_leads hM c s a b rfl rfl rfl rfl (by omega) h2 h5 ha hb) rfl (Nat.le_of_ble_eq_true rfl) dX9_mend_40 rfl ?_
      refine V_if_eq (tgt := 181) dX9_mend_43 (by decide) (fun c43 => ?_) (fun c43 => absurd (by rw [hled]; rfl) c43)
      refine V_pc (pc2 := 181) rfl ?_
      refine V_iinc (v := _ + 1) (lv2 := [(5, .int _), (4, .int _), (0, .ref _), (1, .int _), (2, .int _), (3, .int _)]) 0 dX9_mend_181 rfl rfl (Nat.le_of_ble_eq_true rfl) rfl ?_
      refine V_goto (tgt := 19) dX9_mend_184 (by decide) ?_
      refine V_lv (lv2 := [(5, .int _), (4, .int _), (0, .ref _), (1, .int _), (2, .int _), (3, .int _)]) [0, 1, 2, 3, 4, 5] rfl ?_
      rw [nI_1]
      exact ih (c + 1) (by omega) (by omega) j h3 h4 (fun i a1 a2 => Nat.lt_succ_of_lt (h6 i a1 a2)) (fun i a1 a2 => hnot i a1 a2) hst

set_option maxRecDepth 20000 in
theorem r9_mend {g : GE} {M : Mem} {sz : Nat} {σ v : Nat → Int32} (hM : MD g M σ v) (hI : I10 σ) {y z x : Int32} (a b : Nat) (hy : y = nI a) (hz : z = nI b) (ha : a < 5) (hb : b < 5) (hab : a ≠ b) : Run g m_X9_mend [rf g 96, .int y, .int z, .int x] M sz 0 0 (Ret (some (.int (mdO σ a b x (fnd (stdI σ a b) 1 15)))) M) := by
  subst hy hz
  have L : ∀ m s : Nat, s + m = 6 → 3 ≤ s → fnd (stdI σ a b) (wlo s) (16 - wlo s) = fnd (stdI σ a b) 1 15 → V g m_X9_mend 3 [(4, .int (nI s)), (0, rf g 96), (1, .int (nI a)), (2, .int (nI b)), (3, .int x)] [] M sz 0 0 (Ret (some (.int (mdO σ a b x (fnd (stdI σ a b) 1 15)))) M) := by
    intro m
    induction m with
    | zero =>
      intro s hs h2 hst
      obtain rfl : s = 6 := by omega
      refine V_iload 0 dX9_mend_3 rfl ?_
      refine V_bipush (v := 6) dX9_mend_5 (by decide) ?_
      refine V_icmp_ge (tgt := 193) dX9_mend_7 (by decide) (fun c7 => ?_) (fun c7 => absurd (by decide) c7)
      refine V_iconst (v := -1) dX9_mend_193 rfl ?_
      refine V_iret (st := []) dX9_mend_194 rfl ?_
      rw [← hst]
      exact ⟨rfl, rfl⟩
    | succ m ih =>
      intro s hs h3 hst
      have h5 : s ≤ 5 := by omega
      have h2 : 2 ≤ s := by omega
      have hpw : (a + 1) * 10 ^ (s - 1) ≤ 50000 := Nat.le_trans (Nat.mul_le_mul (show a + 1 ≤ 5 by omega) (Nat.pow_le_pow_right (by decide) (show s - 1 ≤ 4 by omega))) (by decide)
      have hwl := wlo_16 (s + 1)
      have hwm := wlo_mono s h5
      refine V_iload 0 dX9_mend_3 rfl ?_
      refine V_bipush (v := 6) dX9_mend_5 (by decide) ?_
      refine V_icmp_ge (tgt := 193) dX9_mend_7 (by decide) (fun c7 => absurd c7 (nI_ge (b := 6) (by omega) (by decide))) (fun c7 => ?_)
      refine V_iload_n 2 dX9_mend_10 rfl ?_
      refine V_iload 0 dX9_mend_11 rfl ?_
      refine C_X9_256 rfl ⟨Nat.le_of_ble_eq_true rfl, Nat.le_of_ble_eq_true rfl⟩ (r9_power s rfl h2 h5) rfl (Nat.le_of_ble_eq_true rfl) dX9_mend_13 rfl ?_
      refine V_imul dX9_mend_16 ?_
      refine V_pc (pc2 := 17) rfl ?_
      refine V_istore (lv2 := [(5, .int _), (4, .int _), (0, .ref _), (1, .int _), (2, .int _), (3, .int _)]) dX9_mend_17 (Nat.le_of_ble_eq_true rfl) rfl ?_
      refine V_lv (lv2 := [(5, .int _), (4, .int _), (0, .ref _), (1, .int _), (2, .int _), (3, .int _)]) [0, 1, 2, 3, 4, 5] rfl ?_
      rw [pk_mul]
      refine mend_in hM hI ha hb hab h2 h5 (fun e => ih (s + 1) (by omega) (by omega) e) (10 ^ (s - 1)) (a * 10 ^ (s - 1)) (by rw [Nat.succ_mul]) (Nat.le_refl _) (wlo s) (Nat.le_refl _) hwm (fun i a1 a2 => absurd a1 (by omega)) (fun i a1 a2 => ?_) hst
      have hsi := (seg s i h2 h5 (by omega)).mpr ⟨a1, a2⟩
      have h9 := (wC_ok a b i ha hb hab (by omega)).2.2.2.2.1
      rw [hsi] at h9
      exact h9
  refine Run.of rfl (by decide) (Nat.le_of_ble_eq_true rfl) ?_
  show V g m_X9_mend 0 _ [] _ _ _ _ _
  refine V_iconst (v := 3) dX9_mend_0 rfl ?_
  refine V_istore (lv2 := [(4, .int _), (0, .ref _), (1, .int _), (2, .int _), (3, .int _)]) dX9_mend_1 (Nat.le_of_ble_eq_true rfl) rfl ?_
  refine V_lv (lv2 := [(4, .int _), (0, .ref _), (1, .int _), (2, .int _), (3, .int _)]) [0, 1, 2, 3, 4] rfl ?_
  exact L 3 3 (by omega) (Nat.le_refl _) rfl

set_option maxRecDepth 20000 in
theorem q9_mends_1 {g : GE} {M : Mem} {sz : Nat} {σ sn : Nat → Int32} {hk : Bool} {n : Nat} {ps : Nat → Nat → Int32} {len : Nat} {tx : Nat → Int32} {th : Int32} (hL : ML g M σ sn hk n ps len tx th) {a b c : Int32} (h : isP a = false ∨ isP b = false) : Run g m_X9_mends [rf g 96, .int a, .int b, .int c] M sz 0 0 (RetP (some (.int 0)) (fun M2 => ML g M2 (σ) (sn) (hk) (n) (ps) (len) (tx) (1) ∧ FR M M2 96 9)) := by
  obtain ⟨⟨v, hM, v0, v1, v2, v3⟩, ⟨pf, f1, f2⟩, f3, f4, f5⟩ := id hL
  refine Run.of rfl (by decide) (Nat.le_of_ble_eq_true rfl) ?_
  show V g m_X9_mends 0 _ [] _ _ _ _ _
  refine V_aload_n 0 dX9_mends_0 rfl ?_
  refine V_iload_n 1 dX9_mends_1 rfl ?_
  refine V_iload_n 2 dX9_mends_2 rfl ?_
  refine V_iload_n 3 dX9_mends_3 rfl ?_
  refine V_iconst (v := 0) dX9_mends_4 rfl ?_
  refine V_iconst (v := 1) dX9_mends_5 rfl ?_
  refine C_X9_44 rfl ⟨Nat.le_of_ble_eq_true rfl, Nat.le_of_ble_eq_true rfl⟩ (r9_in _ _ _) rfl (Nat.le_of_ble_eq_true rfl) dX9_mends_6 rfl ?_
  refine V_pc (pc2 := 9) rfl ?_
  refine C_X9_220 rfl ⟨Nat.le_of_ble_eq_true rfl, Nat.le_of_ble_eq_true rfl⟩ (r9_badP_1 h) rfl (Nat.le_of_ble_eq_true rfl) dX9_mends_9 rfl ?_
  refine C_X9_111 hM.1 rfl ⟨Nat.le_of_ble_eq_true rfl, Nat.le_of_ble_eq_true rfl⟩ (r9_refused hM 1) rfl (Nat.le_of_ble_eq_true rfl) dX9_mends_12 rfl ?_
  refine V_if_eq (tgt := 20) dX9_mends_15 (by decide) (fun c15 => absurd c15 (by decide)) (fun c15 => ?_)
  refine V_iconst (v := 0) dX9_mends_18 rfl ?_
  refine V_iret (st := []) dX9_mends_19 rfl ?_
  refine ⟨rfl, hL.thr hM v0 v1 v2, (FR.refl M 96 9).put (by omega)⟩

set_option maxRecDepth 20000 in
theorem q9_mends_2 {g : GE} {M : Mem} {sz : Nat} {σ sn : Nat → Int32} {hk : Bool} {n : Nat} {ps : Nat → Nat → Int32} {len : Nat} {tx : Nat → Int32} {th : Int32} (hL : ML g M σ sn hk n ps len tx th) {a b c : Int32} (ha : isP a = true) (hb : isP b = true) (h : a = b ∨ inI c 0 1 = false) : Run g m_X9_mends [rf g 96, .int a, .int b, .int c] M sz 0 0 (RetP (some (.int 0)) (fun M2 => ML g M2 (σ) (sn) (hk) (n) (ps) (len) (tx) (2) ∧ FR M M2 96 9)) := by
  obtain ⟨⟨v, hM, v0, v1, v2, v3⟩, ⟨pf, f1, f2⟩, f3, f4, f5⟩ := id hL
  refine Run.of rfl (by decide) (Nat.le_of_ble_eq_true rfl) ?_
  show V g m_X9_mends 0 _ [] _ _ _ _ _
  refine V_aload_n 0 dX9_mends_0 rfl ?_
  refine V_iload_n 1 dX9_mends_1 rfl ?_
  refine V_iload_n 2 dX9_mends_2 rfl ?_
  refine V_iload_n 3 dX9_mends_3 rfl ?_
  refine V_iconst (v := 0) dX9_mends_4 rfl ?_
  refine V_iconst (v := 1) dX9_mends_5 rfl ?_
  refine C_X9_44 rfl ⟨Nat.le_of_ble_eq_true rfl, Nat.le_of_ble_eq_true rfl⟩ (r9_in _ _ _) rfl (Nat.le_of_ble_eq_true rfl) dX9_mends_6 rfl ?_
  refine V_pc (pc2 := 9) rfl ?_
  refine C_X9_220 rfl ⟨Nat.le_of_ble_eq_true rfl, Nat.le_of_ble_eq_true rfl⟩ (r9_badP_2 ha hb (h.imp id (fun h => by rw [h]; rfl))) rfl (Nat.le_of_ble_eq_true rfl) dX9_mends_9 rfl ?_
  refine C_X9_111 hM.1 rfl ⟨Nat.le_of_ble_eq_true rfl, Nat.le_of_ble_eq_true rfl⟩ (r9_refused hM 2) rfl (Nat.le_of_ble_eq_true rfl) dX9_mends_12 rfl ?_
  refine V_if_eq (tgt := 20) dX9_mends_15 (by decide) (fun c15 => absurd c15 (by decide)) (fun c15 => ?_)
  refine V_iconst (v := 0) dX9_mends_18 rfl ?_
  refine V_iret (st := []) dX9_mends_19 rfl ?_
  refine ⟨rfl, hL.thr hM v0 v1 v2, (FR.refl M 96 9).put (by omega)⟩

set_option maxRecDepth 20000 in
theorem q9_mends_ok {g : GE} {M : Mem} {sz : Nat} {σ sn : Nat → Int32} {hk : Bool} {n : Nat} {ps : Nat → Nat → Int32} {len : Nat} {tx : Nat → Int32} {th : Int32} (hL : ML g M σ sn hk n ps len tx th) {a b c : Int32} (hI : I10 σ) (i j : Nat) (hi : i < 5) (hj : j < 5) (ha : a = nI i) (hb : b = nI j) (hij : i ≠ j) (hc : ¬ c < 0) (hc2 : c ≤ 1) : Run g m_X9_mends [rf g 96, .int a, .int b, .int c] M sz 0 0 (RetP (some (.int (mdO σ i j c (fnd (stdI σ i j) 1 15)))) (fun M2 => ML g M2 (σ) (sn) (hk) (n) (ps) (len) (tx) (0) ∧ FR M M2 96 9)) := by
  subst ha hb
  obtain ⟨⟨v, hM, v0, v1, v2, v3⟩, ⟨pf, f1, f2⟩, f3, f4, f5⟩ := id hL
  refine Run.of rfl (by decide) (Nat.le_of_ble_eq_true rfl) ?_
  show V g m_X9_mends 0 _ [] _ _ _ _ _
  refine V_aload_n 0 dX9_mends_0 rfl ?_
  refine V_iload_n 1 dX9_mends_1 rfl ?_
  refine V_iload_n 2 dX9_mends_2 rfl ?_
  refine V_iload_n 3 dX9_mends_3 rfl ?_
  refine V_iconst (v := 0) dX9_mends_4 rfl ?_
  refine V_iconst (v := 1) dX9_mends_5 rfl ?_
  refine C_X9_44 rfl ⟨Nat.le_of_ble_eq_true rfl, Nat.le_of_ble_eq_true rfl⟩ (r9_in _ _ _) rfl (Nat.le_of_ble_eq_true rfl) dX9_mends_6 rfl ?_
  refine V_pc (pc2 := 9) rfl ?_
  refine C_X9_220 rfl ⟨Nat.le_of_ble_eq_true rfl, Nat.le_of_ble_eq_true rfl⟩ (r9_badP_0 (isP_nI hi) (isP_nI hj) (fun e => hij ((nI_eq (by omega) (by omega)).mp e)) (by rw [inI_t hc hc2]; decide)) rfl (Nat.le_of_ble_eq_true rfl) dX9_mends_9 rfl ?_
  refine C_X9_111 hM.1 rfl ⟨Nat.le_of_ble_eq_true rfl, Nat.le_of_ble_eq_true rfl⟩ (r9_refused hM 0) rfl (Nat.le_of_ble_eq_true rfl) dX9_mends_12 rfl ?_
  refine V_if_eq (tgt := 20) dX9_mends_15 (by decide) (fun c15 => ?_) (fun c15 => absurd (by decide) c15)
  refine V_aload_n 0 dX9_mends_20 rfl ?_
  refine V_iload_n 1 dX9_mends_21 rfl ?_
  refine V_iload_n 2 dX9_mends_22 rfl ?_
  refine V_iload_n 3 dX9_mends_23 rfl ?_
  refine C_X9_275 (hM.v _).1 rfl ⟨Nat.le_of_ble_eq_true rfl, Nat.le_of_ble_eq_true rfl⟩ (r9_mend (hM.v _) hI i j rfl rfl hi hj hij) rfl (Nat.le_of_ble_eq_true rfl) dX9_mends_24 rfl ?_
  refine V_pc (pc2 := 27) rfl ?_
  refine V_iret (st := []) dX9_mends_27 rfl ?_
  exact ⟨rfl, hL.thr hM v0 v1 v2, (FR.refl M 96 9).put (by omega)⟩

theorem op_mends (g : GE) (a b c : Int32) : OPL g m_L_mends m_X9_mends [rf g 0, .int a, .int b, .int c, rf g 105] [rf g 96, .int a, .int b, .int c] := by
  rintro M sz ⟨th, σ, τ, sn, hk, n, ps, len, tx, hW⟩
  obtain ⟨w1, w2, ⟨i1, i2, i3, i4, i5, i6⟩, o, w4⟩ := id hW
  by_cases hP : isP a = true ∧ isP b = true
  · obtain ⟨ha, hb⟩ := hP
    by_cases hab : a = b
    · exact OPL.bad hW (c := 2) (by decide) (by decide) (h_mends_2 w1.1 (x_mends_2a w1 ha hb hab)) (fun M2 sz2 h => q9_mends_2 h ha hb (Or.inl hab))
    · by_cases hu : c < 0 ∨ ¬ c ≤ 1
      · exact OPL.bad hW (c := 2) (by decide) (by decide) (h_mends_2 w1.1 (x_mends_2b w1 ha hb hab hu)) (fun M2 sz2 h => q9_mends_2 h ha hb (Or.inr (inI_f hu)))
      · have hu1 : ¬ c < 0 := fun h => hu (Or.inl h)
        have hu2 : c ≤ 1 := Decidable.of_not_not (fun h => hu (Or.inr h))
        obtain ⟨i, hi, rfl⟩ := isP_ex ha
        obtain ⟨j, hj, rfl⟩ := isP_ex hb
        have hij : i ≠ j := fun e => hab (by rw [e])
        exact OPL.ok hW (σ2 := σ) (τ2 := τ) (sn2 := sn) (hk2 := hk) (n2 := n) (ps2 := ps) (len2 := len) (tx2 := tx) ⟨i1, i2, i3, i4, i5, i6⟩ (h_mends_ok w1.1 (x_mends_ok w1 i1.1 i j hi hj rfl rfl hij hu1 hu2) (fun M1 q => CW.out w4 q.2)) (fun M2 sz2 h => q9_mends_ok h i1.1 i j hi hj rfl rfl hij hu1 hu2)
  · have h : isP a = false ∨ isP b = false := by
      by_cases ha : isP a = true
      · exact Or.inr ((Bool.not_eq_true _).mp fun hb => hP ⟨ha, hb⟩)
      · exact Or.inl ((Bool.not_eq_true _).mp ha)
    exact OPL.bad hW (c := 1) (by decide) (by decide) (h_mends_1 w1.1 (x_mends_1 w1 h)) (fun M2 sz2 hh => q9_mends_1 hh h)
