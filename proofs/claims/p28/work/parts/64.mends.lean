/-! mends -/
def pNat (σ : Nat → Int32) (st : Nat → Nat) (ups : Bool) : Nat → Nat
  | 0 => 1
  | k + 1 => pNat σ st ups k * (if ups then upS σ (st k) (st (k + 1)) else upS σ (st (k + 1)) (st k)).toNatClampNeg
theorem prW_nat {σ : Nat → Int32} (hI : I10 σ) {st : Nat → Nat} {ups : Bool} : ∀ n : Nat, (∀ k, k ≤ n → st k < 5) → stdW σ st n = true → prW σ st ups n = lN (pNat σ st ups n) ∧ 1 ≤ pNat σ st ups n ∧ pNat σ st ups n ≤ 99 ^ n
  | 0, _, _ => ⟨rfl, Nat.le_refl _, Nat.le_refl _⟩
  | n + 1, h, hs => by
    have hs2 : (stdW σ st n && stdP σ st n) = true := hs
    rw [Bool.and_eq_true] at hs2
    obtain ⟨i1, i2, i3⟩ := prW_nat hI (ups := ups) n (fun k hk => h k (by omega)) hs2.1
    have hh : hasS σ (st n) (st (n + 1)) = true := hs2.2
    have hu : ∃ u : Nat, 1 ≤ u ∧ u ≤ 99 ∧ (if ups then upS σ (st n) (st (n + 1)) else upS σ (st (n + 1)) (st n)) = nI u := by
      cases ups with
      | true => exact upS_nat hI (h n (by omega)) (h (n + 1) (by omega)) hh
      | false => exact upS_nat hI (h (n + 1) (by omega)) (h n (by omega)) (by rw [hasS_comm]; exact hh)
    obtain ⟨u, u1, u2, u3⟩ := hu
    have e : pNat σ st ups (n + 1) = pNat σ st ups n * u := by
      show pNat σ st ups n * _ = _
      rw [u3, nI_clamp (by omega)]
    rw [e]
    refine ⟨?_, Nat.mul_pos i2 u1, ?_⟩
    · show prW σ st ups n * _ = _
      rw [u3, i1, nI_64 (by omega), lN_mulN]
    · rw [Nat.pow_succ]; exact Nat.mul_le_mul i3 u2
theorem p99 {n k : Nat} (h : n ≤ 99 ^ k) (hk : k ≤ 4) : n < 2 ^ 60 := Nat.lt_of_le_of_lt (Nat.le_trans h (Nat.pow_le_pow_right (by decide) hk)) (by decide)
def mdI (σ : Nat → Int32) (a b : Nat) (w : Int32) (i : Nat) : Int32 := lowS (pNat σ (oSt a b i) true (wSz i - 1)) (pNat σ (oSt a b i) false (wSz i - 1)) w
def mdO (σ : Nat → Int32) (a b : Nat) (w : Int32) : Option Nat → Int32
  | none => -1
  | some i => mdI σ a b w i
set_option maxRecDepth 20000 in
theorem x_mends_ok {g : GE} {M : Mem} {sz : Nat} {σ τ : Nat → Int32} {hk : Bool} {n : Nat} {ps : Nat → Nat → Int32} {len : Nat} {tx : Nat → Int32} (hC : CW g M σ τ hk n ps len tx) {a b c : Int32} (hI : I10 σ) (i j : Nat) (hi : i < 5) (hj : j < 5) (ha : a = nI i) (hb : b = nI j) (hij : i ≠ j) (hc : ¬ c < 0) (hc2 : c ≤ 1) : Run g m_X8_mends [rf g 0, .int a, .int b, .int c] M sz 0 0 (RetP (some (.int (mdO σ i j c (fnd (stdI σ i j) 1 15)))) (fun M2 => CW g M2 σ τ hk n ps len tx ∧ FR M M2 0 96)) := by
  subst ha hb
  have L : ∀ m q : Nat, q + m = 16 → ∀ M9, CW g M9 σ τ hk n ps len tx → FR M M9 0 96 → V g m_X8_mends 14 [(4, .int (nI q)), (0, rf g 0), (1, .int (nI i)), (2, .int (nI j)), (3, .int c)] [] M9 sz 0 0 (RetP (some (.int (mdO σ i j c (fnd (stdI σ i j) q m)))) (fun M2 => CW g M2 σ τ hk n ps len tx ∧ FR M M2 0 96)) := by
    intro m
    induction m with
    | zero =>
      intro q hq M9 hD hF
      obtain rfl : q = 16 := by omega
      refine V_iload 0 dX8_mends_14 rfl ?_
      refine V_bipush (v := 16) dX8_mends_16 (by decide) ?_
      refine V_icmp_ge (tgt := 90) dX8_mends_18 (by decide) (fun c18 => ?_) (fun c18 => absurd (by decide) c18)
      refine V_iconst (v := -1) dX8_mends_90 rfl ?_
      refine V_iret (st := []) dX8_mends_91 rfl ?_
      exact ⟨rfl, hD, hF⟩
    | succ m ih =>
      intro q hq M9 hD hF
      have hlt : q < 16 := by omega
      have hsz := szM_in (midN q)
      have hsz1 : 2 ≤ wSz q := hsz.1
      have hsz2 : wSz q ≤ 5 := hsz.2
      obtain ⟨w0, z0, w1, w2⟩ := hD.2.2.2.2.2.2.2.1
      refine V_iload 0 dX8_mends_14 rfl ?_
      refine V_bipush (v := 16) dX8_mends_16 (by decide) ?_
      refine V_icmp_ge (tgt := 90) dX8_mends_18 (by decide) (fun c18 => absurd c18 (nI_ge (b := 16) hlt (by decide))) (fun c18 => ?_)
      refine V_aload_n 1 dX8_mends_21 rfl ?_
      refine G_X8_43 rfl hD.1 rfl dX8_mends_22 ?_
      refine V_iload_n 2 dX8_mends_25 rfl ?_
      refine V_iload_n 3 dX8_mends_26 rfl ?_
      refine V_pc (pc2 := 27) rfl ?_
      refine V_iload 0 dX8_mends_27 rfl ?_
      refine Cp_X8_302 w1 rfl ⟨Nat.le_of_ble_eq_true rfl, Nat.le_of_ble_eq_true rfl⟩ (r_choose w1 w2 i j q rfl rfl rfl hi hj hij hlt) rfl (Nat.le_of_ble_eq_true rfl) dX8_mends_29 rfl (fun _ q9 => ?_)
      obtain ⟨hQ9, hF9⟩ := q9
      have hD2 := hD.wy hQ9 hF9
      have hF2 := hF.trans (b := 0) (n := 96) (FR.wide hF9 (b2 := 0) (n2 := 96) (by omega)) (by omega)
      obtain ⟨⟨w9, k1, k2, k3⟩, k4⟩ := id hQ9
      obtain ⟨p9, z1, z2⟩ := hD2.2.1.1
      refine V_aload_n 1 dX8_mends_32 rfl ?_
      refine G_X8_43 rfl hD2.1 rfl dX8_mends_33 ?_
      refine V_aload_n 1 dX8_mends_36 rfl ?_
      refine G_X8_10 rfl hD2.1 rfl dX8_mends_37 ?_
      refine G_X8_89 rfl z1 rfl dX8_mends_40 ?_
      refine C_X8_306 k1 rfl ⟨Nat.le_of_ble_eq_true rfl, Nat.le_of_ble_eq_true rfl⟩ (r_wstands hQ9 hI hD2.2.1.2.2.2.1) rfl (Nat.le_of_ble_eq_true rfl) dX8_mends_43 rfl ?_
      refine V_pc (pc2 := 46) rfl ?_
      refine V_if_eq (tgt := 84) dX8_mends_46 (by decide) (fun c46 => ?_) (fun c46 => ?_)
      · refine V_iinc (v := _ + 1) (lv2 := [(4, .int _), (0, .ref _), (1, .int _), (2, .int _), (3, .int _)]) 0 dX8_mends_84 rfl rfl (Nat.le_of_ble_eq_true rfl) rfl ?_
        refine V_goto (tgt := 14) dX8_mends_87 (by decide) ?_
        refine V_lv (lv2 := [(4, .int _), (0, .ref _), (1, .int _), (2, .int _), (3, .int _)]) [0, 1, 2, 3, 4] rfl ?_
        rw [nI_1, fnd_f (show stdI σ i j q = false from bI_0 c46)]
        exact ih (q + 1) (by omega) _ hD2 hF2
      · refine V_aload_n 1 dX8_mends_49 rfl ?_
        refine G_X8_43 rfl hD2.1 rfl dX8_mends_50 ?_
        refine V_aload_n 1 dX8_mends_53 rfl ?_
        refine G_X8_10 rfl hD2.1 rfl dX8_mends_54 ?_
        refine G_X8_89 rfl z1 rfl dX8_mends_57 ?_
        refine V_iconst (v := 1) dX8_mends_60 rfl ?_
        refine C_X8_317 k1 rfl ⟨Nat.le_of_ble_eq_true rfl, Nat.le_of_ble_eq_true rfl⟩ (r_wproductT hQ9 hI hD2.2.1.2.2.2.1) rfl (Nat.le_of_ble_eq_true rfl) dX8_mends_61 rfl ?_
        refine V_pc (pc2 := 64) rfl ?_
        refine V_aload_n 1 dX8_mends_64 rfl ?_
        refine G_X8_43 rfl hD2.1 rfl dX8_mends_65 ?_
        refine V_aload_n 1 dX8_mends_68 rfl ?_
        refine G_X8_10 rfl hD2.1 rfl dX8_mends_69 ?_
        refine G_X8_89 rfl z1 rfl dX8_mends_72 ?_
        refine V_iconst (v := 0) dX8_mends_75 rfl ?_
        refine C_X8_317 k1 rfl ⟨Nat.le_of_ble_eq_true rfl, Nat.le_of_ble_eq_true rfl⟩ (r_wproductF hQ9 hI hD2.2.1.2.2.2.1) rfl (Nat.le_of_ble_eq_true rfl) dX8_mends_76 rfl ?_
        refine V_iload_n 4 dX8_mends_79 rfl ?_
        refine V_pc (pc2 := 80) rfl ?_
        have hstd : stdI σ i j q = true := bI_1 c46
        have hst5 : ∀ k, k ≤ wSz q - 1 → oSt i j q k < 5 := fun k hk => (ways_ok i j q k hi hj hij hlt (by omega)).1
        obtain ⟨e1, e2, e3⟩ := prW_nat hI (ups := true) (wSz q - 1) hst5 hstd
        obtain ⟨e4, e5, e6⟩ := prW_nat hI (ups := false) (wSz q - 1) hst5 hstd
        rw [e1, e4]
        refine C_X8_321 rfl ⟨Nat.le_of_ble_eq_true rfl, Nat.le_of_ble_eq_true rfl⟩ (r_lowestTerm _ _ _ e2 (p99 e3 (by omega)) e5 (p99 e6 (by omega))) rfl (Nat.le_of_ble_eq_true rfl) dX8_mends_80 rfl ?_
        refine V_iret (st := []) dX8_mends_83 rfl ?_
        rw [fnd_t hstd]
        exact ⟨rfl, hD2, hF2⟩
  refine Run.of rfl (by decide) (Nat.le_of_ble_eq_true rfl) ?_
  show V g m_X8_mends 0 _ [] _ _ _ _ _
  refine V_iload_n 1 dX8_mends_0 rfl ?_
  refine V_iload_n 2 dX8_mends_1 rfl ?_
  refine C_X8_85 rfl ⟨Nat.le_of_ble_eq_true rfl, Nat.le_of_ble_eq_true rfl⟩ (r_checkPair_ok (isP_nI hi) (isP_nI hj) (fun e => hij ((nI_eq (by omega) (by omega)).mp e))) rfl (Nat.le_of_ble_eq_true rfl) dX8_mends_2 rfl ?_
  refine V_iload_n 3 dX8_mends_5 rfl ?_
  refine V_iconst (v := 0) dX8_mends_6 rfl ?_
  refine V_iconst (v := 1) dX8_mends_7 rfl ?_
  refine C_X8_66 rfl ⟨Nat.le_of_ble_eq_true rfl, Nat.le_of_ble_eq_true rfl⟩ (r_checkRange_ok hc hc2) rfl (Nat.le_of_ble_eq_true rfl) dX8_mends_8 rfl ?_
  refine V_pc (pc2 := 11) rfl ?_
  refine V_iconst (v := 1) dX8_mends_11 rfl ?_
  refine V_istore (lv2 := [(4, .int _), (0, .ref _), (1, .int _), (2, .int _), (3, .int _)]) dX8_mends_12 (Nat.le_of_ble_eq_true rfl) rfl ?_
  refine V_lv (lv2 := [(4, .int _), (0, .ref _), (1, .int _), (2, .int _), (3, .int _)]) [0, 1, 2, 3, 4] rfl ?_
  exact L 15 1 (by omega) M hC (FR.refl _ _ _)
set_option maxRecDepth 20000 in
theorem x_mends_1 {g : GE} {M : Mem} {sz : Nat} {σ τ : Nat → Int32} {hk : Bool} {n : Nat} {ps : Nat → Nat → Int32} {len : Nat} {tx : Nat → Int32} (hC : CW g M σ τ hk n ps len tx) {a b c : Int32} (h : isP a = false ∨ isP b = false) : Run g m_X8_mends [rf g 0, .int a, .int b, .int c] M sz 1 6 (Thr (exN 0) M) := by
  refine Run.of rfl (by decide) (Nat.le_of_ble_eq_true rfl) ?_
  show V g m_X8_mends 0 _ [] _ _ _ _ _
  refine V_iload_n 1 dX8_mends_0 rfl ?_
  refine V_iload_n 2 dX8_mends_1 rfl ?_
  refine Ct_X8_85 rfl rfl ⟨Nat.le_of_ble_eq_true rfl, Nat.le_of_ble_eq_true rfl⟩ (r_checkPair_bad h) rfl (Nat.le_of_ble_eq_true rfl) dX8_mends_2 rfl ?_
  exact ⟨rfl, rfl⟩
set_option maxRecDepth 20000 in
theorem x_mends_2a {g : GE} {M : Mem} {sz : Nat} {σ τ : Nat → Int32} {hk : Bool} {n : Nat} {ps : Nat → Nat → Int32} {len : Nat} {tx : Nat → Int32} (hC : CW g M σ τ hk n ps len tx) {a b c : Int32} (ha : isP a = true) (hb : isP b = true) (h : a = b) : Run g m_X8_mends [rf g 0, .int a, .int b, .int c] M sz 1 6 (Thr (exN 1) M) := by
  refine Run.of rfl (by decide) (Nat.le_of_ble_eq_true rfl) ?_
  show V g m_X8_mends 0 _ [] _ _ _ _ _
  refine V_iload_n 1 dX8_mends_0 rfl ?_
  refine V_iload_n 2 dX8_mends_1 rfl ?_
  refine Ct_X8_85 rfl rfl ⟨Nat.le_of_ble_eq_true rfl, Nat.le_of_ble_eq_true rfl⟩ (r_checkPair_same ha hb h) rfl (Nat.le_of_ble_eq_true rfl) dX8_mends_2 rfl ?_
  exact ⟨rfl, rfl⟩
set_option maxRecDepth 20000 in
theorem x_mends_2b {g : GE} {M : Mem} {sz : Nat} {σ τ : Nat → Int32} {hk : Bool} {n : Nat} {ps : Nat → Nat → Int32} {len : Nat} {tx : Nat → Int32} (hC : CW g M σ τ hk n ps len tx) {a b c : Int32} (ha : isP a = true) (hb : isP b = true) (h : a ≠ b) (hc : c < 0 ∨ ¬ c ≤ 1) : Run g m_X8_mends [rf g 0, .int a, .int b, .int c] M sz 1 6 (Thr (exN 1) M) := by
  refine Run.of rfl (by decide) (Nat.le_of_ble_eq_true rfl) ?_
  show V g m_X8_mends 0 _ [] _ _ _ _ _
  refine V_iload_n 1 dX8_mends_0 rfl ?_
  refine V_iload_n 2 dX8_mends_1 rfl ?_
  refine C_X8_85 rfl ⟨Nat.le_of_ble_eq_true rfl, Nat.le_of_ble_eq_true rfl⟩ (r_checkPair_ok ha hb h) rfl (Nat.le_of_ble_eq_true rfl) dX8_mends_2 rfl ?_
  refine V_iload_n 3 dX8_mends_5 rfl ?_
  refine V_iconst (v := 0) dX8_mends_6 rfl ?_
  refine V_iconst (v := 1) dX8_mends_7 rfl ?_
  refine Ct_X8_66 rfl rfl ⟨Nat.le_of_ble_eq_true rfl, Nat.le_of_ble_eq_true rfl⟩ (r_checkRange_bad hc) rfl (Nat.le_of_ble_eq_true rfl) dX8_mends_8 rfl ?_
  exact ⟨rfl, rfl⟩
