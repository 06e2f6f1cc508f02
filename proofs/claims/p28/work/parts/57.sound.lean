/-! measures, the class -/
theorem V_extJ {g : GE} {mt : MT} {pc : Nat} {lv : List (Nat × Value)} {st : List Value} {M : Mem} {sz kc ks : Nat} {Q : Ou → Mem → Prop} {a n : Nat} {f f2 : Nat → Int64} (hM : M a = some (eJ g n f)) (hf : ∀ k, k < n → f k = f2 k) (kk : V g mt pc lv st (mup M a (eJ g n f2)) sz kc ks Q) : V g mt pc lv st M sz kc ks Q := by
  intro p e R s m args below meth c H locs cells slots mc ms ls a1 a2 a3 a4 a5 a6 a7 a8 a9
  obtain ⟨ws, hP, hD, hM2⟩ := id a2
  obtain ⟨q, hq⟩ := wo_at hM2 hM
  refine kk p e R s m args below meth c H locs cells slots mc ms ls a1 ⟨_, ?_, hD.set hq, wo_set hD hM2 hq⟩ a3 a4 a5 a6 a7 a8 a9
  refine hP.set hD hq ?_ (fun _ _ => rfl)
  have h1 : H[gb g + a]? = some (vp_cell (gJ g) (n, .inr (.inl f))) := hP q _ hq
  show H[gb g + a]? = some (vp_cell (gJ g) (n, .inr (.inl f2)))
  rw [h1]
  show some (arrV (gJ g) n (fun j => .long (f j))) = some (arrV (gJ g) n (fun j => .long (f2 j)))
  unfold arrV
  congr 2
  congr 1
  funext j
  exact congrArg Value.long (hf j.val j.isLt)
def zT (f : Nat → Int64) (i : Nat) : Nat → Int64 := fun k => if k < i then 0 else f k
theorem zT_0 (f : Nat → Int64) : zT f 0 = f := by funext k; unfold zT; rw [if_neg (by omega)]
theorem zT_s (f : Nat → Int64) (i : Nat) : vp_updL (zT f i) i 0 = zT f (i + 1) := by
  funext k
  show (if k = i then 0 else zT f i k) = _
  by_cases h : k = i
  · subst h; rw [if_pos rfl]; unfold zT; rw [if_pos (by omega)]
  · rw [if_neg h]; unfold zT
    by_cases h2 : k < i
    · rw [if_pos h2, if_pos (by omega)]
    · rw [if_neg h2, if_neg (by omega)]
theorem msM_self {g : GE} {M : Mem} {p q : Nat} {a b : Nat → Int64} (h1 : M p = some (eJ g 5 a)) (h2 : M q = some (eJ g 5 b)) : msM g M p q (a, b) = M := by
  unfold msM
  rw [mup_self h1, mup_self h2]
/-- rows of zeros -/
theorem V_zero {g : GE} {mt : MT} {pc : Nat} {lv : List (Nat × Value)} {st : List Value} {M : Mem} {sz kc ks : Nat} {Q : Ou → Mem → Prop} {p q : Nat} (h : p ≠ q) {a b : Nat → Int64} (kk : V g mt pc lv st (msM g M p q (fun _ => 0, fun _ => 0)) sz kc ks Q) : V g mt pc lv st (msM g M p q (zT a 5, zT b 5)) sz kc ks Q := by
  refine V_extJ (f2 := fun _ => 0) (msM_p h) (fun k hk => if_pos hk) ?_
  refine V_extJ (f2 := fun _ => 0) ((mup_ne _ _ (Ne.symm h)).trans msM_q) (fun k hk => if_pos hk) ?_
  rw [msM_put h]
  exact kk
theorem mea_t {σ : Nat → Int32} {p : Nat} (h : 0 < (meaS σ p).1 p) : meaS σ (p + 1) = meaS σ p := if_pos h
theorem mea_f {σ : Nat → Int32} {p : Nat} (h : ¬ 0 < (meaS σ p).1 p) : meaS σ (p + 1) = rep σ 4 (one (meaS σ p) p) := if_neg h
def finS (σ : Nat → Int32) (s : ST) (a b : Nat) : Bool := !hasS σ a b || decide (s.1 a * (upS σ a b).toInt64 * s.2 b = s.1 b * (upS σ b a).toInt64 * s.2 a)
def rowS (σ : Nat → Int32) (s : ST) (a b : Nat) : Bool := allN (fun c => decide (c ≤ a) || finS σ s a c) b
def allS (σ : Nat → Int32) (s : ST) (a : Nat) : Bool := allN (fun c => rowS σ s c 5) a
theorem allN_mono {P : Nat → Bool} {n : Nat} (h : P n = false) : ∀ m, n < m → allN P m = false := by
  intro m
  induction m with
  | zero => intro e; omega
  | succ m ih =>
    intro e
    show (allN P m && P m) = false
    by_cases h2 : n = m
    · subst h2; rw [h, Bool.and_false]
    · rw [ih (by omega)]; rfl
theorem row_0 (σ : Nat → Int32) (s : ST) (a : Nat) : rowS σ s a (a + 1) = true := by
  unfold rowS
  have h : ∀ m, m ≤ a + 1 → allN (fun c => decide (c ≤ a) || finS σ s a c) m = true := by
    intro m
    induction m with
    | zero => intro _; rfl
    | succ m ih =>
      intro hm
      show (allN _ m && (decide (m ≤ a) || finS σ s a m)) = true
      rw [ih (by omega), decide_eq_true (show m ≤ a by omega)]; rfl
  exact h _ (Nat.le_refl _)
theorem row_s {σ : Nat → Int32} {s : ST} {a b : Nat} (h : a < b) : rowS σ s a (b + 1) = (rowS σ s a b && finS σ s a b) := by
  show (allN _ b && (decide (b ≤ a) || finS σ s a b)) = _
  rw [decide_eq_false (show ¬ b ≤ a by omega)]; rfl
set_option maxRecDepth 20000 in
theorem r_measure {g : GE} {M : Mem} {sz : Nat} {σ : Nat → Int32} (hI : I10 σ) (hT : TS g M (1 + 3) σ) (h2 : M 92 = some (MeO g)) {a b : Nat → Int64} (h3 : M 93 = some (eJ g 5 a)) (h4 : M 94 = some (eJ g 5 b)) : Run g m_X2_measure [rf g 92, rf g (1 + 3)] M sz 0 0 (Ret none (msM g M 93 94 (meaS σ 5))) := by
  have L2 : ∀ e i : Nat, i + e = 5 → V g m_X2_measure 33 [(2, .int (nI i)), (0, rf g 92), (1, rf g (1 + 3))] [] (msM g M 93 94 (meaS σ i)) sz 0 0 (Ret none (msM g M 93 94 (meaS σ 5))) := by
    intro e
    induction e with
    | zero =>
      intro i hi
      obtain rfl : i = 5 := by omega
      refine V_iload_n 0 dX2_measure_33 rfl ?_
      refine V_iconst (v := 5) dX2_measure_34 rfl ?_
      refine V_icmp_ge (tgt := 75) dX2_measure_35 (by decide) (fun c35 => ?_) (fun c35 => absurd (by decide) c35)
      refine V_ret (st := []) dX2_measure_75 rfl ?_
      exact ⟨rfl, rfl⟩
    | succ e ih =>
      intro i hi
      have hlt : i < 5 := by omega
      refine V_iload_n 0 dX2_measure_33 rfl ?_
      refine V_iconst (v := 5) dX2_measure_34 rfl ?_
      refine V_icmp_ge (tgt := 75) dX2_measure_35 (by decide) (fun c35 => absurd c35 (nI_ge (b := 5) hlt (by decide))) (fun c35 => ?_)
      refine V_aload_n 1 dX2_measure_38 rfl ?_
      refine V_iload_n 0 dX2_measure_39 rfl ?_
      refine C_X2_44 (show _ = some (MeO g) from (msM_o (by decide) (by decide)).trans h2) rfl ⟨Nat.le_of_ble_eq_true rfl, Nat.le_of_ble_eq_true rfl⟩ (r_isMeas ((msM_o (by decide) (by decide)).trans h2) (msM_p (by decide)) i rfl hlt) rfl (Nat.le_of_ble_eq_true rfl) dX2_measure_40 rfl ?_
      refine V_if_ne (tgt := 69) dX2_measure_43 (by decide) (fun c43 => ?_) (fun c43 => ?_)
      · refine V_iinc (v := _ + 1) (lv2 := [(2, .int _), (0, .ref _), (1, .ref _)]) 0 dX2_measure_69 rfl rfl (Nat.le_of_ble_eq_true rfl) rfl ?_
        refine V_goto (tgt := 33) dX2_measure_72 (by decide) ?_
        refine V_lv (lv2 := [(2, .int _), (0, .ref _), (1, .ref _)]) [0, 1, 2] rfl ?_
        rw [nI_1]
        have i9 := ih (i + 1) (by omega)
        rw [mea_t (of_decide_eq_true (bI_1 c43))] at i9
        exact i9
      · refine V_aload_n 1 dX2_measure_46 rfl ?_
        refine G_X2_9 rfl (show _ = some (MeO g) from (msM_o (by decide) (by decide)).trans h2) rfl dX2_measure_47 ?_
        refine V_iload_n 0 dX2_measure_50 rfl ?_
        refine V_lconst (v := 1) dX2_measure_51 rfl ?_
        refine C_X2_40 rfl ⟨Nat.le_of_ble_eq_true rfl, Nat.le_of_ble_eq_true rfl⟩ (r_putLong (msM_p (by decide)) i rfl hlt (by decide)) rfl (Nat.le_of_ble_eq_true rfl) dX2_measure_52 rfl ?_
        refine V_aload_n 1 dX2_measure_55 rfl ?_
        refine G_X2_15 rfl (show _ = some (MeO g) from (mup_ne _ _ (by decide)).trans ((msM_o (by decide) (by decide)).trans h2)) rfl dX2_measure_56 ?_
        refine V_pc (pc2 := 59) rfl ?_
        refine V_iload_n 0 dX2_measure_59 rfl ?_
        refine V_lconst (v := 1) dX2_measure_60 rfl ?_
        refine C_X2_40 rfl ⟨Nat.le_of_ble_eq_true rfl, Nat.le_of_ble_eq_true rfl⟩ (r_putLong ((mup_ne _ _ (by decide)).trans msM_q) i rfl hlt (by decide)) rfl (Nat.le_of_ble_eq_true rfl) dX2_measure_61 rfl ?_
        refine V_aload_n 1 dX2_measure_64 rfl ?_
        refine V_aload_n 2 dX2_measure_65 rfl ?_
        rw [msM_put (by decide)]
        refine C_X2_48 (show _ = some (MeO g) from (msM_o (by decide) (by decide)).trans h2) rfl ⟨Nat.le_of_ble_eq_true rfl, Nat.le_of_ble_eq_true rfl⟩ (r_spread hI hT h2 (one (meaS σ i) i)) rfl (Nat.le_of_ble_eq_true rfl) dX2_measure_66 rfl ?_
        refine V_iinc (v := _ + 1) (lv2 := [(2, .int _), (0, .ref _), (1, .ref _)]) 0 dX2_measure_69 rfl rfl (Nat.le_of_ble_eq_true rfl) rfl ?_
        refine V_goto (tgt := 33) dX2_measure_72 (by decide) ?_
        refine V_lv (lv2 := [(2, .int _), (0, .ref _), (1, .ref _)]) [0, 1, 2] rfl ?_
        rw [nI_1]
        have i9 := ih (i + 1) (by omega)
        rw [mea_f (of_decide_eq_false (bI_0 c43))] at i9
        exact i9
  have L1 : ∀ e i : Nat, i + e = 5 → V g m_X2_measure 2 [(2, .int (nI i)), (0, rf g 92), (1, rf g (1 + 3))] [] (msM g M 93 94 (zT a i, zT b i)) sz 0 0 (Ret none (msM g M 93 94 (meaS σ 5))) := by
    intro e
    induction e with
    | zero =>
      intro i hi
      obtain rfl : i = 5 := by omega
      refine V_iload_n 0 dX2_measure_2 rfl ?_
      refine V_iconst (v := 5) dX2_measure_3 rfl ?_
      refine V_icmp_ge (tgt := 31) dX2_measure_4 (by decide) (fun c4 => ?_) (fun c4 => absurd (by decide) c4)
      refine V_zero (by decide) ?_
      refine V_iconst (v := 0) dX2_measure_31 rfl ?_
      refine V_istore_n (lv2 := [(2, .int _), (0, .ref _), (1, .ref _)]) dX2_measure_32 (Nat.le_of_ble_eq_true rfl) rfl ?_
      refine V_lv (lv2 := [(2, .int _), (0, .ref _), (1, .ref _)]) [0, 1, 2] rfl ?_
      exact L2 5 0 rfl
    | succ e ih =>
      intro i hi
      have hlt : i < 5 := by omega
      refine V_iload_n 0 dX2_measure_2 rfl ?_
      refine V_iconst (v := 5) dX2_measure_3 rfl ?_
      refine V_icmp_ge (tgt := 31) dX2_measure_4 (by decide) (fun c4 => absurd c4 (nI_ge (b := 5) hlt (by decide))) (fun c4 => ?_)
      refine V_aload_n 1 dX2_measure_7 rfl ?_
      refine G_X2_9 rfl (show _ = some (MeO g) from (msM_o (by decide) (by decide)).trans h2) rfl dX2_measure_8 ?_
      refine V_iload_n 0 dX2_measure_11 rfl ?_
      refine V_lconst (v := 0) dX2_measure_12 rfl ?_
      refine V_pc (pc2 := 13) rfl ?_
      refine C_X2_40 rfl ⟨Nat.le_of_ble_eq_true rfl, Nat.le_of_ble_eq_true rfl⟩ (r_putLong (msM_p (by decide)) i rfl hlt (by decide)) rfl (Nat.le_of_ble_eq_true rfl) dX2_measure_13 rfl ?_
      refine V_aload_n 1 dX2_measure_16 rfl ?_
      refine G_X2_15 rfl (show _ = some (MeO g) from (mup_ne _ _ (by decide)).trans ((msM_o (by decide) (by decide)).trans h2)) rfl dX2_measure_17 ?_
      refine V_iload_n 0 dX2_measure_20 rfl ?_
      refine V_lconst (v := 0) dX2_measure_21 rfl ?_
      refine C_X2_40 rfl ⟨Nat.le_of_ble_eq_true rfl, Nat.le_of_ble_eq_true rfl⟩ (r_putLong ((mup_ne _ _ (by decide)).trans msM_q) i rfl hlt (by decide)) rfl (Nat.le_of_ble_eq_true rfl) dX2_measure_22 rfl ?_
      refine V_iinc (v := _ + 1) (lv2 := [(2, .int _), (0, .ref _), (1, .ref _)]) 0 dX2_measure_25 rfl rfl (Nat.le_of_ble_eq_true rfl) rfl ?_
      refine V_goto (tgt := 2) dX2_measure_28 (by decide) ?_
      refine V_lv (lv2 := [(2, .int _), (0, .ref _), (1, .ref _)]) [0, 1, 2] rfl ?_
      rw [nI_1, msM_put (by decide), zT_s, zT_s]
      exact ih (i + 1) (by omega)
  refine Run.of rfl (by decide) (Nat.le_of_ble_eq_true rfl) ?_
  show V g m_X2_measure 0 _ [] _ _ _ _ _
  refine V_iconst (v := 0) dX2_measure_0 rfl ?_
  refine V_istore_n (lv2 := [(2, .int _), (0, .ref _), (1, .ref _)]) dX2_measure_1 (Nat.le_of_ble_eq_true rfl) rfl ?_
  refine V_lv (lv2 := [(2, .int _), (0, .ref _), (1, .ref _)]) [0, 1, 2] rfl ?_
  have e9 := L1 5 0 rfl
  rw [zT_0, zT_0, msM_self h3 h4] at e9
  exact e9
set_option maxRecDepth 20000 in
theorem r_agrees {g : GE} {M : Mem} {sz : Nat} {σ : Nat → Int32} (hT : TS g M (1 + 3) σ) (h2 : M 92 = some (MeO g)) {s : ST} (h3 : M 93 = some (eJ g 5 s.1)) (h4 : M 94 = some (eJ g 5 s.2)) {x y : Int32} (a b : Nat) (hx : x = nI a) (hy : y = nI b) (ha : a < 5) (hb : b < 5) (hab : a ≠ b) : Run g m_X2_agrees [rf g 92, rf g (1 + 3), .int x, .int y] M sz 0 0 (Ret (some (.int (bI (decide (s.1 a * (upS σ a b).toInt64 * s.2 b = s.1 b * (upS σ b a).toInt64 * s.2 a))))) M) := by
  subst hx hy
  refine Run.of rfl (by decide) (Nat.le_of_ble_eq_true rfl) ?_
  show V g m_X2_agrees 0 _ [] _ _ _ _ _
  refine V_aload_n 0 dX2_agrees_0 rfl ?_
  refine G_X2_9 rfl h2 rfl dX2_agrees_1 ?_
  refine V_iload_n 2 dX2_agrees_4 rfl ?_
  refine C_X2_32 rfl ⟨Nat.le_of_ble_eq_true rfl, Nat.le_of_ble_eq_true rfl⟩ (r_longAt h3 a rfl ha (by decide)) rfl (Nat.le_of_ble_eq_true rfl) dX2_agrees_5 rfl ?_
  refine V_aload_n 1 dX2_agrees_8 rfl ?_
  refine V_iload_n 2 dX2_agrees_9 rfl ?_
  refine V_iload_n 3 dX2_agrees_10 rfl ?_
  refine V_pc (pc2 := 11) rfl ?_
  refine C_X2_36 (show _ = some (eO 4 [rf g (1 + 3 + 1), .int _]) from hT.choose_spec.choose_spec.1.1) rfl ⟨Nat.le_of_ble_eq_true rfl, Nat.le_of_ble_eq_true rfl⟩ (hT.up a b rfl rfl ha hb hab) rfl (Nat.le_of_ble_eq_true rfl) dX2_agrees_11 rfl ?_
  refine V_i2l dX2_agrees_14 ?_
  refine V_lmul dX2_agrees_15 ?_
  refine V_aload_n 0 dX2_agrees_16 rfl ?_
  refine G_X2_15 rfl h2 rfl dX2_agrees_17 ?_
  refine V_iload_n 3 dX2_agrees_20 rfl ?_
  refine C_X2_32 rfl ⟨Nat.le_of_ble_eq_true rfl, Nat.le_of_ble_eq_true rfl⟩ (r_longAt h4 b rfl hb (by decide)) rfl (Nat.le_of_ble_eq_true rfl) dX2_agrees_21 rfl ?_
  refine V_lmul dX2_agrees_24 ?_
  refine V_pc (pc2 := 25) rfl ?_
  refine V_aload_n 0 dX2_agrees_25 rfl ?_
  refine G_X2_9 rfl h2 rfl dX2_agrees_26 ?_
  refine V_iload_n 3 dX2_agrees_29 rfl ?_
  refine C_X2_32 rfl ⟨Nat.le_of_ble_eq_true rfl, Nat.le_of_ble_eq_true rfl⟩ (r_longAt h3 b rfl hb (by decide)) rfl (Nat.le_of_ble_eq_true rfl) dX2_agrees_30 rfl ?_
  refine V_aload_n 1 dX2_agrees_33 rfl ?_
  refine V_iload_n 3 dX2_agrees_34 rfl ?_
  refine V_iload_n 2 dX2_agrees_35 rfl ?_
  refine C_X2_36 (show _ = some (eO 4 [rf g (1 + 3 + 1), .int _]) from hT.choose_spec.choose_spec.1.1) rfl ⟨Nat.le_of_ble_eq_true rfl, Nat.le_of_ble_eq_true rfl⟩ (hT.up b a rfl rfl hb ha (Ne.symm hab)) rfl (Nat.le_of_ble_eq_true rfl) dX2_agrees_36 rfl ?_
  refine V_pc (pc2 := 39) rfl ?_
  refine V_i2l dX2_agrees_39 ?_
  refine V_lmul dX2_agrees_40 ?_
  refine V_aload_n 0 dX2_agrees_41 rfl ?_
  refine G_X2_15 rfl h2 rfl dX2_agrees_42 ?_
  refine V_iload_n 2 dX2_agrees_45 rfl ?_
  refine C_X2_32 rfl ⟨Nat.le_of_ble_eq_true rfl, Nat.le_of_ble_eq_true rfl⟩ (r_longAt h4 a rfl ha (by decide)) rfl (Nat.le_of_ble_eq_true rfl) dX2_agrees_46 rfl ?_
  refine V_lmul dX2_agrees_49 ?_
  refine V_lcmp dX2_agrees_50 ?_
  refine V_pc (pc2 := 51) rfl ?_
  refine V_if_ne (tgt := 58) dX2_agrees_51 (by decide) (fun c51 => ?_) (fun c51 => ?_)
  · refine V_iconst (v := 0) dX2_agrees_58 rfl ?_
    refine V_zret (st := []) dX2_agrees_59 rfl (by simp) ?_
    exact ⟨by rw [decide_eq_false (fun e => c51 (lgc_eq.mpr e))]; rfl, rfl⟩
  · refine V_iconst (v := 1) dX2_agrees_54 rfl ?_
    refine V_goto (tgt := 59) dX2_agrees_55 (by decide) ?_
    refine V_zret (st := []) dX2_agrees_59 rfl (by simp) ?_
    exact ⟨by rw [decide_eq_true (lgc_eq.mp c51)]; rfl, rfl⟩
set_option maxRecDepth 20000 in
theorem r_soundM {g : GE} {M : Mem} {sz : Nat} {σ : Nat → Int32} (hI : I10 σ) (hT : TS g M (1 + 3) σ) (h2 : M 92 = some (MeO g)) {a b : Nat → Int64} (h3 : M 93 = some (eJ g 5 a)) (h4 : M 94 = some (eJ g 5 b)) : Run g m_X2_areSound [rf g 92, rf g (1 + 3)] M sz 0 0 (Ret (some (.int (bI (allS σ (meaS σ 5) 5)))) (msM g M 93 94 (meaS σ 5))) := by
  have L1 : ∀ e i : Nat, i + e = 5 → allS σ (meaS σ 5) i = true → V g m_X2_areSound 7 [(2, .int (nI i)), (0, rf g 92), (1, rf g (1 + 3))] [] (msM g M 93 94 (meaS σ 5)) sz 0 0 (Ret (some (.int (bI (allS σ (meaS σ 5) 5)))) (msM g M 93 94 (meaS σ 5))) := by
    intro e
    induction e with
    | zero =>
      intro i hi hal
      obtain rfl : i = 5 := by omega
      refine V_iload_n 0 dX2_areSound_7 rfl ?_
      refine V_iconst (v := 5) dX2_areSound_8 rfl ?_
      refine V_icmp_ge (tgt := 54) dX2_areSound_9 (by decide) (fun c9 => ?_) (fun c9 => absurd (by decide) c9)
      refine V_iconst (v := 1) dX2_areSound_54 rfl ?_
      refine V_zret (st := []) dX2_areSound_55 rfl (by simp) ?_
      rw [hal]; exact ⟨rfl, rfl⟩
    | succ e ih =>
      intro i hi hal
      have hlt : i < 5 := by omega
      refine V_iload_n 0 dX2_areSound_7 rfl ?_
      refine V_iconst (v := 5) dX2_areSound_8 rfl ?_
      refine V_icmp_ge (tgt := 54) dX2_areSound_9 (by decide) (fun c9 => absurd c9 (nI_ge (b := 5) hlt (by decide))) (fun c9 => ?_)
      refine V_iload_n 0 dX2_areSound_12 rfl ?_
      refine V_iconst (v := 1) dX2_areSound_13 rfl ?_
      refine V_iadd dX2_areSound_14 ?_
      refine V_istore_n (lv2 := [(3, .int _), (2, .int _), (0, .ref _), (1, .ref _)]) dX2_areSound_15 (Nat.le_of_ble_eq_true rfl) rfl ?_
      refine V_lv (lv2 := [(3, .int _), (2, .int _), (0, .ref _), (1, .ref _)]) [0, 1, 2, 3] rfl ?_
      rw [nI_1]
      have L2 : ∀ e2 j : Nat, j + e2 = 5 → i < j → rowS σ (meaS σ 5) i j = true → V g m_X2_areSound 16 [(3, .int (nI j)), (2, .int (nI i)), (0, rf g 92), (1, rf g (1 + 3))] [] (msM g M 93 94 (meaS σ 5)) sz 0 0 (Ret (some (.int (bI (allS σ (meaS σ 5) 5)))) (msM g M 93 94 (meaS σ 5))) := by
        intro e2
        induction e2 with
        | zero =>
          intro j hj hij hr
          obtain rfl : j = 5 := by omega
          refine V_iload_n 0 dX2_areSound_16 rfl ?_
          refine V_iconst (v := 5) dX2_areSound_17 rfl ?_
          refine V_icmp_ge (tgt := 48) dX2_areSound_18 (by decide) (fun c18 => ?_) (fun c18 => absurd (by decide) c18)
          refine V_iinc (v := _ + 1) (lv2 := [(2, .int _), (3, .int _), (0, .ref _), (1, .ref _)]) 1 dX2_areSound_48 rfl rfl (Nat.le_of_ble_eq_true rfl) rfl ?_
          refine V_goto (tgt := 7) dX2_areSound_51 (by decide) ?_
          refine V_lv (lv2 := [(2, .int _), (0, .ref _), (1, .ref _)]) [0, 2, 3] rfl ?_
          rw [nI_1]
          exact ih (i + 1) (by omega) (by show (allN _ i && rowS σ (meaS σ 5) i 5) = true; rw [hr, Bool.and_true]; exact hal)
        | succ e2 ih2 =>
          intro j hj hij hr
          have hlt2 : j < 5 := by omega
          refine V_iload_n 0 dX2_areSound_16 rfl ?_
          refine V_iconst (v := 5) dX2_areSound_17 rfl ?_
          refine V_icmp_ge (tgt := 48) dX2_areSound_18 (by decide) (fun c18 => absurd c18 (nI_ge (b := 5) hlt2 (by decide))) (fun c18 => ?_)
          refine V_aload_n 3 dX2_areSound_21 rfl ?_
          refine V_iload_n 1 dX2_areSound_22 rfl ?_
          refine V_iload_n 0 dX2_areSound_23 rfl ?_
          refine C_X2_22 (show _ = some (eO 4 [rf g (1 + 3 + 1), .int _]) from (hT.fr (M1 := msM g M 93 94 (meaS σ 5)) (fun k k1 k2 => msM_o (by omega) (by omega))).choose_spec.choose_spec.1.1) rfl ⟨Nat.le_of_ble_eq_true rfl, Nat.le_of_ble_eq_true rfl⟩ ((hT.fr (M1 := msM g M 93 94 (meaS σ 5)) (fun k k1 k2 => msM_o (by omega) (by omega))).has hI i j rfl rfl hlt hlt2) rfl (Nat.le_of_ble_eq_true rfl) dX2_areSound_24 rfl ?_
          refine V_pc (pc2 := 27) rfl ?_
          refine V_if_eq (tgt := 42) dX2_areSound_27 (by decide) (fun c27 => ?_) (fun c27 => ?_)
          · refine V_iinc (v := _ + 1) (lv2 := [(3, .int _), (2, .int _), (0, .ref _), (1, .ref _)]) 0 dX2_areSound_42 rfl rfl (Nat.le_of_ble_eq_true rfl) rfl ?_
            refine V_goto (tgt := 16) dX2_areSound_45 (by decide) ?_
            refine V_lv (lv2 := [(3, .int _), (2, .int _), (0, .ref _), (1, .ref _)]) [0, 1, 2, 3] rfl ?_
            rw [nI_1]
            exact ih2 (j + 1) (by omega) (by omega) (by rw [row_s (by omega), hr, Bool.true_and]; unfold finS; rw [bI_0 c27]; simp)
          · refine V_aload_n 2 dX2_areSound_30 rfl ?_
            refine V_aload_n 3 dX2_areSound_31 rfl ?_
            refine V_iload_n 1 dX2_areSound_32 rfl ?_
            refine V_iload_n 0 dX2_areSound_33 rfl ?_
            refine C_X2_28 (show _ = some (MeO g) from (msM_o (by decide) (by decide)).trans h2) rfl ⟨Nat.le_of_ble_eq_true rfl, Nat.le_of_ble_eq_true rfl⟩ (r_agrees (hT.fr (M1 := msM g M 93 94 (meaS σ 5)) (fun k k1 k2 => msM_o (by omega) (by omega))) ((msM_o (by decide) (by decide)).trans h2) (msM_p (by decide)) msM_q i j rfl rfl hlt hlt2 (by omega)) rfl (Nat.le_of_ble_eq_true rfl) dX2_areSound_34 rfl ?_
            refine V_if_ne (tgt := 42) dX2_areSound_37 (by decide) (fun c37 => ?_) (fun c37 => ?_)
            · refine V_iinc (v := _ + 1) (lv2 := [(3, .int _), (2, .int _), (0, .ref _), (1, .ref _)]) 0 dX2_areSound_42 rfl rfl (Nat.le_of_ble_eq_true rfl) rfl ?_
              refine V_goto (tgt := 16) dX2_areSound_45 (by decide) ?_
              refine V_lv (lv2 := [(3, .int _), (2, .int _), (0, .ref _), (1, .ref _)]) [0, 1, 2, 3] rfl ?_
              rw [nI_1]
              exact ih2 (j + 1) (by omega) (by omega) (by rw [row_s (by omega), hr, Bool.true_and]; unfold finS; rw [bI_1 c37]; simp)
            · refine V_iconst (v := 0) dX2_areSound_40 rfl ?_
              refine V_zret (st := []) dX2_areSound_41 rfl (by simp) ?_
              have f0 : finS σ (meaS σ 5) i j = false := by unfold finS; rw [bI_1 c27, bI_0 c37]; rfl
              have f1 : rowS σ (meaS σ 5) i 5 = false := allN_mono (n := j) (by rw [f0, decide_eq_false (show ¬ j ≤ i by omega)]; rfl) 5 hlt2
              have f2 : allS σ (meaS σ 5) 5 = false := allN_mono (n := i) f1 5 hlt
              rw [f2]
              exact ⟨rfl, rfl⟩
      exact L2 (4 - i) (i + 1) (by omega) (by omega) (row_0 _ _ _)
  refine Run.of rfl (by decide) (Nat.le_of_ble_eq_true rfl) ?_
  show V g m_X2_areSound 0 _ [] _ _ _ _ _
  refine V_aload_n 0 dX2_areSound_0 rfl ?_
  refine V_aload_n 1 dX2_areSound_1 rfl ?_
  refine C_X2_18 h2 rfl ⟨Nat.le_of_ble_eq_true rfl, Nat.le_of_ble_eq_true rfl⟩ (r_measure hI hT h2 h3 h4) rfl (Nat.le_of_ble_eq_true rfl) dX2_areSound_2 rfl ?_
  refine V_iconst (v := 0) dX2_areSound_5 rfl ?_
  refine V_istore_n (lv2 := [(2, .int _), (0, .ref _), (1, .ref _)]) dX2_areSound_6 (Nat.le_of_ble_eq_true rfl) rfl ?_
  refine V_lv (lv2 := [(2, .int _), (0, .ref _), (1, .ref _)]) [0, 1, 2] rfl ?_
  exact L1 5 0 rfl rfl
