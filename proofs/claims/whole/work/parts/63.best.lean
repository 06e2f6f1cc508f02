/-! bestWay -/
def costW (σ : Nat → Int32) (a b : Nat) (x : Int64) (i : Nat) : Int64 := (rofS σ (oSt a b i) x (wSz i - 1)).2
def stdI (σ : Nat → Int32) (a b i : Nat) : Bool := stdW σ (oSt a b i) (wSz i - 1)
abbrev BS : Type := Option (Nat × Int64)
def bett : BS → Int64 → Bool
  | none, _ => true
  | some (_, l), x => decide (x < l)
def bwStep (σ : Nat → Int32) (a b : Nat) (x : Int64) (K i : Nat) (s : BS) : BS := if (decide (wSz i ≤ K + 1) && stdI σ a b i && bett s (costW σ a b x i)) = true then some (wC a b i, costW σ a b x i) else s
def bwS (σ : Nat → Int32) (a b : Nat) (x : Int64) (K : Nat) : Nat → BS
  | 0 => none
  | i + 1 => bwStep σ a b x K i (bwS σ a b x K i)
theorem bw_no {σ : Nat → Int32} {a b : Nat} {x : Int64} {K i : Nat} {s : BS} (h : bwS σ a b x K i = s) (h2 : (decide (wSz i ≤ K + 1) && stdI σ a b i && bett s (costW σ a b x i)) = false) : bwS σ a b x K (i + 1) = s := by
  show bwStep σ a b x K i (bwS σ a b x K i) = s
  unfold bwStep
  rw [h, h2]
  exact if_neg (by decide)
theorem bw_yes {σ : Nat → Int32} {a b : Nat} {x : Int64} {K i : Nat} {s : BS} (h : bwS σ a b x K i = s) (h2 : (decide (wSz i ≤ K + 1) && stdI σ a b i && bett s (costW σ a b x i)) = true) : bwS σ a b x K (i + 1) = some (wC a b i, costW σ a b x i) := by
  show bwStep σ a b x K i (bwS σ a b x K i) = _
  unfold bwStep
  rw [h, h2]
  exact if_pos rfl
def fR : BS → Int32
  | none => -1
  | some (c, _) => nI c
def fC : BS → Int32
  | none => -1
  | some (c, _) => nI (c + 100000)
def lR : BS → Int64
  | none => 0
  | some (_, l) => l
def bsOK : BS → Prop
  | none => True
  | some (c, _) => c < 100000
theorem bwS_ok {σ : Nat → Int32} {a b : Nat} {x : Int64} {K : Nat} (ha : a < 5) (hb : b < 5) (hab : a ≠ b) : ∀ i, i ≤ 16 → bsOK (bwS σ a b x K i) := by
  intro i
  induction i with
  | zero => intro _; trivial
  | succ i ih =>
    intro hi
    show bsOK (bwStep σ a b x K i (bwS σ a b x K i))
    unfold bwStep
    split
    · exact (wC_ok a b i ha hb hab (by omega)).1
    · exact ih (by omega)
theorem m1_ne {c : Nat} (h : c < 2 ^ 31) : ¬ nI c = -1 := fun e => absurd (show (-1 : Int32) < 0 by decide) (by rw [← e]; exact nI_pos h)
theorem bw_skip {σ : Nat → Int32} {a b : Nat} {x : Int64} {K j : Nat} (h : ∀ i, j ≤ i → i < 16 → K + 1 < wSz i) : ∀ i, j ≤ i → i ≤ 16 → bwS σ a b x K i = bwS σ a b x K j := by
  intro i
  induction i with
  | zero => intro h1 _; rw [show j = 0 by omega]
  | succ i ih =>
    intro h1 h2
    by_cases e : j = i + 1
    · rw [e]
    · exact bw_no (ih (by omega) (by omega)) (by rw [decide_eq_false (by have := h i (by omega) (by omega); omega)]; rfl)
theorem CW.wy {g : GE} {M M1 : Mem} {σ τ : Nat → Int32} {hk : Bool} {n : Nat} {ps : Nat → Nat → Int32} {len : Nat} {tx : Nat → Int32} (h : CW g M σ τ hk n ps len tx) {st : Nat → Nat} {s : Nat} (hW : WG g M1 st s) (e : FR M M1 90 2) : CW g M1 σ τ hk n ps len tx := by
  refine h.scr ?_ (e.wide (by omega))
  obtain ⟨⟨r1, r2, r3⟩, ⟨f, p, t1, t2⟩, ⟨w, z, w1, w2⟩, ⟨m1, a, b, m2, m3⟩, ⟨u, u1⟩⟩ := h.2.2.2.2.2
  obtain ⟨⟨w9, k1, k2, k3⟩, _⟩ := hW
  exact ⟨⟨(e _ (by omega)).trans r1, (e _ (by omega)).trans r2, (e _ (by omega)).trans r3⟩, ⟨f, p, (e _ (by omega)).trans t1, (e _ (by omega)).trans t2⟩, ⟨w9, _, k1, k2⟩, ⟨(e _ (by omega)).trans m1, a, b, (e _ (by omega)).trans m2, (e _ (by omega)).trans m3⟩, ⟨u, (e _ (by omega)).trans u1⟩⟩
set_option maxRecDepth 20000 in
theorem x_bestWay_ok {g : GE} {M : Mem} {sz : Nat} {σ τ : Nat → Int32} {hk : Bool} {n : Nat} {ps : Nat → Nat → Int32} {len : Nat} {tx : Nat → Int32} (hC : CW g M σ τ hk n ps len tx) {a b c : Int32} (hI : I10 σ) (i j K : Nat) (hi : i < 5) (hj : j < 5) (ha : a = nI i) (hb : b = nI j) (hij : i ≠ j) (hK : σ 27 = nI K) (hK1 : 1 ≤ K) (hK4 : K ≤ 4) (hc : ¬ c < 0) (hc2 : c ≤ 9999) : Run g m_X8_bestWay [rf g 0, .int a, .int b, .int c] M sz 0 0 (RetP (some (.int (fC (bwS σ i j c.toInt64 K 16)))) (fun M2 => CW g M2 σ τ hk n ps len tx ∧ FR M M2 0 96)) := by
  subst ha hb
  have L : ∀ m q : Nat, q + m = 16 → ∀ s : BS, bwS σ i j c.toInt64 K q = s → ∀ M9, CW g M9 σ τ hk n ps len tx → FR M M9 0 96 → V g m_X8_bestWay 22 [(7, .int (nI q)), (5, .long (lR s)), (4, .int (fC s)), (0, rf g 0), (1, .int (nI i)), (2, .int (nI j)), (3, .int c)] [] M9 sz 0 0 (RetP (some (.int (fC (bwS σ i j c.toInt64 K 16)))) (fun M2 => CW g M2 σ τ hk n ps len tx ∧ FR M M2 0 96)) := by
    intro m
    induction m with
    | zero =>
      intro q hq s hst M9 hD hF
      obtain rfl : q = 16 := by omega
      subst hst
      refine V_iload 0 dX8_bestWay_22 rfl ?_
      refine V_bipush (v := 16) dX8_bestWay_24 (by decide) ?_
      refine V_icmp_ge (tgt := 138) dX8_bestWay_26 (by decide) (fun c26 => ?_) (fun c26 => absurd (by decide) c26)
      refine V_iload 2 dX8_bestWay_138 rfl ?_
      refine V_iret (st := []) dX8_bestWay_140 rfl ?_
      skip
      exact ⟨rfl, hD, hF⟩
    | succ m ih =>
      intro q hq s hst M9 hD hF
      have hlt : q < 16 := by omega
      have hsz := szM_in (midN q)
      have hsz1 : 2 ≤ wSz q := hsz.1
      have hsz2 : wSz q ≤ 5 := hsz.2
      have hok : bsOK s := by rw [← hst]; exact bwS_ok hi hj hij q (by omega)
      obtain ⟨w0, z0, w1, w2⟩ := hD.2.2.2.2.2.2.2.1
      cases s with
      | none =>
        · skip
          refine V_iload 0 dX8_bestWay_22 rfl ?_
          refine V_bipush (v := 16) dX8_bestWay_24 (by decide) ?_
          refine V_icmp_ge (tgt := 138) dX8_bestWay_26 (by decide) (fun c26 => absurd c26 (nI_ge (b := 16) hlt (by decide))) (fun c26 => ?_)
          refine V_aload_n 3 dX8_bestWay_29 rfl ?_
          refine G_X8_43 rfl hD.1 rfl dX8_bestWay_30 ?_
          refine V_iload_n 4 dX8_bestWay_33 rfl ?_
          refine V_iload_n 5 dX8_bestWay_34 rfl ?_
          refine V_pc (pc2 := 35) rfl ?_
          refine V_iload 0 dX8_bestWay_35 rfl ?_
          refine Cp_X8_302 w1 rfl ⟨Nat.le_of_ble_eq_true rfl, Nat.le_of_ble_eq_true rfl⟩ (r_choose w1 w2 i j q rfl rfl rfl hi hj hij hlt) rfl (Nat.le_of_ble_eq_true rfl) dX8_bestWay_37 rfl (fun _ q9 => ?_)
          obtain ⟨hQ9, hF9⟩ := q9
          have hD2 := hD.wy hQ9 hF9
          have hF2 := hF.trans (b := 0) (n := 96) (FR.wide hF9 (b2 := 0) (n2 := 96) (by omega)) (by omega)
          obtain ⟨⟨w9, k1, k2, k3⟩, k4⟩ := id hQ9
          obtain ⟨p9, z1, z2⟩ := hD2.2.1.1
          refine V_aload_n 3 dX8_bestWay_40 rfl ?_
          refine G_X8_43 rfl hD2.1 rfl dX8_bestWay_41 ?_
          refine G_X8_305 rfl k1 rfl dX8_bestWay_44 ?_
          refine V_iconst (v := 1) dX8_bestWay_47 rfl ?_
          refine V_isub dX8_bestWay_48 ?_
          refine V_aload_n 3 dX8_bestWay_49 rfl ?_
          refine V_pc (pc2 := 50) rfl ?_
          refine G_X8_10 rfl hD2.1 rfl dX8_bestWay_50 ?_
          refine G_X8_136 rfl z1 rfl dX8_bestWay_53 ?_
          refine V_iconst (v := 2) dX8_bestWay_56 rfl ?_
          refine C_X8_77 rfl ⟨Nat.le_of_ble_eq_true rfl, Nat.le_of_ble_eq_true rfl⟩ (r_at hD2.2.1.2.2.1 2 rfl (by decide) (by decide)) rfl (Nat.le_of_ble_eq_true rfl) dX8_bestWay_57 rfl ?_
          rw [seR_at (by decide), show σ (25 + 2) = nI K from hK, show (1 : Int32) = nI 1 from rfl, pk_sub (by omega)]
          refine V_icmp_gt (tgt := 132) dX8_bestWay_60 (by decide) (fun c60 => ?_) (fun c60 => ?_)
          · refine V_iinc (v := _ + 1) (lv2 := [(7, .int _), (5, .long _), (4, .int _), (0, .ref _), (1, .int _), (2, .int _), (3, .int _)]) 0 dX8_bestWay_132 rfl rfl (Nat.le_of_ble_eq_true rfl) rfl ?_
            refine V_goto (tgt := 22) dX8_bestWay_135 (by decide) ?_
            refine V_lv (lv2 := [(7, .int _), (5, .long _), (4, .int _), (0, .ref _), (1, .int _), (2, .int _), (3, .int _)]) [0, 1, 2, 3, 4, 5, 6] rfl ?_
            have hw1 : ¬ wSz q ≤ K + 1 := by have := (nI_ltI (by omega) (by omega)).mp c60; omega
            rw [nI_1]
            exact ih (q + 1) (by omega) none (bw_no hst (by rw [decide_eq_false hw1]; rfl)) _ hD2 (hF2)
          · refine V_aload_n 3 dX8_bestWay_63 rfl ?_
            refine G_X8_43 rfl hD2.1 rfl dX8_bestWay_64 ?_
            refine V_aload_n 3 dX8_bestWay_67 rfl ?_
            refine G_X8_10 rfl hD2.1 rfl dX8_bestWay_68 ?_
            refine G_X8_89 rfl z1 rfl dX8_bestWay_71 ?_
            refine C_X8_306 k1 rfl ⟨Nat.le_of_ble_eq_true rfl, Nat.le_of_ble_eq_true rfl⟩ (r_wstands hQ9 hI hD2.2.1.2.2.2.1) rfl (Nat.le_of_ble_eq_true rfl) dX8_bestWay_74 rfl ?_
            refine V_if_eq (tgt := 132) dX8_bestWay_77 (by decide) (fun c77 => ?_) (fun c77 => ?_)
            · refine V_iinc (v := _ + 1) (lv2 := [(7, .int _), (5, .long _), (4, .int _), (0, .ref _), (1, .int _), (2, .int _), (3, .int _)]) 0 dX8_bestWay_132 rfl rfl (Nat.le_of_ble_eq_true rfl) rfl ?_
              refine V_goto (tgt := 22) dX8_bestWay_135 (by decide) ?_
              refine V_lv (lv2 := [(7, .int _), (5, .long _), (4, .int _), (0, .ref _), (1, .int _), (2, .int _), (3, .int _)]) [0, 1, 2, 3, 4, 5, 6] rfl ?_
              rw [nI_1]
              exact ih (q + 1) (by omega) none (bw_no hst (by rw [show stdI σ i j q = false from bI_0 c77, Bool.and_false]; rfl)) _ hD2 (hF2)
            · refine V_aload_n 3 dX8_bestWay_80 rfl ?_
              refine G_X8_43 rfl hD2.1 rfl dX8_bestWay_81 ?_
              refine V_aload_n 3 dX8_bestWay_84 rfl ?_
              refine G_X8_10 rfl hD2.1 rfl dX8_bestWay_85 ?_
              refine G_X8_89 rfl z1 rfl dX8_bestWay_88 ?_
              refine V_iload_n 6 dX8_bestWay_91 rfl ?_
              refine V_aload_n 3 dX8_bestWay_92 rfl ?_
              refine V_pc (pc2 := 93) rfl ?_
              refine C_X8_295 hD2.1 rfl ⟨Nat.le_of_ble_eq_true rfl, Nat.le_of_ble_eq_true rfl⟩ (r_rounding hD2) rfl (Nat.le_of_ble_eq_true rfl) dX8_bestWay_93 rfl ?_
              refine C_X8_309 k1 rfl ⟨Nat.le_of_ble_eq_true rfl, Nat.le_of_ble_eq_true rfl⟩ (r_roundedOff hQ9 hI hD2.2.1.2.2.2.1 (bI_1 c77)) rfl (Nat.le_of_ble_eq_true rfl) dX8_bestWay_96 rfl ?_
              refine V_lstore (lv2 := [(8, .long _), (7, .int _), (5, .long _), (4, .int _), (0, .ref _), (1, .int _), (2, .int _), (3, .int _)]) dX8_bestWay_99 (Nat.le_of_ble_eq_true rfl) rfl ?_
              refine V_iload 3 dX8_bestWay_101 rfl ?_
              refine V_iconst (v := -1) dX8_bestWay_103 rfl ?_
              refine V_icmp_eq (tgt := 115) dX8_bestWay_104 (by decide) (fun c104 => ?_) (fun c104 => absurd rfl c104)
              refine V_aload_n 4 dX8_bestWay_115 rfl ?_
              refine G_X8_43 rfl hD2.1 rfl dX8_bestWay_116 ?_
              refine V_pc (pc2 := 119) rfl ?_
              refine C_X8_313 k1 rfl ⟨Nat.le_of_ble_eq_true rfl, Nat.le_of_ble_eq_true rfl⟩ (r_number hQ9) rfl (Nat.le_of_ble_eq_true rfl) dX8_bestWay_119 rfl ?_
              refine V_ldcw z_X8_316 dX8_bestWay_122 ?_
              refine V_iadd dX8_bestWay_125 ?_
              refine V_istore (lv2 := [(4, .int _), (8, .long _), (7, .int _), (5, .long _), (0, .ref _), (1, .int _), (2, .int _), (3, .int _)]) dX8_bestWay_126 (Nat.le_of_ble_eq_true rfl) rfl ?_
              refine V_lload 1 dX8_bestWay_128 rfl ?_
              refine V_lstore (lv2 := [(5, .long _), (4, .int _), (8, .long _), (7, .int _), (0, .ref _), (1, .int _), (2, .int _), (3, .int _)]) dX8_bestWay_130 (Nat.le_of_ble_eq_true rfl) rfl ?_
              refine V_iinc (v := _ + 1) (lv2 := [(7, .int _), (5, .long _), (4, .int _), (8, .long _), (0, .ref _), (1, .int _), (2, .int _), (3, .int _)]) 3 dX8_bestWay_132 rfl rfl (Nat.le_of_ble_eq_true rfl) rfl ?_
              refine V_goto (tgt := 22) dX8_bestWay_135 (by decide) ?_
              refine V_lv (lv2 := [(7, .int _), (5, .long _), (4, .int _), (0, .ref _), (1, .int _), (2, .int _), (3, .int _)]) [0, 1, 2, 4, 5, 6, 7] rfl ?_
              have hw1 : wSz q ≤ K + 1 := by have := mt (nI_ltI (by omega) (by omega)).mpr c60; omega
              have hw2 : stdI σ i j q = true := bI_1 c77
              rw [nI_1, show (100000 : Int32) = nI 100000 from rfl, nI_add]
              exact ih (q + 1) (by omega) (some (wC i j q, costW σ i j c.toInt64 q)) (bw_yes hst (by rw [decide_eq_true hw1, hw2]; rfl)) _ hD2 hF2
      | some y =>
        obtain ⟨c0, l0⟩ := y
        · skip
          refine V_iload 0 dX8_bestWay_22 rfl ?_
          refine V_bipush (v := 16) dX8_bestWay_24 (by decide) ?_
          refine V_icmp_ge (tgt := 138) dX8_bestWay_26 (by decide) (fun c26 => absurd c26 (nI_ge (b := 16) hlt (by decide))) (fun c26 => ?_)
          refine V_aload_n 3 dX8_bestWay_29 rfl ?_
          refine G_X8_43 rfl hD.1 rfl dX8_bestWay_30 ?_
          refine V_iload_n 4 dX8_bestWay_33 rfl ?_
          refine V_iload_n 5 dX8_bestWay_34 rfl ?_
          refine V_pc (pc2 := 35) rfl ?_
          refine V_iload 0 dX8_bestWay_35 rfl ?_
          refine Cp_X8_302 w1 rfl ⟨Nat.le_of_ble_eq_true rfl, Nat.le_of_ble_eq_true rfl⟩ (r_choose w1 w2 i j q rfl rfl rfl hi hj hij hlt) rfl (Nat.le_of_ble_eq_true rfl) dX8_bestWay_37 rfl (fun _ q9 => ?_)
          obtain ⟨hQ9, hF9⟩ := q9
          have hD2 := hD.wy hQ9 hF9
          have hF2 := hF.trans (b := 0) (n := 96) (FR.wide hF9 (b2 := 0) (n2 := 96) (by omega)) (by omega)
          obtain ⟨⟨w9, k1, k2, k3⟩, k4⟩ := id hQ9
          obtain ⟨p9, z1, z2⟩ := hD2.2.1.1
          refine V_aload_n 3 dX8_bestWay_40 rfl ?_
          refine G_X8_43 rfl hD2.1 rfl dX8_bestWay_41 ?_
          refine G_X8_305 rfl k1 rfl dX8_bestWay_44 ?_
          refine V_iconst (v := 1) dX8_bestWay_47 rfl ?_
          refine V_isub dX8_bestWay_48 ?_
          refine V_aload_n 3 dX8_bestWay_49 rfl ?_
          refine V_pc (pc2 := 50) rfl ?_
          refine G_X8_10 rfl hD2.1 rfl dX8_bestWay_50 ?_
          refine G_X8_136 rfl z1 rfl dX8_bestWay_53 ?_
          refine V_iconst (v := 2) dX8_bestWay_56 rfl ?_
          refine C_X8_77 rfl ⟨Nat.le_of_ble_eq_true rfl, Nat.le_of_ble_eq_true rfl⟩ (r_at hD2.2.1.2.2.1 2 rfl (by decide) (by decide)) rfl (Nat.le_of_ble_eq_true rfl) dX8_bestWay_57 rfl ?_
          rw [seR_at (by decide), show σ (25 + 2) = nI K from hK, show (1 : Int32) = nI 1 from rfl, pk_sub (by omega)]
          refine V_icmp_gt (tgt := 132) dX8_bestWay_60 (by decide) (fun c60 => ?_) (fun c60 => ?_)
          · refine V_iinc (v := _ + 1) (lv2 := [(7, .int _), (5, .long _), (4, .int _), (0, .ref _), (1, .int _), (2, .int _), (3, .int _)]) 0 dX8_bestWay_132 rfl rfl (Nat.le_of_ble_eq_true rfl) rfl ?_
            refine V_goto (tgt := 22) dX8_bestWay_135 (by decide) ?_
            refine V_lv (lv2 := [(7, .int _), (5, .long _), (4, .int _), (0, .ref _), (1, .int _), (2, .int _), (3, .int _)]) [0, 1, 2, 3, 4, 5, 6] rfl ?_
            have hw1 : ¬ wSz q ≤ K + 1 := by have := (nI_ltI (by omega) (by omega)).mp c60; omega
            rw [nI_1]
            exact ih (q + 1) (by omega) (some (c0, l0)) (bw_no hst (by rw [decide_eq_false hw1]; rfl)) _ hD2 (hF2)
          · refine V_aload_n 3 dX8_bestWay_63 rfl ?_
            refine G_X8_43 rfl hD2.1 rfl dX8_bestWay_64 ?_
            refine V_aload_n 3 dX8_bestWay_67 rfl ?_
            refine G_X8_10 rfl hD2.1 rfl dX8_bestWay_68 ?_
            refine G_X8_89 rfl z1 rfl dX8_bestWay_71 ?_
            refine C_X8_306 k1 rfl ⟨Nat.le_of_ble_eq_true rfl, Nat.le_of_ble_eq_true rfl⟩ (r_wstands hQ9 hI hD2.2.1.2.2.2.1) rfl (Nat.le_of_ble_eq_true rfl) dX8_bestWay_74 rfl ?_
            refine V_if_eq (tgt := 132) dX8_bestWay_77 (by decide) (fun c77 => ?_) (fun c77 => ?_)
            · refine V_iinc (v := _ + 1) (lv2 := [(7, .int _), (5, .long _), (4, .int _), (0, .ref _), (1, .int _), (2, .int _), (3, .int _)]) 0 dX8_bestWay_132 rfl rfl (Nat.le_of_ble_eq_true rfl) rfl ?_
              refine V_goto (tgt := 22) dX8_bestWay_135 (by decide) ?_
              refine V_lv (lv2 := [(7, .int _), (5, .long _), (4, .int _), (0, .ref _), (1, .int _), (2, .int _), (3, .int _)]) [0, 1, 2, 3, 4, 5, 6] rfl ?_
              rw [nI_1]
              exact ih (q + 1) (by omega) (some (c0, l0)) (bw_no hst (by rw [show stdI σ i j q = false from bI_0 c77, Bool.and_false]; rfl)) _ hD2 (hF2)
            · refine V_aload_n 3 dX8_bestWay_80 rfl ?_
              refine G_X8_43 rfl hD2.1 rfl dX8_bestWay_81 ?_
              refine V_aload_n 3 dX8_bestWay_84 rfl ?_
              refine G_X8_10 rfl hD2.1 rfl dX8_bestWay_85 ?_
              refine G_X8_89 rfl z1 rfl dX8_bestWay_88 ?_
              refine V_iload_n 6 dX8_bestWay_91 rfl ?_
              refine V_aload_n 3 dX8_bestWay_92 rfl ?_
              refine V_pc (pc2 := 93) rfl ?_
              refine C_X8_295 hD2.1 rfl ⟨Nat.le_of_ble_eq_true rfl, Nat.le_of_ble_eq_true rfl⟩ (r_rounding hD2) rfl (Nat.le_of_ble_eq_true rfl) dX8_bestWay_93 rfl ?_
              refine C_X8_309 k1 rfl ⟨Nat.le_of_ble_eq_true rfl, Nat.le_of_ble_eq_true rfl⟩ (r_roundedOff hQ9 hI hD2.2.1.2.2.2.1 (bI_1 c77)) rfl (Nat.le_of_ble_eq_true rfl) dX8_bestWay_96 rfl ?_
              refine V_lstore (lv2 := [(8, .long _), (7, .int _), (5, .long _), (4, .int _), (0, .ref _), (1, .int _), (2, .int _), (3, .int _)]) dX8_bestWay_99 (Nat.le_of_ble_eq_true rfl) rfl ?_
              refine V_iload 3 dX8_bestWay_101 rfl ?_
              refine V_iconst (v := -1) dX8_bestWay_103 rfl ?_
              refine V_icmp_eq (tgt := 115) dX8_bestWay_104 (by decide) (fun c104 => absurd c104 (m1_ne (by have h9 : c0 < 100000 := hok; omega))) (fun c104 => ?_)
              refine V_lload 0 dX8_bestWay_107 rfl ?_
              refine V_lload 2 dX8_bestWay_109 rfl ?_
              refine V_pc (pc2 := 111) rfl ?_
              refine V_lcmp dX8_bestWay_111 ?_
              refine V_if_ge (tgt := 132) dX8_bestWay_112 (by decide) (fun c112 => ?_) (fun c112 => ?_)
              · refine V_iinc (v := _ + 1) (lv2 := [(7, .int _), (8, .long _), (5, .long _), (4, .int _), (0, .ref _), (1, .int _), (2, .int _), (3, .int _)]) 1 dX8_bestWay_132 rfl rfl (Nat.le_of_ble_eq_true rfl) rfl ?_
                refine V_goto (tgt := 22) dX8_bestWay_135 (by decide) ?_
                refine V_lv (lv2 := [(7, .int _), (5, .long _), (4, .int _), (0, .ref _), (1, .int _), (2, .int _), (3, .int _)]) [0, 2, 3, 4, 5, 6, 7] rfl ?_
                have hw1 : wSz q ≤ K + 1 := by have := mt (nI_ltI (by omega) (by omega)).mpr c60; omega
                have hw2 : stdI σ i j q = true := bI_1 c77
                rw [nI_1]
                exact ih (q + 1) (by omega) (some (c0, l0)) (bw_no hst (by rw [decide_eq_true hw1, hw2]; show (true && true && decide (costW σ i j c.toInt64 q < l0)) = false; rw [decide_eq_false (show ¬ costW σ i j c.toInt64 q < l0 from Int64.not_lt.mpr (lgc_ge.mp c112))]; rfl)) _ hD2 (hF2)
              · refine V_aload_n 4 dX8_bestWay_115 rfl ?_
                refine G_X8_43 rfl hD2.1 rfl dX8_bestWay_116 ?_
                refine C_X8_313 k1 rfl ⟨Nat.le_of_ble_eq_true rfl, Nat.le_of_ble_eq_true rfl⟩ (r_number hQ9) rfl (Nat.le_of_ble_eq_true rfl) dX8_bestWay_119 rfl ?_
                refine V_ldcw z_X8_316 dX8_bestWay_122 ?_
                refine V_iadd dX8_bestWay_125 ?_
                refine V_istore (lv2 := [(4, .int _), (8, .long _), (7, .int _), (5, .long _), (0, .ref _), (1, .int _), (2, .int _), (3, .int _)]) dX8_bestWay_126 (Nat.le_of_ble_eq_true rfl) rfl ?_
                refine V_lload 1 dX8_bestWay_128 rfl ?_
                refine V_pc (pc2 := 130) rfl ?_
                refine V_lstore (lv2 := [(5, .long _), (4, .int _), (8, .long _), (7, .int _), (0, .ref _), (1, .int _), (2, .int _), (3, .int _)]) dX8_bestWay_130 (Nat.le_of_ble_eq_true rfl) rfl ?_
                refine V_iinc (v := _ + 1) (lv2 := [(7, .int _), (5, .long _), (4, .int _), (8, .long _), (0, .ref _), (1, .int _), (2, .int _), (3, .int _)]) 3 dX8_bestWay_132 rfl rfl (Nat.le_of_ble_eq_true rfl) rfl ?_
                refine V_goto (tgt := 22) dX8_bestWay_135 (by decide) ?_
                refine V_lv (lv2 := [(7, .int _), (5, .long _), (4, .int _), (0, .ref _), (1, .int _), (2, .int _), (3, .int _)]) [0, 1, 2, 4, 5, 6, 7] rfl ?_
                have hw1 : wSz q ≤ K + 1 := by have := mt (nI_ltI (by omega) (by omega)).mpr c60; omega
                have hw2 : stdI σ i j q = true := bI_1 c77
                rw [nI_1, show (100000 : Int32) = nI 100000 from rfl, nI_add]
                exact ih (q + 1) (by omega) (some (wC i j q, costW σ i j c.toInt64 q)) (bw_yes hst (by rw [decide_eq_true hw1, hw2]; show (true && true && decide (costW σ i j c.toInt64 q < l0)) = true; rw [decide_eq_true (show costW σ i j c.toInt64 q < l0 from Int64.not_le.mp (fun h => c112 (lgc_ge.mpr h)))]; rfl)) _ hD2 hF2
  refine Run.of rfl (by decide) (Nat.le_of_ble_eq_true rfl) ?_
  show V g m_X8_bestWay 0 _ [] _ _ _ _ _
  refine V_iload_n 1 dX8_bestWay_0 rfl ?_
  refine V_iload_n 2 dX8_bestWay_1 rfl ?_
  refine C_X8_85 rfl ⟨Nat.le_of_ble_eq_true rfl, Nat.le_of_ble_eq_true rfl⟩ (r_checkPair_ok (isP_nI hi) (isP_nI hj) (fun e => hij ((nI_eq (by omega) (by omega)).mp e))) rfl (Nat.le_of_ble_eq_true rfl) dX8_bestWay_2 rfl ?_
  refine V_iload_n 3 dX8_bestWay_5 rfl ?_
  refine V_iconst (v := 0) dX8_bestWay_6 rfl ?_
  refine V_sipush (v := 9999) dX8_bestWay_7 (by decide) ?_
  refine C_X8_66 rfl ⟨Nat.le_of_ble_eq_true rfl, Nat.le_of_ble_eq_true rfl⟩ (r_checkRange_ok hc hc2) rfl (Nat.le_of_ble_eq_true rfl) dX8_bestWay_10 rfl ?_
  refine V_pc (pc2 := 13) rfl ?_
  refine V_iconst (v := -1) dX8_bestWay_13 rfl ?_
  refine V_istore (lv2 := [(4, .int _), (0, .ref _), (1, .int _), (2, .int _), (3, .int _)]) dX8_bestWay_14 (Nat.le_of_ble_eq_true rfl) rfl ?_
  refine V_lconst (v := 0) dX8_bestWay_16 rfl ?_
  refine V_lstore (lv2 := [(5, .long _), (4, .int _), (0, .ref _), (1, .int _), (2, .int _), (3, .int _)]) dX8_bestWay_17 (Nat.le_of_ble_eq_true rfl) rfl ?_
  refine V_iconst (v := 0) dX8_bestWay_19 rfl ?_
  refine V_istore (lv2 := [(7, .int _), (5, .long _), (4, .int _), (0, .ref _), (1, .int _), (2, .int _), (3, .int _)]) dX8_bestWay_20 (Nat.le_of_ble_eq_true rfl) rfl ?_
  refine V_lv (lv2 := [(7, .int _), (5, .long _), (4, .int _), (0, .ref _), (1, .int _), (2, .int _), (3, .int _)]) [0, 1, 2, 3, 4, 5, 6] rfl ?_
  exact L 16 0 (by omega) none rfl M hC (FR.refl _ _ _)

set_option maxRecDepth 20000 in
theorem x_bestWay_1 {g : GE} {M : Mem} {sz : Nat} {σ τ : Nat → Int32} {hk : Bool} {n : Nat} {ps : Nat → Nat → Int32} {len : Nat} {tx : Nat → Int32} (hC : CW g M σ τ hk n ps len tx) {a b c : Int32} (h : isP a = false ∨ isP b = false) : Run g m_X8_bestWay [rf g 0, .int a, .int b, .int c] M sz 1 6 (Thr (exN 0) M) := by
  refine Run.of rfl (by decide) (Nat.le_of_ble_eq_true rfl) ?_
  show V g m_X8_bestWay 0 _ [] _ _ _ _ _
  refine V_iload_n 1 dX8_bestWay_0 rfl ?_
  refine V_iload_n 2 dX8_bestWay_1 rfl ?_
  refine Ct_X8_85 rfl rfl ⟨Nat.le_of_ble_eq_true rfl, Nat.le_of_ble_eq_true rfl⟩ (r_checkPair_bad h) rfl (Nat.le_of_ble_eq_true rfl) dX8_bestWay_2 rfl ?_
  exact ⟨rfl, rfl⟩

set_option maxRecDepth 20000 in
theorem x_bestWay_2a {g : GE} {M : Mem} {sz : Nat} {σ τ : Nat → Int32} {hk : Bool} {n : Nat} {ps : Nat → Nat → Int32} {len : Nat} {tx : Nat → Int32} (hC : CW g M σ τ hk n ps len tx) {a b c : Int32} (ha : isP a = true) (hb : isP b = true) (h : a = b) : Run g m_X8_bestWay [rf g 0, .int a, .int b, .int c] M sz 1 6 (Thr (exN 1) M) := by
  refine Run.of rfl (by decide) (Nat.le_of_ble_eq_true rfl) ?_
  show V g m_X8_bestWay 0 _ [] _ _ _ _ _
  refine V_iload_n 1 dX8_bestWay_0 rfl ?_
  refine V_iload_n 2 dX8_bestWay_1 rfl ?_
  refine Ct_X8_85 rfl rfl ⟨Nat.le_of_ble_eq_true rfl, Nat.le_of_ble_eq_true rfl⟩ (r_checkPair_same ha hb h) rfl (Nat.le_of_ble_eq_true rfl) dX8_bestWay_2 rfl ?_
  exact ⟨rfl, rfl⟩

set_option maxRecDepth 20000 in
theorem x_bestWay_2b {g : GE} {M : Mem} {sz : Nat} {σ τ : Nat → Int32} {hk : Bool} {n : Nat} {ps : Nat → Nat → Int32} {len : Nat} {tx : Nat → Int32} (hC : CW g M σ τ hk n ps len tx) {a b c : Int32} (ha : isP a = true) (hb : isP b = true) (h : a ≠ b) (hc : c < 0 ∨ ¬ c ≤ 9999) : Run g m_X8_bestWay [rf g 0, .int a, .int b, .int c] M sz 1 6 (Thr (exN 1) M) := by
  refine Run.of rfl (by decide) (Nat.le_of_ble_eq_true rfl) ?_
  show V g m_X8_bestWay 0 _ [] _ _ _ _ _
  refine V_iload_n 1 dX8_bestWay_0 rfl ?_
  refine V_iload_n 2 dX8_bestWay_1 rfl ?_
  refine C_X8_85 rfl ⟨Nat.le_of_ble_eq_true rfl, Nat.le_of_ble_eq_true rfl⟩ (r_checkPair_ok ha hb h) rfl (Nat.le_of_ble_eq_true rfl) dX8_bestWay_2 rfl ?_
  refine V_iload_n 3 dX8_bestWay_5 rfl ?_
  refine V_iconst (v := 0) dX8_bestWay_6 rfl ?_
  refine V_sipush (v := 9999) dX8_bestWay_7 (by decide) ?_
  refine Ct_X8_66 rfl rfl ⟨Nat.le_of_ble_eq_true rfl, Nat.le_of_ble_eq_true rfl⟩ (r_checkRange_bad hc) rfl (Nat.le_of_ble_eq_true rfl) dX8_bestWay_10 rfl ?_
  exact ⟨rfl, rfl⟩

set_option maxRecDepth 20000 in
theorem way_in {g : GE} {M : Mem} {sz : Nat} {σ v : Nat → Int32} (hM : MD g M σ v) (hI : I10 σ) {x : Int32} {a b s K : Nat} (ha : a < 5) (hb : b < 5) (hab : a ≠ b) (h2 : 2 ≤ s) (h5 : s ≤ 5) (hsK0 : s ≤ K + 1) {Q : Ou → Mem → Prop} (kk : ∀ st : BS, bwS σ a b x.toInt64 K (wlo (s + 1)) = st → V g m_X9_way 9 [(7, .int (nI (s + 1))), (5, .long (lR st)), (4, .int (fR st)), (0, rf g 96), (1, .int (nI a)), (2, .int (nI b)), (3, .int x)] [] M sz 0 0 Q) :
    ∀ m c : Nat, c + m = (a + 1) * 10 ^ (s - 1) → a * 10 ^ (s - 1) ≤ c → ∀ (j : Nat) (st : BS), wlo s ≤ j → j ≤ wlo (s + 1) → (∀ i, wlo s ≤ i → i < j → wC a b i < c) → (∀ i, j ≤ i → i < wlo (s + 1) → c ≤ wC a b i) → bwS σ a b x.toInt64 K j = st → V g m_X9_way 32 [(8, .int (nI c)), (7, .int (nI s)), (5, .long (lR st)), (4, .int (fR st)), (0, rf g 96), (1, .int (nI a)), (2, .int (nI b)), (3, .int x)] [] M sz 0 0 Q := by
  have hpw : (a + 1) * 10 ^ (s - 1) ≤ 50000 := Nat.le_trans (Nat.mul_le_mul (show a + 1 ≤ 5 by omega) (Nat.pow_le_pow_right (by decide) (show s - 1 ≤ 4 by omega))) (by decide)
  have hwl := wlo_16 (s + 1)
  intro m
  induction m with
  | zero =>
    intro c hc hlo j st h3 h4 h6 h7 hst
    have hjE : j = wlo (s + 1) := by
      refine Decidable.byContradiction fun hne => ?_
      have hj : j < wlo (s + 1) := by omega
      have hsj := (seg s j h2 h5 (by omega)).mpr ⟨h3, hj⟩
      have h8 := h7 j (Nat.le_refl _) hj
      have h9 := (wC_ok a b j ha hb hab (by omega)).2.2.2.2.2
      rw [hsj] at h9
      omega
    obtain rfl : c = (a + 1) * 10 ^ (s - 1) := by omega
    refine V_iload 0 dX9_way_32 rfl ?_
    refine V_iload_n 5 dX9_way_34 rfl ?_
    refine V_iconst (v := 1) dX9_way_35 rfl ?_
    refine V_iadd dX9_way_36 ?_
    refine V_iload 1 dX9_way_37 rfl ?_
    refine C_X9_256 rfl ⟨Nat.le_of_ble_eq_true rfl, Nat.le_of_ble_eq_true rfl⟩ (r9_power s rfl h2 h5) rfl (Nat.le_of_ble_eq_true rfl) dX9_way_39 rfl ?_
    refine V_imul dX9_way_42 ?_
    refine V_pc (pc2 := 43) rfl ?_
    rw [nI_1, pk_mul]
    refine V_icmp_ge (tgt := 98) dX9_way_43 (by decide) (fun c43 => ?_) (fun c43 => absurd (nI_le (Nat.le_refl _) (by omega)) c43)
    refine V_iinc (v := _ + 1) (lv2 := [(7, .int _), (8, .int _), (5, .long _), (4, .int _), (0, .ref _), (1, .int _), (2, .int _), (3, .int _)]) 1 dX9_way_98 rfl rfl (Nat.le_of_ble_eq_true rfl) rfl ?_
    refine V_goto (tgt := 9) dX9_way_101 (by decide) ?_
    refine V_lv (lv2 := [(7, .int _), (5, .long _), (4, .int _), (0, .ref _), (1, .int _), (2, .int _), (3, .int _)]) [0, 2, 3, 4, 5, 6, 7] rfl ?_
    rw [nI_1]
    exact kk st (by rw [← hjE]; exact hst)
  | succ m ih =>
    intro c hc hlo j st h3 h4 h6 h7 hst
    have hok : bsOK st := by rw [← hst]; exact bwS_ok ha hb hab j (by omega)
    have hc9 : c < 10 ^ s := by
      have e1 : (a + 1) * 10 ^ (s - 1) ≤ 10 * 10 ^ (s - 1) := Nat.mul_le_mul_right _ (by omega)
      have e2 : 10 * 10 ^ (s - 1) = 10 ^ s := by rw [Nat.mul_comm, ← Nat.pow_succ, show (s - 1).succ = s by omega]
      omega
    by_cases hx : j < wlo (s + 1) ∧ wC a b j = c
    · obtain ⟨hj, hcj⟩ := hx
      have hsj := (seg s j h2 h5 (by omega)).mpr ⟨h3, hj⟩
      have hw9 := wC_ok a b j ha hb hab (by omega)
      have hisW : isW c s = true := by rw [← hcj, ← hsj]; exact hw9.2.1
      have hled : ledS σ c s a b = stdI σ a b j := by rw [← hcj, ← hsj]; exact led_yes ha hb hab (by omega)
      have hdst : stdW σ (dg c s) (s - 1) = stdI σ a b j := by rw [← hcj, ← hsj]; exact stdW_cong (fun k hk => wC_dg a b j k ha hb hab (by omega) (by omega))
      have hcost : (rofS σ (dg c s) x.toInt64 (s - 1)).2 = costW σ a b x.toInt64 j := by unfold costW; rw [← hcj, ← hsj]; exact congrArg Prod.snd (rofS_cong (fun k hk => wC_dg a b j k ha hb hab (by omega) (by omega)))
      have hsK : wSz j ≤ K + 1 := by omega
      have hlow : ∀ i, wlo s ≤ i → i < j + 1 → wC a b i < c + 1 := by
        intro i a1 a2
        by_cases e : i = j
        · rw [e]; omega
        · exact Nat.lt_succ_of_lt (h6 i a1 (by omega))
      have hup : ∀ i, j + 1 ≤ i → i < wlo (s + 1) → c + 1 ≤ wC a b i := by
        intro i a1 a2
        have hsi := (seg s i h2 h5 (by omega)).mpr ⟨by omega, a2⟩
        have := wC_lt a b j i ha hb hab (by omega) (by omega) (by omega) (by omega)
        omega
      cases st with
      | none =>
        · skip
          refine V_iload 0 dX9_way_32 rfl ?_
          refine V_iload_n 5 dX9_way_34 rfl ?_
          refine V_iconst (v := 1) dX9_way_35 rfl ?_
          refine V_iadd dX9_way_36 ?_
          refine V_iload 1 dX9_way_37 rfl ?_
          refine C_X9_256 rfl ⟨Nat.le_of_ble_eq_true rfl, Nat.le_of_ble_eq_true rfl⟩ (r9_power s rfl h2 h5) rfl (Nat.le_of_ble_eq_true rfl) dX9_way_39 rfl ?_
          refine V_imul dX9_way_42 ?_
          refine V_pc (pc2 := 43) rfl ?_
          rw [nI_1, pk_mul]
          refine V_icmp_ge (tgt := 98) dX9_way_43 (by decide) (fun c43 => absurd c43 (nI_ge (by omega) (by omega))) (fun c43 => ?_)
          refine V_aload_n 4 dX9_way_46 rfl ?_
          refine V_iload 0 dX9_way_47 rfl ?_
          refine V_iload 1 dX9_way_49 rfl ?_
          refine V_iload_n 5 dX9_way_51 rfl ?_
          refine V_iload_n 6 dX9_way_52 rfl ?_
          refine C_X9_259 hM.1 rfl ⟨Nat.le_of_ble_eq_true rfl, Nat.le_of_ble_eq_true rfl⟩ (r9_leads hM c s a b rfl rfl rfl rfl (by omega) h2 h5 ha hb) rfl (Nat.le_of_ble_eq_true rfl) dX9_way_53 rfl ?_
          rw [hled]
          refine V_if_eq (tgt := 92) dX9_way_56 (by decide) (fun c56 => ?_) (fun c56 => ?_)
          · refine V_iinc (v := _ + 1) (lv2 := [(8, .int _), (7, .int _), (5, .long _), (4, .int _), (0, .ref _), (1, .int _), (2, .int _), (3, .int _)]) 0 dX9_way_92 rfl rfl (Nat.le_of_ble_eq_true rfl) rfl ?_
            refine V_goto (tgt := 32) dX9_way_95 (by decide) ?_
            refine V_lv (lv2 := [(8, .int _), (7, .int _), (5, .long _), (4, .int _), (0, .ref _), (1, .int _), (2, .int _), (3, .int _)]) [0, 1, 2, 3, 4, 5, 6, 7] rfl ?_
            rw [nI_1]
            exact ih (c + 1) (by omega) (by omega) (j + 1) none (by omega) (by omega) (fun i a1 a2 => hlow i a1 a2) (fun i a1 a2 => hup i a1 a2) (bw_no hst (by rw [show stdI σ a b j = false from bI_0 c56, Bool.and_false]; rfl))
          · refine V_aload_n 4 dX9_way_59 rfl ?_
            refine V_iload 0 dX9_way_60 rfl ?_
            refine V_iload 1 dX9_way_62 rfl ?_
            refine V_iload_n 7 dX9_way_64 rfl ?_
            refine C_X9_263 hM.1 rfl ⟨Nat.le_of_ble_eq_true rfl, Nat.le_of_ble_eq_true rfl⟩ (r9_rounding hM hI c s rfl rfl (by omega) h2 h5 (isW_lt hisW) (by rw [hdst]; exact bI_1 c56)) rfl (Nat.le_of_ble_eq_true rfl) dX9_way_65 rfl ?_
            rw [hcost]
            refine V_lstore (lv2 := [(9, .long _), (8, .int _), (7, .int _), (5, .long _), (4, .int _), (0, .ref _), (1, .int _), (2, .int _), (3, .int _)]) dX9_way_68 (Nat.le_of_ble_eq_true rfl) rfl ?_
            refine V_iload 4 dX9_way_70 rfl ?_
            refine V_pc (pc2 := 72) rfl ?_
            refine V_iconst (v := -1) dX9_way_72 rfl ?_
            refine V_icmp_eq (tgt := 84) dX9_way_73 (by decide) (fun c73 => ?_) (fun c73 => absurd rfl c73)
            refine V_iload 1 dX9_way_84 rfl ?_
            refine V_istore (lv2 := [(4, .int _), (9, .long _), (8, .int _), (7, .int _), (5, .long _), (0, .ref _), (1, .int _), (2, .int _), (3, .int _)]) dX9_way_86 (Nat.le_of_ble_eq_true rfl) rfl ?_
            refine V_lload 1 dX9_way_88 rfl ?_
            refine V_lstore (lv2 := [(5, .long _), (4, .int _), (9, .long _), (8, .int _), (7, .int _), (0, .ref _), (1, .int _), (2, .int _), (3, .int _)]) dX9_way_90 (Nat.le_of_ble_eq_true rfl) rfl ?_
            refine V_iinc (v := _ + 1) (lv2 := [(8, .int _), (5, .long _), (4, .int _), (9, .long _), (7, .int _), (0, .ref _), (1, .int _), (2, .int _), (3, .int _)]) 3 dX9_way_92 rfl rfl (Nat.le_of_ble_eq_true rfl) rfl ?_
            refine V_goto (tgt := 32) dX9_way_95 (by decide) ?_
            refine V_lv (lv2 := [(8, .int _), (7, .int _), (5, .long _), (4, .int _), (0, .ref _), (1, .int _), (2, .int _), (3, .int _)]) [0, 4, 1, 2, 5, 6, 7, 8] rfl ?_
            have hstd : stdI σ a b j = true := bI_1 c56
            rw [nI_1]
            exact ih (c + 1) (by omega) (by omega) (j + 1) (some (c, costW σ a b x.toInt64 j)) (by omega) (by omega) (fun i a1 a2 => hlow i a1 a2) (fun i a1 a2 => hup i a1 a2) (by have e9 := bw_yes hst (by rw [decide_eq_true hsK, hstd]; rfl); rw [hcj] at e9; exact e9)
      | some y =>
        obtain ⟨c0, l0⟩ := y
        · skip
          refine V_iload 0 dX9_way_32 rfl ?_
          refine V_iload_n 5 dX9_way_34 rfl ?_
          refine V_iconst (v := 1) dX9_way_35 rfl ?_
          refine V_iadd dX9_way_36 ?_
          refine V_iload 1 dX9_way_37 rfl ?_
          refine C_X9_256 rfl ⟨Nat.le_of_ble_eq_true rfl, Nat.le_of_ble_eq_true rfl⟩ (r9_power s rfl h2 h5) rfl (Nat.le_of_ble_eq_true rfl) dX9_way_39 rfl ?_
          refine V_imul dX9_way_42 ?_
          refine V_pc (pc2 := 43) rfl ?_
          rw [nI_1, pk_mul]
          refine V_icmp_ge (tgt := 98) dX9_way_43 (by decide) (fun c43 => absurd c43 (nI_ge (by omega) (by omega))) (fun c43 => ?_)
          refine V_aload_n 4 dX9_way_46 rfl ?_
          refine V_iload 0 dX9_way_47 rfl ?_
          refine V_iload 1 dX9_way_49 rfl ?_
          refine V_iload_n 5 dX9_way_51 rfl ?_
          refine V_iload_n 6 dX9_way_52 rfl ?_
          refine C_X9_259 hM.1 rfl ⟨Nat.le_of_ble_eq_true rfl, Nat.le_of_ble_eq_true rfl⟩ (r9_leads hM c s a b rfl rfl rfl rfl (by omega) h2 h5 ha hb) rfl (Nat.le_of_ble_eq_true rfl) dX9_way_53 rfl ?_
          rw [hled]
          refine V_if_eq (tgt := 92) dX9_way_56 (by decide) (fun c56 => ?_) (fun c56 => ?_)
          · refine V_iinc (v := _ + 1) (lv2 := [(8, .int _), (7, .int _), (5, .long _), (4, .int _), (0, .ref _), (1, .int _), (2, .int _), (3, .int _)]) 0 dX9_way_92 rfl rfl (Nat.le_of_ble_eq_true rfl) rfl ?_
            refine V_goto (tgt := 32) dX9_way_95 (by decide) ?_
            refine V_lv (lv2 := [(8, .int _), (7, .int _), (5, .long _), (4, .int _), (0, .ref _), (1, .int _), (2, .int _), (3, .int _)]) [0, 1, 2, 3, 4, 5, 6, 7] rfl ?_
            rw [nI_1]
            exact ih (c + 1) (by omega) (by omega) (j + 1) (some (c0, l0)) (by omega) (by omega) (fun i a1 a2 => hlow i a1 a2) (fun i a1 a2 => hup i a1 a2) (bw_no hst (by rw [show stdI σ a b j = false from bI_0 c56, Bool.and_false]; rfl))
          · refine V_aload_n 4 dX9_way_59 rfl ?_
            refine V_iload 0 dX9_way_60 rfl ?_
            refine V_iload 1 dX9_way_62 rfl ?_
            refine V_iload_n 7 dX9_way_64 rfl ?_
            refine C_X9_263 hM.1 rfl ⟨Nat.le_of_ble_eq_true rfl, Nat.le_of_ble_eq_true rfl⟩ (r9_rounding hM hI c s rfl rfl (by omega) h2 h5 (isW_lt hisW) (by rw [hdst]; exact bI_1 c56)) rfl (Nat.le_of_ble_eq_true rfl) dX9_way_65 rfl ?_
            rw [hcost]
            refine V_lstore (lv2 := [(9, .long _), (8, .int _), (7, .int _), (5, .long _), (4, .int _), (0, .ref _), (1, .int _), (2, .int _), (3, .int _)]) dX9_way_68 (Nat.le_of_ble_eq_true rfl) rfl ?_
            refine V_iload 4 dX9_way_70 rfl ?_
            refine V_pc (pc2 := 72) rfl ?_
            refine V_iconst (v := -1) dX9_way_72 rfl ?_
            refine V_icmp_eq (tgt := 84) dX9_way_73 (by decide) (fun c73 => absurd c73 (m1_ne (by have h9 : c0 < 100000 := hok; omega))) (fun c73 => ?_)
            refine V_lload 0 dX9_way_76 rfl ?_
            refine V_lload 3 dX9_way_78 rfl ?_
            refine V_lcmp dX9_way_80 ?_
            refine V_if_ge (tgt := 92) dX9_way_81 (by decide) (fun c81 => ?_) (fun c81 => ?_)
            · refine V_iinc (v := _ + 1) (lv2 := [(8, .int _), (9, .long _), (7, .int _), (5, .long _), (4, .int _), (0, .ref _), (1, .int _), (2, .int _), (3, .int _)]) 1 dX9_way_92 rfl rfl (Nat.le_of_ble_eq_true rfl) rfl ?_
              refine V_goto (tgt := 32) dX9_way_95 (by decide) ?_
              refine V_lv (lv2 := [(8, .int _), (7, .int _), (5, .long _), (4, .int _), (0, .ref _), (1, .int _), (2, .int _), (3, .int _)]) [0, 2, 3, 4, 5, 6, 7, 8] rfl ?_
              have hstd : stdI σ a b j = true := bI_1 c56
              rw [nI_1]
              exact ih (c + 1) (by omega) (by omega) (j + 1) (some (c0, l0)) (by omega) (by omega) (fun i a1 a2 => hlow i a1 a2) (fun i a1 a2 => hup i a1 a2) (bw_no hst (by rw [decide_eq_true hsK, hstd]; show (true && true && decide (costW σ a b x.toInt64 j < l0)) = false; rw [decide_eq_false (show ¬ costW σ a b x.toInt64 j < l0 from Int64.not_lt.mpr (lgc_ge.mp c81))]; rfl))
            · refine V_iload 1 dX9_way_84 rfl ?_
              refine V_istore (lv2 := [(4, .int _), (9, .long _), (8, .int _), (7, .int _), (5, .long _), (0, .ref _), (1, .int _), (2, .int _), (3, .int _)]) dX9_way_86 (Nat.le_of_ble_eq_true rfl) rfl ?_
              refine V_lload 1 dX9_way_88 rfl ?_
              refine V_lstore (lv2 := [(5, .long _), (4, .int _), (9, .long _), (8, .int _), (7, .int _), (0, .ref _), (1, .int _), (2, .int _), (3, .int _)]) dX9_way_90 (Nat.le_of_ble_eq_true rfl) rfl ?_
              refine V_iinc (v := _ + 1) (lv2 := [(8, .int _), (5, .long _), (4, .int _), (9, .long _), (7, .int _), (0, .ref _), (1, .int _), (2, .int _), (3, .int _)]) 3 dX9_way_92 rfl rfl (Nat.le_of_ble_eq_true rfl) rfl ?_
              refine V_goto (tgt := 32) dX9_way_95 (by decide) ?_
              refine V_lv (lv2 := [(8, .int _), (7, .int _), (5, .long _), (4, .int _), (0, .ref _), (1, .int _), (2, .int _), (3, .int _)]) [0, 4, 1, 2, 5, 6, 7, 8] rfl ?_
              have hstd : stdI σ a b j = true := bI_1 c56
              rw [nI_1]
              exact ih (c + 1) (by omega) (by omega) (j + 1) (some (c, costW σ a b x.toInt64 j)) (by omega) (by omega) (fun i a1 a2 => hlow i a1 a2) (fun i a1 a2 => hup i a1 a2) (by have e9 := bw_yes hst (by rw [decide_eq_true hsK, hstd]; show (true && true && decide (costW σ a b x.toInt64 j < l0)) = true; rw [decide_eq_true (show costW σ a b x.toInt64 j < l0 from Int64.not_le.mp (fun h => c81 (lgc_ge.mpr h)))]; rfl); rw [hcj] at e9; exact e9)
    · have hled : ledS σ c s a b = false := by
        refine (Bool.not_eq_true _).mp fun h => hx ?_
        obtain ⟨i, hi, hsi, hci⟩ := led_no h2 h5 hc9 h
        obtain ⟨a1, a2⟩ := (seg s i h2 h5 hi).mp hsi
        have hji : j ≤ i := Nat.le_of_not_lt fun e => by have := h6 i a1 e; omega
        by_cases e : i = j
        · rw [← e]; exact ⟨a2, hci⟩
        · have hsj := (seg s j h2 h5 (by omega)).mpr ⟨h3, by omega⟩
          have h8 := wC_lt a b j i ha hb hab (by omega) (by omega) (by omega) (by omega)
          have h9 := h7 j (Nat.le_refl _) (by omega)
          omega
      have hnot : ∀ i, j ≤ i → i < wlo (s + 1) → c + 1 ≤ wC a b i := by
        intro i a1 a2
        have h8 := h7 i a1 a2
        have hne : wC a b i ≠ c := by
          intro e
          by_cases e2 : i = j
          · exact hx ⟨by omega, by rw [← e2]; exact e⟩
          · have hsi := (seg s i h2 h5 (by omega)).mpr ⟨by omega, a2⟩
            have hsj := (seg s j h2 h5 (by omega)).mpr ⟨h3, by omega⟩
            have h9 := wC_lt a b j i ha hb hab (by omega) (by omega) (by omega) (by omega)
            have h10 := h7 j (Nat.le_refl _) (by omega)
            omega
        omega
      cases st with
      | none =>
        · skip
          refine V_iload 0 dX9_way_32 rfl ?_
          refine V_iload_n 5 dX9_way_34 rfl ?_
          refine V_iconst (v := 1) dX9_way_35 rfl ?_
          refine V_iadd dX9_way_36 ?_
          refine V_iload 1 dX9_way_37 rfl ?_
          refine C_X9_256 rfl ⟨Nat.le_of_ble_eq_true rfl, Nat.le_of_ble_eq_true rfl⟩ (r9_power s rfl h2 h5) rfl (Nat.le_of_ble_eq_true rfl) dX9_way_39 rfl ?_
          refine V_imul dX9_way_42 ?_
          refine V_pc (pc2 := 43) rfl ?_
          rw [nI_1, pk_mul]
          refine V_icmp_ge (tgt := 98) dX9_way_43 (by decide) (fun c43 => absurd c43 (nI_ge (by omega) (by omega))) (fun c43 => ?_)
          refine V_aload_n 4 dX9_way_46 rfl ?_
          refine V_iload 0 dX9_way_47 rfl ?_
          refine V_iload 1 dX9_way_49 rfl ?_
          refine V_iload_n 5 dX9_way_51 rfl ?_
          refine V_iload_n 6 dX9_way_52 rfl ?_
          refine C_X9_259 hM.1 rfl ⟨Nat.le_of_ble_eq_true rfl, Nat.le_of_ble_eq_true rfl⟩ (r9_leads hM c s a b rfl rfl rfl rfl (by omega) h2 h5 ha hb) rfl (Nat.le_of_ble_eq_true rfl) dX9_way_53 rfl ?_
          refine V_if_eq (tgt := 92) dX9_way_56 (by decide) (fun c56 => ?_) (fun c56 => absurd (by rw [hled]; rfl) c56)
          refine V_pc (pc2 := 92) rfl ?_
          refine V_iinc (v := _ + 1) (lv2 := [(8, .int _), (7, .int _), (5, .long _), (4, .int _), (0, .ref _), (1, .int _), (2, .int _), (3, .int _)]) 0 dX9_way_92 rfl rfl (Nat.le_of_ble_eq_true rfl) rfl ?_
          refine V_goto (tgt := 32) dX9_way_95 (by decide) ?_
          refine V_lv (lv2 := [(8, .int _), (7, .int _), (5, .long _), (4, .int _), (0, .ref _), (1, .int _), (2, .int _), (3, .int _)]) [0, 1, 2, 3, 4, 5, 6, 7] rfl ?_
          rw [nI_1]
          exact ih (c + 1) (by omega) (by omega) j none h3 h4 (fun i a1 a2 => Nat.lt_succ_of_lt (h6 i a1 a2)) (fun i a1 a2 => hnot i a1 a2) hst
      | some y =>
        obtain ⟨c0, l0⟩ := y
        · skip
          refine V_iload 0 dX9_way_32 rfl ?_
          refine V_iload_n 5 dX9_way_34 rfl ?_
          refine V_iconst (v := 1) dX9_way_35 rfl ?_
          refine V_iadd dX9_way_36 ?_
          refine V_iload 1 dX9_way_37 rfl ?_
          refine C_X9_256 rfl ⟨Nat.le_of_ble_eq_true rfl, Nat.le_of_ble_eq_true rfl⟩ (r9_power s rfl h2 h5) rfl (Nat.le_of_ble_eq_true rfl) dX9_way_39 rfl ?_
          refine V_imul dX9_way_42 ?_
          refine V_pc (pc2 := 43) rfl ?_
          rw [nI_1, pk_mul]
          refine V_icmp_ge (tgt := 98) dX9_way_43 (by decide) (fun c43 => absurd c43 (nI_ge (by omega) (by omega))) (fun c43 => ?_)
          refine V_aload_n 4 dX9_way_46 rfl ?_
          refine V_iload 0 dX9_way_47 rfl ?_
          refine V_iload 1 dX9_way_49 rfl ?_
          refine V_iload_n 5 dX9_way_51 rfl ?_
          refine V_iload_n 6 dX9_way_52 rfl ?_
          refine C_X9_259 hM.1 rfl ⟨Nat.le_of_ble_eq_true rfl, Nat.le_of_ble_eq_true rfl⟩ (r9_leads hM c s a b rfl rfl rfl rfl (by omega) h2 h5 ha hb) rfl (Nat.le_of_ble_eq_true rfl) dX9_way_53 rfl ?_
          refine V_if_eq (tgt := 92) dX9_way_56 (by decide) (fun c56 => ?_) (fun c56 => absurd (by rw [hled]; rfl) c56)
          refine V_pc (pc2 := 92) rfl ?_
          refine V_iinc (v := _ + 1) (lv2 := [(8, .int _), (7, .int _), (5, .long _), (4, .int _), (0, .ref _), (1, .int _), (2, .int _), (3, .int _)]) 0 dX9_way_92 rfl rfl (Nat.le_of_ble_eq_true rfl) rfl ?_
          refine V_goto (tgt := 32) dX9_way_95 (by decide) ?_
          refine V_lv (lv2 := [(8, .int _), (7, .int _), (5, .long _), (4, .int _), (0, .ref _), (1, .int _), (2, .int _), (3, .int _)]) [0, 1, 2, 3, 4, 5, 6, 7] rfl ?_
          rw [nI_1]
          exact ih (c + 1) (by omega) (by omega) j (some (c0, l0)) h3 h4 (fun i a1 a2 => Nat.lt_succ_of_lt (h6 i a1 a2)) (fun i a1 a2 => hnot i a1 a2) hst

theorem wlo_mono : ∀ s, s ≤ 5 → wlo s ≤ wlo (s + 1) := by
  have h : ((List.range 6).all fun s => decide (wlo s ≤ wlo (s + 1))) = true := by decide +kernel
  intro s hs
  exact of_decide_eq_true (all_lt h s (by omega))
set_option maxRecDepth 20000 in
theorem r9_way {g : GE} {M : Mem} {sz : Nat} {σ v : Nat → Int32} (hM : MD g M σ v) (hI : I10 σ) {y z x : Int32} (a b K : Nat) (hy : y = nI a) (hz : z = nI b) (ha : a < 5) (hb : b < 5) (hab : a ≠ b) (hK : σ 27 = nI K) (hK1 : 1 ≤ K) (hK4 : K ≤ 4) : Run g m_X9_way [rf g 96, .int y, .int z, .int x] M sz 0 0 (Ret (some (.int (fC (bwS σ a b x.toInt64 K 16)))) M) := by
  subst hy hz
  have L : ∀ m s : Nat, s + m = 6 → 2 ≤ s → ∀ st : BS, bwS σ a b x.toInt64 K (wlo s) = st → V g m_X9_way 9 [(7, .int (nI s)), (5, .long (lR st)), (4, .int (fR st)), (0, rf g 96), (1, .int (nI a)), (2, .int (nI b)), (3, .int x)] [] M sz 0 0 (Ret (some (.int (fC (bwS σ a b x.toInt64 K 16)))) M) := by
    intro m
    have ex : ∀ s : Nat, s ≤ 6 → 2 ≤ s → K + 1 < s → ∀ st : BS, bwS σ a b x.toInt64 K (wlo s) = st → V g m_X9_way 9 [(7, .int (nI s)), (5, .long (lR st)), (4, .int (fR st)), (0, rf g 96), (1, .int (nI a)), (2, .int (nI b)), (3, .int x)] [] M sz 0 0 (Ret (some (.int (fC (bwS σ a b x.toInt64 K 16)))) M) := by
      intro s hs6 h2 hKs st hst
      have hok : bsOK st := by rw [← hst]; exact bwS_ok ha hb hab _ (wlo_16 s)
      have hfin : bwS σ a b x.toInt64 K 16 = st := by rw [← hst]; exact bw_skip (fun i a1 a2 => by rcases seg_le s i hs6 a2 a1 with h | h <;> omega) 16 (wlo_16 s) (Nat.le_refl _)
      cases st with
      | none =>
        · skip
          refine V_iload 0 dX9_way_9 rfl ?_
          refine V_aload_n 3 dX9_way_11 rfl ?_
          refine G_X9_7 rfl hM.1 rfl dX9_way_12 ?_
          refine V_bipush (v := 27) dX9_way_15 (by decide) ?_
          refine V_iald hM.2.1 (v65 27 (by decide)) dX9_way_17 ?_
          refine V_iconst (v := 1) dX9_way_18 rfl ?_
          refine V_iadd dX9_way_19 ?_
          refine V_pc (pc2 := 20) rfl ?_
          rw [show σ (27 : Int32).toNatClampNeg = nI K from hK, nI_1]
          refine V_icmp_gt (tgt := 104) dX9_way_20 (by decide) (fun c20 => ?_) (fun c20 => absurd (nI_lt (by omega) (by omega)) c20)
          refine V_iload 2 dX9_way_104 rfl ?_
          refine V_iconst (v := -1) dX9_way_106 rfl ?_
          refine V_icmp_ne (tgt := 114) dX9_way_107 (by decide) (fun c107 => absurd rfl c107) (fun c107 => ?_)
          refine V_iconst (v := -1) dX9_way_110 rfl ?_
          refine V_goto (tgt := 119) dX9_way_111 (by decide) ?_
          refine V_iret (st := []) dX9_way_119 rfl ?_
          rw [hfin]
          exact ⟨rfl, rfl⟩
      | some y =>
        obtain ⟨c0, l0⟩ := y
        · skip
          refine V_iload 0 dX9_way_9 rfl ?_
          refine V_aload_n 3 dX9_way_11 rfl ?_
          refine G_X9_7 rfl hM.1 rfl dX9_way_12 ?_
          refine V_bipush (v := 27) dX9_way_15 (by decide) ?_
          refine V_iald hM.2.1 (v65 27 (by decide)) dX9_way_17 ?_
          refine V_iconst (v := 1) dX9_way_18 rfl ?_
          refine V_iadd dX9_way_19 ?_
          refine V_pc (pc2 := 20) rfl ?_
          rw [show σ (27 : Int32).toNatClampNeg = nI K from hK, nI_1]
          refine V_icmp_gt (tgt := 104) dX9_way_20 (by decide) (fun c20 => ?_) (fun c20 => absurd (nI_lt (by omega) (by omega)) c20)
          refine V_iload 2 dX9_way_104 rfl ?_
          refine V_iconst (v := -1) dX9_way_106 rfl ?_
          refine V_icmp_ne (tgt := 114) dX9_way_107 (by decide) (fun c107 => ?_) (fun c107 => absurd c107 (m1_ne (by have h9 : c0 < 100000 := hok; omega)))
          refine V_iload 2 dX9_way_114 rfl ?_
          refine V_ldc z_X9_35 dX9_way_116 ?_
          refine V_iadd dX9_way_118 ?_
          refine V_iret (st := []) dX9_way_119 rfl ?_
          rw [hfin]
          refine ⟨?_, rfl⟩
          show Sum.inl (some (Value.int (nI c0 + nI 100000))) = _
          rw [nI_add]
          rfl
    induction m with
    | zero => intro s hs h2 st hst; exact ex s (by omega) h2 (by omega) st hst
    | succ m ih =>
      intro s hs h2 st hst
      by_cases hKs : K + 1 < s
      · exact ex s (by omega) h2 hKs st hst
      · have h5 : s ≤ 5 := by omega
        have hpw : (a + 1) * 10 ^ (s - 1) ≤ 50000 := Nat.le_trans (Nat.mul_le_mul (show a + 1 ≤ 5 by omega) (Nat.pow_le_pow_right (by decide) (show s - 1 ≤ 4 by omega))) (by decide)
        have hwl := wlo_16 (s + 1)
        have hwm := wlo_mono s h5
        refine V_iload 0 dX9_way_9 rfl ?_
        refine V_aload_n 3 dX9_way_11 rfl ?_
        refine G_X9_7 rfl hM.1 rfl dX9_way_12 ?_
        refine V_bipush (v := 27) dX9_way_15 (by decide) ?_
        refine V_iald hM.2.1 (v65 27 (by decide)) dX9_way_17 ?_
        refine V_iconst (v := 1) dX9_way_18 rfl ?_
        refine V_iadd dX9_way_19 ?_
        refine V_pc (pc2 := 20) rfl ?_
        rw [show σ (27 : Int32).toNatClampNeg = nI K from hK, nI_1]
        refine V_icmp_gt (tgt := 104) dX9_way_20 (by decide) (fun c20 => absurd c20 (nI_nlt (by omega) (by omega))) (fun c20 => ?_)
        refine V_iload_n 4 dX9_way_23 rfl ?_
        refine V_iload 0 dX9_way_24 rfl ?_
        refine C_X9_256 rfl ⟨Nat.le_of_ble_eq_true rfl, Nat.le_of_ble_eq_true rfl⟩ (r9_power s rfl h2 h5) rfl (Nat.le_of_ble_eq_true rfl) dX9_way_26 rfl ?_
        refine V_imul dX9_way_29 ?_
        refine V_istore (lv2 := [(8, .int _), (7, .int _), (5, .long _), (4, .int _), (0, .ref _), (1, .int _), (2, .int _), (3, .int _)]) dX9_way_30 (Nat.le_of_ble_eq_true rfl) rfl ?_
        refine V_lv (lv2 := [(8, .int _), (7, .int _), (5, .long _), (4, .int _), (0, .ref _), (1, .int _), (2, .int _), (3, .int _)]) [0, 1, 2, 3, 4, 5, 6, 7] rfl ?_
        rw [pk_mul]
        refine way_in hM hI ha hb hab h2 h5 (by omega) (fun st2 hst2 => ih (s + 1) (by omega) (by omega) st2 hst2) (10 ^ (s - 1)) (a * 10 ^ (s - 1)) (by rw [Nat.succ_mul]) (Nat.le_refl _) (wlo s) st (Nat.le_refl _) (hwm) (fun i a1 a2 => absurd a1 (by omega)) (fun i a1 a2 => ?_) hst
        have hsi := (seg s i h2 h5 (by omega)).mpr ⟨a1, a2⟩
        have h9 := (wC_ok a b i ha hb hab (by omega)).2.2.2.2.1
        rw [hsi] at h9
        exact h9
  refine Run.of rfl (by decide) (Nat.le_of_ble_eq_true rfl) ?_
  show V g m_X9_way 0 _ [] _ _ _ _ _
  refine V_iconst (v := -1) dX9_way_0 rfl ?_
  refine V_istore (lv2 := [(4, .int _), (0, .ref _), (1, .int _), (2, .int _), (3, .int _)]) dX9_way_1 (Nat.le_of_ble_eq_true rfl) rfl ?_
  refine V_lconst (v := 0) dX9_way_3 rfl ?_
  refine V_lstore (lv2 := [(5, .long _), (4, .int _), (0, .ref _), (1, .int _), (2, .int _), (3, .int _)]) dX9_way_4 (Nat.le_of_ble_eq_true rfl) rfl ?_
  refine V_iconst (v := 2) dX9_way_6 rfl ?_
  refine V_istore (lv2 := [(7, .int _), (5, .long _), (4, .int _), (0, .ref _), (1, .int _), (2, .int _), (3, .int _)]) dX9_way_7 (Nat.le_of_ble_eq_true rfl) rfl ?_
  refine V_lv (lv2 := [(7, .int _), (5, .long _), (4, .int _), (0, .ref _), (1, .int _), (2, .int _), (3, .int _)]) [0, 1, 2, 3, 4, 5, 6] rfl ?_
  exact L 4 2 (by omega) (Nat.le_refl _) none rfl

set_option maxRecDepth 20000 in
theorem q9_bestWay_1 {g : GE} {M : Mem} {sz : Nat} {σ sn : Nat → Int32} {hk : Bool} {n : Nat} {ps : Nat → Nat → Int32} {len : Nat} {tx : Nat → Int32} {th : Int32} (hL : ML g M σ sn hk n ps len tx th) {a b c : Int32} (h : isP a = false ∨ isP b = false) : Run g m_X9_bestWay [rf g 96, .int a, .int b, .int c] M sz 0 0 (RetP (some (.int 0)) (fun M2 => ML g M2 (σ) (sn) (hk) (n) (ps) (len) (tx) (1) ∧ FR M M2 96 9)) := by
  obtain ⟨⟨v, hM, v0, v1, v2, v3⟩, ⟨pf, f1, f2⟩, f3, f4, f5⟩ := id hL
  refine Run.of rfl (by decide) (Nat.le_of_ble_eq_true rfl) ?_
  show V g m_X9_bestWay 0 _ [] _ _ _ _ _
  refine V_aload_n 0 dX9_bestWay_0 rfl ?_
  refine V_iload_n 1 dX9_bestWay_1 rfl ?_
  refine V_iload_n 2 dX9_bestWay_2 rfl ?_
  refine V_iload_n 3 dX9_bestWay_3 rfl ?_
  refine V_iconst (v := 0) dX9_bestWay_4 rfl ?_
  refine V_sipush (v := 9999) dX9_bestWay_5 (by decide) ?_
  refine C_X9_44 rfl ⟨Nat.le_of_ble_eq_true rfl, Nat.le_of_ble_eq_true rfl⟩ (r9_in _ _ _) rfl (Nat.le_of_ble_eq_true rfl) dX9_bestWay_8 rfl ?_
  refine V_pc (pc2 := 11) rfl ?_
  refine C_X9_220 rfl ⟨Nat.le_of_ble_eq_true rfl, Nat.le_of_ble_eq_true rfl⟩ (r9_badP_1 h) rfl (Nat.le_of_ble_eq_true rfl) dX9_bestWay_11 rfl ?_
  refine C_X9_111 hM.1 rfl ⟨Nat.le_of_ble_eq_true rfl, Nat.le_of_ble_eq_true rfl⟩ (r9_refused hM 1) rfl (Nat.le_of_ble_eq_true rfl) dX9_bestWay_14 rfl ?_
  refine V_if_eq (tgt := 22) dX9_bestWay_17 (by decide) (fun c17 => absurd c17 (by decide)) (fun c17 => ?_)
  refine V_iconst (v := 0) dX9_bestWay_20 rfl ?_
  refine V_iret (st := []) dX9_bestWay_21 rfl ?_
  refine ⟨rfl, hL.thr hM v0 v1 v2, (FR.refl M 96 9).put (by omega)⟩

set_option maxRecDepth 20000 in
theorem q9_bestWay_2 {g : GE} {M : Mem} {sz : Nat} {σ sn : Nat → Int32} {hk : Bool} {n : Nat} {ps : Nat → Nat → Int32} {len : Nat} {tx : Nat → Int32} {th : Int32} (hL : ML g M σ sn hk n ps len tx th) {a b c : Int32} (ha : isP a = true) (hb : isP b = true) (h : a = b ∨ inI c 0 9999 = false) : Run g m_X9_bestWay [rf g 96, .int a, .int b, .int c] M sz 0 0 (RetP (some (.int 0)) (fun M2 => ML g M2 (σ) (sn) (hk) (n) (ps) (len) (tx) (2) ∧ FR M M2 96 9)) := by
  obtain ⟨⟨v, hM, v0, v1, v2, v3⟩, ⟨pf, f1, f2⟩, f3, f4, f5⟩ := id hL
  refine Run.of rfl (by decide) (Nat.le_of_ble_eq_true rfl) ?_
  show V g m_X9_bestWay 0 _ [] _ _ _ _ _
  refine V_aload_n 0 dX9_bestWay_0 rfl ?_
  refine V_iload_n 1 dX9_bestWay_1 rfl ?_
  refine V_iload_n 2 dX9_bestWay_2 rfl ?_
  refine V_iload_n 3 dX9_bestWay_3 rfl ?_
  refine V_iconst (v := 0) dX9_bestWay_4 rfl ?_
  refine V_sipush (v := 9999) dX9_bestWay_5 (by decide) ?_
  refine C_X9_44 rfl ⟨Nat.le_of_ble_eq_true rfl, Nat.le_of_ble_eq_true rfl⟩ (r9_in _ _ _) rfl (Nat.le_of_ble_eq_true rfl) dX9_bestWay_8 rfl ?_
  refine V_pc (pc2 := 11) rfl ?_
  refine C_X9_220 rfl ⟨Nat.le_of_ble_eq_true rfl, Nat.le_of_ble_eq_true rfl⟩ (r9_badP_2 ha hb (h.imp id (fun h => by rw [h]; rfl))) rfl (Nat.le_of_ble_eq_true rfl) dX9_bestWay_11 rfl ?_
  refine C_X9_111 hM.1 rfl ⟨Nat.le_of_ble_eq_true rfl, Nat.le_of_ble_eq_true rfl⟩ (r9_refused hM 2) rfl (Nat.le_of_ble_eq_true rfl) dX9_bestWay_14 rfl ?_
  refine V_if_eq (tgt := 22) dX9_bestWay_17 (by decide) (fun c17 => absurd c17 (by decide)) (fun c17 => ?_)
  refine V_iconst (v := 0) dX9_bestWay_20 rfl ?_
  refine V_iret (st := []) dX9_bestWay_21 rfl ?_
  refine ⟨rfl, hL.thr hM v0 v1 v2, (FR.refl M 96 9).put (by omega)⟩

set_option maxRecDepth 20000 in
theorem q9_bestWay_ok {g : GE} {M : Mem} {sz : Nat} {σ sn : Nat → Int32} {hk : Bool} {n : Nat} {ps : Nat → Nat → Int32} {len : Nat} {tx : Nat → Int32} {th : Int32} (hL : ML g M σ sn hk n ps len tx th) {a b c : Int32} (hI : I10 σ) (i j K : Nat) (hi : i < 5) (hj : j < 5) (ha : a = nI i) (hb : b = nI j) (hij : i ≠ j) (hK : σ 27 = nI K) (hK1 : 1 ≤ K) (hK4 : K ≤ 4) (hc : ¬ c < 0) (hc2 : c ≤ 9999) : Run g m_X9_bestWay [rf g 96, .int a, .int b, .int c] M sz 0 0 (RetP (some (.int (fC (bwS σ i j c.toInt64 K 16)))) (fun M2 => ML g M2 (σ) (sn) (hk) (n) (ps) (len) (tx) (0) ∧ FR M M2 96 9)) := by
  subst ha hb
  obtain ⟨⟨v, hM, v0, v1, v2, v3⟩, ⟨pf, f1, f2⟩, f3, f4, f5⟩ := id hL
  refine Run.of rfl (by decide) (Nat.le_of_ble_eq_true rfl) ?_
  show V g m_X9_bestWay 0 _ [] _ _ _ _ _
  refine V_aload_n 0 dX9_bestWay_0 rfl ?_
  refine V_iload_n 1 dX9_bestWay_1 rfl ?_
  refine V_iload_n 2 dX9_bestWay_2 rfl ?_
  refine V_iload_n 3 dX9_bestWay_3 rfl ?_
  refine V_iconst (v := 0) dX9_bestWay_4 rfl ?_
  refine V_sipush (v := 9999) dX9_bestWay_5 (by decide) ?_
  refine C_X9_44 rfl ⟨Nat.le_of_ble_eq_true rfl, Nat.le_of_ble_eq_true rfl⟩ (r9_in _ _ _) rfl (Nat.le_of_ble_eq_true rfl) dX9_bestWay_8 rfl ?_
  refine V_pc (pc2 := 11) rfl ?_
  refine C_X9_220 rfl ⟨Nat.le_of_ble_eq_true rfl, Nat.le_of_ble_eq_true rfl⟩ (r9_badP_0 (isP_nI hi) (isP_nI hj) (fun e => hij ((nI_eq (by omega) (by omega)).mp e)) (by rw [inI_t hc hc2]; decide)) rfl (Nat.le_of_ble_eq_true rfl) dX9_bestWay_11 rfl ?_
  refine C_X9_111 hM.1 rfl ⟨Nat.le_of_ble_eq_true rfl, Nat.le_of_ble_eq_true rfl⟩ (r9_refused hM 0) rfl (Nat.le_of_ble_eq_true rfl) dX9_bestWay_14 rfl ?_
  refine V_if_eq (tgt := 22) dX9_bestWay_17 (by decide) (fun c17 => ?_) (fun c17 => absurd (by decide) c17)
  refine V_aload_n 0 dX9_bestWay_22 rfl ?_
  refine V_iload_n 1 dX9_bestWay_23 rfl ?_
  refine V_iload_n 2 dX9_bestWay_24 rfl ?_
  refine V_iload_n 3 dX9_bestWay_25 rfl ?_
  refine C_X9_267 (hM.v _).1 rfl ⟨Nat.le_of_ble_eq_true rfl, Nat.le_of_ble_eq_true rfl⟩ (r9_way (hM.v _) hI i j K rfl rfl hi hj hij hK hK1 hK4) rfl (Nat.le_of_ble_eq_true rfl) dX9_bestWay_26 rfl ?_
  refine V_pc (pc2 := 29) rfl ?_
  refine V_iret (st := []) dX9_bestWay_29 rfl ?_
  exact ⟨rfl, hL.thr hM v0 v1 v2, (FR.refl M 96 9).put (by omega)⟩

theorem op_bestWay (g : GE) (a b c : Int32) : OPL g m_L_bestWay m_X9_bestWay [rf g 0, .int a, .int b, .int c, rf g 105] [rf g 96, .int a, .int b, .int c] := by
  rintro M sz ⟨th, σ, τ, sn, hk, n, ps, len, tx, hW⟩
  obtain ⟨w1, w2, ⟨i1, i2, i3, i4, i5, i6⟩, o, w4⟩ := id hW
  by_cases hP : isP a = true ∧ isP b = true
  · obtain ⟨ha, hb⟩ := hP
    by_cases hab : a = b
    · exact OPL.bad hW (c := 2) (by decide) (by decide) (h_bestWay_2 w1.1 (x_bestWay_2a w1 ha hb hab)) (fun M2 sz2 h => q9_bestWay_2 h ha hb (Or.inl hab))
    · by_cases hu : c < 0 ∨ ¬ c ≤ 9999
      · exact OPL.bad hW (c := 2) (by decide) (by decide) (h_bestWay_2 w1.1 (x_bestWay_2b w1 ha hb hab hu)) (fun M2 sz2 h => q9_bestWay_2 h ha hb (Or.inr (inI_f hu)))
      · have hu1 : ¬ c < 0 := fun h => hu (Or.inl h)
        have hu2 : c ≤ 9999 := Decidable.of_not_not (fun h => hu (Or.inr h))
        obtain ⟨i, hi, rfl⟩ := isP_ex ha
        obtain ⟨j, hj, rfl⟩ := isP_ex hb
        have hij : i ≠ j := fun e => hab (by rw [e])
        obtain ⟨K, hK1, hK4, hK⟩ := i1.2.2.2.2.2.1
        exact OPL.ok hW (σ2 := σ) (τ2 := τ) (sn2 := sn) (hk2 := hk) (n2 := n) (ps2 := ps) (len2 := len) (tx2 := tx) ⟨i1, i2, i3, i4, i5, i6⟩ (h_bestWay_ok w1.1 (x_bestWay_ok w1 i1.1 i j K hi hj rfl rfl hij hK hK1 hK4 hu1 hu2) (fun M1 q => CW.out w4 q.2)) (fun M2 sz2 h => q9_bestWay_ok h i1.1 i j K hi hj rfl rfl hij hK hK1 hK4 hu1 hu2)
  · have h : isP a = false ∨ isP b = false := by
      by_cases ha : isP a = true
      · exact Or.inr ((Bool.not_eq_true _).mp fun hb => hP ⟨ha, hb⟩)
      · exact Or.inl ((Bool.not_eq_true _).mp ha)
    exact OPL.bad hW (c := 1) (by decide) (by decide) (h_bestWay_1 w1.1 (x_bestWay_1 w1 h)) (fun M2 sz2 hh => q9_bestWay_1 hh h)
