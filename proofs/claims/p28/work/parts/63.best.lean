/-! bestWay -/
def costW (σ : Nat → Int32) (a b : Nat) (x : Int64) (i : Nat) : Int64 := (rofS σ (oSt a b i) x (wSz i - 1)).2
def stdI (σ : Nat → Int32) (a b i : Nat) : Bool := stdW σ (oSt a b i) (wSz i - 1)
abbrev BS : Type := Option (Nat × Int64)
def bett : BS → Int64 → Bool
  | none, _ => true
  | some (_, l), x => decide (x < l)
def bwStep (σ : Nat → Int32) (a b : Nat) (x : Int64) (K i : Nat) (s : BS) : BS := if (decide (wSz i ≤ K + 1) && stdI σ a b i && bett s (costW σ a b x i)) = true then some (wC a b i, costW σ a b x i) else s
def bwS (σ : Nat → Int32) (a b : Nat) (x : Int64) (K : Nat) : Nat → BS
  | 0 => none
  | i + 1 => bwStep σ a b x K i (bwS σ a b x K i)
theorem bw_no {σ : Nat → Int32} {a b : Nat} {x : Int64} {K i : Nat} {s : BS} (h : bwS σ a b x K i = s) (h2 : (decide (wSz i ≤ K + 1) && stdI σ a b i && bett s (costW σ a b x i)) = false) : bwS σ a b x K (i + 1) = s := by
  show bwStep σ a b x K i (bwS σ a b x K i) = s
  unfold bwStep
  rw [h, h2]
  exact if_neg (by decide)
theorem bw_yes {σ : Nat → Int32} {a b : Nat} {x : Int64} {K i : Nat} {s : BS} (h : bwS σ a b x K i = s) (h2 : (decide (wSz i ≤ K + 1) && stdI σ a b i && bett s (costW σ a b x i)) = true) : bwS σ a b x K (i + 1) = some (wC a b i, costW σ a b x i) := by
  show bwStep σ a b x K i (bwS σ a b x K i) = _
  unfold bwStep
  rw [h, h2]
  exact if_pos rfl
def fC : BS → Int32
  | none => -1
  | some (c, _) => nI (c + 100000)
def lR : BS → Int64
  | none => 0
  | some (_, l) => l
def bsOK : BS → Prop
  | none => True
  | some (c, _) => c < 100000
theorem bwS_ok {σ : Nat → Int32} {a b : Nat} {x : Int64} {K : Nat} (ha : a < 5) (hb : b < 5) (hab : a ≠ b) : ∀ i, i ≤ 16 → bsOK (bwS σ a b x K i) := by
  intro i
  induction i with
  | zero => intro _; trivial
  | succ i ih =>
    intro hi
    show bsOK (bwStep σ a b x K i (bwS σ a b x K i))
    unfold bwStep
    split
    · exact (wC_ok a b i ha hb hab (by omega)).1
    · exact ih (by omega)
theorem m1_ne {c : Nat} (h : c < 2 ^ 31) : ¬ nI c = -1 := fun e => absurd (show (-1 : Int32) < 0 by decide) (by rw [← e]; exact nI_pos h)
theorem CW.wy {g : GE} {M M1 : Mem} {σ τ : Nat → Int32} {hk : Bool} {n : Nat} {ps : Nat → Nat → Int32} {len : Nat} {tx : Nat → Int32} (h : CW g M σ τ hk n ps len tx) {st : Nat → Nat} {s : Nat} (hW : WG g M1 st s) (e : FR M M1 90 2) : CW g M1 σ τ hk n ps len tx := by
  refine h.scr ?_ (e.wide (by omega))
  obtain ⟨⟨r1, r2, r3⟩, ⟨f, p, t1, t2⟩, ⟨w, z, w1, w2⟩, ⟨m1, a, b, m2, m3⟩, ⟨u, u1⟩⟩ := h.2.2.2.2.2
  obtain ⟨⟨w9, k1, k2, k3⟩, _⟩ := hW
  exact ⟨⟨(e _ (by omega)).trans r1, (e _ (by omega)).trans r2, (e _ (by omega)).trans r3⟩, ⟨f, p, (e _ (by omega)).trans t1, (e _ (by omega)).trans t2⟩, ⟨w9, _, k1, k2⟩, ⟨(e _ (by omega)).trans m1, a, b, (e _ (by omega)).trans m2, (e _ (by omega)).trans m3⟩, ⟨u, (e _ (by omega)).trans u1⟩⟩
set_option maxRecDepth 20000 in
theorem x_bestWay_ok {g : GE} {M : Mem} {sz : Nat} {σ τ : Nat → Int32} {hk : Bool} {n : Nat} {ps : Nat → Nat → Int32} {len : Nat} {tx : Nat → Int32} (hC : CW g M σ τ hk n ps len tx) {a b c : Int32} (hI : I10 σ) (i j K : Nat) (hi : i < 5) (hj : j < 5) (ha : a = nI i) (hb : b = nI j) (hij : i ≠ j) (hK : σ 27 = nI K) (hK1 : 1 ≤ K) (hK4 : K ≤ 4) (hc : ¬ c < 0) (hc2 : c ≤ 9999) : Run g m_X8_bestWay [rf g 0, .int a, .int b, .int c] M sz 0 0 (RetP (some (.int (fC (bwS σ i j c.toInt64 K 16)))) (fun M2 => CW g M2 σ τ hk n ps len tx ∧ FR M M2 0 96)) := by
  subst ha hb
  have L : ∀ m q : Nat, q + m = 16 → ∀ s : BS, bwS σ i j c.toInt64 K q = s → ∀ M9, CW g M9 σ τ hk n ps len tx → FR M M9 0 96 → V g m_X8_bestWay 22 [(7, .int (nI q)), (5, .long (lR s)), (4, .int (fC s)), (0, rf g 0), (1, .int (nI i)), (2, .int (nI j)), (3, .int c)] [] M9 sz 0 0 (RetP (some (.int (fC (bwS σ i j c.toInt64 K 16)))) (fun M2 => CW g M2 σ τ hk n ps len tx ∧ FR M M2 0 96)) := by
    intro m
    induction m with
    | zero =>
      intro q hq s hst M9 hD hF
      obtain rfl : q = 16 := by omega
      subst hst
      refine V_iload 0 dX8_bestWay_22 rfl ?_
      refine V_bipush (v := 16) dX8_bestWay_24 (by decide) ?_
      refine V_icmp_ge (tgt := 138) dX8_bestWay_26 (by decide) (fun c26 => ?_) (fun c26 => absurd (by decide) c26)
      refine V_iload 2 dX8_bestWay_138 rfl ?_
      refine V_iret (st := []) dX8_bestWay_140 rfl ?_
      skip
      exact ⟨rfl, hD, hF⟩
    | succ m ih =>
      intro q hq s hst M9 hD hF
      have hlt : q < 16 := by omega
      have hsz := szM_in (midN q)
      have hsz1 : 2 ≤ wSz q := hsz.1
      have hsz2 : wSz q ≤ 5 := hsz.2
      have hok : bsOK s := by rw [← hst]; exact bwS_ok hi hj hij q (by omega)
      obtain ⟨w0, z0, w1, w2⟩ := hD.2.2.2.2.2.2.2.1
      cases s with
      | none =>
        · skip
          refine V_iload 0 dX8_bestWay_22 rfl ?_
          refine V_bipush (v := 16) dX8_bestWay_24 (by decide) ?_
          refine V_icmp_ge (tgt := 138) dX8_bestWay_26 (by decide) (fun c26 => absurd c26 (nI_ge (b := 16) hlt (by decide))) (fun c26 => ?_)
          refine V_aload_n 3 dX8_bestWay_29 rfl ?_
          refine G_X8_43 rfl hD.1 rfl dX8_bestWay_30 ?_
          refine V_iload_n 4 dX8_bestWay_33 rfl ?_
          refine V_iload_n 5 dX8_bestWay_34 rfl ?_
          refine V_pc (pc2 := 35) rfl ?_
          refine V_iload 0 dX8_bestWay_35 rfl ?_
          refine Cp_X8_302 w1 rfl ⟨Nat.le_of_ble_eq_true rfl, Nat.le_of_ble_eq_true rfl⟩ (r_choose w1 w2 i j q rfl rfl rfl hi hj hij hlt) rfl (Nat.le_of_ble_eq_true rfl) dX8_bestWay_37 rfl (fun _ q9 => ?_)
          obtain ⟨hQ9, hF9⟩ := q9
          have hD2 := hD.wy hQ9 hF9
          have hF2 := hF.trans (b := 0) (n := 96) (FR.wide hF9 (b2 := 0) (n2 := 96) (by omega)) (by omega)
          obtain ⟨⟨w9, k1, k2, k3⟩, k4⟩ := id hQ9
          obtain ⟨p9, z1, z2⟩ := hD2.2.1.1
          refine V_aload_n 3 dX8_bestWay_40 rfl ?_
          refine G_X8_43 rfl hD2.1 rfl dX8_bestWay_41 ?_
          refine G_X8_305 rfl k1 rfl dX8_bestWay_44 ?_
          refine V_iconst (v := 1) dX8_bestWay_47 rfl ?_
          refine V_isub dX8_bestWay_48 ?_
          refine V_aload_n 3 dX8_bestWay_49 rfl ?_
          refine V_pc (pc2 := 50) rfl ?_
          refine G_X8_10 rfl hD2.1 rfl dX8_bestWay_50 ?_
          refine G_X8_136 rfl z1 rfl dX8_bestWay_53 ?_
          refine V_iconst (v := 2) dX8_bestWay_56 rfl ?_
          refine C_X8_77 rfl ⟨Nat.le_of_ble_eq_true rfl, Nat.le_of_ble_eq_true rfl⟩ (r_at hD2.2.1.2.2.1 2 rfl (by decide) (by decide)) rfl (Nat.le_of_ble_eq_true rfl) dX8_bestWay_57 rfl ?_
          rw [seR_at (by decide), show σ (25 + 2) = nI K from hK, show (1 : Int32) = nI 1 from rfl, pk_sub (by omega)]
          refine V_icmp_gt (tgt := 132) dX8_bestWay_60 (by decide) (fun c60 => ?_) (fun c60 => ?_)
          · refine V_iinc (v := _ + 1) (lv2 := [(7, .int _), (5, .long _), (4, .int _), (0, .ref _), (1, .int _), (2, .int _), (3, .int _)]) 0 dX8_bestWay_132 rfl rfl (Nat.le_of_ble_eq_true rfl) rfl ?_
            refine V_goto (tgt := 22) dX8_bestWay_135 (by decide) ?_
            refine V_lv (lv2 := [(7, .int _), (5, .long _), (4, .int _), (0, .ref _), (1, .int _), (2, .int _), (3, .int _)]) [0, 1, 2, 3, 4, 5, 6] rfl ?_
            have hw1 : ¬ wSz q ≤ K + 1 := by have := (nI_ltI (by omega) (by omega)).mp c60; omega
            rw [nI_1]
            exact ih (q + 1) (by omega) none (bw_no hst (by rw [decide_eq_false hw1]; rfl)) _ hD2 (hF2)
          · refine V_aload_n 3 dX8_bestWay_63 rfl ?_
            refine G_X8_43 rfl hD2.1 rfl dX8_bestWay_64 ?_
            refine V_aload_n 3 dX8_bestWay_67 rfl ?_
            refine G_X8_10 rfl hD2.1 rfl dX8_bestWay_68 ?_
            refine G_X8_89 rfl z1 rfl dX8_bestWay_71 ?_
            refine C_X8_306 k1 rfl ⟨Nat.le_of_ble_eq_true rfl, Nat.le_of_ble_eq_true rfl⟩ (r_wstands hQ9 hI hD2.2.1.2.2.2.1) rfl (Nat.le_of_ble_eq_true rfl) dX8_bestWay_74 rfl ?_
            refine V_if_eq (tgt := 132) dX8_bestWay_77 (by decide) (fun c77 => ?_) (fun c77 => ?_)
            · refine V_iinc (v := _ + 1) (lv2 := [(7, .int _), (5, .long _), (4, .int _), (0, .ref _), (1, .int _), (2, .int _), (3, .int _)]) 0 dX8_bestWay_132 rfl rfl (Nat.le_of_ble_eq_true rfl) rfl ?_
              refine V_goto (tgt := 22) dX8_bestWay_135 (by decide) ?_
              refine V_lv (lv2 := [(7, .int _), (5, .long _), (4, .int _), (0, .ref _), (1, .int _), (2, .int _), (3, .int _)]) [0, 1, 2, 3, 4, 5, 6] rfl ?_
              rw [nI_1]
              exact ih (q + 1) (by omega) none (bw_no hst (by rw [show stdI σ i j q = false from bI_0 c77, Bool.and_false]; rfl)) _ hD2 (hF2)
            · refine V_aload_n 3 dX8_bestWay_80 rfl ?_
              refine G_X8_43 rfl hD2.1 rfl dX8_bestWay_81 ?_
              refine V_aload_n 3 dX8_bestWay_84 rfl ?_
              refine G_X8_10 rfl hD2.1 rfl dX8_bestWay_85 ?_
              refine G_X8_89 rfl z1 rfl dX8_bestWay_88 ?_
              refine V_iload_n 6 dX8_bestWay_91 rfl ?_
              refine V_aload_n 3 dX8_bestWay_92 rfl ?_
              refine V_pc (pc2 := 93) rfl ?_
              refine C_X8_295 hD2.1 rfl ⟨Nat.le_of_ble_eq_true rfl, Nat.le_of_ble_eq_true rfl⟩ (r_rounding hD2) rfl (Nat.le_of_ble_eq_true rfl) dX8_bestWay_93 rfl ?_
              refine C_X8_309 k1 rfl ⟨Nat.le_of_ble_eq_true rfl, Nat.le_of_ble_eq_true rfl⟩ (r_roundedOff hQ9 hI hD2.2.1.2.2.2.1 (bI_1 c77)) rfl (Nat.le_of_ble_eq_true rfl) dX8_bestWay_96 rfl ?_
              refine V_lstore (lv2 := [(8, .long _), (7, .int _), (5, .long _), (4, .int _), (0, .ref _), (1, .int _), (2, .int _), (3, .int _)]) dX8_bestWay_99 (Nat.le_of_ble_eq_true rfl) rfl ?_
              refine V_iload 3 dX8_bestWay_101 rfl ?_
              refine V_iconst (v := -1) dX8_bestWay_103 rfl ?_
              refine V_icmp_eq (tgt := 115) dX8_bestWay_104 (by decide) (fun c104 => ?_) (fun c104 => absurd rfl c104)
              refine V_aload_n 4 dX8_bestWay_115 rfl ?_
              refine G_X8_43 rfl hD2.1 rfl dX8_bestWay_116 ?_
              refine V_pc (pc2 := 119) rfl ?_
              refine C_X8_313 k1 rfl ⟨Nat.le_of_ble_eq_true rfl, Nat.le_of_ble_eq_true rfl⟩ (r_number hQ9) rfl (Nat.le_of_ble_eq_true rfl) dX8_bestWay_119 rfl ?_
              refine V_ldcw z_X8_316 dX8_bestWay_122 ?_
              refine V_iadd dX8_bestWay_125 ?_
              refine V_istore (lv2 := [(4, .int _), (8, .long _), (7, .int _), (5, .long _), (0, .ref _), (1, .int _), (2, .int _), (3, .int _)]) dX8_bestWay_126 (Nat.le_of_ble_eq_true rfl) rfl ?_
              refine V_lload 1 dX8_bestWay_128 rfl ?_
              refine V_lstore (lv2 := [(5, .long _), (4, .int _), (8, .long _), (7, .int _), (0, .ref _), (1, .int _), (2, .int _), (3, .int _)]) dX8_bestWay_130 (Nat.le_of_ble_eq_true rfl) rfl ?_
              refine V_iinc (v := _ + 1) (lv2 := [(7, .int _), (5, .long _), (4, .int _), (8, .long _), (0, .ref _), (1, .int _), (2, .int _), (3, .int _)]) 3 dX8_bestWay_132 rfl rfl (Nat.le_of_ble_eq_true rfl) rfl ?_
              refine V_goto (tgt := 22) dX8_bestWay_135 (by decide) ?_
              refine V_lv (lv2 := [(7, .int _), (5, .long _), (4, .int _), (0, .ref _), (1, .int _), (2, .int _), (3, .int _)]) [0, 1, 2, 4, 5, 6, 7] rfl ?_
              have hw1 : wSz q ≤ K + 1 := by have := mt (nI_ltI (by omega) (by omega)).mpr c60; omega
              have hw2 : stdI σ i j q = true := bI_1 c77
              rw [nI_1, show (100000 : Int32) = nI 100000 from rfl, nI_add]
              exact ih (q + 1) (by omega) (some (wC i j q, costW σ i j c.toInt64 q)) (bw_yes hst (by rw [decide_eq_true hw1, hw2]; rfl)) _ hD2 hF2
      | some y =>
        obtain ⟨c0, l0⟩ := y
        · skip
          refine V_iload 0 dX8_bestWay_22 rfl ?_
          refine V_bipush (v := 16) dX8_bestWay_24 (by decide) ?_
          refine V_icmp_ge (tgt := 138) dX8_bestWay_26 (by decide) (fun c26 => absurd c26 (nI_ge (b := 16) hlt (by decide))) (fun c26 => ?_)
          refine V_aload_n 3 dX8_bestWay_29 rfl ?_
          refine G_X8_43 rfl hD.1 rfl dX8_bestWay_30 ?_
          refine V_iload_n 4 dX8_bestWay_33 rfl ?_
          refine V_iload_n 5 dX8_bestWay_34 rfl ?_
          refine V_pc (pc2 := 35) rfl ?_
          refine V_iload 0 dX8_bestWay_35 rfl ?_
          refine Cp_X8_302 w1 rfl ⟨Nat.le_of_ble_eq_true rfl, Nat.le_of_ble_eq_true rfl⟩ (r_choose w1 w2 i j q rfl rfl rfl hi hj hij hlt) rfl (Nat.le_of_ble_eq_true rfl) dX8_bestWay_37 rfl (fun _ q9 => ?_)
          obtain ⟨hQ9, hF9⟩ := q9
          have hD2 := hD.wy hQ9 hF9
          have hF2 := hF.trans (b := 0) (n := 96) (FR.wide hF9 (b2 := 0) (n2 := 96) (by omega)) (by omega)
          obtain ⟨⟨w9, k1, k2, k3⟩, k4⟩ := id hQ9
          obtain ⟨p9, z1, z2⟩ := hD2.2.1.1
          refine V_aload_n 3 dX8_bestWay_40 rfl ?_
          refine G_X8_43 rfl hD2.1 rfl dX8_bestWay_41 ?_
          refine G_X8_305 rfl k1 rfl dX8_bestWay_44 ?_
          refine V_iconst (v := 1) dX8_bestWay_47 rfl ?_
          refine V_isub dX8_bestWay_48 ?_
          refine V_aload_n 3 dX8_bestWay_49 rfl ?_
          refine V_pc (pc2 := 50) rfl ?_
          refine G_X8_10 rfl hD2.1 rfl dX8_bestWay_50 ?_
          refine G_X8_136 rfl z1 rfl dX8_bestWay_53 ?_
          refine V_iconst (v := 2) dX8_bestWay_56 rfl ?_
          refine C_X8_77 rfl ⟨Nat.le_of_ble_eq_true rfl, Nat.le_of_ble_eq_true rfl⟩ (r_at hD2.2.1.2.2.1 2 rfl (by decide) (by decide)) rfl (Nat.le_of_ble_eq_true rfl) dX8_bestWay_57 rfl ?_
          rw [seR_at (by decide), show σ (25 + 2) = nI K from hK, show (1 : Int32) = nI 1 from rfl, pk_sub (by omega)]
          refine V_icmp_gt (tgt := 132) dX8_bestWay_60 (by decide) (fun c60 => ?_) (fun c60 => ?_)
          · refine V_iinc (v := _ + 1) (lv2 := [(7, .int _), (5, .long _), (4, .int _), (0, .ref _), (1, .int _), (2, .int _), (3, .int _)]) 0 dX8_bestWay_132 rfl rfl (Nat.le_of_ble_eq_true rfl) rfl ?_
            refine V_goto (tgt := 22) dX8_bestWay_135 (by decide) ?_
            refine V_lv (lv2 := [(7, .int _), (5, .long _), (4, .int _), (0, .ref _), (1, .int _), (2, .int _), (3, .int _)]) [0, 1, 2, 3, 4, 5, 6] rfl ?_
            have hw1 : ¬ wSz q ≤ K + 1 := by have := (nI_ltI (by omega) (by omega)).mp c60; omega
            rw [nI_1]
            exact ih (q + 1) (by omega) (some (c0, l0)) (bw_no hst (by rw [decide_eq_false hw1]; rfl)) _ hD2 (hF2)
          · refine V_aload_n 3 dX8_bestWay_63 rfl ?_
            refine G_X8_43 rfl hD2.1 rfl dX8_bestWay_64 ?_
            refine V_aload_n 3 dX8_bestWay_67 rfl ?_
            refine G_X8_10 rfl hD2.1 rfl dX8_bestWay_68 ?_
            refine G_X8_89 rfl z1 rfl dX8_bestWay_71 ?_
            refine C_X8_306 k1 rfl ⟨Nat.le_of_ble_eq_true rfl, Nat.le_of_ble_eq_true rfl⟩ (r_wstands hQ9 hI hD2.2.1.2.2.2.1) rfl (Nat.le_of_ble_eq_true rfl) dX8_bestWay_74 rfl ?_
            refine V_if_eq (tgt := 132) dX8_bestWay_77 (by decide) (fun c77 => ?_) (fun c77 => ?_)
            · refine V_iinc (v := _ + 1) (lv2 := [(7, .int _), (5, .long _), (4, .int _), (0, .ref _), (1, .int _), (2, .int _), (3, .int _)]) 0 dX8_bestWay_132 rfl rfl (Nat.le_of_ble_eq_true rfl) rfl ?_
              refine V_goto (tgt := 22) dX8_bestWay_135 (by decide) ?_
              refine V_lv (lv2 := [(7, .int _), (5, .long _), (4, .int _), (0, .ref _), (1, .int _), (2, .int _), (3, .int _)]) [0, 1, 2, 3, 4, 5, 6] rfl ?_
              rw [nI_1]
              exact ih (q + 1) (by omega) (some (c0, l0)) (bw_no hst (by rw [show stdI σ i j q = false from bI_0 c77, Bool.and_false]; rfl)) _ hD2 (hF2)
            · refine V_aload_n 3 dX8_bestWay_80 rfl ?_
              refine G_X8_43 rfl hD2.1 rfl dX8_bestWay_81 ?_
              refine V_aload_n 3 dX8_bestWay_84 rfl ?_
              refine G_X8_10 rfl hD2.1 rfl dX8_bestWay_85 ?_
              refine G_X8_89 rfl z1 rfl dX8_bestWay_88 ?_
              refine V_iload_n 6 dX8_bestWay_91 rfl ?_
              refine V_aload_n 3 dX8_bestWay_92 rfl ?_
              refine V_pc (pc2 := 93) rfl ?_
              refine C_X8_295 hD2.1 rfl ⟨Nat.le_of_ble_eq_true rfl, Nat.le_of_ble_eq_true rfl⟩ (r_rounding hD2) rfl (Nat.le_of_ble_eq_true rfl) dX8_bestWay_93 rfl ?_
              refine C_X8_309 k1 rfl ⟨Nat.le_of_ble_eq_true rfl, Nat.le_of_ble_eq_true rfl⟩ (r_roundedOff hQ9 hI hD2.2.1.2.2.2.1 (bI_1 c77)) rfl (Nat.le_of_ble_eq_true rfl) dX8_bestWay_96 rfl ?_
              refine V_lstore (lv2 := [(8, .long _), (7, .int _), (5, .long _), (4, .int _), (0, .ref _), (1, .int _), (2, .int _), (3, .int _)]) dX8_bestWay_99 (Nat.le_of_ble_eq_true rfl) rfl ?_
              refine V_iload 3 dX8_bestWay_101 rfl ?_
              refine V_iconst (v := -1) dX8_bestWay_103 rfl ?_
              refine V_icmp_eq (tgt := 115) dX8_bestWay_104 (by decide) (fun c104 => absurd c104 (m1_ne (by have h9 : c0 < 100000 := hok; omega))) (fun c104 => ?_)
              refine V_lload 0 dX8_bestWay_107 rfl ?_
              refine V_lload 2 dX8_bestWay_109 rfl ?_
              refine V_pc (pc2 := 111) rfl ?_
              refine V_lcmp dX8_bestWay_111 ?_
              refine V_if_ge (tgt := 132) dX8_bestWay_112 (by decide) (fun c112 => ?_) (fun c112 => ?_)
              · refine V_iinc (v := _ + 1) (lv2 := [(7, .int _), (8, .long _), (5, .long _), (4, .int _), (0, .ref _), (1, .int _), (2, .int _), (3, .int _)]) 1 dX8_bestWay_132 rfl rfl (Nat.le_of_ble_eq_true rfl) rfl ?_
                refine V_goto (tgt := 22) dX8_bestWay_135 (by decide) ?_
                refine V_lv (lv2 := [(7, .int _), (5, .long _), (4, .int _), (0, .ref _), (1, .int _), (2, .int _), (3, .int _)]) [0, 2, 3, 4, 5, 6, 7] rfl ?_
                have hw1 : wSz q ≤ K + 1 := by have := mt (nI_ltI (by omega) (by omega)).mpr c60; omega
                have hw2 : stdI σ i j q = true := bI_1 c77
                rw [nI_1]
                exact ih (q + 1) (by omega) (some (c0, l0)) (bw_no hst (by rw [decide_eq_true hw1, hw2]; show (true && true && decide (costW σ i j c.toInt64 q < l0)) = false; rw [decide_eq_false (show ¬ costW σ i j c.toInt64 q < l0 from Int64.not_lt.mpr (lgc_ge.mp c112))]; rfl)) _ hD2 (hF2)
              · refine V_aload_n 4 dX8_bestWay_115 rfl ?_
                refine G_X8_43 rfl hD2.1 rfl dX8_bestWay_116 ?_
                refine C_X8_313 k1 rfl ⟨Nat.le_of_ble_eq_true rfl, Nat.le_of_ble_eq_true rfl⟩ (r_number hQ9) rfl (Nat.le_of_ble_eq_true rfl) dX8_bestWay_119 rfl ?_
                refine V_ldcw z_X8_316 dX8_bestWay_122 ?_
                refine V_iadd dX8_bestWay_125 ?_
                refine V_istore (lv2 := [(4, .int _), (8, .long _), (7, .int _), (5, .long _), (0, .ref _), (1, .int _), (2, .int _), (3, .int _)]) dX8_bestWay_126 (Nat.le_of_ble_eq_true rfl) rfl ?_
                refine V_lload 1 dX8_bestWay_128 rfl ?_
                refine V_pc (pc2 := 130) rfl ?_
                refine V_lstore (lv2 := [(5, .long _), (4, .int _), (8, .long _), (7, .int _), (0, .ref _), (1, .int _), (2, .int _), (3, .int _)]) dX8_bestWay_130 (Nat.le_of_ble_eq_true rfl) rfl ?_
                refine V_iinc (v := _ + 1) (lv2 := [(7, .int _), (5, .long _), (4, .int _), (8, .long _), (0, .ref _), (1, .int _), (2, .int _), (3, .int _)]) 3 dX8_bestWay_132 rfl rfl (Nat.le_of_ble_eq_true rfl) rfl ?_
                refine V_goto (tgt := 22) dX8_bestWay_135 (by decide) ?_
                refine V_lv (lv2 := [(7, .int _), (5, .long _), (4, .int _), (0, .ref _), (1, .int _), (2, .int _), (3, .int _)]) [0, 1, 2, 4, 5, 6, 7] rfl ?_
                have hw1 : wSz q ≤ K + 1 := by have := mt (nI_ltI (by omega) (by omega)).mpr c60; omega
                have hw2 : stdI σ i j q = true := bI_1 c77
                rw [nI_1, show (100000 : Int32) = nI 100000 from rfl, nI_add]
                exact ih (q + 1) (by omega) (some (wC i j q, costW σ i j c.toInt64 q)) (bw_yes hst (by rw [decide_eq_true hw1, hw2]; show (true && true && decide (costW σ i j c.toInt64 q < l0)) = true; rw [decide_eq_true (show costW σ i j c.toInt64 q < l0 from Int64.not_le.mp (fun h => c112 (lgc_ge.mpr h)))]; rfl)) _ hD2 hF2
  refine Run.of rfl (by decide) (Nat.le_of_ble_eq_true rfl) ?_
  show V g m_X8_bestWay 0 _ [] _ _ _ _ _
  refine V_iload_n 1 dX8_bestWay_0 rfl ?_
  refine V_iload_n 2 dX8_bestWay_1 rfl ?_
  refine C_X8_85 rfl ⟨Nat.le_of_ble_eq_true rfl, Nat.le_of_ble_eq_true rfl⟩ (r_checkPair_ok (isP_nI hi) (isP_nI hj) (fun e => hij ((nI_eq (by omega) (by omega)).mp e))) rfl (Nat.le_of_ble_eq_true rfl) dX8_bestWay_2 rfl ?_
  refine V_iload_n 3 dX8_bestWay_5 rfl ?_
  refine V_iconst (v := 0) dX8_bestWay_6 rfl ?_
  refine V_sipush (v := 9999) dX8_bestWay_7 (by decide) ?_
  refine C_X8_66 rfl ⟨Nat.le_of_ble_eq_true rfl, Nat.le_of_ble_eq_true rfl⟩ (r_checkRange_ok hc hc2) rfl (Nat.le_of_ble_eq_true rfl) dX8_bestWay_10 rfl ?_
  refine V_pc (pc2 := 13) rfl ?_
  refine V_iconst (v := -1) dX8_bestWay_13 rfl ?_
  refine V_istore (lv2 := [(4, .int _), (0, .ref _), (1, .int _), (2, .int _), (3, .int _)]) dX8_bestWay_14 (Nat.le_of_ble_eq_true rfl) rfl ?_
  refine V_lconst (v := 0) dX8_bestWay_16 rfl ?_
  refine V_lstore (lv2 := [(5, .long _), (4, .int _), (0, .ref _), (1, .int _), (2, .int _), (3, .int _)]) dX8_bestWay_17 (Nat.le_of_ble_eq_true rfl) rfl ?_
  refine V_iconst (v := 0) dX8_bestWay_19 rfl ?_
  refine V_istore (lv2 := [(7, .int _), (5, .long _), (4, .int _), (0, .ref _), (1, .int _), (2, .int _), (3, .int _)]) dX8_bestWay_20 (Nat.le_of_ble_eq_true rfl) rfl ?_
  refine V_lv (lv2 := [(7, .int _), (5, .long _), (4, .int _), (0, .ref _), (1, .int _), (2, .int _), (3, .int _)]) [0, 1, 2, 3, 4, 5, 6] rfl ?_
  exact L 16 0 (by omega) none rfl M hC (FR.refl _ _ _)
set_option maxRecDepth 20000 in
theorem x_bestWay_1 {g : GE} {M : Mem} {sz : Nat} {σ τ : Nat → Int32} {hk : Bool} {n : Nat} {ps : Nat → Nat → Int32} {len : Nat} {tx : Nat → Int32} (hC : CW g M σ τ hk n ps len tx) {a b c : Int32} (h : isP a = false ∨ isP b = false) : Run g m_X8_bestWay [rf g 0, .int a, .int b, .int c] M sz 1 6 (Thr (exN 0) M) := by
  refine Run.of rfl (by decide) (Nat.le_of_ble_eq_true rfl) ?_
  show V g m_X8_bestWay 0 _ [] _ _ _ _ _
  refine V_iload_n 1 dX8_bestWay_0 rfl ?_
  refine V_iload_n 2 dX8_bestWay_1 rfl ?_
  refine Ct_X8_85 rfl rfl ⟨Nat.le_of_ble_eq_true rfl, Nat.le_of_ble_eq_true rfl⟩ (r_checkPair_bad h) rfl (Nat.le_of_ble_eq_true rfl) dX8_bestWay_2 rfl ?_
  exact ⟨rfl, rfl⟩
set_option maxRecDepth 20000 in
theorem x_bestWay_2a {g : GE} {M : Mem} {sz : Nat} {σ τ : Nat → Int32} {hk : Bool} {n : Nat} {ps : Nat → Nat → Int32} {len : Nat} {tx : Nat → Int32} (hC : CW g M σ τ hk n ps len tx) {a b c : Int32} (ha : isP a = true) (hb : isP b = true) (h : a = b) : Run g m_X8_bestWay [rf g 0, .int a, .int b, .int c] M sz 1 6 (Thr (exN 1) M) := by
  refine Run.of rfl (by decide) (Nat.le_of_ble_eq_true rfl) ?_
  show V g m_X8_bestWay 0 _ [] _ _ _ _ _
  refine V_iload_n 1 dX8_bestWay_0 rfl ?_
  refine V_iload_n 2 dX8_bestWay_1 rfl ?_
  refine Ct_X8_85 rfl rfl ⟨Nat.le_of_ble_eq_true rfl, Nat.le_of_ble_eq_true rfl⟩ (r_checkPair_same ha hb h) rfl (Nat.le_of_ble_eq_true rfl) dX8_bestWay_2 rfl ?_
  exact ⟨rfl, rfl⟩
set_option maxRecDepth 20000 in
theorem x_bestWay_2b {g : GE} {M : Mem} {sz : Nat} {σ τ : Nat → Int32} {hk : Bool} {n : Nat} {ps : Nat → Nat → Int32} {len : Nat} {tx : Nat → Int32} (hC : CW g M σ τ hk n ps len tx) {a b c : Int32} (ha : isP a = true) (hb : isP b = true) (h : a ≠ b) (hc : c < 0 ∨ ¬ c ≤ 9999) : Run g m_X8_bestWay [rf g 0, .int a, .int b, .int c] M sz 1 6 (Thr (exN 1) M) := by
  refine Run.of rfl (by decide) (Nat.le_of_ble_eq_true rfl) ?_
  show V g m_X8_bestWay 0 _ [] _ _ _ _ _
  refine V_iload_n 1 dX8_bestWay_0 rfl ?_
  refine V_iload_n 2 dX8_bestWay_1 rfl ?_
  refine C_X8_85 rfl ⟨Nat.le_of_ble_eq_true rfl, Nat.le_of_ble_eq_true rfl⟩ (r_checkPair_ok ha hb h) rfl (Nat.le_of_ble_eq_true rfl) dX8_bestWay_2 rfl ?_
  refine V_iload_n 3 dX8_bestWay_5 rfl ?_
  refine V_iconst (v := 0) dX8_bestWay_6 rfl ?_
  refine V_sipush (v := 9999) dX8_bestWay_7 (by decide) ?_
  refine Ct_X8_66 rfl rfl ⟨Nat.le_of_ble_eq_true rfl, Nat.le_of_ble_eq_true rfl⟩ (r_checkRange_bad hc) rfl (Nat.le_of_ble_eq_true rfl) dX8_bestWay_10 rfl ?_
  exact ⟨rfl, rfl⟩
