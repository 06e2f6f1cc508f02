/-! work -/
theorem CW.prt {g : GE} {M : Mem} {σ τ : Nat → Int32} {hk : Bool} {n : Nat} {ps : Nat → Nat → Int32} {len : Nat} {tx : Nat → Int32} (h : CW g M σ τ hk n ps len tx) (w : Nat → Int32) : CW g (mup M 95 (eI g 4 w)) σ τ hk n ps len tx := by
  refine h.scr ?_ ((FR.refl M 85 11).put (by omega))
  obtain ⟨⟨r1, r2, r3⟩, ⟨f, p, t1, t2⟩, ⟨w0, z, w1, w2⟩, ⟨m1, a, b, m2, m3⟩, ⟨u, u1⟩⟩ := h.2.2.2.2.2
  exact ⟨⟨(mup_ne _ _ (by decide)).trans r1, (mup_ne _ _ (by decide)).trans r2, (mup_ne _ _ (by decide)).trans r3⟩, ⟨f, p, (mup_ne _ _ (by decide)).trans t1, (mup_ne _ _ (by decide)).trans t2⟩, ⟨w0, z, (mup_ne _ _ (by decide)).trans w1, (mup_ne _ _ (by decide)).trans w2⟩, ⟨(mup_ne _ _ (by decide)).trans m1, a, b, (mup_ne _ _ (by decide)).trans m2, (mup_ne _ _ (by decide)).trans m3⟩, ⟨w, mup_eq _ _ _⟩⟩
theorem YW.stp {g : GE} {M : Mem} {y : Nat} {σ : Nat → Int32} (h : YW g M y σ) (n : Nat) (r : Int32) : YW g (mup M y (YO g y (nI n) r)) y (wkS (n, r, σ)) := by
  obtain ⟨_, h3, h4, h5, h6⟩ := h
  have e63 : wkS (n, r, σ) 63 = if r = 0 then 0 else nI (n + 1) := by unfold wkS; rw [upd_ne (by decide), upd_at]
  have e64 : wkS (n, r, σ) 64 = r := by unfold wkS; rw [upd_at]
  have e : ∀ k, k < 63 → wkS (n, r, σ) k = σ k := fun k hk => by unfold wkS; rw [upd_ne (by omega), upd_ne (by omega)]
  refine ⟨⟨nI n, ?_, ?_⟩, ?_, ?_, ?_, ?_⟩
  · rw [mup_eq, e64]
  · rw [e63, e64]
    by_cases h0 : r = 0
    · exact Or.inl h0
    · rw [if_neg h0, nI_1]; exact Or.inr rfl
  · rw [mup_ne _ _ (by omega), stR_hi (fun k a b => e k (by omega))]; exact h3
  · rw [mup_ne _ _ (by omega), seR_hi (fun k a b => e k (by omega))]; exact h4
  · exact (h5.fr (fun k a b => mup_ne _ _ (by omega))).hi (fun k hk => (e k (by omega)).symm)
  · exact (h6.fr (fun k a b => mup_ne _ _ (by omega))).hi (fun k a b => (e k (by omega)).symm)
/-- the class does what a part tells -/
theorem x_doPart {g : GE} {M : Mem} {sz : Nat} {σ τ : Nat → Int32} {hk : Bool} {n : Nat} {ps : Nat → Nat → Int32} {len : Nat} {tx : Nat → Int32} (hC : CW g M σ τ hk n ps len tx) (hI : IS σ) {t : Nat → Nat} {p : Nat} (hg : PG t len p) (h95 : M 95 = some (eI g 4 (rowP t len p))) : Run g m_X8_doPart [rf g 0, .int (nI (t p))] M sz 0 0 (RetP (some (.int (doP σ (pK t len p) (pN t len p)).1)) (fun M2 => CW g M2 ((doP σ (pK t len p) (pN t len p)).2) (τ) (hk) (n) (ps) (len) (tx) ∧ FR M M2 0 96)) := by
  obtain ⟨q0, q1, q2⟩ := rowP_at t len p
  obtain ⟨m, hm8, hm, hq⟩ := hI.many
  by_cases c1 : nxN t len p = 45
  · have hk : pK t len p = 45 := if_pos c1
    rw [hk, (sh45 c1 hg).2.1]
    rcases vr_of hg with ⟨k, h0, h1⟩ | ⟨k, _⟩ | ⟨k, _⟩ | ⟨k, _⟩
    · exact x_doPart_45 hC hI.1 h95 _ q0 q1 h0 h1
    all_goals (rw [hk] at k; exact absurd k (by decide))
  · by_cases c2 : nxN t len p = 98
    · have hk : pK t len p = 98 := by unfold pK; rw [if_neg c1, if_pos c2]
      rw [hk, (sh98 c2 hg).2.1]
      exact x_doPart_98 hC h95 _ q0 q1 m hm hm8
    · by_cases c3 : nxN t len p = 115
      · have hk : pK t len p = 115 := by unfold pK; rw [if_neg c1, if_neg c2, if_pos c3]
        rw [hk, (sh115 c3 hg).2.1]
        rcases vr_of hg with ⟨k, _⟩ | ⟨k, _⟩ | ⟨k, h0, h1⟩ | ⟨k, _⟩
        · rw [hk] at k; exact absurd k (by decide)
        · rw [hk] at k; exact absurd k (by decide)
        · exact x_doPart_115 hC hI.1 h95 _ q0 q1 m h0 h1 hm hm8 (hq _)
        · rw [hk] at k; exact absurd k (by decide)
      · have hk : pK t len p = 116 := by unfold pK; rw [if_neg c1, if_neg c2, if_neg c3]
        obtain ⟨a1, a2, a3, _⟩ := sh116 c1 c2 c3 hg
        rw [hk]
        rcases vr_of hg with ⟨k, _⟩ | ⟨k, _⟩ | ⟨k, _⟩ | ⟨k, h0, h1, u1, u2, d1, d2⟩
        · rw [hk] at k; exact absurd k (by decide)
        · rw [hk] at k; exact absurd k (by decide)
        · rw [hk] at k; exact absurd k (by decide)
        · exact x_doPart_116 hC hI.1 h95 _ q0 q1 (q2 c1 c2 c3).1 (q2 c1 c2 c3).2 h0 h1 (UDn u1 u2 d1 d2) (t p) rfl ⟨a2, by omega⟩
set_option maxRecDepth 20000 in
theorem work_x {g : GE} {M M9 : Mem} {sz : Nat} {σ2 τ : Nat → Int32} {hk : Bool} {n : Nat} {ps : Nat → Nat → Int32} {len : Nat} {tx : Nat → Int32} (hD : CW g M9 σ2 τ hk n ps len tx) (hF : FR M M9 0 96) (p nn : Nat) (r : Int32) : V g m_X8_work 101 [(3, .int (nI (p))), (2, .int (r)), (1, .int (nI (nn))), (0, rf g 0)] [] M9 sz 0 0 (RetP (some (.int (nI (nn, r, σ2).1))) (fun M2 => CW g M2 (wkS (nn, r, σ2)) τ hk n ps 0 tx ∧ FR M M2 0 96)) := by
  obtain ⟨p9, z1, z2⟩ := hD.2.1.1
  have hE : CW g (mup M9 1 (YO g 1 (nI nn) r)) (wkS (nn, r, σ2)) τ hk n ps len tx := hD.now (hD.2.1.stp nn r) ((FR.refl M9 1 10).put (by omega))
  refine V_aload_n 3 dX8_work_101 rfl ?_
  refine G_X8_10 rfl hD.1 rfl dX8_work_102 ?_
  refine V_iload_n 2 dX8_work_105 rfl ?_
  refine P_X8_213 rfl (show _ = some (YO g 1 p9 (σ2 64)) from z1) (Nat.le_of_ble_eq_true rfl) rfl rfl dX8_work_106 ?_
  refine V_aload_n 3 dX8_work_109 rfl ?_
  refine G_X8_10 rfl (show _ = some (XO g hk) from (mup_ne _ _ (by decide)).trans hD.1) rfl dX8_work_110 ?_
  refine V_iload_n 1 dX8_work_113 rfl ?_
  refine V_pc (pc2 := 114) rfl ?_
  refine P_X8_216 rfl (show _ = some (YO g 1 (nI nn) (σ2 64)) from mup_eq _ _ _) (Nat.le_of_ble_eq_true rfl) rfl rfl dX8_work_114 ?_
  show V g m_X8_work 117 _ _ (mup (mup M9 1 (YO g 1 (nI nn) (σ2 64))) 1 (YO g 1 (nI nn) r)) _ _ _ _
  rw [mup_mup]
  refine V_aload_n 3 dX8_work_117 rfl ?_
  refine G_X8_29 rfl hE.1 rfl dX8_work_118 ?_
  refine Cp_X8_183 hE.2.2.2.2.1.1.choose_spec rfl ⟨Nat.le_of_ble_eq_true rfl, Nat.le_of_ble_eq_true rfl⟩ (r_empty hE.2.2.2.2.1) rfl (Nat.le_of_ble_eq_true rfl) dX8_work_121 rfl (fun _ q9 => ?_)
  refine V_pop dX8_work_124 rfl ?_
  refine V_iload_n 2 dX8_work_125 rfl ?_
  refine V_iret (st := []) dX8_work_126 rfl ?_
  exact ⟨rfl, hE.txt q9.1 (FR.wide q9.2 (by omega)), (hF.put (k := 1) (e := YO g 1 (nI nn) r) (by omega)).trans (b := 0) (n := 96) q9.2 (by omega)⟩
set_option maxRecDepth 20000 in
theorem work_l {g : GE} {M : Mem} {sz : Nat} {τ : Nat → Int32} {hk : Bool} {n : Nat} {ps : Nat → Nat → Int32} {len : Nat} {tx : Nat → Int32} (hl : len ≤ 60) {t : Nat → Nat} (ht : TX t tx len) : ∀ (m p nn : Nat) (σ2 : Nat → Int32) (M9 : Mem), len ≤ p + m → nn ≤ p → p ≤ len + 1 → IS σ2 → (p < len → VD t len p) → CW g M9 σ2 τ hk n ps len tx → FR M M9 0 96 → V g m_X8_work 37 [(3, .int (nI (p))), (2, .int (0)), (1, .int (nI (nn))), (0, rf g 0)] [] M9 sz 0 0 (RetP (some (.int (nI (wk t len m p nn σ2).1))) (fun M2 => CW g M2 (wkS (wk t len m p nn σ2)) τ hk n ps 0 tx ∧ FR M M2 0 96)) := by
  intro m
  induction m with
  | zero =>
    intro p nn σ2 M9 h1 h2 h3 hIS hv hD hF
    obtain ⟨z9, hz9⟩ := hD.2.2.2.2.1.1
    have hge : len ≤ p := by omega
    · skip
      refine V_iload_n 0 dX8_work_37 rfl ?_
      refine V_aload_n 3 dX8_work_38 rfl ?_
      refine G_X8_29 rfl hD.1 rfl dX8_work_39 ?_
      refine G_X8_175 rfl (show _ = some (TO g len z9) from hz9) rfl dX8_work_42 ?_
      refine V_icmp_ge (tgt := 101) dX8_work_45 (by decide) (fun c45 => ?_) (fun c45 => absurd (nI_le hge (by omega)) c45)
      refine V_lv (lv2 := [(3, .int _), (2, .int _), (1, .int _), (0, .ref _)]) [0, 1, 2, 3] rfl ?_
      rw [wk_end hge]
      exact work_x hD hF p nn 0
  | succ m ih =>
    intro p nn σ2 M9 h1 h2 h3 hIS hv hD hF
    obtain ⟨z9, hz9⟩ := hD.2.2.2.2.1.1
    by_cases hge : len ≤ p
    · skip
      refine V_iload_n 0 dX8_work_37 rfl ?_
      refine V_aload_n 3 dX8_work_38 rfl ?_
      refine G_X8_29 rfl hD.1 rfl dX8_work_39 ?_
      refine G_X8_175 rfl (show _ = some (TO g len z9) from hz9) rfl dX8_work_42 ?_
      refine V_icmp_ge (tgt := 101) dX8_work_45 (by decide) (fun c45 => ?_) (fun c45 => absurd (nI_le hge (by omega)) c45)
      refine V_lv (lv2 := [(3, .int _), (2, .int _), (1, .int _), (0, .ref _)]) [0, 1, 2, 3] rfl ?_
      rw [wk_end hge]
      exact work_x hD hF p nn 0
    · have hplt : p < len := by omega
      have hv := vd_next (hv hplt)
      have hend : (pE t len p).1 = len ∨ (pE t len p).1 < len ∧ t (pE t len p).1 = 59 := hv.2.2.2.imp id (fun h => h.1)
      have hnx : (pE t len p).1 + 1 < len → VD t len ((pE t len p).1 + 1) := fun h => by
        rcases hv.2.2.2 with e | ⟨_, e⟩
        · omega
        · exact e
      obtain ⟨dIS, _⟩ := doP_IS hIS (vr_of hv.1)
      obtain ⟨wp, h95⟩ := hD.2.2.2.2.2.2.2.2.2
      have hD2 := hD.prt (rowP t len p)
      have hz2 : (mup M9 95 (eI g 4 (rowP t len p))) 83 = some (TO g len z9) := (mup_ne _ _ (by decide)).trans hz9
      · skip
        refine V_iload_n 0 dX8_work_37 rfl ?_
        refine V_aload_n 3 dX8_work_38 rfl ?_
        refine G_X8_29 rfl hD.1 rfl dX8_work_39 ?_
        refine G_X8_175 rfl (show _ = some (TO g len z9) from hz9) rfl dX8_work_42 ?_
        refine V_icmp_ge (tgt := 101) dX8_work_45 (by decide) (fun c45 => absurd c45 (nI_ge hplt (by omega))) (fun c45 => ?_)
        refine V_iload_n 1 dX8_work_48 rfl ?_
        refine V_if_ne (tgt := 101) dX8_work_49 (by decide) (fun c49 => absurd rfl c49) (fun c49 => ?_)
        refine V_pc (pc2 := 52) rfl ?_
        refine V_aload_n 3 dX8_work_52 rfl ?_
        refine G_X8_29 rfl hD.1 rfl dX8_work_53 ?_
        refine V_iload_n 0 dX8_work_56 rfl ?_
        refine V_aload_n 3 dX8_work_57 rfl ?_
        refine G_X8_54 rfl hD.1 rfl dX8_work_58 ?_
        refine C_X8_198 (show _ = some (TO g len z9) from hz9) rfl ⟨Nat.le_of_ble_eq_true rfl, Nat.le_of_ble_eq_true rfl⟩ (r_readPart hl ht hz9 hD.2.2.2.2.1.2 h95 p rfl hv.1 hend) rfl (Nat.le_of_ble_eq_true rfl) dX8_work_61 rfl ?_
        refine V_istore (lv2 := [(4, .int _), (3, .int _), (2, .int _), (1, .int _), (0, .ref _)]) dX8_work_64 (Nat.le_of_ble_eq_true rfl) rfl ?_
        refine V_aload_n 4 dX8_work_66 rfl ?_
        refine V_pc (pc2 := 67) rfl ?_
        refine V_aload_n 4 dX8_work_67 rfl ?_
        refine G_X8_29 rfl hD2.1 rfl dX8_work_68 ?_
        refine G_X8_202 rfl (show _ = some (TO g len z9) from hz2) rfl dX8_work_71 ?_
        refine V_iload_n 1 dX8_work_74 rfl ?_
        refine C_X8_77 rfl ⟨Nat.le_of_ble_eq_true rfl, Nat.le_of_ble_eq_true rfl⟩ (r_at hD2.2.2.2.2.1.2 p rfl (by omega) (by decide)) rfl (Nat.le_of_ble_eq_true rfl) dX8_work_75 rfl ?_
        rw [(ht p hplt).2.2]
        refine Cp_X8_205 hD2.1 rfl ⟨Nat.le_of_ble_eq_true rfl, Nat.le_of_ble_eq_true rfl⟩ (x_doPart hD2 hIS hv.1 (mup_eq _ _ _)) rfl (Nat.le_of_ble_eq_true rfl) dX8_work_78 rfl (fun _ q7 => ?_)
        obtain ⟨hD3, hF7⟩ := q7
        have hF3 := (hF.put (k := 95) (e := eI g 4 (rowP t len p)) (by omega)).trans (b := 0) (n := 96) hF7 (by omega)
        obtain ⟨y9, hy9⟩ := hD3.2.2.2.2.1.1
        refine V_istore_n (lv2 := [(2, .int _), (4, .int _), (3, .int _), (1, .int _), (0, .ref _)]) dX8_work_81 (Nat.le_of_ble_eq_true rfl) rfl ?_
        refine V_iload_n 0 dX8_work_82 rfl ?_
        refine V_pc (pc2 := 83) rfl ?_
        refine V_if_ne (tgt := 89) dX8_work_83 (by decide) (fun c83 => ?_) (fun c83 => ?_)
        · refine V_iload_n 2 dX8_work_89 rfl ?_
          refine V_iload 1 dX8_work_90 rfl ?_
          refine C_X8_208 rfl ⟨Nat.le_of_ble_eq_true rfl, Nat.le_of_ble_eq_true rfl⟩ (r_imax _ _) rfl (Nat.le_of_ble_eq_true rfl) dX8_work_92 rfl ?_
          refine V_iconst (v := 1) dX8_work_95 rfl ?_
          refine V_iadd dX8_work_96 ?_
          refine V_istore_n (lv2 := [(3, .int _), (2, .int _), (4, .int _), (1, .int _), (0, .ref _)]) dX8_work_97 (Nat.le_of_ble_eq_true rfl) rfl ?_
          refine V_goto (tgt := 37) dX8_work_98 (by decide) ?_
          refine V_lv (lv2 := [(3, .int _), (2, .int _), (1, .int _), (0, .ref _)]) [0, 1, 3, 4] rfl ?_
          rw [imax_nI (by omega) (by omega), nI_1, Nat.max_eq_right (by omega)]
          have hr0 : ¬ (doP σ2 (pK t len p) (pN t len p)).1 = 0 := c83
          refine V_iload_n 0 dX8_work_37 rfl ?_
          refine V_aload_n 3 dX8_work_38 rfl ?_
          refine G_X8_29 rfl hD3.1 rfl dX8_work_39 ?_
          refine G_X8_175 rfl (show _ = some (TO g len y9) from hy9) rfl dX8_work_42 ?_
          refine V_icmp_ge (tgt := 101) dX8_work_45 (by decide) (fun c45 => ?_) (fun c45 => ?_)
          · refine V_lv (lv2 := [(3, .int _), (2, .int _), (1, .int _), (0, .ref _)]) [0, 1, 2, 3] rfl ?_
            rw [wk_no hplt hr0]
            exact work_x hD3 hF3 _ nn _
          · refine V_iload_n 1 dX8_work_48 rfl ?_
            refine V_if_ne (tgt := 101) dX8_work_49 (by decide) (fun c49 => ?_) (fun c49 => absurd c49 hr0)
            refine V_lv (lv2 := [(3, .int _), (2, .int _), (1, .int _), (0, .ref _)]) [0, 1, 2, 3] rfl ?_
            rw [wk_no hplt hr0]
            exact work_x hD3 hF3 _ nn _
        · refine V_iinc (v := _ + 1) (lv2 := [(1, .int _), (2, .int _), (4, .int _), (3, .int _), (0, .ref _)]) 3 dX8_work_86 rfl rfl (Nat.le_of_ble_eq_true rfl) rfl ?_
          refine V_iload_n 3 dX8_work_89 rfl ?_
          refine V_iload 2 dX8_work_90 rfl ?_
          refine C_X8_208 rfl ⟨Nat.le_of_ble_eq_true rfl, Nat.le_of_ble_eq_true rfl⟩ (r_imax _ _) rfl (Nat.le_of_ble_eq_true rfl) dX8_work_92 rfl ?_
          refine V_iconst (v := 1) dX8_work_95 rfl ?_
          refine V_iadd dX8_work_96 ?_
          refine V_istore_n (lv2 := [(3, .int _), (1, .int _), (2, .int _), (4, .int _), (0, .ref _)]) dX8_work_97 (Nat.le_of_ble_eq_true rfl) rfl ?_
          refine V_pc (pc2 := 98) rfl ?_
          refine V_goto (tgt := 37) dX8_work_98 (by decide) ?_
          refine V_lv (lv2 := [(3, .int _), (2, .int _), (1, .int _), (0, .ref _)]) [0, 2, 1, 4] rfl ?_
          rw [imax_nI (by omega) (by omega), nI_1, Nat.max_eq_right (by omega)]
          have hr0 : (doP σ2 (pK t len p) (pN t len p)).1 = 0 := c83
          rw [hr0, nI_1, wk_go hplt hr0]
          exact ih _ _ _ _ (by omega) (by omega) (by omega) dIS hnx hD3 hF3
set_option maxRecDepth 20000 in
theorem x_work_1 {g : GE} {M : Mem} {sz : Nat} {σ τ : Nat → Int32} {hk : Bool} {n : Nat} {ps : Nat → Nat → Int32} {len : Nat} {tx : Nat → Int32} (hC : CW g M σ τ hk n ps len tx) (hl : len ≤ 60) {t : Nat → Nat} (ht : TX t tx len) (hok : okT t len = false) : Run g m_X8_work [rf g 0] M sz 1 6 (fun o M2 => o = .inr (exN 1) ∧ CW g M2 σ τ hk n ps len tx ∧ FR M M2 0 96) := by
  obtain ⟨z, t1⟩ := hC.2.2.2.2.1.1
  refine Run.of rfl (by decide) (Nat.le_of_ble_eq_true rfl) ?_
  show V g m_X8_work 0 _ [] _ _ _ _ _
  refine V_aload_n 0 dX8_work_0 rfl ?_
  refine G_X8_29 rfl hC.1 rfl dX8_work_1 ?_
  refine C_X8_189 (show _ = some (TO g len z) from t1) rfl ⟨Nat.le_of_ble_eq_true rfl, Nat.le_of_ble_eq_true rfl⟩ (r_isComplete hl ht t1 hC.2.2.2.2.1.2) rfl (Nat.le_of_ble_eq_true rfl) dX8_work_4 rfl ?_
  refine V_if_ne (tgt := 20) dX8_work_7 (by decide) (fun c7 => absurd (by rw [hok]; rfl) c7) (fun c7 => ?_)
  refine V_throwS 1 6 (by decide) (by decide) rfl rfl rfl rfl rfl (Nat.le_of_ble_eq_true rfl) (Nat.le_of_ble_eq_true rfl) dX8_work_10 dX8_work_13 dX8_work_14 dX8_work_16 dX8_work_19 ?_
  exact ⟨rfl, hC.st _, (FR.refl M 0 96).put (by omega)⟩
set_option maxRecDepth 20000 in
theorem x_work_ok {g : GE} {M : Mem} {sz : Nat} {σ τ : Nat → Int32} {hk : Bool} {n : Nat} {ps : Nat → Nat → Int32} {len : Nat} {tx : Nat → Int32} (hC : CW g M σ τ hk n ps len tx) (hl : len ≤ 60) {t : Nat → Nat} (ht : TX t tx len) (hok : okT t len = true) (hn : n ≤ 6) (hIS : IS σ) : Run g m_X8_work [rf g 0] M sz 0 0 (RetP (some (.int (nI (wk t len len 0 0 σ).1))) (fun M2 => CW g M2 (wkS (wk t len len 0 0 σ)) τ hk (pshN n) (pshP n ps σ) 0 tx ∧ FR M M2 0 96)) := by
  obtain ⟨z, t1⟩ := hC.2.2.2.2.1.1
  refine Run.of rfl (by decide) (Nat.le_of_ble_eq_true rfl) ?_
  show V g m_X8_work 0 _ [] _ _ _ _ _
  refine V_aload_n 0 dX8_work_0 rfl ?_
  refine G_X8_29 rfl hC.1 rfl dX8_work_1 ?_
  refine C_X8_189 (show _ = some (TO g len z) from t1) rfl ⟨Nat.le_of_ble_eq_true rfl, Nat.le_of_ble_eq_true rfl⟩ (r_isComplete hl ht t1 hC.2.2.2.2.1.2) rfl (Nat.le_of_ble_eq_true rfl) dX8_work_4 rfl ?_
  have hC1 := hC.st (dnI (rdF t 0 0 len))
  have hF1 : FR M (mup M 83 (TO g len (dnI (rdF t 0 0 len)))) 0 96 := (FR.refl M 0 96).put (by omega)
  refine V_if_ne (tgt := 20) dX8_work_7 (by decide) (fun c7 => ?_) (fun c7 => absurd c7 (by rw [hok]; decide))
  refine V_aload_n 0 dX8_work_20 rfl ?_
  refine G_X8_22 rfl hC1.1 rfl dX8_work_21 ?_
  refine V_aload_n 0 dX8_work_24 rfl ?_
  refine V_pc (pc2 := 25) rfl ?_
  refine G_X8_10 rfl hC1.1 rfl dX8_work_25 ?_
  refine Cp_X8_70 hC1.2.2.2.1.choose_spec.1 rfl ⟨Nat.le_of_ble_eq_true rfl, Nat.le_of_ble_eq_true rfl⟩ (r_push hC1.2.2.2.1 hn hC1.2.1 (by omega)) rfl (Nat.le_of_ble_eq_true rfl) dX8_work_28 rfl (fun _ q9 => ?_)
  have hC2 := hC1.psh q9.1 q9.2
  have hF2 := hF1.trans (b := 0) (n := 96) q9.2 (by omega)
  refine V_iconst (v := 0) dX8_work_31 rfl ?_
  refine V_istore_n (lv2 := [(1, .int _), (0, .ref _)]) dX8_work_32 (Nat.le_of_ble_eq_true rfl) rfl ?_
  refine V_iconst (v := 0) dX8_work_33 rfl ?_
  refine V_istore_n (lv2 := [(2, .int _), (1, .int _), (0, .ref _)]) dX8_work_34 (Nat.le_of_ble_eq_true rfl) rfl ?_
  refine V_iconst (v := 0) dX8_work_35 rfl ?_
  refine V_istore_n (lv2 := [(3, .int _), (2, .int _), (1, .int _), (0, .ref _)]) dX8_work_36 (Nat.le_of_ble_eq_true rfl) rfl ?_
  refine V_lv (lv2 := [(3, .int _), (2, .int _), (1, .int _), (0, .ref _)]) [0, 1, 2, 3] rfl ?_
  exact work_l hl ht len 0 0 σ _ (by omega) (Nat.le_refl _) (by omega) hIS (fun _ => vd_0 hok) hC2 hF2
