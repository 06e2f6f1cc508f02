/-! work -/
theorem CW.prt {g : GE} {M : Mem} {σ τ : Nat → Int32} {hk : Bool} {n : Nat} {ps : Nat → Nat → Int32} {len : Nat} {tx : Nat → Int32} (h : CW g M σ τ hk n ps len tx) (w : Nat → Int32) : CW g (mup M 95 (eI g 4 w)) σ τ hk n ps len tx := by
  refine h.scr ?_ ((FR.refl M 85 11).put (by omega))
  obtain ⟨⟨r1, r2, r3⟩, ⟨f, p, t1, t2⟩, ⟨w0, z, w1, w2⟩, ⟨m1, a, b, m2, m3⟩, ⟨u, u1⟩⟩ := h.2.2.2.2.2
  exact ⟨⟨(mup_ne _ _ (by decide)).trans r1, (mup_ne _ _ (by decide)).trans r2, (mup_ne _ _ (by decide)).trans r3⟩, ⟨f, p, (mup_ne _ _ (by decide)).trans t1, (mup_ne _ _ (by decide)).trans t2⟩, ⟨w0, z, (mup_ne _ _ (by decide)).trans w1, (mup_ne _ _ (by decide)).trans w2⟩, ⟨(mup_ne _ _ (by decide)).trans m1, a, b, (mup_ne _ _ (by decide)).trans m2, (mup_ne _ _ (by decide)).trans m3⟩, ⟨w, mup_eq _ _ _⟩⟩
theorem YW.stp {g : GE} {M : Mem} {y : Nat} {σ : Nat → Int32} (h : YW g M y σ) (n : Nat) (r : Int32) : YW g (mup M y (YO g y (nI n) r)) y (wkS (n, r, σ)) := by
  obtain ⟨_, h3, h4, h5, h6⟩ := h
  have e63 : wkS (n, r, σ) 63 = if r = 0 then 0 else nI (n + 1) := by unfold wkS; rw [upd_ne (by decide), upd_at]
  have e64 : wkS (n, r, σ) 64 = r := by unfold wkS; rw [upd_at]
  have e : ∀ k, k < 63 → wkS (n, r, σ) k = σ k := fun k hk => by unfold wkS; rw [upd_ne (by omega), upd_ne (by omega)]
  refine ⟨⟨nI n, ?_, ?_⟩, ?_, ?_, ?_, ?_⟩
  · rw [mup_eq, e64]
  · rw [e63, e64]
    by_cases h0 : r = 0
    · exact Or.inl h0
    · rw [if_neg h0, nI_1]; exact Or.inr rfl
  · rw [mup_ne _ _ (by omega), stR_hi (fun k a b => e k (by omega))]; exact h3
  · rw [mup_ne _ _ (by omega), seR_hi (fun k a b => e k (by omega))]; exact h4
  · exact (h5.fr (fun k a b => mup_ne _ _ (by omega))).hi (fun k hk => (e k (by omega)).symm)
  · exact (h6.fr (fun k a b => mup_ne _ _ (by omega))).hi (fun k a b => (e k (by omega)).symm)
/-- the class does what a part tells -/
theorem x_doPart {g : GE} {M : Mem} {sz : Nat} {σ τ : Nat → Int32} {hk : Bool} {n : Nat} {ps : Nat → Nat → Int32} {len : Nat} {tx : Nat → Int32} (hC : CW g M σ τ hk n ps len tx) (hI : IS σ) {t : Nat → Nat} {p : Nat} (hg : PG t len p) (h95 : M 95 = some (eI g 4 (rowP t len p))) : Run g m_X8_doPart [rf g 0, .int (nI (t p))] M sz 0 0 (RetP (some (.int (doP σ (pK t len p) (pN t len p)).1)) (fun M2 => CW g M2 ((doP σ (pK t len p) (pN t len p)).2) (τ) (hk) (n) (ps) (len) (tx) ∧ FR M M2 0 96)) := by
  obtain ⟨q0, q1, q2⟩ := rowP_at t len p
  obtain ⟨m, hm8, hm, hq⟩ := hI.many
  by_cases c1 : nxN t len p = 45
  · have hk : pK t len p = 45 := if_pos c1
    rw [hk, (sh45 c1 hg).2.1]
    rcases vr_of hg with ⟨k, h0, h1⟩ | ⟨k, _⟩ | ⟨k, _⟩ | ⟨k, _⟩
    · exact x_doPart_45 hC hI.1 h95 _ q0 q1 h0 h1
    all_goals (rw [hk] at k; exact absurd k (by decide))
  · by_cases c2 : nxN t len p = 98
    · have hk : pK t len p = 98 := by unfold pK; rw [if_neg c1, if_pos c2]
      rw [hk, (sh98 c2 hg).2.1]
      exact x_doPart_98 hC h95 _ q0 q1 m hm hm8
    · by_cases c3 : nxN t len p = 115
      · have hk : pK t len p = 115 := by unfold pK; rw [if_neg c1, if_neg c2, if_pos c3]
        rw [hk, (sh115 c3 hg).2.1]
        rcases vr_of hg with ⟨k, _⟩ | ⟨k, _⟩ | ⟨k, h0, h1⟩ | ⟨k, _⟩
        · rw [hk] at k; exact absurd k (by decide)
        · rw [hk] at k; exact absurd k (by decide)
        · exact x_doPart_115 hC hI.1 h95 _ q0 q1 m h0 h1 hm hm8 (hq _)
        · rw [hk] at k; exact absurd k (by decide)
      · have hk : pK t len p = 116 := by unfold pK; rw [if_neg c1, if_neg c2, if_neg c3]
        obtain ⟨a1, a2, a3, _⟩ := sh116 c1 c2 c3 hg
        rw [hk]
        rcases vr_of hg with ⟨k, _⟩ | ⟨k, _⟩ | ⟨k, _⟩ | ⟨k, h0, h1, u1, u2, d1, d2⟩
        · rw [hk] at k; exact absurd k (by decide)
        · rw [hk] at k; exact absurd k (by decide)
        · rw [hk] at k; exact absurd k (by decide)
        · exact x_doPart_116 hC hI.1 h95 _ q0 q1 (q2 c1 c2 c3).1 (q2 c1 c2 c3).2 h0 h1 (UDn u1 u2 d1 d2) (t p) rfl ⟨a2, by omega⟩
set_option maxRecDepth 20000 in
theorem work_x {g : GE} {M M9 : Mem} {sz : Nat} {σ2 τ : Nat → Int32} {hk : Bool} {n : Nat} {ps : Nat → Nat → Int32} {len : Nat} {tx : Nat → Int32} (hD : CW g M9 σ2 τ hk n ps len tx) (hF : FR M M9 0 96) (p nn : Nat) (r : Int32) : V g m_X8_work 101 [(3, .int (nI (p))), (2, .int (r)), (1, .int (nI (nn))), (0, rf g 0)] [] M9 sz 0 0 (RetP (some (.int (nI (nn, r, σ2).1))) (fun M2 => CW g M2 (wkS (nn, r, σ2)) τ hk n ps 0 tx ∧ FR M M2 0 96)) := by
  obtain ⟨p9, z1, z2⟩ := hD.2.1.1
  have hE : CW g (mup M9 1 (YO g 1 (nI nn) r)) (wkS (nn, r, σ2)) τ hk n ps len tx := hD.now (hD.2.1.stp nn r) ((FR.refl M9 1 10).put (by omega))
  refine V_aload_n 3 dX8_work_101 rfl ?_
  refine G_X8_10 rfl hD.1 rfl dX8_work_102 ?_
  refine V_iload_n 2 dX8_work_105 rfl ?_
  refine P_X8_213 rfl (show _ = some (YO g 1 p9 (σ2 64)) from z1) (Nat.le_of_ble_eq_true rfl) rfl rfl dX8_work_106 ?_
  refine V_aload_n 3 dX8_work_109 rfl ?_
  refine G_X8_10 rfl (show _ = some (XO g hk) from (mup_ne _ _ (by decide)).trans hD.1) rfl dX8_work_110 ?_
  refine V_iload_n 1 dX8_work_113 rfl ?_
  refine V_pc (pc2 := 114) rfl ?_
  refine P_X8_216 rfl (show _ = some (YO g 1 (nI nn) (σ2 64)) from mup_eq _ _ _) (Nat.le_of_ble_eq_true rfl) rfl rfl dX8_work_114 ?_
  show V g m_X8_work 117 _ _ (mup (mup M9 1 (YO g 1 (nI nn) (σ2 64))) 1 (YO g 1 (nI nn) r)) _ _ _ _
  rw [mup_mup]
  refine V_aload_n 3 dX8_work_117 rfl ?_
  refine G_X8_29 rfl hE.1 rfl dX8_work_118 ?_
  refine Cp_X8_183 hE.2.2.2.2.1.1.choose_spec rfl ⟨Nat.le_of_ble_eq_true rfl, Nat.le_of_ble_eq_true rfl⟩ (r_empty hE.2.2.2.2.1) rfl (Nat.le_of_ble_eq_true rfl) dX8_work_121 rfl (fun _ q9 => ?_)
  refine V_pop dX8_work_124 rfl ?_
  refine V_iload_n 2 dX8_work_125 rfl ?_
  refine V_iret (st := []) dX8_work_126 rfl ?_
  exact ⟨rfl, hE.txt q9.1 (FR.wide q9.2 (by omega)), (hF.put (k := 1) (e := YO g 1 (nI nn) r) (by omega)).trans (b := 0) (n := 96) q9.2 (by omega)⟩

set_option maxRecDepth 20000 in
theorem work_l {g : GE} {M : Mem} {sz : Nat} {τ : Nat → Int32} {hk : Bool} {n : Nat} {ps : Nat → Nat → Int32} {len : Nat} {tx : Nat → Int32} (hl : len ≤ 60) {t : Nat → Nat} (ht : TX t tx len) : ∀ (m p nn : Nat) (σ2 : Nat → Int32) (M9 : Mem), len ≤ p + m → nn ≤ p → p ≤ len + 1 → IS σ2 → (p < len → VD t len p) → CW g M9 σ2 τ hk n ps len tx → FR M M9 0 96 → V g m_X8_work 37 [(3, .int (nI (p))), (2, .int (0)), (1, .int (nI (nn))), (0, rf g 0)] [] M9 sz 0 0 (RetP (some (.int (nI (wk t len m p nn σ2).1))) (fun M2 => CW g M2 (wkS (wk t len m p nn σ2)) τ hk n ps 0 tx ∧ FR M M2 0 96)) := by
  intro m
  induction m with
  | zero =>
    intro p nn σ2 M9 h1 h2 h3 hIS hv hD hF
    obtain ⟨z9, hz9⟩ := hD.2.2.2.2.1.1
    have hge : len ≤ p := by omega
    · skip
      refine V_iload_n 0 dX8_work_37 rfl ?_
      refine V_aload_n 3 dX8_work_38 rfl ?_
      refine G_X8_29 rfl hD.1 rfl dX8_work_39 ?_
      refine G_X8_175 rfl (show _ = some (TO g len z9) from hz9) rfl dX8_work_42 ?_
      refine V_icmp_ge (tgt := 101) dX8_work_45 (by decide) (fun c45 => ?_) (fun c45 => absurd (nI_le hge (by omega)) c45)
      refine V_lv (lv2 := [(3, .int _), (2, .int _), (1, .int _), (0, .ref _)]) [0, 1, 2, 3] rfl ?_
      rw [wk_end hge]
      exact work_x hD hF p nn 0
  | succ m ih =>
    intro p nn σ2 M9 h1 h2 h3 hIS hv hD hF
    obtain ⟨z9, hz9⟩ := hD.2.2.2.2.1.1
    by_cases hge : len ≤ p
    · skip
      refine V_iload_n 0 dX8_work_37 rfl ?_
      refine V_aload_n 3 dX8_work_38 rfl ?_
      refine G_X8_29 rfl hD.1 rfl dX8_work_39 ?_
      refine G_X8_175 rfl (show _ = some (TO g len z9) from hz9) rfl dX8_work_42 ?_
      refine V_icmp_ge (tgt := 101) dX8_work_45 (by decide) (fun c45 => ?_) (fun c45 => absurd (nI_le hge (by omega)) c45)
      refine V_lv (lv2 := [(3, .int _), (2, .int _), (1, .int _), (0, .ref _)]) [0, 1, 2, 3] rfl ?_
      rw [wk_end hge]
      exact work_x hD hF p nn 0
    · have hplt : p < len := by omega
      have hv := vd_next (hv hplt)
      have hend : (pE t len p).1 = len ∨ (pE t len p).1 < len ∧ t (pE t len p).1 = 59 := hv.2.2.2.imp id (fun h => h.1)
      have hnx : (pE t len p).1 + 1 < len → VD t len ((pE t len p).1 + 1) := fun h => by
        rcases hv.2.2.2 with e | ⟨_, e⟩
        · omega
        · exact e
      obtain ⟨dIS, _⟩ := doP_IS hIS (vr_of hv.1)
      obtain ⟨wp, h95⟩ := hD.2.2.2.2.2.2.2.2.2
      have hD2 := hD.prt (rowP t len p)
      have hz2 : (mup M9 95 (eI g 4 (rowP t len p))) 83 = some (TO g len z9) := (mup_ne _ _ (by decide)).trans hz9
      · skip
        refine V_iload_n 0 dX8_work_37 rfl ?_
        refine V_aload_n 3 dX8_work_38 rfl ?_
        refine G_X8_29 rfl hD.1 rfl dX8_work_39 ?_
        refine G_X8_175 rfl (show _ = some (TO g len z9) from hz9) rfl dX8_work_42 ?_
        refine V_icmp_ge (tgt := 101) dX8_work_45 (by decide) (fun c45 => absurd c45 (nI_ge hplt (by omega))) (fun c45 => ?_)
        refine V_iload_n 1 dX8_work_48 rfl ?_
        refine V_if_ne (tgt := 101) dX8_work_49 (by decide) (fun c49 => absurd rfl c49) (fun c49 => ?_)
        refine V_pc (pc2 := 52) rfl ?_
        refine V_aload_n 3 dX8_work_52 rfl ?_
        refine G_X8_29 rfl hD.1 rfl dX8_work_53 ?_
        refine V_iload_n 0 dX8_work_56 rfl ?_
        refine V_aload_n 3 dX8_work_57 rfl ?_
        refine G_X8_54 rfl hD.1 rfl dX8_work_58 ?_
        refine C_X8_198 (show _ = some (TO g len z9) from hz9) rfl ⟨Nat.le_of_ble_eq_true rfl, Nat.le_of_ble_eq_true rfl⟩ (r_readPart hl ht hz9 hD.2.2.2.2.1.2 h95 p rfl hv.1 hend) rfl (Nat.le_of_ble_eq_true rfl) dX8_work_61 rfl ?_
        refine V_istore (lv2 := [(4, .int _), (3, .int _), (2, .int _), (1, .int _), (0, .ref _)]) dX8_work_64 (Nat.le_of_ble_eq_true rfl) rfl ?_
        refine V_aload_n 4 dX8_work_66 rfl ?_
        refine V_pc (pc2 := 67) rfl ?_
        refine V_aload_n 4 dX8_work_67 rfl ?_
        refine G_X8_29 rfl hD2.1 rfl dX8_work_68 ?_
        refine G_X8_202 rfl (show _ = some (TO g len z9) from hz2) rfl dX8_work_71 ?_
        refine V_iload_n 1 dX8_work_74 rfl ?_
        refine C_X8_77 rfl ⟨Nat.le_of_ble_eq_true rfl, Nat.le_of_ble_eq_true rfl⟩ (r_at hD2.2.2.2.2.1.2 p rfl (by omega) (by decide)) rfl (Nat.le_of_ble_eq_true rfl) dX8_work_75 rfl ?_
        rw [(ht p hplt).2.2]
        refine Cp_X8_205 hD2.1 rfl ⟨Nat.le_of_ble_eq_true rfl, Nat.le_of_ble_eq_true rfl⟩ (x_doPart hD2 hIS hv.1 (mup_eq _ _ _)) rfl (Nat.le_of_ble_eq_true rfl) dX8_work_78 rfl (fun _ q7 => ?_)
        obtain ⟨hD3, hF7⟩ := q7
        have hF3 := (hF.put (k := 95) (e := eI g 4 (rowP t len p)) (by omega)).trans (b := 0) (n := 96) hF7 (by omega)
        obtain ⟨y9, hy9⟩ := hD3.2.2.2.2.1.1
        refine V_istore_n (lv2 := [(2, .int _), (4, .int _), (3, .int _), (1, .int _), (0, .ref _)]) dX8_work_81 (Nat.le_of_ble_eq_true rfl) rfl ?_
        refine V_iload_n 0 dX8_work_82 rfl ?_
        refine V_pc (pc2 := 83) rfl ?_
        refine V_if_ne (tgt := 89) dX8_work_83 (by decide) (fun c83 => ?_) (fun c83 => ?_)
        · refine V_iload_n 2 dX8_work_89 rfl ?_
          refine V_iload 1 dX8_work_90 rfl ?_
          refine C_X8_208 rfl ⟨Nat.le_of_ble_eq_true rfl, Nat.le_of_ble_eq_true rfl⟩ (r_imax _ _) rfl (Nat.le_of_ble_eq_true rfl) dX8_work_92 rfl ?_
          refine V_iconst (v := 1) dX8_work_95 rfl ?_
          refine V_iadd dX8_work_96 ?_
          refine V_istore_n (lv2 := [(3, .int _), (2, .int _), (4, .int _), (1, .int _), (0, .ref _)]) dX8_work_97 (Nat.le_of_ble_eq_true rfl) rfl ?_
          refine V_goto (tgt := 37) dX8_work_98 (by decide) ?_
          refine V_lv (lv2 := [(3, .int _), (2, .int _), (1, .int _), (0, .ref _)]) [0, 1, 3, 4] rfl ?_
          rw [imax_nI (by omega) (by omega), nI_1, Nat.max_eq_right (by omega)]
          have hr0 : ¬ (doP σ2 (pK t len p) (pN t len p)).1 = 0 := c83
          refine V_iload_n 0 dX8_work_37 rfl ?_
          refine V_aload_n 3 dX8_work_38 rfl ?_
          refine G_X8_29 rfl hD3.1 rfl dX8_work_39 ?_
          refine G_X8_175 rfl (show _ = some (TO g len y9) from hy9) rfl dX8_work_42 ?_
          refine V_icmp_ge (tgt := 101) dX8_work_45 (by decide) (fun c45 => ?_) (fun c45 => ?_)
          · refine V_lv (lv2 := [(3, .int _), (2, .int _), (1, .int _), (0, .ref _)]) [0, 1, 2, 3] rfl ?_
            rw [wk_no hplt hr0]
            exact work_x hD3 hF3 _ nn _
          · refine V_iload_n 1 dX8_work_48 rfl ?_
            refine V_if_ne (tgt := 101) dX8_work_49 (by decide) (fun c49 => ?_) (fun c49 => absurd c49 hr0)
            refine V_lv (lv2 := [(3, .int _), (2, .int _), (1, .int _), (0, .ref _)]) [0, 1, 2, 3] rfl ?_
            rw [wk_no hplt hr0]
            exact work_x hD3 hF3 _ nn _
        · refine V_iinc (v := _ + 1) (lv2 := [(1, .int _), (2, .int _), (4, .int _), (3, .int _), (0, .ref _)]) 3 dX8_work_86 rfl rfl (Nat.le_of_ble_eq_true rfl) rfl ?_
          refine V_iload_n 3 dX8_work_89 rfl ?_
          refine V_iload 2 dX8_work_90 rfl ?_
          refine C_X8_208 rfl ⟨Nat.le_of_ble_eq_true rfl, Nat.le_of_ble_eq_true rfl⟩ (r_imax _ _) rfl (Nat.le_of_ble_eq_true rfl) dX8_work_92 rfl ?_
          refine V_iconst (v := 1) dX8_work_95 rfl ?_
          refine V_iadd dX8_work_96 ?_
          refine V_istore_n (lv2 := [(3, .int _), (1, .int _), (2, .int _), (4, .int _), (0, .ref _)]) dX8_work_97 (Nat.le_of_ble_eq_true rfl) rfl ?_
          refine V_pc (pc2 := 98) rfl ?_
          refine V_goto (tgt := 37) dX8_work_98 (by decide) ?_
          refine V_lv (lv2 := [(3, .int _), (2, .int _), (1, .int _), (0, .ref _)]) [0, 2, 1, 4] rfl ?_
          rw [imax_nI (by omega) (by omega), nI_1, Nat.max_eq_right (by omega)]
          have hr0 : (doP σ2 (pK t len p) (pN t len p)).1 = 0 := c83
          rw [hr0, nI_1, wk_go hplt hr0]
          exact ih _ _ _ _ (by omega) (by omega) (by omega) dIS hnx hD3 hF3

theorem h_work_1' {g : GE} {M : Mem} {sz : Nat} {fs : List Value} {P : Mem → Prop} (h0 : M 0 = some (eO 8 fs)) (hr : Run g m_X8_work [rf g 0] M sz 1 6 (fun o M2 => o = .inr (exN 1) ∧ P M2)) : Run g m_L_work [rf g 0, rf g 105] M sz 1 6 (RetP (some (.int 1)) P) := by
  refine Run.ofH (by decide) (by decide) (Nat.le_of_ble_eq_true rfl) ?_
  show V g m_L_work 0 _ [] _ _ _ _ _
  refine V_aload_n 1 dL_work_0 rfl ?_
  refine V_iconst (v := 0) dL_work_1 rfl ?_
  refine V_aload_n 0 dL_work_2 rfl ?_
  refine V_callVH (mt := m_L_work) (mc1 := 1) (ms1 := 6) (kc := 0) (ks := 0) hr h0 rfl rfl k_X8_work s_X8_work l_L_42 ⟨Nat.le_of_ble_eq_true rfl, Nat.le_of_ble_eq_true rfl⟩ rfl (Nat.le_of_ble_eq_true rfl) dL_work_3 rfl (fun v1 M1 h => nomatch h.1) (fun E1 M1 h => ?_)
  obtain ⟨h1, h2⟩ := h
  cases h1
  refine VX_catch (mt := m_L_work) [] (0, 8, 11, 15) [] (by decide) rfl (fun z hz => nomatch hz) (by decide) (by decide) cl_L_15 ca_1 (fun q => ?_)
  show V g m_L_work 11 _ _ _ _ _ _ _
  refine V_astore_n (lv2 := [(2, .ref _), (0, .ref _), (1, .ref _)]) dL_work_11 (Nat.le_of_ble_eq_true rfl) rfl ?_
  refine V_iconst (v := 1) dL_work_12 rfl ?_
  refine V_iret (st := []) dL_work_13 rfl ?_
  exact ⟨rfl, h2⟩
set_option maxRecDepth 20000 in
theorem x_work_1 {g : GE} {M : Mem} {sz : Nat} {σ τ : Nat → Int32} {hk : Bool} {n : Nat} {ps : Nat → Nat → Int32} {len : Nat} {tx : Nat → Int32} (hC : CW g M σ τ hk n ps len tx) (hl : len ≤ 60) {t : Nat → Nat} (ht : TX t tx len) (hok : okT t len = false) : Run g m_X8_work [rf g 0] M sz 1 6 (fun o M2 => o = .inr (exN 1) ∧ CW g M2 σ τ hk n ps len tx ∧ FR M M2 0 96) := by
  obtain ⟨z, t1⟩ := hC.2.2.2.2.1.1
  refine Run.of rfl (by decide) (Nat.le_of_ble_eq_true rfl) ?_
  show V g m_X8_work 0 _ [] _ _ _ _ _
  refine V_aload_n 0 dX8_work_0 rfl ?_
  refine G_X8_29 rfl hC.1 rfl dX8_work_1 ?_
  refine C_X8_189 (show _ = some (TO g len z) from t1) rfl ⟨Nat.le_of_ble_eq_true rfl, Nat.le_of_ble_eq_true rfl⟩ (r_isComplete hl ht t1 hC.2.2.2.2.1.2) rfl (Nat.le_of_ble_eq_true rfl) dX8_work_4 rfl ?_
  refine V_if_ne (tgt := 20) dX8_work_7 (by decide) (fun c7 => absurd (by rw [hok]; rfl) c7) (fun c7 => ?_)
  refine V_throwS 1 6 (by decide) (by decide) rfl rfl rfl rfl rfl (Nat.le_of_ble_eq_true rfl) (Nat.le_of_ble_eq_true rfl) dX8_work_10 dX8_work_13 dX8_work_14 dX8_work_16 dX8_work_19 ?_
  exact ⟨rfl, hC.st _, (FR.refl M 0 96).put (by omega)⟩

set_option maxRecDepth 20000 in
theorem x_work_ok {g : GE} {M : Mem} {sz : Nat} {σ τ : Nat → Int32} {hk : Bool} {n : Nat} {ps : Nat → Nat → Int32} {len : Nat} {tx : Nat → Int32} (hC : CW g M σ τ hk n ps len tx) (hl : len ≤ 60) {t : Nat → Nat} (ht : TX t tx len) (hok : okT t len = true) (hn : n ≤ 6) (hIS : IS σ) : Run g m_X8_work [rf g 0] M sz 0 0 (RetP (some (.int (nI (wk t len len 0 0 σ).1))) (fun M2 => CW g M2 (wkS (wk t len len 0 0 σ)) τ hk (pshN n) (pshP n ps σ) 0 tx ∧ FR M M2 0 96)) := by
  obtain ⟨z, t1⟩ := hC.2.2.2.2.1.1
  refine Run.of rfl (by decide) (Nat.le_of_ble_eq_true rfl) ?_
  show V g m_X8_work 0 _ [] _ _ _ _ _
  refine V_aload_n 0 dX8_work_0 rfl ?_
  refine G_X8_29 rfl hC.1 rfl dX8_work_1 ?_
  refine C_X8_189 (show _ = some (TO g len z) from t1) rfl ⟨Nat.le_of_ble_eq_true rfl, Nat.le_of_ble_eq_true rfl⟩ (r_isComplete hl ht t1 hC.2.2.2.2.1.2) rfl (Nat.le_of_ble_eq_true rfl) dX8_work_4 rfl ?_
  have hC1 := hC.st (dnI (rdF t 0 0 len))
  have hF1 : FR M (mup M 83 (TO g len (dnI (rdF t 0 0 len)))) 0 96 := (FR.refl M 0 96).put (by omega)
  refine V_if_ne (tgt := 20) dX8_work_7 (by decide) (fun c7 => ?_) (fun c7 => absurd c7 (by rw [hok]; decide))
  refine V_aload_n 0 dX8_work_20 rfl ?_
  refine G_X8_22 rfl hC1.1 rfl dX8_work_21 ?_
  refine V_aload_n 0 dX8_work_24 rfl ?_
  refine V_pc (pc2 := 25) rfl ?_
  refine G_X8_10 rfl hC1.1 rfl dX8_work_25 ?_
  refine Cp_X8_70 hC1.2.2.2.1.choose_spec.1 rfl ⟨Nat.le_of_ble_eq_true rfl, Nat.le_of_ble_eq_true rfl⟩ (r_push hC1.2.2.2.1 hn hC1.2.1 (by omega)) rfl (Nat.le_of_ble_eq_true rfl) dX8_work_28 rfl (fun _ q9 => ?_)
  have hC2 := hC1.psh q9.1 q9.2
  have hF2 := hF1.trans (b := 0) (n := 96) q9.2 (by omega)
  refine V_iconst (v := 0) dX8_work_31 rfl ?_
  refine V_istore_n (lv2 := [(1, .int _), (0, .ref _)]) dX8_work_32 (Nat.le_of_ble_eq_true rfl) rfl ?_
  refine V_iconst (v := 0) dX8_work_33 rfl ?_
  refine V_istore_n (lv2 := [(2, .int _), (1, .int _), (0, .ref _)]) dX8_work_34 (Nat.le_of_ble_eq_true rfl) rfl ?_
  refine V_iconst (v := 0) dX8_work_35 rfl ?_
  refine V_istore_n (lv2 := [(3, .int _), (2, .int _), (1, .int _), (0, .ref _)]) dX8_work_36 (Nat.le_of_ble_eq_true rfl) rfl ?_
  refine V_lv (lv2 := [(3, .int _), (2, .int _), (1, .int _), (0, .ref _)]) [0, 1, 2, 3] rfl ?_
  exact work_l hl ht len 0 0 σ _ (by omega) (Nat.le_refl _) (by omega) hIS (fun _ => vd_0 hok) hC2 hF2

theorem q9_does {g : GE} {M : Mem} {sz : Nat} {σ v u : Nat → Int32} {tx : Nat → Int32} {len : Nat} {t : Nat → Nat} (ht : TX t tx len) (hM : MD g M σ v) (hI : IS σ) {p : Nat} (hg : PG t len p) (hv : ∀ k, 6 ≤ k → v k = pU t len p u k) : Run g m_X9_does [rf g 96] M sz 0 0 (Ret (some (.int (doP σ (pK t len p) (pN t len p)).1)) (mup M 97 (eI g 65 (doP σ (pK t len p) (pN t len p)).2))) := by
  obtain ⟨m, hm8, hm, hq⟩ := hI.many
  have dvE : ∀ i, i < len → 48 ≤ t i → dvP t len (i, false) = nI (t i - 48) := by
    intro i hi h48
    show nI (nxN t len i) - 48 = _
    rw [nxN_lt hi, show (48 : Int32) = nI 48 from rfl, pk_sub h48]
  by_cases c1 : nxN t len p = 45
  · have hk : pK t len p = 45 := if_pos c1
    have hu : pU t len p u = pU45 t len p u := if_pos c1
    rw [hu] at hv
    obtain ⟨a1, a2, a3, a4, a5, a6, a7, a8, a9, b1⟩ := sh45 c1 hg
    rw [hk]
    rcases vr_of hg with ⟨k, h0, h1⟩ | ⟨k, _⟩ | ⟨k, _⟩ | ⟨k, _⟩
    · refine q9_does_45 hM _ ((hv 6 (by decide)).trans rfl) ((hv 7 (by decide)).trans ?_) ((hv 8 (by decide)).trans ?_) h0 h1
      · show dvP t len (p + 1, false) = _
        rw [dvE _ (by omega) a3, (pN_45 c1).1]
      · show dvP t len (sgP t len 62 (dgP t len 0 4 (p + 1, false))) = _
        rw [a9, b1, dvE _ (by omega) a6, (pN_45 c1).2]
    all_goals (rw [hk] at k; exact absurd k (by decide))
  · by_cases c2 : nxN t len p = 98
    · have hk : pK t len p = 98 := by unfold pK; rw [if_neg c1, if_pos c2]
      have hu : pU t len p u = pU98 t len p u := by unfold pU; rw [if_neg c1, if_pos c2]
      rw [hu] at hv
      obtain ⟨a1, a2, a3, a4, a5, a6, a7, a8, a9, b1, b2⟩ := sh98 c2 hg
      rw [hk]
      refine q9_does_98 hM _ ((hv 6 (by decide)).trans rfl) ((hv 7 (by decide)).trans ?_) ((hv 8 (by decide)).trans ?_) m hm hm8
      · show dvP t len (p + 1, false) = _
        rw [dvE _ (by omega) a3, (pN_98 c2).1]
      · show nvP t len 9999 (sgP t len 61 (dgP t len 0 4 (p + 1, false))) = _
        rw [a9, b1, b2, (pN_98 c2).2]
    · by_cases c3 : nxN t len p = 115
      · have hk : pK t len p = 115 := by unfold pK; rw [if_neg c1, if_neg c2, if_pos c3]
        have hu : pU t len p u = pU115 t len p u := by unfold pU; rw [if_neg c1, if_neg c2, if_pos c3]
        rw [hu] at hv
        obtain ⟨a1, a2, a3, a4, a5, a6, a7, a8, a9, b1⟩ := sh115 c3 hg
        rw [hk]
        rcases vr_of hg with ⟨k, _⟩ | ⟨k, _⟩ | ⟨k, h0, h1⟩ | ⟨k, _⟩
        · rw [hk] at k; exact absurd k (by decide)
        · rw [hk] at k; exact absurd k (by decide)
        · refine q9_does_115 hM hI.1 (pN t len p) ((hv 6 (by decide)).trans rfl) _ _ m ((hv 7 (by decide)).trans ?_) ((hv 8 (by decide)).trans ?_) h0 h1 hm hm8 (hq _)
          · show dvP t len (p + 1, false) = _
            rw [dvE _ (by omega) a3, (pN_115 c3).1]
          · show dvP t len (sgP t len 62 (dgP t len 0 7 (p + 1, false))) = _
            rw [a9, b1, dvE _ (by omega) a6, (pN_115 c3).2]
        · rw [hk] at k; exact absurd k (by decide)
      · have hk : pK t len p = 116 := by unfold pK; rw [if_neg c1, if_neg c2, if_neg c3]
        have hu : pU t len p u = pU116 t len p u := by unfold pU; rw [if_neg c1, if_neg c2, if_neg c3]
        rw [hu] at hv
        obtain ⟨a1, a2, a3, a4, a5, a6, a7, a8, a9, b1, b2, b3, b4, b5, d1, d2, d3, d4, d5, d6, d7, d8⟩ := sh116 c1 c2 c3 hg
        obtain ⟨n0, n1, n2, n3⟩ := pN_116 c1 c2 c3
        rw [hk]
        rcases vr_of hg with ⟨k, _⟩ | ⟨k, _⟩ | ⟨k, _⟩ | ⟨k, h0, h1, u1, u2, e1, e2⟩
        · rw [hk] at k; exact absurd k (by decide)
        · rw [hk] at k; exact absurd k (by decide)
        · rw [hk] at k; exact absurd k (by decide)
        · refine q9_does_116 hM hI.1 _ ((hv 6 (by decide)).trans rfl) ((hv 7 (by decide)).trans ?_) ((hv 8 (by decide)).trans ?_) ((hv 9 (by decide)).trans ?_) ((hv 10 (by decide)).trans ?_) h0 h1 (UDn u1 u2 e1 e2)
          · show dvP t len (p, false) = _
            rw [dvE _ (by omega) a2, n0]
          · show dvP t len (sgP t len 62 (dgP t len 0 4 (p, false))) = _
            rw [d1, d2, dvE _ (by omega) a5, n1]
          · show nvP t len 99 (sgP t len 61 (dgP t len 0 4 (sgP t len 62 (dgP t len 0 4 (p, false))))) = _
            rw [d1, d2, d3, d4, d5, n2]
          · show nvP t len 99 (sgP t len 47 (nmP t len 99 (sgP t len 61 (dgP t len 0 4 (sgP t len 62 (dgP t len 0 4 (p, false))))))) = _
            rw [d1, d2, d3, d4, d6, d7, d8, n3]
theorem ML.wrk {g : GE} {M M2 : Mem} {σ σ2 sn : Nat → Int32} {hk : Bool} {n : Nat} {ps : Nat → Nat → Int32} {len len2 : Nat} {tx : Nat → Int32} {th : Int32} (h : ML g M σ sn hk n ps len tx th) {w : Nat → Int32} (hM : MD g M2 σ2 w) (v0 : w 0 = nI n) (v1 : w 1 = bI hk) (v2 : w 2 = nI len2) (v3 : w 3 = th) (e : ∀ k, k ≠ 96 → k ≠ 97 → M2 k = M k) : ML g M2 σ2 sn hk n ps len2 tx th := by
  obtain ⟨_, ⟨pf, f1, f2⟩, f3, f4, a, b, f5, f6⟩ := h
  exact ⟨⟨_, hM, v0, v1, v2, v3⟩, ⟨pf, (e _ (by decide) (by decide)).trans f1, f2⟩, (e _ (by decide) (by decide)).trans f3, (e _ (by decide) (by decide)).trans f4, a, b, (e _ (by decide) (by decide)).trans f5, (e _ (by decide) (by decide)).trans f6⟩
set_option maxRecDepth 20000 in
theorem work9_x {g : GE} {M : Mem} {sz : Nat} {σ0 sn v : Nat → Int32} {hk : Bool} {n : Nat} {ps : Nat → Nat → Int32} {len : Nat} {tx : Nat → Int32} {th : Int32} (hL : ML g M σ0 sn hk n ps len tx th) (v0 : v 0 = nI n) (v1 : v 1 = bI hk) (v2 : v 2 = nI len) (v3 : v 3 = th) {M9 : Mem} {σ2 u : Nat → Int32} (hM : MD g M9 σ2 u) (hu : ∀ k, k < 4 → u k = v k) (hF : ∀ k, k ≠ 96 → k ≠ 97 → M9 k = M k) (nn : Nat) (r : Int32) : V g m_X9_work 83 [(2, .int (r)), (1, .int (nI nn)), (0, rf g 96)] [] M9 sz 0 0 (RetP (some (.int (nI (nn, r, σ2).1))) (fun M2 => ML g M2 (wkS (nn, r, σ2)) sn hk n ps 0 tx th ∧ FR M M2 96 9)) := by
  refine V_aload_n 2 dX9_work_83 rfl ?_
  refine G_X9_7 rfl hM.1 rfl dX9_work_84 ?_
  refine V_bipush (v := 63) dX9_work_87 (by decide) ?_
  refine V_iload_n 0 dX9_work_89 rfl ?_
  refine V_if_ne (tgt := 97) dX9_work_90 (by decide) (fun c90 => ?_) (fun c90 => ?_)
  · refine V_iload_n 1 dX9_work_97 rfl ?_
    refine V_iconst (v := 1) dX9_work_98 rfl ?_
    refine V_iadd dX9_work_99 ?_
    refine V_iast hM.2.1 (v65 63 (by decide)) dX9_work_100 ?_
    refine V_aload_n 2 dX9_work_101 rfl ?_
    refine G_X9_7 rfl (hM.put _).1 rfl dX9_work_102 ?_
    refine V_bipush (v := 64) dX9_work_105 (by decide) ?_
    refine V_pc (pc2 := 107) rfl ?_
    refine V_iload_n 0 dX9_work_107 rfl ?_
    refine V_iast (hM.put _).2.1 (v65 64 (by decide)) dX9_work_108 ?_
    refine V_aload_n 2 dX9_work_109 rfl ?_
    refine V_iconst (v := 0) dX9_work_110 rfl ?_
    refine P_X9_159 rfl ((hM.put _).put _).1 (Nat.le_of_ble_eq_true rfl) rfl rfl dX9_work_111 ?_
    refine V_iload_n 1 dX9_work_114 rfl ?_
    refine V_iret (st := []) dX9_work_115 rfl ?_
    refine ⟨rfl, ?_, fun k hk9 => ?_⟩
    · have e : upd (upd σ2 63 (nI nn + 1)) 64 r = wkS (nn, r, σ2) := by unfold wkS; rw [if_neg c90, nI_1]
      rw [← e]
      show ML g (mup (mup (mup M9 97 (eI g 65 (upd σ2 63 (nI nn + 1)))) 97 (eI g 65 (upd (upd σ2 63 (nI nn + 1)) 64 r))) 96 (MO g (upd u 2 0))) _ _ _ _ _ _ _ _
      refine hL.wrk (w := upd u 2 0) ((((hM.put _).put _)).v _) ((upd_ne (by decide)).trans ((hu 0 (by decide)).trans v0)) ((upd_ne (by decide)).trans ((hu 1 (by decide)).trans v1)) (upd_at _ _ _) ((upd_ne (by decide)).trans ((hu 3 (by decide)).trans v3)) (fun k k1 k2 => ?_)
      rw [mup_ne _ _ k1, mup_ne _ _ k2, mup_ne _ _ k2]
      exact hF k k1 k2
    · rw [mup_ne _ _ (by omega), mup_ne _ _ (by omega), mup_ne _ _ (by omega)]
      exact hF k (by omega) (by omega)
  · refine V_iconst (v := 0) dX9_work_93 rfl ?_
    refine V_goto (tgt := 100) dX9_work_94 (by decide) ?_
    refine V_iast hM.2.1 (v65 63 (by decide)) dX9_work_100 ?_
    refine V_aload_n 2 dX9_work_101 rfl ?_
    refine G_X9_7 rfl (hM.put _).1 rfl dX9_work_102 ?_
    refine V_bipush (v := 64) dX9_work_105 (by decide) ?_
    refine V_iload_n 0 dX9_work_107 rfl ?_
    refine V_pc (pc2 := 108) rfl ?_
    refine V_iast (hM.put _).2.1 (v65 64 (by decide)) dX9_work_108 ?_
    refine V_aload_n 2 dX9_work_109 rfl ?_
    refine V_iconst (v := 0) dX9_work_110 rfl ?_
    refine P_X9_159 rfl ((hM.put _).put _).1 (Nat.le_of_ble_eq_true rfl) rfl rfl dX9_work_111 ?_
    refine V_iload_n 1 dX9_work_114 rfl ?_
    refine V_iret (st := []) dX9_work_115 rfl ?_
    refine ⟨rfl, ?_, fun k hk9 => ?_⟩
    · have e : upd (upd σ2 63 (0)) 64 r = wkS (nn, r, σ2) := by unfold wkS; rw [if_pos c90]
      rw [← e]
      show ML g (mup (mup (mup M9 97 (eI g 65 (upd σ2 63 (0)))) 97 (eI g 65 (upd (upd σ2 63 (0)) 64 r))) 96 (MO g (upd u 2 0))) _ _ _ _ _ _ _ _
      refine hL.wrk (w := upd u 2 0) ((((hM.put _).put _)).v _) ((upd_ne (by decide)).trans ((hu 0 (by decide)).trans v0)) ((upd_ne (by decide)).trans ((hu 1 (by decide)).trans v1)) (upd_at _ _ _) ((upd_ne (by decide)).trans ((hu 3 (by decide)).trans v3)) (fun k k1 k2 => ?_)
      rw [mup_ne _ _ k1, mup_ne _ _ k2, mup_ne _ _ k2]
      exact hF k k1 k2
    · rw [mup_ne _ _ (by omega), mup_ne _ _ (by omega), mup_ne _ _ (by omega)]
      exact hF k (by omega) (by omega)

set_option maxRecDepth 20000 in
theorem work9_l {g : GE} {M : Mem} {sz : Nat} {σ0 sn v : Nat → Int32} {hk : Bool} {n : Nat} {ps : Nat → Nat → Int32} {len : Nat} {tx : Nat → Int32} {th : Int32} (hL : ML g M σ0 sn hk n ps len tx th) (v0 : v 0 = nI n) (v1 : v 1 = bI hk) (v2 : v 2 = nI len) (v3 : v 3 = th) (hl : len ≤ 60) {t : Nat → Nat} (ht : TX t tx len) : ∀ (m p nn : Nat) (σ2 u : Nat → Int32) (M9 : Mem), len ≤ p + m → nn ≤ p → p ≤ len + 1 → IS σ2 → (p < len → VD t len p) → MD g M9 σ2 u → (∀ k, k < 4 → u k = v k) → (∀ k, k ≠ 96 → k ≠ 97 → M9 k = M k) → PV u (p, false) → V g m_X9_work 34 [(2, .int (0)), (1, .int (nI nn)), (0, rf g 96)] [] M9 sz 0 0 (RetP (some (.int (nI (wk t len m p nn σ2).1))) (fun M2 => ML g M2 (wkS (wk t len m p nn σ2)) sn hk n ps 0 tx th ∧ FR M M2 96 9)) := by
  intro m
  induction m with
  | zero =>
    intro p nn σ2 u M9 h1 h2 h3 hIS hv hM hu hF hp4
    have hge : len ≤ p := by omega
    · skip
      refine V_iload_n 0 dX9_work_34 rfl ?_
      refine V_if_ne (tgt := 83) dX9_work_35 (by decide) (fun c35 => absurd rfl c35) (fun c35 => ?_)
      refine V_aload_n 2 dX9_work_38 rfl ?_
      refine G_X9_162 rfl hM.1 rfl dX9_work_39 ?_
      refine V_aload_n 2 dX9_work_42 rfl ?_
      refine G_X9_159 rfl hM.1 rfl dX9_work_43 ?_
      refine V_icmp_ge (tgt := 83) dX9_work_46 (by decide) (fun c46 => ?_) (fun c46 => absurd (show u 2 ≤ u 4 by rw [hp4.1, (hu 2 (by decide)).trans v2]; exact nI_le hge (by omega)) c46)
      refine V_lv (lv2 := [(2, .int _), (1, .int _), (0, .ref _)]) [0, 1, 2] rfl ?_
      rw [wk_end hge]
      exact work9_x hL v0 v1 v2 v3 hM hu hF nn 0
  | succ m ih =>
    intro p nn σ2 u M9 h1 h2 h3 hIS hv hM hu hF hp4
    by_cases hge : len ≤ p
    · skip
      refine V_iload_n 0 dX9_work_34 rfl ?_
      refine V_if_ne (tgt := 83) dX9_work_35 (by decide) (fun c35 => absurd rfl c35) (fun c35 => ?_)
      refine V_aload_n 2 dX9_work_38 rfl ?_
      refine G_X9_162 rfl hM.1 rfl dX9_work_39 ?_
      refine V_aload_n 2 dX9_work_42 rfl ?_
      refine G_X9_159 rfl hM.1 rfl dX9_work_43 ?_
      refine V_icmp_ge (tgt := 83) dX9_work_46 (by decide) (fun c46 => ?_) (fun c46 => absurd (show u 2 ≤ u 4 by rw [hp4.1, (hu 2 (by decide)).trans v2]; exact nI_le hge (by omega)) c46)
      refine V_lv (lv2 := [(2, .int _), (1, .int _), (0, .ref _)]) [0, 1, 2] rfl ?_
      rw [wk_end hge]
      exact work9_x hL v0 v1 v2 v3 hM hu hF nn 0
    · have hplt : p < len := by omega
      have hv := vd_next (hv hplt)
      have hnx : (pE t len p).1 + 1 < len → VD t len ((pE t len p).1 + 1) := fun h => by
        rcases hv.2.2.2 with e | ⟨_, e⟩
        · omega
        · exact e
      obtain ⟨dIS, _⟩ := doP_IS hIS (vr_of hv.1)
      have h100 : M9 100 = some (eI g 60 tx) := (hF 100 (by decide) (by decide)).trans hL.2.2.2.1
      have hM2 : MD g (mup M9 96 (MO g (psV (pU t len p u) ((pE t len p).1 + 1, false)))) σ2 (psV (pU t len p u) ((pE t len p).1 + 1, false)) := hM.v _
      have hM3 : MD g (mup (mup M9 96 (MO g (psV (pU t len p u) ((pE t len p).1 + 1, false)))) 97 (eI g 65 (doP σ2 (pK t len p) (pN t len p)).2)) (doP σ2 (pK t len p) (pN t len p)).2 (psV (pU t len p u) ((pE t len p).1 + 1, false)) := hM2.put _
      have hu3 : ∀ k, k < 4 → (psV (pU t len p u) ((pE t len p).1 + 1, false)) k = v k := fun k hk => (psV_o (by omega) (by omega)).trans ((pU_o t len p u (by omega)).trans (hu k hk))
      have hF3 : ∀ k, k ≠ 96 → k ≠ 97 → (mup (mup M9 96 (MO g (psV (pU t len p u) ((pE t len p).1 + 1, false)))) 97 (eI g 65 (doP σ2 (pK t len p) (pN t len p)).2)) k = M k := fun k k1 k2 => by rw [mup_ne _ _ k2, mup_ne _ _ k1]; exact hF k k1 k2
      · skip
        refine V_iload_n 0 dX9_work_34 rfl ?_
        refine V_if_ne (tgt := 83) dX9_work_35 (by decide) (fun c35 => absurd rfl c35) (fun c35 => ?_)
        refine V_aload_n 2 dX9_work_38 rfl ?_
        refine G_X9_162 rfl hM.1 rfl dX9_work_39 ?_
        refine V_aload_n 2 dX9_work_42 rfl ?_
        refine G_X9_159 rfl hM.1 rfl dX9_work_43 ?_
        refine V_icmp_ge (tgt := 83) dX9_work_46 (by decide) (fun c46 => absurd c46 (show ¬ u 2 ≤ u 4 by rw [hp4.1, (hu 2 (by decide)).trans v2]; exact nI_ge hplt (by omega))) (fun c46 => ?_)
        refine V_pc (pc2 := 49) rfl ?_
        refine V_aload_n 2 dX9_work_49 rfl ?_
        refine C_X9_198 hM.1 rfl ⟨Nat.le_of_ble_eq_true rfl, Nat.le_of_ble_eq_true rfl⟩ (q9_part hl ht ⟨hM.1, h100, (hu 2 (by decide)).trans v2⟩ hp4 (by omega)) rfl (Nat.le_of_ble_eq_true rfl) dX9_work_50 rfl ?_
        refine V_aload_n 2 dX9_work_53 rfl ?_
        refine V_dup dX9_work_54 rfl ?_
        refine G_X9_162 rfl (show _ = some (MO g (psV (pU t len p u) (pE t len p))) from mup_eq _ _ _) rfl dX9_work_55 ?_
        refine V_iconst (v := 1) dX9_work_58 rfl ?_
        refine V_iadd dX9_work_59 ?_
        refine P_X9_162 rfl (show _ = some (MO g (psV (pU t len p u) (pE t len p))) from mup_eq _ _ _) (Nat.le_of_ble_eq_true rfl) rfl rfl dX9_work_60 ?_
        refine V_pc (pc2 := 63) rfl ?_
        show V g m_X9_work 63 _ _ (mup (mup M9 96 (MO g (psV (pU t len p u) (pE t len p)))) 96 (MO g (upd (psV (pU t len p u) (pE t len p)) 4 ((psV (pU t len p u) (pE t len p)) 4 + 1)))) _ _ _ _
        rw [mup_mup, spot_inc (p := (pE t len p).1) (by rw [show ((pE t len p).1, false) = pE t len p from Prod.ext rfl hv.1.symm]; exact psV_pv _ _) rfl, psV_psV]
        refine V_aload_n 2 dX9_work_63 rfl ?_
        refine C_X9_205 hM2.1 rfl ⟨Nat.le_of_ble_eq_true rfl, Nat.le_of_ble_eq_true rfl⟩ (q9_does (u := u) ht hM2 hIS hv.1 (fun k hk => psV_o (by omega) (by omega))) rfl (Nat.le_of_ble_eq_true rfl) dX9_work_64 rfl ?_
        refine V_istore_n (lv2 := [(2, .int _), (1, .int _), (0, .ref _)]) dX9_work_67 (Nat.le_of_ble_eq_true rfl) rfl ?_
        refine V_iload_n 1 dX9_work_68 rfl ?_
        refine V_iload_n 0 dX9_work_69 rfl ?_
        refine V_if_ne (tgt := 77) dX9_work_70 (by decide) (fun c70 => ?_) (fun c70 => ?_)
        · refine V_iconst (v := 0) dX9_work_77 rfl ?_
          refine V_iadd dX9_work_78 ?_
          refine V_istore_n (lv2 := [(1, .int _), (2, .int _), (0, .ref _)]) dX9_work_79 (Nat.le_of_ble_eq_true rfl) rfl ?_
          refine V_goto (tgt := 34) dX9_work_80 (by decide) ?_
          refine V_lv (lv2 := [(2, .int _), (1, .int _), (0, .ref _)]) [1, 0, 2] rfl ?_
          have hr0 : ¬ (doP σ2 (pK t len p) (pN t len p)).1 = 0 := c70
          refine V_iload_n 0 dX9_work_34 rfl ?_
          refine V_if_ne (tgt := 83) dX9_work_35 (by decide) (fun c35 => ?_) (fun c35 => absurd c35 hr0)
          refine V_lv (lv2 := [(2, .int _), (1, .int _), (0, .ref _)]) [0, 1, 2] rfl ?_
          rw [wk_no hplt hr0, Int32.add_zero]
          exact work9_x hL v0 v1 v2 v3 hM3 hu3 hF3 nn _
        · refine V_iconst (v := 1) dX9_work_73 rfl ?_
          refine V_goto (tgt := 78) dX9_work_74 (by decide) ?_
          refine V_iadd dX9_work_78 ?_
          refine V_istore_n (lv2 := [(1, .int _), (2, .int _), (0, .ref _)]) dX9_work_79 (Nat.le_of_ble_eq_true rfl) rfl ?_
          refine V_goto (tgt := 34) dX9_work_80 (by decide) ?_
          refine V_lv (lv2 := [(2, .int _), (1, .int _), (0, .ref _)]) [1, 0, 2] rfl ?_
          have hr0 : (doP σ2 (pK t len p) (pN t len p)).1 = 0 := c70
          rw [hr0, nI_1, wk_go hplt hr0]
          exact ih _ _ _ _ _ (by omega) (by omega) (by omega) dIS hnx hM3 hu3 hF3 (psV_pv _ _)

set_option maxRecDepth 20000 in
theorem q9_work_1 {g : GE} {M : Mem} {sz : Nat} {σ sn : Nat → Int32} {hk : Bool} {n : Nat} {ps : Nat → Nat → Int32} {len : Nat} {tx : Nat → Int32} {th : Int32} (hL : ML g M σ sn hk n ps len tx th) (hl : len ≤ 60) {t : Nat → Nat} (ht : TX t tx len) (hok : okT t len = false) : Run g m_X9_work [rf g 96] M sz 0 0 (RetP (some (.int 0)) (fun M2 => ML g M2 (σ) (sn) (hk) (n) (ps) (len) (tx) (1) ∧ FR M M2 96 9)) := by
  obtain ⟨⟨v, hM, v0, v1, v2', v3⟩, ⟨pf, f1, f2⟩, f3, f4, f5⟩ := id hL
  refine Run.of rfl (by decide) (Nat.le_of_ble_eq_true rfl) ?_
  show V g m_X9_work 0 _ [] _ _ _ _ _
  refine V_aload_n 0 dX9_work_0 rfl ?_
  refine V_aload_n 0 dX9_work_1 rfl ?_
  refine Cp_X9_201 hM.1 rfl ⟨Nat.le_of_ble_eq_true rfl, Nat.le_of_ble_eq_true rfl⟩ (q9_isWhole hl ht ⟨hM.1, f4, v2'⟩) rfl (Nat.le_of_ble_eq_true rfl) dX9_work_2 rfl (fun _ h6 => ?_)
  obtain ⟨v2, rfl, hWV⟩ := h6
  have hL3 := hL.wv hM v0 v1 v2' v3 hWV.1
  have hM3 := hM.v v2
  refine V_if_eq (tgt := 12) dX9_work_5 (by decide) (fun c5 => ?_) (fun c5 => absurd (by rw [hok]; rfl) c5)
  refine V_iconst (v := 1) dX9_work_12 rfl ?_
  refine C_X9_111 hM3.1 rfl ⟨Nat.le_of_ble_eq_true rfl, Nat.le_of_ble_eq_true rfl⟩ (r9_refused hM3 1) rfl (Nat.le_of_ble_eq_true rfl) dX9_work_13 rfl ?_
  refine V_if_eq (tgt := 21) dX9_work_16 (by decide) (fun c16 => absurd c16 (by decide)) (fun c16 => ?_)
  refine V_pc (pc2 := 19) rfl ?_
  refine V_iconst (v := 0) dX9_work_19 rfl ?_
  refine V_iret (st := []) dX9_work_20 rfl ?_
  exact ⟨rfl, hL3.thr hM3 ((hWV.1 0 (by decide)).trans v0) ((hWV.1 1 (by decide)).trans v1) ((hWV.1 2 (by decide)).trans v2'), ((FR.refl M 96 9).put (by omega)).put (by omega)⟩

set_option maxRecDepth 20000 in
theorem q9_work_ok {g : GE} {M : Mem} {sz : Nat} {σ sn : Nat → Int32} {hk : Bool} {n : Nat} {ps : Nat → Nat → Int32} {len : Nat} {tx : Nat → Int32} {th : Int32} (hL : ML g M σ sn hk n ps len tx th) (hl : len ≤ 60) {t : Nat → Nat} (ht : TX t tx len) (hok : okT t len = true) (hn : n ≤ 6) (hIS : IS σ) : Run g m_X9_work [rf g 96] M sz 0 0 (RetP (some (.int (nI (wk t len len 0 0 σ).1))) (fun M2 => ML g M2 (wkS (wk t len len 0 0 σ)) (sn) (hk) (pshN n) (pshP n ps σ) (0) (tx) (0) ∧ FR M M2 96 9)) := by
  obtain ⟨⟨v, hM, v0, v1, v2', v3⟩, ⟨pf, f1, f2⟩, f3, f4, f5⟩ := id hL
  refine Run.of rfl (by decide) (Nat.le_of_ble_eq_true rfl) ?_
  show V g m_X9_work 0 _ [] _ _ _ _ _
  refine V_aload_n 0 dX9_work_0 rfl ?_
  refine V_aload_n 0 dX9_work_1 rfl ?_
  refine Cp_X9_201 hM.1 rfl ⟨Nat.le_of_ble_eq_true rfl, Nat.le_of_ble_eq_true rfl⟩ (q9_isWhole hl ht ⟨hM.1, f4, v2'⟩) rfl (Nat.le_of_ble_eq_true rfl) dX9_work_2 rfl (fun _ h6 => ?_)
  obtain ⟨v2, rfl, hWV⟩ := h6
  have hL3 := hL.wv hM v0 v1 v2' v3 hWV.1
  have hM3 := hM.v v2
  refine V_if_eq (tgt := 12) dX9_work_5 (by decide) (fun c5 => absurd c5 (by rw [hok]; decide)) (fun c5 => ?_)
  refine V_iconst (v := 0) dX9_work_8 rfl ?_
  refine V_goto (tgt := 13) dX9_work_9 (by decide) ?_
  refine C_X9_111 hM3.1 rfl ⟨Nat.le_of_ble_eq_true rfl, Nat.le_of_ble_eq_true rfl⟩ (r9_refused hM3 0) rfl (Nat.le_of_ble_eq_true rfl) dX9_work_13 rfl ?_
  refine V_pc (pc2 := 16) rfl ?_
  refine V_if_eq (tgt := 21) dX9_work_16 (by decide) (fun c16 => ?_) (fun c16 => absurd (by decide) c16)
  refine V_aload_n 0 dX9_work_21 rfl ?_
  refine Cp_X9_114 (hM3.v _).1 rfl ⟨Nat.le_of_ble_eq_true rfl, Nat.le_of_ble_eq_true rfl⟩ (r9_saves (hM3.v _) (show _ = some (eI g 390 pf) from (mup_ne _ _ (by decide)).trans ((mup_ne _ _ (by decide)).trans f1)) n (show upd v2 3 _ 0 = nI n from (hWV.1 0 (by decide)).trans v0) hn f2) rfl (Nat.le_of_ble_eq_true rfl) dX9_work_22 rfl (fun _ q9 => ?_)
  have hL2 := hL3.sav hM3 ((hWV.1 0 (by decide)).trans v0) ((hWV.1 1 (by decide)).trans v1) ((hWV.1 2 (by decide)).trans v2') q9
  have hF2 := SV.fr q9
  have hW := q9.2.1
  clear q9
  obtain ⟨w, hw⟩ : ∃ w, w = upd (upd v2 3 0) 0 (nI (pshN n)) := ⟨_, rfl⟩
  rw [← hw] at hW
  have w0 : w 0 = nI (pshN n) := by rw [hw]; exact upd_at _ _ _
  have w1 : w 1 = bI hk := by rw [hw]; exact (hWV.1 1 (by decide)).trans v1
  have w2 : w 2 = nI len := by rw [hw]; exact (hWV.1 2 (by decide)).trans v2'
  have w3 : w 3 = 0 := by rw [hw]; rfl
  have hw5 : w 5 = 0 := by
    rw [hw]
    have e5 := hWV.2.2
    rw [hok] at e5
    exact e5
  refine V_iconst (v := 0) dX9_work_25 rfl ?_
  refine V_istore_n (lv2 := [(1, .int _), (0, .ref _)]) dX9_work_26 (Nat.le_of_ble_eq_true rfl) rfl ?_
  refine V_iconst (v := 0) dX9_work_27 rfl ?_
  refine V_istore_n (lv2 := [(2, .int _), (1, .int _), (0, .ref _)]) dX9_work_28 (Nat.le_of_ble_eq_true rfl) rfl ?_
  refine V_aload_n 2 dX9_work_29 rfl ?_
  refine V_pc (pc2 := 30) rfl ?_
  refine V_iconst (v := 0) dX9_work_30 rfl ?_
  refine P_X9_162 rfl hW.1 (Nat.le_of_ble_eq_true rfl) rfl rfl dX9_work_31 ?_
  refine V_lv (lv2 := [(2, .int _), (1, .int _), (0, .ref _)]) [0, 1, 2] rfl ?_
  have e9 := work9_l (sz := sz) hL2 w0 w1 w2 w3 hl ht len 0 0 σ (upd w 4 0) _ (by omega) (Nat.le_refl _) (by omega) hIS (fun _ => vd_0 hok) (hW.v _) (fun k hk => upd_ne (by omega)) (fun k k1 k2 => mup_ne _ _ k1) ⟨upd_at _ _ _, (upd_ne (by decide)).trans hw5⟩
  exact V.mono e9 (fun o M2 q => ⟨q.1, q.2.1, fun k hk => (q.2.2 k hk).trans ((hF2 k hk).trans (mup_ne _ _ (by omega)))⟩)

theorem op_work (g : GE) : OPL g m_L_work m_X9_work [rf g 0, rf g 105] [rf g 96] := by
  rintro M sz ⟨th, σ, τ, sn, hk, n, ps, len, tx, hW⟩
  obtain ⟨w1, w2, ⟨i1, i2, i3, i4, i5, i6⟩, o, w4⟩ := id hW
  have ht := tx_of i6
  cases hok : okT (fun k => (tx k).toNatClampNeg) len with
  | false => exact OPL.bad2 hW (c := 1) (by decide) (by decide) (h_work_1' w1.1 (x_work_1 w1 i5 ht hok)) (fun M2 sz2 h => q9_work_1 h i5 ht hok)
  | true =>
    obtain ⟨k1, k2, k3⟩ := wk_facts (t := fun k => (tx k).toNatClampNeg) i5 len 0 0 σ i1 (Nat.le_refl _) (by omega) (fun _ => vd_0 hok)
    exact OPL.ok hW (σ2 := wkS (wk (fun k => (tx k).toNatClampNeg) len len 0 0 σ)) (τ2 := τ) (sn2 := sn) (hk2 := hk) (n2 := pshN n) (ps2 := pshP n ps σ) (len2 := 0) (tx2 := tx) ⟨IS.fin k1 k2 k3, i2, pshN_le i3, IS.psh i3 i4 i1, Nat.zero_le _, fun k hk => absurd hk (Nat.not_lt_zero _)⟩ (h_work_ok w1.1 (x_work_ok w1 i5 ht hok i3 i1) (fun M1 q => CW.out w4 q.2)) (fun M2 sz2 h => q9_work_ok h i5 ht hok i3 i1)
