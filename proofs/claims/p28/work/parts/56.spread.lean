/-! measures, of both -/
def msM (g : GE) (M : Mem) (p q : Nat) (s : ST) : Mem := mup (mup M p (eJ g 5 s.1)) q (eJ g 5 s.2)
theorem msM_p {g : GE} {M : Mem} {p q : Nat} {s : ST} (h : p ≠ q) : msM g M p q s p = some (eJ g 5 s.1) := (mup_ne _ _ h).trans (mup_eq _ _ _)
theorem msM_q {g : GE} {M : Mem} {p q : Nat} {s : ST} : msM g M p q s q = some (eJ g 5 s.2) := mup_eq _ _ _
theorem msM_o {g : GE} {M : Mem} {p q k : Nat} {s : ST} (h1 : k ≠ p) (h2 : k ≠ q) : msM g M p q s k = M k := (mup_ne _ _ h2).trans (mup_ne _ _ h1)
theorem msM_put {g : GE} {M : Mem} {p q : Nat} {s : ST} {a b : Nat → Int64} (h : p ≠ q) : mup (mup (msM g M p q s) p (eJ g 5 a)) q (eJ g 5 b) = msM g M p q (a, b) := by
  funext k
  unfold msM
  by_cases h1 : k = q
  · subst h1; rw [mup_eq, mup_eq]
  · rw [mup_ne _ _ h1, mup_ne _ _ h1]
    by_cases h2 : k = p
    · subst h2; rw [mup_eq, mup_eq]
    · rw [mup_ne _ _ h2, mup_ne _ _ h2, mup_ne _ _ h1, mup_ne _ _ h2]
theorem stp_f {σ : Nat → Int32} {s : ST} {a b : Nat} (hb : b < 5) (h : ¬ (0 < s.1 a ∧ ¬ 0 < s.1 b ∧ hasS σ a b = true)) : stp σ (5 * a + b) s = s := by
  unfold stp
  rw [if_neg]
  rw [goes_t, show (5 * a + b) / 5 = a by omega, show (5 * a + b) % 5 = b by omega]
  exact h
theorem stp_t {σ : Nat → Int32} {s : ST} {a b : Nat} (hb : b < 5) (h : 0 < s.1 a ∧ ¬ 0 < s.1 b ∧ hasS σ a b = true) : stp σ (5 * a + b) s = (updL s.1 b (s.1 a * (upS σ a b).toInt64), updL s.2 b (s.2 a * (upS σ b a).toInt64)) := by
  unfold stp
  rw [if_pos]
  · unfold nxt
    rw [show (5 * a + b) / 5 = a by omega, show (5 * a + b) % 5 = b by omega]
  · rw [goes_t, show (5 * a + b) / 5 = a by omega, show (5 * a + b) % 5 = b by omega]
    exact h
def MeO (g : GE) : va_E := eO 2 [rf g 93, rf g 94]
set_option maxRecDepth 20000 in
theorem r_isMeas {g : GE} {M : Mem} {sz : Nat} {f : Nat → Int64} (h2 : M 92 = some (MeO g)) (h3 : M 93 = some (eJ g 5 f)) {x : Int32} (a : Nat) (hx : x = nI a) (ha : a < 5) : Run g m_X2_isMeasured [rf g 92, .int x] M sz 0 0 (Ret (some (.int (bI (decide (0 < f a))))) M) := by
  refine Run.of rfl (by decide) (Nat.le_of_ble_eq_true rfl) ?_
  show V g m_X2_isMeasured 0 _ [] _ _ _ _ _
  refine V_aload_n 0 dX2_isMeasured_0 rfl ?_
  refine G_X2_9 rfl h2 rfl dX2_isMeasured_1 ?_
  refine V_iload_n 1 dX2_isMeasured_4 rfl ?_
  refine C_X2_32 rfl ⟨Nat.le_of_ble_eq_true rfl, Nat.le_of_ble_eq_true rfl⟩ (r_longAt h3 a hx ha (by decide)) rfl (Nat.le_of_ble_eq_true rfl) dX2_isMeasured_5 rfl ?_
  refine V_lconst (v := 0) dX2_isMeasured_8 rfl ?_
  refine V_lcmp dX2_isMeasured_9 ?_
  refine V_if_le (tgt := 17) dX2_isMeasured_10 (by decide) (fun c10 => ?_) (fun c10 => ?_)
  · refine V_iconst (v := 0) dX2_isMeasured_17 rfl ?_
    refine V_zret (st := []) dX2_isMeasured_18 rfl (by simp) ?_
    exact ⟨by rw [decide_eq_false (Int64.not_lt.mpr (lgc_le.mp c10))]; rfl, rfl⟩
  · refine V_iconst (v := 1) dX2_isMeasured_13 rfl ?_
    refine V_goto (tgt := 18) dX2_isMeasured_14 (by decide) ?_
    refine V_zret (st := []) dX2_isMeasured_18 rfl (by simp) ?_
    exact ⟨by rw [decide_eq_true (lgc_gt.mp (Int32.not_le.mp c10))]; rfl, rfl⟩
set_option maxRecDepth 20000 in
theorem spread_b {g : GE} {M : Mem} {sz : Nat} {σ : Nat → Int32} (hI : I10 σ) (hT : TS g M (1 + 3) σ) (h2 : M 92 = some (MeO g)) {s : ST} {a j : Nat} (ha : a < 5) {Q : Ou → Mem → Prop} (hq : V g m_X2_spread 108 [(4, .int (nI 5)), (3, .int (nI a)), (2, .int (nI j)), (0, rf g 92), (1, rf g (1 + 3))] [] (msM g M 93 94 (rnd σ (5 * a + 5) s)) sz 0 0 Q) : ∀ e b : Nat, b + e = 5 → V g m_X2_spread 17 [(4, .int (nI b)), (3, .int (nI a)), (2, .int (nI j)), (0, rf g 92), (1, rf g (1 + 3))] [] (msM g M 93 94 (rnd σ (5 * a + b) s)) sz 0 0 Q := by
  intro e
  induction e with
  | zero =>
    intro b hb
    obtain rfl : b = 5 := by omega
    refine V_iload 0 dX2_spread_17 rfl ?_
    refine V_iconst (v := 5) dX2_spread_19 rfl ?_
    refine V_icmp_ge (tgt := 108) dX2_spread_20 (by decide) (fun c20 => ?_) (fun c20 => absurd (by decide) c20)
    exact hq
  | succ e ih =>
    intro b hb
    have hlt : b < 5 := by omega
    refine V_iload 0 dX2_spread_17 rfl ?_
    refine V_iconst (v := 5) dX2_spread_19 rfl ?_
    refine V_icmp_ge (tgt := 108) dX2_spread_20 (by decide) (fun c20 => absurd c20 (nI_ge (b := 5) hlt (by decide))) (fun c20 => ?_)
    refine V_aload_n 4 dX2_spread_23 rfl ?_
    refine V_iload_n 1 dX2_spread_24 rfl ?_
    refine V_iload 0 dX2_spread_25 rfl ?_
    refine C_X2_22 (show _ = some (eO 4 [rf g (1 + 3 + 1), .int _]) from (hT.fr (M1 := msM g M 93 94 (rnd σ (5 * a + b) s)) (fun k k1 k2 => msM_o (by omega) (by omega))).choose_spec.choose_spec.1.1) rfl ⟨Nat.le_of_ble_eq_true rfl, Nat.le_of_ble_eq_true rfl⟩ ((hT.fr (M1 := msM g M 93 94 (rnd σ (5 * a + b) s)) (fun k k1 k2 => msM_o (by omega) (by omega))).has hI a b rfl rfl ha hlt) rfl (Nat.le_of_ble_eq_true rfl) dX2_spread_27 rfl ?_
    refine V_pc (pc2 := 30) rfl ?_
    refine V_if_eq (tgt := 102) dX2_spread_30 (by decide) (fun c30 => ?_) (fun c30 => ?_)
    · refine V_iinc (v := _ + 1) (lv2 := [(4, .int _), (3, .int _), (2, .int _), (0, .ref _), (1, .ref _)]) 0 dX2_spread_102 rfl rfl (Nat.le_of_ble_eq_true rfl) rfl ?_
      refine V_goto (tgt := 17) dX2_spread_105 (by decide) ?_
      refine V_lv (lv2 := [(4, .int _), (3, .int _), (2, .int _), (0, .ref _), (1, .ref _)]) [0, 1, 2, 3, 4] rfl ?_
      rw [nI_1]
      have e : rnd σ (5 * a + (b + 1)) s = rnd σ (5 * a + b) s := stp_f hlt (fun h => by rw [bI_0 c30] at h; exact absurd h.2.2 (by decide))
      rw [← e]
      exact ih (b + 1) (by omega)
    · refine V_aload_n 3 dX2_spread_33 rfl ?_
      refine V_iload_n 1 dX2_spread_34 rfl ?_
      refine C_X2_44 (show _ = some (MeO g) from (msM_o (by decide) (by decide)).trans h2) rfl ⟨Nat.le_of_ble_eq_true rfl, Nat.le_of_ble_eq_true rfl⟩ (r_isMeas ((msM_o (by decide) (by decide)).trans h2) (msM_p (by decide)) a rfl ha) rfl (Nat.le_of_ble_eq_true rfl) dX2_spread_35 rfl ?_
      refine V_if_eq (tgt := 102) dX2_spread_38 (by decide) (fun c38 => ?_) (fun c38 => ?_)
      · refine V_iinc (v := _ + 1) (lv2 := [(4, .int _), (3, .int _), (2, .int _), (0, .ref _), (1, .ref _)]) 0 dX2_spread_102 rfl rfl (Nat.le_of_ble_eq_true rfl) rfl ?_
        refine V_goto (tgt := 17) dX2_spread_105 (by decide) ?_
        refine V_lv (lv2 := [(4, .int _), (3, .int _), (2, .int _), (0, .ref _), (1, .ref _)]) [0, 1, 2, 3, 4] rfl ?_
        rw [nI_1]
        have e : rnd σ (5 * a + (b + 1)) s = rnd σ (5 * a + b) s := stp_f hlt (fun h => of_decide_eq_false (bI_0 c38) h.1)
        rw [← e]
        exact ih (b + 1) (by omega)
      · refine V_aload_n 3 dX2_spread_41 rfl ?_
        refine V_iload 0 dX2_spread_42 rfl ?_
        refine C_X2_44 (show _ = some (MeO g) from (msM_o (by decide) (by decide)).trans h2) rfl ⟨Nat.le_of_ble_eq_true rfl, Nat.le_of_ble_eq_true rfl⟩ (r_isMeas ((msM_o (by decide) (by decide)).trans h2) (msM_p (by decide)) b rfl hlt) rfl (Nat.le_of_ble_eq_true rfl) dX2_spread_44 rfl ?_
        refine V_if_ne (tgt := 102) dX2_spread_47 (by decide) (fun c47 => ?_) (fun c47 => ?_)
        · refine V_iinc (v := _ + 1) (lv2 := [(4, .int _), (3, .int _), (2, .int _), (0, .ref _), (1, .ref _)]) 0 dX2_spread_102 rfl rfl (Nat.le_of_ble_eq_true rfl) rfl ?_
          refine V_goto (tgt := 17) dX2_spread_105 (by decide) ?_
          refine V_lv (lv2 := [(4, .int _), (3, .int _), (2, .int _), (0, .ref _), (1, .ref _)]) [0, 1, 2, 3, 4] rfl ?_
          rw [nI_1]
          have e : rnd σ (5 * a + (b + 1)) s = rnd σ (5 * a + b) s := stp_f hlt (fun h => h.2.1 (of_decide_eq_true (bI_1 c47)))
          rw [← e]
          exact ih (b + 1) (by omega)
        · refine V_aload_n 3 dX2_spread_50 rfl ?_
          refine G_X2_9 rfl (show _ = some (MeO g) from (msM_o (by decide) (by decide)).trans h2) rfl dX2_spread_51 ?_
          refine V_iload 0 dX2_spread_54 rfl ?_
          refine V_aload_n 3 dX2_spread_56 rfl ?_
          refine G_X2_9 rfl (show _ = some (MeO g) from (msM_o (by decide) (by decide)).trans h2) rfl dX2_spread_57 ?_
          refine V_iload_n 1 dX2_spread_60 rfl ?_
          refine C_X2_32 rfl ⟨Nat.le_of_ble_eq_true rfl, Nat.le_of_ble_eq_true rfl⟩ (r_longAt (msM_p (by decide)) a rfl ha (by decide)) rfl (Nat.le_of_ble_eq_true rfl) dX2_spread_61 rfl ?_
          refine V_pc (pc2 := 64) rfl ?_
          refine V_aload_n 4 dX2_spread_64 rfl ?_
          refine V_iload_n 1 dX2_spread_65 rfl ?_
          refine V_iload 0 dX2_spread_66 rfl ?_
          refine C_X2_36 (show _ = some (eO 4 [rf g (1 + 3 + 1), .int _]) from (hT.fr (M1 := msM g M 93 94 (rnd σ (5 * a + b) s)) (fun k k1 k2 => msM_o (by omega) (by omega))).choose_spec.choose_spec.1.1) rfl ⟨Nat.le_of_ble_eq_true rfl, Nat.le_of_ble_eq_true rfl⟩ ((hT.fr (M1 := msM g M 93 94 (rnd σ (5 * a + b) s)) (fun k k1 k2 => msM_o (by omega) (by omega))).up a b rfl rfl ha hlt (hasNe (bI_1 c30))) rfl (Nat.le_of_ble_eq_true rfl) dX2_spread_68 rfl ?_
          refine V_i2l dX2_spread_71 ?_
          refine V_lmul dX2_spread_72 ?_
          refine C_X2_40 rfl ⟨Nat.le_of_ble_eq_true rfl, Nat.le_of_ble_eq_true rfl⟩ (r_putLong (msM_p (by decide)) b rfl hlt (by decide)) rfl (Nat.le_of_ble_eq_true rfl) dX2_spread_73 rfl ?_
          refine V_aload_n 3 dX2_spread_76 rfl ?_
          refine V_pc (pc2 := 77) rfl ?_
          refine G_X2_15 rfl (show _ = some (MeO g) from (mup_ne _ _ (by decide)).trans ((msM_o (by decide) (by decide)).trans h2)) rfl dX2_spread_77 ?_
          refine V_iload 0 dX2_spread_80 rfl ?_
          refine V_aload_n 3 dX2_spread_82 rfl ?_
          refine G_X2_15 rfl (show _ = some (MeO g) from (mup_ne _ _ (by decide)).trans ((msM_o (by decide) (by decide)).trans h2)) rfl dX2_spread_83 ?_
          refine V_iload_n 1 dX2_spread_86 rfl ?_
          refine C_X2_32 rfl ⟨Nat.le_of_ble_eq_true rfl, Nat.le_of_ble_eq_true rfl⟩ (r_longAt ((mup_ne _ _ (by decide)).trans msM_q) a rfl ha (by decide)) rfl (Nat.le_of_ble_eq_true rfl) dX2_spread_87 rfl ?_
          refine V_aload_n 4 dX2_spread_90 rfl ?_
          refine V_iload 0 dX2_spread_91 rfl ?_
          refine V_pc (pc2 := 93) rfl ?_
          refine V_iload_n 1 dX2_spread_93 rfl ?_
          refine C_X2_36 (show _ = some (eO 4 [rf g (1 + 3 + 1), .int _]) from (hT.fr (fun k k1 k2 => (mup_ne _ _ (by omega)).trans (msM_o (by omega) (by omega)))).choose_spec.choose_spec.1.1) rfl ⟨Nat.le_of_ble_eq_true rfl, Nat.le_of_ble_eq_true rfl⟩ ((hT.fr (fun k k1 k2 => (mup_ne _ _ (by omega)).trans (msM_o (by omega) (by omega)))).up b a rfl rfl hlt ha (Ne.symm (hasNe (bI_1 c30)))) rfl (Nat.le_of_ble_eq_true rfl) dX2_spread_94 rfl ?_
          refine V_i2l dX2_spread_97 ?_
          refine V_lmul dX2_spread_98 ?_
          refine C_X2_40 rfl ⟨Nat.le_of_ble_eq_true rfl, Nat.le_of_ble_eq_true rfl⟩ (r_putLong ((mup_ne _ _ (by decide)).trans msM_q) b rfl hlt (by decide)) rfl (Nat.le_of_ble_eq_true rfl) dX2_spread_99 rfl ?_
          refine V_iinc (v := _ + 1) (lv2 := [(4, .int _), (3, .int _), (2, .int _), (0, .ref _), (1, .ref _)]) 0 dX2_spread_102 rfl rfl (Nat.le_of_ble_eq_true rfl) rfl ?_
          refine V_goto (tgt := 17) dX2_spread_105 (by decide) ?_
          refine V_lv (lv2 := [(4, .int _), (3, .int _), (2, .int _), (0, .ref _), (1, .ref _)]) [0, 1, 2, 3, 4] rfl ?_
          rw [nI_1]
          have e : rnd σ (5 * a + (b + 1)) s = _ := stp_t hlt ⟨of_decide_eq_true (bI_1 c38), of_decide_eq_false (bI_0 c47), bI_1 c30⟩
          rw [msM_put (by decide)]
          have i9 := ih (b + 1) (by omega)
          rw [e] at i9
          exact i9
set_option maxRecDepth 20000 in
theorem spread_a {g : GE} {M : Mem} {sz : Nat} {σ : Nat → Int32} (hI : I10 σ) (hT : TS g M (1 + 3) σ) (h2 : M 92 = some (MeO g)) {s : ST} {j : Nat} {Q : Ou → Mem → Prop} (hq : V g m_X2_spread 114 [(3, .int (nI 5)), (2, .int (nI j)), (0, rf g 92), (1, rf g (1 + 3))] [] (msM g M 93 94 (rnd σ 25 s)) sz 0 0 Q) : ∀ e a : Nat, a + e = 5 → V g m_X2_spread 9 [(3, .int (nI a)), (2, .int (nI j)), (0, rf g 92), (1, rf g (1 + 3))] [] (msM g M 93 94 (rnd σ (5 * a) s)) sz 0 0 Q := by
  intro e
  induction e with
  | zero =>
    intro a ha
    obtain rfl : a = 5 := by omega
    refine V_iload_n 0 dX2_spread_9 rfl ?_
    refine V_iconst (v := 5) dX2_spread_10 rfl ?_
    refine V_icmp_ge (tgt := 114) dX2_spread_11 (by decide) (fun c11 => ?_) (fun c11 => absurd (by decide) c11)
    exact hq
  | succ e ih =>
    intro a ha
    have hlt : a < 5 := by omega
    refine V_iload_n 0 dX2_spread_9 rfl ?_
    refine V_iconst (v := 5) dX2_spread_10 rfl ?_
    refine V_icmp_ge (tgt := 114) dX2_spread_11 (by decide) (fun c11 => absurd c11 (nI_ge (b := 5) hlt (by decide))) (fun c11 => ?_)
    refine V_iconst (v := 0) dX2_spread_14 rfl ?_
    refine V_istore (lv2 := [(4, .int _), (3, .int _), (2, .int _), (0, .ref _), (1, .ref _)]) dX2_spread_15 (Nat.le_of_ble_eq_true rfl) rfl ?_
    refine V_lv (lv2 := [(4, .int _), (3, .int _), (2, .int _), (0, .ref _), (1, .ref _)]) [0, 1, 2, 3, 4] rfl ?_
    refine spread_b hI hT h2 hlt (s := s) ?_ 5 0 rfl
    refine V_iinc (v := _ + 1) (lv2 := [(3, .int _), (4, .int _), (2, .int _), (0, .ref _), (1, .ref _)]) 1 dX2_spread_108 rfl rfl (Nat.le_of_ble_eq_true rfl) rfl ?_
    refine V_goto (tgt := 9) dX2_spread_111 (by decide) ?_
    refine V_lv (lv2 := [(3, .int _), (2, .int _), (0, .ref _), (1, .ref _)]) [0, 2, 3, 4] rfl ?_
    rw [nI_1]
    exact ih (a + 1) (by omega)
set_option maxRecDepth 20000 in
theorem r_spread {g : GE} {M : Mem} {sz : Nat} {σ : Nat → Int32} (hI : I10 σ) (hT : TS g M (1 + 3) σ) (h2 : M 92 = some (MeO g)) (s : ST) : Run g m_X2_spread [rf g 92, rf g (1 + 3)] (msM g M 93 94 s) sz 0 0 (Ret none (msM g M 93 94 (rep σ 4 s))) := by
  have L : ∀ e j : Nat, j + e = 5 → 1 ≤ j → V g m_X2_spread 2 [(2, .int (nI j)), (0, rf g 92), (1, rf g (1 + 3))] [] (msM g M 93 94 (rep σ (j - 1) s)) sz 0 0 (Ret none (msM g M 93 94 (rep σ 4 s))) := by
    intro e
    induction e with
    | zero =>
      intro j hj h1
      obtain rfl : j = 5 := by omega
      refine V_iload_n 0 dX2_spread_2 rfl ?_
      refine V_iconst (v := 5) dX2_spread_3 rfl ?_
      refine V_icmp_ge (tgt := 120) dX2_spread_4 (by decide) (fun c4 => ?_) (fun c4 => absurd (by decide) c4)
      refine V_ret (st := []) dX2_spread_120 rfl ?_
      exact ⟨rfl, rfl⟩
    | succ e ih =>
      intro j hj h1
      have hlt : j < 5 := by omega
      refine V_iload_n 0 dX2_spread_2 rfl ?_
      refine V_iconst (v := 5) dX2_spread_3 rfl ?_
      refine V_icmp_ge (tgt := 120) dX2_spread_4 (by decide) (fun c4 => absurd c4 (nI_ge (b := 5) hlt (by decide))) (fun c4 => ?_)
      refine V_iconst (v := 0) dX2_spread_7 rfl ?_
      refine V_istore_n (lv2 := [(3, .int _), (2, .int _), (0, .ref _), (1, .ref _)]) dX2_spread_8 (Nat.le_of_ble_eq_true rfl) rfl ?_
      refine V_lv (lv2 := [(3, .int _), (2, .int _), (0, .ref _), (1, .ref _)]) [0, 1, 2, 3] rfl ?_
      refine spread_a hI hT h2 (s := rep σ (j - 1) s) ?_ 5 0 rfl
      refine V_iinc (v := _ + 1) (lv2 := [(2, .int _), (3, .int _), (0, .ref _), (1, .ref _)]) 1 dX2_spread_114 rfl rfl (Nat.le_of_ble_eq_true rfl) rfl ?_
      refine V_goto (tgt := 2) dX2_spread_117 (by decide) ?_
      refine V_lv (lv2 := [(2, .int _), (0, .ref _), (1, .ref _)]) [0, 2, 3] rfl ?_
      rw [nI_1]
      have i9 := ih (j + 1) (by omega) (by omega)
      rw [show j + 1 - 1 = (j - 1) + 1 by omega] at i9
      exact i9
  refine Run.of rfl (by decide) (Nat.le_of_ble_eq_true rfl) ?_
  show V g m_X2_spread 0 _ [] _ _ _ _ _
  refine V_iconst (v := 1) dX2_spread_0 rfl ?_
  refine V_istore_n (lv2 := [(2, .int _), (0, .ref _), (1, .ref _)]) dX2_spread_1 (Nat.le_of_ble_eq_true rfl) rfl ?_
  refine V_lv (lv2 := [(2, .int _), (0, .ref _), (1, .ref _)]) [0, 1, 2] rfl ?_
  exact L 4 1 rfl (by omega)
