/-! measures, the reference -/
theorem MD.ms {g : GE} {M : Mem} {σ v : Nat → Int32} (h : MD g M σ v) (s : ST) : MD g (msM g M 103 104 s) σ v := (h.o (k := 103) (by decide) (by decide) (by decide) (by decide)).o (k := 104) (by decide) (by decide) (by decide) (by decide)
theorem stpj_f {σ : Nat → Int32} {s : ST} {j : Nat} (h : ¬ (0 < s.1 (j / 5) ∧ ¬ 0 < s.1 (j % 5) ∧ hasS σ (j / 5) (j % 5) = true)) : stp σ j s = s := by
  unfold stp; rw [if_neg (fun e => h (goes_t.mp e))]
theorem stpj_t {σ : Nat → Int32} {s : ST} {j : Nat} (h : 0 < s.1 (j / 5) ∧ ¬ 0 < s.1 (j % 5) ∧ hasS σ (j / 5) (j % 5) = true) : stp σ j s = nxt σ j s := by
  unfold stp; rw [if_pos (goes_t.mpr h)]
theorem gs_nxt {σ : Nat → Int32} (hI : I10 σ) {s : ST} (h : GS s) {k : Nat} (hk : k < 25) (hg : 0 < s.1 (k / 5) ∧ ¬ 0 < s.1 (k % 5) ∧ hasS σ (k / 5) (k % 5) = true) : zc (nxt σ k s) < zc s := by
  have ha : k / 5 < 5 := by omega
  have hb : k % 5 < 5 := by omega
  obtain ⟨g1, g2, g3⟩ := hg
  obtain ⟨x, e1, e2⟩ := h.2 _ ha
  obtain ⟨u, u1, u2, e3⟩ := upS_nat hI ha hb g3
  have hx9 : x < 2 ^ 63 := Nat.lt_of_le_of_lt e2 (Nat.lt_of_le_of_lt (Nat.pow_le_pow_right (by decide) (Nat.sub_le 5 _)) (by decide))
  have hx1 : 1 ≤ x := by
    rw [e1, show (0 : Int64) = lN 0 from rfl, pk_lLT (by decide) hx9] at g1
    exact g1
  have r := h.set (t := nxt σ k s) hb ((h.neg hb).mp g2) (x := x * u) (by show updL _ _ _ _ = _; rw [updL_at, e1, e3, nI_64 (by omega), lN_mulN]) (Nat.mul_pos hx1 u1) (by rw [Nat.pow_succ]; exact Nat.mul_le_mul e2 u2) (fun j hj => updL_ne hj)
  omega
theorem d5 {j : Nat} (h : j < 25) : nI j / 5 = nI (j / 5) := by rw [show (5 : Int32) = nI 5 from rfl, pk_div (by omega) (by decide) (by decide)]
theorem r5 {j : Nat} (h : j < 25) : nI j - nI j / 5 * 5 = nI (j % 5) := by rw [show (5 : Int32) = nI 5 from rfl, pk_rem (by omega) (by decide) (by decide)]
set_option maxRecDepth 20000 in
theorem spreads_j {g : GE} {M : Mem} {sz : Nat} {σ v : Nat → Int32} (hM : MD g M σ v) (hI : I10 σ) {s : ST} (hs : GS s) {Q : Ou → Mem → Prop} (hq : V g m_X9_spreads 2 [(1, .int (bI (decide (zc (rnd σ 25 s) < zc s)))), (0, rf g 96)] [] (msM g M 103 104 (rnd σ 25 s)) sz 0 0 Q) : ∀ e j : Nat, j + e = 25 → V g m_X9_spreads 10 [(2, .int (nI j)), (1, .int (bI (decide (zc (rnd σ j s) < zc s)))), (0, rf g 96)] [] (msM g M 103 104 (rnd σ j s)) sz 0 0 Q := by
  intro e
  induction e with
  | zero =>
    intro j hj
    obtain rfl : j = 25 := by omega
    refine V_iload_n 0 dX9_spreads_10 rfl ?_
    refine V_bipush (v := 25) dX9_spreads_11 (by decide) ?_
    refine V_icmp_ge (tgt := 110) dX9_spreads_13 (by decide) (fun c13 => ?_) (fun c13 => absurd (by decide) c13)
    refine V_goto (tgt := 2) dX9_spreads_110 (by decide) ?_
    refine V_lv (lv2 := [(1, .int _), (0, .ref _)]) [1, 2] rfl ?_
    exact hq
  | succ e ih =>
    intro j hj
    have hlt : j < 25 := by omega
    have hg9 := (gs_rnd hI hs j (by omega)).1
    refine V_iload_n 0 dX9_spreads_10 rfl ?_
    refine V_bipush (v := 25) dX9_spreads_11 (by decide) ?_
    refine V_icmp_ge (tgt := 110) dX9_spreads_13 (by decide) (fun c13 => absurd c13 (nI_ge (b := 25) hlt (by decide))) (fun c13 => ?_)
    refine V_iload_n 0 dX9_spreads_16 rfl ?_
    refine V_iconst (v := 5) dX9_spreads_17 rfl ?_
    refine V_idiv dX9_spreads_18 (by decide) ?_
    rw [d5 hlt]
    refine V_istore_n (lv2 := [(3, .int _), (2, .int _), (1, .int _), (0, .ref _)]) dX9_spreads_19 (Nat.le_of_ble_eq_true rfl) rfl ?_
    refine V_pc (pc2 := 20) rfl ?_
    refine V_iload_n 1 dX9_spreads_20 rfl ?_
    refine V_iconst (v := 5) dX9_spreads_21 rfl ?_
    refine V_irem dX9_spreads_22 (by decide) ?_
    rw [r5 hlt]
    refine V_istore (lv2 := [(4, .int _), (3, .int _), (2, .int _), (1, .int _), (0, .ref _)]) dX9_spreads_23 (Nat.le_of_ble_eq_true rfl) rfl ?_
    refine V_aload_n 4 dX9_spreads_25 rfl ?_
    refine G_X9_28 rfl (hM.ms _).1 rfl dX9_spreads_26 ?_
    refine V_iload_n 1 dX9_spreads_29 rfl ?_
    refine V_lald (msM_p (by decide)) (vp_in_nI (n := j / 5) (by omega) (by decide)) dX9_spreads_30 ?_
    refine V_pc (pc2 := 31) rfl ?_
    refine V_lconst (v := 0) dX9_spreads_31 rfl ?_
    refine V_lcmp dX9_spreads_32 ?_
    refine V_if_le (tgt := 104) dX9_spreads_33 (by decide) (fun c33 => ?_) (fun c33 => ?_)
    · refine V_iinc (v := _ + 1) (lv2 := [(2, .int _), (4, .int _), (3, .int _), (1, .int _), (0, .ref _)]) 2 dX9_spreads_104 rfl rfl (Nat.le_of_ble_eq_true rfl) rfl ?_
      refine V_goto (tgt := 10) dX9_spreads_107 (by decide) ?_
      refine V_lv (lv2 := [(2, .int _), (1, .int _), (0, .ref _)]) [0, 3, 4] rfl ?_
      rw [nI_clamp (n := j / 5) (by omega)] at c33
      rw [nI_1]
      have e : rnd σ (j + 1) s = rnd σ j s := stpj_f (fun h => absurd (lgc_gt.mpr h.1) (Int32.not_lt.mpr c33))
      have i9 := ih (j + 1) (by omega)
      rw [e] at i9
      exact i9
    · refine V_aload_n 4 dX9_spreads_36 rfl ?_
      refine G_X9_28 rfl (hM.ms _).1 rfl dX9_spreads_37 ?_
      refine V_iload 0 dX9_spreads_40 rfl ?_
      refine V_lald (msM_p (by decide)) (vp_in_nI (n := j % 5) (by omega) (by decide)) dX9_spreads_42 ?_
      refine V_lconst (v := 0) dX9_spreads_43 rfl ?_
      refine V_lcmp dX9_spreads_44 ?_
      refine V_if_ne (tgt := 104) dX9_spreads_45 (by decide) (fun c45 => ?_) (fun c45 => ?_)
      · refine V_iinc (v := _ + 1) (lv2 := [(2, .int _), (4, .int _), (3, .int _), (1, .int _), (0, .ref _)]) 2 dX9_spreads_104 rfl rfl (Nat.le_of_ble_eq_true rfl) rfl ?_
        refine V_goto (tgt := 10) dX9_spreads_107 (by decide) ?_
        refine V_lv (lv2 := [(2, .int _), (1, .int _), (0, .ref _)]) [0, 3, 4] rfl ?_
        rw [nI_clamp (n := j % 5) (by omega)] at c45
        rw [nI_1]
        have e : rnd σ (j + 1) s = rnd σ j s := stpj_f (fun h => c45 (lgc_eq.mpr ((hg9.neg (by omega)).mp h.2.1)))
        have i9 := ih (j + 1) (by omega)
        rw [e] at i9
        exact i9
      · refine V_aload_n 4 dX9_spreads_48 rfl ?_
        refine V_iload_n 1 dX9_spreads_49 rfl ?_
        refine V_iload 0 dX9_spreads_50 rfl ?_
        refine C_X9_66 (hM.ms _).1 rfl ⟨Nat.le_of_ble_eq_true rfl, Nat.le_of_ble_eq_true rfl⟩ (r9_has (hM.ms _) (j / 5) (j % 5) rfl rfl (by omega) (by omega)) rfl (Nat.le_of_ble_eq_true rfl) dX9_spreads_52 rfl ?_
        refine V_if_eq (tgt := 104) dX9_spreads_55 (by decide) (fun c55 => ?_) (fun c55 => ?_)
        · refine V_iinc (v := _ + 1) (lv2 := [(2, .int _), (4, .int _), (3, .int _), (1, .int _), (0, .ref _)]) 2 dX9_spreads_104 rfl rfl (Nat.le_of_ble_eq_true rfl) rfl ?_
          refine V_goto (tgt := 10) dX9_spreads_107 (by decide) ?_
          refine V_lv (lv2 := [(2, .int _), (1, .int _), (0, .ref _)]) [0, 3, 4] rfl ?_
          rw [nI_1]
          have e : rnd σ (j + 1) s = rnd σ j s := stpj_f (fun h => by rw [bI_0 c55] at h; exact absurd h.2.2 (by decide))
          have i9 := ih (j + 1) (by omega)
          rw [e] at i9
          exact i9
        · refine V_aload_n 4 dX9_spreads_58 rfl ?_
          refine G_X9_28 rfl (hM.ms _).1 rfl dX9_spreads_59 ?_
          refine V_iload 0 dX9_spreads_62 rfl ?_
          refine V_aload_n 4 dX9_spreads_64 rfl ?_
          refine G_X9_28 rfl (hM.ms _).1 rfl dX9_spreads_65 ?_
          refine V_iload_n 1 dX9_spreads_68 rfl ?_
          refine V_lald (msM_p (by decide)) (vp_in_nI (n := j / 5) (by omega) (by decide)) dX9_spreads_69 ?_
          refine V_pc (pc2 := 70) rfl ?_
          refine V_aload_n 4 dX9_spreads_70 rfl ?_
          refine V_iload_n 1 dX9_spreads_71 rfl ?_
          refine V_iload 0 dX9_spreads_72 rfl ?_
          refine C_X9_69 (hM.ms _).1 rfl ⟨Nat.le_of_ble_eq_true rfl, Nat.le_of_ble_eq_true rfl⟩ (r9_up (hM.ms _) (j / 5) (j % 5) rfl rfl (by omega) (by omega) (hasNe (bI_1 c55))) rfl (Nat.le_of_ble_eq_true rfl) dX9_spreads_74 rfl ?_
          refine V_i2l dX9_spreads_77 ?_
          refine V_lmul dX9_spreads_78 ?_
          refine V_last (msM_p (by decide)) (vp_in_nI (n := j % 5) (by omega) (by decide)) dX9_spreads_79 ?_
          refine V_aload_n 4 dX9_spreads_80 rfl ?_
          refine V_pc (pc2 := 81) rfl ?_
          refine G_X9_32 rfl (show _ = some (MO g v) from (mup_ne _ _ (by decide)).trans (hM.ms _).1) rfl dX9_spreads_81 ?_
          refine V_iload 0 dX9_spreads_84 rfl ?_
          refine V_aload_n 4 dX9_spreads_86 rfl ?_
          refine G_X9_32 rfl (show _ = some (MO g v) from (mup_ne _ _ (by decide)).trans (hM.ms _).1) rfl dX9_spreads_87 ?_
          refine V_iload_n 1 dX9_spreads_90 rfl ?_
          refine V_lald ((mup_ne _ _ (by decide)).trans msM_q) (vp_in_nI (n := j / 5) (by omega) (by decide)) dX9_spreads_91 ?_
          refine V_aload_n 4 dX9_spreads_92 rfl ?_
          refine V_iload_n 1 dX9_spreads_93 rfl ?_
          refine V_pc (pc2 := 94) rfl ?_
          refine V_iload 0 dX9_spreads_94 rfl ?_
          refine C_X9_72 (show _ = some (MO g v) from (mup_ne _ _ (by decide)).trans (hM.ms _).1) rfl ⟨Nat.le_of_ble_eq_true rfl, Nat.le_of_ble_eq_true rfl⟩ (r9_down ((hM.ms _).o (k := 103) (by decide) (by decide) (by decide) (by decide)) (j / 5) (j % 5) rfl rfl (by omega) (by omega) (hasNe (bI_1 c55))) rfl (Nat.le_of_ble_eq_true rfl) dX9_spreads_96 rfl ?_
          refine V_i2l dX9_spreads_99 ?_
          refine V_lmul dX9_spreads_100 ?_
          refine V_last ((mup_ne _ _ (by decide)).trans msM_q) (vp_in_nI (n := j % 5) (by omega) (by decide)) dX9_spreads_101 ?_
          refine V_iconst (v := 1) dX9_spreads_102 rfl ?_
          refine V_istore_n (lv2 := [(1, .int _), (4, .int _), (3, .int _), (2, .int _), (0, .ref _)]) dX9_spreads_103 (Nat.le_of_ble_eq_true rfl) rfl ?_
          refine V_iinc (v := _ + 1) (lv2 := [(2, .int _), (1, .int _), (4, .int _), (3, .int _), (0, .ref _)]) 3 dX9_spreads_104 rfl rfl (Nat.le_of_ble_eq_true rfl) rfl ?_
          refine V_pc (pc2 := 107) rfl ?_
          refine V_goto (tgt := 10) dX9_spreads_107 (by decide) ?_
          refine V_lv (lv2 := [(2, .int _), (1, .int _), (0, .ref _)]) [0, 1, 4] rfl ?_
          rw [nI_clamp (n := j / 5) (by omega)] at c33
          rw [nI_clamp (n := j % 5) (by omega)] at c45
          have hg : 0 < (rnd σ j s).1 (j / 5) ∧ ¬ 0 < (rnd σ j s).1 (j % 5) ∧ hasS σ (j / 5) (j % 5) = true := ⟨lgc_gt.mp (Int32.not_le.mp c33), (hg9.neg (by omega)).mpr (lgc_eq.mp c45), bI_1 c55⟩
          rw [nI_1, nI_clamp (n := j / 5) (by omega), nI_clamp (n := j % 5) (by omega), msM_put (by decide)]
          have e : rnd σ (j + 1) s = nxt σ j (rnd σ j s) := stpj_t hg
          have i9 := ih (j + 1) (by omega)
          have hlt2 := gs_nxt hI hg9 (by omega) hg
          have hle : zc (rnd σ j s) ≤ zc s := by
            rcases (gs_rnd hI hs j (by omega)).2 with h | h
            · rw [h]; exact Nat.le_refl _
            · omega
          rw [e, decide_eq_true (show zc (nxt σ j (rnd σ j s)) < zc s by omega)] at i9
          exact i9
set_option maxRecDepth 20000 in
theorem spreads_n {g : GE} {M : Mem} {sz : Nat} {σ v : Nat → Int32} (hM : MD g M σ v) (hI : I10 σ) {Q : Ou → Mem → Prop} : ∀ (n : Nat) (s : ST), GS s → zc s ≤ n → Q (.inl none) (msM g M 103 104 (rep σ n s)) → V g m_X9_spreads 2 [(1, .int 1), (0, rf g 96)] [] (msM g M 103 104 s) sz 0 0 Q := by
  intro n
  induction n with
  | zero =>
    intro s hs hz hq
    refine V_iload_n 0 dX9_spreads_2 rfl ?_
    refine V_if_eq (tgt := 113) dX9_spreads_3 (by decide) (fun c3 => absurd c3 (by decide)) (fun c3 => ?_)
    refine V_iconst (v := 0) dX9_spreads_6 rfl ?_
    refine V_istore_n (lv2 := [(1, .int _), (0, .ref _)]) dX9_spreads_7 (Nat.le_of_ble_eq_true rfl) rfl ?_
    refine V_iconst (v := 0) dX9_spreads_8 rfl ?_
    refine V_istore_n (lv2 := [(2, .int _), (1, .int _), (0, .ref _)]) dX9_spreads_9 (Nat.le_of_ble_eq_true rfl) rfl ?_
    refine V_lv (lv2 := [(2, .int _), (1, .int _), (0, .ref _)]) [0, 1, 2] rfl ?_
    have e0 : (0 : Int32) = bI (decide (zc (rnd σ 0 s) < zc s)) := by rw [show rnd σ 0 s = s from rfl, decide_eq_false (Nat.lt_irrefl _)]; rfl
    suffices hq2 : V g m_X9_spreads 2 [(1, .int (bI (decide (zc (rnd σ 25 s) < zc s)))), (0, rf g 96)] [] (msM g M 103 104 (rnd σ 25 s)) sz 0 0 Q by
      have i0 := spreads_j hM hI hs hq2 25 0 rfl
      rw [← e0] at i0
      exact i0
    have hlt : ¬ zc (rnd σ 25 s) < zc s := by omega
    have efix := (gs_rnd hI hs 25 (Nat.le_refl _)).2.resolve_right hlt
    rw [decide_eq_false hlt, efix]
    refine V_iload_n 0 dX9_spreads_2 rfl ?_
    refine V_if_eq (tgt := 113) dX9_spreads_3 (by decide) (fun c3 => ?_) (fun c3 => absurd rfl c3)
    refine V_ret (st := []) dX9_spreads_113 rfl ?_
    exact hq
  | succ n ih =>
    intro s hs hz hq
    refine V_iload_n 0 dX9_spreads_2 rfl ?_
    refine V_if_eq (tgt := 113) dX9_spreads_3 (by decide) (fun c3 => absurd c3 (by decide)) (fun c3 => ?_)
    refine V_iconst (v := 0) dX9_spreads_6 rfl ?_
    refine V_istore_n (lv2 := [(1, .int _), (0, .ref _)]) dX9_spreads_7 (Nat.le_of_ble_eq_true rfl) rfl ?_
    refine V_iconst (v := 0) dX9_spreads_8 rfl ?_
    refine V_istore_n (lv2 := [(2, .int _), (1, .int _), (0, .ref _)]) dX9_spreads_9 (Nat.le_of_ble_eq_true rfl) rfl ?_
    refine V_lv (lv2 := [(2, .int _), (1, .int _), (0, .ref _)]) [0, 1, 2] rfl ?_
    have e0 : (0 : Int32) = bI (decide (zc (rnd σ 0 s) < zc s)) := by rw [show rnd σ 0 s = s from rfl, decide_eq_false (Nat.lt_irrefl _)]; rfl
    suffices hq2 : V g m_X9_spreads 2 [(1, .int (bI (decide (zc (rnd σ 25 s) < zc s)))), (0, rf g 96)] [] (msM g M 103 104 (rnd σ 25 s)) sz 0 0 Q by
      have i0 := spreads_j hM hI hs hq2 25 0 rfl
      rw [← e0] at i0
      exact i0
    by_cases hlt : zc (rnd σ 25 s) < zc s
    · rw [decide_eq_true hlt]
      exact ih (rnd σ 25 s) (gs_rnd hI hs 25 (Nat.le_refl _)).1 (by omega) (by rw [← rep_s]; exact hq)
    · have efix := (gs_rnd hI hs 25 (Nat.le_refl _)).2.resolve_right hlt
      rw [decide_eq_false hlt]
      rw [rep_fix efix] at hq
      rw [efix]
      refine V_iload_n 0 dX9_spreads_2 rfl ?_
      refine V_if_eq (tgt := 113) dX9_spreads_3 (by decide) (fun c3 => ?_) (fun c3 => absurd rfl c3)
      refine V_ret (st := []) dX9_spreads_113 rfl ?_
      exact hq

set_option maxRecDepth 20000 in
theorem r9_spreads {g : GE} {M : Mem} {sz : Nat} {σ v : Nat → Int32} (hM : MD g M σ v) (hI : I10 σ) {s : ST} (hs : GS s) (hz : zc s ≤ 4) {M9 : Mem} (hM9 : M9 = msM g M 103 104 s) : Run g m_X9_spreads [rf g 96] M9 sz 0 0 (Ret none (msM g M 103 104 (rep σ 4 s))) := by
  subst hM9
  refine Run.of rfl (by decide) (Nat.le_of_ble_eq_true rfl) ?_
  show V g m_X9_spreads 0 _ [] _ _ _ _ _
  refine V_iconst (v := 1) dX9_spreads_0 rfl ?_
  refine V_istore_n (lv2 := [(1, .int _), (0, .ref _)]) dX9_spreads_1 (Nat.le_of_ble_eq_true rfl) rfl ?_
  refine V_lv (lv2 := [(1, .int _), (0, .ref _)]) [0, 1] rfl ?_
  exact spreads_n hM hI 4 s hs hz ⟨rfl, rfl⟩

set_option maxRecDepth 20000 in
theorem r9_measures {g : GE} {M : Mem} {sz : Nat} {σ v : Nat → Int32} (hM : MD g M σ v) (hI : I10 σ) {a b : Nat → Int64} (h3 : M 103 = some (eJ g 5 a)) (h4 : M 104 = some (eJ g 5 b)) : Run g m_X9_measures [rf g 96] M sz 0 0 (Ret none (msM g M 103 104 (meaS σ 5))) := by
  have L2 : ∀ e i : Nat, i + e = 5 → V g m_X9_measures 29 [(1, .int (nI i)), (0, rf g 96)] [] (msM g M 103 104 (meaS σ i)) sz 0 0 (Ret none (msM g M 103 104 (meaS σ 5))) := by
    intro e
    induction e with
    | zero =>
      intro i hi
      obtain rfl : i = 5 := by omega
      refine V_iload_n 0 dX9_measures_29 rfl ?_
      refine V_iconst (v := 5) dX9_measures_30 rfl ?_
      refine V_icmp_ge (tgt := 69) dX9_measures_31 (by decide) (fun c31 => ?_) (fun c31 => absurd (by decide) c31)
      refine V_ret (st := []) dX9_measures_69 rfl ?_
      exact ⟨rfl, rfl⟩
    | succ e ih =>
      intro i hi
      have hlt : i < 5 := by omega
      have hg9 := gs_mea hI i (by omega)
      refine V_iload_n 0 dX9_measures_29 rfl ?_
      refine V_iconst (v := 5) dX9_measures_30 rfl ?_
      refine V_icmp_ge (tgt := 69) dX9_measures_31 (by decide) (fun c31 => absurd c31 (nI_ge (b := 5) hlt (by decide))) (fun c31 => ?_)
      refine V_aload_n 1 dX9_measures_34 rfl ?_
      refine G_X9_28 rfl (hM.ms _).1 rfl dX9_measures_35 ?_
      refine V_iload_n 0 dX9_measures_38 rfl ?_
      refine V_lald (msM_p (by decide)) (vp_in_nI hlt (by decide)) dX9_measures_39 ?_
      refine V_pc (pc2 := 40) rfl ?_
      refine V_lconst (v := 0) dX9_measures_40 rfl ?_
      refine V_lcmp dX9_measures_41 ?_
      refine V_if_ne (tgt := 63) dX9_measures_42 (by decide) (fun c42 => ?_) (fun c42 => ?_)
      · refine V_iinc (v := _ + 1) (lv2 := [(1, .int _), (0, .ref _)]) 0 dX9_measures_63 rfl rfl (Nat.le_of_ble_eq_true rfl) rfl ?_
        refine V_goto (tgt := 29) dX9_measures_66 (by decide) ?_
        refine V_lv (lv2 := [(1, .int _), (0, .ref _)]) [0, 1] rfl ?_
        rw [nI_1]
        have i9 := ih (i + 1) (by omega)
        rw [nI_clamp (n := i) (by omega)] at c42
        rw [mea_t (Decidable.of_not_not (fun h => c42 (lgc_eq.mpr ((hg9.neg hlt).mp h))))] at i9
        exact i9
      · refine V_aload_n 1 dX9_measures_45 rfl ?_
        refine G_X9_28 rfl (hM.ms _).1 rfl dX9_measures_46 ?_
        refine V_iload_n 0 dX9_measures_49 rfl ?_
        refine V_lconst (v := 1) dX9_measures_50 rfl ?_
        refine V_last (msM_p (by decide)) (vp_in_nI hlt (by decide)) dX9_measures_51 ?_
        refine V_aload_n 1 dX9_measures_52 rfl ?_
        refine G_X9_32 rfl (show _ = some (MO g v) from (mup_ne _ _ (by decide)).trans (hM.ms _).1) rfl dX9_measures_53 ?_
        refine V_pc (pc2 := 56) rfl ?_
        refine V_iload_n 0 dX9_measures_56 rfl ?_
        refine V_lconst (v := 1) dX9_measures_57 rfl ?_
        refine V_last ((mup_ne _ _ (by decide)).trans msM_q) (vp_in_nI hlt (by decide)) dX9_measures_58 ?_
        refine V_aload_n 1 dX9_measures_59 rfl ?_
        rw [nI_clamp (n := i) (by omega)] at c42 ⊢
        have h0 : ¬ 0 < (meaS σ i).1 i := (hg9.neg hlt).mpr (lgc_eq.mp c42)
        obtain ⟨o1, o2⟩ := gs_one hg9 hlt h0
        rw [msM_put (by decide)]
        refine C_X9_101 (hM.ms _).1 rfl ⟨Nat.le_of_ble_eq_true rfl, Nat.le_of_ble_eq_true rfl⟩ (r9_spreads hM hI (s := one (meaS σ i) i) o1 o2 rfl) rfl (Nat.le_of_ble_eq_true rfl) dX9_measures_60 rfl ?_
        refine V_iinc (v := _ + 1) (lv2 := [(1, .int _), (0, .ref _)]) 0 dX9_measures_63 rfl rfl (Nat.le_of_ble_eq_true rfl) rfl ?_
        refine V_goto (tgt := 29) dX9_measures_66 (by decide) ?_
        refine V_lv (lv2 := [(1, .int _), (0, .ref _)]) [0, 1] rfl ?_
        rw [nI_1]
        have i9 := ih (i + 1) (by omega)
        rw [mea_f h0] at i9
        exact i9
  have L1 : ∀ e i : Nat, i + e = 5 → V g m_X9_measures 2 [(1, .int (nI i)), (0, rf g 96)] [] (msM g M 103 104 (zT a i, zT b i)) sz 0 0 (Ret none (msM g M 103 104 (meaS σ 5))) := by
    intro e
    induction e with
    | zero =>
      intro i hi
      obtain rfl : i = 5 := by omega
      refine V_iload_n 0 dX9_measures_2 rfl ?_
      refine V_iconst (v := 5) dX9_measures_3 rfl ?_
      refine V_icmp_ge (tgt := 27) dX9_measures_4 (by decide) (fun c4 => ?_) (fun c4 => absurd (by decide) c4)
      refine V_zero (by decide) ?_
      refine V_iconst (v := 0) dX9_measures_27 rfl ?_
      refine V_istore_n (lv2 := [(1, .int _), (0, .ref _)]) dX9_measures_28 (Nat.le_of_ble_eq_true rfl) rfl ?_
      refine V_lv (lv2 := [(1, .int _), (0, .ref _)]) [0, 1] rfl ?_
      exact L2 5 0 rfl
    | succ e ih =>
      intro i hi
      have hlt : i < 5 := by omega
      refine V_iload_n 0 dX9_measures_2 rfl ?_
      refine V_iconst (v := 5) dX9_measures_3 rfl ?_
      refine V_icmp_ge (tgt := 27) dX9_measures_4 (by decide) (fun c4 => absurd c4 (nI_ge (b := 5) hlt (by decide))) (fun c4 => ?_)
      refine V_aload_n 1 dX9_measures_7 rfl ?_
      refine G_X9_28 rfl (hM.ms _).1 rfl dX9_measures_8 ?_
      refine V_iload_n 0 dX9_measures_11 rfl ?_
      refine V_lconst (v := 0) dX9_measures_12 rfl ?_
      refine V_pc (pc2 := 13) rfl ?_
      refine V_last (msM_p (by decide)) (vp_in_nI hlt (by decide)) dX9_measures_13 ?_
      refine V_aload_n 1 dX9_measures_14 rfl ?_
      refine G_X9_32 rfl (show _ = some (MO g v) from (mup_ne _ _ (by decide)).trans (hM.ms _).1) rfl dX9_measures_15 ?_
      refine V_iload_n 0 dX9_measures_18 rfl ?_
      refine V_lconst (v := 0) dX9_measures_19 rfl ?_
      refine V_last ((mup_ne _ _ (by decide)).trans msM_q) (vp_in_nI hlt (by decide)) dX9_measures_20 ?_
      refine V_iinc (v := _ + 1) (lv2 := [(1, .int _), (0, .ref _)]) 0 dX9_measures_21 rfl rfl (Nat.le_of_ble_eq_true rfl) rfl ?_
      refine V_goto (tgt := 2) dX9_measures_24 (by decide) ?_
      refine V_lv (lv2 := [(1, .int _), (0, .ref _)]) [0, 1] rfl ?_
      rw [nI_1, nI_clamp (n := i) (by omega), msM_put (by decide), zT_s, zT_s]
      exact ih (i + 1) (by omega)
  refine Run.of rfl (by decide) (Nat.le_of_ble_eq_true rfl) ?_
  show V g m_X9_measures 0 _ [] _ _ _ _ _
  refine V_iconst (v := 0) dX9_measures_0 rfl ?_
  refine V_istore_n (lv2 := [(1, .int _), (0, .ref _)]) dX9_measures_1 (Nat.le_of_ble_eq_true rfl) rfl ?_
  refine V_lv (lv2 := [(1, .int _), (0, .ref _)]) [0, 1] rfl ?_
  have e9 := L1 5 0 rfl
  rw [zT_0, zT_0, msM_self h3 h4] at e9
  exact e9

