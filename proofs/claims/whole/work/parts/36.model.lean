/-! the first ring that is off by a table; the reference, what it reads -/
/-- a ring with the table of a and b would be off -/
def wouS (σ : Nat → Int32) (a b : Nat) (r : Nat) : Bool := (rHas r a b && thr σ r) && offS σ r
def triM (g : GE) (M : Mem) (f : Nat → Int32) (p : Int32) : Mem := mup (mup M 89 (eI g 25 f)) 88 (eO 4 [rf g 89, .int p])
theorem triM_ne {g : GE} {M : Mem} {f : Nat → Int32} {p : Int32} {j : Nat} (h1 : j ≠ 88) (h2 : j ≠ 89) : triM g M f p j = M j := by unfold triM; rw [mup_ne _ _ h1, mup_ne _ _ h2]
theorem triM_tri {g : GE} {M : Mem} {f f2 : Nat → Int32} {p p2 : Int32} : triM g (triM g M f p) f2 p2 = triM g M f2 p2 := by
  funext j
  unfold triM mup
  by_cases h1 : j = 88
  · simp only [if_pos h1]
  · by_cases h2 : j = 89
    · simp only [if_neg h1, if_pos h2]
    · simp only [if_neg h1, if_neg h2]
set_option maxRecDepth 20000 in
theorem r_firstOffBy {g : GE} {M : Mem} {sz : Nat} {t : Nat} {f : Nat → Int32} {p : Int32} {σ : Nat → Int32} (hR : RW g M) (hT : TW g M t f p) (hσ : TabR f p σ) {f0 : Nat → Int32} {p0 : Int32} (h8 : TW g M 88 f0 p0) (ht : t ≠ 88 ∧ t ≠ 89 ∧ t ≠ 87) {x y : Int32} (a b : Nat) (hx : x = nI a) (hy : y = nI b) (ha : a < 5) (hb : b < 5) (hab : a ≠ b) {u d w : Int32} (hud : UD u d) (hI : I10 σ) (hw : w = σ 25) : Run g m_X3_firstOffBy [rf g 85, rf g t, .int x, .int y, .int u, .int d, .int w] M sz 0 0 (Ret (some (.int (optI (fnd (wouS (putS σ a b u d) a b) 0 37)))) (triM g M (layF f a b u d) (layP p u a b))) := by
  subst hx hy
  obtain ⟨M2, hM2⟩ : ∃ z, z = (triM g M (layF f a b u d) (layP p u a b)) := ⟨_, rfl⟩
  rw [← hM2]
  have hR2 : RW g M2 := by
    rw [hM2]
    exact ⟨(triM_ne (by decide) (by decide)).trans hR.1, (triM_ne (by decide) (by decide)).trans hR.2.1, (triM_ne (by decide) (by decide)).trans hR.2.2⟩
  have hT2 : TW g M2 88 (layF f a b u d) (layP p u a b) := by
    rw [hM2]
    exact ⟨mup_eq _ _ _, (mup_ne _ _ (by decide)).trans (mup_eq _ _ _)⟩
  have hσ2 := hσ.lay ha hb hab hud
  have hI2 := hI.put ha hb hab hud
  have e25 : putS σ a b u d 25 = σ 25 := putS_big ha hb hab (by decide)
  have L : ∀ m i : Nat, i + m = 37 → V g m_X3_firstOffBy 31 [(8, .int (nI i)), (7, .int (nI (2 ^ pbit a b))), (0, rf g 85), (1, rf g t), (2, .int (nI a)), (3, .int (nI b)), (4, .int u), (5, .int d), (6, .int w)] [] M2 sz 0 0 (Ret (some (.int (optI (fnd (wouS (putS σ a b u d) a b) i m)))) M2) := by
    intro m
    induction m with
    | zero =>
      intro i hi
      obtain rfl : i = 37 := by omega
      refine V_iload 0 dX3_firstOffBy_31 rfl ?_
      refine V_bipush (v := 37) dX3_firstOffBy_33 (by decide) ?_
      refine V_icmp_ge (tgt := 82) dX3_firstOffBy_35 (by decide) (fun c35 => ?_) (fun c35 => absurd (by decide) c35)
      refine V_iconst (v := -1) dX3_firstOffBy_82 rfl ?_
      refine V_iret (st := []) dX3_firstOffBy_83 rfl ?_
      exact ⟨rfl, rfl⟩
    | succ m ih =>
      intro i hi
      have hlt : i < 37 := by omega
      refine V_iload 0 dX3_firstOffBy_31 rfl ?_
      refine V_bipush (v := 37) dX3_firstOffBy_33 (by decide) ?_
      refine V_icmp_ge (tgt := 82) dX3_firstOffBy_35 (by decide) (fun c35 => absurd c35 (nI_ge (b := 37) hlt (by decide))) (fun c35 => ?_)
      refine V_aload_n 2 dX3_firstOffBy_38 rfl ?_
      refine V_aload_n 2 dX3_firstOffBy_39 rfl ?_
      refine G_X3_21 rfl hR2.1 rfl dX3_firstOffBy_40 ?_
      refine V_iload 0 dX3_firstOffBy_43 rfl ?_
      refine V_pc (pc2 := 45) rfl ?_
      refine V_iload 1 dX3_firstOffBy_45 rfl ?_
      refine C_X3_54 hR2.1 rfl ⟨Nat.le_of_ble_eq_true rfl, Nat.le_of_ble_eq_true rfl⟩ (r_standsWith hR2 hT2 hσ2 i rfl hlt a b rfl ha hb) rfl (Nat.le_of_ble_eq_true rfl) dX3_firstOffBy_47 rfl ?_
      refine V_if_eq (tgt := 76) dX3_firstOffBy_50 (by decide) (fun c50 => ?_) (fun c50 => ?_)
      · refine V_iinc (v := _ + 1) (lv2 := [(8, .int _), (7, .int _), (0, .ref _), (1, .ref _), (2, .int _), (3, .int _), (4, .int _), (5, .int _), (6, .int _)]) 0 dX3_firstOffBy_76 rfl rfl (Nat.le_of_ble_eq_true rfl) rfl ?_
        refine V_goto (tgt := 31) dX3_firstOffBy_79 (by decide) ?_
        refine V_lv (lv2 := [(8, .int _), (7, .int _), (0, .ref _), (1, .ref _), (2, .int _), (3, .int _), (4, .int _), (5, .int _), (6, .int _)]) [0, 1, 2, 3, 4, 5, 6, 7, 8] rfl ?_
        rw [nI_1]
        have e := ih (i + 1) (by omega)
        rw [fnd_f (P := (wouS (putS σ a b u d) a b)) (by unfold wouS; rw [bI_0 c50, Bool.false_and])]
        exact e
      · refine V_aload_n 2 dX3_firstOffBy_53 rfl ?_
        refine V_aload_n 2 dX3_firstOffBy_54 rfl ?_
        refine G_X3_21 rfl hR2.1 rfl dX3_firstOffBy_55 ?_
        refine V_iload 0 dX3_firstOffBy_58 rfl ?_
        refine C_X3_73 hR2.1 rfl ⟨Nat.le_of_ble_eq_true rfl, Nat.le_of_ble_eq_true rfl⟩ (r_gain hR2 hT2 hσ2 i rfl hlt hI2 (by have h := bI_1 c50; rw [Bool.and_eq_true] at h; exact h.2)) rfl (Nat.le_of_ble_eq_true rfl) dX3_firstOffBy_60 rfl ?_
        refine C_X3_77 rfl ⟨Nat.le_of_ble_eq_true rfl, Nat.le_of_ble_eq_true rfl⟩ (r_labs _) rfl (Nat.le_of_ble_eq_true rfl) dX3_firstOffBy_63 rfl ?_
        refine V_iload 8 dX3_firstOffBy_66 rfl ?_
        refine V_pc (pc2 := 68) rfl ?_
        refine V_i2l dX3_firstOffBy_68 ?_
        refine V_lcmp dX3_firstOffBy_69 ?_
        refine V_if_le (tgt := 76) dX3_firstOffBy_70 (by decide) (fun c70 => ?_) (fun c70 => ?_)
        · refine V_iinc (v := _ + 1) (lv2 := [(8, .int _), (7, .int _), (0, .ref _), (1, .ref _), (2, .int _), (3, .int _), (4, .int _), (5, .int _), (6, .int _)]) 0 dX3_firstOffBy_76 rfl rfl (Nat.le_of_ble_eq_true rfl) rfl ?_
          refine V_goto (tgt := 31) dX3_firstOffBy_79 (by decide) ?_
          refine V_lv (lv2 := [(8, .int _), (7, .int _), (0, .ref _), (1, .ref _), (2, .int _), (3, .int _), (4, .int _), (5, .int _), (6, .int _)]) [0, 1, 2, 3, 4, 5, 6, 7, 8] rfl ?_
          rw [nI_1]
          have e := ih (i + 1) (by omega)
          rw [fnd_f (P := (wouS (putS σ a b u d) a b)) (by unfold wouS; rw [bI_1 c50, Bool.true_and]; unfold offS; rw [e25, ← hw]; exact decide_eq_false (fun h => absurd (lgc_gt.mpr h) (Int32.not_lt.mpr c70)))]
          exact e
        · refine V_iload 0 dX3_firstOffBy_73 rfl ?_
          refine V_iret (st := []) dX3_firstOffBy_75 rfl ?_
          exact ⟨by rw [fnd_t (P := (wouS (putS σ a b u d) a b)) (by unfold wouS; rw [bI_1 c50, Bool.true_and]; unfold offS; rw [e25, ← hw]; exact decide_eq_true (lgc_gt.mp (Int32.not_le.mp c70)))]; rfl, rfl⟩
  refine Run.of rfl (by decide) (Nat.le_of_ble_eq_true rfl) ?_
  show V g m_X3_firstOffBy 0 _ [] _ _ _ _ _
  refine V_aload_n 0 dX3_firstOffBy_0 rfl ?_
  refine G_X3_21 rfl hR.1 rfl dX3_firstOffBy_1 ?_
  refine V_aload_n 1 dX3_firstOffBy_4 rfl ?_
  refine C_X3_84 h8.1 rfl ⟨Nat.le_of_ble_eq_true rfl, Nat.le_of_ble_eq_true rfl⟩ (r_tcopy h8 hT ⟨by omega, by omega, by omega⟩) rfl (Nat.le_of_ble_eq_true rfl) dX3_firstOffBy_5 rfl ?_
  refine V_aload_n 0 dX3_firstOffBy_8 rfl ?_
  refine G_X3_21 rfl (show triM g M f p 85 = _ from (triM_ne (by decide) (by decide)).trans hR.1) rfl dX3_firstOffBy_9 ?_
  refine V_iload_n 2 dX3_firstOffBy_12 rfl ?_
  refine V_pc (pc2 := 13) rfl ?_
  refine V_iload_n 3 dX3_firstOffBy_13 rfl ?_
  refine V_iload 4 dX3_firstOffBy_14 rfl ?_
  refine V_iload 5 dX3_firstOffBy_16 rfl ?_
  refine C_X3_88 (mup_eq _ _ _) rfl ⟨Nat.le_of_ble_eq_true rfl, Nat.le_of_ble_eq_true rfl⟩ (r_lay (show TW g (triM g M f p) 88 f p from ⟨mup_eq _ _ _, (mup_ne _ _ (by decide)).trans (mup_eq _ _ _)⟩) a b rfl rfl ha hb hab) rfl (Nat.le_of_ble_eq_true rfl) dX3_firstOffBy_18 rfl ?_
  refine V_iload_n 2 dX3_firstOffBy_21 rfl ?_
  refine V_iload_n 3 dX3_firstOffBy_22 rfl ?_
  refine C_X3_44 rfl ⟨Nat.le_of_ble_eq_true rfl, Nat.le_of_ble_eq_true rfl⟩ (r_bitOf a b rfl rfl ha hb) rfl (Nat.le_of_ble_eq_true rfl) dX3_firstOffBy_23 rfl ?_
  refine V_istore (lv2 := [(7, .int _), (0, .ref _), (1, .ref _), (2, .int _), (3, .int _), (4, .int _), (5, .int _), (6, .int _)]) dX3_firstOffBy_26 (Nat.le_of_ble_eq_true rfl) rfl ?_
  refine V_pc (pc2 := 28) rfl ?_
  refine V_iconst (v := 0) dX3_firstOffBy_28 rfl ?_
  refine V_istore (lv2 := [(8, .int _), (7, .int _), (0, .ref _), (1, .ref _), (2, .int _), (3, .int _), (4, .int _), (5, .int _), (6, .int _)]) dX3_firstOffBy_29 (Nat.le_of_ble_eq_true rfl) rfl ?_
  refine V_lv (lv2 := [(8, .int _), (7, .int _), (0, .ref _), (1, .ref _), (2, .int _), (3, .int _), (4, .int _), (5, .int _), (6, .int _)]) [0, 1, 2, 3, 4, 5, 6, 7, 8] rfl ?_
  have e : triM g (triM g M f p) (layF f a b u d) (layP p u a b) = M2 := by rw [triM_tri, hM2]
  have e2 := L 37 0 rfl
  rw [← e] at e2 ⊢
  exact e2

/-! the reference -/
def SZf : Nat → Int32 := fun k => nI (rSz k)
def CDf : Nat → Int32 := fun k => nI (rC k)
abbrev MO (g : GE) (v : Nat → Int32) : va_E := eO 9 [rf g 97, rf g 98, .int (v 0), rf g 99, .int (v 1), rf g 100, .int (v 2), .int (v 3), rf g 101, rf g 102, rf g 103, rf g 104, .int (v 4), .int (v 5), .int (v 6), .int (v 7), .int (v 8), .int (v 9), .int (v 10)]
/-- what its looks stand on -/
def MD (g : GE) (M : Mem) (σ v : Nat → Int32) : Prop := M 96 = some (MO g v) ∧ M 97 = some (eI g 65 σ) ∧ M 101 = some (eI g 37 SZf) ∧ M 102 = some (eI g 37 CDf)
def inI (v l h : Int32) : Bool := decide (l ≤ v) && decide (v ≤ h)
set_option maxRecDepth 20000 in
theorem r9_in {g : GE} {M : Mem} {sz : Nat} (v l h : Int32) : Run g m_X9_in [.int v, .int l, .int h] M sz 0 0 (Ret (some (.int (bI (inI v l h)))) M) := by
  refine Run.of rfl (by decide) (Nat.le_of_ble_eq_true rfl) ?_
  show V g m_X9_in 0 _ [] _ _ _ _ _
  refine V_iload_n 0 dX9_in_0 rfl ?_
  refine V_iload_n 1 dX9_in_1 rfl ?_
  refine V_icmp_lt (tgt := 14) dX9_in_2 (by decide) (fun c2 => ?_) (fun c2 => ?_)
  · refine V_iconst (v := 0) dX9_in_14 rfl ?_
    refine V_zret (st := []) dX9_in_15 rfl (by simp) ?_
    refine ⟨?_, rfl⟩; unfold inI; rw [decide_eq_false (Int32.not_le.mpr c2), Bool.false_and]; rfl
  · refine V_iload_n 0 dX9_in_5 rfl ?_
    refine V_iload_n 2 dX9_in_6 rfl ?_
    refine V_icmp_gt (tgt := 14) dX9_in_7 (by decide) (fun c7 => ?_) (fun c7 => ?_)
    · refine V_iconst (v := 0) dX9_in_14 rfl ?_
      refine V_zret (st := []) dX9_in_15 rfl (by simp) ?_
      refine ⟨?_, rfl⟩; unfold inI; rw [decide_eq_false (Int32.not_le.mpr c7), Bool.and_false]; rfl
    · refine V_iconst (v := 1) dX9_in_10 rfl ?_
      refine V_goto (tgt := 15) dX9_in_11 (by decide) ?_
      refine V_zret (st := []) dX9_in_15 rfl (by simp) ?_
      refine ⟨?_, rfl⟩; unfold inI; rw [decide_eq_true (Int32.not_lt.mp c2), decide_eq_true (Int32.not_lt.mp c7)]; rfl

theorem inI_isP (p : Int32) : inI p 0 4 = isP p := by
  unfold inI isP
  congr 1
  apply decide_eq_decide.mpr
  rw [Int32.le_iff_toInt_le, Int32.lt_iff_toInt_lt]
  show p.toInt ≤ 4 ↔ p.toInt < 5
  omega
set_option maxRecDepth 20000 in
theorem r9_isParish {g : GE} {M : Mem} {sz : Nat} (p : Int32) : Run g m_X9_isParish [.int p] M sz 0 0 (Ret (some (.int (bI (isP p)))) M) := by
  refine Run.of rfl (by decide) (Nat.le_of_ble_eq_true rfl) ?_
  show V g m_X9_isParish 0 _ [] _ _ _ _ _
  refine V_iload_n 0 dX9_isParish_0 rfl ?_
  refine V_iconst (v := 0) dX9_isParish_1 rfl ?_
  refine V_iconst (v := 4) dX9_isParish_2 rfl ?_
  refine C_X9_44 rfl ⟨Nat.le_of_ble_eq_true rfl, Nat.le_of_ble_eq_true rfl⟩ (r9_in _ _ _) rfl (Nat.le_of_ble_eq_true rfl) dX9_isParish_3 rfl ?_
  refine V_zret (st := []) dX9_isParish_6 rfl (bI_01 _) ?_
  exact ⟨by rw [inI_isP], rfl⟩

set_option maxRecDepth 20000 in
theorem r9_isPart {g : GE} {M : Mem} {sz : Nat} (p : Int32) : Run g m_X9_isPart [.int p] M sz 0 0 (Ret (some (.int (bI (inI p 1 99)))) M) := by
  refine Run.of rfl (by decide) (Nat.le_of_ble_eq_true rfl) ?_
  show V g m_X9_isPart 0 _ [] _ _ _ _ _
  refine V_iload_n 0 dX9_isPart_0 rfl ?_
  refine V_iconst (v := 1) dX9_isPart_1 rfl ?_
  refine V_bipush (v := 99) dX9_isPart_2 (by decide) ?_
  refine C_X9_44 rfl ⟨Nat.le_of_ble_eq_true rfl, Nat.le_of_ble_eq_true rfl⟩ (r9_in _ _ _) rfl (Nat.le_of_ble_eq_true rfl) dX9_isPart_4 rfl ?_
  refine V_zret (st := []) dX9_isPart_7 rfl (bI_01 _) ?_
  exact ⟨rfl, rfl⟩

set_option maxRecDepth 20000 in
theorem r9_at {g : GE} {M : Mem} {sz : Nat} {x y z : Int32} (c s q : Nat) (hx : x = nI c) (hy : y = nI s) (hz : z = nI q) (hc : c < 2 ^ 31) (hs : q < s) (hs2 : s ≤ 5) : Run g m_X9_at [.int x, .int y, .int z] M sz 0 0 (Ret (some (.int (nI (c / 10 ^ (s - 1 - q) % 10)))) M) := by
  subst hx hy hz
  have hdv : ∀ e : Nat, c / 10 ^ e < 2 ^ 31 := fun e => Nat.lt_of_le_of_lt (Nat.div_le_self _ _) hc
  have L : ∀ m k : Nat, k = q + m → k ≤ s - 1 → V g m_X9_at 7 [(4, .int (nI k)), (3, .int (nI (c / 10 ^ (s - 1 - k)))), (0, .int (nI c)), (1, .int (nI s)), (2, .int (nI q))] [] M sz 0 0 (Ret (some (.int (nI (c / 10 ^ (s - 1 - q) % 10)))) M) := by
    intro m
    induction m with
    | zero =>
      intro k hk hs1
      obtain rfl : k = q := by omega
      refine V_iload 0 dX9_at_7 rfl ?_
      refine V_iload_n 4 dX9_at_9 rfl ?_
      refine V_icmp_le (tgt := 24) dX9_at_10 (by decide) (fun c10 => ?_) (fun c10 => absurd (nI_le (Nat.le_refl _) (by omega)) c10)
      refine V_iload_n 1 dX9_at_24 rfl ?_
      refine V_bipush (v := 10) dX9_at_25 (by decide) ?_
      refine V_irem dX9_at_27 (by decide) ?_
      refine V_iret (st := []) dX9_at_28 rfl ?_
      exact ⟨by rw [show (10 : Int32) = nI 10 from rfl, pk_rem (hdv _) (by decide) (by decide)], rfl⟩
    | succ m ih =>
      intro k hk hs1
      obtain ⟨j, rfl⟩ : ∃ j, k = j + 1 := ⟨k - 1, by omega⟩
      refine V_iload 0 dX9_at_7 rfl ?_
      refine V_iload_n 4 dX9_at_9 rfl ?_
      refine V_icmp_le (tgt := 24) dX9_at_10 (by decide) (fun c10 => absurd c10 (nI_ge (a := q) (b := j + 1) (by omega) (by omega))) (fun c10 => ?_)
      refine V_iload_n 1 dX9_at_13 rfl ?_
      refine V_bipush (v := 10) dX9_at_14 (by decide) ?_
      refine V_idiv dX9_at_16 (by decide) ?_
      refine V_istore_n (lv2 := [(3, .int _), (4, .int _), (0, .int _), (1, .int _), (2, .int _)]) dX9_at_17 (Nat.le_of_ble_eq_true rfl) rfl ?_
      refine V_pc (pc2 := 18) rfl ?_
      refine V_iinc (v := _ + (-1)) (lv2 := [(4, .int _), (3, .int _), (0, .int _), (1, .int _), (2, .int _)]) 1 dX9_at_18 rfl rfl (Nat.le_of_ble_eq_true rfl) rfl ?_
      refine V_goto (tgt := 7) dX9_at_21 (by decide) ?_
      refine V_lv (lv2 := [(4, .int _), (3, .int _), (0, .int _), (1, .int _), (2, .int _)]) [0, 1, 2, 3, 4] rfl ?_
      rw [pk_m1, show (10 : Int32) = nI 10 from rfl, pk_div (hdv _) (by decide) (by decide), Nat.div_div_eq_div_mul, ← Nat.pow_succ, show (s - 1 - (j + 1)).succ = s - 1 - j by omega]
      exact ih j (by omega) (by omega)
  refine Run.of rfl (by decide) (Nat.le_of_ble_eq_true rfl) ?_
  show V g m_X9_at 0 _ [] _ _ _ _ _
  refine V_iload_n 0 dX9_at_0 rfl ?_
  refine V_istore_n (lv2 := [(3, .int _), (0, .int _), (1, .int _), (2, .int _)]) dX9_at_1 (Nat.le_of_ble_eq_true rfl) rfl ?_
  refine V_iload_n 2 dX9_at_2 rfl ?_
  refine V_iconst (v := 1) dX9_at_3 rfl ?_
  refine V_isub dX9_at_4 ?_
  refine V_istore (lv2 := [(4, .int _), (3, .int _), (0, .int _), (1, .int _), (2, .int _)]) dX9_at_5 (Nat.le_of_ble_eq_true rfl) rfl ?_
  refine V_lv (lv2 := [(4, .int _), (3, .int _), (0, .int _), (1, .int _), (2, .int _)]) [0, 1, 2, 3, 4] rfl ?_
  have e := L (s - 1 - q) (s - 1) (by omega) (Nat.le_refl _)
  rw [Nat.sub_self, Nat.pow_zero, Nat.div_one] at e
  rw [show (1 : Int32) = nI 1 from rfl, pk_sub (by omega)]
  exact e

theorem pair_t : ∀ a b, a < 5 → b < 5 → a < b → nI a * 4 - nI a * (nI a - 1) / 2 + nI b - nI a - 1 = nI (pr a b) := by
  have h : ((List.range 5).all fun a => (List.range 5).all fun b => decide (a < b → nI a * 4 - nI a * (nI a - 1) / 2 + nI b - nI a - 1 = nI (pr a b))) = true := by decide +kernel
  intro a b ha hb
  exact of_decide_eq_true (all_lt (all_lt h a ha) b hb)
theorem nI_inj_lt {a b : Nat} (ha : a < 2 ^ 31) (hb : b < 2 ^ 31) : (nI a < nI b) ↔ a < b := nI_ltI ha hb
set_option maxRecDepth 20000 in
theorem r9_pair {g : GE} {M : Mem} {sz : Nat} {x y : Int32} (a b : Nat) (hx : x = nI a) (hy : y = nI b) (ha : a < 5) (hb : b < 5) (hab : a ≠ b) : Run g m_X9_pair [.int x, .int y] M sz 0 0 (Ret (some (.int (nI (pr a b)))) M) := by
  subst hx hy
  have hlt : nI b ≤ nI a ↔ b ≤ a := nI_leI (by omega) (by omega)
  refine Run.of rfl (by decide) (Nat.le_of_ble_eq_true rfl) ?_
  show V g m_X9_pair 0 _ [] _ _ _ _ _
  refine V_iload_n 0 dX9_pair_0 rfl ?_
  refine V_iload_n 1 dX9_pair_1 rfl ?_
  refine V_icmp_ge (tgt := 9) dX9_pair_2 (by decide) (fun c2 => ?_) (fun c2 => ?_)
  · refine V_iload_n 1 dX9_pair_9 rfl ?_
    refine V_istore_n (lv2 := [(2, .int _), (0, .int _), (1, .int _)]) dX9_pair_10 (Nat.le_of_ble_eq_true rfl) rfl ?_
    refine V_iload_n 1 dX9_pair_11 rfl ?_
    refine V_iload_n 2 dX9_pair_12 rfl ?_
    refine V_icmp_ge (tgt := 20) dX9_pair_13 (by decide) (fun c13 => ?_) (fun c13 => ?_)
    · refine V_iload_n 1 dX9_pair_20 rfl ?_
      refine V_istore_n (lv2 := [(3, .int _), (2, .int _), (0, .int _), (1, .int _)]) dX9_pair_21 (Nat.le_of_ble_eq_true rfl) rfl ?_
      refine V_iload_n 1 dX9_pair_22 rfl ?_
      refine V_iconst (v := 4) dX9_pair_23 rfl ?_
      refine V_imul dX9_pair_24 ?_
      refine V_iload_n 1 dX9_pair_25 rfl ?_
      refine V_iload_n 1 dX9_pair_26 rfl ?_
      refine V_pc (pc2 := 27) rfl ?_
      refine V_iconst (v := 1) dX9_pair_27 rfl ?_
      refine V_isub dX9_pair_28 ?_
      refine V_imul dX9_pair_29 ?_
      refine V_iconst (v := 2) dX9_pair_30 rfl ?_
      refine V_idiv dX9_pair_31 (by decide) ?_
      refine V_isub dX9_pair_32 ?_
      refine V_iload_n 0 dX9_pair_33 rfl ?_
      refine V_iadd dX9_pair_34 ?_
      refine V_pc (pc2 := 35) rfl ?_
      refine V_iload_n 1 dX9_pair_35 rfl ?_
      refine V_isub dX9_pair_36 ?_
      refine V_iconst (v := 1) dX9_pair_37 rfl ?_
      refine V_isub dX9_pair_38 ?_
      refine V_iret (st := []) dX9_pair_39 rfl ?_
      exact ⟨by rw [pr_comm, pair_t b a hb ha (by rw [hlt] at c2; omega)], rfl⟩
    · exact absurd c2 c13
  · refine V_iload_n 0 dX9_pair_5 rfl ?_
    refine V_goto (tgt := 10) dX9_pair_6 (by decide) ?_
    refine V_istore_n (lv2 := [(2, .int _), (0, .int _), (1, .int _)]) dX9_pair_10 (Nat.le_of_ble_eq_true rfl) rfl ?_
    refine V_iload_n 1 dX9_pair_11 rfl ?_
    refine V_iload_n 2 dX9_pair_12 rfl ?_
    refine V_icmp_ge (tgt := 20) dX9_pair_13 (by decide) (fun c13 => ?_) (fun c13 => ?_)
    · exact absurd c13 c2
    · refine V_iload_n 2 dX9_pair_16 rfl ?_
      refine V_goto (tgt := 21) dX9_pair_17 (by decide) ?_
      refine V_istore_n (lv2 := [(3, .int _), (2, .int _), (0, .int _), (1, .int _)]) dX9_pair_21 (Nat.le_of_ble_eq_true rfl) rfl ?_
      refine V_iload_n 1 dX9_pair_22 rfl ?_
      refine V_iconst (v := 4) dX9_pair_23 rfl ?_
      refine V_imul dX9_pair_24 ?_
      refine V_iload_n 1 dX9_pair_25 rfl ?_
      refine V_pc (pc2 := 26) rfl ?_
      refine V_iload_n 1 dX9_pair_26 rfl ?_
      refine V_iconst (v := 1) dX9_pair_27 rfl ?_
      refine V_isub dX9_pair_28 ?_
      refine V_imul dX9_pair_29 ?_
      refine V_iconst (v := 2) dX9_pair_30 rfl ?_
      refine V_idiv dX9_pair_31 (by decide) ?_
      refine V_isub dX9_pair_32 ?_
      refine V_iload_n 0 dX9_pair_33 rfl ?_
      refine V_pc (pc2 := 34) rfl ?_
      refine V_iadd dX9_pair_34 ?_
      refine V_iload_n 1 dX9_pair_35 rfl ?_
      refine V_isub dX9_pair_36 ?_
      refine V_iconst (v := 1) dX9_pair_37 rfl ?_
      refine V_isub dX9_pair_38 ?_
      refine V_iret (st := []) dX9_pair_39 rfl ?_
      exact ⟨by rw [pair_t a b ha hb (by rw [hlt] at c2; omega)], rfl⟩

set_option maxRecDepth 20000 in
theorem r9_has {g : GE} {M : Mem} {sz : Nat} {σ v : Nat → Int32} (hM : MD g M σ v) {x y : Int32} (a b : Nat) (hx : x = nI a) (hy : y = nI b) (ha : a < 5) (hb : b < 5) : Run g m_X9_has [rf g 96, .int x, .int y] M sz 0 0 (Ret (some (.int (bI (hasS σ a b)))) M) := by
  subst hx hy
  refine Run.of rfl (by decide) (Nat.le_of_ble_eq_true rfl) ?_
  show V g m_X9_has 0 _ [] _ _ _ _ _
  refine V_iload_n 1 dX9_has_0 rfl ?_
  refine V_iload_n 2 dX9_has_1 rfl ?_
  refine V_icmp_eq (tgt := 24) dX9_has_2 (by decide) (fun c2 => ?_) (fun c2 => ?_)
  · refine V_iconst (v := 0) dX9_has_24 rfl ?_
    refine V_zret (st := []) dX9_has_25 rfl (by simp) ?_
    exact ⟨by rw [(nI_eq (by omega) (by omega)).mp c2]; unfold hasS hasL; simp [bI], rfl⟩
  · refine V_aload_n 0 dX9_has_5 rfl ?_
    refine G_X9_7 rfl hM.1 rfl dX9_has_6 ?_
    refine V_iconst (v := 0) dX9_has_9 rfl ?_
    refine V_iload_n 1 dX9_has_10 rfl ?_
    refine V_iload_n 2 dX9_has_11 rfl ?_
    refine C_X9_62 rfl ⟨Nat.le_of_ble_eq_true rfl, Nat.le_of_ble_eq_true rfl⟩ (r9_pair a b rfl rfl ha hb (fun e => c2 (by rw [e]))) rfl (Nat.le_of_ble_eq_true rfl) dX9_has_12 rfl ?_
    refine V_iadd dX9_has_15 ?_
    refine V_pc (pc2 := 16) rfl ?_
    refine V_iald hM.2.1 (by rw [Int32.zero_add]; exact vp_in_nI (n := pr a b) (by have := pr_lt a b ha hb (fun e => c2 (by rw [e])); omega) (by decide)) dX9_has_16 ?_
    refine V_if_le (tgt := 24) dX9_has_17 (by decide) (fun c17 => ?_) (fun c17 => ?_)
    · refine V_iconst (v := 0) dX9_has_24 rfl ?_
      refine V_zret (st := []) dX9_has_25 rfl (by simp) ?_
      refine ⟨?_, rfl⟩; have hab : a ≠ b := fun e => c2 (by rw [e]); rw [Int32.zero_add, nI_clamp (by have := pr_lt a b ha hb hab; omega)] at c17; rw [hasS_eq ha hb hab, decide_eq_false (Int32.not_lt.mpr c17)]; rfl
    · refine V_iconst (v := 1) dX9_has_20 rfl ?_
      refine V_goto (tgt := 25) dX9_has_21 (by decide) ?_
      refine V_zret (st := []) dX9_has_25 rfl (by simp) ?_
      refine ⟨?_, rfl⟩; have hab : a ≠ b := fun e => c2 (by rw [e]); rw [Int32.zero_add, nI_clamp (by have := pr_lt a b ha hb hab; omega)] at c17; rw [hasS_eq ha hb hab, decide_eq_true (Int32.not_le.mp c17)]; rfl

set_option maxRecDepth 20000 in
theorem r9_up {g : GE} {M : Mem} {sz : Nat} {σ v : Nat → Int32} (hM : MD g M σ v) {x y : Int32} (a b : Nat) (hx : x = nI a) (hy : y = nI b) (ha : a < 5) (hb : b < 5) (hab : a ≠ b) : Run g m_X9_up [rf g 96, .int x, .int y] M sz 0 0 (Ret (some (.int (upS σ a b))) M) := by
  subst hx hy
  have hpr := pr_lt a b ha hb hab
  refine Run.of rfl (by decide) (Nat.le_of_ble_eq_true rfl) ?_
  show V g m_X9_up 0 _ [] _ _ _ _ _
  refine V_aload_n 0 dX9_up_0 rfl ?_
  refine G_X9_7 rfl hM.1 rfl dX9_up_1 ?_
  refine V_iload_n 1 dX9_up_4 rfl ?_
  refine V_iload_n 2 dX9_up_5 rfl ?_
  refine V_icmp_ge (tgt := 13) dX9_up_6 (by decide) (fun c6 => ?_) (fun c6 => ?_)
  · refine V_bipush (v := 10) dX9_up_13 (by decide) ?_
    refine V_iload_n 1 dX9_up_15 rfl ?_
    refine V_iload_n 2 dX9_up_16 rfl ?_
    refine C_X9_62 rfl ⟨Nat.le_of_ble_eq_true rfl, Nat.le_of_ble_eq_true rfl⟩ (r9_pair a b rfl rfl ha hb hab) rfl (Nat.le_of_ble_eq_true rfl) dX9_up_17 rfl ?_
    refine V_iadd dX9_up_20 ?_
    refine V_iald hM.2.1 (by first | (rw [Int32.zero_add]; exact vp_in_nI (n := pr a b) (by omega) (by decide)) | (rw [show (10 : Int32) = nI 10 from rfl, nI_add]; exact vp_in_nI (n := 10 + pr a b) (by omega) (by decide))) dX9_up_21 ?_
    refine V_iret (st := []) dX9_up_22 rfl ?_
    refine ⟨?_, rfl⟩; have hge : ¬ a < b := (by rw [nI_leI (by omega) (by omega)] at c6; omega); rw [show (10 : Int32) = nI 10 from rfl, nI_add, nI_clamp (by omega)]; unfold upS; rw [if_neg hge]
  · refine V_iconst (v := 0) dX9_up_9 rfl ?_
    refine V_goto (tgt := 15) dX9_up_10 (by decide) ?_
    refine V_iload_n 1 dX9_up_15 rfl ?_
    refine V_iload_n 2 dX9_up_16 rfl ?_
    refine C_X9_62 rfl ⟨Nat.le_of_ble_eq_true rfl, Nat.le_of_ble_eq_true rfl⟩ (r9_pair a b rfl rfl ha hb hab) rfl (Nat.le_of_ble_eq_true rfl) dX9_up_17 rfl ?_
    refine V_iadd dX9_up_20 ?_
    refine V_iald hM.2.1 (by first | (rw [Int32.zero_add]; exact vp_in_nI (n := pr a b) (by omega) (by decide)) | (rw [show (10 : Int32) = nI 10 from rfl, nI_add]; exact vp_in_nI (n := 10 + pr a b) (by omega) (by decide))) dX9_up_21 ?_
    refine V_pc (pc2 := 22) rfl ?_
    refine V_iret (st := []) dX9_up_22 rfl ?_
    refine ⟨?_, rfl⟩; have hlt : a < b := (by rw [nI_leI (by omega) (by omega)] at c6; omega); rw [Int32.zero_add, nI_clamp (by omega)]; unfold upS; rw [if_pos hlt]

set_option maxRecDepth 20000 in
theorem r9_down {g : GE} {M : Mem} {sz : Nat} {σ v : Nat → Int32} (hM : MD g M σ v) {x y : Int32} (a b : Nat) (hx : x = nI a) (hy : y = nI b) (ha : a < 5) (hb : b < 5) (hab : a ≠ b) : Run g m_X9_down [rf g 96, .int x, .int y] M sz 0 0 (Ret (some (.int (upS σ b a))) M) := by
  subst hx hy
  have hpr := pr_lt a b ha hb hab
  refine Run.of rfl (by decide) (Nat.le_of_ble_eq_true rfl) ?_
  show V g m_X9_down 0 _ [] _ _ _ _ _
  refine V_aload_n 0 dX9_down_0 rfl ?_
  refine G_X9_7 rfl hM.1 rfl dX9_down_1 ?_
  refine V_iload_n 1 dX9_down_4 rfl ?_
  refine V_iload_n 2 dX9_down_5 rfl ?_
  refine V_icmp_ge (tgt := 14) dX9_down_6 (by decide) (fun c6 => ?_) (fun c6 => ?_)
  · refine V_iconst (v := 0) dX9_down_14 rfl ?_
    refine V_iload_n 1 dX9_down_15 rfl ?_
    refine V_iload_n 2 dX9_down_16 rfl ?_
    refine C_X9_62 rfl ⟨Nat.le_of_ble_eq_true rfl, Nat.le_of_ble_eq_true rfl⟩ (r9_pair a b rfl rfl ha hb hab) rfl (Nat.le_of_ble_eq_true rfl) dX9_down_17 rfl ?_
    refine V_iadd dX9_down_20 ?_
    refine V_iald hM.2.1 (by first | (rw [Int32.zero_add]; exact vp_in_nI (n := pr a b) (by omega) (by decide)) | (rw [show (10 : Int32) = nI 10 from rfl, nI_add]; exact vp_in_nI (n := 10 + pr a b) (by omega) (by decide))) dX9_down_21 ?_
    refine V_iret (st := []) dX9_down_22 rfl ?_
    refine ⟨?_, rfl⟩; have hge : ¬ a < b := (by rw [nI_leI (by omega) (by omega)] at c6; omega); rw [Int32.zero_add, nI_clamp (by omega)]; unfold upS; rw [if_pos (by omega), pr_comm]
  · refine V_bipush (v := 10) dX9_down_9 (by decide) ?_
    refine V_goto (tgt := 15) dX9_down_11 (by decide) ?_
    refine V_iload_n 1 dX9_down_15 rfl ?_
    refine V_iload_n 2 dX9_down_16 rfl ?_
    refine C_X9_62 rfl ⟨Nat.le_of_ble_eq_true rfl, Nat.le_of_ble_eq_true rfl⟩ (r9_pair a b rfl rfl ha hb hab) rfl (Nat.le_of_ble_eq_true rfl) dX9_down_17 rfl ?_
    refine V_iadd dX9_down_20 ?_
    refine V_iald hM.2.1 (by first | (rw [Int32.zero_add]; exact vp_in_nI (n := pr a b) (by omega) (by decide)) | (rw [show (10 : Int32) = nI 10 from rfl, nI_add]; exact vp_in_nI (n := 10 + pr a b) (by omega) (by decide))) dX9_down_21 ?_
    refine V_pc (pc2 := 22) rfl ?_
    refine V_iret (st := []) dX9_down_22 rfl ?_
    refine ⟨?_, rfl⟩; have hlt : a < b := (by rw [nI_leI (by omega) (by omega)] at c6; omega); rw [show (10 : Int32) = nI 10 from rfl, nI_add, nI_clamp (by omega)]; unfold upS; rw [if_neg (by omega), pr_comm b a]

