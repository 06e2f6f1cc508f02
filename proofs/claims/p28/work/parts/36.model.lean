/-! the first ring that is off by a table; the reference, what it reads -/
/-- a ring with the table of a and b would be off -/
def wouS (σ : Nat → Int32) (a b : Nat) (r : Nat) : Bool := (rHas r a b && thr σ r) && offS σ r
def triM (g : GE) (M : Mem) (f : Nat → Int32) (p : Int32) : Mem := mup (mup M 89 (eI g 25 f)) 88 (eO 4 [rf g 89, .int p])
theorem triM_ne {g : GE} {M : Mem} {f : Nat → Int32} {p : Int32} {j : Nat} (h1 : j ≠ 88) (h2 : j ≠ 89) : triM g M f p j = M j := by unfold triM; rw [mup_ne _ _ h1, mup_ne _ _ h2]
theorem triM_tri {g : GE} {M : Mem} {f f2 : Nat → Int32} {p p2 : Int32} : triM g (triM g M f p) f2 p2 = triM g M f2 p2 := by
  funext j
  unfold triM mup
  by_cases h1 : j = 88
  · simp only [if_pos h1]
  · by_cases h2 : j = 89
    · simp only [if_neg h1, if_pos h2]
    · simp only [if_neg h1, if_neg h2]
set_option maxRecDepth 20000 in
theorem r_firstOffBy {g : GE} {M : Mem} {sz : Nat} {t : Nat} {f : Nat → Int32} {p : Int32} {σ : Nat → Int32} (hR : RW g M) (hT : TW g M t f p) (hσ : TabR f p σ) {f0 : Nat → Int32} {p0 : Int32} (h8 : TW g M 88 f0 p0) (ht : t ≠ 88 ∧ t ≠ 89 ∧ t ≠ 87) {x y : Int32} (a b : Nat) (hx : x = nI a) (hy : y = nI b) (ha : a < 5) (hb : b < 5) (hab : a ≠ b) {u d w : Int32} (hud : UD u d) (hI : I10 σ) (hw : w = σ 25) : Run g m_X3_firstOffBy [rf g 85, rf g t, .int x, .int y, .int u, .int d, .int w] M sz 0 0 (Ret (some (.int (optI (fnd (wouS (putS σ a b u d) a b) 0 37)))) (triM g M (layF f a b u d) (layP p u a b))) := by
  subst hx hy
  obtain ⟨M2, hM2⟩ : ∃ z, z = (triM g M (layF f a b u d) (layP p u a b)) := ⟨_, rfl⟩
  rw [← hM2]
  have hR2 : RW g M2 := by
    rw [hM2]
    exact ⟨(triM_ne (by decide) (by decide)).trans hR.1, (triM_ne (by decide) (by decide)).trans hR.2.1, (triM_ne (by decide) (by decide)).trans hR.2.2⟩
  have hT2 : TW g M2 88 (layF f a b u d) (layP p u a b) := by
    rw [hM2]
    exact ⟨mup_eq _ _ _, (mup_ne _ _ (by decide)).trans (mup_eq _ _ _)⟩
  have hσ2 := hσ.lay ha hb hab hud
  have hI2 := hI.put ha hb hab hud
  have e25 : putS σ a b u d 25 = σ 25 := putS_big ha hb hab (by decide)
  have L : ∀ m i : Nat, i + m = 37 → V g m_X3_firstOffBy 31 [(8, .int (nI i)), (7, .int (nI (2 ^ pbit a b))), (0, rf g 85), (1, rf g t), (2, .int (nI a)), (3, .int (nI b)), (4, .int u), (5, .int d), (6, .int w)] [] M2 sz 0 0 (Ret (some (.int (optI (fnd (wouS (putS σ a b u d) a b) i m)))) M2) := by
    intro m
    induction m with
    | zero =>
      intro i hi
      obtain rfl : i = 37 := by omega
      refine V_iload 0 dX3_firstOffBy_31 rfl ?_
      refine V_bipush (v := 37) dX3_firstOffBy_33 (by decide) ?_
      refine V_icmp_ge (tgt := 82) dX3_firstOffBy_35 (by decide) (fun c35 => ?_) (fun c35 => absurd (by decide) c35)
      refine V_iconst (v := -1) dX3_firstOffBy_82 rfl ?_
      refine V_iret (st := []) dX3_firstOffBy_83 rfl ?_
      exact ⟨rfl, rfl⟩
    | succ m ih =>
      intro i hi
      have hlt : i < 37 := by omega
      refine V_iload 0 dX3_firstOffBy_31 rfl ?_
      refine V_bipush (v := 37) dX3_firstOffBy_33 (by decide) ?_
      refine V_icmp_ge (tgt := 82) dX3_firstOffBy_35 (by decide) (fun c35 => absurd c35 (nI_ge (b := 37) hlt (by decide))) (fun c35 => ?_)
      refine V_aload_n 2 dX3_firstOffBy_38 rfl ?_
      refine V_aload_n 2 dX3_firstOffBy_39 rfl ?_
      refine G_X3_21 rfl hR2.1 rfl dX3_firstOffBy_40 ?_
      refine V_iload 0 dX3_firstOffBy_43 rfl ?_
      refine V_pc (pc2 := 45) rfl ?_
      refine V_iload 1 dX3_firstOffBy_45 rfl ?_
      refine C_X3_54 hR2.1 rfl ⟨Nat.le_of_ble_eq_true rfl, Nat.le_of_ble_eq_true rfl⟩ (r_standsWith hR2 hT2 hσ2 i rfl hlt a b rfl ha hb) rfl (Nat.le_of_ble_eq_true rfl) dX3_firstOffBy_47 rfl ?_
      refine V_if_eq (tgt := 76) dX3_firstOffBy_50 (by decide) (fun c50 => ?_) (fun c50 => ?_)
      · refine V_iinc (v := _ + 1) (lv2 := [(8, .int _), (7, .int _), (0, .ref _), (1, .ref _), (2, .int _), (3, .int _), (4, .int _), (5, .int _), (6, .int _)]) 0 dX3_firstOffBy_76 rfl rfl (Nat.le_of_ble_eq_true rfl) rfl ?_
        refine V_goto (tgt := 31) dX3_firstOffBy_79 (by decide) ?_
        refine V_lv (lv2 := [(8, .int _), (7, .int _), (0, .ref _), (1, .ref _), (2, .int _), (3, .int _), (4, .int _), (5, .int _), (6, .int _)]) [0, 1, 2, 3, 4, 5, 6, 7, 8] rfl ?_
        rw [nI_1]
        have e := ih (i + 1) (by omega)
        rw [fnd_f (P := (wouS (putS σ a b u d) a b)) (by unfold wouS; rw [bI_0 c50, Bool.false_and])]
        exact e
      · refine V_aload_n 2 dX3_firstOffBy_53 rfl ?_
        refine V_aload_n 2 dX3_firstOffBy_54 rfl ?_
        refine G_X3_21 rfl hR2.1 rfl dX3_firstOffBy_55 ?_
        refine V_iload 0 dX3_firstOffBy_58 rfl ?_
        refine C_X3_73 hR2.1 rfl ⟨Nat.le_of_ble_eq_true rfl, Nat.le_of_ble_eq_true rfl⟩ (r_gain hR2 hT2 hσ2 i rfl hlt hI2 (by have h := bI_1 c50; rw [Bool.and_eq_true] at h; exact h.2)) rfl (Nat.le_of_ble_eq_true rfl) dX3_firstOffBy_60 rfl ?_
        refine C_X3_77 rfl ⟨Nat.le_of_ble_eq_true rfl, Nat.le_of_ble_eq_true rfl⟩ (r_labs _) rfl (Nat.le_of_ble_eq_true rfl) dX3_firstOffBy_63 rfl ?_
        refine V_iload 8 dX3_firstOffBy_66 rfl ?_
        refine V_pc (pc2 := 68) rfl ?_
        refine V_i2l dX3_firstOffBy_68 ?_
        refine V_lcmp dX3_firstOffBy_69 ?_
        refine V_if_le (tgt := 76) dX3_firstOffBy_70 (by decide) (fun c70 => ?_) (fun c70 => ?_)
        · refine V_iinc (v := _ + 1) (lv2 := [(8, .int _), (7, .int _), (0, .ref _), (1, .ref _), (2, .int _), (3, .int _), (4, .int _), (5, .int _), (6, .int _)]) 0 dX3_firstOffBy_76 rfl rfl (Nat.le_of_ble_eq_true rfl) rfl ?_
          refine V_goto (tgt := 31) dX3_firstOffBy_79 (by decide) ?_
          refine V_lv (lv2 := [(8, .int _), (7, .int _), (0, .ref _), (1, .ref _), (2, .int _), (3, .int _), (4, .int _), (5, .int _), (6, .int _)]) [0, 1, 2, 3, 4, 5, 6, 7, 8] rfl ?_
          rw [nI_1]
          have e := ih (i + 1) (by omega)
          rw [fnd_f (P := (wouS (putS σ a b u d) a b)) (by unfold wouS; rw [bI_1 c50, Bool.true_and]; unfold offS; rw [e25, ← hw]; exact decide_eq_false (fun h => absurd (lgc_gt.mpr h) (Int32.not_lt.mpr c70)))]
          exact e
        · refine V_iload 0 dX3_firstOffBy_73 rfl ?_
          refine V_iret (st := []) dX3_firstOffBy_75 rfl ?_
          exact ⟨by rw [fnd_t (P := (wouS (putS σ a b u d) a b)) (by unfold wouS; rw [bI_1 c50, Bool.true_and]; unfold offS; rw [e25, ← hw]; exact decide_eq_true (lgc_gt.mp (Int32.not_le.mp c70)))]; rfl, rfl⟩
  refine Run.of rfl (by decide) (Nat.le_of_ble_eq_true rfl) ?_
  show V g m_X3_firstOffBy 0 _ [] _ _ _ _ _
  refine V_aload_n 0 dX3_firstOffBy_0 rfl ?_
  refine G_X3_21 rfl hR.1 rfl dX3_firstOffBy_1 ?_
  refine V_aload_n 1 dX3_firstOffBy_4 rfl ?_
  refine C_X3_84 h8.1 rfl ⟨Nat.le_of_ble_eq_true rfl, Nat.le_of_ble_eq_true rfl⟩ (r_tcopy h8 hT ⟨by omega, by omega, by omega⟩) rfl (Nat.le_of_ble_eq_true rfl) dX3_firstOffBy_5 rfl ?_
  refine V_aload_n 0 dX3_firstOffBy_8 rfl ?_
  refine G_X3_21 rfl (show triM g M f p 85 = _ from (triM_ne (by decide) (by decide)).trans hR.1) rfl dX3_firstOffBy_9 ?_
  refine V_iload_n 2 dX3_firstOffBy_12 rfl ?_
  refine V_pc (pc2 := 13) rfl ?_
  refine V_iload_n 3 dX3_firstOffBy_13 rfl ?_
  refine V_iload 4 dX3_firstOffBy_14 rfl ?_
  refine V_iload 5 dX3_firstOffBy_16 rfl ?_
  refine C_X3_88 (mup_eq _ _ _) rfl ⟨Nat.le_of_ble_eq_true rfl, Nat.le_of_ble_eq_true rfl⟩ (r_lay (show TW g (triM g M f p) 88 f p from ⟨mup_eq _ _ _, (mup_ne _ _ (by decide)).trans (mup_eq _ _ _)⟩) a b rfl rfl ha hb hab) rfl (Nat.le_of_ble_eq_true rfl) dX3_firstOffBy_18 rfl ?_
  refine V_iload_n 2 dX3_firstOffBy_21 rfl ?_
  refine V_iload_n 3 dX3_firstOffBy_22 rfl ?_
  refine C_X3_44 rfl ⟨Nat.le_of_ble_eq_true rfl, Nat.le_of_ble_eq_true rfl⟩ (r_bitOf a b rfl rfl ha hb) rfl (Nat.le_of_ble_eq_true rfl) dX3_firstOffBy_23 rfl ?_
  refine V_istore (lv2 := [(7, .int _), (0, .ref _), (1, .ref _), (2, .int _), (3, .int _), (4, .int _), (5, .int _), (6, .int _)]) dX3_firstOffBy_26 (Nat.le_of_ble_eq_true rfl) rfl ?_
  refine V_pc (pc2 := 28) rfl ?_
  refine V_iconst (v := 0) dX3_firstOffBy_28 rfl ?_
  refine V_istore (lv2 := [(8, .int _), (7, .int _), (0, .ref _), (1, .ref _), (2, .int _), (3, .int _), (4, .int _), (5, .int _), (6, .int _)]) dX3_firstOffBy_29 (Nat.le_of_ble_eq_true rfl) rfl ?_
  refine V_lv (lv2 := [(8, .int _), (7, .int _), (0, .ref _), (1, .ref _), (2, .int _), (3, .int _), (4, .int _), (5, .int _), (6, .int _)]) [0, 1, 2, 3, 4, 5, 6, 7, 8] rfl ?_
  have e : triM g (triM g M f p) (layF f a b u d) (layP p u a b) = M2 := by rw [triM_tri, hM2]
  have e2 := L 37 0 rfl
  rw [← e] at e2 ⊢
  exact e2
/-! the reference -/
def SZf : Nat → Int32 := fun k => nI (rSz k)
def CDf : Nat → Int32 := fun k => nI (rC k)
abbrev MO (g : GE) (v : Nat → Int32) : va_E := eO 9 [rf g 97, rf g 98, .int (v 0), rf g 99, .int (v 1), rf g 100, .int (v 2), .int (v 3), rf g 101, rf g 102, rf g 103, rf g 104, .int (v 4), .int (v 5), .int (v 6), .int (v 7), .int (v 8), .int (v 9), .int (v 10)]
/-- what its looks stand on -/
def MD (g : GE) (M : Mem) (σ v : Nat → Int32) : Prop := M 96 = some (MO g v) ∧ M 97 = some (eI g 65 σ) ∧ M 101 = some (eI g 37 SZf) ∧ M 102 = some (eI g 37 CDf)
