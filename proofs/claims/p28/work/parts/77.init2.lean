/-! constructors: History, Rings -/
def svI : Nat → Nat := fun k => 23 + 10 * k
def svT (g : GE) (i : Nat) : Nat → Option Nat := fun k => if k < i then some (gb g + svI k) else none
theorem svT_s (g : GE) (i : Nat) : va_up (svT g i) i (some (gb g + (23 + 10 * i))) = svT g (i + 1) := by
  funext k
  show (if k = i then some (gb g + (23 + 10 * i)) else svT g i k) = _
  by_cases h : k = i
  · subst h; rw [if_pos rfl]; unfold svT svI; rw [if_pos (by omega)]
  · rw [if_neg h]; unfold svT
    by_cases h2 : k < i
    · rw [if_pos h2, if_pos (by omega)]
    · rw [if_neg h2, if_neg (by omega)]
set_option maxRecDepth 20000 in
theorem ini_X1 {g : GE} {M : Mem} (h : M 21 = some (eO 1 [.null, .int 0])) (hf : FU M 22) : Run g m_X1_init [rf g 21] M (22) 61 486 (RetP none (fun M2 => HS g M2 0 svI (fun _ => σ0) ∧ FU M2 83 ∧ LO M M2 21)) := by
  have L : ∀ (m i : Nat) (M9 : Mem), i + m = 6 → M9 21 = some (eO 1 [rf g 22, .int 0]) → M9 22 = some (eY g 6 (svT g i)) → (∀ j, j < i → YW g M9 (svI j) σ0) → FU M9 (23 + 10 * i) → LO M M9 21 → V g m_X1_init 15 [(1, .int (nI i)), (0, rf g 21)] [] M9 (23 + 10 * i) (10 * m) (80 * m) (RetP none (fun M2 => HS g M2 0 svI (fun _ => σ0) ∧ FU M2 83 ∧ LO M M2 21)) := by
    intro m
    induction m with
    | zero =>
      intro i M9 hi h1 h2 hy hf9 hl
      obtain rfl : i = 6 := by omega
      refine V_iload_n 0 dX1_init_15 rfl ?_
      refine V_aload_n 1 dX1_init_16 rfl ?_
      refine G_X1_11 rfl (show _ = some (eO 1 [rf g 22, .int 0]) from h1) rfl dX1_init_17 ?_
      refine V_alenY h2 rfl dX1_init_20 ?_
      refine V_icmp_ge (tgt := 43) dX1_init_21 (by decide) (fun c21 => ?_) (fun c21 => absurd (nI_le (a := 6) (by omega) (by omega)) c21)
      refine V_aload_n 1 dX1_init_43 rfl ?_
      refine V_iconst (v := 0) dX1_init_44 rfl ?_
      refine V_pc (pc2 := 45) rfl ?_
      refine P_X1_18 rfl (show _ = some (eO 1 [rf g 22, .int 0]) from h1) (Nat.le_of_ble_eq_true rfl) rfl rfl dX1_init_45 ?_
      refine V_ret (st := []) dX1_init_48 rfl ?_
      refine ⟨rfl, ⟨mup_eq _ _ _, ?_, fun j hj => ⟨j, hj, rfl⟩, fun i j a b e => by unfold svI at e; omega, fun j hj => ?_⟩, hf9.put, hl.put (by omega)⟩
      · rw [mup_ne _ _ (by decide)]; exact h2
      · exact (hy j hj).fr (fun q a b => mup_ne _ _ (by unfold svI at a; omega))
    | succ m ih =>
      intro i M9 hi h1 h2 hy hf9 hl
      show V g m_X1_init 15 [(1, .int (nI i)), (0, rf g 21)] [] M9 (23 + 10 * i) (10 * m + 9 + 1) (80 * m + 74 + 6) (RetP none (fun M2 => HS g M2 0 svI (fun _ => σ0) ∧ FU M2 83 ∧ LO M M2 21))
      refine V_iload_n 0 dX1_init_15 rfl ?_
      refine V_aload_n 1 dX1_init_16 rfl ?_
      refine G_X1_11 rfl (show _ = some (eO 1 [rf g 22, .int 0]) from h1) rfl dX1_init_17 ?_
      refine V_alenY h2 rfl dX1_init_20 ?_
      refine V_icmp_ge (tgt := 43) dX1_init_21 (by decide) (fun c21 => absurd c21 (nI_ge (b := 6) (by omega) (by decide))) (fun c21 => ?_)
      refine V_aload_n 1 dX1_init_24 rfl ?_
      refine G_X1_11 rfl (show _ = some (eO 1 [rf g 22, .int 0]) from h1) rfl dX1_init_25 ?_
      refine V_pc (pc2 := 28) rfl ?_
      refine V_iload_n 0 dX1_init_28 rfl ?_
      refine V_newO (ci := 7) (fs := [.null, .null, .null, .null, .int 0, .int 0]) rfl n_X1_9 i_X7.1 i_X7.2 nw_X7 hf9 dX1_init_29 (fun hz29 => ?_)
      refine V_dup dX1_init_32 rfl ?_
      refine Cp_X1_17 rfl ⟨Nat.le_of_ble_eq_true rfl, Nat.le_of_ble_eq_true rfl⟩ (ini_X7 (y := 23 + 10 * i) (mup_eq _ _ _) hf9.new) rfl (Nat.le_of_ble_eq_true rfl) dX1_init_33 rfl (fun _ q1 => ?_)
      obtain ⟨hY, f1, l1⟩ := q1
      have eh2 := (l1 22 (by omega)).trans ((mup_ne _ _ (by omega)).trans h2)
      have eh1 := (l1 21 (by omega)).trans ((mup_ne _ _ (by omega)).trans h1)
      have ehV := hY.1.choose_spec.1
      refine V_aast eh2 ehV (vp_in_nI (n := i) (by omega) (by decide)) dX1_init_36 ?_
      refine V_iinc (v := _ + 1) (lv2 := [(1, .int _), (0, .ref _)]) 0 dX1_init_37 rfl rfl (Nat.le_of_ble_eq_true rfl) rfl ?_
      refine V_goto (tgt := 15) dX1_init_40 (by decide) ?_
      refine V_lv (lv2 := [(1, .int _), (0, .ref _)]) [0, 1] rfl ?_
      rw [nI_1, nI_clamp (n := i) (by omega), svT_s]
      have i9 := ih (i + 1) _ (by omega) ((mup_ne _ _ (by decide)).trans eh1) (mup_eq _ 22 (eY g 6 (svT g (i + 1)))) (fun j hj => ?_) (f1.put (k := 22) (e := eY g 6 (svT g (i + 1)))) (((hl.put (k := 23 + 10 * i) (by omega)).tr l1 (by omega)).put (k := 22) (e := eY g 6 (svT g (i + 1))) (by omega))
      · rw [show 23 + 10 * i + 1 + 9 = 23 + 10 * (i + 1) by omega]
        exact i9
      · by_cases e : j = i
        · subst e; exact hY.fr (fun q a b => mup_ne _ _ (by omega))
        · refine (hy j (by omega)).fr (fun q a b => ?_)
          unfold svI at a b
          rw [mup_ne _ _ (by omega), l1 q (by omega), mup_ne _ _ (by omega)]
  refine Run.of rfl (by decide) (Nat.le_of_ble_eq_true rfl) ?_
  show V g m_X1_init 0 _ [] _ _ _ _ _
  refine V_aload_n 0 dX1_init_0 rfl ?_
  refine V_objInit l_obj_X1_3 (Nat.le_of_ble_eq_true rfl) (Nat.le_of_ble_eq_true rfl) dX1_init_1 ?_
  refine V_aload_n 0 dX1_init_4 rfl ?_
  refine V_bipush (v := 6) dX1_init_5 (by decide) ?_
  refine V_newY 6 n_X1_9 (by decide) rfl (by decide) hf dX1_init_7 (fun hz7 => ?_)
  refine P_X1_11 rfl rfl (show _ = some (eO 1 [.null, .int 0]) from (mup_ne _ _ (by omega)).trans h) (Nat.le_of_ble_eq_true rfl) rfl rfl dX1_init_10 ?_
  refine V_iconst (v := 0) dX1_init_13 rfl ?_
  refine V_pc (pc2 := 14) rfl ?_
  refine V_istore_n (lv2 := [(1, .int _), (0, .ref _)]) dX1_init_14 (Nat.le_of_ble_eq_true rfl) rfl ?_
  refine V_lv (lv2 := [(1, .int _), (0, .ref _)]) [0, 1] rfl ?_
  exact L 6 0 _ (by omega) (mup_eq _ _ _) ((mup_ne _ _ (by decide)).trans (mup_eq _ _ _)) (fun j hj => absurd hj (Nat.not_lt_zero j)) hf.new.put (((LO.refl M 21).put (by omega)).put (by omega))
def PT (r : Nat) : Nat → Int32 := fun k => if k < 5 * r then RPf k else 0
def PI (r i : Nat) : Nat → Int32 := fun k => if k < 5 * r ∨ (5 * r + i ≤ k ∧ k < 5 * r + rSz r) then RPf k else 0
def BT (r : Nat) : Nat → Int32 := fun k => if k < r then RBf k else 0
theorem PT_0 : PT 0 = fun _ => 0 := by funext k; unfold PT; rw [if_neg (by omega)]
theorem BT_0 : BT 0 = fun _ => 0 := by funext k; unfold BT; rw [if_neg (by omega)]
theorem PI_top (r : Nat) : PI r (rSz r) = PT r := by
  funext k; unfold PI PT
  by_cases h : k < 5 * r
  · rw [if_pos (Or.inl h), if_pos h]
  · rw [if_neg (by omega), if_neg h]
theorem PI_s {r i : Nat} (hi : i < rSz r) : upd (PI r (i + 1)) (5 * r + i) (nI (rP r i)) = PI r i := by
  funext k
  by_cases e : k = 5 * r + i
  · subst e; rw [upd_at]; unfold PI; rw [if_pos (by omega), RPf_at hi]
  · rw [upd_ne e]; unfold PI
    by_cases h : k < 5 * r ∨ (5 * r + (i + 1) ≤ k ∧ k < 5 * r + rSz r)
    · rw [if_pos h, if_pos (by omega)]
    · rw [if_neg h, if_neg (by omega)]
theorem PI_0 {r : Nat} : PI r 0 = PT (r + 1) := by
  funext k; unfold PI PT
  have h35 := rSz_in r
  by_cases h : k < 5 * r ∨ (5 * r + 0 ≤ k ∧ k < 5 * r + rSz r)
  · rw [if_pos h, if_pos (by omega)]
  · rw [if_neg h]
    by_cases h2 : k < 5 * (r + 1)
    · rw [if_pos h2]; unfold RPf; rw [if_neg (by rw [show k / 5 = r by omega]; omega)]
    · rw [if_neg h2]
theorem BT_s (r : Nat) : upd (BT r) r (RBf r) = BT (r + 1) := by
  funext k
  by_cases e : k = r
  · subst e; rw [upd_at]; unfold BT; rw [if_pos (by omega)]
  · rw [upd_ne e]; unfold BT
    by_cases h : k < r
    · rw [if_pos h, if_pos (by omega)]
    · rw [if_neg h, if_neg (by omega)]
theorem PT_at {r i : Nat} (hi : i < rSz r) : PT (r + 1) (5 * r + i) = nI (rP r i) := by
  have h35 := rSz_in r
  unfold PT; rw [if_pos (by omega), RPf_at hi]
def cB (r : Nat) : Nat → Nat
  | 0 => 0
  | i + 1 => cB r i ||| 2 ^ pbit (rP r ((i + rSz r - 1) % rSz r)) (rP r i)
theorem cB_eq : ∀ r, r < 37 → cB r (rSz r) = rB r := by
  have h : ((List.range 37).all fun r => decide (cB r (rSz r) = rB r)) = true := by decide +kernel
  intro r hr
  exact of_decide_eq_true (all_lt h r hr)
set_option maxRecDepth 20000 in
theorem ini_pA {g : GE} {M : Mem} {sz : Nat} {v : Nat → Int32} (h1 : M 85 = some (eO 3 [rf g 86, rf g 87, rf g 88])) (h2 : M 86 = some (eI g 185 v)) {x y : Int32} (r i : Nat) (hx : x = nI r) (hy : y = nI i) (hr : r < 37) (hi : i < 5) : Run g m_X3_parishAt [rf g 85, .int x, .int y] M sz 0 0 (Ret (some (.int (v (5 * r + i)))) M) := by
  subst hx hy
  refine Run.of rfl (by decide) (Nat.le_of_ble_eq_true rfl) ?_
  show V g m_X3_parishAt 0 _ [] _ _ _ _ _
  refine V_aload_n 0 dX3_parishAt_0 rfl ?_
  refine G_X3_9 rfl (show _ = some (eO 3 [rf g 86, rf g 87, rf g 88]) from h1) rfl dX3_parishAt_1 ?_
  refine V_iload_n 1 dX3_parishAt_4 rfl ?_
  refine V_iconst (v := 5) dX3_parishAt_5 rfl ?_
  refine V_imul dX3_parishAt_6 ?_
  refine V_iload_n 2 dX3_parishAt_7 rfl ?_
  refine V_iadd dX3_parishAt_8 ?_
  refine V_pc (pc2 := 9) rfl ?_
  rw [show (5 : Int32) = nI 5 from rfl, pk_mul, nI_add, show r * 5 + i = 5 * r + i by omega]
  refine C_X3_32 rfl ⟨Nat.le_of_ble_eq_true rfl, Nat.le_of_ble_eq_true rfl⟩ (r_at h2 (5 * r + i) rfl (by omega) (by decide)) rfl (Nat.le_of_ble_eq_true rfl) dX3_parishAt_9 rfl ?_
  refine V_iret (st := []) dX3_parishAt_12 rfl ?_
  exact ⟨rfl, rfl⟩
set_option maxRecDepth 20000 in
theorem ini_p {g : GE} {M : Mem} {sz kc ks : Nat} {r : Nat} (hr : r < 37) (h1 : M 85 = some (eO 3 [rf g 86, rf g 87, rf g 88])) {Q : Ou → Mem → Prop} (kk : V g m_X3_init 91 [(2, .int (nI (rSz r))), (1, .int (nI r)), (0, rf g 85)] [] (mup M 86 (eI g 185 (PI r 0))) sz kc ks Q) : ∀ p : Nat, p ≤ rSz r → V g m_X3_init 58 [(4, .int (nI (p) - 1)), (3, .int (nI (rC r / 10 ^ (rSz r - (p))))), (2, .int (nI (rSz r))), (1, .int (nI r)), (0, rf g 85)] [] (mup M 86 (eI g 185 (PI r p))) sz kc ks Q := by
  have h35 := rSz_in r
  have hc9 := rC_lt r hr
  intro p
  induction p with
  | zero =>
    intro hp
    refine V_iload 0 dX3_init_58 rfl ?_
    refine V_if_lt (tgt := 91) dX3_init_60 (by decide) (fun c60 => ?_) (fun c60 => absurd (by decide) c60)
    refine V_lv (lv2 := [(2, .int _), (1, .int _), (0, .ref _)]) [2, 3, 4] rfl ?_
    exact kk
  | succ p ih =>
    intro hp
    have hb9 : rC r / 10 ^ (rSz r - (p + 1)) < 2 ^ 31 := Nat.lt_of_le_of_lt (Nat.div_le_self _ _) (by omega)
    refine V_iload 0 dX3_init_58 rfl ?_
    refine V_if_lt (tgt := 91) dX3_init_60 (by decide) (fun c60 => absurd c60 (by rw [show nI (p + 1) - 1 = nI p from nI_pred p]; exact nI_pos (by omega))) (fun c60 => ?_)
    refine V_aload_n 4 dX3_init_63 rfl ?_
    refine G_X3_9 rfl (show _ = some (eO 3 [rf g 86, rf g 87, rf g 88]) from ((mup_ne _ _ (by decide)).trans h1)) rfl dX3_init_64 ?_
    refine V_iload_n 3 dX3_init_67 rfl ?_
    refine V_iconst (v := 5) dX3_init_68 rfl ?_
    refine V_imul dX3_init_69 ?_
    refine V_pc (pc2 := 70) rfl ?_
    refine V_iload 0 dX3_init_70 rfl ?_
    refine V_iadd dX3_init_72 ?_
    refine V_iload_n 1 dX3_init_73 rfl ?_
    refine V_bipush (v := 10) dX3_init_74 (by decide) ?_
    refine V_irem dX3_init_76 (by decide) ?_
    rw [show nI (p + 1) - 1 = nI p from nI_pred p, show (10 : Int32) = nI 10 from rfl, pk_rem hb9 (by decide) (by decide), show (5 : Int32) = nI 5 from rfl, pk_mul, nI_add, show r * 5 + p = 5 * r + p by omega]
    refine C_X3_36 rfl ⟨Nat.le_of_ble_eq_true rfl, Nat.le_of_ble_eq_true rfl⟩ (r_put (mup_eq _ _ _) (5 * r + p) rfl (by omega) (by decide)) rfl (Nat.le_of_ble_eq_true rfl) dX3_init_77 rfl ?_
    refine V_iload_n 1 dX3_init_80 rfl ?_
    refine V_bipush (v := 10) dX3_init_81 (by decide) ?_
    refine V_pc (pc2 := 83) rfl ?_
    refine V_idiv dX3_init_83 (by decide) ?_
    rw [show (10 : Int32) = nI 10 from rfl, pk_div hb9 (by decide) (by decide)]
    refine V_istore_n (lv2 := [(3, .int _), (4, .int _), (2, .int _), (1, .int _), (0, .ref _)]) dX3_init_84 (Nat.le_of_ble_eq_true rfl) rfl ?_
    refine V_iinc (v := _ + (-1)) (lv2 := [(4, .int _), (3, .int _), (2, .int _), (1, .int _), (0, .ref _)]) 1 dX3_init_85 rfl rfl (Nat.le_of_ble_eq_true rfl) rfl ?_
    refine V_goto (tgt := 58) dX3_init_88 (by decide) ?_
    refine V_lv (lv2 := [(4, .int _), (3, .int _), (2, .int _), (1, .int _), (0, .ref _)]) [0, 1, 2, 3, 4] rfl ?_
    have e1 : rC r / 10 ^ (rSz r - (p + 1)) % 10 = rP r p := by unfold rP; rw [show rSz r - 1 - p = rSz r - (p + 1) by omega]
    rw [e1, mup_mup, PI_s hp, show nI p + (-1) = nI p - 1 from (Int32.sub_eq_add_neg _ _).symm, Nat.div_div_eq_div_mul, ← Nat.pow_succ, show (rSz r - (p + 1)).succ = rSz r - p by omega]
    exact ih (by omega)
set_option maxRecDepth 20000 in
theorem ini_b {g : GE} {M : Mem} {sz kc ks : Nat} {r : Nat} (hr : r < 37) (h1 : M 85 = some (eO 3 [rf g 86, rf g 87, rf g 88])) (h2 : M 86 = some (eI g 185 (PT (r + 1)))) (h3 : M 87 = some (eI g 37 (BT r))) {Q : Ou → Mem → Prop} (kk : V g m_X3_init 34 [(1, .int (nI (r + 1))), (0, rf g 85)] [] (mup M 87 (eI g 37 (BT (r + 1)))) sz kc ks Q) : ∀ m i : Nat, i + m = rSz r → V g m_X3_init 107 [(6, .int (nI i)), (5, .int (nI (rP r ((i + rSz r - 1) % rSz r)))), (4, .int (nI (cB r i))), (2, .int (nI (rSz r))), (1, .int (nI r)), (0, rf g 85)] [] M sz kc ks Q := by
  have h35 := rSz_in r
  intro m
  induction m with
  | zero =>
    intro i hi
    refine V_iload 0 dX3_init_107 rfl ?_
    refine V_iload_n 3 dX3_init_109 rfl ?_
    refine V_icmp_ge (tgt := 144) dX3_init_110 (by decide) (fun c110 => ?_) (fun c110 => absurd (nI_le (by omega) (by omega)) c110)
    obtain rfl : i = rSz r := by omega
    refine V_aload_n 5 dX3_init_144 rfl ?_
    refine G_X3_15 rfl (show _ = some (eO 3 [rf g 86, rf g 87, rf g 88]) from h1) rfl dX3_init_145 ?_
    refine V_iload_n 4 dX3_init_148 rfl ?_
    refine V_iload 2 dX3_init_149 rfl ?_
    refine V_pc (pc2 := 151) rfl ?_
    refine C_X3_36 rfl ⟨Nat.le_of_ble_eq_true rfl, Nat.le_of_ble_eq_true rfl⟩ (r_put h3 r rfl hr (by decide)) rfl (Nat.le_of_ble_eq_true rfl) dX3_init_151 rfl ?_
    refine V_iinc (v := _ + 1) (lv2 := [(1, .int _), (6, .int _), (5, .int _), (4, .int _), (2, .int _), (0, .ref _)]) 4 dX3_init_154 rfl rfl (Nat.le_of_ble_eq_true rfl) rfl ?_
    refine V_goto (tgt := 34) dX3_init_157 (by decide) ?_
    refine V_lv (lv2 := [(1, .int _), (0, .ref _)]) [0, 5] rfl ?_
    rw [nI_1, show nI (cB r (rSz r)) = RBf r by rw [cB_eq r hr]; rfl, BT_s]
    exact kk
  | succ m ih =>
    intro i hi
    refine V_iload 0 dX3_init_107 rfl ?_
    refine V_iload_n 3 dX3_init_109 rfl ?_
    refine V_icmp_ge (tgt := 144) dX3_init_110 (by decide) (fun c110 => absurd c110 (nI_ge (by omega) (by omega))) (fun c110 => ?_)
    refine V_aload_n 5 dX3_init_113 rfl ?_
    refine V_iload_n 4 dX3_init_114 rfl ?_
    refine V_iload 0 dX3_init_115 rfl ?_
    refine C_X3_40 (show _ = some (eO 3 [rf g 86, rf g 87, rf g 88]) from h1) rfl ⟨Nat.le_of_ble_eq_true rfl, Nat.le_of_ble_eq_true rfl⟩ (ini_pA h1 h2 r i rfl rfl hr (by omega)) rfl (Nat.le_of_ble_eq_true rfl) dX3_init_117 rfl ?_
    rw [PT_at (r := r) (by omega)]
    refine V_pc (pc2 := 120) rfl ?_
    refine V_istore (lv2 := [(7, .int _), (6, .int _), (5, .int _), (4, .int _), (2, .int _), (1, .int _), (0, .ref _)]) dX3_init_120 (Nat.le_of_ble_eq_true rfl) rfl ?_
    refine V_iload 3 dX3_init_122 rfl ?_
    refine V_iload 2 dX3_init_124 rfl ?_
    refine V_iload 0 dX3_init_126 rfl ?_
    refine C_X3_44 rfl ⟨Nat.le_of_ble_eq_true rfl, Nat.le_of_ble_eq_true rfl⟩ (r_bitOf (rP r ((i + rSz r - 1) % rSz r)) (rP r i) rfl rfl (rP_lt r hr _ (Nat.mod_lt _ (by omega))) (rP_lt r hr i (by omega))) rfl (Nat.le_of_ble_eq_true rfl) dX3_init_128 rfl ?_
    refine V_ior dX3_init_131 ?_
    refine V_istore (lv2 := [(4, .int _), (7, .int _), (6, .int _), (5, .int _), (2, .int _), (1, .int _), (0, .ref _)]) dX3_init_132 (Nat.le_of_ble_eq_true rfl) rfl ?_
    refine V_iload 1 dX3_init_134 rfl ?_
    refine V_pc (pc2 := 136) rfl ?_
    refine V_istore (lv2 := [(5, .int _), (4, .int _), (7, .int _), (6, .int _), (2, .int _), (1, .int _), (0, .ref _)]) dX3_init_136 (Nat.le_of_ble_eq_true rfl) rfl ?_
    refine V_iinc (v := _ + 1) (lv2 := [(6, .int _), (5, .int _), (4, .int _), (7, .int _), (2, .int _), (1, .int _), (0, .ref _)]) 3 dX3_init_138 rfl rfl (Nat.le_of_ble_eq_true rfl) rfl ?_
    refine V_goto (tgt := 107) dX3_init_141 (by decide) ?_
    refine V_lv (lv2 := [(6, .int _), (5, .int _), (4, .int _), (2, .int _), (1, .int _), (0, .ref _)]) [0, 1, 2, 4, 5, 6] rfl ?_
    rw [nI_orN, nI_1]
    have e2 : (i + 1 + rSz r - 1) % rSz r = i := by rw [show i + 1 + rSz r - 1 = i + rSz r by omega, Nat.add_mod_right]; exact Nat.mod_eq_of_lt (by omega)
    have i9 := ih (i + 1) (by omega)
    rw [e2] at i9
    exact i9
set_option maxRecDepth 20000 in
theorem ini_X3 {g : GE} {M : Mem} (h : M 85 = some (eO 3 [.null, .null, .null])) (hf : FU M 86) : Run g m_X3_init [rf g 85] M (86) 4 249 (RetP none (fun M2 => RW g M2 ∧ (∃ f p, TW g M2 88 f p) ∧ FU M2 90 ∧ LO M M2 85)) := by
  have L : ∀ (m r : Nat) (M9 : Mem), r + m = 37 → M9 85 = some (eO 3 [rf g 86, rf g 87, rf g 88]) → M9 86 = some (eI g 185 (PT r)) → M9 87 = some (eI g 37 (BT r)) → (∃ f p, TW g M9 88 f p) → FU M9 90 → LO M M9 85 → V g m_X3_init 34 [(1, .int (nI r)), (0, rf g 85)] [] M9 90 0 0 (RetP none (fun M2 => RW g M2 ∧ (∃ f p, TW g M2 88 f p) ∧ FU M2 90 ∧ LO M M2 85)) := by
    intro m
    induction m with
    | zero =>
      intro r M9 hr37 h1 h2 h3 ht hf hl
      obtain rfl : r = 37 := by omega
      refine V_iload_n 0 dX3_init_34 rfl ?_
      refine V_bipush (v := 37) dX3_init_35 (by decide) ?_
      refine V_icmp_ge (tgt := 160) dX3_init_37 (by decide) (fun c37 => ?_) (fun c37 => absurd (nI_le (a := 37) (by omega) (by omega)) c37)
      refine V_extI (f2 := RPf) h2 (fun k hk => if_pos (by omega)) ?_
      refine V_extI (f2 := RBf) ((mup_ne _ _ (by decide)).trans h3) (fun k hk => if_pos hk) ?_
      refine V_ret (st := []) dX3_init_160 rfl ?_
      obtain ⟨f, p, t1, t2⟩ := ht
      exact ⟨rfl, ⟨(mup_ne _ _ (by decide)).trans ((mup_ne _ _ (by decide)).trans h1), (mup_ne _ _ (by decide)).trans (mup_eq _ _ _), mup_eq _ _ _⟩, ⟨f, p, (mup_ne _ _ (by decide)).trans ((mup_ne _ _ (by decide)).trans t1), (mup_ne _ _ (by decide)).trans ((mup_ne _ _ (by decide)).trans t2)⟩, hf.put.put, (hl.put (by omega)).put (by omega)⟩
    | succ m ih =>
      intro r M9 hr37 h1 h2 h3 ht hf hl
      have hr : r < 37 := by omega
      have h35 := rSz_in r
      refine V_iload_n 0 dX3_init_34 rfl ?_
      refine V_bipush (v := 37) dX3_init_35 (by decide) ?_
      refine V_icmp_ge (tgt := 160) dX3_init_37 (by decide) (fun c37 => absurd c37 (nI_ge (b := 37) (by omega) (by decide))) (fun c37 => ?_)
      refine V_iload_n 0 dX3_init_40 rfl ?_
      refine C_X3_25 rfl ⟨Nat.le_of_ble_eq_true rfl, Nat.le_of_ble_eq_true rfl⟩ (r_ringSize r rfl hr) rfl (Nat.le_of_ble_eq_true rfl) dX3_init_41 rfl ?_
      refine V_istore_n (lv2 := [(2, .int _), (1, .int _), (0, .ref _)]) dX3_init_44 (Nat.le_of_ble_eq_true rfl) rfl ?_
      refine V_getRN st_X3_29 dX3_init_45 ?_
      refine V_pc (pc2 := 48) rfl ?_
      refine V_iload_n 1 dX3_init_48 rfl ?_
      refine C_X3_32 rfl ⟨Nat.le_of_ble_eq_true rfl, Nat.le_of_ble_eq_true rfl⟩ (r_atR r rfl hr) rfl (Nat.le_of_ble_eq_true rfl) dX3_init_49 rfl ?_
      rw [ringsF_eq r hr]
      refine V_istore_n (lv2 := [(3, .int _), (2, .int _), (1, .int _), (0, .ref _)]) dX3_init_52 (Nat.le_of_ble_eq_true rfl) rfl ?_
      refine V_iload_n 1 dX3_init_53 rfl ?_
      refine V_iconst (v := 1) dX3_init_54 rfl ?_
      refine V_isub dX3_init_55 ?_
      refine V_istore (lv2 := [(4, .int _), (3, .int _), (2, .int _), (1, .int _), (0, .ref _)]) dX3_init_56 (Nat.le_of_ble_eq_true rfl) rfl ?_
      refine V_lv (lv2 := [(4, .int _), (3, .int _), (2, .int _), (1, .int _), (0, .ref _)]) [0, 1, 2, 3, 4] rfl ?_
      have e9 := ini_p (sz := 90) (kc := 0) (ks := 0) (Q := (RetP none (fun M2 => RW g M2 ∧ (∃ f p, TW g M2 88 f p) ∧ FU M2 90 ∧ LO M M2 85))) hr h1 (by
        refine V_iconst (v := 0) dX3_init_91 rfl ?_
        refine V_istore (lv2 := [(4, .int _), (2, .int _), (1, .int _), (0, .ref _)]) dX3_init_92 (Nat.le_of_ble_eq_true rfl) rfl ?_
        refine V_aload_n 3 dX3_init_94 rfl ?_
        refine V_iload_n 2 dX3_init_95 rfl ?_
        refine V_iload_n 1 dX3_init_96 rfl ?_
        refine V_iconst (v := 1) dX3_init_97 rfl ?_
        refine V_isub dX3_init_98 ?_
        refine V_pc (pc2 := 99) rfl ?_
        rw [PI_0, show (1 : Int32) = nI 1 from rfl, pk_sub (by omega)]
        refine C_X3_40 (show _ = some (eO 3 [rf g 86, rf g 87, rf g 88]) from ((mup_ne _ _ (by decide)).trans h1)) rfl ⟨Nat.le_of_ble_eq_true rfl, Nat.le_of_ble_eq_true rfl⟩ (ini_pA ((mup_ne _ _ (by decide)).trans h1) (mup_eq _ _ _) r (rSz r - 1) rfl rfl hr (by omega)) rfl (Nat.le_of_ble_eq_true rfl) dX3_init_99 rfl ?_
        rw [PT_at (r := r) (by omega)]
        refine V_istore (lv2 := [(5, .int _), (4, .int _), (2, .int _), (1, .int _), (0, .ref _)]) dX3_init_102 (Nat.le_of_ble_eq_true rfl) rfl ?_
        refine V_iconst (v := 0) dX3_init_104 rfl ?_
        refine V_istore (lv2 := [(6, .int _), (5, .int _), (4, .int _), (2, .int _), (1, .int _), (0, .ref _)]) dX3_init_105 (Nat.le_of_ble_eq_true rfl) rfl ?_
        refine V_lv (lv2 := [(6, .int _), (5, .int _), (4, .int _), (2, .int _), (1, .int _), (0, .ref _)]) [0, 1, 2, 3, 4, 5] rfl ?_
        have e0 : rP r (rSz r - 1) = rP r ((0 + rSz r - 1) % rSz r) := by rw [Nat.zero_add, Nat.mod_eq_of_lt (by omega)]
        rw [e0]
        refine ini_b hr ((mup_ne _ _ (by decide)).trans h1) (mup_eq _ _ _) ((mup_ne _ _ (by decide)).trans h3) ?_ (rSz r) 0 (by omega)
        obtain ⟨f, p, t1, t2⟩ := ht
        exact ih (r + 1) _ (by omega) ((mup_ne _ _ (by decide)).trans ((mup_ne _ _ (by decide)).trans h1)) ((mup_ne _ _ (by decide)).trans (mup_eq _ _ _)) (mup_eq _ _ _) ⟨f, p, (mup_ne _ _ (by decide)).trans ((mup_ne _ _ (by decide)).trans t1), (mup_ne _ _ (by decide)).trans ((mup_ne _ _ (by decide)).trans t2)⟩ hf.put.put ((hl.put (by omega)).put (by omega))) (rSz r) (Nat.le_refl _)
      rw [Nat.sub_self, Nat.pow_zero, Nat.div_one, PI_top, mup_self h2] at e9
      exact e9
  refine Run.of rfl (by decide) (Nat.le_of_ble_eq_true rfl) ?_
  show V g m_X3_init 0 _ [] _ _ _ _ _
  refine V_aload_n 0 dX3_init_0 rfl ?_
  refine V_objInit l_obj_X3_3 (Nat.le_of_ble_eq_true rfl) (Nat.le_of_ble_eq_true rfl) dX3_init_1 ?_
  refine V_aload_n 0 dX3_init_4 rfl ?_
  refine V_sipush (v := 185) dX3_init_5 (by decide) ?_
  refine V_newI 185 ac_I (by decide) rfl (by decide) hf dX3_init_8 (fun hz8 => ?_)
  refine P_X3_9 rfl rfl (show _ = some (eO 3 [.null, .null, .null]) from (mup_ne _ _ (by decide)).trans h) (Nat.le_of_ble_eq_true rfl) rfl rfl dX3_init_10 ?_
  refine V_aload_n 0 dX3_init_13 rfl ?_
  refine V_pc (pc2 := 14) rfl ?_
  refine V_bipush (v := 37) dX3_init_14 (by decide) ?_
  refine V_newI 37 ac_I (by decide) rfl (by decide) hf.new.put dX3_init_16 (fun hz16 => ?_)
  refine P_X3_15 rfl rfl (show _ = some (eO 3 [rf g 86, .null, .null]) from (mup_ne _ _ (by decide)).trans (mup_eq _ _ _)) (Nat.le_of_ble_eq_true rfl) rfl rfl dX3_init_18 ?_
  refine V_aload_n 0 dX3_init_21 rfl ?_
  refine V_newO (ci := 4) (fs := [.null, .int 0]) rfl n_X3_18 i_X4.1 i_X4.2 nw_X4 hf.new.put.new.put dX3_init_22 (fun hz22 => ?_)
  refine V_dup dX3_init_25 rfl ?_
  refine Cp_X3_20 rfl ⟨Nat.le_of_ble_eq_true rfl, Nat.le_of_ble_eq_true rfl⟩ (ini_X4 (t := 88) (mup_eq _ _ _) hf.new.put.new.put.new) rfl (Nat.le_of_ble_eq_true rfl) dX3_init_26 rfl (fun _ q4 => ?_)
  obtain ⟨t1, f3, l1⟩ := q4
  have e4 := (l1 85 (by omega)).trans ((mup_ne _ _ (by decide)).trans (mup_eq _ _ _))
  have e86 := (l1 86 (by omega)).trans ((mup_ne _ _ (by decide)).trans ((mup_ne _ _ (by decide)).trans ((mup_ne _ _ (by decide)).trans ((mup_ne _ _ (by decide)).trans (mup_eq _ 86 _)))))
  have e87 := (l1 87 (by omega)).trans ((mup_ne _ _ (by decide)).trans ((mup_ne _ _ (by decide)).trans (mup_eq _ 87 _)))
  refine P_X3_21 rfl rfl (show _ = some (eO 3 [rf g 86, rf g 87, .null]) from e4) (Nat.le_of_ble_eq_true rfl) rfl rfl dX3_init_29 ?_
  refine V_pc (pc2 := 32) rfl ?_
  refine V_iconst (v := 0) dX3_init_32 rfl ?_
  refine V_istore_n (lv2 := [(1, .int _), (0, .ref _)]) dX3_init_33 (Nat.le_of_ble_eq_true rfl) rfl ?_
  refine V_lv (lv2 := [(1, .int _), (0, .ref _)]) [0, 1] rfl ?_
  refine L 37 0 _ (by omega) (mup_eq _ _ _) ?_ ?_ ⟨z0, 0, (mup_ne _ _ (by decide)).trans t1.1, (mup_ne _ _ (by decide)).trans t1.2⟩ f3.put ?_
  · rw [mup_ne _ _ (by decide), PT_0]; exact e86
  · rw [mup_ne _ _ (by decide), BT_0]; exact e87
  · exact ((((((LO.refl M 85).put (by omega)).put (by omega)).put (by omega)).put (by omega)).put (by omega) |>.tr l1 (by omega)).put (by omega)
