/-! table, offBy, tableOf, turned -/
theorem CW.first {g : GE} {M : Mem} {sz : Nat} {σ τ : Nat → Int32} {hk : Bool} {n : Nat} {ps : Nat → Nat → Int32} {len : Nat} {tx : Nat → Int32} (hC : CW g M σ τ hk n ps len tx) (hI : I10 σ) {x y : Int32} (a b : Nat) (hx : x = nI a) (hy : y = nI b) (ha : a < 5) (hb : b < 5) (hab : a ≠ b) {u d w : Int32} (hud : UD u d) (hw : w = σ 25) : Run g m_X3_firstOffBy [rf g 85, rf g (1 + 3), .int x, .int y, .int u, .int d, .int w] M sz 0 0 (RetP (some (.int (optI (fnd (wouS (putS σ a b u d) a b) 0 37)))) (fun M1 => CW g M1 σ τ hk n ps len tx ∧ FR M M1 85 11)) := by
  obtain ⟨f, p, h1, h2⟩ := hC.2.1.2.2.2.1
  obtain ⟨r1, ⟨f0, p0, r2⟩, r3⟩ := hC.2.2.2.2.2
  refine (r_firstOffBy r1 h1 h2 r2 (by decide) a b hx hy ha hb hab hud hI hw).mono fun o M1 q => ⟨q.1, ?_⟩
  rw [q.2]
  have hF : FR M (triM g M (layF f a b u d) (layP p u a b)) 85 11 := fun k hk => triM_ne (by omega) (by omega)
  refine ⟨hC.scr ?_ hF, hF⟩
  obtain ⟨s1, s2, s3⟩ := r1
  obtain ⟨⟨w, z, w1, w2⟩, ⟨m1, a1, b1, m2, m3⟩, ⟨u1, u2⟩⟩ := r3
  exact ⟨⟨(triM_ne (by decide) (by decide)).trans s1, (triM_ne (by decide) (by decide)).trans s2, (triM_ne (by decide) (by decide)).trans s3⟩, ⟨_, _, mup_eq _ _ _, (mup_ne _ _ (by decide)).trans (mup_eq _ _ _)⟩, ⟨w, z, (triM_ne (by decide) (by decide)).trans w1, (triM_ne (by decide) (by decide)).trans w2⟩, ⟨(triM_ne (by decide) (by decide)).trans m1, a1, b1, (triM_ne (by decide) (by decide)).trans m2, (triM_ne (by decide) (by decide)).trans m3⟩, ⟨u1, (triM_ne (by decide) (by decide)).trans u2⟩⟩
theorem optI_neg (o : Option Nat) (h : ∀ r, o = some r → r < 37) : (optI o < 0 ↔ o = none) := by
  cases o with
  | none => exact ⟨fun _ => rfl, fun _ => by decide⟩
  | some r => exact ⟨fun hh => absurd hh (nI_pos (by have := h r rfl; omega)), fun hh => nomatch hh⟩
theorem ringsF_eq : ∀ r, r < 37 → ringsF r = nI (rC r) := by
  have h9 : ((List.range 37).all fun r => decide (ringsF r = nI (rC r))) = true := by decide +kernel
  intro r hr
  exact of_decide_eq_true (all_lt h9 r hr)
theorem fnd37 {P : Nat → Bool} : ∀ r, fnd P 0 37 = some r → r < 37 := fun r h => by have := (fnd_some h).2.2; omega
theorem UD_of {u d : Int32} (hu : ¬ u < 1) (hu2 : u ≤ 99) (hd : ¬ d < 1) (hd2 : d ≤ 99) : UD u d := by
  obtain ⟨i, a1, a2, a3⟩ := nI_rng (l := 1) (h := 99) hu hu2 (by decide) (by decide)
  obtain ⟨j, b1, b2, b3⟩ := nI_rng (l := 1) (h := 99) hd hd2 (by decide) (by decide)
  exact Or.inr ⟨i, j, a1, a2, b1, b2, a3, b3⟩
set_option maxRecDepth 20000 in
theorem x_table_1 {g : GE} {M : Mem} {sz : Nat} {σ τ : Nat → Int32} {hk : Bool} {n : Nat} {ps : Nat → Nat → Int32} {len : Nat} {tx : Nat → Int32} (hC : CW g M σ τ hk n ps len tx) {a b u d : Int32} (h : isP a = false ∨ isP b = false) : Run g m_X8_table [rf g 0, .int a, .int b, .int u, .int d] M sz 1 6 (Thr (exN 0) M) := by
  refine Run.of rfl (by decide) (Nat.le_of_ble_eq_true rfl) ?_
  show V g m_X8_table 0 _ [] _ _ _ _ _
  refine V_iload_n 1 dX8_table_0 rfl ?_
  refine V_iload_n 2 dX8_table_1 rfl ?_
  refine Ct_X8_85 rfl rfl ⟨Nat.le_of_ble_eq_true rfl, Nat.le_of_ble_eq_true rfl⟩ (r_checkPair_bad h) rfl (Nat.le_of_ble_eq_true rfl) dX8_table_2 rfl ?_
  exact ⟨rfl, rfl⟩
set_option maxRecDepth 20000 in
theorem x_table_2a {g : GE} {M : Mem} {sz : Nat} {σ τ : Nat → Int32} {hk : Bool} {n : Nat} {ps : Nat → Nat → Int32} {len : Nat} {tx : Nat → Int32} (hC : CW g M σ τ hk n ps len tx) {a b u d : Int32} (ha : isP a = true) (hb : isP b = true) (h : a = b) : Run g m_X8_table [rf g 0, .int a, .int b, .int u, .int d] M sz 1 6 (Thr (exN 1) M) := by
  refine Run.of rfl (by decide) (Nat.le_of_ble_eq_true rfl) ?_
  show V g m_X8_table 0 _ [] _ _ _ _ _
  refine V_iload_n 1 dX8_table_0 rfl ?_
  refine V_iload_n 2 dX8_table_1 rfl ?_
  refine Ct_X8_85 rfl rfl ⟨Nat.le_of_ble_eq_true rfl, Nat.le_of_ble_eq_true rfl⟩ (r_checkPair_same ha hb h) rfl (Nat.le_of_ble_eq_true rfl) dX8_table_2 rfl ?_
  exact ⟨rfl, rfl⟩
set_option maxRecDepth 20000 in
theorem x_table_2b {g : GE} {M : Mem} {sz : Nat} {σ τ : Nat → Int32} {hk : Bool} {n : Nat} {ps : Nat → Nat → Int32} {len : Nat} {tx : Nat → Int32} (hC : CW g M σ τ hk n ps len tx) {a b u d : Int32} (ha : isP a = true) (hb : isP b = true) (h : a ≠ b) (hu : u < 1 ∨ ¬ u ≤ 99) : Run g m_X8_table [rf g 0, .int a, .int b, .int u, .int d] M sz 1 6 (Thr (exN 1) M) := by
  refine Run.of rfl (by decide) (Nat.le_of_ble_eq_true rfl) ?_
  show V g m_X8_table 0 _ [] _ _ _ _ _
  refine V_iload_n 1 dX8_table_0 rfl ?_
  refine V_iload_n 2 dX8_table_1 rfl ?_
  refine C_X8_85 rfl ⟨Nat.le_of_ble_eq_true rfl, Nat.le_of_ble_eq_true rfl⟩ (r_checkPair_ok ha hb h) rfl (Nat.le_of_ble_eq_true rfl) dX8_table_2 rfl ?_
  refine V_iload_n 3 dX8_table_5 rfl ?_
  refine V_iconst (v := 1) dX8_table_6 rfl ?_
  refine V_bipush (v := 99) dX8_table_7 (by decide) ?_
  refine Ct_X8_66 rfl rfl ⟨Nat.le_of_ble_eq_true rfl, Nat.le_of_ble_eq_true rfl⟩ (r_checkRange_bad hu) rfl (Nat.le_of_ble_eq_true rfl) dX8_table_9 rfl ?_
  exact ⟨rfl, rfl⟩
set_option maxRecDepth 20000 in
theorem x_table_2c {g : GE} {M : Mem} {sz : Nat} {σ τ : Nat → Int32} {hk : Bool} {n : Nat} {ps : Nat → Nat → Int32} {len : Nat} {tx : Nat → Int32} (hC : CW g M σ τ hk n ps len tx) {a b u d : Int32} (ha : isP a = true) (hb : isP b = true) (h : a ≠ b) (hu : ¬ u < 1) (hu2 : u ≤ 99) (hd : d < 1 ∨ ¬ d ≤ 99) : Run g m_X8_table [rf g 0, .int a, .int b, .int u, .int d] M sz 1 6 (Thr (exN 1) M) := by
  refine Run.of rfl (by decide) (Nat.le_of_ble_eq_true rfl) ?_
  show V g m_X8_table 0 _ [] _ _ _ _ _
  refine V_iload_n 1 dX8_table_0 rfl ?_
  refine V_iload_n 2 dX8_table_1 rfl ?_
  refine C_X8_85 rfl ⟨Nat.le_of_ble_eq_true rfl, Nat.le_of_ble_eq_true rfl⟩ (r_checkPair_ok ha hb h) rfl (Nat.le_of_ble_eq_true rfl) dX8_table_2 rfl ?_
  refine V_iload_n 3 dX8_table_5 rfl ?_
  refine V_iconst (v := 1) dX8_table_6 rfl ?_
  refine V_bipush (v := 99) dX8_table_7 (by decide) ?_
  refine C_X8_66 rfl ⟨Nat.le_of_ble_eq_true rfl, Nat.le_of_ble_eq_true rfl⟩ (r_checkRange_ok hu hu2) rfl (Nat.le_of_ble_eq_true rfl) dX8_table_9 rfl ?_
  refine V_pc (pc2 := 12) rfl ?_
  refine V_iload 4 dX8_table_12 rfl ?_
  refine V_iconst (v := 1) dX8_table_14 rfl ?_
  refine V_bipush (v := 99) dX8_table_15 (by decide) ?_
  refine Ct_X8_66 rfl rfl ⟨Nat.le_of_ble_eq_true rfl, Nat.le_of_ble_eq_true rfl⟩ (r_checkRange_bad hd) rfl (Nat.le_of_ble_eq_true rfl) dX8_table_17 rfl ?_
  exact ⟨rfl, rfl⟩
set_option maxRecDepth 20000 in
theorem x_offBy_1 {g : GE} {M : Mem} {sz : Nat} {σ τ : Nat → Int32} {hk : Bool} {n : Nat} {ps : Nat → Nat → Int32} {len : Nat} {tx : Nat → Int32} (hC : CW g M σ τ hk n ps len tx) {a b u d : Int32} (h : isP a = false ∨ isP b = false) : Run g m_X8_offBy [rf g 0, .int a, .int b, .int u, .int d] M sz 1 6 (Thr (exN 0) M) := by
  refine Run.of rfl (by decide) (Nat.le_of_ble_eq_true rfl) ?_
  show V g m_X8_offBy 0 _ [] _ _ _ _ _
  refine V_iload_n 1 dX8_offBy_0 rfl ?_
  refine V_iload_n 2 dX8_offBy_1 rfl ?_
  refine Ct_X8_85 rfl rfl ⟨Nat.le_of_ble_eq_true rfl, Nat.le_of_ble_eq_true rfl⟩ (r_checkPair_bad h) rfl (Nat.le_of_ble_eq_true rfl) dX8_offBy_2 rfl ?_
  exact ⟨rfl, rfl⟩
set_option maxRecDepth 20000 in
theorem x_offBy_2a {g : GE} {M : Mem} {sz : Nat} {σ τ : Nat → Int32} {hk : Bool} {n : Nat} {ps : Nat → Nat → Int32} {len : Nat} {tx : Nat → Int32} (hC : CW g M σ τ hk n ps len tx) {a b u d : Int32} (ha : isP a = true) (hb : isP b = true) (h : a = b) : Run g m_X8_offBy [rf g 0, .int a, .int b, .int u, .int d] M sz 1 6 (Thr (exN 1) M) := by
  refine Run.of rfl (by decide) (Nat.le_of_ble_eq_true rfl) ?_
  show V g m_X8_offBy 0 _ [] _ _ _ _ _
  refine V_iload_n 1 dX8_offBy_0 rfl ?_
  refine V_iload_n 2 dX8_offBy_1 rfl ?_
  refine Ct_X8_85 rfl rfl ⟨Nat.le_of_ble_eq_true rfl, Nat.le_of_ble_eq_true rfl⟩ (r_checkPair_same ha hb h) rfl (Nat.le_of_ble_eq_true rfl) dX8_offBy_2 rfl ?_
  exact ⟨rfl, rfl⟩
set_option maxRecDepth 20000 in
theorem x_offBy_2b {g : GE} {M : Mem} {sz : Nat} {σ τ : Nat → Int32} {hk : Bool} {n : Nat} {ps : Nat → Nat → Int32} {len : Nat} {tx : Nat → Int32} (hC : CW g M σ τ hk n ps len tx) {a b u d : Int32} (ha : isP a = true) (hb : isP b = true) (h : a ≠ b) (hu : u < 1 ∨ ¬ u ≤ 99) : Run g m_X8_offBy [rf g 0, .int a, .int b, .int u, .int d] M sz 1 6 (Thr (exN 1) M) := by
  refine Run.of rfl (by decide) (Nat.le_of_ble_eq_true rfl) ?_
  show V g m_X8_offBy 0 _ [] _ _ _ _ _
  refine V_iload_n 1 dX8_offBy_0 rfl ?_
  refine V_iload_n 2 dX8_offBy_1 rfl ?_
  refine C_X8_85 rfl ⟨Nat.le_of_ble_eq_true rfl, Nat.le_of_ble_eq_true rfl⟩ (r_checkPair_ok ha hb h) rfl (Nat.le_of_ble_eq_true rfl) dX8_offBy_2 rfl ?_
  refine V_iload_n 3 dX8_offBy_5 rfl ?_
  refine V_iconst (v := 1) dX8_offBy_6 rfl ?_
  refine V_bipush (v := 99) dX8_offBy_7 (by decide) ?_
  refine Ct_X8_66 rfl rfl ⟨Nat.le_of_ble_eq_true rfl, Nat.le_of_ble_eq_true rfl⟩ (r_checkRange_bad hu) rfl (Nat.le_of_ble_eq_true rfl) dX8_offBy_9 rfl ?_
  exact ⟨rfl, rfl⟩
set_option maxRecDepth 20000 in
theorem x_offBy_2c {g : GE} {M : Mem} {sz : Nat} {σ τ : Nat → Int32} {hk : Bool} {n : Nat} {ps : Nat → Nat → Int32} {len : Nat} {tx : Nat → Int32} (hC : CW g M σ τ hk n ps len tx) {a b u d : Int32} (ha : isP a = true) (hb : isP b = true) (h : a ≠ b) (hu : ¬ u < 1) (hu2 : u ≤ 99) (hd : d < 1 ∨ ¬ d ≤ 99) : Run g m_X8_offBy [rf g 0, .int a, .int b, .int u, .int d] M sz 1 6 (Thr (exN 1) M) := by
  refine Run.of rfl (by decide) (Nat.le_of_ble_eq_true rfl) ?_
  show V g m_X8_offBy 0 _ [] _ _ _ _ _
  refine V_iload_n 1 dX8_offBy_0 rfl ?_
  refine V_iload_n 2 dX8_offBy_1 rfl ?_
  refine C_X8_85 rfl ⟨Nat.le_of_ble_eq_true rfl, Nat.le_of_ble_eq_true rfl⟩ (r_checkPair_ok ha hb h) rfl (Nat.le_of_ble_eq_true rfl) dX8_offBy_2 rfl ?_
  refine V_iload_n 3 dX8_offBy_5 rfl ?_
  refine V_iconst (v := 1) dX8_offBy_6 rfl ?_
  refine V_bipush (v := 99) dX8_offBy_7 (by decide) ?_
  refine C_X8_66 rfl ⟨Nat.le_of_ble_eq_true rfl, Nat.le_of_ble_eq_true rfl⟩ (r_checkRange_ok hu hu2) rfl (Nat.le_of_ble_eq_true rfl) dX8_offBy_9 rfl ?_
  refine V_pc (pc2 := 12) rfl ?_
  refine V_iload 4 dX8_offBy_12 rfl ?_
  refine V_iconst (v := 1) dX8_offBy_14 rfl ?_
  refine V_bipush (v := 99) dX8_offBy_15 (by decide) ?_
  refine Ct_X8_66 rfl rfl ⟨Nat.le_of_ble_eq_true rfl, Nat.le_of_ble_eq_true rfl⟩ (r_checkRange_bad hd) rfl (Nat.le_of_ble_eq_true rfl) dX8_offBy_17 rfl ?_
  exact ⟨rfl, rfl⟩
set_option maxRecDepth 20000 in
theorem x_table_3 {g : GE} {M : Mem} {sz : Nat} {σ τ : Nat → Int32} {hk : Bool} {n : Nat} {ps : Nat → Nat → Int32} {len : Nat} {tx : Nat → Int32} (hC : CW g M σ τ hk n ps len tx) {a b u d : Int32} (hI : I10 σ) (i j : Nat) (hi : i < 5) (hj : j < 5) (ha : a = nI i) (hb : b = nI j) (hij : i ≠ j) (hu : ¬ u < 1) (hu2 : u ≤ 99) (hd : ¬ d < 1) (hd2 : d ≤ 99) (ho : (fnd (wouS (putS σ i j u d) i j) 0 37) ≠ none) : Run g m_X8_table [rf g 0, .int a, .int b, .int u, .int d] M sz 1 6 (fun o M2 => o = .inr (exN 2) ∧ CW g M2 σ τ hk n ps len tx ∧ FR M M2 0 96) := by
  subst ha hb
  obtain ⟨p0, y1, y2⟩ := hC.2.1.1
  have hud := UD_of hu hu2 hd hd2
  refine Run.of rfl (by decide) (Nat.le_of_ble_eq_true rfl) ?_
  show V g m_X8_table 0 _ [] _ _ _ _ _
  refine V_iload_n 1 dX8_table_0 rfl ?_
  refine V_iload_n 2 dX8_table_1 rfl ?_
  refine C_X8_85 rfl ⟨Nat.le_of_ble_eq_true rfl, Nat.le_of_ble_eq_true rfl⟩ (r_checkPair_ok (isP_nI hi) (isP_nI hj) (fun e => hij ((nI_eq (by omega) (by omega)).mp e))) rfl (Nat.le_of_ble_eq_true rfl) dX8_table_2 rfl ?_
  refine V_iload_n 3 dX8_table_5 rfl ?_
  refine V_iconst (v := 1) dX8_table_6 rfl ?_
  refine V_bipush (v := 99) dX8_table_7 (by decide) ?_
  refine C_X8_66 rfl ⟨Nat.le_of_ble_eq_true rfl, Nat.le_of_ble_eq_true rfl⟩ (r_checkRange_ok hu hu2) rfl (Nat.le_of_ble_eq_true rfl) dX8_table_9 rfl ?_
  refine V_pc (pc2 := 12) rfl ?_
  refine V_iload 4 dX8_table_12 rfl ?_
  refine V_iconst (v := 1) dX8_table_14 rfl ?_
  refine V_bipush (v := 99) dX8_table_15 (by decide) ?_
  refine C_X8_66 rfl ⟨Nat.le_of_ble_eq_true rfl, Nat.le_of_ble_eq_true rfl⟩ (r_checkRange_ok hd hd2) rfl (Nat.le_of_ble_eq_true rfl) dX8_table_17 rfl ?_
  refine V_aload_n 0 dX8_table_20 rfl ?_
  refine G_X8_36 rfl hC.1 rfl dX8_table_21 ?_
  refine V_aload_n 0 dX8_table_24 rfl ?_
  refine G_X8_10 rfl hC.1 rfl dX8_table_25 ?_
  refine V_pc (pc2 := 28) rfl ?_
  refine G_X8_89 rfl y1 rfl dX8_table_28 ?_
  refine V_iload_n 1 dX8_table_31 rfl ?_
  refine V_iload_n 2 dX8_table_32 rfl ?_
  refine V_iload_n 3 dX8_table_33 rfl ?_
  refine V_iload 4 dX8_table_34 rfl ?_
  refine V_aload_n 0 dX8_table_36 rfl ?_
  refine C_X8_93 hC.1 rfl ⟨Nat.le_of_ble_eq_true rfl, Nat.le_of_ble_eq_true rfl⟩ (r_bound hC) rfl (Nat.le_of_ble_eq_true rfl) dX8_table_37 rfl ?_
  refine Cp_X8_97 hC.2.2.2.2.2.1.1 rfl ⟨Nat.le_of_ble_eq_true rfl, Nat.le_of_ble_eq_true rfl⟩ (hC.first hI i j rfl rfl hi hj hij hud rfl) rfl (Nat.le_of_ble_eq_true rfl) dX8_table_40 rfl (fun _ q7 => ?_)
  have hC1 := q7.1
  have hF1 := q7.2
  clear q7
  refine V_pc (pc2 := 43) rfl ?_
  refine V_if_lt (tgt := 56) dX8_table_43 (by decide) (fun c43 => absurd c43 (fun e => ho ((optI_neg _ fnd37).mp e))) (fun c43 => ?_)
  refine V_throwS 2 0 (by decide) (by decide) rfl rfl rfl rfl rfl (Nat.le_of_ble_eq_true rfl) (Nat.le_of_ble_eq_true rfl) dX8_table_46 dX8_table_49 dX8_table_50 dX8_table_52 dX8_table_55 ?_
  exact ⟨rfl, hC1, hF1.wide (by omega)⟩
set_option maxRecDepth 20000 in
theorem x_table_ok {g : GE} {M : Mem} {sz : Nat} {σ τ : Nat → Int32} {hk : Bool} {n : Nat} {ps : Nat → Nat → Int32} {len : Nat} {tx : Nat → Int32} (hC : CW g M σ τ hk n ps len tx) (hn : n ≤ 6) {a b u d : Int32} (hI : I10 σ) (i j : Nat) (hi : i < 5) (hj : j < 5) (ha : a = nI i) (hb : b = nI j) (hij : i ≠ j) (hu : ¬ u < 1) (hu2 : u ≤ 99) (hd : ¬ d < 1) (hd2 : d ≤ 99) (ho : (fnd (wouS (putS σ i j u d) i j) 0 37) = none) : Run g m_X8_table [rf g 0, .int a, .int b, .int u, .int d] M sz 0 0 (RetP (some (.int (nI (cnt (thr (putS σ i j u d)) 37)))) (fun M2 => CW g M2 (putS σ i j u d) (τ) (hk) (pshN n) (pshP n ps σ) (len) (tx) ∧ FR M M2 0 96)) := by
  subst ha hb
  obtain ⟨p0, y1, y2⟩ := hC.2.1.1
  have hud := UD_of hu hu2 hd hd2
  refine Run.of rfl (by decide) (Nat.le_of_ble_eq_true rfl) ?_
  show V g m_X8_table 0 _ [] _ _ _ _ _
  refine V_iload_n 1 dX8_table_0 rfl ?_
  refine V_iload_n 2 dX8_table_1 rfl ?_
  refine C_X8_85 rfl ⟨Nat.le_of_ble_eq_true rfl, Nat.le_of_ble_eq_true rfl⟩ (r_checkPair_ok (isP_nI hi) (isP_nI hj) (fun e => hij ((nI_eq (by omega) (by omega)).mp e))) rfl (Nat.le_of_ble_eq_true rfl) dX8_table_2 rfl ?_
  refine V_iload_n 3 dX8_table_5 rfl ?_
  refine V_iconst (v := 1) dX8_table_6 rfl ?_
  refine V_bipush (v := 99) dX8_table_7 (by decide) ?_
  refine C_X8_66 rfl ⟨Nat.le_of_ble_eq_true rfl, Nat.le_of_ble_eq_true rfl⟩ (r_checkRange_ok hu hu2) rfl (Nat.le_of_ble_eq_true rfl) dX8_table_9 rfl ?_
  refine V_pc (pc2 := 12) rfl ?_
  refine V_iload 4 dX8_table_12 rfl ?_
  refine V_iconst (v := 1) dX8_table_14 rfl ?_
  refine V_bipush (v := 99) dX8_table_15 (by decide) ?_
  refine C_X8_66 rfl ⟨Nat.le_of_ble_eq_true rfl, Nat.le_of_ble_eq_true rfl⟩ (r_checkRange_ok hd hd2) rfl (Nat.le_of_ble_eq_true rfl) dX8_table_17 rfl ?_
  refine V_aload_n 0 dX8_table_20 rfl ?_
  refine G_X8_36 rfl hC.1 rfl dX8_table_21 ?_
  refine V_aload_n 0 dX8_table_24 rfl ?_
  refine G_X8_10 rfl hC.1 rfl dX8_table_25 ?_
  refine V_pc (pc2 := 28) rfl ?_
  refine G_X8_89 rfl y1 rfl dX8_table_28 ?_
  refine V_iload_n 1 dX8_table_31 rfl ?_
  refine V_iload_n 2 dX8_table_32 rfl ?_
  refine V_iload_n 3 dX8_table_33 rfl ?_
  refine V_iload 4 dX8_table_34 rfl ?_
  refine V_aload_n 0 dX8_table_36 rfl ?_
  refine C_X8_93 hC.1 rfl ⟨Nat.le_of_ble_eq_true rfl, Nat.le_of_ble_eq_true rfl⟩ (r_bound hC) rfl (Nat.le_of_ble_eq_true rfl) dX8_table_37 rfl ?_
  refine Cp_X8_97 hC.2.2.2.2.2.1.1 rfl ⟨Nat.le_of_ble_eq_true rfl, Nat.le_of_ble_eq_true rfl⟩ (hC.first hI i j rfl rfl hi hj hij hud rfl) rfl (Nat.le_of_ble_eq_true rfl) dX8_table_40 rfl (fun _ q7 => ?_)
  have hC1 := q7.1
  have hF1 := q7.2
  clear q7
  refine V_pc (pc2 := 43) rfl ?_
  refine V_if_lt (tgt := 56) dX8_table_43 (by decide) (fun c43 => ?_) (fun c43 => absurd ((optI_neg _ fnd37).mpr ho) c43)
  refine V_aload_n 0 dX8_table_56 rfl ?_
  refine G_X8_22 rfl hC1.1 rfl dX8_table_57 ?_
  refine V_aload_n 0 dX8_table_60 rfl ?_
  refine G_X8_10 rfl hC1.1 rfl dX8_table_61 ?_
  refine Cp_X8_70 hC1.2.2.2.1.choose_spec.1 rfl ⟨Nat.le_of_ble_eq_true rfl, Nat.le_of_ble_eq_true rfl⟩ (r_push hC1.2.2.2.1 hn hC1.2.1 (by omega)) rfl (Nat.le_of_ble_eq_true rfl) dX8_table_64 rfl (fun _ q9 => ?_)
  have hC2 := hC1.psh q9.1 q9.2
  have hF2 := q9.2
  clear q9
  obtain ⟨p9, y3, y4⟩ := hC2.2.1.1
  refine V_aload_n 0 dX8_table_67 rfl ?_
  refine G_X8_10 rfl hC2.1 rfl dX8_table_68 ?_
  refine V_pc (pc2 := 71) rfl ?_
  refine G_X8_89 rfl y3 rfl dX8_table_71 ?_
  refine V_iload_n 1 dX8_table_74 rfl ?_
  refine V_iload_n 2 dX8_table_75 rfl ?_
  refine V_iload_n 3 dX8_table_76 rfl ?_
  refine V_iload 4 dX8_table_77 rfl ?_
  refine Cp_X8_108 (show _ = some (eO 4 [rf g (1 + 3 + 1), .int _]) from hC2.2.1.2.2.2.1.choose_spec.choose_spec.1.1) rfl ⟨Nat.le_of_ble_eq_true rfl, Nat.le_of_ble_eq_true rfl⟩ (hC2.2.1.2.2.2.1.lay i j rfl rfl hi hj hij hud) rfl (Nat.le_of_ble_eq_true rfl) dX8_table_79 rfl (fun _ q8 => ?_)
  have hC3 := hC2.now (hC2.2.1.tab q8.1 q8.2 (fun k hk => putS_big hi hj hij hk)) (q8.2.wide (by omega))
  have hF3 := q8.2
  clear q8
  obtain ⟨z9, z3, z4⟩ := hC3.2.1.1
  refine V_aload_n 0 dX8_table_82 rfl ?_
  refine G_X8_36 rfl hC3.1 rfl dX8_table_83 ?_
  refine V_pc (pc2 := 86) rfl ?_
  refine V_aload_n 0 dX8_table_86 rfl ?_
  refine G_X8_10 rfl hC3.1 rfl dX8_table_87 ?_
  refine G_X8_89 rfl z3 rfl dX8_table_90 ?_
  refine C_X8_114 hC3.2.2.2.2.2.1.1 rfl ⟨Nat.le_of_ble_eq_true rfl, Nat.le_of_ble_eq_true rfl⟩ (hC3.2.1.2.2.2.1.standing hC3.2.2.2.2.2.1) rfl (Nat.le_of_ble_eq_true rfl) dX8_table_93 rfl ?_
  refine V_iret (st := []) dX8_table_96 rfl ?_
  exact ⟨rfl, hC3, FR.trans (b := 0) (n := 96) (FR.trans (b := 0) (n := 96) (FR.wide hF1 (b2 := 0) (n2 := 96) (by omega)) hF2 (by omega)) hF3 (by omega)⟩
theorem optI_nat {o : Option Nat} (h : (0 : Int32) ≤ optI o) (h2 : ∀ r, o = some r → r < 37) : ∃ r, r < 37 ∧ optI o = nI r ∧ codI o = ringsF r := by
  cases o with
  | none => exact absurd h (by decide)
  | some r => exact ⟨r, h2 r rfl, rfl, (ringsF_eq r (h2 r rfl)).symm⟩
set_option maxRecDepth 20000 in
theorem x_offBy_ok {g : GE} {M : Mem} {sz : Nat} {σ τ : Nat → Int32} {hk : Bool} {n : Nat} {ps : Nat → Nat → Int32} {len : Nat} {tx : Nat → Int32} (hC : CW g M σ τ hk n ps len tx) {a b u d : Int32} (hI : I10 σ) (i j : Nat) (hi : i < 5) (hj : j < 5) (ha : a = nI i) (hb : b = nI j) (hij : i ≠ j) (hu : ¬ u < 1) (hu2 : u ≤ 99) (hd : ¬ d < 1) (hd2 : d ≤ 99) : Run g m_X8_offBy [rf g 0, .int a, .int b, .int u, .int d] M sz 0 0 (RetP (some (.int (codI (fnd (wouS (putS σ i j u d) i j) 0 37)))) (fun M2 => CW g M2 (σ) (τ) (hk) (n) (ps) (len) (tx) ∧ FR M M2 0 96)) := by
  subst ha hb
  obtain ⟨p0, y1, y2⟩ := hC.2.1.1
  have hud := UD_of hu hu2 hd hd2
  refine Run.of rfl (by decide) (Nat.le_of_ble_eq_true rfl) ?_
  show V g m_X8_offBy 0 _ [] _ _ _ _ _
  refine V_iload_n 1 dX8_offBy_0 rfl ?_
  refine V_iload_n 2 dX8_offBy_1 rfl ?_
  refine C_X8_85 rfl ⟨Nat.le_of_ble_eq_true rfl, Nat.le_of_ble_eq_true rfl⟩ (r_checkPair_ok (isP_nI hi) (isP_nI hj) (fun e => hij ((nI_eq (by omega) (by omega)).mp e))) rfl (Nat.le_of_ble_eq_true rfl) dX8_offBy_2 rfl ?_
  refine V_iload_n 3 dX8_offBy_5 rfl ?_
  refine V_iconst (v := 1) dX8_offBy_6 rfl ?_
  refine V_bipush (v := 99) dX8_offBy_7 (by decide) ?_
  refine C_X8_66 rfl ⟨Nat.le_of_ble_eq_true rfl, Nat.le_of_ble_eq_true rfl⟩ (r_checkRange_ok hu hu2) rfl (Nat.le_of_ble_eq_true rfl) dX8_offBy_9 rfl ?_
  refine V_pc (pc2 := 12) rfl ?_
  refine V_iload 4 dX8_offBy_12 rfl ?_
  refine V_iconst (v := 1) dX8_offBy_14 rfl ?_
  refine V_bipush (v := 99) dX8_offBy_15 (by decide) ?_
  refine C_X8_66 rfl ⟨Nat.le_of_ble_eq_true rfl, Nat.le_of_ble_eq_true rfl⟩ (r_checkRange_ok hd hd2) rfl (Nat.le_of_ble_eq_true rfl) dX8_offBy_17 rfl ?_
  refine V_aload_n 0 dX8_offBy_20 rfl ?_
  refine G_X8_36 rfl hC.1 rfl dX8_offBy_21 ?_
  refine V_aload_n 0 dX8_offBy_24 rfl ?_
  refine G_X8_10 rfl hC.1 rfl dX8_offBy_25 ?_
  refine V_pc (pc2 := 28) rfl ?_
  refine G_X8_89 rfl y1 rfl dX8_offBy_28 ?_
  refine V_iload_n 1 dX8_offBy_31 rfl ?_
  refine V_iload_n 2 dX8_offBy_32 rfl ?_
  refine V_iload_n 3 dX8_offBy_33 rfl ?_
  refine V_iload 4 dX8_offBy_34 rfl ?_
  refine V_aload_n 0 dX8_offBy_36 rfl ?_
  refine C_X8_93 hC.1 rfl ⟨Nat.le_of_ble_eq_true rfl, Nat.le_of_ble_eq_true rfl⟩ (r_bound hC) rfl (Nat.le_of_ble_eq_true rfl) dX8_offBy_37 rfl ?_
  refine Cp_X8_97 hC.2.2.2.2.2.1.1 rfl ⟨Nat.le_of_ble_eq_true rfl, Nat.le_of_ble_eq_true rfl⟩ (hC.first hI i j rfl rfl hi hj hij hud rfl) rfl (Nat.le_of_ble_eq_true rfl) dX8_offBy_40 rfl (fun _ q7 => ?_)
  have hC1 := q7.1
  have hF1 := q7.2
  clear q7
  refine V_pc (pc2 := 43) rfl ?_
  refine V_istore (lv2 := [(5, .int _), (0, .ref _), (1, .int _), (2, .int _), (3, .int _), (4, .int _)]) dX8_offBy_43 (Nat.le_of_ble_eq_true rfl) rfl ?_
  refine V_iload 0 dX8_offBy_45 rfl ?_
  refine V_if_ge (tgt := 54) dX8_offBy_47 (by decide) (fun c47 => ?_) (fun c47 => ?_)
  · obtain ⟨r, e1, e2, e3⟩ := optI_nat c47 fnd37
    refine V_getR st_X8_248 dX8_offBy_54 ?_
    refine V_iload 0 dX8_offBy_57 rfl ?_
    refine C_X8_77 rfl ⟨Nat.le_of_ble_eq_true rfl, Nat.le_of_ble_eq_true rfl⟩ (r_atR r e2 e1) rfl (Nat.le_of_ble_eq_true rfl) dX8_offBy_59 rfl ?_
    refine V_iret (st := []) dX8_offBy_62 rfl ?_
    rw [e3]
    exact ⟨rfl, hC1, hF1.wide (by omega)⟩
  · refine V_iconst (v := 0) dX8_offBy_50 rfl ?_
    refine V_goto (tgt := 62) dX8_offBy_51 (by decide) ?_
    refine V_iret (st := []) dX8_offBy_62 rfl ?_
    rw [(optI_neg _ fnd37).mp (Int32.not_le.mp c47)]
    exact ⟨rfl, hC1, hF1.wide (by omega)⟩
