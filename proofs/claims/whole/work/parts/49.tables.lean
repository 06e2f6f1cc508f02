/-! table, offBy, tableOf, turned -/
theorem CW.first {g : GE} {M : Mem} {sz : Nat} {σ τ : Nat → Int32} {hk : Bool} {n : Nat} {ps : Nat → Nat → Int32} {len : Nat} {tx : Nat → Int32} (hC : CW g M σ τ hk n ps len tx) (hI : I10 σ) {x y : Int32} (a b : Nat) (hx : x = nI a) (hy : y = nI b) (ha : a < 5) (hb : b < 5) (hab : a ≠ b) {u d w : Int32} (hud : UD u d) (hw : w = σ 25) : Run g m_X3_firstOffBy [rf g 85, rf g (1 + 3), .int x, .int y, .int u, .int d, .int w] M sz 0 0 (RetP (some (.int (optI (fnd (wouS (putS σ a b u d) a b) 0 37)))) (fun M1 => CW g M1 σ τ hk n ps len tx ∧ FR M M1 85 11)) := by
  obtain ⟨f, p, h1, h2⟩ := hC.2.1.2.2.2.1
  obtain ⟨r1, ⟨f0, p0, r2⟩, r3⟩ := hC.2.2.2.2.2
  refine (r_firstOffBy r1 h1 h2 r2 (by decide) a b hx hy ha hb hab hud hI hw).mono fun o M1 q => ⟨q.1, ?_⟩
  rw [q.2]
  have hF : FR M (triM g M (layF f a b u d) (layP p u a b)) 85 11 := fun k hk => triM_ne (by omega) (by omega)
  refine ⟨hC.scr ?_ hF, hF⟩
  obtain ⟨s1, s2, s3⟩ := r1
  obtain ⟨⟨w, z, w1, w2⟩, ⟨m1, a1, b1, m2, m3⟩, ⟨u1, u2⟩⟩ := r3
  exact ⟨⟨(triM_ne (by decide) (by decide)).trans s1, (triM_ne (by decide) (by decide)).trans s2, (triM_ne (by decide) (by decide)).trans s3⟩, ⟨_, _, mup_eq _ _ _, (mup_ne _ _ (by decide)).trans (mup_eq _ _ _)⟩, ⟨w, z, (triM_ne (by decide) (by decide)).trans w1, (triM_ne (by decide) (by decide)).trans w2⟩, ⟨(triM_ne (by decide) (by decide)).trans m1, a1, b1, (triM_ne (by decide) (by decide)).trans m2, (triM_ne (by decide) (by decide)).trans m3⟩, ⟨u1, (triM_ne (by decide) (by decide)).trans u2⟩⟩
theorem optI_neg (o : Option Nat) (h : ∀ r, o = some r → r < 37) : (optI o < 0 ↔ o = none) := by
  cases o with
  | none => exact ⟨fun _ => rfl, fun _ => by decide⟩
  | some r => exact ⟨fun hh => absurd hh (nI_pos (by have := h r rfl; omega)), fun hh => nomatch hh⟩
theorem codI_pos (o : Option Nat) (h : ∀ r, o = some r → r < 37) : (codI o ≤ 0 ↔ o = none) := by
  cases o with
  | none => exact ⟨fun _ => rfl, fun _ => by decide⟩
  | some r =>
    refine ⟨fun hh => ?_, fun hh => nomatch hh⟩
    have h2 := rC_lt r (h r rfl)
    have h3 : 0 < rC r := by
      have h9 : ((List.range 37).all fun r => decide (0 < rC r)) = true := by decide +kernel
      exact of_decide_eq_true (all_lt h9 r (h r rfl))
    exact absurd hh (Int32.not_le.mpr (nI_gt0 h3 (by omega)))
theorem ringsF_eq : ∀ r, r < 37 → ringsF r = nI (rC r) := by
  have h9 : ((List.range 37).all fun r => decide (ringsF r = nI (rC r))) = true := by decide +kernel
  intro r hr
  exact of_decide_eq_true (all_lt h9 r hr)
theorem fnd37 {P : Nat → Bool} : ∀ r, fnd P 0 37 = some r → r < 37 := fun r h => by have := (fnd_some h).2.2; omega
theorem UD_of {u d : Int32} (hu : ¬ u < 1) (hu2 : u ≤ 99) (hd : ¬ d < 1) (hd2 : d ≤ 99) : UD u d := by
  obtain ⟨i, a1, a2, a3⟩ := nI_rng (l := 1) (h := 99) hu hu2 (by decide) (by decide)
  obtain ⟨j, b1, b2, b3⟩ := nI_rng (l := 1) (h := 99) hd hd2 (by decide) (by decide)
  exact Or.inr ⟨i, j, a1, a2, b1, b2, a3, b3⟩
set_option maxRecDepth 20000 in
theorem r9_badT_1 {g : GE} {M : Mem} {sz : Nat} {a b u d : Int32} (h : isP a = false ∨ isP b = false) : Run g m_X9_badTable [.int a, .int b, .int u, .int d] M sz 0 0 (Ret (some (.int 1)) M) := by
  refine Run.of rfl (by decide) (Nat.le_of_ble_eq_true rfl) ?_
  show V g m_X9_badTable 0 _ [] _ _ _ _ _
  refine V_iload_n 0 dX9_badTable_0 rfl ?_
  refine C_X9_55 rfl ⟨Nat.le_of_ble_eq_true rfl, Nat.le_of_ble_eq_true rfl⟩ (r9_isParish _) rfl (Nat.le_of_ble_eq_true rfl) dX9_badTable_1 rfl ?_
  refine V_if_eq (tgt := 14) dX9_badTable_4 (by decide) (fun c4 => ?_) (fun c4 => ?_)
  · refine V_iconst (v := 1) dX9_badTable_14 rfl ?_
    refine V_goto (tgt := 42) dX9_badTable_15 (by decide) ?_
    refine V_iret (st := []) dX9_badTable_42 rfl ?_
    exact ⟨rfl, rfl⟩
  · refine V_iload_n 1 dX9_badTable_7 rfl ?_
    refine C_X9_55 rfl ⟨Nat.le_of_ble_eq_true rfl, Nat.le_of_ble_eq_true rfl⟩ (r9_isParish _) rfl (Nat.le_of_ble_eq_true rfl) dX9_badTable_8 rfl ?_
    refine V_if_ne (tgt := 18) dX9_badTable_11 (by decide) (fun c11 => ?_) (fun c11 => ?_)
    · exact (h.elim (fun h => c4 (by rw [h]; rfl)) (fun h => c11 (by rw [h]; rfl))).elim
    · refine V_iconst (v := 1) dX9_badTable_14 rfl ?_
      refine V_goto (tgt := 42) dX9_badTable_15 (by decide) ?_
      refine V_iret (st := []) dX9_badTable_42 rfl ?_
      exact ⟨rfl, rfl⟩

set_option maxRecDepth 20000 in
theorem r9_badT_2 {g : GE} {M : Mem} {sz : Nat} {a b u d : Int32} (ha : isP a = true) (hb : isP b = true) (h : a = b ∨ inI u 1 99 = false ∨ inI d 1 99 = false) : Run g m_X9_badTable [.int a, .int b, .int u, .int d] M sz 0 0 (Ret (some (.int 2)) M) := by
  refine Run.of rfl (by decide) (Nat.le_of_ble_eq_true rfl) ?_
  show V g m_X9_badTable 0 _ [] _ _ _ _ _
  refine V_iload_n 0 dX9_badTable_0 rfl ?_
  refine C_X9_55 rfl ⟨Nat.le_of_ble_eq_true rfl, Nat.le_of_ble_eq_true rfl⟩ (r9_isParish _) rfl (Nat.le_of_ble_eq_true rfl) dX9_badTable_1 rfl ?_
  refine V_if_eq (tgt := 14) dX9_badTable_4 (by decide) (fun c4 => absurd c4 (by rw [ha]; decide)) (fun c4 => ?_)
  refine V_iload_n 1 dX9_badTable_7 rfl ?_
  refine C_X9_55 rfl ⟨Nat.le_of_ble_eq_true rfl, Nat.le_of_ble_eq_true rfl⟩ (r9_isParish _) rfl (Nat.le_of_ble_eq_true rfl) dX9_badTable_8 rfl ?_
  refine V_if_ne (tgt := 18) dX9_badTable_11 (by decide) (fun c11 => ?_) (fun c11 => absurd c11 (by rw [hb]; decide))
  refine V_iload_n 0 dX9_badTable_18 rfl ?_
  refine V_pc (pc2 := 19) rfl ?_
  refine V_iload_n 1 dX9_badTable_19 rfl ?_
  refine V_icmp_eq (tgt := 37) dX9_badTable_20 (by decide) (fun c20 => ?_) (fun c20 => ?_)
  · refine V_iconst (v := 2) dX9_badTable_37 rfl ?_
    refine V_goto (tgt := 42) dX9_badTable_38 (by decide) ?_
    refine V_iret (st := []) dX9_badTable_42 rfl ?_
    exact ⟨rfl, rfl⟩
  · refine V_iload_n 2 dX9_badTable_23 rfl ?_
    refine C_X9_117 rfl ⟨Nat.le_of_ble_eq_true rfl, Nat.le_of_ble_eq_true rfl⟩ (r9_isPart _) rfl (Nat.le_of_ble_eq_true rfl) dX9_badTable_24 rfl ?_
    refine V_if_eq (tgt := 37) dX9_badTable_27 (by decide) (fun c27 => ?_) (fun c27 => ?_)
    · refine V_iconst (v := 2) dX9_badTable_37 rfl ?_
      refine V_goto (tgt := 42) dX9_badTable_38 (by decide) ?_
      refine V_iret (st := []) dX9_badTable_42 rfl ?_
      exact ⟨rfl, rfl⟩
    · refine V_iload_n 3 dX9_badTable_30 rfl ?_
      refine C_X9_117 rfl ⟨Nat.le_of_ble_eq_true rfl, Nat.le_of_ble_eq_true rfl⟩ (r9_isPart _) rfl (Nat.le_of_ble_eq_true rfl) dX9_badTable_31 rfl ?_
      refine V_if_ne (tgt := 41) dX9_badTable_34 (by decide) (fun c34 => ?_) (fun c34 => ?_)
      · exact (h.elim c20 (fun h => h.elim (fun h => c27 (by rw [h]; rfl)) (fun h => c34 (by rw [h]; rfl)))).elim
      · refine V_iconst (v := 2) dX9_badTable_37 rfl ?_
        refine V_goto (tgt := 42) dX9_badTable_38 (by decide) ?_
        refine V_iret (st := []) dX9_badTable_42 rfl ?_
        exact ⟨rfl, rfl⟩

set_option maxRecDepth 20000 in
theorem r9_badT_0 {g : GE} {M : Mem} {sz : Nat} {a b u d : Int32} (ha : isP a = true) (hb : isP b = true) (h : a ≠ b) (hu : inI u 1 99 = true) (hd : inI d 1 99 = true) : Run g m_X9_badTable [.int a, .int b, .int u, .int d] M sz 0 0 (Ret (some (.int 0)) M) := by
  refine Run.of rfl (by decide) (Nat.le_of_ble_eq_true rfl) ?_
  show V g m_X9_badTable 0 _ [] _ _ _ _ _
  refine V_iload_n 0 dX9_badTable_0 rfl ?_
  refine C_X9_55 rfl ⟨Nat.le_of_ble_eq_true rfl, Nat.le_of_ble_eq_true rfl⟩ (r9_isParish _) rfl (Nat.le_of_ble_eq_true rfl) dX9_badTable_1 rfl ?_
  refine V_if_eq (tgt := 14) dX9_badTable_4 (by decide) (fun c4 => absurd c4 (by rw [ha]; decide)) (fun c4 => ?_)
  refine V_iload_n 1 dX9_badTable_7 rfl ?_
  refine C_X9_55 rfl ⟨Nat.le_of_ble_eq_true rfl, Nat.le_of_ble_eq_true rfl⟩ (r9_isParish _) rfl (Nat.le_of_ble_eq_true rfl) dX9_badTable_8 rfl ?_
  refine V_if_ne (tgt := 18) dX9_badTable_11 (by decide) (fun c11 => ?_) (fun c11 => absurd c11 (by rw [hb]; decide))
  refine V_iload_n 0 dX9_badTable_18 rfl ?_
  refine V_pc (pc2 := 19) rfl ?_
  refine V_iload_n 1 dX9_badTable_19 rfl ?_
  refine V_icmp_eq (tgt := 37) dX9_badTable_20 (by decide) (fun c20 => absurd c20 h) (fun c20 => ?_)
  refine V_iload_n 2 dX9_badTable_23 rfl ?_
  refine C_X9_117 rfl ⟨Nat.le_of_ble_eq_true rfl, Nat.le_of_ble_eq_true rfl⟩ (r9_isPart _) rfl (Nat.le_of_ble_eq_true rfl) dX9_badTable_24 rfl ?_
  refine V_if_eq (tgt := 37) dX9_badTable_27 (by decide) (fun c27 => absurd c27 (by rw [hu]; decide)) (fun c27 => ?_)
  refine V_iload_n 3 dX9_badTable_30 rfl ?_
  refine C_X9_117 rfl ⟨Nat.le_of_ble_eq_true rfl, Nat.le_of_ble_eq_true rfl⟩ (r9_isPart _) rfl (Nat.le_of_ble_eq_true rfl) dX9_badTable_31 rfl ?_
  refine V_if_ne (tgt := 41) dX9_badTable_34 (by decide) (fun c34 => ?_) (fun c34 => absurd c34 (by rw [hd]; decide))
  refine V_pc (pc2 := 41) rfl ?_
  refine V_iconst (v := 0) dX9_badTable_41 rfl ?_
  refine V_iret (st := []) dX9_badTable_42 rfl ?_
  exact ⟨rfl, rfl⟩

set_option maxRecDepth 20000 in
theorem r9_badP_1 {g : GE} {M : Mem} {sz : Nat} {a b w : Int32} (h : isP a = false ∨ isP b = false) : Run g m_X9_badPair [.int a, .int b, .int w] M sz 0 0 (Ret (some (.int 1)) M) := by
  refine Run.of rfl (by decide) (Nat.le_of_ble_eq_true rfl) ?_
  show V g m_X9_badPair 0 _ [] _ _ _ _ _
  refine V_iload_n 0 dX9_badPair_0 rfl ?_
  refine C_X9_55 rfl ⟨Nat.le_of_ble_eq_true rfl, Nat.le_of_ble_eq_true rfl⟩ (r9_isParish _) rfl (Nat.le_of_ble_eq_true rfl) dX9_badPair_1 rfl ?_
  refine V_if_eq (tgt := 14) dX9_badPair_4 (by decide) (fun c4 => ?_) (fun c4 => ?_)
  · refine V_iconst (v := 1) dX9_badPair_14 rfl ?_
    refine V_goto (tgt := 32) dX9_badPair_15 (by decide) ?_
    refine V_iret (st := []) dX9_badPair_32 rfl ?_
    exact ⟨rfl, rfl⟩
  · refine V_iload_n 1 dX9_badPair_7 rfl ?_
    refine C_X9_55 rfl ⟨Nat.le_of_ble_eq_true rfl, Nat.le_of_ble_eq_true rfl⟩ (r9_isParish _) rfl (Nat.le_of_ble_eq_true rfl) dX9_badPair_8 rfl ?_
    refine V_if_ne (tgt := 18) dX9_badPair_11 (by decide) (fun c11 => ?_) (fun c11 => ?_)
    · exact (h.elim (fun h => c4 (by rw [h]; rfl)) (fun h => c11 (by rw [h]; rfl))).elim
    · refine V_iconst (v := 1) dX9_badPair_14 rfl ?_
      refine V_goto (tgt := 32) dX9_badPair_15 (by decide) ?_
      refine V_iret (st := []) dX9_badPair_32 rfl ?_
      exact ⟨rfl, rfl⟩

set_option maxRecDepth 20000 in
theorem r9_badP_2 {g : GE} {M : Mem} {sz : Nat} {a b w : Int32} (ha : isP a = true) (hb : isP b = true) (h : a = b ∨ w = 0) : Run g m_X9_badPair [.int a, .int b, .int w] M sz 0 0 (Ret (some (.int 2)) M) := by
  refine Run.of rfl (by decide) (Nat.le_of_ble_eq_true rfl) ?_
  show V g m_X9_badPair 0 _ [] _ _ _ _ _
  refine V_iload_n 0 dX9_badPair_0 rfl ?_
  refine C_X9_55 rfl ⟨Nat.le_of_ble_eq_true rfl, Nat.le_of_ble_eq_true rfl⟩ (r9_isParish _) rfl (Nat.le_of_ble_eq_true rfl) dX9_badPair_1 rfl ?_
  refine V_if_eq (tgt := 14) dX9_badPair_4 (by decide) (fun c4 => absurd c4 (by rw [ha]; decide)) (fun c4 => ?_)
  refine V_iload_n 1 dX9_badPair_7 rfl ?_
  refine C_X9_55 rfl ⟨Nat.le_of_ble_eq_true rfl, Nat.le_of_ble_eq_true rfl⟩ (r9_isParish _) rfl (Nat.le_of_ble_eq_true rfl) dX9_badPair_8 rfl ?_
  refine V_if_ne (tgt := 18) dX9_badPair_11 (by decide) (fun c11 => ?_) (fun c11 => absurd c11 (by rw [hb]; decide))
  refine V_iload_n 0 dX9_badPair_18 rfl ?_
  refine V_pc (pc2 := 19) rfl ?_
  refine V_iload_n 1 dX9_badPair_19 rfl ?_
  refine V_icmp_eq (tgt := 31) dX9_badPair_20 (by decide) (fun c20 => ?_) (fun c20 => ?_)
  · refine V_iconst (v := 2) dX9_badPair_31 rfl ?_
    refine V_iret (st := []) dX9_badPair_32 rfl ?_
    exact ⟨rfl, rfl⟩
  · refine V_iload_n 2 dX9_badPair_23 rfl ?_
    refine V_if_eq (tgt := 31) dX9_badPair_24 (by decide) (fun c24 => ?_) (fun c24 => ?_)
    · refine V_iconst (v := 2) dX9_badPair_31 rfl ?_
      refine V_iret (st := []) dX9_badPair_32 rfl ?_
      exact ⟨rfl, rfl⟩
    · exact (h.elim c20 c24).elim

set_option maxRecDepth 20000 in
theorem r9_badP_0 {g : GE} {M : Mem} {sz : Nat} {a b w : Int32} (ha : isP a = true) (hb : isP b = true) (h : a ≠ b) (h2 : ¬ w = 0) : Run g m_X9_badPair [.int a, .int b, .int w] M sz 0 0 (Ret (some (.int 0)) M) := by
  refine Run.of rfl (by decide) (Nat.le_of_ble_eq_true rfl) ?_
  show V g m_X9_badPair 0 _ [] _ _ _ _ _
  refine V_iload_n 0 dX9_badPair_0 rfl ?_
  refine C_X9_55 rfl ⟨Nat.le_of_ble_eq_true rfl, Nat.le_of_ble_eq_true rfl⟩ (r9_isParish _) rfl (Nat.le_of_ble_eq_true rfl) dX9_badPair_1 rfl ?_
  refine V_if_eq (tgt := 14) dX9_badPair_4 (by decide) (fun c4 => absurd c4 (by rw [ha]; decide)) (fun c4 => ?_)
  refine V_iload_n 1 dX9_badPair_7 rfl ?_
  refine C_X9_55 rfl ⟨Nat.le_of_ble_eq_true rfl, Nat.le_of_ble_eq_true rfl⟩ (r9_isParish _) rfl (Nat.le_of_ble_eq_true rfl) dX9_badPair_8 rfl ?_
  refine V_if_ne (tgt := 18) dX9_badPair_11 (by decide) (fun c11 => ?_) (fun c11 => absurd c11 (by rw [hb]; decide))
  refine V_iload_n 0 dX9_badPair_18 rfl ?_
  refine V_pc (pc2 := 19) rfl ?_
  refine V_iload_n 1 dX9_badPair_19 rfl ?_
  refine V_icmp_eq (tgt := 31) dX9_badPair_20 (by decide) (fun c20 => absurd c20 h) (fun c20 => ?_)
  refine V_iload_n 2 dX9_badPair_23 rfl ?_
  refine V_if_eq (tgt := 31) dX9_badPair_24 (by decide) (fun c24 => absurd c24 h2) (fun c24 => ?_)
  refine V_iconst (v := 0) dX9_badPair_27 rfl ?_
  refine V_goto (tgt := 32) dX9_badPair_28 (by decide) ?_
  refine V_iret (st := []) dX9_badPair_32 rfl ?_
  exact ⟨rfl, rfl⟩

set_option maxRecDepth 20000 in
theorem x_table_1 {g : GE} {M : Mem} {sz : Nat} {σ τ : Nat → Int32} {hk : Bool} {n : Nat} {ps : Nat → Nat → Int32} {len : Nat} {tx : Nat → Int32} (hC : CW g M σ τ hk n ps len tx) {a b u d : Int32} (h : isP a = false ∨ isP b = false) : Run g m_X8_table [rf g 0, .int a, .int b, .int u, .int d] M sz 1 6 (Thr (exN 0) M) := by
  refine Run.of rfl (by decide) (Nat.le_of_ble_eq_true rfl) ?_
  show V g m_X8_table 0 _ [] _ _ _ _ _
  refine V_iload_n 1 dX8_table_0 rfl ?_
  refine V_iload_n 2 dX8_table_1 rfl ?_
  refine Ct_X8_85 rfl rfl ⟨Nat.le_of_ble_eq_true rfl, Nat.le_of_ble_eq_true rfl⟩ (r_checkPair_bad h) rfl (Nat.le_of_ble_eq_true rfl) dX8_table_2 rfl ?_
  exact ⟨rfl, rfl⟩

set_option maxRecDepth 20000 in
theorem x_table_2a {g : GE} {M : Mem} {sz : Nat} {σ τ : Nat → Int32} {hk : Bool} {n : Nat} {ps : Nat → Nat → Int32} {len : Nat} {tx : Nat → Int32} (hC : CW g M σ τ hk n ps len tx) {a b u d : Int32} (ha : isP a = true) (hb : isP b = true) (h : a = b) : Run g m_X8_table [rf g 0, .int a, .int b, .int u, .int d] M sz 1 6 (Thr (exN 1) M) := by
  refine Run.of rfl (by decide) (Nat.le_of_ble_eq_true rfl) ?_
  show V g m_X8_table 0 _ [] _ _ _ _ _
  refine V_iload_n 1 dX8_table_0 rfl ?_
  refine V_iload_n 2 dX8_table_1 rfl ?_
  refine Ct_X8_85 rfl rfl ⟨Nat.le_of_ble_eq_true rfl, Nat.le_of_ble_eq_true rfl⟩ (r_checkPair_same ha hb h) rfl (Nat.le_of_ble_eq_true rfl) dX8_table_2 rfl ?_
  exact ⟨rfl, rfl⟩

set_option maxRecDepth 20000 in
theorem x_table_2b {g : GE} {M : Mem} {sz : Nat} {σ τ : Nat → Int32} {hk : Bool} {n : Nat} {ps : Nat → Nat → Int32} {len : Nat} {tx : Nat → Int32} (hC : CW g M σ τ hk n ps len tx) {a b u d : Int32} (ha : isP a = true) (hb : isP b = true) (h : a ≠ b) (hu : u < 1 ∨ ¬ u ≤ 99) : Run g m_X8_table [rf g 0, .int a, .int b, .int u, .int d] M sz 1 6 (Thr (exN 1) M) := by
  refine Run.of rfl (by decide) (Nat.le_of_ble_eq_true rfl) ?_
  show V g m_X8_table 0 _ [] _ _ _ _ _
  refine V_iload_n 1 dX8_table_0 rfl ?_
  refine V_iload_n 2 dX8_table_1 rfl ?_
  refine C_X8_85 rfl ⟨Nat.le_of_ble_eq_true rfl, Nat.le_of_ble_eq_true rfl⟩ (r_checkPair_ok ha hb h) rfl (Nat.le_of_ble_eq_true rfl) dX8_table_2 rfl ?_
  refine V_iload_n 3 dX8_table_5 rfl ?_
  refine V_iconst (v := 1) dX8_table_6 rfl ?_
  refine V_bipush (v := 99) dX8_table_7 (by decide) ?_
  refine Ct_X8_66 rfl rfl ⟨Nat.le_of_ble_eq_true rfl, Nat.le_of_ble_eq_true rfl⟩ (r_checkRange_bad hu) rfl (Nat.le_of_ble_eq_true rfl) dX8_table_9 rfl ?_
  exact ⟨rfl, rfl⟩

set_option maxRecDepth 20000 in
theorem x_table_2c {g : GE} {M : Mem} {sz : Nat} {σ τ : Nat → Int32} {hk : Bool} {n : Nat} {ps : Nat → Nat → Int32} {len : Nat} {tx : Nat → Int32} (hC : CW g M σ τ hk n ps len tx) {a b u d : Int32} (ha : isP a = true) (hb : isP b = true) (h : a ≠ b) (hu : ¬ u < 1) (hu2 : u ≤ 99) (hd : d < 1 ∨ ¬ d ≤ 99) : Run g m_X8_table [rf g 0, .int a, .int b, .int u, .int d] M sz 1 6 (Thr (exN 1) M) := by
  refine Run.of rfl (by decide) (Nat.le_of_ble_eq_true rfl) ?_
  show V g m_X8_table 0 _ [] _ _ _ _ _
  refine V_iload_n 1 dX8_table_0 rfl ?_
  refine V_iload_n 2 dX8_table_1 rfl ?_
  refine C_X8_85 rfl ⟨Nat.le_of_ble_eq_true rfl, Nat.le_of_ble_eq_true rfl⟩ (r_checkPair_ok ha hb h) rfl (Nat.le_of_ble_eq_true rfl) dX8_table_2 rfl ?_
  refine V_iload_n 3 dX8_table_5 rfl ?_
  refine V_iconst (v := 1) dX8_table_6 rfl ?_
  refine V_bipush (v := 99) dX8_table_7 (by decide) ?_
  refine C_X8_66 rfl ⟨Nat.le_of_ble_eq_true rfl, Nat.le_of_ble_eq_true rfl⟩ (r_checkRange_ok hu hu2) rfl (Nat.le_of_ble_eq_true rfl) dX8_table_9 rfl ?_
  refine V_pc (pc2 := 12) rfl ?_
  refine V_iload 4 dX8_table_12 rfl ?_
  refine V_iconst (v := 1) dX8_table_14 rfl ?_
  refine V_bipush (v := 99) dX8_table_15 (by decide) ?_
  refine Ct_X8_66 rfl rfl ⟨Nat.le_of_ble_eq_true rfl, Nat.le_of_ble_eq_true rfl⟩ (r_checkRange_bad hd) rfl (Nat.le_of_ble_eq_true rfl) dX8_table_17 rfl ?_
  exact ⟨rfl, rfl⟩

set_option maxRecDepth 20000 in
theorem x_offBy_1 {g : GE} {M : Mem} {sz : Nat} {σ τ : Nat → Int32} {hk : Bool} {n : Nat} {ps : Nat → Nat → Int32} {len : Nat} {tx : Nat → Int32} (hC : CW g M σ τ hk n ps len tx) {a b u d : Int32} (h : isP a = false ∨ isP b = false) : Run g m_X8_offBy [rf g 0, .int a, .int b, .int u, .int d] M sz 1 6 (Thr (exN 0) M) := by
  refine Run.of rfl (by decide) (Nat.le_of_ble_eq_true rfl) ?_
  show V g m_X8_offBy 0 _ [] _ _ _ _ _
  refine V_iload_n 1 dX8_offBy_0 rfl ?_
  refine V_iload_n 2 dX8_offBy_1 rfl ?_
  refine Ct_X8_85 rfl rfl ⟨Nat.le_of_ble_eq_true rfl, Nat.le_of_ble_eq_true rfl⟩ (r_checkPair_bad h) rfl (Nat.le_of_ble_eq_true rfl) dX8_offBy_2 rfl ?_
  exact ⟨rfl, rfl⟩

set_option maxRecDepth 20000 in
theorem x_offBy_2a {g : GE} {M : Mem} {sz : Nat} {σ τ : Nat → Int32} {hk : Bool} {n : Nat} {ps : Nat → Nat → Int32} {len : Nat} {tx : Nat → Int32} (hC : CW g M σ τ hk n ps len tx) {a b u d : Int32} (ha : isP a = true) (hb : isP b = true) (h : a = b) : Run g m_X8_offBy [rf g 0, .int a, .int b, .int u, .int d] M sz 1 6 (Thr (exN 1) M) := by
  refine Run.of rfl (by decide) (Nat.le_of_ble_eq_true rfl) ?_
  show V g m_X8_offBy 0 _ [] _ _ _ _ _
  refine V_iload_n 1 dX8_offBy_0 rfl ?_
  refine V_iload_n 2 dX8_offBy_1 rfl ?_
  refine Ct_X8_85 rfl rfl ⟨Nat.le_of_ble_eq_true rfl, Nat.le_of_ble_eq_true rfl⟩ (r_checkPair_same ha hb h) rfl (Nat.le_of_ble_eq_true rfl) dX8_offBy_2 rfl ?_
  exact ⟨rfl, rfl⟩

set_option maxRecDepth 20000 in
theorem x_offBy_2b {g : GE} {M : Mem} {sz : Nat} {σ τ : Nat → Int32} {hk : Bool} {n : Nat} {ps : Nat → Nat → Int32} {len : Nat} {tx : Nat → Int32} (hC : CW g M σ τ hk n ps len tx) {a b u d : Int32} (ha : isP a = true) (hb : isP b = true) (h : a ≠ b) (hu : u < 1 ∨ ¬ u ≤ 99) : Run g m_X8_offBy [rf g 0, .int a, .int b, .int u, .int d] M sz 1 6 (Thr (exN 1) M) := by
  refine Run.of rfl (by decide) (Nat.le_of_ble_eq_true rfl) ?_
  show V g m_X8_offBy 0 _ [] _ _ _ _ _
  refine V_iload_n 1 dX8_offBy_0 rfl ?_
  refine V_iload_n 2 dX8_offBy_1 rfl ?_
  refine C_X8_85 rfl ⟨Nat.le_of_ble_eq_true rfl, Nat.le_of_ble_eq_true rfl⟩ (r_checkPair_ok ha hb h) rfl (Nat.le_of_ble_eq_true rfl) dX8_offBy_2 rfl ?_
  refine V_iload_n 3 dX8_offBy_5 rfl ?_
  refine V_iconst (v := 1) dX8_offBy_6 rfl ?_
  refine V_bipush (v := 99) dX8_offBy_7 (by decide) ?_
  refine Ct_X8_66 rfl rfl ⟨Nat.le_of_ble_eq_true rfl, Nat.le_of_ble_eq_true rfl⟩ (r_checkRange_bad hu) rfl (Nat.le_of_ble_eq_true rfl) dX8_offBy_9 rfl ?_
  exact ⟨rfl, rfl⟩

set_option maxRecDepth 20000 in
theorem x_offBy_2c {g : GE} {M : Mem} {sz : Nat} {σ τ : Nat → Int32} {hk : Bool} {n : Nat} {ps : Nat → Nat → Int32} {len : Nat} {tx : Nat → Int32} (hC : CW g M σ τ hk n ps len tx) {a b u d : Int32} (ha : isP a = true) (hb : isP b = true) (h : a ≠ b) (hu : ¬ u < 1) (hu2 : u ≤ 99) (hd : d < 1 ∨ ¬ d ≤ 99) : Run g m_X8_offBy [rf g 0, .int a, .int b, .int u, .int d] M sz 1 6 (Thr (exN 1) M) := by
  refine Run.of rfl (by decide) (Nat.le_of_ble_eq_true rfl) ?_
  show V g m_X8_offBy 0 _ [] _ _ _ _ _
  refine V_iload_n 1 dX8_offBy_0 rfl ?_
  refine V_iload_n 2 dX8_offBy_1 rfl ?_
  refine C_X8_85 rfl ⟨Nat.le_of_ble_eq_true rfl, Nat.le_of_ble_eq_true rfl⟩ (r_checkPair_ok ha hb h) rfl (Nat.le_of_ble_eq_true rfl) dX8_offBy_2 rfl ?_
  refine V_iload_n 3 dX8_offBy_5 rfl ?_
  refine V_iconst (v := 1) dX8_offBy_6 rfl ?_
  refine V_bipush (v := 99) dX8_offBy_7 (by decide) ?_
  refine C_X8_66 rfl ⟨Nat.le_of_ble_eq_true rfl, Nat.le_of_ble_eq_true rfl⟩ (r_checkRange_ok hu hu2) rfl (Nat.le_of_ble_eq_true rfl) dX8_offBy_9 rfl ?_
  refine V_pc (pc2 := 12) rfl ?_
  refine V_iload 4 dX8_offBy_12 rfl ?_
  refine V_iconst (v := 1) dX8_offBy_14 rfl ?_
  refine V_bipush (v := 99) dX8_offBy_15 (by decide) ?_
  refine Ct_X8_66 rfl rfl ⟨Nat.le_of_ble_eq_true rfl, Nat.le_of_ble_eq_true rfl⟩ (r_checkRange_bad hd) rfl (Nat.le_of_ble_eq_true rfl) dX8_offBy_17 rfl ?_
  exact ⟨rfl, rfl⟩

set_option maxRecDepth 20000 in
theorem x_table_3 {g : GE} {M : Mem} {sz : Nat} {σ τ : Nat → Int32} {hk : Bool} {n : Nat} {ps : Nat → Nat → Int32} {len : Nat} {tx : Nat → Int32} (hC : CW g M σ τ hk n ps len tx) {a b u d : Int32} (hI : I10 σ) (i j : Nat) (hi : i < 5) (hj : j < 5) (ha : a = nI i) (hb : b = nI j) (hij : i ≠ j) (hu : ¬ u < 1) (hu2 : u ≤ 99) (hd : ¬ d < 1) (hd2 : d ≤ 99) (ho : (fnd (wouS (putS σ i j u d) i j) 0 37) ≠ none) : Run g m_X8_table [rf g 0, .int a, .int b, .int u, .int d] M sz 1 6 (fun o M2 => o = .inr (exN 2) ∧ CW g M2 σ τ hk n ps len tx ∧ FR M M2 0 96) := by
  subst ha hb
  obtain ⟨p0, y1, y2⟩ := hC.2.1.1
  have hud := UD_of hu hu2 hd hd2
  refine Run.of rfl (by decide) (Nat.le_of_ble_eq_true rfl) ?_
  show V g m_X8_table 0 _ [] _ _ _ _ _
  refine V_iload_n 1 dX8_table_0 rfl ?_
  refine V_iload_n 2 dX8_table_1 rfl ?_
  refine C_X8_85 rfl ⟨Nat.le_of_ble_eq_true rfl, Nat.le_of_ble_eq_true rfl⟩ (r_checkPair_ok (isP_nI hi) (isP_nI hj) (fun e => hij ((nI_eq (by omega) (by omega)).mp e))) rfl (Nat.le_of_ble_eq_true rfl) dX8_table_2 rfl ?_
  refine V_iload_n 3 dX8_table_5 rfl ?_
  refine V_iconst (v := 1) dX8_table_6 rfl ?_
  refine V_bipush (v := 99) dX8_table_7 (by decide) ?_
  refine C_X8_66 rfl ⟨Nat.le_of_ble_eq_true rfl, Nat.le_of_ble_eq_true rfl⟩ (r_checkRange_ok hu hu2) rfl (Nat.le_of_ble_eq_true rfl) dX8_table_9 rfl ?_
  refine V_pc (pc2 := 12) rfl ?_
  refine V_iload 4 dX8_table_12 rfl ?_
  refine V_iconst (v := 1) dX8_table_14 rfl ?_
  refine V_bipush (v := 99) dX8_table_15 (by decide) ?_
  refine C_X8_66 rfl ⟨Nat.le_of_ble_eq_true rfl, Nat.le_of_ble_eq_true rfl⟩ (r_checkRange_ok hd hd2) rfl (Nat.le_of_ble_eq_true rfl) dX8_table_17 rfl ?_
  refine V_aload_n 0 dX8_table_20 rfl ?_
  refine G_X8_36 rfl hC.1 rfl dX8_table_21 ?_
  refine V_aload_n 0 dX8_table_24 rfl ?_
  refine G_X8_10 rfl hC.1 rfl dX8_table_25 ?_
  refine V_pc (pc2 := 28) rfl ?_
  refine G_X8_89 rfl y1 rfl dX8_table_28 ?_
  refine V_iload_n 1 dX8_table_31 rfl ?_
  refine V_iload_n 2 dX8_table_32 rfl ?_
  refine V_iload_n 3 dX8_table_33 rfl ?_
  refine V_iload 4 dX8_table_34 rfl ?_
  refine V_aload_n 0 dX8_table_36 rfl ?_
  refine C_X8_93 hC.1 rfl ⟨Nat.le_of_ble_eq_true rfl, Nat.le_of_ble_eq_true rfl⟩ (r_bound hC) rfl (Nat.le_of_ble_eq_true rfl) dX8_table_37 rfl ?_
  refine Cp_X8_97 hC.2.2.2.2.2.1.1 rfl ⟨Nat.le_of_ble_eq_true rfl, Nat.le_of_ble_eq_true rfl⟩ (hC.first hI i j rfl rfl hi hj hij hud rfl) rfl (Nat.le_of_ble_eq_true rfl) dX8_table_40 rfl (fun _ q7 => ?_)
  have hC1 := q7.1
  have hF1 := q7.2
  clear q7
  refine V_pc (pc2 := 43) rfl ?_
  refine V_if_lt (tgt := 56) dX8_table_43 (by decide) (fun c43 => absurd c43 (fun e => ho ((optI_neg _ fnd37).mp e))) (fun c43 => ?_)
  refine V_throwS 2 0 (by decide) (by decide) rfl rfl rfl rfl rfl (Nat.le_of_ble_eq_true rfl) (Nat.le_of_ble_eq_true rfl) dX8_table_46 dX8_table_49 dX8_table_50 dX8_table_52 dX8_table_55 ?_
  exact ⟨rfl, hC1, hF1.wide (by omega)⟩

set_option maxRecDepth 20000 in
theorem x_table_ok {g : GE} {M : Mem} {sz : Nat} {σ τ : Nat → Int32} {hk : Bool} {n : Nat} {ps : Nat → Nat → Int32} {len : Nat} {tx : Nat → Int32} (hC : CW g M σ τ hk n ps len tx) (hn : n ≤ 6) {a b u d : Int32} (hI : I10 σ) (i j : Nat) (hi : i < 5) (hj : j < 5) (ha : a = nI i) (hb : b = nI j) (hij : i ≠ j) (hu : ¬ u < 1) (hu2 : u ≤ 99) (hd : ¬ d < 1) (hd2 : d ≤ 99) (ho : (fnd (wouS (putS σ i j u d) i j) 0 37) = none) : Run g m_X8_table [rf g 0, .int a, .int b, .int u, .int d] M sz 0 0 (RetP (some (.int (nI (cnt (thr (putS σ i j u d)) 37)))) (fun M2 => CW g M2 (putS σ i j u d) (τ) (hk) (pshN n) (pshP n ps σ) (len) (tx) ∧ FR M M2 0 96)) := by
  subst ha hb
  obtain ⟨p0, y1, y2⟩ := hC.2.1.1
  have hud := UD_of hu hu2 hd hd2
  refine Run.of rfl (by decide) (Nat.le_of_ble_eq_true rfl) ?_
  show V g m_X8_table 0 _ [] _ _ _ _ _
  refine V_iload_n 1 dX8_table_0 rfl ?_
  refine V_iload_n 2 dX8_table_1 rfl ?_
  refine C_X8_85 rfl ⟨Nat.le_of_ble_eq_true rfl, Nat.le_of_ble_eq_true rfl⟩ (r_checkPair_ok (isP_nI hi) (isP_nI hj) (fun e => hij ((nI_eq (by omega) (by omega)).mp e))) rfl (Nat.le_of_ble_eq_true rfl) dX8_table_2 rfl ?_
  refine V_iload_n 3 dX8_table_5 rfl ?_
  refine V_iconst (v := 1) dX8_table_6 rfl ?_
  refine V_bipush (v := 99) dX8_table_7 (by decide) ?_
  refine C_X8_66 rfl ⟨Nat.le_of_ble_eq_true rfl, Nat.le_of_ble_eq_true rfl⟩ (r_checkRange_ok hu hu2) rfl (Nat.le_of_ble_eq_true rfl) dX8_table_9 rfl ?_
  refine V_pc (pc2 := 12) rfl ?_
  refine V_iload 4 dX8_table_12 rfl ?_
  refine V_iconst (v := 1) dX8_table_14 rfl ?_
  refine V_bipush (v := 99) dX8_table_15 (by decide) ?_
  refine C_X8_66 rfl ⟨Nat.le_of_ble_eq_true rfl, Nat.le_of_ble_eq_true rfl⟩ (r_checkRange_ok hd hd2) rfl (Nat.le_of_ble_eq_true rfl) dX8_table_17 rfl ?_
  refine V_aload_n 0 dX8_table_20 rfl ?_
  refine G_X8_36 rfl hC.1 rfl dX8_table_21 ?_
  refine V_aload_n 0 dX8_table_24 rfl ?_
  refine G_X8_10 rfl hC.1 rfl dX8_table_25 ?_
  refine V_pc (pc2 := 28) rfl ?_
  refine G_X8_89 rfl y1 rfl dX8_table_28 ?_
  refine V_iload_n 1 dX8_table_31 rfl ?_
  refine V_iload_n 2 dX8_table_32 rfl ?_
  refine V_iload_n 3 dX8_table_33 rfl ?_
  refine V_iload 4 dX8_table_34 rfl ?_
  refine V_aload_n 0 dX8_table_36 rfl ?_
  refine C_X8_93 hC.1 rfl ⟨Nat.le_of_ble_eq_true rfl, Nat.le_of_ble_eq_true rfl⟩ (r_bound hC) rfl (Nat.le_of_ble_eq_true rfl) dX8_table_37 rfl ?_
  refine Cp_X8_97 hC.2.2.2.2.2.1.1 rfl ⟨Nat.le_of_ble_eq_true rfl, Nat.le_of_ble_eq_true rfl⟩ (hC.first hI i j rfl rfl hi hj hij hud rfl) rfl (Nat.le_of_ble_eq_true rfl) dX8_table_40 rfl (fun _ q7 => ?_)
  have hC1 := q7.1
  have hF1 := q7.2
  clear q7
  refine V_pc (pc2 := 43) rfl ?_
  refine V_if_lt (tgt := 56) dX8_table_43 (by decide) (fun c43 => ?_) (fun c43 => absurd ((optI_neg _ fnd37).mpr ho) c43)
  refine V_aload_n 0 dX8_table_56 rfl ?_
  refine G_X8_22 rfl hC1.1 rfl dX8_table_57 ?_
  refine V_aload_n 0 dX8_table_60 rfl ?_
  refine G_X8_10 rfl hC1.1 rfl dX8_table_61 ?_
  refine Cp_X8_70 hC1.2.2.2.1.choose_spec.1 rfl ⟨Nat.le_of_ble_eq_true rfl, Nat.le_of_ble_eq_true rfl⟩ (r_push hC1.2.2.2.1 hn hC1.2.1 (by omega)) rfl (Nat.le_of_ble_eq_true rfl) dX8_table_64 rfl (fun _ q9 => ?_)
  have hC2 := hC1.psh q9.1 q9.2
  have hF2 := q9.2
  clear q9
  obtain ⟨p9, y3, y4⟩ := hC2.2.1.1
  refine V_aload_n 0 dX8_table_67 rfl ?_
  refine G_X8_10 rfl hC2.1 rfl dX8_table_68 ?_
  refine V_pc (pc2 := 71) rfl ?_
  refine G_X8_89 rfl y3 rfl dX8_table_71 ?_
  refine V_iload_n 1 dX8_table_74 rfl ?_
  refine V_iload_n 2 dX8_table_75 rfl ?_
  refine V_iload_n 3 dX8_table_76 rfl ?_
  refine V_iload 4 dX8_table_77 rfl ?_
  refine Cp_X8_108 (show _ = some (eO 4 [rf g (1 + 3 + 1), .int _]) from hC2.2.1.2.2.2.1.choose_spec.choose_spec.1.1) rfl ⟨Nat.le_of_ble_eq_true rfl, Nat.le_of_ble_eq_true rfl⟩ (hC2.2.1.2.2.2.1.lay i j rfl rfl hi hj hij hud) rfl (Nat.le_of_ble_eq_true rfl) dX8_table_79 rfl (fun _ q8 => ?_)
  have hC3 := hC2.now (hC2.2.1.tab q8.1 q8.2 (fun k hk => putS_big hi hj hij hk)) (q8.2.wide (by omega))
  have hF3 := q8.2
  clear q8
  obtain ⟨z9, z3, z4⟩ := hC3.2.1.1
  refine V_aload_n 0 dX8_table_82 rfl ?_
  refine G_X8_36 rfl hC3.1 rfl dX8_table_83 ?_
  refine V_pc (pc2 := 86) rfl ?_
  refine V_aload_n 0 dX8_table_86 rfl ?_
  refine G_X8_10 rfl hC3.1 rfl dX8_table_87 ?_
  refine G_X8_89 rfl z3 rfl dX8_table_90 ?_
  refine C_X8_114 hC3.2.2.2.2.2.1.1 rfl ⟨Nat.le_of_ble_eq_true rfl, Nat.le_of_ble_eq_true rfl⟩ (hC3.2.1.2.2.2.1.standing hC3.2.2.2.2.2.1) rfl (Nat.le_of_ble_eq_true rfl) dX8_table_93 rfl ?_
  refine V_iret (st := []) dX8_table_96 rfl ?_
  exact ⟨rfl, hC3, FR.trans (b := 0) (n := 96) (FR.trans (b := 0) (n := 96) (FR.wide hF1 (b2 := 0) (n2 := 96) (by omega)) hF2 (by omega)) hF3 (by omega)⟩

theorem optI_nat {o : Option Nat} (h : (0 : Int32) ≤ optI o) (h2 : ∀ r, o = some r → r < 37) : ∃ r, r < 37 ∧ optI o = nI r ∧ codI o = ringsF r := by
  cases o with
  | none => exact absurd h (by decide)
  | some r => exact ⟨r, h2 r rfl, rfl, (ringsF_eq r (h2 r rfl)).symm⟩
set_option maxRecDepth 20000 in
theorem x_offBy_ok {g : GE} {M : Mem} {sz : Nat} {σ τ : Nat → Int32} {hk : Bool} {n : Nat} {ps : Nat → Nat → Int32} {len : Nat} {tx : Nat → Int32} (hC : CW g M σ τ hk n ps len tx) {a b u d : Int32} (hI : I10 σ) (i j : Nat) (hi : i < 5) (hj : j < 5) (ha : a = nI i) (hb : b = nI j) (hij : i ≠ j) (hu : ¬ u < 1) (hu2 : u ≤ 99) (hd : ¬ d < 1) (hd2 : d ≤ 99) : Run g m_X8_offBy [rf g 0, .int a, .int b, .int u, .int d] M sz 0 0 (RetP (some (.int (codI (fnd (wouS (putS σ i j u d) i j) 0 37)))) (fun M2 => CW g M2 (σ) (τ) (hk) (n) (ps) (len) (tx) ∧ FR M M2 0 96)) := by
  subst ha hb
  obtain ⟨p0, y1, y2⟩ := hC.2.1.1
  have hud := UD_of hu hu2 hd hd2
  refine Run.of rfl (by decide) (Nat.le_of_ble_eq_true rfl) ?_
  show V g m_X8_offBy 0 _ [] _ _ _ _ _
  refine V_iload_n 1 dX8_offBy_0 rfl ?_
  refine V_iload_n 2 dX8_offBy_1 rfl ?_
  refine C_X8_85 rfl ⟨Nat.le_of_ble_eq_true rfl, Nat.le_of_ble_eq_true rfl⟩ (r_checkPair_ok (isP_nI hi) (isP_nI hj) (fun e => hij ((nI_eq (by omega) (by omega)).mp e))) rfl (Nat.le_of_ble_eq_true rfl) dX8_offBy_2 rfl ?_
  refine V_iload_n 3 dX8_offBy_5 rfl ?_
  refine V_iconst (v := 1) dX8_offBy_6 rfl ?_
  refine V_bipush (v := 99) dX8_offBy_7 (by decide) ?_
  refine C_X8_66 rfl ⟨Nat.le_of_ble_eq_true rfl, Nat.le_of_ble_eq_true rfl⟩ (r_checkRange_ok hu hu2) rfl (Nat.le_of_ble_eq_true rfl) dX8_offBy_9 rfl ?_
  refine V_pc (pc2 := 12) rfl ?_
  refine V_iload 4 dX8_offBy_12 rfl ?_
  refine V_iconst (v := 1) dX8_offBy_14 rfl ?_
  refine V_bipush (v := 99) dX8_offBy_15 (by decide) ?_
  refine C_X8_66 rfl ⟨Nat.le_of_ble_eq_true rfl, Nat.le_of_ble_eq_true rfl⟩ (r_checkRange_ok hd hd2) rfl (Nat.le_of_ble_eq_true rfl) dX8_offBy_17 rfl ?_
  refine V_aload_n 0 dX8_offBy_20 rfl ?_
  refine G_X8_36 rfl hC.1 rfl dX8_offBy_21 ?_
  refine V_aload_n 0 dX8_offBy_24 rfl ?_
  refine G_X8_10 rfl hC.1 rfl dX8_offBy_25 ?_
  refine V_pc (pc2 := 28) rfl ?_
  refine G_X8_89 rfl y1 rfl dX8_offBy_28 ?_
  refine V_iload_n 1 dX8_offBy_31 rfl ?_
  refine V_iload_n 2 dX8_offBy_32 rfl ?_
  refine V_iload_n 3 dX8_offBy_33 rfl ?_
  refine V_iload 4 dX8_offBy_34 rfl ?_
  refine V_aload_n 0 dX8_offBy_36 rfl ?_
  refine C_X8_93 hC.1 rfl ⟨Nat.le_of_ble_eq_true rfl, Nat.le_of_ble_eq_true rfl⟩ (r_bound hC) rfl (Nat.le_of_ble_eq_true rfl) dX8_offBy_37 rfl ?_
  refine Cp_X8_97 hC.2.2.2.2.2.1.1 rfl ⟨Nat.le_of_ble_eq_true rfl, Nat.le_of_ble_eq_true rfl⟩ (hC.first hI i j rfl rfl hi hj hij hud rfl) rfl (Nat.le_of_ble_eq_true rfl) dX8_offBy_40 rfl (fun _ q7 => ?_)
  have hC1 := q7.1
  have hF1 := q7.2
  clear q7
  refine V_pc (pc2 := 43) rfl ?_
  refine V_istore (lv2 := [(5, .int _), (0, .ref _), (1, .int _), (2, .int _), (3, .int _), (4, .int _)]) dX8_offBy_43 (Nat.le_of_ble_eq_true rfl) rfl ?_
  refine V_iload 0 dX8_offBy_45 rfl ?_
  refine V_if_ge (tgt := 54) dX8_offBy_47 (by decide) (fun c47 => ?_) (fun c47 => ?_)
  · obtain ⟨r, e1, e2, e3⟩ := optI_nat c47 fnd37
    refine V_getR st_X8_248 dX8_offBy_54 ?_
    refine V_iload 0 dX8_offBy_57 rfl ?_
    refine C_X8_77 rfl ⟨Nat.le_of_ble_eq_true rfl, Nat.le_of_ble_eq_true rfl⟩ (r_atR r e2 e1) rfl (Nat.le_of_ble_eq_true rfl) dX8_offBy_59 rfl ?_
    refine V_iret (st := []) dX8_offBy_62 rfl ?_
    rw [e3]
    exact ⟨rfl, hC1, hF1.wide (by omega)⟩
  · refine V_iconst (v := 0) dX8_offBy_50 rfl ?_
    refine V_goto (tgt := 62) dX8_offBy_51 (by decide) ?_
    refine V_iret (st := []) dX8_offBy_62 rfl ?_
    rw [(optI_neg _ fnd37).mp (Int32.not_le.mp c47)]
    exact ⟨rfl, hC1, hF1.wide (by omega)⟩

set_option maxRecDepth 20000 in
theorem q9_table_1 {g : GE} {M : Mem} {sz : Nat} {σ sn : Nat → Int32} {hk : Bool} {n : Nat} {ps : Nat → Nat → Int32} {len : Nat} {tx : Nat → Int32} {th : Int32} (hL : ML g M σ sn hk n ps len tx th) {a b u d : Int32} (h : isP a = false ∨ isP b = false) : Run g m_X9_table [rf g 96, .int a, .int b, .int u, .int d] M sz 0 0 (RetP (some (.int 0)) (fun M2 => ML g M2 (σ) (sn) (hk) (n) (ps) (len) (tx) (1) ∧ FR M M2 96 9)) := by
  obtain ⟨⟨v, hM, v0, v1, v2, v3⟩, ⟨pf, f1, f2⟩, f3, f4, f5⟩ := id hL
  refine Run.of rfl (by decide) (Nat.le_of_ble_eq_true rfl) ?_
  show V g m_X9_table 0 _ [] _ _ _ _ _
  refine V_iload_n 1 dX9_table_0 rfl ?_
  refine V_iload_n 2 dX9_table_1 rfl ?_
  refine V_iload_n 3 dX9_table_2 rfl ?_
  refine V_iload 4 dX9_table_3 rfl ?_
  refine C_X9_120 rfl ⟨Nat.le_of_ble_eq_true rfl, Nat.le_of_ble_eq_true rfl⟩ (r9_badT_1 h) rfl (Nat.le_of_ble_eq_true rfl) dX9_table_5 rfl ?_
  refine V_istore (lv2 := [(5, .int _), (0, .ref _), (1, .int _), (2, .int _), (3, .int _), (4, .int _)]) dX9_table_8 (Nat.le_of_ble_eq_true rfl) rfl ?_
  refine V_aload_n 1 dX9_table_10 rfl ?_
  refine V_pc (pc2 := 11) rfl ?_
  refine V_iload 0 dX9_table_11 rfl ?_
  refine V_if_le (tgt := 21) dX9_table_13 (by decide) (fun c13 => absurd c13 (by decide)) (fun c13 => ?_)
  refine V_iload 0 dX9_table_16 rfl ?_
  refine V_goto (tgt := 38) dX9_table_18 (by decide) ?_
  refine C_X9_111 hM.1 rfl ⟨Nat.le_of_ble_eq_true rfl, Nat.le_of_ble_eq_true rfl⟩ (r9_refused hM 1) rfl (Nat.le_of_ble_eq_true rfl) dX9_table_38 rfl ?_
  refine V_if_eq (tgt := 46) dX9_table_41 (by decide) (fun c41 => absurd c41 (by decide)) (fun c41 => ?_)
  refine V_iconst (v := 0) dX9_table_44 rfl ?_
  refine V_iret (st := []) dX9_table_45 rfl ?_
  refine ⟨rfl, hL.thr hM v0 v1 v2, (FR.refl M 96 9).put (by omega)⟩

set_option maxRecDepth 20000 in
theorem q9_table_2 {g : GE} {M : Mem} {sz : Nat} {σ sn : Nat → Int32} {hk : Bool} {n : Nat} {ps : Nat → Nat → Int32} {len : Nat} {tx : Nat → Int32} {th : Int32} (hL : ML g M σ sn hk n ps len tx th) {a b u d : Int32} (ha : isP a = true) (hb : isP b = true) (h : a = b ∨ inI u 1 99 = false ∨ inI d 1 99 = false) : Run g m_X9_table [rf g 96, .int a, .int b, .int u, .int d] M sz 0 0 (RetP (some (.int 0)) (fun M2 => ML g M2 (σ) (sn) (hk) (n) (ps) (len) (tx) (2) ∧ FR M M2 96 9)) := by
  obtain ⟨⟨v, hM, v0, v1, v2, v3⟩, ⟨pf, f1, f2⟩, f3, f4, f5⟩ := id hL
  refine Run.of rfl (by decide) (Nat.le_of_ble_eq_true rfl) ?_
  show V g m_X9_table 0 _ [] _ _ _ _ _
  refine V_iload_n 1 dX9_table_0 rfl ?_
  refine V_iload_n 2 dX9_table_1 rfl ?_
  refine V_iload_n 3 dX9_table_2 rfl ?_
  refine V_iload 4 dX9_table_3 rfl ?_
  refine C_X9_120 rfl ⟨Nat.le_of_ble_eq_true rfl, Nat.le_of_ble_eq_true rfl⟩ (r9_badT_2 ha hb h) rfl (Nat.le_of_ble_eq_true rfl) dX9_table_5 rfl ?_
  refine V_istore (lv2 := [(5, .int _), (0, .ref _), (1, .int _), (2, .int _), (3, .int _), (4, .int _)]) dX9_table_8 (Nat.le_of_ble_eq_true rfl) rfl ?_
  refine V_aload_n 1 dX9_table_10 rfl ?_
  refine V_pc (pc2 := 11) rfl ?_
  refine V_iload 0 dX9_table_11 rfl ?_
  refine V_if_le (tgt := 21) dX9_table_13 (by decide) (fun c13 => absurd c13 (by decide)) (fun c13 => ?_)
  refine V_iload 0 dX9_table_16 rfl ?_
  refine V_goto (tgt := 38) dX9_table_18 (by decide) ?_
  refine C_X9_111 hM.1 rfl ⟨Nat.le_of_ble_eq_true rfl, Nat.le_of_ble_eq_true rfl⟩ (r9_refused hM 2) rfl (Nat.le_of_ble_eq_true rfl) dX9_table_38 rfl ?_
  refine V_if_eq (tgt := 46) dX9_table_41 (by decide) (fun c41 => absurd c41 (by decide)) (fun c41 => ?_)
  refine V_iconst (v := 0) dX9_table_44 rfl ?_
  refine V_iret (st := []) dX9_table_45 rfl ?_
  refine ⟨rfl, hL.thr hM v0 v1 v2, (FR.refl M 96 9).put (by omega)⟩

set_option maxRecDepth 20000 in
theorem q9_offBy_1 {g : GE} {M : Mem} {sz : Nat} {σ sn : Nat → Int32} {hk : Bool} {n : Nat} {ps : Nat → Nat → Int32} {len : Nat} {tx : Nat → Int32} {th : Int32} (hL : ML g M σ sn hk n ps len tx th) {a b u d : Int32} (h : isP a = false ∨ isP b = false) : Run g m_X9_offBy [rf g 96, .int a, .int b, .int u, .int d] M sz 0 0 (RetP (some (.int 0)) (fun M2 => ML g M2 (σ) (sn) (hk) (n) (ps) (len) (tx) (1) ∧ FR M M2 96 9)) := by
  obtain ⟨⟨v, hM, v0, v1, v2, v3⟩, ⟨pf, f1, f2⟩, f3, f4, f5⟩ := id hL
  refine Run.of rfl (by decide) (Nat.le_of_ble_eq_true rfl) ?_
  show V g m_X9_offBy 0 _ [] _ _ _ _ _
  refine V_aload_n 0 dX9_offBy_0 rfl ?_
  refine V_iload_n 1 dX9_offBy_1 rfl ?_
  refine V_iload_n 2 dX9_offBy_2 rfl ?_
  refine V_iload_n 3 dX9_offBy_3 rfl ?_
  refine V_iload 4 dX9_offBy_4 rfl ?_
  refine C_X9_120 rfl ⟨Nat.le_of_ble_eq_true rfl, Nat.le_of_ble_eq_true rfl⟩ (r9_badT_1 h) rfl (Nat.le_of_ble_eq_true rfl) dX9_offBy_6 rfl ?_
  refine C_X9_111 hM.1 rfl ⟨Nat.le_of_ble_eq_true rfl, Nat.le_of_ble_eq_true rfl⟩ (r9_refused hM 1) rfl (Nat.le_of_ble_eq_true rfl) dX9_offBy_9 rfl ?_
  refine V_pc (pc2 := 12) rfl ?_
  refine V_if_eq (tgt := 17) dX9_offBy_12 (by decide) (fun c12 => absurd c12 (by decide)) (fun c12 => ?_)
  refine V_iconst (v := 0) dX9_offBy_15 rfl ?_
  refine V_iret (st := []) dX9_offBy_16 rfl ?_
  refine ⟨rfl, hL.thr hM v0 v1 v2, (FR.refl M 96 9).put (by omega)⟩

set_option maxRecDepth 20000 in
theorem q9_offBy_2 {g : GE} {M : Mem} {sz : Nat} {σ sn : Nat → Int32} {hk : Bool} {n : Nat} {ps : Nat → Nat → Int32} {len : Nat} {tx : Nat → Int32} {th : Int32} (hL : ML g M σ sn hk n ps len tx th) {a b u d : Int32} (ha : isP a = true) (hb : isP b = true) (h : a = b ∨ inI u 1 99 = false ∨ inI d 1 99 = false) : Run g m_X9_offBy [rf g 96, .int a, .int b, .int u, .int d] M sz 0 0 (RetP (some (.int 0)) (fun M2 => ML g M2 (σ) (sn) (hk) (n) (ps) (len) (tx) (2) ∧ FR M M2 96 9)) := by
  obtain ⟨⟨v, hM, v0, v1, v2, v3⟩, ⟨pf, f1, f2⟩, f3, f4, f5⟩ := id hL
  refine Run.of rfl (by decide) (Nat.le_of_ble_eq_true rfl) ?_
  show V g m_X9_offBy 0 _ [] _ _ _ _ _
  refine V_aload_n 0 dX9_offBy_0 rfl ?_
  refine V_iload_n 1 dX9_offBy_1 rfl ?_
  refine V_iload_n 2 dX9_offBy_2 rfl ?_
  refine V_iload_n 3 dX9_offBy_3 rfl ?_
  refine V_iload 4 dX9_offBy_4 rfl ?_
  refine C_X9_120 rfl ⟨Nat.le_of_ble_eq_true rfl, Nat.le_of_ble_eq_true rfl⟩ (r9_badT_2 ha hb h) rfl (Nat.le_of_ble_eq_true rfl) dX9_offBy_6 rfl ?_
  refine C_X9_111 hM.1 rfl ⟨Nat.le_of_ble_eq_true rfl, Nat.le_of_ble_eq_true rfl⟩ (r9_refused hM 2) rfl (Nat.le_of_ble_eq_true rfl) dX9_offBy_9 rfl ?_
  refine V_pc (pc2 := 12) rfl ?_
  refine V_if_eq (tgt := 17) dX9_offBy_12 (by decide) (fun c12 => absurd c12 (by decide)) (fun c12 => ?_)
  refine V_iconst (v := 0) dX9_offBy_15 rfl ?_
  refine V_iret (st := []) dX9_offBy_16 rfl ?_
  refine ⟨rfl, hL.thr hM v0 v1 v2, (FR.refl M 96 9).put (by omega)⟩

set_option maxRecDepth 20000 in
theorem q9_table_3 {g : GE} {M : Mem} {sz : Nat} {σ sn : Nat → Int32} {hk : Bool} {n : Nat} {ps : Nat → Nat → Int32} {len : Nat} {tx : Nat → Int32} {th : Int32} (hL : ML g M σ sn hk n ps len tx th) {a b u d : Int32} (hI : I10 σ) (i j : Nat) (hi : i < 5) (hj : j < 5) (ha : a = nI i) (hb : b = nI j) (hij : i ≠ j) (hu : ¬ u < 1) (hu2 : u ≤ 99) (hd : ¬ d < 1) (hd2 : d ≤ 99) (ho : (fnd (wouS (putS σ i j u d) i j) 0 37) ≠ none) : Run g m_X9_table [rf g 96, .int a, .int b, .int u, .int d] M sz 0 0 (RetP (some (.int 0)) (fun M2 => ML g M2 (σ) (sn) (hk) (n) (ps) (len) (tx) (3) ∧ FR M M2 96 9)) := by
  subst ha hb
  obtain ⟨⟨v, hM, v0, v1, v2, v3⟩, ⟨pf, f1, f2⟩, f3, f4, f5⟩ := id hL
  have hud := UD_of hu hu2 hd hd2
  refine Run.of rfl (by decide) (Nat.le_of_ble_eq_true rfl) ?_
  show V g m_X9_table 0 _ [] _ _ _ _ _
  refine V_iload_n 1 dX9_table_0 rfl ?_
  refine V_iload_n 2 dX9_table_1 rfl ?_
  refine V_iload_n 3 dX9_table_2 rfl ?_
  refine V_iload 4 dX9_table_3 rfl ?_
  refine C_X9_120 rfl ⟨Nat.le_of_ble_eq_true rfl, Nat.le_of_ble_eq_true rfl⟩ (r9_badT_0 (isP_nI hi) (isP_nI hj) (fun e => hij ((nI_eq (by omega) (by omega)).mp e)) (inI_t hu hu2) (inI_t hd hd2)) rfl (Nat.le_of_ble_eq_true rfl) dX9_table_5 rfl ?_
  refine V_istore (lv2 := [(5, .int _), (0, .ref _), (1, .int _), (2, .int _), (3, .int _), (4, .int _)]) dX9_table_8 (Nat.le_of_ble_eq_true rfl) rfl ?_
  refine V_aload_n 1 dX9_table_10 rfl ?_
  refine V_pc (pc2 := 11) rfl ?_
  refine V_iload 0 dX9_table_11 rfl ?_
  refine V_if_le (tgt := 21) dX9_table_13 (by decide) (fun c13 => ?_) (fun c13 => absurd (by decide) c13)
  refine V_aload_n 1 dX9_table_21 rfl ?_
  refine V_iload_n 2 dX9_table_22 rfl ?_
  refine V_iload_n 3 dX9_table_23 rfl ?_
  refine V_iload_n 4 dX9_table_24 rfl ?_
  refine V_iload 5 dX9_table_25 rfl ?_
  refine C_X9_124 hM.1 rfl ⟨Nat.le_of_ble_eq_true rfl, Nat.le_of_ble_eq_true rfl⟩ (r9_offTried hM hI i j rfl rfl hi hj hij hud) rfl (Nat.le_of_ble_eq_true rfl) dX9_table_27 rfl ?_
  refine V_pc (pc2 := 30) rfl ?_
  refine V_if_le (tgt := 37) dX9_table_30 (by decide) (fun c30 => absurd c30 (fun e => ho ((codI_pos _ fnd37).mp e))) (fun c30 => ?_)
  refine V_iconst (v := 3) dX9_table_33 rfl ?_
  refine V_goto (tgt := 38) dX9_table_34 (by decide) ?_
  refine C_X9_111 hM.1 rfl ⟨Nat.le_of_ble_eq_true rfl, Nat.le_of_ble_eq_true rfl⟩ (r9_refused hM 3) rfl (Nat.le_of_ble_eq_true rfl) dX9_table_38 rfl ?_
  refine V_if_eq (tgt := 46) dX9_table_41 (by decide) (fun c41 => absurd c41 (by decide)) (fun c41 => ?_)
  refine V_iconst (v := 0) dX9_table_44 rfl ?_
  refine V_iret (st := []) dX9_table_45 rfl ?_
  refine ⟨rfl, hL.thr hM v0 v1 v2, (FR.refl M 96 9).put (by omega)⟩

set_option maxRecDepth 20000 in
theorem q9_table_ok {g : GE} {M : Mem} {sz : Nat} {σ sn : Nat → Int32} {hk : Bool} {n : Nat} {ps : Nat → Nat → Int32} {len : Nat} {tx : Nat → Int32} {th : Int32} (hL : ML g M σ sn hk n ps len tx th) (hn : n ≤ 6) {a b u d : Int32} (hI : I10 σ) (i j : Nat) (hi : i < 5) (hj : j < 5) (ha : a = nI i) (hb : b = nI j) (hij : i ≠ j) (hu : ¬ u < 1) (hu2 : u ≤ 99) (hd : ¬ d < 1) (hd2 : d ≤ 99) (ho : (fnd (wouS (putS σ i j u d) i j) 0 37) = none) : Run g m_X9_table [rf g 96, .int a, .int b, .int u, .int d] M sz 0 0 (RetP (some (.int (nI (cnt (thr (putS σ i j u d)) 37)))) (fun M2 => ML g M2 (putS σ i j u d) (sn) (hk) (pshN n) (pshP n ps σ) (len) (tx) (0) ∧ FR M M2 96 9)) := by
  subst ha hb
  obtain ⟨⟨v, hM, v0, v1, v2, v3⟩, ⟨pf, f1, f2⟩, f3, f4, f5⟩ := id hL
  have hud := UD_of hu hu2 hd hd2
  refine Run.of rfl (by decide) (Nat.le_of_ble_eq_true rfl) ?_
  show V g m_X9_table 0 _ [] _ _ _ _ _
  refine V_iload_n 1 dX9_table_0 rfl ?_
  refine V_iload_n 2 dX9_table_1 rfl ?_
  refine V_iload_n 3 dX9_table_2 rfl ?_
  refine V_iload 4 dX9_table_3 rfl ?_
  refine C_X9_120 rfl ⟨Nat.le_of_ble_eq_true rfl, Nat.le_of_ble_eq_true rfl⟩ (r9_badT_0 (isP_nI hi) (isP_nI hj) (fun e => hij ((nI_eq (by omega) (by omega)).mp e)) (inI_t hu hu2) (inI_t hd hd2)) rfl (Nat.le_of_ble_eq_true rfl) dX9_table_5 rfl ?_
  refine V_istore (lv2 := [(5, .int _), (0, .ref _), (1, .int _), (2, .int _), (3, .int _), (4, .int _)]) dX9_table_8 (Nat.le_of_ble_eq_true rfl) rfl ?_
  refine V_aload_n 1 dX9_table_10 rfl ?_
  refine V_pc (pc2 := 11) rfl ?_
  refine V_iload 0 dX9_table_11 rfl ?_
  refine V_if_le (tgt := 21) dX9_table_13 (by decide) (fun c13 => ?_) (fun c13 => absurd (by decide) c13)
  refine V_aload_n 1 dX9_table_21 rfl ?_
  refine V_iload_n 2 dX9_table_22 rfl ?_
  refine V_iload_n 3 dX9_table_23 rfl ?_
  refine V_iload_n 4 dX9_table_24 rfl ?_
  refine V_iload 5 dX9_table_25 rfl ?_
  refine C_X9_124 hM.1 rfl ⟨Nat.le_of_ble_eq_true rfl, Nat.le_of_ble_eq_true rfl⟩ (r9_offTried hM hI i j rfl rfl hi hj hij hud) rfl (Nat.le_of_ble_eq_true rfl) dX9_table_27 rfl ?_
  refine V_pc (pc2 := 30) rfl ?_
  refine V_if_le (tgt := 37) dX9_table_30 (by decide) (fun c30 => ?_) (fun c30 => absurd ((codI_pos _ fnd37).mpr ho) c30)
  refine V_iconst (v := 0) dX9_table_37 rfl ?_
  refine C_X9_111 hM.1 rfl ⟨Nat.le_of_ble_eq_true rfl, Nat.le_of_ble_eq_true rfl⟩ (r9_refused hM 0) rfl (Nat.le_of_ble_eq_true rfl) dX9_table_38 rfl ?_
  refine V_if_eq (tgt := 46) dX9_table_41 (by decide) (fun c41 => ?_) (fun c41 => absurd (by decide) c41)
  refine V_aload_n 1 dX9_table_46 rfl ?_
  refine Cp_X9_114 (hM.v _).1 rfl ⟨Nat.le_of_ble_eq_true rfl, Nat.le_of_ble_eq_true rfl⟩ (r9_saves (hM.v _) (show _ = some (eI g 390 pf) from (mup_ne _ _ (by decide)).trans f1) n (show upd v 3 _ 0 = nI n from v0) hn f2) rfl (Nat.le_of_ble_eq_true rfl) dX9_table_47 rfl (fun _ q9 => ?_)
  have hL2 := hL.sav hM v0 v1 v2 q9
  have hF2 := SV.fr q9
  clear q9
  obtain ⟨⟨w, hW, w0, w1, w2, w3⟩, ⟨pf2, g1, g2⟩, g3, g4, g5⟩ := id hL2
  refine V_aload_n 1 dX9_table_50 rfl ?_
  refine V_iload_n 2 dX9_table_51 rfl ?_
  refine V_pc (pc2 := 52) rfl ?_
  refine V_iload_n 3 dX9_table_52 rfl ?_
  refine V_iload_n 4 dX9_table_53 rfl ?_
  refine V_iload 5 dX9_table_54 rfl ?_
  refine C_X9_104 hW.1 rfl ⟨Nat.le_of_ble_eq_true rfl, Nat.le_of_ble_eq_true rfl⟩ (r9_puts hW i j rfl rfl hi hj hij) rfl (Nat.le_of_ble_eq_true rfl) dX9_table_56 rfl ?_
  refine V_aload_n 1 dX9_table_59 rfl ?_
  refine C_X9_127 (hW.put _).1 rfl ⟨Nat.le_of_ble_eq_true rfl, Nat.le_of_ble_eq_true rfl⟩ (r9_rings (hW.put _)) rfl (Nat.le_of_ble_eq_true rfl) dX9_table_60 rfl ?_
  refine V_iret (st := []) dX9_table_63 rfl ?_
  exact ⟨rfl, hL2.set _, hF2.put (by omega)⟩

set_option maxRecDepth 20000 in
theorem q9_offBy_ok {g : GE} {M : Mem} {sz : Nat} {σ sn : Nat → Int32} {hk : Bool} {n : Nat} {ps : Nat → Nat → Int32} {len : Nat} {tx : Nat → Int32} {th : Int32} (hL : ML g M σ sn hk n ps len tx th) {a b u d : Int32} (hI : I10 σ) (i j : Nat) (hi : i < 5) (hj : j < 5) (ha : a = nI i) (hb : b = nI j) (hij : i ≠ j) (hu : ¬ u < 1) (hu2 : u ≤ 99) (hd : ¬ d < 1) (hd2 : d ≤ 99) : Run g m_X9_offBy [rf g 96, .int a, .int b, .int u, .int d] M sz 0 0 (RetP (some (.int (codI (fnd (wouS (putS σ i j u d) i j) 0 37)))) (fun M2 => ML g M2 (σ) (sn) (hk) (n) (ps) (len) (tx) (0) ∧ FR M M2 96 9)) := by
  subst ha hb
  obtain ⟨⟨v, hM, v0, v1, v2, v3⟩, ⟨pf, f1, f2⟩, f3, f4, f5⟩ := id hL
  have hud := UD_of hu hu2 hd hd2
  refine Run.of rfl (by decide) (Nat.le_of_ble_eq_true rfl) ?_
  show V g m_X9_offBy 0 _ [] _ _ _ _ _
  refine V_aload_n 0 dX9_offBy_0 rfl ?_
  refine V_iload_n 1 dX9_offBy_1 rfl ?_
  refine V_iload_n 2 dX9_offBy_2 rfl ?_
  refine V_iload_n 3 dX9_offBy_3 rfl ?_
  refine V_iload 4 dX9_offBy_4 rfl ?_
  refine C_X9_120 rfl ⟨Nat.le_of_ble_eq_true rfl, Nat.le_of_ble_eq_true rfl⟩ (r9_badT_0 (isP_nI hi) (isP_nI hj) (fun e => hij ((nI_eq (by omega) (by omega)).mp e)) (inI_t hu hu2) (inI_t hd hd2)) rfl (Nat.le_of_ble_eq_true rfl) dX9_offBy_6 rfl ?_
  refine C_X9_111 hM.1 rfl ⟨Nat.le_of_ble_eq_true rfl, Nat.le_of_ble_eq_true rfl⟩ (r9_refused hM 0) rfl (Nat.le_of_ble_eq_true rfl) dX9_offBy_9 rfl ?_
  refine V_pc (pc2 := 12) rfl ?_
  refine V_if_eq (tgt := 17) dX9_offBy_12 (by decide) (fun c12 => ?_) (fun c12 => absurd (by decide) c12)
  refine V_aload_n 0 dX9_offBy_17 rfl ?_
  refine V_iload_n 1 dX9_offBy_18 rfl ?_
  refine V_iload_n 2 dX9_offBy_19 rfl ?_
  refine V_iload_n 3 dX9_offBy_20 rfl ?_
  refine V_iload 4 dX9_offBy_21 rfl ?_
  refine C_X9_124 (hM.v _).1 rfl ⟨Nat.le_of_ble_eq_true rfl, Nat.le_of_ble_eq_true rfl⟩ (r9_offTried (hM.v _) hI i j rfl rfl hi hj hij hud) rfl (Nat.le_of_ble_eq_true rfl) dX9_offBy_23 rfl ?_
  refine V_iret (st := []) dX9_offBy_26 rfl ?_
  exact ⟨rfl, hL.thr hM v0 v1 v2, (FR.refl M 96 9).put (by omega)⟩

theorem OPL.bad2 {g : GE} {yL y9 : MT} {AL A9 : List Value} {M : Mem} {sz : Nat} {σ τ sn : Nat → Int32} {hk : Bool} {n : Nat} {ps : Nat → Nat → Int32} {len : Nat} {tx : Nat → Int32} {th : Int32} (h : WLD g M σ τ sn hk n ps len tx th) {c : Nat} (hc : c ≤ 3) (hc0 : c ≠ 0)
    (h1 : Run g yL AL M sz 1 6 (RetP (some (.int (nI c))) (fun M1 => CW g M1 σ τ hk n ps len tx ∧ FR M M1 0 96))) (h2 : ∀ M2 sz2, ML g M2 σ sn hk n ps len tx th → Run g y9 A9 M2 sz2 0 0 (RetP (some (.int 0)) (fun M3 => ML g M3 σ sn hk n ps len tx (nI c) ∧ FR M2 M3 96 9))) :
    ∃ (c : Nat) (b : Int32) (P1 : Mem → Prop), c ≤ 3 ∧ Run g yL AL M sz 1 6 (RetP (some (.int (nI c))) P1) ∧ ∀ M1, P1 M1 → (∃ e, M1 96 = some (eO 9 e)) ∧ ∀ sz2, Run g y9 A9 M1 sz2 0 0 (RetP (some (.int b)) (fun M2 => Inv g M2 (nI c) ∧ ∃ o, M2 105 = some (eJ g 1 o) ∧ (c = 0 → o 0 = b.toInt64))) := by
  obtain ⟨w1, w2, w3, o, w4⟩ := h
  refine ⟨c, 0, _, hc, h1, fun M1 e => ?_⟩
  have hL := w2.fr (M1 := M1) (fun k k1 k2 => e.2 k (by omega))
  have w5 := (e.2 105 (by omega)).trans w4
  refine ⟨⟨_, hL.1.choose_spec.1.1⟩, fun sz2 => (h2 _ sz2 hL).mono fun o2 M2 q => ⟨q.1, ⟨σ, τ, sn, hk, n, ps, len, tx, e.1.fr (fun k hk => q.2.2 k (by omega)), q.2.1, w3, o, (q.2.2 _ (by omega)).trans w5⟩, o, (q.2.2 _ (by omega)).trans w5, fun e => absurd e hc0⟩⟩
set_option maxRecDepth 20000 in
theorem h_table_3' {g : GE} {M : Mem} {sz : Nat} {p0 p1 p2 p3 : Int32} {fs : List Value} {P : Mem → Prop} (h0 : M 0 = some (eO 8 fs)) (hr : Run g m_X8_table [rf g 0, .int p0, .int p1, .int p2, .int p3] M sz 1 6 (fun o M2 => o = .inr (exN 2) ∧ P M2)) : Run g m_L_table [rf g 0, .int p0, .int p1, .int p2, .int p3, rf g 105] M sz 1 6 (RetP (some (.int 3)) P) := by
  refine Run.ofH (by decide) (by decide) (Nat.le_of_ble_eq_true rfl) ?_
  show V g m_L_table 0 _ [] _ _ _ _ _
  refine V_aload 5 dL_table_0 rfl ?_
  refine V_iconst (v := 0) dL_table_2 rfl ?_
  refine V_aload_n 0 dL_table_3 rfl ?_
  refine V_iload_n 1 dL_table_4 rfl ?_
  refine V_iload_n 2 dL_table_5 rfl ?_
  refine V_iload_n 3 dL_table_6 rfl ?_
  refine V_iload 4 dL_table_7 rfl ?_
  refine V_callVH (mt := m_L_table) (mc1 := 1) (ms1 := 6) (kc := 0) (ks := 0) hr h0 rfl rfl k_X8_table s_X8_table l_L_17 ⟨Nat.le_of_ble_eq_true rfl, Nat.le_of_ble_eq_true rfl⟩ rfl (Nat.le_of_ble_eq_true rfl) dL_table_9 rfl (fun v1 M1 h => nomatch h.1) (fun E1 M1 h => ?_)
  obtain ⟨h1, h2⟩ := h
  cases h1
  refine VX_catch (mt := m_L_table) [(0, 14, 17, 13), (0, 14, 21, 15)] (0, 14, 25, 21) [] (by decide) rfl (fun z hz => by rcases List.mem_cons.mp hz with hz | hz; subst hz; exact ⟨by decide, 0, by decide, by decide, cl_L_13⟩; rw [List.mem_singleton] at hz; subst hz; exact ⟨by decide, 1, by decide, by decide, cl_L_15⟩) (by decide) (by decide) cl_L_21 ca_2 (fun q => ?_)
  show V g m_L_table 25 _ _ _ _ _ _ _
  refine V_astore (lv2 := [(6, .ref _), (0, .ref _), (1, .int _), (2, .int _), (3, .int _), (4, .int _), (5, .ref _)]) dL_table_25 (Nat.le_of_ble_eq_true rfl) rfl ?_
  refine V_iconst (v := 3) dL_table_27 rfl ?_
  refine V_iret (st := []) dL_table_28 rfl ?_
  exact ⟨rfl, h2⟩
theorem op_table (g : GE) (a b u d : Int32) : OPL g m_L_table m_X9_table [rf g 0, .int a, .int b, .int u, .int d, rf g 105] [rf g 96, .int a, .int b, .int u, .int d] := by
  rintro M sz ⟨th, σ, τ, sn, hk, n, ps, len, tx, hW⟩
  obtain ⟨w1, w2, ⟨i1, i2, i3, i4, i5, i6⟩, o, w4⟩ := id hW
  by_cases hP : isP a = true ∧ isP b = true
  · obtain ⟨ha, hb⟩ := hP
    by_cases hab : a = b
    · exact OPL.bad hW (c := 2) (by decide) (by decide) (h_table_2 w1.1 (x_table_2a w1 ha hb hab)) (fun M2 sz2 h => q9_table_2 h ha hb (Or.inl hab))
    · by_cases hu : u < 1 ∨ ¬ u ≤ 99
      · exact OPL.bad hW (c := 2) (by decide) (by decide) (h_table_2 w1.1 (x_table_2b w1 ha hb hab hu)) (fun M2 sz2 h => q9_table_2 h ha hb (Or.inr (Or.inl (inI_f hu))))
      · have hu1 : ¬ u < 1 := fun h => hu (Or.inl h)
        have hu2 : u ≤ 99 := Decidable.of_not_not (fun h => hu (Or.inr h))
        by_cases hd : d < 1 ∨ ¬ d ≤ 99
        · exact OPL.bad hW (c := 2) (by decide) (by decide) (h_table_2 w1.1 (x_table_2c w1 ha hb hab hu1 hu2 hd)) (fun M2 sz2 h => q9_table_2 h ha hb (Or.inr (Or.inr (inI_f hd))))
        · have hd1 : ¬ d < 1 := fun h => hd (Or.inl h)
          have hd2 : d ≤ 99 := Decidable.of_not_not (fun h => hd (Or.inr h))
          obtain ⟨i, hi, rfl⟩ := isP_ex ha
          obtain ⟨j, hj, rfl⟩ := isP_ex hb
          have hij : i ≠ j := fun e => hab (by rw [e])
          by_cases ho : (fnd (wouS (putS σ i j u d) i j) 0 37) = none
          · exact OPL.ok hW (σ2 := putS σ i j u d) (τ2 := τ) (sn2 := sn) (hk2 := hk) (n2 := pshN n) (ps2 := pshP n ps σ) (len2 := len) (tx2 := tx) ⟨i1.put hi hj hij (UD_of hu1 hu2 hd1 hd2), i2, pshN_le i3, IS.psh i3 i4 i1, i5, i6⟩ (h_table_ok w1.1 (x_table_ok w1 i3 i1.1 i j hi hj rfl rfl hij hu1 hu2 hd1 hd2 ho) (fun M1 q => CW.out w4 q.2)) (fun M2 sz2 h => q9_table_ok h i3 i1.1 i j hi hj rfl rfl hij hu1 hu2 hd1 hd2 ho)
          · exact OPL.bad2 hW (c := 3) (by decide) (by decide) (h_table_3' w1.1 (x_table_3 w1 i1.1 i j hi hj rfl rfl hij hu1 hu2 hd1 hd2 ho)) (fun M2 sz2 h => q9_table_3 h i1.1 i j hi hj rfl rfl hij hu1 hu2 hd1 hd2 ho)
  · have h : isP a = false ∨ isP b = false := by
      by_cases ha : isP a = true
      · exact Or.inr ((Bool.not_eq_true _).mp fun hb => hP ⟨ha, hb⟩)
      · exact Or.inl ((Bool.not_eq_true _).mp ha)
    exact OPL.bad hW (c := 1) (by decide) (by decide) (h_table_1 w1.1 (x_table_1 w1 h)) (fun M2 sz2 hh => q9_table_1 hh h)
theorem op_offBy (g : GE) (a b u d : Int32) : OPL g m_L_offBy m_X9_offBy [rf g 0, .int a, .int b, .int u, .int d, rf g 105] [rf g 96, .int a, .int b, .int u, .int d] := by
  rintro M sz ⟨th, σ, τ, sn, hk, n, ps, len, tx, hW⟩
  obtain ⟨w1, w2, ⟨i1, i2, i3, i4, i5, i6⟩, o, w4⟩ := id hW
  by_cases hP : isP a = true ∧ isP b = true
  · obtain ⟨ha, hb⟩ := hP
    by_cases hab : a = b
    · exact OPL.bad hW (c := 2) (by decide) (by decide) (h_offBy_2 w1.1 (x_offBy_2a w1 ha hb hab)) (fun M2 sz2 h => q9_offBy_2 h ha hb (Or.inl hab))
    · by_cases hu : u < 1 ∨ ¬ u ≤ 99
      · exact OPL.bad hW (c := 2) (by decide) (by decide) (h_offBy_2 w1.1 (x_offBy_2b w1 ha hb hab hu)) (fun M2 sz2 h => q9_offBy_2 h ha hb (Or.inr (Or.inl (inI_f hu))))
      · have hu1 : ¬ u < 1 := fun h => hu (Or.inl h)
        have hu2 : u ≤ 99 := Decidable.of_not_not (fun h => hu (Or.inr h))
        by_cases hd : d < 1 ∨ ¬ d ≤ 99
        · exact OPL.bad hW (c := 2) (by decide) (by decide) (h_offBy_2 w1.1 (x_offBy_2c w1 ha hb hab hu1 hu2 hd)) (fun M2 sz2 h => q9_offBy_2 h ha hb (Or.inr (Or.inr (inI_f hd))))
        · have hd1 : ¬ d < 1 := fun h => hd (Or.inl h)
          have hd2 : d ≤ 99 := Decidable.of_not_not (fun h => hd (Or.inr h))
          obtain ⟨i, hi, rfl⟩ := isP_ex ha
          obtain ⟨j, hj, rfl⟩ := isP_ex hb
          have hij : i ≠ j := fun e => hab (by rw [e])
          exact OPL.ok hW (σ2 := σ) (τ2 := τ) (sn2 := sn) (hk2 := hk) (n2 := n) (ps2 := ps) (len2 := len) (tx2 := tx) ⟨i1, i2, i3, i4, i5, i6⟩ (h_offBy_ok w1.1 (x_offBy_ok w1 i1.1 i j hi hj rfl rfl hij hu1 hu2 hd1 hd2) (fun M1 q => CW.out w4 q.2)) (fun M2 sz2 h => q9_offBy_ok h i1.1 i j hi hj rfl rfl hij hu1 hu2 hd1 hd2)
  · have h : isP a = false ∨ isP b = false := by
      by_cases ha : isP a = true
      · exact Or.inr ((Bool.not_eq_true _).mp fun hb => hP ⟨ha, hb⟩)
      · exact Or.inl ((Bool.not_eq_true _).mp ha)
    exact OPL.bad hW (c := 1) (by decide) (by decide) (h_offBy_1 w1.1 (x_offBy_1 w1 h)) (fun M2 sz2 hh => q9_offBy_1 hh h)
