/-! append, clearBuffer, undo, keep, restore -/
/-- an operation that refuses nothing -/
def OPD (g : GE) (y8 y9 : MT) : Prop := ∀ (M : Mem) (sz : Nat), (∃ th, Inv g M th) → ∃ (b : Int32) (P1 : Mem → Prop), Run g y8 [rf g 0] M sz 0 0 (RetP (some (.int b)) P1) ∧ ∀ M1, P1 M1 → (∃ e, M1 96 = some (eO 9 e)) ∧ ∀ sz2, Run g y9 [rf g 96] M1 sz2 0 0 (RetP (some (.int b)) (fun M2 => ∃ th, Inv g M2 th))
theorem OPD.ok {g : GE} {y8 y9 : MT} {M : Mem} {sz : Nat} {σ τ sn : Nat → Int32} {hk : Bool} {n : Nat} {ps : Nat → Nat → Int32} {len : Nat} {tx : Nat → Int32} {th : Int32} (h : WLD g M σ τ sn hk n ps len tx th)
    {σ2 τ2 sn2 : Nat → Int32} {hk2 : Bool} {n2 : Nat} {ps2 : Nat → Nat → Int32} {len2 : Nat} {tx2 : Nat → Int32} {a : Int32} (hi : INV σ2 τ2 sn2 hk2 n2 ps2 len2 tx2)
    (h1 : Run g y8 [rf g 0] M sz 0 0 (RetP (some (.int a)) (fun M1 => CW g M1 σ2 τ2 hk2 n2 ps2 len2 tx2 ∧ FR M M1 0 96)))
    (h2 : ∀ M2 sz2, ML g M2 σ sn hk n ps len tx th → Run g y9 [rf g 96] M2 sz2 0 0 (RetP (some (.int a)) (fun M3 => ML g M3 σ2 sn2 hk2 n2 ps2 len2 tx2 0 ∧ FR M2 M3 96 9))) :
    ∃ (b : Int32) (P1 : Mem → Prop), Run g y8 [rf g 0] M sz 0 0 (RetP (some (.int b)) P1) ∧ ∀ M1, P1 M1 → (∃ e, M1 96 = some (eO 9 e)) ∧ ∀ sz2, Run g y9 [rf g 96] M1 sz2 0 0 (RetP (some (.int b)) (fun M2 => ∃ th, Inv g M2 th)) := by
  obtain ⟨w1, w2, w3, o, w4⟩ := h
  refine ⟨a, _, h1, fun M1 c => ?_⟩
  have hL := w2.fr (M1 := M1) (fun k k1 k2 => c.2 k (by omega))
  exact ⟨⟨_, hL.1.choose_spec.1.1⟩, fun sz2 => (h2 _ sz2 hL).mono fun o2 M3 q => ⟨q.1, 0, σ2, τ2, sn2, hk2, n2, ps2, len2, tx2, c.1.fr (fun k hk => q.2.2 k (by omega)), q.2.1, hi, o, (q.2.2 _ (by omega)).trans ((c.2 _ (by omega)).trans w4)⟩⟩
set_option maxRecDepth 20000 in
theorem r_add {g : GE} {M : Mem} {sz : Nat} {len : Nat} {tx : Nat → Int32} (hT : TT g M len tx) (hl : len < 60) (c : Int32) : Run g m_X5_add [rf g 83, .int c] M sz 0 0 (RetP none (fun M1 => TT g M1 (len + 1) (upd tx len c) ∧ FR M M1 83 2)) := by
  obtain ⟨⟨st, t1⟩, t2⟩ := hT
  refine Run.of rfl (by decide) (Nat.le_of_ble_eq_true rfl) ?_
  show V g m_X5_add 0 _ [] _ _ _ _ _
  refine V_aload_n 0 dX5_add_0 rfl ?_
  refine G_X5_15 rfl (show _ = some (TO g len st) from t1) rfl dX5_add_1 ?_
  refine V_bipush (v := 60) dX5_add_4 (by decide) ?_
  refine V_icmp_ge (tgt := 31) dX5_add_6 (by decide) (fun c6 => absurd c6 (nI_ge (b := 60) hl (by decide))) (fun c6 => ?_)
  refine V_aload_n 0 dX5_add_9 rfl ?_
  refine G_X5_9 rfl (show _ = some (TO g len st) from t1) rfl dX5_add_10 ?_
  refine V_aload_n 0 dX5_add_13 rfl ?_
  refine V_pc (pc2 := 14) rfl ?_
  refine G_X5_15 rfl (show _ = some (TO g len st) from t1) rfl dX5_add_14 ?_
  refine V_iload_n 1 dX5_add_17 rfl ?_
  refine C_X5_22 rfl ⟨Nat.le_of_ble_eq_true rfl, Nat.le_of_ble_eq_true rfl⟩ (r_put t2 len rfl hl (by decide)) rfl (Nat.le_of_ble_eq_true rfl) dX5_add_18 rfl ?_
  refine V_aload_n 0 dX5_add_21 rfl ?_
  refine V_dup dX5_add_22 rfl ?_
  refine G_X5_15 rfl (show _ = some (TO g len st) from (mup_ne _ _ (by decide)).trans t1) rfl dX5_add_23 ?_
  refine V_iconst (v := 1) dX5_add_26 rfl ?_
  refine V_iadd dX5_add_27 ?_
  refine V_pc (pc2 := 28) rfl ?_
  refine P_X5_15 rfl (show _ = some (TO g len st) from (mup_ne _ _ (by decide)).trans t1) (Nat.le_of_ble_eq_true rfl) rfl rfl dX5_add_28 ?_
  refine V_ret (st := []) dX5_add_31 rfl ?_
  rw [nI_1]
  exact ⟨rfl, ⟨⟨st, mup_eq _ _ _⟩, (mup_ne _ _ (by decide)).trans (mup_eq _ _ _)⟩, ((FR.refl M 83 2).put (by omega)).put (by omega)⟩

set_option maxRecDepth 20000 in
theorem r_empty {g : GE} {M : Mem} {sz : Nat} {len : Nat} {tx : Nat → Int32} (hT : TT g M len tx) : Run g m_X5_empty [rf g 83] M sz 0 0 (RetP (some (.int (nI len))) (fun M1 => TT g M1 0 tx ∧ FR M M1 83 2)) := by
  obtain ⟨⟨st, t1⟩, t2⟩ := hT
  refine Run.of rfl (by decide) (Nat.le_of_ble_eq_true rfl) ?_
  show V g m_X5_empty 0 _ [] _ _ _ _ _
  refine V_aload_n 0 dX5_empty_0 rfl ?_
  refine G_X5_15 rfl (show _ = some (TO g len st) from t1) rfl dX5_empty_1 ?_
  refine V_istore_n (lv2 := [(1, .int _), (0, .ref _)]) dX5_empty_4 (Nat.le_of_ble_eq_true rfl) rfl ?_
  refine V_aload_n 1 dX5_empty_5 rfl ?_
  refine V_iconst (v := 0) dX5_empty_6 rfl ?_
  refine P_X5_15 rfl (show _ = some (TO g len st) from t1) (Nat.le_of_ble_eq_true rfl) rfl rfl dX5_empty_7 ?_
  refine V_iload_n 0 dX5_empty_10 rfl ?_
  refine V_pc (pc2 := 11) rfl ?_
  refine V_iret (st := []) dX5_empty_11 rfl ?_
  exact ⟨rfl, ⟨⟨st, mup_eq _ _ _⟩, (mup_ne _ _ (by decide)).trans t2⟩, (FR.refl M 83 2).put (by omega)⟩

set_option maxRecDepth 20000 in
theorem x_append_1 {g : GE} {M : Mem} {sz : Nat} {σ τ : Nat → Int32} {hk : Bool} {n : Nat} {ps : Nat → Nat → Int32} {len : Nat} {tx : Nat → Int32} (hC : CW g M σ τ hk n ps len tx) {c : Int32} (hc : c < 33 ∨ ¬ c ≤ 126) : Run g m_X8_append [rf g 0, .int c] M sz 1 6 (Thr (exN 1) M) := by
  refine Run.of rfl (by decide) (Nat.le_of_ble_eq_true rfl) ?_
  show V g m_X8_append 0 _ [] _ _ _ _ _
  refine V_iload_n 1 dX8_append_0 rfl ?_
  refine V_bipush (v := 33) dX8_append_1 (by decide) ?_
  refine V_bipush (v := 126) dX8_append_3 (by decide) ?_
  refine Ct_X8_66 rfl rfl ⟨Nat.le_of_ble_eq_true rfl, Nat.le_of_ble_eq_true rfl⟩ (r_checkRange_bad hc) rfl (Nat.le_of_ble_eq_true rfl) dX8_append_5 rfl ?_
  exact ⟨rfl, rfl⟩

set_option maxRecDepth 20000 in
theorem x_append_2 {g : GE} {M : Mem} {sz : Nat} {σ τ : Nat → Int32} {hk : Bool} {n : Nat} {ps : Nat → Nat → Int32} {len : Nat} {tx : Nat → Int32} (hC : CW g M σ τ hk n ps len tx) {c : Int32} (hc : ¬ c < 33) (hc2 : c ≤ 126) (hl : len = 60) : Run g m_X8_append [rf g 0, .int c] M sz 1 6 (Thr (exN 2) M) := by
  subst hl
  obtain ⟨st, t1⟩ := hC.2.2.2.2.1.1
  refine Run.of rfl (by decide) (Nat.le_of_ble_eq_true rfl) ?_
  show V g m_X8_append 0 _ [] _ _ _ _ _
  refine V_iload_n 1 dX8_append_0 rfl ?_
  refine V_bipush (v := 33) dX8_append_1 (by decide) ?_
  refine V_bipush (v := 126) dX8_append_3 (by decide) ?_
  refine C_X8_66 rfl ⟨Nat.le_of_ble_eq_true rfl, Nat.le_of_ble_eq_true rfl⟩ (r_checkRange_ok hc hc2) rfl (Nat.le_of_ble_eq_true rfl) dX8_append_5 rfl ?_
  refine V_aload_n 0 dX8_append_8 rfl ?_
  refine G_X8_29 rfl hC.1 rfl dX8_append_9 ?_
  refine G_X8_175 rfl (show _ = some (TO g 60 st) from t1) rfl dX8_append_12 ?_
  refine V_pc (pc2 := 15) rfl ?_
  refine V_bipush (v := 60) dX8_append_15 (by decide) ?_
  refine V_icmp_lt (tgt := 30) dX8_append_17 (by decide) (fun c17 => absurd c17 (by decide)) (fun c17 => ?_)
  refine V_throwS 2 5 (by decide) (by decide) rfl rfl rfl rfl rfl (Nat.le_of_ble_eq_true rfl) (Nat.le_of_ble_eq_true rfl) dX8_append_20 dX8_append_23 dX8_append_24 dX8_append_26 dX8_append_29 ?_
  exact ⟨rfl, rfl⟩

set_option maxRecDepth 20000 in
theorem x_append_ok {g : GE} {M : Mem} {sz : Nat} {σ τ : Nat → Int32} {hk : Bool} {n : Nat} {ps : Nat → Nat → Int32} {len : Nat} {tx : Nat → Int32} (hC : CW g M σ τ hk n ps len tx) {c : Int32} (hc : ¬ c < 33) (hc2 : c ≤ 126) (hl : len < 60) : Run g m_X8_append [rf g 0, .int c] M sz 0 0 (RetP (some (.int (nI (len + 1)))) (fun M2 => CW g M2 (σ) (τ) (hk) (n) (ps) (len + 1) (upd tx len c) ∧ FR M M2 0 96)) := by
  obtain ⟨st, t1⟩ := hC.2.2.2.2.1.1
  refine Run.of rfl (by decide) (Nat.le_of_ble_eq_true rfl) ?_
  show V g m_X8_append 0 _ [] _ _ _ _ _
  refine V_iload_n 1 dX8_append_0 rfl ?_
  refine V_bipush (v := 33) dX8_append_1 (by decide) ?_
  refine V_bipush (v := 126) dX8_append_3 (by decide) ?_
  refine C_X8_66 rfl ⟨Nat.le_of_ble_eq_true rfl, Nat.le_of_ble_eq_true rfl⟩ (r_checkRange_ok hc hc2) rfl (Nat.le_of_ble_eq_true rfl) dX8_append_5 rfl ?_
  refine V_aload_n 0 dX8_append_8 rfl ?_
  refine G_X8_29 rfl hC.1 rfl dX8_append_9 ?_
  refine G_X8_175 rfl (show _ = some (TO g len st) from t1) rfl dX8_append_12 ?_
  refine V_pc (pc2 := 15) rfl ?_
  refine V_bipush (v := 60) dX8_append_15 (by decide) ?_
  refine V_icmp_lt (tgt := 30) dX8_append_17 (by decide) (fun c17 => ?_) (fun c17 => absurd (nI_lt (b := 60) hl (by decide)) c17)
  refine V_aload_n 0 dX8_append_30 rfl ?_
  refine G_X8_29 rfl hC.1 rfl dX8_append_31 ?_
  refine V_iload_n 1 dX8_append_34 rfl ?_
  refine Cp_X8_180 (show _ = some (TO g len st) from t1) rfl ⟨Nat.le_of_ble_eq_true rfl, Nat.le_of_ble_eq_true rfl⟩ (r_add hC.2.2.2.2.1 hl c) rfl (Nat.le_of_ble_eq_true rfl) dX8_append_35 rfl (fun _ q9 => ?_)
  have hC2 := hC.txt q9.1 q9.2
  have hF2 := q9.2
  clear q9
  obtain ⟨s2, s3⟩ := hC2.2.2.2.2.1.1
  refine V_aload_n 0 dX8_append_38 rfl ?_
  refine G_X8_29 rfl hC2.1 rfl dX8_append_39 ?_
  refine V_pc (pc2 := 42) rfl ?_
  refine G_X8_175 rfl (show _ = some (TO g (len + 1) s2) from s3) rfl dX8_append_42 ?_
  refine V_iret (st := []) dX8_append_45 rfl ?_
  exact ⟨rfl, hC2, hF2.wide (by omega)⟩

set_option maxRecDepth 20000 in
theorem x_clearBuffer_ok {g : GE} {M : Mem} {sz : Nat} {σ τ : Nat → Int32} {hk : Bool} {n : Nat} {ps : Nat → Nat → Int32} {len : Nat} {tx : Nat → Int32} (hC : CW g M σ τ hk n ps len tx) : Run g m_X8_clearBuffer [rf g 0] M sz 0 0 (RetP (some (.int (nI len))) (fun M2 => CW g M2 (σ) (τ) (hk) (n) (ps) (0) (tx) ∧ FR M M2 0 96)) := by
  obtain ⟨st, t1⟩ := hC.2.2.2.2.1.1
  refine Run.of rfl (by decide) (Nat.le_of_ble_eq_true rfl) ?_
  show V g m_X8_clearBuffer 0 _ [] _ _ _ _ _
  refine V_aload_n 0 dX8_clearBuffer_0 rfl ?_
  refine G_X8_29 rfl hC.1 rfl dX8_clearBuffer_1 ?_
  refine Cp_X8_183 (show _ = some (TO g len st) from t1) rfl ⟨Nat.le_of_ble_eq_true rfl, Nat.le_of_ble_eq_true rfl⟩ (r_empty hC.2.2.2.2.1) rfl (Nat.le_of_ble_eq_true rfl) dX8_clearBuffer_4 rfl (fun _ q9 => ?_)
  refine V_iret (st := []) dX8_clearBuffer_7 rfl ?_
  exact ⟨rfl, hC.txt q9.1 q9.2, q9.2.wide (by omega)⟩

set_option maxRecDepth 20000 in
theorem q9_append_1 {g : GE} {M : Mem} {sz : Nat} {σ sn : Nat → Int32} {hk : Bool} {n : Nat} {ps : Nat → Nat → Int32} {len : Nat} {tx : Nat → Int32} {th : Int32} (hL : ML g M σ sn hk n ps len tx th) {c : Int32} (hc : c < 33 ∨ ¬ c ≤ 126) : Run g m_X9_append [rf g 96, .int c] M sz 0 0 (RetP (some (.int 0)) (fun M2 => ML g M2 (σ) (sn) (hk) (n) (ps) (len) (tx) (1) ∧ FR M M2 96 9)) := by
  obtain ⟨⟨v, hM, v0, v1, v2, v3⟩, ⟨pf, f1, f2⟩, f3, f4, f5⟩ := id hL
  refine Run.of rfl (by decide) (Nat.le_of_ble_eq_true rfl) ?_
  show V g m_X9_append 0 _ [] _ _ _ _ _
  refine V_aload_n 0 dX9_append_0 rfl ?_
  refine V_iload_n 1 dX9_append_1 rfl ?_
  refine V_bipush (v := 33) dX9_append_2 (by decide) ?_
  refine V_bipush (v := 126) dX9_append_4 (by decide) ?_
  refine C_X9_44 rfl ⟨Nat.le_of_ble_eq_true rfl, Nat.le_of_ble_eq_true rfl⟩ (r9_in _ _ _) rfl (Nat.le_of_ble_eq_true rfl) dX9_append_6 rfl ?_
  refine V_if_ne (tgt := 16) dX9_append_9 (by decide) (fun c9 => absurd (by rw [inI_f hc]; rfl) c9) (fun c9 => ?_)
  refine V_iconst (v := 1) dX9_append_12 rfl ?_
  refine V_pc (pc2 := 13) rfl ?_
  refine V_goto (tgt := 30) dX9_append_13 (by decide) ?_
  refine C_X9_111 hM.1 rfl ⟨Nat.le_of_ble_eq_true rfl, Nat.le_of_ble_eq_true rfl⟩ (r9_refused hM 1) rfl (Nat.le_of_ble_eq_true rfl) dX9_append_30 rfl ?_
  refine V_if_eq (tgt := 38) dX9_append_33 (by decide) (fun c33 => absurd c33 (by decide)) (fun c33 => ?_)
  refine V_iconst (v := 0) dX9_append_36 rfl ?_
  refine V_iret (st := []) dX9_append_37 rfl ?_
  refine ⟨rfl, hL.thr hM v0 v1 v2, (FR.refl M 96 9).put (by omega)⟩

set_option maxRecDepth 20000 in
theorem q9_append_2 {g : GE} {M : Mem} {sz : Nat} {σ sn : Nat → Int32} {hk : Bool} {n : Nat} {ps : Nat → Nat → Int32} {len : Nat} {tx : Nat → Int32} {th : Int32} (hL : ML g M σ sn hk n ps len tx th) {c : Int32} (hc : ¬ c < 33) (hc2 : c ≤ 126) (hl : len = 60) : Run g m_X9_append [rf g 96, .int c] M sz 0 0 (RetP (some (.int 0)) (fun M2 => ML g M2 (σ) (sn) (hk) (n) (ps) (len) (tx) (2) ∧ FR M M2 96 9)) := by
  subst hl
  obtain ⟨⟨v, hM, v0, v1, v2, v3⟩, ⟨pf, f1, f2⟩, f3, f4, f5⟩ := id hL
  refine Run.of rfl (by decide) (Nat.le_of_ble_eq_true rfl) ?_
  show V g m_X9_append 0 _ [] _ _ _ _ _
  refine V_aload_n 0 dX9_append_0 rfl ?_
  refine V_iload_n 1 dX9_append_1 rfl ?_
  refine V_bipush (v := 33) dX9_append_2 (by decide) ?_
  refine V_bipush (v := 126) dX9_append_4 (by decide) ?_
  refine C_X9_44 rfl ⟨Nat.le_of_ble_eq_true rfl, Nat.le_of_ble_eq_true rfl⟩ (r9_in _ _ _) rfl (Nat.le_of_ble_eq_true rfl) dX9_append_6 rfl ?_
  refine V_if_ne (tgt := 16) dX9_append_9 (by decide) (fun c9 => ?_) (fun c9 => absurd c9 (by rw [inI_t hc hc2]; decide))
  refine V_aload_n 0 dX9_append_16 rfl ?_
  refine V_pc (pc2 := 17) rfl ?_
  refine G_X9_159 rfl hM.1 rfl dX9_append_17 ?_
  refine V_bipush (v := 60) dX9_append_20 (by decide) ?_
  refine V_icmp_ne (tgt := 29) dX9_append_22 (by decide) (fun c22 => absurd (show v 2 = 60 from v2) c22) (fun c22 => ?_)
  refine V_iconst (v := 2) dX9_append_25 rfl ?_
  refine V_goto (tgt := 30) dX9_append_26 (by decide) ?_
  refine C_X9_111 hM.1 rfl ⟨Nat.le_of_ble_eq_true rfl, Nat.le_of_ble_eq_true rfl⟩ (r9_refused hM 2) rfl (Nat.le_of_ble_eq_true rfl) dX9_append_30 rfl ?_
  refine V_if_eq (tgt := 38) dX9_append_33 (by decide) (fun c33 => absurd c33 (by decide)) (fun c33 => ?_)
  refine V_iconst (v := 0) dX9_append_36 rfl ?_
  refine V_pc (pc2 := 37) rfl ?_
  refine V_iret (st := []) dX9_append_37 rfl ?_
  refine ⟨rfl, hL.thr hM v0 v1 v2, (FR.refl M 96 9).put (by omega)⟩

set_option maxRecDepth 20000 in
theorem q9_append_ok {g : GE} {M : Mem} {sz : Nat} {σ sn : Nat → Int32} {hk : Bool} {n : Nat} {ps : Nat → Nat → Int32} {len : Nat} {tx : Nat → Int32} {th : Int32} (hL : ML g M σ sn hk n ps len tx th) {c : Int32} (hc : ¬ c < 33) (hc2 : c ≤ 126) (hl : len < 60) : Run g m_X9_append [rf g 96, .int c] M sz 0 0 (RetP (some (.int (nI (len + 1)))) (fun M2 => ML g M2 (σ) (sn) (hk) (n) (ps) (len + 1) (upd tx len c) (0) ∧ FR M M2 96 9)) := by
  obtain ⟨⟨v, hM, v0, v1, v2, v3⟩, ⟨pf, f1, f2⟩, f3, f4, f5⟩ := id hL
  refine Run.of rfl (by decide) (Nat.le_of_ble_eq_true rfl) ?_
  show V g m_X9_append 0 _ [] _ _ _ _ _
  refine V_aload_n 0 dX9_append_0 rfl ?_
  refine V_iload_n 1 dX9_append_1 rfl ?_
  refine V_bipush (v := 33) dX9_append_2 (by decide) ?_
  refine V_bipush (v := 126) dX9_append_4 (by decide) ?_
  refine C_X9_44 rfl ⟨Nat.le_of_ble_eq_true rfl, Nat.le_of_ble_eq_true rfl⟩ (r9_in _ _ _) rfl (Nat.le_of_ble_eq_true rfl) dX9_append_6 rfl ?_
  refine V_if_ne (tgt := 16) dX9_append_9 (by decide) (fun c9 => ?_) (fun c9 => absurd c9 (by rw [inI_t hc hc2]; decide))
  refine V_aload_n 0 dX9_append_16 rfl ?_
  refine V_pc (pc2 := 17) rfl ?_
  refine G_X9_159 rfl hM.1 rfl dX9_append_17 ?_
  refine V_bipush (v := 60) dX9_append_20 (by decide) ?_
  refine V_icmp_ne (tgt := 29) dX9_append_22 (by decide) (fun c22 => ?_) (fun c22 => absurd c22 (fun e => by have e2 : nI len = nI 60 := v2.symm.trans e; have := (nI_eq (by omega) (by decide)).mp e2; omega))
  refine V_iconst (v := 0) dX9_append_29 rfl ?_
  refine C_X9_111 hM.1 rfl ⟨Nat.le_of_ble_eq_true rfl, Nat.le_of_ble_eq_true rfl⟩ (r9_refused hM 0) rfl (Nat.le_of_ble_eq_true rfl) dX9_append_30 rfl ?_
  refine V_if_eq (tgt := 38) dX9_append_33 (by decide) (fun c33 => ?_) (fun c33 => absurd (by decide) c33)
  refine V_aload_n 0 dX9_append_38 rfl ?_
  refine G_X9_19 rfl (show _ = some (MO g (upd v 3 0)) from mup_eq _ _ _) rfl dX9_append_39 ?_
  refine V_pc (pc2 := 42) rfl ?_
  refine V_aload_n 0 dX9_append_42 rfl ?_
  refine G_X9_159 rfl (show _ = some (MO g (upd v 3 0)) from mup_eq _ _ _) rfl dX9_append_43 ?_
  refine V_iload_n 1 dX9_append_46 rfl ?_
  refine V_iast (show _ = some (eI g 60 tx) from (mup_ne _ _ (by decide)).trans f4) (show vp_in (v 2) 60 by rw [v2]; exact vp_in_nI hl (by decide)) dX9_append_47 ?_
  refine V_aload_n 0 dX9_append_48 rfl ?_
  refine V_dup dX9_append_49 rfl ?_
  refine G_X9_159 rfl (show _ = some (MO g (upd v 3 0)) from (mup_ne _ _ (by decide)).trans (mup_eq _ _ _)) rfl dX9_append_50 ?_
  refine V_iconst (v := 1) dX9_append_53 rfl ?_
  refine V_pc (pc2 := 54) rfl ?_
  refine V_iadd dX9_append_54 ?_
  refine P_X9_159 rfl (show _ = some (MO g (upd v 3 0)) from (mup_ne _ _ (by decide)).trans (mup_eq _ _ _)) (Nat.le_of_ble_eq_true rfl) rfl rfl dX9_append_55 ?_
  refine V_aload_n 0 dX9_append_58 rfl ?_
  refine G_X9_159 rfl (show _ = some (MO g (upd (upd v 3 0) 2 (upd v 3 0 2 + 1))) from mup_eq _ _ _) rfl dX9_append_59 ?_
  refine V_iret (st := []) dX9_append_62 rfl ?_
  rw [show upd v 3 0 2 = nI len from v2, nI_clamp (by omega)]
  refine ⟨by rw [← nI_1]; rfl, ?_, ((((FR.refl M 96 9).put (by omega)).put (by omega)).put (by omega))⟩
  obtain ⟨a, b, f5, f6⟩ := f5
  exact ⟨⟨upd (upd v 3 0) 2 (nI len + 1), ((hM.v (upd v 3 0)).o (k := 100) (by decide) (by decide) (by decide) (by decide)).v (upd (upd v 3 0) 2 (nI len + 1)), v0, v1, nI_1 _, rfl⟩, ⟨pf, (mup_ne _ _ (by decide)).trans ((mup_ne _ _ (by decide)).trans ((mup_ne _ _ (by decide)).trans f1)), f2⟩, (mup_ne _ _ (by decide)).trans ((mup_ne _ _ (by decide)).trans ((mup_ne _ _ (by decide)).trans f3)), (mup_ne _ _ (by decide)).trans (mup_eq _ _ _), a, b, (mup_ne _ _ (by decide)).trans ((mup_ne _ _ (by decide)).trans ((mup_ne _ _ (by decide)).trans f5)), (mup_ne _ _ (by decide)).trans ((mup_ne _ _ (by decide)).trans ((mup_ne _ _ (by decide)).trans f6))⟩

set_option maxRecDepth 20000 in
theorem q9_clearBuffer_ok {g : GE} {M : Mem} {sz : Nat} {σ sn : Nat → Int32} {hk : Bool} {n : Nat} {ps : Nat → Nat → Int32} {len : Nat} {tx : Nat → Int32} {th : Int32} (hL : ML g M σ sn hk n ps len tx th) : Run g m_X9_clearBuffer [rf g 96] M sz 0 0 (RetP (some (.int (nI len))) (fun M2 => ML g M2 (σ) (sn) (hk) (n) (ps) (0) (tx) (0) ∧ FR M M2 96 9)) := by
  obtain ⟨⟨v, hM, v0, v1, v2, v3⟩, ⟨pf, f1, f2⟩, f3, f4, f5⟩ := id hL
  refine Run.of rfl (by decide) (Nat.le_of_ble_eq_true rfl) ?_
  show V g m_X9_clearBuffer 0 _ [] _ _ _ _ _
  refine V_aload_n 0 dX9_clearBuffer_0 rfl ?_
  refine V_iconst (v := 0) dX9_clearBuffer_1 rfl ?_
  refine P_X9_40 rfl hM.1 (Nat.le_of_ble_eq_true rfl) rfl rfl dX9_clearBuffer_2 ?_
  refine V_aload_n 0 dX9_clearBuffer_5 rfl ?_
  refine G_X9_159 rfl (show _ = some (MO g (upd v 3 0)) from mup_eq _ _ _) rfl dX9_clearBuffer_6 ?_
  refine V_istore_n (lv2 := [(1, .int _), (0, .ref _)]) dX9_clearBuffer_9 (Nat.le_of_ble_eq_true rfl) rfl ?_
  refine V_aload_n 1 dX9_clearBuffer_10 rfl ?_
  refine V_pc (pc2 := 11) rfl ?_
  refine V_iconst (v := 0) dX9_clearBuffer_11 rfl ?_
  refine P_X9_159 rfl (show _ = some (MO g (upd v 3 0)) from mup_eq _ _ _) (Nat.le_of_ble_eq_true rfl) rfl rfl dX9_clearBuffer_12 ?_
  refine V_iload_n 0 dX9_clearBuffer_15 rfl ?_
  refine V_iret (st := []) dX9_clearBuffer_16 rfl ?_
  rw [show upd v 3 0 2 = nI len from v2]
  refine ⟨rfl, ?_, ((FR.refl M 96 9).put (by omega)).put (by omega)⟩
  obtain ⟨a, b, f5, f6⟩ := f5
  exact ⟨⟨upd (upd v 3 0) 2 0, (hM.v (upd v 3 0)).v (upd (upd v 3 0) 2 0), v0, v1, rfl, rfl⟩, ⟨pf, (mup_ne _ _ (by decide)).trans ((mup_ne _ _ (by decide)).trans f1), f2⟩, (mup_ne _ _ (by decide)).trans ((mup_ne _ _ (by decide)).trans f3), (mup_ne _ _ (by decide)).trans ((mup_ne _ _ (by decide)).trans f4), a, b, (mup_ne _ _ (by decide)).trans ((mup_ne _ _ (by decide)).trans f5), (mup_ne _ _ (by decide)).trans ((mup_ne _ _ (by decide)).trans f6)⟩

theorem op_append (g : GE) (c : Int32) : OPL g m_L_append m_X9_append [rf g 0, .int c, rf g 105] [rf g 96, .int c] := by
  rintro M sz ⟨th, σ, τ, sn, hk, n, ps, len, tx, hW⟩
  obtain ⟨w1, w2, ⟨i1, i2, i3, i4, i5, i6⟩, o, w4⟩ := id hW
  by_cases hu : c < 33 ∨ ¬ c ≤ 126
  · exact OPL.bad hW (c := 1) (by decide) (by decide) (h_append_1 w1.1 (x_append_1 w1 hu)) (fun M2 sz2 h => q9_append_1 h hu)
  · have hu1 : ¬ c < 33 := fun h => hu (Or.inl h)
    have hu2 : c ≤ 126 := Decidable.of_not_not (fun h => hu (Or.inr h))
    by_cases hl : len = 60
    · exact OPL.bad hW (c := 2) (by decide) (by decide) (h_append_2 w1.1 (x_append_2 w1 hu1 hu2 hl)) (fun M2 sz2 h => q9_append_2 h hu1 hu2 hl)
    · refine OPL.ok hW (σ2 := σ) (τ2 := τ) (sn2 := sn) (hk2 := hk) (n2 := n) (ps2 := ps) (len2 := len + 1) (tx2 := upd tx len c) ⟨i1, i2, i3, i4, by omega, fun k hk => ?_⟩ (h_append_ok w1.1 (x_append_ok w1 hu1 hu2 (by omega)) (fun M1 q => CW.out w4 q.2)) (fun M2 sz2 h => q9_append_ok h hu1 hu2 (by omega))
      by_cases e : k = len
      · subst e; rw [upd_at]; exact nI_rng (l := 33) (h := 126) hu1 hu2 (by decide) (by decide)
      · rw [upd_ne e]; exact i6 k (by omega)
theorem op_clearBuffer (g : GE) : OPD g m_X8_clearBuffer m_X9_clearBuffer := by
  rintro M sz ⟨th, σ, τ, sn, hk, n, ps, len, tx, hW⟩
  obtain ⟨w1, w2, ⟨i1, i2, i3, i4, i5, i6⟩, o, w4⟩ := id hW
  exact OPD.ok hW (σ2 := σ) (τ2 := τ) (sn2 := sn) (hk2 := hk) (n2 := n) (ps2 := ps) (len2 := 0) (tx2 := tx) ⟨i1, i2, i3, i4, by omega, fun k hk => absurd hk (by omega)⟩ (x_clearBuffer_ok w1) (fun M2 sz2 h => q9_clearBuffer_ok h)
theorem IS.ext {σ τ : Nat → Int32} (h : ∀ k, k < 65 → σ k = τ k) (hs : IS σ) : IS τ := by
  obtain ⟨h1, ⟨n, hn, hn2, h2⟩, h3, h4, h5, h6, h7⟩ := hs
  exact ⟨fun k hk => by rw [← h _ (by omega), ← h _ (by omega)]; exact h1 k hk, ⟨n, hn, by rw [← h _ (by omega)]; exact hn2, fun j hj => by rw [← h _ (by omega), ← h _ (by omega)]; exact h2 j hj⟩, fun j hj => by rw [← h _ (by omega)]; exact h3 j hj, by rw [← h _ (by omega)]; exact h4, by rw [← h _ (by omega)]; exact h5, by rw [← h _ (by omega)]; exact h6, by rw [← h _ (by omega), ← h _ (by omega)]; exact h7⟩
theorem rowN_in {f h : Nat → Int32} {i k : Nat} (e : k < i) : rowN f h i k = f k := if_pos e
set_option maxRecDepth 20000 in
theorem x_undo_1 {g : GE} {M : Mem} {sz : Nat} {σ τ : Nat → Int32} {hk : Bool} {n : Nat} {ps : Nat → Nat → Int32} {len : Nat} {tx : Nat → Int32} (hC : CW g M σ τ hk n ps len tx) (h0 : n = 0) : Run g m_X8_undo [rf g 0] M sz 1 6 (Thr (exN 2) M) := by
  subst h0
  refine Run.of rfl (by decide) (Nat.le_of_ble_eq_true rfl) ?_
  show V g m_X8_undo 0 _ [] _ _ _ _ _
  refine V_aload_n 0 dX8_undo_0 rfl ?_
  refine G_X8_22 rfl hC.1 rfl dX8_undo_1 ?_
  refine G_X8_219 rfl (show _ = some (HO g 0) from hC.2.2.2.1.choose_spec.1) rfl dX8_undo_4 ?_
  refine V_if_gt (tgt := 20) dX8_undo_7 (by decide) (fun c7 => absurd c7 (by decide)) (fun c7 => ?_)
  refine V_throwS 2 7 (by decide) (by decide) rfl rfl rfl rfl rfl (Nat.le_of_ble_eq_true rfl) (Nat.le_of_ble_eq_true rfl) dX8_undo_10 dX8_undo_13 dX8_undo_14 dX8_undo_16 dX8_undo_19 ?_
  exact ⟨rfl, rfl⟩

set_option maxRecDepth 20000 in
theorem x_undo_ok {g : GE} {M : Mem} {sz : Nat} {σ τ : Nat → Int32} {hk : Bool} {n : Nat} {ps : Nat → Nat → Int32} {len : Nat} {tx : Nat → Int32} (hC : CW g M σ τ hk (n + 1) ps len tx) (hn : n < 6) : Run g m_X8_undo [rf g 0] M sz 0 0 (RetP (some (.int (nI n))) (fun M2 => CW g M2 (rowN (ps n) σ 65) (τ) (hk) (n) (ps) (len) (tx) ∧ FR M M2 0 96)) := by
  refine Run.of rfl (by decide) (Nat.le_of_ble_eq_true rfl) ?_
  show V g m_X8_undo 0 _ [] _ _ _ _ _
  refine V_aload_n 0 dX8_undo_0 rfl ?_
  refine G_X8_22 rfl hC.1 rfl dX8_undo_1 ?_
  refine G_X8_219 rfl (show _ = some (HO g (n + 1)) from hC.2.2.2.1.choose_spec.1) rfl dX8_undo_4 ?_
  refine V_if_gt (tgt := 20) dX8_undo_7 (by decide) (fun c7 => ?_) (fun c7 => absurd (by rw [← nI_0]; exact nI_lt (by omega) (by omega)) c7)
  refine V_aload_n 0 dX8_undo_20 rfl ?_
  refine G_X8_22 rfl hC.1 rfl dX8_undo_21 ?_
  refine V_aload_n 0 dX8_undo_24 rfl ?_
  refine V_pc (pc2 := 25) rfl ?_
  refine G_X8_10 rfl hC.1 rfl dX8_undo_25 ?_
  refine Cp_X8_222 hC.2.2.2.1.choose_spec.1 rfl ⟨Nat.le_of_ble_eq_true rfl, Nat.le_of_ble_eq_true rfl⟩ (r_pop hC.2.2.2.1 hn hC.2.1 (by omega)) rfl (Nat.le_of_ble_eq_true rfl) dX8_undo_28 rfl (fun _ q9 => ?_)
  have e9 : ∀ k, k ≠ 21 → ¬ (1 ≤ k ∧ k < 11) → _ = M k := fun k h1 h2 => (q9.2.2 k (by omega)).trans (mup_ne _ _ h1)
  have hC2 : CW g _ (rowN (ps n) σ 65) τ hk n ps len tx := ⟨(e9 _ (by omega) (by omega)).trans hC.1, q9.2.1.ext (fun k hk => (rowN_in hk).symm), hC.2.2.1.fr (fun k a b => e9 k (by omega) (by omega)), q9.1, hC.2.2.2.2.1.fr (fun k a b => e9 k (by omega) (by omega)), hC.2.2.2.2.2.fr (fun k a b => e9 k (by omega) (by omega))⟩
  refine V_aload_n 0 dX8_undo_31 rfl ?_
  refine G_X8_22 rfl hC2.1 rfl dX8_undo_32 ?_
  refine G_X8_219 rfl (show _ = some (HO g n) from hC2.2.2.2.1.choose_spec.1) rfl dX8_undo_35 ?_
  refine V_iret (st := []) dX8_undo_38 rfl ?_
  exact ⟨rfl, hC2, fun k hk => e9 k (by omega) (by omega)⟩

set_option maxRecDepth 20000 in
theorem q9_undo_1 {g : GE} {M : Mem} {sz : Nat} {σ sn : Nat → Int32} {hk : Bool} {n : Nat} {ps : Nat → Nat → Int32} {len : Nat} {tx : Nat → Int32} {th : Int32} (hL : ML g M σ sn hk n ps len tx th) (h0 : n = 0) : Run g m_X9_undo [rf g 96] M sz 0 0 (RetP (some (.int 0)) (fun M2 => ML g M2 (σ) (sn) (hk) (n) (ps) (len) (tx) (1) ∧ FR M M2 96 9)) := by
  subst h0
  obtain ⟨⟨v, hM, v0, v1, v2, v3⟩, ⟨pf, f1, f2⟩, f3, f4, f5⟩ := id hL
  refine Run.of rfl (by decide) (Nat.le_of_ble_eq_true rfl) ?_
  show V g m_X9_undo 0 _ [] _ _ _ _ _
  refine V_aload_n 0 dX9_undo_0 rfl ?_
  refine V_aload_n 0 dX9_undo_1 rfl ?_
  refine G_X9_48 rfl hM.1 rfl dX9_undo_2 ?_
  refine V_if_ne (tgt := 12) dX9_undo_5 (by decide) (fun c5 => absurd v0 c5) (fun c5 => ?_)
  refine V_iconst (v := 1) dX9_undo_8 rfl ?_
  refine V_goto (tgt := 13) dX9_undo_9 (by decide) ?_
  refine C_X9_111 hM.1 rfl ⟨Nat.le_of_ble_eq_true rfl, Nat.le_of_ble_eq_true rfl⟩ (r9_refused hM 1) rfl (Nat.le_of_ble_eq_true rfl) dX9_undo_13 rfl ?_
  refine V_pc (pc2 := 16) rfl ?_
  refine V_if_eq (tgt := 21) dX9_undo_16 (by decide) (fun c16 => absurd c16 (by decide)) (fun c16 => ?_)
  refine V_iconst (v := 0) dX9_undo_19 rfl ?_
  refine V_iret (st := []) dX9_undo_20 rfl ?_
  refine ⟨rfl, hL.thr hM v0 v1 v2, (FR.refl M 96 9).put (by omega)⟩

set_option maxRecDepth 20000 in
theorem undo_loop {g : GE} {M : Mem} {sz : Nat} {σ w ps : Nat → Int32} (hW : MD g M σ w) {pf : Nat → Int32} {n : Nat} (hn : n < 6) (hw : w 0 = nI n) (h8 : M 98 = some (eI g 390 pf)) (hp : ∀ k, k < 65 → pf (65 * n + k) = ps k) {Q : Ou → Mem → Prop} (hq : Q (.inl (some (.int (nI n)))) (mup M 97 (eI g 65 (rowN ps σ 65)))) : ∀ e j : Nat, j + e = 65 → V g m_X9_undo 33 [(1, .int (nI j)), (0, rf g 96)] [] (mup M 97 (eI g 65 (rowN ps σ j))) sz 0 0 Q := by
  intro e
  induction e with
  | zero =>
    intro j hj
    obtain rfl : j = 65 := by omega
    refine V_iload_n 0 dX9_undo_33 rfl ?_
    refine V_bipush (v := 65) dX9_undo_34 (by decide) ?_
    refine V_icmp_ge (tgt := 65) dX9_undo_36 (by decide) (fun c36 => ?_) (fun c36 => absurd (by decide) c36)
    refine V_aload_n 1 dX9_undo_65 rfl ?_
    refine G_X9_48 rfl (hW.put _).1 rfl dX9_undo_66 ?_
    refine V_iret (st := []) dX9_undo_69 rfl ?_
    rw [hw]; exact hq
  | succ e ih =>
    intro j hj
    have hlt : j < 65 := by omega
    refine V_iload_n 0 dX9_undo_33 rfl ?_
    refine V_bipush (v := 65) dX9_undo_34 (by decide) ?_
    refine V_icmp_ge (tgt := 65) dX9_undo_36 (by decide) (fun c36 => absurd c36 (nI_ge (b := 65) hlt (by decide))) (fun c36 => ?_)
    refine V_aload_n 1 dX9_undo_39 rfl ?_
    refine G_X9_7 rfl (hW.put _).1 rfl dX9_undo_40 ?_
    refine V_iload_n 0 dX9_undo_43 rfl ?_
    refine V_aload_n 1 dX9_undo_44 rfl ?_
    refine V_pc (pc2 := 45) rfl ?_
    refine G_X9_13 rfl (hW.put _).1 rfl dX9_undo_45 ?_
    refine V_bipush (v := 65) dX9_undo_48 (by decide) ?_
    refine V_aload_n 1 dX9_undo_50 rfl ?_
    refine G_X9_48 rfl (hW.put _).1 rfl dX9_undo_51 ?_
    rw [hw]
    refine V_imul dX9_undo_54 ?_
    refine V_iload_n 0 dX9_undo_55 rfl ?_
    refine V_iadd dX9_undo_56 ?_
    refine V_iald (show _ = some (eI g 390 pf) from (mup_ne _ _ (by decide)).trans h8) (by rw [show (65 : Int32) = nI 65 from rfl, pk_mul, nI_add]; exact vp_in_nI (n := 65 * n + j) (by omega) (by decide)) dX9_undo_57 ?_
    refine V_pc (pc2 := 58) rfl ?_
    refine V_iast (hW.put _).2.1 (vp_in_nI hlt (by decide)) dX9_undo_58 ?_
    refine V_iinc (v := _ + 1) (lv2 := [(1, .int _), (0, .ref _)]) 0 dX9_undo_59 rfl rfl (Nat.le_of_ble_eq_true rfl) rfl ?_
    refine V_goto (tgt := 33) dX9_undo_62 (by decide) ?_
    refine V_lv (lv2 := [(1, .int _), (0, .ref _)]) [0, 1] rfl ?_
    rw [nI_1, nI_clamp (n := j) (by omega), show (65 : Int32) = nI 65 from rfl, pk_mul, nI_add, nI_clamp (by omega), hp j hlt, mup_mup, rowN_s]
    exact ih (j + 1) (by omega)

set_option maxRecDepth 20000 in
theorem q9_undo_ok {g : GE} {M : Mem} {sz : Nat} {σ sn : Nat → Int32} {hk : Bool} {n : Nat} {ps : Nat → Nat → Int32} {len : Nat} {tx : Nat → Int32} {th : Int32} (hL : ML g M σ sn hk (n + 1) ps len tx th) (hn : n < 6) : Run g m_X9_undo [rf g 96] M sz 0 0 (RetP (some (.int (nI n))) (fun M2 => ML g M2 (rowN (ps n) σ 65) (sn) (hk) (n) (ps) (len) (tx) (0) ∧ FR M M2 96 9)) := by
  obtain ⟨⟨v, hM, v0, v1, v2, v3⟩, ⟨pf, f1, f2⟩, f3, f4, f5⟩ := id hL
  have eM : nI (n + 1) - 1 = nI n := by rw [show (1 : Int32) = nI 1 from rfl, pk_sub (by omega)]; rfl
  refine Run.of rfl (by decide) (Nat.le_of_ble_eq_true rfl) ?_
  show V g m_X9_undo 0 _ [] _ _ _ _ _
  refine V_aload_n 0 dX9_undo_0 rfl ?_
  refine V_aload_n 0 dX9_undo_1 rfl ?_
  refine G_X9_48 rfl hM.1 rfl dX9_undo_2 ?_
  rw [v0]
  refine V_if_ne (tgt := 12) dX9_undo_5 (by decide) (fun c5 => ?_) (fun c5 => absurd c5 (fun e => absurd ((nI_eq (b := 0) (by omega) (by decide)).mp e) (by omega)))
  refine V_iconst (v := 0) dX9_undo_12 rfl ?_
  refine C_X9_111 hM.1 rfl ⟨Nat.le_of_ble_eq_true rfl, Nat.le_of_ble_eq_true rfl⟩ (r9_refused hM 0) rfl (Nat.le_of_ble_eq_true rfl) dX9_undo_13 rfl ?_
  refine V_if_eq (tgt := 21) dX9_undo_16 (by decide) (fun c16 => ?_) (fun c16 => absurd (by decide) c16)
  refine V_pc (pc2 := 21) rfl ?_
  refine V_aload_n 0 dX9_undo_21 rfl ?_
  refine V_dup dX9_undo_22 rfl ?_
  refine G_X9_48 rfl (show _ = some (MO g (upd v 3 0)) from mup_eq _ _ _) rfl dX9_undo_23 ?_
  refine V_iconst (v := 1) dX9_undo_26 rfl ?_
  refine V_isub dX9_undo_27 ?_
  rw [show upd v 3 0 0 = nI (n + 1) from v0, eM]
  refine P_X9_48 rfl (show _ = some (MO g (upd v 3 0)) from mup_eq _ _ _) (Nat.le_of_ble_eq_true rfl) rfl rfl dX9_undo_28 ?_
  refine V_iconst (v := 0) dX9_undo_31 rfl ?_
  refine V_istore_n (lv2 := [(1, .int _), (0, .ref _)]) dX9_undo_32 (Nat.le_of_ble_eq_true rfl) rfl ?_
  refine V_lv (lv2 := [(1, .int _), (0, .ref _)]) [0, 1] rfl ?_
  have hW : MD g (mup (mup M 96 (MO g (upd v 3 0))) 96 (MO g (upd (upd v 3 0) 0 (nI n)))) σ (upd (upd v 3 0) 0 (nI n)) := (hM.v _).v _
  have e9 := undo_loop (sz := sz) (ps := ps n) hW hn (upd_at _ _ _) ((mup_ne _ _ (by decide)).trans ((mup_ne _ _ (by decide)).trans f1)) (f2 n (by omega)) (Q := RetP (some (.int (nI n))) (fun M2 => ML g M2 (rowN (ps n) σ 65) sn hk n ps len tx 0 ∧ FR M M2 96 9)) ⟨rfl, ?_, (((FR.refl M 96 9).put (by omega)).put (by omega)).put (by omega)⟩ 65 0 (by omega)
  · rw [rowN_0, mup_self hW.2.1] at e9
    exact e9
  · obtain ⟨a, b, f5, f6⟩ := f5
    exact ⟨⟨_, hW.put _, upd_at _ _ _, v1, v2, rfl⟩, ⟨pf, (mup_ne _ _ (by decide)).trans ((mup_ne _ _ (by decide)).trans ((mup_ne _ _ (by decide)).trans f1)), fun i hi => f2 i (by omega)⟩, (mup_ne _ _ (by decide)).trans ((mup_ne _ _ (by decide)).trans ((mup_ne _ _ (by decide)).trans f3)), (mup_ne _ _ (by decide)).trans ((mup_ne _ _ (by decide)).trans ((mup_ne _ _ (by decide)).trans f4)), a, b, (mup_ne _ _ (by decide)).trans ((mup_ne _ _ (by decide)).trans ((mup_ne _ _ (by decide)).trans f5)), (mup_ne _ _ (by decide)).trans ((mup_ne _ _ (by decide)).trans ((mup_ne _ _ (by decide)).trans f6))⟩

theorem op_undo (g : GE) : OPL g m_L_undo m_X9_undo [rf g 0, rf g 105] [rf g 96] := by
  rintro M sz ⟨th, σ, τ, sn, hk, n, ps, len, tx, hW⟩
  obtain ⟨w1, w2, ⟨i1, i2, i3, i4, i5, i6⟩, o, w4⟩ := id hW
  cases n with
  | zero => exact OPL.bad hW (c := 1) (by decide) (by decide) (h_undo_1 w1.1 (x_undo_1 w1 rfl)) (fun M2 sz2 h => q9_undo_1 h rfl)
  | succ n => exact OPL.ok hW (σ2 := rowN (ps n) σ 65) (τ2 := τ) (sn2 := sn) (hk2 := hk) (n2 := n) (ps2 := ps) (len2 := len) (tx2 := tx) ⟨(i4 n (by omega)).ext (fun k hk => (rowN_in hk).symm), i2, by omega, fun i hi => i4 i (by omega), i5, i6⟩ (h_undo_ok w1.1 (x_undo_ok w1 (by omega)) (fun M1 q => CW.out w4 q.2)) (fun M2 sz2 h => q9_undo_ok h (by omega))
theorem popc_l : ∀ l : List Bool, l.length = 10 → (popc (nI (mkL l)) == nI (cnt (fun k => l.getD k false) 10)) = true := len10 (by decide +kernel)
theorem popc_eq (σ : Nat → Int32) : popc (nI (mkL (hv σ))) = nI (cnt (fun k => decide (0 < σ k)) 10) := by
  have h := popc_l (hv σ) (hv_len σ)
  rw [beq_iff_eq] at h
  rw [h]
  rfl
theorem TS.size {g : GE} {M : Mem} {sz : Nat} {t : Nat} {σ : Nat → Int32} (h : TS g M t σ) : Run g m_X4_size [rf g t] M sz 0 0 (Ret (some (.int (nI (cnt (fun k => decide (0 < σ k)) 10)))) M) := by
  obtain ⟨f, p, h1, h2, h3, h4⟩ := h
  have e := r_size (sz := sz) h1
  rw [h4, popc_eq] at e
  exact e
def tabN (σ : Nat → Int32) : Int32 := nI (cnt (fun k => decide (0 < σ k)) 10)
set_option maxRecDepth 20000 in
theorem x_keep_ok {g : GE} {M : Mem} {sz : Nat} {σ τ : Nat → Int32} {hk : Bool} {n : Nat} {ps : Nat → Nat → Int32} {len : Nat} {tx : Nat → Int32} (hC : CW g M σ τ hk n ps len tx) : Run g m_X8_keep [rf g 0] M sz 0 0 (RetP (some (.int (tabN σ))) (fun M2 => CW g M2 (σ) (σ) (true) (n) (ps) (len) (tx) ∧ FR M M2 0 96)) := by
  obtain ⟨p0, y1, y2⟩ := hC.2.1.1
  obtain ⟨k0, k1, k2⟩ := hC.2.2.1.1
  refine Run.of rfl (by decide) (Nat.le_of_ble_eq_true rfl) ?_
  show V g m_X8_keep 0 _ [] _ _ _ _ _
  refine V_aload_n 0 dX8_keep_0 rfl ?_
  refine G_X8_16 rfl hC.1 rfl dX8_keep_1 ?_
  refine V_aload_n 0 dX8_keep_4 rfl ?_
  refine G_X8_10 rfl hC.1 rfl dX8_keep_5 ?_
  refine Cp_X8_225 k1 rfl ⟨Nat.le_of_ble_eq_true rfl, Nat.le_of_ble_eq_true rfl⟩ (r_ycopy hC.2.2.1 hC.2.1 (by omega)) rfl (Nat.le_of_ble_eq_true rfl) dX8_keep_8 rfl (fun _ q9 => ?_)
  refine V_aload_n 0 dX8_keep_11 rfl ?_
  refine V_iconst (v := 1) dX8_keep_12 rfl ?_
  refine V_pc (pc2 := 13) rfl ?_
  refine P_X8_58 rfl (show _ = some (XO g hk) from (q9.2 _ (by omega)).trans hC.1) (Nat.le_of_ble_eq_true rfl) rfl rfl dX8_keep_13 ?_
  have hC2 : CW g (mup _ 0 (XO g true)) σ σ true n ps len tx := ⟨mup_eq _ _ _, hC.2.1.fr (fun k a b => (mup_ne _ _ (by omega)).trans (q9.2 k (by omega))), q9.1.fr (fun k a b => mup_ne _ _ (by omega)), hC.2.2.2.1.fr (fun k a b => (mup_ne _ _ (by omega)).trans (q9.2 k (by omega))), hC.2.2.2.2.1.fr (fun k a b => (mup_ne _ _ (by omega)).trans (q9.2 k (by omega))), hC.2.2.2.2.2.fr (fun k a b => (mup_ne _ _ (by omega)).trans (q9.2 k (by omega)))⟩
  obtain ⟨z9, z3, z4⟩ := hC2.2.1.1
  refine V_pc (pc2 := 16) rfl ?_
  refine V_aload_n 0 dX8_keep_16 rfl ?_
  refine G_X8_10 rfl hC2.1 rfl dX8_keep_17 ?_
  refine G_X8_89 rfl z3 rfl dX8_keep_20 ?_
  refine C_X8_228 (show _ = some (eO 4 [rf g (1 + 3 + 1), .int _]) from hC2.2.1.2.2.2.1.choose_spec.choose_spec.1.1) rfl ⟨Nat.le_of_ble_eq_true rfl, Nat.le_of_ble_eq_true rfl⟩ (hC2.2.1.2.2.2.1.size) rfl (Nat.le_of_ble_eq_true rfl) dX8_keep_23 rfl ?_
  refine V_iret (st := []) dX8_keep_26 rfl ?_
  exact ⟨rfl, hC2, (q9.2.wide (by omega)).put (by omega)⟩

set_option maxRecDepth 20000 in
theorem x_restore_1 {g : GE} {M : Mem} {sz : Nat} {σ τ : Nat → Int32} {hk : Bool} {n : Nat} {ps : Nat → Nat → Int32} {len : Nat} {tx : Nat → Int32} (hC : CW g M σ τ hk n ps len tx) (h0 : hk = false) : Run g m_X8_restore [rf g 0] M sz 1 6 (Thr (exN 2) M) := by
  subst h0
  refine Run.of rfl (by decide) (Nat.le_of_ble_eq_true rfl) ?_
  show V g m_X8_restore 0 _ [] _ _ _ _ _
  refine V_aload_n 0 dX8_restore_0 rfl ?_
  refine G_X8_58 rfl hC.1 rfl dX8_restore_1 ?_
  refine V_if_ne (tgt := 17) dX8_restore_4 (by decide) (fun c4 => absurd rfl c4) (fun c4 => ?_)
  refine V_throwS 2 8 (by decide) (by decide) rfl rfl rfl rfl rfl (Nat.le_of_ble_eq_true rfl) (Nat.le_of_ble_eq_true rfl) dX8_restore_7 dX8_restore_10 dX8_restore_11 dX8_restore_13 dX8_restore_16 ?_
  exact ⟨rfl, rfl⟩

set_option maxRecDepth 20000 in
theorem x_restore_ok {g : GE} {M : Mem} {sz : Nat} {σ τ : Nat → Int32} {hk : Bool} {n : Nat} {ps : Nat → Nat → Int32} {len : Nat} {tx : Nat → Int32} (hC : CW g M σ τ hk n ps len tx) (hn : n ≤ 6) (h1 : hk = true) {sn : Nat → Int32} (hs : ∀ k, k < 65 → sn k = τ k) : Run g m_X8_restore [rf g 0] M sz 0 0 (RetP (some (.int (tabN (rowN sn σ 65)))) (fun M2 => CW g M2 (rowN sn σ 65) (τ) (hk) (pshN n) (pshP n ps σ) (len) (tx) ∧ FR M M2 0 96)) := by
  subst h1
  obtain ⟨p0, y1, y2⟩ := hC.2.1.1
  refine Run.of rfl (by decide) (Nat.le_of_ble_eq_true rfl) ?_
  show V g m_X8_restore 0 _ [] _ _ _ _ _
  refine V_aload_n 0 dX8_restore_0 rfl ?_
  refine G_X8_58 rfl hC.1 rfl dX8_restore_1 ?_
  refine V_if_ne (tgt := 17) dX8_restore_4 (by decide) (fun c4 => ?_) (fun c4 => absurd c4 (by decide))
  refine V_aload_n 0 dX8_restore_17 rfl ?_
  refine G_X8_22 rfl hC.1 rfl dX8_restore_18 ?_
  refine V_aload_n 0 dX8_restore_21 rfl ?_
  refine G_X8_10 rfl hC.1 rfl dX8_restore_22 ?_
  refine V_pc (pc2 := 25) rfl ?_
  refine Cp_X8_70 hC.2.2.2.1.choose_spec.1 rfl ⟨Nat.le_of_ble_eq_true rfl, Nat.le_of_ble_eq_true rfl⟩ (r_push hC.2.2.2.1 hn hC.2.1 (by omega)) rfl (Nat.le_of_ble_eq_true rfl) dX8_restore_25 rfl (fun _ q9 => ?_)
  have hC2 := hC.psh q9.1 q9.2
  have hF2 := q9.2
  clear q9
  obtain ⟨p9, y3, y4⟩ := hC2.2.1.1
  refine V_aload_n 0 dX8_restore_28 rfl ?_
  refine G_X8_10 rfl hC2.1 rfl dX8_restore_29 ?_
  refine V_aload_n 0 dX8_restore_32 rfl ?_
  refine G_X8_16 rfl hC2.1 rfl dX8_restore_33 ?_
  refine Cp_X8_225 y3 rfl ⟨Nat.le_of_ble_eq_true rfl, Nat.le_of_ble_eq_true rfl⟩ (r_ycopy hC2.2.1 hC2.2.2.1 (by omega)) rfl (Nat.le_of_ble_eq_true rfl) dX8_restore_36 rfl (fun _ q8 => ?_)
  have hC3 := hC2.now (q8.1.ext (τ := rowN sn σ 65) (fun k hk => by rw [rowN_in hk]; exact (hs k hk).symm)) q8.2
  have hF3 := q8.2
  clear q8
  obtain ⟨z9, z3, z4⟩ := hC3.2.1.1
  refine V_aload_n 0 dX8_restore_39 rfl ?_
  refine G_X8_10 rfl hC3.1 rfl dX8_restore_40 ?_
  refine V_pc (pc2 := 43) rfl ?_
  refine G_X8_89 rfl z3 rfl dX8_restore_43 ?_
  refine C_X8_228 (show _ = some (eO 4 [rf g (1 + 3 + 1), .int _]) from hC3.2.1.2.2.2.1.choose_spec.choose_spec.1.1) rfl ⟨Nat.le_of_ble_eq_true rfl, Nat.le_of_ble_eq_true rfl⟩ (hC3.2.1.2.2.2.1.size) rfl (Nat.le_of_ble_eq_true rfl) dX8_restore_46 rfl ?_
  refine V_iret (st := []) dX8_restore_49 rfl ?_
  exact ⟨rfl, hC3, FR.trans (b := 0) (n := 96) (FR.wide hF2 (b2 := 0) (n2 := 96) (by omega)) hF3 (by omega)⟩

set_option maxRecDepth 20000 in
theorem keep_loop {g : GE} {M : Mem} {sz : Nat} {σ w sn : Nat → Int32} (hW : MD g M σ w) (h9 : M 99 = some (eI g 65 sn)) {Q : Ou → Mem → Prop} (hq : Q (.inl (some (.int (tabN σ)))) (mup (mup M 99 (eI g 65 (rowN σ sn 65))) 96 (MO g (upd w 1 1)))) : ∀ e j : Nat, j + e = 65 → V g m_X9_keep 7 [(1, .int (nI j)), (0, rf g 96)] [] (mup M 99 (eI g 65 (rowN σ sn j))) sz 0 0 Q := by
  have hO : ∀ e, MD g (mup M 99 e) σ w := fun e => hW.o (by decide) (by decide) (by decide) (by decide)
  intro e
  induction e with
  | zero =>
    intro j hj
    obtain rfl : j = 65 := by omega
    refine V_iload_n 0 dX9_keep_7 rfl ?_
    refine V_bipush (v := 65) dX9_keep_8 (by decide) ?_
    refine V_icmp_ge (tgt := 31) dX9_keep_10 (by decide) (fun c10 => ?_) (fun c10 => absurd (by decide) c10)
    refine V_aload_n 1 dX9_keep_31 rfl ?_
    refine V_iconst (v := 1) dX9_keep_32 rfl ?_
    refine P_X9_211 rfl (show _ = some (MO g w) from (hO _).1) (Nat.le_of_ble_eq_true rfl) rfl rfl dX9_keep_33 ?_
    refine V_aload_n 1 dX9_keep_36 rfl ?_
    refine V_pc (pc2 := 37) rfl ?_
    refine C_X9_214 ((hO _).v (upd w 1 1)).1 rfl ⟨Nat.le_of_ble_eq_true rfl, Nat.le_of_ble_eq_true rfl⟩ (r9_tables ((hO _).v (upd w 1 1))) rfl (Nat.le_of_ble_eq_true rfl) dX9_keep_37 rfl ?_
    refine V_iret (st := []) dX9_keep_40 rfl ?_
    exact hq
  | succ e ih =>
    intro j hj
    have hlt : j < 65 := by omega
    refine V_iload_n 0 dX9_keep_7 rfl ?_
    refine V_bipush (v := 65) dX9_keep_8 (by decide) ?_
    refine V_icmp_ge (tgt := 31) dX9_keep_10 (by decide) (fun c10 => absurd c10 (nI_ge (b := 65) hlt (by decide))) (fun c10 => ?_)
    refine V_aload_n 1 dX9_keep_13 rfl ?_
    refine G_X9_16 rfl (hO _).1 rfl dX9_keep_14 ?_
    refine V_iload_n 0 dX9_keep_17 rfl ?_
    refine V_aload_n 1 dX9_keep_18 rfl ?_
    refine V_pc (pc2 := 19) rfl ?_
    refine G_X9_7 rfl (hO _).1 rfl dX9_keep_19 ?_
    refine V_iload_n 0 dX9_keep_22 rfl ?_
    refine V_iald (hO _).2.1 (vp_in_nI hlt (by decide)) dX9_keep_23 ?_
    refine V_iast (mup_eq _ _ _) (vp_in_nI hlt (by decide)) dX9_keep_24 ?_
    refine V_iinc (v := _ + 1) (lv2 := [(1, .int _), (0, .ref _)]) 0 dX9_keep_25 rfl rfl (Nat.le_of_ble_eq_true rfl) rfl ?_
    refine V_goto (tgt := 7) dX9_keep_28 (by decide) ?_
    refine V_lv (lv2 := [(1, .int _), (0, .ref _)]) [0, 1] rfl ?_
    rw [nI_1, nI_clamp (n := j) (by omega), mup_mup, rowN_s]
    exact ih (j + 1) (by omega)

set_option maxRecDepth 20000 in
theorem q9_keep_ok {g : GE} {M : Mem} {sz : Nat} {σ sn : Nat → Int32} {hk : Bool} {n : Nat} {ps : Nat → Nat → Int32} {len : Nat} {tx : Nat → Int32} {th : Int32} (hL : ML g M σ sn hk n ps len tx th) : Run g m_X9_keep [rf g 96] M sz 0 0 (RetP (some (.int (tabN σ))) (fun M2 => ML g M2 (σ) (rowN σ sn 65) (true) (n) (ps) (len) (tx) (0) ∧ FR M M2 96 9)) := by
  obtain ⟨⟨v, hM, v0, v1, v2, v3⟩, ⟨pf, f1, f2⟩, f3, f4, f5⟩ := id hL
  refine Run.of rfl (by decide) (Nat.le_of_ble_eq_true rfl) ?_
  show V g m_X9_keep 0 _ [] _ _ _ _ _
  refine V_aload_n 0 dX9_keep_0 rfl ?_
  refine V_iconst (v := 0) dX9_keep_1 rfl ?_
  refine P_X9_40 rfl hM.1 (Nat.le_of_ble_eq_true rfl) rfl rfl dX9_keep_2 ?_
  refine V_iconst (v := 0) dX9_keep_5 rfl ?_
  refine V_istore_n (lv2 := [(1, .int _), (0, .ref _)]) dX9_keep_6 (Nat.le_of_ble_eq_true rfl) rfl ?_
  refine V_lv (lv2 := [(1, .int _), (0, .ref _)]) [0, 1] rfl ?_
  have hW : MD g (mup M 96 (MO g (upd v 3 0))) σ (upd v 3 0) := hM.v _
  have g9 : (mup M 96 (MO g (upd v 3 0))) 99 = some (eI g 65 sn) := (mup_ne _ _ (by decide)).trans f3
  have e9 := keep_loop (sz := sz) hW g9 (Q := RetP (some (.int (tabN σ))) (fun M2 => ML g M2 σ (rowN σ sn 65) true n ps len tx 0 ∧ FR M M2 96 9)) ⟨rfl, ?_, (((FR.refl M 96 9).put (by omega)).put (by omega)).put (by omega)⟩ 65 0 (by omega)
  · rw [rowN_0, mup_self g9] at e9
    exact e9
  · obtain ⟨a, b, f5, f6⟩ := f5
    exact ⟨⟨_, (hW.o (by decide) (by decide) (by decide) (by decide)).v _, v0, upd_at _ _ _, v2, rfl⟩, ⟨pf, (mup_ne _ _ (by decide)).trans ((mup_ne _ _ (by decide)).trans ((mup_ne _ _ (by decide)).trans f1)), f2⟩, (mup_ne _ _ (by decide)).trans (mup_eq _ _ _), (mup_ne _ _ (by decide)).trans ((mup_ne _ _ (by decide)).trans ((mup_ne _ _ (by decide)).trans f4)), a, b, (mup_ne _ _ (by decide)).trans ((mup_ne _ _ (by decide)).trans ((mup_ne _ _ (by decide)).trans f5)), (mup_ne _ _ (by decide)).trans ((mup_ne _ _ (by decide)).trans ((mup_ne _ _ (by decide)).trans f6))⟩

set_option maxRecDepth 20000 in
theorem q9_restore_1 {g : GE} {M : Mem} {sz : Nat} {σ sn : Nat → Int32} {hk : Bool} {n : Nat} {ps : Nat → Nat → Int32} {len : Nat} {tx : Nat → Int32} {th : Int32} (hL : ML g M σ sn hk n ps len tx th) (h0 : hk = false) : Run g m_X9_restore [rf g 96] M sz 0 0 (RetP (some (.int 0)) (fun M2 => ML g M2 (σ) (sn) (hk) (n) (ps) (len) (tx) (1) ∧ FR M M2 96 9)) := by
  subst h0
  obtain ⟨⟨v, hM, v0, v1, v2, v3⟩, ⟨pf, f1, f2⟩, f3, f4, f5⟩ := id hL
  refine Run.of rfl (by decide) (Nat.le_of_ble_eq_true rfl) ?_
  show V g m_X9_restore 0 _ [] _ _ _ _ _
  refine V_aload_n 0 dX9_restore_0 rfl ?_
  refine V_aload_n 0 dX9_restore_1 rfl ?_
  refine G_X9_211 rfl hM.1 rfl dX9_restore_2 ?_
  refine V_if_eq (tgt := 12) dX9_restore_5 (by decide) (fun c5 => ?_) (fun c5 => absurd v1 c5)
  refine V_iconst (v := 1) dX9_restore_12 rfl ?_
  refine C_X9_111 hM.1 rfl ⟨Nat.le_of_ble_eq_true rfl, Nat.le_of_ble_eq_true rfl⟩ (r9_refused hM 1) rfl (Nat.le_of_ble_eq_true rfl) dX9_restore_13 rfl ?_
  refine V_if_eq (tgt := 21) dX9_restore_16 (by decide) (fun c16 => absurd c16 (by decide)) (fun c16 => ?_)
  refine V_pc (pc2 := 19) rfl ?_
  refine V_iconst (v := 0) dX9_restore_19 rfl ?_
  refine V_iret (st := []) dX9_restore_20 rfl ?_
  refine ⟨rfl, hL.thr hM v0 v1 v2, (FR.refl M 96 9).put (by omega)⟩

set_option maxRecDepth 20000 in
theorem restore_loop {g : GE} {M : Mem} {sz : Nat} {σ w sn : Nat → Int32} (hW : MD g M σ w) (h9 : M 99 = some (eI g 65 sn)) {Q : Ou → Mem → Prop} (hq : Q (.inl (some (.int (tabN (rowN sn σ 65))))) (mup M 97 (eI g 65 (rowN sn σ 65)))) : ∀ e j : Nat, j + e = 65 → V g m_X9_restore 27 [(1, .int (nI j)), (0, rf g 96)] [] (mup M 97 (eI g 65 (rowN sn σ j))) sz 0 0 Q := by
  intro e
  induction e with
  | zero =>
    intro j hj
    obtain rfl : j = 65 := by omega
    refine V_iload_n 0 dX9_restore_27 rfl ?_
    refine V_bipush (v := 65) dX9_restore_28 (by decide) ?_
    refine V_icmp_ge (tgt := 51) dX9_restore_30 (by decide) (fun c30 => ?_) (fun c30 => absurd (by decide) c30)
    refine V_aload_n 1 dX9_restore_51 rfl ?_
    refine C_X9_214 (hW.put _).1 rfl ⟨Nat.le_of_ble_eq_true rfl, Nat.le_of_ble_eq_true rfl⟩ (r9_tables (hW.put _)) rfl (Nat.le_of_ble_eq_true rfl) dX9_restore_52 rfl ?_
    refine V_iret (st := []) dX9_restore_55 rfl ?_
    exact hq
  | succ e ih =>
    intro j hj
    have hlt : j < 65 := by omega
    refine V_iload_n 0 dX9_restore_27 rfl ?_
    refine V_bipush (v := 65) dX9_restore_28 (by decide) ?_
    refine V_icmp_ge (tgt := 51) dX9_restore_30 (by decide) (fun c30 => absurd c30 (nI_ge (b := 65) hlt (by decide))) (fun c30 => ?_)
    refine V_aload_n 1 dX9_restore_33 rfl ?_
    refine G_X9_7 rfl (hW.put _).1 rfl dX9_restore_34 ?_
    refine V_iload_n 0 dX9_restore_37 rfl ?_
    refine V_aload_n 1 dX9_restore_38 rfl ?_
    refine V_pc (pc2 := 39) rfl ?_
    refine G_X9_16 rfl (hW.put _).1 rfl dX9_restore_39 ?_
    refine V_iload_n 0 dX9_restore_42 rfl ?_
    refine V_iald (show _ = some (eI g 65 sn) from (mup_ne _ _ (by decide)).trans h9) (vp_in_nI hlt (by decide)) dX9_restore_43 ?_
    refine V_iast (hW.put _).2.1 (vp_in_nI hlt (by decide)) dX9_restore_44 ?_
    refine V_iinc (v := _ + 1) (lv2 := [(1, .int _), (0, .ref _)]) 0 dX9_restore_45 rfl rfl (Nat.le_of_ble_eq_true rfl) rfl ?_
    refine V_goto (tgt := 27) dX9_restore_48 (by decide) ?_
    refine V_lv (lv2 := [(1, .int _), (0, .ref _)]) [0, 1] rfl ?_
    rw [nI_1, nI_clamp (n := j) (by omega), mup_mup, rowN_s]
    exact ih (j + 1) (by omega)

set_option maxRecDepth 20000 in
theorem q9_restore_ok {g : GE} {M : Mem} {sz : Nat} {σ sn : Nat → Int32} {hk : Bool} {n : Nat} {ps : Nat → Nat → Int32} {len : Nat} {tx : Nat → Int32} {th : Int32} (hL : ML g M σ sn hk n ps len tx th) (hn : n ≤ 6) (h1 : hk = true) : Run g m_X9_restore [rf g 96] M sz 0 0 (RetP (some (.int (tabN (rowN sn σ 65)))) (fun M2 => ML g M2 (rowN sn σ 65) (sn) (hk) (pshN n) (pshP n ps σ) (len) (tx) (0) ∧ FR M M2 96 9)) := by
  subst h1
  obtain ⟨⟨v, hM, v0, v1, v2, v3⟩, ⟨pf, f1, f2⟩, f3, f4, f5⟩ := id hL
  refine Run.of rfl (by decide) (Nat.le_of_ble_eq_true rfl) ?_
  show V g m_X9_restore 0 _ [] _ _ _ _ _
  refine V_aload_n 0 dX9_restore_0 rfl ?_
  refine V_aload_n 0 dX9_restore_1 rfl ?_
  refine G_X9_211 rfl hM.1 rfl dX9_restore_2 ?_
  rw [v1]
  refine V_if_eq (tgt := 12) dX9_restore_5 (by decide) (fun c5 => absurd c5 (by decide)) (fun c5 => ?_)
  refine V_iconst (v := 0) dX9_restore_8 rfl ?_
  refine V_goto (tgt := 13) dX9_restore_9 (by decide) ?_
  refine C_X9_111 hM.1 rfl ⟨Nat.le_of_ble_eq_true rfl, Nat.le_of_ble_eq_true rfl⟩ (r9_refused hM 0) rfl (Nat.le_of_ble_eq_true rfl) dX9_restore_13 rfl ?_
  refine V_pc (pc2 := 16) rfl ?_
  refine V_if_eq (tgt := 21) dX9_restore_16 (by decide) (fun c16 => ?_) (fun c16 => absurd (by decide) c16)
  refine V_aload_n 0 dX9_restore_21 rfl ?_
  refine Cp_X9_114 (hM.v _).1 rfl ⟨Nat.le_of_ble_eq_true rfl, Nat.le_of_ble_eq_true rfl⟩ (r9_saves (hM.v _) (show _ = some (eI g 390 pf) from (mup_ne _ _ (by decide)).trans f1) n (show upd v 3 _ 0 = nI n from v0) hn f2) rfl (Nat.le_of_ble_eq_true rfl) dX9_restore_22 rfl (fun _ q9 => ?_)
  have hL2 := hL.sav hM v0 v1 v2 q9
  have hF2 := SV.fr q9
  clear q9
  obtain ⟨⟨w, hW, w0, w1, w2, w3⟩, ⟨pf2, g1, g2⟩, g3, g4, g5⟩ := id hL2
  refine V_iconst (v := 0) dX9_restore_25 rfl ?_
  refine V_istore_n (lv2 := [(1, .int _), (0, .ref _)]) dX9_restore_26 (Nat.le_of_ble_eq_true rfl) rfl ?_
  refine V_lv (lv2 := [(1, .int _), (0, .ref _)]) [0, 1] rfl ?_
  have e9 := restore_loop (sz := sz) hW g3 (Q := RetP (some (.int (tabN (rowN sn σ 65)))) (fun M2 => ML g M2 (rowN sn σ 65) sn true (pshN n) (pshP n ps σ) len tx 0 ∧ FR M M2 96 9)) ⟨rfl, hL2.set _, hF2.put (by omega)⟩ 65 0 (by omega)
  rw [rowN_0, mup_self hW.2.1] at e9
  exact e9

theorem op_keep (g : GE) : OPD g m_X8_keep m_X9_keep := by
  rintro M sz ⟨th, σ, τ, sn, hk, n, ps, len, tx, hW⟩
  obtain ⟨w1, w2, ⟨i1, i2, i3, i4, i5, i6⟩, o, w4⟩ := id hW
  exact OPD.ok hW (σ2 := σ) (τ2 := σ) (sn2 := rowN σ sn 65) (hk2 := true) (n2 := n) (ps2 := ps) (len2 := len) (tx2 := tx) ⟨i1, fun _ => ⟨i1, fun k hk => rowN_in hk⟩, i3, i4, i5, i6⟩ (x_keep_ok w1) (fun M2 sz2 h => q9_keep_ok h)
theorem op_restore (g : GE) : OPL g m_L_restore m_X9_restore [rf g 0, rf g 105] [rf g 96] := by
  rintro M sz ⟨th, σ, τ, sn, hk, n, ps, len, tx, hW⟩
  obtain ⟨w1, w2, ⟨i1, i2, i3, i4, i5, i6⟩, o, w4⟩ := id hW
  cases hk with
  | false => exact OPL.bad hW (c := 1) (by decide) (by decide) (h_restore_1 w1.1 (x_restore_1 w1 rfl)) (fun M2 sz2 h => q9_restore_1 h rfl)
  | true =>
    obtain ⟨j1, j2⟩ := i2 rfl
    exact OPL.ok hW (σ2 := rowN sn σ 65) (τ2 := τ) (sn2 := sn) (hk2 := true) (n2 := pshN n) (ps2 := pshP n ps σ) (len2 := len) (tx2 := tx) ⟨j1.ext (fun k hk => by rw [rowN_in hk]; exact (j2 k hk).symm), i2, pshN_le i3, IS.psh i3 i4 i1, i5, i6⟩ (h_restore_ok w1.1 (x_restore_ok w1 i3 rfl j2) (fun M1 q => CW.out w4 q.2)) (fun M2 sz2 h => q9_restore_ok h i3 rfl)
