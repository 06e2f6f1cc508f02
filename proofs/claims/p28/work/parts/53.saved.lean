/-! append, clearBuffer, undo, keep, restore -/
/-- an operation that refuses nothing -/
def OPD (g : GE) (y8 y9 : MT) : Prop := ∀ (M : Mem) (sz : Nat), (∃ th, Inv g M th) → ∃ (b : Int32) (P1 : Mem → Prop), Run g y8 [rf g 0] M sz 0 0 (RetP (some (.int b)) P1) ∧ ∀ M1, P1 M1 → (∃ e, M1 96 = some (eO 9 e)) ∧ ∀ sz2, Run g y9 [rf g 96] M1 sz2 0 0 (RetP (some (.int b)) (fun M2 => ∃ th, Inv g M2 th))
theorem OPD.ok {g : GE} {y8 y9 : MT} {M : Mem} {sz : Nat} {σ τ sn : Nat → Int32} {hk : Bool} {n : Nat} {ps : Nat → Nat → Int32} {len : Nat} {tx : Nat → Int32} {th : Int32} (h : WLD g M σ τ sn hk n ps len tx th)
    {σ2 τ2 sn2 : Nat → Int32} {hk2 : Bool} {n2 : Nat} {ps2 : Nat → Nat → Int32} {len2 : Nat} {tx2 : Nat → Int32} {a : Int32} (hi : INV σ2 τ2 sn2 hk2 n2 ps2 len2 tx2)
    (h1 : Run g y8 [rf g 0] M sz 0 0 (RetP (some (.int a)) (fun M1 => CW g M1 σ2 τ2 hk2 n2 ps2 len2 tx2 ∧ FR M M1 0 96)))
    (h2 : ∀ M2 sz2, ML g M2 σ sn hk n ps len tx th → Run g y9 [rf g 96] M2 sz2 0 0 (RetP (some (.int a)) (fun M3 => ML g M3 σ2 sn2 hk2 n2 ps2 len2 tx2 0 ∧ FR M2 M3 96 9))) :
    ∃ (b : Int32) (P1 : Mem → Prop), Run g y8 [rf g 0] M sz 0 0 (RetP (some (.int b)) P1) ∧ ∀ M1, P1 M1 → (∃ e, M1 96 = some (eO 9 e)) ∧ ∀ sz2, Run g y9 [rf g 96] M1 sz2 0 0 (RetP (some (.int b)) (fun M2 => ∃ th, Inv g M2 th)) := by
  obtain ⟨w1, w2, w3, o, w4⟩ := h
  refine ⟨a, _, h1, fun M1 c => ?_⟩
  have hL := w2.fr (M1 := M1) (fun k k1 k2 => c.2 k (by omega))
  exact ⟨⟨_, hL.1.choose_spec.1.1⟩, fun sz2 => (h2 _ sz2 hL).mono fun o2 M3 q => ⟨q.1, 0, σ2, τ2, sn2, hk2, n2, ps2, len2, tx2, c.1.fr (fun k hk => q.2.2 k (by omega)), q.2.1, hi, o, (q.2.2 _ (by omega)).trans ((c.2 _ (by omega)).trans w4)⟩⟩
set_option maxRecDepth 20000 in
theorem r_add {g : GE} {M : Mem} {sz : Nat} {len : Nat} {tx : Nat → Int32} (hT : TT g M len tx) (hl : len < 60) (c : Int32) : Run g m_X5_add [rf g 83, .int c] M sz 0 0 (RetP none (fun M1 => TT g M1 (len + 1) (upd tx len c) ∧ FR M M1 83 2)) := by
  obtain ⟨⟨st, t1⟩, t2⟩ := hT
  refine Run.of rfl (by decide) (Nat.le_of_ble_eq_true rfl) ?_
  show V g m_X5_add 0 _ [] _ _ _ _ _
  refine V_aload_n 0 dX5_add_0 rfl ?_
  refine G_X5_15 rfl (show _ = some (TO g len st) from t1) rfl dX5_add_1 ?_
  refine V_bipush (v := 60) dX5_add_4 (by decide) ?_
  refine V_icmp_ge (tgt := 31) dX5_add_6 (by decide) (fun c6 => absurd c6 (nI_ge (b := 60) hl (by decide))) (fun c6 => ?_)
  refine V_aload_n 0 dX5_add_9 rfl ?_
  refine G_X5_9 rfl (show _ = some (TO g len st) from t1) rfl dX5_add_10 ?_
  refine V_aload_n 0 dX5_add_13 rfl ?_
  refine V_pc (pc2 := 14) rfl ?_
  refine G_X5_15 rfl (show _ = some (TO g len st) from t1) rfl dX5_add_14 ?_
  refine V_iload_n 1 dX5_add_17 rfl ?_
  refine C_X5_22 rfl ⟨Nat.le_of_ble_eq_true rfl, Nat.le_of_ble_eq_true rfl⟩ (r_put t2 len rfl hl (by decide)) rfl (Nat.le_of_ble_eq_true rfl) dX5_add_18 rfl ?_
  refine V_aload_n 0 dX5_add_21 rfl ?_
  refine V_dup dX5_add_22 rfl ?_
  refine G_X5_15 rfl (show _ = some (TO g len st) from (mup_ne _ _ (by decide)).trans t1) rfl dX5_add_23 ?_
  refine V_iconst (v := 1) dX5_add_26 rfl ?_
  refine V_iadd dX5_add_27 ?_
  refine V_pc (pc2 := 28) rfl ?_
  refine P_X5_15 rfl (show _ = some (TO g len st) from (mup_ne _ _ (by decide)).trans t1) (Nat.le_of_ble_eq_true rfl) rfl rfl dX5_add_28 ?_
  refine V_ret (st := []) dX5_add_31 rfl ?_
  rw [nI_1]
  exact ⟨rfl, ⟨⟨st, mup_eq _ _ _⟩, (mup_ne _ _ (by decide)).trans (mup_eq _ _ _)⟩, ((FR.refl M 83 2).put (by omega)).put (by omega)⟩
set_option maxRecDepth 20000 in
theorem r_empty {g : GE} {M : Mem} {sz : Nat} {len : Nat} {tx : Nat → Int32} (hT : TT g M len tx) : Run g m_X5_empty [rf g 83] M sz 0 0 (RetP (some (.int (nI len))) (fun M1 => TT g M1 0 tx ∧ FR M M1 83 2)) := by
  obtain ⟨⟨st, t1⟩, t2⟩ := hT
  refine Run.of rfl (by decide) (Nat.le_of_ble_eq_true rfl) ?_
  show V g m_X5_empty 0 _ [] _ _ _ _ _
  refine V_aload_n 0 dX5_empty_0 rfl ?_
  refine G_X5_15 rfl (show _ = some (TO g len st) from t1) rfl dX5_empty_1 ?_
  refine V_istore_n (lv2 := [(1, .int _), (0, .ref _)]) dX5_empty_4 (Nat.le_of_ble_eq_true rfl) rfl ?_
  refine V_aload_n 1 dX5_empty_5 rfl ?_
  refine V_iconst (v := 0) dX5_empty_6 rfl ?_
  refine P_X5_15 rfl (show _ = some (TO g len st) from t1) (Nat.le_of_ble_eq_true rfl) rfl rfl dX5_empty_7 ?_
  refine V_iload_n 0 dX5_empty_10 rfl ?_
  refine V_pc (pc2 := 11) rfl ?_
  refine V_iret (st := []) dX5_empty_11 rfl ?_
  exact ⟨rfl, ⟨⟨st, mup_eq _ _ _⟩, (mup_ne _ _ (by decide)).trans t2⟩, (FR.refl M 83 2).put (by omega)⟩
set_option maxRecDepth 20000 in
theorem x_append_1 {g : GE} {M : Mem} {sz : Nat} {σ τ : Nat → Int32} {hk : Bool} {n : Nat} {ps : Nat → Nat → Int32} {len : Nat} {tx : Nat → Int32} (hC : CW g M σ τ hk n ps len tx) {c : Int32} (hc : c < 33 ∨ ¬ c ≤ 126) : Run g m_X8_append [rf g 0, .int c] M sz 1 6 (Thr (exN 1) M) := by
  refine Run.of rfl (by decide) (Nat.le_of_ble_eq_true rfl) ?_
  show V g m_X8_append 0 _ [] _ _ _ _ _
  refine V_iload_n 1 dX8_append_0 rfl ?_
  refine V_bipush (v := 33) dX8_append_1 (by decide) ?_
  refine V_bipush (v := 126) dX8_append_3 (by decide) ?_
  refine Ct_X8_66 rfl rfl ⟨Nat.le_of_ble_eq_true rfl, Nat.le_of_ble_eq_true rfl⟩ (r_checkRange_bad hc) rfl (Nat.le_of_ble_eq_true rfl) dX8_append_5 rfl ?_
  exact ⟨rfl, rfl⟩
set_option maxRecDepth 20000 in
theorem x_append_2 {g : GE} {M : Mem} {sz : Nat} {σ τ : Nat → Int32} {hk : Bool} {n : Nat} {ps : Nat → Nat → Int32} {len : Nat} {tx : Nat → Int32} (hC : CW g M σ τ hk n ps len tx) {c : Int32} (hc : ¬ c < 33) (hc2 : c ≤ 126) (hl : len = 60) : Run g m_X8_append [rf g 0, .int c] M sz 1 6 (Thr (exN 2) M) := by
  subst hl
  obtain ⟨st, t1⟩ := hC.2.2.2.2.1.1
  refine Run.of rfl (by decide) (Nat.le_of_ble_eq_true rfl) ?_
  show V g m_X8_append 0 _ [] _ _ _ _ _
  refine V_iload_n 1 dX8_append_0 rfl ?_
  refine V_bipush (v := 33) dX8_append_1 (by decide) ?_
  refine V_bipush (v := 126) dX8_append_3 (by decide) ?_
  refine C_X8_66 rfl ⟨Nat.le_of_ble_eq_true rfl, Nat.le_of_ble_eq_true rfl⟩ (r_checkRange_ok hc hc2) rfl (Nat.le_of_ble_eq_true rfl) dX8_append_5 rfl ?_
  refine V_aload_n 0 dX8_append_8 rfl ?_
  refine G_X8_29 rfl hC.1 rfl dX8_append_9 ?_
  refine G_X8_175 rfl (show _ = some (TO g 60 st) from t1) rfl dX8_append_12 ?_
  refine V_pc (pc2 := 15) rfl ?_
  refine V_bipush (v := 60) dX8_append_15 (by decide) ?_
  refine V_icmp_lt (tgt := 30) dX8_append_17 (by decide) (fun c17 => absurd c17 (by decide)) (fun c17 => ?_)
  refine V_throwS 2 5 (by decide) (by decide) rfl rfl rfl rfl rfl (Nat.le_of_ble_eq_true rfl) (Nat.le_of_ble_eq_true rfl) dX8_append_20 dX8_append_23 dX8_append_24 dX8_append_26 dX8_append_29 ?_
  exact ⟨rfl, rfl⟩
set_option maxRecDepth 20000 in
theorem x_append_ok {g : GE} {M : Mem} {sz : Nat} {σ τ : Nat → Int32} {hk : Bool} {n : Nat} {ps : Nat → Nat → Int32} {len : Nat} {tx : Nat → Int32} (hC : CW g M σ τ hk n ps len tx) {c : Int32} (hc : ¬ c < 33) (hc2 : c ≤ 126) (hl : len < 60) : Run g m_X8_append [rf g 0, .int c] M sz 0 0 (RetP (some (.int (nI (len + 1)))) (fun M2 => CW g M2 (σ) (τ) (hk) (n) (ps) (len + 1) (upd tx len c) ∧ FR M M2 0 96)) := by
  obtain ⟨st, t1⟩ := hC.2.2.2.2.1.1
  refine Run.of rfl (by decide) (Nat.le_of_ble_eq_true rfl) ?_
  show V g m_X8_append 0 _ [] _ _ _ _ _
  refine V_iload_n 1 dX8_append_0 rfl ?_
  refine V_bipush (v := 33) dX8_append_1 (by decide) ?_
  refine V_bipush (v := 126) dX8_append_3 (by decide) ?_
  refine C_X8_66 rfl ⟨Nat.le_of_ble_eq_true rfl, Nat.le_of_ble_eq_true rfl⟩ (r_checkRange_ok hc hc2) rfl (Nat.le_of_ble_eq_true rfl) dX8_append_5 rfl ?_
  refine V_aload_n 0 dX8_append_8 rfl ?_
  refine G_X8_29 rfl hC.1 rfl dX8_append_9 ?_
  refine G_X8_175 rfl (show _ = some (TO g len st) from t1) rfl dX8_append_12 ?_
  refine V_pc (pc2 := 15) rfl ?_
  refine V_bipush (v := 60) dX8_append_15 (by decide) ?_
  refine V_icmp_lt (tgt := 30) dX8_append_17 (by decide) (fun c17 => ?_) (fun c17 => absurd (nI_lt (b := 60) hl (by decide)) c17)
  refine V_aload_n 0 dX8_append_30 rfl ?_
  refine G_X8_29 rfl hC.1 rfl dX8_append_31 ?_
  refine V_iload_n 1 dX8_append_34 rfl ?_
  refine Cp_X8_180 (show _ = some (TO g len st) from t1) rfl ⟨Nat.le_of_ble_eq_true rfl, Nat.le_of_ble_eq_true rfl⟩ (r_add hC.2.2.2.2.1 hl c) rfl (Nat.le_of_ble_eq_true rfl) dX8_append_35 rfl (fun _ q9 => ?_)
  have hC2 := hC.txt q9.1 q9.2
  have hF2 := q9.2
  clear q9
  obtain ⟨s2, s3⟩ := hC2.2.2.2.2.1.1
  refine V_aload_n 0 dX8_append_38 rfl ?_
  refine G_X8_29 rfl hC2.1 rfl dX8_append_39 ?_
  refine V_pc (pc2 := 42) rfl ?_
  refine G_X8_175 rfl (show _ = some (TO g (len + 1) s2) from s3) rfl dX8_append_42 ?_
  refine V_iret (st := []) dX8_append_45 rfl ?_
  exact ⟨rfl, hC2, hF2.wide (by omega)⟩
set_option maxRecDepth 20000 in
theorem x_clearBuffer_ok {g : GE} {M : Mem} {sz : Nat} {σ τ : Nat → Int32} {hk : Bool} {n : Nat} {ps : Nat → Nat → Int32} {len : Nat} {tx : Nat → Int32} (hC : CW g M σ τ hk n ps len tx) : Run g m_X8_clearBuffer [rf g 0] M sz 0 0 (RetP (some (.int (nI len))) (fun M2 => CW g M2 (σ) (τ) (hk) (n) (ps) (0) (tx) ∧ FR M M2 0 96)) := by
  obtain ⟨st, t1⟩ := hC.2.2.2.2.1.1
  refine Run.of rfl (by decide) (Nat.le_of_ble_eq_true rfl) ?_
  show V g m_X8_clearBuffer 0 _ [] _ _ _ _ _
  refine V_aload_n 0 dX8_clearBuffer_0 rfl ?_
  refine G_X8_29 rfl hC.1 rfl dX8_clearBuffer_1 ?_
  refine Cp_X8_183 (show _ = some (TO g len st) from t1) rfl ⟨Nat.le_of_ble_eq_true rfl, Nat.le_of_ble_eq_true rfl⟩ (r_empty hC.2.2.2.2.1) rfl (Nat.le_of_ble_eq_true rfl) dX8_clearBuffer_4 rfl (fun _ q9 => ?_)
  refine V_iret (st := []) dX8_clearBuffer_7 rfl ?_
  exact ⟨rfl, hC.txt q9.1 q9.2, q9.2.wide (by omega)⟩
theorem IS.ext {σ τ : Nat → Int32} (h : ∀ k, k < 65 → σ k = τ k) (hs : IS σ) : IS τ := by
  obtain ⟨h1, ⟨n, hn, hn2, h2⟩, h3, h4, h5, h6, h7⟩ := hs
  exact ⟨fun k hk => by rw [← h _ (by omega), ← h _ (by omega)]; exact h1 k hk, ⟨n, hn, by rw [← h _ (by omega)]; exact hn2, fun j hj => by rw [← h _ (by omega), ← h _ (by omega)]; exact h2 j hj⟩, fun j hj => by rw [← h _ (by omega)]; exact h3 j hj, by rw [← h _ (by omega)]; exact h4, by rw [← h _ (by omega)]; exact h5, by rw [← h _ (by omega)]; exact h6, by rw [← h _ (by omega), ← h _ (by omega)]; exact h7⟩
theorem rowN_in {f h : Nat → Int32} {i k : Nat} (e : k < i) : rowN f h i k = f k := if_pos e
set_option maxRecDepth 20000 in
theorem x_undo_1 {g : GE} {M : Mem} {sz : Nat} {σ τ : Nat → Int32} {hk : Bool} {n : Nat} {ps : Nat → Nat → Int32} {len : Nat} {tx : Nat → Int32} (hC : CW g M σ τ hk n ps len tx) (h0 : n = 0) : Run g m_X8_undo [rf g 0] M sz 1 6 (Thr (exN 2) M) := by
  subst h0
  refine Run.of rfl (by decide) (Nat.le_of_ble_eq_true rfl) ?_
  show V g m_X8_undo 0 _ [] _ _ _ _ _
  refine V_aload_n 0 dX8_undo_0 rfl ?_
  refine G_X8_22 rfl hC.1 rfl dX8_undo_1 ?_
  refine G_X8_219 rfl (show _ = some (HO g 0) from hC.2.2.2.1.choose_spec.1) rfl dX8_undo_4 ?_
  refine V_if_gt (tgt := 20) dX8_undo_7 (by decide) (fun c7 => absurd c7 (by decide)) (fun c7 => ?_)
  refine V_throwS 2 7 (by decide) (by decide) rfl rfl rfl rfl rfl (Nat.le_of_ble_eq_true rfl) (Nat.le_of_ble_eq_true rfl) dX8_undo_10 dX8_undo_13 dX8_undo_14 dX8_undo_16 dX8_undo_19 ?_
  exact ⟨rfl, rfl⟩
set_option maxRecDepth 20000 in
theorem x_undo_ok {g : GE} {M : Mem} {sz : Nat} {σ τ : Nat → Int32} {hk : Bool} {n : Nat} {ps : Nat → Nat → Int32} {len : Nat} {tx : Nat → Int32} (hC : CW g M σ τ hk (n + 1) ps len tx) (hn : n < 6) : Run g m_X8_undo [rf g 0] M sz 0 0 (RetP (some (.int (nI n))) (fun M2 => CW g M2 (rowN (ps n) σ 65) (τ) (hk) (n) (ps) (len) (tx) ∧ FR M M2 0 96)) := by
  refine Run.of rfl (by decide) (Nat.le_of_ble_eq_true rfl) ?_
  show V g m_X8_undo 0 _ [] _ _ _ _ _
  refine V_aload_n 0 dX8_undo_0 rfl ?_
  refine G_X8_22 rfl hC.1 rfl dX8_undo_1 ?_
  refine G_X8_219 rfl (show _ = some (HO g (n + 1)) from hC.2.2.2.1.choose_spec.1) rfl dX8_undo_4 ?_
  refine V_if_gt (tgt := 20) dX8_undo_7 (by decide) (fun c7 => ?_) (fun c7 => absurd (by rw [← nI_0]; exact nI_lt (by omega) (by omega)) c7)
  refine V_aload_n 0 dX8_undo_20 rfl ?_
  refine G_X8_22 rfl hC.1 rfl dX8_undo_21 ?_
  refine V_aload_n 0 dX8_undo_24 rfl ?_
  refine V_pc (pc2 := 25) rfl ?_
  refine G_X8_10 rfl hC.1 rfl dX8_undo_25 ?_
  refine Cp_X8_222 hC.2.2.2.1.choose_spec.1 rfl ⟨Nat.le_of_ble_eq_true rfl, Nat.le_of_ble_eq_true rfl⟩ (r_pop hC.2.2.2.1 hn hC.2.1 (by omega)) rfl (Nat.le_of_ble_eq_true rfl) dX8_undo_28 rfl (fun _ q9 => ?_)
  have e9 : ∀ k, k ≠ 21 → ¬ (1 ≤ k ∧ k < 11) → _ = M k := fun k h1 h2 => (q9.2.2 k (by omega)).trans (mup_ne _ _ h1)
  have hC2 : CW g _ (rowN (ps n) σ 65) τ hk n ps len tx := ⟨(e9 _ (by omega) (by omega)).trans hC.1, q9.2.1.ext (fun k hk => (rowN_in hk).symm), hC.2.2.1.fr (fun k a b => e9 k (by omega) (by omega)), q9.1, hC.2.2.2.2.1.fr (fun k a b => e9 k (by omega) (by omega)), hC.2.2.2.2.2.fr (fun k a b => e9 k (by omega) (by omega))⟩
  refine V_aload_n 0 dX8_undo_31 rfl ?_
  refine G_X8_22 rfl hC2.1 rfl dX8_undo_32 ?_
  refine G_X8_219 rfl (show _ = some (HO g n) from hC2.2.2.2.1.choose_spec.1) rfl dX8_undo_35 ?_
  refine V_iret (st := []) dX8_undo_38 rfl ?_
  exact ⟨rfl, hC2, fun k hk => e9 k (by omega) (by omega)⟩
theorem popc_l : ∀ l : List Bool, l.length = 10 → (popc (nI (mkL l)) == nI (cnt (fun k => l.getD k false) 10)) = true := len10 (by decide +kernel)
theorem popc_eq (σ : Nat → Int32) : popc (nI (mkL (hv σ))) = nI (cnt (fun k => decide (0 < σ k)) 10) := by
  have h := popc_l (hv σ) (hv_len σ)
  rw [beq_iff_eq] at h
  rw [h]
  rfl
theorem TS.size {g : GE} {M : Mem} {sz : Nat} {t : Nat} {σ : Nat → Int32} (h : TS g M t σ) : Run g m_X4_size [rf g t] M sz 0 0 (Ret (some (.int (nI (cnt (fun k => decide (0 < σ k)) 10)))) M) := by
  obtain ⟨f, p, h1, h2, h3, h4⟩ := h
  have e := r_size (sz := sz) h1
  rw [h4, popc_eq] at e
  exact e
def tabN (σ : Nat → Int32) : Int32 := nI (cnt (fun k => decide (0 < σ k)) 10)
set_option maxRecDepth 20000 in
theorem x_keep_ok {g : GE} {M : Mem} {sz : Nat} {σ τ : Nat → Int32} {hk : Bool} {n : Nat} {ps : Nat → Nat → Int32} {len : Nat} {tx : Nat → Int32} (hC : CW g M σ τ hk n ps len tx) : Run g m_X8_keep [rf g 0] M sz 0 0 (RetP (some (.int (tabN σ))) (fun M2 => CW g M2 (σ) (σ) (true) (n) (ps) (len) (tx) ∧ FR M M2 0 96)) := by
  obtain ⟨p0, y1, y2⟩ := hC.2.1.1
  obtain ⟨k0, k1, k2⟩ := hC.2.2.1.1
  refine Run.of rfl (by decide) (Nat.le_of_ble_eq_true rfl) ?_
  show V g m_X8_keep 0 _ [] _ _ _ _ _
  refine V_aload_n 0 dX8_keep_0 rfl ?_
  refine G_X8_16 rfl hC.1 rfl dX8_keep_1 ?_
  refine V_aload_n 0 dX8_keep_4 rfl ?_
  refine G_X8_10 rfl hC.1 rfl dX8_keep_5 ?_
  refine Cp_X8_225 k1 rfl ⟨Nat.le_of_ble_eq_true rfl, Nat.le_of_ble_eq_true rfl⟩ (r_ycopy hC.2.2.1 hC.2.1 (by omega)) rfl (Nat.le_of_ble_eq_true rfl) dX8_keep_8 rfl (fun _ q9 => ?_)
  refine V_aload_n 0 dX8_keep_11 rfl ?_
  refine V_iconst (v := 1) dX8_keep_12 rfl ?_
  refine V_pc (pc2 := 13) rfl ?_
  refine P_X8_58 rfl (show _ = some (XO g hk) from (q9.2 _ (by omega)).trans hC.1) (Nat.le_of_ble_eq_true rfl) rfl rfl dX8_keep_13 ?_
  have hC2 : CW g (mup _ 0 (XO g true)) σ σ true n ps len tx := ⟨mup_eq _ _ _, hC.2.1.fr (fun k a b => (mup_ne _ _ (by omega)).trans (q9.2 k (by omega))), q9.1.fr (fun k a b => mup_ne _ _ (by omega)), hC.2.2.2.1.fr (fun k a b => (mup_ne _ _ (by omega)).trans (q9.2 k (by omega))), hC.2.2.2.2.1.fr (fun k a b => (mup_ne _ _ (by omega)).trans (q9.2 k (by omega))), hC.2.2.2.2.2.fr (fun k a b => (mup_ne _ _ (by omega)).trans (q9.2 k (by omega)))⟩
  obtain ⟨z9, z3, z4⟩ := hC2.2.1.1
  refine V_pc (pc2 := 16) rfl ?_
  refine V_aload_n 0 dX8_keep_16 rfl ?_
  refine G_X8_10 rfl hC2.1 rfl dX8_keep_17 ?_
  refine G_X8_89 rfl z3 rfl dX8_keep_20 ?_
  refine C_X8_228 (show _ = some (eO 4 [rf g (1 + 3 + 1), .int _]) from hC2.2.1.2.2.2.1.choose_spec.choose_spec.1.1) rfl ⟨Nat.le_of_ble_eq_true rfl, Nat.le_of_ble_eq_true rfl⟩ (hC2.2.1.2.2.2.1.size) rfl (Nat.le_of_ble_eq_true rfl) dX8_keep_23 rfl ?_
  refine V_iret (st := []) dX8_keep_26 rfl ?_
  exact ⟨rfl, hC2, (q9.2.wide (by omega)).put (by omega)⟩
set_option maxRecDepth 20000 in
theorem x_restore_1 {g : GE} {M : Mem} {sz : Nat} {σ τ : Nat → Int32} {hk : Bool} {n : Nat} {ps : Nat → Nat → Int32} {len : Nat} {tx : Nat → Int32} (hC : CW g M σ τ hk n ps len tx) (h0 : hk = false) : Run g m_X8_restore [rf g 0] M sz 1 6 (Thr (exN 2) M) := by
  subst h0
  refine Run.of rfl (by decide) (Nat.le_of_ble_eq_true rfl) ?_
  show V g m_X8_restore 0 _ [] _ _ _ _ _
  refine V_aload_n 0 dX8_restore_0 rfl ?_
  refine G_X8_58 rfl hC.1 rfl dX8_restore_1 ?_
  refine V_if_ne (tgt := 17) dX8_restore_4 (by decide) (fun c4 => absurd rfl c4) (fun c4 => ?_)
  refine V_throwS 2 8 (by decide) (by decide) rfl rfl rfl rfl rfl (Nat.le_of_ble_eq_true rfl) (Nat.le_of_ble_eq_true rfl) dX8_restore_7 dX8_restore_10 dX8_restore_11 dX8_restore_13 dX8_restore_16 ?_
  exact ⟨rfl, rfl⟩
set_option maxRecDepth 20000 in
theorem x_restore_ok {g : GE} {M : Mem} {sz : Nat} {σ τ : Nat → Int32} {hk : Bool} {n : Nat} {ps : Nat → Nat → Int32} {len : Nat} {tx : Nat → Int32} (hC : CW g M σ τ hk n ps len tx) (hn : n ≤ 6) (h1 : hk = true) {sn : Nat → Int32} (hs : ∀ k, k < 65 → sn k = τ k) : Run g m_X8_restore [rf g 0] M sz 0 0 (RetP (some (.int (tabN (rowN sn σ 65)))) (fun M2 => CW g M2 (rowN sn σ 65) (τ) (hk) (pshN n) (pshP n ps σ) (len) (tx) ∧ FR M M2 0 96)) := by
  subst h1
  obtain ⟨p0, y1, y2⟩ := hC.2.1.1
  refine Run.of rfl (by decide) (Nat.le_of_ble_eq_true rfl) ?_
  show V g m_X8_restore 0 _ [] _ _ _ _ _
  refine V_aload_n 0 dX8_restore_0 rfl ?_
  refine G_X8_58 rfl hC.1 rfl dX8_restore_1 ?_
  refine V_if_ne (tgt := 17) dX8_restore_4 (by decide) (fun c4 => ?_) (fun c4 => absurd c4 (by decide))
  refine V_aload_n 0 dX8_restore_17 rfl ?_
  refine G_X8_22 rfl hC.1 rfl dX8_restore_18 ?_
  refine V_aload_n 0 dX8_restore_21 rfl ?_
  refine G_X8_10 rfl hC.1 rfl dX8_restore_22 ?_
  refine V_pc (pc2 := 25) rfl ?_
  refine Cp_X8_70 hC.2.2.2.1.choose_spec.1 rfl ⟨Nat.le_of_ble_eq_true rfl, Nat.le_of_ble_eq_true rfl⟩ (r_push hC.2.2.2.1 hn hC.2.1 (by omega)) rfl (Nat.le_of_ble_eq_true rfl) dX8_restore_25 rfl (fun _ q9 => ?_)
  have hC2 := hC.psh q9.1 q9.2
  have hF2 := q9.2
  clear q9
  obtain ⟨p9, y3, y4⟩ := hC2.2.1.1
  refine V_aload_n 0 dX8_restore_28 rfl ?_
  refine G_X8_10 rfl hC2.1 rfl dX8_restore_29 ?_
  refine V_aload_n 0 dX8_restore_32 rfl ?_
  refine G_X8_16 rfl hC2.1 rfl dX8_restore_33 ?_
  refine Cp_X8_225 y3 rfl ⟨Nat.le_of_ble_eq_true rfl, Nat.le_of_ble_eq_true rfl⟩ (r_ycopy hC2.2.1 hC2.2.2.1 (by omega)) rfl (Nat.le_of_ble_eq_true rfl) dX8_restore_36 rfl (fun _ q8 => ?_)
  have hC3 := hC2.now (q8.1.ext (τ := rowN sn σ 65) (fun k hk => by rw [rowN_in hk]; exact (hs k hk).symm)) q8.2
  have hF3 := q8.2
  clear q8
  obtain ⟨z9, z3, z4⟩ := hC3.2.1.1
  refine V_aload_n 0 dX8_restore_39 rfl ?_
  refine G_X8_10 rfl hC3.1 rfl dX8_restore_40 ?_
  refine V_pc (pc2 := 43) rfl ?_
  refine G_X8_89 rfl z3 rfl dX8_restore_43 ?_
  refine C_X8_228 (show _ = some (eO 4 [rf g (1 + 3 + 1), .int _]) from hC3.2.1.2.2.2.1.choose_spec.choose_spec.1.1) rfl ⟨Nat.le_of_ble_eq_true rfl, Nat.le_of_ble_eq_true rfl⟩ (hC3.2.1.2.2.2.1.size) rfl (Nat.le_of_ble_eq_true rfl) dX8_restore_46 rfl ?_
  refine V_iret (st := []) dX8_restore_49 rfl ?_
  exact ⟨rfl, hC3, FR.trans (b := 0) (n := 96) (FR.wide hF2 (b2 := 0) (n2 := 96) (by omega)) hF3 (by omega)⟩
