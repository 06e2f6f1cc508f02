/-! the law's head -/
theorem σ0_z : ∀ k, k < 20 → σ0 k = 0 := by
  intro k hk
  unfold σ0
  rw [if_neg (by omega), if_neg (by omega)]
theorem IS_0 : IS σ0 := by
  refine ⟨fun k hk => Or.inl ⟨σ0_z k (by omega), σ0_z (10 + k) (by omega)⟩, ⟨0, by decide, rfl, fun i hi => absurd hi (Nat.not_lt_zero i)⟩, fun i hi => ⟨36, by decide, by decide, ?_⟩, ⟨0, by decide, rfl⟩, ⟨0, by decide, rfl⟩, ⟨4, by decide, by decide, rfl⟩, Or.inl ⟨rfl, rfl⟩⟩
  unfold σ0
  rw [if_pos (by omega)]
  rfl
theorem INV_0 : INV σ0 σ0 z0 false 0 (fun _ => σ0) 0 z0 := by
  unfold INV
  exact ⟨IS_0, fun h => absurd h (by decide), by decide, fun i hi => absurd hi (Nat.not_lt_zero i), by decide, fun k hk => absurd hk (Nat.not_lt_zero k)⟩
set_option maxRecDepth 20000 in
theorem law_head {g : GE} (hN : gN g ≤ 2560) {Q : Ou → Mem → Prop} (hq : ∀ M, Q (.inl (some (.int 1))) M) : V g m_L_law 0 [(0, .ref (gS g))] [] (fun _ => none) 0 618 4751 Q := by
  refine V_newO (ci := 8) (fs := [.null, .null, .null, .null, .null, .null, .null, .null, .int 0]) rfl n_L_8 i_X8.1 i_X8.2 nw_X8 (fun q hq => absurd hq (Nat.not_lt_zero q)) dL_law_0 (fun hz0 => ?_)
  refine V_dup dL_law_3 rfl ?_
  refine Cp_L_80 rfl ⟨Nat.le_of_ble_eq_true rfl, Nat.le_of_ble_eq_true rfl⟩ (ini_X8 (mup_eq _ _ _) (FU.new (fun q hq => absurd hq (Nat.not_lt_zero q)))) rfl (Nat.le_of_ble_eq_true rfl) dL_law_4 rfl (fun _ q0 => ?_)
  obtain ⟨P0, f0⟩ := q0
  refine V_astore_n (lv2 := [(1, .ref _), (0, .ref _)]) dL_law_7 (Nat.le_of_ble_eq_true rfl) rfl ?_
  refine V_newO (ci := 9) (fs := [.null, .null, .int 0, .null, .int 0, .null, .int 0, .int 0, .null, .null, .null, .null, .int 0, .int 0, .int 0, .int 0, .int 0, .int 0, .int 0]) rfl n_L_81 i_X9.1 i_X9.2 nw_X9 f0 dL_law_8 (fun hz8 => ?_)
  refine V_dup dL_law_11 rfl ?_
  refine Cp_L_83 rfl ⟨Nat.le_of_ble_eq_true rfl, Nat.le_of_ble_eq_true rfl⟩ (ini_X9 (mup_eq _ _ _) f0.new) rfl (Nat.le_of_ble_eq_true rfl) dL_law_12 rfl (fun _ q1 => ?_)
  obtain ⟨P1, f1, l1⟩ := q1
  refine V_pc (pc2 := 15) rfl ?_
  refine V_astore_n (lv2 := [(2, .ref _), (1, .ref _), (0, .ref _)]) dL_law_15 (Nat.le_of_ble_eq_true rfl) rfl ?_
  refine V_iconst (v := 1) dL_law_16 rfl ?_
  refine V_newJ 1 ac_J (by decide) rfl (by decide) f1 dL_law_17 (fun hz17 => ?_)
  refine V_astore_n (lv2 := [(3, .ref _), (2, .ref _), (1, .ref _), (0, .ref _)]) dL_law_19 (Nat.le_of_ble_eq_true rfl) rfl ?_
  refine V_iconst (v := 0) dL_law_20 rfl ?_
  refine V_istore (lv2 := [(4, .int _), (3, .ref _), (2, .ref _), (1, .ref _), (0, .ref _)]) dL_law_21 (Nat.le_of_ble_eq_true rfl) rfl ?_
  refine V_lv (lv2 := [(4, .int _), (3, .ref _), (2, .ref _), (1, .ref _), (0, .ref _)]) [0, 1, 2, 3, 4] rfl ?_
  exact law_loop hN hq (fun a b => op_stick g a b) (fun a b c d => op_table g a b c d) (fun a b => op_drop g a b) (fun a b => op_set g a b) (fun a b => op_bolt g a b) (fun a b => op_send g a b) (fun a => op_sell g a) (fun a => op_append g a) (op_clearBuffer g) (op_firstError g) (op_work g) (fun a => op_stopped g a) (op_undo g) (op_keep g) (op_restore g) (fun a b c => op_tableOf g a b c) (fun a b => op_ring g a b) (fun a b => op_boltOf g a b) (fun a => op_count g a) (fun a b c d => op_offBy g a b c d) (fun a b c => op_turned g a b c) (fun a b c => op_bestWay g a b c) (fun a b c => op_mends g a b c) (op_trueShare g) (op_digest g) 512 0 (by decide) (by omega) _ _ ⟨0, σ0, σ0, z0, false, 0, fun _ => σ0, 0, z0, P0.fr (fun q a => (mup_ne _ _ (by omega)).trans ((l1 q (by omega)).trans (mup_ne _ _ (by omega)))), P1.fr (fun q a b => mup_ne _ _ (by omega)), INV_0, _, mup_eq _ _ _⟩

