/-! constructors: the class -/
set_option maxRecDepth 20000 in
theorem ini_X8 {g : GE} {M : Mem} (h : M 0 = some (eO 8 [.null, .null, .null, .null, .null, .null, .null, .null, .int 0])) (hf : FU M 1) : Run g m_X8_init [rf g 0] M 1 95 986 (RetP none (fun M2 => CW g M2 σ0 σ0 false 0 (fun _ => σ0) 0 z0 ∧ FU M2 96)) := by
  refine Run.of rfl (by decide) (Nat.le_of_ble_eq_true rfl) ?_
  show V g m_X8_init 0 _ [] _ _ _ _ _
  refine V_aload_n 0 dX8_init_0 rfl ?_
  refine V_objInit l_obj_X8_1 (Nat.le_of_ble_eq_true rfl) (Nat.le_of_ble_eq_true rfl) dX8_init_1 ?_
  refine V_aload_n 0 dX8_init_4 rfl ?_
  refine V_newO (ci := 7) (fs := [.null, .null, .null, .null, .int 0, .int 0]) rfl n_X8_7 i_X7.1 i_X7.2 nw_X7 hf dX8_init_5 (fun hz5 => ?_)
  refine V_dup dX8_init_8 rfl ?_
  refine Cp_X8_9 rfl ⟨Nat.le_of_ble_eq_true rfl, Nat.le_of_ble_eq_true rfl⟩ (ini_X7 (y := 1) (mup_eq _ _ _) hf.new) rfl (Nat.le_of_ble_eq_true rfl) dX8_init_9 rfl (fun _ q0 => ?_)
  obtain ⟨P0, f1, l0⟩ := q0
  have e0 := (l0 0 (by omega)).trans ((mup_ne _ _ (by decide)).trans h)
  refine P_X8_10 rfl rfl (show _ = some (eO 8 [.null, .null, .null, .null, .null, .null, .null, .null, .int 0]) from e0) (Nat.le_of_ble_eq_true rfl) rfl rfl dX8_init_12 ?_
  refine V_pc (pc2 := 15) rfl ?_
  refine V_aload_n 0 dX8_init_15 rfl ?_
  refine V_newO (ci := 7) (fs := [.null, .null, .null, .null, .int 0, .int 0]) rfl n_X8_7 i_X7.1 i_X7.2 nw_X7 f1.put dX8_init_16 (fun hz16 => ?_)
  refine V_dup dX8_init_19 rfl ?_
  refine Cp_X8_9 rfl ⟨Nat.le_of_ble_eq_true rfl, Nat.le_of_ble_eq_true rfl⟩ (ini_X7 (y := 11) (mup_eq _ _ _) (f1.put).new) rfl (Nat.le_of_ble_eq_true rfl) dX8_init_20 rfl (fun _ q1 => ?_)
  obtain ⟨P1, f2, l1⟩ := q1
  have e1 := (l1 0 (by omega)).trans ((mup_ne _ _ (by decide)).trans (mup_eq _ _ _))
  refine P_X8_16 rfl rfl (show _ = some (eO 8 [rf g 1, .null, .null, .null, .null, .null, .null, .null, .int 0]) from e1) (Nat.le_of_ble_eq_true rfl) rfl rfl dX8_init_23 ?_
  refine V_aload_n 0 dX8_init_26 rfl ?_
  refine V_newO (ci := 1) (fs := [.null, .int 0]) rfl n_X8_19 i_X1.1 i_X1.2 nw_X1 f2.put dX8_init_27 (fun hz27 => ?_)
  refine V_dup dX8_init_30 rfl ?_
  refine V_pc (pc2 := 31) rfl ?_
  refine Cp_X8_21 rfl ⟨Nat.le_of_ble_eq_true rfl, Nat.le_of_ble_eq_true rfl⟩ (ini_X1 (mup_eq _ _ _) (f2.put).new) rfl (Nat.le_of_ble_eq_true rfl) dX8_init_31 rfl (fun _ q2 => ?_)
  obtain ⟨P2, f3, l2⟩ := q2
  have e2 := (l2 0 (by omega)).trans ((mup_ne _ _ (by decide)).trans (mup_eq _ _ _))
  refine P_X8_22 rfl rfl (show _ = some (eO 8 [rf g 1, rf g 11, .null, .null, .null, .null, .null, .null, .int 0]) from e2) (Nat.le_of_ble_eq_true rfl) rfl rfl dX8_init_34 ?_
  refine V_aload_n 0 dX8_init_37 rfl ?_
  refine V_newO (ci := 5) (fs := [.null, .int 0, .int 0]) rfl n_X8_26 i_X5.1 i_X5.2 nw_X5 f3.put dX8_init_38 (fun hz38 => ?_)
  refine V_dup dX8_init_41 rfl ?_
  refine Cp_X8_28 rfl ⟨Nat.le_of_ble_eq_true rfl, Nat.le_of_ble_eq_true rfl⟩ (ini_X5 (t := 83) (mup_eq _ _ _) (f3.put).new) rfl (Nat.le_of_ble_eq_true rfl) dX8_init_42 rfl (fun _ q3 => ?_)
  obtain ⟨P3, f4, l3⟩ := q3
  have e3 := (l3 0 (by omega)).trans ((mup_ne _ _ (by decide)).trans (mup_eq _ _ _))
  refine P_X8_29 rfl rfl (show _ = some (eO 8 [rf g 1, rf g 11, rf g 21, .null, .null, .null, .null, .null, .int 0]) from e3) (Nat.le_of_ble_eq_true rfl) rfl rfl dX8_init_45 ?_
  refine V_aload_n 0 dX8_init_48 rfl ?_
  refine V_pc (pc2 := 49) rfl ?_
  refine V_newO (ci := 3) (fs := [.null, .null, .null]) rfl n_X8_33 i_X3.1 i_X3.2 nw_X3 f4.put dX8_init_49 (fun hz49 => ?_)
  refine V_dup dX8_init_52 rfl ?_
  refine Cp_X8_35 rfl ⟨Nat.le_of_ble_eq_true rfl, Nat.le_of_ble_eq_true rfl⟩ (ini_X3 (mup_eq _ _ _) (f4.put).new) rfl (Nat.le_of_ble_eq_true rfl) dX8_init_53 rfl (fun _ q4 => ?_)
  obtain ⟨P4, P4b, f5, l4⟩ := q4
  have e4 := (l4 0 (by omega)).trans ((mup_ne _ _ (by decide)).trans (mup_eq _ _ _))
  refine P_X8_36 rfl rfl (show _ = some (eO 8 [rf g 1, rf g 11, rf g 21, rf g 83, .null, .null, .null, .null, .int 0]) from e4) (Nat.le_of_ble_eq_true rfl) rfl rfl dX8_init_56 ?_
  refine V_aload_n 0 dX8_init_59 rfl ?_
  refine V_newO (ci := 6) (fs := [.null, .int 0]) rfl n_X8_40 i_X6.1 i_X6.2 nw_X6 f5.put dX8_init_60 (fun hz60 => ?_)
  refine V_dup dX8_init_63 rfl ?_
  refine Cp_X8_42 rfl ⟨Nat.le_of_ble_eq_true rfl, Nat.le_of_ble_eq_true rfl⟩ (ini_X6 (t := 90) (mup_eq _ _ _) (f5.put).new) rfl (Nat.le_of_ble_eq_true rfl) dX8_init_64 rfl (fun _ q5 => ?_)
  obtain ⟨P5, f6, l5⟩ := q5
  have e5 := (l5 0 (by omega)).trans ((mup_ne _ _ (by decide)).trans (mup_eq _ _ _))
  refine V_pc (pc2 := 67) rfl ?_
  refine P_X8_43 rfl rfl (show _ = some (eO 8 [rf g 1, rf g 11, rf g 21, rf g 83, rf g 85, .null, .null, .null, .int 0]) from e5) (Nat.le_of_ble_eq_true rfl) rfl rfl dX8_init_67 ?_
  refine V_aload_n 0 dX8_init_70 rfl ?_
  refine V_newO (ci := 2) (fs := [.null, .null]) rfl n_X8_47 i_X2.1 i_X2.2 nw_X2 f6.put dX8_init_71 (fun hz71 => ?_)
  refine V_dup dX8_init_74 rfl ?_
  refine Cp_X8_49 rfl ⟨Nat.le_of_ble_eq_true rfl, Nat.le_of_ble_eq_true rfl⟩ (ini_X2 (t := 92) (mup_eq _ _ _) (f6.put).new) rfl (Nat.le_of_ble_eq_true rfl) dX8_init_75 rfl (fun _ q6 => ?_)
  obtain ⟨P6, f7, l6⟩ := q6
  have e6 := (l6 0 (by omega)).trans ((mup_ne _ _ (by decide)).trans (mup_eq _ _ _))
  refine P_X8_50 rfl rfl (show _ = some (eO 8 [rf g 1, rf g 11, rf g 21, rf g 83, rf g 85, rf g 90, .null, .null, .int 0]) from e6) (Nat.le_of_ble_eq_true rfl) rfl rfl dX8_init_78 ?_
  refine V_aload_n 0 dX8_init_81 rfl ?_
  refine V_iconst (v := 4) dX8_init_82 rfl ?_
  refine V_pc (pc2 := 83) rfl ?_
  refine V_newI 4 ac_I (by decide) rfl (by decide) f7.put dX8_init_83 (fun hz83 => ?_)
  refine P_X8_54 rfl rfl (show _ = some (eO 8 [rf g 1, rf g 11, rf g 21, rf g 83, rf g 85, rf g 90, rf g 92, .null, .int 0]) from (mup_ne _ _ (by decide)).trans (mup_eq _ _ _)) (Nat.le_of_ble_eq_true rfl) rfl rfl dX8_init_85 ?_
  refine V_aload_n 0 dX8_init_88 rfl ?_
  refine V_iconst (v := 0) dX8_init_89 rfl ?_
  refine P_X8_58 rfl (show _ = some (eO 8 [rf g 1, rf g 11, rf g 21, rf g 83, rf g 85, rf g 90, rf g 92, rf g 95, .int 0]) from mup_eq _ _ _) (Nat.le_of_ble_eq_true rfl) rfl rfl dX8_init_90 ?_
  refine V_ret (st := []) dX8_init_93 rfl ?_
  refine ⟨rfl, ⟨mup_eq _ _ _, P0.fr (fun q a b => by rw [mup_ne _ _ (by omega), mup_ne _ _ (by omega), mup_ne _ _ (by omega), mup_ne _ _ (by omega), l6 q (by omega), mup_ne _ _ (by omega), mup_ne _ _ (by omega), l5 q (by omega), mup_ne _ _ (by omega), mup_ne _ _ (by omega), l4 q (by omega), mup_ne _ _ (by omega), mup_ne _ _ (by omega), l3 q (by omega), mup_ne _ _ (by omega), mup_ne _ _ (by omega), l2 q (by omega), mup_ne _ _ (by omega), mup_ne _ _ (by omega), l1 q (by omega), mup_ne _ _ (by omega), mup_ne _ _ (by omega)]), P1.fr (fun q a b => by rw [mup_ne _ _ (by omega), mup_ne _ _ (by omega), mup_ne _ _ (by omega), mup_ne _ _ (by omega), l6 q (by omega), mup_ne _ _ (by omega), mup_ne _ _ (by omega), l5 q (by omega), mup_ne _ _ (by omega), mup_ne _ _ (by omega), l4 q (by omega), mup_ne _ _ (by omega), mup_ne _ _ (by omega), l3 q (by omega), mup_ne _ _ (by omega), mup_ne _ _ (by omega), l2 q (by omega), mup_ne _ _ (by omega), mup_ne _ _ (by omega)]), ⟨svI, P2.fr (fun q a b => by rw [mup_ne _ _ (by omega), mup_ne _ _ (by omega), mup_ne _ _ (by omega), mup_ne _ _ (by omega), l6 q (by omega), mup_ne _ _ (by omega), mup_ne _ _ (by omega), l5 q (by omega), mup_ne _ _ (by omega), mup_ne _ _ (by omega), l4 q (by omega), mup_ne _ _ (by omega), mup_ne _ _ (by omega), l3 q (by omega), mup_ne _ _ (by omega), mup_ne _ _ (by omega)])⟩, ⟨⟨0, ?_⟩, ?_⟩, ⟨?_, ?_, ?_⟩, ?_, ?_, ?_, ?_⟩, f7.put.new.put.put⟩
  · rw [mup_ne _ _ (by decide), mup_ne _ _ (by decide), mup_ne _ _ (by decide), mup_ne _ _ (by decide), l6 83 (by decide), mup_ne _ _ (by decide), mup_ne _ _ (by decide), l5 83 (by decide), mup_ne _ _ (by decide), mup_ne _ _ (by decide), l4 83 (by decide), mup_ne _ _ (by decide), mup_ne _ _ (by decide)]; exact P3.1
  · rw [mup_ne _ _ (by decide), mup_ne _ _ (by decide), mup_ne _ _ (by decide), mup_ne _ _ (by decide), l6 84 (by decide), mup_ne _ _ (by decide), mup_ne _ _ (by decide), l5 84 (by decide), mup_ne _ _ (by decide), mup_ne _ _ (by decide), l4 84 (by decide), mup_ne _ _ (by decide), mup_ne _ _ (by decide)]; exact P3.2
  · rw [mup_ne _ _ (by decide), mup_ne _ _ (by decide), mup_ne _ _ (by decide), mup_ne _ _ (by decide), l6 85 (by decide), mup_ne _ _ (by decide), mup_ne _ _ (by decide), l5 85 (by decide), mup_ne _ _ (by decide), mup_ne _ _ (by decide)]; exact P4.1
  · rw [mup_ne _ _ (by decide), mup_ne _ _ (by decide), mup_ne _ _ (by decide), mup_ne _ _ (by decide), l6 86 (by decide), mup_ne _ _ (by decide), mup_ne _ _ (by decide), l5 86 (by decide), mup_ne _ _ (by decide), mup_ne _ _ (by decide)]; exact P4.2.1
  · rw [mup_ne _ _ (by decide), mup_ne _ _ (by decide), mup_ne _ _ (by decide), mup_ne _ _ (by decide), l6 87 (by decide), mup_ne _ _ (by decide), mup_ne _ _ (by decide), l5 87 (by decide), mup_ne _ _ (by decide), mup_ne _ _ (by decide)]; exact P4.2.2
  · obtain ⟨f, p, t1, t2⟩ := P4b
    refine ⟨f, p, ?_, ?_⟩
    · rw [mup_ne _ _ (by decide), mup_ne _ _ (by decide), mup_ne _ _ (by decide), mup_ne _ _ (by decide), l6 88 (by decide), mup_ne _ _ (by decide), mup_ne _ _ (by decide), l5 88 (by decide), mup_ne _ _ (by decide), mup_ne _ _ (by decide)]; exact t1
    · rw [mup_ne _ _ (by decide), mup_ne _ _ (by decide), mup_ne _ _ (by decide), mup_ne _ _ (by decide), l6 89 (by decide), mup_ne _ _ (by decide), mup_ne _ _ (by decide), l5 89 (by decide), mup_ne _ _ (by decide), mup_ne _ _ (by decide)]; exact t2
  · refine ⟨z0, 0, ?_, ?_⟩
    · rw [mup_ne _ _ (by decide), mup_ne _ _ (by decide), mup_ne _ _ (by decide), mup_ne _ _ (by decide), l6 90 (by decide), mup_ne _ _ (by decide), mup_ne _ _ (by decide)]; exact P5.1
    · rw [mup_ne _ _ (by decide), mup_ne _ _ (by decide), mup_ne _ _ (by decide), mup_ne _ _ (by decide), l6 91 (by decide), mup_ne _ _ (by decide), mup_ne _ _ (by decide)]; exact P5.2
  · refine ⟨?_, fun _ => 0, fun _ => 0, ?_, ?_⟩
    · rw [mup_ne _ _ (by decide), mup_ne _ _ (by decide), mup_ne _ _ (by decide), mup_ne _ _ (by decide)]; exact P6.1
    · rw [mup_ne _ _ (by decide), mup_ne _ _ (by decide), mup_ne _ _ (by decide), mup_ne _ _ (by decide)]; exact P6.2.1
    · rw [mup_ne _ _ (by decide), mup_ne _ _ (by decide), mup_ne _ _ (by decide), mup_ne _ _ (by decide)]; exact P6.2.2
  · exact ⟨fun _ => 0, (mup_ne _ _ (by decide)).trans ((mup_ne _ _ (by decide)).trans (mup_eq _ _ _))⟩
