/-! the law's wrappers: they answer what the method answers, or a number for what it throws -/
set_option maxRecDepth 20000 in
theorem h_stick_ok {g : GE} {M : Mem} {sz : Nat} {p0 p1 : Int32} {a : Int32} {P : Mem → Prop} {fs : List Value} (h0 : M 0 = some (eO 8 fs)) (hr : Run g m_X8_stick [rf g 0, .int p0, .int p1] M sz 0 0 (RetP (some (.int a)) P)) : Run g m_L_stick [rf g 0, .int p0, .int p1] M sz 0 0 (RetP (some (.int a)) P) := by
  refine Run.ofH (by decide) (by decide) (Nat.le_of_ble_eq_true rfl) ?_
  show V g m_L_stick 0 _ [] _ _ _ _ _
  refine V_aload_n 0 dL_stick_0 rfl ?_
  refine V_iload_n 1 dL_stick_1 rfl ?_
  refine V_iload_n 2 dL_stick_2 rfl ?_
  refine V_callVH (mt := m_L_stick) (mc1 := 0) (ms1 := 0) (kc := 0) (ks := 0) hr h0 rfl rfl k_X8_stick s_X8_stick l_L_9 ⟨Nat.le_of_ble_eq_true rfl, Nat.le_of_ble_eq_true rfl⟩ rfl (Nat.le_of_ble_eq_true rfl) dL_stick_3 rfl (fun v1 M1 h => ?_) (fun E1 M1 h => nomatch h.1)
  obtain ⟨h1, h2⟩ := h
  cases h1
  refine V_iret (st := []) dL_stick_6 rfl ?_
  exact ⟨rfl, h2⟩

set_option maxRecDepth 20000 in
theorem h_stick_x0 {g : GE} {M : Mem} {sz : Nat} {p0 p1 : Int32} {P : Mem → Prop} {fs : List Value} (h0 : M 0 = some (eO 8 fs)) (hr : Run g m_X8_stick [rf g 0, .int p0, .int p1] M sz 1 6 (fun o M2 => o = .inr (exN 0) ∧ P M2)) : Run g m_L_stick [rf g 0, .int p0, .int p1] M sz 1 6 (RetP (some (.int (-3))) P) := by
  refine Run.ofH (by decide) (by decide) (Nat.le_of_ble_eq_true rfl) ?_
  show V g m_L_stick 0 _ [] _ _ _ _ _
  refine V_aload_n 0 dL_stick_0 rfl ?_
  refine V_iload_n 1 dL_stick_1 rfl ?_
  refine V_iload_n 2 dL_stick_2 rfl ?_
  refine V_callVH (mt := m_L_stick) (mc1 := 1) (ms1 := 6) (kc := 0) (ks := 0) hr h0 rfl rfl k_X8_stick s_X8_stick l_L_9 ⟨Nat.le_of_ble_eq_true rfl, Nat.le_of_ble_eq_true rfl⟩ rfl (Nat.le_of_ble_eq_true rfl) dL_stick_3 rfl (fun v1 M1 h => nomatch h.1) (fun E1 M1 h => ?_)
  obtain ⟨h1, h2⟩ := h
  cases h1
  refine VX_catch (mt := m_L_stick) [] (0, 6, 7, 15) [(0, 6, 11, 17)] (by decide) rfl (fun z hz => nomatch hz) (by decide) (by decide) cl_L_15 ca_0 (fun q => ?_)
  show V g m_L_stick 7 _ _ _ _ _ _ _
  refine V_astore_n (lv2 := [(3, .ref _), (0, .ref _), (1, .int _), (2, .int _)]) dL_stick_7 (Nat.le_of_ble_eq_true rfl) rfl ?_
  refine V_bipush (v := -3) dL_stick_8 (by decide) ?_
  refine V_iret (st := []) dL_stick_10 rfl ?_
  exact ⟨rfl, h2⟩

set_option maxRecDepth 20000 in
theorem h_stick_x1 {g : GE} {M : Mem} {sz : Nat} {p0 p1 : Int32} {P : Mem → Prop} {fs : List Value} (h0 : M 0 = some (eO 8 fs)) (hr : Run g m_X8_stick [rf g 0, .int p0, .int p1] M sz 1 6 (fun o M2 => o = .inr (exN 1) ∧ P M2)) : Run g m_L_stick [rf g 0, .int p0, .int p1] M sz 1 6 (RetP (some (.int (-2))) P) := by
  refine Run.ofH (by decide) (by decide) (Nat.le_of_ble_eq_true rfl) ?_
  show V g m_L_stick 0 _ [] _ _ _ _ _
  refine V_aload_n 0 dL_stick_0 rfl ?_
  refine V_iload_n 1 dL_stick_1 rfl ?_
  refine V_iload_n 2 dL_stick_2 rfl ?_
  refine V_callVH (mt := m_L_stick) (mc1 := 1) (ms1 := 6) (kc := 0) (ks := 0) hr h0 rfl rfl k_X8_stick s_X8_stick l_L_9 ⟨Nat.le_of_ble_eq_true rfl, Nat.le_of_ble_eq_true rfl⟩ rfl (Nat.le_of_ble_eq_true rfl) dL_stick_3 rfl (fun v1 M1 h => nomatch h.1) (fun E1 M1 h => ?_)
  obtain ⟨h1, h2⟩ := h
  cases h1
  refine VX_catch (mt := m_L_stick) [(0, 6, 7, 15)] (0, 6, 11, 17) [] (by decide) rfl (fun z hz => by rw [List.mem_singleton] at hz; subst hz; exact ⟨by decide, 0, by decide, by decide, cl_L_15⟩) (by decide) (by decide) cl_L_17 ca_1 (fun q => ?_)
  show V g m_L_stick 11 _ _ _ _ _ _ _
  refine V_astore_n (lv2 := [(3, .ref _), (0, .ref _), (1, .int _), (2, .int _)]) dL_stick_11 (Nat.le_of_ble_eq_true rfl) rfl ?_
  refine V_bipush (v := -2) dL_stick_12 (by decide) ?_
  refine V_iret (st := []) dL_stick_14 rfl ?_
  exact ⟨rfl, h2⟩

set_option maxRecDepth 20000 in
theorem h_table_ok {g : GE} {M : Mem} {sz : Nat} {p0 p1 p2 p3 : Int32} {a : Int32} {P : Mem → Prop} {fs : List Value} (h0 : M 0 = some (eO 8 fs)) (hr : Run g m_X8_table [rf g 0, .int p0, .int p1, .int p2, .int p3] M sz 0 0 (RetP (some (.int a)) P)) : Run g m_L_table [rf g 0, .int p0, .int p1, .int p2, .int p3] M sz 0 0 (RetP (some (.int a)) P) := by
  refine Run.ofH (by decide) (by decide) (Nat.le_of_ble_eq_true rfl) ?_
  show V g m_L_table 0 _ [] _ _ _ _ _
  refine V_aload_n 0 dL_table_0 rfl ?_
  refine V_iload_n 1 dL_table_1 rfl ?_
  refine V_iload_n 2 dL_table_2 rfl ?_
  refine V_iload_n 3 dL_table_3 rfl ?_
  refine V_iload 4 dL_table_4 rfl ?_
  refine V_callVH (mt := m_L_table) (mc1 := 0) (ms1 := 0) (kc := 0) (ks := 0) hr h0 rfl rfl k_X8_table s_X8_table l_L_19 ⟨Nat.le_of_ble_eq_true rfl, Nat.le_of_ble_eq_true rfl⟩ rfl (Nat.le_of_ble_eq_true rfl) dL_table_6 rfl (fun v1 M1 h => ?_) (fun E1 M1 h => nomatch h.1)
  obtain ⟨h1, h2⟩ := h
  cases h1
  refine V_iret (st := []) dL_table_9 rfl ?_
  exact ⟨rfl, h2⟩

set_option maxRecDepth 20000 in
theorem h_table_x0 {g : GE} {M : Mem} {sz : Nat} {p0 p1 p2 p3 : Int32} {P : Mem → Prop} {fs : List Value} (h0 : M 0 = some (eO 8 fs)) (hr : Run g m_X8_table [rf g 0, .int p0, .int p1, .int p2, .int p3] M sz 1 6 (fun o M2 => o = .inr (exN 0) ∧ P M2)) : Run g m_L_table [rf g 0, .int p0, .int p1, .int p2, .int p3] M sz 1 6 (RetP (some (.int (-3))) P) := by
  refine Run.ofH (by decide) (by decide) (Nat.le_of_ble_eq_true rfl) ?_
  show V g m_L_table 0 _ [] _ _ _ _ _
  refine V_aload_n 0 dL_table_0 rfl ?_
  refine V_iload_n 1 dL_table_1 rfl ?_
  refine V_iload_n 2 dL_table_2 rfl ?_
  refine V_iload_n 3 dL_table_3 rfl ?_
  refine V_iload 4 dL_table_4 rfl ?_
  refine V_callVH (mt := m_L_table) (mc1 := 1) (ms1 := 6) (kc := 0) (ks := 0) hr h0 rfl rfl k_X8_table s_X8_table l_L_19 ⟨Nat.le_of_ble_eq_true rfl, Nat.le_of_ble_eq_true rfl⟩ rfl (Nat.le_of_ble_eq_true rfl) dL_table_6 rfl (fun v1 M1 h => nomatch h.1) (fun E1 M1 h => ?_)
  obtain ⟨h1, h2⟩ := h
  cases h1
  refine VX_catch (mt := m_L_table) [] (0, 9, 10, 15) [(0, 9, 15, 17), (0, 9, 20, 23)] (by decide) rfl (fun z hz => nomatch hz) (by decide) (by decide) cl_L_15 ca_0 (fun q => ?_)
  show V g m_L_table 10 _ _ _ _ _ _ _
  refine V_astore (lv2 := [(5, .ref _), (0, .ref _), (1, .int _), (2, .int _), (3, .int _), (4, .int _)]) dL_table_10 (Nat.le_of_ble_eq_true rfl) rfl ?_
  refine V_bipush (v := -3) dL_table_12 (by decide) ?_
  refine V_iret (st := []) dL_table_14 rfl ?_
  exact ⟨rfl, h2⟩

set_option maxRecDepth 20000 in
theorem h_table_x1 {g : GE} {M : Mem} {sz : Nat} {p0 p1 p2 p3 : Int32} {P : Mem → Prop} {fs : List Value} (h0 : M 0 = some (eO 8 fs)) (hr : Run g m_X8_table [rf g 0, .int p0, .int p1, .int p2, .int p3] M sz 1 6 (fun o M2 => o = .inr (exN 1) ∧ P M2)) : Run g m_L_table [rf g 0, .int p0, .int p1, .int p2, .int p3] M sz 1 6 (RetP (some (.int (-2))) P) := by
  refine Run.ofH (by decide) (by decide) (Nat.le_of_ble_eq_true rfl) ?_
  show V g m_L_table 0 _ [] _ _ _ _ _
  refine V_aload_n 0 dL_table_0 rfl ?_
  refine V_iload_n 1 dL_table_1 rfl ?_
  refine V_iload_n 2 dL_table_2 rfl ?_
  refine V_iload_n 3 dL_table_3 rfl ?_
  refine V_iload 4 dL_table_4 rfl ?_
  refine V_callVH (mt := m_L_table) (mc1 := 1) (ms1 := 6) (kc := 0) (ks := 0) hr h0 rfl rfl k_X8_table s_X8_table l_L_19 ⟨Nat.le_of_ble_eq_true rfl, Nat.le_of_ble_eq_true rfl⟩ rfl (Nat.le_of_ble_eq_true rfl) dL_table_6 rfl (fun v1 M1 h => nomatch h.1) (fun E1 M1 h => ?_)
  obtain ⟨h1, h2⟩ := h
  cases h1
  refine VX_catch (mt := m_L_table) [(0, 9, 10, 15)] (0, 9, 15, 17) [(0, 9, 20, 23)] (by decide) rfl (fun z hz => by rw [List.mem_singleton] at hz; subst hz; exact ⟨by decide, 0, by decide, by decide, cl_L_15⟩) (by decide) (by decide) cl_L_17 ca_1 (fun q => ?_)
  show V g m_L_table 15 _ _ _ _ _ _ _
  refine V_astore (lv2 := [(5, .ref _), (0, .ref _), (1, .int _), (2, .int _), (3, .int _), (4, .int _)]) dL_table_15 (Nat.le_of_ble_eq_true rfl) rfl ?_
  refine V_bipush (v := -2) dL_table_17 (by decide) ?_
  refine V_iret (st := []) dL_table_19 rfl ?_
  exact ⟨rfl, h2⟩

set_option maxRecDepth 20000 in
theorem h_table_x2 {g : GE} {M : Mem} {sz : Nat} {p0 p1 p2 p3 : Int32} {P : Mem → Prop} {fs : List Value} (h0 : M 0 = some (eO 8 fs)) (hr : Run g m_X8_table [rf g 0, .int p0, .int p1, .int p2, .int p3] M sz 1 6 (fun o M2 => o = .inr (exN 2) ∧ P M2)) : Run g m_L_table [rf g 0, .int p0, .int p1, .int p2, .int p3] M sz 1 6 (RetP (some (.int (-4))) P) := by
  refine Run.ofH (by decide) (by decide) (Nat.le_of_ble_eq_true rfl) ?_
  show V g m_L_table 0 _ [] _ _ _ _ _
  refine V_aload_n 0 dL_table_0 rfl ?_
  refine V_iload_n 1 dL_table_1 rfl ?_
  refine V_iload_n 2 dL_table_2 rfl ?_
  refine V_iload_n 3 dL_table_3 rfl ?_
  refine V_iload 4 dL_table_4 rfl ?_
  refine V_callVH (mt := m_L_table) (mc1 := 1) (ms1 := 6) (kc := 0) (ks := 0) hr h0 rfl rfl k_X8_table s_X8_table l_L_19 ⟨Nat.le_of_ble_eq_true rfl, Nat.le_of_ble_eq_true rfl⟩ rfl (Nat.le_of_ble_eq_true rfl) dL_table_6 rfl (fun v1 M1 h => nomatch h.1) (fun E1 M1 h => ?_)
  obtain ⟨h1, h2⟩ := h
  cases h1
  refine VX_catch (mt := m_L_table) [(0, 9, 10, 15), (0, 9, 15, 17)] (0, 9, 20, 23) [] (by decide) rfl (fun z hz => by rcases List.mem_cons.mp hz with hz | hz; subst hz; exact ⟨by decide, 0, by decide, by decide, cl_L_15⟩; rw [List.mem_singleton] at hz; subst hz; exact ⟨by decide, 1, by decide, by decide, cl_L_17⟩) (by decide) (by decide) cl_L_23 ca_2 (fun q => ?_)
  show V g m_L_table 20 _ _ _ _ _ _ _
  refine V_astore (lv2 := [(5, .ref _), (0, .ref _), (1, .int _), (2, .int _), (3, .int _), (4, .int _)]) dL_table_20 (Nat.le_of_ble_eq_true rfl) rfl ?_
  refine V_bipush (v := -4) dL_table_22 (by decide) ?_
  refine V_iret (st := []) dL_table_24 rfl ?_
  exact ⟨rfl, h2⟩

set_option maxRecDepth 20000 in
theorem h_drop_ok {g : GE} {M : Mem} {sz : Nat} {p0 p1 : Int32} {a : Int32} {P : Mem → Prop} {fs : List Value} (h0 : M 0 = some (eO 8 fs)) (hr : Run g m_X8_drop [rf g 0, .int p0, .int p1] M sz 0 0 (RetP (some (.int a)) P)) : Run g m_L_drop [rf g 0, .int p0, .int p1] M sz 0 0 (RetP (some (.int a)) P) := by
  refine Run.ofH (by decide) (by decide) (Nat.le_of_ble_eq_true rfl) ?_
  show V g m_L_drop 0 _ [] _ _ _ _ _
  refine V_aload_n 0 dL_drop_0 rfl ?_
  refine V_iload_n 1 dL_drop_1 rfl ?_
  refine V_iload_n 2 dL_drop_2 rfl ?_
  refine V_callVH (mt := m_L_drop) (mc1 := 0) (ms1 := 0) (kc := 0) (ks := 0) hr h0 rfl rfl k_X8_drop s_X8_drop l_L_25 ⟨Nat.le_of_ble_eq_true rfl, Nat.le_of_ble_eq_true rfl⟩ rfl (Nat.le_of_ble_eq_true rfl) dL_drop_3 rfl (fun v1 M1 h => ?_) (fun E1 M1 h => nomatch h.1)
  obtain ⟨h1, h2⟩ := h
  cases h1
  refine V_iret (st := []) dL_drop_6 rfl ?_
  exact ⟨rfl, h2⟩

set_option maxRecDepth 20000 in
theorem h_drop_x0 {g : GE} {M : Mem} {sz : Nat} {p0 p1 : Int32} {P : Mem → Prop} {fs : List Value} (h0 : M 0 = some (eO 8 fs)) (hr : Run g m_X8_drop [rf g 0, .int p0, .int p1] M sz 1 6 (fun o M2 => o = .inr (exN 0) ∧ P M2)) : Run g m_L_drop [rf g 0, .int p0, .int p1] M sz 1 6 (RetP (some (.int (-3))) P) := by
  refine Run.ofH (by decide) (by decide) (Nat.le_of_ble_eq_true rfl) ?_
  show V g m_L_drop 0 _ [] _ _ _ _ _
  refine V_aload_n 0 dL_drop_0 rfl ?_
  refine V_iload_n 1 dL_drop_1 rfl ?_
  refine V_iload_n 2 dL_drop_2 rfl ?_
  refine V_callVH (mt := m_L_drop) (mc1 := 1) (ms1 := 6) (kc := 0) (ks := 0) hr h0 rfl rfl k_X8_drop s_X8_drop l_L_25 ⟨Nat.le_of_ble_eq_true rfl, Nat.le_of_ble_eq_true rfl⟩ rfl (Nat.le_of_ble_eq_true rfl) dL_drop_3 rfl (fun v1 M1 h => nomatch h.1) (fun E1 M1 h => ?_)
  obtain ⟨h1, h2⟩ := h
  cases h1
  refine VX_catch (mt := m_L_drop) [] (0, 6, 7, 15) [(0, 6, 11, 23)] (by decide) rfl (fun z hz => nomatch hz) (by decide) (by decide) cl_L_15 ca_0 (fun q => ?_)
  show V g m_L_drop 7 _ _ _ _ _ _ _
  refine V_astore_n (lv2 := [(3, .ref _), (0, .ref _), (1, .int _), (2, .int _)]) dL_drop_7 (Nat.le_of_ble_eq_true rfl) rfl ?_
  refine V_bipush (v := -3) dL_drop_8 (by decide) ?_
  refine V_iret (st := []) dL_drop_10 rfl ?_
  exact ⟨rfl, h2⟩

set_option maxRecDepth 20000 in
theorem h_drop_x2 {g : GE} {M : Mem} {sz : Nat} {p0 p1 : Int32} {P : Mem → Prop} {fs : List Value} (h0 : M 0 = some (eO 8 fs)) (hr : Run g m_X8_drop [rf g 0, .int p0, .int p1] M sz 1 6 (fun o M2 => o = .inr (exN 2) ∧ P M2)) : Run g m_L_drop [rf g 0, .int p0, .int p1] M sz 1 6 (RetP (some (.int (-2))) P) := by
  refine Run.ofH (by decide) (by decide) (Nat.le_of_ble_eq_true rfl) ?_
  show V g m_L_drop 0 _ [] _ _ _ _ _
  refine V_aload_n 0 dL_drop_0 rfl ?_
  refine V_iload_n 1 dL_drop_1 rfl ?_
  refine V_iload_n 2 dL_drop_2 rfl ?_
  refine V_callVH (mt := m_L_drop) (mc1 := 1) (ms1 := 6) (kc := 0) (ks := 0) hr h0 rfl rfl k_X8_drop s_X8_drop l_L_25 ⟨Nat.le_of_ble_eq_true rfl, Nat.le_of_ble_eq_true rfl⟩ rfl (Nat.le_of_ble_eq_true rfl) dL_drop_3 rfl (fun v1 M1 h => nomatch h.1) (fun E1 M1 h => ?_)
  obtain ⟨h1, h2⟩ := h
  cases h1
  refine VX_catch (mt := m_L_drop) [(0, 6, 7, 15)] (0, 6, 11, 23) [] (by decide) rfl (fun z hz => by rw [List.mem_singleton] at hz; subst hz; exact ⟨by decide, 0, by decide, by decide, cl_L_15⟩) (by decide) (by decide) cl_L_23 ca_2 (fun q => ?_)
  show V g m_L_drop 11 _ _ _ _ _ _ _
  refine V_astore_n (lv2 := [(3, .ref _), (0, .ref _), (1, .int _), (2, .int _)]) dL_drop_11 (Nat.le_of_ble_eq_true rfl) rfl ?_
  refine V_bipush (v := -2) dL_drop_12 (by decide) ?_
  refine V_iret (st := []) dL_drop_14 rfl ?_
  exact ⟨rfl, h2⟩

set_option maxRecDepth 20000 in
theorem h_set_ok {g : GE} {M : Mem} {sz : Nat} {p0 p1 : Int32} {a : Int32} {P : Mem → Prop} {fs : List Value} (h0 : M 0 = some (eO 8 fs)) (hr : Run g m_X8_set [rf g 0, .int p0, .int p1] M sz 0 0 (RetP (some (.int a)) P)) : Run g m_L_set [rf g 0, .int p0, .int p1] M sz 0 0 (RetP (some (.int a)) P) := by
  refine Run.ofH (by decide) (by decide) (Nat.le_of_ble_eq_true rfl) ?_
  show V g m_L_set 0 _ [] _ _ _ _ _
  refine V_aload_n 0 dL_set_0 rfl ?_
  refine V_iload_n 1 dL_set_1 rfl ?_
  refine V_iload_n 2 dL_set_2 rfl ?_
  refine V_callVH (mt := m_L_set) (mc1 := 0) (ms1 := 0) (kc := 0) (ks := 0) hr h0 rfl rfl k_X8_set s_X8_set l_L_28 ⟨Nat.le_of_ble_eq_true rfl, Nat.le_of_ble_eq_true rfl⟩ rfl (Nat.le_of_ble_eq_true rfl) dL_set_3 rfl (fun v1 M1 h => ?_) (fun E1 M1 h => nomatch h.1)
  obtain ⟨h1, h2⟩ := h
  cases h1
  refine V_iret (st := []) dL_set_6 rfl ?_
  exact ⟨rfl, h2⟩

set_option maxRecDepth 20000 in
theorem h_set_x0 {g : GE} {M : Mem} {sz : Nat} {p0 p1 : Int32} {P : Mem → Prop} {fs : List Value} (h0 : M 0 = some (eO 8 fs)) (hr : Run g m_X8_set [rf g 0, .int p0, .int p1] M sz 1 6 (fun o M2 => o = .inr (exN 0) ∧ P M2)) : Run g m_L_set [rf g 0, .int p0, .int p1] M sz 1 6 (RetP (some (.int (-3))) P) := by
  refine Run.ofH (by decide) (by decide) (Nat.le_of_ble_eq_true rfl) ?_
  show V g m_L_set 0 _ [] _ _ _ _ _
  refine V_aload_n 0 dL_set_0 rfl ?_
  refine V_iload_n 1 dL_set_1 rfl ?_
  refine V_iload_n 2 dL_set_2 rfl ?_
  refine V_callVH (mt := m_L_set) (mc1 := 1) (ms1 := 6) (kc := 0) (ks := 0) hr h0 rfl rfl k_X8_set s_X8_set l_L_28 ⟨Nat.le_of_ble_eq_true rfl, Nat.le_of_ble_eq_true rfl⟩ rfl (Nat.le_of_ble_eq_true rfl) dL_set_3 rfl (fun v1 M1 h => nomatch h.1) (fun E1 M1 h => ?_)
  obtain ⟨h1, h2⟩ := h
  cases h1
  refine VX_catch (mt := m_L_set) [] (0, 6, 7, 15) [(0, 6, 11, 17)] (by decide) rfl (fun z hz => nomatch hz) (by decide) (by decide) cl_L_15 ca_0 (fun q => ?_)
  show V g m_L_set 7 _ _ _ _ _ _ _
  refine V_astore_n (lv2 := [(3, .ref _), (0, .ref _), (1, .int _), (2, .int _)]) dL_set_7 (Nat.le_of_ble_eq_true rfl) rfl ?_
  refine V_bipush (v := -3) dL_set_8 (by decide) ?_
  refine V_iret (st := []) dL_set_10 rfl ?_
  exact ⟨rfl, h2⟩

set_option maxRecDepth 20000 in
theorem h_set_x1 {g : GE} {M : Mem} {sz : Nat} {p0 p1 : Int32} {P : Mem → Prop} {fs : List Value} (h0 : M 0 = some (eO 8 fs)) (hr : Run g m_X8_set [rf g 0, .int p0, .int p1] M sz 1 6 (fun o M2 => o = .inr (exN 1) ∧ P M2)) : Run g m_L_set [rf g 0, .int p0, .int p1] M sz 1 6 (RetP (some (.int (-2))) P) := by
  refine Run.ofH (by decide) (by decide) (Nat.le_of_ble_eq_true rfl) ?_
  show V g m_L_set 0 _ [] _ _ _ _ _
  refine V_aload_n 0 dL_set_0 rfl ?_
  refine V_iload_n 1 dL_set_1 rfl ?_
  refine V_iload_n 2 dL_set_2 rfl ?_
  refine V_callVH (mt := m_L_set) (mc1 := 1) (ms1 := 6) (kc := 0) (ks := 0) hr h0 rfl rfl k_X8_set s_X8_set l_L_28 ⟨Nat.le_of_ble_eq_true rfl, Nat.le_of_ble_eq_true rfl⟩ rfl (Nat.le_of_ble_eq_true rfl) dL_set_3 rfl (fun v1 M1 h => nomatch h.1) (fun E1 M1 h => ?_)
  obtain ⟨h1, h2⟩ := h
  cases h1
  refine VX_catch (mt := m_L_set) [(0, 6, 7, 15)] (0, 6, 11, 17) [] (by decide) rfl (fun z hz => by rw [List.mem_singleton] at hz; subst hz; exact ⟨by decide, 0, by decide, by decide, cl_L_15⟩) (by decide) (by decide) cl_L_17 ca_1 (fun q => ?_)
  show V g m_L_set 11 _ _ _ _ _ _ _
  refine V_astore_n (lv2 := [(3, .ref _), (0, .ref _), (1, .int _), (2, .int _)]) dL_set_11 (Nat.le_of_ble_eq_true rfl) rfl ?_
  refine V_bipush (v := -2) dL_set_12 (by decide) ?_
  refine V_iret (st := []) dL_set_14 rfl ?_
  exact ⟨rfl, h2⟩

set_option maxRecDepth 20000 in
theorem h_bolt_ok {g : GE} {M : Mem} {sz : Nat} {p0 p1 : Int32} {a : Int32} {P : Mem → Prop} {fs : List Value} (h0 : M 0 = some (eO 8 fs)) (hr : Run g m_X8_bolt [rf g 0, .int p0, .int p1] M sz 0 0 (RetP (some (.int a)) P)) : Run g m_L_bolt [rf g 0, .int p0, .int p1] M sz 0 0 (RetP (some (.int a)) P) := by
  refine Run.ofH (by decide) (by decide) (Nat.le_of_ble_eq_true rfl) ?_
  show V g m_L_bolt 0 _ [] _ _ _ _ _
  refine V_aload_n 0 dL_bolt_0 rfl ?_
  refine V_iload_n 1 dL_bolt_1 rfl ?_
  refine V_iload_n 2 dL_bolt_2 rfl ?_
  refine V_callVH (mt := m_L_bolt) (mc1 := 0) (ms1 := 0) (kc := 0) (ks := 0) hr h0 rfl rfl k_X8_bolt s_X8_bolt l_L_31 ⟨Nat.le_of_ble_eq_true rfl, Nat.le_of_ble_eq_true rfl⟩ rfl (Nat.le_of_ble_eq_true rfl) dL_bolt_3 rfl (fun v1 M1 h => ?_) (fun E1 M1 h => nomatch h.1)
  obtain ⟨h1, h2⟩ := h
  cases h1
  refine V_iret (st := []) dL_bolt_6 rfl ?_
  exact ⟨rfl, h2⟩

set_option maxRecDepth 20000 in
theorem h_bolt_x0 {g : GE} {M : Mem} {sz : Nat} {p0 p1 : Int32} {P : Mem → Prop} {fs : List Value} (h0 : M 0 = some (eO 8 fs)) (hr : Run g m_X8_bolt [rf g 0, .int p0, .int p1] M sz 1 6 (fun o M2 => o = .inr (exN 0) ∧ P M2)) : Run g m_L_bolt [rf g 0, .int p0, .int p1] M sz 1 6 (RetP (some (.int (-3))) P) := by
  refine Run.ofH (by decide) (by decide) (Nat.le_of_ble_eq_true rfl) ?_
  show V g m_L_bolt 0 _ [] _ _ _ _ _
  refine V_aload_n 0 dL_bolt_0 rfl ?_
  refine V_iload_n 1 dL_bolt_1 rfl ?_
  refine V_iload_n 2 dL_bolt_2 rfl ?_
  refine V_callVH (mt := m_L_bolt) (mc1 := 1) (ms1 := 6) (kc := 0) (ks := 0) hr h0 rfl rfl k_X8_bolt s_X8_bolt l_L_31 ⟨Nat.le_of_ble_eq_true rfl, Nat.le_of_ble_eq_true rfl⟩ rfl (Nat.le_of_ble_eq_true rfl) dL_bolt_3 rfl (fun v1 M1 h => nomatch h.1) (fun E1 M1 h => ?_)
  obtain ⟨h1, h2⟩ := h
  cases h1
  refine VX_catch (mt := m_L_bolt) [] (0, 6, 7, 15) [(0, 6, 11, 17), (0, 6, 15, 23)] (by decide) rfl (fun z hz => nomatch hz) (by decide) (by decide) cl_L_15 ca_0 (fun q => ?_)
  show V g m_L_bolt 7 _ _ _ _ _ _ _
  refine V_astore_n (lv2 := [(3, .ref _), (0, .ref _), (1, .int _), (2, .int _)]) dL_bolt_7 (Nat.le_of_ble_eq_true rfl) rfl ?_
  refine V_bipush (v := -3) dL_bolt_8 (by decide) ?_
  refine V_iret (st := []) dL_bolt_10 rfl ?_
  exact ⟨rfl, h2⟩

set_option maxRecDepth 20000 in
theorem h_bolt_x1 {g : GE} {M : Mem} {sz : Nat} {p0 p1 : Int32} {P : Mem → Prop} {fs : List Value} (h0 : M 0 = some (eO 8 fs)) (hr : Run g m_X8_bolt [rf g 0, .int p0, .int p1] M sz 1 6 (fun o M2 => o = .inr (exN 1) ∧ P M2)) : Run g m_L_bolt [rf g 0, .int p0, .int p1] M sz 1 6 (RetP (some (.int (-2))) P) := by
  refine Run.ofH (by decide) (by decide) (Nat.le_of_ble_eq_true rfl) ?_
  show V g m_L_bolt 0 _ [] _ _ _ _ _
  refine V_aload_n 0 dL_bolt_0 rfl ?_
  refine V_iload_n 1 dL_bolt_1 rfl ?_
  refine V_iload_n 2 dL_bolt_2 rfl ?_
  refine V_callVH (mt := m_L_bolt) (mc1 := 1) (ms1 := 6) (kc := 0) (ks := 0) hr h0 rfl rfl k_X8_bolt s_X8_bolt l_L_31 ⟨Nat.le_of_ble_eq_true rfl, Nat.le_of_ble_eq_true rfl⟩ rfl (Nat.le_of_ble_eq_true rfl) dL_bolt_3 rfl (fun v1 M1 h => nomatch h.1) (fun E1 M1 h => ?_)
  obtain ⟨h1, h2⟩ := h
  cases h1
  refine VX_catch (mt := m_L_bolt) [(0, 6, 7, 15)] (0, 6, 11, 17) [(0, 6, 15, 23)] (by decide) rfl (fun z hz => by rw [List.mem_singleton] at hz; subst hz; exact ⟨by decide, 0, by decide, by decide, cl_L_15⟩) (by decide) (by decide) cl_L_17 ca_1 (fun q => ?_)
  show V g m_L_bolt 11 _ _ _ _ _ _ _
  refine V_astore_n (lv2 := [(3, .ref _), (0, .ref _), (1, .int _), (2, .int _)]) dL_bolt_11 (Nat.le_of_ble_eq_true rfl) rfl ?_
  refine V_bipush (v := -2) dL_bolt_12 (by decide) ?_
  refine V_iret (st := []) dL_bolt_14 rfl ?_
  exact ⟨rfl, h2⟩

set_option maxRecDepth 20000 in
theorem h_bolt_x2 {g : GE} {M : Mem} {sz : Nat} {p0 p1 : Int32} {P : Mem → Prop} {fs : List Value} (h0 : M 0 = some (eO 8 fs)) (hr : Run g m_X8_bolt [rf g 0, .int p0, .int p1] M sz 1 6 (fun o M2 => o = .inr (exN 2) ∧ P M2)) : Run g m_L_bolt [rf g 0, .int p0, .int p1] M sz 1 6 (RetP (some (.int (-4))) P) := by
  refine Run.ofH (by decide) (by decide) (Nat.le_of_ble_eq_true rfl) ?_
  show V g m_L_bolt 0 _ [] _ _ _ _ _
  refine V_aload_n 0 dL_bolt_0 rfl ?_
  refine V_iload_n 1 dL_bolt_1 rfl ?_
  refine V_iload_n 2 dL_bolt_2 rfl ?_
  refine V_callVH (mt := m_L_bolt) (mc1 := 1) (ms1 := 6) (kc := 0) (ks := 0) hr h0 rfl rfl k_X8_bolt s_X8_bolt l_L_31 ⟨Nat.le_of_ble_eq_true rfl, Nat.le_of_ble_eq_true rfl⟩ rfl (Nat.le_of_ble_eq_true rfl) dL_bolt_3 rfl (fun v1 M1 h => nomatch h.1) (fun E1 M1 h => ?_)
  obtain ⟨h1, h2⟩ := h
  cases h1
  refine VX_catch (mt := m_L_bolt) [(0, 6, 7, 15), (0, 6, 11, 17)] (0, 6, 15, 23) [] (by decide) rfl (fun z hz => by rcases List.mem_cons.mp hz with hz | hz; subst hz; exact ⟨by decide, 0, by decide, by decide, cl_L_15⟩; rw [List.mem_singleton] at hz; subst hz; exact ⟨by decide, 1, by decide, by decide, cl_L_17⟩) (by decide) (by decide) cl_L_23 ca_2 (fun q => ?_)
  show V g m_L_bolt 15 _ _ _ _ _ _ _
  refine V_astore_n (lv2 := [(3, .ref _), (0, .ref _), (1, .int _), (2, .int _)]) dL_bolt_15 (Nat.le_of_ble_eq_true rfl) rfl ?_
  refine V_bipush (v := -4) dL_bolt_16 (by decide) ?_
  refine V_iret (st := []) dL_bolt_18 rfl ?_
  exact ⟨rfl, h2⟩

set_option maxRecDepth 20000 in
theorem h_send_ok {g : GE} {M : Mem} {sz : Nat} {p0 p1 : Int32} {a : Int32} {P : Mem → Prop} {fs : List Value} (h0 : M 0 = some (eO 8 fs)) (hr : Run g m_X8_send [rf g 0, .int p0, .int p1] M sz 0 0 (RetP (some (.int a)) P)) : Run g m_L_send [rf g 0, .int p0, .int p1] M sz 0 0 (RetP (some (.int a)) P) := by
  refine Run.ofH (by decide) (by decide) (Nat.le_of_ble_eq_true rfl) ?_
  show V g m_L_send 0 _ [] _ _ _ _ _
  refine V_aload_n 0 dL_send_0 rfl ?_
  refine V_iload_n 1 dL_send_1 rfl ?_
  refine V_iload_n 2 dL_send_2 rfl ?_
  refine V_callVH (mt := m_L_send) (mc1 := 0) (ms1 := 0) (kc := 0) (ks := 0) hr h0 rfl rfl k_X8_send s_X8_send l_L_34 ⟨Nat.le_of_ble_eq_true rfl, Nat.le_of_ble_eq_true rfl⟩ rfl (Nat.le_of_ble_eq_true rfl) dL_send_3 rfl (fun v1 M1 h => ?_) (fun E1 M1 h => nomatch h.1)
  obtain ⟨h1, h2⟩ := h
  cases h1
  refine V_iret (st := []) dL_send_6 rfl ?_
  exact ⟨rfl, h2⟩

set_option maxRecDepth 20000 in
theorem h_send_x0 {g : GE} {M : Mem} {sz : Nat} {p0 p1 : Int32} {P : Mem → Prop} {fs : List Value} (h0 : M 0 = some (eO 8 fs)) (hr : Run g m_X8_send [rf g 0, .int p0, .int p1] M sz 1 6 (fun o M2 => o = .inr (exN 0) ∧ P M2)) : Run g m_L_send [rf g 0, .int p0, .int p1] M sz 1 6 (RetP (some (.int (-3))) P) := by
  refine Run.ofH (by decide) (by decide) (Nat.le_of_ble_eq_true rfl) ?_
  show V g m_L_send 0 _ [] _ _ _ _ _
  refine V_aload_n 0 dL_send_0 rfl ?_
  refine V_iload_n 1 dL_send_1 rfl ?_
  refine V_iload_n 2 dL_send_2 rfl ?_
  refine V_callVH (mt := m_L_send) (mc1 := 1) (ms1 := 6) (kc := 0) (ks := 0) hr h0 rfl rfl k_X8_send s_X8_send l_L_34 ⟨Nat.le_of_ble_eq_true rfl, Nat.le_of_ble_eq_true rfl⟩ rfl (Nat.le_of_ble_eq_true rfl) dL_send_3 rfl (fun v1 M1 h => nomatch h.1) (fun E1 M1 h => ?_)
  obtain ⟨h1, h2⟩ := h
  cases h1
  refine VX_catch (mt := m_L_send) [] (0, 6, 7, 15) [(0, 6, 11, 23)] (by decide) rfl (fun z hz => nomatch hz) (by decide) (by decide) cl_L_15 ca_0 (fun q => ?_)
  show V g m_L_send 7 _ _ _ _ _ _ _
  refine V_astore_n (lv2 := [(3, .ref _), (0, .ref _), (1, .int _), (2, .int _)]) dL_send_7 (Nat.le_of_ble_eq_true rfl) rfl ?_
  refine V_bipush (v := -3) dL_send_8 (by decide) ?_
  refine V_iret (st := []) dL_send_10 rfl ?_
  exact ⟨rfl, h2⟩

set_option maxRecDepth 20000 in
theorem h_send_x2 {g : GE} {M : Mem} {sz : Nat} {p0 p1 : Int32} {P : Mem → Prop} {fs : List Value} (h0 : M 0 = some (eO 8 fs)) (hr : Run g m_X8_send [rf g 0, .int p0, .int p1] M sz 1 6 (fun o M2 => o = .inr (exN 2) ∧ P M2)) : Run g m_L_send [rf g 0, .int p0, .int p1] M sz 1 6 (RetP (some (.int (-2))) P) := by
  refine Run.ofH (by decide) (by decide) (Nat.le_of_ble_eq_true rfl) ?_
  show V g m_L_send 0 _ [] _ _ _ _ _
  refine V_aload_n 0 dL_send_0 rfl ?_
  refine V_iload_n 1 dL_send_1 rfl ?_
  refine V_iload_n 2 dL_send_2 rfl ?_
  refine V_callVH (mt := m_L_send) (mc1 := 1) (ms1 := 6) (kc := 0) (ks := 0) hr h0 rfl rfl k_X8_send s_X8_send l_L_34 ⟨Nat.le_of_ble_eq_true rfl, Nat.le_of_ble_eq_true rfl⟩ rfl (Nat.le_of_ble_eq_true rfl) dL_send_3 rfl (fun v1 M1 h => nomatch h.1) (fun E1 M1 h => ?_)
  obtain ⟨h1, h2⟩ := h
  cases h1
  refine VX_catch (mt := m_L_send) [(0, 6, 7, 15)] (0, 6, 11, 23) [] (by decide) rfl (fun z hz => by rw [List.mem_singleton] at hz; subst hz; exact ⟨by decide, 0, by decide, by decide, cl_L_15⟩) (by decide) (by decide) cl_L_23 ca_2 (fun q => ?_)
  show V g m_L_send 11 _ _ _ _ _ _ _
  refine V_astore_n (lv2 := [(3, .ref _), (0, .ref _), (1, .int _), (2, .int _)]) dL_send_11 (Nat.le_of_ble_eq_true rfl) rfl ?_
  refine V_bipush (v := -2) dL_send_12 (by decide) ?_
  refine V_iret (st := []) dL_send_14 rfl ?_
  exact ⟨rfl, h2⟩

set_option maxRecDepth 20000 in
theorem h_sell_ok {g : GE} {M : Mem} {sz : Nat} {p0 : Int32} {a : Int32} {P : Mem → Prop} {fs : List Value} (h0 : M 0 = some (eO 8 fs)) (hr : Run g m_X8_sell [rf g 0, .int p0] M sz 0 0 (RetP (some (.int a)) P)) : Run g m_L_sell [rf g 0, .int p0] M sz 0 0 (RetP (some (.int a)) P) := by
  refine Run.ofH (by decide) (by decide) (Nat.le_of_ble_eq_true rfl) ?_
  show V g m_L_sell 0 _ [] _ _ _ _ _
  refine V_aload_n 0 dL_sell_0 rfl ?_
  refine V_iload_n 1 dL_sell_1 rfl ?_
  refine V_callVH (mt := m_L_sell) (mc1 := 0) (ms1 := 0) (kc := 0) (ks := 0) hr h0 rfl rfl k_X8_sell s_X8_sell l_L_37 ⟨Nat.le_of_ble_eq_true rfl, Nat.le_of_ble_eq_true rfl⟩ rfl (Nat.le_of_ble_eq_true rfl) dL_sell_2 rfl (fun v1 M1 h => ?_) (fun E1 M1 h => nomatch h.1)
  obtain ⟨h1, h2⟩ := h
  cases h1
  refine V_iret (st := []) dL_sell_5 rfl ?_
  exact ⟨rfl, h2⟩

set_option maxRecDepth 20000 in
theorem h_sell_x0 {g : GE} {M : Mem} {sz : Nat} {p0 : Int32} {P : Mem → Prop} {fs : List Value} (h0 : M 0 = some (eO 8 fs)) (hr : Run g m_X8_sell [rf g 0, .int p0] M sz 1 6 (fun o M2 => o = .inr (exN 0) ∧ P M2)) : Run g m_L_sell [rf g 0, .int p0] M sz 1 6 (RetP (some (.int (-2))) P) := by
  refine Run.ofH (by decide) (by decide) (Nat.le_of_ble_eq_true rfl) ?_
  show V g m_L_sell 0 _ [] _ _ _ _ _
  refine V_aload_n 0 dL_sell_0 rfl ?_
  refine V_iload_n 1 dL_sell_1 rfl ?_
  refine V_callVH (mt := m_L_sell) (mc1 := 1) (ms1 := 6) (kc := 0) (ks := 0) hr h0 rfl rfl k_X8_sell s_X8_sell l_L_37 ⟨Nat.le_of_ble_eq_true rfl, Nat.le_of_ble_eq_true rfl⟩ rfl (Nat.le_of_ble_eq_true rfl) dL_sell_2 rfl (fun v1 M1 h => nomatch h.1) (fun E1 M1 h => ?_)
  obtain ⟨h1, h2⟩ := h
  cases h1
  refine VX_catch (mt := m_L_sell) [] (0, 5, 6, 15) [] (by decide) rfl (fun z hz => nomatch hz) (by decide) (by decide) cl_L_15 ca_0 (fun q => ?_)
  show V g m_L_sell 6 _ _ _ _ _ _ _
  refine V_astore_n (lv2 := [(2, .ref _), (0, .ref _), (1, .int _)]) dL_sell_6 (Nat.le_of_ble_eq_true rfl) rfl ?_
  refine V_bipush (v := -2) dL_sell_7 (by decide) ?_
  refine V_iret (st := []) dL_sell_9 rfl ?_
  exact ⟨rfl, h2⟩

set_option maxRecDepth 20000 in
theorem h_tableOf_ok {g : GE} {M : Mem} {sz : Nat} {p0 p1 p2 : Int32} {a : Int32} {P : Mem → Prop} {fs : List Value} (h0 : M 0 = some (eO 8 fs)) (hr : Run g m_X8_tableOf [rf g 0, .int p0, .int p1, .int p2] M sz 0 0 (RetP (some (.int a)) P)) : Run g m_L_tableOf [rf g 0, .int p0, .int p1, .int p2] M sz 0 0 (RetP (some (.int a)) P) := by
  refine Run.ofH (by decide) (by decide) (Nat.le_of_ble_eq_true rfl) ?_
  show V g m_L_tableOf 0 _ [] _ _ _ _ _
  refine V_aload_n 0 dL_tableOf_0 rfl ?_
  refine V_iload_n 1 dL_tableOf_1 rfl ?_
  refine V_iload_n 2 dL_tableOf_2 rfl ?_
  refine V_iload_n 3 dL_tableOf_3 rfl ?_
  refine V_callVH (mt := m_L_tableOf) (mc1 := 0) (ms1 := 0) (kc := 0) (ks := 0) hr h0 rfl rfl k_X8_tableOf s_X8_tableOf l_L_41 ⟨Nat.le_of_ble_eq_true rfl, Nat.le_of_ble_eq_true rfl⟩ rfl (Nat.le_of_ble_eq_true rfl) dL_tableOf_4 rfl (fun v1 M1 h => ?_) (fun E1 M1 h => nomatch h.1)
  obtain ⟨h1, h2⟩ := h
  cases h1
  refine V_iret (st := []) dL_tableOf_7 rfl ?_
  exact ⟨rfl, h2⟩

set_option maxRecDepth 20000 in
theorem h_tableOf_x0 {g : GE} {M : Mem} {sz : Nat} {p0 p1 p2 : Int32} {P : Mem → Prop} {fs : List Value} (h0 : M 0 = some (eO 8 fs)) (hr : Run g m_X8_tableOf [rf g 0, .int p0, .int p1, .int p2] M sz 1 6 (fun o M2 => o = .inr (exN 0) ∧ P M2)) : Run g m_L_tableOf [rf g 0, .int p0, .int p1, .int p2] M sz 1 6 (RetP (some (.int (-3))) P) := by
  refine Run.ofH (by decide) (by decide) (Nat.le_of_ble_eq_true rfl) ?_
  show V g m_L_tableOf 0 _ [] _ _ _ _ _
  refine V_aload_n 0 dL_tableOf_0 rfl ?_
  refine V_iload_n 1 dL_tableOf_1 rfl ?_
  refine V_iload_n 2 dL_tableOf_2 rfl ?_
  refine V_iload_n 3 dL_tableOf_3 rfl ?_
  refine V_callVH (mt := m_L_tableOf) (mc1 := 1) (ms1 := 6) (kc := 0) (ks := 0) hr h0 rfl rfl k_X8_tableOf s_X8_tableOf l_L_41 ⟨Nat.le_of_ble_eq_true rfl, Nat.le_of_ble_eq_true rfl⟩ rfl (Nat.le_of_ble_eq_true rfl) dL_tableOf_4 rfl (fun v1 M1 h => nomatch h.1) (fun E1 M1 h => ?_)
  obtain ⟨h1, h2⟩ := h
  cases h1
  refine VX_catch (mt := m_L_tableOf) [] (0, 7, 8, 15) [(0, 7, 13, 17)] (by decide) rfl (fun z hz => nomatch hz) (by decide) (by decide) cl_L_15 ca_0 (fun q => ?_)
  show V g m_L_tableOf 8 _ _ _ _ _ _ _
  refine V_astore (lv2 := [(4, .ref _), (0, .ref _), (1, .int _), (2, .int _), (3, .int _)]) dL_tableOf_8 (Nat.le_of_ble_eq_true rfl) rfl ?_
  refine V_bipush (v := -3) dL_tableOf_10 (by decide) ?_
  refine V_iret (st := []) dL_tableOf_12 rfl ?_
  exact ⟨rfl, h2⟩

set_option maxRecDepth 20000 in
theorem h_tableOf_x1 {g : GE} {M : Mem} {sz : Nat} {p0 p1 p2 : Int32} {P : Mem → Prop} {fs : List Value} (h0 : M 0 = some (eO 8 fs)) (hr : Run g m_X8_tableOf [rf g 0, .int p0, .int p1, .int p2] M sz 1 6 (fun o M2 => o = .inr (exN 1) ∧ P M2)) : Run g m_L_tableOf [rf g 0, .int p0, .int p1, .int p2] M sz 1 6 (RetP (some (.int (-2))) P) := by
  refine Run.ofH (by decide) (by decide) (Nat.le_of_ble_eq_true rfl) ?_
  show V g m_L_tableOf 0 _ [] _ _ _ _ _
  refine V_aload_n 0 dL_tableOf_0 rfl ?_
  refine V_iload_n 1 dL_tableOf_1 rfl ?_
  refine V_iload_n 2 dL_tableOf_2 rfl ?_
  refine V_iload_n 3 dL_tableOf_3 rfl ?_
  refine V_callVH (mt := m_L_tableOf) (mc1 := 1) (ms1 := 6) (kc := 0) (ks := 0) hr h0 rfl rfl k_X8_tableOf s_X8_tableOf l_L_41 ⟨Nat.le_of_ble_eq_true rfl, Nat.le_of_ble_eq_true rfl⟩ rfl (Nat.le_of_ble_eq_true rfl) dL_tableOf_4 rfl (fun v1 M1 h => nomatch h.1) (fun E1 M1 h => ?_)
  obtain ⟨h1, h2⟩ := h
  cases h1
  refine VX_catch (mt := m_L_tableOf) [(0, 7, 8, 15)] (0, 7, 13, 17) [] (by decide) rfl (fun z hz => by rw [List.mem_singleton] at hz; subst hz; exact ⟨by decide, 0, by decide, by decide, cl_L_15⟩) (by decide) (by decide) cl_L_17 ca_1 (fun q => ?_)
  show V g m_L_tableOf 13 _ _ _ _ _ _ _
  refine V_astore (lv2 := [(4, .ref _), (0, .ref _), (1, .int _), (2, .int _), (3, .int _)]) dL_tableOf_13 (Nat.le_of_ble_eq_true rfl) rfl ?_
  refine V_bipush (v := -2) dL_tableOf_15 (by decide) ?_
  refine V_iret (st := []) dL_tableOf_17 rfl ?_
  exact ⟨rfl, h2⟩

set_option maxRecDepth 20000 in
theorem h_ring_ok {g : GE} {M : Mem} {sz : Nat} {p0 p1 : Int32} {a : Int32} {P : Mem → Prop} {fs : List Value} (h0 : M 0 = some (eO 8 fs)) (hr : Run g m_X8_ring [rf g 0, .int p0, .int p1] M sz 0 0 (RetP (some (.int a)) P)) : Run g m_L_ring [rf g 0, .int p0, .int p1] M sz 0 0 (RetP (some (.int a)) P) := by
  refine Run.ofH (by decide) (by decide) (Nat.le_of_ble_eq_true rfl) ?_
  show V g m_L_ring 0 _ [] _ _ _ _ _
  refine V_aload_n 0 dL_ring_0 rfl ?_
  refine V_iload_n 1 dL_ring_1 rfl ?_
  refine V_iload_n 2 dL_ring_2 rfl ?_
  refine V_callVH (mt := m_L_ring) (mc1 := 0) (ms1 := 0) (kc := 0) (ks := 0) hr h0 rfl rfl k_X8_ring s_X8_ring l_L_45 ⟨Nat.le_of_ble_eq_true rfl, Nat.le_of_ble_eq_true rfl⟩ rfl (Nat.le_of_ble_eq_true rfl) dL_ring_3 rfl (fun v1 M1 h => ?_) (fun E1 M1 h => nomatch h.1)
  obtain ⟨h1, h2⟩ := h
  cases h1
  refine V_iret (st := []) dL_ring_6 rfl ?_
  exact ⟨rfl, h2⟩

set_option maxRecDepth 20000 in
theorem h_ring_x1 {g : GE} {M : Mem} {sz : Nat} {p0 p1 : Int32} {P : Mem → Prop} {fs : List Value} (h0 : M 0 = some (eO 8 fs)) (hr : Run g m_X8_ring [rf g 0, .int p0, .int p1] M sz 1 6 (fun o M2 => o = .inr (exN 1) ∧ P M2)) : Run g m_L_ring [rf g 0, .int p0, .int p1] M sz 1 6 (RetP (some (.int (-2))) P) := by
  refine Run.ofH (by decide) (by decide) (Nat.le_of_ble_eq_true rfl) ?_
  show V g m_L_ring 0 _ [] _ _ _ _ _
  refine V_aload_n 0 dL_ring_0 rfl ?_
  refine V_iload_n 1 dL_ring_1 rfl ?_
  refine V_iload_n 2 dL_ring_2 rfl ?_
  refine V_callVH (mt := m_L_ring) (mc1 := 1) (ms1 := 6) (kc := 0) (ks := 0) hr h0 rfl rfl k_X8_ring s_X8_ring l_L_45 ⟨Nat.le_of_ble_eq_true rfl, Nat.le_of_ble_eq_true rfl⟩ rfl (Nat.le_of_ble_eq_true rfl) dL_ring_3 rfl (fun v1 M1 h => nomatch h.1) (fun E1 M1 h => ?_)
  obtain ⟨h1, h2⟩ := h
  cases h1
  refine VX_catch (mt := m_L_ring) [] (0, 6, 7, 17) [] (by decide) rfl (fun z hz => nomatch hz) (by decide) (by decide) cl_L_17 ca_1 (fun q => ?_)
  show V g m_L_ring 7 _ _ _ _ _ _ _
  refine V_astore_n (lv2 := [(3, .ref _), (0, .ref _), (1, .int _), (2, .int _)]) dL_ring_7 (Nat.le_of_ble_eq_true rfl) rfl ?_
  refine V_bipush (v := -2) dL_ring_8 (by decide) ?_
  refine V_iret (st := []) dL_ring_10 rfl ?_
  exact ⟨rfl, h2⟩

set_option maxRecDepth 20000 in
theorem h_boltOf_ok {g : GE} {M : Mem} {sz : Nat} {p0 p1 : Int32} {a : Int32} {P : Mem → Prop} {fs : List Value} (h0 : M 0 = some (eO 8 fs)) (hr : Run g m_X8_boltOf [rf g 0, .int p0, .int p1] M sz 0 0 (RetP (some (.int a)) P)) : Run g m_L_boltOf [rf g 0, .int p0, .int p1] M sz 0 0 (RetP (some (.int a)) P) := by
  refine Run.ofH (by decide) (by decide) (Nat.le_of_ble_eq_true rfl) ?_
  show V g m_L_boltOf 0 _ [] _ _ _ _ _
  refine V_aload_n 0 dL_boltOf_0 rfl ?_
  refine V_iload_n 1 dL_boltOf_1 rfl ?_
  refine V_iload_n 2 dL_boltOf_2 rfl ?_
  refine V_callVH (mt := m_L_boltOf) (mc1 := 0) (ms1 := 0) (kc := 0) (ks := 0) hr h0 rfl rfl k_X8_boltOf s_X8_boltOf l_L_48 ⟨Nat.le_of_ble_eq_true rfl, Nat.le_of_ble_eq_true rfl⟩ rfl (Nat.le_of_ble_eq_true rfl) dL_boltOf_3 rfl (fun v1 M1 h => ?_) (fun E1 M1 h => nomatch h.1)
  obtain ⟨h1, h2⟩ := h
  cases h1
  refine V_iret (st := []) dL_boltOf_6 rfl ?_
  exact ⟨rfl, h2⟩

set_option maxRecDepth 20000 in
theorem h_boltOf_x0 {g : GE} {M : Mem} {sz : Nat} {p0 p1 : Int32} {P : Mem → Prop} {fs : List Value} (h0 : M 0 = some (eO 8 fs)) (hr : Run g m_X8_boltOf [rf g 0, .int p0, .int p1] M sz 1 6 (fun o M2 => o = .inr (exN 0) ∧ P M2)) : Run g m_L_boltOf [rf g 0, .int p0, .int p1] M sz 1 6 (RetP (some (.int (-3))) P) := by
  refine Run.ofH (by decide) (by decide) (Nat.le_of_ble_eq_true rfl) ?_
  show V g m_L_boltOf 0 _ [] _ _ _ _ _
  refine V_aload_n 0 dL_boltOf_0 rfl ?_
  refine V_iload_n 1 dL_boltOf_1 rfl ?_
  refine V_iload_n 2 dL_boltOf_2 rfl ?_
  refine V_callVH (mt := m_L_boltOf) (mc1 := 1) (ms1 := 6) (kc := 0) (ks := 0) hr h0 rfl rfl k_X8_boltOf s_X8_boltOf l_L_48 ⟨Nat.le_of_ble_eq_true rfl, Nat.le_of_ble_eq_true rfl⟩ rfl (Nat.le_of_ble_eq_true rfl) dL_boltOf_3 rfl (fun v1 M1 h => nomatch h.1) (fun E1 M1 h => ?_)
  obtain ⟨h1, h2⟩ := h
  cases h1
  refine VX_catch (mt := m_L_boltOf) [] (0, 6, 7, 15) [(0, 6, 11, 17)] (by decide) rfl (fun z hz => nomatch hz) (by decide) (by decide) cl_L_15 ca_0 (fun q => ?_)
  show V g m_L_boltOf 7 _ _ _ _ _ _ _
  refine V_astore_n (lv2 := [(3, .ref _), (0, .ref _), (1, .int _), (2, .int _)]) dL_boltOf_7 (Nat.le_of_ble_eq_true rfl) rfl ?_
  refine V_bipush (v := -3) dL_boltOf_8 (by decide) ?_
  refine V_iret (st := []) dL_boltOf_10 rfl ?_
  exact ⟨rfl, h2⟩

set_option maxRecDepth 20000 in
theorem h_boltOf_x1 {g : GE} {M : Mem} {sz : Nat} {p0 p1 : Int32} {P : Mem → Prop} {fs : List Value} (h0 : M 0 = some (eO 8 fs)) (hr : Run g m_X8_boltOf [rf g 0, .int p0, .int p1] M sz 1 6 (fun o M2 => o = .inr (exN 1) ∧ P M2)) : Run g m_L_boltOf [rf g 0, .int p0, .int p1] M sz 1 6 (RetP (some (.int (-2))) P) := by
  refine Run.ofH (by decide) (by decide) (Nat.le_of_ble_eq_true rfl) ?_
  show V g m_L_boltOf 0 _ [] _ _ _ _ _
  refine V_aload_n 0 dL_boltOf_0 rfl ?_
  refine V_iload_n 1 dL_boltOf_1 rfl ?_
  refine V_iload_n 2 dL_boltOf_2 rfl ?_
  refine V_callVH (mt := m_L_boltOf) (mc1 := 1) (ms1 := 6) (kc := 0) (ks := 0) hr h0 rfl rfl k_X8_boltOf s_X8_boltOf l_L_48 ⟨Nat.le_of_ble_eq_true rfl, Nat.le_of_ble_eq_true rfl⟩ rfl (Nat.le_of_ble_eq_true rfl) dL_boltOf_3 rfl (fun v1 M1 h => nomatch h.1) (fun E1 M1 h => ?_)
  obtain ⟨h1, h2⟩ := h
  cases h1
  refine VX_catch (mt := m_L_boltOf) [(0, 6, 7, 15)] (0, 6, 11, 17) [] (by decide) rfl (fun z hz => by rw [List.mem_singleton] at hz; subst hz; exact ⟨by decide, 0, by decide, by decide, cl_L_15⟩) (by decide) (by decide) cl_L_17 ca_1 (fun q => ?_)
  show V g m_L_boltOf 11 _ _ _ _ _ _ _
  refine V_astore_n (lv2 := [(3, .ref _), (0, .ref _), (1, .int _), (2, .int _)]) dL_boltOf_11 (Nat.le_of_ble_eq_true rfl) rfl ?_
  refine V_bipush (v := -2) dL_boltOf_12 (by decide) ?_
  refine V_iret (st := []) dL_boltOf_14 rfl ?_
  exact ⟨rfl, h2⟩

set_option maxRecDepth 20000 in
theorem h_count_ok {g : GE} {M : Mem} {sz : Nat} {p0 : Int32} {a : Int32} {P : Mem → Prop} {fs : List Value} (h0 : M 0 = some (eO 8 fs)) (hr : Run g m_X8_count [rf g 0, .int p0] M sz 0 0 (RetP (some (.int a)) P)) : Run g m_L_count [rf g 0, .int p0] M sz 0 0 (RetP (some (.int a)) P) := by
  refine Run.ofH (by decide) (by decide) (Nat.le_of_ble_eq_true rfl) ?_
  show V g m_L_count 0 _ [] _ _ _ _ _
  refine V_aload_n 0 dL_count_0 rfl ?_
  refine V_iload_n 1 dL_count_1 rfl ?_
  refine V_callVH (mt := m_L_count) (mc1 := 0) (ms1 := 0) (kc := 0) (ks := 0) hr h0 rfl rfl k_X8_count s_X8_count l_L_51 ⟨Nat.le_of_ble_eq_true rfl, Nat.le_of_ble_eq_true rfl⟩ rfl (Nat.le_of_ble_eq_true rfl) dL_count_2 rfl (fun v1 M1 h => ?_) (fun E1 M1 h => nomatch h.1)
  obtain ⟨h1, h2⟩ := h
  cases h1
  refine V_iret (st := []) dL_count_5 rfl ?_
  exact ⟨rfl, h2⟩

set_option maxRecDepth 20000 in
theorem h_count_x1 {g : GE} {M : Mem} {sz : Nat} {p0 : Int32} {P : Mem → Prop} {fs : List Value} (h0 : M 0 = some (eO 8 fs)) (hr : Run g m_X8_count [rf g 0, .int p0] M sz 1 6 (fun o M2 => o = .inr (exN 1) ∧ P M2)) : Run g m_L_count [rf g 0, .int p0] M sz 1 6 (RetP (some (.int (-2))) P) := by
  refine Run.ofH (by decide) (by decide) (Nat.le_of_ble_eq_true rfl) ?_
  show V g m_L_count 0 _ [] _ _ _ _ _
  refine V_aload_n 0 dL_count_0 rfl ?_
  refine V_iload_n 1 dL_count_1 rfl ?_
  refine V_callVH (mt := m_L_count) (mc1 := 1) (ms1 := 6) (kc := 0) (ks := 0) hr h0 rfl rfl k_X8_count s_X8_count l_L_51 ⟨Nat.le_of_ble_eq_true rfl, Nat.le_of_ble_eq_true rfl⟩ rfl (Nat.le_of_ble_eq_true rfl) dL_count_2 rfl (fun v1 M1 h => nomatch h.1) (fun E1 M1 h => ?_)
  obtain ⟨h1, h2⟩ := h
  cases h1
  refine VX_catch (mt := m_L_count) [] (0, 5, 6, 17) [] (by decide) rfl (fun z hz => nomatch hz) (by decide) (by decide) cl_L_17 ca_1 (fun q => ?_)
  show V g m_L_count 6 _ _ _ _ _ _ _
  refine V_astore_n (lv2 := [(2, .ref _), (0, .ref _), (1, .int _)]) dL_count_6 (Nat.le_of_ble_eq_true rfl) rfl ?_
  refine V_bipush (v := -2) dL_count_7 (by decide) ?_
  refine V_iret (st := []) dL_count_9 rfl ?_
  exact ⟨rfl, h2⟩

set_option maxRecDepth 20000 in
theorem h_offBy_ok {g : GE} {M : Mem} {sz : Nat} {p0 p1 p2 p3 : Int32} {a : Int32} {P : Mem → Prop} {fs : List Value} (h0 : M 0 = some (eO 8 fs)) (hr : Run g m_X8_offBy [rf g 0, .int p0, .int p1, .int p2, .int p3] M sz 0 0 (RetP (some (.int a)) P)) : Run g m_L_offBy [rf g 0, .int p0, .int p1, .int p2, .int p3] M sz 0 0 (RetP (some (.int a)) P) := by
  refine Run.ofH (by decide) (by decide) (Nat.le_of_ble_eq_true rfl) ?_
  show V g m_L_offBy 0 _ [] _ _ _ _ _
  refine V_aload_n 0 dL_offBy_0 rfl ?_
  refine V_iload_n 1 dL_offBy_1 rfl ?_
  refine V_iload_n 2 dL_offBy_2 rfl ?_
  refine V_iload_n 3 dL_offBy_3 rfl ?_
  refine V_iload 4 dL_offBy_4 rfl ?_
  refine V_callVH (mt := m_L_offBy) (mc1 := 0) (ms1 := 0) (kc := 0) (ks := 0) hr h0 rfl rfl k_X8_offBy s_X8_offBy l_L_54 ⟨Nat.le_of_ble_eq_true rfl, Nat.le_of_ble_eq_true rfl⟩ rfl (Nat.le_of_ble_eq_true rfl) dL_offBy_6 rfl (fun v1 M1 h => ?_) (fun E1 M1 h => nomatch h.1)
  obtain ⟨h1, h2⟩ := h
  cases h1
  refine V_iret (st := []) dL_offBy_9 rfl ?_
  exact ⟨rfl, h2⟩

set_option maxRecDepth 20000 in
theorem h_offBy_x0 {g : GE} {M : Mem} {sz : Nat} {p0 p1 p2 p3 : Int32} {P : Mem → Prop} {fs : List Value} (h0 : M 0 = some (eO 8 fs)) (hr : Run g m_X8_offBy [rf g 0, .int p0, .int p1, .int p2, .int p3] M sz 1 6 (fun o M2 => o = .inr (exN 0) ∧ P M2)) : Run g m_L_offBy [rf g 0, .int p0, .int p1, .int p2, .int p3] M sz 1 6 (RetP (some (.int (-3))) P) := by
  refine Run.ofH (by decide) (by decide) (Nat.le_of_ble_eq_true rfl) ?_
  show V g m_L_offBy 0 _ [] _ _ _ _ _
  refine V_aload_n 0 dL_offBy_0 rfl ?_
  refine V_iload_n 1 dL_offBy_1 rfl ?_
  refine V_iload_n 2 dL_offBy_2 rfl ?_
  refine V_iload_n 3 dL_offBy_3 rfl ?_
  refine V_iload 4 dL_offBy_4 rfl ?_
  refine V_callVH (mt := m_L_offBy) (mc1 := 1) (ms1 := 6) (kc := 0) (ks := 0) hr h0 rfl rfl k_X8_offBy s_X8_offBy l_L_54 ⟨Nat.le_of_ble_eq_true rfl, Nat.le_of_ble_eq_true rfl⟩ rfl (Nat.le_of_ble_eq_true rfl) dL_offBy_6 rfl (fun v1 M1 h => nomatch h.1) (fun E1 M1 h => ?_)
  obtain ⟨h1, h2⟩ := h
  cases h1
  refine VX_catch (mt := m_L_offBy) [] (0, 9, 10, 15) [(0, 9, 15, 17)] (by decide) rfl (fun z hz => nomatch hz) (by decide) (by decide) cl_L_15 ca_0 (fun q => ?_)
  show V g m_L_offBy 10 _ _ _ _ _ _ _
  refine V_astore (lv2 := [(5, .ref _), (0, .ref _), (1, .int _), (2, .int _), (3, .int _), (4, .int _)]) dL_offBy_10 (Nat.le_of_ble_eq_true rfl) rfl ?_
  refine V_bipush (v := -3) dL_offBy_12 (by decide) ?_
  refine V_iret (st := []) dL_offBy_14 rfl ?_
  exact ⟨rfl, h2⟩

set_option maxRecDepth 20000 in
theorem h_offBy_x1 {g : GE} {M : Mem} {sz : Nat} {p0 p1 p2 p3 : Int32} {P : Mem → Prop} {fs : List Value} (h0 : M 0 = some (eO 8 fs)) (hr : Run g m_X8_offBy [rf g 0, .int p0, .int p1, .int p2, .int p3] M sz 1 6 (fun o M2 => o = .inr (exN 1) ∧ P M2)) : Run g m_L_offBy [rf g 0, .int p0, .int p1, .int p2, .int p3] M sz 1 6 (RetP (some (.int (-2))) P) := by
  refine Run.ofH (by decide) (by decide) (Nat.le_of_ble_eq_true rfl) ?_
  show V g m_L_offBy 0 _ [] _ _ _ _ _
  refine V_aload_n 0 dL_offBy_0 rfl ?_
  refine V_iload_n 1 dL_offBy_1 rfl ?_
  refine V_iload_n 2 dL_offBy_2 rfl ?_
  refine V_iload_n 3 dL_offBy_3 rfl ?_
  refine V_iload 4 dL_offBy_4 rfl ?_
  refine V_callVH (mt := m_L_offBy) (mc1 := 1) (ms1 := 6) (kc := 0) (ks := 0) hr h0 rfl rfl k_X8_offBy s_X8_offBy l_L_54 ⟨Nat.le_of_ble_eq_true rfl, Nat.le_of_ble_eq_true rfl⟩ rfl (Nat.le_of_ble_eq_true rfl) dL_offBy_6 rfl (fun v1 M1 h => nomatch h.1) (fun E1 M1 h => ?_)
  obtain ⟨h1, h2⟩ := h
  cases h1
  refine VX_catch (mt := m_L_offBy) [(0, 9, 10, 15)] (0, 9, 15, 17) [] (by decide) rfl (fun z hz => by rw [List.mem_singleton] at hz; subst hz; exact ⟨by decide, 0, by decide, by decide, cl_L_15⟩) (by decide) (by decide) cl_L_17 ca_1 (fun q => ?_)
  show V g m_L_offBy 15 _ _ _ _ _ _ _
  refine V_astore (lv2 := [(5, .ref _), (0, .ref _), (1, .int _), (2, .int _), (3, .int _), (4, .int _)]) dL_offBy_15 (Nat.le_of_ble_eq_true rfl) rfl ?_
  refine V_bipush (v := -2) dL_offBy_17 (by decide) ?_
  refine V_iret (st := []) dL_offBy_19 rfl ?_
  exact ⟨rfl, h2⟩

set_option maxRecDepth 20000 in
theorem h_turned_ok {g : GE} {M : Mem} {sz : Nat} {p0 p1 p2 : Int32} {a : Int32} {P : Mem → Prop} {fs : List Value} (h0 : M 0 = some (eO 8 fs)) (hr : Run g m_X8_turned [rf g 0, .int p0, .int p1, .int p2] M sz 0 0 (RetP (some (.int a)) P)) : Run g m_L_turned [rf g 0, .int p0, .int p1, .int p2] M sz 0 0 (RetP (some (.int a)) P) := by
  refine Run.ofH (by decide) (by decide) (Nat.le_of_ble_eq_true rfl) ?_
  show V g m_L_turned 0 _ [] _ _ _ _ _
  refine V_aload_n 0 dL_turned_0 rfl ?_
  refine V_iload_n 1 dL_turned_1 rfl ?_
  refine V_iload_n 2 dL_turned_2 rfl ?_
  refine V_iload_n 3 dL_turned_3 rfl ?_
  refine V_callVH (mt := m_L_turned) (mc1 := 0) (ms1 := 0) (kc := 0) (ks := 0) hr h0 rfl rfl k_X8_turned s_X8_turned l_L_57 ⟨Nat.le_of_ble_eq_true rfl, Nat.le_of_ble_eq_true rfl⟩ rfl (Nat.le_of_ble_eq_true rfl) dL_turned_4 rfl (fun v1 M1 h => ?_) (fun E1 M1 h => nomatch h.1)
  obtain ⟨h1, h2⟩ := h
  cases h1
  refine V_iret (st := []) dL_turned_7 rfl ?_
  exact ⟨rfl, h2⟩

set_option maxRecDepth 20000 in
theorem h_turned_x0 {g : GE} {M : Mem} {sz : Nat} {p0 p1 p2 : Int32} {P : Mem → Prop} {fs : List Value} (h0 : M 0 = some (eO 8 fs)) (hr : Run g m_X8_turned [rf g 0, .int p0, .int p1, .int p2] M sz 1 6 (fun o M2 => o = .inr (exN 0) ∧ P M2)) : Run g m_L_turned [rf g 0, .int p0, .int p1, .int p2] M sz 1 6 (RetP (some (.int (-3))) P) := by
  refine Run.ofH (by decide) (by decide) (Nat.le_of_ble_eq_true rfl) ?_
  show V g m_L_turned 0 _ [] _ _ _ _ _
  refine V_aload_n 0 dL_turned_0 rfl ?_
  refine V_iload_n 1 dL_turned_1 rfl ?_
  refine V_iload_n 2 dL_turned_2 rfl ?_
  refine V_iload_n 3 dL_turned_3 rfl ?_
  refine V_callVH (mt := m_L_turned) (mc1 := 1) (ms1 := 6) (kc := 0) (ks := 0) hr h0 rfl rfl k_X8_turned s_X8_turned l_L_57 ⟨Nat.le_of_ble_eq_true rfl, Nat.le_of_ble_eq_true rfl⟩ rfl (Nat.le_of_ble_eq_true rfl) dL_turned_4 rfl (fun v1 M1 h => nomatch h.1) (fun E1 M1 h => ?_)
  obtain ⟨h1, h2⟩ := h
  cases h1
  refine VX_catch (mt := m_L_turned) [] (0, 7, 8, 15) [(0, 7, 13, 17)] (by decide) rfl (fun z hz => nomatch hz) (by decide) (by decide) cl_L_15 ca_0 (fun q => ?_)
  show V g m_L_turned 8 _ _ _ _ _ _ _
  refine V_astore (lv2 := [(4, .ref _), (0, .ref _), (1, .int _), (2, .int _), (3, .int _)]) dL_turned_8 (Nat.le_of_ble_eq_true rfl) rfl ?_
  refine V_bipush (v := -3) dL_turned_10 (by decide) ?_
  refine V_iret (st := []) dL_turned_12 rfl ?_
  exact ⟨rfl, h2⟩

set_option maxRecDepth 20000 in
theorem h_turned_x1 {g : GE} {M : Mem} {sz : Nat} {p0 p1 p2 : Int32} {P : Mem → Prop} {fs : List Value} (h0 : M 0 = some (eO 8 fs)) (hr : Run g m_X8_turned [rf g 0, .int p0, .int p1, .int p2] M sz 1 6 (fun o M2 => o = .inr (exN 1) ∧ P M2)) : Run g m_L_turned [rf g 0, .int p0, .int p1, .int p2] M sz 1 6 (RetP (some (.int (-2))) P) := by
  refine Run.ofH (by decide) (by decide) (Nat.le_of_ble_eq_true rfl) ?_
  show V g m_L_turned 0 _ [] _ _ _ _ _
  refine V_aload_n 0 dL_turned_0 rfl ?_
  refine V_iload_n 1 dL_turned_1 rfl ?_
  refine V_iload_n 2 dL_turned_2 rfl ?_
  refine V_iload_n 3 dL_turned_3 rfl ?_
  refine V_callVH (mt := m_L_turned) (mc1 := 1) (ms1 := 6) (kc := 0) (ks := 0) hr h0 rfl rfl k_X8_turned s_X8_turned l_L_57 ⟨Nat.le_of_ble_eq_true rfl, Nat.le_of_ble_eq_true rfl⟩ rfl (Nat.le_of_ble_eq_true rfl) dL_turned_4 rfl (fun v1 M1 h => nomatch h.1) (fun E1 M1 h => ?_)
  obtain ⟨h1, h2⟩ := h
  cases h1
  refine VX_catch (mt := m_L_turned) [(0, 7, 8, 15)] (0, 7, 13, 17) [] (by decide) rfl (fun z hz => by rw [List.mem_singleton] at hz; subst hz; exact ⟨by decide, 0, by decide, by decide, cl_L_15⟩) (by decide) (by decide) cl_L_17 ca_1 (fun q => ?_)
  show V g m_L_turned 13 _ _ _ _ _ _ _
  refine V_astore (lv2 := [(4, .ref _), (0, .ref _), (1, .int _), (2, .int _), (3, .int _)]) dL_turned_13 (Nat.le_of_ble_eq_true rfl) rfl ?_
  refine V_bipush (v := -2) dL_turned_15 (by decide) ?_
  refine V_iret (st := []) dL_turned_17 rfl ?_
  exact ⟨rfl, h2⟩

set_option maxRecDepth 20000 in
theorem h_bestWay_ok {g : GE} {M : Mem} {sz : Nat} {p0 p1 p2 : Int32} {a : Int32} {P : Mem → Prop} {fs : List Value} (h0 : M 0 = some (eO 8 fs)) (hr : Run g m_X8_bestWay [rf g 0, .int p0, .int p1, .int p2] M sz 0 0 (RetP (some (.int a)) P)) : Run g m_L_bestWay [rf g 0, .int p0, .int p1, .int p2] M sz 0 0 (RetP (some (.int a)) P) := by
  refine Run.ofH (by decide) (by decide) (Nat.le_of_ble_eq_true rfl) ?_
  show V g m_L_bestWay 0 _ [] _ _ _ _ _
  refine V_aload_n 0 dL_bestWay_0 rfl ?_
  refine V_iload_n 1 dL_bestWay_1 rfl ?_
  refine V_iload_n 2 dL_bestWay_2 rfl ?_
  refine V_iload_n 3 dL_bestWay_3 rfl ?_
  refine V_callVH (mt := m_L_bestWay) (mc1 := 0) (ms1 := 0) (kc := 0) (ks := 0) hr h0 rfl rfl k_X8_bestWay s_X8_bestWay l_L_60 ⟨Nat.le_of_ble_eq_true rfl, Nat.le_of_ble_eq_true rfl⟩ rfl (Nat.le_of_ble_eq_true rfl) dL_bestWay_4 rfl (fun v1 M1 h => ?_) (fun E1 M1 h => nomatch h.1)
  obtain ⟨h1, h2⟩ := h
  cases h1
  refine V_iret (st := []) dL_bestWay_7 rfl ?_
  exact ⟨rfl, h2⟩

set_option maxRecDepth 20000 in
theorem h_bestWay_x0 {g : GE} {M : Mem} {sz : Nat} {p0 p1 p2 : Int32} {P : Mem → Prop} {fs : List Value} (h0 : M 0 = some (eO 8 fs)) (hr : Run g m_X8_bestWay [rf g 0, .int p0, .int p1, .int p2] M sz 1 6 (fun o M2 => o = .inr (exN 0) ∧ P M2)) : Run g m_L_bestWay [rf g 0, .int p0, .int p1, .int p2] M sz 1 6 (RetP (some (.int (-3))) P) := by
  refine Run.ofH (by decide) (by decide) (Nat.le_of_ble_eq_true rfl) ?_
  show V g m_L_bestWay 0 _ [] _ _ _ _ _
  refine V_aload_n 0 dL_bestWay_0 rfl ?_
  refine V_iload_n 1 dL_bestWay_1 rfl ?_
  refine V_iload_n 2 dL_bestWay_2 rfl ?_
  refine V_iload_n 3 dL_bestWay_3 rfl ?_
  refine V_callVH (mt := m_L_bestWay) (mc1 := 1) (ms1 := 6) (kc := 0) (ks := 0) hr h0 rfl rfl k_X8_bestWay s_X8_bestWay l_L_60 ⟨Nat.le_of_ble_eq_true rfl, Nat.le_of_ble_eq_true rfl⟩ rfl (Nat.le_of_ble_eq_true rfl) dL_bestWay_4 rfl (fun v1 M1 h => nomatch h.1) (fun E1 M1 h => ?_)
  obtain ⟨h1, h2⟩ := h
  cases h1
  refine VX_catch (mt := m_L_bestWay) [] (0, 7, 8, 15) [(0, 7, 13, 17)] (by decide) rfl (fun z hz => nomatch hz) (by decide) (by decide) cl_L_15 ca_0 (fun q => ?_)
  show V g m_L_bestWay 8 _ _ _ _ _ _ _
  refine V_astore (lv2 := [(4, .ref _), (0, .ref _), (1, .int _), (2, .int _), (3, .int _)]) dL_bestWay_8 (Nat.le_of_ble_eq_true rfl) rfl ?_
  refine V_bipush (v := -3) dL_bestWay_10 (by decide) ?_
  refine V_iret (st := []) dL_bestWay_12 rfl ?_
  exact ⟨rfl, h2⟩

set_option maxRecDepth 20000 in
theorem h_bestWay_x1 {g : GE} {M : Mem} {sz : Nat} {p0 p1 p2 : Int32} {P : Mem → Prop} {fs : List Value} (h0 : M 0 = some (eO 8 fs)) (hr : Run g m_X8_bestWay [rf g 0, .int p0, .int p1, .int p2] M sz 1 6 (fun o M2 => o = .inr (exN 1) ∧ P M2)) : Run g m_L_bestWay [rf g 0, .int p0, .int p1, .int p2] M sz 1 6 (RetP (some (.int (-2))) P) := by
  refine Run.ofH (by decide) (by decide) (Nat.le_of_ble_eq_true rfl) ?_
  show V g m_L_bestWay 0 _ [] _ _ _ _ _
  refine V_aload_n 0 dL_bestWay_0 rfl ?_
  refine V_iload_n 1 dL_bestWay_1 rfl ?_
  refine V_iload_n 2 dL_bestWay_2 rfl ?_
  refine V_iload_n 3 dL_bestWay_3 rfl ?_
  refine V_callVH (mt := m_L_bestWay) (mc1 := 1) (ms1 := 6) (kc := 0) (ks := 0) hr h0 rfl rfl k_X8_bestWay s_X8_bestWay l_L_60 ⟨Nat.le_of_ble_eq_true rfl, Nat.le_of_ble_eq_true rfl⟩ rfl (Nat.le_of_ble_eq_true rfl) dL_bestWay_4 rfl (fun v1 M1 h => nomatch h.1) (fun E1 M1 h => ?_)
  obtain ⟨h1, h2⟩ := h
  cases h1
  refine VX_catch (mt := m_L_bestWay) [(0, 7, 8, 15)] (0, 7, 13, 17) [] (by decide) rfl (fun z hz => by rw [List.mem_singleton] at hz; subst hz; exact ⟨by decide, 0, by decide, by decide, cl_L_15⟩) (by decide) (by decide) cl_L_17 ca_1 (fun q => ?_)
  show V g m_L_bestWay 13 _ _ _ _ _ _ _
  refine V_astore (lv2 := [(4, .ref _), (0, .ref _), (1, .int _), (2, .int _), (3, .int _)]) dL_bestWay_13 (Nat.le_of_ble_eq_true rfl) rfl ?_
  refine V_bipush (v := -2) dL_bestWay_15 (by decide) ?_
  refine V_iret (st := []) dL_bestWay_17 rfl ?_
  exact ⟨rfl, h2⟩

set_option maxRecDepth 20000 in
theorem h_mends_ok {g : GE} {M : Mem} {sz : Nat} {p0 p1 p2 : Int32} {a : Int32} {P : Mem → Prop} {fs : List Value} (h0 : M 0 = some (eO 8 fs)) (hr : Run g m_X8_mends [rf g 0, .int p0, .int p1, .int p2] M sz 0 0 (RetP (some (.int a)) P)) : Run g m_L_mends [rf g 0, .int p0, .int p1, .int p2] M sz 0 0 (RetP (some (.int a)) P) := by
  refine Run.ofH (by decide) (by decide) (Nat.le_of_ble_eq_true rfl) ?_
  show V g m_L_mends 0 _ [] _ _ _ _ _
  refine V_aload_n 0 dL_mends_0 rfl ?_
  refine V_iload_n 1 dL_mends_1 rfl ?_
  refine V_iload_n 2 dL_mends_2 rfl ?_
  refine V_iload_n 3 dL_mends_3 rfl ?_
  refine V_callVH (mt := m_L_mends) (mc1 := 0) (ms1 := 0) (kc := 0) (ks := 0) hr h0 rfl rfl k_X8_mends s_X8_mends l_L_63 ⟨Nat.le_of_ble_eq_true rfl, Nat.le_of_ble_eq_true rfl⟩ rfl (Nat.le_of_ble_eq_true rfl) dL_mends_4 rfl (fun v1 M1 h => ?_) (fun E1 M1 h => nomatch h.1)
  obtain ⟨h1, h2⟩ := h
  cases h1
  refine V_iret (st := []) dL_mends_7 rfl ?_
  exact ⟨rfl, h2⟩

set_option maxRecDepth 20000 in
theorem h_mends_x0 {g : GE} {M : Mem} {sz : Nat} {p0 p1 p2 : Int32} {P : Mem → Prop} {fs : List Value} (h0 : M 0 = some (eO 8 fs)) (hr : Run g m_X8_mends [rf g 0, .int p0, .int p1, .int p2] M sz 1 6 (fun o M2 => o = .inr (exN 0) ∧ P M2)) : Run g m_L_mends [rf g 0, .int p0, .int p1, .int p2] M sz 1 6 (RetP (some (.int (-3))) P) := by
  refine Run.ofH (by decide) (by decide) (Nat.le_of_ble_eq_true rfl) ?_
  show V g m_L_mends 0 _ [] _ _ _ _ _
  refine V_aload_n 0 dL_mends_0 rfl ?_
  refine V_iload_n 1 dL_mends_1 rfl ?_
  refine V_iload_n 2 dL_mends_2 rfl ?_
  refine V_iload_n 3 dL_mends_3 rfl ?_
  refine V_callVH (mt := m_L_mends) (mc1 := 1) (ms1 := 6) (kc := 0) (ks := 0) hr h0 rfl rfl k_X8_mends s_X8_mends l_L_63 ⟨Nat.le_of_ble_eq_true rfl, Nat.le_of_ble_eq_true rfl⟩ rfl (Nat.le_of_ble_eq_true rfl) dL_mends_4 rfl (fun v1 M1 h => nomatch h.1) (fun E1 M1 h => ?_)
  obtain ⟨h1, h2⟩ := h
  cases h1
  refine VX_catch (mt := m_L_mends) [] (0, 7, 8, 15) [(0, 7, 13, 17)] (by decide) rfl (fun z hz => nomatch hz) (by decide) (by decide) cl_L_15 ca_0 (fun q => ?_)
  show V g m_L_mends 8 _ _ _ _ _ _ _
  refine V_astore (lv2 := [(4, .ref _), (0, .ref _), (1, .int _), (2, .int _), (3, .int _)]) dL_mends_8 (Nat.le_of_ble_eq_true rfl) rfl ?_
  refine V_bipush (v := -3) dL_mends_10 (by decide) ?_
  refine V_iret (st := []) dL_mends_12 rfl ?_
  exact ⟨rfl, h2⟩

set_option maxRecDepth 20000 in
theorem h_mends_x1 {g : GE} {M : Mem} {sz : Nat} {p0 p1 p2 : Int32} {P : Mem → Prop} {fs : List Value} (h0 : M 0 = some (eO 8 fs)) (hr : Run g m_X8_mends [rf g 0, .int p0, .int p1, .int p2] M sz 1 6 (fun o M2 => o = .inr (exN 1) ∧ P M2)) : Run g m_L_mends [rf g 0, .int p0, .int p1, .int p2] M sz 1 6 (RetP (some (.int (-2))) P) := by
  refine Run.ofH (by decide) (by decide) (Nat.le_of_ble_eq_true rfl) ?_
  show V g m_L_mends 0 _ [] _ _ _ _ _
  refine V_aload_n 0 dL_mends_0 rfl ?_
  refine V_iload_n 1 dL_mends_1 rfl ?_
  refine V_iload_n 2 dL_mends_2 rfl ?_
  refine V_iload_n 3 dL_mends_3 rfl ?_
  refine V_callVH (mt := m_L_mends) (mc1 := 1) (ms1 := 6) (kc := 0) (ks := 0) hr h0 rfl rfl k_X8_mends s_X8_mends l_L_63 ⟨Nat.le_of_ble_eq_true rfl, Nat.le_of_ble_eq_true rfl⟩ rfl (Nat.le_of_ble_eq_true rfl) dL_mends_4 rfl (fun v1 M1 h => nomatch h.1) (fun E1 M1 h => ?_)
  obtain ⟨h1, h2⟩ := h
  cases h1
  refine VX_catch (mt := m_L_mends) [(0, 7, 8, 15)] (0, 7, 13, 17) [] (by decide) rfl (fun z hz => by rw [List.mem_singleton] at hz; subst hz; exact ⟨by decide, 0, by decide, by decide, cl_L_15⟩) (by decide) (by decide) cl_L_17 ca_1 (fun q => ?_)
  show V g m_L_mends 13 _ _ _ _ _ _ _
  refine V_astore (lv2 := [(4, .ref _), (0, .ref _), (1, .int _), (2, .int _), (3, .int _)]) dL_mends_13 (Nat.le_of_ble_eq_true rfl) rfl ?_
  refine V_bipush (v := -2) dL_mends_15 (by decide) ?_
  refine V_iret (st := []) dL_mends_17 rfl ?_
  exact ⟨rfl, h2⟩

set_option maxRecDepth 20000 in
theorem h_append_ok {g : GE} {M : Mem} {sz : Nat} {p0 : Int32} {a : Int32} {P : Mem → Prop} {fs : List Value} (h0 : M 0 = some (eO 8 fs)) (hr : Run g m_X8_append [rf g 0, .int p0] M sz 0 0 (RetP (some (.int a)) P)) : Run g m_L_append [rf g 0, .int p0] M sz 0 0 (RetP (some (.int a)) P) := by
  refine Run.ofH (by decide) (by decide) (Nat.le_of_ble_eq_true rfl) ?_
  show V g m_L_append 0 _ [] _ _ _ _ _
  refine V_aload_n 0 dL_append_0 rfl ?_
  refine V_iload_n 1 dL_append_1 rfl ?_
  refine V_callVH (mt := m_L_append) (mc1 := 0) (ms1 := 0) (kc := 0) (ks := 0) hr h0 rfl rfl k_X8_append s_X8_append l_L_66 ⟨Nat.le_of_ble_eq_true rfl, Nat.le_of_ble_eq_true rfl⟩ rfl (Nat.le_of_ble_eq_true rfl) dL_append_2 rfl (fun v1 M1 h => ?_) (fun E1 M1 h => nomatch h.1)
  obtain ⟨h1, h2⟩ := h
  cases h1
  refine V_iret (st := []) dL_append_5 rfl ?_
  exact ⟨rfl, h2⟩

set_option maxRecDepth 20000 in
theorem h_append_x1 {g : GE} {M : Mem} {sz : Nat} {p0 : Int32} {P : Mem → Prop} {fs : List Value} (h0 : M 0 = some (eO 8 fs)) (hr : Run g m_X8_append [rf g 0, .int p0] M sz 1 6 (fun o M2 => o = .inr (exN 1) ∧ P M2)) : Run g m_L_append [rf g 0, .int p0] M sz 1 6 (RetP (some (.int (-2))) P) := by
  refine Run.ofH (by decide) (by decide) (Nat.le_of_ble_eq_true rfl) ?_
  show V g m_L_append 0 _ [] _ _ _ _ _
  refine V_aload_n 0 dL_append_0 rfl ?_
  refine V_iload_n 1 dL_append_1 rfl ?_
  refine V_callVH (mt := m_L_append) (mc1 := 1) (ms1 := 6) (kc := 0) (ks := 0) hr h0 rfl rfl k_X8_append s_X8_append l_L_66 ⟨Nat.le_of_ble_eq_true rfl, Nat.le_of_ble_eq_true rfl⟩ rfl (Nat.le_of_ble_eq_true rfl) dL_append_2 rfl (fun v1 M1 h => nomatch h.1) (fun E1 M1 h => ?_)
  obtain ⟨h1, h2⟩ := h
  cases h1
  refine VX_catch (mt := m_L_append) [] (0, 5, 6, 17) [(0, 5, 10, 23)] (by decide) rfl (fun z hz => nomatch hz) (by decide) (by decide) cl_L_17 ca_1 (fun q => ?_)
  show V g m_L_append 6 _ _ _ _ _ _ _
  refine V_astore_n (lv2 := [(2, .ref _), (0, .ref _), (1, .int _)]) dL_append_6 (Nat.le_of_ble_eq_true rfl) rfl ?_
  refine V_bipush (v := -2) dL_append_7 (by decide) ?_
  refine V_iret (st := []) dL_append_9 rfl ?_
  exact ⟨rfl, h2⟩

set_option maxRecDepth 20000 in
theorem h_append_x2 {g : GE} {M : Mem} {sz : Nat} {p0 : Int32} {P : Mem → Prop} {fs : List Value} (h0 : M 0 = some (eO 8 fs)) (hr : Run g m_X8_append [rf g 0, .int p0] M sz 1 6 (fun o M2 => o = .inr (exN 2) ∧ P M2)) : Run g m_L_append [rf g 0, .int p0] M sz 1 6 (RetP (some (.int (-3))) P) := by
  refine Run.ofH (by decide) (by decide) (Nat.le_of_ble_eq_true rfl) ?_
  show V g m_L_append 0 _ [] _ _ _ _ _
  refine V_aload_n 0 dL_append_0 rfl ?_
  refine V_iload_n 1 dL_append_1 rfl ?_
  refine V_callVH (mt := m_L_append) (mc1 := 1) (ms1 := 6) (kc := 0) (ks := 0) hr h0 rfl rfl k_X8_append s_X8_append l_L_66 ⟨Nat.le_of_ble_eq_true rfl, Nat.le_of_ble_eq_true rfl⟩ rfl (Nat.le_of_ble_eq_true rfl) dL_append_2 rfl (fun v1 M1 h => nomatch h.1) (fun E1 M1 h => ?_)
  obtain ⟨h1, h2⟩ := h
  cases h1
  refine VX_catch (mt := m_L_append) [(0, 5, 6, 17)] (0, 5, 10, 23) [] (by decide) rfl (fun z hz => by rw [List.mem_singleton] at hz; subst hz; exact ⟨by decide, 1, by decide, by decide, cl_L_17⟩) (by decide) (by decide) cl_L_23 ca_2 (fun q => ?_)
  show V g m_L_append 10 _ _ _ _ _ _ _
  refine V_astore_n (lv2 := [(2, .ref _), (0, .ref _), (1, .int _)]) dL_append_10 (Nat.le_of_ble_eq_true rfl) rfl ?_
  refine V_bipush (v := -3) dL_append_11 (by decide) ?_
  refine V_iret (st := []) dL_append_13 rfl ?_
  exact ⟨rfl, h2⟩

set_option maxRecDepth 20000 in
theorem h_work_ok {g : GE} {M : Mem} {sz : Nat} {a : Int32} {P : Mem → Prop} {fs : List Value} (h0 : M 0 = some (eO 8 fs)) (hr : Run g m_X8_work [rf g 0] M sz 0 0 (RetP (some (.int a)) P)) : Run g m_L_work [rf g 0] M sz 0 0 (RetP (some (.int a)) P) := by
  refine Run.ofH (by decide) (by decide) (Nat.le_of_ble_eq_true rfl) ?_
  show V g m_L_work 0 _ [] _ _ _ _ _
  refine V_aload_n 0 dL_work_0 rfl ?_
  refine V_callVH (mt := m_L_work) (mc1 := 0) (ms1 := 0) (kc := 0) (ks := 0) hr h0 rfl rfl k_X8_work s_X8_work l_L_69 ⟨Nat.le_of_ble_eq_true rfl, Nat.le_of_ble_eq_true rfl⟩ rfl (Nat.le_of_ble_eq_true rfl) dL_work_1 rfl (fun v1 M1 h => ?_) (fun E1 M1 h => nomatch h.1)
  obtain ⟨h1, h2⟩ := h
  cases h1
  refine V_iret (st := []) dL_work_4 rfl ?_
  exact ⟨rfl, h2⟩

set_option maxRecDepth 20000 in
theorem h_work_x1 {g : GE} {M : Mem} {sz : Nat} {P : Mem → Prop} {fs : List Value} (h0 : M 0 = some (eO 8 fs)) (hr : Run g m_X8_work [rf g 0] M sz 1 6 (fun o M2 => o = .inr (exN 1) ∧ P M2)) : Run g m_L_work [rf g 0] M sz 1 6 (RetP (some (.int (-2))) P) := by
  refine Run.ofH (by decide) (by decide) (Nat.le_of_ble_eq_true rfl) ?_
  show V g m_L_work 0 _ [] _ _ _ _ _
  refine V_aload_n 0 dL_work_0 rfl ?_
  refine V_callVH (mt := m_L_work) (mc1 := 1) (ms1 := 6) (kc := 0) (ks := 0) hr h0 rfl rfl k_X8_work s_X8_work l_L_69 ⟨Nat.le_of_ble_eq_true rfl, Nat.le_of_ble_eq_true rfl⟩ rfl (Nat.le_of_ble_eq_true rfl) dL_work_1 rfl (fun v1 M1 h => nomatch h.1) (fun E1 M1 h => ?_)
  obtain ⟨h1, h2⟩ := h
  cases h1
  refine VX_catch (mt := m_L_work) [] (0, 4, 5, 17) [] (by decide) rfl (fun z hz => nomatch hz) (by decide) (by decide) cl_L_17 ca_1 (fun q => ?_)
  show V g m_L_work 5 _ _ _ _ _ _ _
  refine V_astore_n (lv2 := [(1, .ref _), (0, .ref _)]) dL_work_5 (Nat.le_of_ble_eq_true rfl) rfl ?_
  refine V_bipush (v := -2) dL_work_6 (by decide) ?_
  refine V_iret (st := []) dL_work_8 rfl ?_
  exact ⟨rfl, h2⟩

set_option maxRecDepth 20000 in
theorem h_stopped_ok {g : GE} {M : Mem} {sz : Nat} {p0 : Int32} {a : Int32} {P : Mem → Prop} {fs : List Value} (h0 : M 0 = some (eO 8 fs)) (hr : Run g m_X8_stopped [rf g 0, .int p0] M sz 0 0 (RetP (some (.int a)) P)) : Run g m_L_stopped [rf g 0, .int p0] M sz 0 0 (RetP (some (.int a)) P) := by
  refine Run.ofH (by decide) (by decide) (Nat.le_of_ble_eq_true rfl) ?_
  show V g m_L_stopped 0 _ [] _ _ _ _ _
  refine V_aload_n 0 dL_stopped_0 rfl ?_
  refine V_iload_n 1 dL_stopped_1 rfl ?_
  refine V_callVH (mt := m_L_stopped) (mc1 := 0) (ms1 := 0) (kc := 0) (ks := 0) hr h0 rfl rfl k_X8_stopped s_X8_stopped l_L_73 ⟨Nat.le_of_ble_eq_true rfl, Nat.le_of_ble_eq_true rfl⟩ rfl (Nat.le_of_ble_eq_true rfl) dL_stopped_2 rfl (fun v1 M1 h => ?_) (fun E1 M1 h => nomatch h.1)
  obtain ⟨h1, h2⟩ := h
  cases h1
  refine V_iret (st := []) dL_stopped_5 rfl ?_
  exact ⟨rfl, h2⟩

set_option maxRecDepth 20000 in
theorem h_stopped_x1 {g : GE} {M : Mem} {sz : Nat} {p0 : Int32} {P : Mem → Prop} {fs : List Value} (h0 : M 0 = some (eO 8 fs)) (hr : Run g m_X8_stopped [rf g 0, .int p0] M sz 1 6 (fun o M2 => o = .inr (exN 1) ∧ P M2)) : Run g m_L_stopped [rf g 0, .int p0] M sz 1 6 (RetP (some (.int (-2))) P) := by
  refine Run.ofH (by decide) (by decide) (Nat.le_of_ble_eq_true rfl) ?_
  show V g m_L_stopped 0 _ [] _ _ _ _ _
  refine V_aload_n 0 dL_stopped_0 rfl ?_
  refine V_iload_n 1 dL_stopped_1 rfl ?_
  refine V_callVH (mt := m_L_stopped) (mc1 := 1) (ms1 := 6) (kc := 0) (ks := 0) hr h0 rfl rfl k_X8_stopped s_X8_stopped l_L_73 ⟨Nat.le_of_ble_eq_true rfl, Nat.le_of_ble_eq_true rfl⟩ rfl (Nat.le_of_ble_eq_true rfl) dL_stopped_2 rfl (fun v1 M1 h => nomatch h.1) (fun E1 M1 h => ?_)
  obtain ⟨h1, h2⟩ := h
  cases h1
  refine VX_catch (mt := m_L_stopped) [] (0, 5, 6, 17) [] (by decide) rfl (fun z hz => nomatch hz) (by decide) (by decide) cl_L_17 ca_1 (fun q => ?_)
  show V g m_L_stopped 6 _ _ _ _ _ _ _
  refine V_astore_n (lv2 := [(2, .ref _), (0, .ref _), (1, .int _)]) dL_stopped_6 (Nat.le_of_ble_eq_true rfl) rfl ?_
  refine V_bipush (v := -2) dL_stopped_7 (by decide) ?_
  refine V_iret (st := []) dL_stopped_9 rfl ?_
  exact ⟨rfl, h2⟩

set_option maxRecDepth 20000 in
theorem h_undo_ok {g : GE} {M : Mem} {sz : Nat} {a : Int32} {P : Mem → Prop} {fs : List Value} (h0 : M 0 = some (eO 8 fs)) (hr : Run g m_X8_undo [rf g 0] M sz 0 0 (RetP (some (.int a)) P)) : Run g m_L_undo [rf g 0] M sz 0 0 (RetP (some (.int a)) P) := by
  refine Run.ofH (by decide) (by decide) (Nat.le_of_ble_eq_true rfl) ?_
  show V g m_L_undo 0 _ [] _ _ _ _ _
  refine V_aload_n 0 dL_undo_0 rfl ?_
  refine V_callVH (mt := m_L_undo) (mc1 := 0) (ms1 := 0) (kc := 0) (ks := 0) hr h0 rfl rfl k_X8_undo s_X8_undo l_L_76 ⟨Nat.le_of_ble_eq_true rfl, Nat.le_of_ble_eq_true rfl⟩ rfl (Nat.le_of_ble_eq_true rfl) dL_undo_1 rfl (fun v1 M1 h => ?_) (fun E1 M1 h => nomatch h.1)
  obtain ⟨h1, h2⟩ := h
  cases h1
  refine V_iret (st := []) dL_undo_4 rfl ?_
  exact ⟨rfl, h2⟩

set_option maxRecDepth 20000 in
theorem h_undo_x2 {g : GE} {M : Mem} {sz : Nat} {P : Mem → Prop} {fs : List Value} (h0 : M 0 = some (eO 8 fs)) (hr : Run g m_X8_undo [rf g 0] M sz 1 6 (fun o M2 => o = .inr (exN 2) ∧ P M2)) : Run g m_L_undo [rf g 0] M sz 1 6 (RetP (some (.int (-2))) P) := by
  refine Run.ofH (by decide) (by decide) (Nat.le_of_ble_eq_true rfl) ?_
  show V g m_L_undo 0 _ [] _ _ _ _ _
  refine V_aload_n 0 dL_undo_0 rfl ?_
  refine V_callVH (mt := m_L_undo) (mc1 := 1) (ms1 := 6) (kc := 0) (ks := 0) hr h0 rfl rfl k_X8_undo s_X8_undo l_L_76 ⟨Nat.le_of_ble_eq_true rfl, Nat.le_of_ble_eq_true rfl⟩ rfl (Nat.le_of_ble_eq_true rfl) dL_undo_1 rfl (fun v1 M1 h => nomatch h.1) (fun E1 M1 h => ?_)
  obtain ⟨h1, h2⟩ := h
  cases h1
  refine VX_catch (mt := m_L_undo) [] (0, 4, 5, 23) [] (by decide) rfl (fun z hz => nomatch hz) (by decide) (by decide) cl_L_23 ca_2 (fun q => ?_)
  show V g m_L_undo 5 _ _ _ _ _ _ _
  refine V_astore_n (lv2 := [(1, .ref _), (0, .ref _)]) dL_undo_5 (Nat.le_of_ble_eq_true rfl) rfl ?_
  refine V_bipush (v := -2) dL_undo_6 (by decide) ?_
  refine V_iret (st := []) dL_undo_8 rfl ?_
  exact ⟨rfl, h2⟩

set_option maxRecDepth 20000 in
theorem h_restore_ok {g : GE} {M : Mem} {sz : Nat} {a : Int32} {P : Mem → Prop} {fs : List Value} (h0 : M 0 = some (eO 8 fs)) (hr : Run g m_X8_restore [rf g 0] M sz 0 0 (RetP (some (.int a)) P)) : Run g m_L_restore [rf g 0] M sz 0 0 (RetP (some (.int a)) P) := by
  refine Run.ofH (by decide) (by decide) (Nat.le_of_ble_eq_true rfl) ?_
  show V g m_L_restore 0 _ [] _ _ _ _ _
  refine V_aload_n 0 dL_restore_0 rfl ?_
  refine V_callVH (mt := m_L_restore) (mc1 := 0) (ms1 := 0) (kc := 0) (ks := 0) hr h0 rfl rfl k_X8_restore s_X8_restore l_L_79 ⟨Nat.le_of_ble_eq_true rfl, Nat.le_of_ble_eq_true rfl⟩ rfl (Nat.le_of_ble_eq_true rfl) dL_restore_1 rfl (fun v1 M1 h => ?_) (fun E1 M1 h => nomatch h.1)
  obtain ⟨h1, h2⟩ := h
  cases h1
  refine V_iret (st := []) dL_restore_4 rfl ?_
  exact ⟨rfl, h2⟩

set_option maxRecDepth 20000 in
theorem h_restore_x2 {g : GE} {M : Mem} {sz : Nat} {P : Mem → Prop} {fs : List Value} (h0 : M 0 = some (eO 8 fs)) (hr : Run g m_X8_restore [rf g 0] M sz 1 6 (fun o M2 => o = .inr (exN 2) ∧ P M2)) : Run g m_L_restore [rf g 0] M sz 1 6 (RetP (some (.int (-2))) P) := by
  refine Run.ofH (by decide) (by decide) (Nat.le_of_ble_eq_true rfl) ?_
  show V g m_L_restore 0 _ [] _ _ _ _ _
  refine V_aload_n 0 dL_restore_0 rfl ?_
  refine V_callVH (mt := m_L_restore) (mc1 := 1) (ms1 := 6) (kc := 0) (ks := 0) hr h0 rfl rfl k_X8_restore s_X8_restore l_L_79 ⟨Nat.le_of_ble_eq_true rfl, Nat.le_of_ble_eq_true rfl⟩ rfl (Nat.le_of_ble_eq_true rfl) dL_restore_1 rfl (fun v1 M1 h => nomatch h.1) (fun E1 M1 h => ?_)
  obtain ⟨h1, h2⟩ := h
  cases h1
  refine VX_catch (mt := m_L_restore) [] (0, 4, 5, 23) [] (by decide) rfl (fun z hz => nomatch hz) (by decide) (by decide) cl_L_23 ca_2 (fun q => ?_)
  show V g m_L_restore 5 _ _ _ _ _ _ _
  refine V_astore_n (lv2 := [(1, .ref _), (0, .ref _)]) dL_restore_5 (Nat.le_of_ble_eq_true rfl) rfl ?_
  refine V_bipush (v := -2) dL_restore_6 (by decide) ?_
  refine V_iret (st := []) dL_restore_8 rfl ?_
  exact ⟨rfl, h2⟩

