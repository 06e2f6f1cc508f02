/-! the law's helpers -/
theorem V.less {g : GE} {mt : MT} {pc : Nat} {lv : List (Nat × Value)} {st : List Value} {M : Mem} {sz kc ks kc2 ks2 : Nat} {Q : Ou → Mem → Prop} (h : V g mt pc lv st M sz kc ks Q) (h1 : kc ≤ kc2) (h2 : ks ≤ ks2) : V g mt pc lv st M sz kc2 ks2 Q := by
  intro p e R s m args below meth c H locs cells slots mc ms ls a1 a2 a3 a4 a5 a6 a7 a8 a9
  exact h p e R s m args below meth c H locs cells slots mc ms ls a1 a2 a3 a4 a5 (by omega) (by omega) a8 a9
/-- the first number of a row of one is laid -/
def put1 (x : Int64) : Nat → Int64 := fun k => if k = 0 then x else 0
set_option maxRecDepth 20000 in
theorem h_stick_ok {g : GE} {M : Mem} {sz : Nat} {p0 p1 : Int32} {a : Int32} {P : Mem → Prop} {fs : List Value} (h0 : M 0 = some (eO 8 fs)) (hr : Run g m_X8_stick [rf g 0, .int p0, .int p1] M sz 0 0 (RetP (some (.int a)) P)) (hP : ∀ M1, P M1 → ∃ o, M1 105 = some (eJ g 1 o)) : Run g m_L_stick [rf g 0, .int p0, .int p1, rf g 105] M sz 1 6 (RetP (some (.int 0)) (fun M2 => ∃ M1 o, P M1 ∧ M1 105 = some (eJ g 1 o) ∧ M2 = mup M1 105 (eJ g 1 (vp_updL o 0 a.toInt64)))) := by
  refine Run.ofH (by decide) (by decide) (Nat.le_of_ble_eq_true rfl) ?_
  show V g m_L_stick 0 _ [] _ _ _ _ _
  refine V_aload_n 3 dL_stick_0 rfl ?_
  refine V_iconst (v := 0) dL_stick_1 rfl ?_
  refine V_aload_n 0 dL_stick_2 rfl ?_
  refine V_iload_n 1 dL_stick_3 rfl ?_
  refine V_iload_n 2 dL_stick_4 rfl ?_
  refine V_callVH (mt := m_L_stick) (mc1 := 0) (ms1 := 0) (kc := 1) (ks := 6) hr h0 rfl rfl k_X8_stick s_X8_stick l_L_7 ⟨Nat.le_of_ble_eq_true rfl, Nat.le_of_ble_eq_true rfl⟩ rfl (Nat.le_of_ble_eq_true rfl) dL_stick_5 rfl (fun v1 M1 h => ?_) (fun E1 M1 h => nomatch h.1)
  obtain ⟨h1, h2⟩ := h
  cases h1
  obtain ⟨o, ho⟩ := hP M1 h2
  refine V_i2l dL_stick_8 ?_
  refine V_last ho (show vp_in (nI 0) 1 from vp_in_nI (by decide) (by decide)) dL_stick_9 ?_
  refine V_goto (tgt := 21) dL_stick_10 (by decide) ?_
  refine V_iconst (v := 0) dL_stick_21 rfl ?_
  refine V_iret (st := []) dL_stick_22 rfl ?_
  exact ⟨rfl, M1, o, h2, ho, rfl⟩

set_option maxRecDepth 20000 in
theorem h_stick_1 {g : GE} {M : Mem} {sz : Nat} {p0 p1 : Int32} {fs : List Value} (h0 : M 0 = some (eO 8 fs)) (hr : Run g m_X8_stick [rf g 0, .int p0, .int p1] M sz 1 6 (Thr (exN 0) M)) : Run g m_L_stick [rf g 0, .int p0, .int p1, rf g 105] M sz 1 6 (Ret (some (.int 1)) M) := by
  refine Run.ofH (by decide) (by decide) (Nat.le_of_ble_eq_true rfl) ?_
  show V g m_L_stick 0 _ [] _ _ _ _ _
  refine V_aload_n 3 dL_stick_0 rfl ?_
  refine V_iconst (v := 0) dL_stick_1 rfl ?_
  refine V_aload_n 0 dL_stick_2 rfl ?_
  refine V_iload_n 1 dL_stick_3 rfl ?_
  refine V_iload_n 2 dL_stick_4 rfl ?_
  refine V_callVH (mt := m_L_stick) (mc1 := 1) (ms1 := 6) (kc := 0) (ks := 0) hr h0 rfl rfl k_X8_stick s_X8_stick l_L_7 ⟨Nat.le_of_ble_eq_true rfl, Nat.le_of_ble_eq_true rfl⟩ rfl (Nat.le_of_ble_eq_true rfl) dL_stick_5 rfl (fun v1 M1 h => nomatch h.1) (fun E1 M1 h => ?_)
  obtain ⟨h1, h2⟩ := h
  cases h1
  cases h2
  refine VX_catch (mt := m_L_stick) [] (0, 10, 13, 13) [(0, 10, 17, 15)] (by decide) rfl (fun z hz => nomatch hz) (by decide) (by decide) cl_L_13 ca_0 (fun q => ?_)
  show V g m_L_stick 13 _ _ _ _ _ _ _
  refine V_astore (lv2 := [(4, .ref _), (0, .ref _), (1, .int _), (2, .int _), (3, .ref _)]) dL_stick_13 (Nat.le_of_ble_eq_true rfl) rfl ?_
  refine V_iconst (v := 1) dL_stick_15 rfl ?_
  refine V_iret (st := []) dL_stick_16 rfl ?_
  exact ⟨rfl, rfl⟩

set_option maxRecDepth 20000 in
theorem h_stick_2 {g : GE} {M : Mem} {sz : Nat} {p0 p1 : Int32} {fs : List Value} (h0 : M 0 = some (eO 8 fs)) (hr : Run g m_X8_stick [rf g 0, .int p0, .int p1] M sz 1 6 (Thr (exN 1) M)) : Run g m_L_stick [rf g 0, .int p0, .int p1, rf g 105] M sz 1 6 (Ret (some (.int 2)) M) := by
  refine Run.ofH (by decide) (by decide) (Nat.le_of_ble_eq_true rfl) ?_
  show V g m_L_stick 0 _ [] _ _ _ _ _
  refine V_aload_n 3 dL_stick_0 rfl ?_
  refine V_iconst (v := 0) dL_stick_1 rfl ?_
  refine V_aload_n 0 dL_stick_2 rfl ?_
  refine V_iload_n 1 dL_stick_3 rfl ?_
  refine V_iload_n 2 dL_stick_4 rfl ?_
  refine V_callVH (mt := m_L_stick) (mc1 := 1) (ms1 := 6) (kc := 0) (ks := 0) hr h0 rfl rfl k_X8_stick s_X8_stick l_L_7 ⟨Nat.le_of_ble_eq_true rfl, Nat.le_of_ble_eq_true rfl⟩ rfl (Nat.le_of_ble_eq_true rfl) dL_stick_5 rfl (fun v1 M1 h => nomatch h.1) (fun E1 M1 h => ?_)
  obtain ⟨h1, h2⟩ := h
  cases h1
  cases h2
  refine VX_catch (mt := m_L_stick) [(0, 10, 13, 13)] (0, 10, 17, 15) [] (by decide) rfl (fun z hz => by rw [List.mem_singleton] at hz; subst hz; exact ⟨by decide, 0, by decide, by decide, cl_L_13⟩) (by decide) (by decide) cl_L_15 ca_1 (fun q => ?_)
  show V g m_L_stick 17 _ _ _ _ _ _ _
  refine V_astore (lv2 := [(4, .ref _), (0, .ref _), (1, .int _), (2, .int _), (3, .ref _)]) dL_stick_17 (Nat.le_of_ble_eq_true rfl) rfl ?_
  refine V_iconst (v := 2) dL_stick_19 rfl ?_
  refine V_iret (st := []) dL_stick_20 rfl ?_
  exact ⟨rfl, rfl⟩

set_option maxRecDepth 20000 in
theorem h_table_ok {g : GE} {M : Mem} {sz : Nat} {p0 p1 p2 p3 : Int32} {a : Int32} {P : Mem → Prop} {fs : List Value} (h0 : M 0 = some (eO 8 fs)) (hr : Run g m_X8_table [rf g 0, .int p0, .int p1, .int p2, .int p3] M sz 0 0 (RetP (some (.int a)) P)) (hP : ∀ M1, P M1 → ∃ o, M1 105 = some (eJ g 1 o)) : Run g m_L_table [rf g 0, .int p0, .int p1, .int p2, .int p3, rf g 105] M sz 1 6 (RetP (some (.int 0)) (fun M2 => ∃ M1 o, P M1 ∧ M1 105 = some (eJ g 1 o) ∧ M2 = mup M1 105 (eJ g 1 (vp_updL o 0 a.toInt64)))) := by
  refine Run.ofH (by decide) (by decide) (Nat.le_of_ble_eq_true rfl) ?_
  show V g m_L_table 0 _ [] _ _ _ _ _
  refine V_aload 5 dL_table_0 rfl ?_
  refine V_iconst (v := 0) dL_table_2 rfl ?_
  refine V_aload_n 0 dL_table_3 rfl ?_
  refine V_iload_n 1 dL_table_4 rfl ?_
  refine V_iload_n 2 dL_table_5 rfl ?_
  refine V_iload_n 3 dL_table_6 rfl ?_
  refine V_iload 4 dL_table_7 rfl ?_
  refine V_callVH (mt := m_L_table) (mc1 := 0) (ms1 := 0) (kc := 1) (ks := 6) hr h0 rfl rfl k_X8_table s_X8_table l_L_17 ⟨Nat.le_of_ble_eq_true rfl, Nat.le_of_ble_eq_true rfl⟩ rfl (Nat.le_of_ble_eq_true rfl) dL_table_9 rfl (fun v1 M1 h => ?_) (fun E1 M1 h => nomatch h.1)
  obtain ⟨h1, h2⟩ := h
  cases h1
  obtain ⟨o, ho⟩ := hP M1 h2
  refine V_i2l dL_table_12 ?_
  refine V_last ho (show vp_in (nI 0) 1 from vp_in_nI (by decide) (by decide)) dL_table_13 ?_
  refine V_goto (tgt := 29) dL_table_14 (by decide) ?_
  refine V_iconst (v := 0) dL_table_29 rfl ?_
  refine V_iret (st := []) dL_table_30 rfl ?_
  exact ⟨rfl, M1, o, h2, ho, rfl⟩

set_option maxRecDepth 20000 in
theorem h_table_1 {g : GE} {M : Mem} {sz : Nat} {p0 p1 p2 p3 : Int32} {fs : List Value} (h0 : M 0 = some (eO 8 fs)) (hr : Run g m_X8_table [rf g 0, .int p0, .int p1, .int p2, .int p3] M sz 1 6 (Thr (exN 0) M)) : Run g m_L_table [rf g 0, .int p0, .int p1, .int p2, .int p3, rf g 105] M sz 1 6 (Ret (some (.int 1)) M) := by
  refine Run.ofH (by decide) (by decide) (Nat.le_of_ble_eq_true rfl) ?_
  show V g m_L_table 0 _ [] _ _ _ _ _
  refine V_aload 5 dL_table_0 rfl ?_
  refine V_iconst (v := 0) dL_table_2 rfl ?_
  refine V_aload_n 0 dL_table_3 rfl ?_
  refine V_iload_n 1 dL_table_4 rfl ?_
  refine V_iload_n 2 dL_table_5 rfl ?_
  refine V_iload_n 3 dL_table_6 rfl ?_
  refine V_iload 4 dL_table_7 rfl ?_
  refine V_callVH (mt := m_L_table) (mc1 := 1) (ms1 := 6) (kc := 0) (ks := 0) hr h0 rfl rfl k_X8_table s_X8_table l_L_17 ⟨Nat.le_of_ble_eq_true rfl, Nat.le_of_ble_eq_true rfl⟩ rfl (Nat.le_of_ble_eq_true rfl) dL_table_9 rfl (fun v1 M1 h => nomatch h.1) (fun E1 M1 h => ?_)
  obtain ⟨h1, h2⟩ := h
  cases h1
  cases h2
  refine VX_catch (mt := m_L_table) [] (0, 14, 17, 13) [(0, 14, 21, 15), (0, 14, 25, 21)] (by decide) rfl (fun z hz => nomatch hz) (by decide) (by decide) cl_L_13 ca_0 (fun q => ?_)
  show V g m_L_table 17 _ _ _ _ _ _ _
  refine V_astore (lv2 := [(6, .ref _), (0, .ref _), (1, .int _), (2, .int _), (3, .int _), (4, .int _), (5, .ref _)]) dL_table_17 (Nat.le_of_ble_eq_true rfl) rfl ?_
  refine V_iconst (v := 1) dL_table_19 rfl ?_
  refine V_iret (st := []) dL_table_20 rfl ?_
  exact ⟨rfl, rfl⟩

set_option maxRecDepth 20000 in
theorem h_table_2 {g : GE} {M : Mem} {sz : Nat} {p0 p1 p2 p3 : Int32} {fs : List Value} (h0 : M 0 = some (eO 8 fs)) (hr : Run g m_X8_table [rf g 0, .int p0, .int p1, .int p2, .int p3] M sz 1 6 (Thr (exN 1) M)) : Run g m_L_table [rf g 0, .int p0, .int p1, .int p2, .int p3, rf g 105] M sz 1 6 (Ret (some (.int 2)) M) := by
  refine Run.ofH (by decide) (by decide) (Nat.le_of_ble_eq_true rfl) ?_
  show V g m_L_table 0 _ [] _ _ _ _ _
  refine V_aload 5 dL_table_0 rfl ?_
  refine V_iconst (v := 0) dL_table_2 rfl ?_
  refine V_aload_n 0 dL_table_3 rfl ?_
  refine V_iload_n 1 dL_table_4 rfl ?_
  refine V_iload_n 2 dL_table_5 rfl ?_
  refine V_iload_n 3 dL_table_6 rfl ?_
  refine V_iload 4 dL_table_7 rfl ?_
  refine V_callVH (mt := m_L_table) (mc1 := 1) (ms1 := 6) (kc := 0) (ks := 0) hr h0 rfl rfl k_X8_table s_X8_table l_L_17 ⟨Nat.le_of_ble_eq_true rfl, Nat.le_of_ble_eq_true rfl⟩ rfl (Nat.le_of_ble_eq_true rfl) dL_table_9 rfl (fun v1 M1 h => nomatch h.1) (fun E1 M1 h => ?_)
  obtain ⟨h1, h2⟩ := h
  cases h1
  cases h2
  refine VX_catch (mt := m_L_table) [(0, 14, 17, 13)] (0, 14, 21, 15) [(0, 14, 25, 21)] (by decide) rfl (fun z hz => by rw [List.mem_singleton] at hz; subst hz; exact ⟨by decide, 0, by decide, by decide, cl_L_13⟩) (by decide) (by decide) cl_L_15 ca_1 (fun q => ?_)
  show V g m_L_table 21 _ _ _ _ _ _ _
  refine V_astore (lv2 := [(6, .ref _), (0, .ref _), (1, .int _), (2, .int _), (3, .int _), (4, .int _), (5, .ref _)]) dL_table_21 (Nat.le_of_ble_eq_true rfl) rfl ?_
  refine V_iconst (v := 2) dL_table_23 rfl ?_
  refine V_iret (st := []) dL_table_24 rfl ?_
  exact ⟨rfl, rfl⟩

set_option maxRecDepth 20000 in
theorem h_table_3 {g : GE} {M : Mem} {sz : Nat} {p0 p1 p2 p3 : Int32} {fs : List Value} (h0 : M 0 = some (eO 8 fs)) (hr : Run g m_X8_table [rf g 0, .int p0, .int p1, .int p2, .int p3] M sz 1 6 (Thr (exN 2) M)) : Run g m_L_table [rf g 0, .int p0, .int p1, .int p2, .int p3, rf g 105] M sz 1 6 (Ret (some (.int 3)) M) := by
  refine Run.ofH (by decide) (by decide) (Nat.le_of_ble_eq_true rfl) ?_
  show V g m_L_table 0 _ [] _ _ _ _ _
  refine V_aload 5 dL_table_0 rfl ?_
  refine V_iconst (v := 0) dL_table_2 rfl ?_
  refine V_aload_n 0 dL_table_3 rfl ?_
  refine V_iload_n 1 dL_table_4 rfl ?_
  refine V_iload_n 2 dL_table_5 rfl ?_
  refine V_iload_n 3 dL_table_6 rfl ?_
  refine V_iload 4 dL_table_7 rfl ?_
  refine V_callVH (mt := m_L_table) (mc1 := 1) (ms1 := 6) (kc := 0) (ks := 0) hr h0 rfl rfl k_X8_table s_X8_table l_L_17 ⟨Nat.le_of_ble_eq_true rfl, Nat.le_of_ble_eq_true rfl⟩ rfl (Nat.le_of_ble_eq_true rfl) dL_table_9 rfl (fun v1 M1 h => nomatch h.1) (fun E1 M1 h => ?_)
  obtain ⟨h1, h2⟩ := h
  cases h1
  cases h2
  refine VX_catch (mt := m_L_table) [(0, 14, 17, 13), (0, 14, 21, 15)] (0, 14, 25, 21) [] (by decide) rfl (fun z hz => by rcases List.mem_cons.mp hz with hz | hz; subst hz; exact ⟨by decide, 0, by decide, by decide, cl_L_13⟩; rw [List.mem_singleton] at hz; subst hz; exact ⟨by decide, 1, by decide, by decide, cl_L_15⟩) (by decide) (by decide) cl_L_21 ca_2 (fun q => ?_)
  show V g m_L_table 25 _ _ _ _ _ _ _
  refine V_astore (lv2 := [(6, .ref _), (0, .ref _), (1, .int _), (2, .int _), (3, .int _), (4, .int _), (5, .ref _)]) dL_table_25 (Nat.le_of_ble_eq_true rfl) rfl ?_
  refine V_iconst (v := 3) dL_table_27 rfl ?_
  refine V_iret (st := []) dL_table_28 rfl ?_
  exact ⟨rfl, rfl⟩

set_option maxRecDepth 20000 in
theorem h_drop_ok {g : GE} {M : Mem} {sz : Nat} {p0 p1 : Int32} {a : Int32} {P : Mem → Prop} {fs : List Value} (h0 : M 0 = some (eO 8 fs)) (hr : Run g m_X8_drop [rf g 0, .int p0, .int p1] M sz 0 0 (RetP (some (.int a)) P)) (hP : ∀ M1, P M1 → ∃ o, M1 105 = some (eJ g 1 o)) : Run g m_L_drop [rf g 0, .int p0, .int p1, rf g 105] M sz 1 6 (RetP (some (.int 0)) (fun M2 => ∃ M1 o, P M1 ∧ M1 105 = some (eJ g 1 o) ∧ M2 = mup M1 105 (eJ g 1 (vp_updL o 0 a.toInt64)))) := by
  refine Run.ofH (by decide) (by decide) (Nat.le_of_ble_eq_true rfl) ?_
  show V g m_L_drop 0 _ [] _ _ _ _ _
  refine V_aload_n 3 dL_drop_0 rfl ?_
  refine V_iconst (v := 0) dL_drop_1 rfl ?_
  refine V_aload_n 0 dL_drop_2 rfl ?_
  refine V_iload_n 1 dL_drop_3 rfl ?_
  refine V_iload_n 2 dL_drop_4 rfl ?_
  refine V_callVH (mt := m_L_drop) (mc1 := 0) (ms1 := 0) (kc := 1) (ks := 6) hr h0 rfl rfl k_X8_drop s_X8_drop l_L_23 ⟨Nat.le_of_ble_eq_true rfl, Nat.le_of_ble_eq_true rfl⟩ rfl (Nat.le_of_ble_eq_true rfl) dL_drop_5 rfl (fun v1 M1 h => ?_) (fun E1 M1 h => nomatch h.1)
  obtain ⟨h1, h2⟩ := h
  cases h1
  obtain ⟨o, ho⟩ := hP M1 h2
  refine V_i2l dL_drop_8 ?_
  refine V_last ho (show vp_in (nI 0) 1 from vp_in_nI (by decide) (by decide)) dL_drop_9 ?_
  refine V_goto (tgt := 21) dL_drop_10 (by decide) ?_
  refine V_iconst (v := 0) dL_drop_21 rfl ?_
  refine V_iret (st := []) dL_drop_22 rfl ?_
  exact ⟨rfl, M1, o, h2, ho, rfl⟩

set_option maxRecDepth 20000 in
theorem h_drop_1 {g : GE} {M : Mem} {sz : Nat} {p0 p1 : Int32} {fs : List Value} (h0 : M 0 = some (eO 8 fs)) (hr : Run g m_X8_drop [rf g 0, .int p0, .int p1] M sz 1 6 (Thr (exN 0) M)) : Run g m_L_drop [rf g 0, .int p0, .int p1, rf g 105] M sz 1 6 (Ret (some (.int 1)) M) := by
  refine Run.ofH (by decide) (by decide) (Nat.le_of_ble_eq_true rfl) ?_
  show V g m_L_drop 0 _ [] _ _ _ _ _
  refine V_aload_n 3 dL_drop_0 rfl ?_
  refine V_iconst (v := 0) dL_drop_1 rfl ?_
  refine V_aload_n 0 dL_drop_2 rfl ?_
  refine V_iload_n 1 dL_drop_3 rfl ?_
  refine V_iload_n 2 dL_drop_4 rfl ?_
  refine V_callVH (mt := m_L_drop) (mc1 := 1) (ms1 := 6) (kc := 0) (ks := 0) hr h0 rfl rfl k_X8_drop s_X8_drop l_L_23 ⟨Nat.le_of_ble_eq_true rfl, Nat.le_of_ble_eq_true rfl⟩ rfl (Nat.le_of_ble_eq_true rfl) dL_drop_5 rfl (fun v1 M1 h => nomatch h.1) (fun E1 M1 h => ?_)
  obtain ⟨h1, h2⟩ := h
  cases h1
  cases h2
  refine VX_catch (mt := m_L_drop) [] (0, 10, 13, 13) [(0, 10, 17, 21)] (by decide) rfl (fun z hz => nomatch hz) (by decide) (by decide) cl_L_13 ca_0 (fun q => ?_)
  show V g m_L_drop 13 _ _ _ _ _ _ _
  refine V_astore (lv2 := [(4, .ref _), (0, .ref _), (1, .int _), (2, .int _), (3, .ref _)]) dL_drop_13 (Nat.le_of_ble_eq_true rfl) rfl ?_
  refine V_iconst (v := 1) dL_drop_15 rfl ?_
  refine V_iret (st := []) dL_drop_16 rfl ?_
  exact ⟨rfl, rfl⟩

set_option maxRecDepth 20000 in
theorem h_drop_2 {g : GE} {M : Mem} {sz : Nat} {p0 p1 : Int32} {fs : List Value} (h0 : M 0 = some (eO 8 fs)) (hr : Run g m_X8_drop [rf g 0, .int p0, .int p1] M sz 1 6 (Thr (exN 2) M)) : Run g m_L_drop [rf g 0, .int p0, .int p1, rf g 105] M sz 1 6 (Ret (some (.int 2)) M) := by
  refine Run.ofH (by decide) (by decide) (Nat.le_of_ble_eq_true rfl) ?_
  show V g m_L_drop 0 _ [] _ _ _ _ _
  refine V_aload_n 3 dL_drop_0 rfl ?_
  refine V_iconst (v := 0) dL_drop_1 rfl ?_
  refine V_aload_n 0 dL_drop_2 rfl ?_
  refine V_iload_n 1 dL_drop_3 rfl ?_
  refine V_iload_n 2 dL_drop_4 rfl ?_
  refine V_callVH (mt := m_L_drop) (mc1 := 1) (ms1 := 6) (kc := 0) (ks := 0) hr h0 rfl rfl k_X8_drop s_X8_drop l_L_23 ⟨Nat.le_of_ble_eq_true rfl, Nat.le_of_ble_eq_true rfl⟩ rfl (Nat.le_of_ble_eq_true rfl) dL_drop_5 rfl (fun v1 M1 h => nomatch h.1) (fun E1 M1 h => ?_)
  obtain ⟨h1, h2⟩ := h
  cases h1
  cases h2
  refine VX_catch (mt := m_L_drop) [(0, 10, 13, 13)] (0, 10, 17, 21) [] (by decide) rfl (fun z hz => by rw [List.mem_singleton] at hz; subst hz; exact ⟨by decide, 0, by decide, by decide, cl_L_13⟩) (by decide) (by decide) cl_L_21 ca_2 (fun q => ?_)
  show V g m_L_drop 17 _ _ _ _ _ _ _
  refine V_astore (lv2 := [(4, .ref _), (0, .ref _), (1, .int _), (2, .int _), (3, .ref _)]) dL_drop_17 (Nat.le_of_ble_eq_true rfl) rfl ?_
  refine V_iconst (v := 2) dL_drop_19 rfl ?_
  refine V_iret (st := []) dL_drop_20 rfl ?_
  exact ⟨rfl, rfl⟩

set_option maxRecDepth 20000 in
theorem h_set_ok {g : GE} {M : Mem} {sz : Nat} {p0 p1 : Int32} {a : Int32} {P : Mem → Prop} {fs : List Value} (h0 : M 0 = some (eO 8 fs)) (hr : Run g m_X8_set [rf g 0, .int p0, .int p1] M sz 0 0 (RetP (some (.int a)) P)) (hP : ∀ M1, P M1 → ∃ o, M1 105 = some (eJ g 1 o)) : Run g m_L_set [rf g 0, .int p0, .int p1, rf g 105] M sz 1 6 (RetP (some (.int 0)) (fun M2 => ∃ M1 o, P M1 ∧ M1 105 = some (eJ g 1 o) ∧ M2 = mup M1 105 (eJ g 1 (vp_updL o 0 a.toInt64)))) := by
  refine Run.ofH (by decide) (by decide) (Nat.le_of_ble_eq_true rfl) ?_
  show V g m_L_set 0 _ [] _ _ _ _ _
  refine V_aload_n 3 dL_set_0 rfl ?_
  refine V_iconst (v := 0) dL_set_1 rfl ?_
  refine V_aload_n 0 dL_set_2 rfl ?_
  refine V_iload_n 1 dL_set_3 rfl ?_
  refine V_iload_n 2 dL_set_4 rfl ?_
  refine V_callVH (mt := m_L_set) (mc1 := 0) (ms1 := 0) (kc := 1) (ks := 6) hr h0 rfl rfl k_X8_set s_X8_set l_L_26 ⟨Nat.le_of_ble_eq_true rfl, Nat.le_of_ble_eq_true rfl⟩ rfl (Nat.le_of_ble_eq_true rfl) dL_set_5 rfl (fun v1 M1 h => ?_) (fun E1 M1 h => nomatch h.1)
  obtain ⟨h1, h2⟩ := h
  cases h1
  obtain ⟨o, ho⟩ := hP M1 h2
  refine V_i2l dL_set_8 ?_
  refine V_last ho (show vp_in (nI 0) 1 from vp_in_nI (by decide) (by decide)) dL_set_9 ?_
  refine V_goto (tgt := 21) dL_set_10 (by decide) ?_
  refine V_iconst (v := 0) dL_set_21 rfl ?_
  refine V_iret (st := []) dL_set_22 rfl ?_
  exact ⟨rfl, M1, o, h2, ho, rfl⟩

set_option maxRecDepth 20000 in
theorem h_set_1 {g : GE} {M : Mem} {sz : Nat} {p0 p1 : Int32} {fs : List Value} (h0 : M 0 = some (eO 8 fs)) (hr : Run g m_X8_set [rf g 0, .int p0, .int p1] M sz 1 6 (Thr (exN 0) M)) : Run g m_L_set [rf g 0, .int p0, .int p1, rf g 105] M sz 1 6 (Ret (some (.int 1)) M) := by
  refine Run.ofH (by decide) (by decide) (Nat.le_of_ble_eq_true rfl) ?_
  show V g m_L_set 0 _ [] _ _ _ _ _
  refine V_aload_n 3 dL_set_0 rfl ?_
  refine V_iconst (v := 0) dL_set_1 rfl ?_
  refine V_aload_n 0 dL_set_2 rfl ?_
  refine V_iload_n 1 dL_set_3 rfl ?_
  refine V_iload_n 2 dL_set_4 rfl ?_
  refine V_callVH (mt := m_L_set) (mc1 := 1) (ms1 := 6) (kc := 0) (ks := 0) hr h0 rfl rfl k_X8_set s_X8_set l_L_26 ⟨Nat.le_of_ble_eq_true rfl, Nat.le_of_ble_eq_true rfl⟩ rfl (Nat.le_of_ble_eq_true rfl) dL_set_5 rfl (fun v1 M1 h => nomatch h.1) (fun E1 M1 h => ?_)
  obtain ⟨h1, h2⟩ := h
  cases h1
  cases h2
  refine VX_catch (mt := m_L_set) [] (0, 10, 13, 13) [(0, 10, 17, 15)] (by decide) rfl (fun z hz => nomatch hz) (by decide) (by decide) cl_L_13 ca_0 (fun q => ?_)
  show V g m_L_set 13 _ _ _ _ _ _ _
  refine V_astore (lv2 := [(4, .ref _), (0, .ref _), (1, .int _), (2, .int _), (3, .ref _)]) dL_set_13 (Nat.le_of_ble_eq_true rfl) rfl ?_
  refine V_iconst (v := 1) dL_set_15 rfl ?_
  refine V_iret (st := []) dL_set_16 rfl ?_
  exact ⟨rfl, rfl⟩

set_option maxRecDepth 20000 in
theorem h_set_2 {g : GE} {M : Mem} {sz : Nat} {p0 p1 : Int32} {fs : List Value} (h0 : M 0 = some (eO 8 fs)) (hr : Run g m_X8_set [rf g 0, .int p0, .int p1] M sz 1 6 (Thr (exN 1) M)) : Run g m_L_set [rf g 0, .int p0, .int p1, rf g 105] M sz 1 6 (Ret (some (.int 2)) M) := by
  refine Run.ofH (by decide) (by decide) (Nat.le_of_ble_eq_true rfl) ?_
  show V g m_L_set 0 _ [] _ _ _ _ _
  refine V_aload_n 3 dL_set_0 rfl ?_
  refine V_iconst (v := 0) dL_set_1 rfl ?_
  refine V_aload_n 0 dL_set_2 rfl ?_
  refine V_iload_n 1 dL_set_3 rfl ?_
  refine V_iload_n 2 dL_set_4 rfl ?_
  refine V_callVH (mt := m_L_set) (mc1 := 1) (ms1 := 6) (kc := 0) (ks := 0) hr h0 rfl rfl k_X8_set s_X8_set l_L_26 ⟨Nat.le_of_ble_eq_true rfl, Nat.le_of_ble_eq_true rfl⟩ rfl (Nat.le_of_ble_eq_true rfl) dL_set_5 rfl (fun v1 M1 h => nomatch h.1) (fun E1 M1 h => ?_)
  obtain ⟨h1, h2⟩ := h
  cases h1
  cases h2
  refine VX_catch (mt := m_L_set) [(0, 10, 13, 13)] (0, 10, 17, 15) [] (by decide) rfl (fun z hz => by rw [List.mem_singleton] at hz; subst hz; exact ⟨by decide, 0, by decide, by decide, cl_L_13⟩) (by decide) (by decide) cl_L_15 ca_1 (fun q => ?_)
  show V g m_L_set 17 _ _ _ _ _ _ _
  refine V_astore (lv2 := [(4, .ref _), (0, .ref _), (1, .int _), (2, .int _), (3, .ref _)]) dL_set_17 (Nat.le_of_ble_eq_true rfl) rfl ?_
  refine V_iconst (v := 2) dL_set_19 rfl ?_
  refine V_iret (st := []) dL_set_20 rfl ?_
  exact ⟨rfl, rfl⟩

set_option maxRecDepth 20000 in
theorem h_bolt_ok {g : GE} {M : Mem} {sz : Nat} {p0 p1 : Int32} {a : Int32} {P : Mem → Prop} {fs : List Value} (h0 : M 0 = some (eO 8 fs)) (hr : Run g m_X8_bolt [rf g 0, .int p0, .int p1] M sz 0 0 (RetP (some (.int a)) P)) (hP : ∀ M1, P M1 → ∃ o, M1 105 = some (eJ g 1 o)) : Run g m_L_bolt [rf g 0, .int p0, .int p1, rf g 105] M sz 1 6 (RetP (some (.int 0)) (fun M2 => ∃ M1 o, P M1 ∧ M1 105 = some (eJ g 1 o) ∧ M2 = mup M1 105 (eJ g 1 (vp_updL o 0 a.toInt64)))) := by
  refine Run.ofH (by decide) (by decide) (Nat.le_of_ble_eq_true rfl) ?_
  show V g m_L_bolt 0 _ [] _ _ _ _ _
  refine V_aload_n 3 dL_bolt_0 rfl ?_
  refine V_iconst (v := 0) dL_bolt_1 rfl ?_
  refine V_aload_n 0 dL_bolt_2 rfl ?_
  refine V_iload_n 1 dL_bolt_3 rfl ?_
  refine V_iload_n 2 dL_bolt_4 rfl ?_
  refine V_callVH (mt := m_L_bolt) (mc1 := 0) (ms1 := 0) (kc := 1) (ks := 6) hr h0 rfl rfl k_X8_bolt s_X8_bolt l_L_29 ⟨Nat.le_of_ble_eq_true rfl, Nat.le_of_ble_eq_true rfl⟩ rfl (Nat.le_of_ble_eq_true rfl) dL_bolt_5 rfl (fun v1 M1 h => ?_) (fun E1 M1 h => nomatch h.1)
  obtain ⟨h1, h2⟩ := h
  cases h1
  obtain ⟨o, ho⟩ := hP M1 h2
  refine V_i2l dL_bolt_8 ?_
  refine V_last ho (show vp_in (nI 0) 1 from vp_in_nI (by decide) (by decide)) dL_bolt_9 ?_
  refine V_goto (tgt := 25) dL_bolt_10 (by decide) ?_
  refine V_iconst (v := 0) dL_bolt_25 rfl ?_
  refine V_iret (st := []) dL_bolt_26 rfl ?_
  exact ⟨rfl, M1, o, h2, ho, rfl⟩

set_option maxRecDepth 20000 in
theorem h_bolt_1 {g : GE} {M : Mem} {sz : Nat} {p0 p1 : Int32} {fs : List Value} (h0 : M 0 = some (eO 8 fs)) (hr : Run g m_X8_bolt [rf g 0, .int p0, .int p1] M sz 1 6 (Thr (exN 0) M)) : Run g m_L_bolt [rf g 0, .int p0, .int p1, rf g 105] M sz 1 6 (Ret (some (.int 1)) M) := by
  refine Run.ofH (by decide) (by decide) (Nat.le_of_ble_eq_true rfl) ?_
  show V g m_L_bolt 0 _ [] _ _ _ _ _
  refine V_aload_n 3 dL_bolt_0 rfl ?_
  refine V_iconst (v := 0) dL_bolt_1 rfl ?_
  refine V_aload_n 0 dL_bolt_2 rfl ?_
  refine V_iload_n 1 dL_bolt_3 rfl ?_
  refine V_iload_n 2 dL_bolt_4 rfl ?_
  refine V_callVH (mt := m_L_bolt) (mc1 := 1) (ms1 := 6) (kc := 0) (ks := 0) hr h0 rfl rfl k_X8_bolt s_X8_bolt l_L_29 ⟨Nat.le_of_ble_eq_true rfl, Nat.le_of_ble_eq_true rfl⟩ rfl (Nat.le_of_ble_eq_true rfl) dL_bolt_5 rfl (fun v1 M1 h => nomatch h.1) (fun E1 M1 h => ?_)
  obtain ⟨h1, h2⟩ := h
  cases h1
  cases h2
  refine VX_catch (mt := m_L_bolt) [] (0, 10, 13, 13) [(0, 10, 17, 15), (0, 10, 21, 21)] (by decide) rfl (fun z hz => nomatch hz) (by decide) (by decide) cl_L_13 ca_0 (fun q => ?_)
  show V g m_L_bolt 13 _ _ _ _ _ _ _
  refine V_astore (lv2 := [(4, .ref _), (0, .ref _), (1, .int _), (2, .int _), (3, .ref _)]) dL_bolt_13 (Nat.le_of_ble_eq_true rfl) rfl ?_
  refine V_iconst (v := 1) dL_bolt_15 rfl ?_
  refine V_iret (st := []) dL_bolt_16 rfl ?_
  exact ⟨rfl, rfl⟩

set_option maxRecDepth 20000 in
theorem h_bolt_2 {g : GE} {M : Mem} {sz : Nat} {p0 p1 : Int32} {fs : List Value} (h0 : M 0 = some (eO 8 fs)) (hr : Run g m_X8_bolt [rf g 0, .int p0, .int p1] M sz 1 6 (Thr (exN 1) M)) : Run g m_L_bolt [rf g 0, .int p0, .int p1, rf g 105] M sz 1 6 (Ret (some (.int 2)) M) := by
  refine Run.ofH (by decide) (by decide) (Nat.le_of_ble_eq_true rfl) ?_
  show V g m_L_bolt 0 _ [] _ _ _ _ _
  refine V_aload_n 3 dL_bolt_0 rfl ?_
  refine V_iconst (v := 0) dL_bolt_1 rfl ?_
  refine V_aload_n 0 dL_bolt_2 rfl ?_
  refine V_iload_n 1 dL_bolt_3 rfl ?_
  refine V_iload_n 2 dL_bolt_4 rfl ?_
  refine V_callVH (mt := m_L_bolt) (mc1 := 1) (ms1 := 6) (kc := 0) (ks := 0) hr h0 rfl rfl k_X8_bolt s_X8_bolt l_L_29 ⟨Nat.le_of_ble_eq_true rfl, Nat.le_of_ble_eq_true rfl⟩ rfl (Nat.le_of_ble_eq_true rfl) dL_bolt_5 rfl (fun v1 M1 h => nomatch h.1) (fun E1 M1 h => ?_)
  obtain ⟨h1, h2⟩ := h
  cases h1
  cases h2
  refine VX_catch (mt := m_L_bolt) [(0, 10, 13, 13)] (0, 10, 17, 15) [(0, 10, 21, 21)] (by decide) rfl (fun z hz => by rw [List.mem_singleton] at hz; subst hz; exact ⟨by decide, 0, by decide, by decide, cl_L_13⟩) (by decide) (by decide) cl_L_15 ca_1 (fun q => ?_)
  show V g m_L_bolt 17 _ _ _ _ _ _ _
  refine V_astore (lv2 := [(4, .ref _), (0, .ref _), (1, .int _), (2, .int _), (3, .ref _)]) dL_bolt_17 (Nat.le_of_ble_eq_true rfl) rfl ?_
  refine V_iconst (v := 2) dL_bolt_19 rfl ?_
  refine V_iret (st := []) dL_bolt_20 rfl ?_
  exact ⟨rfl, rfl⟩

set_option maxRecDepth 20000 in
theorem h_bolt_3 {g : GE} {M : Mem} {sz : Nat} {p0 p1 : Int32} {fs : List Value} (h0 : M 0 = some (eO 8 fs)) (hr : Run g m_X8_bolt [rf g 0, .int p0, .int p1] M sz 1 6 (Thr (exN 2) M)) : Run g m_L_bolt [rf g 0, .int p0, .int p1, rf g 105] M sz 1 6 (Ret (some (.int 3)) M) := by
  refine Run.ofH (by decide) (by decide) (Nat.le_of_ble_eq_true rfl) ?_
  show V g m_L_bolt 0 _ [] _ _ _ _ _
  refine V_aload_n 3 dL_bolt_0 rfl ?_
  refine V_iconst (v := 0) dL_bolt_1 rfl ?_
  refine V_aload_n 0 dL_bolt_2 rfl ?_
  refine V_iload_n 1 dL_bolt_3 rfl ?_
  refine V_iload_n 2 dL_bolt_4 rfl ?_
  refine V_callVH (mt := m_L_bolt) (mc1 := 1) (ms1 := 6) (kc := 0) (ks := 0) hr h0 rfl rfl k_X8_bolt s_X8_bolt l_L_29 ⟨Nat.le_of_ble_eq_true rfl, Nat.le_of_ble_eq_true rfl⟩ rfl (Nat.le_of_ble_eq_true rfl) dL_bolt_5 rfl (fun v1 M1 h => nomatch h.1) (fun E1 M1 h => ?_)
  obtain ⟨h1, h2⟩ := h
  cases h1
  cases h2
  refine VX_catch (mt := m_L_bolt) [(0, 10, 13, 13), (0, 10, 17, 15)] (0, 10, 21, 21) [] (by decide) rfl (fun z hz => by rcases List.mem_cons.mp hz with hz | hz; subst hz; exact ⟨by decide, 0, by decide, by decide, cl_L_13⟩; rw [List.mem_singleton] at hz; subst hz; exact ⟨by decide, 1, by decide, by decide, cl_L_15⟩) (by decide) (by decide) cl_L_21 ca_2 (fun q => ?_)
  show V g m_L_bolt 21 _ _ _ _ _ _ _
  refine V_astore (lv2 := [(4, .ref _), (0, .ref _), (1, .int _), (2, .int _), (3, .ref _)]) dL_bolt_21 (Nat.le_of_ble_eq_true rfl) rfl ?_
  refine V_iconst (v := 3) dL_bolt_23 rfl ?_
  refine V_iret (st := []) dL_bolt_24 rfl ?_
  exact ⟨rfl, rfl⟩

set_option maxRecDepth 20000 in
theorem h_send_ok {g : GE} {M : Mem} {sz : Nat} {p0 p1 : Int32} {a : Int32} {P : Mem → Prop} {fs : List Value} (h0 : M 0 = some (eO 8 fs)) (hr : Run g m_X8_send [rf g 0, .int p0, .int p1] M sz 0 0 (RetP (some (.int a)) P)) (hP : ∀ M1, P M1 → ∃ o, M1 105 = some (eJ g 1 o)) : Run g m_L_send [rf g 0, .int p0, .int p1, rf g 105] M sz 1 6 (RetP (some (.int 0)) (fun M2 => ∃ M1 o, P M1 ∧ M1 105 = some (eJ g 1 o) ∧ M2 = mup M1 105 (eJ g 1 (vp_updL o 0 a.toInt64)))) := by
  refine Run.ofH (by decide) (by decide) (Nat.le_of_ble_eq_true rfl) ?_
  show V g m_L_send 0 _ [] _ _ _ _ _
  refine V_aload_n 3 dL_send_0 rfl ?_
  refine V_iconst (v := 0) dL_send_1 rfl ?_
  refine V_aload_n 0 dL_send_2 rfl ?_
  refine V_iload_n 1 dL_send_3 rfl ?_
  refine V_iload_n 2 dL_send_4 rfl ?_
  refine V_callVH (mt := m_L_send) (mc1 := 0) (ms1 := 0) (kc := 1) (ks := 6) hr h0 rfl rfl k_X8_send s_X8_send l_L_32 ⟨Nat.le_of_ble_eq_true rfl, Nat.le_of_ble_eq_true rfl⟩ rfl (Nat.le_of_ble_eq_true rfl) dL_send_5 rfl (fun v1 M1 h => ?_) (fun E1 M1 h => nomatch h.1)
  obtain ⟨h1, h2⟩ := h
  cases h1
  obtain ⟨o, ho⟩ := hP M1 h2
  refine V_i2l dL_send_8 ?_
  refine V_last ho (show vp_in (nI 0) 1 from vp_in_nI (by decide) (by decide)) dL_send_9 ?_
  refine V_goto (tgt := 21) dL_send_10 (by decide) ?_
  refine V_iconst (v := 0) dL_send_21 rfl ?_
  refine V_iret (st := []) dL_send_22 rfl ?_
  exact ⟨rfl, M1, o, h2, ho, rfl⟩

set_option maxRecDepth 20000 in
theorem h_send_1 {g : GE} {M : Mem} {sz : Nat} {p0 p1 : Int32} {fs : List Value} (h0 : M 0 = some (eO 8 fs)) (hr : Run g m_X8_send [rf g 0, .int p0, .int p1] M sz 1 6 (Thr (exN 0) M)) : Run g m_L_send [rf g 0, .int p0, .int p1, rf g 105] M sz 1 6 (Ret (some (.int 1)) M) := by
  refine Run.ofH (by decide) (by decide) (Nat.le_of_ble_eq_true rfl) ?_
  show V g m_L_send 0 _ [] _ _ _ _ _
  refine V_aload_n 3 dL_send_0 rfl ?_
  refine V_iconst (v := 0) dL_send_1 rfl ?_
  refine V_aload_n 0 dL_send_2 rfl ?_
  refine V_iload_n 1 dL_send_3 rfl ?_
  refine V_iload_n 2 dL_send_4 rfl ?_
  refine V_callVH (mt := m_L_send) (mc1 := 1) (ms1 := 6) (kc := 0) (ks := 0) hr h0 rfl rfl k_X8_send s_X8_send l_L_32 ⟨Nat.le_of_ble_eq_true rfl, Nat.le_of_ble_eq_true rfl⟩ rfl (Nat.le_of_ble_eq_true rfl) dL_send_5 rfl (fun v1 M1 h => nomatch h.1) (fun E1 M1 h => ?_)
  obtain ⟨h1, h2⟩ := h
  cases h1
  cases h2
  refine VX_catch (mt := m_L_send) [] (0, 10, 13, 13) [(0, 10, 17, 21)] (by decide) rfl (fun z hz => nomatch hz) (by decide) (by decide) cl_L_13 ca_0 (fun q => ?_)
  show V g m_L_send 13 _ _ _ _ _ _ _
  refine V_astore (lv2 := [(4, .ref _), (0, .ref _), (1, .int _), (2, .int _), (3, .ref _)]) dL_send_13 (Nat.le_of_ble_eq_true rfl) rfl ?_
  refine V_iconst (v := 1) dL_send_15 rfl ?_
  refine V_iret (st := []) dL_send_16 rfl ?_
  exact ⟨rfl, rfl⟩

set_option maxRecDepth 20000 in
theorem h_send_2 {g : GE} {M : Mem} {sz : Nat} {p0 p1 : Int32} {fs : List Value} (h0 : M 0 = some (eO 8 fs)) (hr : Run g m_X8_send [rf g 0, .int p0, .int p1] M sz 1 6 (Thr (exN 2) M)) : Run g m_L_send [rf g 0, .int p0, .int p1, rf g 105] M sz 1 6 (Ret (some (.int 2)) M) := by
  refine Run.ofH (by decide) (by decide) (Nat.le_of_ble_eq_true rfl) ?_
  show V g m_L_send 0 _ [] _ _ _ _ _
  refine V_aload_n 3 dL_send_0 rfl ?_
  refine V_iconst (v := 0) dL_send_1 rfl ?_
  refine V_aload_n 0 dL_send_2 rfl ?_
  refine V_iload_n 1 dL_send_3 rfl ?_
  refine V_iload_n 2 dL_send_4 rfl ?_
  refine V_callVH (mt := m_L_send) (mc1 := 1) (ms1 := 6) (kc := 0) (ks := 0) hr h0 rfl rfl k_X8_send s_X8_send l_L_32 ⟨Nat.le_of_ble_eq_true rfl, Nat.le_of_ble_eq_true rfl⟩ rfl (Nat.le_of_ble_eq_true rfl) dL_send_5 rfl (fun v1 M1 h => nomatch h.1) (fun E1 M1 h => ?_)
  obtain ⟨h1, h2⟩ := h
  cases h1
  cases h2
  refine VX_catch (mt := m_L_send) [(0, 10, 13, 13)] (0, 10, 17, 21) [] (by decide) rfl (fun z hz => by rw [List.mem_singleton] at hz; subst hz; exact ⟨by decide, 0, by decide, by decide, cl_L_13⟩) (by decide) (by decide) cl_L_21 ca_2 (fun q => ?_)
  show V g m_L_send 17 _ _ _ _ _ _ _
  refine V_astore (lv2 := [(4, .ref _), (0, .ref _), (1, .int _), (2, .int _), (3, .ref _)]) dL_send_17 (Nat.le_of_ble_eq_true rfl) rfl ?_
  refine V_iconst (v := 2) dL_send_19 rfl ?_
  refine V_iret (st := []) dL_send_20 rfl ?_
  exact ⟨rfl, rfl⟩

set_option maxRecDepth 20000 in
theorem h_sell_ok {g : GE} {M : Mem} {sz : Nat} {p0 : Int32} {a : Int32} {P : Mem → Prop} {fs : List Value} (h0 : M 0 = some (eO 8 fs)) (hr : Run g m_X8_sell [rf g 0, .int p0] M sz 0 0 (RetP (some (.int a)) P)) (hP : ∀ M1, P M1 → ∃ o, M1 105 = some (eJ g 1 o)) : Run g m_L_sell [rf g 0, .int p0, rf g 105] M sz 1 6 (RetP (some (.int 0)) (fun M2 => ∃ M1 o, P M1 ∧ M1 105 = some (eJ g 1 o) ∧ M2 = mup M1 105 (eJ g 1 (vp_updL o 0 a.toInt64)))) := by
  refine Run.ofH (by decide) (by decide) (Nat.le_of_ble_eq_true rfl) ?_
  show V g m_L_sell 0 _ [] _ _ _ _ _
  refine V_aload_n 2 dL_sell_0 rfl ?_
  refine V_iconst (v := 0) dL_sell_1 rfl ?_
  refine V_aload_n 0 dL_sell_2 rfl ?_
  refine V_iload_n 1 dL_sell_3 rfl ?_
  refine V_callVH (mt := m_L_sell) (mc1 := 0) (ms1 := 0) (kc := 1) (ks := 6) hr h0 rfl rfl k_X8_sell s_X8_sell l_L_35 ⟨Nat.le_of_ble_eq_true rfl, Nat.le_of_ble_eq_true rfl⟩ rfl (Nat.le_of_ble_eq_true rfl) dL_sell_4 rfl (fun v1 M1 h => ?_) (fun E1 M1 h => nomatch h.1)
  obtain ⟨h1, h2⟩ := h
  cases h1
  obtain ⟨o, ho⟩ := hP M1 h2
  refine V_i2l dL_sell_7 ?_
  refine V_last ho (show vp_in (nI 0) 1 from vp_in_nI (by decide) (by decide)) dL_sell_8 ?_
  refine V_goto (tgt := 15) dL_sell_9 (by decide) ?_
  refine V_iconst (v := 0) dL_sell_15 rfl ?_
  refine V_iret (st := []) dL_sell_16 rfl ?_
  exact ⟨rfl, M1, o, h2, ho, rfl⟩

set_option maxRecDepth 20000 in
theorem h_sell_1 {g : GE} {M : Mem} {sz : Nat} {p0 : Int32} {fs : List Value} (h0 : M 0 = some (eO 8 fs)) (hr : Run g m_X8_sell [rf g 0, .int p0] M sz 1 6 (Thr (exN 0) M)) : Run g m_L_sell [rf g 0, .int p0, rf g 105] M sz 1 6 (Ret (some (.int 1)) M) := by
  refine Run.ofH (by decide) (by decide) (Nat.le_of_ble_eq_true rfl) ?_
  show V g m_L_sell 0 _ [] _ _ _ _ _
  refine V_aload_n 2 dL_sell_0 rfl ?_
  refine V_iconst (v := 0) dL_sell_1 rfl ?_
  refine V_aload_n 0 dL_sell_2 rfl ?_
  refine V_iload_n 1 dL_sell_3 rfl ?_
  refine V_callVH (mt := m_L_sell) (mc1 := 1) (ms1 := 6) (kc := 0) (ks := 0) hr h0 rfl rfl k_X8_sell s_X8_sell l_L_35 ⟨Nat.le_of_ble_eq_true rfl, Nat.le_of_ble_eq_true rfl⟩ rfl (Nat.le_of_ble_eq_true rfl) dL_sell_4 rfl (fun v1 M1 h => nomatch h.1) (fun E1 M1 h => ?_)
  obtain ⟨h1, h2⟩ := h
  cases h1
  cases h2
  refine VX_catch (mt := m_L_sell) [] (0, 9, 12, 13) [] (by decide) rfl (fun z hz => nomatch hz) (by decide) (by decide) cl_L_13 ca_0 (fun q => ?_)
  show V g m_L_sell 12 _ _ _ _ _ _ _
  refine V_astore_n (lv2 := [(3, .ref _), (0, .ref _), (1, .int _), (2, .ref _)]) dL_sell_12 (Nat.le_of_ble_eq_true rfl) rfl ?_
  refine V_iconst (v := 1) dL_sell_13 rfl ?_
  refine V_iret (st := []) dL_sell_14 rfl ?_
  exact ⟨rfl, rfl⟩

set_option maxRecDepth 20000 in
theorem h_append_ok {g : GE} {M : Mem} {sz : Nat} {p0 : Int32} {a : Int32} {P : Mem → Prop} {fs : List Value} (h0 : M 0 = some (eO 8 fs)) (hr : Run g m_X8_append [rf g 0, .int p0] M sz 0 0 (RetP (some (.int a)) P)) (hP : ∀ M1, P M1 → ∃ o, M1 105 = some (eJ g 1 o)) : Run g m_L_append [rf g 0, .int p0, rf g 105] M sz 1 6 (RetP (some (.int 0)) (fun M2 => ∃ M1 o, P M1 ∧ M1 105 = some (eJ g 1 o) ∧ M2 = mup M1 105 (eJ g 1 (vp_updL o 0 a.toInt64)))) := by
  refine Run.ofH (by decide) (by decide) (Nat.le_of_ble_eq_true rfl) ?_
  show V g m_L_append 0 _ [] _ _ _ _ _
  refine V_aload_n 2 dL_append_0 rfl ?_
  refine V_iconst (v := 0) dL_append_1 rfl ?_
  refine V_aload_n 0 dL_append_2 rfl ?_
  refine V_iload_n 1 dL_append_3 rfl ?_
  refine V_callVH (mt := m_L_append) (mc1 := 0) (ms1 := 0) (kc := 1) (ks := 6) hr h0 rfl rfl k_X8_append s_X8_append l_L_39 ⟨Nat.le_of_ble_eq_true rfl, Nat.le_of_ble_eq_true rfl⟩ rfl (Nat.le_of_ble_eq_true rfl) dL_append_4 rfl (fun v1 M1 h => ?_) (fun E1 M1 h => nomatch h.1)
  obtain ⟨h1, h2⟩ := h
  cases h1
  obtain ⟨o, ho⟩ := hP M1 h2
  refine V_i2l dL_append_7 ?_
  refine V_last ho (show vp_in (nI 0) 1 from vp_in_nI (by decide) (by decide)) dL_append_8 ?_
  refine V_goto (tgt := 18) dL_append_9 (by decide) ?_
  refine V_iconst (v := 0) dL_append_18 rfl ?_
  refine V_iret (st := []) dL_append_19 rfl ?_
  exact ⟨rfl, M1, o, h2, ho, rfl⟩

set_option maxRecDepth 20000 in
theorem h_append_1 {g : GE} {M : Mem} {sz : Nat} {p0 : Int32} {fs : List Value} (h0 : M 0 = some (eO 8 fs)) (hr : Run g m_X8_append [rf g 0, .int p0] M sz 1 6 (Thr (exN 1) M)) : Run g m_L_append [rf g 0, .int p0, rf g 105] M sz 1 6 (Ret (some (.int 1)) M) := by
  refine Run.ofH (by decide) (by decide) (Nat.le_of_ble_eq_true rfl) ?_
  show V g m_L_append 0 _ [] _ _ _ _ _
  refine V_aload_n 2 dL_append_0 rfl ?_
  refine V_iconst (v := 0) dL_append_1 rfl ?_
  refine V_aload_n 0 dL_append_2 rfl ?_
  refine V_iload_n 1 dL_append_3 rfl ?_
  refine V_callVH (mt := m_L_append) (mc1 := 1) (ms1 := 6) (kc := 0) (ks := 0) hr h0 rfl rfl k_X8_append s_X8_append l_L_39 ⟨Nat.le_of_ble_eq_true rfl, Nat.le_of_ble_eq_true rfl⟩ rfl (Nat.le_of_ble_eq_true rfl) dL_append_4 rfl (fun v1 M1 h => nomatch h.1) (fun E1 M1 h => ?_)
  obtain ⟨h1, h2⟩ := h
  cases h1
  cases h2
  refine VX_catch (mt := m_L_append) [] (0, 9, 12, 15) [(0, 9, 15, 21)] (by decide) rfl (fun z hz => nomatch hz) (by decide) (by decide) cl_L_15 ca_1 (fun q => ?_)
  show V g m_L_append 12 _ _ _ _ _ _ _
  refine V_astore_n (lv2 := [(3, .ref _), (0, .ref _), (1, .int _), (2, .ref _)]) dL_append_12 (Nat.le_of_ble_eq_true rfl) rfl ?_
  refine V_iconst (v := 1) dL_append_13 rfl ?_
  refine V_iret (st := []) dL_append_14 rfl ?_
  exact ⟨rfl, rfl⟩

set_option maxRecDepth 20000 in
theorem h_append_2 {g : GE} {M : Mem} {sz : Nat} {p0 : Int32} {fs : List Value} (h0 : M 0 = some (eO 8 fs)) (hr : Run g m_X8_append [rf g 0, .int p0] M sz 1 6 (Thr (exN 2) M)) : Run g m_L_append [rf g 0, .int p0, rf g 105] M sz 1 6 (Ret (some (.int 2)) M) := by
  refine Run.ofH (by decide) (by decide) (Nat.le_of_ble_eq_true rfl) ?_
  show V g m_L_append 0 _ [] _ _ _ _ _
  refine V_aload_n 2 dL_append_0 rfl ?_
  refine V_iconst (v := 0) dL_append_1 rfl ?_
  refine V_aload_n 0 dL_append_2 rfl ?_
  refine V_iload_n 1 dL_append_3 rfl ?_
  refine V_callVH (mt := m_L_append) (mc1 := 1) (ms1 := 6) (kc := 0) (ks := 0) hr h0 rfl rfl k_X8_append s_X8_append l_L_39 ⟨Nat.le_of_ble_eq_true rfl, Nat.le_of_ble_eq_true rfl⟩ rfl (Nat.le_of_ble_eq_true rfl) dL_append_4 rfl (fun v1 M1 h => nomatch h.1) (fun E1 M1 h => ?_)
  obtain ⟨h1, h2⟩ := h
  cases h1
  cases h2
  refine VX_catch (mt := m_L_append) [(0, 9, 12, 15)] (0, 9, 15, 21) [] (by decide) rfl (fun z hz => by rw [List.mem_singleton] at hz; subst hz; exact ⟨by decide, 1, by decide, by decide, cl_L_15⟩) (by decide) (by decide) cl_L_21 ca_2 (fun q => ?_)
  show V g m_L_append 15 _ _ _ _ _ _ _
  refine V_astore_n (lv2 := [(3, .ref _), (0, .ref _), (1, .int _), (2, .ref _)]) dL_append_15 (Nat.le_of_ble_eq_true rfl) rfl ?_
  refine V_iconst (v := 2) dL_append_16 rfl ?_
  refine V_iret (st := []) dL_append_17 rfl ?_
  exact ⟨rfl, rfl⟩

set_option maxRecDepth 20000 in
theorem h_work_ok {g : GE} {M : Mem} {sz : Nat} {a : Int32} {P : Mem → Prop} {fs : List Value} (h0 : M 0 = some (eO 8 fs)) (hr : Run g m_X8_work [rf g 0] M sz 0 0 (RetP (some (.int a)) P)) (hP : ∀ M1, P M1 → ∃ o, M1 105 = some (eJ g 1 o)) : Run g m_L_work [rf g 0, rf g 105] M sz 1 6 (RetP (some (.int 0)) (fun M2 => ∃ M1 o, P M1 ∧ M1 105 = some (eJ g 1 o) ∧ M2 = mup M1 105 (eJ g 1 (vp_updL o 0 a.toInt64)))) := by
  refine Run.ofH (by decide) (by decide) (Nat.le_of_ble_eq_true rfl) ?_
  show V g m_L_work 0 _ [] _ _ _ _ _
  refine V_aload_n 1 dL_work_0 rfl ?_
  refine V_iconst (v := 0) dL_work_1 rfl ?_
  refine V_aload_n 0 dL_work_2 rfl ?_
  refine V_callVH (mt := m_L_work) (mc1 := 0) (ms1 := 0) (kc := 1) (ks := 6) hr h0 rfl rfl k_X8_work s_X8_work l_L_42 ⟨Nat.le_of_ble_eq_true rfl, Nat.le_of_ble_eq_true rfl⟩ rfl (Nat.le_of_ble_eq_true rfl) dL_work_3 rfl (fun v1 M1 h => ?_) (fun E1 M1 h => nomatch h.1)
  obtain ⟨h1, h2⟩ := h
  cases h1
  obtain ⟨o, ho⟩ := hP M1 h2
  refine V_i2l dL_work_6 ?_
  refine V_last ho (show vp_in (nI 0) 1 from vp_in_nI (by decide) (by decide)) dL_work_7 ?_
  refine V_goto (tgt := 14) dL_work_8 (by decide) ?_
  refine V_iconst (v := 0) dL_work_14 rfl ?_
  refine V_iret (st := []) dL_work_15 rfl ?_
  exact ⟨rfl, M1, o, h2, ho, rfl⟩

set_option maxRecDepth 20000 in
theorem h_work_1 {g : GE} {M : Mem} {sz : Nat} {fs : List Value} (h0 : M 0 = some (eO 8 fs)) (hr : Run g m_X8_work [rf g 0] M sz 1 6 (Thr (exN 1) M)) : Run g m_L_work [rf g 0, rf g 105] M sz 1 6 (Ret (some (.int 1)) M) := by
  refine Run.ofH (by decide) (by decide) (Nat.le_of_ble_eq_true rfl) ?_
  show V g m_L_work 0 _ [] _ _ _ _ _
  refine V_aload_n 1 dL_work_0 rfl ?_
  refine V_iconst (v := 0) dL_work_1 rfl ?_
  refine V_aload_n 0 dL_work_2 rfl ?_
  refine V_callVH (mt := m_L_work) (mc1 := 1) (ms1 := 6) (kc := 0) (ks := 0) hr h0 rfl rfl k_X8_work s_X8_work l_L_42 ⟨Nat.le_of_ble_eq_true rfl, Nat.le_of_ble_eq_true rfl⟩ rfl (Nat.le_of_ble_eq_true rfl) dL_work_3 rfl (fun v1 M1 h => nomatch h.1) (fun E1 M1 h => ?_)
  obtain ⟨h1, h2⟩ := h
  cases h1
  cases h2
  refine VX_catch (mt := m_L_work) [] (0, 8, 11, 15) [] (by decide) rfl (fun z hz => nomatch hz) (by decide) (by decide) cl_L_15 ca_1 (fun q => ?_)
  show V g m_L_work 11 _ _ _ _ _ _ _
  refine V_astore_n (lv2 := [(2, .ref _), (0, .ref _), (1, .ref _)]) dL_work_11 (Nat.le_of_ble_eq_true rfl) rfl ?_
  refine V_iconst (v := 1) dL_work_12 rfl ?_
  refine V_iret (st := []) dL_work_13 rfl ?_
  exact ⟨rfl, rfl⟩

set_option maxRecDepth 20000 in
theorem h_stopped_ok {g : GE} {M : Mem} {sz : Nat} {p0 : Int32} {a : Int32} {P : Mem → Prop} {fs : List Value} (h0 : M 0 = some (eO 8 fs)) (hr : Run g m_X8_stopped [rf g 0, .int p0] M sz 0 0 (RetP (some (.int a)) P)) (hP : ∀ M1, P M1 → ∃ o, M1 105 = some (eJ g 1 o)) : Run g m_L_stopped [rf g 0, .int p0, rf g 105] M sz 1 6 (RetP (some (.int 0)) (fun M2 => ∃ M1 o, P M1 ∧ M1 105 = some (eJ g 1 o) ∧ M2 = mup M1 105 (eJ g 1 (vp_updL o 0 a.toInt64)))) := by
  refine Run.ofH (by decide) (by decide) (Nat.le_of_ble_eq_true rfl) ?_
  show V g m_L_stopped 0 _ [] _ _ _ _ _
  refine V_aload_n 2 dL_stopped_0 rfl ?_
  refine V_iconst (v := 0) dL_stopped_1 rfl ?_
  refine V_aload_n 0 dL_stopped_2 rfl ?_
  refine V_iload_n 1 dL_stopped_3 rfl ?_
  refine V_callVH (mt := m_L_stopped) (mc1 := 0) (ms1 := 0) (kc := 1) (ks := 6) hr h0 rfl rfl k_X8_stopped s_X8_stopped l_L_46 ⟨Nat.le_of_ble_eq_true rfl, Nat.le_of_ble_eq_true rfl⟩ rfl (Nat.le_of_ble_eq_true rfl) dL_stopped_4 rfl (fun v1 M1 h => ?_) (fun E1 M1 h => nomatch h.1)
  obtain ⟨h1, h2⟩ := h
  cases h1
  obtain ⟨o, ho⟩ := hP M1 h2
  refine V_i2l dL_stopped_7 ?_
  refine V_last ho (show vp_in (nI 0) 1 from vp_in_nI (by decide) (by decide)) dL_stopped_8 ?_
  refine V_goto (tgt := 15) dL_stopped_9 (by decide) ?_
  refine V_iconst (v := 0) dL_stopped_15 rfl ?_
  refine V_iret (st := []) dL_stopped_16 rfl ?_
  exact ⟨rfl, M1, o, h2, ho, rfl⟩

set_option maxRecDepth 20000 in
theorem h_stopped_1 {g : GE} {M : Mem} {sz : Nat} {p0 : Int32} {fs : List Value} (h0 : M 0 = some (eO 8 fs)) (hr : Run g m_X8_stopped [rf g 0, .int p0] M sz 1 6 (Thr (exN 1) M)) : Run g m_L_stopped [rf g 0, .int p0, rf g 105] M sz 1 6 (Ret (some (.int 1)) M) := by
  refine Run.ofH (by decide) (by decide) (Nat.le_of_ble_eq_true rfl) ?_
  show V g m_L_stopped 0 _ [] _ _ _ _ _
  refine V_aload_n 2 dL_stopped_0 rfl ?_
  refine V_iconst (v := 0) dL_stopped_1 rfl ?_
  refine V_aload_n 0 dL_stopped_2 rfl ?_
  refine V_iload_n 1 dL_stopped_3 rfl ?_
  refine V_callVH (mt := m_L_stopped) (mc1 := 1) (ms1 := 6) (kc := 0) (ks := 0) hr h0 rfl rfl k_X8_stopped s_X8_stopped l_L_46 ⟨Nat.le_of_ble_eq_true rfl, Nat.le_of_ble_eq_true rfl⟩ rfl (Nat.le_of_ble_eq_true rfl) dL_stopped_4 rfl (fun v1 M1 h => nomatch h.1) (fun E1 M1 h => ?_)
  obtain ⟨h1, h2⟩ := h
  cases h1
  cases h2
  refine VX_catch (mt := m_L_stopped) [] (0, 9, 12, 15) [] (by decide) rfl (fun z hz => nomatch hz) (by decide) (by decide) cl_L_15 ca_1 (fun q => ?_)
  show V g m_L_stopped 12 _ _ _ _ _ _ _
  refine V_astore_n (lv2 := [(3, .ref _), (0, .ref _), (1, .int _), (2, .ref _)]) dL_stopped_12 (Nat.le_of_ble_eq_true rfl) rfl ?_
  refine V_iconst (v := 1) dL_stopped_13 rfl ?_
  refine V_iret (st := []) dL_stopped_14 rfl ?_
  exact ⟨rfl, rfl⟩

set_option maxRecDepth 20000 in
theorem h_undo_ok {g : GE} {M : Mem} {sz : Nat} {a : Int32} {P : Mem → Prop} {fs : List Value} (h0 : M 0 = some (eO 8 fs)) (hr : Run g m_X8_undo [rf g 0] M sz 0 0 (RetP (some (.int a)) P)) (hP : ∀ M1, P M1 → ∃ o, M1 105 = some (eJ g 1 o)) : Run g m_L_undo [rf g 0, rf g 105] M sz 1 6 (RetP (some (.int 0)) (fun M2 => ∃ M1 o, P M1 ∧ M1 105 = some (eJ g 1 o) ∧ M2 = mup M1 105 (eJ g 1 (vp_updL o 0 a.toInt64)))) := by
  refine Run.ofH (by decide) (by decide) (Nat.le_of_ble_eq_true rfl) ?_
  show V g m_L_undo 0 _ [] _ _ _ _ _
  refine V_aload_n 1 dL_undo_0 rfl ?_
  refine V_iconst (v := 0) dL_undo_1 rfl ?_
  refine V_aload_n 0 dL_undo_2 rfl ?_
  refine V_callVH (mt := m_L_undo) (mc1 := 0) (ms1 := 0) (kc := 1) (ks := 6) hr h0 rfl rfl k_X8_undo s_X8_undo l_L_49 ⟨Nat.le_of_ble_eq_true rfl, Nat.le_of_ble_eq_true rfl⟩ rfl (Nat.le_of_ble_eq_true rfl) dL_undo_3 rfl (fun v1 M1 h => ?_) (fun E1 M1 h => nomatch h.1)
  obtain ⟨h1, h2⟩ := h
  cases h1
  obtain ⟨o, ho⟩ := hP M1 h2
  refine V_i2l dL_undo_6 ?_
  refine V_last ho (show vp_in (nI 0) 1 from vp_in_nI (by decide) (by decide)) dL_undo_7 ?_
  refine V_goto (tgt := 14) dL_undo_8 (by decide) ?_
  refine V_iconst (v := 0) dL_undo_14 rfl ?_
  refine V_iret (st := []) dL_undo_15 rfl ?_
  exact ⟨rfl, M1, o, h2, ho, rfl⟩

set_option maxRecDepth 20000 in
theorem h_undo_1 {g : GE} {M : Mem} {sz : Nat} {fs : List Value} (h0 : M 0 = some (eO 8 fs)) (hr : Run g m_X8_undo [rf g 0] M sz 1 6 (Thr (exN 2) M)) : Run g m_L_undo [rf g 0, rf g 105] M sz 1 6 (Ret (some (.int 1)) M) := by
  refine Run.ofH (by decide) (by decide) (Nat.le_of_ble_eq_true rfl) ?_
  show V g m_L_undo 0 _ [] _ _ _ _ _
  refine V_aload_n 1 dL_undo_0 rfl ?_
  refine V_iconst (v := 0) dL_undo_1 rfl ?_
  refine V_aload_n 0 dL_undo_2 rfl ?_
  refine V_callVH (mt := m_L_undo) (mc1 := 1) (ms1 := 6) (kc := 0) (ks := 0) hr h0 rfl rfl k_X8_undo s_X8_undo l_L_49 ⟨Nat.le_of_ble_eq_true rfl, Nat.le_of_ble_eq_true rfl⟩ rfl (Nat.le_of_ble_eq_true rfl) dL_undo_3 rfl (fun v1 M1 h => nomatch h.1) (fun E1 M1 h => ?_)
  obtain ⟨h1, h2⟩ := h
  cases h1
  cases h2
  refine VX_catch (mt := m_L_undo) [] (0, 8, 11, 21) [] (by decide) rfl (fun z hz => nomatch hz) (by decide) (by decide) cl_L_21 ca_2 (fun q => ?_)
  show V g m_L_undo 11 _ _ _ _ _ _ _
  refine V_astore_n (lv2 := [(2, .ref _), (0, .ref _), (1, .ref _)]) dL_undo_11 (Nat.le_of_ble_eq_true rfl) rfl ?_
  refine V_iconst (v := 1) dL_undo_12 rfl ?_
  refine V_iret (st := []) dL_undo_13 rfl ?_
  exact ⟨rfl, rfl⟩

set_option maxRecDepth 20000 in
theorem h_restore_ok {g : GE} {M : Mem} {sz : Nat} {a : Int32} {P : Mem → Prop} {fs : List Value} (h0 : M 0 = some (eO 8 fs)) (hr : Run g m_X8_restore [rf g 0] M sz 0 0 (RetP (some (.int a)) P)) (hP : ∀ M1, P M1 → ∃ o, M1 105 = some (eJ g 1 o)) : Run g m_L_restore [rf g 0, rf g 105] M sz 1 6 (RetP (some (.int 0)) (fun M2 => ∃ M1 o, P M1 ∧ M1 105 = some (eJ g 1 o) ∧ M2 = mup M1 105 (eJ g 1 (vp_updL o 0 a.toInt64)))) := by
  refine Run.ofH (by decide) (by decide) (Nat.le_of_ble_eq_true rfl) ?_
  show V g m_L_restore 0 _ [] _ _ _ _ _
  refine V_aload_n 1 dL_restore_0 rfl ?_
  refine V_iconst (v := 0) dL_restore_1 rfl ?_
  refine V_aload_n 0 dL_restore_2 rfl ?_
  refine V_callVH (mt := m_L_restore) (mc1 := 0) (ms1 := 0) (kc := 1) (ks := 6) hr h0 rfl rfl k_X8_restore s_X8_restore l_L_52 ⟨Nat.le_of_ble_eq_true rfl, Nat.le_of_ble_eq_true rfl⟩ rfl (Nat.le_of_ble_eq_true rfl) dL_restore_3 rfl (fun v1 M1 h => ?_) (fun E1 M1 h => nomatch h.1)
  obtain ⟨h1, h2⟩ := h
  cases h1
  obtain ⟨o, ho⟩ := hP M1 h2
  refine V_i2l dL_restore_6 ?_
  refine V_last ho (show vp_in (nI 0) 1 from vp_in_nI (by decide) (by decide)) dL_restore_7 ?_
  refine V_goto (tgt := 14) dL_restore_8 (by decide) ?_
  refine V_iconst (v := 0) dL_restore_14 rfl ?_
  refine V_iret (st := []) dL_restore_15 rfl ?_
  exact ⟨rfl, M1, o, h2, ho, rfl⟩

set_option maxRecDepth 20000 in
theorem h_restore_1 {g : GE} {M : Mem} {sz : Nat} {fs : List Value} (h0 : M 0 = some (eO 8 fs)) (hr : Run g m_X8_restore [rf g 0] M sz 1 6 (Thr (exN 2) M)) : Run g m_L_restore [rf g 0, rf g 105] M sz 1 6 (Ret (some (.int 1)) M) := by
  refine Run.ofH (by decide) (by decide) (Nat.le_of_ble_eq_true rfl) ?_
  show V g m_L_restore 0 _ [] _ _ _ _ _
  refine V_aload_n 1 dL_restore_0 rfl ?_
  refine V_iconst (v := 0) dL_restore_1 rfl ?_
  refine V_aload_n 0 dL_restore_2 rfl ?_
  refine V_callVH (mt := m_L_restore) (mc1 := 1) (ms1 := 6) (kc := 0) (ks := 0) hr h0 rfl rfl k_X8_restore s_X8_restore l_L_52 ⟨Nat.le_of_ble_eq_true rfl, Nat.le_of_ble_eq_true rfl⟩ rfl (Nat.le_of_ble_eq_true rfl) dL_restore_3 rfl (fun v1 M1 h => nomatch h.1) (fun E1 M1 h => ?_)
  obtain ⟨h1, h2⟩ := h
  cases h1
  cases h2
  refine VX_catch (mt := m_L_restore) [] (0, 8, 11, 21) [] (by decide) rfl (fun z hz => nomatch hz) (by decide) (by decide) cl_L_21 ca_2 (fun q => ?_)
  show V g m_L_restore 11 _ _ _ _ _ _ _
  refine V_astore_n (lv2 := [(2, .ref _), (0, .ref _), (1, .ref _)]) dL_restore_11 (Nat.le_of_ble_eq_true rfl) rfl ?_
  refine V_iconst (v := 1) dL_restore_12 rfl ?_
  refine V_iret (st := []) dL_restore_13 rfl ?_
  exact ⟨rfl, rfl⟩

set_option maxRecDepth 20000 in
theorem h_tableOf_ok {g : GE} {M : Mem} {sz : Nat} {p0 p1 p2 : Int32} {a : Int32} {P : Mem → Prop} {fs : List Value} (h0 : M 0 = some (eO 8 fs)) (hr : Run g m_X8_tableOf [rf g 0, .int p0, .int p1, .int p2] M sz 0 0 (RetP (some (.int a)) P)) (hP : ∀ M1, P M1 → ∃ o, M1 105 = some (eJ g 1 o)) : Run g m_L_tableOf [rf g 0, .int p0, .int p1, .int p2, rf g 105] M sz 1 6 (RetP (some (.int 0)) (fun M2 => ∃ M1 o, P M1 ∧ M1 105 = some (eJ g 1 o) ∧ M2 = mup M1 105 (eJ g 1 (vp_updL o 0 a.toInt64)))) := by
  refine Run.ofH (by decide) (by decide) (Nat.le_of_ble_eq_true rfl) ?_
  show V g m_L_tableOf 0 _ [] _ _ _ _ _
  refine V_aload 4 dL_tableOf_0 rfl ?_
  refine V_iconst (v := 0) dL_tableOf_2 rfl ?_
  refine V_aload_n 0 dL_tableOf_3 rfl ?_
  refine V_iload_n 1 dL_tableOf_4 rfl ?_
  refine V_iload_n 2 dL_tableOf_5 rfl ?_
  refine V_iload_n 3 dL_tableOf_6 rfl ?_
  refine V_callVH (mt := m_L_tableOf) (mc1 := 0) (ms1 := 0) (kc := 1) (ks := 6) hr h0 rfl rfl k_X8_tableOf s_X8_tableOf l_L_55 ⟨Nat.le_of_ble_eq_true rfl, Nat.le_of_ble_eq_true rfl⟩ rfl (Nat.le_of_ble_eq_true rfl) dL_tableOf_7 rfl (fun v1 M1 h => ?_) (fun E1 M1 h => nomatch h.1)
  obtain ⟨h1, h2⟩ := h
  cases h1
  obtain ⟨o, ho⟩ := hP M1 h2
  refine V_i2l dL_tableOf_10 ?_
  refine V_last ho (show vp_in (nI 0) 1 from vp_in_nI (by decide) (by decide)) dL_tableOf_11 ?_
  refine V_goto (tgt := 23) dL_tableOf_12 (by decide) ?_
  refine V_iconst (v := 0) dL_tableOf_23 rfl ?_
  refine V_iret (st := []) dL_tableOf_24 rfl ?_
  exact ⟨rfl, M1, o, h2, ho, rfl⟩

set_option maxRecDepth 20000 in
theorem h_tableOf_1 {g : GE} {M : Mem} {sz : Nat} {p0 p1 p2 : Int32} {fs : List Value} (h0 : M 0 = some (eO 8 fs)) (hr : Run g m_X8_tableOf [rf g 0, .int p0, .int p1, .int p2] M sz 1 6 (Thr (exN 0) M)) : Run g m_L_tableOf [rf g 0, .int p0, .int p1, .int p2, rf g 105] M sz 1 6 (Ret (some (.int 1)) M) := by
  refine Run.ofH (by decide) (by decide) (Nat.le_of_ble_eq_true rfl) ?_
  show V g m_L_tableOf 0 _ [] _ _ _ _ _
  refine V_aload 4 dL_tableOf_0 rfl ?_
  refine V_iconst (v := 0) dL_tableOf_2 rfl ?_
  refine V_aload_n 0 dL_tableOf_3 rfl ?_
  refine V_iload_n 1 dL_tableOf_4 rfl ?_
  refine V_iload_n 2 dL_tableOf_5 rfl ?_
  refine V_iload_n 3 dL_tableOf_6 rfl ?_
  refine V_callVH (mt := m_L_tableOf) (mc1 := 1) (ms1 := 6) (kc := 0) (ks := 0) hr h0 rfl rfl k_X8_tableOf s_X8_tableOf l_L_55 ⟨Nat.le_of_ble_eq_true rfl, Nat.le_of_ble_eq_true rfl⟩ rfl (Nat.le_of_ble_eq_true rfl) dL_tableOf_7 rfl (fun v1 M1 h => nomatch h.1) (fun E1 M1 h => ?_)
  obtain ⟨h1, h2⟩ := h
  cases h1
  cases h2
  refine VX_catch (mt := m_L_tableOf) [] (0, 12, 15, 13) [(0, 12, 19, 15)] (by decide) rfl (fun z hz => nomatch hz) (by decide) (by decide) cl_L_13 ca_0 (fun q => ?_)
  show V g m_L_tableOf 15 _ _ _ _ _ _ _
  refine V_astore (lv2 := [(5, .ref _), (0, .ref _), (1, .int _), (2, .int _), (3, .int _), (4, .ref _)]) dL_tableOf_15 (Nat.le_of_ble_eq_true rfl) rfl ?_
  refine V_iconst (v := 1) dL_tableOf_17 rfl ?_
  refine V_iret (st := []) dL_tableOf_18 rfl ?_
  exact ⟨rfl, rfl⟩

set_option maxRecDepth 20000 in
theorem h_tableOf_2 {g : GE} {M : Mem} {sz : Nat} {p0 p1 p2 : Int32} {fs : List Value} (h0 : M 0 = some (eO 8 fs)) (hr : Run g m_X8_tableOf [rf g 0, .int p0, .int p1, .int p2] M sz 1 6 (Thr (exN 1) M)) : Run g m_L_tableOf [rf g 0, .int p0, .int p1, .int p2, rf g 105] M sz 1 6 (Ret (some (.int 2)) M) := by
  refine Run.ofH (by decide) (by decide) (Nat.le_of_ble_eq_true rfl) ?_
  show V g m_L_tableOf 0 _ [] _ _ _ _ _
  refine V_aload 4 dL_tableOf_0 rfl ?_
  refine V_iconst (v := 0) dL_tableOf_2 rfl ?_
  refine V_aload_n 0 dL_tableOf_3 rfl ?_
  refine V_iload_n 1 dL_tableOf_4 rfl ?_
  refine V_iload_n 2 dL_tableOf_5 rfl ?_
  refine V_iload_n 3 dL_tableOf_6 rfl ?_
  refine V_callVH (mt := m_L_tableOf) (mc1 := 1) (ms1 := 6) (kc := 0) (ks := 0) hr h0 rfl rfl k_X8_tableOf s_X8_tableOf l_L_55 ⟨Nat.le_of_ble_eq_true rfl, Nat.le_of_ble_eq_true rfl⟩ rfl (Nat.le_of_ble_eq_true rfl) dL_tableOf_7 rfl (fun v1 M1 h => nomatch h.1) (fun E1 M1 h => ?_)
  obtain ⟨h1, h2⟩ := h
  cases h1
  cases h2
  refine VX_catch (mt := m_L_tableOf) [(0, 12, 15, 13)] (0, 12, 19, 15) [] (by decide) rfl (fun z hz => by rw [List.mem_singleton] at hz; subst hz; exact ⟨by decide, 0, by decide, by decide, cl_L_13⟩) (by decide) (by decide) cl_L_15 ca_1 (fun q => ?_)
  show V g m_L_tableOf 19 _ _ _ _ _ _ _
  refine V_astore (lv2 := [(5, .ref _), (0, .ref _), (1, .int _), (2, .int _), (3, .int _), (4, .ref _)]) dL_tableOf_19 (Nat.le_of_ble_eq_true rfl) rfl ?_
  refine V_iconst (v := 2) dL_tableOf_21 rfl ?_
  refine V_iret (st := []) dL_tableOf_22 rfl ?_
  exact ⟨rfl, rfl⟩

set_option maxRecDepth 20000 in
theorem h_ring_ok {g : GE} {M : Mem} {sz : Nat} {p0 p1 : Int32} {a : Int32} {P : Mem → Prop} {fs : List Value} (h0 : M 0 = some (eO 8 fs)) (hr : Run g m_X8_ring [rf g 0, .int p0, .int p1] M sz 0 0 (RetP (some (.int a)) P)) (hP : ∀ M1, P M1 → ∃ o, M1 105 = some (eJ g 1 o)) : Run g m_L_ring [rf g 0, .int p0, .int p1, rf g 105] M sz 1 6 (RetP (some (.int 0)) (fun M2 => ∃ M1 o, P M1 ∧ M1 105 = some (eJ g 1 o) ∧ M2 = mup M1 105 (eJ g 1 (vp_updL o 0 a.toInt64)))) := by
  refine Run.ofH (by decide) (by decide) (Nat.le_of_ble_eq_true rfl) ?_
  show V g m_L_ring 0 _ [] _ _ _ _ _
  refine V_aload_n 3 dL_ring_0 rfl ?_
  refine V_iconst (v := 0) dL_ring_1 rfl ?_
  refine V_aload_n 0 dL_ring_2 rfl ?_
  refine V_iload_n 1 dL_ring_3 rfl ?_
  refine V_iload_n 2 dL_ring_4 rfl ?_
  refine V_callVH (mt := m_L_ring) (mc1 := 0) (ms1 := 0) (kc := 1) (ks := 6) hr h0 rfl rfl k_X8_ring s_X8_ring l_L_59 ⟨Nat.le_of_ble_eq_true rfl, Nat.le_of_ble_eq_true rfl⟩ rfl (Nat.le_of_ble_eq_true rfl) dL_ring_5 rfl (fun v1 M1 h => ?_) (fun E1 M1 h => nomatch h.1)
  obtain ⟨h1, h2⟩ := h
  cases h1
  obtain ⟨o, ho⟩ := hP M1 h2
  refine V_i2l dL_ring_8 ?_
  refine V_last ho (show vp_in (nI 0) 1 from vp_in_nI (by decide) (by decide)) dL_ring_9 ?_
  refine V_goto (tgt := 17) dL_ring_10 (by decide) ?_
  refine V_iconst (v := 0) dL_ring_17 rfl ?_
  refine V_iret (st := []) dL_ring_18 rfl ?_
  exact ⟨rfl, M1, o, h2, ho, rfl⟩

set_option maxRecDepth 20000 in
theorem h_ring_1 {g : GE} {M : Mem} {sz : Nat} {p0 p1 : Int32} {fs : List Value} (h0 : M 0 = some (eO 8 fs)) (hr : Run g m_X8_ring [rf g 0, .int p0, .int p1] M sz 1 6 (Thr (exN 1) M)) : Run g m_L_ring [rf g 0, .int p0, .int p1, rf g 105] M sz 1 6 (Ret (some (.int 1)) M) := by
  refine Run.ofH (by decide) (by decide) (Nat.le_of_ble_eq_true rfl) ?_
  show V g m_L_ring 0 _ [] _ _ _ _ _
  refine V_aload_n 3 dL_ring_0 rfl ?_
  refine V_iconst (v := 0) dL_ring_1 rfl ?_
  refine V_aload_n 0 dL_ring_2 rfl ?_
  refine V_iload_n 1 dL_ring_3 rfl ?_
  refine V_iload_n 2 dL_ring_4 rfl ?_
  refine V_callVH (mt := m_L_ring) (mc1 := 1) (ms1 := 6) (kc := 0) (ks := 0) hr h0 rfl rfl k_X8_ring s_X8_ring l_L_59 ⟨Nat.le_of_ble_eq_true rfl, Nat.le_of_ble_eq_true rfl⟩ rfl (Nat.le_of_ble_eq_true rfl) dL_ring_5 rfl (fun v1 M1 h => nomatch h.1) (fun E1 M1 h => ?_)
  obtain ⟨h1, h2⟩ := h
  cases h1
  cases h2
  refine VX_catch (mt := m_L_ring) [] (0, 10, 13, 15) [] (by decide) rfl (fun z hz => nomatch hz) (by decide) (by decide) cl_L_15 ca_1 (fun q => ?_)
  show V g m_L_ring 13 _ _ _ _ _ _ _
  refine V_astore (lv2 := [(4, .ref _), (0, .ref _), (1, .int _), (2, .int _), (3, .ref _)]) dL_ring_13 (Nat.le_of_ble_eq_true rfl) rfl ?_
  refine V_iconst (v := 1) dL_ring_15 rfl ?_
  refine V_iret (st := []) dL_ring_16 rfl ?_
  exact ⟨rfl, rfl⟩

set_option maxRecDepth 20000 in
theorem h_boltOf_ok {g : GE} {M : Mem} {sz : Nat} {p0 p1 : Int32} {a : Int32} {P : Mem → Prop} {fs : List Value} (h0 : M 0 = some (eO 8 fs)) (hr : Run g m_X8_boltOf [rf g 0, .int p0, .int p1] M sz 0 0 (RetP (some (.int a)) P)) (hP : ∀ M1, P M1 → ∃ o, M1 105 = some (eJ g 1 o)) : Run g m_L_boltOf [rf g 0, .int p0, .int p1, rf g 105] M sz 1 6 (RetP (some (.int 0)) (fun M2 => ∃ M1 o, P M1 ∧ M1 105 = some (eJ g 1 o) ∧ M2 = mup M1 105 (eJ g 1 (vp_updL o 0 a.toInt64)))) := by
  refine Run.ofH (by decide) (by decide) (Nat.le_of_ble_eq_true rfl) ?_
  show V g m_L_boltOf 0 _ [] _ _ _ _ _
  refine V_aload_n 3 dL_boltOf_0 rfl ?_
  refine V_iconst (v := 0) dL_boltOf_1 rfl ?_
  refine V_aload_n 0 dL_boltOf_2 rfl ?_
  refine V_iload_n 1 dL_boltOf_3 rfl ?_
  refine V_iload_n 2 dL_boltOf_4 rfl ?_
  refine V_callVH (mt := m_L_boltOf) (mc1 := 0) (ms1 := 0) (kc := 1) (ks := 6) hr h0 rfl rfl k_X8_boltOf s_X8_boltOf l_L_62 ⟨Nat.le_of_ble_eq_true rfl, Nat.le_of_ble_eq_true rfl⟩ rfl (Nat.le_of_ble_eq_true rfl) dL_boltOf_5 rfl (fun v1 M1 h => ?_) (fun E1 M1 h => nomatch h.1)
  obtain ⟨h1, h2⟩ := h
  cases h1
  obtain ⟨o, ho⟩ := hP M1 h2
  refine V_i2l dL_boltOf_8 ?_
  refine V_last ho (show vp_in (nI 0) 1 from vp_in_nI (by decide) (by decide)) dL_boltOf_9 ?_
  refine V_goto (tgt := 21) dL_boltOf_10 (by decide) ?_
  refine V_iconst (v := 0) dL_boltOf_21 rfl ?_
  refine V_iret (st := []) dL_boltOf_22 rfl ?_
  exact ⟨rfl, M1, o, h2, ho, rfl⟩

set_option maxRecDepth 20000 in
theorem h_boltOf_1 {g : GE} {M : Mem} {sz : Nat} {p0 p1 : Int32} {fs : List Value} (h0 : M 0 = some (eO 8 fs)) (hr : Run g m_X8_boltOf [rf g 0, .int p0, .int p1] M sz 1 6 (Thr (exN 0) M)) : Run g m_L_boltOf [rf g 0, .int p0, .int p1, rf g 105] M sz 1 6 (Ret (some (.int 1)) M) := by
  refine Run.ofH (by decide) (by decide) (Nat.le_of_ble_eq_true rfl) ?_
  show V g m_L_boltOf 0 _ [] _ _ _ _ _
  refine V_aload_n 3 dL_boltOf_0 rfl ?_
  refine V_iconst (v := 0) dL_boltOf_1 rfl ?_
  refine V_aload_n 0 dL_boltOf_2 rfl ?_
  refine V_iload_n 1 dL_boltOf_3 rfl ?_
  refine V_iload_n 2 dL_boltOf_4 rfl ?_
  refine V_callVH (mt := m_L_boltOf) (mc1 := 1) (ms1 := 6) (kc := 0) (ks := 0) hr h0 rfl rfl k_X8_boltOf s_X8_boltOf l_L_62 ⟨Nat.le_of_ble_eq_true rfl, Nat.le_of_ble_eq_true rfl⟩ rfl (Nat.le_of_ble_eq_true rfl) dL_boltOf_5 rfl (fun v1 M1 h => nomatch h.1) (fun E1 M1 h => ?_)
  obtain ⟨h1, h2⟩ := h
  cases h1
  cases h2
  refine VX_catch (mt := m_L_boltOf) [] (0, 10, 13, 13) [(0, 10, 17, 15)] (by decide) rfl (fun z hz => nomatch hz) (by decide) (by decide) cl_L_13 ca_0 (fun q => ?_)
  show V g m_L_boltOf 13 _ _ _ _ _ _ _
  refine V_astore (lv2 := [(4, .ref _), (0, .ref _), (1, .int _), (2, .int _), (3, .ref _)]) dL_boltOf_13 (Nat.le_of_ble_eq_true rfl) rfl ?_
  refine V_iconst (v := 1) dL_boltOf_15 rfl ?_
  refine V_iret (st := []) dL_boltOf_16 rfl ?_
  exact ⟨rfl, rfl⟩

set_option maxRecDepth 20000 in
theorem h_boltOf_2 {g : GE} {M : Mem} {sz : Nat} {p0 p1 : Int32} {fs : List Value} (h0 : M 0 = some (eO 8 fs)) (hr : Run g m_X8_boltOf [rf g 0, .int p0, .int p1] M sz 1 6 (Thr (exN 1) M)) : Run g m_L_boltOf [rf g 0, .int p0, .int p1, rf g 105] M sz 1 6 (Ret (some (.int 2)) M) := by
  refine Run.ofH (by decide) (by decide) (Nat.le_of_ble_eq_true rfl) ?_
  show V g m_L_boltOf 0 _ [] _ _ _ _ _
  refine V_aload_n 3 dL_boltOf_0 rfl ?_
  refine V_iconst (v := 0) dL_boltOf_1 rfl ?_
  refine V_aload_n 0 dL_boltOf_2 rfl ?_
  refine V_iload_n 1 dL_boltOf_3 rfl ?_
  refine V_iload_n 2 dL_boltOf_4 rfl ?_
  refine V_callVH (mt := m_L_boltOf) (mc1 := 1) (ms1 := 6) (kc := 0) (ks := 0) hr h0 rfl rfl k_X8_boltOf s_X8_boltOf l_L_62 ⟨Nat.le_of_ble_eq_true rfl, Nat.le_of_ble_eq_true rfl⟩ rfl (Nat.le_of_ble_eq_true rfl) dL_boltOf_5 rfl (fun v1 M1 h => nomatch h.1) (fun E1 M1 h => ?_)
  obtain ⟨h1, h2⟩ := h
  cases h1
  cases h2
  refine VX_catch (mt := m_L_boltOf) [(0, 10, 13, 13)] (0, 10, 17, 15) [] (by decide) rfl (fun z hz => by rw [List.mem_singleton] at hz; subst hz; exact ⟨by decide, 0, by decide, by decide, cl_L_13⟩) (by decide) (by decide) cl_L_15 ca_1 (fun q => ?_)
  show V g m_L_boltOf 17 _ _ _ _ _ _ _
  refine V_astore (lv2 := [(4, .ref _), (0, .ref _), (1, .int _), (2, .int _), (3, .ref _)]) dL_boltOf_17 (Nat.le_of_ble_eq_true rfl) rfl ?_
  refine V_iconst (v := 2) dL_boltOf_19 rfl ?_
  refine V_iret (st := []) dL_boltOf_20 rfl ?_
  exact ⟨rfl, rfl⟩

set_option maxRecDepth 20000 in
theorem h_count_ok {g : GE} {M : Mem} {sz : Nat} {p0 : Int32} {a : Int32} {P : Mem → Prop} {fs : List Value} (h0 : M 0 = some (eO 8 fs)) (hr : Run g m_X8_count [rf g 0, .int p0] M sz 0 0 (RetP (some (.int a)) P)) (hP : ∀ M1, P M1 → ∃ o, M1 105 = some (eJ g 1 o)) : Run g m_L_count [rf g 0, .int p0, rf g 105] M sz 1 6 (RetP (some (.int 0)) (fun M2 => ∃ M1 o, P M1 ∧ M1 105 = some (eJ g 1 o) ∧ M2 = mup M1 105 (eJ g 1 (vp_updL o 0 a.toInt64)))) := by
  refine Run.ofH (by decide) (by decide) (Nat.le_of_ble_eq_true rfl) ?_
  show V g m_L_count 0 _ [] _ _ _ _ _
  refine V_aload_n 2 dL_count_0 rfl ?_
  refine V_iconst (v := 0) dL_count_1 rfl ?_
  refine V_aload_n 0 dL_count_2 rfl ?_
  refine V_iload_n 1 dL_count_3 rfl ?_
  refine V_callVH (mt := m_L_count) (mc1 := 0) (ms1 := 0) (kc := 1) (ks := 6) hr h0 rfl rfl k_X8_count s_X8_count l_L_65 ⟨Nat.le_of_ble_eq_true rfl, Nat.le_of_ble_eq_true rfl⟩ rfl (Nat.le_of_ble_eq_true rfl) dL_count_4 rfl (fun v1 M1 h => ?_) (fun E1 M1 h => nomatch h.1)
  obtain ⟨h1, h2⟩ := h
  cases h1
  obtain ⟨o, ho⟩ := hP M1 h2
  refine V_i2l dL_count_7 ?_
  refine V_last ho (show vp_in (nI 0) 1 from vp_in_nI (by decide) (by decide)) dL_count_8 ?_
  refine V_goto (tgt := 15) dL_count_9 (by decide) ?_
  refine V_iconst (v := 0) dL_count_15 rfl ?_
  refine V_iret (st := []) dL_count_16 rfl ?_
  exact ⟨rfl, M1, o, h2, ho, rfl⟩

set_option maxRecDepth 20000 in
theorem h_count_1 {g : GE} {M : Mem} {sz : Nat} {p0 : Int32} {fs : List Value} (h0 : M 0 = some (eO 8 fs)) (hr : Run g m_X8_count [rf g 0, .int p0] M sz 1 6 (Thr (exN 1) M)) : Run g m_L_count [rf g 0, .int p0, rf g 105] M sz 1 6 (Ret (some (.int 1)) M) := by
  refine Run.ofH (by decide) (by decide) (Nat.le_of_ble_eq_true rfl) ?_
  show V g m_L_count 0 _ [] _ _ _ _ _
  refine V_aload_n 2 dL_count_0 rfl ?_
  refine V_iconst (v := 0) dL_count_1 rfl ?_
  refine V_aload_n 0 dL_count_2 rfl ?_
  refine V_iload_n 1 dL_count_3 rfl ?_
  refine V_callVH (mt := m_L_count) (mc1 := 1) (ms1 := 6) (kc := 0) (ks := 0) hr h0 rfl rfl k_X8_count s_X8_count l_L_65 ⟨Nat.le_of_ble_eq_true rfl, Nat.le_of_ble_eq_true rfl⟩ rfl (Nat.le_of_ble_eq_true rfl) dL_count_4 rfl (fun v1 M1 h => nomatch h.1) (fun E1 M1 h => ?_)
  obtain ⟨h1, h2⟩ := h
  cases h1
  cases h2
  refine VX_catch (mt := m_L_count) [] (0, 9, 12, 15) [] (by decide) rfl (fun z hz => nomatch hz) (by decide) (by decide) cl_L_15 ca_1 (fun q => ?_)
  show V g m_L_count 12 _ _ _ _ _ _ _
  refine V_astore_n (lv2 := [(3, .ref _), (0, .ref _), (1, .int _), (2, .ref _)]) dL_count_12 (Nat.le_of_ble_eq_true rfl) rfl ?_
  refine V_iconst (v := 1) dL_count_13 rfl ?_
  refine V_iret (st := []) dL_count_14 rfl ?_
  exact ⟨rfl, rfl⟩

set_option maxRecDepth 20000 in
theorem h_offBy_ok {g : GE} {M : Mem} {sz : Nat} {p0 p1 p2 p3 : Int32} {a : Int32} {P : Mem → Prop} {fs : List Value} (h0 : M 0 = some (eO 8 fs)) (hr : Run g m_X8_offBy [rf g 0, .int p0, .int p1, .int p2, .int p3] M sz 0 0 (RetP (some (.int a)) P)) (hP : ∀ M1, P M1 → ∃ o, M1 105 = some (eJ g 1 o)) : Run g m_L_offBy [rf g 0, .int p0, .int p1, .int p2, .int p3, rf g 105] M sz 1 6 (RetP (some (.int 0)) (fun M2 => ∃ M1 o, P M1 ∧ M1 105 = some (eJ g 1 o) ∧ M2 = mup M1 105 (eJ g 1 (vp_updL o 0 a.toInt64)))) := by
  refine Run.ofH (by decide) (by decide) (Nat.le_of_ble_eq_true rfl) ?_
  show V g m_L_offBy 0 _ [] _ _ _ _ _
  refine V_aload 5 dL_offBy_0 rfl ?_
  refine V_iconst (v := 0) dL_offBy_2 rfl ?_
  refine V_aload_n 0 dL_offBy_3 rfl ?_
  refine V_iload_n 1 dL_offBy_4 rfl ?_
  refine V_iload_n 2 dL_offBy_5 rfl ?_
  refine V_iload_n 3 dL_offBy_6 rfl ?_
  refine V_iload 4 dL_offBy_7 rfl ?_
  refine V_callVH (mt := m_L_offBy) (mc1 := 0) (ms1 := 0) (kc := 1) (ks := 6) hr h0 rfl rfl k_X8_offBy s_X8_offBy l_L_68 ⟨Nat.le_of_ble_eq_true rfl, Nat.le_of_ble_eq_true rfl⟩ rfl (Nat.le_of_ble_eq_true rfl) dL_offBy_9 rfl (fun v1 M1 h => ?_) (fun E1 M1 h => nomatch h.1)
  obtain ⟨h1, h2⟩ := h
  cases h1
  obtain ⟨o, ho⟩ := hP M1 h2
  refine V_i2l dL_offBy_12 ?_
  refine V_last ho (show vp_in (nI 0) 1 from vp_in_nI (by decide) (by decide)) dL_offBy_13 ?_
  refine V_goto (tgt := 25) dL_offBy_14 (by decide) ?_
  refine V_iconst (v := 0) dL_offBy_25 rfl ?_
  refine V_iret (st := []) dL_offBy_26 rfl ?_
  exact ⟨rfl, M1, o, h2, ho, rfl⟩

set_option maxRecDepth 20000 in
theorem h_offBy_1 {g : GE} {M : Mem} {sz : Nat} {p0 p1 p2 p3 : Int32} {fs : List Value} (h0 : M 0 = some (eO 8 fs)) (hr : Run g m_X8_offBy [rf g 0, .int p0, .int p1, .int p2, .int p3] M sz 1 6 (Thr (exN 0) M)) : Run g m_L_offBy [rf g 0, .int p0, .int p1, .int p2, .int p3, rf g 105] M sz 1 6 (Ret (some (.int 1)) M) := by
  refine Run.ofH (by decide) (by decide) (Nat.le_of_ble_eq_true rfl) ?_
  show V g m_L_offBy 0 _ [] _ _ _ _ _
  refine V_aload 5 dL_offBy_0 rfl ?_
  refine V_iconst (v := 0) dL_offBy_2 rfl ?_
  refine V_aload_n 0 dL_offBy_3 rfl ?_
  refine V_iload_n 1 dL_offBy_4 rfl ?_
  refine V_iload_n 2 dL_offBy_5 rfl ?_
  refine V_iload_n 3 dL_offBy_6 rfl ?_
  refine V_iload 4 dL_offBy_7 rfl ?_
  refine V_callVH (mt := m_L_offBy) (mc1 := 1) (ms1 := 6) (kc := 0) (ks := 0) hr h0 rfl rfl k_X8_offBy s_X8_offBy l_L_68 ⟨Nat.le_of_ble_eq_true rfl, Nat.le_of_ble_eq_true rfl⟩ rfl (Nat.le_of_ble_eq_true rfl) dL_offBy_9 rfl (fun v1 M1 h => nomatch h.1) (fun E1 M1 h => ?_)
  obtain ⟨h1, h2⟩ := h
  cases h1
  cases h2
  refine VX_catch (mt := m_L_offBy) [] (0, 14, 17, 13) [(0, 14, 21, 15)] (by decide) rfl (fun z hz => nomatch hz) (by decide) (by decide) cl_L_13 ca_0 (fun q => ?_)
  show V g m_L_offBy 17 _ _ _ _ _ _ _
  refine V_astore (lv2 := [(6, .ref _), (0, .ref _), (1, .int _), (2, .int _), (3, .int _), (4, .int _), (5, .ref _)]) dL_offBy_17 (Nat.le_of_ble_eq_true rfl) rfl ?_
  refine V_iconst (v := 1) dL_offBy_19 rfl ?_
  refine V_iret (st := []) dL_offBy_20 rfl ?_
  exact ⟨rfl, rfl⟩

set_option maxRecDepth 20000 in
theorem h_offBy_2 {g : GE} {M : Mem} {sz : Nat} {p0 p1 p2 p3 : Int32} {fs : List Value} (h0 : M 0 = some (eO 8 fs)) (hr : Run g m_X8_offBy [rf g 0, .int p0, .int p1, .int p2, .int p3] M sz 1 6 (Thr (exN 1) M)) : Run g m_L_offBy [rf g 0, .int p0, .int p1, .int p2, .int p3, rf g 105] M sz 1 6 (Ret (some (.int 2)) M) := by
  refine Run.ofH (by decide) (by decide) (Nat.le_of_ble_eq_true rfl) ?_
  show V g m_L_offBy 0 _ [] _ _ _ _ _
  refine V_aload 5 dL_offBy_0 rfl ?_
  refine V_iconst (v := 0) dL_offBy_2 rfl ?_
  refine V_aload_n 0 dL_offBy_3 rfl ?_
  refine V_iload_n 1 dL_offBy_4 rfl ?_
  refine V_iload_n 2 dL_offBy_5 rfl ?_
  refine V_iload_n 3 dL_offBy_6 rfl ?_
  refine V_iload 4 dL_offBy_7 rfl ?_
  refine V_callVH (mt := m_L_offBy) (mc1 := 1) (ms1 := 6) (kc := 0) (ks := 0) hr h0 rfl rfl k_X8_offBy s_X8_offBy l_L_68 ⟨Nat.le_of_ble_eq_true rfl, Nat.le_of_ble_eq_true rfl⟩ rfl (Nat.le_of_ble_eq_true rfl) dL_offBy_9 rfl (fun v1 M1 h => nomatch h.1) (fun E1 M1 h => ?_)
  obtain ⟨h1, h2⟩ := h
  cases h1
  cases h2
  refine VX_catch (mt := m_L_offBy) [(0, 14, 17, 13)] (0, 14, 21, 15) [] (by decide) rfl (fun z hz => by rw [List.mem_singleton] at hz; subst hz; exact ⟨by decide, 0, by decide, by decide, cl_L_13⟩) (by decide) (by decide) cl_L_15 ca_1 (fun q => ?_)
  show V g m_L_offBy 21 _ _ _ _ _ _ _
  refine V_astore (lv2 := [(6, .ref _), (0, .ref _), (1, .int _), (2, .int _), (3, .int _), (4, .int _), (5, .ref _)]) dL_offBy_21 (Nat.le_of_ble_eq_true rfl) rfl ?_
  refine V_iconst (v := 2) dL_offBy_23 rfl ?_
  refine V_iret (st := []) dL_offBy_24 rfl ?_
  exact ⟨rfl, rfl⟩

set_option maxRecDepth 20000 in
theorem h_turned_ok {g : GE} {M : Mem} {sz : Nat} {p0 p1 p2 : Int32} {a : Int32} {P : Mem → Prop} {fs : List Value} (h0 : M 0 = some (eO 8 fs)) (hr : Run g m_X8_turned [rf g 0, .int p0, .int p1, .int p2] M sz 0 0 (RetP (some (.int a)) P)) (hP : ∀ M1, P M1 → ∃ o, M1 105 = some (eJ g 1 o)) : Run g m_L_turned [rf g 0, .int p0, .int p1, .int p2, rf g 105] M sz 1 6 (RetP (some (.int 0)) (fun M2 => ∃ M1 o, P M1 ∧ M1 105 = some (eJ g 1 o) ∧ M2 = mup M1 105 (eJ g 1 (vp_updL o 0 a.toInt64)))) := by
  refine Run.ofH (by decide) (by decide) (Nat.le_of_ble_eq_true rfl) ?_
  show V g m_L_turned 0 _ [] _ _ _ _ _
  refine V_aload 4 dL_turned_0 rfl ?_
  refine V_iconst (v := 0) dL_turned_2 rfl ?_
  refine V_aload_n 0 dL_turned_3 rfl ?_
  refine V_iload_n 1 dL_turned_4 rfl ?_
  refine V_iload_n 2 dL_turned_5 rfl ?_
  refine V_iload_n 3 dL_turned_6 rfl ?_
  refine V_callVH (mt := m_L_turned) (mc1 := 0) (ms1 := 0) (kc := 1) (ks := 6) hr h0 rfl rfl k_X8_turned s_X8_turned l_L_71 ⟨Nat.le_of_ble_eq_true rfl, Nat.le_of_ble_eq_true rfl⟩ rfl (Nat.le_of_ble_eq_true rfl) dL_turned_7 rfl (fun v1 M1 h => ?_) (fun E1 M1 h => nomatch h.1)
  obtain ⟨h1, h2⟩ := h
  cases h1
  obtain ⟨o, ho⟩ := hP M1 h2
  refine V_i2l dL_turned_10 ?_
  refine V_last ho (show vp_in (nI 0) 1 from vp_in_nI (by decide) (by decide)) dL_turned_11 ?_
  refine V_goto (tgt := 23) dL_turned_12 (by decide) ?_
  refine V_iconst (v := 0) dL_turned_23 rfl ?_
  refine V_iret (st := []) dL_turned_24 rfl ?_
  exact ⟨rfl, M1, o, h2, ho, rfl⟩

set_option maxRecDepth 20000 in
theorem h_turned_1 {g : GE} {M : Mem} {sz : Nat} {p0 p1 p2 : Int32} {fs : List Value} (h0 : M 0 = some (eO 8 fs)) (hr : Run g m_X8_turned [rf g 0, .int p0, .int p1, .int p2] M sz 1 6 (Thr (exN 0) M)) : Run g m_L_turned [rf g 0, .int p0, .int p1, .int p2, rf g 105] M sz 1 6 (Ret (some (.int 1)) M) := by
  refine Run.ofH (by decide) (by decide) (Nat.le_of_ble_eq_true rfl) ?_
  show V g m_L_turned 0 _ [] _ _ _ _ _
  refine V_aload 4 dL_turned_0 rfl ?_
  refine V_iconst (v := 0) dL_turned_2 rfl ?_
  refine V_aload_n 0 dL_turned_3 rfl ?_
  refine V_iload_n 1 dL_turned_4 rfl ?_
  refine V_iload_n 2 dL_turned_5 rfl ?_
  refine V_iload_n 3 dL_turned_6 rfl ?_
  refine V_callVH (mt := m_L_turned) (mc1 := 1) (ms1 := 6) (kc := 0) (ks := 0) hr h0 rfl rfl k_X8_turned s_X8_turned l_L_71 ⟨Nat.le_of_ble_eq_true rfl, Nat.le_of_ble_eq_true rfl⟩ rfl (Nat.le_of_ble_eq_true rfl) dL_turned_7 rfl (fun v1 M1 h => nomatch h.1) (fun E1 M1 h => ?_)
  obtain ⟨h1, h2⟩ := h
  cases h1
  cases h2
  refine VX_catch (mt := m_L_turned) [] (0, 12, 15, 13) [(0, 12, 19, 15)] (by decide) rfl (fun z hz => nomatch hz) (by decide) (by decide) cl_L_13 ca_0 (fun q => ?_)
  show V g m_L_turned 15 _ _ _ _ _ _ _
  refine V_astore (lv2 := [(5, .ref _), (0, .ref _), (1, .int _), (2, .int _), (3, .int _), (4, .ref _)]) dL_turned_15 (Nat.le_of_ble_eq_true rfl) rfl ?_
  refine V_iconst (v := 1) dL_turned_17 rfl ?_
  refine V_iret (st := []) dL_turned_18 rfl ?_
  exact ⟨rfl, rfl⟩

set_option maxRecDepth 20000 in
theorem h_turned_2 {g : GE} {M : Mem} {sz : Nat} {p0 p1 p2 : Int32} {fs : List Value} (h0 : M 0 = some (eO 8 fs)) (hr : Run g m_X8_turned [rf g 0, .int p0, .int p1, .int p2] M sz 1 6 (Thr (exN 1) M)) : Run g m_L_turned [rf g 0, .int p0, .int p1, .int p2, rf g 105] M sz 1 6 (Ret (some (.int 2)) M) := by
  refine Run.ofH (by decide) (by decide) (Nat.le_of_ble_eq_true rfl) ?_
  show V g m_L_turned 0 _ [] _ _ _ _ _
  refine V_aload 4 dL_turned_0 rfl ?_
  refine V_iconst (v := 0) dL_turned_2 rfl ?_
  refine V_aload_n 0 dL_turned_3 rfl ?_
  refine V_iload_n 1 dL_turned_4 rfl ?_
  refine V_iload_n 2 dL_turned_5 rfl ?_
  refine V_iload_n 3 dL_turned_6 rfl ?_
  refine V_callVH (mt := m_L_turned) (mc1 := 1) (ms1 := 6) (kc := 0) (ks := 0) hr h0 rfl rfl k_X8_turned s_X8_turned l_L_71 ⟨Nat.le_of_ble_eq_true rfl, Nat.le_of_ble_eq_true rfl⟩ rfl (Nat.le_of_ble_eq_true rfl) dL_turned_7 rfl (fun v1 M1 h => nomatch h.1) (fun E1 M1 h => ?_)
  obtain ⟨h1, h2⟩ := h
  cases h1
  cases h2
  refine VX_catch (mt := m_L_turned) [(0, 12, 15, 13)] (0, 12, 19, 15) [] (by decide) rfl (fun z hz => by rw [List.mem_singleton] at hz; subst hz; exact ⟨by decide, 0, by decide, by decide, cl_L_13⟩) (by decide) (by decide) cl_L_15 ca_1 (fun q => ?_)
  show V g m_L_turned 19 _ _ _ _ _ _ _
  refine V_astore (lv2 := [(5, .ref _), (0, .ref _), (1, .int _), (2, .int _), (3, .int _), (4, .ref _)]) dL_turned_19 (Nat.le_of_ble_eq_true rfl) rfl ?_
  refine V_iconst (v := 2) dL_turned_21 rfl ?_
  refine V_iret (st := []) dL_turned_22 rfl ?_
  exact ⟨rfl, rfl⟩

set_option maxRecDepth 20000 in
theorem h_bestWay_ok {g : GE} {M : Mem} {sz : Nat} {p0 p1 p2 : Int32} {a : Int32} {P : Mem → Prop} {fs : List Value} (h0 : M 0 = some (eO 8 fs)) (hr : Run g m_X8_bestWay [rf g 0, .int p0, .int p1, .int p2] M sz 0 0 (RetP (some (.int a)) P)) (hP : ∀ M1, P M1 → ∃ o, M1 105 = some (eJ g 1 o)) : Run g m_L_bestWay [rf g 0, .int p0, .int p1, .int p2, rf g 105] M sz 1 6 (RetP (some (.int 0)) (fun M2 => ∃ M1 o, P M1 ∧ M1 105 = some (eJ g 1 o) ∧ M2 = mup M1 105 (eJ g 1 (vp_updL o 0 a.toInt64)))) := by
  refine Run.ofH (by decide) (by decide) (Nat.le_of_ble_eq_true rfl) ?_
  show V g m_L_bestWay 0 _ [] _ _ _ _ _
  refine V_aload 4 dL_bestWay_0 rfl ?_
  refine V_iconst (v := 0) dL_bestWay_2 rfl ?_
  refine V_aload_n 0 dL_bestWay_3 rfl ?_
  refine V_iload_n 1 dL_bestWay_4 rfl ?_
  refine V_iload_n 2 dL_bestWay_5 rfl ?_
  refine V_iload_n 3 dL_bestWay_6 rfl ?_
  refine V_callVH (mt := m_L_bestWay) (mc1 := 0) (ms1 := 0) (kc := 1) (ks := 6) hr h0 rfl rfl k_X8_bestWay s_X8_bestWay l_L_74 ⟨Nat.le_of_ble_eq_true rfl, Nat.le_of_ble_eq_true rfl⟩ rfl (Nat.le_of_ble_eq_true rfl) dL_bestWay_7 rfl (fun v1 M1 h => ?_) (fun E1 M1 h => nomatch h.1)
  obtain ⟨h1, h2⟩ := h
  cases h1
  obtain ⟨o, ho⟩ := hP M1 h2
  refine V_i2l dL_bestWay_10 ?_
  refine V_last ho (show vp_in (nI 0) 1 from vp_in_nI (by decide) (by decide)) dL_bestWay_11 ?_
  refine V_goto (tgt := 23) dL_bestWay_12 (by decide) ?_
  refine V_iconst (v := 0) dL_bestWay_23 rfl ?_
  refine V_iret (st := []) dL_bestWay_24 rfl ?_
  exact ⟨rfl, M1, o, h2, ho, rfl⟩

set_option maxRecDepth 20000 in
theorem h_bestWay_1 {g : GE} {M : Mem} {sz : Nat} {p0 p1 p2 : Int32} {fs : List Value} (h0 : M 0 = some (eO 8 fs)) (hr : Run g m_X8_bestWay [rf g 0, .int p0, .int p1, .int p2] M sz 1 6 (Thr (exN 0) M)) : Run g m_L_bestWay [rf g 0, .int p0, .int p1, .int p2, rf g 105] M sz 1 6 (Ret (some (.int 1)) M) := by
  refine Run.ofH (by decide) (by decide) (Nat.le_of_ble_eq_true rfl) ?_
  show V g m_L_bestWay 0 _ [] _ _ _ _ _
  refine V_aload 4 dL_bestWay_0 rfl ?_
  refine V_iconst (v := 0) dL_bestWay_2 rfl ?_
  refine V_aload_n 0 dL_bestWay_3 rfl ?_
  refine V_iload_n 1 dL_bestWay_4 rfl ?_
  refine V_iload_n 2 dL_bestWay_5 rfl ?_
  refine V_iload_n 3 dL_bestWay_6 rfl ?_
  refine V_callVH (mt := m_L_bestWay) (mc1 := 1) (ms1 := 6) (kc := 0) (ks := 0) hr h0 rfl rfl k_X8_bestWay s_X8_bestWay l_L_74 ⟨Nat.le_of_ble_eq_true rfl, Nat.le_of_ble_eq_true rfl⟩ rfl (Nat.le_of_ble_eq_true rfl) dL_bestWay_7 rfl (fun v1 M1 h => nomatch h.1) (fun E1 M1 h => ?_)
  obtain ⟨h1, h2⟩ := h
  cases h1
  cases h2
  refine VX_catch (mt := m_L_bestWay) [] (0, 12, 15, 13) [(0, 12, 19, 15)] (by decide) rfl (fun z hz => nomatch hz) (by decide) (by decide) cl_L_13 ca_0 (fun q => ?_)
  show V g m_L_bestWay 15 _ _ _ _ _ _ _
  refine V_astore (lv2 := [(5, .ref _), (0, .ref _), (1, .int _), (2, .int _), (3, .int _), (4, .ref _)]) dL_bestWay_15 (Nat.le_of_ble_eq_true rfl) rfl ?_
  refine V_iconst (v := 1) dL_bestWay_17 rfl ?_
  refine V_iret (st := []) dL_bestWay_18 rfl ?_
  exact ⟨rfl, rfl⟩

set_option maxRecDepth 20000 in
theorem h_bestWay_2 {g : GE} {M : Mem} {sz : Nat} {p0 p1 p2 : Int32} {fs : List Value} (h0 : M 0 = some (eO 8 fs)) (hr : Run g m_X8_bestWay [rf g 0, .int p0, .int p1, .int p2] M sz 1 6 (Thr (exN 1) M)) : Run g m_L_bestWay [rf g 0, .int p0, .int p1, .int p2, rf g 105] M sz 1 6 (Ret (some (.int 2)) M) := by
  refine Run.ofH (by decide) (by decide) (Nat.le_of_ble_eq_true rfl) ?_
  show V g m_L_bestWay 0 _ [] _ _ _ _ _
  refine V_aload 4 dL_bestWay_0 rfl ?_
  refine V_iconst (v := 0) dL_bestWay_2 rfl ?_
  refine V_aload_n 0 dL_bestWay_3 rfl ?_
  refine V_iload_n 1 dL_bestWay_4 rfl ?_
  refine V_iload_n 2 dL_bestWay_5 rfl ?_
  refine V_iload_n 3 dL_bestWay_6 rfl ?_
  refine V_callVH (mt := m_L_bestWay) (mc1 := 1) (ms1 := 6) (kc := 0) (ks := 0) hr h0 rfl rfl k_X8_bestWay s_X8_bestWay l_L_74 ⟨Nat.le_of_ble_eq_true rfl, Nat.le_of_ble_eq_true rfl⟩ rfl (Nat.le_of_ble_eq_true rfl) dL_bestWay_7 rfl (fun v1 M1 h => nomatch h.1) (fun E1 M1 h => ?_)
  obtain ⟨h1, h2⟩ := h
  cases h1
  cases h2
  refine VX_catch (mt := m_L_bestWay) [(0, 12, 15, 13)] (0, 12, 19, 15) [] (by decide) rfl (fun z hz => by rw [List.mem_singleton] at hz; subst hz; exact ⟨by decide, 0, by decide, by decide, cl_L_13⟩) (by decide) (by decide) cl_L_15 ca_1 (fun q => ?_)
  show V g m_L_bestWay 19 _ _ _ _ _ _ _
  refine V_astore (lv2 := [(5, .ref _), (0, .ref _), (1, .int _), (2, .int _), (3, .int _), (4, .ref _)]) dL_bestWay_19 (Nat.le_of_ble_eq_true rfl) rfl ?_
  refine V_iconst (v := 2) dL_bestWay_21 rfl ?_
  refine V_iret (st := []) dL_bestWay_22 rfl ?_
  exact ⟨rfl, rfl⟩

set_option maxRecDepth 20000 in
theorem h_mends_ok {g : GE} {M : Mem} {sz : Nat} {p0 p1 p2 : Int32} {a : Int32} {P : Mem → Prop} {fs : List Value} (h0 : M 0 = some (eO 8 fs)) (hr : Run g m_X8_mends [rf g 0, .int p0, .int p1, .int p2] M sz 0 0 (RetP (some (.int a)) P)) (hP : ∀ M1, P M1 → ∃ o, M1 105 = some (eJ g 1 o)) : Run g m_L_mends [rf g 0, .int p0, .int p1, .int p2, rf g 105] M sz 1 6 (RetP (some (.int 0)) (fun M2 => ∃ M1 o, P M1 ∧ M1 105 = some (eJ g 1 o) ∧ M2 = mup M1 105 (eJ g 1 (vp_updL o 0 a.toInt64)))) := by
  refine Run.ofH (by decide) (by decide) (Nat.le_of_ble_eq_true rfl) ?_
  show V g m_L_mends 0 _ [] _ _ _ _ _
  refine V_aload 4 dL_mends_0 rfl ?_
  refine V_iconst (v := 0) dL_mends_2 rfl ?_
  refine V_aload_n 0 dL_mends_3 rfl ?_
  refine V_iload_n 1 dL_mends_4 rfl ?_
  refine V_iload_n 2 dL_mends_5 rfl ?_
  refine V_iload_n 3 dL_mends_6 rfl ?_
  refine V_callVH (mt := m_L_mends) (mc1 := 0) (ms1 := 0) (kc := 1) (ks := 6) hr h0 rfl rfl k_X8_mends s_X8_mends l_L_77 ⟨Nat.le_of_ble_eq_true rfl, Nat.le_of_ble_eq_true rfl⟩ rfl (Nat.le_of_ble_eq_true rfl) dL_mends_7 rfl (fun v1 M1 h => ?_) (fun E1 M1 h => nomatch h.1)
  obtain ⟨h1, h2⟩ := h
  cases h1
  obtain ⟨o, ho⟩ := hP M1 h2
  refine V_i2l dL_mends_10 ?_
  refine V_last ho (show vp_in (nI 0) 1 from vp_in_nI (by decide) (by decide)) dL_mends_11 ?_
  refine V_goto (tgt := 23) dL_mends_12 (by decide) ?_
  refine V_iconst (v := 0) dL_mends_23 rfl ?_
  refine V_iret (st := []) dL_mends_24 rfl ?_
  exact ⟨rfl, M1, o, h2, ho, rfl⟩

set_option maxRecDepth 20000 in
theorem h_mends_1 {g : GE} {M : Mem} {sz : Nat} {p0 p1 p2 : Int32} {fs : List Value} (h0 : M 0 = some (eO 8 fs)) (hr : Run g m_X8_mends [rf g 0, .int p0, .int p1, .int p2] M sz 1 6 (Thr (exN 0) M)) : Run g m_L_mends [rf g 0, .int p0, .int p1, .int p2, rf g 105] M sz 1 6 (Ret (some (.int 1)) M) := by
  refine Run.ofH (by decide) (by decide) (Nat.le_of_ble_eq_true rfl) ?_
  show V g m_L_mends 0 _ [] _ _ _ _ _
  refine V_aload 4 dL_mends_0 rfl ?_
  refine V_iconst (v := 0) dL_mends_2 rfl ?_
  refine V_aload_n 0 dL_mends_3 rfl ?_
  refine V_iload_n 1 dL_mends_4 rfl ?_
  refine V_iload_n 2 dL_mends_5 rfl ?_
  refine V_iload_n 3 dL_mends_6 rfl ?_
  refine V_callVH (mt := m_L_mends) (mc1 := 1) (ms1 := 6) (kc := 0) (ks := 0) hr h0 rfl rfl k_X8_mends s_X8_mends l_L_77 ⟨Nat.le_of_ble_eq_true rfl, Nat.le_of_ble_eq_true rfl⟩ rfl (Nat.le_of_ble_eq_true rfl) dL_mends_7 rfl (fun v1 M1 h => nomatch h.1) (fun E1 M1 h => ?_)
  obtain ⟨h1, h2⟩ := h
  cases h1
  cases h2
  refine VX_catch (mt := m_L_mends) [] (0, 12, 15, 13) [(0, 12, 19, 15)] (by decide) rfl (fun z hz => nomatch hz) (by decide) (by decide) cl_L_13 ca_0 (fun q => ?_)
  show V g m_L_mends 15 _ _ _ _ _ _ _
  refine V_astore (lv2 := [(5, .ref _), (0, .ref _), (1, .int _), (2, .int _), (3, .int _), (4, .ref _)]) dL_mends_15 (Nat.le_of_ble_eq_true rfl) rfl ?_
  refine V_iconst (v := 1) dL_mends_17 rfl ?_
  refine V_iret (st := []) dL_mends_18 rfl ?_
  exact ⟨rfl, rfl⟩

set_option maxRecDepth 20000 in
theorem h_mends_2 {g : GE} {M : Mem} {sz : Nat} {p0 p1 p2 : Int32} {fs : List Value} (h0 : M 0 = some (eO 8 fs)) (hr : Run g m_X8_mends [rf g 0, .int p0, .int p1, .int p2] M sz 1 6 (Thr (exN 1) M)) : Run g m_L_mends [rf g 0, .int p0, .int p1, .int p2, rf g 105] M sz 1 6 (Ret (some (.int 2)) M) := by
  refine Run.ofH (by decide) (by decide) (Nat.le_of_ble_eq_true rfl) ?_
  show V g m_L_mends 0 _ [] _ _ _ _ _
  refine V_aload 4 dL_mends_0 rfl ?_
  refine V_iconst (v := 0) dL_mends_2 rfl ?_
  refine V_aload_n 0 dL_mends_3 rfl ?_
  refine V_iload_n 1 dL_mends_4 rfl ?_
  refine V_iload_n 2 dL_mends_5 rfl ?_
  refine V_iload_n 3 dL_mends_6 rfl ?_
  refine V_callVH (mt := m_L_mends) (mc1 := 1) (ms1 := 6) (kc := 0) (ks := 0) hr h0 rfl rfl k_X8_mends s_X8_mends l_L_77 ⟨Nat.le_of_ble_eq_true rfl, Nat.le_of_ble_eq_true rfl⟩ rfl (Nat.le_of_ble_eq_true rfl) dL_mends_7 rfl (fun v1 M1 h => nomatch h.1) (fun E1 M1 h => ?_)
  obtain ⟨h1, h2⟩ := h
  cases h1
  cases h2
  refine VX_catch (mt := m_L_mends) [(0, 12, 15, 13)] (0, 12, 19, 15) [] (by decide) rfl (fun z hz => by rw [List.mem_singleton] at hz; subst hz; exact ⟨by decide, 0, by decide, by decide, cl_L_13⟩) (by decide) (by decide) cl_L_15 ca_1 (fun q => ?_)
  show V g m_L_mends 19 _ _ _ _ _ _ _
  refine V_astore (lv2 := [(5, .ref _), (0, .ref _), (1, .int _), (2, .int _), (3, .int _), (4, .ref _)]) dL_mends_19 (Nat.le_of_ble_eq_true rfl) rfl ?_
  refine V_iconst (v := 2) dL_mends_21 rfl ?_
  refine V_iret (st := []) dL_mends_22 rfl ?_
  exact ⟨rfl, rfl⟩

