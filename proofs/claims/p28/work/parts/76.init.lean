/-! constructors -/
def FU (M : Mem) (n : Nat) : Prop := ∀ k, k < n → M k ≠ none
theorem FU.put {M : Mem} {n k : Nat} {e : va_E} (h : FU M n) : FU (mup M k e) n := by
  intro j hj
  by_cases c : j = k
  · subst c; rw [mup_eq]; exact Option.some_ne_none _
  · rw [mup_ne _ _ c]; exact h j hj
theorem FU.new {M : Mem} {n : Nat} {e : va_E} (h : FU M n) : FU (mup M n e) (n + 1) := by
  intro j hj
  by_cases c : j = n
  · subst c; rw [mup_eq]; exact Option.some_ne_none _
  · rw [mup_ne _ _ c]; exact h j (by omega)
theorem FU.of {M : Mem} {n : Nat} (h : FU M n) : ∀ k, k < n → M k ≠ none := h
def LO (M M1 : Mem) (n : Nat) : Prop := ∀ k, k < n → M1 k = M k
theorem LO.refl (M : Mem) (n : Nat) : LO M M n := fun _ _ => rfl
theorem LO.put {M M1 : Mem} {n k : Nat} {e : va_E} (h : LO M M1 n) (hk : n ≤ k) : LO M (mup M1 k e) n := fun j hj => (mup_ne _ _ (by omega)).trans (h j hj)
theorem LO.tr {M M1 M2 : Mem} {n n2 : Nat} (h : LO M M1 n) (h2 : LO M1 M2 n2) (e : n ≤ n2) : LO M M2 n := fun k hk => (h2 k (by omega)).trans (h k hk)
def z0 : Nat → Int32 := fun _ => 0
/-- the state of a new object -/
def σ0 : Nat → Int32 := fun k => if 20 ≤ k ∧ k < 25 then 36 else if k = 27 then 4 else 0
theorem bR_0 (q : Nat) (hq : q < 4) : bR σ0 q = z0 := by
  funext k; unfold bR σ0 z0
  split
  · rw [if_neg (by omega), if_neg (by omega)]
  · rfl
theorem TabR_0 : TabR z0 0 σ0 := by
  refine ⟨fun a b ha hb hab => ?_, fun a _ => rfl, by decide +kernel⟩
  have := pr_lt a b ha hb hab
  unfold upS σ0 z0
  split
  · rw [if_neg (by omega), if_neg (by omega)]
  · rw [if_neg (by omega), if_neg (by omega)]
set_option maxRecDepth 20000 in
theorem ini_X4 {g : GE} {M : Mem} {t : Nat} (h : M t = some (eO 4 [.null, .int 0])) (hf : FU M (t + 1)) : Run g m_X4_init [rf g t] M (t + 1) 1 25 (RetP none (fun M2 => TW g M2 t z0 0 ∧ FU M2 (t + 2) ∧ LO M M2 t)) := by
  refine Run.of rfl (by decide) (Nat.le_of_ble_eq_true rfl) ?_
  show V g m_X4_init 0 _ [] _ _ _ _ _
  refine V_aload_n 0 dX4_init_0 rfl ?_
  refine V_objInit l_obj_X4_3 (Nat.le_of_ble_eq_true rfl) (Nat.le_of_ble_eq_true rfl) dX4_init_1 ?_
  refine V_aload_n 0 dX4_init_4 rfl ?_
  refine V_bipush (v := 25) dX4_init_5 (by decide) ?_
  refine V_newI 25 ac_I (by decide) rfl (by decide) hf dX4_init_7 (fun hz7 => ?_)
  refine P_X4_9 rfl rfl (show _ = some (eO 4 [.null, .int 0]) from (mup_ne _ _ (by omega)).trans h) (Nat.le_of_ble_eq_true rfl) rfl rfl dX4_init_9 ?_
  refine V_aload_n 0 dX4_init_12 rfl ?_
  refine V_pc (pc2 := 13) rfl ?_
  refine V_iconst (v := 0) dX4_init_13 rfl ?_
  refine P_X4_15 rfl (show _ = some (eO 4 [rf g (t + 1), .int 0]) from mup_eq _ _ _) (Nat.le_of_ble_eq_true rfl) rfl rfl dX4_init_14 ?_
  refine V_ret (st := []) dX4_init_17 rfl ?_
  refine ⟨rfl, ⟨mup_eq _ _ _, ?_⟩, hf.new.put.put, (((LO.refl M t).put (by omega)).put (by omega)).put (by omega)⟩
  rw [mup_ne _ _ (by omega), mup_ne _ _ (by omega), mup_eq]; rfl
set_option maxRecDepth 20000 in
theorem ini_X0 {g : GE} {M : Mem} {b : Nat} (h : M b = some (eO 0 [.null, .null, .null, .null, .int 0, .int 0, .int 0])) (hf : FU M (b + 1)) : Run g m_X0_init [rf g b] M (b + 1) 4 32 (RetP none (fun M2 => BW g M2 b σ0 ∧ FU M2 (b + 5) ∧ LO M M2 b)) := by
  refine Run.of rfl (by decide) (Nat.le_of_ble_eq_true rfl) ?_
  show V g m_X0_init 0 _ [] _ _ _ _ _
  refine V_aload_n 0 dX0_init_0 rfl ?_
  refine V_objInit l_obj_X0_3 (Nat.le_of_ble_eq_true rfl) (Nat.le_of_ble_eq_true rfl) dX0_init_1 ?_
  refine V_aload_n 0 dX0_init_4 rfl ?_
  refine V_bipush (v := 8) dX0_init_5 (by decide) ?_
  refine V_newI 8 ac_I (by decide) rfl (by decide) hf dX0_init_7 (fun hz7 => ?_)
  refine P_X0_9 rfl rfl (show _ = some (eO 0 [.null, .null, .null, .null, .int 0, .int 0, .int 0]) from (mup_ne _ _ (by omega)).trans h) (Nat.le_of_ble_eq_true rfl) rfl rfl dX0_init_9 ?_
  refine V_aload_n 0 dX0_init_12 rfl ?_
  refine V_pc (pc2 := 13) rfl ?_
  refine V_bipush (v := 8) dX0_init_13 (by decide) ?_
  refine V_newI 8 ac_I (by decide) rfl (by decide) hf.new.put dX0_init_15 (fun hz15 => ?_)
  refine P_X0_15 rfl rfl (show _ = some (eO 0 [rf g (b + 1), .null, .null, .null, .int 0, .int 0, .int 0]) from (mup_ne _ _ (by omega)).trans (mup_eq _ _ _)) (Nat.le_of_ble_eq_true rfl) rfl rfl dX0_init_17 ?_
  refine V_aload_n 0 dX0_init_20 rfl ?_
  refine V_bipush (v := 8) dX0_init_21 (by decide) ?_
  refine V_newI 8 ac_I (by decide) rfl (by decide) hf.new.put.new.put dX0_init_23 (fun hz23 => ?_)
  refine P_X0_18 rfl rfl (show _ = some (eO 0 [rf g (b + 1), rf g (b + 2), .null, .null, .int 0, .int 0, .int 0]) from (mup_ne _ _ (by omega)).trans (mup_eq _ _ _)) (Nat.le_of_ble_eq_true rfl) rfl rfl dX0_init_25 ?_
  refine V_aload_n 0 dX0_init_28 rfl ?_
  refine V_pc (pc2 := 29) rfl ?_
  refine V_bipush (v := 8) dX0_init_29 (by decide) ?_
  refine V_newI 8 ac_I (by decide) rfl (by decide) hf.new.put.new.put.new.put dX0_init_31 (fun hz31 => ?_)
  refine P_X0_21 rfl rfl (show _ = some (eO 0 [rf g (b + 1), rf g (b + 2), rf g (b + 3), .null, .int 0, .int 0, .int 0]) from (mup_ne _ _ (by omega)).trans (mup_eq _ _ _)) (Nat.le_of_ble_eq_true rfl) rfl rfl dX0_init_33 ?_
  refine V_aload_n 0 dX0_init_36 rfl ?_
  refine V_iconst (v := 0) dX0_init_37 rfl ?_
  refine P_X0_24 rfl (show _ = some (eO 0 [rf g (b + 1), rf g (b + 2), rf g (b + 3), rf g (b + 4), .int 0, .int 0, .int 0]) from mup_eq _ _ _) (Nat.le_of_ble_eq_true rfl) rfl rfl dX0_init_38 ?_
  refine V_aload_n 0 dX0_init_41 rfl ?_
  refine V_iconst (v := 0) dX0_init_42 rfl ?_
  refine V_pc (pc2 := 43) rfl ?_
  refine P_X0_28 rfl (show _ = some (eO 0 [rf g (b + 1), rf g (b + 2), rf g (b + 3), rf g (b + 4), .int 0, .int 0, .int 0]) from mup_eq _ _ _) (Nat.le_of_ble_eq_true rfl) rfl rfl dX0_init_43 ?_
  refine V_aload_n 0 dX0_init_46 rfl ?_
  refine V_iconst (v := 0) dX0_init_47 rfl ?_
  refine P_X0_31 rfl (show _ = some (eO 0 [rf g (b + 1), rf g (b + 2), rf g (b + 3), rf g (b + 4), .int 0, .int 0, .int 0]) from mup_eq _ _ _) (Nat.le_of_ble_eq_true rfl) rfl rfl dX0_init_48 ?_
  refine V_ret (st := []) dX0_init_51 rfl ?_
  refine ⟨rfl, ⟨mup_eq _ _ _, ?_, ?_, ?_, ?_⟩, hf.new.put.new.put.new.put.new.put.put.put.put, fun k hk => ?_⟩
  · rw [bR_0 0 (by decide)]; rw [mup_ne _ _ (by omega), mup_ne _ _ (by omega), mup_ne _ _ (by omega), mup_ne _ _ (by omega), mup_ne _ _ (by omega), mup_ne _ _ (by omega), mup_ne _ _ (by omega), mup_ne _ _ (by omega), mup_ne _ _ (by omega), mup_ne _ _ (by omega), mup_eq]; rfl
  · rw [bR_0 1 (by decide)]; rw [mup_ne _ _ (by omega), mup_ne _ _ (by omega), mup_ne _ _ (by omega), mup_ne _ _ (by omega), mup_ne _ _ (by omega), mup_ne _ _ (by omega), mup_ne _ _ (by omega), mup_ne _ _ (by omega), mup_eq]; rfl
  · rw [bR_0 2 (by decide)]; rw [mup_ne _ _ (by omega), mup_ne _ _ (by omega), mup_ne _ _ (by omega), mup_ne _ _ (by omega), mup_ne _ _ (by omega), mup_ne _ _ (by omega), mup_eq]; rfl
  · rw [bR_0 3 (by decide)]; rw [mup_ne _ _ (by omega), mup_ne _ _ (by omega), mup_ne _ _ (by omega), mup_ne _ _ (by omega), mup_eq]; rfl
  · rw [mup_ne _ _ (by omega), mup_ne _ _ (by omega), mup_ne _ _ (by omega), mup_ne _ _ (by omega), mup_ne _ _ (by omega), mup_ne _ _ (by omega), mup_ne _ _ (by omega), mup_ne _ _ (by omega), mup_ne _ _ (by omega), mup_ne _ _ (by omega), mup_ne _ _ (by omega)]
set_option maxRecDepth 20000 in
theorem ini_X2 {g : GE} {M : Mem} {t : Nat} (h : M t = some (eO 2 [.null, .null])) (hf : FU M (t + 1)) : Run g m_X2_init [rf g t] M (t + 1) 2 10 (RetP none (fun M2 => (M2 t = some (eO 2 [rf g (t + 1), rf g (t + 2)]) ∧ M2 (t + 1) = some (eJ g 5 (fun _ => 0)) ∧ M2 (t + 2) = some (eJ g 5 (fun _ => 0))) ∧ FU M2 (t + 3) ∧ LO M M2 t)) := by
  refine Run.of rfl (by decide) (Nat.le_of_ble_eq_true rfl) ?_
  show V g m_X2_init 0 _ [] _ _ _ _ _
  refine V_aload_n 0 dX2_init_0 rfl ?_
  refine V_objInit l_obj_X2_3 (Nat.le_of_ble_eq_true rfl) (Nat.le_of_ble_eq_true rfl) dX2_init_1 ?_
  refine V_aload_n 0 dX2_init_4 rfl ?_
  refine V_iconst (v := 5) dX2_init_5 rfl ?_
  refine V_newJ 5 ac_J (by decide) rfl (by decide) hf dX2_init_6 (fun hz6 => ?_)
  refine P_X2_9 rfl rfl (show _ = some (eO 2 [.null, .null]) from (mup_ne _ _ (by omega)).trans h) (Nat.le_of_ble_eq_true rfl) rfl rfl dX2_init_8 ?_
  refine V_aload_n 0 dX2_init_11 rfl ?_
  refine V_pc (pc2 := 12) rfl ?_
  refine V_iconst (v := 5) dX2_init_12 rfl ?_
  refine V_newJ 5 ac_J (by decide) rfl (by decide) hf.new.put dX2_init_13 (fun hz13 => ?_)
  refine P_X2_15 rfl rfl (show _ = some (eO 2 [rf g (t + 1), .null]) from (mup_ne _ _ (by omega)).trans (mup_eq _ _ _)) (Nat.le_of_ble_eq_true rfl) rfl rfl dX2_init_15 ?_
  refine V_ret (st := []) dX2_init_18 rfl ?_
  refine ⟨rfl, ⟨mup_eq _ _ _, ?_, ?_⟩, hf.new.put.new.put, fun k hk => ?_⟩
  · rw [mup_ne _ _ (by omega), mup_ne _ _ (by omega), mup_ne _ _ (by omega), mup_eq]
  · rw [mup_ne _ _ (by omega)]; exact mup_eq _ _ _
  · rw [mup_ne _ _ (by omega), mup_ne _ _ (by omega), mup_ne _ _ (by omega), mup_ne _ _ (by omega)]
set_option maxRecDepth 20000 in
theorem ini_X5 {g : GE} {M : Mem} {t : Nat} (h : M t = some (eO 5 [.null, .int 0, .int 0])) (hf : FU M (t + 1)) : Run g m_X5_init [rf g t] M (t + 1) 1 60 (RetP none (fun M2 => (M2 t = some (eO 5 [rf g (t + 1), .int 0, .int 0]) ∧ M2 (t + 1) = some (eI g 60 z0)) ∧ FU M2 (t + 2) ∧ LO M M2 t)) := by
  refine Run.of rfl (by decide) (Nat.le_of_ble_eq_true rfl) ?_
  show V g m_X5_init 0 _ [] _ _ _ _ _
  refine V_aload_n 0 dX5_init_0 rfl ?_
  refine V_objInit l_obj_X5_3 (Nat.le_of_ble_eq_true rfl) (Nat.le_of_ble_eq_true rfl) dX5_init_1 ?_
  refine V_aload_n 0 dX5_init_4 rfl ?_
  refine V_bipush (v := 60) dX5_init_5 (by decide) ?_
  refine V_newI 60 ac_I (by decide) rfl (by decide) hf dX5_init_7 (fun hz7 => ?_)
  refine P_X5_9 rfl rfl (show _ = some (eO 5 [.null, .int 0, .int 0]) from (mup_ne _ _ (by omega)).trans h) (Nat.le_of_ble_eq_true rfl) rfl rfl dX5_init_9 ?_
  refine V_aload_n 0 dX5_init_12 rfl ?_
  refine V_pc (pc2 := 13) rfl ?_
  refine V_iconst (v := 0) dX5_init_13 rfl ?_
  refine P_X5_15 rfl (show _ = some (eO 5 [rf g (t + 1), .int 0, .int 0]) from mup_eq _ _ _) (Nat.le_of_ble_eq_true rfl) rfl rfl dX5_init_14 ?_
  refine V_aload_n 0 dX5_init_17 rfl ?_
  refine V_iconst (v := 0) dX5_init_18 rfl ?_
  refine P_X5_19 rfl (show _ = some (eO 5 [rf g (t + 1), .int 0, .int 0]) from mup_eq _ _ _) (Nat.le_of_ble_eq_true rfl) rfl rfl dX5_init_19 ?_
  refine V_ret (st := []) dX5_init_22 rfl ?_
  refine ⟨rfl, ⟨mup_eq _ _ _, ?_⟩, hf.new.put.put.put, fun k hk => ?_⟩
  · rw [mup_ne _ _ (by omega), mup_ne _ _ (by omega), mup_ne _ _ (by omega), mup_eq]; rfl
  · rw [mup_ne _ _ (by omega), mup_ne _ _ (by omega), mup_ne _ _ (by omega), mup_ne _ _ (by omega)]
set_option maxRecDepth 20000 in
theorem ini_X6 {g : GE} {M : Mem} {t : Nat} (h : M t = some (eO 6 [.null, .int 0])) (hf : FU M (t + 1)) : Run g m_X6_init [rf g t] M (t + 1) 1 5 (RetP none (fun M2 => (M2 t = some (eO 6 [rf g (t + 1), .int 0]) ∧ M2 (t + 1) = some (eI g 5 z0)) ∧ FU M2 (t + 2) ∧ LO M M2 t)) := by
  refine Run.of rfl (by decide) (Nat.le_of_ble_eq_true rfl) ?_
  show V g m_X6_init 0 _ [] _ _ _ _ _
  refine V_aload_n 0 dX6_init_0 rfl ?_
  refine V_objInit l_obj_X6_3 (Nat.le_of_ble_eq_true rfl) (Nat.le_of_ble_eq_true rfl) dX6_init_1 ?_
  refine V_aload_n 0 dX6_init_4 rfl ?_
  refine V_iconst (v := 5) dX6_init_5 rfl ?_
  refine V_newI 5 ac_I (by decide) rfl (by decide) hf dX6_init_6 (fun hz6 => ?_)
  refine P_X6_9 rfl rfl (show _ = some (eO 6 [.null, .int 0]) from (mup_ne _ _ (by omega)).trans h) (Nat.le_of_ble_eq_true rfl) rfl rfl dX6_init_8 ?_
  refine V_aload_n 0 dX6_init_11 rfl ?_
  refine V_pc (pc2 := 12) rfl ?_
  refine V_iconst (v := 0) dX6_init_12 rfl ?_
  refine P_X6_15 rfl (show _ = some (eO 6 [rf g (t + 1), .int 0]) from mup_eq _ _ _) (Nat.le_of_ble_eq_true rfl) rfl rfl dX6_init_13 ?_
  refine V_ret (st := []) dX6_init_16 rfl ?_
  refine ⟨rfl, ⟨mup_eq _ _ _, ?_⟩, hf.new.put.put, fun k hk => ?_⟩
  · rw [mup_ne _ _ (by omega), mup_ne _ _ (by omega), mup_eq]; rfl
  · rw [mup_ne _ _ (by omega), mup_ne _ _ (by omega), mup_ne _ _ (by omega)]
def w36 (i : Nat) : Nat → Int32 := fun k => if k < i then 36 else 0
theorem w36_0 : w36 0 = z0 := by funext k; unfold w36 z0; rw [if_neg (by omega)]
theorem w36_s (i : Nat) : upd (w36 i) i 36 = w36 (i + 1) := by
  funext k
  by_cases h : k = i
  · subst h; rw [upd_at]; unfold w36; rw [if_pos (by omega)]
  · rw [upd_ne h]; unfold w36
    by_cases h2 : k < i
    · rw [if_pos h2, if_pos (by omega)]
    · rw [if_neg h2, if_neg (by omega)]
theorem w36_5 : w36 5 = stR σ0 := by
  funext k; unfold w36 stR σ0
  split
  · rw [if_pos (by omega)]
  · rfl
theorem se_0 : upd z0 2 4 = seR σ0 := by
  funext k
  by_cases h : k = 2
  · subst h; rw [upd_at]; rfl
  · rw [upd_ne h]; unfold seR σ0 z0
    split
    · rw [if_neg (by omega), if_neg (by omega)]
    · rfl
set_option maxRecDepth 20000 in
theorem yards_t {g : GE} {M M9 : Mem} {y : Nat} {x : Int32} (h1 : M9 y = some (eO 7 [rf g (y + 1), .null, .null, .null, .int 0, .int 0])) (h2 : M9 (y + 1) = some (eI g 5 (w36 5))) (hf9 : FU M9 (y + 1 + 1)) (hl : LO M M9 y) : V g m_X7_init 34 [(1, .int x), (0, rf g y)] [] M9 (y + 1 + 1) 8 69 (RetP none (fun M2 => YW g M2 y σ0 ∧ FU M2 (y + 10) ∧ LO M M2 y)) := by
  refine V_aload_n 1 dX7_init_34 rfl ?_
  refine V_iconst (v := 3) dX7_init_35 rfl ?_
  refine V_newI 3 ac_I (by decide) rfl (by decide) hf9 dX7_init_36 (fun hz36 => ?_)
  refine P_X7_19 rfl rfl (show _ = some (eO 7 [rf g (y + 1), .null, .null, .null, .int 0, .int 0]) from (mup_ne _ _ (by omega)).trans h1) (Nat.le_of_ble_eq_true rfl) rfl rfl dX7_init_38 ?_
  refine V_aload_n 1 dX7_init_41 rfl ?_
  refine G_X7_19 rfl (show _ = some (eO 7 [rf g (y + 1), rf g (y + 2), .null, .null, .int 0, .int 0]) from mup_eq _ _ _) rfl dX7_init_42 ?_
  refine V_iconst (v := 2) dX7_init_45 rfl ?_
  refine V_pc (pc2 := 46) rfl ?_
  refine V_iconst (v := 4) dX7_init_46 rfl ?_
  refine C_X7_15 rfl ⟨Nat.le_of_ble_eq_true rfl, Nat.le_of_ble_eq_true rfl⟩ (r_put ((mup_ne _ _ (by omega)).trans (mup_eq _ _ _)) 2 rfl (by decide) (by decide)) rfl (Nat.le_of_ble_eq_true rfl) dX7_init_47 rfl ?_
  have f1 : FU (mup (mup (mup M9 (y + 1 + 1) (eI g 3 (fun _ => 0))) y (eO 7 [rf g (y + 1), rf g (y + 2), .null, .null, .int 0, .int 0])) (y + 1 + 1) (eI g 3 (upd (fun _ => 0) 2 4))) (y + 1 + 1 + 1) := hf9.new.put.put
  refine V_aload_n 1 dX7_init_50 rfl ?_
  refine V_newO (ci := 4) (fs := [.null, .int 0]) rfl n_X7_22 i_X4.1 i_X4.2 nw_X4 f1 dX7_init_51 (fun hz51 => ?_)
  refine V_dup dX7_init_54 rfl ?_
  refine Cp_X7_24 rfl ⟨Nat.le_of_ble_eq_true rfl, Nat.le_of_ble_eq_true rfl⟩ (ini_X4 (t := y + 3) (mup_eq _ _ _) f1.new) rfl (Nat.le_of_ble_eq_true rfl) dX7_init_55 rfl (fun _ q4 => ?_)
  obtain ⟨t1, f1b, l1⟩ := q4
  have e4 := (l1 y (by omega)).trans ((mup_ne _ _ (by omega)).trans ((mup_ne _ _ (by omega)).trans (mup_eq _ _ _)))
  have f2 := f1b.put (k := y) (e := eO 7 [rf g (y + 1), rf g (y + 2), rf g (y + 3), .null, .int 0, .int 0])
  refine P_X7_25 rfl rfl (show _ = some (eO 7 [rf g (y + 1), rf g (y + 2), .null, .null, .int 0, .int 0]) from e4) (Nat.le_of_ble_eq_true rfl) rfl rfl dX7_init_58 ?_
  refine V_aload_n 1 dX7_init_61 rfl ?_
  refine V_pc (pc2 := 62) rfl ?_
  refine V_newO (ci := 0) (fs := [.null, .null, .null, .null, .int 0, .int 0, .int 0]) rfl n_X7_29 i_X0.1 i_X0.2 nw_X0 f2 dX7_init_62 (fun hz62 => ?_)
  refine V_dup dX7_init_65 rfl ?_
  refine Cp_X7_31 rfl ⟨Nat.le_of_ble_eq_true rfl, Nat.le_of_ble_eq_true rfl⟩ (ini_X0 (b := y + 5) (mup_eq _ _ _) f2.new) rfl (Nat.le_of_ble_eq_true rfl) dX7_init_66 rfl (fun _ q5 => ?_)
  obtain ⟨t2, f3, l2⟩ := q5
  have e6 := (l2 y (by omega)).trans ((mup_ne _ _ (by omega)).trans (mup_eq _ _ _))
  refine P_X7_32 rfl rfl (show _ = some (eO 7 [rf g (y + 1), rf g (y + 2), rf g (y + 3), .null, .int 0, .int 0]) from e6) (Nat.le_of_ble_eq_true rfl) rfl rfl dX7_init_69 ?_
  refine V_aload_n 1 dX7_init_72 rfl ?_
  refine V_iconst (v := 0) dX7_init_73 rfl ?_
  refine P_X7_36 rfl (show _ = some (eO 7 [rf g (y + 1), rf g (y + 2), rf g (y + 3), rf g (y + 5), .int 0, .int 0]) from mup_eq _ _ _) (Nat.le_of_ble_eq_true rfl) rfl rfl dX7_init_74 ?_
  refine V_aload_n 1 dX7_init_77 rfl ?_
  refine V_pc (pc2 := 78) rfl ?_
  refine V_iconst (v := 0) dX7_init_78 rfl ?_
  refine P_X7_40 rfl (show _ = some (eO 7 [rf g (y + 1), rf g (y + 2), rf g (y + 3), rf g (y + 5), .int 0, .int 0]) from mup_eq _ _ _) (Nat.le_of_ble_eq_true rfl) rfl rfl dX7_init_79 ?_
  refine V_ret (st := []) dX7_init_82 rfl ?_
  refine ⟨rfl, ⟨⟨0, ?_, Or.inl rfl⟩, ?_, ?_, ?_, ?_⟩, f3.put.put.put, fun k hk => ?_⟩
  · exact mup_eq _ _ _
  · rw [mup_ne _ _ (by omega), mup_ne _ _ (by omega), mup_ne _ _ (by omega), l2 _ (by omega), mup_ne _ _ (by omega), mup_ne _ _ (by omega), l1 _ (by omega), mup_ne _ _ (by omega), mup_ne _ _ (by omega), mup_ne _ _ (by omega), mup_ne _ _ (by omega), h2, w36_5]
  · rw [mup_ne _ _ (by omega), mup_ne _ _ (by omega), mup_ne _ _ (by omega), l2 _ (by omega), mup_ne _ _ (by omega), mup_ne _ _ (by omega), l1 _ (by omega), mup_ne _ _ (by omega), ← se_0]
    exact mup_eq _ _ _
  · refine ⟨z0, 0, ⟨?_, ?_⟩, TabR_0⟩
    · rw [mup_ne _ _ (by omega), mup_ne _ _ (by omega), mup_ne _ _ (by omega), l2 _ (by omega), mup_ne _ _ (by omega), mup_ne _ _ (by omega)]; exact t1.1
    · rw [mup_ne _ _ (by omega), mup_ne _ _ (by omega), mup_ne _ _ (by omega), l2 _ (by omega), mup_ne _ _ (by omega), mup_ne _ _ (by omega)]; exact t1.2
  · exact t2.fr (fun k a b => by rw [mup_ne _ _ (by omega), mup_ne _ _ (by omega), mup_ne _ _ (by omega)])
  · rw [mup_ne _ _ (by omega), mup_ne _ _ (by omega), mup_ne _ _ (by omega), l2 _ (by omega), mup_ne _ _ (by omega), mup_ne _ _ (by omega), l1 _ (by omega), mup_ne _ _ (by omega), mup_ne _ _ (by omega), mup_ne _ _ (by omega), mup_ne _ _ (by omega)]
    exact hl k hk
set_option maxRecDepth 20000 in
theorem ini_X7 {g : GE} {M : Mem} {y : Nat} (h : M y = some (eO 7 [.null, .null, .null, .null, .int 0, .int 0])) (hf : FU M (y + 1)) : Run g m_X7_init [rf g y] M (y + 1) 9 74 (RetP none (fun M2 => YW g M2 y σ0 ∧ FU M2 (y + 10) ∧ LO M M2 y)) := by
  have L : ∀ (m i : Nat) (M9 : Mem), i + m = 5 → M9 y = some (eO 7 [rf g (y + 1), .null, .null, .null, .int 0, .int 0]) → M9 (y + 1) = some (eI g 5 (w36 i)) → FU M9 (y + 1 + 1) → LO M M9 y → V g m_X7_init 13 [(1, .int (nI i)), (0, rf g y)] [] M9 (y + 1 + 1) 8 69 (RetP none (fun M2 => YW g M2 y σ0 ∧ FU M2 (y + 10) ∧ LO M M2 y)) := by
    intro m
    induction m with
    | zero =>
      intro i M9 hi hM9 hR hf9 hl
      obtain rfl : i = 5 := by omega
      refine V_iload_n 0 dX7_init_13 rfl ?_
      refine V_iconst (v := 5) dX7_init_14 rfl ?_
      refine V_icmp_ge (tgt := 34) dX7_init_15 (by decide) (fun c15 => ?_) (fun c15 => absurd (nI_le (a := 5) (by omega) (by omega)) c15)
      exact yards_t hM9 hR hf9 hl
    | succ m ih =>
      intro i M9 hi hM9 hR hf9 hl
      refine V_iload_n 0 dX7_init_13 rfl ?_
      refine V_iconst (v := 5) dX7_init_14 rfl ?_
      refine V_icmp_ge (tgt := 34) dX7_init_15 (by decide) (fun c15 => absurd c15 (nI_ge (b := 5) (by omega) (by decide))) (fun c15 => ?_)
      refine V_aload_n 1 dX7_init_18 rfl ?_
      refine G_X7_9 rfl (show _ = some (eO 7 [rf g (y + 1), .null, .null, .null, .int 0, .int 0]) from hM9) rfl dX7_init_19 ?_
      refine V_iload_n 0 dX7_init_22 rfl ?_
      refine V_bipush (v := 36) dX7_init_23 (by decide) ?_
      refine V_pc (pc2 := 25) rfl ?_
      refine C_X7_15 rfl ⟨Nat.le_of_ble_eq_true rfl, Nat.le_of_ble_eq_true rfl⟩ (r_put hR i rfl (by omega) (by decide)) rfl (Nat.le_of_ble_eq_true rfl) dX7_init_25 rfl ?_
      refine V_iinc (v := _ + 1) (lv2 := [(1, .int _), (0, .ref _)]) 0 dX7_init_28 rfl rfl (Nat.le_of_ble_eq_true rfl) rfl ?_
      refine V_goto (tgt := 13) dX7_init_31 (by decide) ?_
      refine V_lv (lv2 := [(1, .int _), (0, .ref _)]) [0, 1] rfl ?_
      rw [nI_1, w36_s]
      exact ih (i + 1) _ (by omega) ((mup_ne _ _ (by omega)).trans hM9) (mup_eq _ _ _) hf9.put (hl.put (by omega))
  refine Run.of rfl (by decide) (Nat.le_of_ble_eq_true rfl) ?_
  show V g m_X7_init 0 _ [] _ _ _ _ _
  refine V_aload_n 0 dX7_init_0 rfl ?_
  refine V_objInit l_obj_X7_3 (Nat.le_of_ble_eq_true rfl) (Nat.le_of_ble_eq_true rfl) dX7_init_1 ?_
  refine V_aload_n 0 dX7_init_4 rfl ?_
  refine V_iconst (v := 5) dX7_init_5 rfl ?_
  refine V_newI 5 ac_I (by decide) rfl (by decide) hf dX7_init_6 (fun hz6 => ?_)
  refine P_X7_9 rfl rfl (show _ = some (eO 7 [.null, .null, .null, .null, .int 0, .int 0]) from (mup_ne _ _ (by omega)).trans h) (Nat.le_of_ble_eq_true rfl) rfl rfl dX7_init_8 ?_
  refine V_iconst (v := 0) dX7_init_11 rfl ?_
  refine V_pc (pc2 := 12) rfl ?_
  refine V_istore_n (lv2 := [(1, .int _), (0, .ref _)]) dX7_init_12 (Nat.le_of_ble_eq_true rfl) rfl ?_
  refine V_lv (lv2 := [(1, .int _), (0, .ref _)]) [0, 1] rfl ?_
  refine L 5 0 _ (by omega) (mup_eq _ _ _) ?_ hf.new.put (((LO.refl M y).put (by omega)).put (by omega))
  rw [mup_ne _ _ (by omega), mup_eq, w36_0]; rfl
