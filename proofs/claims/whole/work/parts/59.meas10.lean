/-! the reference: soundness by measures; count -/
set_option maxRecDepth 20000 in
theorem r9_isMeasured {g : GE} {M : Mem} {sz : Nat} {σ v : Nat → Int32} (hM : MD g M σ v) (hI : I10 σ) {a b : Nat → Int64} (h3 : M 103 = some (eJ g 5 a)) (h4 : M 104 = some (eJ g 5 b)) : Run g m_X9_isMeasured [rf g 96] M sz 0 0 (Ret (some (.int (bI (allS σ (meaS σ 5) 5)))) (msM g M 103 104 (meaS σ 5))) := by
  have L1 : ∀ e i : Nat, i + e = 5 → V g m_X9_isMeasured 8 [(2, .int (nI i)), (1, .int (bI (allS σ (meaS σ 5) i))), (0, rf g 96)] [] (msM g M 103 104 (meaS σ 5)) sz 0 0 (Ret (some (.int (bI (allS σ (meaS σ 5) 5)))) (msM g M 103 104 (meaS σ 5))) := by
    intro e
    induction e with
    | zero =>
      intro i hi
      obtain rfl : i = 5 := by omega
      refine V_iload_n 0 dX9_isMeasured_8 rfl ?_
      refine V_iconst (v := 5) dX9_isMeasured_9 rfl ?_
      refine V_icmp_ge (tgt := 99) dX9_isMeasured_10 (by decide) (fun c10 => ?_) (fun c10 => absurd (by decide) c10)
      refine V_iload_n 1 dX9_isMeasured_99 rfl ?_
      refine V_zret (st := []) dX9_isMeasured_100 rfl (bI_01 _) ?_
      exact ⟨rfl, rfl⟩
    | succ e ih =>
      intro i hi
      have hlt : i < 5 := by omega
      refine V_iload_n 0 dX9_isMeasured_8 rfl ?_
      refine V_iconst (v := 5) dX9_isMeasured_9 rfl ?_
      refine V_icmp_ge (tgt := 99) dX9_isMeasured_10 (by decide) (fun c10 => absurd c10 (nI_ge (b := 5) hlt (by decide))) (fun c10 => ?_)
      refine V_iload_n 0 dX9_isMeasured_13 rfl ?_
      refine V_iconst (v := 1) dX9_isMeasured_14 rfl ?_
      refine V_iadd dX9_isMeasured_15 ?_
      refine V_istore_n (lv2 := [(3, .int _), (2, .int _), (1, .int _), (0, .ref _)]) dX9_isMeasured_16 (Nat.le_of_ble_eq_true rfl) rfl ?_
      refine V_lv (lv2 := [(3, .int _), (2, .int _), (1, .int _), (0, .ref _)]) [0, 1, 2, 3] rfl ?_
      rw [nI_1]
      have L2 : ∀ e2 j : Nat, j + e2 = 5 → i < j → V g m_X9_isMeasured 17 [(3, .int (nI j)), (2, .int (nI i)), (1, .int (bI (allS σ (meaS σ 5) i && rowS σ (meaS σ 5) i j))), (0, rf g 96)] [] (msM g M 103 104 (meaS σ 5)) sz 0 0 (Ret (some (.int (bI (allS σ (meaS σ 5) 5)))) (msM g M 103 104 (meaS σ 5))) := by
        intro e2
        induction e2 with
        | zero =>
          intro j hj hij
          obtain rfl : j = 5 := by omega
          refine V_iload_n 0 dX9_isMeasured_17 rfl ?_
          refine V_iconst (v := 5) dX9_isMeasured_18 rfl ?_
          refine V_icmp_ge (tgt := 93) dX9_isMeasured_19 (by decide) (fun c19 => ?_) (fun c19 => absurd (by decide) c19)
          refine V_iinc (v := _ + 1) (lv2 := [(2, .int _), (3, .int _), (1, .int _), (0, .ref _)]) 1 dX9_isMeasured_93 rfl rfl (Nat.le_of_ble_eq_true rfl) rfl ?_
          refine V_goto (tgt := 8) dX9_isMeasured_96 (by decide) ?_
          refine V_lv (lv2 := [(2, .int _), (1, .int _), (0, .ref _)]) [0, 2, 3] rfl ?_
          rw [nI_1]
          exact ih (i + 1) (by omega)
        | succ e2 ih2 =>
          intro j hj hij
          have hlt2 : j < 5 := by omega
          refine V_iload_n 0 dX9_isMeasured_17 rfl ?_
          refine V_iconst (v := 5) dX9_isMeasured_18 rfl ?_
          refine V_icmp_ge (tgt := 93) dX9_isMeasured_19 (by decide) (fun c19 => absurd c19 (nI_ge (b := 5) hlt2 (by decide))) (fun c19 => ?_)
          refine V_iload_n 2 dX9_isMeasured_22 rfl ?_
          refine V_if_eq (tgt := 85) dX9_isMeasured_23 (by decide) (fun c23 => ?_) (fun c23 => ?_)
          · refine V_iconst (v := 0) dX9_isMeasured_85 rfl ?_
            refine V_istore_n (lv2 := [(1, .int _), (3, .int _), (2, .int _), (0, .ref _)]) dX9_isMeasured_86 (Nat.le_of_ble_eq_true rfl) rfl ?_
            refine V_iinc (v := _ + 1) (lv2 := [(3, .int _), (1, .int _), (2, .int _), (0, .ref _)]) 1 dX9_isMeasured_87 rfl rfl (Nat.le_of_ble_eq_true rfl) rfl ?_
            refine V_goto (tgt := 17) dX9_isMeasured_90 (by decide) ?_
            refine V_lv (lv2 := [(3, .int _), (2, .int _), (1, .int _), (0, .ref _)]) [0, 2, 1, 3] rfl ?_
            rw [nI_1]
            have i9 := ih2 (j + 1) (by omega) (by omega)
            rw [row_s (by omega), ← Bool.and_assoc] at i9
            rw [bI_0 c23, Bool.false_and] at i9
            exact i9
          · refine V_aload_n 3 dX9_isMeasured_26 rfl ?_
            refine V_iload_n 1 dX9_isMeasured_27 rfl ?_
            refine V_iload_n 0 dX9_isMeasured_28 rfl ?_
            refine C_X9_66 (hM.ms (meaS σ 5)).1 rfl ⟨Nat.le_of_ble_eq_true rfl, Nat.le_of_ble_eq_true rfl⟩ (r9_has (hM.ms _) i j rfl rfl hlt hlt2) rfl (Nat.le_of_ble_eq_true rfl) dX9_isMeasured_29 rfl ?_
            refine V_if_eq (tgt := 81) dX9_isMeasured_32 (by decide) (fun c32 => ?_) (fun c32 => ?_)
            · refine V_iconst (v := 1) dX9_isMeasured_81 rfl ?_
              refine V_goto (tgt := 86) dX9_isMeasured_82 (by decide) ?_
              refine V_istore_n (lv2 := [(1, .int _), (3, .int _), (2, .int _), (0, .ref _)]) dX9_isMeasured_86 (Nat.le_of_ble_eq_true rfl) rfl ?_
              refine V_iinc (v := _ + 1) (lv2 := [(3, .int _), (1, .int _), (2, .int _), (0, .ref _)]) 1 dX9_isMeasured_87 rfl rfl (Nat.le_of_ble_eq_true rfl) rfl ?_
              refine V_goto (tgt := 17) dX9_isMeasured_90 (by decide) ?_
              refine V_lv (lv2 := [(3, .int _), (2, .int _), (1, .int _), (0, .ref _)]) [0, 2, 1, 3] rfl ?_
              rw [nI_1]
              have i9 := ih2 (j + 1) (by omega) (by omega)
              rw [row_s (by omega), ← Bool.and_assoc] at i9
              rw [bI_1 c23, Bool.true_and, show finS σ (meaS σ 5) i j = true by unfold finS; rw [bI_0 c32]; rfl] at i9
              exact i9
            · refine V_aload_n 3 dX9_isMeasured_35 rfl ?_
              refine G_X9_28 rfl (hM.ms (meaS σ 5)).1 rfl dX9_isMeasured_36 ?_
              refine V_iload_n 0 dX9_isMeasured_39 rfl ?_
              refine V_lald (msM_p (by decide)) (vp_in_nI hlt2 (by decide)) dX9_isMeasured_40 ?_
              refine V_aload_n 3 dX9_isMeasured_41 rfl ?_
              refine G_X9_32 rfl (hM.ms (meaS σ 5)).1 rfl dX9_isMeasured_42 ?_
              refine V_iload_n 1 dX9_isMeasured_45 rfl ?_
              refine V_pc (pc2 := 46) rfl ?_
              refine V_lald msM_q (vp_in_nI hlt (by decide)) dX9_isMeasured_46 ?_
              refine V_lmul dX9_isMeasured_47 ?_
              refine V_aload_n 3 dX9_isMeasured_48 rfl ?_
              refine V_iload_n 1 dX9_isMeasured_49 rfl ?_
              refine V_iload_n 0 dX9_isMeasured_50 rfl ?_
              refine C_X9_72 (hM.ms (meaS σ 5)).1 rfl ⟨Nat.le_of_ble_eq_true rfl, Nat.le_of_ble_eq_true rfl⟩ (r9_down (hM.ms _) i j rfl rfl hlt hlt2 (by omega)) rfl (Nat.le_of_ble_eq_true rfl) dX9_isMeasured_51 rfl ?_
              refine V_i2l dX9_isMeasured_54 ?_
              refine V_lmul dX9_isMeasured_55 ?_
              refine V_pc (pc2 := 56) rfl ?_
              refine V_aload_n 3 dX9_isMeasured_56 rfl ?_
              refine G_X9_28 rfl (hM.ms (meaS σ 5)).1 rfl dX9_isMeasured_57 ?_
              refine V_iload_n 1 dX9_isMeasured_60 rfl ?_
              refine V_lald (msM_p (by decide)) (vp_in_nI hlt (by decide)) dX9_isMeasured_61 ?_
              refine V_aload_n 3 dX9_isMeasured_62 rfl ?_
              refine V_iload_n 1 dX9_isMeasured_63 rfl ?_
              refine V_iload_n 0 dX9_isMeasured_64 rfl ?_
              refine C_X9_69 (hM.ms (meaS σ 5)).1 rfl ⟨Nat.le_of_ble_eq_true rfl, Nat.le_of_ble_eq_true rfl⟩ (r9_up (hM.ms _) i j rfl rfl hlt hlt2 (by omega)) rfl (Nat.le_of_ble_eq_true rfl) dX9_isMeasured_65 rfl ?_
              refine V_pc (pc2 := 68) rfl ?_
              refine V_i2l dX9_isMeasured_68 ?_
              refine V_lmul dX9_isMeasured_69 ?_
              refine V_aload_n 3 dX9_isMeasured_70 rfl ?_
              refine G_X9_32 rfl (hM.ms (meaS σ 5)).1 rfl dX9_isMeasured_71 ?_
              refine V_iload_n 0 dX9_isMeasured_74 rfl ?_
              refine V_lald msM_q (vp_in_nI hlt2 (by decide)) dX9_isMeasured_75 ?_
              refine V_lmul dX9_isMeasured_76 ?_
              refine V_lcmp dX9_isMeasured_77 ?_
              refine V_pc (pc2 := 78) rfl ?_
              refine V_if_ne (tgt := 85) dX9_isMeasured_78 (by decide) (fun c78 => ?_) (fun c78 => ?_)
              · refine V_iconst (v := 0) dX9_isMeasured_85 rfl ?_
                refine V_istore_n (lv2 := [(1, .int _), (3, .int _), (2, .int _), (0, .ref _)]) dX9_isMeasured_86 (Nat.le_of_ble_eq_true rfl) rfl ?_
                refine V_iinc (v := _ + 1) (lv2 := [(3, .int _), (1, .int _), (2, .int _), (0, .ref _)]) 1 dX9_isMeasured_87 rfl rfl (Nat.le_of_ble_eq_true rfl) rfl ?_
                refine V_goto (tgt := 17) dX9_isMeasured_90 (by decide) ?_
                refine V_lv (lv2 := [(3, .int _), (2, .int _), (1, .int _), (0, .ref _)]) [0, 2, 1, 3] rfl ?_
                rw [nI_1]
                have i9 := ih2 (j + 1) (by omega) (by omega)
                rw [row_s (by omega), ← Bool.and_assoc] at i9
                rw [nI_clamp (n := i) (by omega), nI_clamp (n := j) (by omega)] at c78
                rw [bI_1 c23, Bool.true_and, show finS σ (meaS σ 5) i j = false by unfold finS; rw [bI_1 c32, decide_eq_false (fun e => c78 (lgc_eq.mpr (by rw [Int64.mul_assoc, Int64.mul_comm ((meaS σ 5).2 i), ← Int64.mul_assoc]; exact e.symm)))]; rfl] at i9
                exact i9
              · refine V_iconst (v := 1) dX9_isMeasured_81 rfl ?_
                refine V_goto (tgt := 86) dX9_isMeasured_82 (by decide) ?_
                refine V_istore_n (lv2 := [(1, .int _), (3, .int _), (2, .int _), (0, .ref _)]) dX9_isMeasured_86 (Nat.le_of_ble_eq_true rfl) rfl ?_
                refine V_iinc (v := _ + 1) (lv2 := [(3, .int _), (1, .int _), (2, .int _), (0, .ref _)]) 1 dX9_isMeasured_87 rfl rfl (Nat.le_of_ble_eq_true rfl) rfl ?_
                refine V_goto (tgt := 17) dX9_isMeasured_90 (by decide) ?_
                refine V_lv (lv2 := [(3, .int _), (2, .int _), (1, .int _), (0, .ref _)]) [0, 2, 1, 3] rfl ?_
                rw [nI_1]
                have i9 := ih2 (j + 1) (by omega) (by omega)
                rw [row_s (by omega), ← Bool.and_assoc] at i9
                rw [nI_clamp (n := i) (by omega), nI_clamp (n := j) (by omega)] at c78
                rw [bI_1 c23, Bool.true_and, show finS σ (meaS σ 5) i j = true by unfold finS; rw [bI_1 c32, decide_eq_true (by have e := lgc_eq.mp c78; rw [Int64.mul_assoc, Int64.mul_comm ((meaS σ 5).2 i), ← Int64.mul_assoc] at e; exact e.symm)]; rfl] at i9
                exact i9
      have i0 := L2 (4 - i) (i + 1) (by omega) (by omega)
      rw [row_0, Bool.and_true] at i0
      exact i0
  refine Run.of rfl (by decide) (Nat.le_of_ble_eq_true rfl) ?_
  show V g m_X9_isMeasured 0 _ [] _ _ _ _ _
  refine V_aload_n 0 dX9_isMeasured_0 rfl ?_
  refine C_X9_98 hM.1 rfl ⟨Nat.le_of_ble_eq_true rfl, Nat.le_of_ble_eq_true rfl⟩ (r9_measures hM hI h3 h4) rfl (Nat.le_of_ble_eq_true rfl) dX9_isMeasured_1 rfl ?_
  refine V_iconst (v := 1) dX9_isMeasured_4 rfl ?_
  refine V_istore_n (lv2 := [(1, .int _), (0, .ref _)]) dX9_isMeasured_5 (Nat.le_of_ble_eq_true rfl) rfl ?_
  refine V_iconst (v := 0) dX9_isMeasured_6 rfl ?_
  refine V_istore_n (lv2 := [(2, .int _), (1, .int _), (0, .ref _)]) dX9_isMeasured_7 (Nat.le_of_ble_eq_true rfl) rfl ?_
  refine V_lv (lv2 := [(2, .int _), (1, .int _), (0, .ref _)]) [0, 1, 2] rfl ?_
  exact L1 5 0 rfl

set_option maxRecDepth 20000 in
theorem r9_lengths {g : GE} {M : Mem} {sz : Nat} {σ v : Nat → Int32} (hM : MD g M σ v) (n : Nat) (hn : σ 60 = nI n) (hn8 : n ≤ 8) : Run g m_X9_lengths [rf g 96] M sz 0 0 (Ret (some (.int (lenS σ n))) M) := by
  have L : ∀ m j : Nat, j + m = n → V g m_X9_lengths 4 [(2, .int (nI j)), (1, .int (lenS σ j)), (0, rf g 96)] [] M sz 0 0 (Ret (some (.int (lenS σ n))) M) := by
    intro m
    induction m with
    | zero =>
      intro j hj
      obtain rfl : j = n := by omega
      refine V_iload_n 0 dX9_lengths_4 rfl ?_
      refine V_aload_n 2 dX9_lengths_5 rfl ?_
      refine G_X9_7 rfl hM.1 rfl dX9_lengths_6 ?_
      refine V_bipush (v := 60) dX9_lengths_9 (by decide) ?_
      refine V_iald hM.2.1 (v65 60 (by decide)) dX9_lengths_11 ?_
      rw [show σ (60 : Int32).toNatClampNeg = nI j from hn]
      refine V_icmp_ge (tgt := 30) dX9_lengths_12 (by decide) (fun c12 => ?_) (fun c12 => absurd (nI_le (Nat.le_refl _) (by omega)) c12)
      refine V_iload_n 1 dX9_lengths_30 rfl ?_
      refine V_pc (pc2 := 31) rfl ?_
      refine V_iret (st := []) dX9_lengths_31 rfl ?_
      exact ⟨rfl, rfl⟩
    | succ m ih =>
      intro j hj
      have hlt : j < n := by omega
      refine V_iload_n 0 dX9_lengths_4 rfl ?_
      refine V_aload_n 2 dX9_lengths_5 rfl ?_
      refine G_X9_7 rfl hM.1 rfl dX9_lengths_6 ?_
      refine V_bipush (v := 60) dX9_lengths_9 (by decide) ?_
      refine V_iald hM.2.1 (v65 60 (by decide)) dX9_lengths_11 ?_
      rw [show σ (60 : Int32).toNatClampNeg = nI n from hn]
      refine V_icmp_ge (tgt := 30) dX9_lengths_12 (by decide) (fun c12 => absurd c12 (nI_ge hlt (by omega))) (fun c12 => ?_)
      refine V_iload_n 1 dX9_lengths_15 rfl ?_
      refine V_pc (pc2 := 16) rfl ?_
      refine V_aload_n 2 dX9_lengths_16 rfl ?_
      refine V_iload_n 0 dX9_lengths_17 rfl ?_
      refine V_iconst (v := 1) dX9_lengths_18 rfl ?_
      refine C_X9_142 hM.1 rfl ⟨Nat.le_of_ble_eq_true rfl, Nat.le_of_ble_eq_true rfl⟩ (r9_ofBolt hM j 1 rfl rfl (by omega) (by decide)) rfl (Nat.le_of_ble_eq_true rfl) dX9_lengths_19 rfl ?_
      refine V_iadd dX9_lengths_22 ?_
      refine V_istore_n (lv2 := [(1, .int _), (2, .int _), (0, .ref _)]) dX9_lengths_23 (Nat.le_of_ble_eq_true rfl) rfl ?_
      refine V_iinc (v := _ + 1) (lv2 := [(2, .int _), (1, .int _), (0, .ref _)]) 1 dX9_lengths_24 rfl rfl (Nat.le_of_ble_eq_true rfl) rfl ?_
      refine V_goto (tgt := 4) dX9_lengths_27 (by decide) ?_
      refine V_lv (lv2 := [(2, .int _), (1, .int _), (0, .ref _)]) [0, 1, 2] rfl ?_
      rw [nI_1]
      exact ih (j + 1) (by omega)
  refine Run.of rfl (by decide) (Nat.le_of_ble_eq_true rfl) ?_
  show V g m_X9_lengths 0 _ [] _ _ _ _ _
  refine V_iconst (v := 0) dX9_lengths_0 rfl ?_
  refine V_istore_n (lv2 := [(1, .int _), (0, .ref _)]) dX9_lengths_1 (Nat.le_of_ble_eq_true rfl) rfl ?_
  refine V_iconst (v := 0) dX9_lengths_2 rfl ?_
  refine V_istore_n (lv2 := [(2, .int _), (1, .int _), (0, .ref _)]) dX9_lengths_3 (Nat.le_of_ble_eq_true rfl) rfl ?_
  refine V_lv (lv2 := [(2, .int _), (1, .int _), (0, .ref _)]) [0, 1, 2] rfl ?_
  exact L n 0 (by omega)

