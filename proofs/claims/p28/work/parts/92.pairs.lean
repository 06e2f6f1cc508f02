/-! what hangs together: the pairs -/
set_option maxRecDepth 20000 in
theorem hg1t {g : GE} {M0 M : Mem} {sz kc ks : Nat} {Q : Ou → Mem → Prop} {σ τ : Nat → Int32} {hk : Bool} {n : Nat} {ps : Nat → Nat → Int32} {len : Nat} {tx : Nat → Int32} (w : CW g M σ τ hk n ps len tx) (hF : FR M0 M 0 96) (hI : I10 σ) {a b : Nat} (ha : a < 5) (hb : b < 5) (hab : a ≠ b) (hh : hasS σ a b = true)  {y1 y2 y3 : Int32} (kk : ∀ M1 sz1, CW g M1 σ τ hk n ps len tx → FR M0 M1 0 96 → V g m_L_hangs 173 [(7, .int (ofTabS σ a b 2)), (6, .int (ofTabS σ a b 0)), (5, .int (nI b)), (4, .int (nI a)), (3, .int y3), (2, .int 1), (1, .int y1), (0, rf g 0)] [] M1 sz1 kc ks Q) : V g m_L_hangs 33 [(5, .int (nI b)), (4, .int (nI a)), (3, .int y3), (2, .int y2), (1, .int y1), (0, rf g 0)] [] M sz kc ks Q := by
  obtain ⟨u1, u2, u3⟩ := uN_v hI ha hb hh
  have hh2 : hasS σ b a = true := by rw [hasS_comm]; exact hh
  obtain ⟨d1, d2, d3⟩ := uN_v hI hb ha hh2
  have ne1 : ¬ ofTabS σ a b 0 = -1 := by rw [of_0t hh, u3]; exact m1_ne (by omega)
  have ne2 : ¬ ofTabS σ b a 0 = -1 := by rw [of_0t hh2, d3]; exact m1_ne (by omega)
  refine V_aload_n 5 dL_hangs_33 rfl ?_
  refine V_iload 1 dL_hangs_34 rfl ?_
  refine V_iload 0 dL_hangs_36 rfl ?_
  refine V_iconst (v := 0) dL_hangs_38 rfl ?_
  refine Cq_L_119 (mc1 := 0) (ms1 := 0) rfl ⟨Nat.le_of_ble_eq_true rfl, Nat.le_of_ble_eq_true rfl⟩ (h_tableOf_ok w.1 (x_tableOf_ok w hI a b ha hb rfl rfl hab (by decide) (by decide))) rfl (Nat.le_of_ble_eq_true rfl) dL_hangs_39 rfl (fun _ hq => ?_)
  have w := hq.1
  have hF := FR.trans (b := 0) (n := 96) hF hq.2 (by omega)
  clear hq
  refine V_istore (lv2 := [(6, .int _), (5, .int _), (4, .int _), (3, .int _), (2, .int _), (1, .int _), (0, .ref _)]) dL_hangs_42 (Nat.le_of_ble_eq_true rfl) rfl ?_
  refine V_aload_n 6 dL_hangs_44 rfl ?_
  refine V_pc (pc2 := 45) rfl ?_
  refine V_iload 2 dL_hangs_45 rfl ?_
  refine V_iload 1 dL_hangs_47 rfl ?_
  refine V_iconst (v := 2) dL_hangs_49 rfl ?_
  refine Cq_L_119 (mc1 := 0) (ms1 := 0) rfl ⟨Nat.le_of_ble_eq_true rfl, Nat.le_of_ble_eq_true rfl⟩ (h_tableOf_ok w.1 (x_tableOf_ok w hI a b ha hb rfl rfl hab (by decide) (by decide))) rfl (Nat.le_of_ble_eq_true rfl) dL_hangs_50 rfl (fun _ hq => ?_)
  have w := hq.1
  have hF := FR.trans (b := 0) (n := 96) hF hq.2 (by omega)
  clear hq
  refine V_istore (lv2 := [(7, .int _), (6, .int _), (5, .int _), (4, .int _), (3, .int _), (2, .int _), (1, .int _), (0, .ref _)]) dL_hangs_53 (Nat.le_of_ble_eq_true rfl) rfl ?_
  refine V_iload 1 dL_hangs_55 rfl ?_
  refine V_aload_n 7 dL_hangs_57 rfl ?_
  refine V_iload 2 dL_hangs_58 rfl ?_
  refine V_pc (pc2 := 60) rfl ?_
  refine V_iload 3 dL_hangs_60 rfl ?_
  refine V_iconst (v := 1) dL_hangs_62 rfl ?_
  refine Cq_L_119 (mc1 := 0) (ms1 := 0) rfl ⟨Nat.le_of_ble_eq_true rfl, Nat.le_of_ble_eq_true rfl⟩ (h_tableOf_ok w.1 (x_tableOf_ok w hI b a hb ha rfl rfl (Ne.symm hab) (by decide) (by decide))) rfl (Nat.le_of_ble_eq_true rfl) dL_hangs_63 rfl (fun _ hq => ?_)
  have w := hq.1
  have hF := FR.trans (b := 0) (n := 96) hF hq.2 (by omega)
  clear hq
  refine V_icmp_ne (tgt := 171) dL_hangs_66 (by decide) (fun c66 => absurd (of_12 σ a b) c66) (fun c66 => ?_)
  refine V_iload 0 dL_hangs_69 rfl ?_
  refine V_aload_n 7 dL_hangs_71 rfl ?_
  refine V_iload 2 dL_hangs_72 rfl ?_
  refine V_iload 3 dL_hangs_74 rfl ?_
  refine V_pc (pc2 := 76) rfl ?_
  refine V_iconst (v := 2) dL_hangs_76 rfl ?_
  refine Cq_L_119 (mc1 := 0) (ms1 := 0) rfl ⟨Nat.le_of_ble_eq_true rfl, Nat.le_of_ble_eq_true rfl⟩ (h_tableOf_ok w.1 (x_tableOf_ok w hI b a hb ha rfl rfl (Ne.symm hab) (by decide) (by decide))) rfl (Nat.le_of_ble_eq_true rfl) dL_hangs_77 rfl (fun _ hq => ?_)
  have w := hq.1
  have hF := FR.trans (b := 0) (n := 96) hF hq.2 (by omega)
  clear hq
  refine V_icmp_ne (tgt := 171) dL_hangs_80 (by decide) (fun c80 => absurd (of_22 σ a b) c80) (fun c80 => ?_)
  refine V_iload 1 dL_hangs_83 rfl ?_
  refine V_iconst (v := -1) dL_hangs_85 rfl ?_
  refine V_icmp_ne (tgt := 93) dL_hangs_86 (by decide) (fun c86 => ?_) (fun c86 => absurd c86 ne1)
  refine V_iconst (v := 0) dL_hangs_93 rfl ?_
  refine V_aload_n 7 dL_hangs_94 rfl ?_
  refine V_pc (pc2 := 95) rfl ?_
  refine V_iload 2 dL_hangs_95 rfl ?_
  refine V_iload 3 dL_hangs_97 rfl ?_
  refine V_iconst (v := 0) dL_hangs_99 rfl ?_
  refine Cq_L_119 (mc1 := 0) (ms1 := 0) rfl ⟨Nat.le_of_ble_eq_true rfl, Nat.le_of_ble_eq_true rfl⟩ (h_tableOf_ok w.1 (x_tableOf_ok w hI b a hb ha rfl rfl (Ne.symm hab) (by decide) (by decide))) rfl (Nat.le_of_ble_eq_true rfl) dL_hangs_100 rfl (fun _ hq => ?_)
  have w := hq.1
  have hF := FR.trans (b := 0) (n := 96) hF hq.2 (by omega)
  clear hq
  refine V_iconst (v := -1) dL_hangs_103 rfl ?_
  refine V_icmp_ne (tgt := 111) dL_hangs_104 (by decide) (fun c104 => ?_) (fun c104 => absurd c104 ne2)
  refine V_iconst (v := 0) dL_hangs_111 rfl ?_
  refine V_icmp_ne (tgt := 171) dL_hangs_112 (by decide) (fun c112 => absurd rfl c112) (fun c112 => ?_)
  refine V_pc (pc2 := 115) rfl ?_
  refine V_iload 1 dL_hangs_115 rfl ?_
  refine V_iconst (v := -1) dL_hangs_117 rfl ?_
  refine V_icmp_ne (tgt := 143) dL_hangs_118 (by decide) (fun c118 => ?_) (fun c118 => absurd c118 ne1)
  refine V_iload 1 dL_hangs_143 rfl ?_
  refine V_if_le (tgt := 171) dL_hangs_145 (by decide) (fun c145 => absurd c145 (by rw [of_0t hh, u3]; exact nI_nle (by omega) (by omega))) (fun c145 => ?_)
  refine V_iload 1 dL_hangs_148 rfl ?_
  refine V_bipush (v := 100) dL_hangs_150 (by decide) ?_
  refine V_icmp_ge (tgt := 171) dL_hangs_152 (by decide) (fun c152 => absurd c152 (by rw [of_0t hh, u3]; exact nI_ge (b := 100) (by omega) (by decide))) (fun c152 => ?_)
  refine V_pc (pc2 := 155) rfl ?_
  refine V_aload_n 7 dL_hangs_155 rfl ?_
  refine V_iload 3 dL_hangs_156 rfl ?_
  refine V_iload 2 dL_hangs_158 rfl ?_
  refine V_iconst (v := 0) dL_hangs_160 rfl ?_
  refine Cq_L_122 (mc1 := 0) (ms1 := 0) rfl ⟨Nat.le_of_ble_eq_true rfl, Nat.le_of_ble_eq_true rfl⟩ (h_turned_ok w.1 (x_turned_ok w hI a b ha hb rfl rfl hab (by decide) (by decide))) rfl (Nat.le_of_ble_eq_true rfl) dL_hangs_161 rfl (fun _ hq => ?_)
  have w := hq.1
  have hF := FR.trans (b := 0) (n := 96) hF hq.2 (by omega)
  clear hq
  refine V_if_ne (tgt := 171) dL_hangs_164 (by decide) (fun c164 => absurd (turned_0 hI ha hb hh) c164) (fun c164 => ?_)
  refine V_iconst (v := 1) dL_hangs_167 rfl ?_
  refine V_goto (tgt := 172) dL_hangs_168 (by decide) ?_
  refine V_pc (pc2 := 172) rfl ?_
  refine V_istore_n (lv2 := [(2, .int _), (7, .int _), (6, .int _), (5, .int _), (4, .int _), (3, .int _), (1, .int _), (0, .ref _)]) dL_hangs_172 (Nat.le_of_ble_eq_true rfl) rfl ?_
  refine V_lv (lv2 := [(7, .int _), (6, .int _), (5, .int _), (4, .int _), (3, .int _), (2, .int _), (1, .int _), (0, .ref _)]) [1, 2, 3, 4, 5, 0, 6, 7] rfl ?_
  exact kk _ _ w hF

set_option maxRecDepth 20000 in
theorem hg1n {g : GE} {M0 M : Mem} {sz kc ks : Nat} {Q : Ou → Mem → Prop} {σ τ : Nat → Int32} {hk : Bool} {n : Nat} {ps : Nat → Nat → Int32} {len : Nat} {tx : Nat → Int32} (w : CW g M σ τ hk n ps len tx) (hF : FR M0 M 0 96) (hI : I10 σ) {a b : Nat} (ha : a < 5) (hb : b < 5) (hab : a ≠ b) (hh : hasS σ a b = false)  {y1 y2 y3 : Int32} (kk : ∀ M1 sz1, CW g M1 σ τ hk n ps len tx → FR M0 M1 0 96 → V g m_L_hangs 173 [(7, .int (ofTabS σ a b 2)), (6, .int (ofTabS σ a b 0)), (5, .int (nI b)), (4, .int (nI a)), (3, .int y3), (2, .int 1), (1, .int y1), (0, rf g 0)] [] M1 sz1 kc ks Q) : V g m_L_hangs 33 [(5, .int (nI b)), (4, .int (nI a)), (3, .int y3), (2, .int y2), (1, .int y1), (0, rf g 0)] [] M sz kc ks Q := by
  have hh2 : hasS σ b a = false := by rw [hasS_comm]; exact hh
  refine V_aload_n 5 dL_hangs_33 rfl ?_
  refine V_iload 1 dL_hangs_34 rfl ?_
  refine V_iload 0 dL_hangs_36 rfl ?_
  refine V_iconst (v := 0) dL_hangs_38 rfl ?_
  refine Cq_L_119 (mc1 := 0) (ms1 := 0) rfl ⟨Nat.le_of_ble_eq_true rfl, Nat.le_of_ble_eq_true rfl⟩ (h_tableOf_ok w.1 (x_tableOf_ok w hI a b ha hb rfl rfl hab (by decide) (by decide))) rfl (Nat.le_of_ble_eq_true rfl) dL_hangs_39 rfl (fun _ hq => ?_)
  have w := hq.1
  have hF := FR.trans (b := 0) (n := 96) hF hq.2 (by omega)
  clear hq
  refine V_istore (lv2 := [(6, .int _), (5, .int _), (4, .int _), (3, .int _), (2, .int _), (1, .int _), (0, .ref _)]) dL_hangs_42 (Nat.le_of_ble_eq_true rfl) rfl ?_
  refine V_aload_n 6 dL_hangs_44 rfl ?_
  refine V_pc (pc2 := 45) rfl ?_
  refine V_iload 2 dL_hangs_45 rfl ?_
  refine V_iload 1 dL_hangs_47 rfl ?_
  refine V_iconst (v := 2) dL_hangs_49 rfl ?_
  refine Cq_L_119 (mc1 := 0) (ms1 := 0) rfl ⟨Nat.le_of_ble_eq_true rfl, Nat.le_of_ble_eq_true rfl⟩ (h_tableOf_ok w.1 (x_tableOf_ok w hI a b ha hb rfl rfl hab (by decide) (by decide))) rfl (Nat.le_of_ble_eq_true rfl) dL_hangs_50 rfl (fun _ hq => ?_)
  have w := hq.1
  have hF := FR.trans (b := 0) (n := 96) hF hq.2 (by omega)
  clear hq
  refine V_istore (lv2 := [(7, .int _), (6, .int _), (5, .int _), (4, .int _), (3, .int _), (2, .int _), (1, .int _), (0, .ref _)]) dL_hangs_53 (Nat.le_of_ble_eq_true rfl) rfl ?_
  refine V_iload 1 dL_hangs_55 rfl ?_
  refine V_aload_n 7 dL_hangs_57 rfl ?_
  refine V_iload 2 dL_hangs_58 rfl ?_
  refine V_pc (pc2 := 60) rfl ?_
  refine V_iload 3 dL_hangs_60 rfl ?_
  refine V_iconst (v := 1) dL_hangs_62 rfl ?_
  refine Cq_L_119 (mc1 := 0) (ms1 := 0) rfl ⟨Nat.le_of_ble_eq_true rfl, Nat.le_of_ble_eq_true rfl⟩ (h_tableOf_ok w.1 (x_tableOf_ok w hI b a hb ha rfl rfl (Ne.symm hab) (by decide) (by decide))) rfl (Nat.le_of_ble_eq_true rfl) dL_hangs_63 rfl (fun _ hq => ?_)
  have w := hq.1
  have hF := FR.trans (b := 0) (n := 96) hF hq.2 (by omega)
  clear hq
  refine V_icmp_ne (tgt := 171) dL_hangs_66 (by decide) (fun c66 => absurd (of_12 σ a b) c66) (fun c66 => ?_)
  refine V_iload 0 dL_hangs_69 rfl ?_
  refine V_aload_n 7 dL_hangs_71 rfl ?_
  refine V_iload 2 dL_hangs_72 rfl ?_
  refine V_iload 3 dL_hangs_74 rfl ?_
  refine V_pc (pc2 := 76) rfl ?_
  refine V_iconst (v := 2) dL_hangs_76 rfl ?_
  refine Cq_L_119 (mc1 := 0) (ms1 := 0) rfl ⟨Nat.le_of_ble_eq_true rfl, Nat.le_of_ble_eq_true rfl⟩ (h_tableOf_ok w.1 (x_tableOf_ok w hI b a hb ha rfl rfl (Ne.symm hab) (by decide) (by decide))) rfl (Nat.le_of_ble_eq_true rfl) dL_hangs_77 rfl (fun _ hq => ?_)
  have w := hq.1
  have hF := FR.trans (b := 0) (n := 96) hF hq.2 (by omega)
  clear hq
  refine V_icmp_ne (tgt := 171) dL_hangs_80 (by decide) (fun c80 => absurd (of_22 σ a b) c80) (fun c80 => ?_)
  refine V_iload 1 dL_hangs_83 rfl ?_
  refine V_iconst (v := -1) dL_hangs_85 rfl ?_
  refine V_icmp_ne (tgt := 93) dL_hangs_86 (by decide) (fun c86 => absurd (of_0f hh) c86) (fun c86 => ?_)
  refine V_iconst (v := 1) dL_hangs_89 rfl ?_
  refine V_goto (tgt := 94) dL_hangs_90 (by decide) ?_
  refine V_pc (pc2 := 94) rfl ?_
  refine V_aload_n 7 dL_hangs_94 rfl ?_
  refine V_iload 2 dL_hangs_95 rfl ?_
  refine V_iload 3 dL_hangs_97 rfl ?_
  refine V_iconst (v := 0) dL_hangs_99 rfl ?_
  refine Cq_L_119 (mc1 := 0) (ms1 := 0) rfl ⟨Nat.le_of_ble_eq_true rfl, Nat.le_of_ble_eq_true rfl⟩ (h_tableOf_ok w.1 (x_tableOf_ok w hI b a hb ha rfl rfl (Ne.symm hab) (by decide) (by decide))) rfl (Nat.le_of_ble_eq_true rfl) dL_hangs_100 rfl (fun _ hq => ?_)
  have w := hq.1
  have hF := FR.trans (b := 0) (n := 96) hF hq.2 (by omega)
  clear hq
  refine V_iconst (v := -1) dL_hangs_103 rfl ?_
  refine V_icmp_ne (tgt := 111) dL_hangs_104 (by decide) (fun c104 => absurd (of_0f hh2) c104) (fun c104 => ?_)
  refine V_iconst (v := 1) dL_hangs_107 rfl ?_
  refine V_pc (pc2 := 108) rfl ?_
  refine V_goto (tgt := 112) dL_hangs_108 (by decide) ?_
  refine V_icmp_ne (tgt := 171) dL_hangs_112 (by decide) (fun c112 => absurd rfl c112) (fun c112 => ?_)
  refine V_iload 1 dL_hangs_115 rfl ?_
  refine V_iconst (v := -1) dL_hangs_117 rfl ?_
  refine V_icmp_ne (tgt := 143) dL_hangs_118 (by decide) (fun c118 => absurd (of_0f hh) c118) (fun c118 => ?_)
  refine V_iload 0 dL_hangs_121 rfl ?_
  refine V_if_ne (tgt := 171) dL_hangs_123 (by decide) (fun c123 => absurd (of_2f hh) c123) (fun c123 => ?_)
  refine V_aload_n 7 dL_hangs_126 rfl ?_
  refine V_pc (pc2 := 127) rfl ?_
  refine V_iload 3 dL_hangs_127 rfl ?_
  refine V_iload 2 dL_hangs_129 rfl ?_
  refine V_bipush (v := 9) dL_hangs_131 (by decide) ?_
  refine Cq_L_122 (mc1 := 0) (ms1 := 0) rfl ⟨Nat.le_of_ble_eq_true rfl, Nat.le_of_ble_eq_true rfl⟩ (h_turned_ok w.1 (x_turned_ok w hI a b ha hb rfl rfl hab (by decide) (by decide))) rfl (Nat.le_of_ble_eq_true rfl) dL_hangs_133 rfl (fun _ hq => ?_)
  have w := hq.1
  have hF := FR.trans (b := 0) (n := 96) hF hq.2 (by omega)
  clear hq
  refine V_iconst (v := -1) dL_hangs_136 rfl ?_
  refine V_icmp_ne (tgt := 171) dL_hangs_137 (by decide) (fun c137 => absurd (by unfold turnedS; rw [if_neg (by rw [hh]; decide)]) c137) (fun c137 => ?_)
  refine V_goto (tgt := 167) dL_hangs_140 (by decide) ?_
  refine V_iconst (v := 1) dL_hangs_167 rfl ?_
  refine V_pc (pc2 := 168) rfl ?_
  refine V_goto (tgt := 172) dL_hangs_168 (by decide) ?_
  refine V_istore_n (lv2 := [(2, .int _), (7, .int _), (6, .int _), (5, .int _), (4, .int _), (3, .int _), (1, .int _), (0, .ref _)]) dL_hangs_172 (Nat.le_of_ble_eq_true rfl) rfl ?_
  refine V_lv (lv2 := [(7, .int _), (6, .int _), (5, .int _), (4, .int _), (3, .int _), (2, .int _), (1, .int _), (0, .ref _)]) [1, 2, 3, 4, 5, 0, 6, 7] rfl ?_
  exact kk _ _ w hF

set_option maxRecDepth 20000 in
theorem hg2t {g : GE} {M0 M : Mem} {sz kc ks : Nat} {Q : Ou → Mem → Prop} {σ τ : Nat → Int32} {hk : Bool} {n : Nat} {ps : Nat → Nat → Int32} {len : Nat} {tx : Nat → Int32} (w : CW g M σ τ hk n ps len tx) (hF : FR M0 M 0 96) (hI : I10 σ) {a b : Nat} (ha : a < 5) (hb : b < 5) (hab : a ≠ b) (hh : hasS σ a b = true) (hlt : a < b)  {y1 y2 y3 : Int32} (kk : ∀ M1 sz1, CW g M1 σ τ hk n ps len tx → FR M0 M1 0 96 → V g m_L_hangs 193 [(6, .int (ofTabS σ a b 0)), (5, .int (nI b)), (4, .int (nI a)), (3, .int y3), (2, .int y2), (1, .int (y1 + 1)), (0, rf g 0)] [] M1 sz1 kc ks Q) : V g m_L_hangs 173 [(7, .int (ofTabS σ a b 2)), (6, .int (ofTabS σ a b 0)), (5, .int (nI b)), (4, .int (nI a)), (3, .int y3), (2, .int y2), (1, .int y1), (0, rf g 0)] [] M sz kc ks Q := by
  obtain ⟨u1, u2, u3⟩ := uN_v hI ha hb hh
  have hh2 : hasS σ b a = true := by rw [hasS_comm]; exact hh
  obtain ⟨d1, d2, d3⟩ := uN_v hI hb ha hh2
  have ne1 : ¬ ofTabS σ a b 0 = -1 := by rw [of_0t hh, u3]; exact m1_ne (by omega)
  have ne2 : ¬ ofTabS σ b a 0 = -1 := by rw [of_0t hh2, d3]; exact m1_ne (by omega)
  refine V_iload_n 6 dL_hangs_173 rfl ?_
  refine V_iload 3 dL_hangs_174 rfl ?_
  refine V_iload 2 dL_hangs_176 rfl ?_
  refine V_icmp_ge (tgt := 190) dL_hangs_178 (by decide) (fun c178 => absurd c178 (nI_ge hlt (by omega))) (fun c178 => ?_)
  refine V_iload 1 dL_hangs_181 rfl ?_
  refine V_if_le (tgt := 190) dL_hangs_183 (by decide) (fun c183 => absurd c183 (by rw [of_0t hh, u3]; exact nI_nle (by omega) (by omega))) (fun c183 => ?_)
  refine V_iconst (v := 1) dL_hangs_186 rfl ?_
  refine V_pc (pc2 := 187) rfl ?_
  refine V_goto (tgt := 191) dL_hangs_187 (by decide) ?_
  refine V_iadd dL_hangs_191 ?_
  refine V_istore_n (lv2 := [(1, .int _), (7, .int _), (6, .int _), (5, .int _), (4, .int _), (3, .int _), (2, .int _), (0, .ref _)]) dL_hangs_192 (Nat.le_of_ble_eq_true rfl) rfl ?_
  refine V_lv (lv2 := [(6, .int _), (5, .int _), (4, .int _), (3, .int _), (2, .int _), (1, .int _), (0, .ref _)]) [2, 3, 4, 5, 6, 0, 7] rfl ?_
  exact kk _ _ w hF

set_option maxRecDepth 20000 in
theorem hg2g {g : GE} {M0 M : Mem} {sz kc ks : Nat} {Q : Ou → Mem → Prop} {σ τ : Nat → Int32} {hk : Bool} {n : Nat} {ps : Nat → Nat → Int32} {len : Nat} {tx : Nat → Int32} (w : CW g M σ τ hk n ps len tx) (hF : FR M0 M 0 96) (hI : I10 σ) {a b : Nat} (ha : a < 5) (hb : b < 5) (hab : a ≠ b) (hge : b < a)  {y1 y2 y3 : Int32} (kk : ∀ M1 sz1, CW g M1 σ τ hk n ps len tx → FR M0 M1 0 96 → V g m_L_hangs 193 [(6, .int (ofTabS σ a b 0)), (5, .int (nI b)), (4, .int (nI a)), (3, .int y3), (2, .int y2), (1, .int (y1 + 0)), (0, rf g 0)] [] M1 sz1 kc ks Q) : V g m_L_hangs 173 [(7, .int (ofTabS σ a b 2)), (6, .int (ofTabS σ a b 0)), (5, .int (nI b)), (4, .int (nI a)), (3, .int y3), (2, .int y2), (1, .int y1), (0, rf g 0)] [] M sz kc ks Q := by
  refine V_iload_n 6 dL_hangs_173 rfl ?_
  refine V_iload 3 dL_hangs_174 rfl ?_
  refine V_iload 2 dL_hangs_176 rfl ?_
  refine V_icmp_ge (tgt := 190) dL_hangs_178 (by decide) (fun c178 => ?_) (fun c178 => absurd (nI_le (by omega) (by omega)) c178)
  refine V_iconst (v := 0) dL_hangs_190 rfl ?_
  refine V_iadd dL_hangs_191 ?_
  refine V_istore_n (lv2 := [(1, .int _), (7, .int _), (6, .int _), (5, .int _), (4, .int _), (3, .int _), (2, .int _), (0, .ref _)]) dL_hangs_192 (Nat.le_of_ble_eq_true rfl) rfl ?_
  refine V_lv (lv2 := [(6, .int _), (5, .int _), (4, .int _), (3, .int _), (2, .int _), (1, .int _), (0, .ref _)]) [2, 3, 4, 5, 6, 0, 7] rfl ?_
  exact kk _ _ w hF

set_option maxRecDepth 20000 in
theorem hg2n {g : GE} {M0 M : Mem} {sz kc ks : Nat} {Q : Ou → Mem → Prop} {σ τ : Nat → Int32} {hk : Bool} {n : Nat} {ps : Nat → Nat → Int32} {len : Nat} {tx : Nat → Int32} (w : CW g M σ τ hk n ps len tx) (hF : FR M0 M 0 96) (hI : I10 σ) {a b : Nat} (ha : a < 5) (hb : b < 5) (hab : a ≠ b) (hh : hasS σ a b = false) (hlt : a < b)  {y1 y2 y3 : Int32} (kk : ∀ M1 sz1, CW g M1 σ τ hk n ps len tx → FR M0 M1 0 96 → V g m_L_hangs 193 [(6, .int (ofTabS σ a b 0)), (5, .int (nI b)), (4, .int (nI a)), (3, .int y3), (2, .int y2), (1, .int (y1 + 0)), (0, rf g 0)] [] M1 sz1 kc ks Q) : V g m_L_hangs 173 [(7, .int (ofTabS σ a b 2)), (6, .int (ofTabS σ a b 0)), (5, .int (nI b)), (4, .int (nI a)), (3, .int y3), (2, .int y2), (1, .int y1), (0, rf g 0)] [] M sz kc ks Q := by
  refine V_iload_n 6 dL_hangs_173 rfl ?_
  refine V_iload 3 dL_hangs_174 rfl ?_
  refine V_iload 2 dL_hangs_176 rfl ?_
  refine V_icmp_ge (tgt := 190) dL_hangs_178 (by decide) (fun c178 => absurd c178 (nI_ge hlt (by omega))) (fun c178 => ?_)
  refine V_iload 1 dL_hangs_181 rfl ?_
  refine V_if_le (tgt := 190) dL_hangs_183 (by decide) (fun c183 => ?_) (fun c183 => absurd (by rw [of_0f hh]; decide) c183)
  refine V_iconst (v := 0) dL_hangs_190 rfl ?_
  refine V_pc (pc2 := 191) rfl ?_
  refine V_iadd dL_hangs_191 ?_
  refine V_istore_n (lv2 := [(1, .int _), (7, .int _), (6, .int _), (5, .int _), (4, .int _), (3, .int _), (2, .int _), (0, .ref _)]) dL_hangs_192 (Nat.le_of_ble_eq_true rfl) rfl ?_
  refine V_lv (lv2 := [(6, .int _), (5, .int _), (4, .int _), (3, .int _), (2, .int _), (1, .int _), (0, .ref _)]) [2, 3, 4, 5, 6, 0, 7] rfl ?_
  exact kk _ _ w hF

set_option maxRecDepth 20000 in
theorem hg3n {g : GE} {M0 M : Mem} {sz kc ks : Nat} {Q : Ou → Mem → Prop} {σ τ : Nat → Int32} {hk : Bool} {n : Nat} {ps : Nat → Nat → Int32} {len : Nat} {tx : Nat → Int32} (w : CW g M σ τ hk n ps len tx) (hF : FR M0 M 0 96) (hI : I10 σ) {a b : Nat} (ha : a < 5) (hb : b < 5) (hab : a ≠ b) {K : Nat} (hK : σ 27 = nI K) (hK1 : 1 ≤ K) (hK4 : K ≤ 4) (hh : hasS σ a b = false) (hn : bwS σ a b (50 : Int32).toInt64 K 16 = none)  {y1 y3 : Int32} (kk : ∀ M1 sz1, CW g M1 σ τ hk n ps len tx → FR M0 M1 0 96 → V g m_L_hangs 289 [(6, .int (ofTabS σ a b 0)), (5, .int (nI b)), (4, .int (nI a)), (3, .int y3), (2, .int 1), (1, .int y1), (0, rf g 0)] [] M1 sz1 kc ks Q) : V g m_L_hangs 193 [(6, .int (ofTabS σ a b 0)), (5, .int (nI b)), (4, .int (nI a)), (3, .int y3), (2, .int 1), (1, .int y1), (0, rf g 0)] [] M sz kc ks Q := by
  refine V_aload_n 6 dL_hangs_193 rfl ?_
  refine V_iload 2 dL_hangs_194 rfl ?_
  refine V_iload 1 dL_hangs_196 rfl ?_
  refine V_bipush (v := 50) dL_hangs_198 (by decide) ?_
  refine Cq_L_124 (mc1 := 0) (ms1 := 0) rfl ⟨Nat.le_of_ble_eq_true rfl, Nat.le_of_ble_eq_true rfl⟩ (h_bestWay_ok w.1 (x_bestWay_ok w hI a b K ha hb rfl rfl hab hK hK1 hK4 (by decide) (by decide))) rfl (Nat.le_of_ble_eq_true rfl) dL_hangs_200 rfl (fun _ hq => ?_)
  have w := hq.1
  have hF := FR.trans (b := 0) (n := 96) hF hq.2 (by omega)
  clear hq
  refine V_istore (lv2 := [(8, .int _), (6, .int _), (5, .int _), (4, .int _), (3, .int _), (2, .int _), (1, .int _), (0, .ref _)]) dL_hangs_203 (Nat.le_of_ble_eq_true rfl) rfl ?_
  refine V_iload_n 5 dL_hangs_205 rfl ?_
  refine V_pc (pc2 := 206) rfl ?_
  refine V_if_eq (tgt := 287) dL_hangs_206 (by decide) (fun c206 => absurd c206 (by decide)) (fun c206 => ?_)
  refine V_iload 0 dL_hangs_209 rfl ?_
  refine V_iconst (v := -1) dL_hangs_211 rfl ?_
  refine V_icmp_eq (tgt := 239) dL_hangs_212 (by decide) (fun c212 => ?_) (fun c212 => absurd (by rw [hn]; rfl) c212)
  refine V_iload 1 dL_hangs_239 rfl ?_
  refine V_iconst (v := -1) dL_hangs_241 rfl ?_
  refine V_icmp_eq (tgt := 250) dL_hangs_242 (by decide) (fun c242 => ?_) (fun c242 => absurd (of_0f hh) c242)
  refine V_iload 0 dL_hangs_250 rfl ?_
  refine V_pc (pc2 := 252) rfl ?_
  refine V_iconst (v := -1) dL_hangs_252 rfl ?_
  refine V_icmp_ne (tgt := 260) dL_hangs_253 (by decide) (fun c253 => absurd (by rw [hn]; rfl) c253) (fun c253 => ?_)
  refine V_iconst (v := 1) dL_hangs_256 rfl ?_
  refine V_goto (tgt := 261) dL_hangs_257 (by decide) ?_
  refine V_aload_n 7 dL_hangs_261 rfl ?_
  refine V_iload 2 dL_hangs_262 rfl ?_
  refine V_iload 3 dL_hangs_264 rfl ?_
  refine V_bipush (v := 50) dL_hangs_266 (by decide) ?_
  refine V_pc (pc2 := 268) rfl ?_
  refine Cq_L_124 (mc1 := 0) (ms1 := 0) rfl ⟨Nat.le_of_ble_eq_true rfl, Nat.le_of_ble_eq_true rfl⟩ (h_bestWay_ok w.1 (x_bestWay_ok w hI b a K hb ha rfl rfl (Ne.symm hab) hK hK1 hK4 (by decide) (by decide))) rfl (Nat.le_of_ble_eq_true rfl) dL_hangs_268 rfl (fun _ hq => ?_)
  have w := hq.1
  have hF := FR.trans (b := 0) (n := 96) hF hq.2 (by omega)
  clear hq
  refine V_iconst (v := -1) dL_hangs_271 rfl ?_
  refine V_icmp_ne (tgt := 279) dL_hangs_272 (by decide) (fun c272 => absurd (by rw [bw_rev ha hb hab hn]; rfl) c272) (fun c272 => ?_)
  refine V_iconst (v := 1) dL_hangs_275 rfl ?_
  refine V_goto (tgt := 280) dL_hangs_276 (by decide) ?_
  refine V_icmp_ne (tgt := 287) dL_hangs_280 (by decide) (fun c280 => absurd rfl c280) (fun c280 => ?_)
  refine V_iconst (v := 1) dL_hangs_283 rfl ?_
  refine V_goto (tgt := 288) dL_hangs_284 (by decide) ?_
  refine V_pc (pc2 := 288) rfl ?_
  refine V_istore_n (lv2 := [(2, .int _), (8, .int _), (6, .int _), (5, .int _), (4, .int _), (3, .int _), (1, .int _), (0, .ref _)]) dL_hangs_288 (Nat.le_of_ble_eq_true rfl) rfl ?_
  refine V_lv (lv2 := [(6, .int _), (5, .int _), (4, .int _), (3, .int _), (2, .int _), (1, .int _), (0, .ref _)]) [2, 3, 4, 5, 0, 6, 7] rfl ?_
  exact kk _ _ w hF

set_option maxRecDepth 20000 in
theorem hg3f {g : GE} {M0 M : Mem} {sz kc ks : Nat} {Q : Ou → Mem → Prop} {σ τ : Nat → Int32} {hk : Bool} {n : Nat} {ps : Nat → Nat → Int32} {len : Nat} {tx : Nat → Int32} (w : CW g M σ τ hk n ps len tx) (hF : FR M0 M 0 96) (hI : I10 σ) {a b : Nat} (ha : a < 5) (hb : b < 5) (hab : a ≠ b) {K : Nat} (hK : σ 27 = nI K) (hK1 : 1 ≤ K) (hK4 : K ≤ 4) (hh : hasS σ a b = false) (hs : bwS σ a b (50 : Int32).toInt64 K 16 ≠ none)  {y1 y3 : Int32} (kk : ∀ M1 sz1, CW g M1 σ τ hk n ps len tx → FR M0 M1 0 96 → V g m_L_hangs 289 [(6, .int (ofTabS σ a b 0)), (5, .int (nI b)), (4, .int (nI a)), (3, .int y3), (2, .int 1), (1, .int y1), (0, rf g 0)] [] M1 sz1 kc ks Q) : V g m_L_hangs 193 [(6, .int (ofTabS σ a b 0)), (5, .int (nI b)), (4, .int (nI a)), (3, .int y3), (2, .int 1), (1, .int y1), (0, rf g 0)] [] M sz kc ks Q := by
  obtain ⟨v, v1, v2, v3, v4⟩ := fC_v ha hb hab hs
  obtain ⟨v', v1', v2', v3', v4'⟩ := fC_v (x := (50 : Int32).toInt64) (K := K) hb ha (Ne.symm hab) (fun e => hs (bw_rev hb ha (Ne.symm hab) e))
  have nw : ¬ fC (bwS σ a b (50 : Int32).toInt64 K 16) = -1 := by rw [v1]; exact m1_ne (by omega)
  have nw' : ¬ fC (bwS σ b a (50 : Int32).toInt64 K 16) = -1 := by rw [v1']; exact m1_ne (by omega)
  have hrem : fC (bwS σ a b (50 : Int32).toInt64 K 16) - fC (bwS σ a b (50 : Int32).toInt64 K 16) / 10 * 10 = nI b := by
    have e : nI v - nI v / 10 * 10 = nI (v % 10) := pk_rem (by omega) (by decide) (by decide)
    rw [v1, e, v4]
  refine V_aload_n 6 dL_hangs_193 rfl ?_
  refine V_iload 2 dL_hangs_194 rfl ?_
  refine V_iload 1 dL_hangs_196 rfl ?_
  refine V_bipush (v := 50) dL_hangs_198 (by decide) ?_
  refine Cq_L_124 (mc1 := 0) (ms1 := 0) rfl ⟨Nat.le_of_ble_eq_true rfl, Nat.le_of_ble_eq_true rfl⟩ (h_bestWay_ok w.1 (x_bestWay_ok w hI a b K ha hb rfl rfl hab hK hK1 hK4 (by decide) (by decide))) rfl (Nat.le_of_ble_eq_true rfl) dL_hangs_200 rfl (fun _ hq => ?_)
  have w := hq.1
  have hF := FR.trans (b := 0) (n := 96) hF hq.2 (by omega)
  clear hq
  refine V_istore (lv2 := [(8, .int _), (6, .int _), (5, .int _), (4, .int _), (3, .int _), (2, .int _), (1, .int _), (0, .ref _)]) dL_hangs_203 (Nat.le_of_ble_eq_true rfl) rfl ?_
  refine V_iload_n 5 dL_hangs_205 rfl ?_
  refine V_pc (pc2 := 206) rfl ?_
  refine V_if_eq (tgt := 287) dL_hangs_206 (by decide) (fun c206 => absurd c206 (by decide)) (fun c206 => ?_)
  refine V_iload 0 dL_hangs_209 rfl ?_
  refine V_iconst (v := -1) dL_hangs_211 rfl ?_
  refine V_icmp_eq (tgt := 239) dL_hangs_212 (by decide) (fun c212 => absurd c212 nw) (fun c212 => ?_)
  refine V_iload 0 dL_hangs_215 rfl ?_
  refine V_ldc z_L_126 dL_hangs_217 ?_
  refine V_icmp_le (tgt := 287) dL_hangs_219 (by decide) (fun c219 => absurd c219 (by rw [v1]; exact nI_ge (a := 100000) (by omega) (by omega))) (fun c219 => ?_)
  refine V_iload 0 dL_hangs_222 rfl ?_
  refine V_pc (pc2 := 224) rfl ?_
  refine V_ldc z_L_127 dL_hangs_224 ?_
  refine V_icmp_ge (tgt := 287) dL_hangs_226 (by decide) (fun c226 => absurd c226 (by rw [v1]; exact nI_ge (b := 200000) (by omega) (by decide))) (fun c226 => ?_)
  refine V_iload 0 dL_hangs_229 rfl ?_
  refine V_bipush (v := 10) dL_hangs_231 (by decide) ?_
  refine V_irem dL_hangs_233 (by decide) ?_
  refine V_iload 2 dL_hangs_234 rfl ?_
  refine V_icmp_ne (tgt := 287) dL_hangs_236 (by decide) (fun c236 => absurd hrem c236) (fun c236 => ?_)
  refine V_iload 1 dL_hangs_239 rfl ?_
  refine V_pc (pc2 := 241) rfl ?_
  refine V_iconst (v := -1) dL_hangs_241 rfl ?_
  refine V_icmp_eq (tgt := 250) dL_hangs_242 (by decide) (fun c242 => ?_) (fun c242 => absurd (of_0f hh) c242)
  refine V_iload 0 dL_hangs_250 rfl ?_
  refine V_iconst (v := -1) dL_hangs_252 rfl ?_
  refine V_icmp_ne (tgt := 260) dL_hangs_253 (by decide) (fun c253 => ?_) (fun c253 => absurd c253 nw)
  refine V_iconst (v := 0) dL_hangs_260 rfl ?_
  refine V_aload_n 7 dL_hangs_261 rfl ?_
  refine V_iload 2 dL_hangs_262 rfl ?_
  refine V_pc (pc2 := 264) rfl ?_
  refine V_iload 3 dL_hangs_264 rfl ?_
  refine V_bipush (v := 50) dL_hangs_266 (by decide) ?_
  refine Cq_L_124 (mc1 := 0) (ms1 := 0) rfl ⟨Nat.le_of_ble_eq_true rfl, Nat.le_of_ble_eq_true rfl⟩ (h_bestWay_ok w.1 (x_bestWay_ok w hI b a K hb ha rfl rfl (Ne.symm hab) hK hK1 hK4 (by decide) (by decide))) rfl (Nat.le_of_ble_eq_true rfl) dL_hangs_268 rfl (fun _ hq => ?_)
  have w := hq.1
  have hF := FR.trans (b := 0) (n := 96) hF hq.2 (by omega)
  clear hq
  refine V_iconst (v := -1) dL_hangs_271 rfl ?_
  refine V_icmp_ne (tgt := 279) dL_hangs_272 (by decide) (fun c272 => ?_) (fun c272 => absurd c272 nw')
  refine V_iconst (v := 0) dL_hangs_279 rfl ?_
  refine V_icmp_ne (tgt := 287) dL_hangs_280 (by decide) (fun c280 => absurd rfl c280) (fun c280 => ?_)
  refine V_iconst (v := 1) dL_hangs_283 rfl ?_
  refine V_pc (pc2 := 284) rfl ?_
  refine V_goto (tgt := 288) dL_hangs_284 (by decide) ?_
  refine V_istore_n (lv2 := [(2, .int _), (8, .int _), (6, .int _), (5, .int _), (4, .int _), (3, .int _), (1, .int _), (0, .ref _)]) dL_hangs_288 (Nat.le_of_ble_eq_true rfl) rfl ?_
  refine V_lv (lv2 := [(6, .int _), (5, .int _), (4, .int _), (3, .int _), (2, .int _), (1, .int _), (0, .ref _)]) [2, 3, 4, 5, 0, 6, 7] rfl ?_
  exact kk _ _ w hF

set_option maxRecDepth 20000 in
theorem hg3t {g : GE} {M0 M : Mem} {sz kc ks : Nat} {Q : Ou → Mem → Prop} {σ τ : Nat → Int32} {hk : Bool} {n : Nat} {ps : Nat → Nat → Int32} {len : Nat} {tx : Nat → Int32} (w : CW g M σ τ hk n ps len tx) (hF : FR M0 M 0 96) (hI : I10 σ) {a b : Nat} (ha : a < 5) (hb : b < 5) (hab : a ≠ b) {K : Nat} (hK : σ 27 = nI K) (hK1 : 1 ≤ K) (hK4 : K ≤ 4) (hh : hasS σ a b = true) (hs : bwS σ a b (50 : Int32).toInt64 K 16 ≠ none)  {y1 y3 : Int32} (kk : ∀ M1 sz1, CW g M1 σ τ hk n ps len tx → FR M0 M1 0 96 → V g m_L_hangs 289 [(6, .int (ofTabS σ a b 0)), (5, .int (nI b)), (4, .int (nI a)), (3, .int y3), (2, .int 1), (1, .int y1), (0, rf g 0)] [] M1 sz1 kc ks Q) : V g m_L_hangs 193 [(6, .int (ofTabS σ a b 0)), (5, .int (nI b)), (4, .int (nI a)), (3, .int y3), (2, .int 1), (1, .int y1), (0, rf g 0)] [] M sz kc ks Q := by
  obtain ⟨u1, u2, u3⟩ := uN_v hI ha hb hh
  have hh2 : hasS σ b a = true := by rw [hasS_comm]; exact hh
  obtain ⟨d1, d2, d3⟩ := uN_v hI hb ha hh2
  have ne1 : ¬ ofTabS σ a b 0 = -1 := by rw [of_0t hh, u3]; exact m1_ne (by omega)
  have ne2 : ¬ ofTabS σ b a 0 = -1 := by rw [of_0t hh2, d3]; exact m1_ne (by omega)
  obtain ⟨v, v1, v2, v3, v4⟩ := fC_v ha hb hab hs
  obtain ⟨v', v1', v2', v3', v4'⟩ := fC_v (x := (50 : Int32).toInt64) (K := K) hb ha (Ne.symm hab) (fun e => hs (bw_rev hb ha (Ne.symm hab) e))
  have nw : ¬ fC (bwS σ a b (50 : Int32).toInt64 K 16) = -1 := by rw [v1]; exact m1_ne (by omega)
  have nw' : ¬ fC (bwS σ b a (50 : Int32).toInt64 K 16) = -1 := by rw [v1']; exact m1_ne (by omega)
  have hrem : fC (bwS σ a b (50 : Int32).toInt64 K 16) - fC (bwS σ a b (50 : Int32).toInt64 K 16) / 10 * 10 = nI b := by
    have e : nI v - nI v / 10 * 10 = nI (v % 10) := pk_rem (by omega) (by decide) (by decide)
    rw [v1, e, v4]
  refine V_aload_n 6 dL_hangs_193 rfl ?_
  refine V_iload 2 dL_hangs_194 rfl ?_
  refine V_iload 1 dL_hangs_196 rfl ?_
  refine V_bipush (v := 50) dL_hangs_198 (by decide) ?_
  refine Cq_L_124 (mc1 := 0) (ms1 := 0) rfl ⟨Nat.le_of_ble_eq_true rfl, Nat.le_of_ble_eq_true rfl⟩ (h_bestWay_ok w.1 (x_bestWay_ok w hI a b K ha hb rfl rfl hab hK hK1 hK4 (by decide) (by decide))) rfl (Nat.le_of_ble_eq_true rfl) dL_hangs_200 rfl (fun _ hq => ?_)
  have w := hq.1
  have hF := FR.trans (b := 0) (n := 96) hF hq.2 (by omega)
  clear hq
  refine V_istore (lv2 := [(8, .int _), (6, .int _), (5, .int _), (4, .int _), (3, .int _), (2, .int _), (1, .int _), (0, .ref _)]) dL_hangs_203 (Nat.le_of_ble_eq_true rfl) rfl ?_
  refine V_iload_n 5 dL_hangs_205 rfl ?_
  refine V_pc (pc2 := 206) rfl ?_
  refine V_if_eq (tgt := 287) dL_hangs_206 (by decide) (fun c206 => absurd c206 (by decide)) (fun c206 => ?_)
  refine V_iload 0 dL_hangs_209 rfl ?_
  refine V_iconst (v := -1) dL_hangs_211 rfl ?_
  refine V_icmp_eq (tgt := 239) dL_hangs_212 (by decide) (fun c212 => absurd c212 nw) (fun c212 => ?_)
  refine V_iload 0 dL_hangs_215 rfl ?_
  refine V_ldc z_L_126 dL_hangs_217 ?_
  refine V_icmp_le (tgt := 287) dL_hangs_219 (by decide) (fun c219 => absurd c219 (by rw [v1]; exact nI_ge (a := 100000) (by omega) (by omega))) (fun c219 => ?_)
  refine V_iload 0 dL_hangs_222 rfl ?_
  refine V_pc (pc2 := 224) rfl ?_
  refine V_ldc z_L_127 dL_hangs_224 ?_
  refine V_icmp_ge (tgt := 287) dL_hangs_226 (by decide) (fun c226 => absurd c226 (by rw [v1]; exact nI_ge (b := 200000) (by omega) (by decide))) (fun c226 => ?_)
  refine V_iload 0 dL_hangs_229 rfl ?_
  refine V_bipush (v := 10) dL_hangs_231 (by decide) ?_
  refine V_irem dL_hangs_233 (by decide) ?_
  refine V_iload 2 dL_hangs_234 rfl ?_
  refine V_icmp_ne (tgt := 287) dL_hangs_236 (by decide) (fun c236 => absurd hrem c236) (fun c236 => ?_)
  refine V_iload 1 dL_hangs_239 rfl ?_
  refine V_pc (pc2 := 241) rfl ?_
  refine V_iconst (v := -1) dL_hangs_241 rfl ?_
  refine V_icmp_eq (tgt := 250) dL_hangs_242 (by decide) (fun c242 => absurd c242 ne1) (fun c242 => ?_)
  refine V_iload 0 dL_hangs_245 rfl ?_
  refine V_if_le (tgt := 287) dL_hangs_247 (by decide) (fun c247 => absurd c247 (by rw [v1]; exact nI_nle (by omega) (by omega))) (fun c247 => ?_)
  refine V_iload 0 dL_hangs_250 rfl ?_
  refine V_iconst (v := -1) dL_hangs_252 rfl ?_
  refine V_icmp_ne (tgt := 260) dL_hangs_253 (by decide) (fun c253 => ?_) (fun c253 => absurd c253 nw)
  refine V_iconst (v := 0) dL_hangs_260 rfl ?_
  refine V_pc (pc2 := 261) rfl ?_
  refine V_aload_n 7 dL_hangs_261 rfl ?_
  refine V_iload 2 dL_hangs_262 rfl ?_
  refine V_iload 3 dL_hangs_264 rfl ?_
  refine V_bipush (v := 50) dL_hangs_266 (by decide) ?_
  refine Cq_L_124 (mc1 := 0) (ms1 := 0) rfl ⟨Nat.le_of_ble_eq_true rfl, Nat.le_of_ble_eq_true rfl⟩ (h_bestWay_ok w.1 (x_bestWay_ok w hI b a K hb ha rfl rfl (Ne.symm hab) hK hK1 hK4 (by decide) (by decide))) rfl (Nat.le_of_ble_eq_true rfl) dL_hangs_268 rfl (fun _ hq => ?_)
  have w := hq.1
  have hF := FR.trans (b := 0) (n := 96) hF hq.2 (by omega)
  clear hq
  refine V_iconst (v := -1) dL_hangs_271 rfl ?_
  refine V_icmp_ne (tgt := 279) dL_hangs_272 (by decide) (fun c272 => ?_) (fun c272 => absurd c272 nw')
  refine V_iconst (v := 0) dL_hangs_279 rfl ?_
  refine V_pc (pc2 := 280) rfl ?_
  refine V_icmp_ne (tgt := 287) dL_hangs_280 (by decide) (fun c280 => absurd rfl c280) (fun c280 => ?_)
  refine V_iconst (v := 1) dL_hangs_283 rfl ?_
  refine V_goto (tgt := 288) dL_hangs_284 (by decide) ?_
  refine V_istore_n (lv2 := [(2, .int _), (8, .int _), (6, .int _), (5, .int _), (4, .int _), (3, .int _), (1, .int _), (0, .ref _)]) dL_hangs_288 (Nat.le_of_ble_eq_true rfl) rfl ?_
  refine V_lv (lv2 := [(6, .int _), (5, .int _), (4, .int _), (3, .int _), (2, .int _), (1, .int _), (0, .ref _)]) [2, 3, 4, 5, 0, 6, 7] rfl ?_
  exact kk _ _ w hF

set_option maxRecDepth 20000 in
theorem hg4s {g : GE} {M0 M : Mem} {sz kc ks : Nat} {Q : Ou → Mem → Prop} {σ τ : Nat → Int32} {hk : Bool} {n : Nat} {ps : Nat → Nat → Int32} {len : Nat} {tx : Nat → Int32} (w : CW g M σ τ hk n ps len tx) (hF : FR M0 M 0 96) (hI : I10 σ) {a b : Nat} (ha : a < 5) (hb : b < 5) (hab : a ≠ b) {mb : Nat} (hm : σ 60 = nI mb) (hm8 : mb ≤ 8) (hS : fnd (badS σ) 0 37 = none)  {y1 y3 : Int32} (kk : ∀ M1 sz1, CW g M1 σ τ hk n ps len tx → FR M0 M1 0 96 → V g m_L_hangs 332 [(6, .int (ofTabS σ a b 0)), (5, .int (nI b)), (4, .int (nI a)), (3, .int y3), (2, .int 1), (1, .int y1), (0, rf g 0)] [] M1 sz1 kc ks Q) : V g m_L_hangs 289 [(6, .int (ofTabS σ a b 0)), (5, .int (nI b)), (4, .int (nI a)), (3, .int y3), (2, .int 1), (1, .int y1), (0, rf g 0)] [] M sz kc ks Q := by
  refine V_aload_n 6 dL_hangs_289 rfl ?_
  refine V_iload 2 dL_hangs_290 rfl ?_
  refine V_iload 1 dL_hangs_292 rfl ?_
  refine V_iconst (v := 0) dL_hangs_294 rfl ?_
  refine Cq_L_128 (mc1 := 0) (ms1 := 0) rfl ⟨Nat.le_of_ble_eq_true rfl, Nat.le_of_ble_eq_true rfl⟩ (h_mends_ok w.1 (x_mends_ok w hI a b ha hb rfl rfl hab (by decide) (by decide))) rfl (Nat.le_of_ble_eq_true rfl) dL_hangs_295 rfl (fun _ hq => ?_)
  have w := hq.1
  have hF := FR.trans (b := 0) (n := 96) hF hq.2 (by omega)
  clear hq
  refine V_istore (lv2 := [(9, .int _), (6, .int _), (5, .int _), (4, .int _), (3, .int _), (2, .int _), (1, .int _), (0, .ref _)]) dL_hangs_298 (Nat.le_of_ble_eq_true rfl) rfl ?_
  refine V_iload_n 5 dL_hangs_300 rfl ?_
  refine V_pc (pc2 := 301) rfl ?_
  refine V_if_eq (tgt := 330) dL_hangs_301 (by decide) (fun c301 => absurd c301 (by decide)) (fun c301 => ?_)
  refine V_aload_n 7 dL_hangs_304 rfl ?_
  refine V_iconst (v := 3) dL_hangs_305 rfl ?_
  refine Cq_L_130 (mc1 := 0) (ms1 := 0) rfl ⟨Nat.le_of_ble_eq_true rfl, Nat.le_of_ble_eq_true rfl⟩ (h_count_ok w.1 (x_count_ok w hI mb hm hm8 3 (by decide) rfl)) rfl (Nat.le_of_ble_eq_true rfl) dL_hangs_306 rfl (fun _ hq => ?_)
  have w := hq.1
  have hF := FR.trans (b := 0) (n := 96) hF hq.2 (by omega)
  clear hq
  refine V_if_eq (tgt := 326) dL_hangs_309 (by decide) (fun c309 => absurd c309 (by show ¬ bI (fnd (badS σ) 0 37).isNone = 0; rw [hS]; decide)) (fun c309 => ?_)
  refine V_iload 0 dL_hangs_312 rfl ?_
  refine V_aload_n 7 dL_hangs_314 rfl ?_
  refine V_iload 2 dL_hangs_315 rfl ?_
  refine V_pc (pc2 := 317) rfl ?_
  refine V_iload 3 dL_hangs_317 rfl ?_
  refine V_iconst (v := 1) dL_hangs_319 rfl ?_
  refine Cq_L_128 (mc1 := 0) (ms1 := 0) rfl ⟨Nat.le_of_ble_eq_true rfl, Nat.le_of_ble_eq_true rfl⟩ (h_mends_ok w.1 (x_mends_ok w hI b a hb ha rfl rfl (Ne.symm hab) (by decide) (by decide))) rfl (Nat.le_of_ble_eq_true rfl) dL_hangs_320 rfl (fun _ hq => ?_)
  have w := hq.1
  have hF := FR.trans (b := 0) (n := 96) hF hq.2 (by omega)
  clear hq
  refine V_icmp_ne (tgt := 330) dL_hangs_323 (by decide) (fun c323 => absurd (md_eq hI ((snd_iff hI).mpr hS) ha hb hab) c323) (fun c323 => ?_)
  refine V_iconst (v := 1) dL_hangs_326 rfl ?_
  refine V_goto (tgt := 331) dL_hangs_327 (by decide) ?_
  refine V_istore_n (lv2 := [(2, .int _), (9, .int _), (6, .int _), (5, .int _), (4, .int _), (3, .int _), (1, .int _), (0, .ref _)]) dL_hangs_331 (Nat.le_of_ble_eq_true rfl) rfl ?_
  refine V_lv (lv2 := [(6, .int _), (5, .int _), (4, .int _), (3, .int _), (2, .int _), (1, .int _), (0, .ref _)]) [2, 3, 4, 5, 0, 6, 7] rfl ?_
  exact kk _ _ w hF

set_option maxRecDepth 20000 in
theorem hg4u {g : GE} {M0 M : Mem} {sz kc ks : Nat} {Q : Ou → Mem → Prop} {σ τ : Nat → Int32} {hk : Bool} {n : Nat} {ps : Nat → Nat → Int32} {len : Nat} {tx : Nat → Int32} (w : CW g M σ τ hk n ps len tx) (hF : FR M0 M 0 96) (hI : I10 σ) {a b : Nat} (ha : a < 5) (hb : b < 5) (hab : a ≠ b) {mb : Nat} (hm : σ 60 = nI mb) (hm8 : mb ≤ 8) {r9 : Nat} (hS : fnd (badS σ) 0 37 = some r9)  {y1 y3 : Int32} (kk : ∀ M1 sz1, CW g M1 σ τ hk n ps len tx → FR M0 M1 0 96 → V g m_L_hangs 332 [(6, .int (ofTabS σ a b 0)), (5, .int (nI b)), (4, .int (nI a)), (3, .int y3), (2, .int 1), (1, .int y1), (0, rf g 0)] [] M1 sz1 kc ks Q) : V g m_L_hangs 289 [(6, .int (ofTabS σ a b 0)), (5, .int (nI b)), (4, .int (nI a)), (3, .int y3), (2, .int 1), (1, .int y1), (0, rf g 0)] [] M sz kc ks Q := by
  refine V_aload_n 6 dL_hangs_289 rfl ?_
  refine V_iload 2 dL_hangs_290 rfl ?_
  refine V_iload 1 dL_hangs_292 rfl ?_
  refine V_iconst (v := 0) dL_hangs_294 rfl ?_
  refine Cq_L_128 (mc1 := 0) (ms1 := 0) rfl ⟨Nat.le_of_ble_eq_true rfl, Nat.le_of_ble_eq_true rfl⟩ (h_mends_ok w.1 (x_mends_ok w hI a b ha hb rfl rfl hab (by decide) (by decide))) rfl (Nat.le_of_ble_eq_true rfl) dL_hangs_295 rfl (fun _ hq => ?_)
  have w := hq.1
  have hF := FR.trans (b := 0) (n := 96) hF hq.2 (by omega)
  clear hq
  refine V_istore (lv2 := [(9, .int _), (6, .int _), (5, .int _), (4, .int _), (3, .int _), (2, .int _), (1, .int _), (0, .ref _)]) dL_hangs_298 (Nat.le_of_ble_eq_true rfl) rfl ?_
  refine V_iload_n 5 dL_hangs_300 rfl ?_
  refine V_pc (pc2 := 301) rfl ?_
  refine V_if_eq (tgt := 330) dL_hangs_301 (by decide) (fun c301 => absurd c301 (by decide)) (fun c301 => ?_)
  refine V_aload_n 7 dL_hangs_304 rfl ?_
  refine V_iconst (v := 3) dL_hangs_305 rfl ?_
  refine Cq_L_130 (mc1 := 0) (ms1 := 0) rfl ⟨Nat.le_of_ble_eq_true rfl, Nat.le_of_ble_eq_true rfl⟩ (h_count_ok w.1 (x_count_ok w hI mb hm hm8 3 (by decide) rfl)) rfl (Nat.le_of_ble_eq_true rfl) dL_hangs_306 rfl (fun _ hq => ?_)
  have w := hq.1
  have hF := FR.trans (b := 0) (n := 96) hF hq.2 (by omega)
  clear hq
  refine V_if_eq (tgt := 326) dL_hangs_309 (by decide) (fun c309 => ?_) (fun c309 => absurd (by show bI (fnd (badS σ) 0 37).isNone = 0; rw [hS]; rfl) c309)
  refine V_iconst (v := 1) dL_hangs_326 rfl ?_
  refine V_goto (tgt := 331) dL_hangs_327 (by decide) ?_
  refine V_istore_n (lv2 := [(2, .int _), (9, .int _), (6, .int _), (5, .int _), (4, .int _), (3, .int _), (1, .int _), (0, .ref _)]) dL_hangs_331 (Nat.le_of_ble_eq_true rfl) rfl ?_
  refine V_lv (lv2 := [(6, .int _), (5, .int _), (4, .int _), (3, .int _), (2, .int _), (1, .int _), (0, .ref _)]) [2, 3, 4, 5, 0, 6, 7] rfl ?_
  exact kk _ _ w hF

set_option maxRecDepth 20000 in
theorem hg5n {g : GE} {M0 M : Mem} {sz kc ks : Nat} {Q : Ou → Mem → Prop} {σ τ : Nat → Int32} {hk : Bool} {n : Nat} {ps : Nat → Nat → Int32} {len : Nat} {tx : Nat → Int32} (w : CW g M σ τ hk n ps len tx) (hF : FR M0 M 0 96) (hI : I10 σ) {a b : Nat} (ha : a < 5) (hb : b < 5) (hab : a ≠ b) {mb : Nat} (hm : σ 60 = nI mb) (hm8 : mb ≤ 8) (hh : hasS σ a b = false)  {y1 y3 : Int32} (kk : ∀ M1 sz1, CW g M1 σ τ hk n ps len tx → FR M0 M1 0 96 → V g m_L_hangs 386 [(5, .int (nI b)), (4, .int (nI a)), (3, .int y3), (2, .int 1), (1, .int y1), (0, rf g 0)] [] M1 sz1 kc ks Q) : V g m_L_hangs 332 [(6, .int (ofTabS σ a b 0)), (5, .int (nI b)), (4, .int (nI a)), (3, .int y3), (2, .int 1), (1, .int y1), (0, rf g 0)] [] M sz kc ks Q := by
  refine V_iload_n 4 dL_hangs_332 rfl ?_
  refine V_if_eq (tgt := 384) dL_hangs_333 (by decide) (fun c333 => absurd c333 (by decide)) (fun c333 => ?_)
  refine V_iload 0 dL_hangs_336 rfl ?_
  refine V_iconst (v := -1) dL_hangs_338 rfl ?_
  refine V_icmp_eq (tgt := 380) dL_hangs_339 (by decide) (fun c339 => ?_) (fun c339 => absurd (of_0f hh) c339)
  refine V_iconst (v := 1) dL_hangs_380 rfl ?_
  refine V_goto (tgt := 385) dL_hangs_381 (by decide) ?_
  refine V_pc (pc2 := 385) rfl ?_
  refine V_istore_n (lv2 := [(2, .int _), (6, .int _), (5, .int _), (4, .int _), (3, .int _), (1, .int _), (0, .ref _)]) dL_hangs_385 (Nat.le_of_ble_eq_true rfl) rfl ?_
  refine V_lv (lv2 := [(5, .int _), (4, .int _), (3, .int _), (2, .int _), (1, .int _), (0, .ref _)]) [2, 3, 4, 0, 5, 6] rfl ?_
  exact kk _ _ w hF

set_option maxRecDepth 20000 in
theorem hg5o {g : GE} {M0 M : Mem} {sz kc ks : Nat} {Q : Ou → Mem → Prop} {σ τ : Nat → Int32} {hk : Bool} {n : Nat} {ps : Nat → Nat → Int32} {len : Nat} {tx : Nat → Int32} (w : CW g M σ τ hk n ps len tx) (hF : FR M0 M 0 96) (hI : I10 σ) {a b : Nat} (ha : a < 5) (hb : b < 5) (hab : a ≠ b) {mb : Nat} (hm : σ 60 = nI mb) (hm8 : mb ≤ 8) (hh : hasS σ a b = true) (hw : (fnd (wouS σ a b) 0 37).isSome = true)  {y1 y3 : Int32} (kk : ∀ M1 sz1, CW g M1 σ τ hk n ps len tx → FR M0 M1 0 96 → V g m_L_hangs 386 [(5, .int (nI b)), (4, .int (nI a)), (3, .int y3), (2, .int 1), (1, .int y1), (0, rf g 0)] [] M1 sz1 kc ks Q) : V g m_L_hangs 332 [(6, .int (ofTabS σ a b 0)), (5, .int (nI b)), (4, .int (nI a)), (3, .int y3), (2, .int 1), (1, .int y1), (0, rf g 0)] [] M sz kc ks Q := by
  obtain ⟨u1, u2, u3⟩ := uN_v hI ha hb hh
  have hh2 : hasS σ b a = true := by rw [hasS_comm]; exact hh
  obtain ⟨d1, d2, d3⟩ := uN_v hI hb ha hh2
  have ne1 : ¬ ofTabS σ a b 0 = -1 := by rw [of_0t hh, u3]; exact m1_ne (by omega)
  have ne2 : ¬ ofTabS σ b a 0 = -1 := by rw [of_0t hh2, d3]; exact m1_ne (by omega)
  have hu1 : ¬ ofTabS σ a b 0 < 1 := by rw [of_0t hh, u3]; exact nI_nlt (b := 1) u1 (by omega)
  have hu2 : ofTabS σ a b 0 ≤ 99 := by rw [of_0t hh, u3]; exact nI_le (b := 99) u2 (by decide)
  have hd1 : ¬ ofTabS σ a b 1 < 1 := by rw [of_1t hh, d3]; exact nI_nlt (b := 1) d1 (by omega)
  have hd2 : ofTabS σ a b 1 ≤ 99 := by rw [of_1t hh, d3]; exact nI_le (b := 99) d2 (by decide)
  refine V_iload_n 4 dL_hangs_332 rfl ?_
  refine V_if_eq (tgt := 384) dL_hangs_333 (by decide) (fun c333 => absurd c333 (by decide)) (fun c333 => ?_)
  refine V_iload 0 dL_hangs_336 rfl ?_
  refine V_iconst (v := -1) dL_hangs_338 rfl ?_
  refine V_icmp_eq (tgt := 380) dL_hangs_339 (by decide) (fun c339 => absurd c339 ne1) (fun c339 => ?_)
  refine V_aload_n 6 dL_hangs_342 rfl ?_
  refine V_iload 2 dL_hangs_343 rfl ?_
  refine V_pc (pc2 := 345) rfl ?_
  refine V_iload 1 dL_hangs_345 rfl ?_
  refine V_iload 0 dL_hangs_347 rfl ?_
  refine V_aload_n 6 dL_hangs_349 rfl ?_
  refine V_iload 2 dL_hangs_350 rfl ?_
  refine V_iload 1 dL_hangs_352 rfl ?_
  refine V_iconst (v := 1) dL_hangs_354 rfl ?_
  refine Cq_L_119 (mc1 := 0) (ms1 := 0) rfl ⟨Nat.le_of_ble_eq_true rfl, Nat.le_of_ble_eq_true rfl⟩ (h_tableOf_ok w.1 (x_tableOf_ok w hI a b ha hb rfl rfl hab (by decide) (by decide))) rfl (Nat.le_of_ble_eq_true rfl) dL_hangs_355 rfl (fun _ hq => ?_)
  have w := hq.1
  have hF := FR.trans (b := 0) (n := 96) hF hq.2 (by omega)
  clear hq
  refine Cq_L_132 (mc1 := 0) (ms1 := 0) rfl ⟨Nat.le_of_ble_eq_true rfl, Nat.le_of_ble_eq_true rfl⟩ (h_offBy_ok w.1 (x_offBy_ok w hI a b ha hb rfl rfl hab hu1 hu2 hd1 hd2)) rfl (Nat.le_of_ble_eq_true rfl) dL_hangs_358 rfl (fun _ hq => ?_)
  have w := hq.1
  have hF := FR.trans (b := 0) (n := 96) hF hq.2 (by omega)
  clear hq
  rw [of_0t hh, of_1t hh, put_self hab]
  refine V_pc (pc2 := 361) rfl ?_
  refine V_if_le (tgt := 368) dL_hangs_361 (by decide) (fun c361 => absurd c361 (cod_pos.mpr hw)) (fun c361 => ?_)
  refine V_iconst (v := 1) dL_hangs_364 rfl ?_
  refine V_goto (tgt := 369) dL_hangs_365 (by decide) ?_
  refine V_aload_n 6 dL_hangs_369 rfl ?_
  refine V_iload 2 dL_hangs_370 rfl ?_
  refine V_iload 1 dL_hangs_372 rfl ?_
  refine Cq_L_134 (mc1 := 0) (ms1 := 0) rfl ⟨Nat.le_of_ble_eq_true rfl, Nat.le_of_ble_eq_true rfl⟩ (iso_ok w hI hm hm8 ha hb) rfl (Nat.le_of_ble_eq_true rfl) dL_hangs_374 rfl (fun _ hq => ?_)
  have w := hq.1
  have hF := FR.trans (b := 0) (n := 96) hF hq.2 (by omega)
  clear hq
  refine V_icmp_ne (tgt := 384) dL_hangs_377 (by decide) (fun c377 => absurd (by rw [hw]; rfl) c377) (fun c377 => ?_)
  refine V_pc (pc2 := 380) rfl ?_
  refine V_iconst (v := 1) dL_hangs_380 rfl ?_
  refine V_goto (tgt := 385) dL_hangs_381 (by decide) ?_
  refine V_istore_n (lv2 := [(2, .int _), (6, .int _), (5, .int _), (4, .int _), (3, .int _), (1, .int _), (0, .ref _)]) dL_hangs_385 (Nat.le_of_ble_eq_true rfl) rfl ?_
  refine V_lv (lv2 := [(5, .int _), (4, .int _), (3, .int _), (2, .int _), (1, .int _), (0, .ref _)]) [2, 3, 4, 0, 5, 6] rfl ?_
  exact kk _ _ w hF

set_option maxRecDepth 20000 in
theorem hg5z {g : GE} {M0 M : Mem} {sz kc ks : Nat} {Q : Ou → Mem → Prop} {σ τ : Nat → Int32} {hk : Bool} {n : Nat} {ps : Nat → Nat → Int32} {len : Nat} {tx : Nat → Int32} (w : CW g M σ τ hk n ps len tx) (hF : FR M0 M 0 96) (hI : I10 σ) {a b : Nat} (ha : a < 5) (hb : b < 5) (hab : a ≠ b) {mb : Nat} (hm : σ 60 = nI mb) (hm8 : mb ≤ 8) (hh : hasS σ a b = true) (hw : (fnd (wouS σ a b) 0 37).isSome = false)  {y1 y3 : Int32} (kk : ∀ M1 sz1, CW g M1 σ τ hk n ps len tx → FR M0 M1 0 96 → V g m_L_hangs 386 [(5, .int (nI b)), (4, .int (nI a)), (3, .int y3), (2, .int 1), (1, .int y1), (0, rf g 0)] [] M1 sz1 kc ks Q) : V g m_L_hangs 332 [(6, .int (ofTabS σ a b 0)), (5, .int (nI b)), (4, .int (nI a)), (3, .int y3), (2, .int 1), (1, .int y1), (0, rf g 0)] [] M sz kc ks Q := by
  obtain ⟨u1, u2, u3⟩ := uN_v hI ha hb hh
  have hh2 : hasS σ b a = true := by rw [hasS_comm]; exact hh
  obtain ⟨d1, d2, d3⟩ := uN_v hI hb ha hh2
  have ne1 : ¬ ofTabS σ a b 0 = -1 := by rw [of_0t hh, u3]; exact m1_ne (by omega)
  have ne2 : ¬ ofTabS σ b a 0 = -1 := by rw [of_0t hh2, d3]; exact m1_ne (by omega)
  have hu1 : ¬ ofTabS σ a b 0 < 1 := by rw [of_0t hh, u3]; exact nI_nlt (b := 1) u1 (by omega)
  have hu2 : ofTabS σ a b 0 ≤ 99 := by rw [of_0t hh, u3]; exact nI_le (b := 99) u2 (by decide)
  have hd1 : ¬ ofTabS σ a b 1 < 1 := by rw [of_1t hh, d3]; exact nI_nlt (b := 1) d1 (by omega)
  have hd2 : ofTabS σ a b 1 ≤ 99 := by rw [of_1t hh, d3]; exact nI_le (b := 99) d2 (by decide)
  refine V_iload_n 4 dL_hangs_332 rfl ?_
  refine V_if_eq (tgt := 384) dL_hangs_333 (by decide) (fun c333 => absurd c333 (by decide)) (fun c333 => ?_)
  refine V_iload 0 dL_hangs_336 rfl ?_
  refine V_iconst (v := -1) dL_hangs_338 rfl ?_
  refine V_icmp_eq (tgt := 380) dL_hangs_339 (by decide) (fun c339 => absurd c339 ne1) (fun c339 => ?_)
  refine V_aload_n 6 dL_hangs_342 rfl ?_
  refine V_iload 2 dL_hangs_343 rfl ?_
  refine V_pc (pc2 := 345) rfl ?_
  refine V_iload 1 dL_hangs_345 rfl ?_
  refine V_iload 0 dL_hangs_347 rfl ?_
  refine V_aload_n 6 dL_hangs_349 rfl ?_
  refine V_iload 2 dL_hangs_350 rfl ?_
  refine V_iload 1 dL_hangs_352 rfl ?_
  refine V_iconst (v := 1) dL_hangs_354 rfl ?_
  refine Cq_L_119 (mc1 := 0) (ms1 := 0) rfl ⟨Nat.le_of_ble_eq_true rfl, Nat.le_of_ble_eq_true rfl⟩ (h_tableOf_ok w.1 (x_tableOf_ok w hI a b ha hb rfl rfl hab (by decide) (by decide))) rfl (Nat.le_of_ble_eq_true rfl) dL_hangs_355 rfl (fun _ hq => ?_)
  have w := hq.1
  have hF := FR.trans (b := 0) (n := 96) hF hq.2 (by omega)
  clear hq
  refine Cq_L_132 (mc1 := 0) (ms1 := 0) rfl ⟨Nat.le_of_ble_eq_true rfl, Nat.le_of_ble_eq_true rfl⟩ (h_offBy_ok w.1 (x_offBy_ok w hI a b ha hb rfl rfl hab hu1 hu2 hd1 hd2)) rfl (Nat.le_of_ble_eq_true rfl) dL_hangs_358 rfl (fun _ hq => ?_)
  have w := hq.1
  have hF := FR.trans (b := 0) (n := 96) hF hq.2 (by omega)
  clear hq
  rw [of_0t hh, of_1t hh, put_self hab]
  refine V_pc (pc2 := 361) rfl ?_
  refine V_if_le (tgt := 368) dL_hangs_361 (by decide) (fun c361 => ?_) (fun c361 => absurd (Decidable.of_not_not (fun e => by have := cod_pos.mp e; rw [hw] at this; cases this)) c361)
  refine V_iconst (v := 0) dL_hangs_368 rfl ?_
  refine V_aload_n 6 dL_hangs_369 rfl ?_
  refine V_iload 2 dL_hangs_370 rfl ?_
  refine V_iload 1 dL_hangs_372 rfl ?_
  refine Cq_L_134 (mc1 := 0) (ms1 := 0) rfl ⟨Nat.le_of_ble_eq_true rfl, Nat.le_of_ble_eq_true rfl⟩ (iso_ok w hI hm hm8 ha hb) rfl (Nat.le_of_ble_eq_true rfl) dL_hangs_374 rfl (fun _ hq => ?_)
  have w := hq.1
  have hF := FR.trans (b := 0) (n := 96) hF hq.2 (by omega)
  clear hq
  refine V_icmp_ne (tgt := 384) dL_hangs_377 (by decide) (fun c377 => absurd (by rw [hw]; rfl) c377) (fun c377 => ?_)
  refine V_iconst (v := 1) dL_hangs_380 rfl ?_
  refine V_pc (pc2 := 381) rfl ?_
  refine V_goto (tgt := 385) dL_hangs_381 (by decide) ?_
  refine V_istore_n (lv2 := [(2, .int _), (6, .int _), (5, .int _), (4, .int _), (3, .int _), (1, .int _), (0, .ref _)]) dL_hangs_385 (Nat.le_of_ble_eq_true rfl) rfl ?_
  refine V_lv (lv2 := [(5, .int _), (4, .int _), (3, .int _), (2, .int _), (1, .int _), (0, .ref _)]) [2, 3, 4, 0, 5, 6] rfl ?_
  exact kk _ _ w hF

theorem hg_pair {g : GE} {M0 M : Mem} {sz kc ks : Nat} {Q : Ou → Mem → Prop} {σ τ : Nat → Int32} {hk : Bool} {n : Nat} {ps : Nat → Nat → Int32} {len : Nat} {tx : Nat → Int32} (w : CW g M σ τ hk n ps len tx) (hF : FR M0 M 0 96) (hI : I10 σ) {a b : Nat} (ha : a < 5) (hb : b < 5) (hab : a ≠ b) {K : Nat} (hK : σ 27 = nI K) (hK1 : 1 ≤ K) (hK4 : K ≤ 4) {mb : Nat} (hm : σ 60 = nI mb) (hm8 : mb ≤ 8) {y1 y2 y3 : Int32} (kk : ∀ M1 sz1, CW g M1 σ τ hk n ps len tx → FR M0 M1 0 96 → V g m_L_hangs 386 [(5, .int (nI b)), (4, .int (nI a)), (3, .int y3), (2, .int 1), (1, .int (y1 + (if a < b ∧ hasS σ a b = true then 1 else 0))), (0, rf g 0)] [] M1 sz1 kc ks Q) : V g m_L_hangs 33 [(5, .int (nI b)), (4, .int (nI a)), (3, .int y3), (2, .int y2), (1, .int y1), (0, rf g 0)] [] M sz kc ks Q := by
  cases hh : hasS σ a b with
  | true =>
    have k5 : ∀ t : Int32, t = (if a < b ∧ hasS σ a b = true then 1 else 0) → ∀ M1 sz1, CW g M1 σ τ hk n ps len tx → FR M0 M1 0 96 → V g m_L_hangs 332 [(6, .int (ofTabS σ a b 0)), (5, .int (nI b)), (4, .int (nI a)), (3, .int y3), (2, .int 1), (1, .int (y1 + t)), (0, rf g 0)] [] M1 sz1 kc ks Q := by
      intro t ht M1 sz1 w hF
      cases hw : (fnd (wouS σ a b) 0 37).isSome with
      | true => exact hg5o w hF hI ha hb hab hm hm8 hh hw (fun M1 sz1 w hF => by rw [ht]; exact kk M1 sz1 w hF)
      | false => exact hg5z w hF hI ha hb hab hm hm8 hh hw (fun M1 sz1 w hF => by rw [ht]; exact kk M1 sz1 w hF)
    have k4 : ∀ t : Int32, t = (if a < b ∧ hasS σ a b = true then 1 else 0) → ∀ M1 sz1, CW g M1 σ τ hk n ps len tx → FR M0 M1 0 96 → V g m_L_hangs 289 [(6, .int (ofTabS σ a b 0)), (5, .int (nI b)), (4, .int (nI a)), (3, .int y3), (2, .int 1), (1, .int (y1 + t)), (0, rf g 0)] [] M1 sz1 kc ks Q := by
      intro t ht M1 sz1 w hF
      cases hS : fnd (badS σ) 0 37 with
      | none => exact hg4s w hF hI ha hb hab hm hm8 hS (k5 t ht)
      | some r9 => exact hg4u w hF hI ha hb hab hm hm8 hS (k5 t ht)
    have k3 : ∀ t : Int32, t = (if a < b ∧ hasS σ a b = true then 1 else 0) → ∀ M1 sz1, CW g M1 σ τ hk n ps len tx → FR M0 M1 0 96 → V g m_L_hangs 193 [(6, .int (ofTabS σ a b 0)), (5, .int (nI b)), (4, .int (nI a)), (3, .int y3), (2, .int 1), (1, .int (y1 + t)), (0, rf g 0)] [] M1 sz1 kc ks Q :=
      fun t ht M1 sz1 w hF => hg3t w hF hI ha hb hab hK hK1 hK4 hh (bw_has hK1 hh) (k4 t ht)
    refine hg1t w hF hI ha hb hab hh (fun M1 sz1 w hF => ?_)
    rcases Nat.lt_or_gt_of_ne hab with c | c
    · exact hg2t w hF hI ha hb hab hh c (k3 1 (by rw [if_pos ⟨c, hh⟩]))
    · exact hg2g w hF hI ha hb hab c (k3 0 (by rw [if_neg (fun e => absurd e.1 (by omega))]))
  | false =>
    have k5 : ∀ t : Int32, t = (if a < b ∧ hasS σ a b = true then 1 else 0) → ∀ M1 sz1, CW g M1 σ τ hk n ps len tx → FR M0 M1 0 96 → V g m_L_hangs 332 [(6, .int (ofTabS σ a b 0)), (5, .int (nI b)), (4, .int (nI a)), (3, .int y3), (2, .int 1), (1, .int (y1 + t)), (0, rf g 0)] [] M1 sz1 kc ks Q :=
      fun t ht M1 sz1 w hF => hg5n w hF hI ha hb hab hm hm8 hh (fun M1 sz1 w hF => by rw [ht]; exact kk M1 sz1 w hF)
    have k4 : ∀ t : Int32, t = (if a < b ∧ hasS σ a b = true then 1 else 0) → ∀ M1 sz1, CW g M1 σ τ hk n ps len tx → FR M0 M1 0 96 → V g m_L_hangs 289 [(6, .int (ofTabS σ a b 0)), (5, .int (nI b)), (4, .int (nI a)), (3, .int y3), (2, .int 1), (1, .int (y1 + t)), (0, rf g 0)] [] M1 sz1 kc ks Q := by
      intro t ht M1 sz1 w hF
      cases hS : fnd (badS σ) 0 37 with
      | none => exact hg4s w hF hI ha hb hab hm hm8 hS (k5 t ht)
      | some r9 => exact hg4u w hF hI ha hb hab hm hm8 hS (k5 t ht)
    have k3 : ∀ t : Int32, t = (if a < b ∧ hasS σ a b = true then 1 else 0) → ∀ M1 sz1, CW g M1 σ τ hk n ps len tx → FR M0 M1 0 96 → V g m_L_hangs 193 [(6, .int (ofTabS σ a b 0)), (5, .int (nI b)), (4, .int (nI a)), (3, .int y3), (2, .int 1), (1, .int (y1 + t)), (0, rf g 0)] [] M1 sz1 kc ks Q := by
      intro t ht M1 sz1 w hF
      by_cases hn : bwS σ a b (50 : Int32).toInt64 K 16 = none
      · exact hg3n w hF hI ha hb hab hK hK1 hK4 hh hn (k4 t ht)
      · exact hg3f w hF hI ha hb hab hK hK1 hK4 hh hn (k4 t ht)
    refine hg1n w hF hI ha hb hab hh (fun M1 sz1 w hF => ?_)
    rcases Nat.lt_or_gt_of_ne hab with c | c
    · exact hg2n w hF hI ha hb hab hh c (k3 0 (by rw [if_neg (fun e => by rw [hh] at e; exact absurd e.2 (by decide))]))
    · exact hg2g w hF hI ha hb hab c (k3 0 (by rw [if_neg (fun e => absurd e.1 (by omega))]))
set_option maxRecDepth 20000 in
theorem hg_loop {g : GE} {M0 : Mem} {kc ks : Nat} {Q : Ou → Mem → Prop} {σ τ : Nat → Int32} {hk : Bool} {n : Nat} {ps : Nat → Nat → Int32} {len : Nat} {tx : Nat → Int32} (hI : I10 σ) {K : Nat} (hK : σ 27 = nI K) (hK1 : 1 ≤ K) (hK4 : K ≤ 4) {mb : Nat} (hm : σ 60 = nI mb) (hm8 : mb ≤ 8) (kk : ∀ M sz, CW g M σ τ hk n ps len tx → FR M0 M 0 96 → V g m_L_hangs 392 [(2, .int 1), (1, .int (tabN σ)), (0, rf g 0)] [] M sz kc ks Q) : ∀ m c, c + m = 25 → ∀ M sz, CW g M σ τ hk n ps len tx → FR M0 M 0 96 → V g m_L_hangs 6 [(3, .int (nI c)), (2, .int 1), (1, .int (tbS σ c)), (0, rf g 0)] [] M sz kc ks Q := by
  intro m
  induction m with
  | zero =>
    intro c hc M sz w hF
    have e : c = 25 := by omega
    subst e
    rw [tb_fin]
    refine V_iload_n 0 dL_hangs_6 rfl ?_
    refine V_bipush (v := 25) dL_hangs_7 (by decide) ?_
    refine V_icmp_ge (tgt := 392) dL_hangs_9 (by decide) (fun c9 => ?_) (fun c9 => absurd (by decide) c9)
    refine V_lv (lv2 := [(2, .int _), (1, .int _), (0, .ref _)]) [1, 2, 3] rfl ?_
    exact kk _ _ w hF
  | succ m ih =>
    intro c hc M sz w hF
    have e1 : nI c / 5 = nI (c / 5) := pk_div (by omega) (by decide) (by decide)
    have e2 : nI c - nI c / 5 * 5 = nI (c % 5) := pk_rem (by omega) (by decide) (by decide)
    have ha : c / 5 < 5 := by omega
    have hb : c % 5 < 5 := Nat.mod_lt _ (by decide)
    have step : ∀ (t : Int32), t = (if c / 5 < c % 5 ∧ hasS σ (c / 5) (c % 5) = true then 1 else 0) → ∀ M sz, CW g M σ τ hk n ps len tx → FR M0 M 0 96 → V g m_L_hangs 386 [(3, .int (nI c)), (2, .int 1), (1, .int (tbS σ c + t)), (0, rf g 0)] [] M sz kc ks Q := by
      intro t ht M sz w hF
      rw [ht]
      refine V_iinc (v := _ + 1) (lv2 := [(3, .int _), (2, .int _), (1, .int _), (0, .ref _)]) 0 dL_hangs_386 rfl rfl (Nat.le_of_ble_eq_true rfl) rfl ?_
      refine V_goto (tgt := 6) dL_hangs_389 (by decide) ?_
      refine V_lv (lv2 := [(3, .int _), (2, .int _), (1, .int _), (0, .ref _)]) [0, 1, 2, 3] rfl ?_
      rw [nI_1]
      exact ih (c + 1) (by omega) _ _ w hF
    by_cases hab : c / 5 = c % 5
    · skip
      refine V_iload_n 0 dL_hangs_6 rfl ?_
      refine V_bipush (v := 25) dL_hangs_7 (by decide) ?_
      refine V_icmp_ge (tgt := 392) dL_hangs_9 (by decide) (fun c9 => absurd c9 (nI_ge (b := 25) (by omega) (by decide))) (fun c9 => ?_)
      refine V_iload_n 1 dL_hangs_12 rfl ?_
      refine V_if_eq (tgt := 392) dL_hangs_13 (by decide) (fun c13 => absurd c13 (by decide)) (fun c13 => ?_)
      refine V_iload_n 0 dL_hangs_16 rfl ?_
      refine V_iconst (v := 5) dL_hangs_17 rfl ?_
      refine V_pc (pc2 := 18) rfl ?_
      refine V_idiv dL_hangs_18 (by decide) ?_
      refine V_istore (lv2 := [(4, .int _), (3, .int _), (2, .int _), (1, .int _), (0, .ref _)]) dL_hangs_19 (Nat.le_of_ble_eq_true rfl) rfl ?_
      refine V_iload_n 1 dL_hangs_21 rfl ?_
      refine V_iconst (v := 5) dL_hangs_22 rfl ?_
      refine V_irem dL_hangs_23 (by decide) ?_
      refine V_istore (lv2 := [(5, .int _), (4, .int _), (3, .int _), (2, .int _), (1, .int _), (0, .ref _)]) dL_hangs_24 (Nat.le_of_ble_eq_true rfl) rfl ?_
      refine V_iload 1 dL_hangs_26 rfl ?_
      refine V_iload 0 dL_hangs_28 rfl ?_
      refine V_pc (pc2 := 30) rfl ?_
      refine V_icmp_eq (tgt := 386) dL_hangs_30 (by decide) (fun c30 => ?_) (fun c30 => absurd (by rw [e2, e1, hab]) c30)
      refine V_lv (lv2 := [(3, .int _), (2, .int _), (1, .int _), (0, .ref _)]) [2, 3, 4, 5] rfl ?_
      have k := step 0 (by rw [if_neg (fun e => absurd e.1 (by omega))]) _ sz w hF
      rw [show tbS σ c + 0 = tbS σ c from Int32.add_zero _] at k
      exact k
    · skip
      refine V_iload_n 0 dL_hangs_6 rfl ?_
      refine V_bipush (v := 25) dL_hangs_7 (by decide) ?_
      refine V_icmp_ge (tgt := 392) dL_hangs_9 (by decide) (fun c9 => absurd c9 (nI_ge (b := 25) (by omega) (by decide))) (fun c9 => ?_)
      refine V_iload_n 1 dL_hangs_12 rfl ?_
      refine V_if_eq (tgt := 392) dL_hangs_13 (by decide) (fun c13 => absurd c13 (by decide)) (fun c13 => ?_)
      refine V_iload_n 0 dL_hangs_16 rfl ?_
      refine V_iconst (v := 5) dL_hangs_17 rfl ?_
      refine V_pc (pc2 := 18) rfl ?_
      refine V_idiv dL_hangs_18 (by decide) ?_
      refine V_istore (lv2 := [(4, .int _), (3, .int _), (2, .int _), (1, .int _), (0, .ref _)]) dL_hangs_19 (Nat.le_of_ble_eq_true rfl) rfl ?_
      refine V_iload_n 1 dL_hangs_21 rfl ?_
      refine V_iconst (v := 5) dL_hangs_22 rfl ?_
      refine V_irem dL_hangs_23 (by decide) ?_
      refine V_istore (lv2 := [(5, .int _), (4, .int _), (3, .int _), (2, .int _), (1, .int _), (0, .ref _)]) dL_hangs_24 (Nat.le_of_ble_eq_true rfl) rfl ?_
      refine V_iload 1 dL_hangs_26 rfl ?_
      refine V_iload 0 dL_hangs_28 rfl ?_
      refine V_pc (pc2 := 30) rfl ?_
      refine V_icmp_eq (tgt := 386) dL_hangs_30 (by decide) (fun c30 => absurd c30 (by rw [e2, e1]; exact fun e => hab ((nI_eq (by omega) (by omega)).mp e))) (fun c30 => ?_)
      refine V_lv (lv2 := [(5, .int _), (4, .int _), (3, .int _), (2, .int _), (1, .int _), (0, .ref _)]) [0, 1, 2, 3, 4, 5] rfl ?_
      rw [e2, e1]
      refine hg_pair w hF hI ha hb hab hK hK1 hK4 hm hm8 (fun M1 sz1 w hF => ?_)
      refine V_lv (lv2 := [(3, .int _), (2, .int _), (1, .int _), (0, .ref _)]) [2, 3, 4, 5] rfl ?_
      exact step _ rfl _ _ w hF

