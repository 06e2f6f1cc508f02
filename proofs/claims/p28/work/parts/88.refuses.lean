/-! the law's refused calls -/
theorem y_gt {k m y : Nat} (h : m < k) (hk : k + y < 2 ^ 31) : ¬ nI k + nI y ≤ nI m := by rw [nI_add]; exact nI_ge (by omega) hk
theorem y_neg {y : Nat} (h : y < 100000) : -1 - nI y < 0 := by
  rw [Int32.lt_iff_toInt_lt, Int32.toInt_sub, nI_toInt (by omega), show (-1 : Int32).toInt = -1 from rfl, show (0 : Int32).toInt = 0 from rfl, Int.bmod_eq_of_le (by omega) (by omega)]
  omega
theorem y_neg1 {y : Nat} (h : y < 100000) : -nI y < 1 := by
  rw [Int32.lt_iff_toInt_lt, Int32.toInt_neg, nI_toInt (by omega), show (1 : Int32).toInt = 1 from rfl, Int.bmod_eq_of_le (by omega) (by omega)]
  omega
theorem y_neg32 {y : Nat} (h : y < 100000) : 32 - nI y < 33 := by
  rw [Int32.lt_iff_toInt_lt, Int32.toInt_sub, nI_toInt (by omega), show (32 : Int32).toInt = 32 from rfl, show (33 : Int32).toInt = 33 from rfl, Int.bmod_eq_of_le (by omega) (by omega)]
  omega
theorem y_nn {y : Nat} (h : y < 100000) : ¬ 0 ≤ -1 - nI y := Int32.not_le.mpr (y_neg h)
set_option maxRecDepth 20000 in
theorem rf_36 {g : GE} {M : Mem} {sz kc ks : Nat} {Q : Ou → Mem → Prop} {σ τ : Nat → Int32} {hk : Bool} {n : Nat} {ps : Nat → Nat → Int32} {len : Nat} {tx : Nat → Int32} (w : CW g M σ τ hk n ps len tx) {y : Nat} (hy : y < 100000) {no bo : Int32} (hno : isP no = false) (hno2 : no < 0 ∨ ¬ no ≤ 2) (hbo : isB σ bo = false) (hI : I10 σ) (kk : ∀ sz1, V g m_L_refuses 130 [(3, .int bo), (2, .int no), (1, .int (nI y)), (0, rf g 0)] [] M sz1 kc ks Q) : V g m_L_refuses 36 [(3, .int bo), (2, .int no), (1, .int (nI y)), (0, rf g 0)] [] M sz (kc + 7) (ks + 42) Q := by
  refine V_aload_n 3 dL_refuses_36 rfl ?_
  refine V_iload_n 1 dL_refuses_37 rfl ?_
  refine V_iconst (v := 0) dL_refuses_38 rfl ?_
  refine Cq_L_92 (mc1 := 1) (ms1 := 6) rfl ⟨Nat.le_of_ble_eq_true rfl, Nat.le_of_ble_eq_true rfl⟩ (h_stick_x0 w.1 (x_stick_1 w hno)) rfl (Nat.le_of_ble_eq_true rfl) dL_refuses_39 rfl (fun _ hq => ?_)
  cases hq
  refine V_bipush (v := -3) dL_refuses_42 (by decide) ?_
  refine V_icmp_ne (tgt := 475) dL_refuses_44 (by decide) (fun c44 => absurd rfl c44) (fun c44 => ?_)
  refine V_aload_n 3 dL_refuses_47 rfl ?_
  refine V_pc (pc2 := 48) rfl ?_
  refine V_iconst (v := 0) dL_refuses_48 rfl ?_
  refine V_bipush (v := 61) dL_refuses_49 (by decide) ?_
  refine V_iload_n 2 dL_refuses_51 rfl ?_
  refine V_iadd dL_refuses_52 ?_
  refine Cq_L_92 (mc1 := 1) (ms1 := 6) rfl ⟨Nat.le_of_ble_eq_true rfl, Nat.le_of_ble_eq_true rfl⟩ (h_stick_x1 w.1 (x_stick_2 w rfl (Or.inr (y_gt (k := 61) (m := 60) (by decide) (by omega))))) rfl (Nat.le_of_ble_eq_true rfl) dL_refuses_53 rfl (fun _ hq => ?_)
  cases hq
  refine V_bipush (v := -2) dL_refuses_56 (by decide) ?_
  refine V_icmp_ne (tgt := 475) dL_refuses_58 (by decide) (fun c58 => absurd rfl c58) (fun c58 => ?_)
  refine V_aload_n 3 dL_refuses_61 rfl ?_
  refine V_pc (pc2 := 62) rfl ?_
  refine V_iload_n 1 dL_refuses_62 rfl ?_
  refine V_iconst (v := 0) dL_refuses_63 rfl ?_
  refine V_iconst (v := 0) dL_refuses_64 rfl ?_
  refine V_iconst (v := 0) dL_refuses_65 rfl ?_
  refine Cq_L_82 (mc1 := 1) (ms1 := 6) rfl ⟨Nat.le_of_ble_eq_true rfl, Nat.le_of_ble_eq_true rfl⟩ (h_table_x0 w.1 (x_table_1 w (Or.inl hno))) rfl (Nat.le_of_ble_eq_true rfl) dL_refuses_66 rfl (fun _ hq => ?_)
  cases hq
  refine V_bipush (v := -3) dL_refuses_69 (by decide) ?_
  refine V_icmp_ne (tgt := 475) dL_refuses_71 (by decide) (fun c71 => absurd rfl c71) (fun c71 => ?_)
  refine V_aload_n 3 dL_refuses_74 rfl ?_
  refine V_pc (pc2 := 75) rfl ?_
  refine V_iconst (v := 0) dL_refuses_75 rfl ?_
  refine V_iload_n 1 dL_refuses_76 rfl ?_
  refine V_iconst (v := 1) dL_refuses_77 rfl ?_
  refine V_iconst (v := 1) dL_refuses_78 rfl ?_
  refine Cq_L_82 (mc1 := 1) (ms1 := 6) rfl ⟨Nat.le_of_ble_eq_true rfl, Nat.le_of_ble_eq_true rfl⟩ (h_table_x0 w.1 (x_table_1 w (Or.inr hno))) rfl (Nat.le_of_ble_eq_true rfl) dL_refuses_79 rfl (fun _ hq => ?_)
  cases hq
  refine V_bipush (v := -3) dL_refuses_82 (by decide) ?_
  refine V_icmp_ne (tgt := 475) dL_refuses_84 (by decide) (fun c84 => absurd rfl c84) (fun c84 => ?_)
  refine V_aload_n 3 dL_refuses_87 rfl ?_
  refine V_pc (pc2 := 88) rfl ?_
  refine V_iconst (v := 2) dL_refuses_88 rfl ?_
  refine V_iconst (v := 2) dL_refuses_89 rfl ?_
  refine V_iconst (v := 1) dL_refuses_90 rfl ?_
  refine V_iconst (v := 1) dL_refuses_91 rfl ?_
  refine Cq_L_82 (mc1 := 1) (ms1 := 6) rfl ⟨Nat.le_of_ble_eq_true rfl, Nat.le_of_ble_eq_true rfl⟩ (h_table_x1 w.1 (x_table_2a w rfl rfl rfl)) rfl (Nat.le_of_ble_eq_true rfl) dL_refuses_92 rfl (fun _ hq => ?_)
  cases hq
  refine V_bipush (v := -2) dL_refuses_95 (by decide) ?_
  refine V_icmp_ne (tgt := 475) dL_refuses_97 (by decide) (fun c97 => absurd rfl c97) (fun c97 => ?_)
  refine V_aload_n 3 dL_refuses_100 rfl ?_
  refine V_pc (pc2 := 101) rfl ?_
  refine V_iconst (v := 0) dL_refuses_101 rfl ?_
  refine V_iconst (v := 1) dL_refuses_102 rfl ?_
  refine V_bipush (v := 100) dL_refuses_103 (by decide) ?_
  refine V_iload_n 2 dL_refuses_105 rfl ?_
  refine V_iadd dL_refuses_106 ?_
  refine V_iconst (v := 1) dL_refuses_107 rfl ?_
  refine Cq_L_82 (mc1 := 1) (ms1 := 6) rfl ⟨Nat.le_of_ble_eq_true rfl, Nat.le_of_ble_eq_true rfl⟩ (h_table_x1 w.1 (x_table_2b w rfl rfl (by decide) (Or.inr (y_gt (k := 100) (m := 99) (by decide) (by omega))))) rfl (Nat.le_of_ble_eq_true rfl) dL_refuses_108 rfl (fun _ hq => ?_)
  cases hq
  refine V_bipush (v := -2) dL_refuses_111 (by decide) ?_
  refine V_pc (pc2 := 113) rfl ?_
  refine V_icmp_ne (tgt := 475) dL_refuses_113 (by decide) (fun c113 => absurd rfl c113) (fun c113 => ?_)
  refine V_aload_n 3 dL_refuses_116 rfl ?_
  refine V_iconst (v := 0) dL_refuses_117 rfl ?_
  refine V_iconst (v := 1) dL_refuses_118 rfl ?_
  refine V_iconst (v := 1) dL_refuses_119 rfl ?_
  refine V_iload_n 2 dL_refuses_120 rfl ?_
  refine V_ineg dL_refuses_121 ?_
  refine Cq_L_82 (mc1 := 1) (ms1 := 6) rfl ⟨Nat.le_of_ble_eq_true rfl, Nat.le_of_ble_eq_true rfl⟩ (h_table_x1 w.1 (x_table_2c w rfl rfl (by decide) (by decide) (by decide) (Or.inl (y_neg1 hy)))) rfl (Nat.le_of_ble_eq_true rfl) dL_refuses_122 rfl (fun _ hq => ?_)
  cases hq
  refine V_pc (pc2 := 125) rfl ?_
  refine V_bipush (v := -2) dL_refuses_125 (by decide) ?_
  refine V_icmp_ne (tgt := 475) dL_refuses_127 (by decide) (fun c127 => absurd rfl c127) (fun c127 => ?_)
  refine V_lv (lv2 := [(3, .int _), (2, .int _), (1, .int _), (0, .ref _)]) [0, 1, 2, 3] rfl ?_
  exact kk _

set_option maxRecDepth 20000 in
theorem rf_130 {g : GE} {M : Mem} {sz kc ks : Nat} {Q : Ou → Mem → Prop} {σ τ : Nat → Int32} {hk : Bool} {n : Nat} {ps : Nat → Nat → Int32} {len : Nat} {tx : Nat → Int32} (w : CW g M σ τ hk n ps len tx) {y : Nat} (hy : y < 100000) {no bo : Int32} (hno : isP no = false) (hno2 : no < 0 ∨ ¬ no ≤ 2) (hbo : isB σ bo = false) (hI : I10 σ) (kk : ∀ sz1, V g m_L_refuses 251 [(3, .int bo), (2, .int no), (1, .int (nI y)), (0, rf g 0)] [] M sz1 kc ks Q) : V g m_L_refuses 130 [(3, .int bo), (2, .int no), (1, .int (nI y)), (0, rf g 0)] [] M sz (kc + 10) (ks + 60) Q := by
  refine V_aload_n 3 dL_refuses_130 rfl ?_
  refine V_iload_n 1 dL_refuses_131 rfl ?_
  refine V_iconst (v := 0) dL_refuses_132 rfl ?_
  refine Cq_L_87 (mc1 := 1) (ms1 := 6) rfl ⟨Nat.le_of_ble_eq_true rfl, Nat.le_of_ble_eq_true rfl⟩ (h_drop_x0 w.1 (x_drop_1a w hno)) rfl (Nat.le_of_ble_eq_true rfl) dL_refuses_133 rfl (fun _ hq => ?_)
  cases hq
  refine V_bipush (v := -3) dL_refuses_136 (by decide) ?_
  refine V_icmp_ne (tgt := 475) dL_refuses_138 (by decide) (fun c138 => absurd rfl c138) (fun c138 => ?_)
  refine V_aload_n 3 dL_refuses_141 rfl ?_
  refine V_pc (pc2 := 142) rfl ?_
  refine V_iconst (v := 3) dL_refuses_142 rfl ?_
  refine V_iconst (v := 3) dL_refuses_143 rfl ?_
  refine Cq_L_87 (mc1 := 1) (ms1 := 6) rfl ⟨Nat.le_of_ble_eq_true rfl, Nat.le_of_ble_eq_true rfl⟩ (h_drop_x2 w.1 (x_drop_2 w hI 3 3 (by decide) (by decide) rfl rfl rfl)) rfl (Nat.le_of_ble_eq_true rfl) dL_refuses_144 rfl (fun _ hq => ?_)
  cases hq
  refine V_bipush (v := -2) dL_refuses_147 (by decide) ?_
  refine V_icmp_ne (tgt := 475) dL_refuses_149 (by decide) (fun c149 => absurd rfl c149) (fun c149 => ?_)
  refine V_aload_n 3 dL_refuses_152 rfl ?_
  refine V_iload_n 1 dL_refuses_153 rfl ?_
  refine V_iconst (v := 1) dL_refuses_154 rfl ?_
  refine V_pc (pc2 := 155) rfl ?_
  refine Cq_L_90 (mc1 := 1) (ms1 := 6) rfl ⟨Nat.le_of_ble_eq_true rfl, Nat.le_of_ble_eq_true rfl⟩ (h_set_x0 w.1 (x_set_1 w hno2)) rfl (Nat.le_of_ble_eq_true rfl) dL_refuses_155 rfl (fun _ hq => ?_)
  cases hq
  refine V_bipush (v := -3) dL_refuses_158 (by decide) ?_
  refine V_icmp_ne (tgt := 475) dL_refuses_160 (by decide) (fun c160 => absurd rfl c160) (fun c160 => ?_)
  refine V_aload_n 3 dL_refuses_163 rfl ?_
  refine V_iconst (v := 0) dL_refuses_164 rfl ?_
  refine V_sipush (v := 501) dL_refuses_165 (by decide) ?_
  refine V_iload_n 2 dL_refuses_168 rfl ?_
  refine V_iadd dL_refuses_169 ?_
  refine V_pc (pc2 := 170) rfl ?_
  refine Cq_L_90 (mc1 := 1) (ms1 := 6) rfl ⟨Nat.le_of_ble_eq_true rfl, Nat.le_of_ble_eq_true rfl⟩ (h_set_x1 w.1 (x_set_2 (a := 0) (b := 501 + nI y) w (by decide) (by decide) (Or.inr (by rw [show seHi (0 : Int32) = nI 500 from rfl]; exact y_gt (k := 501) (m := 500) (by decide) (by omega))))) rfl (Nat.le_of_ble_eq_true rfl) dL_refuses_170 rfl (fun _ hq => ?_)
  cases hq
  refine V_bipush (v := -2) dL_refuses_173 (by decide) ?_
  refine V_icmp_ne (tgt := 475) dL_refuses_175 (by decide) (fun c175 => absurd rfl c175) (fun c175 => ?_)
  refine V_aload_n 3 dL_refuses_178 rfl ?_
  refine V_iconst (v := 1) dL_refuses_179 rfl ?_
  refine V_iconst (v := 2) dL_refuses_180 rfl ?_
  refine V_iload_n 2 dL_refuses_181 rfl ?_
  refine V_iadd dL_refuses_182 ?_
  refine V_pc (pc2 := 183) rfl ?_
  refine Cq_L_90 (mc1 := 1) (ms1 := 6) rfl ⟨Nat.le_of_ble_eq_true rfl, Nat.le_of_ble_eq_true rfl⟩ (h_set_x1 w.1 (x_set_2 (a := 1) (b := 2 + nI y) w (by decide) (by decide) (Or.inr (by rw [show seHi (1 : Int32) = nI 1 from rfl]; exact y_gt (k := 2) (m := 1) (by decide) (by omega))))) rfl (Nat.le_of_ble_eq_true rfl) dL_refuses_183 rfl (fun _ hq => ?_)
  cases hq
  refine V_bipush (v := -2) dL_refuses_186 (by decide) ?_
  refine V_icmp_ne (tgt := 475) dL_refuses_188 (by decide) (fun c188 => absurd rfl c188) (fun c188 => ?_)
  refine V_aload_n 3 dL_refuses_191 rfl ?_
  refine V_iconst (v := 2) dL_refuses_192 rfl ?_
  refine V_iconst (v := 5) dL_refuses_193 rfl ?_
  refine V_iload_n 2 dL_refuses_194 rfl ?_
  refine V_iadd dL_refuses_195 ?_
  refine V_pc (pc2 := 196) rfl ?_
  refine Cq_L_90 (mc1 := 1) (ms1 := 6) rfl ⟨Nat.le_of_ble_eq_true rfl, Nat.le_of_ble_eq_true rfl⟩ (h_set_x1 w.1 (x_set_2 (a := 2) (b := 5 + nI y) w (by decide) (by decide) (Or.inr (by rw [show seHi (2 : Int32) = nI 4 from rfl]; exact y_gt (k := 5) (m := 4) (by decide) (by omega))))) rfl (Nat.le_of_ble_eq_true rfl) dL_refuses_196 rfl (fun _ hq => ?_)
  cases hq
  refine V_bipush (v := -2) dL_refuses_199 (by decide) ?_
  refine V_icmp_ne (tgt := 475) dL_refuses_201 (by decide) (fun c201 => absurd rfl c201) (fun c201 => ?_)
  refine V_aload_n 3 dL_refuses_204 rfl ?_
  refine V_iload_n 1 dL_refuses_205 rfl ?_
  refine V_iconst (v := 1) dL_refuses_206 rfl ?_
  refine Cq_L_94 (mc1 := 1) (ms1 := 6) rfl ⟨Nat.le_of_ble_eq_true rfl, Nat.le_of_ble_eq_true rfl⟩ (h_bolt_x0 w.1 (x_bolt_1 w hno)) rfl (Nat.le_of_ble_eq_true rfl) dL_refuses_207 rfl (fun _ hq => ?_)
  cases hq
  refine V_bipush (v := -3) dL_refuses_210 (by decide) ?_
  refine V_pc (pc2 := 212) rfl ?_
  refine V_icmp_ne (tgt := 475) dL_refuses_212 (by decide) (fun c212 => absurd rfl c212) (fun c212 => ?_)
  refine V_aload_n 3 dL_refuses_215 rfl ?_
  refine V_iconst (v := 0) dL_refuses_216 rfl ?_
  refine V_sipush (v := 10000) dL_refuses_217 (by decide) ?_
  refine V_iload_n 2 dL_refuses_220 rfl ?_
  refine V_iadd dL_refuses_221 ?_
  refine Cq_L_94 (mc1 := 1) (ms1 := 6) rfl ⟨Nat.le_of_ble_eq_true rfl, Nat.le_of_ble_eq_true rfl⟩ (h_bolt_x1 w.1 (x_bolt_2 w rfl (Or.inr (y_gt (k := 10000) (m := 9999) (by decide) (by omega))))) rfl (Nat.le_of_ble_eq_true rfl) dL_refuses_222 rfl (fun _ hq => ?_)
  cases hq
  refine V_bipush (v := -2) dL_refuses_225 (by decide) ?_
  refine V_pc (pc2 := 227) rfl ?_
  refine V_icmp_ne (tgt := 475) dL_refuses_227 (by decide) (fun c227 => absurd rfl c227) (fun c227 => ?_)
  refine V_aload_n 3 dL_refuses_230 rfl ?_
  refine V_iload_n 0 dL_refuses_231 rfl ?_
  refine V_iconst (v := 0) dL_refuses_232 rfl ?_
  refine Cq_L_117 (mc1 := 1) (ms1 := 6) rfl ⟨Nat.le_of_ble_eq_true rfl, Nat.le_of_ble_eq_true rfl⟩ (h_send_x0 w.1 (x_send_1a w hbo)) rfl (Nat.le_of_ble_eq_true rfl) dL_refuses_233 rfl (fun _ hq => ?_)
  cases hq
  refine V_bipush (v := -3) dL_refuses_236 (by decide) ?_
  refine V_icmp_ne (tgt := 475) dL_refuses_238 (by decide) (fun c238 => absurd rfl c238) (fun c238 => ?_)
  refine V_aload_n 3 dL_refuses_241 rfl ?_
  refine V_pc (pc2 := 242) rfl ?_
  refine V_iload_n 0 dL_refuses_242 rfl ?_
  refine Cq_L_96 (mc1 := 1) (ms1 := 6) rfl ⟨Nat.le_of_ble_eq_true rfl, Nat.le_of_ble_eq_true rfl⟩ (h_sell_x0 w.1 (x_sell_1 w hbo)) rfl (Nat.le_of_ble_eq_true rfl) dL_refuses_243 rfl (fun _ hq => ?_)
  cases hq
  refine V_bipush (v := -2) dL_refuses_246 (by decide) ?_
  refine V_icmp_ne (tgt := 475) dL_refuses_248 (by decide) (fun c248 => absurd rfl c248) (fun c248 => ?_)
  refine V_lv (lv2 := [(3, .int _), (2, .int _), (1, .int _), (0, .ref _)]) [0, 1, 2, 3] rfl ?_
  exact kk _

set_option maxRecDepth 20000 in
theorem rf_251 {g : GE} {M : Mem} {sz kc ks : Nat} {Q : Ou → Mem → Prop} {σ τ : Nat → Int32} {hk : Bool} {n : Nat} {ps : Nat → Nat → Int32} {len : Nat} {tx : Nat → Int32} (w : CW g M σ τ hk n ps len tx) {y : Nat} (hy : y < 100000) {no bo : Int32} (hno : isP no = false) (hno2 : no < 0 ∨ ¬ no ≤ 2) (hbo : isB σ bo = false) (hI : I10 σ) (kk : ∀ sz1, V g m_L_refuses 353 [(3, .int bo), (2, .int no), (1, .int (nI y)), (0, rf g 0)] [] M sz1 kc ks Q) : V g m_L_refuses 251 [(3, .int bo), (2, .int no), (1, .int (nI y)), (0, rf g 0)] [] M sz (kc + 8) (ks + 48) Q := by
  refine V_aload_n 3 dL_refuses_251 rfl ?_
  refine V_iload_n 1 dL_refuses_252 rfl ?_
  refine V_iload_n 1 dL_refuses_253 rfl ?_
  refine V_bipush (v := 9) dL_refuses_254 (by decide) ?_
  refine Cq_L_119 (mc1 := 1) (ms1 := 6) rfl ⟨Nat.le_of_ble_eq_true rfl, Nat.le_of_ble_eq_true rfl⟩ (h_tableOf_x0 w.1 (x_tableOf_1 w (Or.inl hno))) rfl (Nat.le_of_ble_eq_true rfl) dL_refuses_256 rfl (fun _ hq => ?_)
  cases hq
  refine V_bipush (v := -3) dL_refuses_259 (by decide) ?_
  refine V_icmp_ne (tgt := 475) dL_refuses_261 (by decide) (fun c261 => absurd rfl c261) (fun c261 => ?_)
  refine V_pc (pc2 := 264) rfl ?_
  refine V_aload_n 3 dL_refuses_264 rfl ?_
  refine V_iconst (v := 1) dL_refuses_265 rfl ?_
  refine V_iconst (v := 1) dL_refuses_266 rfl ?_
  refine V_iconst (v := 0) dL_refuses_267 rfl ?_
  refine Cq_L_119 (mc1 := 1) (ms1 := 6) rfl ⟨Nat.le_of_ble_eq_true rfl, Nat.le_of_ble_eq_true rfl⟩ (h_tableOf_x1 w.1 (x_tableOf_2a w rfl rfl rfl)) rfl (Nat.le_of_ble_eq_true rfl) dL_refuses_268 rfl (fun _ hq => ?_)
  cases hq
  refine V_bipush (v := -2) dL_refuses_271 (by decide) ?_
  refine V_icmp_ne (tgt := 475) dL_refuses_273 (by decide) (fun c273 => absurd rfl c273) (fun c273 => ?_)
  refine V_aload_n 3 dL_refuses_276 rfl ?_
  refine V_pc (pc2 := 277) rfl ?_
  refine V_iconst (v := -1) dL_refuses_277 rfl ?_
  refine V_iload_n 2 dL_refuses_278 rfl ?_
  refine V_isub dL_refuses_279 ?_
  refine V_iconst (v := 0) dL_refuses_280 rfl ?_
  refine Cq_L_138 (mc1 := 1) (ms1 := 6) rfl ⟨Nat.le_of_ble_eq_true rfl, Nat.le_of_ble_eq_true rfl⟩ (h_ring_x1 w.1 (x_ring_1a w (y_nn hy))) rfl (Nat.le_of_ble_eq_true rfl) dL_refuses_281 rfl (fun _ hq => ?_)
  cases hq
  refine V_bipush (v := -2) dL_refuses_284 (by decide) ?_
  refine V_icmp_ne (tgt := 475) dL_refuses_286 (by decide) (fun c286 => absurd rfl c286) (fun c286 => ?_)
  refine V_aload_n 3 dL_refuses_289 rfl ?_
  refine V_pc (pc2 := 290) rfl ?_
  refine V_iconst (v := 0) dL_refuses_290 rfl ?_
  refine V_iconst (v := 4) dL_refuses_291 rfl ?_
  refine V_iload_n 2 dL_refuses_292 rfl ?_
  refine V_iadd dL_refuses_293 ?_
  refine Cq_L_138 (mc1 := 1) (ms1 := 6) rfl ⟨Nat.le_of_ble_eq_true rfl, Nat.le_of_ble_eq_true rfl⟩ (h_ring_x1 w.1 (x_ring_1b w (by decide) (Or.inr (y_gt (k := 4) (m := 3) (by decide) (by omega))))) rfl (Nat.le_of_ble_eq_true rfl) dL_refuses_294 rfl (fun _ hq => ?_)
  cases hq
  refine V_bipush (v := -2) dL_refuses_297 (by decide) ?_
  refine V_icmp_ne (tgt := 475) dL_refuses_299 (by decide) (fun c299 => absurd rfl c299) (fun c299 => ?_)
  refine V_aload_n 3 dL_refuses_302 rfl ?_
  refine V_pc (pc2 := 303) rfl ?_
  refine V_iload_n 0 dL_refuses_303 rfl ?_
  refine V_bipush (v := 9) dL_refuses_304 (by decide) ?_
  refine Cq_L_141 (mc1 := 1) (ms1 := 6) rfl ⟨Nat.le_of_ble_eq_true rfl, Nat.le_of_ble_eq_true rfl⟩ (h_boltOf_x0 w.1 (x_boltOf_1 w hbo)) rfl (Nat.le_of_ble_eq_true rfl) dL_refuses_306 rfl (fun _ hq => ?_)
  cases hq
  refine V_bipush (v := -3) dL_refuses_309 (by decide) ?_
  refine V_icmp_ne (tgt := 475) dL_refuses_311 (by decide) (fun c311 => absurd rfl c311) (fun c311 => ?_)
  refine V_aload_n 3 dL_refuses_314 rfl ?_
  refine V_bipush (v := 18) dL_refuses_315 (by decide) ?_
  refine V_iload_n 2 dL_refuses_317 rfl ?_
  refine V_pc (pc2 := 318) rfl ?_
  refine V_iadd dL_refuses_318 ?_
  refine Cq_L_130 (mc1 := 1) (ms1 := 6) rfl ⟨Nat.le_of_ble_eq_true rfl, Nat.le_of_ble_eq_true rfl⟩ (h_count_x1 w.1 (x_count_1b w (Or.inr (y_gt (k := 18) (m := 17) (by decide) (by omega))))) rfl (Nat.le_of_ble_eq_true rfl) dL_refuses_319 rfl (fun _ hq => ?_)
  cases hq
  refine V_bipush (v := -2) dL_refuses_322 (by decide) ?_
  refine V_icmp_ne (tgt := 475) dL_refuses_324 (by decide) (fun c324 => absurd rfl c324) (fun c324 => ?_)
  refine V_aload_n 3 dL_refuses_327 rfl ?_
  refine V_iconst (v := 4) dL_refuses_328 rfl ?_
  refine V_iconst (v := 4) dL_refuses_329 rfl ?_
  refine V_iconst (v := 1) dL_refuses_330 rfl ?_
  refine V_pc (pc2 := 331) rfl ?_
  refine V_iconst (v := 1) dL_refuses_331 rfl ?_
  refine Cq_L_132 (mc1 := 1) (ms1 := 6) rfl ⟨Nat.le_of_ble_eq_true rfl, Nat.le_of_ble_eq_true rfl⟩ (h_offBy_x1 w.1 (x_offBy_2a w rfl rfl rfl)) rfl (Nat.le_of_ble_eq_true rfl) dL_refuses_332 rfl (fun _ hq => ?_)
  cases hq
  refine V_bipush (v := -2) dL_refuses_335 (by decide) ?_
  refine V_icmp_ne (tgt := 475) dL_refuses_337 (by decide) (fun c337 => absurd rfl c337) (fun c337 => ?_)
  refine V_aload_n 3 dL_refuses_340 rfl ?_
  refine V_iload_n 1 dL_refuses_341 rfl ?_
  refine V_iconst (v := 0) dL_refuses_342 rfl ?_
  refine V_iconst (v := 1) dL_refuses_343 rfl ?_
  refine V_pc (pc2 := 344) rfl ?_
  refine V_iconst (v := 1) dL_refuses_344 rfl ?_
  refine Cq_L_132 (mc1 := 1) (ms1 := 6) rfl ⟨Nat.le_of_ble_eq_true rfl, Nat.le_of_ble_eq_true rfl⟩ (h_offBy_x0 w.1 (x_offBy_1 w (Or.inl hno))) rfl (Nat.le_of_ble_eq_true rfl) dL_refuses_345 rfl (fun _ hq => ?_)
  cases hq
  refine V_bipush (v := -3) dL_refuses_348 (by decide) ?_
  refine V_icmp_ne (tgt := 475) dL_refuses_350 (by decide) (fun c350 => absurd rfl c350) (fun c350 => ?_)
  refine V_lv (lv2 := [(3, .int _), (2, .int _), (1, .int _), (0, .ref _)]) [0, 1, 2, 3] rfl ?_
  exact kk _

set_option maxRecDepth 20000 in
theorem rf_353 {g : GE} {M : Mem} {sz kc ks : Nat} {Q : Ou → Mem → Prop} {σ τ : Nat → Int32} {hk : Bool} {n : Nat} {ps : Nat → Nat → Int32} {len : Nat} {tx : Nat → Int32} (w : CW g M σ τ hk n ps len tx) {y : Nat} (hy : y < 100000) {no bo : Int32} (hno : isP no = false) (hno2 : no < 0 ∨ ¬ no ≤ 2) (hbo : isB σ bo = false) (hI : I10 σ) (kk : ∀ sz1, V g m_L_refuses 476 [(3, .int bo), (2, .int no), (1, .int (nI y)), (0, rf g 0)] [.int 1] M sz1 kc ks Q) : V g m_L_refuses 353 [(3, .int bo), (2, .int no), (1, .int (nI y)), (0, rf g 0)] [] M sz (kc + 9) (ks + 54) Q := by
  refine V_aload_n 3 dL_refuses_353 rfl ?_
  refine V_iconst (v := 0) dL_refuses_354 rfl ?_
  refine V_iconst (v := 1) dL_refuses_355 rfl ?_
  refine V_iconst (v := -1) dL_refuses_356 rfl ?_
  refine V_iload_n 2 dL_refuses_357 rfl ?_
  refine V_isub dL_refuses_358 ?_
  refine Cq_L_122 (mc1 := 1) (ms1 := 6) rfl ⟨Nat.le_of_ble_eq_true rfl, Nat.le_of_ble_eq_true rfl⟩ (h_turned_x1 w.1 (x_turned_2b w rfl rfl (by decide) (Or.inl (y_neg hy)))) rfl (Nat.le_of_ble_eq_true rfl) dL_refuses_359 rfl (fun _ hq => ?_)
  cases hq
  refine V_pc (pc2 := 362) rfl ?_
  refine V_bipush (v := -2) dL_refuses_362 (by decide) ?_
  refine V_icmp_ne (tgt := 475) dL_refuses_364 (by decide) (fun c364 => absurd rfl c364) (fun c364 => ?_)
  refine V_aload_n 3 dL_refuses_367 rfl ?_
  refine V_iload_n 1 dL_refuses_368 rfl ?_
  refine V_iconst (v := 0) dL_refuses_369 rfl ?_
  refine V_iconst (v := 1) dL_refuses_370 rfl ?_
  refine Cq_L_122 (mc1 := 1) (ms1 := 6) rfl ⟨Nat.le_of_ble_eq_true rfl, Nat.le_of_ble_eq_true rfl⟩ (h_turned_x0 w.1 (x_turned_1 w (Or.inl hno))) rfl (Nat.le_of_ble_eq_true rfl) dL_refuses_371 rfl (fun _ hq => ?_)
  cases hq
  refine V_bipush (v := -3) dL_refuses_374 (by decide) ?_
  refine V_pc (pc2 := 376) rfl ?_
  refine V_icmp_ne (tgt := 475) dL_refuses_376 (by decide) (fun c376 => absurd rfl c376) (fun c376 => ?_)
  refine V_aload_n 3 dL_refuses_379 rfl ?_
  refine V_iconst (v := 0) dL_refuses_380 rfl ?_
  refine V_iconst (v := 1) dL_refuses_381 rfl ?_
  refine V_sipush (v := 10000) dL_refuses_382 (by decide) ?_
  refine V_iload_n 2 dL_refuses_385 rfl ?_
  refine V_iadd dL_refuses_386 ?_
  refine Cq_L_124 (mc1 := 1) (ms1 := 6) rfl ⟨Nat.le_of_ble_eq_true rfl, Nat.le_of_ble_eq_true rfl⟩ (h_bestWay_x1 w.1 (x_bestWay_2b w rfl rfl (by decide) (Or.inr (y_gt (k := 10000) (m := 9999) (by decide) (by omega))))) rfl (Nat.le_of_ble_eq_true rfl) dL_refuses_387 rfl (fun _ hq => ?_)
  cases hq
  refine V_pc (pc2 := 390) rfl ?_
  refine V_bipush (v := -2) dL_refuses_390 (by decide) ?_
  refine V_icmp_ne (tgt := 475) dL_refuses_392 (by decide) (fun c392 => absurd rfl c392) (fun c392 => ?_)
  refine V_aload_n 3 dL_refuses_395 rfl ?_
  refine V_iconst (v := 0) dL_refuses_396 rfl ?_
  refine V_iload_n 1 dL_refuses_397 rfl ?_
  refine V_iconst (v := 1) dL_refuses_398 rfl ?_
  refine Cq_L_124 (mc1 := 1) (ms1 := 6) rfl ⟨Nat.le_of_ble_eq_true rfl, Nat.le_of_ble_eq_true rfl⟩ (h_bestWay_x0 w.1 (x_bestWay_1 w (Or.inr hno))) rfl (Nat.le_of_ble_eq_true rfl) dL_refuses_399 rfl (fun _ hq => ?_)
  cases hq
  refine V_bipush (v := -3) dL_refuses_402 (by decide) ?_
  refine V_pc (pc2 := 404) rfl ?_
  refine V_icmp_ne (tgt := 475) dL_refuses_404 (by decide) (fun c404 => absurd rfl c404) (fun c404 => ?_)
  refine V_aload_n 3 dL_refuses_407 rfl ?_
  refine V_iconst (v := 0) dL_refuses_408 rfl ?_
  refine V_iconst (v := 1) dL_refuses_409 rfl ?_
  refine V_iconst (v := 2) dL_refuses_410 rfl ?_
  refine V_iload_n 2 dL_refuses_411 rfl ?_
  refine V_iadd dL_refuses_412 ?_
  refine Cq_L_128 (mc1 := 1) (ms1 := 6) rfl ⟨Nat.le_of_ble_eq_true rfl, Nat.le_of_ble_eq_true rfl⟩ (h_mends_x1 w.1 (x_mends_2b w rfl rfl (by decide) (Or.inr (y_gt (k := 2) (m := 1) (by decide) (by omega))))) rfl (Nat.le_of_ble_eq_true rfl) dL_refuses_413 rfl (fun _ hq => ?_)
  cases hq
  refine V_pc (pc2 := 416) rfl ?_
  refine V_bipush (v := -2) dL_refuses_416 (by decide) ?_
  refine V_icmp_ne (tgt := 475) dL_refuses_418 (by decide) (fun c418 => absurd rfl c418) (fun c418 => ?_)
  refine V_aload_n 3 dL_refuses_421 rfl ?_
  refine V_iload_n 1 dL_refuses_422 rfl ?_
  refine V_iconst (v := 0) dL_refuses_423 rfl ?_
  refine V_iconst (v := 0) dL_refuses_424 rfl ?_
  refine Cq_L_128 (mc1 := 1) (ms1 := 6) rfl ⟨Nat.le_of_ble_eq_true rfl, Nat.le_of_ble_eq_true rfl⟩ (h_mends_x0 w.1 (x_mends_1 w (Or.inl hno))) rfl (Nat.le_of_ble_eq_true rfl) dL_refuses_425 rfl (fun _ hq => ?_)
  cases hq
  refine V_bipush (v := -3) dL_refuses_428 (by decide) ?_
  refine V_pc (pc2 := 430) rfl ?_
  refine V_icmp_ne (tgt := 475) dL_refuses_430 (by decide) (fun c430 => absurd rfl c430) (fun c430 => ?_)
  refine V_aload_n 3 dL_refuses_433 rfl ?_
  refine V_iconst (v := 2) dL_refuses_434 rfl ?_
  refine V_iload_n 2 dL_refuses_435 rfl ?_
  refine V_iadd dL_refuses_436 ?_
  refine Cq_L_143 (mc1 := 1) (ms1 := 6) rfl ⟨Nat.le_of_ble_eq_true rfl, Nat.le_of_ble_eq_true rfl⟩ (h_stopped_x1 w.1 (x_stopped_1 w (Or.inr (y_gt (k := 2) (m := 1) (by decide) (by omega))))) rfl (Nat.le_of_ble_eq_true rfl) dL_refuses_437 rfl (fun _ hq => ?_)
  cases hq
  refine V_bipush (v := -2) dL_refuses_440 (by decide) ?_
  refine V_icmp_ne (tgt := 475) dL_refuses_442 (by decide) (fun c442 => absurd rfl c442) (fun c442 => ?_)
  refine V_pc (pc2 := 445) rfl ?_
  refine V_aload_n 3 dL_refuses_445 rfl ?_
  refine V_bipush (v := 32) dL_refuses_446 (by decide) ?_
  refine V_iload_n 2 dL_refuses_448 rfl ?_
  refine V_isub dL_refuses_449 ?_
  refine Cq_L_110 (mc1 := 1) (ms1 := 6) rfl ⟨Nat.le_of_ble_eq_true rfl, Nat.le_of_ble_eq_true rfl⟩ (h_append_x1 w.1 (x_append_1 w (Or.inl (y_neg32 hy)))) rfl (Nat.le_of_ble_eq_true rfl) dL_refuses_450 rfl (fun _ hq => ?_)
  cases hq
  refine V_bipush (v := -2) dL_refuses_453 (by decide) ?_
  refine V_icmp_ne (tgt := 475) dL_refuses_455 (by decide) (fun c455 => absurd rfl c455) (fun c455 => ?_)
  refine V_aload_n 3 dL_refuses_458 rfl ?_
  refine V_pc (pc2 := 459) rfl ?_
  refine V_bipush (v := 127) dL_refuses_459 (by decide) ?_
  refine V_iload_n 2 dL_refuses_461 rfl ?_
  refine V_iadd dL_refuses_462 ?_
  refine Cq_L_110 (mc1 := 1) (ms1 := 6) rfl ⟨Nat.le_of_ble_eq_true rfl, Nat.le_of_ble_eq_true rfl⟩ (h_append_x1 w.1 (x_append_1 w (Or.inr (y_gt (k := 127) (m := 126) (by decide) (by omega))))) rfl (Nat.le_of_ble_eq_true rfl) dL_refuses_463 rfl (fun _ hq => ?_)
  cases hq
  refine V_bipush (v := -2) dL_refuses_466 (by decide) ?_
  refine V_icmp_ne (tgt := 475) dL_refuses_468 (by decide) (fun c468 => absurd rfl c468) (fun c468 => ?_)
  refine V_iconst (v := 1) dL_refuses_471 rfl ?_
  refine V_goto (tgt := 476) dL_refuses_472 (by decide) ?_
  refine V_lv (lv2 := [(3, .int _), (2, .int _), (1, .int _), (0, .ref _)]) [0, 1, 2, 3] rfl ?_
  exact kk _

theorem rf_mid {g : GE} {M : Mem} {sz kc ks : Nat} {Q : Ou → Mem → Prop} {σ τ : Nat → Int32} {hk : Bool} {n : Nat} {ps : Nat → Nat → Int32} {len : Nat} {tx : Nat → Int32} (w : CW g M σ τ hk n ps len tx) {y : Nat} (hy : y < 100000) {no bo : Int32} (hno : isP no = false) (hno2 : no < 0 ∨ ¬ no ≤ 2) (hbo : isB σ bo = false) (hI : I10 σ) (kk : ∀ sz1, V g m_L_refuses 476 [(3, .int bo), (2, .int no), (1, .int (nI y)), (0, rf g 0)] [.int 1] M sz1 kc ks Q) : V g m_L_refuses 36 [(3, .int bo), (2, .int no), (1, .int (nI y)), (0, rf g 0)] [] M sz (kc + 34) (ks + 204) Q := by
  refine V.less (kc := kc + 9 + 8 + 10 + 7) (ks := ks + 54 + 48 + 60 + 42) ?_ (by omega) (by omega)
  exact rf_36 w hy hno hno2 hbo hI (fun _ => rf_130 w hy hno hno2 hbo hI (fun _ => rf_251 w hy hno hno2 hbo hI (fun _ => rf_353 w hy hno hno2 hbo hI kk)))
set_option maxRecDepth 20000 in
theorem rf_head0 {g : GE} {M : Mem} {sz kc ks : Nat} {Q : Ou → Mem → Prop} {σ τ : Nat → Int32} {hk : Bool} {n : Nat} {ps : Nat → Nat → Int32} {len : Nat} {tx : Nat → Int32} (w : CW g M σ τ hk n ps len tx) (hI : I10 σ) {mb : Nat} (hm : σ 60 = nI mb) (hm8 : mb ≤ 8) {y : Nat} (hp : irm (nI y) 2 = 0) (kk : ∀ M1 sz1, CW g M1 σ τ hk n ps len tx → FR M M1 0 96 → V g m_L_refuses 36 [(3, .int (σ 60 + nI y)), (2, .int (5 + nI y)), (1, .int (nI y)), (0, rf g 0)] [] M1 sz1 kc ks Q) : V g m_L_refuses 0 [(0, rf g 0), (1, .int (nI y))] [] M sz kc ks Q := by
  refine V_iload_n 1 dL_refuses_0 rfl ?_
  refine V_iconst (v := 2) dL_refuses_1 rfl ?_
  refine V_irem dL_refuses_2 (by decide) ?_
  refine V_if_ne (tgt := 12) dL_refuses_3 (by decide) (fun c3 => absurd hp c3) (fun c3 => ?_)
  refine V_iconst (v := 5) dL_refuses_6 rfl ?_
  refine V_iload_n 1 dL_refuses_7 rfl ?_
  refine V_iadd dL_refuses_8 ?_
  refine V_pc (pc2 := 9) rfl ?_
  refine V_goto (tgt := 15) dL_refuses_9 (by decide) ?_
  refine V_istore_n (lv2 := [(2, .int _), (0, .ref _), (1, .int _)]) dL_refuses_15 (Nat.le_of_ble_eq_true rfl) rfl ?_
  refine V_iload_n 2 dL_refuses_16 rfl ?_
  refine V_iconst (v := 2) dL_refuses_17 rfl ?_
  refine V_irem dL_refuses_18 (by decide) ?_
  refine V_if_ne (tgt := 32) dL_refuses_19 (by decide) (fun c19 => absurd hp c19) (fun c19 => ?_)
  refine V_aload_n 1 dL_refuses_22 rfl ?_
  refine V_iconst (v := 5) dL_refuses_23 rfl ?_
  refine V_pc (pc2 := 24) rfl ?_
  refine Cq_L_130 (mc1 := 0) (ms1 := 0) rfl ⟨Nat.le_of_ble_eq_true rfl, Nat.le_of_ble_eq_true rfl⟩ (h_count_ok w.1 (x_count_ok w hI mb hm hm8 5 (by decide) rfl)) rfl (Nat.le_of_ble_eq_true rfl) dL_refuses_24 rfl (fun _ hq => ?_)
  refine V_iload_n 2 dL_refuses_27 rfl ?_
  refine V_iadd dL_refuses_28 ?_
  refine V_goto (tgt := 35) dL_refuses_29 (by decide) ?_
  refine V_istore_n (lv2 := [(3, .int _), (2, .int _), (0, .ref _), (1, .int _)]) dL_refuses_35 (Nat.le_of_ble_eq_true rfl) rfl ?_
  refine V_lv (lv2 := [(3, .int _), (2, .int _), (1, .int _), (0, .ref _)]) [0, 1, 3, 2] rfl ?_
  exact kk _ _ hq.1 hq.2

set_option maxRecDepth 20000 in
theorem rf_head1 {g : GE} {M : Mem} {sz kc ks : Nat} {Q : Ou → Mem → Prop} {y : Nat} (hp : ¬ irm (nI y) 2 = 0) (kk : V g m_L_refuses 36 [(3, .int (-1 - nI y)), (2, .int (-1 - nI y)), (1, .int (nI y)), (0, rf g 0)] [] M sz kc ks Q) : V g m_L_refuses 0 [(0, rf g 0), (1, .int (nI y))] [] M sz kc ks Q := by
  refine V_iload_n 1 dL_refuses_0 rfl ?_
  refine V_iconst (v := 2) dL_refuses_1 rfl ?_
  refine V_irem dL_refuses_2 (by decide) ?_
  refine V_if_ne (tgt := 12) dL_refuses_3 (by decide) (fun c3 => ?_) (fun c3 => absurd c3 hp)
  refine V_iconst (v := -1) dL_refuses_12 rfl ?_
  refine V_iload_n 1 dL_refuses_13 rfl ?_
  refine V_isub dL_refuses_14 ?_
  refine V_pc (pc2 := 15) rfl ?_
  refine V_istore_n (lv2 := [(2, .int _), (0, .ref _), (1, .int _)]) dL_refuses_15 (Nat.le_of_ble_eq_true rfl) rfl ?_
  refine V_iload_n 2 dL_refuses_16 rfl ?_
  refine V_iconst (v := 2) dL_refuses_17 rfl ?_
  refine V_irem dL_refuses_18 (by decide) ?_
  refine V_if_ne (tgt := 32) dL_refuses_19 (by decide) (fun c19 => ?_) (fun c19 => absurd c19 hp)
  refine V_iconst (v := -1) dL_refuses_32 rfl ?_
  refine V_iload_n 2 dL_refuses_33 rfl ?_
  refine V_isub dL_refuses_34 ?_
  refine V_pc (pc2 := 35) rfl ?_
  refine V_istore_n (lv2 := [(3, .int _), (2, .int _), (0, .ref _), (1, .int _)]) dL_refuses_35 (Nat.le_of_ble_eq_true rfl) rfl ?_
  refine V_lv (lv2 := [(3, .int _), (2, .int _), (1, .int _), (0, .ref _)]) [0, 1, 3, 2] rfl ?_
  exact kk

set_option maxRecDepth 20000 in
theorem rf_476a {g : GE} {M0 M : Mem} {sz kc ks : Nat} {Q : Ou → Mem → Prop} {σ τ : Nat → Int32} {hk : Bool} {n : Nat} {ps : Nat → Nat → Int32} {len : Nat} {tx : Nat → Int32} (w : CW g M σ τ hk n ps len tx) (hF : FR M0 M 0 96) (hI : I10 σ) {mb : Nat} (hm : σ 60 = nI mb) (hm8 : mb ≤ 8) {y : Nat} {no bo : Int32} (h8 : mb < 8) (kk : ∀ M1, CW g M1 σ τ hk n ps len tx → FR M0 M1 0 96 → V g m_L_refuses 504 [(4, .int 1), (3, .int bo), (2, .int no), (1, .int (nI y)), (0, rf g 0)] [] M1 sz kc ks Q) : V g m_L_refuses 476 [(3, .int bo), (2, .int no), (1, .int (nI y)), (0, rf g 0)] [.int 1] M sz kc ks Q := by
  refine V_istore (lv2 := [(4, .int _), (3, .int _), (2, .int _), (1, .int _), (0, .ref _)]) dL_refuses_476 (Nat.le_of_ble_eq_true rfl) rfl ?_
  refine V_iload 0 dL_refuses_478 rfl ?_
  refine V_if_eq (tgt := 543) dL_refuses_480 (by decide) (fun c480 => absurd c480 (by decide)) (fun c480 => ?_)
  refine V_aload_n 4 dL_refuses_483 rfl ?_
  refine V_iconst (v := 5) dL_refuses_484 rfl ?_
  refine Cq_L_130 (mc1 := 0) (ms1 := 0) rfl ⟨Nat.le_of_ble_eq_true rfl, Nat.le_of_ble_eq_true rfl⟩ (h_count_ok w.1 (x_count_ok w hI mb hm hm8 5 (by decide) rfl)) rfl (Nat.le_of_ble_eq_true rfl) dL_refuses_485 rfl (fun _ hq => ?_)
  have w2 := hq.1
  have hF2 := FR.trans (b := 0) (n := 96) hF hq.2 (by omega)
  clear hq
  refine V_bipush (v := 8) dL_refuses_488 (by decide) ?_
  refine V_pc (pc2 := 490) rfl ?_
  refine V_icmp_lt (tgt := 504) dL_refuses_490 (by decide) (fun c490 => ?_) (fun c490 => absurd (by rw [show countS σ n 5 = nI mb from hm]; exact nI_lt (b := 8) h8 (by decide)) c490)
  refine V_lv (lv2 := [(4, .int _), (3, .int _), (2, .int _), (1, .int _), (0, .ref _)]) [0, 1, 2, 3, 4] rfl ?_
  exact kk _ w2 hF2

set_option maxRecDepth 20000 in
theorem rf_476b {g : GE} {M0 M : Mem} {sz kc ks : Nat} {Q : Ou → Mem → Prop} {σ τ : Nat → Int32} {hk : Bool} {n : Nat} {ps : Nat → Nat → Int32} {len : Nat} {tx : Nat → Int32} (w : CW g M σ τ hk n ps len tx) (hF : FR M0 M 0 96) (hI : I10 σ) {mb : Nat} (hm : σ 60 = nI mb) (hm8 : mb ≤ 8) {y : Nat} {no bo : Int32} (h8 : mb = 8) (kk : ∀ M1, CW g M1 σ τ hk n ps len tx → FR M0 M1 0 96 → V g m_L_refuses 504 [(4, .int 1), (3, .int bo), (2, .int no), (1, .int (nI y)), (0, rf g 0)] [] M1 (sz + 1) kc ks Q) : V g m_L_refuses 476 [(3, .int bo), (2, .int no), (1, .int (nI y)), (0, rf g 0)] [.int 1] M sz (kc + 1) (ks + 6) Q := by
  refine V_istore (lv2 := [(4, .int _), (3, .int _), (2, .int _), (1, .int _), (0, .ref _)]) dL_refuses_476 (Nat.le_of_ble_eq_true rfl) rfl ?_
  refine V_iload 0 dL_refuses_478 rfl ?_
  refine V_if_eq (tgt := 543) dL_refuses_480 (by decide) (fun c480 => absurd c480 (by decide)) (fun c480 => ?_)
  refine V_aload_n 4 dL_refuses_483 rfl ?_
  refine V_iconst (v := 5) dL_refuses_484 rfl ?_
  refine Cq_L_130 (mc1 := 0) (ms1 := 0) rfl ⟨Nat.le_of_ble_eq_true rfl, Nat.le_of_ble_eq_true rfl⟩ (h_count_ok w.1 (x_count_ok w hI mb hm hm8 5 (by decide) rfl)) rfl (Nat.le_of_ble_eq_true rfl) dL_refuses_485 rfl (fun _ hq => ?_)
  have w2 := hq.1
  have hF2 := FR.trans (b := 0) (n := 96) hF hq.2 (by omega)
  clear hq
  refine V_bipush (v := 8) dL_refuses_488 (by decide) ?_
  refine V_pc (pc2 := 490) rfl ?_
  refine V_icmp_lt (tgt := 504) dL_refuses_490 (by decide) (fun c490 => absurd c490 (by rw [show countS σ n 5 = nI mb from hm, h8]; decide)) (fun c490 => ?_)
  refine V_aload_n 4 dL_refuses_493 rfl ?_
  refine V_iconst (v := 0) dL_refuses_494 rfl ?_
  refine V_iconst (v := 1) dL_refuses_495 rfl ?_
  refine Cq_L_94 (mc1 := 1) (ms1 := 6) rfl ⟨Nat.le_of_ble_eq_true rfl, Nat.le_of_ble_eq_true rfl⟩ (h_bolt_x2 w2.1 (x_bolt_3 w2 rfl (by decide) (by decide) (by rw [hm, h8]))) rfl (Nat.le_of_ble_eq_true rfl) dL_refuses_496 rfl (fun _ hq => ?_)
  cases hq
  refine V_bipush (v := -4) dL_refuses_499 (by decide) ?_
  refine V_icmp_ne (tgt := 543) dL_refuses_501 (by decide) (fun c501 => absurd rfl c501) (fun c501 => ?_)
  refine V_lv (lv2 := [(4, .int _), (3, .int _), (2, .int _), (1, .int _), (0, .ref _)]) [0, 1, 2, 3, 4] rfl ?_
  exact kk _ w2 hF2

set_option maxRecDepth 20000 in
theorem rf_504a {g : GE} {M0 M : Mem} {sz kc ks : Nat} {Q : Ou → Mem → Prop} {σ τ : Nat → Int32} {hk : Bool} {n : Nat} {ps : Nat → Nat → Int32} {len : Nat} {tx : Nat → Int32} (w : CW g M σ τ hk n ps len tx) (hF : FR M0 M 0 96) (hI : I10 σ) {mb : Nat} (hm : σ 60 = nI mb) (hm8 : mb ≤ 8) {y : Nat} {no bo : Int32} (h0 : mb = 0) (kk : ∀ M1, CW g M1 σ τ hk n ps len tx → FR M0 M1 0 96 → V g m_L_refuses 544 [(4, .int 1), (3, .int bo), (2, .int no), (1, .int (nI y)), (0, rf g 0)] [.int 1] M1 sz kc ks Q) : V g m_L_refuses 504 [(4, .int 1), (3, .int bo), (2, .int no), (1, .int (nI y)), (0, rf g 0)] [] M sz kc ks Q := by
  refine V_aload_n 4 dL_refuses_504 rfl ?_
  refine V_iconst (v := 5) dL_refuses_505 rfl ?_
  refine Cq_L_130 (mc1 := 0) (ms1 := 0) rfl ⟨Nat.le_of_ble_eq_true rfl, Nat.le_of_ble_eq_true rfl⟩ (h_count_ok w.1 (x_count_ok w hI mb hm hm8 5 (by decide) rfl)) rfl (Nat.le_of_ble_eq_true rfl) dL_refuses_506 rfl (fun _ hq => ?_)
  have w2 := hq.1
  have hF2 := FR.trans (b := 0) (n := 96) hF hq.2 (by omega)
  clear hq
  refine V_if_eq (tgt := 539) dL_refuses_509 (by decide) (fun c509 => ?_) (fun c509 => absurd (by rw [show countS σ n 5 = nI mb from hm, h0]; rfl) c509)
  refine V_iconst (v := 1) dL_refuses_539 rfl ?_
  refine V_goto (tgt := 544) dL_refuses_540 (by decide) ?_
  refine V_lv (lv2 := [(4, .int _), (3, .int _), (2, .int _), (1, .int _), (0, .ref _)]) [0, 1, 2, 3, 4] rfl ?_
  exact kk _ w2 hF2

set_option maxRecDepth 20000 in
theorem rf_504b {g : GE} {M0 M : Mem} {sz kc ks : Nat} {Q : Ou → Mem → Prop} {σ τ : Nat → Int32} {hk : Bool} {n : Nat} {ps : Nat → Nat → Int32} {len : Nat} {tx : Nat → Int32} (w : CW g M σ τ hk n ps len tx) (hF : FR M0 M 0 96) (hI : I10 σ) {mb : Nat} (hm : σ 60 = nI mb) (hm8 : mb ≤ 8) {y : Nat} {no bo : Int32} (h0 : 0 < mb) (hno : isP no = false) {q : Nat} (hq5 : q < 5) (hσq : σ (28 + 4 * 0) = nI q) (kk : ∀ M1 sz1, CW g M1 σ τ hk n ps len tx → FR M0 M1 0 96 → V g m_L_refuses 544 [(4, .int 1), (3, .int bo), (2, .int no), (1, .int (nI y)), (0, rf g 0)] [.int 1] M1 sz1 kc ks Q) : V g m_L_refuses 504 [(4, .int 1), (3, .int bo), (2, .int no), (1, .int (nI y)), (0, rf g 0)] [] M sz (kc + 2) (ks + 12) Q := by
  have hb0 : isB σ 0 = true := by
    unfold isB
    rw [hm, decide_eq_true (show (0 : Int32) ≤ 0 by decide), decide_eq_true (show (0 : Int32) < nI mb from nI_gt0 h0 (by omega))]
    rfl
  refine V_aload_n 4 dL_refuses_504 rfl ?_
  refine V_iconst (v := 5) dL_refuses_505 rfl ?_
  refine Cq_L_130 (mc1 := 0) (ms1 := 0) rfl ⟨Nat.le_of_ble_eq_true rfl, Nat.le_of_ble_eq_true rfl⟩ (h_count_ok w.1 (x_count_ok w hI mb hm hm8 5 (by decide) rfl)) rfl (Nat.le_of_ble_eq_true rfl) dL_refuses_506 rfl (fun _ hq => ?_)
  have w2 := hq.1
  have hF2 := FR.trans (b := 0) (n := 96) hF hq.2 (by omega)
  clear hq
  refine V_if_eq (tgt := 539) dL_refuses_509 (by decide) (fun c509 => absurd c509 (by rw [show countS σ n 5 = nI mb from hm]; exact nI_ne0 h0 (by omega))) (fun c509 => ?_)
  refine V_aload_n 4 dL_refuses_512 rfl ?_
  refine V_iconst (v := 0) dL_refuses_513 rfl ?_
  refine V_iload_n 2 dL_refuses_514 rfl ?_
  refine V_pc (pc2 := 515) rfl ?_
  refine Cq_L_117 (mc1 := 1) (ms1 := 6) rfl ⟨Nat.le_of_ble_eq_true rfl, Nat.le_of_ble_eq_true rfl⟩ (h_send_x0 w2.1 (x_send_1b w2 hb0 hno)) rfl (Nat.le_of_ble_eq_true rfl) dL_refuses_515 rfl (fun _ hq => ?_)
  cases hq
  refine V_bipush (v := -3) dL_refuses_518 (by decide) ?_
  refine V_icmp_ne (tgt := 543) dL_refuses_520 (by decide) (fun c520 => absurd rfl c520) (fun c520 => ?_)
  refine V_aload_n 4 dL_refuses_523 rfl ?_
  refine V_iconst (v := 0) dL_refuses_524 rfl ?_
  refine V_aload_n 4 dL_refuses_525 rfl ?_
  refine V_iconst (v := 0) dL_refuses_526 rfl ?_
  refine V_iconst (v := 0) dL_refuses_527 rfl ?_
  refine V_pc (pc2 := 528) rfl ?_
  refine Cq_L_141 (mc1 := 0) (ms1 := 0) rfl ⟨Nat.le_of_ble_eq_true rfl, Nat.le_of_ble_eq_true rfl⟩ (h_boltOf_ok w2.1 (x_boltOf_ok0 w2 0 rfl (by decide) hb0)) rfl (Nat.le_of_ble_eq_true rfl) dL_refuses_528 rfl (fun _ hq => ?_)
  have w3 := hq.1
  have hF3 := FR.trans (b := 0) (n := 96) hF2 hq.2 (by omega)
  clear hq
  refine Cq_L_117 (mc1 := 1) (ms1 := 6) rfl ⟨Nat.le_of_ble_eq_true rfl, Nat.le_of_ble_eq_true rfl⟩ (h_send_x2 w3.1 (x_send_2 w3 hI 0 q q rfl hσq (by decide) hq5 hq5 hσq hb0 (by unfold barS; rw [if_pos rfl]; decide))) rfl (Nat.le_of_ble_eq_true rfl) dL_refuses_531 rfl (fun _ hq => ?_)
  cases hq
  refine V_bipush (v := -2) dL_refuses_534 (by decide) ?_
  refine V_icmp_ne (tgt := 543) dL_refuses_536 (by decide) (fun c536 => absurd rfl c536) (fun c536 => ?_)
  refine V_iconst (v := 1) dL_refuses_539 rfl ?_
  refine V_goto (tgt := 544) dL_refuses_540 (by decide) ?_
  refine V_lv (lv2 := [(4, .int _), (3, .int _), (2, .int _), (1, .int _), (0, .ref _)]) [0, 1, 2, 3, 4] rfl ?_
  exact kk _ _ w3 hF3

set_option maxRecDepth 20000 in
theorem rf_544 {g : GE} {M0 M : Mem} {sz kc ks : Nat} {Q : Ou → Mem → Prop} {σ τ : Nat → Int32} {hk : Bool} {n : Nat} {ps : Nat → Nat → Int32} {len : Nat} {tx : Nat → Int32} (w : CW g M σ τ hk n ps len tx) (hl : len ≤ 60) (hF : FR M0 M 0 96) {y : Nat} {no bo : Int32} (hq : ∀ M1 tx1, CW g M1 σ τ hk n ps 0 tx1 → FR M0 M1 0 96 → Q (.inl (some (.int 1))) M1) : V g m_L_refuses 544 [(4, .int 1), (3, .int bo), (2, .int no), (1, .int (nI y)), (0, rf g 0)] [.int 1] M sz (kc + 2) (ks + 12) Q := by
  refine V_istore (lv2 := [(4, .int _), (3, .int _), (2, .int _), (1, .int _), (0, .ref _)]) dL_refuses_544 (Nat.le_of_ble_eq_true rfl) rfl ?_
  refine V_aload_n 4 dL_refuses_546 rfl ?_
  refine Cp_L_107 w.1 rfl ⟨Nat.le_of_ble_eq_true rfl, Nat.le_of_ble_eq_true rfl⟩ (x_clearBuffer_ok w) rfl (Nat.le_of_ble_eq_true rfl) dL_refuses_547 rfl (fun _ h9 => ?_)
  have w2 := h9.1
  have hF2 := FR.trans (b := 0) (n := 96) hF h9.2 (by omega)
  clear h9
  refine V_istore (lv2 := [(5, .int _), (4, .int _), (3, .int _), (2, .int _), (1, .int _), (0, .ref _)]) dL_refuses_550 (Nat.le_of_ble_eq_true rfl) rfl ?_
  refine V_iload 1 dL_refuses_552 rfl ?_
  refine V_if_eq (tgt := 609) dL_refuses_554 (by decide) (fun c554 => absurd c554 (by decide)) (fun c554 => ?_)
  refine V_iload 0 dL_refuses_557 rfl ?_
  refine V_pc (pc2 := 559) rfl ?_
  refine V_if_lt (tgt := 609) dL_refuses_559 (by decide) (fun c559 => absurd c559 (nI_pos (by omega))) (fun c559 => ?_)
  refine V_aload_n 5 dL_refuses_562 rfl ?_
  refine Cq_L_115 (mc1 := 1) (ms1 := 6) rfl ⟨Nat.le_of_ble_eq_true rfl, Nat.le_of_ble_eq_true rfl⟩ (h_work_x1 w2.1 (x_work_1 (t := fun _ => 59) w2 (by decide) (fun k hk => absurd hk (Nat.not_lt_zero k)) rfl)) rfl (Nat.le_of_ble_eq_true rfl) dL_refuses_563 rfl (fun _ h9 => ?_)
  have w3 := h9.1
  have hF3 := FR.trans (b := 0) (n := 96) hF2 h9.2 (by omega)
  clear h9
  refine V_bipush (v := -2) dL_refuses_566 (by decide) ?_
  refine V_icmp_ne (tgt := 609) dL_refuses_568 (by decide) (fun c568 => absurd rfl c568) (fun c568 => ?_)
  refine V_aload_n 5 dL_refuses_571 rfl ?_
  refine V_bipush (v := 59) dL_refuses_572 (by decide) ?_
  refine Cq_L_110 (mc1 := 0) (ms1 := 0) rfl ⟨Nat.le_of_ble_eq_true rfl, Nat.le_of_ble_eq_true rfl⟩ (h_append_ok w3.1 (x_append_ok w3 (by decide) (by decide) (by decide))) rfl (Nat.le_of_ble_eq_true rfl) dL_refuses_574 rfl (fun _ h9 => ?_)
  have w4 := h9.1
  have hF4 := FR.trans (b := 0) (n := 96) hF3 h9.2 (by omega)
  clear h9
  have ht : TX (fun _ => 59) (upd tx 0 59) (0 + 1) := fun k hk => ⟨show (33 : Nat) ≤ 59 by decide, show (59 : Nat) ≤ 126 by decide, by rw [show k = 0 by omega]; rfl⟩
  refine V_pc (pc2 := 577) rfl ?_
  refine V_iconst (v := 1) dL_refuses_577 rfl ?_
  refine V_icmp_ne (tgt := 609) dL_refuses_578 (by decide) (fun c578 => absurd rfl c578) (fun c578 => ?_)
  refine V_aload_n 5 dL_refuses_581 rfl ?_
  refine Cp_L_112 w4.1 rfl ⟨Nat.le_of_ble_eq_true rfl, Nat.le_of_ble_eq_true rfl⟩ (x_firstError_ok w4 (by decide) ht) rfl (Nat.le_of_ble_eq_true rfl) dL_refuses_582 rfl (fun _ h9 => ?_)
  have w5 := h9.1
  have hF5 := FR.trans (b := 0) (n := 96) hF4 h9.2 (by omega)
  clear h9
  refine V_if_ne (tgt := 609) dL_refuses_585 (by decide) (fun c585 => absurd rfl c585) (fun c585 => ?_)
  refine V_aload_n 5 dL_refuses_588 rfl ?_
  refine Cq_L_115 (mc1 := 1) (ms1 := 6) rfl ⟨Nat.le_of_ble_eq_true rfl, Nat.le_of_ble_eq_true rfl⟩ (h_work_x1 w5.1 (x_work_1 w5 (by decide) ht rfl)) rfl (Nat.le_of_ble_eq_true rfl) dL_refuses_589 rfl (fun _ h9 => ?_)
  have w6 := h9.1
  have hF6 := FR.trans (b := 0) (n := 96) hF5 h9.2 (by omega)
  clear h9
  refine V_bipush (v := -2) dL_refuses_592 (by decide) ?_
  refine V_pc (pc2 := 594) rfl ?_
  refine V_icmp_ne (tgt := 609) dL_refuses_594 (by decide) (fun c594 => absurd rfl c594) (fun c594 => ?_)
  refine V_aload_n 5 dL_refuses_597 rfl ?_
  refine Cp_L_107 w6.1 rfl ⟨Nat.le_of_ble_eq_true rfl, Nat.le_of_ble_eq_true rfl⟩ (x_clearBuffer_ok w6) rfl (Nat.le_of_ble_eq_true rfl) dL_refuses_598 rfl (fun _ h9 => ?_)
  have w7 := h9.1
  have hF7 := FR.trans (b := 0) (n := 96) hF6 h9.2 (by omega)
  clear h9
  refine V_iconst (v := 1) dL_refuses_601 rfl ?_
  refine V_icmp_ne (tgt := 609) dL_refuses_602 (by decide) (fun c602 => absurd rfl c602) (fun c602 => ?_)
  refine V_iconst (v := 1) dL_refuses_605 rfl ?_
  refine V_goto (tgt := 610) dL_refuses_606 (by decide) ?_
  refine V_zret (st := []) dL_refuses_610 rfl (by decide) ?_
  exact hq _ _ w7 hF7

theorem isB_neg {σ : Nat → Int32} {y : Nat} (hy : y < 100000) : isB σ (-1 - nI y) = false := by
  unfold isB
  rw [decide_eq_false (y_nn hy)]; rfl
theorem isB_far {σ : Nat → Int32} {mb y : Nat} (hm : σ 60 = nI mb) (hm8 : mb ≤ 8) (hy : y < 100000) : isB σ (σ 60 + nI y) = false := by
  unfold isB
  rw [hm, nI_add, decide_eq_false (nI_nlt (a := mb + y) (b := mb) (by omega) (by omega)), Bool.and_false]
theorem refuses_ok {T : Nat} {S : LndS} (h : LOK T S) {y : Nat} (hy : y < 100000) {g : GE} {M : Mem} {sz len : Nat} {tx : Nat → Int32} (hl : len ≤ 60) (w : CS g M S len tx) : Run g m_L_refuses [rf g 0, .int (nI y)] M sz 60 360 (RetP (some (.int 1)) (fun M2 => (∃ len2 tx2, len2 ≤ 60 ∧ CS g M2 S len2 tx2) ∧ FR M M2 0 96)) := by
  obtain ⟨σ, τ, hk, n, ps⟩ := S
  have i1 : IS σ := h.1.1
  have hI : I10 σ := i1.1
  obtain ⟨mb, hm8, hm, hbs⟩ := i1.2.1
  refine Run.of rfl (by decide) (Nat.le_of_ble_eq_true rfl) ?_
  show V g m_L_refuses 0 _ [] _ _ _ _ _
  have tail : ∀ (no bo : Int32) (M1 : Mem) (sz1 : Nat), isP no = false → (no < 0 ∨ ¬ no ≤ 2) → isB σ bo = false → CW g M1 σ τ hk n ps len tx → FR M M1 0 96 → V g m_L_refuses 36 [(3, .int bo), (2, .int no), (1, .int (nI y)), (0, rf g 0)] [] M1 sz1 60 360 (RetP (some (.int 1)) (fun M2 => (∃ len2 tx2, len2 ≤ 60 ∧ CS g M2 (σ, τ, hk, n, ps) len2 tx2) ∧ FR M M2 0 96)) := by
    intro no bo M1 sz1 hno hno2 hbo w1 hF
    refine V.less (kc := 2 + 2 + 1 + 34) (ks := 12 + 12 + 6 + 204) ?_ (by decide) (by decide)
    refine rf_mid w1 hy hno hno2 hbo hI (fun sz2 => ?_)
    have fin : ∀ (M2 : Mem) (sz2 : Nat), CW g M2 σ τ hk n ps len tx → FR M M2 0 96 → V g m_L_refuses 544 [(4, .int 1), (3, .int bo), (2, .int no), (1, .int (nI y)), (0, rf g 0)] [.int 1] M2 sz2 2 12 (RetP (some (.int 1)) (fun M2 => (∃ len2 tx2, len2 ≤ 60 ∧ CS g M2 (σ, τ, hk, n, ps) len2 tx2) ∧ FR M M2 0 96)) :=
      fun M2 sz2 w2 hF2 => rf_544 (kc := 0) (ks := 0) w2 hl hF2 (fun M3 tx3 w3 hF3 => ⟨rfl, ⟨0, tx3, by decide, w3⟩, hF3⟩)
    have mid : ∀ (M2 : Mem) (sz2 : Nat), CW g M2 σ τ hk n ps len tx → FR M M2 0 96 → V g m_L_refuses 504 [(4, .int 1), (3, .int bo), (2, .int no), (1, .int (nI y)), (0, rf g 0)] [] M2 sz2 (2 + 2) (12 + 12) (RetP (some (.int 1)) (fun M2 => (∃ len2 tx2, len2 ≤ 60 ∧ CS g M2 (σ, τ, hk, n, ps) len2 tx2) ∧ FR M M2 0 96)) := by
      intro M2 sz2 w2 hF2
      by_cases h0 : mb = 0
      · exact rf_504a w2 hF2 hI hm hm8 h0 (fun M3 w3 hF3 => (fin M3 _ w3 hF3).less (by decide) (by decide))
      · obtain ⟨⟨q, hq5, hσq⟩, _⟩ := hbs 0 (by omega)
        exact rf_504b w2 hF2 hI hm hm8 (by omega) hno hq5 hσq (fun M3 sz3 w3 hF3 => fin M3 sz3 w3 hF3)
    by_cases h8 : mb < 8
    · exact rf_476a w1 hF hI hm hm8 h8 (fun M3 w3 hF3 => (mid M3 _ w3 hF3).less (by decide) (by decide))
    · exact rf_476b w1 hF hI hm hm8 (by omega) (fun M3 w3 hF3 => mid M3 _ w3 hF3)
  by_cases hp : irm (nI y) 2 = 0
  · refine rf_head0 w hI hm hm8 hp (fun M1 sz1 w1 hF => ?_)
    have h5 : 5 ≤ 5 + nI y := by rw [show (5 : Int32) = nI 5 from rfl, nI_add]; exact nI_le (by omega) (by omega)
    exact tail _ _ M1 sz1 (isP_f2 h5) (Or.inr (y_gt (k := 5) (m := 2) (by decide) (by omega))) (isB_far hm hm8 hy) w1 hF
  · exact rf_head1 hp (tail _ _ M sz (isP_f1 (y_neg hy)) (Or.inl (y_neg hy)) (isB_neg hy) w (FR.refl M 0 96))
