/-! the law's acts -/
theorem V_ineg {g : GE} {mt : MT} {pc : Nat} {lv : List (Nat × Value)} {st : List Value} {M : Mem} {sz kc ks : Nat} {Q : Ou → Mem → Prop} {x : Int32} (d : decode (mC mt) pc = .ok (.ineg, 1)) (k : V g mt (pc + 1) lv (.int (-x) :: st) M sz kc ks Q) : V g mt pc lv (.int x :: st) M sz kc ks Q := by
  intro p e R s m args below meth c H locs cells slots mc ms ls a1 a2 a3 a4 a5 a6 a7 a8 a9
  exact lv_ineg a1.1 a1.2.1 d (k p e R s m args below meth c H locs cells slots mc ms ls a1 a2 a3 a4 a5 a6 a7 a8 a9)
abbrev irm (x y : Int32) : Int32 := x - x / y * y
abbrev yA (c : Int32) : Int32 := c / 32
abbrev fA (c : Int32) : Int32 := irm (yA c) 5
abbrev tA (c : Int32) : Int32 := irm (fA c + 1 + irm (yA c / 5) 4) 5
def ACT (T : Nat) (c : Int32) (S : LndS) : Prop := ∃ (r : Int32) (S2 : LndS), LOK T S2 ∧ ∀ (g : GE) (M : Mem) (sz len : Nat) (tx : Nat → Int32), len ≤ 60 → CS g M S len tx → Run g m_L_acts [rf g 0, .int c] M sz 40 240 (RetP (some (.int r)) (fun M2 => (∃ len2 tx2, len2 ≤ 60 ∧ CS g M2 S2 len2 tx2) ∧ FR M M2 0 96))
set_option maxRecDepth 20000 in
theorem ac_head {g : GE} {M : Mem} {sz kc ks : Nat} {Q : Ou → Mem → Prop} {c : Int32} (kk : V g m_L_acts 26 [(4, .int (tA c)), (3, .int (fA c)), (2, .int (yA c)), (1, .int c), (0, rf g 0)] [.int (irm c 32)] M sz kc ks Q) : V g m_L_acts 0 [(0, rf g 0), (1, .int c)] [] M sz kc ks Q := by
  refine V_iload_n 1 dL_acts_0 rfl ?_
  refine V_bipush (v := 32) dL_acts_1 (by decide) ?_
  refine V_idiv dL_acts_3 (by decide) ?_
  refine V_istore_n (lv2 := [(2, .int _), (0, .ref _), (1, .int _)]) dL_acts_4 (Nat.le_of_ble_eq_true rfl) rfl ?_
  refine V_iload_n 0 dL_acts_5 rfl ?_
  refine V_iconst (v := 5) dL_acts_6 rfl ?_
  refine V_irem dL_acts_7 (by decide) ?_
  refine V_pc (pc2 := 8) rfl ?_
  refine V_istore_n (lv2 := [(3, .int _), (2, .int _), (0, .ref _), (1, .int _)]) dL_acts_8 (Nat.le_of_ble_eq_true rfl) rfl ?_
  refine V_iload_n 0 dL_acts_9 rfl ?_
  refine V_iconst (v := 1) dL_acts_10 rfl ?_
  refine V_iadd dL_acts_11 ?_
  refine V_iload_n 1 dL_acts_12 rfl ?_
  refine V_iconst (v := 5) dL_acts_13 rfl ?_
  refine V_idiv dL_acts_14 (by decide) ?_
  refine V_iconst (v := 4) dL_acts_15 rfl ?_
  refine V_pc (pc2 := 16) rfl ?_
  refine V_irem dL_acts_16 (by decide) ?_
  refine V_iadd dL_acts_17 ?_
  refine V_iconst (v := 5) dL_acts_18 rfl ?_
  refine V_irem dL_acts_19 (by decide) ?_
  refine V_istore (lv2 := [(4, .int _), (3, .int _), (2, .int _), (0, .ref _), (1, .int _)]) dL_acts_20 (Nat.le_of_ble_eq_true rfl) rfl ?_
  refine V_iload_n 4 dL_acts_22 rfl ?_
  refine V_bipush (v := 32) dL_acts_23 (by decide) ?_
  refine V_irem dL_acts_25 (by decide) ?_
  refine V_lv (lv2 := [(4, .int _), (3, .int _), (2, .int _), (1, .int _), (0, .ref _)]) [0, 1, 2, 4, 3] rfl ?_
  exact kk

set_option maxRecDepth 20000 in
theorem av_table {g : GE} {M : Mem} {sz c0 : Nat} {Q : Ou → Mem → Prop} {c r : Int32} {P : Mem → Prop} (hr : Run g m_L_table [rf g 0, .int (fA c), .int (tA c), .int (1 + irm (yA c / 32) 5), .int (1 + irm (yA c / 256) 5)] M sz c0 (6 * c0) (RetP (some (.int r)) P)) (hq : ∀ M2, P M2 → Q (.inl (some (.int r))) M2) : V g m_L_acts 140 [(4, .int (tA c)), (3, .int (fA c)), (2, .int (yA c)), (1, .int c), (0, rf g 0)] [] M sz c0 (6 * c0) Q := by
  refine V_aload_n 4 dL_acts_140 rfl ?_
  refine V_iload_n 1 dL_acts_141 rfl ?_
  refine V_iload 0 dL_acts_142 rfl ?_
  refine V_iconst (v := 1) dL_acts_144 rfl ?_
  refine V_iload_n 2 dL_acts_145 rfl ?_
  refine V_bipush (v := 32) dL_acts_146 (by decide) ?_
  refine V_idiv dL_acts_148 (by decide) ?_
  refine V_pc (pc2 := 149) rfl ?_
  refine V_iconst (v := 5) dL_acts_149 rfl ?_
  refine V_irem dL_acts_150 (by decide) ?_
  refine V_iadd dL_acts_151 ?_
  refine V_iconst (v := 1) dL_acts_152 rfl ?_
  refine V_iload_n 2 dL_acts_153 rfl ?_
  refine V_sipush (v := 256) dL_acts_154 (by decide) ?_
  refine V_idiv dL_acts_157 (by decide) ?_
  refine V_iconst (v := 5) dL_acts_158 rfl ?_
  refine V_pc (pc2 := 159) rfl ?_
  refine V_irem dL_acts_159 (by decide) ?_
  refine V_iadd dL_acts_160 ?_
  refine V.less (kc := 0 + c0) (ks := 0 + 6 * c0) ?_ (by omega) (by omega)
  refine Cq_L_82 rfl ⟨Nat.le_of_ble_eq_true rfl, Nat.le_of_ble_eq_true rfl⟩ (hr) rfl (Nat.le_of_ble_eq_true rfl) dL_acts_161 rfl (fun _ h9 => ?_)
  refine V_iret (st := []) dL_acts_164 rfl ?_
  exact hq _ h9

set_option maxRecDepth 20000 in
theorem av_drop {g : GE} {M : Mem} {sz c0 : Nat} {Q : Ou → Mem → Prop} {c r : Int32} {P : Mem → Prop} (hr : Run g m_L_drop [rf g 0, .int (fA c), .int (tA c)] M sz c0 (6 * c0) (RetP (some (.int r)) P)) (hq : ∀ M2, P M2 → Q (.inl (some (.int r))) M2) : V g m_L_acts 165 [(4, .int (tA c)), (3, .int (fA c)), (2, .int (yA c)), (1, .int c), (0, rf g 0)] [] M sz c0 (6 * c0) Q := by
  refine V_aload_n 4 dL_acts_165 rfl ?_
  refine V_iload_n 1 dL_acts_166 rfl ?_
  refine V_iload 0 dL_acts_167 rfl ?_
  refine V.less (kc := 0 + c0) (ks := 0 + 6 * c0) ?_ (by omega) (by omega)
  refine Cq_L_87 rfl ⟨Nat.le_of_ble_eq_true rfl, Nat.le_of_ble_eq_true rfl⟩ (hr) rfl (Nat.le_of_ble_eq_true rfl) dL_acts_169 rfl (fun _ h9 => ?_)
  refine V_iret (st := []) dL_acts_172 rfl ?_
  exact hq _ h9

set_option maxRecDepth 20000 in
theorem av_set0 {g : GE} {M : Mem} {sz c0 : Nat} {Q : Ou → Mem → Prop} {c r : Int32} {P : Mem → Prop} (h4 : irm (yA c) 4 = 0) (hr : Run g m_L_set [rf g 0, .int (0), .int (0)] M sz c0 (6 * c0) (RetP (some (.int r)) P)) (hq : ∀ M2, P M2 → Q (.inl (some (.int r))) M2) : V g m_L_acts 173 [(4, .int (tA c)), (3, .int (fA c)), (2, .int (yA c)), (1, .int c), (0, rf g 0)] [] M sz c0 (6 * c0) Q := by
  refine V_aload_n 4 dL_acts_173 rfl ?_
  refine V_iconst (v := 0) dL_acts_174 rfl ?_
  refine V_iload_n 2 dL_acts_175 rfl ?_
  refine V_iconst (v := 4) dL_acts_176 rfl ?_
  refine V_irem dL_acts_177 (by decide) ?_
  refine V_if_ne (tgt := 185) dL_acts_178 (by decide) (fun c178 => absurd h4 c178) (fun c178 => ?_)
  refine V_iconst (v := 0) dL_acts_181 rfl ?_
  refine V_pc (pc2 := 182) rfl ?_
  refine V_goto (tgt := 192) dL_acts_182 (by decide) ?_
  refine V.less (kc := 0 + c0) (ks := 0 + 6 * c0) ?_ (by omega) (by omega)
  refine Cq_L_90 rfl ⟨Nat.le_of_ble_eq_true rfl, Nat.le_of_ble_eq_true rfl⟩ (hr) rfl (Nat.le_of_ble_eq_true rfl) dL_acts_192 rfl (fun _ h9 => ?_)
  refine V_iret (st := []) dL_acts_195 rfl ?_
  exact hq _ h9

set_option maxRecDepth 20000 in
theorem av_set1 {g : GE} {M : Mem} {sz c0 : Nat} {Q : Ou → Mem → Prop} {c r : Int32} {P : Mem → Prop} (h4 : ¬ irm (yA c) 4 = 0) (hr : Run g m_L_set [rf g 0, .int (0), .int (irm (yA c / 4) 501)] M sz c0 (6 * c0) (RetP (some (.int r)) P)) (hq : ∀ M2, P M2 → Q (.inl (some (.int r))) M2) : V g m_L_acts 173 [(4, .int (tA c)), (3, .int (fA c)), (2, .int (yA c)), (1, .int c), (0, rf g 0)] [] M sz c0 (6 * c0) Q := by
  refine V_aload_n 4 dL_acts_173 rfl ?_
  refine V_iconst (v := 0) dL_acts_174 rfl ?_
  refine V_iload_n 2 dL_acts_175 rfl ?_
  refine V_iconst (v := 4) dL_acts_176 rfl ?_
  refine V_irem dL_acts_177 (by decide) ?_
  refine V_if_ne (tgt := 185) dL_acts_178 (by decide) (fun c178 => ?_) (fun c178 => absurd c178 h4)
  refine V_iload_n 2 dL_acts_185 rfl ?_
  refine V_pc (pc2 := 186) rfl ?_
  refine V_iconst (v := 4) dL_acts_186 rfl ?_
  refine V_idiv dL_acts_187 (by decide) ?_
  refine V_sipush (v := 501) dL_acts_188 (by decide) ?_
  refine V_irem dL_acts_191 (by decide) ?_
  refine V.less (kc := 0 + c0) (ks := 0 + 6 * c0) ?_ (by omega) (by omega)
  refine Cq_L_90 rfl ⟨Nat.le_of_ble_eq_true rfl, Nat.le_of_ble_eq_true rfl⟩ (hr) rfl (Nat.le_of_ble_eq_true rfl) dL_acts_192 rfl (fun _ h9 => ?_)
  refine V_iret (st := []) dL_acts_195 rfl ?_
  exact hq _ h9

set_option maxRecDepth 20000 in
theorem av_set2 {g : GE} {M : Mem} {sz c0 : Nat} {Q : Ou → Mem → Prop} {c r : Int32} {P : Mem → Prop} (h4 : irm (yA c) 2 = 0) (hr : Run g m_L_set [rf g 0, .int (1), .int (irm (yA c / 2) 2)] M sz c0 (6 * c0) (RetP (some (.int r)) P)) (hq : ∀ M2, P M2 → Q (.inl (some (.int r))) M2) : V g m_L_acts 196 [(4, .int (tA c)), (3, .int (fA c)), (2, .int (yA c)), (1, .int c), (0, rf g 0)] [] M sz c0 (6 * c0) Q := by
  refine V_iload_n 2 dL_acts_196 rfl ?_
  refine V_iconst (v := 2) dL_acts_197 rfl ?_
  refine V_irem dL_acts_198 (by decide) ?_
  refine V_if_ne (tgt := 215) dL_acts_199 (by decide) (fun c199 => absurd h4 c199) (fun c199 => ?_)
  refine V_aload_n 4 dL_acts_202 rfl ?_
  refine V_iconst (v := 1) dL_acts_203 rfl ?_
  refine V_iload_n 2 dL_acts_204 rfl ?_
  refine V_pc (pc2 := 205) rfl ?_
  refine V_iconst (v := 2) dL_acts_205 rfl ?_
  refine V_idiv dL_acts_206 (by decide) ?_
  refine V_iconst (v := 2) dL_acts_207 rfl ?_
  refine V_irem dL_acts_208 (by decide) ?_
  refine V.less (kc := 0 + c0) (ks := 0 + 6 * c0) ?_ (by omega) (by omega)
  refine Cq_L_90 rfl ⟨Nat.le_of_ble_eq_true rfl, Nat.le_of_ble_eq_true rfl⟩ (hr) rfl (Nat.le_of_ble_eq_true rfl) dL_acts_209 rfl (fun _ h9 => ?_)
  refine V_goto (tgt := 227) dL_acts_212 (by decide) ?_
  refine V_iret (st := []) dL_acts_227 rfl ?_
  exact hq _ h9

set_option maxRecDepth 20000 in
theorem av_set3 {g : GE} {M : Mem} {sz c0 : Nat} {Q : Ou → Mem → Prop} {c r : Int32} {P : Mem → Prop} (h4 : ¬ irm (yA c) 2 = 0) (hr : Run g m_L_set [rf g 0, .int (2), .int (1 + irm (yA c / 2) 4)] M sz c0 (6 * c0) (RetP (some (.int r)) P)) (hq : ∀ M2, P M2 → Q (.inl (some (.int r))) M2) : V g m_L_acts 196 [(4, .int (tA c)), (3, .int (fA c)), (2, .int (yA c)), (1, .int c), (0, rf g 0)] [] M sz c0 (6 * c0) Q := by
  refine V_iload_n 2 dL_acts_196 rfl ?_
  refine V_iconst (v := 2) dL_acts_197 rfl ?_
  refine V_irem dL_acts_198 (by decide) ?_
  refine V_if_ne (tgt := 215) dL_acts_199 (by decide) (fun c199 => ?_) (fun c199 => absurd c199 h4)
  refine V_aload_n 4 dL_acts_215 rfl ?_
  refine V_iconst (v := 2) dL_acts_216 rfl ?_
  refine V_iconst (v := 1) dL_acts_217 rfl ?_
  refine V_pc (pc2 := 218) rfl ?_
  refine V_iload_n 2 dL_acts_218 rfl ?_
  refine V_iconst (v := 2) dL_acts_219 rfl ?_
  refine V_idiv dL_acts_220 (by decide) ?_
  refine V_iconst (v := 4) dL_acts_221 rfl ?_
  refine V_irem dL_acts_222 (by decide) ?_
  refine V_iadd dL_acts_223 ?_
  refine V.less (kc := 0 + c0) (ks := 0 + 6 * c0) ?_ (by omega) (by omega)
  refine Cq_L_90 rfl ⟨Nat.le_of_ble_eq_true rfl, Nat.le_of_ble_eq_true rfl⟩ (hr) rfl (Nat.le_of_ble_eq_true rfl) dL_acts_224 rfl (fun _ h9 => ?_)
  refine V_iret (st := []) dL_acts_227 rfl ?_
  exact hq _ h9

set_option maxRecDepth 20000 in
theorem av_stick {g : GE} {M : Mem} {sz c0 : Nat} {Q : Ou → Mem → Prop} {c r : Int32} {P : Mem → Prop} (hr : Run g m_L_stick [rf g 0, .int (fA c), .int (20 + irm (yA c / 8) 41)] M sz c0 (6 * c0) (RetP (some (.int r)) P)) (hq : ∀ M2, P M2 → Q (.inl (some (.int r))) M2) : V g m_L_acts 228 [(4, .int (tA c)), (3, .int (fA c)), (2, .int (yA c)), (1, .int c), (0, rf g 0)] [] M sz c0 (6 * c0) Q := by
  refine V_aload_n 4 dL_acts_228 rfl ?_
  refine V_iload_n 1 dL_acts_229 rfl ?_
  refine V_bipush (v := 20) dL_acts_230 (by decide) ?_
  refine V_iload_n 2 dL_acts_232 rfl ?_
  refine V_bipush (v := 8) dL_acts_233 (by decide) ?_
  refine V_idiv dL_acts_235 (by decide) ?_
  refine V_bipush (v := 41) dL_acts_236 (by decide) ?_
  refine V_pc (pc2 := 238) rfl ?_
  refine V_irem dL_acts_238 (by decide) ?_
  refine V_iadd dL_acts_239 ?_
  refine V.less (kc := 0 + c0) (ks := 0 + 6 * c0) ?_ (by omega) (by omega)
  refine Cq_L_92 rfl ⟨Nat.le_of_ble_eq_true rfl, Nat.le_of_ble_eq_true rfl⟩ (hr) rfl (Nat.le_of_ble_eq_true rfl) dL_acts_240 rfl (fun _ h9 => ?_)
  refine V_iret (st := []) dL_acts_243 rfl ?_
  exact hq _ h9

set_option maxRecDepth 20000 in
theorem av_bolt {g : GE} {M : Mem} {sz c0 : Nat} {Q : Ou → Mem → Prop} {c r : Int32} {P : Mem → Prop} (hr : Run g m_L_bolt [rf g 0, .int (fA c), .int (1 + irm (yA c / 32) 9999)] M sz c0 (6 * c0) (RetP (some (.int r)) P)) (hq : ∀ M2, P M2 → Q (.inl (some (.int r))) M2) : V g m_L_acts 244 [(4, .int (tA c)), (3, .int (fA c)), (2, .int (yA c)), (1, .int c), (0, rf g 0)] [] M sz c0 (6 * c0) Q := by
  refine V_aload_n 4 dL_acts_244 rfl ?_
  refine V_iload_n 1 dL_acts_245 rfl ?_
  refine V_iconst (v := 1) dL_acts_246 rfl ?_
  refine V_iload_n 2 dL_acts_247 rfl ?_
  refine V_bipush (v := 32) dL_acts_248 (by decide) ?_
  refine V_idiv dL_acts_250 (by decide) ?_
  refine V_sipush (v := 9999) dL_acts_251 (by decide) ?_
  refine V_pc (pc2 := 254) rfl ?_
  refine V_irem dL_acts_254 (by decide) ?_
  refine V_iadd dL_acts_255 ?_
  refine V.less (kc := 0 + c0) (ks := 0 + 6 * c0) ?_ (by omega) (by omega)
  refine Cq_L_94 rfl ⟨Nat.le_of_ble_eq_true rfl, Nat.le_of_ble_eq_true rfl⟩ (hr) rfl (Nat.le_of_ble_eq_true rfl) dL_acts_256 rfl (fun _ h9 => ?_)
  refine V_iret (st := []) dL_acts_259 rfl ?_
  exact hq _ h9

set_option maxRecDepth 20000 in
theorem av_sell {g : GE} {M : Mem} {sz c0 : Nat} {Q : Ou → Mem → Prop} {c r : Int32} {P : Mem → Prop} (hr : Run g m_L_sell [rf g 0, .int (irm (yA c) 8)] M sz c0 (6 * c0) (RetP (some (.int r)) P)) (hq : ∀ M2, P M2 → Q (.inl (some (.int r))) M2) : V g m_L_acts 260 [(4, .int (tA c)), (3, .int (fA c)), (2, .int (yA c)), (1, .int c), (0, rf g 0)] [] M sz c0 (6 * c0) Q := by
  refine V_aload_n 4 dL_acts_260 rfl ?_
  refine V_iload_n 2 dL_acts_261 rfl ?_
  refine V_bipush (v := 8) dL_acts_262 (by decide) ?_
  refine V_irem dL_acts_264 (by decide) ?_
  refine V.less (kc := 0 + c0) (ks := 0 + 6 * c0) ?_ (by omega) (by omega)
  refine Cq_L_96 rfl ⟨Nat.le_of_ble_eq_true rfl, Nat.le_of_ble_eq_true rfl⟩ (hr) rfl (Nat.le_of_ble_eq_true rfl) dL_acts_265 rfl (fun _ h9 => ?_)
  refine V_iret (st := []) dL_acts_268 rfl ?_
  exact hq _ h9

set_option maxRecDepth 20000 in
theorem av_undo {g : GE} {M : Mem} {sz c0 : Nat} {Q : Ou → Mem → Prop} {c r : Int32} {P : Mem → Prop} (hr : Run g m_L_undo [rf g 0] M sz c0 (6 * c0) (RetP (some (.int r)) P)) (hq : ∀ M2, P M2 → Q (.inl (some (.int r))) M2) : V g m_L_acts 269 [(4, .int (tA c)), (3, .int (fA c)), (2, .int (yA c)), (1, .int c), (0, rf g 0)] [] M sz c0 (6 * c0) Q := by
  refine V_aload_n 4 dL_acts_269 rfl ?_
  refine V.less (kc := 0 + c0) (ks := 0 + 6 * c0) ?_ (by omega) (by omega)
  refine Cq_L_99 rfl ⟨Nat.le_of_ble_eq_true rfl, Nat.le_of_ble_eq_true rfl⟩ (hr) rfl (Nat.le_of_ble_eq_true rfl) dL_acts_270 rfl (fun _ h9 => ?_)
  refine V_iret (st := []) dL_acts_273 rfl ?_
  exact hq _ h9

set_option maxRecDepth 20000 in
theorem av_restore {g : GE} {M : Mem} {sz c0 : Nat} {Q : Ou → Mem → Prop} {c r : Int32} {P : Mem → Prop} (hr : Run g m_L_restore [rf g 0] M sz c0 (6 * c0) (RetP (some (.int r)) P)) (hq : ∀ M2, P M2 → Q (.inl (some (.int r))) M2) : V g m_L_acts 279 [(4, .int (tA c)), (3, .int (fA c)), (2, .int (yA c)), (1, .int c), (0, rf g 0)] [] M sz c0 (6 * c0) Q := by
  refine V_aload_n 4 dL_acts_279 rfl ?_
  refine V.less (kc := 0 + c0) (ks := 0 + 6 * c0) ?_ (by omega) (by omega)
  refine Cq_L_105 rfl ⟨Nat.le_of_ble_eq_true rfl, Nat.le_of_ble_eq_true rfl⟩ (hr) rfl (Nat.le_of_ble_eq_true rfl) dL_acts_280 rfl (fun _ h9 => ?_)
  refine V_iret (st := []) dL_acts_283 rfl ?_
  exact hq _ h9

set_option maxRecDepth 20000 in
theorem av_send {g : GE} {M : Mem} {sz c0 : Nat} {Q : Ou → Mem → Prop} {c r : Int32} {P : Mem → Prop} (hr : Run g m_L_send [rf g 0, .int (irm (yA c / 8) 8), .int (fA c)] M sz c0 (6 * c0) (RetP (some (.int r)) P)) (hq : ∀ M2, P M2 → Q (.inl (some (.int r))) M2) : V g m_L_acts 580 [(4, .int (tA c)), (3, .int (fA c)), (2, .int (yA c)), (1, .int c), (0, rf g 0)] [] M sz c0 (6 * c0) Q := by
  refine V_aload_n 4 dL_acts_580 rfl ?_
  refine V_iload_n 2 dL_acts_581 rfl ?_
  refine V_bipush (v := 8) dL_acts_582 (by decide) ?_
  refine V_idiv dL_acts_584 (by decide) ?_
  refine V_bipush (v := 8) dL_acts_585 (by decide) ?_
  refine V_irem dL_acts_587 (by decide) ?_
  refine V_iload_n 1 dL_acts_588 rfl ?_
  refine V_pc (pc2 := 589) rfl ?_
  refine V.less (kc := 0 + c0) (ks := 0 + 6 * c0) ?_ (by omega) (by omega)
  refine Cq_L_117 rfl ⟨Nat.le_of_ble_eq_true rfl, Nat.le_of_ble_eq_true rfl⟩ (hr) rfl (Nat.le_of_ble_eq_true rfl) dL_acts_589 rfl (fun _ h9 => ?_)
  refine V_iret (st := []) dL_acts_592 rfl ?_
  exact hq _ h9

set_option maxRecDepth 20000 in
theorem av_keep {g : GE} {M : Mem} {sz : Nat} {Q : Ou → Mem → Prop} {c r : Int32} {P : Mem → Prop} {fs : List Value} (h0 : M 0 = some (eO 8 fs)) (hr : Run g m_X8_keep [rf g 0] M sz 0 0 (RetP (some (.int r)) P)) (hq : ∀ M2, P M2 → Q (.inl (some (.int r))) M2) : V g m_L_acts 274 [(4, .int (tA c)), (3, .int (fA c)), (2, .int (yA c)), (1, .int c), (0, rf g 0)] [] M sz 0 0 Q := by
  refine V_aload_n 4 dL_acts_274 rfl ?_
  refine Cp_L_102 h0 rfl ⟨Nat.le_of_ble_eq_true rfl, Nat.le_of_ble_eq_true rfl⟩ (hr) rfl (Nat.le_of_ble_eq_true rfl) dL_acts_275 rfl (fun _ h9 => ?_)
  refine V_iret (st := []) dL_acts_278 rfl ?_
  exact hq _ h9

set_option maxRecDepth 20000 in
theorem act_table {T cn q : Nat} {S : LndS} (h : LOK T S) (e : irm (nI cn) 32 = nI q) (hq : q = 0 ∨ q = 1 ∨ q = 2 ∨ q = 3 ∨ q = 4 ∨ q = 5 ∨ q = 6 ∨ q = 7) : ACT (T + 61) (nI cn) S := by
  obtain ⟨r, S2, c0, hc, h2, k⟩ := ox_table h (fA (nI cn)) (tA (nI cn)) (1 + irm (yA (nI cn) / 32) 5) (1 + irm (yA (nI cn) / 256) 5)
  refine ⟨r, S2, h2.mono (by omega), fun g M sz len tx hl w => ?_⟩
  refine Run.of rfl (by decide) (Nat.le_of_ble_eq_true rfl) ?_
  show V g m_L_acts 0 _ [] _ _ _ _ _
  refine ac_head ?_
  rw [e]
  have kk : V g m_L_acts 140 [(4, .int (tA (nI cn))), (3, .int (fA (nI cn))), (2, .int (yA (nI cn))), (1, .int (nI cn)), (0, rf g 0)] [] M sz 40 240 (RetP (some (.int r)) (fun M2 => (∃ len2 tx2, len2 ≤ 60 ∧ CS g M2 S2 len2 tx2) ∧ FR M M2 0 96)) := V.less (kc := c0) (ks := 6 * c0) (av_table (k g M sz len tx w) (fun M2 q => ⟨rfl, ⟨_, _, hl, q.1⟩, q.2⟩)) (by omega) (by omega)
  rcases hq with rfl | rfl | rfl | rfl | rfl | rfl | rfl | rfl
  · exact V_tabIn (off := 114) (tgt := 140) dL_acts_26 (by decide) (by decide) (by decide) (by decide) kk
  · exact V_tabIn (off := 114) (tgt := 140) dL_acts_26 (by decide) (by decide) (by decide) (by decide) kk
  · exact V_tabIn (off := 114) (tgt := 140) dL_acts_26 (by decide) (by decide) (by decide) (by decide) kk
  · exact V_tabIn (off := 114) (tgt := 140) dL_acts_26 (by decide) (by decide) (by decide) (by decide) kk
  · exact V_tabIn (off := 114) (tgt := 140) dL_acts_26 (by decide) (by decide) (by decide) (by decide) kk
  · exact V_tabIn (off := 114) (tgt := 140) dL_acts_26 (by decide) (by decide) (by decide) (by decide) kk
  · exact V_tabIn (off := 114) (tgt := 140) dL_acts_26 (by decide) (by decide) (by decide) (by decide) kk
  · exact V_tabIn (off := 114) (tgt := 140) dL_acts_26 (by decide) (by decide) (by decide) (by decide) kk

set_option maxRecDepth 20000 in
theorem act_drop {T cn q : Nat} {S : LndS} (h : LOK T S) (e : irm (nI cn) 32 = nI q) (hq : q = 8) : ACT (T + 61) (nI cn) S := by
  obtain ⟨r, S2, c0, hc, h2, k⟩ := ox_drop h (fA (nI cn)) (tA (nI cn))
  refine ⟨r, S2, h2.mono (by omega), fun g M sz len tx hl w => ?_⟩
  refine Run.of rfl (by decide) (Nat.le_of_ble_eq_true rfl) ?_
  show V g m_L_acts 0 _ [] _ _ _ _ _
  refine ac_head ?_
  rw [e]
  have kk : V g m_L_acts 165 [(4, .int (tA (nI cn))), (3, .int (fA (nI cn))), (2, .int (yA (nI cn))), (1, .int (nI cn)), (0, rf g 0)] [] M sz 40 240 (RetP (some (.int r)) (fun M2 => (∃ len2 tx2, len2 ≤ 60 ∧ CS g M2 S2 len2 tx2) ∧ FR M M2 0 96)) := V.less (kc := c0) (ks := 6 * c0) (av_drop (k g M sz len tx w) (fun M2 q => ⟨rfl, ⟨_, _, hl, q.1⟩, q.2⟩)) (by omega) (by omega)
  subst hq
  exact V_tabIn (off := 139) (tgt := 165) dL_acts_26 (by decide) (by decide) (by decide) (by decide) kk

set_option maxRecDepth 20000 in
theorem act_set0 {T cn q : Nat} {S : LndS} (h : LOK T S) (e : irm (nI cn) 32 = nI q) (hq : q = 9 ∨ q = 10 ∨ q = 11) : ACT (T + 61) (nI cn) S := by
  by_cases h4 : irm (yA (nI cn)) 4 = 0
  · skip
    obtain ⟨r, S2, c0, hc, h2, k⟩ := ox_set h (0) (0)
    refine ⟨r, S2, h2.mono (by omega), fun g M sz len tx hl w => ?_⟩
    refine Run.of rfl (by decide) (Nat.le_of_ble_eq_true rfl) ?_
    show V g m_L_acts 0 _ [] _ _ _ _ _
    refine ac_head ?_
    rw [e]
    have kk : V g m_L_acts 173 [(4, .int (tA (nI cn))), (3, .int (fA (nI cn))), (2, .int (yA (nI cn))), (1, .int (nI cn)), (0, rf g 0)] [] M sz 40 240 (RetP (some (.int r)) (fun M2 => (∃ len2 tx2, len2 ≤ 60 ∧ CS g M2 S2 len2 tx2) ∧ FR M M2 0 96)) := V.less (kc := c0) (ks := 6 * c0) (av_set0 h4 (k g M sz len tx w) (fun M2 q => ⟨rfl, ⟨_, _, hl, q.1⟩, q.2⟩)) (by omega) (by omega)
    rcases hq with rfl | rfl | rfl
    · exact V_tabIn (off := 147) (tgt := 173) dL_acts_26 (by decide) (by decide) (by decide) (by decide) kk
    · exact V_tabIn (off := 147) (tgt := 173) dL_acts_26 (by decide) (by decide) (by decide) (by decide) kk
    · exact V_tabIn (off := 147) (tgt := 173) dL_acts_26 (by decide) (by decide) (by decide) (by decide) kk
  · skip
    obtain ⟨r, S2, c0, hc, h2, k⟩ := ox_set h (0) (irm (yA (nI cn) / 4) 501)
    refine ⟨r, S2, h2.mono (by omega), fun g M sz len tx hl w => ?_⟩
    refine Run.of rfl (by decide) (Nat.le_of_ble_eq_true rfl) ?_
    show V g m_L_acts 0 _ [] _ _ _ _ _
    refine ac_head ?_
    rw [e]
    have kk : V g m_L_acts 173 [(4, .int (tA (nI cn))), (3, .int (fA (nI cn))), (2, .int (yA (nI cn))), (1, .int (nI cn)), (0, rf g 0)] [] M sz 40 240 (RetP (some (.int r)) (fun M2 => (∃ len2 tx2, len2 ≤ 60 ∧ CS g M2 S2 len2 tx2) ∧ FR M M2 0 96)) := V.less (kc := c0) (ks := 6 * c0) (av_set1 h4 (k g M sz len tx w) (fun M2 q => ⟨rfl, ⟨_, _, hl, q.1⟩, q.2⟩)) (by omega) (by omega)
    rcases hq with rfl | rfl | rfl
    · exact V_tabIn (off := 147) (tgt := 173) dL_acts_26 (by decide) (by decide) (by decide) (by decide) kk
    · exact V_tabIn (off := 147) (tgt := 173) dL_acts_26 (by decide) (by decide) (by decide) (by decide) kk
    · exact V_tabIn (off := 147) (tgt := 173) dL_acts_26 (by decide) (by decide) (by decide) (by decide) kk

set_option maxRecDepth 20000 in
theorem act_set2 {T cn q : Nat} {S : LndS} (h : LOK T S) (e : irm (nI cn) 32 = nI q) (hq : q = 12) : ACT (T + 61) (nI cn) S := by
  by_cases h4 : irm (yA (nI cn)) 2 = 0
  · skip
    obtain ⟨r, S2, c0, hc, h2, k⟩ := ox_set h (1) (irm (yA (nI cn) / 2) 2)
    refine ⟨r, S2, h2.mono (by omega), fun g M sz len tx hl w => ?_⟩
    refine Run.of rfl (by decide) (Nat.le_of_ble_eq_true rfl) ?_
    show V g m_L_acts 0 _ [] _ _ _ _ _
    refine ac_head ?_
    rw [e]
    have kk : V g m_L_acts 196 [(4, .int (tA (nI cn))), (3, .int (fA (nI cn))), (2, .int (yA (nI cn))), (1, .int (nI cn)), (0, rf g 0)] [] M sz 40 240 (RetP (some (.int r)) (fun M2 => (∃ len2 tx2, len2 ≤ 60 ∧ CS g M2 S2 len2 tx2) ∧ FR M M2 0 96)) := V.less (kc := c0) (ks := 6 * c0) (av_set2 h4 (k g M sz len tx w) (fun M2 q => ⟨rfl, ⟨_, _, hl, q.1⟩, q.2⟩)) (by omega) (by omega)
    subst hq
    exact V_tabIn (off := 170) (tgt := 196) dL_acts_26 (by decide) (by decide) (by decide) (by decide) kk
  · skip
    obtain ⟨r, S2, c0, hc, h2, k⟩ := ox_set h (2) (1 + irm (yA (nI cn) / 2) 4)
    refine ⟨r, S2, h2.mono (by omega), fun g M sz len tx hl w => ?_⟩
    refine Run.of rfl (by decide) (Nat.le_of_ble_eq_true rfl) ?_
    show V g m_L_acts 0 _ [] _ _ _ _ _
    refine ac_head ?_
    rw [e]
    have kk : V g m_L_acts 196 [(4, .int (tA (nI cn))), (3, .int (fA (nI cn))), (2, .int (yA (nI cn))), (1, .int (nI cn)), (0, rf g 0)] [] M sz 40 240 (RetP (some (.int r)) (fun M2 => (∃ len2 tx2, len2 ≤ 60 ∧ CS g M2 S2 len2 tx2) ∧ FR M M2 0 96)) := V.less (kc := c0) (ks := 6 * c0) (av_set3 h4 (k g M sz len tx w) (fun M2 q => ⟨rfl, ⟨_, _, hl, q.1⟩, q.2⟩)) (by omega) (by omega)
    subst hq
    exact V_tabIn (off := 170) (tgt := 196) dL_acts_26 (by decide) (by decide) (by decide) (by decide) kk

set_option maxRecDepth 20000 in
theorem act_stick {T cn q : Nat} {S : LndS} (h : LOK T S) (e : irm (nI cn) 32 = nI q) (hq : q = 13) : ACT (T + 61) (nI cn) S := by
  obtain ⟨r, S2, c0, hc, h2, k⟩ := ox_stick h (fA (nI cn)) (20 + irm (yA (nI cn) / 8) 41)
  refine ⟨r, S2, h2.mono (by omega), fun g M sz len tx hl w => ?_⟩
  refine Run.of rfl (by decide) (Nat.le_of_ble_eq_true rfl) ?_
  show V g m_L_acts 0 _ [] _ _ _ _ _
  refine ac_head ?_
  rw [e]
  have kk : V g m_L_acts 228 [(4, .int (tA (nI cn))), (3, .int (fA (nI cn))), (2, .int (yA (nI cn))), (1, .int (nI cn)), (0, rf g 0)] [] M sz 40 240 (RetP (some (.int r)) (fun M2 => (∃ len2 tx2, len2 ≤ 60 ∧ CS g M2 S2 len2 tx2) ∧ FR M M2 0 96)) := V.less (kc := c0) (ks := 6 * c0) (av_stick (k g M sz len tx w) (fun M2 q => ⟨rfl, ⟨_, _, hl, q.1⟩, q.2⟩)) (by omega) (by omega)
  subst hq
  exact V_tabIn (off := 202) (tgt := 228) dL_acts_26 (by decide) (by decide) (by decide) (by decide) kk

set_option maxRecDepth 20000 in
theorem act_bolt {T cn q : Nat} {S : LndS} (h : LOK T S) (e : irm (nI cn) 32 = nI q) (hq : q = 14 ∨ q = 15 ∨ q = 16) : ACT (T + 61) (nI cn) S := by
  obtain ⟨r, S2, c0, hc, h2, k⟩ := ox_bolt h (fA (nI cn)) (1 + irm (yA (nI cn) / 32) 9999)
  refine ⟨r, S2, h2.mono (by omega), fun g M sz len tx hl w => ?_⟩
  refine Run.of rfl (by decide) (Nat.le_of_ble_eq_true rfl) ?_
  show V g m_L_acts 0 _ [] _ _ _ _ _
  refine ac_head ?_
  rw [e]
  have kk : V g m_L_acts 244 [(4, .int (tA (nI cn))), (3, .int (fA (nI cn))), (2, .int (yA (nI cn))), (1, .int (nI cn)), (0, rf g 0)] [] M sz 40 240 (RetP (some (.int r)) (fun M2 => (∃ len2 tx2, len2 ≤ 60 ∧ CS g M2 S2 len2 tx2) ∧ FR M M2 0 96)) := V.less (kc := c0) (ks := 6 * c0) (av_bolt (k g M sz len tx w) (fun M2 q => ⟨rfl, ⟨_, _, hl, q.1⟩, q.2⟩)) (by omega) (by omega)
  rcases hq with rfl | rfl | rfl
  · exact V_tabIn (off := 218) (tgt := 244) dL_acts_26 (by decide) (by decide) (by decide) (by decide) kk
  · exact V_tabIn (off := 218) (tgt := 244) dL_acts_26 (by decide) (by decide) (by decide) (by decide) kk
  · exact V_tabIn (off := 218) (tgt := 244) dL_acts_26 (by decide) (by decide) (by decide) (by decide) kk

set_option maxRecDepth 20000 in
theorem act_sell {T cn q : Nat} {S : LndS} (h : LOK T S) (e : irm (nI cn) 32 = nI q) (hq : q = 17) : ACT (T + 61) (nI cn) S := by
  obtain ⟨r, S2, c0, hc, h2, k⟩ := ox_sell h (irm (yA (nI cn)) 8)
  refine ⟨r, S2, h2.mono (by omega), fun g M sz len tx hl w => ?_⟩
  refine Run.of rfl (by decide) (Nat.le_of_ble_eq_true rfl) ?_
  show V g m_L_acts 0 _ [] _ _ _ _ _
  refine ac_head ?_
  rw [e]
  have kk : V g m_L_acts 260 [(4, .int (tA (nI cn))), (3, .int (fA (nI cn))), (2, .int (yA (nI cn))), (1, .int (nI cn)), (0, rf g 0)] [] M sz 40 240 (RetP (some (.int r)) (fun M2 => (∃ len2 tx2, len2 ≤ 60 ∧ CS g M2 S2 len2 tx2) ∧ FR M M2 0 96)) := V.less (kc := c0) (ks := 6 * c0) (av_sell (k g M sz len tx w) (fun M2 q => ⟨rfl, ⟨_, _, hl, q.1⟩, q.2⟩)) (by omega) (by omega)
  subst hq
  exact V_tabIn (off := 234) (tgt := 260) dL_acts_26 (by decide) (by decide) (by decide) (by decide) kk

set_option maxRecDepth 20000 in
theorem act_undo {T cn q : Nat} {S : LndS} (h : LOK T S) (e : irm (nI cn) 32 = nI q) (hq : q = 18 ∨ q = 19) : ACT (T + 61) (nI cn) S := by
  obtain ⟨r, S2, c0, hc, h2, k⟩ := ox_undo h 
  refine ⟨r, S2, h2.mono (by omega), fun g M sz len tx hl w => ?_⟩
  refine Run.of rfl (by decide) (Nat.le_of_ble_eq_true rfl) ?_
  show V g m_L_acts 0 _ [] _ _ _ _ _
  refine ac_head ?_
  rw [e]
  have kk : V g m_L_acts 269 [(4, .int (tA (nI cn))), (3, .int (fA (nI cn))), (2, .int (yA (nI cn))), (1, .int (nI cn)), (0, rf g 0)] [] M sz 40 240 (RetP (some (.int r)) (fun M2 => (∃ len2 tx2, len2 ≤ 60 ∧ CS g M2 S2 len2 tx2) ∧ FR M M2 0 96)) := V.less (kc := c0) (ks := 6 * c0) (av_undo (k g M sz len tx w) (fun M2 q => ⟨rfl, ⟨_, _, hl, q.1⟩, q.2⟩)) (by omega) (by omega)
  rcases hq with rfl | rfl
  · exact V_tabIn (off := 243) (tgt := 269) dL_acts_26 (by decide) (by decide) (by decide) (by decide) kk
  · exact V_tabIn (off := 243) (tgt := 269) dL_acts_26 (by decide) (by decide) (by decide) (by decide) kk

set_option maxRecDepth 20000 in
theorem act_restore {T cn q : Nat} {S : LndS} (h : LOK T S) (e : irm (nI cn) 32 = nI q) (hq : q = 21) : ACT (T + 61) (nI cn) S := by
  obtain ⟨r, S2, c0, hc, h2, k⟩ := ox_restore h 
  refine ⟨r, S2, h2.mono (by omega), fun g M sz len tx hl w => ?_⟩
  refine Run.of rfl (by decide) (Nat.le_of_ble_eq_true rfl) ?_
  show V g m_L_acts 0 _ [] _ _ _ _ _
  refine ac_head ?_
  rw [e]
  have kk : V g m_L_acts 279 [(4, .int (tA (nI cn))), (3, .int (fA (nI cn))), (2, .int (yA (nI cn))), (1, .int (nI cn)), (0, rf g 0)] [] M sz 40 240 (RetP (some (.int r)) (fun M2 => (∃ len2 tx2, len2 ≤ 60 ∧ CS g M2 S2 len2 tx2) ∧ FR M M2 0 96)) := V.less (kc := c0) (ks := 6 * c0) (av_restore (k g M sz len tx w) (fun M2 q => ⟨rfl, ⟨_, _, hl, q.1⟩, q.2⟩)) (by omega) (by omega)
  subst hq
  exact V_tabIn (off := 253) (tgt := 279) dL_acts_26 (by decide) (by decide) (by decide) (by decide) kk

set_option maxRecDepth 20000 in
theorem act_send {T cn q : Nat} {S : LndS} (h : LOK T S) (e : irm (nI cn) 32 = nI q) (hq : q = 25 ∨ q = 26 ∨ q = 27 ∨ q = 28 ∨ q = 29 ∨ q = 30 ∨ q = 31) : ACT (T + 61) (nI cn) S := by
  obtain ⟨r, S2, c0, hc, h2, k⟩ := ox_send h (irm (yA (nI cn) / 8) 8) (fA (nI cn))
  refine ⟨r, S2, h2.mono (by omega), fun g M sz len tx hl w => ?_⟩
  refine Run.of rfl (by decide) (Nat.le_of_ble_eq_true rfl) ?_
  show V g m_L_acts 0 _ [] _ _ _ _ _
  refine ac_head ?_
  rw [e]
  have kk : V g m_L_acts 580 [(4, .int (tA (nI cn))), (3, .int (fA (nI cn))), (2, .int (yA (nI cn))), (1, .int (nI cn)), (0, rf g 0)] [] M sz 40 240 (RetP (some (.int r)) (fun M2 => (∃ len2 tx2, len2 ≤ 60 ∧ CS g M2 S2 len2 tx2) ∧ FR M M2 0 96)) := V.less (kc := c0) (ks := 6 * c0) (av_send (k g M sz len tx w) (fun M2 q => ⟨rfl, ⟨_, _, hl, q.1⟩, q.2⟩)) (by omega) (by omega)
  rcases hq with rfl | rfl | rfl | rfl | rfl | rfl | rfl
  · exact V_tabOut (tgt := 580) dL_acts_26 (by decide) (by decide) kk
  · exact V_tabOut (tgt := 580) dL_acts_26 (by decide) (by decide) kk
  · exact V_tabOut (tgt := 580) dL_acts_26 (by decide) (by decide) kk
  · exact V_tabOut (tgt := 580) dL_acts_26 (by decide) (by decide) kk
  · exact V_tabOut (tgt := 580) dL_acts_26 (by decide) (by decide) kk
  · exact V_tabOut (tgt := 580) dL_acts_26 (by decide) (by decide) kk
  · exact V_tabOut (tgt := 580) dL_acts_26 (by decide) (by decide) kk

set_option maxRecDepth 20000 in
theorem act_keep {T cn q : Nat} {S : LndS} (h : LOK T S) (e : irm (nI cn) 32 = nI q) (hq : q = 20) : ACT (T + 61) (nI cn) S := by
  obtain ⟨σ, τ, hk, n, ps⟩ := S
  have h' := h.mono (Nat.le_add_right T 61)
  refine ⟨tabN σ, (σ, σ, true, n, ps), ⟨h'.1, fun _ => h'.1, h'.2.2.1, h'.2.2.2⟩, fun g M sz len tx hl w => ?_⟩
  refine Run.of rfl (by decide) (Nat.le_of_ble_eq_true rfl) ?_
  show V g m_L_acts 0 _ [] _ _ _ _ _
  refine ac_head ?_
  rw [e]
  have kk : V g m_L_acts 274 [(4, .int (tA (nI cn))), (3, .int (fA (nI cn))), (2, .int (yA (nI cn))), (1, .int (nI cn)), (0, rf g 0)] [] M sz 40 240 (RetP (some (.int (tabN σ))) (fun M2 => (∃ len2 tx2, len2 ≤ 60 ∧ CS g M2 (σ, σ, true, n, ps) len2 tx2) ∧ FR M M2 0 96)) := V.less (kc := 0) (ks := 0) (av_keep w.1 (x_keep_ok w) (fun M2 q => ⟨rfl, ⟨_, _, hl, q.1⟩, q.2⟩)) (by omega) (by omega)
  subst hq
  exact V_tabIn (off := 248) (tgt := 274) dL_acts_26 (by decide) (by decide) (by decide) (by decide) kk

