/-! digest, of the reference -/
set_option maxRecDepth 20000 in
theorem d9_t {g : GE} {M : Mem} {sz : Nat} {σ v : Nat → Int32} (hM : MD g M σ v) {len : Nat} {tx : Nat → Int32} (h2 : v 2 = nI len) (h100 : M 100 = some (eI g 60 tx)) (hl : len ≤ 60) {Q : Ou → Mem → Prop} : ∀ (m i : Nat) (h : Int64), i + m = len → Q (.inl (some (.long (htX tx m i h)))) M → V g m_X9_digest 365 [(3, .int (nI (i))), (1, .long (h)), (0, rf g 96)] [] M sz 0 0 Q := by
  intro m
  induction m with
  | zero =>
    intro i h hi hq
    refine V_iload_n 0 dX9_digest_365 rfl ?_
    refine V_aload_n 2 dX9_digest_366 rfl ?_
    refine G_X9_159 rfl hM.1 rfl dX9_digest_367 ?_
    refine V_icmp_ge (tgt := 393) dX9_digest_370 (by decide) (fun c370 => ?_) (fun c370 => absurd (show v 2 ≤ nI i by rw [h2]; exact nI_le (by omega) (by omega)) c370)
    refine V_lload_n 1 dX9_digest_393 rfl ?_
    refine V_lret (st := []) dX9_digest_394 rfl ?_
    exact hq
  | succ m ih =>
    intro i h hi hq
    refine V_iload_n 0 dX9_digest_365 rfl ?_
    refine V_aload_n 2 dX9_digest_366 rfl ?_
    refine G_X9_159 rfl hM.1 rfl dX9_digest_367 ?_
    refine V_icmp_ge (tgt := 393) dX9_digest_370 (by decide) (fun c370 => absurd c370 (show ¬ v 2 ≤ nI i by rw [h2]; exact nI_ge (by omega) (by omega))) (fun c370 => ?_)
    refine V_ldc2 z_X9_284 dX9_digest_373 ?_
    refine V_lload_n 1 dX9_digest_376 rfl ?_
    refine V_lmul dX9_digest_377 ?_
    refine V_pc (pc2 := 378) rfl ?_
    refine V_aload_n 2 dX9_digest_378 rfl ?_
    refine G_X9_19 rfl hM.1 rfl dX9_digest_379 ?_
    refine V_iload_n 0 dX9_digest_382 rfl ?_
    refine V_iald h100 (vp_in_nI (n := i) (by omega) (by decide)) dX9_digest_383 ?_
    refine V_i2l dX9_digest_384 ?_
    refine V_ladd dX9_digest_385 ?_
    refine V_lstore_n (lv2 := [(1, .long _), (3, .int _), (0, .ref _)]) dX9_digest_386 (Nat.le_of_ble_eq_true rfl) rfl ?_
    refine V_iinc (v := _ + 1) (lv2 := [(3, .int _), (1, .long _), (0, .ref _)]) 1 dX9_digest_387 rfl rfl (Nat.le_of_ble_eq_true rfl) rfl ?_
    refine V_pc (pc2 := 390) rfl ?_
    refine V_goto (tgt := 365) dX9_digest_390 (by decide) ?_
    refine V_lv (lv2 := [(3, .int _), (1, .long _), (0, .ref _)]) [0, 1, 2] rfl ?_
    rw [nI_1, nI_clamp (n := i) (by omega)]
    rw [htX_s] at hq
    exact ih (i + 1) _ (by omega) hq

set_option maxRecDepth 20000 in
theorem d9_bi {g : GE} {M : Mem} {sz : Nat} {σ v : Nat → Int32} (hM : MD g M σ v) {i : Nat} (hi8 : i < 8) {Q : Ou → Mem → Prop} : ∀ (m c : Nat) (h : Int64), c + m = 4 → V g m_X9_digest 217 [(3, .int (nI (i + 1))), (1, .long (boF σ i m c h)), (0, rf g 96)] [] M sz 0 0 Q → V g m_X9_digest 231 [(4, .int (nI (c))), (3, .int (nI (i))), (1, .long (h)), (0, rf g 96)] [] M sz 0 0 Q := by
  intro m
  induction m with
  | zero =>
    intro c h hc kk
    refine V_iload 0 dX9_digest_231 rfl ?_
    refine V_iconst (v := 4) dX9_digest_233 rfl ?_
    refine V_icmp_ge (tgt := 258) dX9_digest_234 (by decide) (fun c234 => ?_) (fun c234 => absurd (nI_le (a := 4) (by omega) (by omega)) c234)
    refine V_iinc (v := _ + 1) (lv2 := [(3, .int _), (4, .int _), (1, .long _), (0, .ref _)]) 1 dX9_digest_258 rfl rfl (Nat.le_of_ble_eq_true rfl) rfl ?_
    refine V_goto (tgt := 217) dX9_digest_261 (by decide) ?_
    refine V_lv (lv2 := [(3, .int _), (1, .long _), (0, .ref _)]) [0, 2, 3] rfl ?_
    rw [nI_1]
    exact kk
  | succ m ih =>
    intro c h hc kk
    refine V_iload 0 dX9_digest_231 rfl ?_
    refine V_iconst (v := 4) dX9_digest_233 rfl ?_
    refine V_icmp_ge (tgt := 258) dX9_digest_234 (by decide) (fun c234 => absurd c234 (nI_ge (b := 4) (by omega) (by decide))) (fun c234 => ?_)
    refine V_ldc2 z_X9_284 dX9_digest_237 ?_
    refine V_lload_n 2 dX9_digest_240 rfl ?_
    refine V_lmul dX9_digest_241 ?_
    refine V_aload_n 3 dX9_digest_242 rfl ?_
    refine V_pc (pc2 := 243) rfl ?_
    refine V_iload_n 1 dX9_digest_243 rfl ?_
    refine V_iload 0 dX9_digest_244 rfl ?_
    refine C_X9_236 hM.1 rfl ⟨Nat.le_of_ble_eq_true rfl, Nat.le_of_ble_eq_true rfl⟩ (r9_bolted hM i c rfl rfl hi8 (by omega)) rfl (Nat.le_of_ble_eq_true rfl) dX9_digest_246 rfl ?_
    refine V_i2l dX9_digest_249 ?_
    refine V_ladd dX9_digest_250 ?_
    refine V_lstore_n (lv2 := [(1, .long _), (4, .int _), (3, .int _), (0, .ref _)]) dX9_digest_251 (Nat.le_of_ble_eq_true rfl) rfl ?_
    refine V_iinc (v := _ + 1) (lv2 := [(4, .int _), (1, .long _), (3, .int _), (0, .ref _)]) 1 dX9_digest_252 rfl rfl (Nat.le_of_ble_eq_true rfl) rfl ?_
    refine V_goto (tgt := 231) dX9_digest_255 (by decide) ?_
    refine V_lv (lv2 := [(4, .int _), (3, .int _), (1, .long _), (0, .ref _)]) [0, 2, 1, 3] rfl ?_
    rw [nI_1]
    rw [boF_s] at kk
    exact ih (c + 1) _ (by omega) kk

set_option maxRecDepth 20000 in
theorem d9_b {g : GE} {M : Mem} {sz : Nat} {σ v : Nat → Int32} (hM : MD g M σ v) {mb : Nat} (hm : σ 60 = nI mb) (hm8 : mb ≤ 8) {Q : Ou → Mem → Prop} : ∀ (m i : Nat) (h : Int64), i + m = mb → V g m_X9_digest 264 [(1, .long (hbO σ m i h)), (0, rf g 96)] [] M sz 0 0 Q → V g m_X9_digest 217 [(3, .int (nI (i))), (1, .long (h)), (0, rf g 96)] [] M sz 0 0 Q := by
  intro m
  induction m with
  | zero =>
    intro i h hi kk
    refine V_iload_n 0 dX9_digest_217 rfl ?_
    refine V_aload_n 2 dX9_digest_218 rfl ?_
    refine G_X9_7 rfl hM.1 rfl dX9_digest_219 ?_
    refine V_bipush (v := 60) dX9_digest_222 (by decide) ?_
    refine V_iald hM.2.1 (v65 60 (by decide)) dX9_digest_224 ?_
    rw [show σ (60 : Int32).toNatClampNeg = nI mb from hm]
    refine V_icmp_ge (tgt := 264) dX9_digest_225 (by decide) (fun c225 => ?_) (fun c225 => absurd (nI_le (by omega) (by omega)) c225)
    refine V_lv (lv2 := [(1, .long _), (0, .ref _)]) [1, 2] rfl ?_
    exact kk
  | succ m ih =>
    intro i h hi kk
    refine V_iload_n 0 dX9_digest_217 rfl ?_
    refine V_aload_n 2 dX9_digest_218 rfl ?_
    refine G_X9_7 rfl hM.1 rfl dX9_digest_219 ?_
    refine V_bipush (v := 60) dX9_digest_222 (by decide) ?_
    refine V_iald hM.2.1 (v65 60 (by decide)) dX9_digest_224 ?_
    rw [show σ (60 : Int32).toNatClampNeg = nI mb from hm]
    refine V_icmp_ge (tgt := 264) dX9_digest_225 (by decide) (fun c225 => absurd c225 (nI_ge (by omega) (by omega))) (fun c225 => ?_)
    refine V_iconst (v := 0) dX9_digest_228 rfl ?_
    refine V_pc (pc2 := 229) rfl ?_
    refine V_istore (lv2 := [(4, .int _), (3, .int _), (1, .long _), (0, .ref _)]) dX9_digest_229 (Nat.le_of_ble_eq_true rfl) rfl ?_
    refine V_lv (lv2 := [(4, .int _), (3, .int _), (1, .long _), (0, .ref _)]) [0, 1, 2, 3] rfl ?_
    refine d9_bi hM (i := i) (by omega) 4 0 h (by omega) ?_
    rw [hbO_s] at kk
    exact ih (i + 1) (boF σ i 4 0 h) (by omega) kk

set_option maxRecDepth 20000 in
theorem d9_ri {g : GE} {M : Mem} {sz : Nat} {σ v : Nat → Int32} (hM : MD g M σ v) (hI : I10 σ) {r : Nat} (hr : r < 37) (ht : thr σ r = true) {Q : Ou → Mem → Prop} : ∀ (m c : Nat) (h : Int64), c + m = 4 → V g m_X9_digest 165 [(3, .int (nI (r + 1))), (1, .long (fo σ r m c h)), (0, rf g 96)] [] M sz 0 0 Q → V g m_X9_digest 174 [(4, .int (nI (c))), (3, .int (nI (r))), (1, .long (h)), (0, rf g 96)] [] M sz 0 0 Q := by
  intro m
  induction m with
  | zero =>
    intro c h hc kk
    refine V_iload 0 dX9_digest_174 rfl ?_
    refine V_iconst (v := 4) dX9_digest_176 rfl ?_
    refine V_icmp_ge (tgt := 209) dX9_digest_177 (by decide) (fun c177 => ?_) (fun c177 => absurd (nI_le (a := 4) (by omega) (by omega)) c177)
    refine V_iinc (v := _ + 1) (lv2 := [(3, .int _), (4, .int _), (1, .long _), (0, .ref _)]) 1 dX9_digest_209 rfl rfl (Nat.le_of_ble_eq_true rfl) rfl ?_
    refine V_goto (tgt := 165) dX9_digest_212 (by decide) ?_
    refine V_lv (lv2 := [(3, .int _), (1, .long _), (0, .ref _)]) [0, 2, 3] rfl ?_
    rw [nI_1]
    exact kk
  | succ m ih =>
    intro c h hc kk
    refine V_iload 0 dX9_digest_174 rfl ?_
    refine V_iconst (v := 4) dX9_digest_176 rfl ?_
    refine V_icmp_ge (tgt := 209) dX9_digest_177 (by decide) (fun c177 => absurd c177 (nI_ge (b := 4) (by omega) (by decide))) (fun c177 => ?_)
    refine V_aload_n 3 dX9_digest_180 rfl ?_
    refine V_iload_n 1 dX9_digest_181 rfl ?_
    refine C_X9_89 hM.1 rfl ⟨Nat.le_of_ble_eq_true rfl, Nat.le_of_ble_eq_true rfl⟩ (r9_isThere hM r rfl hr) rfl (Nat.le_of_ble_eq_true rfl) dX9_digest_182 rfl ?_
    refine V_if_eq (tgt := 209) dX9_digest_185 (by decide) (fun c185 => absurd c185 (by rw [ht]; decide)) (fun c185 => ?_)
    refine V_pc (pc2 := 188) rfl ?_
    refine V_ldc2 z_X9_284 dX9_digest_188 ?_
    refine V_lload_n 2 dX9_digest_191 rfl ?_
    refine V_lmul dX9_digest_192 ?_
    refine V_aload_n 3 dX9_digest_193 rfl ?_
    refine V_iload_n 1 dX9_digest_194 rfl ?_
    refine V_iload 0 dX9_digest_195 rfl ?_
    refine C_X9_232 hM.1 rfl ⟨Nat.le_of_ble_eq_true rfl, Nat.le_of_ble_eq_true rfl⟩ (r9_told hM hI r rfl hr ht (nI c)) rfl (Nat.le_of_ble_eq_true rfl) dX9_digest_197 rfl ?_
    refine V_i2l dX9_digest_200 ?_
    refine V_pc (pc2 := 201) rfl ?_
    refine V_ladd dX9_digest_201 ?_
    refine V_lstore_n (lv2 := [(1, .long _), (4, .int _), (3, .int _), (0, .ref _)]) dX9_digest_202 (Nat.le_of_ble_eq_true rfl) rfl ?_
    refine V_iinc (v := _ + 1) (lv2 := [(4, .int _), (1, .long _), (3, .int _), (0, .ref _)]) 1 dX9_digest_203 rfl rfl (Nat.le_of_ble_eq_true rfl) rfl ?_
    refine V_goto (tgt := 174) dX9_digest_206 (by decide) ?_
    refine V_lv (lv2 := [(4, .int _), (3, .int _), (1, .long _), (0, .ref _)]) [0, 2, 1, 3] rfl ?_
    rw [nI_1]
    rw [fo_s] at kk
    exact ih (c + 1) _ (by omega) kk

set_option maxRecDepth 20000 in
theorem d9_r {g : GE} {M : Mem} {sz : Nat} {σ v : Nat → Int32} (hM : MD g M σ v) (hI : I10 σ) {Q : Ou → Mem → Prop} : ∀ (m r : Nat) (h : Int64), r + m = 37 → V g m_X9_digest 215 [(1, .long (hrR σ m r h)), (0, rf g 96)] [] M sz 0 0 Q → V g m_X9_digest 165 [(3, .int (nI (r))), (1, .long (h)), (0, rf g 96)] [] M sz 0 0 Q := by
  intro m
  induction m with
  | zero =>
    intro r h hr kk
    rw [hrR_0] at kk
    refine V_iload_n 0 dX9_digest_165 rfl ?_
    refine V_bipush (v := 37) dX9_digest_166 (by decide) ?_
    refine V_icmp_ge (tgt := 215) dX9_digest_168 (by decide) (fun c168 => ?_) (fun c168 => absurd (nI_le (a := 37) (by omega) (by omega)) c168)
    refine V_lv (lv2 := [(1, .long _), (0, .ref _)]) [1, 2] rfl ?_
    exact kk
  | succ m ih =>
    intro r h hr9 kk
    have hr : r < 37 := by omega
    by_cases ht : thr σ r = true
    · skip
      refine V_iload_n 0 dX9_digest_165 rfl ?_
      refine V_bipush (v := 37) dX9_digest_166 (by decide) ?_
      refine V_icmp_ge (tgt := 215) dX9_digest_168 (by decide) (fun c168 => absurd c168 (nI_ge (b := 37) (by omega) (by decide))) (fun c168 => ?_)
      refine V_iconst (v := 0) dX9_digest_171 rfl ?_
      refine V_istore (lv2 := [(4, .int _), (3, .int _), (1, .long _), (0, .ref _)]) dX9_digest_172 (Nat.le_of_ble_eq_true rfl) rfl ?_
      refine V_lv (lv2 := [(4, .int _), (3, .int _), (1, .long _), (0, .ref _)]) [0, 1, 2, 3] rfl ?_
      refine d9_ri hM hI hr ht 4 0 h (by omega) ?_
      rw [hrR_s, if_pos ht] at kk
      exact ih (r + 1) (fo σ r 4 0 h) (by omega) kk
    · skip
      refine V_iload_n 0 dX9_digest_165 rfl ?_
      refine V_bipush (v := 37) dX9_digest_166 (by decide) ?_
      refine V_icmp_ge (tgt := 215) dX9_digest_168 (by decide) (fun c168 => absurd c168 (nI_ge (b := 37) (by omega) (by decide))) (fun c168 => ?_)
      refine V_iconst (v := 0) dX9_digest_171 rfl ?_
      refine V_istore (lv2 := [(4, .int _), (3, .int _), (1, .long _), (0, .ref _)]) dX9_digest_172 (Nat.le_of_ble_eq_true rfl) rfl ?_
      refine V_iload 0 dX9_digest_174 rfl ?_
      refine V_iconst (v := 4) dX9_digest_176 rfl ?_
      refine V_pc (pc2 := 177) rfl ?_
      refine V_icmp_ge (tgt := 209) dX9_digest_177 (by decide) (fun c177 => absurd c177 (by decide)) (fun c177 => ?_)
      refine V_aload_n 3 dX9_digest_180 rfl ?_
      refine V_iload_n 1 dX9_digest_181 rfl ?_
      refine C_X9_89 hM.1 rfl ⟨Nat.le_of_ble_eq_true rfl, Nat.le_of_ble_eq_true rfl⟩ (r9_isThere hM r rfl hr) rfl (Nat.le_of_ble_eq_true rfl) dX9_digest_182 rfl ?_
      refine V_if_eq (tgt := 209) dX9_digest_185 (by decide) (fun c185 => ?_) (fun c185 => absurd (by rw [(Bool.not_eq_true _).mp ht]; rfl) c185)
      refine V_iinc (v := _ + 1) (lv2 := [(3, .int _), (4, .int _), (1, .long _), (0, .ref _)]) 1 dX9_digest_209 rfl rfl (Nat.le_of_ble_eq_true rfl) rfl ?_
      refine V_goto (tgt := 165) dX9_digest_212 (by decide) ?_
      refine V_lv (lv2 := [(3, .int _), (1, .long _), (0, .ref _)]) [0, 2, 3] rfl ?_
      rw [nI_1]
      rw [hrR_s, if_neg ht] at kk
      exact ih (r + 1) h (by omega) kk

set_option maxRecDepth 20000 in
theorem d9_pi {g : GE} {M : Mem} {sz : Nat} {σ v : Nat → Int32} (hM : MD g M σ v) (hI : I10 σ) {K : Nat} (hK : σ 27 = nI K) (hK1 : 1 ≤ K) (hK4 : K ≤ 4) {a : Nat} (ha : a < 5) {Q : Ou → Mem → Prop} : ∀ (m b : Nat) (h : Int64), b + m = 5 → a < b → V g m_X9_digest 38 [(3, .int (nI (a + 1))), (1, .long (hpI σ K a m b h)), (0, rf g 96)] [] M sz 0 0 Q → V g m_X9_digest 48 [(4, .int (nI (b))), (3, .int (nI (a))), (1, .long (h)), (0, rf g 96)] [] M sz 0 0 Q := by
  intro m
  induction m with
  | zero =>
    intro b h hb5 hab kk
    refine V_iload 0 dX9_digest_48 rfl ?_
    refine V_iconst (v := 5) dX9_digest_50 rfl ?_
    refine V_icmp_ge (tgt := 157) dX9_digest_51 (by decide) (fun c51 => ?_) (fun c51 => absurd (nI_le (a := 5) (by omega) (by omega)) c51)
    refine V_iinc (v := _ + 1) (lv2 := [(3, .int _), (4, .int _), (1, .long _), (0, .ref _)]) 1 dX9_digest_157 rfl rfl (Nat.le_of_ble_eq_true rfl) rfl ?_
    refine V_goto (tgt := 38) dX9_digest_160 (by decide) ?_
    refine V_lv (lv2 := [(3, .int _), (1, .long _), (0, .ref _)]) [0, 2, 3] rfl ?_
    rw [nI_1]
    exact kk
  | succ m ih =>
    intro b h hb5 hab kk
    have hb : b < 5 := by omega
    refine V_iload 0 dX9_digest_48 rfl ?_
    refine V_iconst (v := 5) dX9_digest_50 rfl ?_
    refine V_icmp_ge (tgt := 157) dX9_digest_51 (by decide) (fun c51 => absurd c51 (nI_ge (b := 5) hb (by decide))) (fun c51 => ?_)
    refine V_ldc2 z_X9_284 dX9_digest_54 ?_
    refine V_lload_n 2 dX9_digest_57 rfl ?_
    refine V_lmul dX9_digest_58 ?_
    refine V_aload_n 3 dX9_digest_59 rfl ?_
    refine V_pc (pc2 := 60) rfl ?_
    refine V_iload_n 1 dX9_digest_60 rfl ?_
    refine V_iload 0 dX9_digest_61 rfl ?_
    refine V_iconst (v := 0) dX9_digest_63 rfl ?_
    refine C_X9_224 hM.1 rfl ⟨Nat.le_of_ble_eq_true rfl, Nat.le_of_ble_eq_true rfl⟩ (r9_ofTable hM a b ha hb rfl rfl) rfl (Nat.le_of_ble_eq_true rfl) dX9_digest_64 rfl ?_
    refine V_i2l dX9_digest_67 ?_
    refine V_ladd dX9_digest_68 ?_
    refine V_lstore_n (lv2 := [(1, .long _), (4, .int _), (3, .int _), (0, .ref _)]) dX9_digest_69 (Nat.le_of_ble_eq_true rfl) rfl ?_
    refine V_ldc2 z_X9_284 dX9_digest_70 ?_
    refine V_pc (pc2 := 73) rfl ?_
    refine V_lload_n 0 dX9_digest_73 rfl ?_
    refine V_lmul dX9_digest_74 ?_
    refine V_aload_n 3 dX9_digest_75 rfl ?_
    refine V_iload_n 2 dX9_digest_76 rfl ?_
    refine V_iload 1 dX9_digest_77 rfl ?_
    refine V_iconst (v := 1) dX9_digest_79 rfl ?_
    refine C_X9_224 hM.1 rfl ⟨Nat.le_of_ble_eq_true rfl, Nat.le_of_ble_eq_true rfl⟩ (r9_ofTable hM a b ha hb rfl rfl) rfl (Nat.le_of_ble_eq_true rfl) dX9_digest_80 rfl ?_
    refine V_i2l dX9_digest_83 ?_
    refine V_pc (pc2 := 84) rfl ?_
    refine V_ladd dX9_digest_84 ?_
    refine V_lstore_n (lv2 := [(1, .long _), (4, .int _), (3, .int _), (0, .ref _)]) dX9_digest_85 (Nat.le_of_ble_eq_true rfl) rfl ?_
    refine V_ldc2 z_X9_284 dX9_digest_86 ?_
    refine V_lload_n 0 dX9_digest_89 rfl ?_
    refine V_lmul dX9_digest_90 ?_
    refine V_aload_n 3 dX9_digest_91 rfl ?_
    refine V_iload_n 2 dX9_digest_92 rfl ?_
    refine V_iload 1 dX9_digest_93 rfl ?_
    refine V_pc (pc2 := 95) rfl ?_
    refine V_iconst (v := 2) dX9_digest_95 rfl ?_
    refine C_X9_224 hM.1 rfl ⟨Nat.le_of_ble_eq_true rfl, Nat.le_of_ble_eq_true rfl⟩ (r9_ofTable hM a b ha hb rfl rfl) rfl (Nat.le_of_ble_eq_true rfl) dX9_digest_96 rfl ?_
    refine V_i2l dX9_digest_99 ?_
    refine V_ladd dX9_digest_100 ?_
    refine V_lstore_n (lv2 := [(1, .long _), (4, .int _), (3, .int _), (0, .ref _)]) dX9_digest_101 (Nat.le_of_ble_eq_true rfl) rfl ?_
    refine V_ldc2 z_X9_284 dX9_digest_102 ?_
    refine V_lload_n 0 dX9_digest_105 rfl ?_
    refine V_lmul dX9_digest_106 ?_
    refine V_pc (pc2 := 107) rfl ?_
    refine V_aload_n 3 dX9_digest_107 rfl ?_
    refine V_iload_n 2 dX9_digest_108 rfl ?_
    refine V_iload 1 dX9_digest_109 rfl ?_
    refine V_iconst (v := 0) dX9_digest_111 rfl ?_
    refine C_X9_275 hM.1 rfl ⟨Nat.le_of_ble_eq_true rfl, Nat.le_of_ble_eq_true rfl⟩ (r9_mend hM hI a b rfl rfl ha hb (by omega)) rfl (Nat.le_of_ble_eq_true rfl) dX9_digest_112 rfl ?_
    refine V_i2l dX9_digest_115 ?_
    refine V_ladd dX9_digest_116 ?_
    refine V_lstore_n (lv2 := [(1, .long _), (4, .int _), (3, .int _), (0, .ref _)]) dX9_digest_117 (Nat.le_of_ble_eq_true rfl) rfl ?_
    refine V_pc (pc2 := 118) rfl ?_
    refine V_ldc2 z_X9_284 dX9_digest_118 ?_
    refine V_lload_n 0 dX9_digest_121 rfl ?_
    refine V_lmul dX9_digest_122 ?_
    refine V_aload_n 3 dX9_digest_123 rfl ?_
    refine V_iload_n 2 dX9_digest_124 rfl ?_
    refine V_iload 1 dX9_digest_125 rfl ?_
    refine V_iconst (v := 1) dX9_digest_127 rfl ?_
    refine C_X9_275 hM.1 rfl ⟨Nat.le_of_ble_eq_true rfl, Nat.le_of_ble_eq_true rfl⟩ (r9_mend hM hI a b rfl rfl ha hb (by omega)) rfl (Nat.le_of_ble_eq_true rfl) dX9_digest_128 rfl ?_
    refine V_pc (pc2 := 131) rfl ?_
    refine V_i2l dX9_digest_131 ?_
    refine V_ladd dX9_digest_132 ?_
    refine V_lstore_n (lv2 := [(1, .long _), (4, .int _), (3, .int _), (0, .ref _)]) dX9_digest_133 (Nat.le_of_ble_eq_true rfl) rfl ?_
    refine V_ldc2 z_X9_284 dX9_digest_134 ?_
    refine V_lload_n 0 dX9_digest_137 rfl ?_
    refine V_lmul dX9_digest_138 ?_
    refine V_aload_n 3 dX9_digest_139 rfl ?_
    refine V_iload_n 2 dX9_digest_140 rfl ?_
    refine V_pc (pc2 := 141) rfl ?_
    refine V_iload 1 dX9_digest_141 rfl ?_
    refine V_bipush (v := 100) dX9_digest_143 (by decide) ?_
    refine C_X9_267 hM.1 rfl ⟨Nat.le_of_ble_eq_true rfl, Nat.le_of_ble_eq_true rfl⟩ (r9_way hM hI a b K rfl rfl ha hb (by omega) hK hK1 hK4) rfl (Nat.le_of_ble_eq_true rfl) dX9_digest_145 rfl ?_
    refine V_i2l dX9_digest_148 ?_
    refine V_ladd dX9_digest_149 ?_
    refine V_lstore_n (lv2 := [(1, .long _), (4, .int _), (3, .int _), (0, .ref _)]) dX9_digest_150 (Nat.le_of_ble_eq_true rfl) rfl ?_
    refine V_iinc (v := _ + 1) (lv2 := [(4, .int _), (1, .long _), (3, .int _), (0, .ref _)]) 1 dX9_digest_151 rfl rfl (Nat.le_of_ble_eq_true rfl) rfl ?_
    refine V_goto (tgt := 48) dX9_digest_154 (by decide) ?_
    refine V_lv (lv2 := [(4, .int _), (3, .int _), (1, .long _), (0, .ref _)]) [0, 2, 1, 3] rfl ?_
    rw [nI_1]
    rw [hpI_s] at kk
    exact ih (b + 1) (pst σ K a b h) (by omega) (by omega) kk

set_option maxRecDepth 20000 in
theorem d9_p {g : GE} {M : Mem} {sz : Nat} {σ v : Nat → Int32} (hM : MD g M σ v) (hI : I10 σ) {K : Nat} (hK : σ 27 = nI K) (hK1 : 1 ≤ K) (hK4 : K ≤ 4) {Q : Ou → Mem → Prop} : ∀ (m a : Nat) (h : Int64), a + m = 5 → V g m_X9_digest 163 [(1, .long (hpO σ K m a h)), (0, rf g 96)] [] M sz 0 0 Q → V g m_X9_digest 38 [(3, .int (nI (a))), (1, .long (h)), (0, rf g 96)] [] M sz 0 0 Q := by
  intro m
  induction m with
  | zero =>
    intro a h ha5 kk
    refine V_iload_n 0 dX9_digest_38 rfl ?_
    refine V_iconst (v := 5) dX9_digest_39 rfl ?_
    refine V_icmp_ge (tgt := 163) dX9_digest_40 (by decide) (fun c40 => ?_) (fun c40 => absurd (nI_le (a := 5) (by omega) (by omega)) c40)
    refine V_lv (lv2 := [(1, .long _), (0, .ref _)]) [1, 2] rfl ?_
    exact kk
  | succ m ih =>
    intro a h ha5 kk
    have ha : a < 5 := by omega
    refine V_iload_n 0 dX9_digest_38 rfl ?_
    refine V_iconst (v := 5) dX9_digest_39 rfl ?_
    refine V_icmp_ge (tgt := 163) dX9_digest_40 (by decide) (fun c40 => absurd c40 (nI_ge (b := 5) ha (by decide))) (fun c40 => ?_)
    refine V_iload_n 0 dX9_digest_43 rfl ?_
    refine V_iconst (v := 1) dX9_digest_44 rfl ?_
    refine V_iadd dX9_digest_45 ?_
    refine V_istore (lv2 := [(4, .int _), (3, .int _), (1, .long _), (0, .ref _)]) dX9_digest_46 (Nat.le_of_ble_eq_true rfl) rfl ?_
    refine V_lv (lv2 := [(4, .int _), (3, .int _), (1, .long _), (0, .ref _)]) [0, 1, 2, 3] rfl ?_
    rw [nI_1]
    refine d9_pi hM hI hK hK1 hK4 ha (4 - a) (a + 1) h (by omega) (by omega) ?_
    rw [hpO_s] at kk
    exact ih (a + 1) (hpI σ K a (4 - a) (a + 1) h) (by omega) kk

set_option maxRecDepth 20000 in
theorem d9_e {g : GE} {M : Mem} {sz : Nat} {σ v : Nat → Int32} (hM : MD g M σ v) (hI : I10 σ) (hz : σ 63 = 0 ↔ σ 64 = 0) {len : Nat} {tx : Nat → Int32} (h2 : v 2 = nI len) (h100 : M 100 = some (eI g 60 tx)) (hl : len ≤ 60) {Q : Ou → Mem → Prop} (h : Int64) (hq9 : Q (.inl (some (.long (htX tx len 0 (hq (31 * hq (hq (hq (hq h (stopS σ 0)) (stopS σ 1)) (codI (fnd (wouS (putS σ 0 1 3 2) 0 1) 0 37))) (turnedS σ 0 1 1000) + (shS σ).toInt64) (nI len)))))) M) : V g m_X9_digest 264 [(1, .long h), (0, rf g 96)] [] M sz 0 0 Q := by
  refine V_ldc2 z_X9_284 dX9_digest_264 ?_
  refine V_lload_n 0 dX9_digest_267 rfl ?_
  refine V_lmul dX9_digest_268 ?_
  refine V_aload_n 1 dX9_digest_269 rfl ?_
  refine V_iconst (v := 0) dX9_digest_270 rfl ?_
  refine C_X9_208 hM.1 rfl ⟨Nat.le_of_ble_eq_true rfl, Nat.le_of_ble_eq_true rfl⟩ (r9_stop hM hz 0) rfl (Nat.le_of_ble_eq_true rfl) dX9_digest_271 rfl ?_
  refine V_i2l dX9_digest_274 ?_
  refine V_pc (pc2 := 275) rfl ?_
  refine V_ladd dX9_digest_275 ?_
  refine V_lstore_n (lv2 := [(1, .long _), (0, .ref _)]) dX9_digest_276 (Nat.le_of_ble_eq_true rfl) rfl ?_
  refine V_ldc2 z_X9_284 dX9_digest_277 ?_
  refine V_lload_n 0 dX9_digest_280 rfl ?_
  refine V_lmul dX9_digest_281 ?_
  refine V_aload_n 1 dX9_digest_282 rfl ?_
  refine V_iconst (v := 1) dX9_digest_283 rfl ?_
  refine C_X9_208 hM.1 rfl ⟨Nat.le_of_ble_eq_true rfl, Nat.le_of_ble_eq_true rfl⟩ (r9_stop hM hz 1) rfl (Nat.le_of_ble_eq_true rfl) dX9_digest_284 rfl ?_
  refine V_pc (pc2 := 287) rfl ?_
  refine V_i2l dX9_digest_287 ?_
  refine V_ladd dX9_digest_288 ?_
  refine V_lstore_n (lv2 := [(1, .long _), (0, .ref _)]) dX9_digest_289 (Nat.le_of_ble_eq_true rfl) rfl ?_
  refine V_ldc2 z_X9_284 dX9_digest_290 ?_
  refine V_lload_n 0 dX9_digest_293 rfl ?_
  refine V_lmul dX9_digest_294 ?_
  refine V_aload_n 1 dX9_digest_295 rfl ?_
  refine V_iconst (v := 0) dX9_digest_296 rfl ?_
  refine V_pc (pc2 := 297) rfl ?_
  refine V_iconst (v := 1) dX9_digest_297 rfl ?_
  refine V_iconst (v := 3) dX9_digest_298 rfl ?_
  refine V_iconst (v := 2) dX9_digest_299 rfl ?_
  refine C_X9_124 hM.1 rfl ⟨Nat.le_of_ble_eq_true rfl, Nat.le_of_ble_eq_true rfl⟩ (r9_offTried hM hI 0 1 rfl rfl (by decide) (by decide) (by decide) (UDn (u := 3) (d := 2) (by decide) (by decide) (by decide) (by decide))) rfl (Nat.le_of_ble_eq_true rfl) dX9_digest_300 rfl ?_
  refine V_i2l dX9_digest_303 ?_
  refine V_ladd dX9_digest_304 ?_
  refine V_lstore_n (lv2 := [(1, .long _), (0, .ref _)]) dX9_digest_305 (Nat.le_of_ble_eq_true rfl) rfl ?_
  refine V_ldc2 z_X9_284 dX9_digest_306 ?_
  refine V_pc (pc2 := 309) rfl ?_
  refine V_lload_n 0 dX9_digest_309 rfl ?_
  refine V_lmul dX9_digest_310 ?_
  refine V_aload_n 1 dX9_digest_311 rfl ?_
  refine V_iconst (v := 0) dX9_digest_312 rfl ?_
  refine V_iconst (v := 1) dX9_digest_313 rfl ?_
  refine C_X9_66 hM.1 rfl ⟨Nat.le_of_ble_eq_true rfl, Nat.le_of_ble_eq_true rfl⟩ (r9_has hM 0 1 rfl rfl (by decide) (by decide)) rfl (Nat.le_of_ble_eq_true rfl) dX9_digest_314 rfl ?_
  refine V_if_eq (tgt := 333) dX9_digest_317 (by decide) (fun c317 => ?_) (fun c317 => ?_)
  · refine V_iconst (v := -1) dX9_digest_333 rfl ?_
    refine V_i2l dX9_digest_334 ?_
    refine V_ladd dX9_digest_335 ?_
    refine V_lstore_n (lv2 := [(1, .long _), (0, .ref _)]) dX9_digest_336 (Nat.le_of_ble_eq_true rfl) rfl ?_
    refine V_ldc2 z_X9_284 dX9_digest_337 ?_
    refine V_lload_n 0 dX9_digest_340 rfl ?_
    refine V_lmul dX9_digest_341 ?_
    refine V_pc (pc2 := 342) rfl ?_
    refine V_aload_n 1 dX9_digest_342 rfl ?_
    refine C_X9_278 hM.1 rfl ⟨Nat.le_of_ble_eq_true rfl, Nat.le_of_ble_eq_true rfl⟩ (r9_share hM hI) rfl (Nat.le_of_ble_eq_true rfl) dX9_digest_343 rfl ?_
    refine C_X9_286 rfl ⟨Nat.le_of_ble_eq_true rfl, Nat.le_of_ble_eq_true rfl⟩ (r_toBits (bsC_e (shS_ok σ))) rfl (Nat.le_of_ble_eq_true rfl) dX9_digest_346 rfl ?_
    refine V_ladd dX9_digest_349 ?_
    refine V_lstore_n (lv2 := [(1, .long _), (0, .ref _)]) dX9_digest_350 (Nat.le_of_ble_eq_true rfl) rfl ?_
    refine V_ldc2 z_X9_284 dX9_digest_351 ?_
    refine V_lload_n 0 dX9_digest_354 rfl ?_
    refine V_lmul dX9_digest_355 ?_
    refine V_pc (pc2 := 356) rfl ?_
    refine V_aload_n 1 dX9_digest_356 rfl ?_
    refine G_X9_159 rfl hM.1 rfl dX9_digest_357 ?_
    refine V_i2l dX9_digest_360 ?_
    refine V_ladd dX9_digest_361 ?_
    refine V_lstore_n (lv2 := [(1, .long _), (0, .ref _)]) dX9_digest_362 (Nat.le_of_ble_eq_true rfl) rfl ?_
    refine V_iconst (v := 0) dX9_digest_363 rfl ?_
    refine V_istore_n (lv2 := [(3, .int _), (1, .long _), (0, .ref _)]) dX9_digest_364 (Nat.le_of_ble_eq_true rfl) rfl ?_
    refine V_lv (lv2 := [(3, .int _), (1, .long _), (0, .ref _)]) [0, 1, 2] rfl ?_
    rw [show v 2 = nI len from h2]
    rw [turned_f (bI_0 c317)] at hq9
    exact d9_t hM h2 h100 hl len 0 _ (by omega) hq9
  · refine V_aload_n 1 dX9_digest_320 rfl ?_
    refine V_iconst (v := 0) dX9_digest_321 rfl ?_
    refine V_iconst (v := 1) dX9_digest_322 rfl ?_
    refine V_ldc2 z_X9_137 dX9_digest_323 ?_
    refine C_X9_133 hM.1 rfl ⟨Nat.le_of_ble_eq_true rfl, Nat.le_of_ble_eq_true rfl⟩ (r9_turns hM 0 1 rfl rfl (by decide) (by decide) hI (bI_1 c317) 1000) rfl (Nat.le_of_ble_eq_true rfl) dX9_digest_326 rfl ?_
    refine V_l2i dX9_digest_329 ?_
    refine V_goto (tgt := 334) dX9_digest_330 (by decide) ?_
    refine V_pc (pc2 := 334) rfl ?_
    refine V_i2l dX9_digest_334 ?_
    refine V_ladd dX9_digest_335 ?_
    refine V_lstore_n (lv2 := [(1, .long _), (0, .ref _)]) dX9_digest_336 (Nat.le_of_ble_eq_true rfl) rfl ?_
    refine V_ldc2 z_X9_284 dX9_digest_337 ?_
    refine V_lload_n 0 dX9_digest_340 rfl ?_
    refine V_lmul dX9_digest_341 ?_
    refine V_aload_n 1 dX9_digest_342 rfl ?_
    refine C_X9_278 hM.1 rfl ⟨Nat.le_of_ble_eq_true rfl, Nat.le_of_ble_eq_true rfl⟩ (r9_share hM hI) rfl (Nat.le_of_ble_eq_true rfl) dX9_digest_343 rfl ?_
    refine V_pc (pc2 := 346) rfl ?_
    refine C_X9_286 rfl ⟨Nat.le_of_ble_eq_true rfl, Nat.le_of_ble_eq_true rfl⟩ (r_toBits (bsC_e (shS_ok σ))) rfl (Nat.le_of_ble_eq_true rfl) dX9_digest_346 rfl ?_
    refine V_ladd dX9_digest_349 ?_
    refine V_lstore_n (lv2 := [(1, .long _), (0, .ref _)]) dX9_digest_350 (Nat.le_of_ble_eq_true rfl) rfl ?_
    refine V_ldc2 z_X9_284 dX9_digest_351 ?_
    refine V_lload_n 0 dX9_digest_354 rfl ?_
    refine V_lmul dX9_digest_355 ?_
    refine V_aload_n 1 dX9_digest_356 rfl ?_
    refine G_X9_159 rfl hM.1 rfl dX9_digest_357 ?_
    refine V_pc (pc2 := 360) rfl ?_
    refine V_i2l dX9_digest_360 ?_
    refine V_ladd dX9_digest_361 ?_
    refine V_lstore_n (lv2 := [(1, .long _), (0, .ref _)]) dX9_digest_362 (Nat.le_of_ble_eq_true rfl) rfl ?_
    refine V_iconst (v := 0) dX9_digest_363 rfl ?_
    refine V_istore_n (lv2 := [(3, .int _), (1, .long _), (0, .ref _)]) dX9_digest_364 (Nat.le_of_ble_eq_true rfl) rfl ?_
    refine V_lv (lv2 := [(3, .int _), (1, .long _), (0, .ref _)]) [0, 1, 2] rfl ?_
    rw [show v 2 = nI len from h2]
    rw [turned_t (bI_1 c317)] at hq9
    exact d9_t hM h2 h100 hl len 0 _ (by omega) hq9

set_option maxRecDepth 20000 in
theorem d9_all {g : GE} {M : Mem} {sz : Nat} {σ v : Nat → Int32} (hM : MD g M σ v) (hI : I10 σ) {K : Nat} (hK : σ 27 = nI K) (hK1 : 1 ≤ K) (hK4 : K ≤ 4) {mb : Nat} (hm : σ 60 = nI mb) (hm8 : mb ≤ 8) (hz : σ 63 = 0 ↔ σ 64 = 0) {len : Nat} {tx : Nat → Int32} (h2 : v 2 = nI len) (h100 : M 100 = some (eI g 60 tx)) (hl : len ≤ 60) {Q : Ou → Mem → Prop} (h : Int64) (hq9 : Q (.inl (some (.long (htX tx len 0 (hq (31 * hq (hq (hq (hq (hbO σ mb 0 (hrC σ (cnt (thr σ) 37) 0 (hpO σ K 5 0 (h)))) (stopS σ 0)) (stopS σ 1)) (codI (fnd (wouS (putS σ 0 1 3 2) 0 1) 0 37))) (turnedS σ 0 1 1000) + (shS σ).toInt64) (nI len)))))) M) : V g m_X9_digest 36 [(1, .long h), (0, rf g 96)] [] M sz 0 0 Q := by
  refine V_iconst (v := 0) dX9_digest_36 rfl ?_
  refine V_istore_n (lv2 := [(3, .int _), (1, .long _), (0, .ref _)]) dX9_digest_37 (Nat.le_of_ble_eq_true rfl) rfl ?_
  refine V_lv (lv2 := [(3, .int _), (1, .long _), (0, .ref _)]) [0, 1, 2] rfl ?_
  refine d9_p hM hI hK hK1 hK4 5 0 h (by omega) ?_
  refine V_iconst (v := 0) dX9_digest_163 rfl ?_
  refine V_istore_n (lv2 := [(3, .int _), (1, .long _), (0, .ref _)]) dX9_digest_164 (Nat.le_of_ble_eq_true rfl) rfl ?_
  refine V_lv (lv2 := [(3, .int _), (1, .long _), (0, .ref _)]) [0, 1, 2] rfl ?_
  refine d9_r hM hI 37 0 _ (by omega) ?_
  rw [hr_same 37 0 0 _ rfl rfl]
  refine V_iconst (v := 0) dX9_digest_215 rfl ?_
  refine V_istore_n (lv2 := [(3, .int _), (1, .long _), (0, .ref _)]) dX9_digest_216 (Nat.le_of_ble_eq_true rfl) rfl ?_
  refine V_lv (lv2 := [(3, .int _), (1, .long _), (0, .ref _)]) [0, 1, 2] rfl ?_
  refine d9_b hM hm hm8 mb 0 _ (by omega) ?_
  exact d9_e hM hI hz h2 h100 hl _ hq9

set_option maxRecDepth 20000 in
theorem q9_digest_ok {g : GE} {M : Mem} {sz : Nat} {σ sn : Nat → Int32} {hk : Bool} {n : Nat} {ps : Nat → Nat → Int32} {len : Nat} {tx : Nat → Int32} {th : Int32} (hL : ML g M σ sn hk n ps len tx th) (hI : I10 σ) {K : Nat} (hK : σ 27 = nI K) (hK1 : 1 ≤ K) (hK4 : K ≤ 4) {mb : Nat} (hm : σ 60 = nI mb) (hm8 : mb ≤ 8) (hz : σ 63 = 0 ↔ σ 64 = 0) (hl : len ≤ 60) : Run g m_X9_digest [rf g 96] M sz 0 0 (RetP (some (.long (dgS σ n K mb len tx))) (fun M2 => ML g M2 σ sn hk n ps len tx 0 ∧ FR M M2 96 9)) := by
  have LC : ∀ (m i : Nat) (h : Int64) (M9 : Mem), i + m = 18 → ML g M9 σ sn hk n ps len tx 0 → FR M M9 96 9 → V g m_X9_digest 11 [(3, .int (nI (i))), (1, .long (h)), (0, rf g 96)] [] M9 sz 0 0 (RetP (some (.long (htX tx len 0 (hq (31 * hq (hq (hq (hq (hbO σ mb 0 (hrC σ (cnt (thr σ) 37) 0 (hpO σ K 5 0 (hCo σ n m i h)))) (stopS σ 0)) (stopS σ 1)) (codI (fnd (wouS (putS σ 0 1 3 2) 0 1) 0 37))) (turnedS σ 0 1 1000) + (shS σ).toInt64) (nI len))))) (fun M2 => ML g M2 σ sn hk n ps len tx 0 ∧ FR M M2 96 9)) := by
    intro m
    induction m with
    | zero =>
      intro i h M9 hi hL9 hF
      refine V_iload_n 0 dX9_digest_11 rfl ?_
      refine V_bipush (v := 18) dX9_digest_12 (by decide) ?_
      refine V_icmp_ge (tgt := 36) dX9_digest_14 (by decide) (fun c14 => ?_) (fun c14 => absurd (nI_le (a := 18) (by omega) (by omega)) c14)
      refine V_lv (lv2 := [(1, .long _), (0, .ref _)]) [1, 2] rfl ?_
      obtain ⟨⟨w, hM, w0, w1, w2, w3⟩, _, _, h100, _⟩ := id hL9
      exact d9_all hM hI hK hK1 hK4 hm hm8 hz w2 h100 hl h ⟨rfl, hL9, hF⟩
    | succ m ih =>
      intro i h M9 hi hL9 hF
      refine V_iload_n 0 dX9_digest_11 rfl ?_
      refine V_bipush (v := 18) dX9_digest_12 (by decide) ?_
      refine V_icmp_ge (tgt := 36) dX9_digest_14 (by decide) (fun c14 => absurd c14 (nI_ge (b := 18) (by omega) (by decide))) (fun c14 => ?_)
      refine V_ldc2 z_X9_284 dX9_digest_17 ?_
      refine V_lload_n 1 dX9_digest_20 rfl ?_
      refine V_lmul dX9_digest_21 ?_
      refine V_aload_n 2 dX9_digest_22 rfl ?_
      refine V_pc (pc2 := 23) rfl ?_
      refine V_iload_n 0 dX9_digest_23 rfl ?_
      refine Cp_X9_252 hL9.1.choose_spec.1.1 rfl ⟨Nat.le_of_ble_eq_true rfl, Nat.le_of_ble_eq_true rfl⟩ (q9_counts hL9 hI mb hm hm8 i (by omega) rfl) rfl (Nat.le_of_ble_eq_true rfl) dX9_digest_24 rfl (fun _ q0 => ?_)
      refine V_i2l dX9_digest_27 ?_
      refine V_ladd dX9_digest_28 ?_
      refine V_lstore_n (lv2 := [(1, .long _), (3, .int _), (0, .ref _)]) dX9_digest_29 (Nat.le_of_ble_eq_true rfl) rfl ?_
      refine V_iinc (v := _ + 1) (lv2 := [(3, .int _), (1, .long _), (0, .ref _)]) 1 dX9_digest_30 rfl rfl (Nat.le_of_ble_eq_true rfl) rfl ?_
      refine V_goto (tgt := 11) dX9_digest_33 (by decide) ?_
      refine V_lv (lv2 := [(3, .int _), (1, .long _), (0, .ref _)]) [0, 1, 2] rfl ?_
      rw [nI_1, hCo_s]
      exact ih (i + 1) _ _ (by omega) q0.1 (hF.trans (b := 96) (n := 9) q0.2 (by omega))
  obtain ⟨⟨v, hM, v0, v1, v2, v3⟩, ⟨pf, f1, f2⟩, f3, f4, f5⟩ := id hL
  refine Run.of rfl (by decide) (Nat.le_of_ble_eq_true rfl) ?_
  show V g m_X9_digest 0 _ [] _ _ _ _ _
  refine V_aload_n 0 dX9_digest_0 rfl ?_
  refine V_iconst (v := 0) dX9_digest_1 rfl ?_
  refine P_X9_40 rfl hM.1 (Nat.le_of_ble_eq_true rfl) rfl rfl dX9_digest_2 ?_
  refine V_ldc2 z_X9_282 dX9_digest_5 ?_
  refine V_lstore_n (lv2 := [(1, .long _), (0, .ref _)]) dX9_digest_8 (Nat.le_of_ble_eq_true rfl) rfl ?_
  refine V_iconst (v := 0) dX9_digest_9 rfl ?_
  refine V_istore_n (lv2 := [(3, .int _), (1, .long _), (0, .ref _)]) dX9_digest_10 (Nat.le_of_ble_eq_true rfl) rfl ?_
  refine V_lv (lv2 := [(3, .int _), (1, .long _), (0, .ref _)]) [0, 1, 2] rfl ?_
  exact LC 18 0 3851 _ (by omega) (hL.thr (c := 0) hM v0 v1 v2) ((FR.refl M 96 9).put (by omega))

theorem op_digest (g : GE) : OPJ g m_X8_digest m_X9_digest := by
  rintro M sz ⟨th, σ, τ, sn, hk, n, ps, len, tx, hW⟩
  obtain ⟨w1, w2, ⟨i1, i2, i3, i4, i5, i6⟩, o, w4⟩ := id hW
  obtain ⟨K, hK1, hK4, hK⟩ := i1.2.2.2.2.2.1
  obtain ⟨mb, hm8, hm, _⟩ := i1.2.1
  exact OPJ.ok hW (x_digest_ok w1 i1.1 hK hK1 hK4 hm hm8 i5) (fun M2 sz2 h => q9_digest_ok h i1.1 hK hK1 hK4 hm hm8 i1.stop i5)
