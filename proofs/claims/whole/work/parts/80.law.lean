/-! the law's loop -/
set_option maxRecDepth 20000 in
theorem r9_thrown {g : GE} {M : Mem} {sz : Nat} {v : Nat → Int32} (hM : M 96 = some (MO g v)) : Run g m_X9_thrown [rf g 96] M sz 0 0 (Ret (some (.int (v 3))) M) := by
  refine Run.of rfl (by decide) (Nat.le_of_ble_eq_true rfl) ?_
  show V g m_X9_thrown 0 _ [] _ _ _ _ _
  refine V_aload_n 0 dX9_thrown_0 rfl ?_
  refine G_X9_40 rfl hM rfl dX9_thrown_1 ?_
  refine V_iret (st := []) dX9_thrown_4 rfl ?_
  exact ⟨rfl, rfl⟩

theorem Inv.th {g : GE} {M : Mem} {th : Int32} (h : Inv g M th) : ∃ v, M 96 = some (MO g v) ∧ v 3 = th := by
  obtain ⟨_, _, _, _, _, _, _, _, _, h2, _⟩ := h
  obtain ⟨⟨v, hM, _, _, _, h3⟩, _⟩ := h2
  exact ⟨v, hM.1, h3⟩
theorem Inv.x {g : GE} {M : Mem} {th : Int32} (h : Inv g M th) : ∃ fs, M 0 = some (eO 8 fs) := by
  obtain ⟨_, _, _, _, _, _, _, _, h1, _⟩ := h
  exact ⟨_, h1.1⟩
theorem sx {i k n : Nat} (h : i + k < n) (hn : n ≤ 2560) : vp_in (nI i + nI k) n := by rw [nI_add]; exact vp_in_nI h (by omega)
theorem sx1 {i n : Nat} (h : i + 1 < n) (hn : n ≤ 2560) : vp_in (nI i + 1) n := by rw [show (1 : Int32) = nI 1 from rfl]; exact sx h hn
theorem sx2 {i n : Nat} (h : i + 2 < n) (hn : n ≤ 2560) : vp_in (nI i + 2) n := by rw [show (2 : Int32) = nI 2 from rfl]; exact sx h hn
theorem sx3 {i n : Nat} (h : i + 3 < n) (hn : n ≤ 2560) : vp_in (nI i + 3) n := by rw [show (3 : Int32) = nI 3 from rfl]; exact sx h hn
theorem sx4 {i n : Nat} (h : i + 4 < n) (hn : n ≤ 2560) : vp_in (nI i + 4) n := by rw [show (4 : Int32) = nI 4 from rfl]; exact sx h hn
theorem sx0 {i n : Nat} (h : i < n) (hn : n ≤ 2560) : vp_in (nI i) n := vp_in_nI h (by omega)
theorem and31 (x : Int32) : ∃ k : Nat, k < 32 ∧ x &&& 31 = nI k := by
  refine ⟨(x &&& 31).toUInt32.toNat, ?_, ?_⟩
  · have h : (x &&& 31).toUInt32 = x.toUInt32 &&& 31 := rfl
    rw [h, UInt32.toNat_and]
    exact Nat.lt_of_le_of_lt Nat.and_le_right (by decide)
  · apply Int32.toBitVec_inj.mp
    apply BitVec.eq_of_toNat_eq
    show (x &&& 31).toBitVec.toNat = ((Int32.ofNat (x &&& 31).toBitVec.toNat).toBitVec).toNat
    rw [Int32.toBitVec_ofNat', BitVec.toNat_ofNat, Nat.mod_eq_of_lt (BitVec.isLt _)]
theorem n5_gt {N i : Nat} (hN : N ≤ 2560) (hi : i ≤ 2560) : (Int32.ofNat N - 5 < nI i) ↔ N < i + 5 := by
  have e : (Int32.ofNat N - 5).toInt = (N : Int) - 5 := by
    show (nI N - 5).toInt = _
    rw [Int32.toInt_sub, nI_toInt (by omega), show (5 : Int32).toInt = 5 from rfl]
    rw [Int.bmod_eq_of_le (by omega) (by omega)]
  rw [Int32.lt_iff_toInt_lt, e, nI_toInt (by omega)]
  omega
set_option maxRecDepth 20000 in
theorem lc_stick {g : GE} {M : Mem} {sz kc ks : Nat} {Q : Ou → Mem → Prop} (i : Nat) (hi : i + 5 ≤ gN g) (hN : gN g ≤ 2560) (h : (∀ a b : Int32, OPL g m_L_stick m_X9_stick [rf g 0, .int a, .int b, rf g 105] [rf g 96, .int a, .int b])) (hInv : ∃ th, Inv g M th) (kk : ∀ M1, (∃ th, Inv g M1 th) → V g m_L_law 1582 [(4, .int (nI i)), (3, rf g 105), (2, rf g 96), (1, rf g 0), (0, .ref (gS g))] [] M1 (sz + 1) kc ks Q) : V g m_L_law 152 [(4, .int (nI i)), (3, rf g 105), (2, rf g 96), (1, rf g 0), (0, .ref (gS g))] [] M sz (kc + 1) (ks + 6) Q := by
  refine V_aload_n 3 dL_law_152 rfl ?_
  refine V_aload_n 4 dL_law_153 rfl ?_
  refine V_iload 0 dL_law_154 rfl ?_
  refine V_iconst (v := 1) dL_law_156 rfl ?_
  refine V_iadd dL_law_157 ?_
  refine V_sld (sx1 (by omega) hN) dL_law_158 ?_
  refine V_aload_n 4 dL_law_159 rfl ?_
  refine V_pc (pc2 := 160) rfl ?_
  refine V_iload 0 dL_law_160 rfl ?_
  refine V_iconst (v := 2) dL_law_162 rfl ?_
  refine V_iadd dL_law_163 ?_
  refine V_sld (sx2 (by omega) hN) dL_law_164 ?_
  refine V_aload_n 1 dL_law_165 rfl ?_
  obtain ⟨c, b, P1, hc, h1, h2⟩ := h (gx g (nI i + 1).toNatClampNeg) (gx g (nI i + 2).toNatClampNeg) M sz hInv
  refine V_callSH (mt := m_L_law) (mc1 := 1) (ms1 := 6) h1 (fun E M h => nomatch h.1) (by decide) k_L_stick s_L_stick l_L_84 ⟨Nat.le_of_ble_eq_true rfl, Nat.le_of_ble_eq_true rfl⟩ rfl (Nat.le_of_ble_eq_true rfl) dL_law_166 rfl (fun v9 M1 hh => ?_)
  obtain ⟨e1, e2⟩ := hh
  cases e1
  obtain ⟨⟨fs, h96⟩, h3⟩ := h2 M1 e2
  refine V_istore (lv2 := [(5, .int _), (4, .int _), (3, .ref _), (2, .ref _), (1, .ref _), (0, .ref _)]) dL_law_169 (Nat.le_of_ble_eq_true rfl) rfl ?_
  refine V_aload_n 3 dL_law_171 rfl ?_
  refine V_pc (pc2 := 172) rfl ?_
  refine V_aload_n 5 dL_law_172 rfl ?_
  refine V_iload 1 dL_law_173 rfl ?_
  refine V_iconst (v := 1) dL_law_175 rfl ?_
  refine V_iadd dL_law_176 ?_
  refine V_sld (sx1 (by omega) hN) dL_law_177 ?_
  refine V_aload_n 5 dL_law_178 rfl ?_
  refine V_iload 1 dL_law_179 rfl ?_
  refine V_iconst (v := 2) dL_law_181 rfl ?_
  refine V_pc (pc2 := 182) rfl ?_
  refine V_iadd dL_law_182 ?_
  refine V_sld (sx2 (by omega) hN) dL_law_183 ?_
  refine Cp_L_89 h96 rfl ⟨Nat.le_of_ble_eq_true rfl, Nat.le_of_ble_eq_true rfl⟩ (h3 _) rfl (Nat.le_of_ble_eq_true rfl) dL_law_184 rfl (fun _ h4 => ?_)
  obtain ⟨hI2, o, ho, hob⟩ := h4
  obtain ⟨v, hv, hv3⟩ := hI2.th
  refine V_istore (lv2 := [(6, .int _), (5, .int _), (4, .int _), (3, .ref _), (2, .ref _), (1, .ref _), (0, .ref _)]) dL_law_187 (Nat.le_of_ble_eq_true rfl) rfl ?_
  refine V_aload_n 4 dL_law_189 rfl ?_
  refine C_L_90 hv rfl ⟨Nat.le_of_ble_eq_true rfl, Nat.le_of_ble_eq_true rfl⟩ (r9_thrown hv) rfl (Nat.le_of_ble_eq_true rfl) dL_law_190 rfl ?_
  rw [hv3]
  refine V_iload 1 dL_law_193 rfl ?_
  refine V_icmp_eq (tgt := 200) dL_law_195 (by decide) (fun c195 => ?_) (fun c195 => absurd rfl c195)
  refine V_pc (pc2 := 200) rfl ?_
  refine V_iload 1 dL_law_200 rfl ?_
  refine V_if_ne (tgt := 217) dL_law_202 (by decide) (fun c202 => ?_) (fun c202 => ?_)
  · refine V_goto (tgt := 1582) dL_law_217 (by decide) ?_
    refine V_lv (lv2 := [(4, .int _), (3, .ref _), (2, .ref _), (1, .ref _), (0, .ref _)]) [2, 3, 4, 5, 6] rfl ?_
    exact kk _ ⟨_, hI2⟩
  · refine V_aload_n 3 dL_law_205 rfl ?_
    refine V_iconst (v := 0) dL_law_206 rfl ?_
    refine V_lald ho (show vp_in (nI 0) 1 from vp_in_nI (by decide) (by decide)) dL_law_207 ?_
    refine V_iload 0 dL_law_208 rfl ?_
    refine V_i2l dL_law_210 ?_
    refine V_lcmp dL_law_211 ?_
    refine V_if_eq (tgt := 217) dL_law_212 (by decide) (fun c212 => ?_) (fun c212 => absurd (lgc_eq.mpr (hob ((nI_eq (b := 0) (by omega) (by decide)).mp c202))) c212)
    refine V_pc (pc2 := 217) rfl ?_
    refine V_goto (tgt := 1582) dL_law_217 (by decide) ?_
    refine V_lv (lv2 := [(4, .int _), (3, .ref _), (2, .ref _), (1, .ref _), (0, .ref _)]) [2, 3, 4, 5, 6] rfl ?_
    exact kk _ ⟨_, hI2⟩

set_option maxRecDepth 20000 in
theorem lc_table {g : GE} {M : Mem} {sz kc ks : Nat} {Q : Ou → Mem → Prop} (i : Nat) (hi : i + 5 ≤ gN g) (hN : gN g ≤ 2560) (h : (∀ a b c d : Int32, OPL g m_L_table m_X9_table [rf g 0, .int a, .int b, .int c, .int d, rf g 105] [rf g 96, .int a, .int b, .int c, .int d])) (hInv : ∃ th, Inv g M th) (kk : ∀ M1, (∃ th, Inv g M1 th) → V g m_L_law 1582 [(4, .int (nI i)), (3, rf g 105), (2, rf g 96), (1, rf g 0), (0, .ref (gS g))] [] M1 (sz + 1) kc ks Q) : V g m_L_law 220 [(4, .int (nI i)), (3, rf g 105), (2, rf g 96), (1, rf g 0), (0, .ref (gS g))] [] M sz (kc + 1) (ks + 6) Q := by
  refine V_aload_n 3 dL_law_220 rfl ?_
  refine V_aload_n 4 dL_law_221 rfl ?_
  refine V_iload 0 dL_law_222 rfl ?_
  refine V_iconst (v := 1) dL_law_224 rfl ?_
  refine V_iadd dL_law_225 ?_
  refine V_sld (sx1 (by omega) hN) dL_law_226 ?_
  refine V_aload_n 4 dL_law_227 rfl ?_
  refine V_pc (pc2 := 228) rfl ?_
  refine V_iload 0 dL_law_228 rfl ?_
  refine V_iconst (v := 2) dL_law_230 rfl ?_
  refine V_iadd dL_law_231 ?_
  refine V_sld (sx2 (by omega) hN) dL_law_232 ?_
  refine V_aload_n 4 dL_law_233 rfl ?_
  refine V_iload 0 dL_law_234 rfl ?_
  refine V_iconst (v := 3) dL_law_236 rfl ?_
  refine V_iadd dL_law_237 ?_
  refine V_pc (pc2 := 238) rfl ?_
  refine V_sld (sx3 (by omega) hN) dL_law_238 ?_
  refine V_aload_n 4 dL_law_239 rfl ?_
  refine V_iload 0 dL_law_240 rfl ?_
  refine V_iconst (v := 4) dL_law_242 rfl ?_
  refine V_iadd dL_law_243 ?_
  refine V_sld (sx4 (by omega) hN) dL_law_244 ?_
  refine V_aload_n 1 dL_law_245 rfl ?_
  obtain ⟨c, b, P1, hc, h1, h2⟩ := h (gx g (nI i + 1).toNatClampNeg) (gx g (nI i + 2).toNatClampNeg) (gx g (nI i + 3).toNatClampNeg) (gx g (nI i + 4).toNatClampNeg) M sz hInv
  refine V_callSH (mt := m_L_law) (mc1 := 1) (ms1 := 6) h1 (fun E M h => nomatch h.1) (by decide) k_L_table s_L_table l_L_93 ⟨Nat.le_of_ble_eq_true rfl, Nat.le_of_ble_eq_true rfl⟩ rfl (Nat.le_of_ble_eq_true rfl) dL_law_246 rfl (fun v9 M1 hh => ?_)
  obtain ⟨e1, e2⟩ := hh
  cases e1
  obtain ⟨⟨fs, h96⟩, h3⟩ := h2 M1 e2
  refine V_pc (pc2 := 249) rfl ?_
  refine V_istore (lv2 := [(5, .int _), (4, .int _), (3, .ref _), (2, .ref _), (1, .ref _), (0, .ref _)]) dL_law_249 (Nat.le_of_ble_eq_true rfl) rfl ?_
  refine V_aload_n 3 dL_law_251 rfl ?_
  refine V_aload_n 5 dL_law_252 rfl ?_
  refine V_iload 1 dL_law_253 rfl ?_
  refine V_iconst (v := 1) dL_law_255 rfl ?_
  refine V_iadd dL_law_256 ?_
  refine V_sld (sx1 (by omega) hN) dL_law_257 ?_
  refine V_aload_n 5 dL_law_258 rfl ?_
  refine V_pc (pc2 := 259) rfl ?_
  refine V_iload 1 dL_law_259 rfl ?_
  refine V_iconst (v := 2) dL_law_261 rfl ?_
  refine V_iadd dL_law_262 ?_
  refine V_sld (sx2 (by omega) hN) dL_law_263 ?_
  refine V_aload_n 5 dL_law_264 rfl ?_
  refine V_iload 1 dL_law_265 rfl ?_
  refine V_iconst (v := 3) dL_law_267 rfl ?_
  refine V_iadd dL_law_268 ?_
  refine V_pc (pc2 := 269) rfl ?_
  refine V_sld (sx3 (by omega) hN) dL_law_269 ?_
  refine V_aload_n 5 dL_law_270 rfl ?_
  refine V_iload 1 dL_law_271 rfl ?_
  refine V_iconst (v := 4) dL_law_273 rfl ?_
  refine V_iadd dL_law_274 ?_
  refine V_sld (sx4 (by omega) hN) dL_law_275 ?_
  refine Cp_L_96 h96 rfl ⟨Nat.le_of_ble_eq_true rfl, Nat.le_of_ble_eq_true rfl⟩ (h3 _) rfl (Nat.le_of_ble_eq_true rfl) dL_law_276 rfl (fun _ h4 => ?_)
  obtain ⟨hI2, o, ho, hob⟩ := h4
  obtain ⟨v, hv, hv3⟩ := hI2.th
  refine V_istore (lv2 := [(6, .int _), (5, .int _), (4, .int _), (3, .ref _), (2, .ref _), (1, .ref _), (0, .ref _)]) dL_law_279 (Nat.le_of_ble_eq_true rfl) rfl ?_
  refine V_pc (pc2 := 281) rfl ?_
  refine V_aload_n 4 dL_law_281 rfl ?_
  refine C_L_90 hv rfl ⟨Nat.le_of_ble_eq_true rfl, Nat.le_of_ble_eq_true rfl⟩ (r9_thrown hv) rfl (Nat.le_of_ble_eq_true rfl) dL_law_282 rfl ?_
  rw [hv3]
  refine V_iload 1 dL_law_285 rfl ?_
  refine V_icmp_eq (tgt := 292) dL_law_287 (by decide) (fun c287 => ?_) (fun c287 => absurd rfl c287)
  refine V_iload 1 dL_law_292 rfl ?_
  refine V_if_ne (tgt := 309) dL_law_294 (by decide) (fun c294 => ?_) (fun c294 => ?_)
  · refine V_goto (tgt := 1582) dL_law_309 (by decide) ?_
    refine V_lv (lv2 := [(4, .int _), (3, .ref _), (2, .ref _), (1, .ref _), (0, .ref _)]) [2, 3, 4, 5, 6] rfl ?_
    exact kk _ ⟨_, hI2⟩
  · refine V_aload_n 3 dL_law_297 rfl ?_
    refine V_iconst (v := 0) dL_law_298 rfl ?_
    refine V_lald ho (show vp_in (nI 0) 1 from vp_in_nI (by decide) (by decide)) dL_law_299 ?_
    refine V_iload 0 dL_law_300 rfl ?_
    refine V_i2l dL_law_302 ?_
    refine V_lcmp dL_law_303 ?_
    refine V_if_eq (tgt := 309) dL_law_304 (by decide) (fun c304 => ?_) (fun c304 => absurd (lgc_eq.mpr (hob ((nI_eq (b := 0) (by omega) (by decide)).mp c294))) c304)
    refine V_pc (pc2 := 309) rfl ?_
    refine V_goto (tgt := 1582) dL_law_309 (by decide) ?_
    refine V_lv (lv2 := [(4, .int _), (3, .ref _), (2, .ref _), (1, .ref _), (0, .ref _)]) [2, 3, 4, 5, 6] rfl ?_
    exact kk _ ⟨_, hI2⟩

set_option maxRecDepth 20000 in
theorem lc_drop {g : GE} {M : Mem} {sz kc ks : Nat} {Q : Ou → Mem → Prop} (i : Nat) (hi : i + 5 ≤ gN g) (hN : gN g ≤ 2560) (h : (∀ a b : Int32, OPL g m_L_drop m_X9_drop [rf g 0, .int a, .int b, rf g 105] [rf g 96, .int a, .int b])) (hInv : ∃ th, Inv g M th) (kk : ∀ M1, (∃ th, Inv g M1 th) → V g m_L_law 1582 [(4, .int (nI i)), (3, rf g 105), (2, rf g 96), (1, rf g 0), (0, .ref (gS g))] [] M1 (sz + 1) kc ks Q) : V g m_L_law 312 [(4, .int (nI i)), (3, rf g 105), (2, rf g 96), (1, rf g 0), (0, .ref (gS g))] [] M sz (kc + 1) (ks + 6) Q := by
  refine V_aload_n 3 dL_law_312 rfl ?_
  refine V_aload_n 4 dL_law_313 rfl ?_
  refine V_iload 0 dL_law_314 rfl ?_
  refine V_iconst (v := 1) dL_law_316 rfl ?_
  refine V_iadd dL_law_317 ?_
  refine V_sld (sx1 (by omega) hN) dL_law_318 ?_
  refine V_aload_n 4 dL_law_319 rfl ?_
  refine V_pc (pc2 := 320) rfl ?_
  refine V_iload 0 dL_law_320 rfl ?_
  refine V_iconst (v := 2) dL_law_322 rfl ?_
  refine V_iadd dL_law_323 ?_
  refine V_sld (sx2 (by omega) hN) dL_law_324 ?_
  refine V_aload_n 1 dL_law_325 rfl ?_
  obtain ⟨c, b, P1, hc, h1, h2⟩ := h (gx g (nI i + 1).toNatClampNeg) (gx g (nI i + 2).toNatClampNeg) M sz hInv
  refine V_callSH (mt := m_L_law) (mc1 := 1) (ms1 := 6) h1 (fun E M h => nomatch h.1) (by decide) k_L_drop s_L_drop l_L_97 ⟨Nat.le_of_ble_eq_true rfl, Nat.le_of_ble_eq_true rfl⟩ rfl (Nat.le_of_ble_eq_true rfl) dL_law_326 rfl (fun v9 M1 hh => ?_)
  obtain ⟨e1, e2⟩ := hh
  cases e1
  obtain ⟨⟨fs, h96⟩, h3⟩ := h2 M1 e2
  refine V_istore (lv2 := [(5, .int _), (4, .int _), (3, .ref _), (2, .ref _), (1, .ref _), (0, .ref _)]) dL_law_329 (Nat.le_of_ble_eq_true rfl) rfl ?_
  refine V_aload_n 3 dL_law_331 rfl ?_
  refine V_pc (pc2 := 332) rfl ?_
  refine V_aload_n 5 dL_law_332 rfl ?_
  refine V_iload 1 dL_law_333 rfl ?_
  refine V_iconst (v := 1) dL_law_335 rfl ?_
  refine V_iadd dL_law_336 ?_
  refine V_sld (sx1 (by omega) hN) dL_law_337 ?_
  refine V_aload_n 5 dL_law_338 rfl ?_
  refine V_iload 1 dL_law_339 rfl ?_
  refine V_iconst (v := 2) dL_law_341 rfl ?_
  refine V_pc (pc2 := 342) rfl ?_
  refine V_iadd dL_law_342 ?_
  refine V_sld (sx2 (by omega) hN) dL_law_343 ?_
  refine Cp_L_99 h96 rfl ⟨Nat.le_of_ble_eq_true rfl, Nat.le_of_ble_eq_true rfl⟩ (h3 _) rfl (Nat.le_of_ble_eq_true rfl) dL_law_344 rfl (fun _ h4 => ?_)
  obtain ⟨hI2, o, ho, hob⟩ := h4
  obtain ⟨v, hv, hv3⟩ := hI2.th
  refine V_istore (lv2 := [(6, .int _), (5, .int _), (4, .int _), (3, .ref _), (2, .ref _), (1, .ref _), (0, .ref _)]) dL_law_347 (Nat.le_of_ble_eq_true rfl) rfl ?_
  refine V_aload_n 4 dL_law_349 rfl ?_
  refine C_L_90 hv rfl ⟨Nat.le_of_ble_eq_true rfl, Nat.le_of_ble_eq_true rfl⟩ (r9_thrown hv) rfl (Nat.le_of_ble_eq_true rfl) dL_law_350 rfl ?_
  rw [hv3]
  refine V_iload 1 dL_law_353 rfl ?_
  refine V_icmp_eq (tgt := 360) dL_law_355 (by decide) (fun c355 => ?_) (fun c355 => absurd rfl c355)
  refine V_pc (pc2 := 360) rfl ?_
  refine V_iload 1 dL_law_360 rfl ?_
  refine V_if_ne (tgt := 377) dL_law_362 (by decide) (fun c362 => ?_) (fun c362 => ?_)
  · refine V_goto (tgt := 1582) dL_law_377 (by decide) ?_
    refine V_lv (lv2 := [(4, .int _), (3, .ref _), (2, .ref _), (1, .ref _), (0, .ref _)]) [2, 3, 4, 5, 6] rfl ?_
    exact kk _ ⟨_, hI2⟩
  · refine V_aload_n 3 dL_law_365 rfl ?_
    refine V_iconst (v := 0) dL_law_366 rfl ?_
    refine V_lald ho (show vp_in (nI 0) 1 from vp_in_nI (by decide) (by decide)) dL_law_367 ?_
    refine V_iload 0 dL_law_368 rfl ?_
    refine V_i2l dL_law_370 ?_
    refine V_lcmp dL_law_371 ?_
    refine V_if_eq (tgt := 377) dL_law_372 (by decide) (fun c372 => ?_) (fun c372 => absurd (lgc_eq.mpr (hob ((nI_eq (b := 0) (by omega) (by decide)).mp c362))) c372)
    refine V_pc (pc2 := 377) rfl ?_
    refine V_goto (tgt := 1582) dL_law_377 (by decide) ?_
    refine V_lv (lv2 := [(4, .int _), (3, .ref _), (2, .ref _), (1, .ref _), (0, .ref _)]) [2, 3, 4, 5, 6] rfl ?_
    exact kk _ ⟨_, hI2⟩

set_option maxRecDepth 20000 in
theorem lc_set {g : GE} {M : Mem} {sz kc ks : Nat} {Q : Ou → Mem → Prop} (i : Nat) (hi : i + 5 ≤ gN g) (hN : gN g ≤ 2560) (h : (∀ a b : Int32, OPL g m_L_set m_X9_set [rf g 0, .int a, .int b, rf g 105] [rf g 96, .int a, .int b])) (hInv : ∃ th, Inv g M th) (kk : ∀ M1, (∃ th, Inv g M1 th) → V g m_L_law 1582 [(4, .int (nI i)), (3, rf g 105), (2, rf g 96), (1, rf g 0), (0, .ref (gS g))] [] M1 (sz + 1) kc ks Q) : V g m_L_law 380 [(4, .int (nI i)), (3, rf g 105), (2, rf g 96), (1, rf g 0), (0, .ref (gS g))] [] M sz (kc + 1) (ks + 6) Q := by
  refine V_aload_n 3 dL_law_380 rfl ?_
  refine V_aload_n 4 dL_law_381 rfl ?_
  refine V_iload 0 dL_law_382 rfl ?_
  refine V_iconst (v := 1) dL_law_384 rfl ?_
  refine V_iadd dL_law_385 ?_
  refine V_sld (sx1 (by omega) hN) dL_law_386 ?_
  refine V_aload_n 4 dL_law_387 rfl ?_
  refine V_pc (pc2 := 388) rfl ?_
  refine V_iload 0 dL_law_388 rfl ?_
  refine V_iconst (v := 2) dL_law_390 rfl ?_
  refine V_iadd dL_law_391 ?_
  refine V_sld (sx2 (by omega) hN) dL_law_392 ?_
  refine V_aload_n 1 dL_law_393 rfl ?_
  obtain ⟨c, b, P1, hc, h1, h2⟩ := h (gx g (nI i + 1).toNatClampNeg) (gx g (nI i + 2).toNatClampNeg) M sz hInv
  refine V_callSH (mt := m_L_law) (mc1 := 1) (ms1 := 6) h1 (fun E M h => nomatch h.1) (by decide) k_L_set s_L_set l_L_100 ⟨Nat.le_of_ble_eq_true rfl, Nat.le_of_ble_eq_true rfl⟩ rfl (Nat.le_of_ble_eq_true rfl) dL_law_394 rfl (fun v9 M1 hh => ?_)
  obtain ⟨e1, e2⟩ := hh
  cases e1
  obtain ⟨⟨fs, h96⟩, h3⟩ := h2 M1 e2
  refine V_istore (lv2 := [(5, .int _), (4, .int _), (3, .ref _), (2, .ref _), (1, .ref _), (0, .ref _)]) dL_law_397 (Nat.le_of_ble_eq_true rfl) rfl ?_
  refine V_aload_n 3 dL_law_399 rfl ?_
  refine V_pc (pc2 := 400) rfl ?_
  refine V_aload_n 5 dL_law_400 rfl ?_
  refine V_iload 1 dL_law_401 rfl ?_
  refine V_iconst (v := 1) dL_law_403 rfl ?_
  refine V_iadd dL_law_404 ?_
  refine V_sld (sx1 (by omega) hN) dL_law_405 ?_
  refine V_aload_n 5 dL_law_406 rfl ?_
  refine V_iload 1 dL_law_407 rfl ?_
  refine V_iconst (v := 2) dL_law_409 rfl ?_
  refine V_pc (pc2 := 410) rfl ?_
  refine V_iadd dL_law_410 ?_
  refine V_sld (sx2 (by omega) hN) dL_law_411 ?_
  refine Cp_L_102 h96 rfl ⟨Nat.le_of_ble_eq_true rfl, Nat.le_of_ble_eq_true rfl⟩ (h3 _) rfl (Nat.le_of_ble_eq_true rfl) dL_law_412 rfl (fun _ h4 => ?_)
  obtain ⟨hI2, o, ho, hob⟩ := h4
  obtain ⟨v, hv, hv3⟩ := hI2.th
  refine V_istore (lv2 := [(6, .int _), (5, .int _), (4, .int _), (3, .ref _), (2, .ref _), (1, .ref _), (0, .ref _)]) dL_law_415 (Nat.le_of_ble_eq_true rfl) rfl ?_
  refine V_aload_n 4 dL_law_417 rfl ?_
  refine C_L_90 hv rfl ⟨Nat.le_of_ble_eq_true rfl, Nat.le_of_ble_eq_true rfl⟩ (r9_thrown hv) rfl (Nat.le_of_ble_eq_true rfl) dL_law_418 rfl ?_
  rw [hv3]
  refine V_iload 1 dL_law_421 rfl ?_
  refine V_icmp_eq (tgt := 428) dL_law_423 (by decide) (fun c423 => ?_) (fun c423 => absurd rfl c423)
  refine V_pc (pc2 := 428) rfl ?_
  refine V_iload 1 dL_law_428 rfl ?_
  refine V_if_ne (tgt := 445) dL_law_430 (by decide) (fun c430 => ?_) (fun c430 => ?_)
  · refine V_goto (tgt := 1582) dL_law_445 (by decide) ?_
    refine V_lv (lv2 := [(4, .int _), (3, .ref _), (2, .ref _), (1, .ref _), (0, .ref _)]) [2, 3, 4, 5, 6] rfl ?_
    exact kk _ ⟨_, hI2⟩
  · refine V_aload_n 3 dL_law_433 rfl ?_
    refine V_iconst (v := 0) dL_law_434 rfl ?_
    refine V_lald ho (show vp_in (nI 0) 1 from vp_in_nI (by decide) (by decide)) dL_law_435 ?_
    refine V_iload 0 dL_law_436 rfl ?_
    refine V_i2l dL_law_438 ?_
    refine V_lcmp dL_law_439 ?_
    refine V_if_eq (tgt := 445) dL_law_440 (by decide) (fun c440 => ?_) (fun c440 => absurd (lgc_eq.mpr (hob ((nI_eq (b := 0) (by omega) (by decide)).mp c430))) c440)
    refine V_pc (pc2 := 445) rfl ?_
    refine V_goto (tgt := 1582) dL_law_445 (by decide) ?_
    refine V_lv (lv2 := [(4, .int _), (3, .ref _), (2, .ref _), (1, .ref _), (0, .ref _)]) [2, 3, 4, 5, 6] rfl ?_
    exact kk _ ⟨_, hI2⟩

set_option maxRecDepth 20000 in
theorem lc_bolt {g : GE} {M : Mem} {sz kc ks : Nat} {Q : Ou → Mem → Prop} (i : Nat) (hi : i + 5 ≤ gN g) (hN : gN g ≤ 2560) (h : (∀ a b : Int32, OPL g m_L_bolt m_X9_bolt [rf g 0, .int a, .int b, rf g 105] [rf g 96, .int a, .int b])) (hInv : ∃ th, Inv g M th) (kk : ∀ M1, (∃ th, Inv g M1 th) → V g m_L_law 1582 [(4, .int (nI i)), (3, rf g 105), (2, rf g 96), (1, rf g 0), (0, .ref (gS g))] [] M1 (sz + 1) kc ks Q) : V g m_L_law 448 [(4, .int (nI i)), (3, rf g 105), (2, rf g 96), (1, rf g 0), (0, .ref (gS g))] [] M sz (kc + 1) (ks + 6) Q := by
  refine V_aload_n 3 dL_law_448 rfl ?_
  refine V_aload_n 4 dL_law_449 rfl ?_
  refine V_iload 0 dL_law_450 rfl ?_
  refine V_iconst (v := 1) dL_law_452 rfl ?_
  refine V_iadd dL_law_453 ?_
  refine V_sld (sx1 (by omega) hN) dL_law_454 ?_
  refine V_aload_n 4 dL_law_455 rfl ?_
  refine V_pc (pc2 := 456) rfl ?_
  refine V_iload 0 dL_law_456 rfl ?_
  refine V_iconst (v := 2) dL_law_458 rfl ?_
  refine V_iadd dL_law_459 ?_
  refine V_sld (sx2 (by omega) hN) dL_law_460 ?_
  refine V_aload_n 1 dL_law_461 rfl ?_
  obtain ⟨c, b, P1, hc, h1, h2⟩ := h (gx g (nI i + 1).toNatClampNeg) (gx g (nI i + 2).toNatClampNeg) M sz hInv
  refine V_callSH (mt := m_L_law) (mc1 := 1) (ms1 := 6) h1 (fun E M h => nomatch h.1) (by decide) k_L_bolt s_L_bolt l_L_103 ⟨Nat.le_of_ble_eq_true rfl, Nat.le_of_ble_eq_true rfl⟩ rfl (Nat.le_of_ble_eq_true rfl) dL_law_462 rfl (fun v9 M1 hh => ?_)
  obtain ⟨e1, e2⟩ := hh
  cases e1
  obtain ⟨⟨fs, h96⟩, h3⟩ := h2 M1 e2
  refine V_istore (lv2 := [(5, .int _), (4, .int _), (3, .ref _), (2, .ref _), (1, .ref _), (0, .ref _)]) dL_law_465 (Nat.le_of_ble_eq_true rfl) rfl ?_
  refine V_aload_n 3 dL_law_467 rfl ?_
  refine V_pc (pc2 := 468) rfl ?_
  refine V_aload_n 5 dL_law_468 rfl ?_
  refine V_iload 1 dL_law_469 rfl ?_
  refine V_iconst (v := 1) dL_law_471 rfl ?_
  refine V_iadd dL_law_472 ?_
  refine V_sld (sx1 (by omega) hN) dL_law_473 ?_
  refine V_aload_n 5 dL_law_474 rfl ?_
  refine V_iload 1 dL_law_475 rfl ?_
  refine V_iconst (v := 2) dL_law_477 rfl ?_
  refine V_pc (pc2 := 478) rfl ?_
  refine V_iadd dL_law_478 ?_
  refine V_sld (sx2 (by omega) hN) dL_law_479 ?_
  refine Cp_L_105 h96 rfl ⟨Nat.le_of_ble_eq_true rfl, Nat.le_of_ble_eq_true rfl⟩ (h3 _) rfl (Nat.le_of_ble_eq_true rfl) dL_law_480 rfl (fun _ h4 => ?_)
  obtain ⟨hI2, o, ho, hob⟩ := h4
  obtain ⟨v, hv, hv3⟩ := hI2.th
  refine V_istore (lv2 := [(6, .int _), (5, .int _), (4, .int _), (3, .ref _), (2, .ref _), (1, .ref _), (0, .ref _)]) dL_law_483 (Nat.le_of_ble_eq_true rfl) rfl ?_
  refine V_aload_n 4 dL_law_485 rfl ?_
  refine C_L_90 hv rfl ⟨Nat.le_of_ble_eq_true rfl, Nat.le_of_ble_eq_true rfl⟩ (r9_thrown hv) rfl (Nat.le_of_ble_eq_true rfl) dL_law_486 rfl ?_
  rw [hv3]
  refine V_iload 1 dL_law_489 rfl ?_
  refine V_icmp_eq (tgt := 496) dL_law_491 (by decide) (fun c491 => ?_) (fun c491 => absurd rfl c491)
  refine V_pc (pc2 := 496) rfl ?_
  refine V_iload 1 dL_law_496 rfl ?_
  refine V_if_ne (tgt := 513) dL_law_498 (by decide) (fun c498 => ?_) (fun c498 => ?_)
  · refine V_goto (tgt := 1582) dL_law_513 (by decide) ?_
    refine V_lv (lv2 := [(4, .int _), (3, .ref _), (2, .ref _), (1, .ref _), (0, .ref _)]) [2, 3, 4, 5, 6] rfl ?_
    exact kk _ ⟨_, hI2⟩
  · refine V_aload_n 3 dL_law_501 rfl ?_
    refine V_iconst (v := 0) dL_law_502 rfl ?_
    refine V_lald ho (show vp_in (nI 0) 1 from vp_in_nI (by decide) (by decide)) dL_law_503 ?_
    refine V_iload 0 dL_law_504 rfl ?_
    refine V_i2l dL_law_506 ?_
    refine V_lcmp dL_law_507 ?_
    refine V_if_eq (tgt := 513) dL_law_508 (by decide) (fun c508 => ?_) (fun c508 => absurd (lgc_eq.mpr (hob ((nI_eq (b := 0) (by omega) (by decide)).mp c498))) c508)
    refine V_pc (pc2 := 513) rfl ?_
    refine V_goto (tgt := 1582) dL_law_513 (by decide) ?_
    refine V_lv (lv2 := [(4, .int _), (3, .ref _), (2, .ref _), (1, .ref _), (0, .ref _)]) [2, 3, 4, 5, 6] rfl ?_
    exact kk _ ⟨_, hI2⟩

set_option maxRecDepth 20000 in
theorem lc_send {g : GE} {M : Mem} {sz kc ks : Nat} {Q : Ou → Mem → Prop} (i : Nat) (hi : i + 5 ≤ gN g) (hN : gN g ≤ 2560) (h : (∀ a b : Int32, OPL g m_L_send m_X9_send [rf g 0, .int a, .int b, rf g 105] [rf g 96, .int a, .int b])) (hInv : ∃ th, Inv g M th) (kk : ∀ M1, (∃ th, Inv g M1 th) → V g m_L_law 1582 [(4, .int (nI i)), (3, rf g 105), (2, rf g 96), (1, rf g 0), (0, .ref (gS g))] [] M1 (sz + 1) kc ks Q) : V g m_L_law 516 [(4, .int (nI i)), (3, rf g 105), (2, rf g 96), (1, rf g 0), (0, .ref (gS g))] [] M sz (kc + 1) (ks + 6) Q := by
  refine V_aload_n 3 dL_law_516 rfl ?_
  refine V_aload_n 4 dL_law_517 rfl ?_
  refine V_iload 0 dL_law_518 rfl ?_
  refine V_iconst (v := 1) dL_law_520 rfl ?_
  refine V_iadd dL_law_521 ?_
  refine V_sld (sx1 (by omega) hN) dL_law_522 ?_
  refine V_aload_n 4 dL_law_523 rfl ?_
  refine V_pc (pc2 := 524) rfl ?_
  refine V_iload 0 dL_law_524 rfl ?_
  refine V_iconst (v := 2) dL_law_526 rfl ?_
  refine V_iadd dL_law_527 ?_
  refine V_sld (sx2 (by omega) hN) dL_law_528 ?_
  refine V_aload_n 1 dL_law_529 rfl ?_
  obtain ⟨c, b, P1, hc, h1, h2⟩ := h (gx g (nI i + 1).toNatClampNeg) (gx g (nI i + 2).toNatClampNeg) M sz hInv
  refine V_callSH (mt := m_L_law) (mc1 := 1) (ms1 := 6) h1 (fun E M h => nomatch h.1) (by decide) k_L_send s_L_send l_L_106 ⟨Nat.le_of_ble_eq_true rfl, Nat.le_of_ble_eq_true rfl⟩ rfl (Nat.le_of_ble_eq_true rfl) dL_law_530 rfl (fun v9 M1 hh => ?_)
  obtain ⟨e1, e2⟩ := hh
  cases e1
  obtain ⟨⟨fs, h96⟩, h3⟩ := h2 M1 e2
  refine V_istore (lv2 := [(5, .int _), (4, .int _), (3, .ref _), (2, .ref _), (1, .ref _), (0, .ref _)]) dL_law_533 (Nat.le_of_ble_eq_true rfl) rfl ?_
  refine V_aload_n 3 dL_law_535 rfl ?_
  refine V_pc (pc2 := 536) rfl ?_
  refine V_aload_n 5 dL_law_536 rfl ?_
  refine V_iload 1 dL_law_537 rfl ?_
  refine V_iconst (v := 1) dL_law_539 rfl ?_
  refine V_iadd dL_law_540 ?_
  refine V_sld (sx1 (by omega) hN) dL_law_541 ?_
  refine V_aload_n 5 dL_law_542 rfl ?_
  refine V_iload 1 dL_law_543 rfl ?_
  refine V_iconst (v := 2) dL_law_545 rfl ?_
  refine V_pc (pc2 := 546) rfl ?_
  refine V_iadd dL_law_546 ?_
  refine V_sld (sx2 (by omega) hN) dL_law_547 ?_
  refine Cp_L_108 h96 rfl ⟨Nat.le_of_ble_eq_true rfl, Nat.le_of_ble_eq_true rfl⟩ (h3 _) rfl (Nat.le_of_ble_eq_true rfl) dL_law_548 rfl (fun _ h4 => ?_)
  obtain ⟨hI2, o, ho, hob⟩ := h4
  obtain ⟨v, hv, hv3⟩ := hI2.th
  refine V_istore (lv2 := [(6, .int _), (5, .int _), (4, .int _), (3, .ref _), (2, .ref _), (1, .ref _), (0, .ref _)]) dL_law_551 (Nat.le_of_ble_eq_true rfl) rfl ?_
  refine V_aload_n 4 dL_law_553 rfl ?_
  refine C_L_90 hv rfl ⟨Nat.le_of_ble_eq_true rfl, Nat.le_of_ble_eq_true rfl⟩ (r9_thrown hv) rfl (Nat.le_of_ble_eq_true rfl) dL_law_554 rfl ?_
  rw [hv3]
  refine V_iload 1 dL_law_557 rfl ?_
  refine V_icmp_eq (tgt := 564) dL_law_559 (by decide) (fun c559 => ?_) (fun c559 => absurd rfl c559)
  refine V_pc (pc2 := 564) rfl ?_
  refine V_iload 1 dL_law_564 rfl ?_
  refine V_if_ne (tgt := 581) dL_law_566 (by decide) (fun c566 => ?_) (fun c566 => ?_)
  · refine V_goto (tgt := 1582) dL_law_581 (by decide) ?_
    refine V_lv (lv2 := [(4, .int _), (3, .ref _), (2, .ref _), (1, .ref _), (0, .ref _)]) [2, 3, 4, 5, 6] rfl ?_
    exact kk _ ⟨_, hI2⟩
  · refine V_aload_n 3 dL_law_569 rfl ?_
    refine V_iconst (v := 0) dL_law_570 rfl ?_
    refine V_lald ho (show vp_in (nI 0) 1 from vp_in_nI (by decide) (by decide)) dL_law_571 ?_
    refine V_iload 0 dL_law_572 rfl ?_
    refine V_i2l dL_law_574 ?_
    refine V_lcmp dL_law_575 ?_
    refine V_if_eq (tgt := 581) dL_law_576 (by decide) (fun c576 => ?_) (fun c576 => absurd (lgc_eq.mpr (hob ((nI_eq (b := 0) (by omega) (by decide)).mp c566))) c576)
    refine V_pc (pc2 := 581) rfl ?_
    refine V_goto (tgt := 1582) dL_law_581 (by decide) ?_
    refine V_lv (lv2 := [(4, .int _), (3, .ref _), (2, .ref _), (1, .ref _), (0, .ref _)]) [2, 3, 4, 5, 6] rfl ?_
    exact kk _ ⟨_, hI2⟩

set_option maxRecDepth 20000 in
theorem lc_sell {g : GE} {M : Mem} {sz kc ks : Nat} {Q : Ou → Mem → Prop} (i : Nat) (hi : i + 5 ≤ gN g) (hN : gN g ≤ 2560) (h : (∀ a : Int32, OPL g m_L_sell m_X9_sell [rf g 0, .int a, rf g 105] [rf g 96, .int a])) (hInv : ∃ th, Inv g M th) (kk : ∀ M1, (∃ th, Inv g M1 th) → V g m_L_law 1582 [(4, .int (nI i)), (3, rf g 105), (2, rf g 96), (1, rf g 0), (0, .ref (gS g))] [] M1 (sz + 1) kc ks Q) : V g m_L_law 584 [(4, .int (nI i)), (3, rf g 105), (2, rf g 96), (1, rf g 0), (0, .ref (gS g))] [] M sz (kc + 1) (ks + 6) Q := by
  refine V_aload_n 3 dL_law_584 rfl ?_
  refine V_aload_n 4 dL_law_585 rfl ?_
  refine V_iload 0 dL_law_586 rfl ?_
  refine V_iconst (v := 1) dL_law_588 rfl ?_
  refine V_iadd dL_law_589 ?_
  refine V_sld (sx1 (by omega) hN) dL_law_590 ?_
  refine V_aload_n 1 dL_law_591 rfl ?_
  refine V_pc (pc2 := 592) rfl ?_
  obtain ⟨c, b, P1, hc, h1, h2⟩ := h (gx g (nI i + 1).toNatClampNeg) M sz hInv
  refine V_callSH (mt := m_L_law) (mc1 := 1) (ms1 := 6) h1 (fun E M h => nomatch h.1) (by decide) k_L_sell s_L_sell l_L_109 ⟨Nat.le_of_ble_eq_true rfl, Nat.le_of_ble_eq_true rfl⟩ rfl (Nat.le_of_ble_eq_true rfl) dL_law_592 rfl (fun v9 M1 hh => ?_)
  obtain ⟨e1, e2⟩ := hh
  cases e1
  obtain ⟨⟨fs, h96⟩, h3⟩ := h2 M1 e2
  refine V_istore (lv2 := [(5, .int _), (4, .int _), (3, .ref _), (2, .ref _), (1, .ref _), (0, .ref _)]) dL_law_595 (Nat.le_of_ble_eq_true rfl) rfl ?_
  refine V_aload_n 3 dL_law_597 rfl ?_
  refine V_aload_n 5 dL_law_598 rfl ?_
  refine V_iload 1 dL_law_599 rfl ?_
  refine V_iconst (v := 1) dL_law_601 rfl ?_
  refine V_iadd dL_law_602 ?_
  refine V_sld (sx1 (by omega) hN) dL_law_603 ?_
  refine V_pc (pc2 := 604) rfl ?_
  refine Cp_L_112 h96 rfl ⟨Nat.le_of_ble_eq_true rfl, Nat.le_of_ble_eq_true rfl⟩ (h3 _) rfl (Nat.le_of_ble_eq_true rfl) dL_law_604 rfl (fun _ h4 => ?_)
  obtain ⟨hI2, o, ho, hob⟩ := h4
  obtain ⟨v, hv, hv3⟩ := hI2.th
  refine V_istore (lv2 := [(6, .int _), (5, .int _), (4, .int _), (3, .ref _), (2, .ref _), (1, .ref _), (0, .ref _)]) dL_law_607 (Nat.le_of_ble_eq_true rfl) rfl ?_
  refine V_aload_n 4 dL_law_609 rfl ?_
  refine C_L_90 hv rfl ⟨Nat.le_of_ble_eq_true rfl, Nat.le_of_ble_eq_true rfl⟩ (r9_thrown hv) rfl (Nat.le_of_ble_eq_true rfl) dL_law_610 rfl ?_
  rw [hv3]
  refine V_iload 1 dL_law_613 rfl ?_
  refine V_icmp_eq (tgt := 620) dL_law_615 (by decide) (fun c615 => ?_) (fun c615 => absurd rfl c615)
  refine V_iload 1 dL_law_620 rfl ?_
  refine V_if_ne (tgt := 637) dL_law_622 (by decide) (fun c622 => ?_) (fun c622 => ?_)
  · refine V_goto (tgt := 1582) dL_law_637 (by decide) ?_
    refine V_lv (lv2 := [(4, .int _), (3, .ref _), (2, .ref _), (1, .ref _), (0, .ref _)]) [2, 3, 4, 5, 6] rfl ?_
    exact kk _ ⟨_, hI2⟩
  · refine V_aload_n 3 dL_law_625 rfl ?_
    refine V_iconst (v := 0) dL_law_626 rfl ?_
    refine V_lald ho (show vp_in (nI 0) 1 from vp_in_nI (by decide) (by decide)) dL_law_627 ?_
    refine V_iload 0 dL_law_628 rfl ?_
    refine V_i2l dL_law_630 ?_
    refine V_lcmp dL_law_631 ?_
    refine V_if_eq (tgt := 637) dL_law_632 (by decide) (fun c632 => ?_) (fun c632 => absurd (lgc_eq.mpr (hob ((nI_eq (b := 0) (by omega) (by decide)).mp c622))) c632)
    refine V_pc (pc2 := 637) rfl ?_
    refine V_goto (tgt := 1582) dL_law_637 (by decide) ?_
    refine V_lv (lv2 := [(4, .int _), (3, .ref _), (2, .ref _), (1, .ref _), (0, .ref _)]) [2, 3, 4, 5, 6] rfl ?_
    exact kk _ ⟨_, hI2⟩

set_option maxRecDepth 20000 in
theorem lc_append {g : GE} {M : Mem} {sz kc ks : Nat} {Q : Ou → Mem → Prop} (i : Nat) (hi : i + 5 ≤ gN g) (hN : gN g ≤ 2560) (h : (∀ a : Int32, OPL g m_L_append m_X9_append [rf g 0, .int a, rf g 105] [rf g 96, .int a])) (hInv : ∃ th, Inv g M th) (kk : ∀ M1, (∃ th, Inv g M1 th) → V g m_L_law 1582 [(4, .int (nI i)), (3, rf g 105), (2, rf g 96), (1, rf g 0), (0, .ref (gS g))] [] M1 (sz + 1) kc ks Q) : V g m_L_law 640 [(4, .int (nI i)), (3, rf g 105), (2, rf g 96), (1, rf g 0), (0, .ref (gS g))] [] M sz (kc + 1) (ks + 6) Q := by
  refine V_aload_n 3 dL_law_640 rfl ?_
  refine V_aload_n 4 dL_law_641 rfl ?_
  refine V_iload 0 dL_law_642 rfl ?_
  refine V_iconst (v := 1) dL_law_644 rfl ?_
  refine V_iadd dL_law_645 ?_
  refine V_sld (sx1 (by omega) hN) dL_law_646 ?_
  refine V_aload_n 1 dL_law_647 rfl ?_
  refine V_pc (pc2 := 648) rfl ?_
  obtain ⟨c, b, P1, hc, h1, h2⟩ := h (gx g (nI i + 1).toNatClampNeg) M sz hInv
  refine V_callSH (mt := m_L_law) (mc1 := 1) (ms1 := 6) h1 (fun E M h => nomatch h.1) (by decide) k_L_append s_L_append l_L_113 ⟨Nat.le_of_ble_eq_true rfl, Nat.le_of_ble_eq_true rfl⟩ rfl (Nat.le_of_ble_eq_true rfl) dL_law_648 rfl (fun v9 M1 hh => ?_)
  obtain ⟨e1, e2⟩ := hh
  cases e1
  obtain ⟨⟨fs, h96⟩, h3⟩ := h2 M1 e2
  refine V_istore (lv2 := [(5, .int _), (4, .int _), (3, .ref _), (2, .ref _), (1, .ref _), (0, .ref _)]) dL_law_651 (Nat.le_of_ble_eq_true rfl) rfl ?_
  refine V_aload_n 3 dL_law_653 rfl ?_
  refine V_aload_n 5 dL_law_654 rfl ?_
  refine V_iload 1 dL_law_655 rfl ?_
  refine V_iconst (v := 1) dL_law_657 rfl ?_
  refine V_iadd dL_law_658 ?_
  refine V_sld (sx1 (by omega) hN) dL_law_659 ?_
  refine V_pc (pc2 := 660) rfl ?_
  refine Cp_L_115 h96 rfl ⟨Nat.le_of_ble_eq_true rfl, Nat.le_of_ble_eq_true rfl⟩ (h3 _) rfl (Nat.le_of_ble_eq_true rfl) dL_law_660 rfl (fun _ h4 => ?_)
  obtain ⟨hI2, o, ho, hob⟩ := h4
  obtain ⟨v, hv, hv3⟩ := hI2.th
  refine V_istore (lv2 := [(6, .int _), (5, .int _), (4, .int _), (3, .ref _), (2, .ref _), (1, .ref _), (0, .ref _)]) dL_law_663 (Nat.le_of_ble_eq_true rfl) rfl ?_
  refine V_aload_n 4 dL_law_665 rfl ?_
  refine C_L_90 hv rfl ⟨Nat.le_of_ble_eq_true rfl, Nat.le_of_ble_eq_true rfl⟩ (r9_thrown hv) rfl (Nat.le_of_ble_eq_true rfl) dL_law_666 rfl ?_
  rw [hv3]
  refine V_iload 1 dL_law_669 rfl ?_
  refine V_icmp_eq (tgt := 676) dL_law_671 (by decide) (fun c671 => ?_) (fun c671 => absurd rfl c671)
  refine V_iload 1 dL_law_676 rfl ?_
  refine V_if_ne (tgt := 693) dL_law_678 (by decide) (fun c678 => ?_) (fun c678 => ?_)
  · refine V_goto (tgt := 1582) dL_law_693 (by decide) ?_
    refine V_lv (lv2 := [(4, .int _), (3, .ref _), (2, .ref _), (1, .ref _), (0, .ref _)]) [2, 3, 4, 5, 6] rfl ?_
    exact kk _ ⟨_, hI2⟩
  · refine V_aload_n 3 dL_law_681 rfl ?_
    refine V_iconst (v := 0) dL_law_682 rfl ?_
    refine V_lald ho (show vp_in (nI 0) 1 from vp_in_nI (by decide) (by decide)) dL_law_683 ?_
    refine V_iload 0 dL_law_684 rfl ?_
    refine V_i2l dL_law_686 ?_
    refine V_lcmp dL_law_687 ?_
    refine V_if_eq (tgt := 693) dL_law_688 (by decide) (fun c688 => ?_) (fun c688 => absurd (lgc_eq.mpr (hob ((nI_eq (b := 0) (by omega) (by decide)).mp c678))) c688)
    refine V_pc (pc2 := 693) rfl ?_
    refine V_goto (tgt := 1582) dL_law_693 (by decide) ?_
    refine V_lv (lv2 := [(4, .int _), (3, .ref _), (2, .ref _), (1, .ref _), (0, .ref _)]) [2, 3, 4, 5, 6] rfl ?_
    exact kk _ ⟨_, hI2⟩

set_option maxRecDepth 20000 in
theorem lc_clearBuffer {g : GE} {M : Mem} {sz kc ks : Nat} {Q : Ou → Mem → Prop} (i : Nat) (h : OPD g m_X8_clearBuffer m_X9_clearBuffer) (hInv : ∃ th, Inv g M th) (kk : ∀ M1, (∃ th, Inv g M1 th) → V g m_L_law 1582 [(4, .int (nI i)), (3, rf g 105), (2, rf g 96), (1, rf g 0), (0, .ref (gS g))] [] M1 sz kc ks Q) : V g m_L_law 696 [(4, .int (nI i)), (3, rf g 105), (2, rf g 96), (1, rf g 0), (0, .ref (gS g))] [] M sz kc ks Q := by
  obtain ⟨b, P1, h1, h2⟩ := h M sz hInv
  obtain ⟨fs, h0⟩ := hInv.choose_spec.x
  refine V_aload_n 3 dL_law_696 rfl ?_
  refine Cp_L_116 h0 rfl ⟨Nat.le_of_ble_eq_true rfl, Nat.le_of_ble_eq_true rfl⟩ (h1) rfl (Nat.le_of_ble_eq_true rfl) dL_law_697 rfl (fun _ e2 => ?_)
  obtain ⟨⟨fs2, h96⟩, h3⟩ := h2 _ e2
  refine V_aload_n 2 dL_law_700 rfl ?_
  refine Cp_L_119 h96 rfl ⟨Nat.le_of_ble_eq_true rfl, Nat.le_of_ble_eq_true rfl⟩ (h3 _) rfl (Nat.le_of_ble_eq_true rfl) dL_law_701 rfl (fun _ h4 => ?_)
  refine V_icmp_eq (tgt := 1582) dL_law_704 (by decide) (fun c704 => ?_) (fun c704 => absurd rfl c704)
  refine V_lv (lv2 := [(4, .int _), (3, .ref _), (2, .ref _), (1, .ref _), (0, .ref _)]) [0, 1, 2, 3, 4] rfl ?_
  exact kk _ h4

set_option maxRecDepth 20000 in
theorem lc_firstError {g : GE} {M : Mem} {sz kc ks : Nat} {Q : Ou → Mem → Prop} (i : Nat) (h : OPD g m_X8_firstError m_X9_firstError) (hInv : ∃ th, Inv g M th) (kk : ∀ M1, (∃ th, Inv g M1 th) → V g m_L_law 1582 [(4, .int (nI i)), (3, rf g 105), (2, rf g 96), (1, rf g 0), (0, .ref (gS g))] [] M1 sz kc ks Q) : V g m_L_law 709 [(4, .int (nI i)), (3, rf g 105), (2, rf g 96), (1, rf g 0), (0, .ref (gS g))] [] M sz kc ks Q := by
  obtain ⟨b, P1, h1, h2⟩ := h M sz hInv
  obtain ⟨fs, h0⟩ := hInv.choose_spec.x
  refine V_aload_n 3 dL_law_709 rfl ?_
  refine Cp_L_120 h0 rfl ⟨Nat.le_of_ble_eq_true rfl, Nat.le_of_ble_eq_true rfl⟩ (h1) rfl (Nat.le_of_ble_eq_true rfl) dL_law_710 rfl (fun _ e2 => ?_)
  obtain ⟨⟨fs2, h96⟩, h3⟩ := h2 _ e2
  refine V_aload_n 2 dL_law_713 rfl ?_
  refine Cp_L_123 h96 rfl ⟨Nat.le_of_ble_eq_true rfl, Nat.le_of_ble_eq_true rfl⟩ (h3 _) rfl (Nat.le_of_ble_eq_true rfl) dL_law_714 rfl (fun _ h4 => ?_)
  refine V_icmp_eq (tgt := 1582) dL_law_717 (by decide) (fun c717 => ?_) (fun c717 => absurd rfl c717)
  refine V_lv (lv2 := [(4, .int _), (3, .ref _), (2, .ref _), (1, .ref _), (0, .ref _)]) [0, 1, 2, 3, 4] rfl ?_
  exact kk _ h4

set_option maxRecDepth 20000 in
theorem lc_work {g : GE} {M : Mem} {sz kc ks : Nat} {Q : Ou → Mem → Prop} (i : Nat) (hi : i + 5 ≤ gN g) (hN : gN g ≤ 2560) (h : OPL g m_L_work m_X9_work [rf g 0, rf g 105] [rf g 96]) (hInv : ∃ th, Inv g M th) (kk : ∀ M1, (∃ th, Inv g M1 th) → V g m_L_law 1582 [(4, .int (nI i)), (3, rf g 105), (2, rf g 96), (1, rf g 0), (0, .ref (gS g))] [] M1 (sz + 1) kc ks Q) : V g m_L_law 722 [(4, .int (nI i)), (3, rf g 105), (2, rf g 96), (1, rf g 0), (0, .ref (gS g))] [] M sz (kc + 1) (ks + 6) Q := by
  refine V_aload_n 3 dL_law_722 rfl ?_
  refine V_aload_n 1 dL_law_723 rfl ?_
  obtain ⟨c, b, P1, hc, h1, h2⟩ := h  M sz hInv
  refine V_callSH (mt := m_L_law) (mc1 := 1) (ms1 := 6) h1 (fun E M h => nomatch h.1) (by decide) k_L_work s_L_work l_L_124 ⟨Nat.le_of_ble_eq_true rfl, Nat.le_of_ble_eq_true rfl⟩ rfl (Nat.le_of_ble_eq_true rfl) dL_law_724 rfl (fun v9 M1 hh => ?_)
  obtain ⟨e1, e2⟩ := hh
  cases e1
  obtain ⟨⟨fs, h96⟩, h3⟩ := h2 M1 e2
  refine V_istore (lv2 := [(5, .int _), (4, .int _), (3, .ref _), (2, .ref _), (1, .ref _), (0, .ref _)]) dL_law_727 (Nat.le_of_ble_eq_true rfl) rfl ?_
  refine V_aload_n 3 dL_law_729 rfl ?_
  refine Cp_L_127 h96 rfl ⟨Nat.le_of_ble_eq_true rfl, Nat.le_of_ble_eq_true rfl⟩ (h3 _) rfl (Nat.le_of_ble_eq_true rfl) dL_law_730 rfl (fun _ h4 => ?_)
  obtain ⟨hI2, o, ho, hob⟩ := h4
  obtain ⟨v, hv, hv3⟩ := hI2.th
  refine V_istore (lv2 := [(6, .int _), (5, .int _), (4, .int _), (3, .ref _), (2, .ref _), (1, .ref _), (0, .ref _)]) dL_law_733 (Nat.le_of_ble_eq_true rfl) rfl ?_
  refine V_pc (pc2 := 735) rfl ?_
  refine V_aload_n 4 dL_law_735 rfl ?_
  refine C_L_90 hv rfl ⟨Nat.le_of_ble_eq_true rfl, Nat.le_of_ble_eq_true rfl⟩ (r9_thrown hv) rfl (Nat.le_of_ble_eq_true rfl) dL_law_736 rfl ?_
  rw [hv3]
  refine V_iload 1 dL_law_739 rfl ?_
  refine V_icmp_eq (tgt := 746) dL_law_741 (by decide) (fun c741 => ?_) (fun c741 => absurd rfl c741)
  refine V_iload 1 dL_law_746 rfl ?_
  refine V_if_ne (tgt := 763) dL_law_748 (by decide) (fun c748 => ?_) (fun c748 => ?_)
  · refine V_goto (tgt := 1582) dL_law_763 (by decide) ?_
    refine V_lv (lv2 := [(4, .int _), (3, .ref _), (2, .ref _), (1, .ref _), (0, .ref _)]) [2, 3, 4, 5, 6] rfl ?_
    exact kk _ ⟨_, hI2⟩
  · refine V_aload_n 3 dL_law_751 rfl ?_
    refine V_iconst (v := 0) dL_law_752 rfl ?_
    refine V_lald ho (show vp_in (nI 0) 1 from vp_in_nI (by decide) (by decide)) dL_law_753 ?_
    refine V_iload 0 dL_law_754 rfl ?_
    refine V_i2l dL_law_756 ?_
    refine V_lcmp dL_law_757 ?_
    refine V_if_eq (tgt := 763) dL_law_758 (by decide) (fun c758 => ?_) (fun c758 => absurd (lgc_eq.mpr (hob ((nI_eq (b := 0) (by omega) (by decide)).mp c748))) c758)
    refine V_pc (pc2 := 763) rfl ?_
    refine V_goto (tgt := 1582) dL_law_763 (by decide) ?_
    refine V_lv (lv2 := [(4, .int _), (3, .ref _), (2, .ref _), (1, .ref _), (0, .ref _)]) [2, 3, 4, 5, 6] rfl ?_
    exact kk _ ⟨_, hI2⟩

set_option maxRecDepth 20000 in
theorem lc_stopped {g : GE} {M : Mem} {sz kc ks : Nat} {Q : Ou → Mem → Prop} (i : Nat) (hi : i + 5 ≤ gN g) (hN : gN g ≤ 2560) (h : (∀ a : Int32, OPL g m_L_stopped m_X9_stopped [rf g 0, .int a, rf g 105] [rf g 96, .int a])) (hInv : ∃ th, Inv g M th) (kk : ∀ M1, (∃ th, Inv g M1 th) → V g m_L_law 1582 [(4, .int (nI i)), (3, rf g 105), (2, rf g 96), (1, rf g 0), (0, .ref (gS g))] [] M1 (sz + 1) kc ks Q) : V g m_L_law 766 [(4, .int (nI i)), (3, rf g 105), (2, rf g 96), (1, rf g 0), (0, .ref (gS g))] [] M sz (kc + 1) (ks + 6) Q := by
  refine V_aload_n 3 dL_law_766 rfl ?_
  refine V_aload_n 4 dL_law_767 rfl ?_
  refine V_iload 0 dL_law_768 rfl ?_
  refine V_iconst (v := 1) dL_law_770 rfl ?_
  refine V_iadd dL_law_771 ?_
  refine V_sld (sx1 (by omega) hN) dL_law_772 ?_
  refine V_aload_n 1 dL_law_773 rfl ?_
  refine V_pc (pc2 := 774) rfl ?_
  obtain ⟨c, b, P1, hc, h1, h2⟩ := h (gx g (nI i + 1).toNatClampNeg) M sz hInv
  refine V_callSH (mt := m_L_law) (mc1 := 1) (ms1 := 6) h1 (fun E M h => nomatch h.1) (by decide) k_L_stopped s_L_stopped l_L_128 ⟨Nat.le_of_ble_eq_true rfl, Nat.le_of_ble_eq_true rfl⟩ rfl (Nat.le_of_ble_eq_true rfl) dL_law_774 rfl (fun v9 M1 hh => ?_)
  obtain ⟨e1, e2⟩ := hh
  cases e1
  obtain ⟨⟨fs, h96⟩, h3⟩ := h2 M1 e2
  refine V_istore (lv2 := [(5, .int _), (4, .int _), (3, .ref _), (2, .ref _), (1, .ref _), (0, .ref _)]) dL_law_777 (Nat.le_of_ble_eq_true rfl) rfl ?_
  refine V_aload_n 3 dL_law_779 rfl ?_
  refine V_aload_n 5 dL_law_780 rfl ?_
  refine V_iload 1 dL_law_781 rfl ?_
  refine V_iconst (v := 1) dL_law_783 rfl ?_
  refine V_iadd dL_law_784 ?_
  refine V_sld (sx1 (by omega) hN) dL_law_785 ?_
  refine V_pc (pc2 := 786) rfl ?_
  refine Cp_L_130 h96 rfl ⟨Nat.le_of_ble_eq_true rfl, Nat.le_of_ble_eq_true rfl⟩ (h3 _) rfl (Nat.le_of_ble_eq_true rfl) dL_law_786 rfl (fun _ h4 => ?_)
  obtain ⟨hI2, o, ho, hob⟩ := h4
  obtain ⟨v, hv, hv3⟩ := hI2.th
  refine V_istore (lv2 := [(6, .int _), (5, .int _), (4, .int _), (3, .ref _), (2, .ref _), (1, .ref _), (0, .ref _)]) dL_law_789 (Nat.le_of_ble_eq_true rfl) rfl ?_
  refine V_aload_n 4 dL_law_791 rfl ?_
  refine C_L_90 hv rfl ⟨Nat.le_of_ble_eq_true rfl, Nat.le_of_ble_eq_true rfl⟩ (r9_thrown hv) rfl (Nat.le_of_ble_eq_true rfl) dL_law_792 rfl ?_
  rw [hv3]
  refine V_iload 1 dL_law_795 rfl ?_
  refine V_icmp_eq (tgt := 802) dL_law_797 (by decide) (fun c797 => ?_) (fun c797 => absurd rfl c797)
  refine V_iload 1 dL_law_802 rfl ?_
  refine V_if_ne (tgt := 819) dL_law_804 (by decide) (fun c804 => ?_) (fun c804 => ?_)
  · refine V_goto (tgt := 1582) dL_law_819 (by decide) ?_
    refine V_lv (lv2 := [(4, .int _), (3, .ref _), (2, .ref _), (1, .ref _), (0, .ref _)]) [2, 3, 4, 5, 6] rfl ?_
    exact kk _ ⟨_, hI2⟩
  · refine V_aload_n 3 dL_law_807 rfl ?_
    refine V_iconst (v := 0) dL_law_808 rfl ?_
    refine V_lald ho (show vp_in (nI 0) 1 from vp_in_nI (by decide) (by decide)) dL_law_809 ?_
    refine V_iload 0 dL_law_810 rfl ?_
    refine V_i2l dL_law_812 ?_
    refine V_lcmp dL_law_813 ?_
    refine V_if_eq (tgt := 819) dL_law_814 (by decide) (fun c814 => ?_) (fun c814 => absurd (lgc_eq.mpr (hob ((nI_eq (b := 0) (by omega) (by decide)).mp c804))) c814)
    refine V_pc (pc2 := 819) rfl ?_
    refine V_goto (tgt := 1582) dL_law_819 (by decide) ?_
    refine V_lv (lv2 := [(4, .int _), (3, .ref _), (2, .ref _), (1, .ref _), (0, .ref _)]) [2, 3, 4, 5, 6] rfl ?_
    exact kk _ ⟨_, hI2⟩

set_option maxRecDepth 20000 in
theorem lc_undo {g : GE} {M : Mem} {sz kc ks : Nat} {Q : Ou → Mem → Prop} (i : Nat) (hi : i + 5 ≤ gN g) (hN : gN g ≤ 2560) (h : OPL g m_L_undo m_X9_undo [rf g 0, rf g 105] [rf g 96]) (hInv : ∃ th, Inv g M th) (kk : ∀ M1, (∃ th, Inv g M1 th) → V g m_L_law 1582 [(4, .int (nI i)), (3, rf g 105), (2, rf g 96), (1, rf g 0), (0, .ref (gS g))] [] M1 (sz + 1) kc ks Q) : V g m_L_law 822 [(4, .int (nI i)), (3, rf g 105), (2, rf g 96), (1, rf g 0), (0, .ref (gS g))] [] M sz (kc + 1) (ks + 6) Q := by
  refine V_aload_n 3 dL_law_822 rfl ?_
  refine V_aload_n 1 dL_law_823 rfl ?_
  obtain ⟨c, b, P1, hc, h1, h2⟩ := h  M sz hInv
  refine V_callSH (mt := m_L_law) (mc1 := 1) (ms1 := 6) h1 (fun E M h => nomatch h.1) (by decide) k_L_undo s_L_undo l_L_131 ⟨Nat.le_of_ble_eq_true rfl, Nat.le_of_ble_eq_true rfl⟩ rfl (Nat.le_of_ble_eq_true rfl) dL_law_824 rfl (fun v9 M1 hh => ?_)
  obtain ⟨e1, e2⟩ := hh
  cases e1
  obtain ⟨⟨fs, h96⟩, h3⟩ := h2 M1 e2
  refine V_istore (lv2 := [(5, .int _), (4, .int _), (3, .ref _), (2, .ref _), (1, .ref _), (0, .ref _)]) dL_law_827 (Nat.le_of_ble_eq_true rfl) rfl ?_
  refine V_aload_n 3 dL_law_829 rfl ?_
  refine Cp_L_133 h96 rfl ⟨Nat.le_of_ble_eq_true rfl, Nat.le_of_ble_eq_true rfl⟩ (h3 _) rfl (Nat.le_of_ble_eq_true rfl) dL_law_830 rfl (fun _ h4 => ?_)
  obtain ⟨hI2, o, ho, hob⟩ := h4
  obtain ⟨v, hv, hv3⟩ := hI2.th
  refine V_istore (lv2 := [(6, .int _), (5, .int _), (4, .int _), (3, .ref _), (2, .ref _), (1, .ref _), (0, .ref _)]) dL_law_833 (Nat.le_of_ble_eq_true rfl) rfl ?_
  refine V_pc (pc2 := 835) rfl ?_
  refine V_aload_n 4 dL_law_835 rfl ?_
  refine C_L_90 hv rfl ⟨Nat.le_of_ble_eq_true rfl, Nat.le_of_ble_eq_true rfl⟩ (r9_thrown hv) rfl (Nat.le_of_ble_eq_true rfl) dL_law_836 rfl ?_
  rw [hv3]
  refine V_iload 1 dL_law_839 rfl ?_
  refine V_icmp_eq (tgt := 846) dL_law_841 (by decide) (fun c841 => ?_) (fun c841 => absurd rfl c841)
  refine V_iload 1 dL_law_846 rfl ?_
  refine V_if_ne (tgt := 863) dL_law_848 (by decide) (fun c848 => ?_) (fun c848 => ?_)
  · refine V_goto (tgt := 1582) dL_law_863 (by decide) ?_
    refine V_lv (lv2 := [(4, .int _), (3, .ref _), (2, .ref _), (1, .ref _), (0, .ref _)]) [2, 3, 4, 5, 6] rfl ?_
    exact kk _ ⟨_, hI2⟩
  · refine V_aload_n 3 dL_law_851 rfl ?_
    refine V_iconst (v := 0) dL_law_852 rfl ?_
    refine V_lald ho (show vp_in (nI 0) 1 from vp_in_nI (by decide) (by decide)) dL_law_853 ?_
    refine V_iload 0 dL_law_854 rfl ?_
    refine V_i2l dL_law_856 ?_
    refine V_lcmp dL_law_857 ?_
    refine V_if_eq (tgt := 863) dL_law_858 (by decide) (fun c858 => ?_) (fun c858 => absurd (lgc_eq.mpr (hob ((nI_eq (b := 0) (by omega) (by decide)).mp c848))) c858)
    refine V_pc (pc2 := 863) rfl ?_
    refine V_goto (tgt := 1582) dL_law_863 (by decide) ?_
    refine V_lv (lv2 := [(4, .int _), (3, .ref _), (2, .ref _), (1, .ref _), (0, .ref _)]) [2, 3, 4, 5, 6] rfl ?_
    exact kk _ ⟨_, hI2⟩

set_option maxRecDepth 20000 in
theorem lc_keep {g : GE} {M : Mem} {sz kc ks : Nat} {Q : Ou → Mem → Prop} (i : Nat) (h : OPD g m_X8_keep m_X9_keep) (hInv : ∃ th, Inv g M th) (kk : ∀ M1, (∃ th, Inv g M1 th) → V g m_L_law 1582 [(4, .int (nI i)), (3, rf g 105), (2, rf g 96), (1, rf g 0), (0, .ref (gS g))] [] M1 sz kc ks Q) : V g m_L_law 866 [(4, .int (nI i)), (3, rf g 105), (2, rf g 96), (1, rf g 0), (0, .ref (gS g))] [] M sz kc ks Q := by
  obtain ⟨b, P1, h1, h2⟩ := h M sz hInv
  obtain ⟨fs, h0⟩ := hInv.choose_spec.x
  refine V_aload_n 3 dL_law_866 rfl ?_
  refine Cp_L_134 h0 rfl ⟨Nat.le_of_ble_eq_true rfl, Nat.le_of_ble_eq_true rfl⟩ (h1) rfl (Nat.le_of_ble_eq_true rfl) dL_law_867 rfl (fun _ e2 => ?_)
  obtain ⟨⟨fs2, h96⟩, h3⟩ := h2 _ e2
  refine V_aload_n 2 dL_law_870 rfl ?_
  refine Cp_L_137 h96 rfl ⟨Nat.le_of_ble_eq_true rfl, Nat.le_of_ble_eq_true rfl⟩ (h3 _) rfl (Nat.le_of_ble_eq_true rfl) dL_law_871 rfl (fun _ h4 => ?_)
  refine V_icmp_eq (tgt := 1582) dL_law_874 (by decide) (fun c874 => ?_) (fun c874 => absurd rfl c874)
  refine V_lv (lv2 := [(4, .int _), (3, .ref _), (2, .ref _), (1, .ref _), (0, .ref _)]) [0, 1, 2, 3, 4] rfl ?_
  exact kk _ h4

set_option maxRecDepth 20000 in
theorem lc_restore {g : GE} {M : Mem} {sz kc ks : Nat} {Q : Ou → Mem → Prop} (i : Nat) (hi : i + 5 ≤ gN g) (hN : gN g ≤ 2560) (h : OPL g m_L_restore m_X9_restore [rf g 0, rf g 105] [rf g 96]) (hInv : ∃ th, Inv g M th) (kk : ∀ M1, (∃ th, Inv g M1 th) → V g m_L_law 1582 [(4, .int (nI i)), (3, rf g 105), (2, rf g 96), (1, rf g 0), (0, .ref (gS g))] [] M1 (sz + 1) kc ks Q) : V g m_L_law 879 [(4, .int (nI i)), (3, rf g 105), (2, rf g 96), (1, rf g 0), (0, .ref (gS g))] [] M sz (kc + 1) (ks + 6) Q := by
  refine V_aload_n 3 dL_law_879 rfl ?_
  refine V_aload_n 1 dL_law_880 rfl ?_
  obtain ⟨c, b, P1, hc, h1, h2⟩ := h  M sz hInv
  refine V_callSH (mt := m_L_law) (mc1 := 1) (ms1 := 6) h1 (fun E M h => nomatch h.1) (by decide) k_L_restore s_L_restore l_L_138 ⟨Nat.le_of_ble_eq_true rfl, Nat.le_of_ble_eq_true rfl⟩ rfl (Nat.le_of_ble_eq_true rfl) dL_law_881 rfl (fun v9 M1 hh => ?_)
  obtain ⟨e1, e2⟩ := hh
  cases e1
  obtain ⟨⟨fs, h96⟩, h3⟩ := h2 M1 e2
  refine V_istore (lv2 := [(5, .int _), (4, .int _), (3, .ref _), (2, .ref _), (1, .ref _), (0, .ref _)]) dL_law_884 (Nat.le_of_ble_eq_true rfl) rfl ?_
  refine V_aload_n 3 dL_law_886 rfl ?_
  refine Cp_L_140 h96 rfl ⟨Nat.le_of_ble_eq_true rfl, Nat.le_of_ble_eq_true rfl⟩ (h3 _) rfl (Nat.le_of_ble_eq_true rfl) dL_law_887 rfl (fun _ h4 => ?_)
  obtain ⟨hI2, o, ho, hob⟩ := h4
  obtain ⟨v, hv, hv3⟩ := hI2.th
  refine V_istore (lv2 := [(6, .int _), (5, .int _), (4, .int _), (3, .ref _), (2, .ref _), (1, .ref _), (0, .ref _)]) dL_law_890 (Nat.le_of_ble_eq_true rfl) rfl ?_
  refine V_pc (pc2 := 892) rfl ?_
  refine V_aload_n 4 dL_law_892 rfl ?_
  refine C_L_90 hv rfl ⟨Nat.le_of_ble_eq_true rfl, Nat.le_of_ble_eq_true rfl⟩ (r9_thrown hv) rfl (Nat.le_of_ble_eq_true rfl) dL_law_893 rfl ?_
  rw [hv3]
  refine V_iload 1 dL_law_896 rfl ?_
  refine V_icmp_eq (tgt := 903) dL_law_898 (by decide) (fun c898 => ?_) (fun c898 => absurd rfl c898)
  refine V_iload 1 dL_law_903 rfl ?_
  refine V_if_ne (tgt := 920) dL_law_905 (by decide) (fun c905 => ?_) (fun c905 => ?_)
  · refine V_goto (tgt := 1582) dL_law_920 (by decide) ?_
    refine V_lv (lv2 := [(4, .int _), (3, .ref _), (2, .ref _), (1, .ref _), (0, .ref _)]) [2, 3, 4, 5, 6] rfl ?_
    exact kk _ ⟨_, hI2⟩
  · refine V_aload_n 3 dL_law_908 rfl ?_
    refine V_iconst (v := 0) dL_law_909 rfl ?_
    refine V_lald ho (show vp_in (nI 0) 1 from vp_in_nI (by decide) (by decide)) dL_law_910 ?_
    refine V_iload 0 dL_law_911 rfl ?_
    refine V_i2l dL_law_913 ?_
    refine V_lcmp dL_law_914 ?_
    refine V_if_eq (tgt := 920) dL_law_915 (by decide) (fun c915 => ?_) (fun c915 => absurd (lgc_eq.mpr (hob ((nI_eq (b := 0) (by omega) (by decide)).mp c905))) c915)
    refine V_pc (pc2 := 920) rfl ?_
    refine V_goto (tgt := 1582) dL_law_920 (by decide) ?_
    refine V_lv (lv2 := [(4, .int _), (3, .ref _), (2, .ref _), (1, .ref _), (0, .ref _)]) [2, 3, 4, 5, 6] rfl ?_
    exact kk _ ⟨_, hI2⟩

set_option maxRecDepth 20000 in
theorem lc_tableOf {g : GE} {M : Mem} {sz kc ks : Nat} {Q : Ou → Mem → Prop} (i : Nat) (hi : i + 5 ≤ gN g) (hN : gN g ≤ 2560) (h : (∀ a b c : Int32, OPL g m_L_tableOf m_X9_tableOf [rf g 0, .int a, .int b, .int c, rf g 105] [rf g 96, .int a, .int b, .int c])) (hInv : ∃ th, Inv g M th) (kk : ∀ M1, (∃ th, Inv g M1 th) → V g m_L_law 1582 [(4, .int (nI i)), (3, rf g 105), (2, rf g 96), (1, rf g 0), (0, .ref (gS g))] [] M1 (sz + 1) kc ks Q) : V g m_L_law 923 [(4, .int (nI i)), (3, rf g 105), (2, rf g 96), (1, rf g 0), (0, .ref (gS g))] [] M sz (kc + 1) (ks + 6) Q := by
  refine V_aload_n 3 dL_law_923 rfl ?_
  refine V_aload_n 4 dL_law_924 rfl ?_
  refine V_iload 0 dL_law_925 rfl ?_
  refine V_iconst (v := 1) dL_law_927 rfl ?_
  refine V_iadd dL_law_928 ?_
  refine V_sld (sx1 (by omega) hN) dL_law_929 ?_
  refine V_aload_n 4 dL_law_930 rfl ?_
  refine V_pc (pc2 := 931) rfl ?_
  refine V_iload 0 dL_law_931 rfl ?_
  refine V_iconst (v := 2) dL_law_933 rfl ?_
  refine V_iadd dL_law_934 ?_
  refine V_sld (sx2 (by omega) hN) dL_law_935 ?_
  refine V_aload_n 4 dL_law_936 rfl ?_
  refine V_iload 0 dL_law_937 rfl ?_
  refine V_iconst (v := 3) dL_law_939 rfl ?_
  refine V_iadd dL_law_940 ?_
  refine V_pc (pc2 := 941) rfl ?_
  refine V_sld (sx3 (by omega) hN) dL_law_941 ?_
  refine V_aload_n 1 dL_law_942 rfl ?_
  obtain ⟨c, b, P1, hc, h1, h2⟩ := h (gx g (nI i + 1).toNatClampNeg) (gx g (nI i + 2).toNatClampNeg) (gx g (nI i + 3).toNatClampNeg) M sz hInv
  refine V_callSH (mt := m_L_law) (mc1 := 1) (ms1 := 6) h1 (fun E M h => nomatch h.1) (by decide) k_L_tableOf s_L_tableOf l_L_141 ⟨Nat.le_of_ble_eq_true rfl, Nat.le_of_ble_eq_true rfl⟩ rfl (Nat.le_of_ble_eq_true rfl) dL_law_943 rfl (fun v9 M1 hh => ?_)
  obtain ⟨e1, e2⟩ := hh
  cases e1
  obtain ⟨⟨fs, h96⟩, h3⟩ := h2 M1 e2
  refine V_istore (lv2 := [(5, .int _), (4, .int _), (3, .ref _), (2, .ref _), (1, .ref _), (0, .ref _)]) dL_law_946 (Nat.le_of_ble_eq_true rfl) rfl ?_
  refine V_aload_n 3 dL_law_948 rfl ?_
  refine V_aload_n 5 dL_law_949 rfl ?_
  refine V_iload 1 dL_law_950 rfl ?_
  refine V_iconst (v := 1) dL_law_952 rfl ?_
  refine V_pc (pc2 := 953) rfl ?_
  refine V_iadd dL_law_953 ?_
  refine V_sld (sx1 (by omega) hN) dL_law_954 ?_
  refine V_aload_n 5 dL_law_955 rfl ?_
  refine V_iload 1 dL_law_956 rfl ?_
  refine V_iconst (v := 2) dL_law_958 rfl ?_
  refine V_iadd dL_law_959 ?_
  refine V_sld (sx2 (by omega) hN) dL_law_960 ?_
  refine V_aload_n 5 dL_law_961 rfl ?_
  refine V_pc (pc2 := 962) rfl ?_
  refine V_iload 1 dL_law_962 rfl ?_
  refine V_iconst (v := 3) dL_law_964 rfl ?_
  refine V_iadd dL_law_965 ?_
  refine V_sld (sx3 (by omega) hN) dL_law_966 ?_
  refine Cp_L_144 h96 rfl ⟨Nat.le_of_ble_eq_true rfl, Nat.le_of_ble_eq_true rfl⟩ (h3 _) rfl (Nat.le_of_ble_eq_true rfl) dL_law_967 rfl (fun _ h4 => ?_)
  obtain ⟨hI2, o, ho, hob⟩ := h4
  obtain ⟨v, hv, hv3⟩ := hI2.th
  refine V_istore (lv2 := [(6, .int _), (5, .int _), (4, .int _), (3, .ref _), (2, .ref _), (1, .ref _), (0, .ref _)]) dL_law_970 (Nat.le_of_ble_eq_true rfl) rfl ?_
  refine V_aload_n 4 dL_law_972 rfl ?_
  refine C_L_90 hv rfl ⟨Nat.le_of_ble_eq_true rfl, Nat.le_of_ble_eq_true rfl⟩ (r9_thrown hv) rfl (Nat.le_of_ble_eq_true rfl) dL_law_973 rfl ?_
  rw [hv3]
  refine V_pc (pc2 := 976) rfl ?_
  refine V_iload 1 dL_law_976 rfl ?_
  refine V_icmp_eq (tgt := 983) dL_law_978 (by decide) (fun c978 => ?_) (fun c978 => absurd rfl c978)
  refine V_iload 1 dL_law_983 rfl ?_
  refine V_if_ne (tgt := 1000) dL_law_985 (by decide) (fun c985 => ?_) (fun c985 => ?_)
  · refine V_goto (tgt := 1582) dL_law_1000 (by decide) ?_
    refine V_lv (lv2 := [(4, .int _), (3, .ref _), (2, .ref _), (1, .ref _), (0, .ref _)]) [2, 3, 4, 5, 6] rfl ?_
    exact kk _ ⟨_, hI2⟩
  · refine V_aload_n 3 dL_law_988 rfl ?_
    refine V_iconst (v := 0) dL_law_989 rfl ?_
    refine V_lald ho (show vp_in (nI 0) 1 from vp_in_nI (by decide) (by decide)) dL_law_990 ?_
    refine V_iload 0 dL_law_991 rfl ?_
    refine V_i2l dL_law_993 ?_
    refine V_lcmp dL_law_994 ?_
    refine V_if_eq (tgt := 1000) dL_law_995 (by decide) (fun c995 => ?_) (fun c995 => absurd (lgc_eq.mpr (hob ((nI_eq (b := 0) (by omega) (by decide)).mp c985))) c995)
    refine V_pc (pc2 := 1000) rfl ?_
    refine V_goto (tgt := 1582) dL_law_1000 (by decide) ?_
    refine V_lv (lv2 := [(4, .int _), (3, .ref _), (2, .ref _), (1, .ref _), (0, .ref _)]) [2, 3, 4, 5, 6] rfl ?_
    exact kk _ ⟨_, hI2⟩

set_option maxRecDepth 20000 in
theorem lc_ring {g : GE} {M : Mem} {sz kc ks : Nat} {Q : Ou → Mem → Prop} (i : Nat) (hi : i + 5 ≤ gN g) (hN : gN g ≤ 2560) (h : (∀ a b : Int32, OPL g m_L_ring m_X9_ring [rf g 0, .int a, .int b, rf g 105] [rf g 96, .int a, .int b])) (hInv : ∃ th, Inv g M th) (kk : ∀ M1, (∃ th, Inv g M1 th) → V g m_L_law 1582 [(4, .int (nI i)), (3, rf g 105), (2, rf g 96), (1, rf g 0), (0, .ref (gS g))] [] M1 (sz + 1) kc ks Q) : V g m_L_law 1003 [(4, .int (nI i)), (3, rf g 105), (2, rf g 96), (1, rf g 0), (0, .ref (gS g))] [] M sz (kc + 1) (ks + 6) Q := by
  refine V_aload_n 3 dL_law_1003 rfl ?_
  refine V_aload_n 4 dL_law_1004 rfl ?_
  refine V_iload 0 dL_law_1005 rfl ?_
  refine V_iconst (v := 1) dL_law_1007 rfl ?_
  refine V_iadd dL_law_1008 ?_
  refine V_sld (sx1 (by omega) hN) dL_law_1009 ?_
  refine V_aload_n 4 dL_law_1010 rfl ?_
  refine V_pc (pc2 := 1011) rfl ?_
  refine V_iload 0 dL_law_1011 rfl ?_
  refine V_iconst (v := 2) dL_law_1013 rfl ?_
  refine V_iadd dL_law_1014 ?_
  refine V_sld (sx2 (by omega) hN) dL_law_1015 ?_
  refine V_aload_n 1 dL_law_1016 rfl ?_
  obtain ⟨c, b, P1, hc, h1, h2⟩ := h (gx g (nI i + 1).toNatClampNeg) (gx g (nI i + 2).toNatClampNeg) M sz hInv
  refine V_callSH (mt := m_L_law) (mc1 := 1) (ms1 := 6) h1 (fun E M h => nomatch h.1) (by decide) k_L_ring s_L_ring l_L_145 ⟨Nat.le_of_ble_eq_true rfl, Nat.le_of_ble_eq_true rfl⟩ rfl (Nat.le_of_ble_eq_true rfl) dL_law_1017 rfl (fun v9 M1 hh => ?_)
  obtain ⟨e1, e2⟩ := hh
  cases e1
  obtain ⟨⟨fs, h96⟩, h3⟩ := h2 M1 e2
  refine V_istore (lv2 := [(5, .int _), (4, .int _), (3, .ref _), (2, .ref _), (1, .ref _), (0, .ref _)]) dL_law_1020 (Nat.le_of_ble_eq_true rfl) rfl ?_
  refine V_aload_n 3 dL_law_1022 rfl ?_
  refine V_pc (pc2 := 1023) rfl ?_
  refine V_aload_n 5 dL_law_1023 rfl ?_
  refine V_iload 1 dL_law_1024 rfl ?_
  refine V_iconst (v := 1) dL_law_1026 rfl ?_
  refine V_iadd dL_law_1027 ?_
  refine V_sld (sx1 (by omega) hN) dL_law_1028 ?_
  refine V_aload_n 5 dL_law_1029 rfl ?_
  refine V_iload 1 dL_law_1030 rfl ?_
  refine V_iconst (v := 2) dL_law_1032 rfl ?_
  refine V_pc (pc2 := 1033) rfl ?_
  refine V_iadd dL_law_1033 ?_
  refine V_sld (sx2 (by omega) hN) dL_law_1034 ?_
  refine Cp_L_147 h96 rfl ⟨Nat.le_of_ble_eq_true rfl, Nat.le_of_ble_eq_true rfl⟩ (h3 _) rfl (Nat.le_of_ble_eq_true rfl) dL_law_1035 rfl (fun _ h4 => ?_)
  obtain ⟨hI2, o, ho, hob⟩ := h4
  obtain ⟨v, hv, hv3⟩ := hI2.th
  refine V_istore (lv2 := [(6, .int _), (5, .int _), (4, .int _), (3, .ref _), (2, .ref _), (1, .ref _), (0, .ref _)]) dL_law_1038 (Nat.le_of_ble_eq_true rfl) rfl ?_
  refine V_aload_n 4 dL_law_1040 rfl ?_
  refine C_L_90 hv rfl ⟨Nat.le_of_ble_eq_true rfl, Nat.le_of_ble_eq_true rfl⟩ (r9_thrown hv) rfl (Nat.le_of_ble_eq_true rfl) dL_law_1041 rfl ?_
  rw [hv3]
  refine V_iload 1 dL_law_1044 rfl ?_
  refine V_icmp_eq (tgt := 1051) dL_law_1046 (by decide) (fun c1046 => ?_) (fun c1046 => absurd rfl c1046)
  refine V_pc (pc2 := 1051) rfl ?_
  refine V_iload 1 dL_law_1051 rfl ?_
  refine V_if_ne (tgt := 1068) dL_law_1053 (by decide) (fun c1053 => ?_) (fun c1053 => ?_)
  · refine V_goto (tgt := 1582) dL_law_1068 (by decide) ?_
    refine V_lv (lv2 := [(4, .int _), (3, .ref _), (2, .ref _), (1, .ref _), (0, .ref _)]) [2, 3, 4, 5, 6] rfl ?_
    exact kk _ ⟨_, hI2⟩
  · refine V_aload_n 3 dL_law_1056 rfl ?_
    refine V_iconst (v := 0) dL_law_1057 rfl ?_
    refine V_lald ho (show vp_in (nI 0) 1 from vp_in_nI (by decide) (by decide)) dL_law_1058 ?_
    refine V_iload 0 dL_law_1059 rfl ?_
    refine V_i2l dL_law_1061 ?_
    refine V_lcmp dL_law_1062 ?_
    refine V_if_eq (tgt := 1068) dL_law_1063 (by decide) (fun c1063 => ?_) (fun c1063 => absurd (lgc_eq.mpr (hob ((nI_eq (b := 0) (by omega) (by decide)).mp c1053))) c1063)
    refine V_pc (pc2 := 1068) rfl ?_
    refine V_goto (tgt := 1582) dL_law_1068 (by decide) ?_
    refine V_lv (lv2 := [(4, .int _), (3, .ref _), (2, .ref _), (1, .ref _), (0, .ref _)]) [2, 3, 4, 5, 6] rfl ?_
    exact kk _ ⟨_, hI2⟩

set_option maxRecDepth 20000 in
theorem lc_boltOf {g : GE} {M : Mem} {sz kc ks : Nat} {Q : Ou → Mem → Prop} (i : Nat) (hi : i + 5 ≤ gN g) (hN : gN g ≤ 2560) (h : (∀ a b : Int32, OPL g m_L_boltOf m_X9_boltOf [rf g 0, .int a, .int b, rf g 105] [rf g 96, .int a, .int b])) (hInv : ∃ th, Inv g M th) (kk : ∀ M1, (∃ th, Inv g M1 th) → V g m_L_law 1582 [(4, .int (nI i)), (3, rf g 105), (2, rf g 96), (1, rf g 0), (0, .ref (gS g))] [] M1 (sz + 1) kc ks Q) : V g m_L_law 1071 [(4, .int (nI i)), (3, rf g 105), (2, rf g 96), (1, rf g 0), (0, .ref (gS g))] [] M sz (kc + 1) (ks + 6) Q := by
  refine V_aload_n 3 dL_law_1071 rfl ?_
  refine V_aload_n 4 dL_law_1072 rfl ?_
  refine V_iload 0 dL_law_1073 rfl ?_
  refine V_iconst (v := 1) dL_law_1075 rfl ?_
  refine V_iadd dL_law_1076 ?_
  refine V_sld (sx1 (by omega) hN) dL_law_1077 ?_
  refine V_aload_n 4 dL_law_1078 rfl ?_
  refine V_pc (pc2 := 1079) rfl ?_
  refine V_iload 0 dL_law_1079 rfl ?_
  refine V_iconst (v := 2) dL_law_1081 rfl ?_
  refine V_iadd dL_law_1082 ?_
  refine V_sld (sx2 (by omega) hN) dL_law_1083 ?_
  refine V_aload_n 1 dL_law_1084 rfl ?_
  obtain ⟨c, b, P1, hc, h1, h2⟩ := h (gx g (nI i + 1).toNatClampNeg) (gx g (nI i + 2).toNatClampNeg) M sz hInv
  refine V_callSH (mt := m_L_law) (mc1 := 1) (ms1 := 6) h1 (fun E M h => nomatch h.1) (by decide) k_L_boltOf s_L_boltOf l_L_148 ⟨Nat.le_of_ble_eq_true rfl, Nat.le_of_ble_eq_true rfl⟩ rfl (Nat.le_of_ble_eq_true rfl) dL_law_1085 rfl (fun v9 M1 hh => ?_)
  obtain ⟨e1, e2⟩ := hh
  cases e1
  obtain ⟨⟨fs, h96⟩, h3⟩ := h2 M1 e2
  refine V_istore (lv2 := [(5, .int _), (4, .int _), (3, .ref _), (2, .ref _), (1, .ref _), (0, .ref _)]) dL_law_1088 (Nat.le_of_ble_eq_true rfl) rfl ?_
  refine V_aload_n 3 dL_law_1090 rfl ?_
  refine V_pc (pc2 := 1091) rfl ?_
  refine V_aload_n 5 dL_law_1091 rfl ?_
  refine V_iload 1 dL_law_1092 rfl ?_
  refine V_iconst (v := 1) dL_law_1094 rfl ?_
  refine V_iadd dL_law_1095 ?_
  refine V_sld (sx1 (by omega) hN) dL_law_1096 ?_
  refine V_aload_n 5 dL_law_1097 rfl ?_
  refine V_iload 1 dL_law_1098 rfl ?_
  refine V_iconst (v := 2) dL_law_1100 rfl ?_
  refine V_pc (pc2 := 1101) rfl ?_
  refine V_iadd dL_law_1101 ?_
  refine V_sld (sx2 (by omega) hN) dL_law_1102 ?_
  refine Cp_L_150 h96 rfl ⟨Nat.le_of_ble_eq_true rfl, Nat.le_of_ble_eq_true rfl⟩ (h3 _) rfl (Nat.le_of_ble_eq_true rfl) dL_law_1103 rfl (fun _ h4 => ?_)
  obtain ⟨hI2, o, ho, hob⟩ := h4
  obtain ⟨v, hv, hv3⟩ := hI2.th
  refine V_istore (lv2 := [(6, .int _), (5, .int _), (4, .int _), (3, .ref _), (2, .ref _), (1, .ref _), (0, .ref _)]) dL_law_1106 (Nat.le_of_ble_eq_true rfl) rfl ?_
  refine V_aload_n 4 dL_law_1108 rfl ?_
  refine C_L_90 hv rfl ⟨Nat.le_of_ble_eq_true rfl, Nat.le_of_ble_eq_true rfl⟩ (r9_thrown hv) rfl (Nat.le_of_ble_eq_true rfl) dL_law_1109 rfl ?_
  rw [hv3]
  refine V_iload 1 dL_law_1112 rfl ?_
  refine V_icmp_eq (tgt := 1119) dL_law_1114 (by decide) (fun c1114 => ?_) (fun c1114 => absurd rfl c1114)
  refine V_pc (pc2 := 1119) rfl ?_
  refine V_iload 1 dL_law_1119 rfl ?_
  refine V_if_ne (tgt := 1136) dL_law_1121 (by decide) (fun c1121 => ?_) (fun c1121 => ?_)
  · refine V_goto (tgt := 1582) dL_law_1136 (by decide) ?_
    refine V_lv (lv2 := [(4, .int _), (3, .ref _), (2, .ref _), (1, .ref _), (0, .ref _)]) [2, 3, 4, 5, 6] rfl ?_
    exact kk _ ⟨_, hI2⟩
  · refine V_aload_n 3 dL_law_1124 rfl ?_
    refine V_iconst (v := 0) dL_law_1125 rfl ?_
    refine V_lald ho (show vp_in (nI 0) 1 from vp_in_nI (by decide) (by decide)) dL_law_1126 ?_
    refine V_iload 0 dL_law_1127 rfl ?_
    refine V_i2l dL_law_1129 ?_
    refine V_lcmp dL_law_1130 ?_
    refine V_if_eq (tgt := 1136) dL_law_1131 (by decide) (fun c1131 => ?_) (fun c1131 => absurd (lgc_eq.mpr (hob ((nI_eq (b := 0) (by omega) (by decide)).mp c1121))) c1131)
    refine V_pc (pc2 := 1136) rfl ?_
    refine V_goto (tgt := 1582) dL_law_1136 (by decide) ?_
    refine V_lv (lv2 := [(4, .int _), (3, .ref _), (2, .ref _), (1, .ref _), (0, .ref _)]) [2, 3, 4, 5, 6] rfl ?_
    exact kk _ ⟨_, hI2⟩

set_option maxRecDepth 20000 in
theorem lc_count {g : GE} {M : Mem} {sz kc ks : Nat} {Q : Ou → Mem → Prop} (i : Nat) (hi : i + 5 ≤ gN g) (hN : gN g ≤ 2560) (h : (∀ a : Int32, OPL g m_L_count m_X9_count [rf g 0, .int a, rf g 105] [rf g 96, .int a])) (hInv : ∃ th, Inv g M th) (kk : ∀ M1, (∃ th, Inv g M1 th) → V g m_L_law 1582 [(4, .int (nI i)), (3, rf g 105), (2, rf g 96), (1, rf g 0), (0, .ref (gS g))] [] M1 (sz + 1) kc ks Q) : V g m_L_law 1139 [(4, .int (nI i)), (3, rf g 105), (2, rf g 96), (1, rf g 0), (0, .ref (gS g))] [] M sz (kc + 1) (ks + 6) Q := by
  refine V_aload_n 3 dL_law_1139 rfl ?_
  refine V_aload_n 4 dL_law_1140 rfl ?_
  refine V_iload 0 dL_law_1141 rfl ?_
  refine V_iconst (v := 1) dL_law_1143 rfl ?_
  refine V_iadd dL_law_1144 ?_
  refine V_sld (sx1 (by omega) hN) dL_law_1145 ?_
  refine V_aload_n 1 dL_law_1146 rfl ?_
  refine V_pc (pc2 := 1147) rfl ?_
  obtain ⟨c, b, P1, hc, h1, h2⟩ := h (gx g (nI i + 1).toNatClampNeg) M sz hInv
  refine V_callSH (mt := m_L_law) (mc1 := 1) (ms1 := 6) h1 (fun E M h => nomatch h.1) (by decide) k_L_count s_L_count l_L_151 ⟨Nat.le_of_ble_eq_true rfl, Nat.le_of_ble_eq_true rfl⟩ rfl (Nat.le_of_ble_eq_true rfl) dL_law_1147 rfl (fun v9 M1 hh => ?_)
  obtain ⟨e1, e2⟩ := hh
  cases e1
  obtain ⟨⟨fs, h96⟩, h3⟩ := h2 M1 e2
  refine V_istore (lv2 := [(5, .int _), (4, .int _), (3, .ref _), (2, .ref _), (1, .ref _), (0, .ref _)]) dL_law_1150 (Nat.le_of_ble_eq_true rfl) rfl ?_
  refine V_aload_n 3 dL_law_1152 rfl ?_
  refine V_aload_n 5 dL_law_1153 rfl ?_
  refine V_iload 1 dL_law_1154 rfl ?_
  refine V_iconst (v := 1) dL_law_1156 rfl ?_
  refine V_iadd dL_law_1157 ?_
  refine V_sld (sx1 (by omega) hN) dL_law_1158 ?_
  refine V_pc (pc2 := 1159) rfl ?_
  refine Cp_L_153 h96 rfl ⟨Nat.le_of_ble_eq_true rfl, Nat.le_of_ble_eq_true rfl⟩ (h3 _) rfl (Nat.le_of_ble_eq_true rfl) dL_law_1159 rfl (fun _ h4 => ?_)
  obtain ⟨hI2, o, ho, hob⟩ := h4
  obtain ⟨v, hv, hv3⟩ := hI2.th
  refine V_istore (lv2 := [(6, .int _), (5, .int _), (4, .int _), (3, .ref _), (2, .ref _), (1, .ref _), (0, .ref _)]) dL_law_1162 (Nat.le_of_ble_eq_true rfl) rfl ?_
  refine V_aload_n 4 dL_law_1164 rfl ?_
  refine C_L_90 hv rfl ⟨Nat.le_of_ble_eq_true rfl, Nat.le_of_ble_eq_true rfl⟩ (r9_thrown hv) rfl (Nat.le_of_ble_eq_true rfl) dL_law_1165 rfl ?_
  rw [hv3]
  refine V_iload 1 dL_law_1168 rfl ?_
  refine V_icmp_eq (tgt := 1175) dL_law_1170 (by decide) (fun c1170 => ?_) (fun c1170 => absurd rfl c1170)
  refine V_iload 1 dL_law_1175 rfl ?_
  refine V_if_ne (tgt := 1192) dL_law_1177 (by decide) (fun c1177 => ?_) (fun c1177 => ?_)
  · refine V_goto (tgt := 1582) dL_law_1192 (by decide) ?_
    refine V_lv (lv2 := [(4, .int _), (3, .ref _), (2, .ref _), (1, .ref _), (0, .ref _)]) [2, 3, 4, 5, 6] rfl ?_
    exact kk _ ⟨_, hI2⟩
  · refine V_aload_n 3 dL_law_1180 rfl ?_
    refine V_iconst (v := 0) dL_law_1181 rfl ?_
    refine V_lald ho (show vp_in (nI 0) 1 from vp_in_nI (by decide) (by decide)) dL_law_1182 ?_
    refine V_iload 0 dL_law_1183 rfl ?_
    refine V_i2l dL_law_1185 ?_
    refine V_lcmp dL_law_1186 ?_
    refine V_if_eq (tgt := 1192) dL_law_1187 (by decide) (fun c1187 => ?_) (fun c1187 => absurd (lgc_eq.mpr (hob ((nI_eq (b := 0) (by omega) (by decide)).mp c1177))) c1187)
    refine V_pc (pc2 := 1192) rfl ?_
    refine V_goto (tgt := 1582) dL_law_1192 (by decide) ?_
    refine V_lv (lv2 := [(4, .int _), (3, .ref _), (2, .ref _), (1, .ref _), (0, .ref _)]) [2, 3, 4, 5, 6] rfl ?_
    exact kk _ ⟨_, hI2⟩

set_option maxRecDepth 20000 in
theorem lc_offBy {g : GE} {M : Mem} {sz kc ks : Nat} {Q : Ou → Mem → Prop} (i : Nat) (hi : i + 5 ≤ gN g) (hN : gN g ≤ 2560) (h : (∀ a b c d : Int32, OPL g m_L_offBy m_X9_offBy [rf g 0, .int a, .int b, .int c, .int d, rf g 105] [rf g 96, .int a, .int b, .int c, .int d])) (hInv : ∃ th, Inv g M th) (kk : ∀ M1, (∃ th, Inv g M1 th) → V g m_L_law 1582 [(4, .int (nI i)), (3, rf g 105), (2, rf g 96), (1, rf g 0), (0, .ref (gS g))] [] M1 (sz + 1) kc ks Q) : V g m_L_law 1195 [(4, .int (nI i)), (3, rf g 105), (2, rf g 96), (1, rf g 0), (0, .ref (gS g))] [] M sz (kc + 1) (ks + 6) Q := by
  refine V_aload_n 3 dL_law_1195 rfl ?_
  refine V_aload_n 4 dL_law_1196 rfl ?_
  refine V_iload 0 dL_law_1197 rfl ?_
  refine V_iconst (v := 1) dL_law_1199 rfl ?_
  refine V_iadd dL_law_1200 ?_
  refine V_sld (sx1 (by omega) hN) dL_law_1201 ?_
  refine V_aload_n 4 dL_law_1202 rfl ?_
  refine V_pc (pc2 := 1203) rfl ?_
  refine V_iload 0 dL_law_1203 rfl ?_
  refine V_iconst (v := 2) dL_law_1205 rfl ?_
  refine V_iadd dL_law_1206 ?_
  refine V_sld (sx2 (by omega) hN) dL_law_1207 ?_
  refine V_aload_n 4 dL_law_1208 rfl ?_
  refine V_iload 0 dL_law_1209 rfl ?_
  refine V_iconst (v := 3) dL_law_1211 rfl ?_
  refine V_iadd dL_law_1212 ?_
  refine V_pc (pc2 := 1213) rfl ?_
  refine V_sld (sx3 (by omega) hN) dL_law_1213 ?_
  refine V_aload_n 4 dL_law_1214 rfl ?_
  refine V_iload 0 dL_law_1215 rfl ?_
  refine V_iconst (v := 4) dL_law_1217 rfl ?_
  refine V_iadd dL_law_1218 ?_
  refine V_sld (sx4 (by omega) hN) dL_law_1219 ?_
  refine V_aload_n 1 dL_law_1220 rfl ?_
  obtain ⟨c, b, P1, hc, h1, h2⟩ := h (gx g (nI i + 1).toNatClampNeg) (gx g (nI i + 2).toNatClampNeg) (gx g (nI i + 3).toNatClampNeg) (gx g (nI i + 4).toNatClampNeg) M sz hInv
  refine V_callSH (mt := m_L_law) (mc1 := 1) (ms1 := 6) h1 (fun E M h => nomatch h.1) (by decide) k_L_offBy s_L_offBy l_L_154 ⟨Nat.le_of_ble_eq_true rfl, Nat.le_of_ble_eq_true rfl⟩ rfl (Nat.le_of_ble_eq_true rfl) dL_law_1221 rfl (fun v9 M1 hh => ?_)
  obtain ⟨e1, e2⟩ := hh
  cases e1
  obtain ⟨⟨fs, h96⟩, h3⟩ := h2 M1 e2
  refine V_pc (pc2 := 1224) rfl ?_
  refine V_istore (lv2 := [(5, .int _), (4, .int _), (3, .ref _), (2, .ref _), (1, .ref _), (0, .ref _)]) dL_law_1224 (Nat.le_of_ble_eq_true rfl) rfl ?_
  refine V_aload_n 3 dL_law_1226 rfl ?_
  refine V_aload_n 5 dL_law_1227 rfl ?_
  refine V_iload 1 dL_law_1228 rfl ?_
  refine V_iconst (v := 1) dL_law_1230 rfl ?_
  refine V_iadd dL_law_1231 ?_
  refine V_sld (sx1 (by omega) hN) dL_law_1232 ?_
  refine V_aload_n 5 dL_law_1233 rfl ?_
  refine V_pc (pc2 := 1234) rfl ?_
  refine V_iload 1 dL_law_1234 rfl ?_
  refine V_iconst (v := 2) dL_law_1236 rfl ?_
  refine V_iadd dL_law_1237 ?_
  refine V_sld (sx2 (by omega) hN) dL_law_1238 ?_
  refine V_aload_n 5 dL_law_1239 rfl ?_
  refine V_iload 1 dL_law_1240 rfl ?_
  refine V_iconst (v := 3) dL_law_1242 rfl ?_
  refine V_iadd dL_law_1243 ?_
  refine V_pc (pc2 := 1244) rfl ?_
  refine V_sld (sx3 (by omega) hN) dL_law_1244 ?_
  refine V_aload_n 5 dL_law_1245 rfl ?_
  refine V_iload 1 dL_law_1246 rfl ?_
  refine V_iconst (v := 4) dL_law_1248 rfl ?_
  refine V_iadd dL_law_1249 ?_
  refine V_sld (sx4 (by omega) hN) dL_law_1250 ?_
  refine Cp_L_156 h96 rfl ⟨Nat.le_of_ble_eq_true rfl, Nat.le_of_ble_eq_true rfl⟩ (h3 _) rfl (Nat.le_of_ble_eq_true rfl) dL_law_1251 rfl (fun _ h4 => ?_)
  obtain ⟨hI2, o, ho, hob⟩ := h4
  obtain ⟨v, hv, hv3⟩ := hI2.th
  refine V_istore (lv2 := [(6, .int _), (5, .int _), (4, .int _), (3, .ref _), (2, .ref _), (1, .ref _), (0, .ref _)]) dL_law_1254 (Nat.le_of_ble_eq_true rfl) rfl ?_
  refine V_pc (pc2 := 1256) rfl ?_
  refine V_aload_n 4 dL_law_1256 rfl ?_
  refine C_L_90 hv rfl ⟨Nat.le_of_ble_eq_true rfl, Nat.le_of_ble_eq_true rfl⟩ (r9_thrown hv) rfl (Nat.le_of_ble_eq_true rfl) dL_law_1257 rfl ?_
  rw [hv3]
  refine V_iload 1 dL_law_1260 rfl ?_
  refine V_icmp_eq (tgt := 1267) dL_law_1262 (by decide) (fun c1262 => ?_) (fun c1262 => absurd rfl c1262)
  refine V_iload 1 dL_law_1267 rfl ?_
  refine V_if_ne (tgt := 1284) dL_law_1269 (by decide) (fun c1269 => ?_) (fun c1269 => ?_)
  · refine V_goto (tgt := 1582) dL_law_1284 (by decide) ?_
    refine V_lv (lv2 := [(4, .int _), (3, .ref _), (2, .ref _), (1, .ref _), (0, .ref _)]) [2, 3, 4, 5, 6] rfl ?_
    exact kk _ ⟨_, hI2⟩
  · refine V_aload_n 3 dL_law_1272 rfl ?_
    refine V_iconst (v := 0) dL_law_1273 rfl ?_
    refine V_lald ho (show vp_in (nI 0) 1 from vp_in_nI (by decide) (by decide)) dL_law_1274 ?_
    refine V_iload 0 dL_law_1275 rfl ?_
    refine V_i2l dL_law_1277 ?_
    refine V_lcmp dL_law_1278 ?_
    refine V_if_eq (tgt := 1284) dL_law_1279 (by decide) (fun c1279 => ?_) (fun c1279 => absurd (lgc_eq.mpr (hob ((nI_eq (b := 0) (by omega) (by decide)).mp c1269))) c1279)
    refine V_pc (pc2 := 1284) rfl ?_
    refine V_goto (tgt := 1582) dL_law_1284 (by decide) ?_
    refine V_lv (lv2 := [(4, .int _), (3, .ref _), (2, .ref _), (1, .ref _), (0, .ref _)]) [2, 3, 4, 5, 6] rfl ?_
    exact kk _ ⟨_, hI2⟩

set_option maxRecDepth 20000 in
theorem lc_turned {g : GE} {M : Mem} {sz kc ks : Nat} {Q : Ou → Mem → Prop} (i : Nat) (hi : i + 5 ≤ gN g) (hN : gN g ≤ 2560) (h : (∀ a b c : Int32, OPL g m_L_turned m_X9_turned [rf g 0, .int a, .int b, .int c, rf g 105] [rf g 96, .int a, .int b, .int c])) (hInv : ∃ th, Inv g M th) (kk : ∀ M1, (∃ th, Inv g M1 th) → V g m_L_law 1582 [(4, .int (nI i)), (3, rf g 105), (2, rf g 96), (1, rf g 0), (0, .ref (gS g))] [] M1 (sz + 1) kc ks Q) : V g m_L_law 1287 [(4, .int (nI i)), (3, rf g 105), (2, rf g 96), (1, rf g 0), (0, .ref (gS g))] [] M sz (kc + 1) (ks + 6) Q := by
  refine V_aload_n 3 dL_law_1287 rfl ?_
  refine V_aload_n 4 dL_law_1288 rfl ?_
  refine V_iload 0 dL_law_1289 rfl ?_
  refine V_iconst (v := 1) dL_law_1291 rfl ?_
  refine V_iadd dL_law_1292 ?_
  refine V_sld (sx1 (by omega) hN) dL_law_1293 ?_
  refine V_aload_n 4 dL_law_1294 rfl ?_
  refine V_pc (pc2 := 1295) rfl ?_
  refine V_iload 0 dL_law_1295 rfl ?_
  refine V_iconst (v := 2) dL_law_1297 rfl ?_
  refine V_iadd dL_law_1298 ?_
  refine V_sld (sx2 (by omega) hN) dL_law_1299 ?_
  refine V_aload_n 4 dL_law_1300 rfl ?_
  refine V_iload 0 dL_law_1301 rfl ?_
  refine V_iconst (v := 3) dL_law_1303 rfl ?_
  refine V_iadd dL_law_1304 ?_
  refine V_pc (pc2 := 1305) rfl ?_
  refine V_sld (sx3 (by omega) hN) dL_law_1305 ?_
  refine V_aload_n 1 dL_law_1306 rfl ?_
  obtain ⟨c, b, P1, hc, h1, h2⟩ := h (gx g (nI i + 1).toNatClampNeg) (gx g (nI i + 2).toNatClampNeg) (gx g (nI i + 3).toNatClampNeg) M sz hInv
  refine V_callSH (mt := m_L_law) (mc1 := 1) (ms1 := 6) h1 (fun E M h => nomatch h.1) (by decide) k_L_turned s_L_turned l_L_157 ⟨Nat.le_of_ble_eq_true rfl, Nat.le_of_ble_eq_true rfl⟩ rfl (Nat.le_of_ble_eq_true rfl) dL_law_1307 rfl (fun v9 M1 hh => ?_)
  obtain ⟨e1, e2⟩ := hh
  cases e1
  obtain ⟨⟨fs, h96⟩, h3⟩ := h2 M1 e2
  refine V_istore (lv2 := [(5, .int _), (4, .int _), (3, .ref _), (2, .ref _), (1, .ref _), (0, .ref _)]) dL_law_1310 (Nat.le_of_ble_eq_true rfl) rfl ?_
  refine V_aload_n 3 dL_law_1312 rfl ?_
  refine V_aload_n 5 dL_law_1313 rfl ?_
  refine V_iload 1 dL_law_1314 rfl ?_
  refine V_iconst (v := 1) dL_law_1316 rfl ?_
  refine V_pc (pc2 := 1317) rfl ?_
  refine V_iadd dL_law_1317 ?_
  refine V_sld (sx1 (by omega) hN) dL_law_1318 ?_
  refine V_aload_n 5 dL_law_1319 rfl ?_
  refine V_iload 1 dL_law_1320 rfl ?_
  refine V_iconst (v := 2) dL_law_1322 rfl ?_
  refine V_iadd dL_law_1323 ?_
  refine V_sld (sx2 (by omega) hN) dL_law_1324 ?_
  refine V_aload_n 5 dL_law_1325 rfl ?_
  refine V_pc (pc2 := 1326) rfl ?_
  refine V_iload 1 dL_law_1326 rfl ?_
  refine V_iconst (v := 3) dL_law_1328 rfl ?_
  refine V_iadd dL_law_1329 ?_
  refine V_sld (sx3 (by omega) hN) dL_law_1330 ?_
  refine Cp_L_159 h96 rfl ⟨Nat.le_of_ble_eq_true rfl, Nat.le_of_ble_eq_true rfl⟩ (h3 _) rfl (Nat.le_of_ble_eq_true rfl) dL_law_1331 rfl (fun _ h4 => ?_)
  obtain ⟨hI2, o, ho, hob⟩ := h4
  obtain ⟨v, hv, hv3⟩ := hI2.th
  refine V_istore (lv2 := [(6, .int _), (5, .int _), (4, .int _), (3, .ref _), (2, .ref _), (1, .ref _), (0, .ref _)]) dL_law_1334 (Nat.le_of_ble_eq_true rfl) rfl ?_
  refine V_aload_n 4 dL_law_1336 rfl ?_
  refine C_L_90 hv rfl ⟨Nat.le_of_ble_eq_true rfl, Nat.le_of_ble_eq_true rfl⟩ (r9_thrown hv) rfl (Nat.le_of_ble_eq_true rfl) dL_law_1337 rfl ?_
  rw [hv3]
  refine V_pc (pc2 := 1340) rfl ?_
  refine V_iload 1 dL_law_1340 rfl ?_
  refine V_icmp_eq (tgt := 1347) dL_law_1342 (by decide) (fun c1342 => ?_) (fun c1342 => absurd rfl c1342)
  refine V_iload 1 dL_law_1347 rfl ?_
  refine V_if_ne (tgt := 1364) dL_law_1349 (by decide) (fun c1349 => ?_) (fun c1349 => ?_)
  · refine V_goto (tgt := 1582) dL_law_1364 (by decide) ?_
    refine V_lv (lv2 := [(4, .int _), (3, .ref _), (2, .ref _), (1, .ref _), (0, .ref _)]) [2, 3, 4, 5, 6] rfl ?_
    exact kk _ ⟨_, hI2⟩
  · refine V_aload_n 3 dL_law_1352 rfl ?_
    refine V_iconst (v := 0) dL_law_1353 rfl ?_
    refine V_lald ho (show vp_in (nI 0) 1 from vp_in_nI (by decide) (by decide)) dL_law_1354 ?_
    refine V_iload 0 dL_law_1355 rfl ?_
    refine V_i2l dL_law_1357 ?_
    refine V_lcmp dL_law_1358 ?_
    refine V_if_eq (tgt := 1364) dL_law_1359 (by decide) (fun c1359 => ?_) (fun c1359 => absurd (lgc_eq.mpr (hob ((nI_eq (b := 0) (by omega) (by decide)).mp c1349))) c1359)
    refine V_pc (pc2 := 1364) rfl ?_
    refine V_goto (tgt := 1582) dL_law_1364 (by decide) ?_
    refine V_lv (lv2 := [(4, .int _), (3, .ref _), (2, .ref _), (1, .ref _), (0, .ref _)]) [2, 3, 4, 5, 6] rfl ?_
    exact kk _ ⟨_, hI2⟩

set_option maxRecDepth 20000 in
theorem lc_bestWay {g : GE} {M : Mem} {sz kc ks : Nat} {Q : Ou → Mem → Prop} (i : Nat) (hi : i + 5 ≤ gN g) (hN : gN g ≤ 2560) (h : (∀ a b c : Int32, OPL g m_L_bestWay m_X9_bestWay [rf g 0, .int a, .int b, .int c, rf g 105] [rf g 96, .int a, .int b, .int c])) (hInv : ∃ th, Inv g M th) (kk : ∀ M1, (∃ th, Inv g M1 th) → V g m_L_law 1582 [(4, .int (nI i)), (3, rf g 105), (2, rf g 96), (1, rf g 0), (0, .ref (gS g))] [] M1 (sz + 1) kc ks Q) : V g m_L_law 1367 [(4, .int (nI i)), (3, rf g 105), (2, rf g 96), (1, rf g 0), (0, .ref (gS g))] [] M sz (kc + 1) (ks + 6) Q := by
  refine V_aload_n 3 dL_law_1367 rfl ?_
  refine V_aload_n 4 dL_law_1368 rfl ?_
  refine V_iload 0 dL_law_1369 rfl ?_
  refine V_iconst (v := 1) dL_law_1371 rfl ?_
  refine V_iadd dL_law_1372 ?_
  refine V_sld (sx1 (by omega) hN) dL_law_1373 ?_
  refine V_aload_n 4 dL_law_1374 rfl ?_
  refine V_pc (pc2 := 1375) rfl ?_
  refine V_iload 0 dL_law_1375 rfl ?_
  refine V_iconst (v := 2) dL_law_1377 rfl ?_
  refine V_iadd dL_law_1378 ?_
  refine V_sld (sx2 (by omega) hN) dL_law_1379 ?_
  refine V_aload_n 4 dL_law_1380 rfl ?_
  refine V_iload 0 dL_law_1381 rfl ?_
  refine V_iconst (v := 3) dL_law_1383 rfl ?_
  refine V_iadd dL_law_1384 ?_
  refine V_pc (pc2 := 1385) rfl ?_
  refine V_sld (sx3 (by omega) hN) dL_law_1385 ?_
  refine V_aload_n 1 dL_law_1386 rfl ?_
  obtain ⟨c, b, P1, hc, h1, h2⟩ := h (gx g (nI i + 1).toNatClampNeg) (gx g (nI i + 2).toNatClampNeg) (gx g (nI i + 3).toNatClampNeg) M sz hInv
  refine V_callSH (mt := m_L_law) (mc1 := 1) (ms1 := 6) h1 (fun E M h => nomatch h.1) (by decide) k_L_bestWay s_L_bestWay l_L_160 ⟨Nat.le_of_ble_eq_true rfl, Nat.le_of_ble_eq_true rfl⟩ rfl (Nat.le_of_ble_eq_true rfl) dL_law_1387 rfl (fun v9 M1 hh => ?_)
  obtain ⟨e1, e2⟩ := hh
  cases e1
  obtain ⟨⟨fs, h96⟩, h3⟩ := h2 M1 e2
  refine V_istore (lv2 := [(5, .int _), (4, .int _), (3, .ref _), (2, .ref _), (1, .ref _), (0, .ref _)]) dL_law_1390 (Nat.le_of_ble_eq_true rfl) rfl ?_
  refine V_aload_n 3 dL_law_1392 rfl ?_
  refine V_aload_n 5 dL_law_1393 rfl ?_
  refine V_iload 1 dL_law_1394 rfl ?_
  refine V_iconst (v := 1) dL_law_1396 rfl ?_
  refine V_pc (pc2 := 1397) rfl ?_
  refine V_iadd dL_law_1397 ?_
  refine V_sld (sx1 (by omega) hN) dL_law_1398 ?_
  refine V_aload_n 5 dL_law_1399 rfl ?_
  refine V_iload 1 dL_law_1400 rfl ?_
  refine V_iconst (v := 2) dL_law_1402 rfl ?_
  refine V_iadd dL_law_1403 ?_
  refine V_sld (sx2 (by omega) hN) dL_law_1404 ?_
  refine V_aload_n 5 dL_law_1405 rfl ?_
  refine V_pc (pc2 := 1406) rfl ?_
  refine V_iload 1 dL_law_1406 rfl ?_
  refine V_iconst (v := 3) dL_law_1408 rfl ?_
  refine V_iadd dL_law_1409 ?_
  refine V_sld (sx3 (by omega) hN) dL_law_1410 ?_
  refine Cp_L_162 h96 rfl ⟨Nat.le_of_ble_eq_true rfl, Nat.le_of_ble_eq_true rfl⟩ (h3 _) rfl (Nat.le_of_ble_eq_true rfl) dL_law_1411 rfl (fun _ h4 => ?_)
  obtain ⟨hI2, o, ho, hob⟩ := h4
  obtain ⟨v, hv, hv3⟩ := hI2.th
  refine V_istore (lv2 := [(6, .int _), (5, .int _), (4, .int _), (3, .ref _), (2, .ref _), (1, .ref _), (0, .ref _)]) dL_law_1414 (Nat.le_of_ble_eq_true rfl) rfl ?_
  refine V_aload_n 4 dL_law_1416 rfl ?_
  refine C_L_90 hv rfl ⟨Nat.le_of_ble_eq_true rfl, Nat.le_of_ble_eq_true rfl⟩ (r9_thrown hv) rfl (Nat.le_of_ble_eq_true rfl) dL_law_1417 rfl ?_
  rw [hv3]
  refine V_pc (pc2 := 1420) rfl ?_
  refine V_iload 1 dL_law_1420 rfl ?_
  refine V_icmp_eq (tgt := 1427) dL_law_1422 (by decide) (fun c1422 => ?_) (fun c1422 => absurd rfl c1422)
  refine V_iload 1 dL_law_1427 rfl ?_
  refine V_if_ne (tgt := 1444) dL_law_1429 (by decide) (fun c1429 => ?_) (fun c1429 => ?_)
  · refine V_goto (tgt := 1582) dL_law_1444 (by decide) ?_
    refine V_lv (lv2 := [(4, .int _), (3, .ref _), (2, .ref _), (1, .ref _), (0, .ref _)]) [2, 3, 4, 5, 6] rfl ?_
    exact kk _ ⟨_, hI2⟩
  · refine V_aload_n 3 dL_law_1432 rfl ?_
    refine V_iconst (v := 0) dL_law_1433 rfl ?_
    refine V_lald ho (show vp_in (nI 0) 1 from vp_in_nI (by decide) (by decide)) dL_law_1434 ?_
    refine V_iload 0 dL_law_1435 rfl ?_
    refine V_i2l dL_law_1437 ?_
    refine V_lcmp dL_law_1438 ?_
    refine V_if_eq (tgt := 1444) dL_law_1439 (by decide) (fun c1439 => ?_) (fun c1439 => absurd (lgc_eq.mpr (hob ((nI_eq (b := 0) (by omega) (by decide)).mp c1429))) c1439)
    refine V_pc (pc2 := 1444) rfl ?_
    refine V_goto (tgt := 1582) dL_law_1444 (by decide) ?_
    refine V_lv (lv2 := [(4, .int _), (3, .ref _), (2, .ref _), (1, .ref _), (0, .ref _)]) [2, 3, 4, 5, 6] rfl ?_
    exact kk _ ⟨_, hI2⟩

set_option maxRecDepth 20000 in
theorem lc_mends {g : GE} {M : Mem} {sz kc ks : Nat} {Q : Ou → Mem → Prop} (i : Nat) (hi : i + 5 ≤ gN g) (hN : gN g ≤ 2560) (h : (∀ a b c : Int32, OPL g m_L_mends m_X9_mends [rf g 0, .int a, .int b, .int c, rf g 105] [rf g 96, .int a, .int b, .int c])) (hInv : ∃ th, Inv g M th) (kk : ∀ M1, (∃ th, Inv g M1 th) → V g m_L_law 1582 [(4, .int (nI i)), (3, rf g 105), (2, rf g 96), (1, rf g 0), (0, .ref (gS g))] [] M1 (sz + 1) kc ks Q) : V g m_L_law 1447 [(4, .int (nI i)), (3, rf g 105), (2, rf g 96), (1, rf g 0), (0, .ref (gS g))] [] M sz (kc + 1) (ks + 6) Q := by
  refine V_aload_n 3 dL_law_1447 rfl ?_
  refine V_aload_n 4 dL_law_1448 rfl ?_
  refine V_iload 0 dL_law_1449 rfl ?_
  refine V_iconst (v := 1) dL_law_1451 rfl ?_
  refine V_iadd dL_law_1452 ?_
  refine V_sld (sx1 (by omega) hN) dL_law_1453 ?_
  refine V_aload_n 4 dL_law_1454 rfl ?_
  refine V_pc (pc2 := 1455) rfl ?_
  refine V_iload 0 dL_law_1455 rfl ?_
  refine V_iconst (v := 2) dL_law_1457 rfl ?_
  refine V_iadd dL_law_1458 ?_
  refine V_sld (sx2 (by omega) hN) dL_law_1459 ?_
  refine V_aload_n 4 dL_law_1460 rfl ?_
  refine V_iload 0 dL_law_1461 rfl ?_
  refine V_iconst (v := 3) dL_law_1463 rfl ?_
  refine V_iadd dL_law_1464 ?_
  refine V_pc (pc2 := 1465) rfl ?_
  refine V_sld (sx3 (by omega) hN) dL_law_1465 ?_
  refine V_aload_n 1 dL_law_1466 rfl ?_
  obtain ⟨c, b, P1, hc, h1, h2⟩ := h (gx g (nI i + 1).toNatClampNeg) (gx g (nI i + 2).toNatClampNeg) (gx g (nI i + 3).toNatClampNeg) M sz hInv
  refine V_callSH (mt := m_L_law) (mc1 := 1) (ms1 := 6) h1 (fun E M h => nomatch h.1) (by decide) k_L_mends s_L_mends l_L_163 ⟨Nat.le_of_ble_eq_true rfl, Nat.le_of_ble_eq_true rfl⟩ rfl (Nat.le_of_ble_eq_true rfl) dL_law_1467 rfl (fun v9 M1 hh => ?_)
  obtain ⟨e1, e2⟩ := hh
  cases e1
  obtain ⟨⟨fs, h96⟩, h3⟩ := h2 M1 e2
  refine V_istore (lv2 := [(5, .int _), (4, .int _), (3, .ref _), (2, .ref _), (1, .ref _), (0, .ref _)]) dL_law_1470 (Nat.le_of_ble_eq_true rfl) rfl ?_
  refine V_aload_n 3 dL_law_1472 rfl ?_
  refine V_aload_n 5 dL_law_1473 rfl ?_
  refine V_iload 1 dL_law_1474 rfl ?_
  refine V_iconst (v := 1) dL_law_1476 rfl ?_
  refine V_pc (pc2 := 1477) rfl ?_
  refine V_iadd dL_law_1477 ?_
  refine V_sld (sx1 (by omega) hN) dL_law_1478 ?_
  refine V_aload_n 5 dL_law_1479 rfl ?_
  refine V_iload 1 dL_law_1480 rfl ?_
  refine V_iconst (v := 2) dL_law_1482 rfl ?_
  refine V_iadd dL_law_1483 ?_
  refine V_sld (sx2 (by omega) hN) dL_law_1484 ?_
  refine V_aload_n 5 dL_law_1485 rfl ?_
  refine V_pc (pc2 := 1486) rfl ?_
  refine V_iload 1 dL_law_1486 rfl ?_
  refine V_iconst (v := 3) dL_law_1488 rfl ?_
  refine V_iadd dL_law_1489 ?_
  refine V_sld (sx3 (by omega) hN) dL_law_1490 ?_
  refine Cp_L_165 h96 rfl ⟨Nat.le_of_ble_eq_true rfl, Nat.le_of_ble_eq_true rfl⟩ (h3 _) rfl (Nat.le_of_ble_eq_true rfl) dL_law_1491 rfl (fun _ h4 => ?_)
  obtain ⟨hI2, o, ho, hob⟩ := h4
  obtain ⟨v, hv, hv3⟩ := hI2.th
  refine V_istore (lv2 := [(6, .int _), (5, .int _), (4, .int _), (3, .ref _), (2, .ref _), (1, .ref _), (0, .ref _)]) dL_law_1494 (Nat.le_of_ble_eq_true rfl) rfl ?_
  refine V_aload_n 4 dL_law_1496 rfl ?_
  refine C_L_90 hv rfl ⟨Nat.le_of_ble_eq_true rfl, Nat.le_of_ble_eq_true rfl⟩ (r9_thrown hv) rfl (Nat.le_of_ble_eq_true rfl) dL_law_1497 rfl ?_
  rw [hv3]
  refine V_pc (pc2 := 1500) rfl ?_
  refine V_iload 1 dL_law_1500 rfl ?_
  refine V_icmp_eq (tgt := 1507) dL_law_1502 (by decide) (fun c1502 => ?_) (fun c1502 => absurd rfl c1502)
  refine V_iload 1 dL_law_1507 rfl ?_
  refine V_if_ne (tgt := 1524) dL_law_1509 (by decide) (fun c1509 => ?_) (fun c1509 => ?_)
  · refine V_goto (tgt := 1582) dL_law_1524 (by decide) ?_
    refine V_lv (lv2 := [(4, .int _), (3, .ref _), (2, .ref _), (1, .ref _), (0, .ref _)]) [2, 3, 4, 5, 6] rfl ?_
    exact kk _ ⟨_, hI2⟩
  · refine V_aload_n 3 dL_law_1512 rfl ?_
    refine V_iconst (v := 0) dL_law_1513 rfl ?_
    refine V_lald ho (show vp_in (nI 0) 1 from vp_in_nI (by decide) (by decide)) dL_law_1514 ?_
    refine V_iload 0 dL_law_1515 rfl ?_
    refine V_i2l dL_law_1517 ?_
    refine V_lcmp dL_law_1518 ?_
    refine V_if_eq (tgt := 1524) dL_law_1519 (by decide) (fun c1519 => ?_) (fun c1519 => absurd (lgc_eq.mpr (hob ((nI_eq (b := 0) (by omega) (by decide)).mp c1509))) c1519)
    refine V_pc (pc2 := 1524) rfl ?_
    refine V_goto (tgt := 1582) dL_law_1524 (by decide) ?_
    refine V_lv (lv2 := [(4, .int _), (3, .ref _), (2, .ref _), (1, .ref _), (0, .ref _)]) [2, 3, 4, 5, 6] rfl ?_
    exact kk _ ⟨_, hI2⟩

set_option maxRecDepth 20000 in
theorem lc_trueShare {g : GE} {M : Mem} {sz kc ks : Nat} {Q : Ou → Mem → Prop} (i : Nat) (h : OPF g m_X8_trueShare m_X9_trueShare) (hInv : ∃ th, Inv g M th) (kk : ∀ M1, (∃ th, Inv g M1 th) → V g m_L_law 1582 [(4, .int (nI i)), (3, rf g 105), (2, rf g 96), (1, rf g 0), (0, .ref (gS g))] [] M1 sz kc ks Q) : V g m_L_law 1527 [(4, .int (nI i)), (3, rf g 105), (2, rf g 96), (1, rf g 0), (0, .ref (gS g))] [] M sz kc ks Q := by
  obtain ⟨b, P1, h1, h2⟩ := h M sz hInv
  obtain ⟨fs, h0⟩ := hInv.choose_spec.x
  refine V_aload_n 3 dL_law_1527 rfl ?_
  refine Cp_L_166 h0 rfl ⟨Nat.le_of_ble_eq_true rfl, Nat.le_of_ble_eq_true rfl⟩ (h1) rfl (Nat.le_of_ble_eq_true rfl) dL_law_1528 rfl (fun _ e2 => ?_)
  obtain ⟨⟨fs2, h96⟩, h3⟩ := h2 _ e2
  refine V_dstore (lv2 := [(5, .double _), (4, .int _), (3, .ref _), (2, .ref _), (1, .ref _), (0, .ref _)]) dL_law_1531 (Nat.le_of_ble_eq_true rfl) rfl ?_
  refine V_aload_n 3 dL_law_1533 rfl ?_
  refine Cp_L_170 h96 rfl ⟨Nat.le_of_ble_eq_true rfl, Nat.le_of_ble_eq_true rfl⟩ (h3 _) rfl (Nat.le_of_ble_eq_true rfl) dL_law_1534 rfl (fun _ h4 => ?_)
  refine V_dstore (lv2 := [(7, .double _), (5, .double _), (4, .int _), (3, .ref _), (2, .ref _), (1, .ref _), (0, .ref _)]) dL_law_1537 (Nat.le_of_ble_eq_true rfl) rfl ?_
  refine V_dload 1 dL_law_1539 rfl ?_
  refine V_pc (pc2 := 1541) rfl ?_
  refine V_dload 0 dL_law_1541 rfl ?_
  refine V_dcmp dL_law_1543 ?_
  refine V_if_eq (tgt := 1565) dL_law_1544 (by decide) (fun c1544 => ?_) (fun c1544 => ?_)
  · refine V_goto (tgt := 1582) dL_law_1565 (by decide) ?_
    refine V_lv (lv2 := [(4, .int _), (3, .ref _), (2, .ref _), (1, .ref _), (0, .ref _)]) [2, 3, 4, 5, 6] rfl ?_
    exact kk _ h4
  · refine V_dload 1 dL_law_1547 rfl ?_
    refine V_dload 1 dL_law_1549 rfl ?_
    refine V_dcmp dL_law_1551 ?_
    refine V_if_eq (tgt := 1563) dL_law_1552 (by decide) (fun c1552 => ?_) (fun c1552 => ?_)
    · exact absurd c1552 c1544
    · refine V_dload 0 dL_law_1555 rfl ?_
      refine V_dload 0 dL_law_1557 rfl ?_
      refine V_dcmp dL_law_1559 ?_
      refine V_if_ne (tgt := 1565) dL_law_1560 (by decide) (fun c1560 => ?_) (fun c1560 => ?_)
      · refine V_goto (tgt := 1582) dL_law_1565 (by decide) ?_
        refine V_lv (lv2 := [(4, .int _), (3, .ref _), (2, .ref _), (1, .ref _), (0, .ref _)]) [2, 3, 4, 5, 6] rfl ?_
        exact kk _ h4
      · exact absurd c1560 c1544

set_option maxRecDepth 20000 in
theorem lc_digest {g : GE} {M : Mem} {sz kc ks : Nat} {Q : Ou → Mem → Prop} (i : Nat) (h : OPJ g m_X8_digest m_X9_digest) (hInv : ∃ th, Inv g M th) (kk : ∀ M1, (∃ th, Inv g M1 th) → V g m_L_law 1582 [(4, .int (nI i)), (3, rf g 105), (2, rf g 96), (1, rf g 0), (0, .ref (gS g))] [] M1 sz kc ks Q) : V g m_L_law 1568 [(4, .int (nI i)), (3, rf g 105), (2, rf g 96), (1, rf g 0), (0, .ref (gS g))] [] M sz kc ks Q := by
  obtain ⟨b, P1, h1, h2⟩ := h M sz hInv
  obtain ⟨fs, h0⟩ := hInv.choose_spec.x
  refine V_aload_n 3 dL_law_1568 rfl ?_
  refine Cp_L_171 h0 rfl ⟨Nat.le_of_ble_eq_true rfl, Nat.le_of_ble_eq_true rfl⟩ (h1) rfl (Nat.le_of_ble_eq_true rfl) dL_law_1569 rfl (fun _ e2 => ?_)
  obtain ⟨⟨fs2, h96⟩, h3⟩ := h2 _ e2
  refine V_aload_n 2 dL_law_1572 rfl ?_
  refine Cp_L_175 h96 rfl ⟨Nat.le_of_ble_eq_true rfl, Nat.le_of_ble_eq_true rfl⟩ (h3 _) rfl (Nat.le_of_ble_eq_true rfl) dL_law_1573 rfl (fun _ h4 => ?_)
  refine V_lcmp dL_law_1576 ?_
  refine V_if_eq (tgt := 1582) dL_law_1577 (by decide) (fun c1577 => ?_) (fun c1577 => absurd (lgc_eq.mpr rfl) c1577)
  refine V_lv (lv2 := [(4, .int _), (3, .ref _), (2, .ref _), (1, .ref _), (0, .ref _)]) [0, 1, 2, 3, 4] rfl ?_
  exact kk _ h4

theorem V.szle {g : GE} {mt : MT} {pc : Nat} {lv : List (Nat × Value)} {st : List Value} {M : Mem} {sz sz2 kc ks : Nat} {Q : Ou → Mem → Prop} (h : V g mt pc lv st M sz2 kc ks Q) (h1 : sz ≤ sz2) : V g mt pc lv st M sz kc ks Q := by
  intro p e R s m args below meth c H locs cells slots mc ms ls a1 a2 a3 a4 a5 a6 a7 a8 a9
  exact h p e R s m args below meth c H locs cells slots mc ms ls a1 a2 a3 a4 (by omega) a6 a7 a8 a9
set_option maxRecDepth 20000 in
theorem law_loop {g : GE} (hN : gN g ≤ 2560) {Q : Ou → Mem → Prop} (hq : ∀ M, Q (.inl (some (.int 1))) M) (o_stick : (∀ a b : Int32, OPL g m_L_stick m_X9_stick [rf g 0, .int a, .int b, rf g 105] [rf g 96, .int a, .int b])) (o_table : (∀ a b c d : Int32, OPL g m_L_table m_X9_table [rf g 0, .int a, .int b, .int c, .int d, rf g 105] [rf g 96, .int a, .int b, .int c, .int d])) (o_drop : (∀ a b : Int32, OPL g m_L_drop m_X9_drop [rf g 0, .int a, .int b, rf g 105] [rf g 96, .int a, .int b])) (o_set : (∀ a b : Int32, OPL g m_L_set m_X9_set [rf g 0, .int a, .int b, rf g 105] [rf g 96, .int a, .int b])) (o_bolt : (∀ a b : Int32, OPL g m_L_bolt m_X9_bolt [rf g 0, .int a, .int b, rf g 105] [rf g 96, .int a, .int b])) (o_send : (∀ a b : Int32, OPL g m_L_send m_X9_send [rf g 0, .int a, .int b, rf g 105] [rf g 96, .int a, .int b])) (o_sell : (∀ a : Int32, OPL g m_L_sell m_X9_sell [rf g 0, .int a, rf g 105] [rf g 96, .int a])) (o_append : (∀ a : Int32, OPL g m_L_append m_X9_append [rf g 0, .int a, rf g 105] [rf g 96, .int a])) (o_clearBuffer : OPD g m_X8_clearBuffer m_X9_clearBuffer) (o_firstError : OPD g m_X8_firstError m_X9_firstError) (o_work : OPL g m_L_work m_X9_work [rf g 0, rf g 105] [rf g 96]) (o_stopped : (∀ a : Int32, OPL g m_L_stopped m_X9_stopped [rf g 0, .int a, rf g 105] [rf g 96, .int a])) (o_undo : OPL g m_L_undo m_X9_undo [rf g 0, rf g 105] [rf g 96]) (o_keep : OPD g m_X8_keep m_X9_keep) (o_restore : OPL g m_L_restore m_X9_restore [rf g 0, rf g 105] [rf g 96]) (o_tableOf : (∀ a b c : Int32, OPL g m_L_tableOf m_X9_tableOf [rf g 0, .int a, .int b, .int c, rf g 105] [rf g 96, .int a, .int b, .int c])) (o_ring : (∀ a b : Int32, OPL g m_L_ring m_X9_ring [rf g 0, .int a, .int b, rf g 105] [rf g 96, .int a, .int b])) (o_boltOf : (∀ a b : Int32, OPL g m_L_boltOf m_X9_boltOf [rf g 0, .int a, .int b, rf g 105] [rf g 96, .int a, .int b])) (o_count : (∀ a : Int32, OPL g m_L_count m_X9_count [rf g 0, .int a, rf g 105] [rf g 96, .int a])) (o_offBy : (∀ a b c d : Int32, OPL g m_L_offBy m_X9_offBy [rf g 0, .int a, .int b, .int c, .int d, rf g 105] [rf g 96, .int a, .int b, .int c, .int d])) (o_turned : (∀ a b c : Int32, OPL g m_L_turned m_X9_turned [rf g 0, .int a, .int b, .int c, rf g 105] [rf g 96, .int a, .int b, .int c])) (o_bestWay : (∀ a b c : Int32, OPL g m_L_bestWay m_X9_bestWay [rf g 0, .int a, .int b, .int c, rf g 105] [rf g 96, .int a, .int b, .int c])) (o_mends : (∀ a b c : Int32, OPL g m_L_mends m_X9_mends [rf g 0, .int a, .int b, .int c, rf g 105] [rf g 96, .int a, .int b, .int c])) (o_trueShare : OPF g m_X8_trueShare m_X9_trueShare) (o_digest : OPJ g m_X8_digest m_X9_digest) : ∀ (m i : Nat), i ≤ 2560 → gN g < i + 5 * (m + 1) → ∀ (M : Mem) (sz : Nat), (∃ th, Inv g M th) → V g m_L_law 23 [(4, .int (nI i)), (3, rf g 105), (2, rf g 96), (1, rf g 0), (0, .ref (gS g))] [] M sz m (6 * m) Q := by
  intro m
  induction m with
  | zero =>
    intro i hi2 hm M sz hInv
    refine V_iload 0 dL_law_23 rfl ?_
    refine V_aload_n 4 dL_law_25 rfl ?_
    refine V_slen dL_law_26 ?_
    refine V_iconst (v := 5) dL_law_27 rfl ?_
    refine V_isub dL_law_28 ?_
    refine V_icmp_gt (tgt := 1588) dL_law_29 (by decide) (fun c29 => ?_) (fun c29 => absurd ((n5_gt hN hi2).mpr (by omega)) c29)
    refine V_iconst (v := 1) dL_law_1588 rfl ?_
    refine V_pc (pc2 := 1589) rfl ?_
    refine V_zret (st := []) dL_law_1589 rfl (by decide) ?_
    exact hq _
  | succ m ih =>
    intro i hi2 hm M sz hInv
    by_cases hx : gN g < i + 5
    · skip
      refine V_iload 0 dL_law_23 rfl ?_
      refine V_aload_n 4 dL_law_25 rfl ?_
      refine V_slen dL_law_26 ?_
      refine V_iconst (v := 5) dL_law_27 rfl ?_
      refine V_isub dL_law_28 ?_
      refine V_icmp_gt (tgt := 1588) dL_law_29 (by decide) (fun c29 => ?_) (fun c29 => absurd ((n5_gt hN hi2).mpr hx) c29)
      refine V_iconst (v := 1) dL_law_1588 rfl ?_
      refine V_pc (pc2 := 1589) rfl ?_
      refine V_zret (st := []) dL_law_1589 rfl (by decide) ?_
      exact hq _
    · have step : ∀ M1, (∃ th, Inv g M1 th) → V g m_L_law 1582 [(4, .int (nI i)), (3, rf g 105), (2, rf g 96), (1, rf g 0), (0, .ref (gS g))] [] M1 (sz + 1) m (6 * m) Q := by
        intro M1 hI
        refine V_iinc (v := _ + 5) (lv2 := [(4, .int _), (3, .ref _), (2, .ref _), (1, .ref _), (0, .ref _)]) 0 dL_law_1582 rfl rfl (Nat.le_of_ble_eq_true rfl) rfl ?_
        refine V_goto (tgt := 23) dL_law_1585 (by decide) ?_
        refine V_lv (lv2 := [(4, .int _), (3, .ref _), (2, .ref _), (1, .ref _), (0, .ref _)]) [0, 1, 2, 3, 4] rfl ?_
        rw [show (5 : Int32) = nI 5 from rfl, nI_add]
        exact ih (i + 5) (by omega) (by omega) M1 (sz + 1) hI
      have stepD : ∀ M1, (∃ th, Inv g M1 th) → V g m_L_law 1582 [(4, .int (nI i)), (3, rf g 105), (2, rf g 96), (1, rf g 0), (0, .ref (gS g))] [] M1 sz m (6 * m) Q := fun M1 hI => (step M1 hI).szle (by omega)
      refine V_iload 0 dL_law_23 rfl ?_
      refine V_aload_n 4 dL_law_25 rfl ?_
      refine V_slen dL_law_26 ?_
      refine V_iconst (v := 5) dL_law_27 rfl ?_
      refine V_isub dL_law_28 ?_
      refine V_icmp_gt (tgt := 1588) dL_law_29 (by decide) (fun c29 => absurd c29 (fun e => hx ((n5_gt hN hi2).mp e))) (fun c29 => ?_)
      refine V_aload_n 4 dL_law_32 rfl ?_
      refine V_pc (pc2 := 33) rfl ?_
      refine V_iload 0 dL_law_33 rfl ?_
      refine V_sld (sx0 (by omega) hN) dL_law_35 ?_
      refine V_bipush (v := 31) dL_law_36 (by decide) ?_
      refine V_iand dL_law_38 ?_
      obtain ⟨k9, hk, e9⟩ := and31 (gx g (nI i).toNatClampNeg)
      rw [e9]
      show V g m_L_law 39 [(4, .int (nI i)), (3, rf g 105), (2, rf g 96), (1, rf g 0), (0, .ref (gS g))] [.int (nI k9)] M sz (m + 1) (6 * m + 6) Q
      match k9, hk with
      | 0, _ => exact V_tabIn (off := 113) (tgt := 152) dL_law_39 (by decide) (by decide) (by decide) (by decide) (lc_stick i (by omega) hN o_stick hInv step)
      | 1, _ => exact V_tabIn (off := 181) (tgt := 220) dL_law_39 (by decide) (by decide) (by decide) (by decide) (lc_table i (by omega) hN o_table hInv step)
      | 2, _ => exact V_tabIn (off := 273) (tgt := 312) dL_law_39 (by decide) (by decide) (by decide) (by decide) (lc_drop i (by omega) hN o_drop hInv step)
      | 3, _ => exact V_tabIn (off := 341) (tgt := 380) dL_law_39 (by decide) (by decide) (by decide) (by decide) (lc_set i (by omega) hN o_set hInv step)
      | 4, _ => exact V_tabIn (off := 409) (tgt := 448) dL_law_39 (by decide) (by decide) (by decide) (by decide) (lc_bolt i (by omega) hN o_bolt hInv step)
      | 5, _ => exact V_tabIn (off := 477) (tgt := 516) dL_law_39 (by decide) (by decide) (by decide) (by decide) (lc_send i (by omega) hN o_send hInv step)
      | 6, _ => exact V_tabIn (off := 545) (tgt := 584) dL_law_39 (by decide) (by decide) (by decide) (by decide) (lc_sell i (by omega) hN o_sell hInv step)
      | 7, _ => exact V_tabIn (off := 601) (tgt := 640) dL_law_39 (by decide) (by decide) (by decide) (by decide) (lc_append i (by omega) hN o_append hInv step)
      | 8, _ => exact V_tabIn (off := 657) (tgt := 696) dL_law_39 (by decide) (by decide) (by decide) (by decide) ((lc_clearBuffer i o_clearBuffer hInv (fun M1 hI => (stepD M1 hI))).less (by omega) (by omega))
      | 9, _ => exact V_tabIn (off := 670) (tgt := 709) dL_law_39 (by decide) (by decide) (by decide) (by decide) ((lc_firstError i o_firstError hInv (fun M1 hI => (stepD M1 hI))).less (by omega) (by omega))
      | 10, _ => exact V_tabIn (off := 683) (tgt := 722) dL_law_39 (by decide) (by decide) (by decide) (by decide) (lc_work i (by omega) hN o_work hInv step)
      | 11, _ => exact V_tabIn (off := 727) (tgt := 766) dL_law_39 (by decide) (by decide) (by decide) (by decide) (lc_stopped i (by omega) hN o_stopped hInv step)
      | 12, _ => exact V_tabIn (off := 783) (tgt := 822) dL_law_39 (by decide) (by decide) (by decide) (by decide) (lc_undo i (by omega) hN o_undo hInv step)
      | 13, _ => exact V_tabIn (off := 827) (tgt := 866) dL_law_39 (by decide) (by decide) (by decide) (by decide) ((lc_keep i o_keep hInv (fun M1 hI => (stepD M1 hI))).less (by omega) (by omega))
      | 14, _ => exact V_tabIn (off := 840) (tgt := 879) dL_law_39 (by decide) (by decide) (by decide) (by decide) (lc_restore i (by omega) hN o_restore hInv step)
      | 15, _ => exact V_tabIn (off := 884) (tgt := 923) dL_law_39 (by decide) (by decide) (by decide) (by decide) (lc_tableOf i (by omega) hN o_tableOf hInv step)
      | 16, _ => exact V_tabIn (off := 964) (tgt := 1003) dL_law_39 (by decide) (by decide) (by decide) (by decide) (lc_ring i (by omega) hN o_ring hInv step)
      | 17, _ => exact V_tabIn (off := 1032) (tgt := 1071) dL_law_39 (by decide) (by decide) (by decide) (by decide) (lc_boltOf i (by omega) hN o_boltOf hInv step)
      | 18, _ => exact V_tabIn (off := 1100) (tgt := 1139) dL_law_39 (by decide) (by decide) (by decide) (by decide) (lc_count i (by omega) hN o_count hInv step)
      | 19, _ => exact V_tabIn (off := 1156) (tgt := 1195) dL_law_39 (by decide) (by decide) (by decide) (by decide) (lc_offBy i (by omega) hN o_offBy hInv step)
      | 20, _ => exact V_tabIn (off := 1248) (tgt := 1287) dL_law_39 (by decide) (by decide) (by decide) (by decide) (lc_turned i (by omega) hN o_turned hInv step)
      | 21, _ => exact V_tabIn (off := 1328) (tgt := 1367) dL_law_39 (by decide) (by decide) (by decide) (by decide) (lc_bestWay i (by omega) hN o_bestWay hInv step)
      | 22, _ => exact V_tabIn (off := 1408) (tgt := 1447) dL_law_39 (by decide) (by decide) (by decide) (by decide) (lc_mends i (by omega) hN o_mends hInv step)
      | 23, _ => exact V_tabIn (off := 1488) (tgt := 1527) dL_law_39 (by decide) (by decide) (by decide) (by decide) ((lc_trueShare i o_trueShare hInv (fun M1 hI => (stepD M1 hI))).less (by omega) (by omega))
      | 24, _ => exact V_tabIn (off := 1529) (tgt := 1568) dL_law_39 (by decide) (by decide) (by decide) (by decide) ((lc_digest i o_digest hInv (fun M1 hI => (stepD M1 hI))).less (by omega) (by omega))
      | 25, _ | 26, _ | 27, _ | 28, _ | 29, _ | 30, _ | 31, _ => exact V_tabOut (tgt := 1582) dL_law_39 (by decide) (by decide) ((stepD M hInv).less (by omega) (by omega))
      | k + 32, h => exact absurd h (by omega)

