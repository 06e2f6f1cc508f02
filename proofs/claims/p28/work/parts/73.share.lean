/-! shares -/
/-- an operation that answers a long .. -/
def OPJ (g : GE) (y8 y9 : MT) : Prop := ∀ (M : Mem) (sz : Nat), (∃ th, Inv g M th) → ∃ (b : Int64) (P1 : Mem → Prop), Run g y8 [rf g 0] M sz 0 0 (RetP (some (.long b)) P1) ∧ ∀ M1, P1 M1 → (∃ e, M1 96 = some (eO 9 e)) ∧ ∀ sz2, Run g y9 [rf g 96] M1 sz2 0 0 (RetP (some (.long b)) (fun M2 => ∃ th, Inv g M2 th))
/-- .. a double -/
def OPF (g : GE) (y8 y9 : MT) : Prop := ∀ (M : Mem) (sz : Nat), (∃ th, Inv g M th) → ∃ (b : UInt64) (P1 : Mem → Prop), Run g y8 [rf g 0] M sz 0 0 (RetP (some (.double b)) P1) ∧ ∀ M1, P1 M1 → (∃ e, M1 96 = some (eO 9 e)) ∧ ∀ sz2, Run g y9 [rf g 96] M1 sz2 0 0 (RetP (some (.double b)) (fun M2 => ∃ th, Inv g M2 th))
theorem OPJ.ok {g : GE} {y8 y9 : MT} {M : Mem} {sz : Nat} {σ τ sn : Nat → Int32} {hk : Bool} {n : Nat} {ps : Nat → Nat → Int32} {len : Nat} {tx : Nat → Int32} {th : Int32} (h : WLD g M σ τ sn hk n ps len tx th) {a : Int64}
    (h1 : Run g y8 [rf g 0] M sz 0 0 (RetP (some (.long a)) (fun M1 => CW g M1 σ τ hk n ps len tx ∧ FR M M1 0 96)))
    (h2 : ∀ M2 sz2, ML g M2 σ sn hk n ps len tx th → Run g y9 [rf g 96] M2 sz2 0 0 (RetP (some (.long a)) (fun M3 => ML g M3 σ sn hk n ps len tx 0 ∧ FR M2 M3 96 9))) :
    ∃ (b : Int64) (P1 : Mem → Prop), Run g y8 [rf g 0] M sz 0 0 (RetP (some (.long b)) P1) ∧ ∀ M1, P1 M1 → (∃ e, M1 96 = some (eO 9 e)) ∧ ∀ sz2, Run g y9 [rf g 96] M1 sz2 0 0 (RetP (some (.long b)) (fun M2 => ∃ th, Inv g M2 th)) := by
  obtain ⟨w1, w2, w3, o, w4⟩ := h
  refine ⟨a, _, h1, fun M1 c => ?_⟩
  have hL := w2.fr (M1 := M1) (fun k k1 k2 => c.2 k (by omega))
  exact ⟨⟨_, hL.1.choose_spec.1.1⟩, fun sz2 => (h2 _ sz2 hL).mono fun o2 M3 q => ⟨q.1, 0, σ, τ, sn, hk, n, ps, len, tx, c.1.fr (fun k hk => q.2.2 k (by omega)), q.2.1, w3, o, (q.2.2 _ (by omega)).trans ((c.2 _ (by omega)).trans w4)⟩⟩
theorem OPF.ok {g : GE} {y8 y9 : MT} {M : Mem} {sz : Nat} {σ τ sn : Nat → Int32} {hk : Bool} {n : Nat} {ps : Nat → Nat → Int32} {len : Nat} {tx : Nat → Int32} {th : Int32} (h : WLD g M σ τ sn hk n ps len tx th) {a : UInt64}
    (h1 : Run g y8 [rf g 0] M sz 0 0 (RetP (some (.double a)) (fun M1 => CW g M1 σ τ hk n ps len tx ∧ FR M M1 0 96)))
    (h2 : ∀ M2 sz2, ML g M2 σ sn hk n ps len tx th → Run g y9 [rf g 96] M2 sz2 0 0 (RetP (some (.double a)) (fun M3 => ML g M3 σ sn hk n ps len tx 0 ∧ FR M2 M3 96 9))) :
    ∃ (b : UInt64) (P1 : Mem → Prop), Run g y8 [rf g 0] M sz 0 0 (RetP (some (.double b)) P1) ∧ ∀ M1, P1 M1 → (∃ e, M1 96 = some (eO 9 e)) ∧ ∀ sz2, Run g y9 [rf g 96] M1 sz2 0 0 (RetP (some (.double b)) (fun M2 => ∃ th, Inv g M2 th)) := by
  obtain ⟨w1, w2, w3, o, w4⟩ := h
  refine ⟨a, _, h1, fun M1 c => ?_⟩
  have hL := w2.fr (M1 := M1) (fun k k1 k2 => c.2 k (by omega))
  exact ⟨⟨_, hL.1.choose_spec.1.1⟩, fun sz2 => (h2 _ sz2 hL).mono fun o2 M3 q => ⟨q.1, 0, σ, τ, sn, hk, n, ps, len, tx, c.1.fr (fun k hk => q.2.2 k (by omega)), q.2.1, w3, o, (q.2.2 _ (by omega)).trans ((c.2 _ (by omega)).trans w4)⟩⟩
def n64B (r : UInt64) : Bool := decide (r &&& 0x7fffffffffffffff ≤ 0x7ff0000000000000)
theorem n64_of {r : UInt64} (h : n64B r = true) : vf_n64 r := by show r &&& 0x7fffffffffffffff ≤ 0x7ff0000000000000; exact of_decide_eq_true h
def shD (k a : Nat) : UInt64 := FP.ddiv (FP.i2d (nI k)) (FP.i2d (nI a))
/-- the doublings of bitsOfShare -/
def bsF : Nat → UInt64 → Int64 → Option (UInt64 × Int64)
  | 0, _, _ => none
  | m + 1, s, e => if 0 ≤ Op.cmpValue (FP.dcmp s FP.dconst1) .g then some (s, e) else if n64B (FP.dmul s 4611686018427387904) = true then bsF m (FP.dmul s 4611686018427387904) (e - 1) else none
def bsR (se : UInt64 × Int64) : Int64 := se.2 <<< ((52 : Int32).toInt64 &&& 63) + (FP.d2l (FP.dmul se.1 4841369599423283200) - 4503599627370496)
def bsC (x : UInt64) : Bool := n64B x && (decide (Op.cmpValue (FP.dcmp x x) .l = 0) && (if 0 < Op.cmpValue (FP.dcmp x FP.dconst0) .l then (match bsF 9 x 1023 with
  | none => false
  | some se => n64B (FP.dmul se.1 4841369599423283200) && decide (bsR se = x.toInt64)) else decide ((0 : Int64) = x.toInt64)))
theorem sh_all : ((List.range 38).all fun a => (List.range 38).all fun k => decide (a = 0) || (decide (a < k) || bsC (shD k a))) = true := by decide +kernel
theorem sh_1 : shD 1 1 = FP.dconst1 := by decide +kernel
theorem sh_ok {k a : Nat} (h0 : 1 ≤ a) (h1 : k ≤ a) (h2 : a ≤ 37) : bsC (shD k a) = true := by
  have h := all_lt (all_lt sh_all a (by omega)) k (by omega)
  rw [decide_eq_false (by omega), decide_eq_false (by omega), Bool.false_or, Bool.false_or] at h
  exact h
def allR (σ : Nat → Int32) : Nat := cnt (thr σ) 37
def offR (σ : Nat → Int32) : Nat := cnt (fun r => thr σ r && offS σ r) 37
theorem cnt_mono {p q : Nat → Bool} (h : ∀ k, p k = true → q k = true) : ∀ n, cnt p n ≤ cnt q n
  | 0 => Nat.le_refl _
  | n + 1 => by
    have i := cnt_mono h n
    show cnt p n + (if p n then 1 else 0) ≤ cnt q n + (if q n then 1 else 0)
    cases e : p n with
    | true => rw [h n e]; simp; exact i
    | false => simp; split <;> omega
theorem off_all (σ : Nat → Int32) : offR σ ≤ allR σ := cnt_mono (fun k h => by rw [Bool.and_eq_true] at h; exact h.1) 37
theorem all_37 (σ : Nat → Int32) : allR σ ≤ 37 := cnt_le _ 37
def shS (σ : Nat → Int32) : UInt64 := if allR σ = 0 then shD 1 1 else shD (allR σ - offR σ) (allR σ)
theorem shS_ok (σ : Nat → Int32) : bsC (shS σ) = true := by
  unfold shS
  split
  · exact sh_ok (by decide) (by decide) (by decide)
  · exact sh_ok (by omega) (Nat.sub_le _ _) (all_37 σ)
theorem bsC_n {x : UInt64} (h : bsC x = true) : vf_n64 x := by
  unfold bsC at h
  rw [Bool.and_eq_true] at h
  exact n64_of h.1
set_option maxRecDepth 20000 in
theorem x_trueShare_ok {g : GE} {M : Mem} {sz : Nat} {σ τ : Nat → Int32} {hk : Bool} {n : Nat} {ps : Nat → Nat → Int32} {len : Nat} {tx : Nat → Int32} (hC : CW g M σ τ hk n ps len tx) (hI : I10 σ) : Run g m_X8_trueShare [rf g 0] M sz 0 0 (RetP (some (.double (shS σ))) (fun M2 => CW g M2 (σ) (τ) (hk) (n) (ps) (len) (tx) ∧ FR M M2 0 96)) := by
  obtain ⟨p0, y1, y2⟩ := hC.2.1.1
  have hn9 := bsC_n (shS_ok σ)
  have ho9 := off_all σ
  have ha9 := all_37 σ
  refine Run.of rfl (by decide) (Nat.le_of_ble_eq_true rfl) ?_
  show V g m_X8_trueShare 0 _ [] _ _ _ _ _
  refine V_aload_n 0 dX8_trueShare_0 rfl ?_
  refine G_X8_36 rfl hC.1 rfl dX8_trueShare_1 ?_
  refine V_aload_n 0 dX8_trueShare_4 rfl ?_
  refine G_X8_10 rfl hC.1 rfl dX8_trueShare_5 ?_
  refine G_X8_89 rfl y1 rfl dX8_trueShare_8 ?_
  refine C_X8_114 hC.2.2.2.2.2.1.1 rfl ⟨Nat.le_of_ble_eq_true rfl, Nat.le_of_ble_eq_true rfl⟩ (hC.2.1.2.2.2.1.standing hC.2.2.2.2.2.1) rfl (Nat.le_of_ble_eq_true rfl) dX8_trueShare_11 rfl ?_
  refine V_istore_n (lv2 := [(1, .int _), (0, .ref _)]) dX8_trueShare_14 (Nat.le_of_ble_eq_true rfl) rfl ?_
  refine V_pc (pc2 := 15) rfl ?_
  refine V_iload_n 0 dX8_trueShare_15 rfl ?_
  refine V_if_gt (tgt := 21) dX8_trueShare_16 (by decide) (fun c16 => ?_) (fun c16 => ?_)
  · refine V_iload_n 0 dX8_trueShare_21 rfl ?_
    refine V_aload_n 1 dX8_trueShare_22 rfl ?_
    refine G_X8_36 rfl hC.1 rfl dX8_trueShare_23 ?_
    refine V_aload_n 1 dX8_trueShare_26 rfl ?_
    refine G_X8_10 rfl hC.1 rfl dX8_trueShare_27 ?_
    refine G_X8_89 rfl y1 rfl dX8_trueShare_30 ?_
    refine V_aload_n 1 dX8_trueShare_33 rfl ?_
    refine V_pc (pc2 := 34) rfl ?_
    refine C_X8_93 hC.1 rfl ⟨Nat.le_of_ble_eq_true rfl, Nat.le_of_ble_eq_true rfl⟩ (r_bound hC) rfl (Nat.le_of_ble_eq_true rfl) dX8_trueShare_34 rfl ?_
    refine C_X8_276 hC.2.2.2.2.2.1.1 rfl ⟨Nat.le_of_ble_eq_true rfl, Nat.le_of_ble_eq_true rfl⟩ (hC.2.1.2.2.2.1.off hC.2.2.2.2.2.1 hI rfl) rfl (Nat.le_of_ble_eq_true rfl) dX8_trueShare_37 rfl ?_
    have h0 : ¬ allR σ = 0 := fun e => absurd c16 (by show ¬ 0 < nI (allR σ); rw [e]; decide)
    have es : shS σ = shD (allR σ - offR σ) (allR σ) := if_neg h0
    rw [es] at hn9 ⊢
    refine V_isub dX8_trueShare_40 ?_
    rw [show nI (cnt (thr σ) 37) - nI (cnt (fun r => thr σ r && offS σ r) 37) = nI (allR σ - offR σ) from pk_sub ho9]
    refine V_i2d dX8_trueShare_41 ?_
    refine V_iload_n 0 dX8_trueShare_42 rfl ?_
    refine V_i2d dX8_trueShare_43 ?_
    refine V_ddiv dX8_trueShare_44 hn9 ?_
    refine V_dret (st := []) dX8_trueShare_45 rfl ?_
    exact ⟨rfl, hC, FR.refl _ _ _⟩
  · refine V_dconst1 dX8_trueShare_19 ?_
    refine V_dret (st := []) dX8_trueShare_20 rfl ?_
    have h0 : allR σ = 0 := Decidable.byContradiction fun e => c16 (show (0 : Int32) < nI (allR σ) from nI_gt0 (by omega) (by omega))
    rw [show shS σ = shD 1 1 from if_pos h0, sh_1]
    exact ⟨rfl, hC, FR.refl _ _ _⟩
set_option maxRecDepth 20000 in
theorem bits_l {g : GE} {M : Mem} {sz : Nat} {x : UInt64} {se : UInt64 × Int64} {Q : Ou → Mem → Prop} (kk : ∀ i, V g m_X8_bitsOfShare 50 [(6, .int (nI (i))), (4, .long se.2), (2, .double se.1), (0, .double x)] [] M sz 0 0 Q) : ∀ (m : Nat) (s : UInt64) (e : Int64) (i : Nat), i + m ≤ 1000 → bsF m s e = some se → V g m_X8_bitsOfShare 18 [(6, .int (nI (i))), (4, .long e), (2, .double s), (0, .double x)] [] M sz 0 0 Q := by
  intro m
  induction m with
  | zero => intro s e i hi h; cases h
  | succ m ih =>
    intro s e i hi h
    refine V_iload 0 dX8_bitsOfShare_18 rfl ?_
    refine V_sipush (v := 1000) dX8_bitsOfShare_20 (by decide) ?_
    refine V_icmp_ge (tgt := 50) dX8_bitsOfShare_23 (by decide) (fun c23 => absurd c23 (nI_ge (b := 1000) (by omega) (by decide))) (fun c23 => ?_)
    refine V_dload_n 2 dX8_bitsOfShare_26 rfl ?_
    refine V_dconst1 dX8_bitsOfShare_27 ?_
    refine V_dcmp dX8_bitsOfShare_28 ?_
    refine V_if_ge (tgt := 50) dX8_bitsOfShare_29 (by decide) (fun c29 => ?_) (fun c29 => ?_)
    · unfold bsF at h
      rw [if_pos c29] at h
      cases h
      exact kk i
    · unfold bsF at h
      rw [if_neg c29] at h
      have hn : n64B (FP.dmul s 4611686018427387904) = true := by
        refine Decidable.byContradiction fun hx => ?_
        rw [if_neg hx] at h
        cases h
      rw [if_pos hn] at h
      refine V_dload_n 2 dX8_bitsOfShare_32 rfl ?_
      refine V_ldc2d z_X8_378 dX8_bitsOfShare_33 ?_
      refine V_dmul dX8_bitsOfShare_36 (n64_of hn) ?_
      refine V_dstore_n (lv2 := [(2, .double _), (6, .int _), (4, .long _), (0, .double _)]) dX8_bitsOfShare_37 (Nat.le_of_ble_eq_true rfl) rfl ?_
      refine V_lload 2 dX8_bitsOfShare_38 rfl ?_
      refine V_lconst (v := 1) dX8_bitsOfShare_40 rfl ?_
      refine V_lsub dX8_bitsOfShare_41 ?_
      refine V_pc (pc2 := 42) rfl ?_
      refine V_lstore (lv2 := [(4, .long _), (2, .double _), (6, .int _), (0, .double _)]) dX8_bitsOfShare_42 (Nat.le_of_ble_eq_true rfl) rfl ?_
      refine V_iinc (v := _ + 1) (lv2 := [(6, .int _), (4, .long _), (2, .double _), (0, .double _)]) 2 dX8_bitsOfShare_44 rfl rfl (Nat.le_of_ble_eq_true rfl) rfl ?_
      refine V_goto (tgt := 18) dX8_bitsOfShare_47 (by decide) ?_
      refine V_lv (lv2 := [(6, .int _), (4, .long _), (2, .double _), (0, .double _)]) [0, 1, 2, 3] rfl ?_
      rw [nI_1]
      exact ih _ _ (i + 1) (by omega) h
set_option maxRecDepth 20000 in
theorem r_bitsOfShare {g : GE} {M : Mem} {sz : Nat} {x : UInt64} (h : bsC x = true) : Run g m_X8_bitsOfShare [.double x] M sz 0 0 (Ret (some (.long x.toInt64)) M) := by
  unfold bsC at h
  rw [Bool.and_eq_true, Bool.and_eq_true] at h
  refine Run.of rfl (by decide) (Nat.le_of_ble_eq_true rfl) ?_
  show V g m_X8_bitsOfShare 0 _ [] _ _ _ _ _
  by_cases h0 : 0 < Op.cmpValue (FP.dcmp x FP.dconst0) .l
  · rw [if_pos h0] at h
    have hse : ∃ se, bsF 9 x 1023 = some se ∧ n64B (FP.dmul se.1 4841369599423283200) = true ∧ decide (bsR se = x.toInt64) = true := by
      have h2 := h.2.2
      split at h2
      · cases h2
      · rename_i se e
        rw [Bool.and_eq_true] at h2
        exact ⟨se, e, h2⟩
    obtain ⟨se, hse, hb⟩ := hse
    refine V_dload_n 0 dX8_bitsOfShare_0 rfl ?_
    refine V_dconst0 dX8_bitsOfShare_1 ?_
    refine V_dcmp dX8_bitsOfShare_2 ?_
    refine V_if_gt (tgt := 8) dX8_bitsOfShare_3 (by decide) (fun c3 => ?_) (fun c3 => absurd h0 c3)
    refine V_dload_n 0 dX8_bitsOfShare_8 rfl ?_
    refine V_dstore_n (lv2 := [(2, .double _), (0, .double _)]) dX8_bitsOfShare_9 (Nat.le_of_ble_eq_true rfl) rfl ?_
    refine V_ldc2 z_X8_376 dX8_bitsOfShare_10 ?_
    refine V_pc (pc2 := 13) rfl ?_
    refine V_lstore (lv2 := [(4, .long _), (2, .double _), (0, .double _)]) dX8_bitsOfShare_13 (Nat.le_of_ble_eq_true rfl) rfl ?_
    refine V_iconst (v := 0) dX8_bitsOfShare_15 rfl ?_
    refine V_istore (lv2 := [(6, .int _), (4, .long _), (2, .double _), (0, .double _)]) dX8_bitsOfShare_16 (Nat.le_of_ble_eq_true rfl) rfl ?_
    refine V_lv (lv2 := [(6, .int _), (4, .long _), (2, .double _), (0, .double _)]) [0, 1, 2, 3] rfl ?_
    refine bits_l (se := se) (fun i => ?_) 9 x 1023 0 (by decide) hse
    refine V_dload_n 2 dX8_bitsOfShare_50 rfl ?_
    refine V_ldc2d z_X8_380 dX8_bitsOfShare_51 ?_
    refine V_dmul dX8_bitsOfShare_54 (n64_of hb.1) ?_
    refine V_d2l dX8_bitsOfShare_55 ?_
    refine V_lstore (lv2 := [(6, .long _), (4, .long _), (2, .double _), (0, .double _)]) dX8_bitsOfShare_56 (Nat.le_of_ble_eq_true rfl) rfl ?_
    refine V_lload 1 dX8_bitsOfShare_58 rfl ?_
    refine V_bipush (v := 52) dX8_bitsOfShare_60 (by decide) ?_
    refine V_pc (pc2 := 62) rfl ?_
    refine V_lshl dX8_bitsOfShare_62 ?_
    refine V_lload 0 dX8_bitsOfShare_63 rfl ?_
    refine V_ldc2 z_X8_382 dX8_bitsOfShare_65 ?_
    refine V_lsub dX8_bitsOfShare_68 ?_
    refine V_ladd dX8_bitsOfShare_69 ?_
    refine V_lret (st := []) dX8_bitsOfShare_70 rfl ?_
    exact ⟨by rw [← of_decide_eq_true hb.2]; rfl, rfl⟩
  · rw [if_neg h0] at h
    refine V_dload_n 0 dX8_bitsOfShare_0 rfl ?_
    refine V_dconst0 dX8_bitsOfShare_1 ?_
    refine V_dcmp dX8_bitsOfShare_2 ?_
    refine V_if_gt (tgt := 8) dX8_bitsOfShare_3 (by decide) (fun c3 => absurd c3 h0) (fun c3 => ?_)
    refine V_lconst (v := 0) dX8_bitsOfShare_6 rfl ?_
    refine V_lret (st := []) dX8_bitsOfShare_7 rfl ?_
    exact ⟨by rw [← of_decide_eq_true h.2.2], rfl⟩
