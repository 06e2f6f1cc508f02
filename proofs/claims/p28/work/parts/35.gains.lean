/-! Rings: gains, what is off, the first of its kind -/
theorem lN_big {n : Nat} (h : n < 2 ^ 63) : (lN n).toInt = (n : Int) := pk_lT h
theorem prodL_pos {σ : Nat → Int32} {ups : Bool} : ∀ (l : List (Nat × Nat)) (a : Nat), (∀ q, q ∈ l → ∃ u : Nat, 1 ≤ u ∧ u ≤ 99 ∧ facs σ ups q = lN u) → 1 ≤ a → ∃ n : Nat, 1 ≤ n ∧ n ≤ a * 99 ^ l.length ∧ l.foldl (fun s q => s * facs σ ups q) (lN a) = lN n
  | [], a, _, ha => ⟨a, ha, by simp, rfl⟩
  | q :: l, a, h, ha => by
    obtain ⟨u, h1, h2, h3⟩ := h q List.mem_cons_self
    obtain ⟨n, h4, h5, h6⟩ := prodL_pos l (a * u) (fun x hx => h x (List.mem_cons_of_mem _ hx)) (Nat.mul_pos ha h1)
    refine ⟨n, h4, Nat.le_trans h5 ?_, ?_⟩
    · rw [List.length_cons, Nat.pow_succ, Nat.mul_comm (99 ^ l.length) 99, ← Nat.mul_assoc]
      exact Nat.mul_le_mul_right _ (Nat.mul_le_mul_left _ h2)
    · rw [List.foldl_cons, h3, lN_mul]
      exact h6
theorem rL_mem {r : Nat} {q : Nat × Nat} (h : q ∈ rL r) : ∃ i, i < rSz r ∧ q = rQ r i := by
  obtain ⟨i, h1, h2⟩ := List.mem_map.mp h
  exact ⟨i, List.mem_range.mp h1, h2.symm⟩
theorem prodS_pos {σ : Nat → Int32} (hI : I10 σ) {r : Nat} (hr : r < 37) (ht : thr σ r = true) (ups : Bool) : ∃ n : Nat, 1 ≤ n ∧ n ≤ 9509900499 ∧ prodS σ r ups = lN n := by
  have h35 := rSz_in r
  obtain ⟨n, h1, h2, h3⟩ := prodL_pos (σ := σ) (ups := ups) (rL r) 1 (fun q hq => by
    obtain ⟨i, hi, rfl⟩ := rL_mem hq
    obtain ⟨ha, hb⟩ := rQ_lt hr hi
    have hab := rQ_ne r hr i hi
    have hh : hasS σ (rQ r i).1 (rQ r i).2 = true := all_lt ht i hi
    unfold facs
    cases ups with
    | true =>
      obtain ⟨u, u1, u2, u3⟩ := hI.ex ha hb hab hh
      exact ⟨u, u1, u2, by rw [if_pos rfl, u3]; exact nI_l (by omega)⟩
    | false =>
      obtain ⟨u, u1, u2, u3⟩ := hI.ex hb ha (Ne.symm hab) (by rw [hasS_comm]; exact hh)
      exact ⟨u, u1, u2, by rw [if_neg (by decide), u3]; exact nI_l (by omega)⟩) (Nat.le_refl 1)
  refine ⟨n, h1, Nat.le_trans h2 ?_, h3⟩
  have hlen : (rL r).length = rSz r := by unfold rL; rw [List.length_map, List.length_range]
  rw [hlen, Nat.one_mul]
  exact Nat.le_trans (Nat.pow_le_pow_right (by decide) h35.2) (by decide)
theorem lN_gt0 {n : Nat} (h1 : 1 ≤ n) (h2 : n < 2 ^ 63) : (0 : Int64) < lN n := by
  rw [fa_lt64', lN_big h2]
  show (0 : Int) < n
  omega
theorem l_lt0 (x : Int64) : x < 0 ↔ x.toInt < 0 := by rw [fa_lt64']; rfl
theorem l_xor0 {x y : Int64} (hy : 0 < y) : (x ^^^ y) < 0 ↔ x < 0 := by
  have e : ∀ z : Int64, z < 0 ↔ z.toBitVec.msb = true := by
    intro z
    rw [Int64.lt_iff_toBitVec_slt, show (0 : Int64).toBitVec = 0#64 from rfl, BitVec.slt_zero_eq_msb]
  have hy2 : y.toBitVec.msb = false := by
    cases hm : y.toBitVec.msb
    · rfl
    · exact absurd ((e y).mpr hm) (Int64.not_lt.mpr (Int64.le_of_lt hy))
  rw [e, e, Int64.toBitVec_xor, BitVec.msb_xor, hy2, Bool.xor_false]
theorem l_rng (x : Int64) : -9223372036854775808 ≤ x.toInt ∧ x.toInt < 9223372036854775808 := ⟨Int64.le_toInt x, Int64.toInt_lt x⟩
theorem l_div {x y : Int64} (hy : 0 < y) : (x / y).toInt = x.toInt.tdiv y.toInt ∧ (x / y * y).toInt = y.toInt * x.toInt.tdiv y.toInt ∧ (x - x / y * y).toInt = x.toInt.tmod y.toInt := by
  have h1 := l_rng x
  have hy2 : 0 < y.toInt := (fa_lt64' 0 y).mp hy
  have hb := tmod_bounds (a := x.toInt) hy2
  have he : y.toInt * x.toInt.tdiv y.toInt + x.toInt.tmod y.toInt = x.toInt := Int.mul_tdiv_add_tmod _ _
  generalize hX : x.toInt = X at *
  generalize hY : y.toInt = Y at *
  generalize hd : X.tdiv Y = D at *
  generalize hm : X.tmod Y = R at *
  have hs : (0 ≤ X → 0 ≤ R) ∧ (X ≤ 0 → R ≤ 0) := by
    subst hm
    constructor
    · intro h; exact Int.tmod_nonneg _ h
    · intro h
      have := Int.tmod_nonneg (a := -X) Y (by omega)
      rw [Int.neg_tmod] at this
      omega
  have hs2 : (0 ≤ X → 0 ≤ D) ∧ (X ≤ 0 → D ≤ 0) := by
    subst hd
    constructor
    · intro h; exact Int.tdiv_nonneg h (by omega)
    · intro h
      have := Int.tdiv_nonneg (a := -X) (b := Y) (by omega) (by omega)
      rw [Int.neg_tdiv] at this
      omega
  have hs3 : (0 ≤ D → D ≤ Y * D) ∧ (D ≤ 0 → Y * D ≤ D) := by
    constructor
    · intro h; have := Int.mul_le_mul_of_nonneg_right (show 1 ≤ Y by omega) h; omega
    · intro h; have := Int.mul_le_mul_of_nonpos_right (show 1 ≤ Y by omega) h; omega
  generalize hZ : Y * D = Z at *
  have hDY : -9223372036854775808 ≤ Z ∧ Z < 9223372036854775808 := by omega
  have hD : -9223372036854775808 ≤ D ∧ D < 9223372036854775808 := by omega
  have e1 : (x / y).toInt = D := by
    rw [Int64.toInt_div, hX, hY, hd]
    exact Int.bmod_eq_of_le (by omega) (by omega)
  have e2 : (x / y * y).toInt = Z := by
    rw [Int64.toInt_mul, e1, hY, Int.mul_comm, hZ]
    exact Int.bmod_eq_of_le (by omega) (by omega)
  refine ⟨e1, e2, ?_⟩
  rw [Int64.toInt_sub, e2, hX]
  rw [Int.bmod_eq_of_le (by omega) (by omega)]
  omega
theorem fdiv_flr {x y : Int64} (hy : 0 < y) : fdiv x y = flr x y := by
  obtain ⟨h1, h2, h3⟩ := l_div (x := x) hy
  have hy2 : 0 < y.toInt := (fa_lt64' 0 y).mp hy
  have he : y.toInt * x.toInt.tdiv y.toInt + x.toInt.tmod y.toInt = x.toInt := Int.mul_tdiv_add_tmod _ _
  unfold fdiv flr
  have e : ((x ^^^ y) < 0 ∧ x / y * y ≠ x) ↔ x - x / y * y < 0 := by
    rw [l_xor0 hy, l_lt0, l_lt0, h3]
    have hne : x / y * y ≠ x ↔ x.toInt.tmod y.toInt ≠ 0 := by
      rw [ne_eq, ← Int64.toInt_inj, h2]
      omega
    rw [hne]
    constructor
    · rintro ⟨a, b⟩
      have := Int.tmod_nonneg (a := -x.toInt) y.toInt (by omega)
      rw [Int.neg_tmod] at this
      omega
    · intro a
      refine ⟨?_, by omega⟩
      apply Int.not_le.mp
      intro h
      have := Int.tmod_nonneg y.toInt h
      omega
  by_cases hc : x - x / y * y < 0
  · rw [if_pos hc, if_pos (e.mpr hc)]
  · rw [if_neg hc, if_neg (fun h => hc (e.mp h))]
set_option maxRecDepth 20000 in
theorem r_gain {g : GE} {M : Mem} {sz : Nat} {t : Nat} {f : Nat → Int32} {p : Int32} {σ : Nat → Int32} (hR : RW g M) (hT : TW g M t f p) (hσ : TabR f p σ) {x : Int32} (r : Nat) (hx : x = nI r) (hr : r < 37) (hI : I10 σ) (ht : thr σ r = true) : Run g m_X3_gain [rf g 85, rf g t, .int x] M sz 0 0 (Ret (some (.long (gainS σ r))) M) := by
  obtain ⟨n, n1, n2, n3⟩ := prodS_pos hI hr ht false
  have hp : 0 < prodS σ r false := by rw [n3]; exact lN_gt0 n1 (by omega)
  refine Run.of rfl (by decide) (Nat.le_of_ble_eq_true rfl) ?_
  show V g m_X3_gain 0 _ [] _ _ _ _ _
  refine V_aload_n 0 dX3_gain_0 rfl ?_
  refine V_aload_n 1 dX3_gain_1 rfl ?_
  refine V_iload_n 2 dX3_gain_2 rfl ?_
  refine V_iconst (v := 1) dX3_gain_3 rfl ?_
  refine C_X3_61 hR.1 rfl ⟨Nat.le_of_ble_eq_true rfl, Nat.le_of_ble_eq_true rfl⟩ (r_product hR hT hσ r hx hr true rfl) rfl (Nat.le_of_ble_eq_true rfl) dX3_gain_4 rfl ?_
  refine V_lstore_n (lv2 := [(3, .long _), (0, .ref _), (1, .ref _), (2, .int _)]) dX3_gain_7 (Nat.le_of_ble_eq_true rfl) rfl ?_
  refine V_aload_n 1 dX3_gain_8 rfl ?_
  refine V_pc (pc2 := 9) rfl ?_
  refine V_aload_n 2 dX3_gain_9 rfl ?_
  refine V_iload_n 3 dX3_gain_10 rfl ?_
  refine V_iconst (v := 0) dX3_gain_11 rfl ?_
  refine C_X3_61 hR.1 rfl ⟨Nat.le_of_ble_eq_true rfl, Nat.le_of_ble_eq_true rfl⟩ (r_product hR hT hσ r hx hr false rfl) rfl (Nat.le_of_ble_eq_true rfl) dX3_gain_12 rfl ?_
  refine V_lstore (lv2 := [(5, .long _), (3, .long _), (0, .ref _), (1, .ref _), (2, .int _)]) dX3_gain_15 (Nat.le_of_ble_eq_true rfl) rfl ?_
  refine V_lload 0 dX3_gain_17 rfl ?_
  refine V_lconst (v := 0) dX3_gain_19 rfl ?_
  refine V_lcmp dX3_gain_20 ?_
  refine V_pc (pc2 := 21) rfl ?_
  refine V_if_le (tgt := 40) dX3_gain_21 (by decide) (fun c21 => absurd c21 (Int32.not_le.mpr (lgc_gt.mpr hp))) (fun c21 => ?_)
  refine V_lload_n 1 dX3_gain_24 rfl ?_
  refine V_lload 0 dX3_gain_25 rfl ?_
  refine V_lsub dX3_gain_27 ?_
  refine V_ldc2 z_X3_65 dX3_gain_28 ?_
  refine V_lmul dX3_gain_31 ?_
  refine V_lload 0 dX3_gain_32 rfl ?_
  refine C_X3_67 rfl ⟨Nat.le_of_ble_eq_true rfl, Nat.le_of_ble_eq_true rfl⟩ (r_floorDiv _ _ (fun e => absurd hp (by rw [e]; decide))) rfl (Nat.le_of_ble_eq_true rfl) dX3_gain_34 rfl ?_
  refine V_pc (pc2 := 37) rfl ?_
  refine V_goto (tgt := 41) dX3_gain_37 (by decide) ?_
  refine V_lret (st := []) dX3_gain_41 rfl ?_
  exact ⟨by rw [fdiv_flr hp]; rfl, rfl⟩
set_option maxRecDepth 20000 in
theorem r_isOff {g : GE} {M : Mem} {sz : Nat} {t : Nat} {f : Nat → Int32} {p : Int32} {σ : Nat → Int32} (hR : RW g M) (hT : TW g M t f p) (hσ : TabR f p σ) {x : Int32} (r : Nat) (hx : x = nI r) (hr : r < 37) (hI : I10 σ) (ht : thr σ r = true) {b : Int32} (hb : b = σ 25) : Run g m_X3_isOff [rf g 85, rf g t, .int x, .int b] M sz 0 0 (Ret (some (.int (bI (offS σ r)))) M) := by
  refine Run.of rfl (by decide) (Nat.le_of_ble_eq_true rfl) ?_
  show V g m_X3_isOff 0 _ [] _ _ _ _ _
  refine V_aload_n 0 dX3_isOff_0 rfl ?_
  refine V_aload_n 1 dX3_isOff_1 rfl ?_
  refine V_iload_n 2 dX3_isOff_2 rfl ?_
  refine C_X3_73 hR.1 rfl ⟨Nat.le_of_ble_eq_true rfl, Nat.le_of_ble_eq_true rfl⟩ (r_gain hR hT hσ r hx hr hI ht) rfl (Nat.le_of_ble_eq_true rfl) dX3_isOff_3 rfl ?_
  refine C_X3_77 rfl ⟨Nat.le_of_ble_eq_true rfl, Nat.le_of_ble_eq_true rfl⟩ (r_labs _) rfl (Nat.le_of_ble_eq_true rfl) dX3_isOff_6 rfl ?_
  refine V_iload_n 3 dX3_isOff_9 rfl ?_
  refine V_i2l dX3_isOff_10 ?_
  refine V_pc (pc2 := 11) rfl ?_
  refine V_lcmp dX3_isOff_11 ?_
  refine V_if_le (tgt := 19) dX3_isOff_12 (by decide) (fun c12 => ?_) (fun c12 => ?_)
  · refine V_iconst (v := 0) dX3_isOff_19 rfl ?_
    refine V_zret (st := []) dX3_isOff_20 rfl (by simp) ?_
    refine ⟨?_, rfl⟩; unfold offS; rw [← hb, decide_eq_false (fun h => absurd (lgc_gt.mpr h) (Int32.not_lt.mpr c12))]; rfl
  · refine V_iconst (v := 1) dX3_isOff_15 rfl ?_
    refine V_goto (tgt := 20) dX3_isOff_16 (by decide) ?_
    refine V_zret (st := []) dX3_isOff_20 rfl (by simp) ?_
    refine ⟨?_, rfl⟩; unfold offS; rw [← hb, decide_eq_true (lgc_gt.mp (Int32.not_le.mp c12))]; rfl
set_option maxRecDepth 20000 in
theorem r_off {g : GE} {M : Mem} {sz : Nat} {t : Nat} {f : Nat → Int32} {p : Int32} {σ : Nat → Int32} (hR : RW g M) (hT : TW g M t f p) (hσ : TabR f p σ) (hI : I10 σ) {b : Int32} (hb : b = σ 25) : Run g m_X3_off [rf g 85, rf g t, .int b] M sz 0 0 (Ret (some (.int (nI (cnt (fun r => thr σ r && offS σ r) 37)))) M) := by
  have L : ∀ m i : Nat, i + m = 37 → V g m_X3_off 5 [(4, .int (nI i)), (3, .int (nI (cnt (fun r => thr σ r && offS σ r) i))), (0, rf g 85), (1, rf g t), (2, .int b)] [] M sz 0 0 (Ret (some (.int (nI (cnt (fun r => thr σ r && offS σ r) 37)))) M) := by
    intro m
    induction m with
    | zero =>
      intro i hi
      obtain rfl : i = 37 := by omega
      refine V_iload 0 dX3_off_5 rfl ?_
      refine V_bipush (v := 37) dX3_off_7 (by decide) ?_
      refine V_icmp_ge (tgt := 42) dX3_off_9 (by decide) (fun c9 => ?_) (fun c9 => absurd (by decide) c9)
      refine V_iload_n 1 dX3_off_42 rfl ?_
      refine V_iret (st := []) dX3_off_43 rfl ?_
      exact ⟨rfl, rfl⟩
    | succ m ih =>
      intro i hi
      have hlt : i < 37 := by omega
      refine V_iload 0 dX3_off_5 rfl ?_
      refine V_bipush (v := 37) dX3_off_7 (by decide) ?_
      refine V_icmp_ge (tgt := 42) dX3_off_9 (by decide) (fun c9 => absurd c9 (nI_ge (b := 37) hlt (by decide))) (fun c9 => ?_)
      refine V_aload_n 2 dX3_off_12 rfl ?_
      refine V_aload_n 3 dX3_off_13 rfl ?_
      refine V_iload 0 dX3_off_14 rfl ?_
      refine C_X3_50 hR.1 rfl ⟨Nat.le_of_ble_eq_true rfl, Nat.le_of_ble_eq_true rfl⟩ (r_stands hR hT hσ i rfl hlt) rfl (Nat.le_of_ble_eq_true rfl) dX3_off_16 rfl ?_
      refine V_pc (pc2 := 19) rfl ?_
      refine V_if_eq (tgt := 36) dX3_off_19 (by decide) (fun c19 => ?_) (fun c19 => ?_)
      · refine V_iinc (v := _ + 1) (lv2 := [(4, .int _), (3, .int _), (0, .ref _), (1, .ref _), (2, .int _)]) 0 dX3_off_36 rfl rfl (Nat.le_of_ble_eq_true rfl) rfl ?_
        refine V_goto (tgt := 5) dX3_off_39 (by decide) ?_
        refine V_lv (lv2 := [(4, .int _), (3, .int _), (0, .ref _), (1, .ref _), (2, .int _)]) [0, 1, 2, 3, 4] rfl ?_
        have e9 := cnt_f (p := (fun r => thr σ r && offS σ r)) (show (thr σ i && offS σ i) = false by rw [bI_0 c19, Bool.false_and])
        rw [nI_1]
        have e := ih (i + 1) (by omega)
        rw [e9] at e
        exact e
      · refine V_aload_n 2 dX3_off_22 rfl ?_
        refine V_aload_n 3 dX3_off_23 rfl ?_
        refine V_iload 0 dX3_off_24 rfl ?_
        refine V_iload_n 4 dX3_off_26 rfl ?_
        refine C_X3_81 hR.1 rfl ⟨Nat.le_of_ble_eq_true rfl, Nat.le_of_ble_eq_true rfl⟩ (r_isOff hR hT hσ i rfl hlt hI (bI_1 c19) hb) rfl (Nat.le_of_ble_eq_true rfl) dX3_off_27 rfl ?_
        refine V_if_eq (tgt := 36) dX3_off_30 (by decide) (fun c30 => ?_) (fun c30 => ?_)
        · refine V_iinc (v := _ + 1) (lv2 := [(4, .int _), (3, .int _), (0, .ref _), (1, .ref _), (2, .int _)]) 0 dX3_off_36 rfl rfl (Nat.le_of_ble_eq_true rfl) rfl ?_
          refine V_goto (tgt := 5) dX3_off_39 (by decide) ?_
          refine V_lv (lv2 := [(4, .int _), (3, .int _), (0, .ref _), (1, .ref _), (2, .int _)]) [0, 1, 2, 3, 4] rfl ?_
          have e9 := cnt_f (p := (fun r => thr σ r && offS σ r)) (show (thr σ i && offS σ i) = false by rw [bI_1 c19, Bool.true_and]; exact bI_0 c30)
          rw [nI_1]
          have e := ih (i + 1) (by omega)
          rw [e9] at e
          exact e
        · refine V_iinc (v := _ + 1) (lv2 := [(3, .int _), (4, .int _), (0, .ref _), (1, .ref _), (2, .int _)]) 1 dX3_off_33 rfl rfl (Nat.le_of_ble_eq_true rfl) rfl ?_
          refine V_iinc (v := _ + 1) (lv2 := [(4, .int _), (3, .int _), (0, .ref _), (1, .ref _), (2, .int _)]) 1 dX3_off_36 rfl rfl (Nat.le_of_ble_eq_true rfl) rfl ?_
          refine V_goto (tgt := 5) dX3_off_39 (by decide) ?_
          refine V_lv (lv2 := [(4, .int _), (3, .int _), (0, .ref _), (1, .ref _), (2, .int _)]) [0, 1, 2, 3, 4] rfl ?_
          have e9 := cnt_t (p := (fun r => thr σ r && offS σ r)) (show (thr σ i && offS σ i) = true by rw [bI_1 c19, Bool.true_and]; exact bI_1 c30)
          rw [nI_1, nI_1]
          have e := ih (i + 1) (by omega)
          rw [e9] at e
          exact e
  refine Run.of rfl (by decide) (Nat.le_of_ble_eq_true rfl) ?_
  show V g m_X3_off 0 _ [] _ _ _ _ _
  refine V_iconst (v := 0) dX3_off_0 rfl ?_
  refine V_istore_n (lv2 := [(3, .int _), (0, .ref _), (1, .ref _), (2, .int _)]) dX3_off_1 (Nat.le_of_ble_eq_true rfl) rfl ?_
  refine V_iconst (v := 0) dX3_off_2 rfl ?_
  refine V_istore (lv2 := [(4, .int _), (3, .int _), (0, .ref _), (1, .ref _), (2, .int _)]) dX3_off_3 (Nat.le_of_ble_eq_true rfl) rfl ?_
  refine V_lv (lv2 := [(4, .int _), (3, .int _), (0, .ref _), (1, .ref _), (2, .int _)]) [0, 1, 2, 3, 4] rfl ?_
  exact L 37 0 rfl
/-- the first of m places from i on that has P -/
def fnd (P : Nat → Bool) : Nat → Nat → Option Nat
  | _, 0 => none
  | i, m + 1 => if P i then some i else fnd P (i + 1) m
theorem fnd_t {P : Nat → Bool} {i m : Nat} (h : P i = true) : fnd P i (m + 1) = some i := if_pos h
theorem fnd_f {P : Nat → Bool} {i m : Nat} (h : P i = false) : fnd P i (m + 1) = fnd P (i + 1) m := if_neg (by rw [h]; decide)
theorem fnd_some {P : Nat → Bool} : ∀ {m i r : Nat}, fnd P i m = some r → P r = true ∧ i ≤ r ∧ r < i + m
  | 0, i, r, h => by cases h
  | m + 1, i, r, h => by
    cases hp : P i with
    | true => rw [fnd_t hp] at h; cases h; exact ⟨hp, Nat.le_refl _, by omega⟩
    | false =>
      rw [fnd_f hp] at h
      obtain ⟨h1, h2, h3⟩ := fnd_some h
      exact ⟨h1, by omega, by omega⟩
def optI : Option Nat → Int32
  | none => -1
  | some r => nI r
/-- the ring at a place -/
def atS (σ : Nat → Int32) (q : Nat) (r : Nat) : Bool := thr σ r && (cnt (thr σ) r == q)
set_option maxRecDepth 20000 in
theorem r_standingAt {g : GE} {M : Mem} {sz : Nat} {t : Nat} {f : Nat → Int32} {p : Int32} {σ : Nat → Int32} (hR : RW g M) (hT : TW g M t f p) (hσ : TabR f p σ) {x : Int32} (q : Nat) (hx : x = nI q) (hq : q < 2 ^ 31) : Run g m_X3_standingAt [rf g 85, rf g t, .int x] M sz 0 0 (Ret (some (.int (optI (fnd (atS σ q) 0 37)))) M) := by
  subst hx
  have L : ∀ m i : Nat, i + m = 37 → V g m_X3_standingAt 5 [(4, .int (nI i)), (3, .int (nI (cnt (thr σ) i))), (0, rf g 85), (1, rf g t), (2, .int (nI q))] [] M sz 0 0 (Ret (some (.int (optI (fnd (atS σ q) i m)))) M) := by
    intro m
    induction m with
    | zero =>
      intro i hi
      obtain rfl : i = 37 := by omega
      refine V_iload 0 dX3_standingAt_5 rfl ?_
      refine V_bipush (v := 37) dX3_standingAt_7 (by decide) ?_
      refine V_icmp_ge (tgt := 39) dX3_standingAt_9 (by decide) (fun c9 => ?_) (fun c9 => absurd (by decide) c9)
      refine V_iconst (v := -1) dX3_standingAt_39 rfl ?_
      refine V_iret (st := []) dX3_standingAt_40 rfl ?_
      exact ⟨rfl, rfl⟩
    | succ m ih =>
      intro i hi
      have hlt : i < 37 := by omega
      have hc := cnt_le (thr σ) i
      refine V_iload 0 dX3_standingAt_5 rfl ?_
      refine V_bipush (v := 37) dX3_standingAt_7 (by decide) ?_
      refine V_icmp_ge (tgt := 39) dX3_standingAt_9 (by decide) (fun c9 => absurd c9 (nI_ge (b := 37) hlt (by decide))) (fun c9 => ?_)
      refine V_aload_n 2 dX3_standingAt_12 rfl ?_
      refine V_aload_n 3 dX3_standingAt_13 rfl ?_
      refine V_iload 0 dX3_standingAt_14 rfl ?_
      refine C_X3_50 hR.1 rfl ⟨Nat.le_of_ble_eq_true rfl, Nat.le_of_ble_eq_true rfl⟩ (r_stands hR hT hσ i rfl hlt) rfl (Nat.le_of_ble_eq_true rfl) dX3_standingAt_16 rfl ?_
      refine V_pc (pc2 := 19) rfl ?_
      refine V_if_eq (tgt := 33) dX3_standingAt_19 (by decide) (fun c19 => ?_) (fun c19 => ?_)
      · refine V_iinc (v := _ + 1) (lv2 := [(4, .int _), (3, .int _), (0, .ref _), (1, .ref _), (2, .int _)]) 0 dX3_standingAt_33 rfl rfl (Nat.le_of_ble_eq_true rfl) rfl ?_
        refine V_goto (tgt := 5) dX3_standingAt_36 (by decide) ?_
        refine V_lv (lv2 := [(4, .int _), (3, .int _), (0, .ref _), (1, .ref _), (2, .int _)]) [0, 1, 2, 3, 4] rfl ?_
        have e9 := cnt_f (bI_0 c19)
        rw [nI_1]
        have e := ih (i + 1) (by omega)
        rw [e9] at e
        rw [fnd_f (by unfold atS; rw [bI_0 c19]; rfl)]
        exact e
      · refine V_iload_n 1 dX3_standingAt_22 rfl ?_
        refine V_iload_n 4 dX3_standingAt_23 rfl ?_
        refine V_icmp_ne (tgt := 30) dX3_standingAt_24 (by decide) (fun c24 => ?_) (fun c24 => ?_)
        · refine V_iinc (v := _ + 1) (lv2 := [(3, .int _), (4, .int _), (0, .ref _), (1, .ref _), (2, .int _)]) 1 dX3_standingAt_30 rfl rfl (Nat.le_of_ble_eq_true rfl) rfl ?_
          refine V_iinc (v := _ + 1) (lv2 := [(4, .int _), (3, .int _), (0, .ref _), (1, .ref _), (2, .int _)]) 1 dX3_standingAt_33 rfl rfl (Nat.le_of_ble_eq_true rfl) rfl ?_
          refine V_goto (tgt := 5) dX3_standingAt_36 (by decide) ?_
          refine V_lv (lv2 := [(4, .int _), (3, .int _), (0, .ref _), (1, .ref _), (2, .int _)]) [0, 1, 2, 3, 4] rfl ?_
          have e9 := cnt_t (bI_1 c19)
          rw [nI_1, nI_1]
          have e := ih (i + 1) (by omega)
          rw [e9] at e
          rw [fnd_f (by unfold atS; rw [bI_1 c19, Bool.true_and]; exact beq_false_of_ne (fun e => c24 (by rw [e])))]
          exact e
        · refine V_iload 0 dX3_standingAt_27 rfl ?_
          refine V_iret (st := []) dX3_standingAt_29 rfl ?_
          exact ⟨by rw [fnd_t (show atS σ q i = true by unfold atS; rw [bI_1 c19, (nI_eq (by omega) hq).mp c24, Bool.true_and]; exact beq_self_eq_true _)]; rfl, rfl⟩
  refine Run.of rfl (by decide) (Nat.le_of_ble_eq_true rfl) ?_
  show V g m_X3_standingAt 0 _ [] _ _ _ _ _
  refine V_iconst (v := 0) dX3_standingAt_0 rfl ?_
  refine V_istore_n (lv2 := [(3, .int _), (0, .ref _), (1, .ref _), (2, .int _)]) dX3_standingAt_1 (Nat.le_of_ble_eq_true rfl) rfl ?_
  refine V_iconst (v := 0) dX3_standingAt_2 rfl ?_
  refine V_istore (lv2 := [(4, .int _), (3, .int _), (0, .ref _), (1, .ref _), (2, .int _)]) dX3_standingAt_3 (Nat.le_of_ble_eq_true rfl) rfl ?_
  refine V_lv (lv2 := [(4, .int _), (3, .int _), (0, .ref _), (1, .ref _), (2, .int _)]) [0, 1, 2, 3, 4] rfl ?_
  exact L 37 0 rfl
/-- a ring whose product isn't 1 -/
def badS (σ : Nat → Int32) (r : Nat) : Bool := thr σ r && !(prodS σ r true == prodS σ r false)
set_option maxRecDepth 20000 in
theorem r_areSound {g : GE} {M : Mem} {sz : Nat} {t : Nat} {f : Nat → Int32} {p : Int32} {σ : Nat → Int32} (hR : RW g M) (hT : TW g M t f p) (hσ : TabR f p σ) : Run g m_X3_areSound [rf g 85, rf g t] M sz 0 0 (Ret (some (.int (bI (fnd (badS σ) 0 37).isNone))) M) := by
  have L : ∀ m i : Nat, i + m = 37 → V g m_X3_areSound 2 [(2, .int (nI i)), (0, rf g 85), (1, rf g t)] [] M sz 0 0 (Ret (some (.int (bI (fnd (badS σ) i m).isNone))) M) := by
    intro m
    induction m with
    | zero =>
      intro i hi
      obtain rfl : i = 37 := by omega
      refine V_iload_n 0 dX3_areSound_2 rfl ?_
      refine V_bipush (v := 37) dX3_areSound_3 (by decide) ?_
      refine V_icmp_ge (tgt := 43) dX3_areSound_5 (by decide) (fun c5 => ?_) (fun c5 => absurd (by decide) c5)
      refine V_iconst (v := 1) dX3_areSound_43 rfl ?_
      refine V_zret (st := []) dX3_areSound_44 rfl (by simp) ?_
      exact ⟨rfl, rfl⟩
    | succ m ih =>
      intro i hi
      have hlt : i < 37 := by omega
      refine V_iload_n 0 dX3_areSound_2 rfl ?_
      refine V_bipush (v := 37) dX3_areSound_3 (by decide) ?_
      refine V_icmp_ge (tgt := 43) dX3_areSound_5 (by decide) (fun c5 => absurd c5 (nI_ge (b := 37) hlt (by decide))) (fun c5 => ?_)
      refine V_aload_n 1 dX3_areSound_8 rfl ?_
      refine V_aload_n 2 dX3_areSound_9 rfl ?_
      refine V_iload_n 0 dX3_areSound_10 rfl ?_
      refine C_X3_50 hR.1 rfl ⟨Nat.le_of_ble_eq_true rfl, Nat.le_of_ble_eq_true rfl⟩ (r_stands hR hT hσ i rfl hlt) rfl (Nat.le_of_ble_eq_true rfl) dX3_areSound_11 rfl ?_
      refine V_pc (pc2 := 14) rfl ?_
      refine V_if_eq (tgt := 37) dX3_areSound_14 (by decide) (fun c14 => ?_) (fun c14 => ?_)
      · refine V_iinc (v := _ + 1) (lv2 := [(2, .int _), (0, .ref _), (1, .ref _)]) 0 dX3_areSound_37 rfl rfl (Nat.le_of_ble_eq_true rfl) rfl ?_
        refine V_goto (tgt := 2) dX3_areSound_40 (by decide) ?_
        refine V_lv (lv2 := [(2, .int _), (0, .ref _), (1, .ref _)]) [0, 1, 2] rfl ?_
        rw [nI_1]
        have e := ih (i + 1) (by omega)
        rw [fnd_f (by unfold badS; rw [bI_0 c14]; rfl)]
        exact e
      · refine V_aload_n 1 dX3_areSound_17 rfl ?_
        refine V_aload_n 2 dX3_areSound_18 rfl ?_
        refine V_iload_n 0 dX3_areSound_19 rfl ?_
        refine V_iconst (v := 1) dX3_areSound_20 rfl ?_
        refine C_X3_61 hR.1 rfl ⟨Nat.le_of_ble_eq_true rfl, Nat.le_of_ble_eq_true rfl⟩ (r_product hR hT hσ i rfl hlt true rfl) rfl (Nat.le_of_ble_eq_true rfl) dX3_areSound_21 rfl ?_
        refine V_aload_n 1 dX3_areSound_24 rfl ?_
        refine V_aload_n 2 dX3_areSound_25 rfl ?_
        refine V_pc (pc2 := 26) rfl ?_
        refine V_iload_n 0 dX3_areSound_26 rfl ?_
        refine V_iconst (v := 0) dX3_areSound_27 rfl ?_
        refine C_X3_61 hR.1 rfl ⟨Nat.le_of_ble_eq_true rfl, Nat.le_of_ble_eq_true rfl⟩ (r_product hR hT hσ i rfl hlt false rfl) rfl (Nat.le_of_ble_eq_true rfl) dX3_areSound_28 rfl ?_
        refine V_lcmp dX3_areSound_31 ?_
        refine V_if_eq (tgt := 37) dX3_areSound_32 (by decide) (fun c32 => ?_) (fun c32 => ?_)
        · refine V_iinc (v := _ + 1) (lv2 := [(2, .int _), (0, .ref _), (1, .ref _)]) 0 dX3_areSound_37 rfl rfl (Nat.le_of_ble_eq_true rfl) rfl ?_
          refine V_goto (tgt := 2) dX3_areSound_40 (by decide) ?_
          refine V_lv (lv2 := [(2, .int _), (0, .ref _), (1, .ref _)]) [0, 1, 2] rfl ?_
          rw [nI_1]
          have e := ih (i + 1) (by omega)
          rw [fnd_f (by unfold badS; rw [bI_1 c14, lgc_eq.mp c32]; simp)]
          exact e
        · refine V_iconst (v := 0) dX3_areSound_35 rfl ?_
          refine V_zret (st := []) dX3_areSound_36 rfl (by simp) ?_
          exact ⟨by rw [fnd_t (show badS σ i = true by unfold badS; rw [bI_1 c14, beq_false_of_ne (fun e => c32 (lgc_eq.mpr e))]; rfl)]; rfl, rfl⟩
  refine Run.of rfl (by decide) (Nat.le_of_ble_eq_true rfl) ?_
  show V g m_X3_areSound 0 _ [] _ _ _ _ _
  refine V_iconst (v := 0) dX3_areSound_0 rfl ?_
  refine V_istore_n (lv2 := [(2, .int _), (0, .ref _), (1, .ref _)]) dX3_areSound_1 (Nat.le_of_ble_eq_true rfl) rfl ?_
  refine V_lv (lv2 := [(2, .int _), (0, .ref _), (1, .ref _)]) [0, 1, 2] rfl ?_
  exact L 37 0 rfl
