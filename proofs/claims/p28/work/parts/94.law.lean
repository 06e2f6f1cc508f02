/-! the law: two lands with the same calls -/
def TWO (g : GE) (M : Mem) (S Sq : LndS) (l lq : Nat) : Prop := (∃ tx, CS g M S l tx) ∧ (∃ tx, CS (gs 96 g) (shM 96 M) Sq lq tx) ∧ l ≤ 60 ∧ lq ≤ 60
theorem sh_jn (d : Nat) (M M1 : Mem) : shM d (jnM d M M1) = M1 := by
  funext k
  show (if d + k < d then M (d + k) else M1 (d + k - d)) = M1 k
  rw [if_neg (by omega), Nat.add_sub_cancel_left]
section
variable {g : GE} {M : Mem} {S Sq S2 : LndS} {l lq l2 sz : Nat}
theorem TWO.o (h : TWO g M S Sq l lq) {M2 : Mem} (k : ∃ tx, CS g M2 S2 l2 tx) (hl : l2 ≤ 60) (hF : FR M M2 0 96) : TWO g M2 S2 Sq l2 lq := ⟨k, by rw [show shM 96 M2 = shM 96 M from funext (fun j => hF _ (Or.inr (by omega)))]; exact h.2.1, hl, h.2.2.2⟩
theorem TWO.q (h : TWO g M S Sq l lq) {M2 : Mem} (k : ∃ tx, CS (gs 96 g) M2 S2 l2 tx) (hl : l2 ≤ 60) : TWO g (jnM 96 M M2) S S2 l l2 := by
  refine ⟨?_, by rw [sh_jn]; exact k, h.2.2.1, hl⟩
  obtain ⟨tx, w⟩ := h.1
  exact ⟨tx, CW.fr w (fun k hk => if_pos hk)⟩
theorem TWO.at0 (h : TWO g M S Sq l lq) : ∃ fs, M 0 = some (eO 8 fs) := ⟨_, h.1.choose_spec.1⟩
theorem TWO.at96 (h : TWO g M S Sq l lq) : ∃ fs, M 96 = some (eO 8 fs) := ⟨_, h.2.1.choose_spec.1⟩
theorem TWO.runo (h : TWO g M S Sq l lq) {y : MT} {As : List Value} {mc ms : Nat} {r : Option Value} {P : (Nat → Int32) → Mem → Prop} {P2 : Mem → Prop} (k : ∀ tx, CS g M S l tx → Run g y (rf g 0 :: As) M sz mc ms (RetP r (P tx))) (hP : ∀ tx M2, P tx M2 → P2 M2) : Run g y (rf g 0 :: As) M sz mc ms (RetP r P2) := by
  obtain ⟨tx, w⟩ := h.1
  exact (k tx w).mono (fun o M2 q => ⟨q.1, hP tx M2 q.2⟩)
theorem TWO.runq (h : TWO g M S Sq l lq) (hz : 96 ≤ sz) {y : MT} {As : List Value} {mc ms : Nat} {r : Option Value} {P : (Nat → Int32) → Mem → Prop} {P2 : Mem → Prop} (k : ∀ tx, CS (gs 96 g) (shM 96 M) Sq lq tx → Run (gs 96 g) y (rf (gs 96 g) 0 :: As) (shM 96 M) (sz - 96) mc ms (RetP r (P tx))) (hP : ∀ tx M2, P tx M2 → P2 (jnM 96 M M2)) : Run g y (rf g 96 :: As) M sz mc ms (RetP r P2) := by
  obtain ⟨tx, w⟩ := h.2.1
  obtain ⟨fs, he⟩ := h.at96
  have r0 := (Run.shift (sz := sz - 96) 96 he (k tx w)).mono (Q' := RetP r P2) (fun o M1 q => by
    obtain ⟨M2, ⟨q1, q2⟩, q3⟩ := q
    rw [q3]
    exact ⟨q1, hP tx M2 q2⟩)
  rw [show 96 + (sz - 96) = sz by omega] at r0
  exact r0
def actF (c : Int32) (S S2 : LndS) (r : Int32) : Prop := ∀ (g : GE) (M : Mem) (sz len : Nat) (tx : Nat → Int32), len ≤ 60 → CS g M S len tx → Run g m_L_acts [rf g 0, .int c] M sz 40 240 (RetP (some (.int r)) (fun M2 => (∃ len2 tx2, len2 ≤ 60 ∧ CS g M2 S2 len2 tx2) ∧ FR M M2 0 96))
theorem t_acts_o (h : TWO g M S Sq l lq) {c r : Int32} (hA : actF c S S2 r) : Run g m_L_acts [rf g 0, .int c] M sz 40 240 (RetP (some (.int r)) (fun M2 => ∃ l2, TWO g M2 S2 Sq l2 lq)) :=
  h.runo (fun tx w => hA g M sz l tx h.2.2.1 w) (fun _ M2 q => by
    obtain ⟨⟨l2, t2, hl, k⟩, hF⟩ := q
    exact ⟨l2, h.o ⟨t2, k⟩ hl hF⟩)
theorem t_acts_q (h : TWO g M S Sq l lq) (hz : 96 ≤ sz) {c r : Int32} (hA : actF c Sq S2 r) : Run g m_L_acts [rf g 96, .int c] M sz 40 240 (RetP (some (.int r)) (fun M2 => ∃ l2, TWO g M2 S S2 l l2)) :=
  h.runq hz (fun tx w => hA (gs 96 g) _ _ lq tx h.2.2.2 w) (fun _ M2 q => by
    obtain ⟨⟨l2, t2, hl, k⟩, hF⟩ := q
    exact ⟨l2, h.q ⟨t2, k⟩ hl⟩)
theorem t_refuses (h : TWO g M S Sq l lq) (hz : 96 ≤ sz) {T : Nat} (hL : LOK T Sq) {y : Nat} (hy : y < 100000) : Run g m_L_refuses [rf g 96, .int (nI y)] M sz 60 360 (RetP (some (.int 1)) (fun M2 => ∃ l2, TWO g M2 S Sq l l2)) :=
  h.runq hz (fun tx w => refuses_ok hL hy h.2.2.2 w) (fun _ M2 q => by
    obtain ⟨⟨l2, t2, hl, k⟩, hF⟩ := q
    exact ⟨l2, h.q ⟨t2, k⟩ hl⟩)
theorem t_hangs_o (h : TWO g M S Sq l lq) {T : Nat} (hL : LOK T S) (hT : T < 2 ^ 30) : Run g m_L_hangs [rf g 0] M sz 0 0 (RetP (some (.int 1)) (fun M2 => TWO g M2 S Sq l lq)) :=
  h.runo (fun tx w => hangs_ok hL hT w) (fun _ M2 q => h.o ⟨_, q.1⟩ h.2.2.1 q.2)
theorem t_hangs_q (h : TWO g M S Sq l lq) (hz : 96 ≤ sz) {T : Nat} (hL : LOK T Sq) (hT : T < 2 ^ 30) : Run g m_L_hangs [rf g 96] M sz 0 0 (RetP (some (.int 1)) (fun M2 => TWO g M2 S Sq l lq)) :=
  h.runq hz (fun tx w => hangs_ok hL hT w) (fun _ M2 q => h.q ⟨_, q.1⟩ h.2.2.2)
theorem x_cnt17 {σ τ : Nat → Int32} {hk : Bool} {n : Nat} {ps : Nat → Nat → Int32} {len : Nat} {tx : Nat → Int32} (w : CW g M σ τ hk n ps len tx) (hI : IS σ) : Run g m_L_count [rf g 0, .int 17] M sz 0 0 (RetP (some (.int (nI n))) (fun M2 => CW g M2 σ τ hk n ps len tx ∧ FR M M2 0 96)) := by
  obtain ⟨mb, hm8, hm, _⟩ := hI.2.1
  exact h_count_ok w.1 (x_count_ok w hI.1 mb hm hm8 17 (by decide) rfl)
theorem t_count_o (h : TWO g M S Sq l lq) (hI : IS S.1) : Run g m_L_count [rf g 0, .int 17] M sz 0 0 (RetP (some (.int (nI S.2.2.2.1))) (fun M2 => TWO g M2 S Sq l lq)) :=
  h.runo (fun tx w => x_cnt17 w hI) (fun _ M2 q => h.o ⟨_, q.1⟩ h.2.2.1 q.2)
theorem t_count_q (h : TWO g M S Sq l lq) (hz : 96 ≤ sz) (hI : IS Sq.1) : Run g m_L_count [rf g 96, .int 17] M sz 0 0 (RetP (some (.int (nI Sq.2.2.2.1))) (fun M2 => TWO g M2 S Sq l lq)) :=
  h.runq hz (fun tx w => x_cnt17 w hI) (fun _ M2 q => h.q ⟨_, q.1⟩ h.2.2.2)
theorem t_clear_o (h : TWO g M S Sq l lq) : Run g m_X8_clearBuffer [rf g 0] M sz 0 0 (RetP (some (.int (nI l))) (fun M2 => TWO g M2 S Sq 0 lq)) :=
  h.runo (fun tx w => x_clearBuffer_ok w) (fun _ M2 q => h.o ⟨_, q.1⟩ (by decide) q.2)
theorem t_clear_q (h : TWO g M S Sq l lq) (hz : 96 ≤ sz) : Run g m_X8_clearBuffer [rf g 96] M sz 0 0 (RetP (some (.int (nI lq))) (fun M2 => TWO g M2 S Sq l 0)) :=
  h.runq hz (fun tx w => x_clearBuffer_ok w) (fun _ M2 q => h.q ⟨_, q.1⟩ (by decide))
theorem foldN_z (f : Nat → Int64 → Int64) (i : Nat) (h : Int64) : foldN f 0 i h = h := rfl
theorem dg_0 (σ : Nat → Int32) (n K m : Nat) (tx tx2 : Nat → Int32) : dgS σ n K m 0 tx = dgS σ n K m 0 tx2 := by
  unfold dgS
  exact (foldN_z _ _ _).trans (foldN_z _ _ _).symm
/-- what the digest is, of an empty buffer -/
def digV (S : LndS) : Int64 := dgS S.1 S.2.2.2.1 (S.1 27).toNatClampNeg (S.1 60).toNatClampNeg 0 (fun _ => 0)
theorem x_dig {len : Nat} {tx : Nat → Int32} (w : CS g M S len tx) (hI : IS S.1) (h0 : len = 0) : Run g m_X8_digest [rf g 0] M sz 0 0 (RetP (some (.long (digV S))) (fun M2 => CS g M2 S len tx ∧ FR M M2 0 96)) := by
  obtain ⟨mb, hm8, hm, _⟩ := id hI.2.1
  obtain ⟨K, hK1, hK4, hK⟩ := hI.2.2.2.2.2.1
  subst h0
  unfold digV
  rw [hm, hK, nI_clamp (by omega), nI_clamp (by omega), dg_0 _ _ _ _ _ tx]
  exact x_digest_ok w hI.1 hK hK1 hK4 hm hm8 (by decide)
theorem t_dig_o (h : TWO g M S Sq 0 lq) (hI : IS S.1) : Run g m_X8_digest [rf g 0] M sz 0 0 (RetP (some (.long (digV S))) (fun M2 => TWO g M2 S Sq 0 lq)) :=
  h.runo (fun tx w => x_dig w hI rfl) (fun _ M2 q => h.o ⟨_, q.1⟩ (by decide) q.2)
theorem t_dig_q (h : TWO g M S Sq l 0) (hz : 96 ≤ sz) (hI : IS Sq.1) : Run g m_X8_digest [rf g 96] M sz 0 0 (RetP (some (.long (digV Sq))) (fun M2 => TWO g M2 S Sq l 0)) :=
  h.runq hz (fun tx w => x_dig w hI rfl) (fun _ M2 q => h.q ⟨_, q.1⟩ (by decide))
end
set_option maxRecDepth 20000 in
theorem cell_ok {g : GE} {M : Mem} {sz : Nat} (hN : gN g ≤ 260) (k : Nat) (hk : k < 100) : ∃ cn, cn < 2 ^ 31 ∧ Run g m_L_cell [.ref (gS g), .int (nI k)] M sz 0 0 (RetP (some (.int (nI cn))) (fun M2 => M2 = M)) := by
  obtain ⟨cn, h1, h2⟩ := pk_andE (if k < gN g then gx g k else 48271 * (nI k + 41) + 73) (m := 2147483647) 31 (by decide)
  refine ⟨cn, h1, ?_⟩
  rw [← h2]
  refine Run.of rfl (by decide) (Nat.le_of_ble_eq_true rfl) ?_
  show V g m_L_cell 0 _ [] _ _ _ _ _
  by_cases c : k < gN g
  · rw [if_pos c]
    refine V_iload_n 1 dL_cell_0 rfl ?_
    refine V_aload_n 0 dL_cell_1 rfl ?_
    refine V_slen dL_cell_2 ?_
    refine V_icmp_ge (tgt := 12) dL_cell_3 (by decide) (fun c3 => absurd c3 (by show ¬ Int32.ofNat (gN g) ≤ nI k; exact nI_ge (a := k) (b := gN g) c (by omega))) (fun c3 => ?_)
    refine V_aload_n 0 dL_cell_6 rfl ?_
    refine V_iload_n 1 dL_cell_7 rfl ?_
    refine V_sld (vp_in_nI c (by omega)) dL_cell_8 ?_
    have ek : (nI k).toNatClampNeg = k := nI_clamp (by omega)
    rw [ek]
    refine V_goto (tgt := 22) dL_cell_9 (by decide) ?_
    refine V_ldc z_L_8 dL_cell_22 ?_
    refine V_iand dL_cell_24 ?_
    refine V_iret (st := []) dL_cell_25 rfl ?_
    exact ⟨rfl, rfl⟩
  · rw [if_neg c]
    refine V_iload_n 1 dL_cell_0 rfl ?_
    refine V_aload_n 0 dL_cell_1 rfl ?_
    refine V_slen dL_cell_2 ?_
    refine V_icmp_ge (tgt := 12) dL_cell_3 (by decide) (fun c3 => ?_) (fun c3 => absurd (by show Int32.ofNat (gN g) ≤ nI k; exact nI_le (a := gN g) (b := k) (by omega) (by omega)) c3)
    refine V_ldc z_L_7 dL_cell_12 ?_
    refine V_iload_n 1 dL_cell_14 rfl ?_
    refine V_bipush (v := 41) dL_cell_15 (by decide) ?_
    refine V_pc (pc2 := 17) rfl ?_
    refine V_iadd dL_cell_17 ?_
    refine V_imul dL_cell_18 ?_
    refine V_bipush (v := 73) dL_cell_19 (by decide) ?_
    refine V_iadd dL_cell_21 ?_
    refine V_ldc z_L_8 dL_cell_22 ?_
    refine V_iand dL_cell_24 ?_
    refine V_iret (st := []) dL_cell_25 rfl ?_
    exact ⟨rfl, rfl⟩

set_option maxRecDepth 20000 in
theorem lw_1 {g : GE} {M : Mem} {sz kc ks : Nat} {Q : Ou → Mem → Prop} {S : LndS} {l lq : Nat} (hN : gN g ≤ 260) {k : Nat} (hk : k < 34) (h : TWO g M S S l lq) {T : Nat} (hL : LOK T S) (kk : ∀ (cn : Nat) (r : Int32) (S2 : LndS) (M1 : Mem) (l2 : Nat), cn < 2 ^ 31 → LOK (T + 61) S2 → actF (nI cn) S S2 r → TWO g M1 S2 S l2 lq → V g m_L_law 111 [(6, .int r), (5, .int (nI cn)), (4, .int (nI k)), (3, .int 1), (2, rf g 96), (1, rf g 0), (0, .ref (gS g))] [] M1 (sz + 40) kc ks Q) : V g m_L_law 95 [(4, .int (nI k)), (3, .int 1), (2, rf g 96), (1, rf g 0), (0, .ref (gS g))] [] M sz (kc + 40) (ks + 240) Q := by
  obtain ⟨cn, hcn, hc⟩ := cell_ok (M := M) (sz := sz) hN k (by omega)
  obtain ⟨r, S2, hL2, hA⟩ := acts_ok hL hcn
  have hA : actF (nI cn) S S2 r := hA
  refine V_aload_n 4 dL_law_95 rfl ?_
  refine V_iload 0 dL_law_96 rfl ?_
  refine Cq_L_154 (mc1 := 0) (ms1 := 0) rfl ⟨Nat.le_of_ble_eq_true rfl, Nat.le_of_ble_eq_true rfl⟩ (hc) rfl (Nat.le_of_ble_eq_true rfl) dL_law_98 rfl (fun _ h9 => ?_)
  cases h9
  refine V_istore (lv2 := [(5, .int _), (4, .int _), (3, .int _), (2, .ref _), (1, .ref _), (0, .ref _)]) dL_law_101 (Nat.le_of_ble_eq_true rfl) rfl ?_
  refine V_aload_n 4 dL_law_103 rfl ?_
  refine V_iload 0 dL_law_104 rfl ?_
  refine Cq_L_158 (mc1 := 40) (ms1 := 240) rfl ⟨Nat.le_of_ble_eq_true rfl, Nat.le_of_ble_eq_true rfl⟩ (t_acts_o h hA) rfl (Nat.le_of_ble_eq_true rfl) dL_law_106 rfl (fun _ h9 => ?_)
  obtain ⟨l2, h2⟩ := h9
  refine V_pc (pc2 := 109) rfl ?_
  refine V_istore (lv2 := [(6, .int _), (5, .int _), (4, .int _), (3, .int _), (2, .ref _), (1, .ref _), (0, .ref _)]) dL_law_109 (Nat.le_of_ble_eq_true rfl) rfl ?_
  refine V_lv (lv2 := [(6, .int _), (5, .int _), (4, .int _), (3, .int _), (2, .ref _), (1, .ref _), (0, .ref _)]) [0, 1, 2, 3, 4, 5, 6] rfl ?_
  exact kk cn r S2 _ l2 hcn hL2 hA h2

set_option maxRecDepth 20000 in
theorem lw_2a {g : GE} {M : Mem} {sz kc ks : Nat} {Q : Ou → Mem → Prop} {S Sq : LndS} {l lq : Nat} (h : TWO g M S Sq l lq) (hz : 96 ≤ sz) {k cn : Nat} (hk : k < 34) (h3 : k % 3 = 0) (hcn : cn < 2 ^ 31) {T : Nat} (hL : LOK T Sq) {r : Int32} (kk : ∀ M1 l2, TWO g M1 S Sq l l2 → V g m_L_law 130 [(6, .int r), (5, .int (nI cn)), (4, .int (nI k)), (3, .int 1), (2, rf g 96), (1, rf g 0), (0, .ref (gS g))] [] M1 (sz + 60) kc ks Q) : V g m_L_law 111 [(6, .int r), (5, .int (nI cn)), (4, .int (nI k)), (3, .int 1), (2, rf g 96), (1, rf g 0), (0, .ref (gS g))] [] M sz (kc + 60) (ks + 360) Q := by
  have e3 : nI k - nI k / 3 * 3 = nI (k % 3) := pk_rem (by omega) (by decide) (by decide)
  have ec : nI cn - nI cn / 100000 * 100000 = nI (cn % 100000) := pk_rem hcn (by decide) (by decide)
  refine V_iload 2 dL_law_111 rfl ?_
  refine V_iconst (v := 3) dL_law_113 rfl ?_
  refine V_irem dL_law_114 (by decide) ?_
  refine V_if_gt (tgt := 130) dL_law_115 (by decide) (fun c115 => absurd c115 (by rw [e3, h3]; decide)) (fun c115 => ?_)
  refine V_aload_n 4 dL_law_118 rfl ?_
  refine V_iload 1 dL_law_119 rfl ?_
  refine V_ldc z_L_126 dL_law_121 ?_
  refine V_pc (pc2 := 123) rfl ?_
  refine V_irem dL_law_123 (by decide) ?_
  rw [ec]
  refine Cq_L_161 (mc1 := 60) (ms1 := 360) rfl ⟨Nat.le_of_ble_eq_true rfl, Nat.le_of_ble_eq_true rfl⟩ (t_refuses h hz hL (Nat.mod_lt cn (by decide))) rfl (Nat.le_of_ble_eq_true rfl) dL_law_124 rfl (fun _ h9 => ?_)
  obtain ⟨l2, h2⟩ := h9
  refine V_if_eq (tgt := 220) dL_law_127 (by decide) (fun c127 => absurd c127 (by decide)) (fun c127 => ?_)
  refine V_lv (lv2 := [(6, .int _), (5, .int _), (4, .int _), (3, .int _), (2, .ref _), (1, .ref _), (0, .ref _)]) [0, 1, 2, 3, 4, 5, 6] rfl ?_
  exact kk _ l2 h2

set_option maxRecDepth 20000 in
theorem lw_2b {g : GE} {M : Mem} {sz kc ks : Nat} {Q : Ou → Mem → Prop} {k cn : Nat} (hk : k < 34) (h3 : ¬ k % 3 = 0) {r : Int32} (kk : V g m_L_law 130 [(6, .int r), (5, .int (nI cn)), (4, .int (nI k)), (3, .int 1), (2, rf g 96), (1, rf g 0), (0, .ref (gS g))] [] M sz kc ks Q) : V g m_L_law 111 [(6, .int r), (5, .int (nI cn)), (4, .int (nI k)), (3, .int 1), (2, rf g 96), (1, rf g 0), (0, .ref (gS g))] [] M sz kc ks Q := by
  have e3 : nI k - nI k / 3 * 3 = nI (k % 3) := pk_rem (by omega) (by decide) (by decide)
  refine V_iload 2 dL_law_111 rfl ?_
  refine V_iconst (v := 3) dL_law_113 rfl ?_
  refine V_irem dL_law_114 (by decide) ?_
  refine V_if_gt (tgt := 130) dL_law_115 (by decide) (fun c115 => ?_) (fun c115 => absurd (by rw [e3]; exact nI_gt0 (Nat.pos_of_ne_zero h3) (by omega)) c115)
  refine V_lv (lv2 := [(6, .int _), (5, .int _), (4, .int _), (3, .int _), (2, .ref _), (1, .ref _), (0, .ref _)]) [0, 1, 2, 3, 4, 5, 6] rfl ?_
  exact kk

set_option maxRecDepth 20000 in
theorem lw_3 {g : GE} {M : Mem} {sz kc ks : Nat} {Q : Ou → Mem → Prop} {S S2 : LndS} {l lq : Nat} (h : TWO g M S2 S l lq) (hz : 96 ≤ sz) {k cn : Nat} {r : Int32} (hA : actF (nI cn) S S2 r) (hI : IS S2.1) (kk : ∀ M1 sz1 l2, 96 ≤ sz1 → TWO g M1 S2 S2 l l2 → V g m_L_law 156 [(6, .int r), (5, .int (nI cn)), (4, .int (nI k)), (3, .int 1), (2, rf g 96), (1, rf g 0), (0, .ref (gS g))] [] M1 sz1 kc ks Q) : V g m_L_law 130 [(6, .int r), (5, .int (nI cn)), (4, .int (nI k)), (3, .int 1), (2, rf g 96), (1, rf g 0), (0, .ref (gS g))] [] M sz (kc + 40) (ks + 240) Q := by
  refine V_aload_n 4 dL_law_130 rfl ?_
  refine V_iload 1 dL_law_131 rfl ?_
  refine Cq_L_158 (mc1 := 40) (ms1 := 240) rfl ⟨Nat.le_of_ble_eq_true rfl, Nat.le_of_ble_eq_true rfl⟩ (t_acts_q h hz hA) rfl (Nat.le_of_ble_eq_true rfl) dL_law_133 rfl (fun _ h9 => ?_)
  obtain ⟨l2, h2⟩ := h9
  refine V_iload 0 dL_law_136 rfl ?_
  refine V_icmp_ne (tgt := 220) dL_law_138 (by decide) (fun c138 => absurd rfl c138) (fun c138 => ?_)
  refine V_aload_n 5 dL_law_141 rfl ?_
  refine V_bipush (v := 17) dL_law_142 (by decide) ?_
  refine V_pc (pc2 := 144) rfl ?_
  refine Cq_L_130 (mc1 := 0) (ms1 := 0) rfl ⟨Nat.le_of_ble_eq_true rfl, Nat.le_of_ble_eq_true rfl⟩ (t_count_o h2 hI) rfl (Nat.le_of_ble_eq_true rfl) dL_law_144 rfl (fun _ h4 => ?_)
  refine V_aload_n 4 dL_law_147 rfl ?_
  refine V_bipush (v := 17) dL_law_148 (by decide) ?_
  refine Cq_L_130 (mc1 := 0) (ms1 := 0) rfl ⟨Nat.le_of_ble_eq_true rfl, Nat.le_of_ble_eq_true rfl⟩ (t_count_q h4 (by omega) hI) rfl (Nat.le_of_ble_eq_true rfl) dL_law_150 rfl (fun _ h5 => ?_)
  refine V_icmp_ne (tgt := 220) dL_law_153 (by decide) (fun c153 => absurd rfl c153) (fun c153 => ?_)
  refine V_lv (lv2 := [(6, .int _), (5, .int _), (4, .int _), (3, .int _), (2, .ref _), (1, .ref _), (0, .ref _)]) [0, 1, 2, 3, 4, 5, 6] rfl ?_
  exact kk _ _ l2 (by omega) h5

set_option maxRecDepth 20000 in
theorem lw_4a {g : GE} {M : Mem} {sz kc ks : Nat} {Q : Ou → Mem → Prop} {S : LndS} {l lq : Nat} (h : TWO g M S S l lq) (hz : 96 ≤ sz) {k cn : Nat} (hk : k < 34) (h6 : k % 6 = 0) (hI : IS S.1) {r : Int32} (kk : ∀ M1 sz1, 96 ≤ sz1 → TWO g M1 S S 0 0 → V g m_L_law 190 [(6, .int r), (5, .int (nI cn)), (4, .int (nI k)), (3, .int 1), (2, rf g 96), (1, rf g 0), (0, .ref (gS g))] [] M1 sz1 kc ks Q) : V g m_L_law 156 [(6, .int r), (5, .int (nI cn)), (4, .int (nI k)), (3, .int 1), (2, rf g 96), (1, rf g 0), (0, .ref (gS g))] [] M sz kc ks Q := by
  have e6 : nI k - nI k / 6 * 6 = nI (k % 6) := pk_rem (by omega) (by decide) (by decide)
  have hl := h.2.2.1
  have hlq := h.2.2.2
  refine V_iload 2 dL_law_156 rfl ?_
  refine V_bipush (v := 6) dL_law_158 (by decide) ?_
  refine V_irem dL_law_160 (by decide) ?_
  refine V_if_gt (tgt := 190) dL_law_161 (by decide) (fun c161 => absurd c161 (by rw [e6, h6]; decide)) (fun c161 => ?_)
  refine V_aload_n 5 dL_law_164 rfl ?_
  refine Cp_L_107 h.at0.choose_spec rfl ⟨Nat.le_of_ble_eq_true rfl, Nat.le_of_ble_eq_true rfl⟩ (t_clear_o h) rfl (Nat.le_of_ble_eq_true rfl) dL_law_165 rfl (fun _ h1 => ?_)
  refine V_if_lt (tgt := 220) dL_law_168 (by decide) (fun c168 => absurd c168 (nI_pos (by omega))) (fun c168 => ?_)
  refine V_pc (pc2 := 171) rfl ?_
  refine V_aload_n 4 dL_law_171 rfl ?_
  refine Cp_L_107 h1.at96.choose_spec rfl ⟨Nat.le_of_ble_eq_true rfl, Nat.le_of_ble_eq_true rfl⟩ (t_clear_q h1 (by omega)) rfl (Nat.le_of_ble_eq_true rfl) dL_law_172 rfl (fun _ h2 => ?_)
  refine V_if_lt (tgt := 220) dL_law_175 (by decide) (fun c175 => absurd c175 (nI_pos (by omega))) (fun c175 => ?_)
  refine V_aload_n 5 dL_law_178 rfl ?_
  refine Cp_L_165 h2.at0.choose_spec rfl ⟨Nat.le_of_ble_eq_true rfl, Nat.le_of_ble_eq_true rfl⟩ (t_dig_o h2 hI) rfl (Nat.le_of_ble_eq_true rfl) dL_law_179 rfl (fun _ h3 => ?_)
  refine V_aload_n 4 dL_law_182 rfl ?_
  refine Cp_L_165 h3.at96.choose_spec rfl ⟨Nat.le_of_ble_eq_true rfl, Nat.le_of_ble_eq_true rfl⟩ (t_dig_q h3 (by omega) hI) rfl (Nat.le_of_ble_eq_true rfl) dL_law_183 rfl (fun _ h4 => ?_)
  refine V_lcmp dL_law_186 ?_
  refine V_pc (pc2 := 187) rfl ?_
  refine V_if_ne (tgt := 220) dL_law_187 (by decide) (fun c187 => absurd (lgc_eq.mpr rfl) c187) (fun c187 => ?_)
  refine V_lv (lv2 := [(6, .int _), (5, .int _), (4, .int _), (3, .int _), (2, .ref _), (1, .ref _), (0, .ref _)]) [0, 1, 2, 3, 4, 5, 6] rfl ?_
  exact kk _ _ (by omega) h4

set_option maxRecDepth 20000 in
theorem lw_4b {g : GE} {M : Mem} {sz kc ks : Nat} {Q : Ou → Mem → Prop} {k cn : Nat} (hk : k < 34) (h6 : ¬ k % 6 = 0) {r : Int32} (kk : V g m_L_law 190 [(6, .int r), (5, .int (nI cn)), (4, .int (nI k)), (3, .int 1), (2, rf g 96), (1, rf g 0), (0, .ref (gS g))] [] M sz kc ks Q) : V g m_L_law 156 [(6, .int r), (5, .int (nI cn)), (4, .int (nI k)), (3, .int 1), (2, rf g 96), (1, rf g 0), (0, .ref (gS g))] [] M sz kc ks Q := by
  have e6 : nI k - nI k / 6 * 6 = nI (k % 6) := pk_rem (by omega) (by decide) (by decide)
  refine V_iload 2 dL_law_156 rfl ?_
  refine V_bipush (v := 6) dL_law_158 (by decide) ?_
  refine V_irem dL_law_160 (by decide) ?_
  refine V_if_gt (tgt := 190) dL_law_161 (by decide) (fun c161 => ?_) (fun c161 => absurd (by rw [e6]; exact nI_gt0 (Nat.pos_of_ne_zero h6) (by omega)) c161)
  refine V_lv (lv2 := [(6, .int _), (5, .int _), (4, .int _), (3, .int _), (2, .ref _), (1, .ref _), (0, .ref _)]) [0, 1, 2, 3, 4, 5, 6] rfl ?_
  exact kk

set_option maxRecDepth 20000 in
theorem lw_5a {g : GE} {M : Mem} {sz kc ks : Nat} {Q : Ou → Mem → Prop} {S : LndS} {l lq : Nat} (h : TWO g M S S l lq) (hz : 96 ≤ sz) {k cn : Nat} (hk : k < 34) (h4 : k % 4 = 0) (h8 : k % 8 = 0) {T : Nat} (hL : LOK T S) (hT : T < 2 ^ 30) {r : Int32} (kk : ∀ M1 sz1, 96 ≤ sz1 → TWO g M1 S S l lq → V g m_L_law 84 [(4, .int (nI (k + 1))), (3, .int 1), (2, rf g 96), (1, rf g 0), (0, .ref (gS g))] [] M1 sz1 kc ks Q) : V g m_L_law 190 [(6, .int r), (5, .int (nI cn)), (4, .int (nI k)), (3, .int 1), (2, rf g 96), (1, rf g 0), (0, .ref (gS g))] [] M sz kc ks Q := by
  have e4 : nI k - nI k / 4 * 4 = nI (k % 4) := pk_rem (by omega) (by decide) (by decide)
  have e8 : nI k - nI k / 8 * 8 = nI (k % 8) := pk_rem (by omega) (by decide) (by decide)
  refine V_iload 2 dL_law_190 rfl ?_
  refine V_iconst (v := 4) dL_law_192 rfl ?_
  refine V_irem dL_law_193 (by decide) ?_
  refine V_if_gt (tgt := 216) dL_law_194 (by decide) (fun c194 => absurd c194 (by rw [e4, h4]; decide)) (fun c194 => ?_)
  refine V_iload 2 dL_law_197 rfl ?_
  refine V_bipush (v := 8) dL_law_199 (by decide) ?_
  refine V_irem dL_law_201 (by decide) ?_
  refine V_pc (pc2 := 202) rfl ?_
  refine V_if_ne (tgt := 209) dL_law_202 (by decide) (fun c202 => absurd (by rw [e8, h8]; rfl) c202) (fun c202 => ?_)
  refine V_aload_n 5 dL_law_205 rfl ?_
  refine V_goto (tgt := 210) dL_law_206 (by decide) ?_
  refine Cq_L_150 (mc1 := 0) (ms1 := 0) rfl ⟨Nat.le_of_ble_eq_true rfl, Nat.le_of_ble_eq_true rfl⟩ (t_hangs_o h hL hT) rfl (Nat.le_of_ble_eq_true rfl) dL_law_210 rfl (fun _ h9 => ?_)
  refine V_if_eq (tgt := 220) dL_law_213 (by decide) (fun c213 => absurd c213 (by decide)) (fun c213 => ?_)
  refine V_iconst (v := 1) dL_law_216 rfl ?_
  refine V_goto (tgt := 221) dL_law_217 (by decide) ?_
  refine V_istore_n (lv2 := [(3, .int _), (6, .int _), (5, .int _), (4, .int _), (2, .ref _), (1, .ref _), (0, .ref _)]) dL_law_221 (Nat.le_of_ble_eq_true rfl) rfl ?_
  refine V_pc (pc2 := 222) rfl ?_
  refine V_iinc (v := _ + 1) (lv2 := [(4, .int _), (3, .int _), (6, .int _), (5, .int _), (2, .ref _), (1, .ref _), (0, .ref _)]) 3 dL_law_222 rfl rfl (Nat.le_of_ble_eq_true rfl) rfl ?_
  refine V_goto (tgt := 84) dL_law_225 (by decide) ?_
  refine V_lv (lv2 := [(4, .int _), (3, .int _), (2, .ref _), (1, .ref _), (0, .ref _)]) [0, 1, 4, 5, 6] rfl ?_
  rw [nI_1]
  exact kk _ _ (by omega) h9

set_option maxRecDepth 20000 in
theorem lw_5b {g : GE} {M : Mem} {sz kc ks : Nat} {Q : Ou → Mem → Prop} {S : LndS} {l lq : Nat} (h : TWO g M S S l lq) (hz : 96 ≤ sz) {k cn : Nat} (hk : k < 34) (h4 : k % 4 = 0) (h8 : ¬ k % 8 = 0) {T : Nat} (hL : LOK T S) (hT : T < 2 ^ 30) {r : Int32} (kk : ∀ M1 sz1, 96 ≤ sz1 → TWO g M1 S S l lq → V g m_L_law 84 [(4, .int (nI (k + 1))), (3, .int 1), (2, rf g 96), (1, rf g 0), (0, .ref (gS g))] [] M1 sz1 kc ks Q) : V g m_L_law 190 [(6, .int r), (5, .int (nI cn)), (4, .int (nI k)), (3, .int 1), (2, rf g 96), (1, rf g 0), (0, .ref (gS g))] [] M sz kc ks Q := by
  have e4 : nI k - nI k / 4 * 4 = nI (k % 4) := pk_rem (by omega) (by decide) (by decide)
  have e8 : nI k - nI k / 8 * 8 = nI (k % 8) := pk_rem (by omega) (by decide) (by decide)
  refine V_iload 2 dL_law_190 rfl ?_
  refine V_iconst (v := 4) dL_law_192 rfl ?_
  refine V_irem dL_law_193 (by decide) ?_
  refine V_if_gt (tgt := 216) dL_law_194 (by decide) (fun c194 => absurd c194 (by rw [e4, h4]; decide)) (fun c194 => ?_)
  refine V_iload 2 dL_law_197 rfl ?_
  refine V_bipush (v := 8) dL_law_199 (by decide) ?_
  refine V_irem dL_law_201 (by decide) ?_
  refine V_pc (pc2 := 202) rfl ?_
  refine V_if_ne (tgt := 209) dL_law_202 (by decide) (fun c202 => ?_) (fun c202 => absurd c202 (by rw [e8]; exact nI_ne0 (Nat.pos_of_ne_zero h8) (by omega)))
  refine V_aload_n 4 dL_law_209 rfl ?_
  refine Cq_L_150 (mc1 := 0) (ms1 := 0) rfl ⟨Nat.le_of_ble_eq_true rfl, Nat.le_of_ble_eq_true rfl⟩ (t_hangs_q h hz hL hT) rfl (Nat.le_of_ble_eq_true rfl) dL_law_210 rfl (fun _ h9 => ?_)
  refine V_if_eq (tgt := 220) dL_law_213 (by decide) (fun c213 => absurd c213 (by decide)) (fun c213 => ?_)
  refine V_iconst (v := 1) dL_law_216 rfl ?_
  refine V_goto (tgt := 221) dL_law_217 (by decide) ?_
  refine V_istore_n (lv2 := [(3, .int _), (6, .int _), (5, .int _), (4, .int _), (2, .ref _), (1, .ref _), (0, .ref _)]) dL_law_221 (Nat.le_of_ble_eq_true rfl) rfl ?_
  refine V_iinc (v := _ + 1) (lv2 := [(4, .int _), (3, .int _), (6, .int _), (5, .int _), (2, .ref _), (1, .ref _), (0, .ref _)]) 3 dL_law_222 rfl rfl (Nat.le_of_ble_eq_true rfl) rfl ?_
  refine V_pc (pc2 := 225) rfl ?_
  refine V_goto (tgt := 84) dL_law_225 (by decide) ?_
  refine V_lv (lv2 := [(4, .int _), (3, .int _), (2, .ref _), (1, .ref _), (0, .ref _)]) [0, 1, 4, 5, 6] rfl ?_
  rw [nI_1]
  exact kk _ _ (by omega) h9

set_option maxRecDepth 20000 in
theorem lw_5c {g : GE} {M : Mem} {sz kc ks : Nat} {Q : Ou → Mem → Prop} {S : LndS} {l lq : Nat} (h : TWO g M S S l lq) (hz : 96 ≤ sz) {k cn : Nat} (hk : k < 34) (h4 : ¬ k % 4 = 0) {r : Int32} (kk : ∀ M1 sz1, 96 ≤ sz1 → TWO g M1 S S l lq → V g m_L_law 84 [(4, .int (nI (k + 1))), (3, .int 1), (2, rf g 96), (1, rf g 0), (0, .ref (gS g))] [] M1 sz1 kc ks Q) : V g m_L_law 190 [(6, .int r), (5, .int (nI cn)), (4, .int (nI k)), (3, .int 1), (2, rf g 96), (1, rf g 0), (0, .ref (gS g))] [] M sz kc ks Q := by
  have e4 : nI k - nI k / 4 * 4 = nI (k % 4) := pk_rem (by omega) (by decide) (by decide)
  refine V_iload 2 dL_law_190 rfl ?_
  refine V_iconst (v := 4) dL_law_192 rfl ?_
  refine V_irem dL_law_193 (by decide) ?_
  refine V_if_gt (tgt := 216) dL_law_194 (by decide) (fun c194 => ?_) (fun c194 => absurd (by rw [e4]; exact nI_gt0 (Nat.pos_of_ne_zero h4) (by omega)) c194)
  refine V_iconst (v := 1) dL_law_216 rfl ?_
  refine V_goto (tgt := 221) dL_law_217 (by decide) ?_
  refine V_istore_n (lv2 := [(3, .int _), (6, .int _), (5, .int _), (4, .int _), (2, .ref _), (1, .ref _), (0, .ref _)]) dL_law_221 (Nat.le_of_ble_eq_true rfl) rfl ?_
  refine V_pc (pc2 := 222) rfl ?_
  refine V_iinc (v := _ + 1) (lv2 := [(4, .int _), (3, .int _), (6, .int _), (5, .int _), (2, .ref _), (1, .ref _), (0, .ref _)]) 3 dL_law_222 rfl rfl (Nat.le_of_ble_eq_true rfl) rfl ?_
  refine V_goto (tgt := 84) dL_law_225 (by decide) ?_
  refine V_lv (lv2 := [(4, .int _), (3, .int _), (2, .ref _), (1, .ref _), (0, .ref _)]) [0, 1, 4, 5, 6] rfl ?_
  rw [nI_1]
  exact kk _ _ (by omega) h

set_option maxRecDepth 20000 in
theorem lw_end {g : GE} {M : Mem} {sz kc ks : Nat} {Q : Ou → Mem → Prop} {S : LndS} {l lq : Nat} (h : TWO g M S S l lq) (hz : 96 ≤ sz) {T : Nat} (hL : LOK T S) (hT : T < 2 ^ 30) (hq : ∀ M, Q (.inl (some (.int 1))) M) : V g m_L_law 84 [(4, .int (nI 34)), (3, .int 1), (2, rf g 96), (1, rf g 0), (0, .ref (gS g))] [] M sz kc ks Q := by
  have hl := h.2.2.1
  have hlq := h.2.2.2
  have hI : IS S.1 := hL.1.1
  refine V_iload 0 dL_law_84 rfl ?_
  refine V_bipush (v := 34) dL_law_86 (by decide) ?_
  refine V_icmp_ge (tgt := 228) dL_law_88 (by decide) (fun c88 => ?_) (fun c88 => absurd (by decide) c88)
  refine V_aload_n 3 dL_law_228 rfl ?_
  refine Cp_L_107 h.at0.choose_spec rfl ⟨Nat.le_of_ble_eq_true rfl, Nat.le_of_ble_eq_true rfl⟩ (t_clear_o h) rfl (Nat.le_of_ble_eq_true rfl) dL_law_229 rfl (fun _ h1 => ?_)
  refine V_istore (lv2 := [(4, .int _), (3, .int _), (2, .ref _), (1, .ref _), (0, .ref _)]) dL_law_232 (Nat.le_of_ble_eq_true rfl) rfl ?_
  refine V_aload_n 2 dL_law_234 rfl ?_
  refine V_pc (pc2 := 235) rfl ?_
  refine Cp_L_107 h1.at96.choose_spec rfl ⟨Nat.le_of_ble_eq_true rfl, Nat.le_of_ble_eq_true rfl⟩ (t_clear_q h1 (by omega)) rfl (Nat.le_of_ble_eq_true rfl) dL_law_235 rfl (fun _ h2 => ?_)
  refine V_istore (lv2 := [(5, .int _), (4, .int _), (3, .int _), (2, .ref _), (1, .ref _), (0, .ref _)]) dL_law_238 (Nat.le_of_ble_eq_true rfl) rfl ?_
  refine V_iload_n 2 dL_law_240 rfl ?_
  refine V_if_eq (tgt := 277) dL_law_241 (by decide) (fun c241 => absurd c241 (by decide)) (fun c241 => ?_)
  refine V_iload 1 dL_law_244 rfl ?_
  refine V_if_lt (tgt := 277) dL_law_246 (by decide) (fun c246 => absurd c246 (nI_pos (by omega))) (fun c246 => ?_)
  refine V_iload 0 dL_law_249 rfl ?_
  refine V_if_lt (tgt := 277) dL_law_251 (by decide) (fun c251 => absurd c251 (nI_pos (by omega))) (fun c251 => ?_)
  refine V_pc (pc2 := 254) rfl ?_
  refine V_aload_n 4 dL_law_254 rfl ?_
  refine Cp_L_165 h2.at0.choose_spec rfl ⟨Nat.le_of_ble_eq_true rfl, Nat.le_of_ble_eq_true rfl⟩ (t_dig_o h2 hI) rfl (Nat.le_of_ble_eq_true rfl) dL_law_255 rfl (fun _ h3 => ?_)
  refine V_aload_n 3 dL_law_258 rfl ?_
  refine Cp_L_165 h3.at96.choose_spec rfl ⟨Nat.le_of_ble_eq_true rfl, Nat.le_of_ble_eq_true rfl⟩ (t_dig_q h3 (by omega) hI) rfl (Nat.le_of_ble_eq_true rfl) dL_law_259 rfl (fun _ h4 => ?_)
  refine V_lcmp dL_law_262 ?_
  refine V_if_ne (tgt := 277) dL_law_263 (by decide) (fun c263 => absurd (lgc_eq.mpr rfl) c263) (fun c263 => ?_)
  refine V_aload_n 4 dL_law_266 rfl ?_
  refine Cq_L_150 (mc1 := 0) (ms1 := 0) rfl ⟨Nat.le_of_ble_eq_true rfl, Nat.le_of_ble_eq_true rfl⟩ (t_hangs_o h4 hL hT) rfl (Nat.le_of_ble_eq_true rfl) dL_law_267 rfl (fun _ h9 => ?_)
  refine V_pc (pc2 := 270) rfl ?_
  refine V_if_eq (tgt := 277) dL_law_270 (by decide) (fun c270 => absurd c270 (by decide)) (fun c270 => ?_)
  refine V_iconst (v := 1) dL_law_273 rfl ?_
  refine V_goto (tgt := 278) dL_law_274 (by decide) ?_
  refine V_zret (st := []) dL_law_278 rfl (by decide) ?_
  exact hq _

set_option maxRecDepth 20000 in
theorem lw_loop {g : GE} (hN : gN g ≤ 260) {Q : Ou → Mem → Prop} (hq : ∀ M, Q (.inl (some (.int 1))) M) : ∀ m k, k + m = 34 → ∀ (T : Nat) (S : LndS) (l lq : Nat) (M : Mem) (sz : Nat), T + 61 * m < 2 ^ 30 → LOK T S → 96 ≤ sz → TWO g M S S l lq → V g m_L_law 84 [(4, .int (nI k)), (3, .int 1), (2, rf g 96), (1, rf g 0), (0, .ref (gS g))] [] M sz (140 * m) (840 * m) Q := by
  intro m
  induction m with
  | zero =>
    intro k hk T S l lq M sz hT hL hz h
    have e : k = 34 := by omega
    subst e
    exact lw_end h hz hL (by omega) hq
  | succ m ih =>
    intro k hk T S l lq M sz hT hL hz h
    rw [show 140 * (m + 1) = 140 * m + 40 + 60 + 40 by omega, show 840 * (m + 1) = 840 * m + 240 + 360 + 240 by omega]
    refine V_iload 0 dL_law_84 rfl ?_
    refine V_bipush (v := 34) dL_law_86 (by decide) ?_
    refine V_icmp_ge (tgt := 228) dL_law_88 (by decide) (fun c88 => absurd c88 (nI_ge (b := 34) (by omega) (by decide))) (fun c88 => ?_)
    refine V_iload_n 1 dL_law_91 rfl ?_
    refine V_if_eq (tgt := 228) dL_law_92 (by decide) (fun c92 => absurd c92 (by decide)) (fun c92 => ?_)
    refine lw_1 hN (by omega) h hL (fun cn r S2 M1 l2 hcn hL2 hA h2 => ?_)
    have k5 : ∀ M3 sz3 l3 lq3, 96 ≤ sz3 → TWO g M3 S2 S2 l3 lq3 → V g m_L_law 190 [(6, .int r), (5, .int (nI cn)), (4, .int (nI k)), (3, .int 1), (2, rf g 96), (1, rf g 0), (0, .ref (gS g))] [] M3 sz3 (140 * m) (840 * m) Q := by
      intro M3 sz3 l3 lq3 hz3 h3
      have kk : ∀ M4 sz4, 96 ≤ sz4 → TWO g M4 S2 S2 l3 lq3 → V g m_L_law 84 [(4, .int (nI (k + 1))), (3, .int 1), (2, rf g 96), (1, rf g 0), (0, .ref (gS g))] [] M4 sz4 (140 * m) (840 * m) Q := fun M4 sz4 hz4 h4 => ih (k + 1) (by omega) (T + 61) S2 l3 lq3 M4 sz4 (by omega) hL2 hz4 h4
      by_cases c4 : k % 4 = 0
      · by_cases c8 : k % 8 = 0
        · exact lw_5a h3 hz3 (by omega) c4 c8 hL2 (by omega) kk
        · exact lw_5b h3 hz3 (by omega) c4 c8 hL2 (by omega) kk
      · exact lw_5c h3 hz3 (by omega) c4 kk
    have k4 : ∀ M3 sz3 l3, 96 ≤ sz3 → TWO g M3 S2 S2 l2 l3 → V g m_L_law 156 [(6, .int r), (5, .int (nI cn)), (4, .int (nI k)), (3, .int 1), (2, rf g 96), (1, rf g 0), (0, .ref (gS g))] [] M3 sz3 (140 * m) (840 * m) Q := by
      intro M3 sz3 l3 hz3 h3
      by_cases c6 : k % 6 = 0
      · exact lw_4a h3 hz3 (by omega) c6 hL2.1.1 (fun M4 sz4 hz4 h4 => k5 M4 sz4 0 0 hz4 h4)
      · exact lw_4b (by omega) c6 (k5 M3 sz3 l2 l3 hz3 h3)
    by_cases c3 : k % 3 = 0
    · exact lw_2a h2 (by omega) (by omega) c3 hcn hL (fun M2 lq2 h3 => lw_3 h3 (by omega) hA hL2.1.1 k4)
    · exact lw_2b (by omega) c3 (V.less (lw_3 h2 (by omega) hA hL2.1.1 k4) (by omega) (by omega))

theorem LOK_0 : LOK 0 ((σ0, σ0, false, 0, fun _ => σ0) : LndS) := ⟨⟨IS_0, 0, by decide, rfl, fun i hi => absurd hi (Nat.not_lt_zero i)⟩, fun h => absurd h (by decide), by decide, fun i hi => absurd hi (Nat.not_lt_zero i)⟩
theorem all_0 : allR σ0 = 0 := by decide +kernel
theorem bad_0 : fnd (badS σ0) 0 37 = none := by decide +kernel
theorem share_0 : Op.cmpValue (FP.dcmp (shS σ0) FP.dconst1) .l = 0 := by
  have h := shS_c σ0
  have e : shS σ0 = FP.dconst1 := by unfold shS; rw [if_pos all_0, sh_1]
  rw [e] at h ⊢
  exact h
set_option maxRecDepth 20000 in
theorem lw_first {g : GE} {M : Mem} {sz kc ks : Nat} {Q : Ou → Mem → Prop} (h : TWO g M ((σ0, σ0, false, 0, fun _ => σ0) : LndS) ((σ0, σ0, false, 0, fun _ => σ0) : LndS) 0 0) (hz : 96 ≤ sz) (kk : ∀ M1 sz1, 96 ≤ sz1 → TWO g M1 ((σ0, σ0, false, 0, fun _ => σ0) : LndS) ((σ0, σ0, false, 0, fun _ => σ0) : LndS) 0 0 → V g m_L_law 84 [(4, .int (0)), (3, .int 1), (2, rf g 96), (1, rf g 0), (0, .ref (gS g))] [] M1 sz1 kc ks Q) : V g m_L_law 16 [(2, rf g 96), (1, rf g 0), (0, .ref (gS g))] [] M sz (kc + 2) (ks + 12) Q := by
  refine V_aload_n 1 dL_law_16 rfl ?_
  refine Cq_L_99 (mc1 := 1) (ms1 := 6) rfl ⟨Nat.le_of_ble_eq_true rfl, Nat.le_of_ble_eq_true rfl⟩ ((h.runo (fun tx w => h_undo_x2 w.1 (x_undo_1 w rfl)) (fun _ M2 q => q))) rfl (Nat.le_of_ble_eq_true rfl) dL_law_17 rfl (fun _ h9 => ?_)
  cases h9
  refine V_bipush (v := -2) dL_law_20 (by decide) ?_
  refine V_icmp_ne (tgt := 79) dL_law_22 (by decide) (fun c22 => absurd rfl c22) (fun c22 => ?_)
  refine V_aload_n 1 dL_law_25 rfl ?_
  refine Cq_L_105 (mc1 := 1) (ms1 := 6) rfl ⟨Nat.le_of_ble_eq_true rfl, Nat.le_of_ble_eq_true rfl⟩ ((h.runo (fun tx w => h_restore_x2 w.1 (x_restore_1 w rfl)) (fun _ M2 q => q))) rfl (Nat.le_of_ble_eq_true rfl) dL_law_26 rfl (fun _ h9 => ?_)
  cases h9
  refine V_bipush (v := -2) dL_law_29 (by decide) ?_
  refine V_pc (pc2 := 31) rfl ?_
  refine V_icmp_ne (tgt := 79) dL_law_31 (by decide) (fun c31 => absurd rfl c31) (fun c31 => ?_)
  refine V_aload_n 1 dL_law_34 rfl ?_
  refine Cp_L_112 h.at0.choose_spec rfl ⟨Nat.le_of_ble_eq_true rfl, Nat.le_of_ble_eq_true rfl⟩ (h.runo (fun tx w => x_firstError_ok (t := fun _ => 59) w (by decide) (fun k hk => absurd hk (Nat.not_lt_zero k))) (fun _ M2 q => h.o ⟨_, q.1⟩ (by decide) q.2)) rfl (Nat.le_of_ble_eq_true rfl) dL_law_35 rfl (fun _ h1 => ?_)
  refine V_if_ne (tgt := 79) dL_law_38 (by decide) (fun c38 => absurd rfl c38) (fun c38 => ?_)
  refine V_aload_n 1 dL_law_41 rfl ?_
  refine V_iconst (v := 0) dL_law_42 rfl ?_
  refine Cq_L_143 (mc1 := 0) (ms1 := 0) rfl ⟨Nat.le_of_ble_eq_true rfl, Nat.le_of_ble_eq_true rfl⟩ ((h1.runo (fun tx w => h_stopped_ok w.1 (x_stopped_ok w (by decide) (by decide))) (fun _ M2 q => h1.o ⟨_, q.1⟩ (by decide) q.2))) rfl (Nat.le_of_ble_eq_true rfl) dL_law_43 rfl (fun _ h2 => ?_)
  refine V_iconst (v := -1) dL_law_46 rfl ?_
  refine V_pc (pc2 := 47) rfl ?_
  refine V_icmp_ne (tgt := 79) dL_law_47 (by decide) (fun c47 => absurd rfl c47) (fun c47 => ?_)
  refine V_aload_n 1 dL_law_50 rfl ?_
  refine Cp_L_145 h2.at0.choose_spec rfl ⟨Nat.le_of_ble_eq_true rfl, Nat.le_of_ble_eq_true rfl⟩ (h2.runo (fun tx w => x_trueShare_ok w IS_0.1) (fun _ M2 q => h2.o ⟨_, q.1⟩ (by decide) q.2)) rfl (Nat.le_of_ble_eq_true rfl) dL_law_51 rfl (fun _ h3 => ?_)
  refine V_dconst1 dL_law_54 ?_
  refine V_dcmp dL_law_55 ?_
  refine V_if_ne (tgt := 79) dL_law_56 (by decide) (fun c56 => absurd share_0 c56) (fun c56 => ?_)
  refine V_aload_n 1 dL_law_59 rfl ?_
  refine V_iconst (v := 3) dL_law_60 rfl ?_
  refine V_pc (pc2 := 61) rfl ?_
  refine Cq_L_130 (mc1 := 0) (ms1 := 0) rfl ⟨Nat.le_of_ble_eq_true rfl, Nat.le_of_ble_eq_true rfl⟩ ((h3.runo (fun tx w => h_count_ok w.1 (x_count_ok w IS_0.1 0 rfl (by decide) 3 (by decide) rfl)) (fun _ M2 q => h3.o ⟨_, q.1⟩ (by decide) q.2))) rfl (Nat.le_of_ble_eq_true rfl) dL_law_61 rfl (fun _ h4 => ?_)
  refine V_iconst (v := 1) dL_law_64 rfl ?_
  refine V_icmp_ne (tgt := 79) dL_law_65 (by decide) (fun c65 => absurd (by show bI (fnd (badS σ0) 0 37).isNone = 1; rw [bad_0]; rfl) c65) (fun c65 => ?_)
  refine V_aload_n 1 dL_law_68 rfl ?_
  refine Cq_L_150 (mc1 := 0) (ms1 := 0) rfl ⟨Nat.le_of_ble_eq_true rfl, Nat.le_of_ble_eq_true rfl⟩ (t_hangs_o h4 LOK_0 (by decide)) rfl (Nat.le_of_ble_eq_true rfl) dL_law_69 rfl (fun _ h5 => ?_)
  refine V_if_eq (tgt := 79) dL_law_72 (by decide) (fun c72 => absurd c72 (by decide)) (fun c72 => ?_)
  refine V_iconst (v := 1) dL_law_75 rfl ?_
  refine V_goto (tgt := 80) dL_law_76 (by decide) ?_
  refine V_pc (pc2 := 80) rfl ?_
  refine V_istore_n (lv2 := [(3, .int _), (2, .ref _), (1, .ref _), (0, .ref _)]) dL_law_80 (Nat.le_of_ble_eq_true rfl) rfl ?_
  refine V_iconst (v := 0) dL_law_81 rfl ?_
  refine V_istore (lv2 := [(4, .int _), (3, .int _), (2, .ref _), (1, .ref _), (0, .ref _)]) dL_law_82 (Nat.le_of_ble_eq_true rfl) rfl ?_
  refine V_lv (lv2 := [(4, .int _), (3, .int _), (2, .ref _), (1, .ref _), (0, .ref _)]) [0, 1, 2, 3, 4] rfl ?_
  exact kk _ _ (by omega) h5

set_option maxRecDepth 20000 in
theorem law_head {g : GE} (hN : gN g ≤ 260) {Q : Ou → Mem → Prop} (hq : ∀ M, Q (.inl (some (.int 1))) M) : V g m_L_law 0 [(0, .ref (gS g))] [] (fun _ => none) 0 5000 40000 Q := by
  refine V.less (kc := 140 * 34 + 2 + 95 + 1 + 95 + 1) (ks := 840 * 34 + 12 + 986 + 9 + 986 + 9) ?_ (by decide) (by decide)
  refine V_newO (ci := 8) (N := 9) (kc := 140 * 34 + 2 + 95 + 1 + 95) (ks := 840 * 34 + 12 + 986 + 9 + 986) (fs := [.null, .null, .null, .null, .null, .null, .null, .null, .int 0]) rfl n_L_10 i_X8.1 i_X8.2 nw_X8 (fun q hq => absurd hq (Nat.not_lt_zero q)) dL_law_0 (fun hz0 => ?_)
  refine V_dup dL_law_3 rfl ?_
  refine Cp_L_149 (kc := 140 * 34 + 2 + 95 + 1) (ks := 840 * 34 + 12 + 986 + 9) (mc1 := 95) (ms1 := 986) rfl ⟨Nat.le_of_ble_eq_true rfl, Nat.le_of_ble_eq_true rfl⟩ (ini_X8 (mup_eq _ _ _) (FU.new (fun q hq => absurd hq (Nat.not_lt_zero q)))) rfl (Nat.le_of_ble_eq_true rfl) dL_law_4 rfl (fun M1 q0 => ?_)
  obtain ⟨P0, f0⟩ := q0
  refine V_astore_n (lv2 := [(1, .ref _), (0, .ref _)]) dL_law_7 (Nat.le_of_ble_eq_true rfl) rfl ?_
  refine V_newO (ci := 8) (N := 9) (kc := 140 * 34 + 2 + 95) (ks := 840 * 34 + 12 + 986) (fs := [.null, .null, .null, .null, .null, .null, .null, .null, .int 0]) rfl n_L_10 i_X8.1 i_X8.2 nw_X8 f0 dL_law_8 (fun hz8 => ?_)
  refine V_dup dL_law_11 rfl ?_
  have r0 := ini_X8 (g := gs 96 g) (M := shM 96 (mup M1 96 (eO 8 [.null, .null, .null, .null, .null, .null, .null, .null, .int 0]))) (mup_eq M1 96 _) (fun k hk => by
    have e : k = 0 := by omega
    subst e
    show mup M1 96 _ 96 ≠ none
    rw [mup_eq]
    exact Option.some_ne_none _)
  have r1 := (Run.shift (sz := 1) 96 (mup_eq M1 96 _) r0).mono (Q' := RetP none (fun M3 => TWO g M3 ((σ0, σ0, false, 0, fun _ => σ0) : LndS) ((σ0, σ0, false, 0, fun _ => σ0) : LndS) 0 0)) (fun o M3 q => by
    obtain ⟨M2, ⟨q1, q2, q4⟩, q3⟩ := q
    rw [q3]
    refine ⟨q1, ⟨z0, CW.fr P0 (fun k hk => ?_)⟩, ⟨z0, by rw [sh_jn]; exact q2⟩, by decide, by decide⟩
    show (if k < 96 then mup M1 96 _ k else M2 (k - 96)) = M1 k
    rw [if_pos hk, mup_ne _ _ (by omega)])
  refine Cp_L_149 (a := 96) (kc := 140 * 34 + 2) (ks := 840 * 34 + 12) (mc1 := 95) (ms1 := 986) rfl ⟨Nat.le_of_ble_eq_true rfl, Nat.le_of_ble_eq_true rfl⟩ r1 rfl (Nat.le_of_ble_eq_true rfl) dL_law_12 rfl (fun M3 h => ?_)
  refine V_pc (pc2 := 15) rfl ?_
  refine V_astore_n (lv2 := [(2, .ref _), (1, .ref _), (0, .ref _)]) dL_law_15 (Nat.le_of_ble_eq_true rfl) rfl ?_
  refine lw_first h (by decide) (fun M4 sz4 hz4 h4 => ?_)
  exact lw_loop hN hq 34 0 (by decide) 0 ((σ0, σ0, false, 0, fun _ => σ0) : LndS) 0 0 M4 sz4 (by decide) LOK_0 hz4 h4
