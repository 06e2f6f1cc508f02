/-! whether some ring with a table is off -/
def pA (r j : Nat) : Nat := rC r / 10 ^ j % 10
def nA (r j : Nat) : Nat := if j = 0 then rP r 0 else pA r (j - 1)
def anJ (r a b : Nat) : Nat → Bool
  | 0 => false
  | j + 1 => anJ r a b j || ((pA r j == a && nA r j == b) || (pA r j == b && nA r j == a))
theorem an_has : ∀ r a b, r < 37 → a < 5 → b < 5 → anJ r a b (rSz r) = rHas r a b := by
  have h : ((List.range 37).all fun r => (List.range 5).all fun a => (List.range 5).all fun b => decide (anJ r a b (rSz r) = rHas r a b)) = true := by decide +kernel
  intro r a b hr ha hb
  exact of_decide_eq_true (all_lt (all_lt (all_lt h r hr) a ha) b hb)
theorem first_d : ∀ r, r < 37 → rC r / 10 ^ (rSz r - 1) = rP r 0 := by
  have h : ((List.range 37).all fun r => decide (rC r / 10 ^ (rSz r - 1) = rP r 0)) = true := by decide +kernel
  intro r hr
  exact of_decide_eq_true (all_lt h r hr)
theorem bI_n1 {b : Bool} (h : ¬ bI b = 1) : b = false := by cases b <;> first | rfl | exact absurd rfl h
theorem bI_e1 {b : Bool} (h : bI b = 1) : b = true := by cases b <;> first | rfl | exact absurd h (by decide)
theorem beq_t {p a : Nat} (hp : p < 2 ^ 31) (ha : a < 2 ^ 31) (h : nI p = nI a) : (p == a) = true := by rw [(nI_eq hp ha).mp h]; exact beq_self_eq_true a
theorem beq_f {p a : Nat} (h : ¬ nI p = nI a) : (p == a) = false := by
  cases e : p == a with
  | false => rfl
  | true => exact absurd (by rw [beq_iff_eq.mp e]) h
theorem or_l4 (x o n p q : Bool) : (x || (o && (n || (p || q)))) = ((x || (o && n)) || (o && (p || q))) := by cases x <;> cases o <;> cases n <;> rfl
def isF (σ : Nat → Int32) (a b : Nat) : Nat → Bool → Bool := fun r x => x || (offS σ r && rHas r a b)
theorem is_v (σ : Nat → Int32) (a b : Nat) : ∀ n, n ≤ 37 → (fdl (thr σ) (isF σ a b) false n = true ↔ ∃ r, r < n ∧ wouS σ a b r = true)
  | 0, _ => ⟨(fun h => absurd (show false = true from h) (by decide)), fun ⟨r, h, _⟩ => absurd h (Nat.not_lt_zero r)⟩
  | n + 1, hn => by
    have ih := is_v σ a b n (by omega)
    cases ht : thr σ n with
    | false =>
      rw [fdl_f ht, ih]
      constructor
      · rintro ⟨r, h1, h2⟩; exact ⟨r, by omega, h2⟩
      · rintro ⟨r, h1, h2⟩
        have e : r ≠ n := by
          intro e
          subst e
          unfold wouS at h2
          rw [ht, Bool.and_false, Bool.false_and] at h2
          cases h2
        exact ⟨r, by omega, h2⟩
    | true =>
      rw [fdl_t ht]
      show (fdl (thr σ) (isF σ a b) false n || (offS σ n && rHas n a b)) = true ↔ _
      rw [Bool.or_eq_true, ih]
      constructor
      · rintro (⟨r, h1, h2⟩ | h)
        · exact ⟨r, by omega, h2⟩
        · rw [Bool.and_eq_true] at h
          refine ⟨n, by omega, ?_⟩
          unfold wouS
          rw [h.1, h.2, ht]
          rfl
      · rintro ⟨r, h1, h2⟩
        by_cases e : r = n
        · subst e
          unfold wouS at h2
          rw [Bool.and_eq_true, Bool.and_eq_true] at h2
          right
          rw [h2.1.1, h2.2]
          rfl
        · exact Or.inl ⟨r, by omega, h2⟩
theorem is_fin (σ : Nat → Int32) (a b : Nat) : fdl (thr σ) (isF σ a b) false 37 = (fnd (wouS σ a b) 0 37).isSome := by
  have h := is_v σ a b 37 (Nat.le_refl _)
  cases e : fnd (wouS σ a b) 0 37 with
  | none =>
    cases e2 : fdl (thr σ) (isF σ a b) false 37 with
    | false => rfl
    | true =>
      obtain ⟨r, h1, h2⟩ := h.mp e2
      rw [fnd_none e r (by omega) (by omega)] at h2
      cases h2
  | some r =>
    obtain ⟨h1, h2, h3⟩ := fnd_some e
    exact h.mpr ⟨r, by omega, h1⟩
set_option maxRecDepth 20000 in
theorem io_100 {g : GE} {M0 M : Mem} {sz kc ks : Nat} {Q : Ou → Mem → Prop} {σ τ : Nat → Int32} {hk : Bool} {n : Nat} {ps : Nat → Nat → Int32} {len : Nat} {tx : Nat → Int32} (w : CW g M σ τ hk n ps len tx) (hF : FR M0 M 0 96) (hI : I10 σ) {q r a b : Nat} (hq31 : q < 2 ^ 31) (hr : r < 37) (ht : thr σ r = true) (ho : fnd (atS σ q) 0 37 = some r) (ha : a < 5) (hb : b < 5) {p nx : Nat} {x : Bool} {y5 y6 y7 y9 : Int32} (hpl : p < 2 ^ 31) (hnl : nx < 2 ^ 31) (kk : ∀ M1 v, CW g M1 σ τ hk n ps len tx → FR M0 M1 0 96 → v = bI (x || (offS σ r && ((p == a && nx == b) || (p == b && nx == a)))) → V g m_L_isOffWith 144 [(10, .int (nI p)), (9, .int y9), (8, .int (nI nx)), (7, .int y7), (6, .int y6), (5, .int y5), (4, .int (nI q)), (3, .int (bI x)), (2, .int (nI b)), (1, .int (nI a)), (0, rf g 0)] [.int v] M1 sz kc ks Q) : V g m_L_isOffWith 100 [(10, .int (nI p)), (9, .int y9), (8, .int (nI nx)), (7, .int y7), (6, .int y6), (5, .int y5), (4, .int (nI q)), (3, .int (bI x)), (2, .int (nI b)), (1, .int (nI a)), (0, rf g 0)] [] M sz kc ks Q := by
  refine V_iload_n 7 dL_isOffWith_100 rfl ?_
  refine V_if_ne (tgt := 139) dL_isOffWith_101 (by decide) (fun c101 => ?_) (fun c101 => ?_)
  · refine V_iconst (v := 1) dL_isOffWith_139 rfl ?_
    refine V_goto (tgt := 144) dL_isOffWith_140 (by decide) ?_
    have f0 := bI_1 c101
    exact kk _ _ w hF (by rw [f0]; rfl)
  · refine V_aload_n 10 dL_isOffWith_104 rfl ?_
    refine V_iload 6 dL_isOffWith_105 rfl ?_
    refine V_iconst (v := 3) dL_isOffWith_107 rfl ?_
    refine Cq_L_138 (mc1 := 0) (ms1 := 0) rfl ⟨Nat.le_of_ble_eq_true rfl, Nat.le_of_ble_eq_true rfl⟩ (h_ring_ok w.1 (x_ring_s w hI q r 3 rfl rfl (by decide) hq31 ho hr ht)) rfl (Nat.le_of_ble_eq_true rfl) dL_isOffWith_108 rfl (fun _ hq => ?_)
    have w := hq.1
    have hF := FR.trans (b := 0) (n := 96) hF hq.2 (by omega)
    clear hq
    rw [told_3]
    refine V_iconst (v := 1) dL_isOffWith_111 rfl ?_
    refine V_icmp_ne (tgt := 143) dL_isOffWith_112 (by decide) (fun c112 => ?_) (fun c112 => ?_)
    · refine V_iconst (v := 0) dL_isOffWith_143 rfl ?_
      have f0 := bI_0 c101
      have f1 := bI_n1 c112
      exact kk _ _ w hF (by simp only [f0, f1, Bool.true_or, Bool.false_or, Bool.true_and, Bool.false_and, Bool.and_true, Bool.and_false, Bool.or_true, Bool.or_false]; rfl)
    · refine V_iload 0 dL_isOffWith_115 rfl ?_
      refine V_iload_n 9 dL_isOffWith_117 rfl ?_
      refine V_icmp_ne (tgt := 127) dL_isOffWith_118 (by decide) (fun c118 => ?_) (fun c118 => ?_)
      · refine V_iload 0 dL_isOffWith_127 rfl ?_
        refine V_iload_n 8 dL_isOffWith_129 rfl ?_
        refine V_icmp_ne (tgt := 143) dL_isOffWith_130 (by decide) (fun c130 => ?_) (fun c130 => ?_)
        · refine V_iconst (v := 0) dL_isOffWith_143 rfl ?_
          have f0 := bI_0 c101
          have f1 := bI_e1 c112
          have f2 := beq_f c118
          have f3 := beq_f c130
          exact kk _ _ w hF (by simp only [f0, f1, f2, f3, Bool.true_or, Bool.false_or, Bool.true_and, Bool.false_and, Bool.and_true, Bool.and_false, Bool.or_true, Bool.or_false]; rfl)
        · refine V_iload 2 dL_isOffWith_133 rfl ?_
          refine V_iload_n 9 dL_isOffWith_135 rfl ?_
          refine V_icmp_ne (tgt := 143) dL_isOffWith_136 (by decide) (fun c136 => ?_) (fun c136 => ?_)
          · refine V_iconst (v := 0) dL_isOffWith_143 rfl ?_
            have f0 := bI_0 c101
            have f1 := bI_e1 c112
            have f2 := beq_f c118
            have f3 := beq_t hpl (by omega) c130
            have f4 := beq_f c136
            exact kk _ _ w hF (by simp only [f0, f1, f2, f3, f4, Bool.true_or, Bool.false_or, Bool.true_and, Bool.false_and, Bool.and_true, Bool.and_false, Bool.or_true, Bool.or_false]; rfl)
          · refine V_iconst (v := 1) dL_isOffWith_139 rfl ?_
            refine V_goto (tgt := 144) dL_isOffWith_140 (by decide) ?_
            have f0 := bI_0 c101
            have f1 := bI_e1 c112
            have f2 := beq_f c118
            have f3 := beq_t hpl (by omega) c130
            have f4 := beq_t hnl (by omega) c136
            exact kk _ _ w hF (by simp only [f0, f1, f2, f3, f4, Bool.true_or, Bool.false_or, Bool.true_and, Bool.false_and, Bool.and_true, Bool.and_false, Bool.or_true, Bool.or_false]; rfl)
      · refine V_iload 2 dL_isOffWith_121 rfl ?_
        refine V_iload_n 8 dL_isOffWith_123 rfl ?_
        refine V_icmp_eq (tgt := 139) dL_isOffWith_124 (by decide) (fun c124 => ?_) (fun c124 => ?_)
        · refine V_iconst (v := 1) dL_isOffWith_139 rfl ?_
          refine V_goto (tgt := 144) dL_isOffWith_140 (by decide) ?_
          have f0 := bI_0 c101
          have f1 := bI_e1 c112
          have f2 := beq_t hpl (by omega) c118
          have f3 := beq_t hnl (by omega) c124
          exact kk _ _ w hF (by simp only [f0, f1, f2, f3, Bool.true_or, Bool.false_or, Bool.true_and, Bool.false_and, Bool.and_true, Bool.and_false, Bool.or_true, Bool.or_false]; rfl)
        · refine V_iload 0 dL_isOffWith_127 rfl ?_
          refine V_iload_n 8 dL_isOffWith_129 rfl ?_
          refine V_icmp_ne (tgt := 143) dL_isOffWith_130 (by decide) (fun c130 => ?_) (fun c130 => ?_)
          · refine V_iconst (v := 0) dL_isOffWith_143 rfl ?_
            have f0 := bI_0 c101
            have f1 := bI_e1 c112
            have f2 := beq_t hpl (by omega) c118
            have f3 := beq_f c124
            have f4 := beq_f c130
            exact kk _ _ w hF (by simp only [f0, f1, f2, f3, f4, Bool.true_or, Bool.false_or, Bool.true_and, Bool.false_and, Bool.and_true, Bool.and_false, Bool.or_true, Bool.or_false]; rfl)
          · refine V_iload 2 dL_isOffWith_133 rfl ?_
            refine V_iload_n 9 dL_isOffWith_135 rfl ?_
            refine V_icmp_ne (tgt := 143) dL_isOffWith_136 (by decide) (fun c136 => ?_) (fun c136 => ?_)
            · refine V_iconst (v := 0) dL_isOffWith_143 rfl ?_
              have f0 := bI_0 c101
              have f1 := bI_e1 c112
              have f2 := beq_t hpl (by omega) c118
              have f3 := beq_f c124
              have f4 := beq_t hpl (by omega) c130
              have f5 := beq_f c136
              exact kk _ _ w hF (by simp only [f0, f1, f2, f3, f4, f5, Bool.true_or, Bool.false_or, Bool.true_and, Bool.false_and, Bool.and_true, Bool.and_false, Bool.or_true, Bool.or_false]; rfl)
            · refine V_iconst (v := 1) dL_isOffWith_139 rfl ?_
              refine V_goto (tgt := 144) dL_isOffWith_140 (by decide) ?_
              have f0 := bI_0 c101
              have f1 := bI_e1 c112
              have f2 := beq_t hpl (by omega) c118
              have f3 := beq_f c124
              have f4 := beq_t hpl (by omega) c130
              have f5 := beq_t hnl (by omega) c136
              exact kk _ _ w hF (by simp only [f0, f1, f2, f3, f4, f5, Bool.true_or, Bool.false_or, Bool.true_and, Bool.false_and, Bool.and_true, Bool.and_false, Bool.or_true, Bool.or_false]; rfl)

theorem pA_s (r j : Nat) : rC r / 10 ^ j / 10 = rC r / 10 ^ (j + 1) := by rw [Nat.pow_succ, Nat.div_div_eq_div_mul]
theorem rC_31 {r : Nat} (hr : r < 37) (d : Nat) : rC r / d < 2 ^ 31 := Nat.lt_of_le_of_lt (Nat.div_le_self _ _) (by have := rC_lt r hr; omega)
set_option maxRecDepth 20000 in
theorem io_80 {g : GE} {M0 : Mem} {Q : Ou → Mem → Prop} {σ τ : Nat → Int32} {hk : Bool} {n : Nat} {ps : Nat → Nat → Int32} {len : Nat} {tx : Nat → Int32} (hI : I10 σ) {q r a b : Nat} (hq31 : q < 2 ^ 31) (hr : r < 37) (ht : thr σ r = true) (ho : fnd (atS σ q) 0 37 = some r) (ha : a < 5) (hb : b < 5) {x : Bool} {y7 : Int32} (kk : ∀ M sz, CW g M σ τ hk n ps len tx → FR M0 M 0 96 → V g m_L_isOffWith 162 [(4, .int (nI q)), (3, .int (bI (x || (offS σ r && anJ r a b (rSz r))))), (2, .int (nI b)), (1, .int (nI a)), (0, rf g 0)] [] M sz 0 0 Q) : ∀ m j, j + m = rSz r → ∀ M sz, CW g M σ τ hk n ps len tx → FR M0 M 0 96 → V g m_L_isOffWith 80 [(9, .int (nI j)), (8, .int (nI (nA r j))), (7, .int y7), (6, .int (nI (rC r / 10 ^ j))), (5, .int (nI (rSz r))), (4, .int (nI q)), (3, .int (bI (x || (offS σ r && anJ r a b j)))), (2, .int (nI b)), (1, .int (nI a)), (0, rf g 0)] [] M sz 0 0 Q := by
  have hs := rSz_in r
  intro m
  induction m with
  | zero =>
    intro j hj M sz w hF
    have e : j = rSz r := by omega
    subst e
    refine V_iload 0 dL_isOffWith_80 rfl ?_
    refine V_iload 4 dL_isOffWith_82 rfl ?_
    refine V_icmp_ge (tgt := 162) dL_isOffWith_84 (by decide) (fun c84 => ?_) (fun c84 => absurd (Int32.le_refl _) c84)
    refine V_lv (lv2 := [(4, .int _), (3, .int _), (2, .int _), (1, .int _), (0, .ref _)]) [5, 6, 7, 8, 9] rfl ?_
    exact kk _ _ w hF
  | succ m ih =>
    intro j hj M sz w hF
    have e1 : nI (rC r / 10 ^ j) - nI (rC r / 10 ^ j) / 10 * 10 = nI (pA r j) := pk_rem (rC_31 hr _) (by decide) (by decide)
    have e2 : nI (rC r / 10 ^ j) / 10 = nI (rC r / 10 ^ (j + 1)) := by rw [← pA_s]; exact pk_div (rC_31 hr _) (by decide) (by decide)
    have hp : pA r j < 10 := Nat.mod_lt _ (by decide)
    have hn : nA r j < 10 := by
      unfold nA
      split
      · exact Nat.mod_lt _ (by decide)
      · exact Nat.mod_lt _ (by decide)
    refine V_iload 0 dL_isOffWith_80 rfl ?_
    refine V_iload 4 dL_isOffWith_82 rfl ?_
    refine V_icmp_ge (tgt := 162) dL_isOffWith_84 (by decide) (fun c84 => absurd c84 (nI_ge (by omega) (by omega))) (fun c84 => ?_)
    refine V_iload 0 dL_isOffWith_87 rfl ?_
    refine V_iconst (v := 5) dL_isOffWith_89 rfl ?_
    refine V_icmp_ge (tgt := 162) dL_isOffWith_90 (by decide) (fun c90 => absurd c90 (nI_ge (b := 5) (by omega) (by decide))) (fun c90 => ?_)
    refine V_iload 3 dL_isOffWith_93 rfl ?_
    refine V_pc (pc2 := 95) rfl ?_
    refine V_bipush (v := 10) dL_isOffWith_95 (by decide) ?_
    refine V_irem dL_isOffWith_97 (by decide) ?_
    refine V_istore (lv2 := [(10, .int _), (9, .int _), (8, .int _), (7, .int _), (6, .int _), (5, .int _), (4, .int _), (3, .int _), (2, .int _), (1, .int _), (0, .ref _)]) dL_isOffWith_98 (Nat.le_of_ble_eq_true rfl) rfl ?_
    refine V_lv (lv2 := [(10, .int _), (9, .int _), (8, .int _), (7, .int _), (6, .int _), (5, .int _), (4, .int _), (3, .int _), (2, .int _), (1, .int _), (0, .ref _)]) [0, 1, 2, 3, 4, 5, 6, 7, 8, 9, 10] rfl ?_
    rw [e1]
    refine io_100 w hF hI hq31 hr ht ho ha hb (by omega) (by omega) (fun M1 v w hF hv => ?_)
    refine V_istore_n (lv2 := [(3, .int _), (10, .int _), (9, .int _), (8, .int _), (7, .int _), (6, .int _), (5, .int _), (4, .int _), (2, .int _), (1, .int _), (0, .ref _)]) dL_isOffWith_144 (Nat.le_of_ble_eq_true rfl) rfl ?_
    refine V_iload 1 dL_isOffWith_145 rfl ?_
    refine V_istore (lv2 := [(8, .int _), (3, .int _), (10, .int _), (9, .int _), (7, .int _), (6, .int _), (5, .int _), (4, .int _), (2, .int _), (1, .int _), (0, .ref _)]) dL_isOffWith_147 (Nat.le_of_ble_eq_true rfl) rfl ?_
    refine V_iload 5 dL_isOffWith_149 rfl ?_
    refine V_bipush (v := 10) dL_isOffWith_151 (by decide) ?_
    refine V_idiv dL_isOffWith_153 (by decide) ?_
    refine V_istore (lv2 := [(6, .int _), (8, .int _), (3, .int _), (10, .int _), (9, .int _), (7, .int _), (5, .int _), (4, .int _), (2, .int _), (1, .int _), (0, .ref _)]) dL_isOffWith_154 (Nat.le_of_ble_eq_true rfl) rfl ?_
    refine V_pc (pc2 := 156) rfl ?_
    refine V_iinc (v := _ + 1) (lv2 := [(9, .int _), (6, .int _), (8, .int _), (3, .int _), (10, .int _), (7, .int _), (5, .int _), (4, .int _), (2, .int _), (1, .int _), (0, .ref _)]) 4 dL_isOffWith_156 rfl rfl (Nat.le_of_ble_eq_true rfl) rfl ?_
    refine V_goto (tgt := 80) dL_isOffWith_159 (by decide) ?_
    refine V_lv (lv2 := [(9, .int _), (8, .int _), (7, .int _), (6, .int _), (5, .int _), (4, .int _), (3, .int _), (2, .int _), (1, .int _), (0, .ref _)]) [0, 2, 5, 1, 6, 7, 3, 8, 9, 10] rfl ?_
    rw [e2, nI_1, hv, ← or_l4]
    exact ih (j + 1) (by omega) _ _ w hF

theorem io_80s {g : GE} {M0 : Mem} {Q : Ou → Mem → Prop} {σ τ : Nat → Int32} {hk : Bool} {n : Nat} {ps : Nat → Nat → Int32} {len : Nat} {tx : Nat → Int32} (hI : I10 σ) {q r a b : Nat} (hq31 : q < 2 ^ 31) (hr : r < 37) (ht : thr σ r = true) (ho : fnd (atS σ q) 0 37 = some r) (ha : a < 5) (hb : b < 5) {x : Bool} {y7 : Int32} (kk : ∀ M sz, CW g M σ τ hk n ps len tx → FR M0 M 0 96 → V g m_L_isOffWith 162 [(4, .int (nI q)), (3, .int (bI (x || (offS σ r && anJ r a b (rSz r))))), (2, .int (nI b)), (1, .int (nI a)), (0, rf g 0)] [] M sz 0 0 Q) (M : Mem) (sz : Nat) (w : CW g M σ τ hk n ps len tx) (hF : FR M0 M 0 96) : V g m_L_isOffWith 80 [(9, .int 0), (8, .int (nI (rP r 0))), (7, .int y7), (6, .int (nI (rC r))), (5, .int (nI (rSz r))), (4, .int (nI q)), (3, .int (bI x)), (2, .int (nI b)), (1, .int (nI a)), (0, rf g 0)] [] M sz 0 0 Q := by
  have nx0 : nA r 0 = rP r 0 := if_pos rfl
  have key := io_80 (y7 := y7) hI hq31 hr ht ho ha hb kk (rSz r) 0 (by omega) M sz w hF
  rw [nx0, Nat.pow_zero, Nat.div_one, show anJ r a b 0 = false from rfl, Bool.and_false, Bool.or_false] at key
  exact key
set_option maxRecDepth 20000 in
theorem io_47 {g : GE} {M : Mem} {sz : Nat} {Q : Ou → Mem → Prop} {r q a b : Nat} (hr : r < 37) {x : Bool} (kk : V g m_L_isOffWith 73 [(7, .int (nI (rP r 0))), (6, .int (nI (rC r))), (5, .int (nI (rSz r))), (4, .int (nI q)), (3, .int (bI x)), (2, .int (nI b)), (1, .int (nI a)), (0, rf g 0)] [] M sz 0 0 Q) : ∀ m j y, j + m = rSz r → 1 ≤ j → y = nI (rC r / 10 ^ (j - 1)) → V g m_L_isOffWith 47 [(8, .int (nI j)), (7, .int y), (6, .int (nI (rC r))), (5, .int (nI (rSz r))), (4, .int (nI q)), (3, .int (bI x)), (2, .int (nI b)), (1, .int (nI a)), (0, rf g 0)] [] M sz 0 0 Q := by
  have hs := rSz_in r
  intro m
  induction m with
  | zero =>
    intro j y hj h1 hy
    have e : j = rSz r := by omega
    subst e
    rw [first_d r hr] at hy
    subst hy
    refine V_iload 0 dL_isOffWith_47 rfl ?_
    refine V_iload 3 dL_isOffWith_49 rfl ?_
    refine V_icmp_ge (tgt := 73) dL_isOffWith_51 (by decide) (fun c51 => ?_) (fun c51 => absurd (Int32.le_refl _) c51)
    refine V_lv (lv2 := [(7, .int _), (6, .int _), (5, .int _), (4, .int _), (3, .int _), (2, .int _), (1, .int _), (0, .ref _)]) [1, 2, 3, 4, 5, 6, 7, 8] rfl ?_
    exact kk
  | succ m ih =>
    intro j y hj h1 hy
    subst hy
    have e2 : nI (rC r / 10 ^ (j - 1)) / 10 = nI (rC r / 10 ^ (j + 1 - 1)) := by
      rw [show j + 1 - 1 = (j - 1) + 1 by omega, ← pA_s]; exact pk_div (rC_31 hr _) (by decide) (by decide)
    refine V_iload 0 dL_isOffWith_47 rfl ?_
    refine V_iload 3 dL_isOffWith_49 rfl ?_
    refine V_icmp_ge (tgt := 73) dL_isOffWith_51 (by decide) (fun c51 => absurd c51 (nI_ge (by omega) (by omega))) (fun c51 => ?_)
    refine V_iload 0 dL_isOffWith_54 rfl ?_
    refine V_iconst (v := 5) dL_isOffWith_56 rfl ?_
    refine V_icmp_ge (tgt := 73) dL_isOffWith_57 (by decide) (fun c57 => absurd c57 (nI_ge (b := 5) (by omega) (by decide))) (fun c57 => ?_)
    refine V_iload 1 dL_isOffWith_60 rfl ?_
    refine V_pc (pc2 := 62) rfl ?_
    refine V_bipush (v := 10) dL_isOffWith_62 (by decide) ?_
    refine V_idiv dL_isOffWith_64 (by decide) ?_
    refine V_istore (lv2 := [(7, .int _), (8, .int _), (6, .int _), (5, .int _), (4, .int _), (3, .int _), (2, .int _), (1, .int _), (0, .ref _)]) dL_isOffWith_65 (Nat.le_of_ble_eq_true rfl) rfl ?_
    refine V_iinc (v := _ + 1) (lv2 := [(8, .int _), (7, .int _), (6, .int _), (5, .int _), (4, .int _), (3, .int _), (2, .int _), (1, .int _), (0, .ref _)]) 1 dL_isOffWith_67 rfl rfl (Nat.le_of_ble_eq_true rfl) rfl ?_
    refine V_goto (tgt := 47) dL_isOffWith_70 (by decide) ?_
    refine V_lv (lv2 := [(8, .int _), (7, .int _), (6, .int _), (5, .int _), (4, .int _), (3, .int _), (2, .int _), (1, .int _), (0, .ref _)]) [0, 1, 2, 3, 4, 5, 6, 7, 8] rfl ?_
    rw [nI_1]
    exact ih (j + 1) _ (by omega) (by omega) e2

set_option maxRecDepth 20000 in
theorem io_5 {g : GE} {M0 : Mem} {σ τ : Nat → Int32} {hk : Bool} {n : Nat} {ps : Nat → Nat → Int32} {len : Nat} {tx : Nat → Int32} (hI : I10 σ) {mb : Nat} (hm : σ 60 = nI mb) (hm8 : mb ≤ 8) {a b : Nat} (ha : a < 5) (hb : b < 5) : ∀ m k, k + m = cnt (thr σ) 37 → ∀ R, R ≤ 37 → cnt (thr σ) R = k → ∀ M sz, CW g M σ τ hk n ps len tx → FR M0 M 0 96 → V g m_L_isOffWith 5 [(4, .int (nI k)), (3, .int (bI (fdl (thr σ) (isF σ a b) false R))), (2, .int (nI b)), (1, .int (nI a)), (0, rf g 0)] [] M sz 0 0 (RetP (some (.int (bI (fnd (wouS σ a b) 0 37).isSome))) (fun M2 => CW g M2 σ τ hk n ps len tx ∧ FR M0 M2 0 96)) := by
  have h37 := cnt_le (thr σ) 37
  intro m
  induction m with
  | zero =>
    intro k hkm R hR hRk M sz w hF
    have e : fdl (thr σ) (isF σ a b) false R = (fnd (wouS σ a b) 0 37).isSome := by rw [← is_fin, fdl_flat hR (by omega)]
    rw [e]
    refine V_iload 0 dL_isOffWith_5 rfl ?_
    refine V_aload_n 4 dL_isOffWith_7 rfl ?_
    refine V_iconst (v := 1) dL_isOffWith_8 rfl ?_
    refine Cq_L_130 (mc1 := 0) (ms1 := 0) rfl ⟨Nat.le_of_ble_eq_true rfl, Nat.le_of_ble_eq_true rfl⟩ (h_count_ok w.1 (x_count_ok w hI mb hm hm8 1 (by decide) rfl)) rfl (Nat.le_of_ble_eq_true rfl) dL_isOffWith_9 rfl (fun _ hq => ?_)
    have w := hq.1
    have hF := FR.trans (b := 0) (n := 96) hF hq.2 (by omega)
    clear hq
    refine V_icmp_ge (tgt := 168) dL_isOffWith_12 (by decide) (fun c12 => ?_) (fun c12 => absurd (by show nI (cnt (thr σ) 37) ≤ nI k; exact nI_le (by omega) (by omega)) c12)
    refine V_iload_n 1 dL_isOffWith_168 rfl ?_
    refine V_zret (st := []) dL_isOffWith_169 rfl (by cases (fnd (wouS σ a b) 0 37).isSome <;> simp [bI]) ?_
    exact ⟨rfl, w, hF⟩
  | succ m ih =>
    intro k hkm R hR hRk M sz w hF
    obtain ⟨r, hr, ht, hrk⟩ := cnt_ex (p := thr σ) (n := 37) (i := k) (by omega)
    have ho : fnd (atS σ k) 0 37 = some r := by rw [← hrk]; exact fnd_at hr ht
    have hq31 : k < 2 ^ 31 := by omega
    have q := k
    refine V_iload 0 dL_isOffWith_5 rfl ?_
    refine V_aload_n 4 dL_isOffWith_7 rfl ?_
    refine V_iconst (v := 1) dL_isOffWith_8 rfl ?_
    refine Cq_L_130 (mc1 := 0) (ms1 := 0) rfl ⟨Nat.le_of_ble_eq_true rfl, Nat.le_of_ble_eq_true rfl⟩ (h_count_ok w.1 (x_count_ok w hI mb hm hm8 1 (by decide) rfl)) rfl (Nat.le_of_ble_eq_true rfl) dL_isOffWith_9 rfl (fun _ hq => ?_)
    have w := hq.1
    have hF := FR.trans (b := 0) (n := 96) hF hq.2 (by omega)
    clear hq
    refine V_icmp_ge (tgt := 168) dL_isOffWith_12 (by decide) (fun c12 => absurd c12 (by show ¬ nI (cnt (thr σ) 37) ≤ nI k; exact nI_ge (by omega) (by omega))) (fun c12 => ?_)
    refine V_iload 0 dL_isOffWith_15 rfl ?_
    refine V_bipush (v := 37) dL_isOffWith_17 (by decide) ?_
    refine V_pc (pc2 := 19) rfl ?_
    refine V_icmp_ge (tgt := 168) dL_isOffWith_19 (by decide) (fun c19 => absurd c19 (nI_ge (b := 37) (by omega) (by decide))) (fun c19 => ?_)
    refine V_aload_n 4 dL_isOffWith_22 rfl ?_
    refine V_iload 0 dL_isOffWith_23 rfl ?_
    refine V_iconst (v := 0) dL_isOffWith_25 rfl ?_
    refine Cq_L_138 (mc1 := 0) (ms1 := 0) rfl ⟨Nat.le_of_ble_eq_true rfl, Nat.le_of_ble_eq_true rfl⟩ (h_ring_ok w.1 (x_ring_s w hI k r 0 rfl rfl (by decide) hq31 ho hr ht)) rfl (Nat.le_of_ble_eq_true rfl) dL_isOffWith_26 rfl (fun _ hq => ?_)
    have w := hq.1
    have hF := FR.trans (b := 0) (n := 96) hF hq.2 (by omega)
    clear hq
    rw [told_0]
    refine V_istore (lv2 := [(5, .int _), (4, .int _), (3, .int _), (2, .int _), (1, .int _), (0, .ref _)]) dL_isOffWith_29 (Nat.le_of_ble_eq_true rfl) rfl ?_
    refine V_aload_n 5 dL_isOffWith_31 rfl ?_
    refine V_iload 1 dL_isOffWith_32 rfl ?_
    refine V_pc (pc2 := 34) rfl ?_
    refine V_iconst (v := 1) dL_isOffWith_34 rfl ?_
    refine Cq_L_138 (mc1 := 0) (ms1 := 0) rfl ⟨Nat.le_of_ble_eq_true rfl, Nat.le_of_ble_eq_true rfl⟩ (h_ring_ok w.1 (x_ring_s w hI k r 1 rfl rfl (by decide) hq31 ho hr ht)) rfl (Nat.le_of_ble_eq_true rfl) dL_isOffWith_35 rfl (fun _ hq => ?_)
    have w := hq.1
    have hF := FR.trans (b := 0) (n := 96) hF hq.2 (by omega)
    clear hq
    rw [told_1]
    refine V_istore (lv2 := [(6, .int _), (5, .int _), (4, .int _), (3, .int _), (2, .int _), (1, .int _), (0, .ref _)]) dL_isOffWith_38 (Nat.le_of_ble_eq_true rfl) rfl ?_
    refine V_iload 0 dL_isOffWith_40 rfl ?_
    refine V_istore (lv2 := [(7, .int _), (6, .int _), (5, .int _), (4, .int _), (3, .int _), (2, .int _), (1, .int _), (0, .ref _)]) dL_isOffWith_42 (Nat.le_of_ble_eq_true rfl) rfl ?_
    refine V_iconst (v := 1) dL_isOffWith_44 rfl ?_
    refine V_istore (lv2 := [(8, .int _), (7, .int _), (6, .int _), (5, .int _), (4, .int _), (3, .int _), (2, .int _), (1, .int _), (0, .ref _)]) dL_isOffWith_45 (Nat.le_of_ble_eq_true rfl) rfl ?_
    refine V_lv (lv2 := [(8, .int _), (7, .int _), (6, .int _), (5, .int _), (4, .int _), (3, .int _), (2, .int _), (1, .int _), (0, .ref _)]) [0, 1, 2, 3, 4, 5, 6, 7, 8] rfl ?_
    refine io_47 hr ?_ (rSz r - 1) 1 _ (by have := rSz_in r; omega) (Nat.le_refl _) (by rw [Nat.sub_self, Nat.pow_zero, Nat.div_one])
    refine V_iload 0 dL_isOffWith_73 rfl ?_
    refine V_istore (lv2 := [(8, .int _), (7, .int _), (6, .int _), (5, .int _), (4, .int _), (3, .int _), (2, .int _), (1, .int _), (0, .ref _)]) dL_isOffWith_75 (Nat.le_of_ble_eq_true rfl) rfl ?_
    refine V_iconst (v := 0) dL_isOffWith_77 rfl ?_
    refine V_istore (lv2 := [(9, .int _), (8, .int _), (7, .int _), (6, .int _), (5, .int _), (4, .int _), (3, .int _), (2, .int _), (1, .int _), (0, .ref _)]) dL_isOffWith_78 (Nat.le_of_ble_eq_true rfl) rfl ?_
    refine V_lv (lv2 := [(9, .int _), (8, .int _), (7, .int _), (6, .int _), (5, .int _), (4, .int _), (3, .int _), (2, .int _), (1, .int _), (0, .ref _)]) [0, 1, 2, 3, 4, 5, 6, 7, 8, 9] rfl ?_
    refine io_80s hI hq31 hr ht ho ha hb (fun M sz w hF => ?_) _ _ w hF
    rw [an_has r a b hr ha hb]
    have e9 : (fdl (thr σ) (isF σ a b) false R || (offS σ r && rHas r a b)) = fdl (thr σ) (isF σ a b) false (r + 1) := (fdl_next (f := isF σ a b) (a := false) (by omega) ht).symm
    rw [e9]
    refine V_iinc (v := _ + 1) (lv2 := [(4, .int _), (3, .int _), (2, .int _), (1, .int _), (0, .ref _)]) 0 dL_isOffWith_162 rfl rfl (Nat.le_of_ble_eq_true rfl) rfl ?_
    refine V_goto (tgt := 5) dL_isOffWith_165 (by decide) ?_
    refine V_lv (lv2 := [(4, .int _), (3, .int _), (2, .int _), (1, .int _), (0, .ref _)]) [0, 1, 2, 3, 4] rfl ?_
    rw [nI_1]
    exact ih (k + 1) (by omega) (r + 1) (by omega) (by rw [cnt_t ht, hrk]) _ _ w hF

theorem iso_ok {g : GE} {M : Mem} {sz : Nat} {σ τ : Nat → Int32} {hk : Bool} {n : Nat} {ps : Nat → Nat → Int32} {len : Nat} {tx : Nat → Int32} (w : CW g M σ τ hk n ps len tx) (hI : I10 σ) {mb : Nat} (hm : σ 60 = nI mb) (hm8 : mb ≤ 8) {a b : Nat} (ha : a < 5) (hb : b < 5) : Run g m_L_isOffWith [rf g 0, .int (nI a), .int (nI b)] M sz 0 0 (RetP (some (.int (bI (fnd (wouS σ a b) 0 37).isSome))) (fun M2 => CW g M2 σ τ hk n ps len tx ∧ FR M M2 0 96)) := by
  refine Run.of rfl (by decide) (Nat.le_of_ble_eq_true rfl) ?_
  show V g m_L_isOffWith 0 _ [] _ _ _ _ _
  refine V_iconst (v := 0) dL_isOffWith_0 rfl ?_
  refine V_istore_n (lv2 := [(3, .int _), (0, .ref _), (1, .int _), (2, .int _)]) dL_isOffWith_1 (Nat.le_of_ble_eq_true rfl) rfl ?_
  refine V_iconst (v := 0) dL_isOffWith_2 rfl ?_
  refine V_istore (lv2 := [(4, .int _), (3, .int _), (0, .ref _), (1, .int _), (2, .int _)]) dL_isOffWith_3 (Nat.le_of_ble_eq_true rfl) rfl ?_
  refine V_lv (lv2 := [(4, .int _), (3, .int _), (2, .int _), (1, .int _), (0, .ref _)]) [0, 1, 4, 3, 2] rfl ?_
  exact io_5 (M0 := M) hI hm hm8 ha hb (cnt (thr σ) 37) 0 (by omega) 0 (by decide) rfl M sz w (FR.refl M 0 96)
