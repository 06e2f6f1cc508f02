/-! the reference: rings, gains, tables that are tried -/
def allN (P : Nat → Bool) : Nat → Bool
  | 0 => true
  | n + 1 => allN P n && P n
def anyN (P : Nat → Bool) : Nat → Bool
  | 0 => false
  | n + 1 => anyN P n || P n
theorem allN_range (P : Nat → Bool) : ∀ n, (List.range n).all P = allN P n
  | 0 => rfl
  | n + 1 => by rw [List.range_succ, List.all_append, allN_range P n]; simp [allN]
theorem anyN_range (P : Nat → Bool) : ∀ n, (List.range n).any P = anyN P n
  | 0 => rfl
  | n + 1 => by rw [List.range_succ, List.any_append, anyN_range P n]; simp [anyN]
def thrP (σ : Nat → Int32) (r k : Nat) : Bool := hasS σ (rP r k) (rP r ((k + 1) % rSz r))
theorem thr_all (σ : Nat → Int32) (r : Nat) : thr σ r = allN (thrP σ r) (rSz r) := allN_range _ _
def hasP (r a b k : Nat) : Bool := (rP r k == a && rP r ((k + 1) % rSz r) == b) || (rP r k == b && rP r ((k + 1) % rSz r) == a)
theorem rHas_any (r a b : Nat) : rHas r a b = anyN (hasP r a b) (rSz r) := anyN_range _ _
theorem sz9 {r : Nat} (hr : r < 37) : SZf (nI r).toNatClampNeg = nI (rSz r) := by rw [nI_clamp (by omega)]; rfl
theorem cd9 {r : Nat} (hr : r < 37) : CDf (nI r).toNatClampNeg = nI (rC r) := by rw [nI_clamp (by omega)]; rfl
theorem rem9 {r k : Nat} (hr : r < 37) (hk : k < rSz r) : nI k + 1 - (nI k + 1) / SZf (nI r).toNatClampNeg * SZf (nI r).toNatClampNeg = nI ((k + 1) % rSz r) := by
  have h := rSz_in r
  rw [sz9 hr, nI_1, pk_rem (by omega) (by omega) (by omega)]
theorem nz9 {r : Nat} (hr : r < 37) : ¬ SZf (nI r).toNatClampNeg = 0 := by
  have h := rSz_in r
  rw [sz9 hr]
  exact nI_ne0 (by omega) (by omega)
theorem nx_lt {r k : Nat} : (k + 1) % rSz r < rSz r := Nat.mod_lt _ (by have := rSz_in r; omega)
set_option maxRecDepth 20000 in
theorem r9_puts {g : GE} {M : Mem} {sz : Nat} {σ v : Nat → Int32} (hM : MD g M σ v) {y z : Int32} (a b : Nat) (hy : y = nI a) (hz : z = nI b) (ha : a < 5) (hb : b < 5) (hab : a ≠ b) {u d : Int32} : Run g m_X9_puts [rf g 96, .int y, .int z, .int u, .int d] M sz 0 0 (Ret none (mup M 97 (eI g 65 (putS σ a b u d)))) := by
  subst hy hz
  have hpr := pr_lt a b ha hb hab
  have hle : nI b ≤ nI a ↔ b ≤ a := nI_leI (by omega) (by omega)
  refine Run.of rfl (by decide) (Nat.le_of_ble_eq_true rfl) ?_
  show V g m_X9_puts 0 _ [] _ _ _ _ _
  refine V_aload_n 0 dX9_puts_0 rfl ?_
  refine G_X9_7 rfl hM.1 rfl dX9_puts_1 ?_
  refine V_iconst (v := 0) dX9_puts_4 rfl ?_
  refine V_iload_n 1 dX9_puts_5 rfl ?_
  refine V_iload_n 2 dX9_puts_6 rfl ?_
  refine C_X9_62 rfl ⟨Nat.le_of_ble_eq_true rfl, Nat.le_of_ble_eq_true rfl⟩ (r9_pair a b rfl rfl ha hb hab) rfl (Nat.le_of_ble_eq_true rfl) dX9_puts_7 rfl ?_
  refine V_iadd dX9_puts_10 ?_
  refine V_pc (pc2 := 11) rfl ?_
  refine V_iload_n 1 dX9_puts_11 rfl ?_
  refine V_iload_n 2 dX9_puts_12 rfl ?_
  refine V_icmp_ge (tgt := 20) dX9_puts_13 (by decide) (fun c13 => ?_) (fun c13 => ?_)
  · refine V_iload 4 dX9_puts_20 rfl ?_
    refine V_iast hM.2.1 (by first | (rw [Int32.zero_add]; exact vp_in_nI (n := pr a b) (by omega) (by decide)) | (rw [show (10 : Int32) = nI 10 from rfl, nI_add]; exact vp_in_nI (n := 10 + pr a b) (by omega) (by decide))) dX9_puts_22 ?_
    refine V_aload_n 0 dX9_puts_23 rfl ?_
    refine G_X9_7 rfl ((mup_ne _ _ (by decide)).trans hM.1) rfl dX9_puts_24 ?_
    refine V_bipush (v := 10) dX9_puts_27 (by decide) ?_
    refine V_iload_n 1 dX9_puts_29 rfl ?_
    refine V_iload_n 2 dX9_puts_30 rfl ?_
    refine V_pc (pc2 := 31) rfl ?_
    refine C_X9_62 rfl ⟨Nat.le_of_ble_eq_true rfl, Nat.le_of_ble_eq_true rfl⟩ (r9_pair a b rfl rfl ha hb hab) rfl (Nat.le_of_ble_eq_true rfl) dX9_puts_31 rfl ?_
    refine V_iadd dX9_puts_34 ?_
    refine V_iload_n 1 dX9_puts_35 rfl ?_
    refine V_iload_n 2 dX9_puts_36 rfl ?_
    refine V_icmp_ge (tgt := 45) dX9_puts_37 (by decide) (fun c37 => ?_) (fun c37 => ?_)
    · refine V_iload_n 3 dX9_puts_45 rfl ?_
      refine V_iast (mup_eq _ _ _) (by first | (rw [Int32.zero_add]; exact vp_in_nI (n := pr a b) (by omega) (by decide)) | (rw [show (10 : Int32) = nI 10 from rfl, nI_add]; exact vp_in_nI (n := 10 + pr a b) (by omega) (by decide))) dX9_puts_46 ?_
      refine V_ret (st := []) dX9_puts_47 rfl ?_
      refine ⟨rfl, ?_⟩; rw [mup_mup, Int32.zero_add, show (10 : Int32) = nI 10 from rfl, nI_add, nI_clamp (by omega), nI_clamp (by omega)]; unfold putS; rw [if_neg (by rw [hle] at c13; omega), if_neg (by rw [hle] at c13; omega)]
    · exact absurd c13 c37
  · refine V_iload_n 3 dX9_puts_16 rfl ?_
    refine V_goto (tgt := 22) dX9_puts_17 (by decide) ?_
    refine V_iast hM.2.1 (by first | (rw [Int32.zero_add]; exact vp_in_nI (n := pr a b) (by omega) (by decide)) | (rw [show (10 : Int32) = nI 10 from rfl, nI_add]; exact vp_in_nI (n := 10 + pr a b) (by omega) (by decide))) dX9_puts_22 ?_
    refine V_aload_n 0 dX9_puts_23 rfl ?_
    refine G_X9_7 rfl ((mup_ne _ _ (by decide)).trans hM.1) rfl dX9_puts_24 ?_
    refine V_bipush (v := 10) dX9_puts_27 (by decide) ?_
    refine V_iload_n 1 dX9_puts_29 rfl ?_
    refine V_pc (pc2 := 30) rfl ?_
    refine V_iload_n 2 dX9_puts_30 rfl ?_
    refine C_X9_62 rfl ⟨Nat.le_of_ble_eq_true rfl, Nat.le_of_ble_eq_true rfl⟩ (r9_pair a b rfl rfl ha hb hab) rfl (Nat.le_of_ble_eq_true rfl) dX9_puts_31 rfl ?_
    refine V_iadd dX9_puts_34 ?_
    refine V_iload_n 1 dX9_puts_35 rfl ?_
    refine V_iload_n 2 dX9_puts_36 rfl ?_
    refine V_icmp_ge (tgt := 45) dX9_puts_37 (by decide) (fun c37 => ?_) (fun c37 => ?_)
    · exact absurd c37 c13
    · refine V_iload 4 dX9_puts_40 rfl ?_
      refine V_goto (tgt := 46) dX9_puts_42 (by decide) ?_
      refine V_iast (mup_eq _ _ _) (by first | (rw [Int32.zero_add]; exact vp_in_nI (n := pr a b) (by omega) (by decide)) | (rw [show (10 : Int32) = nI 10 from rfl, nI_add]; exact vp_in_nI (n := 10 + pr a b) (by omega) (by decide))) dX9_puts_46 ?_
      refine V_ret (st := []) dX9_puts_47 rfl ?_
      refine ⟨rfl, ?_⟩; rw [mup_mup, Int32.zero_add, show (10 : Int32) = nI 10 from rfl, nI_add, nI_clamp (by omega), nI_clamp (by omega)]; unfold putS; rw [if_pos (by rw [hle] at c13; omega), if_pos (by rw [hle] at c13; omega)]

set_option maxRecDepth 20000 in
theorem r9_isThere {g : GE} {M : Mem} {sz : Nat} {σ v : Nat → Int32} (hM : MD g M σ v) {x : Int32} (r : Nat) (hx : x = nI r) (hr : r < 37) : Run g m_X9_isThere [rf g 96, .int x] M sz 0 0 (Ret (some (.int (bI (thr σ r)))) M) := by
  subst hx
  rw [thr_all]
  have h35 := rSz_in r
  have L : ∀ m k : Nat, k + m = rSz r → V g m_X9_isThere 4 [(3, .int (nI k)), (2, .int (bI (allN (thrP σ r) k))), (0, rf g 96), (1, .int (nI r))] [] M sz 0 0 (Ret (some (.int (bI (allN (thrP σ r) (rSz r))))) M) := by
    intro m
    induction m with
    | zero =>
      intro k hk
      obtain rfl : k = rSz r := by omega
      refine V_iload_n 0 dX9_isThere_4 rfl ?_
      refine V_aload_n 2 dX9_isThere_5 rfl ?_
      refine G_X9_22 rfl hM.1 rfl dX9_isThere_6 ?_
      refine V_iload_n 3 dX9_isThere_9 rfl ?_
      refine V_iald hM.2.2.1 (vp_in_nI hr (by decide)) dX9_isThere_10 ?_
      refine V_icmp_ge (tgt := 78) dX9_isThere_11 (by decide) (fun c11 => ?_) (fun c11 => absurd (by rw [sz9 hr]; exact nI_le (Nat.le_refl _) (by omega)) c11)
      refine V_iload_n 1 dX9_isThere_78 rfl ?_
      refine V_pc (pc2 := 79) rfl ?_
      refine V_zret (st := []) dX9_isThere_79 rfl (bI_01 _) ?_
      exact ⟨rfl, rfl⟩
    | succ m ih =>
      intro k hk
      have hlt : k < rSz r := by omega
      refine V_iload_n 0 dX9_isThere_4 rfl ?_
      refine V_aload_n 2 dX9_isThere_5 rfl ?_
      refine G_X9_22 rfl hM.1 rfl dX9_isThere_6 ?_
      refine V_iload_n 3 dX9_isThere_9 rfl ?_
      refine V_iald hM.2.2.1 (vp_in_nI hr (by decide)) dX9_isThere_10 ?_
      refine V_icmp_ge (tgt := 78) dX9_isThere_11 (by decide) (fun c11 => absurd c11 (by rw [sz9 hr]; exact nI_ge hlt (by omega))) (fun c11 => ?_)
      refine V_iload_n 1 dX9_isThere_14 rfl ?_
      refine V_pc (pc2 := 15) rfl ?_
      refine V_if_eq (tgt := 70) dX9_isThere_15 (by decide) (fun c15 => ?_) (fun c15 => ?_)
      · refine V_iconst (v := 0) dX9_isThere_70 rfl ?_
        refine V_istore_n (lv2 := [(2, .int _), (3, .int _), (0, .ref _), (1, .int _)]) dX9_isThere_71 (Nat.le_of_ble_eq_true rfl) rfl ?_
        refine V_iinc (v := _ + 1) (lv2 := [(3, .int _), (2, .int _), (0, .ref _), (1, .int _)]) 1 dX9_isThere_72 rfl rfl (Nat.le_of_ble_eq_true rfl) rfl ?_
        refine V_goto (tgt := 4) dX9_isThere_75 (by decide) ?_
        refine V_lv (lv2 := [(3, .int _), (2, .int _), (0, .ref _), (1, .int _)]) [0, 1, 2, 3] rfl ?_
        have e9 : allN (thrP σ r) (k + 1) = false := by show (allN (thrP σ r) k && thrP σ r k) = false; rw [bI_0 c15, Bool.false_and]
        rw [nI_1]
        have e := ih (k + 1) (by omega)
        rw [e9] at e
        exact e
      · refine V_aload_n 2 dX9_isThere_18 rfl ?_
        refine V_aload_n 2 dX9_isThere_19 rfl ?_
        refine G_X9_25 rfl hM.1 rfl dX9_isThere_20 ?_
        refine V_iload_n 3 dX9_isThere_23 rfl ?_
        refine V_iald hM.2.2.2 (vp_in_nI hr (by decide)) dX9_isThere_24 ?_
        refine V_aload_n 2 dX9_isThere_25 rfl ?_
        refine G_X9_22 rfl hM.1 rfl dX9_isThere_26 ?_
        refine V_pc (pc2 := 29) rfl ?_
        refine V_iload_n 3 dX9_isThere_29 rfl ?_
        refine V_iald hM.2.2.1 (vp_in_nI hr (by decide)) dX9_isThere_30 ?_
        refine V_iload_n 0 dX9_isThere_31 rfl ?_
        refine C_X9_51 rfl ⟨Nat.le_of_ble_eq_true rfl, Nat.le_of_ble_eq_true rfl⟩ (r9_at (rC r) (rSz r) k (cd9 hr) (sz9 hr) rfl (by have := rC_lt r hr; omega) hlt (rSz_in r).2) rfl (Nat.le_of_ble_eq_true rfl) dX9_isThere_32 rfl ?_
        refine V_aload_n 2 dX9_isThere_35 rfl ?_
        refine G_X9_25 rfl hM.1 rfl dX9_isThere_36 ?_
        refine V_iload_n 3 dX9_isThere_39 rfl ?_
        refine V_iald hM.2.2.2 (vp_in_nI hr (by decide)) dX9_isThere_40 ?_
        refine V_pc (pc2 := 41) rfl ?_
        refine V_aload_n 2 dX9_isThere_41 rfl ?_
        refine G_X9_22 rfl hM.1 rfl dX9_isThere_42 ?_
        refine V_iload_n 3 dX9_isThere_45 rfl ?_
        refine V_iald hM.2.2.1 (vp_in_nI hr (by decide)) dX9_isThere_46 ?_
        refine V_iload_n 0 dX9_isThere_47 rfl ?_
        refine V_iconst (v := 1) dX9_isThere_48 rfl ?_
        refine V_iadd dX9_isThere_49 ?_
        refine V_aload_n 2 dX9_isThere_50 rfl ?_
        refine V_pc (pc2 := 51) rfl ?_
        refine G_X9_22 rfl hM.1 rfl dX9_isThere_51 ?_
        refine V_iload_n 3 dX9_isThere_54 rfl ?_
        refine V_iald hM.2.2.1 (vp_in_nI hr (by decide)) dX9_isThere_55 ?_
        refine V_irem dX9_isThere_56 (nz9 hr) ?_
        refine C_X9_51 rfl ⟨Nat.le_of_ble_eq_true rfl, Nat.le_of_ble_eq_true rfl⟩ (r9_at (rC r) (rSz r) ((k + 1) % rSz r) (cd9 hr) (sz9 hr) (rem9 hr hlt) (by have := rC_lt r hr; omega) nx_lt (rSz_in r).2) rfl (Nat.le_of_ble_eq_true rfl) dX9_isThere_57 rfl ?_
        refine C_X9_66 hM.1 rfl ⟨Nat.le_of_ble_eq_true rfl, Nat.le_of_ble_eq_true rfl⟩ (r9_has hM (rP r k) (rP r ((k + 1) % rSz r)) rfl rfl (rP_lt r hr k hlt) (rP_lt r hr _ nx_lt)) rfl (Nat.le_of_ble_eq_true rfl) dX9_isThere_60 rfl ?_
        refine V_if_eq (tgt := 70) dX9_isThere_63 (by decide) (fun c63 => ?_) (fun c63 => ?_)
        · refine V_iconst (v := 0) dX9_isThere_70 rfl ?_
          refine V_istore_n (lv2 := [(2, .int _), (3, .int _), (0, .ref _), (1, .int _)]) dX9_isThere_71 (Nat.le_of_ble_eq_true rfl) rfl ?_
          refine V_iinc (v := _ + 1) (lv2 := [(3, .int _), (2, .int _), (0, .ref _), (1, .int _)]) 1 dX9_isThere_72 rfl rfl (Nat.le_of_ble_eq_true rfl) rfl ?_
          refine V_goto (tgt := 4) dX9_isThere_75 (by decide) ?_
          refine V_lv (lv2 := [(3, .int _), (2, .int _), (0, .ref _), (1, .int _)]) [0, 1, 2, 3] rfl ?_
          have e9 : allN (thrP σ r) (k + 1) = false := by show (allN (thrP σ r) k && thrP σ r k) = false; rw [bI_1 c15, Bool.true_and]; exact bI_0 c63
          rw [nI_1]
          have e := ih (k + 1) (by omega)
          rw [e9] at e
          exact e
        · refine V_iconst (v := 1) dX9_isThere_66 rfl ?_
          refine V_goto (tgt := 71) dX9_isThere_67 (by decide) ?_
          refine V_istore_n (lv2 := [(2, .int _), (3, .int _), (0, .ref _), (1, .int _)]) dX9_isThere_71 (Nat.le_of_ble_eq_true rfl) rfl ?_
          refine V_iinc (v := _ + 1) (lv2 := [(3, .int _), (2, .int _), (0, .ref _), (1, .int _)]) 1 dX9_isThere_72 rfl rfl (Nat.le_of_ble_eq_true rfl) rfl ?_
          refine V_goto (tgt := 4) dX9_isThere_75 (by decide) ?_
          refine V_lv (lv2 := [(3, .int _), (2, .int _), (0, .ref _), (1, .int _)]) [0, 1, 2, 3] rfl ?_
          have e9 : allN (thrP σ r) (k + 1) = true := by show (allN (thrP σ r) k && thrP σ r k) = true; rw [bI_1 c15, Bool.true_and]; exact bI_1 c63
          rw [nI_1]
          have e := ih (k + 1) (by omega)
          rw [e9] at e
          exact e
  refine Run.of rfl (by decide) (Nat.le_of_ble_eq_true rfl) ?_
  show V g m_X9_isThere 0 _ [] _ _ _ _ _
  refine V_iconst (v := 1) dX9_isThere_0 rfl ?_
  refine V_istore_n (lv2 := [(2, .int _), (0, .ref _), (1, .int _)]) dX9_isThere_1 (Nat.le_of_ble_eq_true rfl) rfl ?_
  refine V_iconst (v := 0) dX9_isThere_2 rfl ?_
  refine V_istore_n (lv2 := [(3, .int _), (2, .int _), (0, .ref _), (1, .int _)]) dX9_isThere_3 (Nat.le_of_ble_eq_true rfl) rfl ?_
  refine V_lv (lv2 := [(3, .int _), (2, .int _), (0, .ref _), (1, .int _)]) [0, 1, 2, 3] rfl ?_
  exact L (rSz r) 0 (by omega)

set_option maxRecDepth 20000 in
theorem r9_hasTable {g : GE} {M : Mem} {sz : Nat} {σ v : Nat → Int32} (hM : MD g M σ v) {x : Int32} (r : Nat) (hx : x = nI r) (hr : r < 37) {y z : Int32} (a b : Nat) (hy : y = nI a) (hz : z = nI b) (ha : a < 5) (hb : b < 5) : Run g m_X9_hasTable [rf g 96, .int x, .int y, .int z] M sz 0 0 (Ret (some (.int (bI (rHas r a b)))) M) := by
  subst hx hy hz
  rw [rHas_any]
  have h35 := rSz_in r
  have E : ∀ i j : Nat, i < 10 → j < 10 → (nI i = nI j ↔ i = j) := fun i j h1 h2 => nI_eq (by omega) (by omega)
  have L : ∀ m k : Nat, k + m = rSz r → V g m_X9_hasTable 6 [(5, .int (nI k)), (4, .int (bI (anyN (hasP r a b) k))), (0, rf g 96), (1, .int (nI r)), (2, .int (nI a)), (3, .int (nI b))] [] M sz 0 0 (Ret (some (.int (bI (anyN (hasP r a b) (rSz r))))) M) := by
    intro m
    induction m with
    | zero =>
      intro k hk
      obtain rfl : k = rSz r := by omega
      refine V_iload 0 dX9_hasTable_6 rfl ?_
      refine V_aload_n 2 dX9_hasTable_8 rfl ?_
      refine G_X9_22 rfl hM.1 rfl dX9_hasTable_9 ?_
      refine V_iload_n 3 dX9_hasTable_12 rfl ?_
      refine V_iald hM.2.2.1 (vp_in_nI hr (by decide)) dX9_hasTable_13 ?_
      refine V_icmp_ge (tgt := 106) dX9_hasTable_14 (by decide) (fun c14 => ?_) (fun c14 => absurd (by rw [sz9 hr]; exact nI_le (Nat.le_refl _) (by omega)) c14)
      refine V_iload 1 dX9_hasTable_106 rfl ?_
      refine V_pc (pc2 := 108) rfl ?_
      refine V_zret (st := []) dX9_hasTable_108 rfl (bI_01 _) ?_
      exact ⟨rfl, rfl⟩
    | succ m ih =>
      intro k hk
      have hlt : k < rSz r := by omega
      have hp1 := rP_lt r hr k hlt
      have hp2 := rP_lt r hr ((k + 1) % rSz r) nx_lt
      refine V_iload 0 dX9_hasTable_6 rfl ?_
      refine V_aload_n 2 dX9_hasTable_8 rfl ?_
      refine G_X9_22 rfl hM.1 rfl dX9_hasTable_9 ?_
      refine V_iload_n 3 dX9_hasTable_12 rfl ?_
      refine V_iald hM.2.2.1 (vp_in_nI hr (by decide)) dX9_hasTable_13 ?_
      refine V_icmp_ge (tgt := 106) dX9_hasTable_14 (by decide) (fun c14 => absurd c14 (by rw [sz9 hr]; exact nI_ge hlt (by omega))) (fun c14 => ?_)
      refine V_aload_n 2 dX9_hasTable_17 rfl ?_
      refine V_pc (pc2 := 18) rfl ?_
      refine G_X9_25 rfl hM.1 rfl dX9_hasTable_18 ?_
      refine V_iload_n 3 dX9_hasTable_21 rfl ?_
      refine V_iald hM.2.2.2 (vp_in_nI hr (by decide)) dX9_hasTable_22 ?_
      refine V_aload_n 2 dX9_hasTable_23 rfl ?_
      refine G_X9_22 rfl hM.1 rfl dX9_hasTable_24 ?_
      refine V_iload_n 3 dX9_hasTable_27 rfl ?_
      refine V_iald hM.2.2.1 (vp_in_nI hr (by decide)) dX9_hasTable_28 ?_
      refine V_iload 0 dX9_hasTable_29 rfl ?_
      refine V_pc (pc2 := 31) rfl ?_
      refine C_X9_51 rfl ⟨Nat.le_of_ble_eq_true rfl, Nat.le_of_ble_eq_true rfl⟩ (r9_at (rC r) (rSz r) k (cd9 hr) (sz9 hr) rfl (by have := rC_lt r hr; omega) hlt (rSz_in r).2) rfl (Nat.le_of_ble_eq_true rfl) dX9_hasTable_31 rfl ?_
      rw [show rC r / 10 ^ (rSz r - 1 - k) % 10 = rP r k from rfl]
      refine V_istore (lv2 := [(6, .int _), (5, .int _), (4, .int _), (0, .ref _), (1, .int _), (2, .int _), (3, .int _)]) dX9_hasTable_34 (Nat.le_of_ble_eq_true rfl) rfl ?_
      refine V_aload_n 3 dX9_hasTable_36 rfl ?_
      refine G_X9_25 rfl hM.1 rfl dX9_hasTable_37 ?_
      refine V_iload_n 4 dX9_hasTable_40 rfl ?_
      refine V_iald hM.2.2.2 (vp_in_nI hr (by decide)) dX9_hasTable_41 ?_
      refine V_aload_n 3 dX9_hasTable_42 rfl ?_
      refine G_X9_22 rfl hM.1 rfl dX9_hasTable_43 ?_
      refine V_pc (pc2 := 46) rfl ?_
      refine V_iload_n 4 dX9_hasTable_46 rfl ?_
      refine V_iald hM.2.2.1 (vp_in_nI hr (by decide)) dX9_hasTable_47 ?_
      refine V_iload 1 dX9_hasTable_48 rfl ?_
      refine V_iconst (v := 1) dX9_hasTable_50 rfl ?_
      refine V_iadd dX9_hasTable_51 ?_
      refine V_aload_n 3 dX9_hasTable_52 rfl ?_
      refine G_X9_22 rfl hM.1 rfl dX9_hasTable_53 ?_
      refine V_iload_n 4 dX9_hasTable_56 rfl ?_
      refine V_pc (pc2 := 57) rfl ?_
      refine V_iald hM.2.2.1 (vp_in_nI hr (by decide)) dX9_hasTable_57 ?_
      refine V_irem dX9_hasTable_58 (nz9 hr) ?_
      refine C_X9_51 rfl ⟨Nat.le_of_ble_eq_true rfl, Nat.le_of_ble_eq_true rfl⟩ (r9_at (rC r) (rSz r) ((k + 1) % rSz r) (cd9 hr) (sz9 hr) (rem9 hr hlt) (by have := rC_lt r hr; omega) nx_lt (rSz_in r).2) rfl (Nat.le_of_ble_eq_true rfl) dX9_hasTable_59 rfl ?_
      rw [show rC r / 10 ^ (rSz r - 1 - (k + 1) % rSz r) % 10 = rP r ((k + 1) % rSz r) from rfl]
      refine V_istore (lv2 := [(7, .int _), (6, .int _), (5, .int _), (4, .int _), (0, .ref _), (1, .int _), (2, .int _), (3, .int _)]) dX9_hasTable_62 (Nat.le_of_ble_eq_true rfl) rfl ?_
      refine V_iload 3 dX9_hasTable_64 rfl ?_
      refine V_if_ne (tgt := 93) dX9_hasTable_66 (by decide) (fun c66 => ?_) (fun c66 => ?_)
      · refine V_iconst (v := 1) dX9_hasTable_93 rfl ?_
        refine V_goto (tgt := 98) dX9_hasTable_94 (by decide) ?_
        refine V_istore (lv2 := [(4, .int _), (7, .int _), (6, .int _), (5, .int _), (0, .ref _), (1, .int _), (2, .int _), (3, .int _)]) dX9_hasTable_98 (Nat.le_of_ble_eq_true rfl) rfl ?_
        refine V_iinc (v := _ + 1) (lv2 := [(5, .int _), (4, .int _), (7, .int _), (6, .int _), (0, .ref _), (1, .int _), (2, .int _), (3, .int _)]) 3 dX9_hasTable_100 rfl rfl (Nat.le_of_ble_eq_true rfl) rfl ?_
        refine V_goto (tgt := 6) dX9_hasTable_103 (by decide) ?_
        refine V_lv (lv2 := [(5, .int _), (4, .int _), (0, .ref _), (1, .int _), (2, .int _), (3, .int _)]) [0, 1, 4, 5, 6, 7] rfl ?_
        have e9 : anyN (hasP r a b) (k + 1) = true := by
          show (anyN (hasP r a b) k || hasP r a b k) = true
          rw [bI_1 c66, Bool.true_or]
        rw [nI_1]
        have e := ih (k + 1) (by omega)
        rw [e9] at e
        exact e
      · refine V_iload 1 dX9_hasTable_69 rfl ?_
        refine V_iload_n 6 dX9_hasTable_71 rfl ?_
        refine V_icmp_ne (tgt := 81) dX9_hasTable_72 (by decide) (fun c72 => ?_) (fun c72 => ?_)
        · refine V_iload 1 dX9_hasTable_81 rfl ?_
          refine V_iload_n 7 dX9_hasTable_83 rfl ?_
          refine V_icmp_ne (tgt := 97) dX9_hasTable_84 (by decide) (fun c84 => ?_) (fun c84 => ?_)
          · refine V_iconst (v := 0) dX9_hasTable_97 rfl ?_
            refine V_istore (lv2 := [(4, .int _), (7, .int _), (6, .int _), (5, .int _), (0, .ref _), (1, .int _), (2, .int _), (3, .int _)]) dX9_hasTable_98 (Nat.le_of_ble_eq_true rfl) rfl ?_
            refine V_iinc (v := _ + 1) (lv2 := [(5, .int _), (4, .int _), (7, .int _), (6, .int _), (0, .ref _), (1, .int _), (2, .int _), (3, .int _)]) 3 dX9_hasTable_100 rfl rfl (Nat.le_of_ble_eq_true rfl) rfl ?_
            refine V_goto (tgt := 6) dX9_hasTable_103 (by decide) ?_
            refine V_lv (lv2 := [(5, .int _), (4, .int _), (0, .ref _), (1, .int _), (2, .int _), (3, .int _)]) [0, 1, 4, 5, 6, 7] rfl ?_
            rw [E _ _ (by omega) (by omega)] at c72
            rw [E _ _ (by omega) (by omega)] at c84
            have e9 : anyN (hasP r a b) (k + 1) = false := by
              show (anyN (hasP r a b) k || hasP r a b k) = false
              rw [bI_0 c66, Bool.false_or]; unfold hasP; generalize rP r k = e1 at *; generalize rP r ((k + 1) % rSz r) = e2 at *; simp; omega
            rw [nI_1]
            have e := ih (k + 1) (by omega)
            rw [e9] at e
            exact e
          · refine V_iload 0 dX9_hasTable_87 rfl ?_
            refine V_iload_n 6 dX9_hasTable_89 rfl ?_
            refine V_icmp_ne (tgt := 97) dX9_hasTable_90 (by decide) (fun c90 => ?_) (fun c90 => ?_)
            · refine V_iconst (v := 0) dX9_hasTable_97 rfl ?_
              refine V_istore (lv2 := [(4, .int _), (7, .int _), (6, .int _), (5, .int _), (0, .ref _), (1, .int _), (2, .int _), (3, .int _)]) dX9_hasTable_98 (Nat.le_of_ble_eq_true rfl) rfl ?_
              refine V_iinc (v := _ + 1) (lv2 := [(5, .int _), (4, .int _), (7, .int _), (6, .int _), (0, .ref _), (1, .int _), (2, .int _), (3, .int _)]) 3 dX9_hasTable_100 rfl rfl (Nat.le_of_ble_eq_true rfl) rfl ?_
              refine V_goto (tgt := 6) dX9_hasTable_103 (by decide) ?_
              refine V_lv (lv2 := [(5, .int _), (4, .int _), (0, .ref _), (1, .int _), (2, .int _), (3, .int _)]) [0, 1, 4, 5, 6, 7] rfl ?_
              rw [E _ _ (by omega) (by omega)] at c72
              rw [E _ _ (by omega) (by omega)] at c84
              rw [E _ _ (by omega) (by omega)] at c90
              have e9 : anyN (hasP r a b) (k + 1) = false := by
                show (anyN (hasP r a b) k || hasP r a b k) = false
                rw [bI_0 c66, Bool.false_or]; unfold hasP; generalize rP r k = e1 at *; generalize rP r ((k + 1) % rSz r) = e2 at *; simp; omega
              rw [nI_1]
              have e := ih (k + 1) (by omega)
              rw [e9] at e
              exact e
            · refine V_iconst (v := 1) dX9_hasTable_93 rfl ?_
              refine V_goto (tgt := 98) dX9_hasTable_94 (by decide) ?_
              refine V_istore (lv2 := [(4, .int _), (7, .int _), (6, .int _), (5, .int _), (0, .ref _), (1, .int _), (2, .int _), (3, .int _)]) dX9_hasTable_98 (Nat.le_of_ble_eq_true rfl) rfl ?_
              refine V_iinc (v := _ + 1) (lv2 := [(5, .int _), (4, .int _), (7, .int _), (6, .int _), (0, .ref _), (1, .int _), (2, .int _), (3, .int _)]) 3 dX9_hasTable_100 rfl rfl (Nat.le_of_ble_eq_true rfl) rfl ?_
              refine V_goto (tgt := 6) dX9_hasTable_103 (by decide) ?_
              refine V_lv (lv2 := [(5, .int _), (4, .int _), (0, .ref _), (1, .int _), (2, .int _), (3, .int _)]) [0, 1, 4, 5, 6, 7] rfl ?_
              rw [E _ _ (by omega) (by omega)] at c72
              rw [E _ _ (by omega) (by omega)] at c84
              rw [E _ _ (by omega) (by omega)] at c90
              have e9 : anyN (hasP r a b) (k + 1) = true := by
                show (anyN (hasP r a b) k || hasP r a b k) = true
                rw [bI_0 c66, Bool.false_or]; unfold hasP; generalize rP r k = e1 at *; generalize rP r ((k + 1) % rSz r) = e2 at *; simp; omega
              rw [nI_1]
              have e := ih (k + 1) (by omega)
              rw [e9] at e
              exact e
        · refine V_iload 0 dX9_hasTable_75 rfl ?_
          refine V_iload_n 7 dX9_hasTable_77 rfl ?_
          refine V_icmp_eq (tgt := 93) dX9_hasTable_78 (by decide) (fun c78 => ?_) (fun c78 => ?_)
          · refine V_iconst (v := 1) dX9_hasTable_93 rfl ?_
            refine V_goto (tgt := 98) dX9_hasTable_94 (by decide) ?_
            refine V_istore (lv2 := [(4, .int _), (7, .int _), (6, .int _), (5, .int _), (0, .ref _), (1, .int _), (2, .int _), (3, .int _)]) dX9_hasTable_98 (Nat.le_of_ble_eq_true rfl) rfl ?_
            refine V_iinc (v := _ + 1) (lv2 := [(5, .int _), (4, .int _), (7, .int _), (6, .int _), (0, .ref _), (1, .int _), (2, .int _), (3, .int _)]) 3 dX9_hasTable_100 rfl rfl (Nat.le_of_ble_eq_true rfl) rfl ?_
            refine V_goto (tgt := 6) dX9_hasTable_103 (by decide) ?_
            refine V_lv (lv2 := [(5, .int _), (4, .int _), (0, .ref _), (1, .int _), (2, .int _), (3, .int _)]) [0, 1, 4, 5, 6, 7] rfl ?_
            rw [E _ _ (by omega) (by omega)] at c72
            rw [E _ _ (by omega) (by omega)] at c78
            have e9 : anyN (hasP r a b) (k + 1) = true := by
              show (anyN (hasP r a b) k || hasP r a b k) = true
              rw [bI_0 c66, Bool.false_or]; unfold hasP; generalize rP r k = e1 at *; generalize rP r ((k + 1) % rSz r) = e2 at *; simp; omega
            rw [nI_1]
            have e := ih (k + 1) (by omega)
            rw [e9] at e
            exact e
          · refine V_iload 1 dX9_hasTable_81 rfl ?_
            refine V_iload_n 7 dX9_hasTable_83 rfl ?_
            refine V_icmp_ne (tgt := 97) dX9_hasTable_84 (by decide) (fun c84 => ?_) (fun c84 => ?_)
            · refine V_iconst (v := 0) dX9_hasTable_97 rfl ?_
              refine V_istore (lv2 := [(4, .int _), (7, .int _), (6, .int _), (5, .int _), (0, .ref _), (1, .int _), (2, .int _), (3, .int _)]) dX9_hasTable_98 (Nat.le_of_ble_eq_true rfl) rfl ?_
              refine V_iinc (v := _ + 1) (lv2 := [(5, .int _), (4, .int _), (7, .int _), (6, .int _), (0, .ref _), (1, .int _), (2, .int _), (3, .int _)]) 3 dX9_hasTable_100 rfl rfl (Nat.le_of_ble_eq_true rfl) rfl ?_
              refine V_goto (tgt := 6) dX9_hasTable_103 (by decide) ?_
              refine V_lv (lv2 := [(5, .int _), (4, .int _), (0, .ref _), (1, .int _), (2, .int _), (3, .int _)]) [0, 1, 4, 5, 6, 7] rfl ?_
              rw [E _ _ (by omega) (by omega)] at c72
              rw [E _ _ (by omega) (by omega)] at c78
              rw [E _ _ (by omega) (by omega)] at c84
              have e9 : anyN (hasP r a b) (k + 1) = false := by
                show (anyN (hasP r a b) k || hasP r a b k) = false
                rw [bI_0 c66, Bool.false_or]; unfold hasP; generalize rP r k = e1 at *; generalize rP r ((k + 1) % rSz r) = e2 at *; simp; omega
              rw [nI_1]
              have e := ih (k + 1) (by omega)
              rw [e9] at e
              exact e
            · refine V_iload 0 dX9_hasTable_87 rfl ?_
              refine V_iload_n 6 dX9_hasTable_89 rfl ?_
              refine V_icmp_ne (tgt := 97) dX9_hasTable_90 (by decide) (fun c90 => ?_) (fun c90 => ?_)
              · refine V_iconst (v := 0) dX9_hasTable_97 rfl ?_
                refine V_istore (lv2 := [(4, .int _), (7, .int _), (6, .int _), (5, .int _), (0, .ref _), (1, .int _), (2, .int _), (3, .int _)]) dX9_hasTable_98 (Nat.le_of_ble_eq_true rfl) rfl ?_
                refine V_iinc (v := _ + 1) (lv2 := [(5, .int _), (4, .int _), (7, .int _), (6, .int _), (0, .ref _), (1, .int _), (2, .int _), (3, .int _)]) 3 dX9_hasTable_100 rfl rfl (Nat.le_of_ble_eq_true rfl) rfl ?_
                refine V_goto (tgt := 6) dX9_hasTable_103 (by decide) ?_
                refine V_lv (lv2 := [(5, .int _), (4, .int _), (0, .ref _), (1, .int _), (2, .int _), (3, .int _)]) [0, 1, 4, 5, 6, 7] rfl ?_
                rw [E _ _ (by omega) (by omega)] at c72
                rw [E _ _ (by omega) (by omega)] at c78
                rw [E _ _ (by omega) (by omega)] at c84
                rw [E _ _ (by omega) (by omega)] at c90
                have e9 : anyN (hasP r a b) (k + 1) = false := by
                  show (anyN (hasP r a b) k || hasP r a b k) = false
                  rw [bI_0 c66, Bool.false_or]; unfold hasP; generalize rP r k = e1 at *; generalize rP r ((k + 1) % rSz r) = e2 at *; simp; omega
                rw [nI_1]
                have e := ih (k + 1) (by omega)
                rw [e9] at e
                exact e
              · refine V_iconst (v := 1) dX9_hasTable_93 rfl ?_
                refine V_goto (tgt := 98) dX9_hasTable_94 (by decide) ?_
                refine V_istore (lv2 := [(4, .int _), (7, .int _), (6, .int _), (5, .int _), (0, .ref _), (1, .int _), (2, .int _), (3, .int _)]) dX9_hasTable_98 (Nat.le_of_ble_eq_true rfl) rfl ?_
                refine V_iinc (v := _ + 1) (lv2 := [(5, .int _), (4, .int _), (7, .int _), (6, .int _), (0, .ref _), (1, .int _), (2, .int _), (3, .int _)]) 3 dX9_hasTable_100 rfl rfl (Nat.le_of_ble_eq_true rfl) rfl ?_
                refine V_goto (tgt := 6) dX9_hasTable_103 (by decide) ?_
                refine V_lv (lv2 := [(5, .int _), (4, .int _), (0, .ref _), (1, .int _), (2, .int _), (3, .int _)]) [0, 1, 4, 5, 6, 7] rfl ?_
                rw [E _ _ (by omega) (by omega)] at c72
                rw [E _ _ (by omega) (by omega)] at c78
                rw [E _ _ (by omega) (by omega)] at c84
                rw [E _ _ (by omega) (by omega)] at c90
                have e9 : anyN (hasP r a b) (k + 1) = true := by
                  show (anyN (hasP r a b) k || hasP r a b k) = true
                  rw [bI_0 c66, Bool.false_or]; unfold hasP; generalize rP r k = e1 at *; generalize rP r ((k + 1) % rSz r) = e2 at *; simp; omega
                rw [nI_1]
                have e := ih (k + 1) (by omega)
                rw [e9] at e
                exact e
  refine Run.of rfl (by decide) (Nat.le_of_ble_eq_true rfl) ?_
  show V g m_X9_hasTable 0 _ [] _ _ _ _ _
  refine V_iconst (v := 0) dX9_hasTable_0 rfl ?_
  refine V_istore (lv2 := [(4, .int _), (0, .ref _), (1, .int _), (2, .int _), (3, .int _)]) dX9_hasTable_1 (Nat.le_of_ble_eq_true rfl) rfl ?_
  refine V_iconst (v := 0) dX9_hasTable_3 rfl ?_
  refine V_istore (lv2 := [(5, .int _), (4, .int _), (0, .ref _), (1, .int _), (2, .int _), (3, .int _)]) dX9_hasTable_4 (Nat.le_of_ble_eq_true rfl) rfl ?_
  refine V_lv (lv2 := [(5, .int _), (4, .int _), (0, .ref _), (1, .int _), (2, .int _), (3, .int _)]) [0, 1, 2, 3, 4, 5] rfl ?_
  exact L (rSz r) 0 (by omega)

def prodM (σ : Nat → Int32) (r : Nat) (ups : Bool) : Nat → Int64
  | 0 => 1
  | k + 1 => prodM σ r ups k * facs σ ups (rP r k, rP r ((k + 1) % rSz r))
theorem prodM_eq (σ : Nat → Int32) (r : Nat) (ups : Bool) : prodM σ r ups (rSz r) = prodS σ r ups := by
  unfold prodS prodL rL
  have h : ∀ n, ((List.range n).map (rQ r)).foldl (fun s q => s * facs σ ups q) 1 = prodM σ r ups n := by
    intro n
    induction n with
    | zero => rfl
    | succ n ih => rw [List.range_succ, List.map_append, List.foldl_append, ih]; rfl
  exact (h _).symm
set_option maxRecDepth 20000 in
theorem r9_product {g : GE} {M : Mem} {sz : Nat} {σ v : Nat → Int32} (hM : MD g M σ v) {x : Int32} (r : Nat) (hx : x = nI r) (hr : r < 37) {w : Int32} (ups : Bool) (hw : w = bI ups) : Run g m_X9_product [rf g 96, .int x, .int w] M sz 0 0 (Ret (some (.long (prodS σ r ups))) M) := by
  subst hx hw
  have h35 := rSz_in r
  have L : ∀ m k : Nat, k + m = rSz r → V g m_X9_product 5 [(5, .int (nI k)), (3, .long (prodM σ r ups k)), (0, rf g 96), (1, .int (nI r)), (2, .int (bI ups))] [] M sz 0 0 (Ret (some (.long (prodS σ r ups))) M) := by
    intro m
    induction m with
    | zero =>
      intro k hk
      obtain rfl : k = rSz r := by omega
      refine V_iload 0 dX9_product_5 rfl ?_
      refine V_aload_n 2 dX9_product_7 rfl ?_
      refine G_X9_22 rfl hM.1 rfl dX9_product_8 ?_
      refine V_iload_n 3 dX9_product_11 rfl ?_
      refine V_iald hM.2.2.1 (vp_in_nI hr (by decide)) dX9_product_12 ?_
      refine V_icmp_ge (tgt := 97) dX9_product_13 (by decide) (fun c13 => ?_) (fun c13 => absurd (by rw [sz9 hr]; exact nI_le (Nat.le_refl _) (by omega)) c13)
      refine V_lload_n 1 dX9_product_97 rfl ?_
      refine V_pc (pc2 := 98) rfl ?_
      refine V_lret (st := []) dX9_product_98 rfl ?_
      exact ⟨by rw [prodM_eq], rfl⟩
    | succ m ih =>
      intro k hk
      have hlt : k < rSz r := by omega
      have hp1 := rP_lt r hr k hlt
      have hp2 := rP_lt r hr ((k + 1) % rSz r) nx_lt
      have hne : rP r k ≠ rP r ((k + 1) % rSz r) := rQ_ne r hr k hlt
      refine V_iload 0 dX9_product_5 rfl ?_
      refine V_aload_n 2 dX9_product_7 rfl ?_
      refine G_X9_22 rfl hM.1 rfl dX9_product_8 ?_
      refine V_iload_n 3 dX9_product_11 rfl ?_
      refine V_iald hM.2.2.1 (vp_in_nI hr (by decide)) dX9_product_12 ?_
      refine V_icmp_ge (tgt := 97) dX9_product_13 (by decide) (fun c13 => absurd c13 (by rw [sz9 hr]; exact nI_ge hlt (by omega))) (fun c13 => ?_)
      refine V_aload_n 2 dX9_product_16 rfl ?_
      refine V_pc (pc2 := 17) rfl ?_
      refine G_X9_25 rfl hM.1 rfl dX9_product_17 ?_
      refine V_iload_n 3 dX9_product_20 rfl ?_
      refine V_iald hM.2.2.2 (vp_in_nI hr (by decide)) dX9_product_21 ?_
      refine V_aload_n 2 dX9_product_22 rfl ?_
      refine G_X9_22 rfl hM.1 rfl dX9_product_23 ?_
      refine V_iload_n 3 dX9_product_26 rfl ?_
      refine V_iald hM.2.2.1 (vp_in_nI hr (by decide)) dX9_product_27 ?_
      refine V_iload 0 dX9_product_28 rfl ?_
      refine V_pc (pc2 := 30) rfl ?_
      refine C_X9_51 rfl ⟨Nat.le_of_ble_eq_true rfl, Nat.le_of_ble_eq_true rfl⟩ (r9_at (rC r) (rSz r) k (cd9 hr) (sz9 hr) rfl (by have := rC_lt r hr; omega) hlt (rSz_in r).2) rfl (Nat.le_of_ble_eq_true rfl) dX9_product_30 rfl ?_
      refine V_istore (lv2 := [(6, .int _), (5, .int _), (3, .long _), (0, .ref _), (1, .int _), (2, .int _)]) dX9_product_33 (Nat.le_of_ble_eq_true rfl) rfl ?_
      refine V_aload_n 3 dX9_product_35 rfl ?_
      refine G_X9_25 rfl hM.1 rfl dX9_product_36 ?_
      refine V_iload_n 4 dX9_product_39 rfl ?_
      refine V_iald hM.2.2.2 (vp_in_nI hr (by decide)) dX9_product_40 ?_
      refine V_aload_n 3 dX9_product_41 rfl ?_
      refine G_X9_22 rfl hM.1 rfl dX9_product_42 ?_
      refine V_pc (pc2 := 45) rfl ?_
      refine V_iload_n 4 dX9_product_45 rfl ?_
      refine V_iald hM.2.2.1 (vp_in_nI hr (by decide)) dX9_product_46 ?_
      refine V_iload 1 dX9_product_47 rfl ?_
      refine V_iconst (v := 1) dX9_product_49 rfl ?_
      refine V_iadd dX9_product_50 ?_
      refine V_aload_n 3 dX9_product_51 rfl ?_
      refine G_X9_22 rfl hM.1 rfl dX9_product_52 ?_
      refine V_iload_n 4 dX9_product_55 rfl ?_
      refine V_pc (pc2 := 56) rfl ?_
      refine V_iald hM.2.2.1 (vp_in_nI hr (by decide)) dX9_product_56 ?_
      refine V_irem dX9_product_57 (nz9 hr) ?_
      refine C_X9_51 rfl ⟨Nat.le_of_ble_eq_true rfl, Nat.le_of_ble_eq_true rfl⟩ (r9_at (rC r) (rSz r) ((k + 1) % rSz r) (cd9 hr) (sz9 hr) (rem9 hr hlt) (by have := rC_lt r hr; omega) nx_lt (rSz_in r).2) rfl (Nat.le_of_ble_eq_true rfl) dX9_product_58 rfl ?_
      refine V_istore (lv2 := [(7, .int _), (6, .int _), (5, .int _), (3, .long _), (0, .ref _), (1, .int _), (2, .int _)]) dX9_product_61 (Nat.le_of_ble_eq_true rfl) rfl ?_
      refine V_lload_n 3 dX9_product_63 rfl ?_
      refine V_iload_n 6 dX9_product_64 rfl ?_
      refine V_if_eq (tgt := 80) dX9_product_65 (by decide) (fun c65 => ?_) (fun c65 => ?_)
      · refine V_aload_n 4 dX9_product_80 rfl ?_
        refine V_iload 1 dX9_product_81 rfl ?_
        refine V_iload 0 dX9_product_83 rfl ?_
        refine C_X9_72 hM.1 rfl ⟨Nat.le_of_ble_eq_true rfl, Nat.le_of_ble_eq_true rfl⟩ (r9_down hM (rP r k) (rP r ((k + 1) % rSz r)) rfl rfl hp1 hp2 hne) rfl (Nat.le_of_ble_eq_true rfl) dX9_product_85 rfl ?_
        refine V_i2l dX9_product_88 ?_
        refine V_lmul dX9_product_89 ?_
        refine V_lstore_n (lv2 := [(3, .long _), (7, .int _), (6, .int _), (5, .int _), (0, .ref _), (1, .int _), (2, .int _)]) dX9_product_90 (Nat.le_of_ble_eq_true rfl) rfl ?_
        refine V_pc (pc2 := 91) rfl ?_
        refine V_iinc (v := _ + 1) (lv2 := [(5, .int _), (3, .long _), (7, .int _), (6, .int _), (0, .ref _), (1, .int _), (2, .int _)]) 3 dX9_product_91 rfl rfl (Nat.le_of_ble_eq_true rfl) rfl ?_
        refine V_goto (tgt := 5) dX9_product_94 (by decide) ?_
        refine V_lv (lv2 := [(5, .int _), (3, .long _), (0, .ref _), (1, .int _), (2, .int _)]) [0, 1, 4, 5, 6] rfl ?_
        obtain rfl : ups = false := bI_0 c65
        have e := ih (k + 1) (by omega)
        rw [prodM, facs] at e
        rw [nI_1]
        exact e
      · refine V_aload_n 4 dX9_product_68 rfl ?_
        refine V_iload 1 dX9_product_69 rfl ?_
        refine V_iload 0 dX9_product_71 rfl ?_
        refine C_X9_69 hM.1 rfl ⟨Nat.le_of_ble_eq_true rfl, Nat.le_of_ble_eq_true rfl⟩ (r9_up hM (rP r k) (rP r ((k + 1) % rSz r)) rfl rfl hp1 hp2 hne) rfl (Nat.le_of_ble_eq_true rfl) dX9_product_73 rfl ?_
        refine V_i2l dX9_product_76 ?_
        refine V_goto (tgt := 89) dX9_product_77 (by decide) ?_
        refine V_lmul dX9_product_89 ?_
        refine V_pc (pc2 := 90) rfl ?_
        refine V_lstore_n (lv2 := [(3, .long _), (7, .int _), (6, .int _), (5, .int _), (0, .ref _), (1, .int _), (2, .int _)]) dX9_product_90 (Nat.le_of_ble_eq_true rfl) rfl ?_
        refine V_iinc (v := _ + 1) (lv2 := [(5, .int _), (3, .long _), (7, .int _), (6, .int _), (0, .ref _), (1, .int _), (2, .int _)]) 3 dX9_product_91 rfl rfl (Nat.le_of_ble_eq_true rfl) rfl ?_
        refine V_goto (tgt := 5) dX9_product_94 (by decide) ?_
        refine V_lv (lv2 := [(5, .int _), (3, .long _), (0, .ref _), (1, .int _), (2, .int _)]) [0, 1, 4, 5, 6] rfl ?_
        obtain rfl : ups = true := bI_1 c65
        have e := ih (k + 1) (by omega)
        rw [prodM, facs] at e
        rw [nI_1]
        exact e
  refine Run.of rfl (by decide) (Nat.le_of_ble_eq_true rfl) ?_
  show V g m_X9_product 0 _ [] _ _ _ _ _
  refine V_lconst (v := 1) dX9_product_0 rfl ?_
  refine V_lstore_n (lv2 := [(3, .long _), (0, .ref _), (1, .int _), (2, .int _)]) dX9_product_1 (Nat.le_of_ble_eq_true rfl) rfl ?_
  refine V_iconst (v := 0) dX9_product_2 rfl ?_
  refine V_istore (lv2 := [(5, .int _), (3, .long _), (0, .ref _), (1, .int _), (2, .int _)]) dX9_product_3 (Nat.le_of_ble_eq_true rfl) rfl ?_
  refine V_lv (lv2 := [(5, .int _), (3, .long _), (0, .ref _), (1, .int _), (2, .int _)]) [0, 1, 2, 3, 4] rfl ?_
  exact L (rSz r) 0 (by omega)

set_option maxRecDepth 20000 in
theorem r9_floored {g : GE} {M : Mem} {sz : Nat} (x y : Int64) (h0 : ¬ y = 0) : Run g m_X9_floored [.long x, .long y] M sz 0 0 (Ret (some (.long (flr x y))) M) := by
  refine Run.of rfl (by decide) (Nat.le_of_ble_eq_true rfl) ?_
  show V g m_X9_floored 0 _ [] _ _ _ _ _
  refine V_lload_n 0 dX9_floored_0 rfl ?_
  refine V_lload_n 1 dX9_floored_1 rfl ?_
  refine V_ldiv dX9_floored_2 h0 ?_
  refine V_lstore (lv2 := [(4, .long _), (0, .long _), (2, .long _)]) dX9_floored_3 (Nat.le_of_ble_eq_true rfl) rfl ?_
  refine V_lload_n 1 dX9_floored_5 rfl ?_
  refine V_lload_n 2 dX9_floored_6 rfl ?_
  refine V_lrem dX9_floored_7 h0 ?_
  refine V_pc (pc2 := 8) rfl ?_
  refine V_lconst (v := 0) dX9_floored_8 rfl ?_
  refine V_lcmp dX9_floored_9 ?_
  refine V_if_ge (tgt := 20) dX9_floored_10 (by decide) (fun c10 => ?_) (fun c10 => ?_)
  · refine V_lload 0 dX9_floored_20 rfl ?_
    refine V_lret (st := []) dX9_floored_22 rfl ?_
    refine ⟨?_, rfl⟩; unfold flr; rw [if_neg (Int64.not_lt.mpr (lgc_ge.mp c10))]
  · refine V_lload 0 dX9_floored_13 rfl ?_
    refine V_lconst (v := 1) dX9_floored_15 rfl ?_
    refine V_lsub dX9_floored_16 ?_
    refine V_goto (tgt := 22) dX9_floored_17 (by decide) ?_
    refine V_lret (st := []) dX9_floored_22 rfl ?_
    refine ⟨?_, rfl⟩; unfold flr; rw [if_pos (Int64.not_le.mp (fun h => c10 (lgc_ge.mpr h)))]

set_option maxRecDepth 20000 in
theorem r9_gain {g : GE} {M : Mem} {sz : Nat} {σ v : Nat → Int32} (hM : MD g M σ v) {x : Int32} (r : Nat) (hx : x = nI r) (hr : r < 37) (hI : I10 σ) (ht : thr σ r = true) : Run g m_X9_gain [rf g 96, .int x] M sz 0 0 (Ret (some (.long (gainS σ r))) M) := by
  obtain ⟨n, n1, n2, n3⟩ := prodS_pos hI hr ht false
  have hp : 0 < prodS σ r false := by rw [n3]; exact lN_gt0 n1 (by omega)
  refine Run.of rfl (by decide) (Nat.le_of_ble_eq_true rfl) ?_
  show V g m_X9_gain 0 _ [] _ _ _ _ _
  refine V_aload_n 0 dX9_gain_0 rfl ?_
  refine V_iload_n 1 dX9_gain_1 rfl ?_
  refine V_iconst (v := 0) dX9_gain_2 rfl ?_
  refine C_X9_75 hM.1 rfl ⟨Nat.le_of_ble_eq_true rfl, Nat.le_of_ble_eq_true rfl⟩ (r9_product hM r hx hr false rfl) rfl (Nat.le_of_ble_eq_true rfl) dX9_gain_3 rfl ?_
  refine V_lstore_n (lv2 := [(2, .long _), (0, .ref _), (1, .int _)]) dX9_gain_6 (Nat.le_of_ble_eq_true rfl) rfl ?_
  refine V_aload_n 1 dX9_gain_7 rfl ?_
  refine V_iload_n 2 dX9_gain_8 rfl ?_
  refine V_pc (pc2 := 9) rfl ?_
  refine V_iconst (v := 1) dX9_gain_9 rfl ?_
  refine C_X9_75 hM.1 rfl ⟨Nat.le_of_ble_eq_true rfl, Nat.le_of_ble_eq_true rfl⟩ (r9_product hM r hx hr true rfl) rfl (Nat.le_of_ble_eq_true rfl) dX9_gain_10 rfl ?_
  refine V_lload_n 0 dX9_gain_13 rfl ?_
  refine V_lsub dX9_gain_14 ?_
  refine V_ldc2 z_X9_79 dX9_gain_15 ?_
  refine V_lmul dX9_gain_18 ?_
  refine V_lload_n 0 dX9_gain_19 rfl ?_
  refine C_X9_81 rfl ⟨Nat.le_of_ble_eq_true rfl, Nat.le_of_ble_eq_true rfl⟩ (r9_floored _ _ (fun e => absurd hp (by rw [e]; decide))) rfl (Nat.le_of_ble_eq_true rfl) dX9_gain_20 rfl ?_
  refine V_pc (pc2 := 23) rfl ?_
  refine V_lret (st := []) dX9_gain_23 rfl ?_
  exact ⟨rfl, rfl⟩

theorem labs_neg {x : Int64} (h : ¬ 0 ≤ x) : labs x = -x := if_neg h
theorem labs_pos {x : Int64} (h : 0 ≤ x) : labs x = x := if_pos h
set_option maxRecDepth 20000 in
theorem r9_isOff {g : GE} {M : Mem} {sz : Nat} {σ v : Nat → Int32} (hM : MD g M σ v) {x : Int32} (r : Nat) (hx : x = nI r) (hr : r < 37) (hI : I10 σ) (ht : thr σ r = true) : Run g m_X9_isOff [rf g 96, .int x] M sz 0 0 (Ret (some (.int (bI (offS σ r)))) M) := by
  refine Run.of rfl (by decide) (Nat.le_of_ble_eq_true rfl) ?_
  show V g m_X9_isOff 0 _ [] _ _ _ _ _
  refine V_aload_n 0 dX9_isOff_0 rfl ?_
  refine V_iload_n 1 dX9_isOff_1 rfl ?_
  refine C_X9_85 hM.1 rfl ⟨Nat.le_of_ble_eq_true rfl, Nat.le_of_ble_eq_true rfl⟩ (r9_gain hM r hx hr hI ht) rfl (Nat.le_of_ble_eq_true rfl) dX9_isOff_2 rfl ?_
  refine V_lstore_n (lv2 := [(2, .long _), (0, .ref _), (1, .int _)]) dX9_isOff_5 (Nat.le_of_ble_eq_true rfl) rfl ?_
  refine V_lload_n 0 dX9_isOff_6 rfl ?_
  refine V_lconst (v := 0) dX9_isOff_7 rfl ?_
  refine V_lcmp dX9_isOff_8 ?_
  refine V_pc (pc2 := 9) rfl ?_
  refine V_if_ge (tgt := 17) dX9_isOff_9 (by decide) (fun c9 => ?_) (fun c9 => ?_)
  · refine V_lload_n 0 dX9_isOff_17 rfl ?_
    refine V_aload_n 1 dX9_isOff_18 rfl ?_
    refine G_X9_7 rfl hM.1 rfl dX9_isOff_19 ?_
    refine V_bipush (v := 25) dX9_isOff_22 (by decide) ?_
    refine V_iald hM.2.1 (vp_in_nI (n := 25) (by decide) (by decide)) dX9_isOff_24 ?_
    refine V_i2l dX9_isOff_25 ?_
    refine V_lcmp dX9_isOff_26 ?_
    refine V_pc (pc2 := 27) rfl ?_
    refine V_if_le (tgt := 34) dX9_isOff_27 (by decide) (fun c27 => ?_) (fun c27 => ?_)
    · refine V_iconst (v := 0) dX9_isOff_34 rfl ?_
      refine V_zret (st := []) dX9_isOff_35 rfl (by simp) ?_
      refine ⟨?_, rfl⟩; unfold offS; rw [labs_pos (lgc_ge.mp c9)]; rw [show (σ 25).toInt64 = (σ (25 : Int32).toNatClampNeg).toInt64 from rfl, decide_eq_false (fun h => absurd (lgc_gt.mpr h) (Int32.not_lt.mpr c27))]; rfl
    · refine V_iconst (v := 1) dX9_isOff_30 rfl ?_
      refine V_goto (tgt := 35) dX9_isOff_31 (by decide) ?_
      refine V_zret (st := []) dX9_isOff_35 rfl (by simp) ?_
      refine ⟨?_, rfl⟩; unfold offS; rw [labs_pos (lgc_ge.mp c9)]; rw [show (σ 25).toInt64 = (σ (25 : Int32).toNatClampNeg).toInt64 from rfl, decide_eq_true (lgc_gt.mp (Int32.not_le.mp c27))]; rfl
  · refine V_lload_n 0 dX9_isOff_12 rfl ?_
    refine V_lneg dX9_isOff_13 ?_
    refine V_goto (tgt := 18) dX9_isOff_14 (by decide) ?_
    refine V_aload_n 1 dX9_isOff_18 rfl ?_
    refine G_X9_7 rfl hM.1 rfl dX9_isOff_19 ?_
    refine V_bipush (v := 25) dX9_isOff_22 (by decide) ?_
    refine V_iald hM.2.1 (vp_in_nI (n := 25) (by decide) (by decide)) dX9_isOff_24 ?_
    refine V_pc (pc2 := 25) rfl ?_
    refine V_i2l dX9_isOff_25 ?_
    refine V_lcmp dX9_isOff_26 ?_
    refine V_if_le (tgt := 34) dX9_isOff_27 (by decide) (fun c27 => ?_) (fun c27 => ?_)
    · refine V_iconst (v := 0) dX9_isOff_34 rfl ?_
      refine V_zret (st := []) dX9_isOff_35 rfl (by simp) ?_
      refine ⟨?_, rfl⟩; unfold offS; rw [labs_neg (fun h => c9 (lgc_ge.mpr h))]; rw [show (σ 25).toInt64 = (σ (25 : Int32).toNatClampNeg).toInt64 from rfl, decide_eq_false (fun h => absurd (lgc_gt.mpr h) (Int32.not_lt.mpr c27))]; rfl
    · refine V_iconst (v := 1) dX9_isOff_30 rfl ?_
      refine V_goto (tgt := 35) dX9_isOff_31 (by decide) ?_
      refine V_zret (st := []) dX9_isOff_35 rfl (by simp) ?_
      refine ⟨?_, rfl⟩; unfold offS; rw [labs_neg (fun h => c9 (lgc_ge.mpr h))]; rw [show (σ 25).toInt64 = (σ (25 : Int32).toNatClampNeg).toInt64 from rfl, decide_eq_true (lgc_gt.mp (Int32.not_le.mp c27))]; rfl

set_option maxRecDepth 20000 in
theorem r9_rings {g : GE} {M : Mem} {sz : Nat} {σ v : Nat → Int32} (hM : MD g M σ v) : Run g m_X9_rings [rf g 96] M sz 0 0 (Ret (some (.int (nI (cnt (thr σ) 37)))) M) := by
  have L : ∀ m i : Nat, i + m = 37 → V g m_X9_rings 4 [(2, .int (nI i)), (1, .int (nI (cnt (thr σ) i))), (0, rf g 96)] [] M sz 0 0 (Ret (some (.int (nI (cnt (thr σ) 37)))) M) := by
    intro m
    induction m with
    | zero =>
      intro i hi
      obtain rfl : i = 37 := by omega
      refine V_iload_n 0 dX9_rings_4 rfl ?_
      refine V_bipush (v := 37) dX9_rings_5 (by decide) ?_
      refine V_icmp_ge (tgt := 32) dX9_rings_7 (by decide) (fun c7 => ?_) (fun c7 => absurd (by decide) c7)
      refine V_iload_n 1 dX9_rings_32 rfl ?_
      refine V_iret (st := []) dX9_rings_33 rfl ?_
      exact ⟨rfl, rfl⟩
    | succ m ih =>
      intro i hi
      have hlt : i < 37 := by omega
      refine V_iload_n 0 dX9_rings_4 rfl ?_
      refine V_bipush (v := 37) dX9_rings_5 (by decide) ?_
      refine V_icmp_ge (tgt := 32) dX9_rings_7 (by decide) (fun c7 => absurd c7 (nI_ge (b := 37) hlt (by decide))) (fun c7 => ?_)
      refine V_iload_n 1 dX9_rings_10 rfl ?_
      refine V_aload_n 2 dX9_rings_11 rfl ?_
      refine V_iload_n 0 dX9_rings_12 rfl ?_
      refine C_X9_89 hM.1 rfl ⟨Nat.le_of_ble_eq_true rfl, Nat.le_of_ble_eq_true rfl⟩ (r9_isThere hM i rfl hlt) rfl (Nat.le_of_ble_eq_true rfl) dX9_rings_13 rfl ?_
      refine V_pc (pc2 := 16) rfl ?_
      refine V_if_eq (tgt := 23) dX9_rings_16 (by decide) (fun c16 => ?_) (fun c16 => ?_)
      · refine V_iconst (v := 0) dX9_rings_23 rfl ?_
        refine V_iadd dX9_rings_24 ?_
        refine V_istore_n (lv2 := [(1, .int _), (2, .int _), (0, .ref _)]) dX9_rings_25 (Nat.le_of_ble_eq_true rfl) rfl ?_
        refine V_iinc (v := _ + 1) (lv2 := [(2, .int _), (1, .int _), (0, .ref _)]) 1 dX9_rings_26 rfl rfl (Nat.le_of_ble_eq_true rfl) rfl ?_
        refine V_goto (tgt := 4) dX9_rings_29 (by decide) ?_
        refine V_lv (lv2 := [(2, .int _), (1, .int _), (0, .ref _)]) [0, 1, 2] rfl ?_
        have e9 := cnt_f (p := (thr σ)) (n := i) (bI_0 c16)
        rw [nI_1, Int32.add_zero]
        have e := ih (i + 1) (by omega)
        rw [e9] at e
        exact e
      · refine V_iconst (v := 1) dX9_rings_19 rfl ?_
        refine V_goto (tgt := 24) dX9_rings_20 (by decide) ?_
        refine V_iadd dX9_rings_24 ?_
        refine V_istore_n (lv2 := [(1, .int _), (2, .int _), (0, .ref _)]) dX9_rings_25 (Nat.le_of_ble_eq_true rfl) rfl ?_
        refine V_iinc (v := _ + 1) (lv2 := [(2, .int _), (1, .int _), (0, .ref _)]) 1 dX9_rings_26 rfl rfl (Nat.le_of_ble_eq_true rfl) rfl ?_
        refine V_goto (tgt := 4) dX9_rings_29 (by decide) ?_
        refine V_lv (lv2 := [(2, .int _), (1, .int _), (0, .ref _)]) [0, 1, 2] rfl ?_
        have e9 := cnt_t (p := (thr σ)) (n := i) (bI_1 c16)
        rw [nI_1, nI_1]
        have e := ih (i + 1) (by omega)
        rw [e9] at e
        exact e
  refine Run.of rfl (by decide) (Nat.le_of_ble_eq_true rfl) ?_
  show V g m_X9_rings 0 _ [] _ _ _ _ _
  refine V_iconst (v := 0) dX9_rings_0 rfl ?_
  refine V_istore_n (lv2 := [(1, .int _), (0, .ref _)]) dX9_rings_1 (Nat.le_of_ble_eq_true rfl) rfl ?_
  refine V_iconst (v := 0) dX9_rings_2 rfl ?_
  refine V_istore_n (lv2 := [(2, .int _), (1, .int _), (0, .ref _)]) dX9_rings_3 (Nat.le_of_ble_eq_true rfl) rfl ?_
  refine V_lv (lv2 := [(2, .int _), (1, .int _), (0, .ref _)]) [0, 1, 2] rfl ?_
  exact L 37 0 rfl

set_option maxRecDepth 20000 in
theorem r9_offRings {g : GE} {M : Mem} {sz : Nat} {σ v : Nat → Int32} (hM : MD g M σ v) (hI : I10 σ) : Run g m_X9_offRings [rf g 96] M sz 0 0 (Ret (some (.int (nI (cnt (fun r => thr σ r && offS σ r) 37)))) M) := by
  have L : ∀ m i : Nat, i + m = 37 → V g m_X9_offRings 4 [(2, .int (nI i)), (1, .int (nI (cnt (fun r => thr σ r && offS σ r) i))), (0, rf g 96)] [] M sz 0 0 (Ret (some (.int (nI (cnt (fun r => thr σ r && offS σ r) 37)))) M) := by
    intro m
    induction m with
    | zero =>
      intro i hi
      obtain rfl : i = 37 := by omega
      refine V_iload_n 0 dX9_offRings_4 rfl ?_
      refine V_bipush (v := 37) dX9_offRings_5 (by decide) ?_
      refine V_icmp_ge (tgt := 40) dX9_offRings_7 (by decide) (fun c7 => ?_) (fun c7 => absurd (by decide) c7)
      refine V_iload_n 1 dX9_offRings_40 rfl ?_
      refine V_iret (st := []) dX9_offRings_41 rfl ?_
      exact ⟨rfl, rfl⟩
    | succ m ih =>
      intro i hi
      have hlt : i < 37 := by omega
      refine V_iload_n 0 dX9_offRings_4 rfl ?_
      refine V_bipush (v := 37) dX9_offRings_5 (by decide) ?_
      refine V_icmp_ge (tgt := 40) dX9_offRings_7 (by decide) (fun c7 => absurd c7 (nI_ge (b := 37) hlt (by decide))) (fun c7 => ?_)
      refine V_iload_n 1 dX9_offRings_10 rfl ?_
      refine V_aload_n 2 dX9_offRings_11 rfl ?_
      refine V_iload_n 0 dX9_offRings_12 rfl ?_
      refine C_X9_89 hM.1 rfl ⟨Nat.le_of_ble_eq_true rfl, Nat.le_of_ble_eq_true rfl⟩ (r9_isThere hM i rfl hlt) rfl (Nat.le_of_ble_eq_true rfl) dX9_offRings_13 rfl ?_
      refine V_pc (pc2 := 16) rfl ?_
      refine V_if_eq (tgt := 31) dX9_offRings_16 (by decide) (fun c16 => ?_) (fun c16 => ?_)
      · refine V_iconst (v := 0) dX9_offRings_31 rfl ?_
        refine V_iadd dX9_offRings_32 ?_
        refine V_istore_n (lv2 := [(1, .int _), (2, .int _), (0, .ref _)]) dX9_offRings_33 (Nat.le_of_ble_eq_true rfl) rfl ?_
        refine V_iinc (v := _ + 1) (lv2 := [(2, .int _), (1, .int _), (0, .ref _)]) 1 dX9_offRings_34 rfl rfl (Nat.le_of_ble_eq_true rfl) rfl ?_
        refine V_goto (tgt := 4) dX9_offRings_37 (by decide) ?_
        refine V_lv (lv2 := [(2, .int _), (1, .int _), (0, .ref _)]) [0, 1, 2] rfl ?_
        have e9 := cnt_f (p := (fun r => thr σ r && offS σ r)) (n := i) (show (thr σ i && offS σ i) = false by rw [bI_0 c16, Bool.false_and])
        rw [nI_1, Int32.add_zero]
        have e := ih (i + 1) (by omega)
        rw [e9] at e
        exact e
      · refine V_aload_n 2 dX9_offRings_19 rfl ?_
        refine V_iload_n 0 dX9_offRings_20 rfl ?_
        refine C_X9_92 hM.1 rfl ⟨Nat.le_of_ble_eq_true rfl, Nat.le_of_ble_eq_true rfl⟩ (r9_isOff hM i rfl hlt hI (bI_1 c16)) rfl (Nat.le_of_ble_eq_true rfl) dX9_offRings_21 rfl ?_
        refine V_if_eq (tgt := 31) dX9_offRings_24 (by decide) (fun c24 => ?_) (fun c24 => ?_)
        · refine V_iconst (v := 0) dX9_offRings_31 rfl ?_
          refine V_iadd dX9_offRings_32 ?_
          refine V_istore_n (lv2 := [(1, .int _), (2, .int _), (0, .ref _)]) dX9_offRings_33 (Nat.le_of_ble_eq_true rfl) rfl ?_
          refine V_iinc (v := _ + 1) (lv2 := [(2, .int _), (1, .int _), (0, .ref _)]) 1 dX9_offRings_34 rfl rfl (Nat.le_of_ble_eq_true rfl) rfl ?_
          refine V_goto (tgt := 4) dX9_offRings_37 (by decide) ?_
          refine V_lv (lv2 := [(2, .int _), (1, .int _), (0, .ref _)]) [0, 1, 2] rfl ?_
          have e9 := cnt_f (p := (fun r => thr σ r && offS σ r)) (n := i) (show (thr σ i && offS σ i) = false by rw [bI_1 c16, Bool.true_and]; exact bI_0 c24)
          rw [nI_1, Int32.add_zero]
          have e := ih (i + 1) (by omega)
          rw [e9] at e
          exact e
        · refine V_iconst (v := 1) dX9_offRings_27 rfl ?_
          refine V_goto (tgt := 32) dX9_offRings_28 (by decide) ?_
          refine V_iadd dX9_offRings_32 ?_
          refine V_istore_n (lv2 := [(1, .int _), (2, .int _), (0, .ref _)]) dX9_offRings_33 (Nat.le_of_ble_eq_true rfl) rfl ?_
          refine V_iinc (v := _ + 1) (lv2 := [(2, .int _), (1, .int _), (0, .ref _)]) 1 dX9_offRings_34 rfl rfl (Nat.le_of_ble_eq_true rfl) rfl ?_
          refine V_goto (tgt := 4) dX9_offRings_37 (by decide) ?_
          refine V_lv (lv2 := [(2, .int _), (1, .int _), (0, .ref _)]) [0, 1, 2] rfl ?_
          have e9 := cnt_t (p := (fun r => thr σ r && offS σ r)) (n := i) (show (thr σ i && offS σ i) = true by rw [bI_1 c16, Bool.true_and]; exact bI_1 c24)
          rw [nI_1, nI_1]
          have e := ih (i + 1) (by omega)
          rw [e9] at e
          exact e
  refine Run.of rfl (by decide) (Nat.le_of_ble_eq_true rfl) ?_
  show V g m_X9_offRings 0 _ [] _ _ _ _ _
  refine V_iconst (v := 0) dX9_offRings_0 rfl ?_
  refine V_istore_n (lv2 := [(1, .int _), (0, .ref _)]) dX9_offRings_1 (Nat.le_of_ble_eq_true rfl) rfl ?_
  refine V_iconst (v := 0) dX9_offRings_2 rfl ?_
  refine V_istore_n (lv2 := [(2, .int _), (1, .int _), (0, .ref _)]) dX9_offRings_3 (Nat.le_of_ble_eq_true rfl) rfl ?_
  refine V_lv (lv2 := [(2, .int _), (1, .int _), (0, .ref _)]) [0, 1, 2] rfl ?_
  exact L 37 0 rfl

set_option maxRecDepth 20000 in
theorem r9_withTable {g : GE} {M : Mem} {sz : Nat} {σ v : Nat → Int32} (hM : MD g M σ v) {y z : Int32} (a b : Nat) (hy : y = nI a) (hz : z = nI b) (ha : a < 5) (hb : b < 5) : Run g m_X9_withTable [rf g 96, .int y, .int z] M sz 0 0 (Ret (some (.int (nI (cnt (fun r => rHas r a b && thr σ r) 37)))) M) := by
  subst hy hz
  have L : ∀ m i : Nat, i + m = 37 → V g m_X9_withTable 5 [(4, .int (nI i)), (3, .int (nI (cnt (fun r => rHas r a b && thr σ r) i))), (0, rf g 96), (1, .int (nI a)), (2, .int (nI b))] [] M sz 0 0 (Ret (some (.int (nI (cnt (fun r => rHas r a b && thr σ r) 37)))) M) := by
    intro m
    induction m with
    | zero =>
      intro i hi
      obtain rfl : i = 37 := by omega
      refine V_iload 0 dX9_withTable_5 rfl ?_
      refine V_bipush (v := 37) dX9_withTable_7 (by decide) ?_
      refine V_icmp_ge (tgt := 46) dX9_withTable_9 (by decide) (fun c9 => ?_) (fun c9 => absurd (by decide) c9)
      refine V_iload_n 1 dX9_withTable_46 rfl ?_
      refine V_iret (st := []) dX9_withTable_47 rfl ?_
      exact ⟨rfl, rfl⟩
    | succ m ih =>
      intro i hi
      have hlt : i < 37 := by omega
      refine V_iload 0 dX9_withTable_5 rfl ?_
      refine V_bipush (v := 37) dX9_withTable_7 (by decide) ?_
      refine V_icmp_ge (tgt := 46) dX9_withTable_9 (by decide) (fun c9 => absurd c9 (nI_ge (b := 37) hlt (by decide))) (fun c9 => ?_)
      refine V_iload_n 1 dX9_withTable_12 rfl ?_
      refine V_aload_n 2 dX9_withTable_13 rfl ?_
      refine V_iload 0 dX9_withTable_14 rfl ?_
      refine C_X9_89 hM.1 rfl ⟨Nat.le_of_ble_eq_true rfl, Nat.le_of_ble_eq_true rfl⟩ (r9_isThere hM i rfl hlt) rfl (Nat.le_of_ble_eq_true rfl) dX9_withTable_16 rfl ?_
      refine V_pc (pc2 := 19) rfl ?_
      refine V_if_eq (tgt := 37) dX9_withTable_19 (by decide) (fun c19 => ?_) (fun c19 => ?_)
      · refine V_iconst (v := 0) dX9_withTable_37 rfl ?_
        refine V_iadd dX9_withTable_38 ?_
        refine V_istore_n (lv2 := [(3, .int _), (4, .int _), (0, .ref _), (1, .int _), (2, .int _)]) dX9_withTable_39 (Nat.le_of_ble_eq_true rfl) rfl ?_
        refine V_iinc (v := _ + 1) (lv2 := [(4, .int _), (3, .int _), (0, .ref _), (1, .int _), (2, .int _)]) 1 dX9_withTable_40 rfl rfl (Nat.le_of_ble_eq_true rfl) rfl ?_
        refine V_goto (tgt := 5) dX9_withTable_43 (by decide) ?_
        refine V_lv (lv2 := [(4, .int _), (3, .int _), (0, .ref _), (1, .int _), (2, .int _)]) [0, 1, 2, 3, 4] rfl ?_
        have e9 := cnt_f (p := (fun r => rHas r a b && thr σ r)) (n := i) (show (rHas i a b && thr σ i) = false by rw [bI_0 c19, Bool.and_false])
        rw [nI_1, Int32.add_zero]
        have e := ih (i + 1) (by omega)
        rw [e9] at e
        exact e
      · refine V_aload_n 2 dX9_withTable_22 rfl ?_
        refine V_iload 0 dX9_withTable_23 rfl ?_
        refine V_iload_n 3 dX9_withTable_25 rfl ?_
        refine V_iload_n 4 dX9_withTable_26 rfl ?_
        refine C_X9_95 hM.1 rfl ⟨Nat.le_of_ble_eq_true rfl, Nat.le_of_ble_eq_true rfl⟩ (r9_hasTable hM i rfl hlt a b rfl rfl ha hb) rfl (Nat.le_of_ble_eq_true rfl) dX9_withTable_27 rfl ?_
        refine V_if_eq (tgt := 37) dX9_withTable_30 (by decide) (fun c30 => ?_) (fun c30 => ?_)
        · refine V_iconst (v := 0) dX9_withTable_37 rfl ?_
          refine V_iadd dX9_withTable_38 ?_
          refine V_istore_n (lv2 := [(3, .int _), (4, .int _), (0, .ref _), (1, .int _), (2, .int _)]) dX9_withTable_39 (Nat.le_of_ble_eq_true rfl) rfl ?_
          refine V_iinc (v := _ + 1) (lv2 := [(4, .int _), (3, .int _), (0, .ref _), (1, .int _), (2, .int _)]) 1 dX9_withTable_40 rfl rfl (Nat.le_of_ble_eq_true rfl) rfl ?_
          refine V_goto (tgt := 5) dX9_withTable_43 (by decide) ?_
          refine V_lv (lv2 := [(4, .int _), (3, .int _), (0, .ref _), (1, .int _), (2, .int _)]) [0, 1, 2, 3, 4] rfl ?_
          have e9 := cnt_f (p := (fun r => rHas r a b && thr σ r)) (n := i) (show (rHas i a b && thr σ i) = false by rw [bI_1 c19, Bool.and_true]; exact bI_0 c30)
          rw [nI_1, Int32.add_zero]
          have e := ih (i + 1) (by omega)
          rw [e9] at e
          exact e
        · refine V_iconst (v := 1) dX9_withTable_33 rfl ?_
          refine V_goto (tgt := 38) dX9_withTable_34 (by decide) ?_
          refine V_iadd dX9_withTable_38 ?_
          refine V_istore_n (lv2 := [(3, .int _), (4, .int _), (0, .ref _), (1, .int _), (2, .int _)]) dX9_withTable_39 (Nat.le_of_ble_eq_true rfl) rfl ?_
          refine V_iinc (v := _ + 1) (lv2 := [(4, .int _), (3, .int _), (0, .ref _), (1, .int _), (2, .int _)]) 1 dX9_withTable_40 rfl rfl (Nat.le_of_ble_eq_true rfl) rfl ?_
          refine V_goto (tgt := 5) dX9_withTable_43 (by decide) ?_
          refine V_lv (lv2 := [(4, .int _), (3, .int _), (0, .ref _), (1, .int _), (2, .int _)]) [0, 1, 2, 3, 4] rfl ?_
          have e9 := cnt_t (p := (fun r => rHas r a b && thr σ r)) (n := i) (show (rHas i a b && thr σ i) = true by rw [bI_1 c19, Bool.and_true]; exact bI_1 c30)
          rw [nI_1, nI_1]
          have e := ih (i + 1) (by omega)
          rw [e9] at e
          exact e
  refine Run.of rfl (by decide) (Nat.le_of_ble_eq_true rfl) ?_
  show V g m_X9_withTable 0 _ [] _ _ _ _ _
  refine V_iconst (v := 0) dX9_withTable_0 rfl ?_
  refine V_istore_n (lv2 := [(3, .int _), (0, .ref _), (1, .int _), (2, .int _)]) dX9_withTable_1 (Nat.le_of_ble_eq_true rfl) rfl ?_
  refine V_iconst (v := 0) dX9_withTable_2 rfl ?_
  refine V_istore (lv2 := [(4, .int _), (3, .int _), (0, .ref _), (1, .int _), (2, .int _)]) dX9_withTable_3 (Nat.le_of_ble_eq_true rfl) rfl ?_
  refine V_lv (lv2 := [(4, .int _), (3, .int _), (0, .ref _), (1, .int _), (2, .int _)]) [0, 1, 2, 3, 4] rfl ?_
  exact L 37 0 rfl

set_option maxRecDepth 20000 in
theorem r9_tables {g : GE} {M : Mem} {sz : Nat} {σ v : Nat → Int32} (hM : MD g M σ v) : Run g m_X9_tables [rf g 96] M sz 0 0 (Ret (some (.int (nI (cnt (fun k => decide (0 < σ k)) 10)))) M) := by
  have L : ∀ m i : Nat, i + m = 10 → V g m_X9_tables 4 [(2, .int (nI i)), (1, .int (nI (cnt (fun k => decide (0 < σ k)) i))), (0, rf g 96)] [] M sz 0 0 (Ret (some (.int (nI (cnt (fun k => decide (0 < σ k)) 10)))) M) := by
    intro m
    induction m with
    | zero =>
      intro i hi
      obtain rfl : i = 10 := by omega
      refine V_iload_n 0 dX9_tables_4 rfl ?_
      refine V_bipush (v := 10) dX9_tables_5 (by decide) ?_
      refine V_icmp_ge (tgt := 35) dX9_tables_7 (by decide) (fun c7 => ?_) (fun c7 => absurd (by decide) c7)
      refine V_iload_n 1 dX9_tables_35 rfl ?_
      refine V_iret (st := []) dX9_tables_36 rfl ?_
      exact ⟨rfl, rfl⟩
    | succ m ih =>
      intro i hi
      have hlt : i < 10 := by omega
      refine V_iload_n 0 dX9_tables_4 rfl ?_
      refine V_bipush (v := 10) dX9_tables_5 (by decide) ?_
      refine V_icmp_ge (tgt := 35) dX9_tables_7 (by decide) (fun c7 => absurd c7 (nI_ge (b := 10) hlt (by decide))) (fun c7 => ?_)
      refine V_iload_n 1 dX9_tables_10 rfl ?_
      refine V_aload_n 2 dX9_tables_11 rfl ?_
      refine G_X9_7 rfl hM.1 rfl dX9_tables_12 ?_
      refine V_iconst (v := 0) dX9_tables_15 rfl ?_
      refine V_pc (pc2 := 16) rfl ?_
      refine V_iload_n 0 dX9_tables_16 rfl ?_
      refine V_iadd dX9_tables_17 ?_
      refine V_iald hM.2.1 (by rw [Int32.zero_add]; exact vp_in_nI (n := i) (by omega) (by decide)) dX9_tables_18 ?_
      refine V_if_le (tgt := 26) dX9_tables_19 (by decide) (fun c19 => ?_) (fun c19 => ?_)
      · refine V_iconst (v := 0) dX9_tables_26 rfl ?_
        refine V_iadd dX9_tables_27 ?_
        refine V_istore_n (lv2 := [(1, .int _), (2, .int _), (0, .ref _)]) dX9_tables_28 (Nat.le_of_ble_eq_true rfl) rfl ?_
        refine V_iinc (v := _ + 1) (lv2 := [(2, .int _), (1, .int _), (0, .ref _)]) 1 dX9_tables_29 rfl rfl (Nat.le_of_ble_eq_true rfl) rfl ?_
        refine V_goto (tgt := 4) dX9_tables_32 (by decide) ?_
        refine V_lv (lv2 := [(2, .int _), (1, .int _), (0, .ref _)]) [0, 1, 2] rfl ?_
        have e9 := cnt_f (p := (fun k => decide (0 < σ k))) (n := i) (show decide (0 < σ i) = false by rw [Int32.zero_add, nI_clamp (by omega)] at c19; exact decide_eq_false (Int32.not_lt.mpr c19))
        rw [nI_1, Int32.add_zero]
        have e := ih (i + 1) (by omega)
        rw [e9] at e
        exact e
      · refine V_iconst (v := 1) dX9_tables_22 rfl ?_
        refine V_goto (tgt := 27) dX9_tables_23 (by decide) ?_
        refine V_iadd dX9_tables_27 ?_
        refine V_istore_n (lv2 := [(1, .int _), (2, .int _), (0, .ref _)]) dX9_tables_28 (Nat.le_of_ble_eq_true rfl) rfl ?_
        refine V_iinc (v := _ + 1) (lv2 := [(2, .int _), (1, .int _), (0, .ref _)]) 1 dX9_tables_29 rfl rfl (Nat.le_of_ble_eq_true rfl) rfl ?_
        refine V_goto (tgt := 4) dX9_tables_32 (by decide) ?_
        refine V_lv (lv2 := [(2, .int _), (1, .int _), (0, .ref _)]) [0, 1, 2] rfl ?_
        have e9 := cnt_t (p := (fun k => decide (0 < σ k))) (n := i) (show decide (0 < σ i) = true by rw [Int32.zero_add, nI_clamp (by omega)] at c19; exact decide_eq_true (Int32.not_le.mp c19))
        rw [nI_1, nI_1]
        have e := ih (i + 1) (by omega)
        rw [e9] at e
        exact e
  refine Run.of rfl (by decide) (Nat.le_of_ble_eq_true rfl) ?_
  show V g m_X9_tables 0 _ [] _ _ _ _ _
  refine V_iconst (v := 0) dX9_tables_0 rfl ?_
  refine V_istore_n (lv2 := [(1, .int _), (0, .ref _)]) dX9_tables_1 (Nat.le_of_ble_eq_true rfl) rfl ?_
  refine V_iconst (v := 0) dX9_tables_2 rfl ?_
  refine V_istore_n (lv2 := [(2, .int _), (1, .int _), (0, .ref _)]) dX9_tables_3 (Nat.le_of_ble_eq_true rfl) rfl ?_
  refine V_lv (lv2 := [(2, .int _), (1, .int _), (0, .ref _)]) [0, 1, 2] rfl ?_
  exact L 10 0 rfl

theorem fnd_none (P : Nat → Bool) (n : Nat) : (fnd P 0 n).isNone = allN (fun r => !P r) n := by
  have h : ∀ m i, (∀ k, k < i → P k = false) → (fnd P i m).isNone = allN (fun r => !P r) (i + m) := by
    intro m
    induction m with
    | zero =>
      intro i hi
      have : ∀ j, j ≤ i → allN (fun r => !P r) j = true := by
        intro j
        induction j with
        | zero => intro _; rfl
        | succ j ihj => intro hj; show (allN _ j && !P j) = true; rw [ihj (by omega), hi j (by omega)]; rfl
      show true = _
      rw [Nat.add_zero, this i (Nat.le_refl _)]
    | succ m ih =>
      intro i hi
      cases hp : P i with
      | true =>
        rw [fnd_t hp]
        have : ∀ j, allN (fun r => !P r) (i + 1 + j) = false := by
          intro j
          induction j with
          | zero => show (allN _ i && !P i) = false; rw [hp]; simp
          | succ j ihj => show (allN _ (i + 1 + j) && _) = false; rw [ihj]; rfl
        show false = _
        rw [show i + (m + 1) = i + 1 + m by omega, this m]
      | false =>
        rw [fnd_f hp, ih (i + 1) (fun k hk => by rcases Nat.lt_succ_iff_lt_or_eq.mp hk with h | h; exact hi k h; rw [h]; exact hp), show i + 1 + m = i + (m + 1) by omega]
  rw [h n 0 (fun k hk => absurd hk (Nat.not_lt_zero k)), Nat.zero_add]
set_option maxRecDepth 20000 in
theorem r9_isSound {g : GE} {M : Mem} {sz : Nat} {σ v : Nat → Int32} (hM : MD g M σ v) : Run g m_X9_isSound [rf g 96] M sz 0 0 (Ret (some (.int (bI (fnd (badS σ) 0 37).isNone))) M) := by
  rw [fnd_none]
  have L : ∀ m i : Nat, i + m = 37 → V g m_X9_isSound 4 [(2, .int (nI i)), (1, .int (bI (allN (fun r => !badS σ r) i))), (0, rf g 96)] [] M sz 0 0 (Ret (some (.int (bI (allN (fun r => !badS σ r) 37)))) M) := by
    intro m
    induction m with
    | zero =>
      intro i hi
      obtain rfl : i = 37 := by omega
      refine V_iload_n 0 dX9_isSound_4 rfl ?_
      refine V_bipush (v := 37) dX9_isSound_5 (by decide) ?_
      refine V_icmp_ge (tgt := 50) dX9_isSound_7 (by decide) (fun c7 => ?_) (fun c7 => absurd (by decide) c7)
      refine V_iload_n 1 dX9_isSound_50 rfl ?_
      refine V_zret (st := []) dX9_isSound_51 rfl (bI_01 _) ?_
      exact ⟨rfl, rfl⟩
    | succ m ih =>
      intro i hi
      have hlt : i < 37 := by omega
      refine V_iload_n 0 dX9_isSound_4 rfl ?_
      refine V_bipush (v := 37) dX9_isSound_5 (by decide) ?_
      refine V_icmp_ge (tgt := 50) dX9_isSound_7 (by decide) (fun c7 => absurd c7 (nI_ge (b := 37) hlt (by decide))) (fun c7 => ?_)
      refine V_iload_n 1 dX9_isSound_10 rfl ?_
      refine V_if_eq (tgt := 42) dX9_isSound_11 (by decide) (fun c11 => ?_) (fun c11 => ?_)
      · refine V_iconst (v := 0) dX9_isSound_42 rfl ?_
        refine V_istore_n (lv2 := [(1, .int _), (2, .int _), (0, .ref _)]) dX9_isSound_43 (Nat.le_of_ble_eq_true rfl) rfl ?_
        refine V_iinc (v := _ + 1) (lv2 := [(2, .int _), (1, .int _), (0, .ref _)]) 1 dX9_isSound_44 rfl rfl (Nat.le_of_ble_eq_true rfl) rfl ?_
        refine V_goto (tgt := 4) dX9_isSound_47 (by decide) ?_
        refine V_lv (lv2 := [(2, .int _), (1, .int _), (0, .ref _)]) [0, 1, 2] rfl ?_
        have e9 : allN (fun r => !badS σ r) (i + 1) = false := by
          show (allN (fun r => !badS σ r) i && !badS σ i) = false
          rw [bI_0 c11, Bool.false_and]
        rw [nI_1]
        have e := ih (i + 1) (by omega)
        rw [e9] at e
        exact e
      · refine V_aload_n 2 dX9_isSound_14 rfl ?_
        refine V_iload_n 0 dX9_isSound_15 rfl ?_
        refine C_X9_89 hM.1 rfl ⟨Nat.le_of_ble_eq_true rfl, Nat.le_of_ble_eq_true rfl⟩ (r9_isThere hM i rfl hlt) rfl (Nat.le_of_ble_eq_true rfl) dX9_isSound_16 rfl ?_
        refine V_if_eq (tgt := 38) dX9_isSound_19 (by decide) (fun c19 => ?_) (fun c19 => ?_)
        · refine V_iconst (v := 1) dX9_isSound_38 rfl ?_
          refine V_goto (tgt := 43) dX9_isSound_39 (by decide) ?_
          refine V_istore_n (lv2 := [(1, .int _), (2, .int _), (0, .ref _)]) dX9_isSound_43 (Nat.le_of_ble_eq_true rfl) rfl ?_
          refine V_iinc (v := _ + 1) (lv2 := [(2, .int _), (1, .int _), (0, .ref _)]) 1 dX9_isSound_44 rfl rfl (Nat.le_of_ble_eq_true rfl) rfl ?_
          refine V_goto (tgt := 4) dX9_isSound_47 (by decide) ?_
          refine V_lv (lv2 := [(2, .int _), (1, .int _), (0, .ref _)]) [0, 1, 2] rfl ?_
          have e9 : allN (fun r => !badS σ r) (i + 1) = true := by
            show (allN (fun r => !badS σ r) i && !badS σ i) = true
            rw [bI_1 c11, Bool.true_and]; unfold badS; rw [bI_0 c19]; rfl
          rw [nI_1]
          have e := ih (i + 1) (by omega)
          rw [e9] at e
          exact e
        · refine V_aload_n 2 dX9_isSound_22 rfl ?_
          refine V_iload_n 0 dX9_isSound_23 rfl ?_
          refine V_iconst (v := 1) dX9_isSound_24 rfl ?_
          refine C_X9_75 hM.1 rfl ⟨Nat.le_of_ble_eq_true rfl, Nat.le_of_ble_eq_true rfl⟩ (r9_product hM i rfl hlt true rfl) rfl (Nat.le_of_ble_eq_true rfl) dX9_isSound_25 rfl ?_
          refine V_aload_n 2 dX9_isSound_28 rfl ?_
          refine V_iload_n 0 dX9_isSound_29 rfl ?_
          refine V_iconst (v := 0) dX9_isSound_30 rfl ?_
          refine V_pc (pc2 := 31) rfl ?_
          refine C_X9_75 hM.1 rfl ⟨Nat.le_of_ble_eq_true rfl, Nat.le_of_ble_eq_true rfl⟩ (r9_product hM i rfl hlt false rfl) rfl (Nat.le_of_ble_eq_true rfl) dX9_isSound_31 rfl ?_
          refine V_lcmp dX9_isSound_34 ?_
          refine V_if_ne (tgt := 42) dX9_isSound_35 (by decide) (fun c35 => ?_) (fun c35 => ?_)
          · refine V_iconst (v := 0) dX9_isSound_42 rfl ?_
            refine V_istore_n (lv2 := [(1, .int _), (2, .int _), (0, .ref _)]) dX9_isSound_43 (Nat.le_of_ble_eq_true rfl) rfl ?_
            refine V_iinc (v := _ + 1) (lv2 := [(2, .int _), (1, .int _), (0, .ref _)]) 1 dX9_isSound_44 rfl rfl (Nat.le_of_ble_eq_true rfl) rfl ?_
            refine V_goto (tgt := 4) dX9_isSound_47 (by decide) ?_
            refine V_lv (lv2 := [(2, .int _), (1, .int _), (0, .ref _)]) [0, 1, 2] rfl ?_
            have e9 : allN (fun r => !badS σ r) (i + 1) = false := by
              show (allN (fun r => !badS σ r) i && !badS σ i) = false
              rw [bI_1 c11, Bool.true_and]; unfold badS; rw [bI_1 c19, beq_false_of_ne (fun e => c35 (lgc_eq.mpr e))]; rfl
            rw [nI_1]
            have e := ih (i + 1) (by omega)
            rw [e9] at e
            exact e
          · refine V_iconst (v := 1) dX9_isSound_38 rfl ?_
            refine V_goto (tgt := 43) dX9_isSound_39 (by decide) ?_
            refine V_istore_n (lv2 := [(1, .int _), (2, .int _), (0, .ref _)]) dX9_isSound_43 (Nat.le_of_ble_eq_true rfl) rfl ?_
            refine V_iinc (v := _ + 1) (lv2 := [(2, .int _), (1, .int _), (0, .ref _)]) 1 dX9_isSound_44 rfl rfl (Nat.le_of_ble_eq_true rfl) rfl ?_
            refine V_goto (tgt := 4) dX9_isSound_47 (by decide) ?_
            refine V_lv (lv2 := [(2, .int _), (1, .int _), (0, .ref _)]) [0, 1, 2] rfl ?_
            have e9 : allN (fun r => !badS σ r) (i + 1) = true := by
              show (allN (fun r => !badS σ r) i && !badS σ i) = true
              rw [bI_1 c11, Bool.true_and]; unfold badS; rw [bI_1 c19, lgc_eq.mp c35, beq_self_eq_true]; rfl
            rw [nI_1]
            have e := ih (i + 1) (by omega)
            rw [e9] at e
            exact e
  refine Run.of rfl (by decide) (Nat.le_of_ble_eq_true rfl) ?_
  show V g m_X9_isSound 0 _ [] _ _ _ _ _
  refine V_iconst (v := 1) dX9_isSound_0 rfl ?_
  refine V_istore_n (lv2 := [(1, .int _), (0, .ref _)]) dX9_isSound_1 (Nat.le_of_ble_eq_true rfl) rfl ?_
  refine V_iconst (v := 0) dX9_isSound_2 rfl ?_
  refine V_istore_n (lv2 := [(2, .int _), (1, .int _), (0, .ref _)]) dX9_isSound_3 (Nat.le_of_ble_eq_true rfl) rfl ?_
  refine V_lv (lv2 := [(2, .int _), (1, .int _), (0, .ref _)]) [0, 1, 2] rfl ?_
  exact L 37 0 rfl

def codI : Option Nat → Int32
  | none => 0
  | some r => nI (rC r)
set_option maxRecDepth 20000 in
theorem r9_offWith {g : GE} {M : Mem} {sz : Nat} {σ v : Nat → Int32} (hM : MD g M σ v) (hI : I10 σ) {y z : Int32} (a b : Nat) (hy : y = nI a) (hz : z = nI b) (ha : a < 5) (hb : b < 5) : Run g m_X9_offWith [rf g 96, .int y, .int z] M sz 0 0 (Ret (some (.int (codI (fnd (wouS σ a b) 0 37)))) M) := by
  subst hy hz
  have L : ∀ m i : Nat, i + m = 37 → V g m_X9_offWith 2 [(3, .int (nI i)), (0, rf g 96), (1, .int (nI a)), (2, .int (nI b))] [] M sz 0 0 (Ret (some (.int (codI (fnd (wouS σ a b) i m)))) M) := by
    intro m
    induction m with
    | zero =>
      intro i hi
      obtain rfl : i = 37 := by omega
      refine V_iload_n 0 dX9_offWith_2 rfl ?_
      refine V_bipush (v := 37) dX9_offWith_3 (by decide) ?_
      refine V_icmp_ge (tgt := 47) dX9_offWith_5 (by decide) (fun c5 => ?_) (fun c5 => absurd (by decide) c5)
      refine V_iconst (v := 0) dX9_offWith_47 rfl ?_
      refine V_iret (st := []) dX9_offWith_48 rfl ?_
      exact ⟨rfl, rfl⟩
    | succ m ih =>
      intro i hi
      have hlt : i < 37 := by omega
      refine V_iload_n 0 dX9_offWith_2 rfl ?_
      refine V_bipush (v := 37) dX9_offWith_3 (by decide) ?_
      refine V_icmp_ge (tgt := 47) dX9_offWith_5 (by decide) (fun c5 => absurd c5 (nI_ge (b := 37) hlt (by decide))) (fun c5 => ?_)
      refine V_aload_n 1 dX9_offWith_8 rfl ?_
      refine V_iload_n 0 dX9_offWith_9 rfl ?_
      refine V_iload_n 2 dX9_offWith_10 rfl ?_
      refine V_iload_n 3 dX9_offWith_11 rfl ?_
      refine V_pc (pc2 := 12) rfl ?_
      refine C_X9_95 hM.1 rfl ⟨Nat.le_of_ble_eq_true rfl, Nat.le_of_ble_eq_true rfl⟩ (r9_hasTable hM i rfl hlt a b rfl rfl ha hb) rfl (Nat.le_of_ble_eq_true rfl) dX9_offWith_12 rfl ?_
      refine V_if_eq (tgt := 41) dX9_offWith_15 (by decide) (fun c15 => ?_) (fun c15 => ?_)
      · refine V_iinc (v := _ + 1) (lv2 := [(3, .int _), (0, .ref _), (1, .int _), (2, .int _)]) 0 dX9_offWith_41 rfl rfl (Nat.le_of_ble_eq_true rfl) rfl ?_
        refine V_goto (tgt := 2) dX9_offWith_44 (by decide) ?_
        refine V_lv (lv2 := [(3, .int _), (0, .ref _), (1, .int _), (2, .int _)]) [0, 1, 2, 3] rfl ?_
        have e9 : wouS σ a b i = false := by unfold wouS; rw [bI_0 c15, Bool.false_and, Bool.false_and]
        rw [nI_1, fnd_f e9]
        exact ih (i + 1) (by omega)
      · refine V_aload_n 1 dX9_offWith_18 rfl ?_
        refine V_iload_n 0 dX9_offWith_19 rfl ?_
        refine C_X9_89 hM.1 rfl ⟨Nat.le_of_ble_eq_true rfl, Nat.le_of_ble_eq_true rfl⟩ (r9_isThere hM i rfl hlt) rfl (Nat.le_of_ble_eq_true rfl) dX9_offWith_20 rfl ?_
        refine V_if_eq (tgt := 41) dX9_offWith_23 (by decide) (fun c23 => ?_) (fun c23 => ?_)
        · refine V_iinc (v := _ + 1) (lv2 := [(3, .int _), (0, .ref _), (1, .int _), (2, .int _)]) 0 dX9_offWith_41 rfl rfl (Nat.le_of_ble_eq_true rfl) rfl ?_
          refine V_goto (tgt := 2) dX9_offWith_44 (by decide) ?_
          refine V_lv (lv2 := [(3, .int _), (0, .ref _), (1, .int _), (2, .int _)]) [0, 1, 2, 3] rfl ?_
          have e9 : wouS σ a b i = false := by unfold wouS; rw [bI_0 c23, Bool.and_false, Bool.false_and]
          rw [nI_1, fnd_f e9]
          exact ih (i + 1) (by omega)
        · refine V_aload_n 1 dX9_offWith_26 rfl ?_
          refine V_iload_n 0 dX9_offWith_27 rfl ?_
          refine C_X9_92 hM.1 rfl ⟨Nat.le_of_ble_eq_true rfl, Nat.le_of_ble_eq_true rfl⟩ (r9_isOff hM i rfl hlt hI (bI_1 c23)) rfl (Nat.le_of_ble_eq_true rfl) dX9_offWith_28 rfl ?_
          refine V_if_eq (tgt := 41) dX9_offWith_31 (by decide) (fun c31 => ?_) (fun c31 => ?_)
          · refine V_iinc (v := _ + 1) (lv2 := [(3, .int _), (0, .ref _), (1, .int _), (2, .int _)]) 0 dX9_offWith_41 rfl rfl (Nat.le_of_ble_eq_true rfl) rfl ?_
            refine V_goto (tgt := 2) dX9_offWith_44 (by decide) ?_
            refine V_lv (lv2 := [(3, .int _), (0, .ref _), (1, .int _), (2, .int _)]) [0, 1, 2, 3] rfl ?_
            have e9 : wouS σ a b i = false := by unfold wouS; rw [bI_0 c31, Bool.and_false]
            rw [nI_1, fnd_f e9]
            exact ih (i + 1) (by omega)
          · refine V_aload_n 1 dX9_offWith_34 rfl ?_
            refine G_X9_25 rfl hM.1 rfl dX9_offWith_35 ?_
            refine V_iload_n 0 dX9_offWith_38 rfl ?_
            refine V_iald hM.2.2.2 (vp_in_nI hlt (by decide)) dX9_offWith_39 ?_
            refine V_iret (st := []) dX9_offWith_40 rfl ?_
            have e9 : wouS σ a b i = true := by unfold wouS; rw [bI_1 c15, bI_1 c23, bI_1 c31]; rfl
            exact ⟨by rw [fnd_t e9, cd9 hlt]; rfl, rfl⟩
  refine Run.of rfl (by decide) (Nat.le_of_ble_eq_true rfl) ?_
  show V g m_X9_offWith 0 _ [] _ _ _ _ _
  refine V_iconst (v := 0) dX9_offWith_0 rfl ?_
  refine V_istore_n (lv2 := [(3, .int _), (0, .ref _), (1, .int _), (2, .int _)]) dX9_offWith_1 (Nat.le_of_ble_eq_true rfl) rfl ?_
  refine V_lv (lv2 := [(3, .int _), (0, .ref _), (1, .int _), (2, .int _)]) [0, 1, 2, 3] rfl ?_
  exact L 37 0 rfl

theorem putS_back {σ : Nat → Int32} {a b : Nat} (ha : a < 5) (hb : b < 5) (hab : a ≠ b) (u d : Int32) : putS (putS σ a b u d) a b (upS σ a b) (upS σ b a) = σ := by
  have hpr := pr_lt a b ha hb hab
  funext k
  unfold putS upS
  rw [pr_comm b a]
  by_cases h1 : k = 10 + pr a b
  · subst h1
    rw [upd_at]
    by_cases hlt : a < b
    · rw [if_pos hlt, if_neg (by omega)]
    · rw [if_neg hlt, if_neg hlt]
  · rw [upd_ne h1]
    by_cases h2 : k = pr a b
    · subst h2
      rw [upd_at]
      by_cases hlt : a < b
      · rw [if_pos hlt, if_pos hlt]
      · rw [if_neg hlt, if_pos (by omega)]
    · rw [upd_ne h2, upd_ne h1, upd_ne h2]
theorem MD.put {g : GE} {M : Mem} {σ v : Nat → Int32} (h : MD g M σ v) (σ2 : Nat → Int32) : MD g (mup M 97 (eI g 65 σ2)) σ2 v := ⟨(mup_ne _ _ (by decide)).trans h.1, mup_eq _ _ _, (mup_ne _ _ (by decide)).trans h.2.2.1, (mup_ne _ _ (by decide)).trans h.2.2.2⟩
set_option maxRecDepth 20000 in
theorem r9_offTried {g : GE} {M : Mem} {sz : Nat} {σ v : Nat → Int32} (hM : MD g M σ v) (hI : I10 σ) {y z : Int32} (a b : Nat) (hy : y = nI a) (hz : z = nI b) (ha : a < 5) (hb : b < 5) (hab : a ≠ b) {u d : Int32} (hud : UD u d) : Run g m_X9_offTried [rf g 96, .int y, .int z, .int u, .int d] M sz 0 0 (Ret (some (.int (codI (fnd (wouS (putS σ a b u d) a b) 0 37)))) M) := by
  subst hy hz
  refine Run.of rfl (by decide) (Nat.le_of_ble_eq_true rfl) ?_
  show V g m_X9_offTried 0 _ [] _ _ _ _ _
  refine V_aload_n 0 dX9_offTried_0 rfl ?_
  refine V_iload_n 1 dX9_offTried_1 rfl ?_
  refine V_iload_n 2 dX9_offTried_2 rfl ?_
  refine C_X9_69 hM.1 rfl ⟨Nat.le_of_ble_eq_true rfl, Nat.le_of_ble_eq_true rfl⟩ (r9_up hM a b rfl rfl ha hb hab) rfl (Nat.le_of_ble_eq_true rfl) dX9_offTried_3 rfl ?_
  refine V_istore (lv2 := [(5, .int _), (0, .ref _), (1, .int _), (2, .int _), (3, .int _), (4, .int _)]) dX9_offTried_6 (Nat.le_of_ble_eq_true rfl) rfl ?_
  refine V_aload_n 1 dX9_offTried_8 rfl ?_
  refine V_iload_n 2 dX9_offTried_9 rfl ?_
  refine V_pc (pc2 := 10) rfl ?_
  refine V_iload_n 3 dX9_offTried_10 rfl ?_
  refine C_X9_72 hM.1 rfl ⟨Nat.le_of_ble_eq_true rfl, Nat.le_of_ble_eq_true rfl⟩ (r9_down hM a b rfl rfl ha hb hab) rfl (Nat.le_of_ble_eq_true rfl) dX9_offTried_11 rfl ?_
  refine V_istore (lv2 := [(6, .int _), (5, .int _), (0, .ref _), (1, .int _), (2, .int _), (3, .int _), (4, .int _)]) dX9_offTried_14 (Nat.le_of_ble_eq_true rfl) rfl ?_
  refine V_aload_n 2 dX9_offTried_16 rfl ?_
  refine V_iload_n 3 dX9_offTried_17 rfl ?_
  refine V_iload_n 4 dX9_offTried_18 rfl ?_
  refine V_iload_n 5 dX9_offTried_19 rfl ?_
  refine V_iload 6 dX9_offTried_20 rfl ?_
  refine V_pc (pc2 := 22) rfl ?_
  refine C_X9_104 hM.1 rfl ⟨Nat.le_of_ble_eq_true rfl, Nat.le_of_ble_eq_true rfl⟩ (r9_puts hM a b rfl rfl ha hb hab) rfl (Nat.le_of_ble_eq_true rfl) dX9_offTried_22 rfl ?_
  refine V_aload_n 2 dX9_offTried_25 rfl ?_
  refine V_iload_n 3 dX9_offTried_26 rfl ?_
  refine V_iload_n 4 dX9_offTried_27 rfl ?_
  refine C_X9_108 (hM.put _).1 rfl ⟨Nat.le_of_ble_eq_true rfl, Nat.le_of_ble_eq_true rfl⟩ (r9_offWith (hM.put _) (hI.put ha hb hab hud) a b rfl rfl ha hb) rfl (Nat.le_of_ble_eq_true rfl) dX9_offTried_28 rfl ?_
  refine V_istore (lv2 := [(7, .int _), (6, .int _), (5, .int _), (0, .ref _), (1, .int _), (2, .int _), (3, .int _), (4, .int _)]) dX9_offTried_31 (Nat.le_of_ble_eq_true rfl) rfl ?_
  refine V_aload_n 3 dX9_offTried_33 rfl ?_
  refine V_iload_n 4 dX9_offTried_34 rfl ?_
  refine V_pc (pc2 := 35) rfl ?_
  refine V_iload_n 5 dX9_offTried_35 rfl ?_
  refine V_iload 2 dX9_offTried_36 rfl ?_
  refine V_iload 1 dX9_offTried_38 rfl ?_
  refine C_X9_104 (hM.put _).1 rfl ⟨Nat.le_of_ble_eq_true rfl, Nat.le_of_ble_eq_true rfl⟩ (r9_puts (hM.put _) a b rfl rfl ha hb hab) rfl (Nat.le_of_ble_eq_true rfl) dX9_offTried_40 rfl ?_
  refine V_iload 0 dX9_offTried_43 rfl ?_
  refine V_iret (st := []) dX9_offTried_45 rfl ?_
  exact ⟨rfl, by rw [mup_mup, putS_back ha hb hab, mup_self hM.2.1]⟩

