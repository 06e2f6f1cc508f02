/-! constructors: the reference -/
def rgP (c s k : Nat) : Bool := decide (k = 0) || decide (dg c s 0 < dg c s k)
def isRg (c s : Nat) : Bool := (isW c s && decide (dg c s 1 < dg c s (s - 1))) && allN (rgP c s) s
def rlo (s : Nat) : Nat := if s ≤ 3 then 0 else if s = 4 then 10 else if s = 5 then 25 else 37
theorem segR : ∀ s r, 3 ≤ s → s ≤ 5 → r < 37 → (rSz r = s ↔ rlo s ≤ r ∧ r < rlo (s + 1)) := by
  have h : ((List.range 6).all fun s => (List.range 37).all fun r => decide (3 ≤ s → (rSz r = s ↔ rlo s ≤ r ∧ r < rlo (s + 1)))) = true := by decide +kernel
  intro s r h2 h5 hr
  exact of_decide_eq_true (all_lt (all_lt h s (by omega)) r hr) h2
theorem rlo_37 : ∀ s, rlo s ≤ 37 := by intro s; unfold rlo; (repeat' split) <;> omega
theorem rC_ok : ∀ r, r < 37 → isRg (rC r) (rSz r) = true ∧ rC r < 10 ^ rSz r := by
  have h : ((List.range 37).all fun r => decide (isRg (rC r) (rSz r) = true ∧ rC r < 10 ^ rSz r)) = true := by decide +kernel
  intro r hr
  exact of_decide_eq_true (all_lt h r hr)
theorem rC_lt2 : ∀ i j, i < 37 → j < 37 → rSz i = rSz j → i < j → rC i < rC j := by
  have h : ((List.range 37).all fun i => (List.range 37).all fun j => decide (rSz i = rSz j → i < j → rC i < rC j)) = true := by decide +kernel
  intro i j hi hj
  exact of_decide_eq_true (all_lt (all_lt h i hi) j hj)
def anyR (c s : Nat) : Bool := (List.range 37).any fun r => rSz r == s && rC r == c
theorem isRg_3 : ((List.range 5).all fun p => (List.range 5).all fun q => (List.range 5).all fun r => !isRg (p * 100 + q * 10 + r) 3 || anyR (p * 100 + q * 10 + r) 3) = true := by decide +kernel
theorem isRg_4 : ((List.range 5).all fun p => (List.range 5).all fun q => (List.range 5).all fun r => (List.range 5).all fun t => !isRg (p * 1000 + q * 100 + r * 10 + t) 4 || anyR (p * 1000 + q * 100 + r * 10 + t) 4) = true := by decide +kernel
theorem isRg_5 : ((List.range 5).all fun p => (List.range 5).all fun q => (List.range 5).all fun r => (List.range 5).all fun t => (List.range 5).all fun u => !isRg (p * 10000 + q * 1000 + r * 100 + t * 10 + u) 5 || anyR (p * 10000 + q * 1000 + r * 100 + t * 10 + u) 5) = true := by decide +kernel
theorem anyR_ex {c s : Nat} (h : anyR c s = true) : ∃ r, r < 37 ∧ rSz r = s ∧ rC r = c := by
  unfold anyR at h
  obtain ⟨i, hi, e⟩ := List.any_eq_true.mp h
  rw [Bool.and_eq_true, beq_iff_eq, beq_iff_eq] at e
  exact ⟨i, List.mem_range.mp hi, e.1, e.2⟩
theorem isRg_any {c s : Nat} (h3 : 3 ≤ s) (h5 : s ≤ 5) (hc : c < 10 ^ s) (h : isRg c s = true) : ∃ r, r < 37 ∧ rSz r = s ∧ rC r = c := by
  have hw : isW c s = true := by unfold isRg at h; rw [Bool.and_eq_true, Bool.and_eq_true] at h; exact h.1.1
  have hd := isW_lt hw
  rcases s with _ | _ | _ | _ | _ | _ | s
  · omega
  · omega
  · omega
  · have e : dg c 3 0 * 100 + dg c 3 1 * 10 + dg c 3 2 = c := by show c / 10 ^ 2 % 10 * 100 + c / 10 ^ 1 % 10 * 10 + c / 10 ^ 0 % 10 = c; omega
    have q := all_lt (all_lt (all_lt isRg_3 _ (hd 0 (by omega))) _ (hd 1 (by omega))) _ (hd 2 (by omega))
    rw [e] at q
    exact anyR_ex (or_imp q h)
  · have e : dg c 4 0 * 1000 + dg c 4 1 * 100 + dg c 4 2 * 10 + dg c 4 3 = c := by show c / 10 ^ 3 % 10 * 1000 + c / 10 ^ 2 % 10 * 100 + c / 10 ^ 1 % 10 * 10 + c / 10 ^ 0 % 10 = c; omega
    have q := all_lt (all_lt (all_lt (all_lt isRg_4 _ (hd 0 (by omega))) _ (hd 1 (by omega))) _ (hd 2 (by omega))) _ (hd 3 (by omega))
    rw [e] at q
    exact anyR_ex (or_imp q h)
  · have e : dg c 5 0 * 10000 + dg c 5 1 * 1000 + dg c 5 2 * 100 + dg c 5 3 * 10 + dg c 5 4 = c := by show c / 10 ^ 4 % 10 * 10000 + c / 10 ^ 3 % 10 * 1000 + c / 10 ^ 2 % 10 * 100 + c / 10 ^ 1 % 10 * 10 + c / 10 ^ 0 % 10 = c; omega
    have q := all_lt (all_lt (all_lt (all_lt (all_lt isRg_5 _ (hd 0 (by omega))) _ (hd 1 (by omega))) _ (hd 2 (by omega))) _ (hd 3 (by omega))) _ (hd 4 (by omega))
    rw [e] at q
    exact anyR_ex (or_imp q h)
  · omega
set_option maxRecDepth 20000 in
theorem r9_isRing {g : GE} {M : Mem} {sz : Nat} {x y : Int32} (c s : Nat) (hx : x = nI c) (hy : y = nI s) (hc : c < 2 ^ 31) (h3 : 3 ≤ s) (h5 : s ≤ 5) : Run g m_X9_isRing [.int x, .int y] M sz 0 0 (Ret (some (.int (bI (isRg c s)))) M) := by
  subst hx hy
  have L : ∀ m k : Nat, k + m = s → 1 ≤ k → V g m_X9_isRing 33 [(3, .int (nI k)), (2, .int (bI (allN (rgP c s) k))), (0, .int (nI c)), (1, .int (nI s))] [] M sz 0 0 (Ret (some (.int (bI (allN (rgP c s) s)))) M) := by
    intro m
    induction m with
    | zero =>
      intro k hk h1
      refine V_iload_n 0 dX9_isRing_33 rfl ?_
      refine V_iload_n 3 dX9_isRing_34 rfl ?_
      refine V_icmp_ge (tgt := 69) dX9_isRing_35 (by decide) (fun c35 => ?_) (fun c35 => absurd (nI_le (by omega) (by omega)) c35)
      refine V_iload_n 1 dX9_isRing_69 rfl ?_
      refine V_zret (st := []) dX9_isRing_70 rfl (bI_01 _) ?_
      obtain rfl : s = k := by omega
      exact ⟨rfl, rfl⟩
    | succ m ih =>
      intro k hk h1
      refine V_iload_n 0 dX9_isRing_33 rfl ?_
      refine V_iload_n 3 dX9_isRing_34 rfl ?_
      refine V_icmp_ge (tgt := 69) dX9_isRing_35 (by decide) (fun c35 => absurd c35 (nI_ge (by omega) (by omega))) (fun c35 => ?_)
      refine V_iload_n 1 dX9_isRing_38 rfl ?_
      refine V_if_eq (tgt := 69) dX9_isRing_39 (by decide) (fun c39 => ?_) (fun c39 => ?_)
      · refine V_iload_n 1 dX9_isRing_69 rfl ?_
        refine V_zret (st := []) dX9_isRing_70 rfl (bI_01 _) ?_
        rw [show allN (rgP c s) s = false from allN_le (n := k) (bI_0 c39) (by omega), bI_0 c39]
        exact ⟨rfl, rfl⟩
      · refine V_iload_n 2 dX9_isRing_42 rfl ?_
        refine V_iload_n 3 dX9_isRing_43 rfl ?_
        refine V_iconst (v := 0) dX9_isRing_44 rfl ?_
        refine C_X9_51 rfl ⟨Nat.le_of_ble_eq_true rfl, Nat.le_of_ble_eq_true rfl⟩ (r9_at c s (0) rfl rfl rfl hc (by omega) h5) rfl (Nat.le_of_ble_eq_true rfl) dX9_isRing_45 rfl ?_
        refine V_iload_n 2 dX9_isRing_48 rfl ?_
        refine V_iload_n 3 dX9_isRing_49 rfl ?_
        refine V_iload_n 0 dX9_isRing_50 rfl ?_
        refine V_pc (pc2 := 51) rfl ?_
        refine C_X9_51 rfl ⟨Nat.le_of_ble_eq_true rfl, Nat.le_of_ble_eq_true rfl⟩ (r9_at c s (k) rfl rfl rfl hc (by omega) h5) rfl (Nat.le_of_ble_eq_true rfl) dX9_isRing_51 rfl ?_
        refine V_icmp_ge (tgt := 61) dX9_isRing_54 (by decide) (fun c54 => ?_) (fun c54 => ?_)
        · refine V_iconst (v := 0) dX9_isRing_61 rfl ?_
          refine V_istore_n (lv2 := [(2, .int _), (3, .int _), (0, .int _), (1, .int _)]) dX9_isRing_62 (Nat.le_of_ble_eq_true rfl) rfl ?_
          refine V_iinc (v := _ + 1) (lv2 := [(3, .int _), (2, .int _), (0, .int _), (1, .int _)]) 1 dX9_isRing_63 rfl rfl (Nat.le_of_ble_eq_true rfl) rfl ?_
          refine V_goto (tgt := 33) dX9_isRing_66 (by decide) ?_
          refine V_lv (lv2 := [(3, .int _), (2, .int _), (0, .int _), (1, .int _)]) [0, 1, 2, 3] rfl ?_
          rw [nI_1]
          have i9 := ih (k + 1) (by omega) (by omega)
          rw [allN_s, bI_1 c39, Bool.true_and, show rgP c s k = false by unfold rgP; rw [decide_eq_false (show ¬ k = 0 by omega), Bool.false_or]; exact decide_eq_false (fun h => by have := (nI_leI (by have := dg_lt c s k; unfold dg at this; omega) (by have := dg_lt c s 0; unfold dg at this; omega)).mp c54; unfold dg at h; omega)] at i9
          exact i9
        · refine V_iconst (v := 1) dX9_isRing_57 rfl ?_
          refine V_goto (tgt := 62) dX9_isRing_58 (by decide) ?_
          refine V_istore_n (lv2 := [(2, .int _), (3, .int _), (0, .int _), (1, .int _)]) dX9_isRing_62 (Nat.le_of_ble_eq_true rfl) rfl ?_
          refine V_iinc (v := _ + 1) (lv2 := [(3, .int _), (2, .int _), (0, .int _), (1, .int _)]) 1 dX9_isRing_63 rfl rfl (Nat.le_of_ble_eq_true rfl) rfl ?_
          refine V_goto (tgt := 33) dX9_isRing_66 (by decide) ?_
          refine V_lv (lv2 := [(3, .int _), (2, .int _), (0, .int _), (1, .int _)]) [0, 1, 2, 3] rfl ?_
          rw [nI_1]
          have i9 := ih (k + 1) (by omega) (by omega)
          rw [allN_s, bI_1 c39, Bool.true_and, show rgP c s k = true by unfold rgP; rw [decide_eq_false (show ¬ k = 0 by omega), Bool.false_or]; exact decide_eq_true (Nat.lt_of_not_le (fun h => c54 ((nI_leI (by have := dg_lt c s k; unfold dg at this; omega) (by have := dg_lt c s 0; unfold dg at this; omega)).mpr h)))] at i9
          exact i9
  refine Run.of rfl (by decide) (Nat.le_of_ble_eq_true rfl) ?_
  show V g m_X9_isRing 0 _ [] _ _ _ _ _
  refine V_iload_n 0 dX9_isRing_0 rfl ?_
  refine V_iload_n 1 dX9_isRing_1 rfl ?_
  refine C_X9_59 rfl ⟨Nat.le_of_ble_eq_true rfl, Nat.le_of_ble_eq_true rfl⟩ (r9_isWay c s rfl rfl hc h5) rfl (Nat.le_of_ble_eq_true rfl) dX9_isRing_2 rfl ?_
  refine V_if_eq (tgt := 29) dX9_isRing_5 (by decide) (fun c5 => ?_) (fun c5 => ?_)
  · refine V_iconst (v := 0) dX9_isRing_29 rfl ?_
    refine V_istore_n (lv2 := [(2, .int _), (0, .int _), (1, .int _)]) dX9_isRing_30 (Nat.le_of_ble_eq_true rfl) rfl ?_
    refine V_iconst (v := 1) dX9_isRing_31 rfl ?_
    refine V_istore_n (lv2 := [(3, .int _), (2, .int _), (0, .int _), (1, .int _)]) dX9_isRing_32 (Nat.le_of_ble_eq_true rfl) rfl ?_
    refine V_lv (lv2 := [(3, .int _), (2, .int _), (0, .int _), (1, .int _)]) [0, 1, 2, 3] rfl ?_
    have hB : (isW c s && decide (dg c s 1 < dg c s (s - 1))) = false := by rw [bI_0 c5]; rfl
    have hL : isRg c s = false := by unfold isRg; rw [hB]; rfl
    rw [hL]
    refine V_iload_n 0 dX9_isRing_33 rfl ?_
    refine V_iload_n 3 dX9_isRing_34 rfl ?_
    refine V_icmp_ge (tgt := 69) dX9_isRing_35 (by decide) (fun c35 => absurd c35 (nI_ge (a := 1) (by omega) (by omega))) (fun c35 => ?_)
    refine V_iload_n 1 dX9_isRing_38 rfl ?_
    refine V_if_eq (tgt := 69) dX9_isRing_39 (by decide) (fun c39 => ?_) (fun c39 => absurd rfl c39)
    refine V_iload_n 1 dX9_isRing_69 rfl ?_
    refine V_zret (st := []) dX9_isRing_70 rfl (by simp) ?_
    exact ⟨rfl, rfl⟩
  · refine V_iload_n 0 dX9_isRing_8 rfl ?_
    refine V_iload_n 1 dX9_isRing_9 rfl ?_
    refine V_iconst (v := 1) dX9_isRing_10 rfl ?_
    refine C_X9_51 rfl ⟨Nat.le_of_ble_eq_true rfl, Nat.le_of_ble_eq_true rfl⟩ (r9_at c s (1) rfl rfl rfl hc (by omega) h5) rfl (Nat.le_of_ble_eq_true rfl) dX9_isRing_11 rfl ?_
    refine V_iload_n 0 dX9_isRing_14 rfl ?_
    refine V_iload_n 1 dX9_isRing_15 rfl ?_
    refine V_iload_n 1 dX9_isRing_16 rfl ?_
    refine V_pc (pc2 := 17) rfl ?_
    refine V_iconst (v := 1) dX9_isRing_17 rfl ?_
    refine V_isub dX9_isRing_18 ?_
    rw [show (1 : Int32) = nI 1 from rfl, pk_sub (by omega)]
    refine C_X9_51 rfl ⟨Nat.le_of_ble_eq_true rfl, Nat.le_of_ble_eq_true rfl⟩ (r9_at c s (s - 1) rfl rfl rfl hc (by omega) h5) rfl (Nat.le_of_ble_eq_true rfl) dX9_isRing_19 rfl ?_
    refine V_icmp_ge (tgt := 29) dX9_isRing_22 (by decide) (fun c22 => ?_) (fun c22 => ?_)
    · refine V_iconst (v := 0) dX9_isRing_29 rfl ?_
      refine V_istore_n (lv2 := [(2, .int _), (0, .int _), (1, .int _)]) dX9_isRing_30 (Nat.le_of_ble_eq_true rfl) rfl ?_
      refine V_iconst (v := 1) dX9_isRing_31 rfl ?_
      refine V_istore_n (lv2 := [(3, .int _), (2, .int _), (0, .int _), (1, .int _)]) dX9_isRing_32 (Nat.le_of_ble_eq_true rfl) rfl ?_
      refine V_lv (lv2 := [(3, .int _), (2, .int _), (0, .int _), (1, .int _)]) [0, 1, 2, 3] rfl ?_
      have hB : (isW c s && decide (dg c s 1 < dg c s (s - 1))) = false := by rw [decide_eq_false (show ¬ dg c s 1 < dg c s (s - 1) from fun h => by have := (nI_leI (by have := dg_lt c s (s - 1); unfold dg at this; omega) (by have := dg_lt c s 1; unfold dg at this; omega)).mp c22; unfold dg at h; omega), Bool.and_false]
      have hL : isRg c s = false := by unfold isRg; rw [hB]; rfl
      rw [hL]
      refine V_iload_n 0 dX9_isRing_33 rfl ?_
      refine V_iload_n 3 dX9_isRing_34 rfl ?_
      refine V_icmp_ge (tgt := 69) dX9_isRing_35 (by decide) (fun c35 => absurd c35 (nI_ge (a := 1) (by omega) (by omega))) (fun c35 => ?_)
      refine V_iload_n 1 dX9_isRing_38 rfl ?_
      refine V_if_eq (tgt := 69) dX9_isRing_39 (by decide) (fun c39 => ?_) (fun c39 => absurd rfl c39)
      refine V_iload_n 1 dX9_isRing_69 rfl ?_
      refine V_zret (st := []) dX9_isRing_70 rfl (by simp) ?_
      exact ⟨rfl, rfl⟩
    · refine V_iconst (v := 1) dX9_isRing_25 rfl ?_
      refine V_goto (tgt := 30) dX9_isRing_26 (by decide) ?_
      refine V_istore_n (lv2 := [(2, .int _), (0, .int _), (1, .int _)]) dX9_isRing_30 (Nat.le_of_ble_eq_true rfl) rfl ?_
      refine V_iconst (v := 1) dX9_isRing_31 rfl ?_
      refine V_istore_n (lv2 := [(3, .int _), (2, .int _), (0, .int _), (1, .int _)]) dX9_isRing_32 (Nat.le_of_ble_eq_true rfl) rfl ?_
      refine V_lv (lv2 := [(3, .int _), (2, .int _), (0, .int _), (1, .int _)]) [0, 1, 2, 3] rfl ?_
      have hB : (isW c s && decide (dg c s 1 < dg c s (s - 1))) = true := by
        rw [bI_1 c5, decide_eq_true (show dg c s 1 < dg c s (s - 1) from Nat.lt_of_not_le (fun h => c22 ((nI_leI (by have := dg_lt c s (s - 1); unfold dg at this; omega) (by have := dg_lt c s 1; unfold dg at this; omega)).mpr h)))]; rfl
      have hL : isRg c s = allN (rgP c s) s := by unfold isRg; rw [hB, Bool.true_and]
      rw [hL]
      exact L (s - 1) 1 (by omega) (Nat.le_refl _)

def ST9 (j : Nat) : Nat → Int32 := fun k => if k < j then SZf k else 0
def CT9 (j : Nat) : Nat → Int32 := fun k => if k < j then CDf k else 0
theorem ST9_s (j : Nat) : upd (ST9 j) j (nI (rSz j)) = ST9 (j + 1) := by
  funext k
  by_cases e : k = j
  · subst e; rw [upd_at]; unfold ST9; rw [if_pos (by omega)]; rfl
  · rw [upd_ne e]; unfold ST9
    by_cases h : k < j
    · rw [if_pos h, if_pos (by omega)]
    · rw [if_neg h, if_neg (by omega)]
theorem CT9_s (j : Nat) : upd (CT9 j) j (nI (rC j)) = CT9 (j + 1) := by
  funext k
  by_cases e : k = j
  · subst e; rw [upd_at]; unfold CT9; rw [if_pos (by omega)]; rfl
  · rw [upd_ne e]; unfold CT9
    by_cases h : k < j
    · rw [if_pos h, if_pos (by omega)]
    · rw [if_neg h, if_neg (by omega)]
def sT9 (i : Nat) : Nat → Int32 := fun k => if 20 ≤ k ∧ k < 20 + i then 36 else 0
theorem sT9_s (i : Nat) : upd (sT9 i) (20 + i) 36 = sT9 (i + 1) := by
  funext k
  by_cases e : k = 20 + i
  · subst e; rw [upd_at]; unfold sT9; rw [if_pos (by omega)]
  · rw [upd_ne e]; unfold sT9
    by_cases h : 20 ≤ k ∧ k < 20 + i
    · rw [if_pos h, if_pos (by omega)]
    · rw [if_neg h, if_neg (by omega)]
theorem sT9_5 : upd (sT9 5) 27 4 = σ0 := by
  funext k
  by_cases e : k = 27
  · subst e; rw [upd_at]; rfl
  · rw [upd_ne e]; unfold sT9 σ0
    by_cases h : 20 ≤ k ∧ k < 25
    · rw [if_pos (by omega), if_pos h]
    · rw [if_neg (by omega), if_neg h, if_neg e]
def HP9 (g : GE) (M0 M9 : Mem) (j : Nat) : Prop := M9 101 = some (eI g 37 (ST9 j)) ∧ M9 102 = some (eI g 37 (CT9 j)) ∧ ∀ k, k ≠ 101 → k ≠ 102 → M9 k = M0 k
/-- the reference's heap behind its rows -/
def B9 (g : GE) (M0 : Mem) : Prop := M0 96 = some (MO g z0) ∧ M0 97 = some (eI g 65 z0) ∧ M0 98 = some (eI g 390 z0) ∧ M0 99 = some (eI g 65 z0) ∧ M0 100 = some (eI g 60 z0) ∧ M0 103 = some (eJ g 5 (fun _ => 0)) ∧ M0 104 = some (eJ g 5 (fun _ => 0))
set_option maxRecDepth 20000 in
theorem ini9_in {g : GE} {M0 : Mem} {sz : Nat} (hB : B9 g M0) {s : Nat} (h3 : 3 ≤ s) (h5 : s ≤ 5) {Q : Ou → Mem → Prop} (kk : ∀ M8, HP9 g M0 M8 (rlo (s + 1)) → V g m_X9_init 71 [(2, .int (nI (s + 1))), (1, .int (nI (rlo (s + 1)))), (0, rf g 96)] [] M8 sz 0 0 Q) :
    ∀ (m c j : Nat) (M9 : Mem), c + m = 10 ^ s → rlo s ≤ j → j ≤ rlo (s + 1) → (∀ i, rlo s ≤ i → i < j → rC i < c) → (∀ i, j ≤ i → i < rlo (s + 1) → c ≤ rC i) → HP9 g M0 M9 j → V g m_X9_init 105 [(4, .int (nI c)), (3, .int (nI (10 ^ s))), (2, .int (nI s)), (1, .int (nI j)), (0, rf g 96)] [] M9 sz 0 0 Q := by
  have hpw : 10 ^ s ≤ 100000 := Nat.le_trans (Nat.pow_le_pow_right (by decide) h5) (by decide)
  have hrl := rlo_37 (s + 1)
  intro m
  induction m with
  | zero =>
    intro c j M9 hc h4 h5' h6 h7 hp
    have hjE : j = rlo (s + 1) := by
      refine Decidable.byContradiction fun hne => ?_
      have hj : j < rlo (s + 1) := by omega
      have hsj := (segR s j h3 h5 (by omega)).mpr ⟨h4, hj⟩
      have h8 := h7 j (Nat.le_refl _) hj
      have h9 := (rC_ok j (by omega)).2
      rw [hsj] at h9
      omega
    refine V_iload 0 dX9_init_105 rfl ?_
    refine V_iload_n 1 dX9_init_107 rfl ?_
    refine V_icmp_ge (tgt := 150) dX9_init_108 (by decide) (fun c108 => ?_) (fun c108 => absurd (nI_le (by omega) (by omega)) c108)
    refine V_iinc (v := _ + 1) (lv2 := [(2, .int _), (4, .int _), (3, .int _), (1, .int _), (0, .ref _)]) 2 dX9_init_150 rfl rfl (Nat.le_of_ble_eq_true rfl) rfl ?_
    refine V_goto (tgt := 71) dX9_init_153 (by decide) ?_
    refine V_lv (lv2 := [(2, .int _), (1, .int _), (0, .ref _)]) [0, 3, 4] rfl ?_
    rw [nI_1, hjE]
    exact kk M9 (by rw [← hjE]; exact hp)
  | succ m ih =>
    intro c j M9 hc h4 h5' h6 h7 hp
    by_cases hx : j < rlo (s + 1) ∧ rC j = c
    · obtain ⟨hj, hcj⟩ := hx
      have hsj := (segR s j h3 h5 (by omega)).mpr ⟨h4, hj⟩
      have hrg : isRg c s = true := by rw [← hcj, ← hsj]; exact (rC_ok j (by omega)).1
      have hlow : ∀ i, rlo s ≤ i → i < j + 1 → rC i < c + 1 := by
        intro i a1 a2
        by_cases e : i = j
        · rw [e]; omega
        · exact Nat.lt_succ_of_lt (h6 i a1 (by omega))
      have hup : ∀ i, j + 1 ≤ i → i < rlo (s + 1) → c + 1 ≤ rC i := by
        intro i a1 a2
        have hsi := (segR s i h3 h5 (by omega)).mpr ⟨by omega, a2⟩
        have := rC_lt2 j i (by omega) (by omega) (by omega) (by omega)
        omega
      refine V_iload 0 dX9_init_105 rfl ?_
      refine V_iload_n 1 dX9_init_107 rfl ?_
      refine V_icmp_ge (tgt := 150) dX9_init_108 (by decide) (fun c108 => absurd c108 (nI_ge (by omega) (by omega))) (fun c108 => ?_)
      refine V_iload_n 3 dX9_init_111 rfl ?_
      refine V_bipush (v := 37) dX9_init_112 (by decide) ?_
      refine V_icmp_ge (tgt := 144) dX9_init_114 (by decide) (fun c114 => absurd c114 (nI_ge (b := 37) (by omega) (by decide))) (fun c114 => ?_)
      refine V_iload 0 dX9_init_117 rfl ?_
      refine V_pc (pc2 := 119) rfl ?_
      refine V_iload_n 2 dX9_init_119 rfl ?_
      refine C_X9_36 rfl ⟨Nat.le_of_ble_eq_true rfl, Nat.le_of_ble_eq_true rfl⟩ (r9_isRing c s rfl rfl (by omega) h3 h5) rfl (Nat.le_of_ble_eq_true rfl) dX9_init_120 rfl ?_
      rw [hrg]
      refine V_if_eq (tgt := 144) dX9_init_123 (by decide) (fun c123 => absurd c123 (by decide)) (fun c123 => ?_)
      refine V_aload_n 4 dX9_init_126 rfl ?_
      refine G_X9_22 rfl (show _ = some (MO g z0) from (hp.2.2 96 (by decide) (by decide)).trans hB.1) rfl dX9_init_127 ?_
      refine V_iload_n 3 dX9_init_130 rfl ?_
      refine V_iload_n 2 dX9_init_131 rfl ?_
      refine V_iast hp.1 (vp_in_nI (n := j) (by omega) (by decide)) dX9_init_132 ?_
      refine V_pc (pc2 := 133) rfl ?_
      refine V_aload_n 4 dX9_init_133 rfl ?_
      refine G_X9_25 rfl (show _ = some (MO g z0) from (mup_ne _ _ (by decide)).trans ((hp.2.2 96 (by decide) (by decide)).trans hB.1)) rfl dX9_init_134 ?_
      refine V_iload_n 3 dX9_init_137 rfl ?_
      refine V_iload 0 dX9_init_138 rfl ?_
      refine V_iast ((mup_ne _ _ (by decide)).trans hp.2.1) (vp_in_nI (n := j) (by omega) (by decide)) dX9_init_140 ?_
      refine V_iinc (v := _ + 1) (lv2 := [(1, .int _), (4, .int _), (3, .int _), (2, .int _), (0, .ref _)]) 3 dX9_init_141 rfl rfl (Nat.le_of_ble_eq_true rfl) rfl ?_
      refine V_iinc (v := _ + 1) (lv2 := [(4, .int _), (1, .int _), (3, .int _), (2, .int _), (0, .ref _)]) 1 dX9_init_144 rfl rfl (Nat.le_of_ble_eq_true rfl) rfl ?_
      refine V_goto (tgt := 105) dX9_init_147 (by decide) ?_
      refine V_lv (lv2 := [(4, .int _), (3, .int _), (2, .int _), (1, .int _), (0, .ref _)]) [0, 2, 3, 1, 4] rfl ?_
      rw [nI_1, nI_1, nI_clamp (n := j) (by omega)]
      have e1 : upd (ST9 j) j (nI s) = ST9 (j + 1) := by rw [← hsj]; exact ST9_s j
      have e2 : upd (CT9 j) j (nI c) = CT9 (j + 1) := by rw [← hcj]; exact CT9_s j
      rw [e1, e2]
      exact ih (c + 1) (j + 1) _ (by omega) (by omega) (by omega) hlow hup ⟨(mup_ne _ _ (by decide)).trans (mup_eq _ _ _), mup_eq _ _ _, fun k k1 k2 => by rw [mup_ne _ _ k2, mup_ne _ _ k1]; exact hp.2.2 k k1 k2⟩
    · have hrg : isRg c s = false := by
        refine (Bool.not_eq_true _).mp fun h => hx ?_
        obtain ⟨i, hi, hsi, hci⟩ := isRg_any h3 h5 (by omega) h
        obtain ⟨a1, a2⟩ := (segR s i h3 h5 hi).mp hsi
        have hji : j ≤ i := Nat.le_of_not_lt fun e => by have := h6 i a1 e; omega
        by_cases e : i = j
        · rw [← e]; exact ⟨a2, hci⟩
        · have hsj := (segR s j h3 h5 (by omega)).mpr ⟨h4, by omega⟩
          have h8 := rC_lt2 j i (by omega) (by omega) (by omega) (by omega)
          have h9 := h7 j (Nat.le_refl _) (by omega)
          omega
      have hnot : ∀ i, j ≤ i → i < rlo (s + 1) → c + 1 ≤ rC i := by
        intro i a1 a2
        have h8 := h7 i a1 a2
        have hne : rC i ≠ c := by
          intro e
          by_cases e2 : i = j
          · exact hx ⟨by omega, by rw [← e2]; exact e⟩
          · have hsi := (segR s i h3 h5 (by omega)).mpr ⟨by omega, a2⟩
            have hsj := (segR s j h3 h5 (by omega)).mpr ⟨h4, by omega⟩
            have h9 := rC_lt2 j i (by omega) (by omega) (by omega) (by omega)
            have h10 := h7 j (Nat.le_refl _) (by omega)
            omega
        omega
      by_cases hj37 : j < 37
      · skip
        refine V_iload 0 dX9_init_105 rfl ?_
        refine V_iload_n 1 dX9_init_107 rfl ?_
        refine V_icmp_ge (tgt := 150) dX9_init_108 (by decide) (fun c108 => absurd c108 (nI_ge (by omega) (by omega))) (fun c108 => ?_)
        refine V_iload_n 3 dX9_init_111 rfl ?_
        refine V_bipush (v := 37) dX9_init_112 (by decide) ?_
        refine V_icmp_ge (tgt := 144) dX9_init_114 (by decide) (fun c114 => absurd c114 (nI_ge (b := 37) (by omega) (by decide))) (fun c114 => ?_)
        refine V_iload 0 dX9_init_117 rfl ?_
        refine V_pc (pc2 := 119) rfl ?_
        refine V_iload_n 2 dX9_init_119 rfl ?_
        refine C_X9_36 rfl ⟨Nat.le_of_ble_eq_true rfl, Nat.le_of_ble_eq_true rfl⟩ (r9_isRing c s rfl rfl (by omega) h3 h5) rfl (Nat.le_of_ble_eq_true rfl) dX9_init_120 rfl ?_
        rw [hrg]
        refine V_if_eq (tgt := 144) dX9_init_123 (by decide) (fun c123 => ?_) (fun c123 => absurd rfl c123)
        refine V_iinc (v := _ + 1) (lv2 := [(4, .int _), (3, .int _), (2, .int _), (1, .int _), (0, .ref _)]) 0 dX9_init_144 rfl rfl (Nat.le_of_ble_eq_true rfl) rfl ?_
        refine V_goto (tgt := 105) dX9_init_147 (by decide) ?_
        refine V_lv (lv2 := [(4, .int _), (3, .int _), (2, .int _), (1, .int _), (0, .ref _)]) [0, 1, 2, 3, 4] rfl ?_
        rw [nI_1]
        exact ih (c + 1) j _ (by omega) h4 h5' (fun i a b => Nat.lt_succ_of_lt (h6 i a b)) hnot hp
      · skip
        refine V_iload 0 dX9_init_105 rfl ?_
        refine V_iload_n 1 dX9_init_107 rfl ?_
        refine V_icmp_ge (tgt := 150) dX9_init_108 (by decide) (fun c108 => absurd c108 (nI_ge (by omega) (by omega))) (fun c108 => ?_)
        refine V_iload_n 3 dX9_init_111 rfl ?_
        refine V_bipush (v := 37) dX9_init_112 (by decide) ?_
        refine V_icmp_ge (tgt := 144) dX9_init_114 (by decide) (fun c114 => ?_) (fun c114 => absurd (nI_le (a := 37) (by omega) (by omega)) c114)
        refine V_iinc (v := _ + 1) (lv2 := [(4, .int _), (3, .int _), (2, .int _), (1, .int _), (0, .ref _)]) 0 dX9_init_144 rfl rfl (Nat.le_of_ble_eq_true rfl) rfl ?_
        refine V_pc (pc2 := 147) rfl ?_
        refine V_goto (tgt := 105) dX9_init_147 (by decide) ?_
        refine V_lv (lv2 := [(4, .int _), (3, .int _), (2, .int _), (1, .int _), (0, .ref _)]) [0, 1, 2, 3, 4] rfl ?_
        rw [nI_1]
        exact ih (c + 1) j _ (by omega) h4 h5' (fun i a b => Nat.lt_succ_of_lt (h6 i a b)) hnot hp

set_option maxRecDepth 20000 in
theorem ini9_s {g : GE} {M M0 : Mem} (hB : B9 g M0) : ∀ (m i : Nat) (M9 : Mem), i + m = 5 → M9 97 = some (eI g 65 (sT9 i)) → M9 101 = some (eI g 37 SZf) → M9 102 = some (eI g 37 CDf) → (∀ k, k ≠ 97 → k ≠ 101 → k ≠ 102 → M9 k = M0 k) → FU M9 105 → LO M M9 96 → V g m_X9_init 158 [(2, .int (nI i)), (0, rf g 96)] [] M9 105 0 0 (RetP none (fun M2 => ML g M2 σ0 z0 false 0 (fun _ => σ0) 0 z0 0 ∧ FU M2 105 ∧ LO M M2 96)) := by
  intro m
  induction m with
  | zero =>
    intro i M9 hi h97 h101 h102 h9 hf9 hl9
    obtain rfl : i = 5 := by omega
    refine V_iload_n 0 dX9_init_158 rfl ?_
    refine V_iconst (v := 5) dX9_init_159 rfl ?_
    refine V_icmp_ge (tgt := 180) dX9_init_160 (by decide) (fun c160 => ?_) (fun c160 => absurd (nI_le (a := 5) (by omega) (by omega)) c160)
    refine V_aload_n 1 dX9_init_180 rfl ?_
    refine G_X9_7 rfl (show _ = some (MO g z0) from (h9 96 (by decide) (by decide) (by decide)).trans hB.1) rfl dX9_init_181 ?_
    refine V_bipush (v := 27) dX9_init_184 (by decide) ?_
    refine V_iconst (v := 4) dX9_init_186 rfl ?_
    refine V_pc (pc2 := 187) rfl ?_
    refine V_iast h97 (v65 27 (by decide)) dX9_init_187 ?_
    refine V_ret (st := []) dX9_init_188 rfl ?_
    rw [show (27 : Int32).toNatClampNeg = 27 from rfl, sT9_5]
    refine ⟨rfl, ⟨⟨z0, ⟨?_, mup_eq _ _ _, ?_, ?_⟩, rfl, rfl, rfl, rfl⟩, ⟨z0, ?_, fun i hi => absurd hi (Nat.not_lt_zero i)⟩, ?_, ?_, fun _ => 0, fun _ => 0, ?_, ?_⟩, hf9.put, hl9.put (by omega)⟩
    · exact (mup_ne _ _ (by decide)).trans ((h9 96 (by decide) (by decide) (by decide)).trans hB.1)
    · exact (mup_ne _ _ (by decide)).trans h101
    · exact (mup_ne _ _ (by decide)).trans h102
    · exact (mup_ne _ _ (by decide)).trans ((h9 98 (by decide) (by decide) (by decide)).trans hB.2.2.1)
    · exact (mup_ne _ _ (by decide)).trans ((h9 99 (by decide) (by decide) (by decide)).trans hB.2.2.2.1)
    · exact (mup_ne _ _ (by decide)).trans ((h9 100 (by decide) (by decide) (by decide)).trans hB.2.2.2.2.1)
    · exact (mup_ne _ _ (by decide)).trans ((h9 103 (by decide) (by decide) (by decide)).trans hB.2.2.2.2.2.1)
    · exact (mup_ne _ _ (by decide)).trans ((h9 104 (by decide) (by decide) (by decide)).trans hB.2.2.2.2.2.2)
  | succ m ih =>
    intro i M9 hi h97 h101 h102 h9 hf9 hl9
    refine V_iload_n 0 dX9_init_158 rfl ?_
    refine V_iconst (v := 5) dX9_init_159 rfl ?_
    refine V_icmp_ge (tgt := 180) dX9_init_160 (by decide) (fun c160 => absurd c160 (nI_ge (b := 5) (by omega) (by decide))) (fun c160 => ?_)
    refine V_aload_n 1 dX9_init_163 rfl ?_
    refine G_X9_7 rfl (show _ = some (MO g z0) from (h9 96 (by decide) (by decide) (by decide)).trans hB.1) rfl dX9_init_164 ?_
    refine V_bipush (v := 20) dX9_init_167 (by decide) ?_
    refine V_iload_n 0 dX9_init_169 rfl ?_
    refine V_pc (pc2 := 170) rfl ?_
    refine V_iadd dX9_init_170 ?_
    refine V_bipush (v := 36) dX9_init_171 (by decide) ?_
    refine V_iast h97 (by rw [show (20 : Int32) = nI 20 from rfl, nI_add]; exact v65 (20 + i) (by omega)) dX9_init_173 ?_
    refine V_iinc (v := _ + 1) (lv2 := [(2, .int _), (0, .ref _)]) 0 dX9_init_174 rfl rfl (Nat.le_of_ble_eq_true rfl) rfl ?_
    refine V_goto (tgt := 158) dX9_init_177 (by decide) ?_
    refine V_lv (lv2 := [(2, .int _), (0, .ref _)]) [0, 1] rfl ?_
    rw [nI_1, show (20 : Int32) + nI i = nI (20 + i) from nI_add 20 i, nI_clamp (n := 20 + i) (by omega), sT9_s]
    exact ih (i + 1) _ (by omega) (mup_eq _ _ _) ((mup_ne _ _ (by decide)).trans h101) ((mup_ne _ _ (by decide)).trans h102) (fun k a b c => (mup_ne _ _ a).trans (h9 k a b c)) hf9.put (hl9.put (by omega))
theorem z0_sT : sT9 0 = z0 := by funext k; unfold sT9 z0; rw [if_neg (by omega)]

set_option maxRecDepth 20000 in
theorem ini9_6 {g : GE} {M M0 M9 : Mem} (hB : B9 g M0) (hf : FU M0 105) (hl : LO M M0 96) (hp : HP9 g M0 M9 (rlo 6)) : V g m_X9_init 71 [(2, .int (nI 6)), (1, .int (nI (rlo 6))), (0, rf g 96)] [] M9 105 0 0 (RetP none (fun M2 => ML g M2 σ0 z0 false 0 (fun _ => σ0) 0 z0 0 ∧ FU M2 105 ∧ LO M M2 96)) := by
  have hf9 : FU M9 105 := by
    intro q hq
    by_cases e1 : q = 101
    · subst e1; rw [hp.1]; exact Option.some_ne_none _
    · by_cases e2 : q = 102
      · subst e2; rw [hp.2.1]; exact Option.some_ne_none _
      · rw [hp.2.2 q e1 e2]; exact hf q hq
  have hl9 : LO M M9 96 := fun q hq => (hp.2.2 q (by omega) (by omega)).trans (hl q hq)
  refine V_iload_n 0 dX9_init_71 rfl ?_
  refine V_bipush (v := 6) dX9_init_72 (by decide) ?_
  refine V_icmp_ge (tgt := 156) dX9_init_74 (by decide) (fun c74 => ?_) (fun c74 => absurd (by decide) c74)
  refine V_iconst (v := 0) dX9_init_156 rfl ?_
  refine V_istore_n (lv2 := [(2, .int _), (1, .int _), (0, .ref _)]) dX9_init_157 (Nat.le_of_ble_eq_true rfl) rfl ?_
  refine V_lv (lv2 := [(2, .int _), (0, .ref _)]) [0, 2] rfl ?_
  refine V_extI (f2 := SZf) hp.1 (fun k hk => if_pos (show k < rlo 6 from hk)) ?_
  refine V_extI (f2 := CDf) ((mup_ne _ _ (by decide)).trans hp.2.1) (fun k hk => if_pos (show k < rlo 6 from hk)) ?_
  exact ini9_s hB 5 0 _ (by omega) (by rw [mup_ne _ _ (by decide), mup_ne _ _ (by decide), hp.2.2 97 (by decide) (by decide), z0_sT]; exact hB.2.1) ((mup_ne _ _ (by decide)).trans (mup_eq _ _ _)) (mup_eq _ _ _) (fun q a b c => by rw [mup_ne _ _ c, mup_ne _ _ b]; exact hp.2.2 q b c) hf9.put.put ((hl9.put (by omega)).put (by omega))

set_option maxRecDepth 20000 in
theorem ini9_5 {g : GE} {M M0 M9 : Mem} (hB : B9 g M0) (hf : FU M0 105) (hl : LO M M0 96) (hp : HP9 g M0 M9 (rlo 5)) : V g m_X9_init 71 [(2, .int (nI 5)), (1, .int (nI (rlo 5))), (0, rf g 96)] [] M9 105 0 0 (RetP none (fun M2 => ML g M2 σ0 z0 false 0 (fun _ => σ0) 0 z0 0 ∧ FU M2 105 ∧ LO M M2 96)) := by
  refine V_iload_n 0 dX9_init_71 rfl ?_
  refine V_bipush (v := 6) dX9_init_72 (by decide) ?_
  refine V_icmp_ge (tgt := 156) dX9_init_74 (by decide) (fun c74 => absurd c74 (by decide)) (fun c74 => ?_)
  refine V_iload_n 0 dX9_init_77 rfl ?_
  refine V_iconst (v := 3) dX9_init_78 rfl ?_
  refine V_icmp_ne (tgt := 88) dX9_init_79 (by decide) (fun c79 => ?_) (fun c79 => absurd c79 (by decide))
  refine V_iload_n 0 dX9_init_88 rfl ?_
  refine V_pc (pc2 := 89) rfl ?_
  refine V_iconst (v := 4) dX9_init_89 rfl ?_
  refine V_icmp_ne (tgt := 99) dX9_init_90 (by decide) (fun c90 => ?_) (fun c90 => absurd c90 (by decide))
  refine V_ldc z_X9_35 dX9_init_99 ?_
  refine V_istore_n (lv2 := [(3, .int _), (2, .int _), (1, .int _), (0, .ref _)]) dX9_init_101 (Nat.le_of_ble_eq_true rfl) rfl ?_
  refine V_iconst (v := 0) dX9_init_102 rfl ?_
  refine V_istore (lv2 := [(4, .int _), (3, .int _), (2, .int _), (1, .int _), (0, .ref _)]) dX9_init_103 (Nat.le_of_ble_eq_true rfl) rfl ?_
  refine V_lv (lv2 := [(4, .int _), (3, .int _), (2, .int _), (1, .int _), (0, .ref _)]) [0, 1, 2, 3, 4] rfl ?_
  exact ini9_in hB (s := 5) (by decide) (by decide) (fun M8 h => ini9_6 hB hf hl h) (10 ^ 5) 0 (rlo 5) M9 (by decide) (Nat.le_refl _) (by decide) (fun i a b => absurd a (by omega)) (fun i a b => Nat.zero_le _) hp

set_option maxRecDepth 20000 in
theorem ini9_4 {g : GE} {M M0 M9 : Mem} (hB : B9 g M0) (hf : FU M0 105) (hl : LO M M0 96) (hp : HP9 g M0 M9 (rlo 4)) : V g m_X9_init 71 [(2, .int (nI 4)), (1, .int (nI (rlo 4))), (0, rf g 96)] [] M9 105 0 0 (RetP none (fun M2 => ML g M2 σ0 z0 false 0 (fun _ => σ0) 0 z0 0 ∧ FU M2 105 ∧ LO M M2 96)) := by
  refine V_iload_n 0 dX9_init_71 rfl ?_
  refine V_bipush (v := 6) dX9_init_72 (by decide) ?_
  refine V_icmp_ge (tgt := 156) dX9_init_74 (by decide) (fun c74 => absurd c74 (by decide)) (fun c74 => ?_)
  refine V_iload_n 0 dX9_init_77 rfl ?_
  refine V_iconst (v := 3) dX9_init_78 rfl ?_
  refine V_icmp_ne (tgt := 88) dX9_init_79 (by decide) (fun c79 => ?_) (fun c79 => absurd c79 (by decide))
  refine V_iload_n 0 dX9_init_88 rfl ?_
  refine V_pc (pc2 := 89) rfl ?_
  refine V_iconst (v := 4) dX9_init_89 rfl ?_
  refine V_icmp_ne (tgt := 99) dX9_init_90 (by decide) (fun c90 => absurd rfl c90) (fun c90 => ?_)
  refine V_sipush (v := 10000) dX9_init_93 (by decide) ?_
  refine V_goto (tgt := 101) dX9_init_96 (by decide) ?_
  refine V_istore_n (lv2 := [(3, .int _), (2, .int _), (1, .int _), (0, .ref _)]) dX9_init_101 (Nat.le_of_ble_eq_true rfl) rfl ?_
  refine V_iconst (v := 0) dX9_init_102 rfl ?_
  refine V_istore (lv2 := [(4, .int _), (3, .int _), (2, .int _), (1, .int _), (0, .ref _)]) dX9_init_103 (Nat.le_of_ble_eq_true rfl) rfl ?_
  refine V_lv (lv2 := [(4, .int _), (3, .int _), (2, .int _), (1, .int _), (0, .ref _)]) [0, 1, 2, 3, 4] rfl ?_
  exact ini9_in hB (s := 4) (by decide) (by decide) (fun M8 h => ini9_5 hB hf hl h) (10 ^ 4) 0 (rlo 4) M9 (by decide) (Nat.le_refl _) (by decide) (fun i a b => absurd a (by omega)) (fun i a b => Nat.zero_le _) hp

set_option maxRecDepth 20000 in
theorem ini9_3 {g : GE} {M M0 M9 : Mem} (hB : B9 g M0) (hf : FU M0 105) (hl : LO M M0 96) (hp : HP9 g M0 M9 (rlo 3)) : V g m_X9_init 71 [(2, .int (nI 3)), (1, .int (nI (rlo 3))), (0, rf g 96)] [] M9 105 0 0 (RetP none (fun M2 => ML g M2 σ0 z0 false 0 (fun _ => σ0) 0 z0 0 ∧ FU M2 105 ∧ LO M M2 96)) := by
  refine V_iload_n 0 dX9_init_71 rfl ?_
  refine V_bipush (v := 6) dX9_init_72 (by decide) ?_
  refine V_icmp_ge (tgt := 156) dX9_init_74 (by decide) (fun c74 => absurd c74 (by decide)) (fun c74 => ?_)
  refine V_iload_n 0 dX9_init_77 rfl ?_
  refine V_iconst (v := 3) dX9_init_78 rfl ?_
  refine V_icmp_ne (tgt := 88) dX9_init_79 (by decide) (fun c79 => absurd rfl c79) (fun c79 => ?_)
  refine V_sipush (v := 1000) dX9_init_82 (by decide) ?_
  refine V_pc (pc2 := 85) rfl ?_
  refine V_goto (tgt := 101) dX9_init_85 (by decide) ?_
  refine V_istore_n (lv2 := [(3, .int _), (2, .int _), (1, .int _), (0, .ref _)]) dX9_init_101 (Nat.le_of_ble_eq_true rfl) rfl ?_
  refine V_iconst (v := 0) dX9_init_102 rfl ?_
  refine V_istore (lv2 := [(4, .int _), (3, .int _), (2, .int _), (1, .int _), (0, .ref _)]) dX9_init_103 (Nat.le_of_ble_eq_true rfl) rfl ?_
  refine V_lv (lv2 := [(4, .int _), (3, .int _), (2, .int _), (1, .int _), (0, .ref _)]) [0, 1, 2, 3, 4] rfl ?_
  exact ini9_in hB (s := 3) (by decide) (by decide) (fun M8 h => ini9_4 hB hf hl h) (10 ^ 3) 0 (rlo 3) M9 (by decide) (Nat.le_refl _) (by decide) (fun i a b => absurd a (by omega)) (fun i a b => Nat.zero_le _) hp

theorem ini9_0 {g : GE} {M M9 : Mem} (hB : B9 g M9) (hf : FU M9 105) (hl : LO M M9 96) (h1 : M9 101 = some (eI g 37 (fun _ => 0))) (h2 : M9 102 = some (eI g 37 (fun _ => 0))) : V g m_X9_init 71 [(2, .int (nI 3)), (1, .int (nI (rlo 3))), (0, rf g 96)] [] M9 105 0 0 (RetP none (fun M2 => ML g M2 σ0 z0 false 0 (fun _ => σ0) 0 z0 0 ∧ FU M2 105 ∧ LO M M2 96)) := by
  have e1 : ST9 (rlo 3) = fun _ => 0 := by funext k; unfold ST9; rw [if_neg (by unfold rlo; simp)]
  have e2 : CT9 (rlo 3) = fun _ => 0 := by funext k; unfold CT9; rw [if_neg (by unfold rlo; simp)]
  exact ini9_3 hB hf hl ⟨by rw [e1]; exact h1, by rw [e2]; exact h2, fun _ _ _ => rfl⟩
set_option maxRecDepth 20000 in
theorem ini_X9 {g : GE} {M : Mem} (h : M 96 = some (eO 9 [.null, .null, .int 0, .null, .int 0, .null, .int 0, .int 0, .null, .null, .null, .null, .int 0, .int 0, .int 0, .int 0, .int 0, .int 0, .int 0])) (hf : FU M 97) : Run g m_X9_init [rf g 96] M 97 8 664 (RetP none (fun M2 => ML g M2 σ0 z0 false 0 (fun _ => σ0) 0 z0 0 ∧ FU M2 105 ∧ LO M M2 96)) := by
  refine Run.of rfl (by decide) (Nat.le_of_ble_eq_true rfl) ?_
  show V g m_X9_init 0 _ [] _ _ _ _ _
  refine V_aload_n 0 dX9_init_0 rfl ?_
  refine V_objInit l_obj_X9_1 (Nat.le_of_ble_eq_true rfl) (Nat.le_of_ble_eq_true rfl) dX9_init_1 ?_
  refine V_aload_n 0 dX9_init_4 rfl ?_
  refine V_bipush (v := 65) dX9_init_5 (by decide) ?_
  refine V_newI 65 ac_I (by decide) rfl (by decide) hf dX9_init_7 (fun hz7 => ?_)
  refine P_X9_7 rfl rfl (show _ = some (eO 9 [.null, .null, .int 0, .null, .int 0, .null, .int 0, .int 0, .null, .null, .null, .null, .int 0, .int 0, .int 0, .int 0, .int 0, .int 0, .int 0]) from (mup_ne _ _ (by decide)).trans h) (Nat.le_of_ble_eq_true rfl) rfl rfl dX9_init_9 ?_
  refine V_aload_n 0 dX9_init_12 rfl ?_
  refine V_pc (pc2 := 13) rfl ?_
  refine V_sipush (v := 390) dX9_init_13 (by decide) ?_
  refine V_newI 390 ac_I (by decide) rfl (by decide) hf.new.put dX9_init_16 (fun hz16 => ?_)
  refine P_X9_13 rfl rfl (show _ = some (eO 9 [rf g 97, .null, .int 0, .null, .int 0, .null, .int 0, .int 0, .null, .null, .null, .null, .int 0, .int 0, .int 0, .int 0, .int 0, .int 0, .int 0]) from (mup_ne _ _ (by decide)).trans (mup_eq _ _ _)) (Nat.le_of_ble_eq_true rfl) rfl rfl dX9_init_18 ?_
  refine V_aload_n 0 dX9_init_21 rfl ?_
  refine V_bipush (v := 65) dX9_init_22 (by decide) ?_
  refine V_newI 65 ac_I (by decide) rfl (by decide) hf.new.put.new.put dX9_init_24 (fun hz24 => ?_)
  refine P_X9_16 rfl rfl (show _ = some (eO 9 [rf g 97, rf g 98, .int 0, .null, .int 0, .null, .int 0, .int 0, .null, .null, .null, .null, .int 0, .int 0, .int 0, .int 0, .int 0, .int 0, .int 0]) from (mup_ne _ _ (by decide)).trans (mup_eq _ _ _)) (Nat.le_of_ble_eq_true rfl) rfl rfl dX9_init_26 ?_
  refine V_aload_n 0 dX9_init_29 rfl ?_
  refine V_pc (pc2 := 30) rfl ?_
  refine V_bipush (v := 60) dX9_init_30 (by decide) ?_
  refine V_newI 60 ac_I (by decide) rfl (by decide) hf.new.put.new.put.new.put dX9_init_32 (fun hz32 => ?_)
  refine P_X9_19 rfl rfl (show _ = some (eO 9 [rf g 97, rf g 98, .int 0, rf g 99, .int 0, .null, .int 0, .int 0, .null, .null, .null, .null, .int 0, .int 0, .int 0, .int 0, .int 0, .int 0, .int 0]) from (mup_ne _ _ (by decide)).trans (mup_eq _ _ _)) (Nat.le_of_ble_eq_true rfl) rfl rfl dX9_init_34 ?_
  refine V_aload_n 0 dX9_init_37 rfl ?_
  refine V_bipush (v := 37) dX9_init_38 (by decide) ?_
  refine V_newI 37 ac_I (by decide) rfl (by decide) hf.new.put.new.put.new.put.new.put dX9_init_40 (fun hz40 => ?_)
  refine P_X9_22 rfl rfl (show _ = some (eO 9 [rf g 97, rf g 98, .int 0, rf g 99, .int 0, rf g 100, .int 0, .int 0, .null, .null, .null, .null, .int 0, .int 0, .int 0, .int 0, .int 0, .int 0, .int 0]) from (mup_ne _ _ (by decide)).trans (mup_eq _ _ _)) (Nat.le_of_ble_eq_true rfl) rfl rfl dX9_init_42 ?_
  refine V_aload_n 0 dX9_init_45 rfl ?_
  refine V_pc (pc2 := 46) rfl ?_
  refine V_bipush (v := 37) dX9_init_46 (by decide) ?_
  refine V_newI 37 ac_I (by decide) rfl (by decide) hf.new.put.new.put.new.put.new.put.new.put dX9_init_48 (fun hz48 => ?_)
  refine P_X9_25 rfl rfl (show _ = some (eO 9 [rf g 97, rf g 98, .int 0, rf g 99, .int 0, rf g 100, .int 0, .int 0, rf g 101, .null, .null, .null, .int 0, .int 0, .int 0, .int 0, .int 0, .int 0, .int 0]) from (mup_ne _ _ (by decide)).trans (mup_eq _ _ _)) (Nat.le_of_ble_eq_true rfl) rfl rfl dX9_init_50 ?_
  refine V_aload_n 0 dX9_init_53 rfl ?_
  refine V_iconst (v := 5) dX9_init_54 rfl ?_
  refine V_newJ 5 ac_J (by decide) rfl (by decide) hf.new.put.new.put.new.put.new.put.new.put.new.put dX9_init_55 (fun hz55 => ?_)
  refine P_X9_28 rfl rfl (show _ = some (eO 9 [rf g 97, rf g 98, .int 0, rf g 99, .int 0, rf g 100, .int 0, .int 0, rf g 101, rf g 102, .null, .null, .int 0, .int 0, .int 0, .int 0, .int 0, .int 0, .int 0]) from (mup_ne _ _ (by decide)).trans (mup_eq _ _ _)) (Nat.le_of_ble_eq_true rfl) rfl rfl dX9_init_57 ?_
  refine V_aload_n 0 dX9_init_60 rfl ?_
  refine V_pc (pc2 := 61) rfl ?_
  refine V_iconst (v := 5) dX9_init_61 rfl ?_
  refine V_newJ 5 ac_J (by decide) rfl (by decide) hf.new.put.new.put.new.put.new.put.new.put.new.put.new.put dX9_init_62 (fun hz62 => ?_)
  refine P_X9_32 rfl rfl (show _ = some (eO 9 [rf g 97, rf g 98, .int 0, rf g 99, .int 0, rf g 100, .int 0, .int 0, rf g 101, rf g 102, rf g 103, .null, .int 0, .int 0, .int 0, .int 0, .int 0, .int 0, .int 0]) from (mup_ne _ _ (by decide)).trans (mup_eq _ _ _)) (Nat.le_of_ble_eq_true rfl) rfl rfl dX9_init_64 ?_
  refine V_iconst (v := 0) dX9_init_67 rfl ?_
  refine V_istore_n (lv2 := [(1, .int _), (0, .ref _)]) dX9_init_68 (Nat.le_of_ble_eq_true rfl) rfl ?_
  refine V_iconst (v := 3) dX9_init_69 rfl ?_
  refine V_istore_n (lv2 := [(2, .int _), (1, .int _), (0, .ref _)]) dX9_init_70 (Nat.le_of_ble_eq_true rfl) rfl ?_
  refine V_lv (lv2 := [(2, .int _), (1, .int _), (0, .ref _)]) [0, 1, 2] rfl ?_
  refine ini9_0 ⟨mup_eq _ _ _, ?_, ?_, ?_, ?_, ?_, ?_⟩ (hf.new.put.new.put.new.put.new.put.new.put.new.put.new.put.new.put) (fun q hq => by rw [mup_ne _ _ (by omega), mup_ne _ _ (by omega), mup_ne _ _ (by omega), mup_ne _ _ (by omega), mup_ne _ _ (by omega), mup_ne _ _ (by omega), mup_ne _ _ (by omega), mup_ne _ _ (by omega), mup_ne _ _ (by omega), mup_ne _ _ (by omega), mup_ne _ _ (by omega), mup_ne _ _ (by omega), mup_ne _ _ (by omega), mup_ne _ _ (by omega), mup_ne _ _ (by omega), mup_ne _ _ (by omega)]) ?_ ?_
  · rw [mup_ne _ _ (by decide), mup_ne _ _ (by decide), mup_ne _ _ (by decide), mup_ne _ _ (by decide), mup_ne _ _ (by decide), mup_ne _ _ (by decide), mup_ne _ _ (by decide), mup_ne _ _ (by decide), mup_ne _ _ (by decide), mup_ne _ _ (by decide), mup_ne _ _ (by decide), mup_ne _ _ (by decide), mup_ne _ _ (by decide), mup_ne _ _ (by decide), mup_ne _ _ (by decide)]; exact mup_eq _ _ _
  · rw [mup_ne _ _ (by decide), mup_ne _ _ (by decide), mup_ne _ _ (by decide), mup_ne _ _ (by decide), mup_ne _ _ (by decide), mup_ne _ _ (by decide), mup_ne _ _ (by decide), mup_ne _ _ (by decide), mup_ne _ _ (by decide), mup_ne _ _ (by decide), mup_ne _ _ (by decide), mup_ne _ _ (by decide), mup_ne _ _ (by decide)]; exact mup_eq _ _ _
  · rw [mup_ne _ _ (by decide), mup_ne _ _ (by decide), mup_ne _ _ (by decide), mup_ne _ _ (by decide), mup_ne _ _ (by decide), mup_ne _ _ (by decide), mup_ne _ _ (by decide), mup_ne _ _ (by decide), mup_ne _ _ (by decide), mup_ne _ _ (by decide), mup_ne _ _ (by decide)]; exact mup_eq _ _ _
  · rw [mup_ne _ _ (by decide), mup_ne _ _ (by decide), mup_ne _ _ (by decide), mup_ne _ _ (by decide), mup_ne _ _ (by decide), mup_ne _ _ (by decide), mup_ne _ _ (by decide), mup_ne _ _ (by decide), mup_ne _ _ (by decide)]; exact mup_eq _ _ _
  · rw [mup_ne _ _ (by decide), mup_ne _ _ (by decide), mup_ne _ _ (by decide)]; exact mup_eq _ _ _
  · rw [mup_ne _ _ (by decide)]; exact mup_eq _ _ _
  · rw [mup_ne _ _ (by decide), mup_ne _ _ (by decide), mup_ne _ _ (by decide), mup_ne _ _ (by decide), mup_ne _ _ (by decide), mup_ne _ _ (by decide), mup_ne _ _ (by decide)]; exact mup_eq _ _ _
  · rw [mup_ne _ _ (by decide), mup_ne _ _ (by decide), mup_ne _ _ (by decide), mup_ne _ _ (by decide), mup_ne _ _ (by decide)]; exact mup_eq _ _ _

