/-! ways: the class Way -/
def midN (i : Nat) : Nat := [0, 1, 2, 3, 12, 13, 21, 23, 31, 32, 123, 132, 213, 231, 312, 321].getD i 0
theorem midF_eq : ∀ i, i < 16 → middlesF i = nI (midN i) := by
  have h : ((List.range 16).all fun i => decide (middlesF i = nI (midN i))) = true := by decide +kernel
  intro i hi
  exact of_decide_eq_true (all_lt h i hi)
theorem midN_lt : ∀ i, i < 16 → midN i < 1000 := by
  have h : ((List.range 16).all fun i => decide (midN i < 1000)) = true := by decide +kernel
  intro i hi
  exact of_decide_eq_true (all_lt h i hi)
def szM (m : Nat) : Nat := if 100 ≤ m then 5 else if 10 ≤ m then 4 else if 1 ≤ m then 3 else 2
theorem szM_in (m : Nat) : 2 ≤ szM m ∧ szM m ≤ 5 := by unfold szM; (repeat' split) <;> omega
def wSz (i : Nat) : Nat := szM (midN i)
def oOK (a b p : Nat) : Bool := p != a && p != b
def othP (a b w p : Nat) : Bool := oOK a b p && (cnt (oOK a b) p + 1 == w)
def oth (a b w : Nat) : Nat := (fnd (othP a b w) 0 5).getD a
def oSt (a b i k : Nat) : Nat := if k = 0 then a else if k + 1 = wSz i then b else oth a b (midN i / 10 ^ (wSz i - 2 - k) % 10)
theorem ways_ok : ∀ a b i k, a < 5 → b < 5 → a ≠ b → i < 16 → k < wSz i → oSt a b i k < 5 ∧ (k + 1 < wSz i → oSt a b i k ≠ oSt a b i (k + 1)) ∧ 1 ≤ midN i / 10 ^ (wSz i - 2 - k) % 10 + (if k = 0 ∨ k + 1 = wSz i then 1 else 0) := by
  have h : ((List.range 5).all fun a => (List.range 5).all fun b => (List.range 16).all fun i => (List.range 5).all fun k => decide (a ≠ b → k < wSz i → oSt a b i k < 5 ∧ (k + 1 < wSz i → oSt a b i k ≠ oSt a b i (k + 1)) ∧ 1 ≤ midN i / 10 ^ (wSz i - 2 - k) % 10 + (if k = 0 ∨ k + 1 = wSz i then 1 else 0))) = true := by decide +kernel
  intro a b i k ha hb hab hi hk
  exact of_decide_eq_true (all_lt (all_lt (all_lt (all_lt h a ha) b hb) i hi) k (Nat.lt_of_lt_of_le hk (szM_in _).2)) hab hk
/-- the way that the row tells -/
def WG (g : GE) (M : Mem) (st : Nat → Nat) (s : Nat) : Prop := (∃ w, M 90 = some (eO 6 [rf g 91, .int (nI s)]) ∧ M 91 = some (eI g 5 w) ∧ ∀ k, k < s → w k = nI (st k)) ∧ 2 ≤ s ∧ s ≤ 5 ∧ (∀ k, k < s → st k < 5) ∧ ∀ k, k + 1 < s → st k ≠ st (k + 1)
theorem WG.fr {g : GE} {M M1 : Mem} {st : Nat → Nat} {s : Nat} (h : WG g M st s) (e : ∀ k, 90 ≤ k → k < 92 → M1 k = M k) : WG g M1 st s := by
  obtain ⟨⟨w, h1, h2, h3⟩, h4⟩ := h
  exact ⟨⟨w, (e _ (by omega) (by omega)).trans h1, (e _ (by omega) (by omega)).trans h2, h3⟩, h4⟩
theorem allN_le {P : Nat → Bool} {n : Nat} (h : allN P n = false) {m : Nat} (hm : n ≤ m) : allN P m = false := by
  induction m with
  | zero => rw [show n = 0 by omega] at h; exact h
  | succ m ih =>
    by_cases e : n = m + 1
    · rw [← e]; exact h
    · show (allN P m && P m) = false
      rw [ih (by omega)]; rfl
theorem allN_s (P : Nat → Bool) (n : Nat) : allN P (n + 1) = (allN P n && P n) := rfl
theorem allN_lt {P : Nat → Bool} {n : Nat} (h : allN P n = true) : ∀ k, k < n → P k = true := by
  induction n with
  | zero => intro k hk; omega
  | succ n ih =>
    rw [allN_s, Bool.and_eq_true] at h
    intro k hk
    by_cases e : k = n
    · rw [e]; exact h.2
    · exact ih h.1 k (by omega)
def stdP (σ : Nat → Int32) (st : Nat → Nat) (k : Nat) : Bool := hasS σ (st k) (st (k + 1))
def stdW (σ : Nat → Int32) (st : Nat → Nat) (n : Nat) : Bool := allN (stdP σ st) n
def numN (st : Nat → Nat) : Nat → Nat
  | 0 => 0
  | k + 1 => numN st k * 10 + st k
def rofS (σ : Nat → Int32) (st : Nat → Nat) (x : Int64) : Nat → Int64 × Int64
  | 0 => (x, 0)
  | k + 1 => (turnS σ (st k) (st (k + 1)) (rofS σ st x k).1, (rofS σ st x k).2 + labs (gainT σ (st k) (st (k + 1)) (rofS σ st x k).1))
def prW (σ : Nat → Int32) (st : Nat → Nat) (ups : Bool) : Nat → Int64
  | 0 => 1
  | k + 1 => prW σ st ups k * (if ups then upS σ (st k) (st (k + 1)) else upS σ (st (k + 1)) (st k)).toInt64
set_option maxRecDepth 20000 in
theorem r_stopsOf {g : GE} {M : Mem} {sz : Nat} {x : Int32} (m : Nat) (hx : x = nI m) (hm : m < 2 ^ 31) : Run g m_X6_stopsOf [.int x] M sz 0 0 (Ret (some (.int (nI (szM m)))) M) := by
  subst hx
  refine Run.of rfl (by decide) (Nat.le_of_ble_eq_true rfl) ?_
  show V g m_X6_stopsOf 0 _ [] _ _ _ _ _
  refine V_iload_n 0 dX6_stopsOf_0 rfl ?_
  refine V_bipush (v := 100) dX6_stopsOf_1 (by decide) ?_
  refine V_icmp_lt (tgt := 8) dX6_stopsOf_3 (by decide) (fun c3 => ?_) (fun c3 => ?_)
  · refine V_iload_n 0 dX6_stopsOf_8 rfl ?_
    refine V_bipush (v := 10) dX6_stopsOf_9 (by decide) ?_
    refine V_icmp_lt (tgt := 16) dX6_stopsOf_11 (by decide) (fun c11 => ?_) (fun c11 => ?_)
    · refine V_iload_n 0 dX6_stopsOf_16 rfl ?_
      refine V_iconst (v := 1) dX6_stopsOf_17 rfl ?_
      refine V_icmp_lt (tgt := 25) dX6_stopsOf_18 (by decide) (fun c18 => ?_) (fun c18 => ?_)
      · refine V_iconst (v := 2) dX6_stopsOf_25 rfl ?_
        refine V_iret (st := []) dX6_stopsOf_26 rfl ?_
        exact ⟨by unfold szM; rw [if_neg (by have := (nI_ltI (b := 100) hm (by decide)).mp c3; omega), if_neg (by have := (nI_ltI (b := 10) hm (by decide)).mp c11; omega), if_neg (by have := (nI_ltI (b := 1) hm (by decide)).mp c18; omega)]; rfl, rfl⟩
      · refine V_iconst (v := 3) dX6_stopsOf_21 rfl ?_
        refine V_goto (tgt := 26) dX6_stopsOf_22 (by decide) ?_
        refine V_iret (st := []) dX6_stopsOf_26 rfl ?_
        exact ⟨by unfold szM; rw [if_neg (by have := (nI_ltI (b := 100) hm (by decide)).mp c3; omega), if_neg (by have := (nI_ltI (b := 10) hm (by decide)).mp c11; omega), if_pos (by have := mt (nI_ltI (b := 1) hm (by decide)).mpr c18; omega)]; rfl, rfl⟩
    · refine V_iconst (v := 4) dX6_stopsOf_14 rfl ?_
      refine V_iret (st := []) dX6_stopsOf_15 rfl ?_
      exact ⟨by unfold szM; rw [if_neg (by have := (nI_ltI (b := 100) hm (by decide)).mp c3; omega), if_pos (by have := mt (nI_ltI (b := 10) hm (by decide)).mpr c11; omega)]; rfl, rfl⟩
  · refine V_iconst (v := 5) dX6_stopsOf_6 rfl ?_
    refine V_iret (st := []) dX6_stopsOf_7 rfl ?_
    exact ⟨by unfold szM; rw [if_pos (by have := mt (nI_ltI (b := 100) hm (by decide)).mpr c3; omega)]; rfl, rfl⟩
set_option maxRecDepth 20000 in
theorem r_otherParish {g : GE} {M : Mem} {sz : Nat} {x y z : Int32} (a b w : Nat) (hx : x = nI a) (hy : y = nI b) (hz : z = nI w) (ha : a < 5) (hb : b < 5) (hw : w < 10) : Run g m_X6_otherParish [.int x, .int y, .int z] M sz 0 0 (Ret (some (.int (nI (oth a b w)))) M) := by
  subst hx hy hz
  have L : ∀ m i : Nat, i + m = 5 → V g m_X6_otherParish 5 [(4, .int (nI i)), (3, .int (nI (cnt (oOK a b) i))), (0, .int (nI a)), (1, .int (nI b)), (2, .int (nI w))] [] M sz 0 0 (Ret (some (.int (nI ((fnd (othP a b w) i m).getD a)))) M) := by
    intro m
    induction m with
    | zero =>
      intro i hi
      obtain rfl : i = 5 := by omega
      refine V_iload 0 dX6_otherParish_5 rfl ?_
      refine V_iconst (v := 5) dX6_otherParish_7 rfl ?_
      refine V_icmp_ge (tgt := 40) dX6_otherParish_8 (by decide) (fun c8 => ?_) (fun c8 => absurd (by decide) c8)
      refine V_iload_n 2 dX6_otherParish_40 rfl ?_
      refine V_iret (st := []) dX6_otherParish_41 rfl ?_
      exact ⟨rfl, rfl⟩
    | succ m ih =>
      intro i hi
      have hlt : i < 5 := by omega
      have hc := cnt_le (oOK a b) i
      refine V_iload 0 dX6_otherParish_5 rfl ?_
      refine V_iconst (v := 5) dX6_otherParish_7 rfl ?_
      refine V_icmp_ge (tgt := 40) dX6_otherParish_8 (by decide) (fun c8 => absurd c8 (nI_ge (b := 5) hlt (by decide))) (fun c8 => ?_)
      refine V_iload 0 dX6_otherParish_11 rfl ?_
      refine V_iload_n 2 dX6_otherParish_13 rfl ?_
      refine V_icmp_eq (tgt := 34) dX6_otherParish_14 (by decide) (fun c14 => ?_) (fun c14 => ?_)
      · refine V_iinc (v := _ + 1) (lv2 := [(4, .int _), (3, .int _), (0, .int _), (1, .int _), (2, .int _)]) 0 dX6_otherParish_34 rfl rfl (Nat.le_of_ble_eq_true rfl) rfl ?_
        refine V_goto (tgt := 5) dX6_otherParish_37 (by decide) ?_
        refine V_lv (lv2 := [(4, .int _), (3, .int _), (0, .int _), (1, .int _), (2, .int _)]) [0, 1, 2, 3, 4] rfl ?_
        have h0 : oOK a b i = false := by unfold oOK; rw [(nI_eq (by omega) (by omega)).mp c14]; simp
        have e := ih (i + 1) (by omega)
        rw [cnt_f h0] at e
        rw [nI_1, fnd_f (by unfold othP; rw [h0]; rfl)]
        exact e
      · refine V_iload 0 dX6_otherParish_17 rfl ?_
        refine V_iload_n 3 dX6_otherParish_19 rfl ?_
        refine V_icmp_eq (tgt := 34) dX6_otherParish_20 (by decide) (fun c20 => ?_) (fun c20 => ?_)
        · refine V_iinc (v := _ + 1) (lv2 := [(4, .int _), (3, .int _), (0, .int _), (1, .int _), (2, .int _)]) 0 dX6_otherParish_34 rfl rfl (Nat.le_of_ble_eq_true rfl) rfl ?_
          refine V_goto (tgt := 5) dX6_otherParish_37 (by decide) ?_
          refine V_lv (lv2 := [(4, .int _), (3, .int _), (0, .int _), (1, .int _), (2, .int _)]) [0, 1, 2, 3, 4] rfl ?_
          have h0 : oOK a b i = false := by unfold oOK; rw [(nI_eq (by omega) (by omega)).mp c20]; simp
          have e := ih (i + 1) (by omega)
          rw [cnt_f h0] at e
          rw [nI_1, fnd_f (by unfold othP; rw [h0]; rfl)]
          exact e
        · refine V_iinc (v := _ + 1) (lv2 := [(3, .int _), (4, .int _), (0, .int _), (1, .int _), (2, .int _)]) 1 dX6_otherParish_23 rfl rfl (Nat.le_of_ble_eq_true rfl) rfl ?_
          refine V_iload_n 0 dX6_otherParish_26 rfl ?_
          refine V_iload_n 4 dX6_otherParish_27 rfl ?_
          refine V_icmp_ne (tgt := 34) dX6_otherParish_28 (by decide) (fun c28 => ?_) (fun c28 => ?_)
          · refine V_iinc (v := _ + 1) (lv2 := [(4, .int _), (3, .int _), (0, .int _), (1, .int _), (2, .int _)]) 1 dX6_otherParish_34 rfl rfl (Nat.le_of_ble_eq_true rfl) rfl ?_
            refine V_goto (tgt := 5) dX6_otherParish_37 (by decide) ?_
            refine V_lv (lv2 := [(4, .int _), (3, .int _), (0, .int _), (1, .int _), (2, .int _)]) [0, 1, 2, 3, 4] rfl ?_
            have h0 : oOK a b i = true := by
              have n1 : i ≠ a := fun e => c14 (by rw [e])
              have n2 : i ≠ b := fun e => c20 (by rw [e])
              unfold oOK
              rw [bne_iff_ne.mpr n1, bne_iff_ne.mpr n2]
              rfl
            have e := ih (i + 1) (by omega)
            rw [cnt_t h0] at e
            rw [nI_1] at c28
            rw [nI_1, nI_1, fnd_f (by unfold othP; rw [h0, Bool.true_and]; exact beq_false_of_ne (fun e => c28 (by rw [e])))]
            exact e
          · refine V_iload 1 dX6_otherParish_31 rfl ?_
            refine V_iret (st := []) dX6_otherParish_33 rfl ?_
            have h0 : oOK a b i = true := by
              have n1 : i ≠ a := fun e => c14 (by rw [e])
              have n2 : i ≠ b := fun e => c20 (by rw [e])
              unfold oOK
              rw [bne_iff_ne.mpr n1, bne_iff_ne.mpr n2]
              rfl
            rw [nI_1] at c28
            refine ⟨?_, rfl⟩
            rw [fnd_t (show othP a b w i = true by unfold othP; rw [h0, (nI_eq (by omega) (by omega)).mp c28]; simp)]
            rfl
  refine Run.of rfl (by decide) (Nat.le_of_ble_eq_true rfl) ?_
  show V g m_X6_otherParish 0 _ [] _ _ _ _ _
  refine V_iconst (v := 0) dX6_otherParish_0 rfl ?_
  refine V_istore_n (lv2 := [(3, .int _), (0, .int _), (1, .int _), (2, .int _)]) dX6_otherParish_1 (Nat.le_of_ble_eq_true rfl) rfl ?_
  refine V_iconst (v := 0) dX6_otherParish_2 rfl ?_
  refine V_istore (lv2 := [(4, .int _), (3, .int _), (0, .int _), (1, .int _), (2, .int _)]) dX6_otherParish_3 (Nat.le_of_ble_eq_true rfl) rfl ?_
  refine V_lv (lv2 := [(4, .int _), (3, .int _), (0, .int _), (1, .int _), (2, .int _)]) [0, 1, 2, 3, 4] rfl ?_
  exact L 5 0 rfl
def stT (w0 : Nat → Int32) (a b i p : Nat) : Nat → Int32 := fun k => if p < k ∧ k + 1 < wSz i then nI (oSt a b i k) else w0 k
theorem stT_top (w0 : Nat → Int32) (a b i : Nat) : stT w0 a b i (wSz i - 2) = w0 := by funext k; unfold stT; rw [if_neg (by omega)]
theorem stT_s (w0 : Nat → Int32) {a b i p : Nat} (hp : p + 1 + 1 < wSz i) : upd (stT w0 a b i (p + 1)) (p + 1) (nI (oSt a b i (p + 1))) = stT w0 a b i p := by
  funext k
  by_cases e : k = p + 1
  · subst e; rw [upd_at]; unfold stT; rw [if_pos (by omega)]
  · rw [upd_ne e]; unfold stT
    by_cases h : p + 1 < k ∧ k + 1 < wSz i
    · rw [if_pos h, if_pos (by omega)]
    · rw [if_neg h, if_neg (by omega)]
theorem stT_fin (w0 : Nat → Int32) (a b i : Nat) : ∀ k, k < wSz i → upd (upd (stT w0 a b i 0) 0 (nI a)) (wSz i - 1) (nI b) k = nI (oSt a b i k) := by
  intro k hk
  have h2 := szM_in (midN i)
  have hw : 2 ≤ wSz i := h2.1
  by_cases e : k = wSz i - 1
  · subst e; rw [upd_at]; unfold oSt; rw [if_neg (by omega), if_pos (by omega)]
  · rw [upd_ne e]
    by_cases e0 : k = 0
    · subst e0; rw [upd_at]; unfold oSt; rw [if_pos rfl]
    · rw [upd_ne e0]; unfold stT; rw [if_pos (by omega)]
set_option maxRecDepth 20000 in
theorem r_choose {g : GE} {M : Mem} {sz : Nat} {w0 : Nat → Int32} {z0 : Int32} (h1 : M 90 = some (eO 6 [rf g 91, .int z0])) (h2 : M 91 = some (eI g 5 w0)) {x y z : Int32} (a b i : Nat) (hx : x = nI a) (hy : y = nI b) (hz : z = nI i) (ha : a < 5) (hb : b < 5) (hab : a ≠ b) (hi : i < 16) : Run g m_X6_choose [rf g 90, .int x, .int y, .int z] M sz 0 0 (RetP none (fun M2 => WG g M2 (oSt a b i) (wSz i) ∧ FR M M2 90 2)) := by
  subst hx hy hz
  have hw := szM_in (midN i)
  have hw1 : 2 ≤ wSz i := hw.1
  have hw2 : wSz i ≤ 5 := hw.2
  have hm9 := midN_lt i hi
  have L : ∀ p : Nat, p ≤ wSz i - 2 → V g m_X6_choose 26 [(5, .int (nI p)), (4, .int (nI (midN i / 10 ^ (wSz i - 2 - p)))), (0, rf g 90), (1, .int (nI a)), (2, .int (nI b)), (3, .int (nI i))] [] (mup (mup M 90 (eO 6 [rf g 91, .int (nI (wSz i))])) 91 (eI g 5 (stT w0 a b i p))) sz 0 0 (RetP none (fun M2 => WG g M2 (oSt a b i) (wSz i) ∧ FR M M2 90 2)) := by
    intro p
    induction p with
    | zero =>
      intro hp
      refine V_iload 0 dX6_choose_26 rfl ?_
      refine V_if_le (tgt := 63) dX6_choose_28 (by decide) (fun c28 => ?_) (fun c28 => absurd (by decide) c28)
      refine V_aload_n 2 dX6_choose_63 rfl ?_
      refine G_X6_9 rfl (show _ = some (eO 6 [rf g 91, .int (nI (wSz i))]) from (mup_ne _ _ (by decide)).trans (mup_eq _ _ _)) rfl dX6_choose_64 ?_
      refine V_iconst (v := 0) dX6_choose_67 rfl ?_
      refine V_iload_n 3 dX6_choose_68 rfl ?_
      refine C_X6_34 rfl ⟨Nat.le_of_ble_eq_true rfl, Nat.le_of_ble_eq_true rfl⟩ (r_put (mup_eq _ _ _) 0 rfl (by decide) (by decide)) rfl (Nat.le_of_ble_eq_true rfl) dX6_choose_69 rfl ?_
      refine V_pc (pc2 := 72) rfl ?_
      refine V_aload_n 2 dX6_choose_72 rfl ?_
      refine G_X6_9 rfl (show _ = some (eO 6 [rf g 91, .int (nI (wSz i))]) from (mup_ne _ _ (by decide)).trans ((mup_ne _ _ (by decide)).trans (mup_eq _ _ _))) rfl dX6_choose_73 ?_
      refine V_aload_n 2 dX6_choose_76 rfl ?_
      refine G_X6_15 rfl (show _ = some (eO 6 [rf g 91, .int (nI (wSz i))]) from (mup_ne _ _ (by decide)).trans ((mup_ne _ _ (by decide)).trans (mup_eq _ _ _))) rfl dX6_choose_77 ?_
      refine V_iconst (v := 1) dX6_choose_80 rfl ?_
      refine V_isub dX6_choose_81 ?_
      refine V_iload_n 4 dX6_choose_82 rfl ?_
      rw [show (1 : Int32) = nI 1 from rfl, pk_sub (by omega)]
      refine C_X6_34 rfl ⟨Nat.le_of_ble_eq_true rfl, Nat.le_of_ble_eq_true rfl⟩ (r_put (mup_eq _ _ _) (wSz i - 1) rfl (by omega) (by decide)) rfl (Nat.le_of_ble_eq_true rfl) dX6_choose_83 rfl ?_
      refine V_pc (pc2 := 86) rfl ?_
      refine V_ret (st := []) dX6_choose_86 rfl ?_
      refine ⟨rfl, ⟨⟨_, (mup_ne _ _ (by decide)).trans ((mup_ne _ _ (by decide)).trans ((mup_ne _ _ (by decide)).trans (mup_eq _ _ _))), mup_eq _ _ _, stT_fin w0 a b i⟩, (szM_in _).1, (szM_in _).2, fun k hk => (ways_ok a b i k ha hb hab hi hk).1, fun k hk => (ways_ok a b i k ha hb hab hi (by omega)).2.1 hk⟩, fun k hk => ?_⟩
      rw [mup_ne _ _ (by omega), mup_ne _ _ (by omega), mup_ne _ _ (by omega), mup_ne _ _ (by omega)]
    | succ p ih =>
      intro hp
      have hb9 : midN i / 10 ^ (wSz i - 2 - (p + 1)) < 2 ^ 31 := Nat.lt_of_le_of_lt (Nat.div_le_self _ _) (by omega)
      have ew : oSt a b i (p + 1) = oth a b (midN i / 10 ^ (wSz i - 2 - (p + 1)) % 10) := by unfold oSt; rw [if_neg (by omega), if_neg (by omega)]
      refine V_iload 0 dX6_choose_26 rfl ?_
      refine V_if_le (tgt := 63) dX6_choose_28 (by decide) (fun c28 => absurd c28 (nI_nle (by omega) (by omega))) (fun c28 => ?_)
      refine V_aload_n 2 dX6_choose_31 rfl ?_
      refine G_X6_9 rfl (show _ = some (eO 6 [rf g 91, .int (nI (wSz i))]) from (mup_ne _ _ (by decide)).trans (mup_eq _ _ _)) rfl dX6_choose_32 ?_
      refine V_iload 0 dX6_choose_35 rfl ?_
      refine V_iload_n 3 dX6_choose_37 rfl ?_
      refine V_iload_n 4 dX6_choose_38 rfl ?_
      refine V_pc (pc2 := 39) rfl ?_
      refine V_iload 1 dX6_choose_39 rfl ?_
      refine V_bipush (v := 10) dX6_choose_41 (by decide) ?_
      refine V_irem dX6_choose_43 (by decide) ?_
      rw [show (10 : Int32) = nI 10 from rfl, pk_rem hb9 (by decide) (by decide)]
      refine C_X6_30 rfl ⟨Nat.le_of_ble_eq_true rfl, Nat.le_of_ble_eq_true rfl⟩ (r_otherParish a b _ rfl rfl rfl ha hb (Nat.mod_lt _ (by decide))) rfl (Nat.le_of_ble_eq_true rfl) dX6_choose_44 rfl ?_
      rw [← ew]
      refine C_X6_34 rfl ⟨Nat.le_of_ble_eq_true rfl, Nat.le_of_ble_eq_true rfl⟩ (r_put (mup_eq _ _ _) (p + 1) rfl (by omega) (by decide)) rfl (Nat.le_of_ble_eq_true rfl) dX6_choose_47 rfl ?_
      refine V_iload 1 dX6_choose_50 rfl ?_
      refine V_bipush (v := 10) dX6_choose_52 (by decide) ?_
      refine V_idiv dX6_choose_54 (by decide) ?_
      refine V_pc (pc2 := 55) rfl ?_
      rw [show (10 : Int32) = nI 10 from rfl, pk_div hb9 (by decide) (by decide)]
      refine V_istore (lv2 := [(4, .int _), (5, .int _), (0, .ref _), (1, .int _), (2, .int _), (3, .int _)]) dX6_choose_55 (Nat.le_of_ble_eq_true rfl) rfl ?_
      refine V_iinc (v := _ + (-1)) (lv2 := [(5, .int _), (4, .int _), (0, .ref _), (1, .int _), (2, .int _), (3, .int _)]) 1 dX6_choose_57 rfl rfl (Nat.le_of_ble_eq_true rfl) rfl ?_
      refine V_goto (tgt := 26) dX6_choose_60 (by decide) ?_
      refine V_lv (lv2 := [(5, .int _), (4, .int _), (0, .ref _), (1, .int _), (2, .int _), (3, .int _)]) [0, 1, 2, 3, 4, 5] rfl ?_
      rw [show nI (p + 1) + (-1) = nI p from pk_m1 p, mup_mup, stT_s w0 (by omega), Nat.div_div_eq_div_mul, ← Nat.pow_succ, show (wSz i - 2 - (p + 1)).succ = wSz i - 2 - p by omega]
      exact ih (by omega)
  refine Run.of rfl (by decide) (Nat.le_of_ble_eq_true rfl) ?_
  show V g m_X6_choose 0 _ [] _ _ _ _ _
  refine V_getMN st_X6_19 dX6_choose_0 ?_
  refine V_iload_n 3 dX6_choose_3 rfl ?_
  refine C_X6_22 rfl ⟨Nat.le_of_ble_eq_true rfl, Nat.le_of_ble_eq_true rfl⟩ (r_atM i rfl hi) rfl (Nat.le_of_ble_eq_true rfl) dX6_choose_4 rfl ?_
  rw [midF_eq i hi]
  refine V_istore (lv2 := [(4, .int _), (0, .ref _), (1, .int _), (2, .int _), (3, .int _)]) dX6_choose_7 (Nat.le_of_ble_eq_true rfl) rfl ?_
  refine V_aload_n 1 dX6_choose_9 rfl ?_
  refine V_iload 0 dX6_choose_10 rfl ?_
  refine C_X6_26 rfl ⟨Nat.le_of_ble_eq_true rfl, Nat.le_of_ble_eq_true rfl⟩ (r_stopsOf (midN i) rfl (by omega)) rfl (Nat.le_of_ble_eq_true rfl) dX6_choose_12 rfl ?_
  show V g m_X6_choose 15 _ [.int (nI (wSz i)), rf g 90] _ _ _ _ _
  refine V_pc (pc2 := 15) rfl ?_
  refine P_X6_15 rfl h1 (Nat.le_of_ble_eq_true rfl) rfl rfl dX6_choose_15 ?_
  refine V_aload_n 1 dX6_choose_18 rfl ?_
  refine G_X6_15 rfl (mup_eq _ _ _) rfl dX6_choose_19 ?_
  refine V_iconst (v := 2) dX6_choose_22 rfl ?_
  refine V_isub dX6_choose_23 ?_
  refine V_istore (lv2 := [(5, .int _), (4, .int _), (0, .ref _), (1, .int _), (2, .int _), (3, .int _)]) dX6_choose_24 (Nat.le_of_ble_eq_true rfl) rfl ?_
  refine V_lv (lv2 := [(5, .int _), (4, .int _), (0, .ref _), (1, .int _), (2, .int _), (3, .int _)]) [0, 1, 2, 3, 4, 5] rfl ?_
  rw [show (2 : Int32) = nI 2 from rfl, pk_sub (by omega)]
  have e := L (wSz i - 2) (Nat.le_refl _)
  rw [stT_top, mup_self (show _ = some (eI g 5 w0) from (mup_ne _ _ (by decide)).trans h2), show wSz i - 2 - (wSz i - 2) = 0 by omega, Nat.pow_zero, Nat.div_one] at e
  exact e
set_option maxRecDepth 20000 in
theorem r_wstands {g : GE} {M : Mem} {sz : Nat} {st : Nat → Nat} {s : Nat} (hW : WG g M st s) {σ : Nat → Int32} (hI : I10 σ) (hT : TS g M (1 + 3) σ) : Run g m_X6_stands [rf g 90, rf g (1 + 3)] M sz 0 0 (Ret (some (.int (bI (stdW σ st (s - 1))))) M) := by
  obtain ⟨⟨w, h1, h2, h3⟩, h4, h5, h6, h7⟩ := hW
  have L : ∀ m i : Nat, i + m = s - 1 → stdW σ st i = true → V g m_X6_stands 2 [(2, .int (nI i)), (0, rf g 90), (1, rf g (1 + 3))] [] M sz 0 0 (Ret (some (.int (bI (stdW σ st (s - 1))))) M) := by
    intro m
    induction m with
    | zero =>
      intro i hi hs
      obtain rfl : i = s - 1 := by omega
      refine V_iload_n 0 dX6_stands_2 rfl ?_
      refine V_aload_n 1 dX6_stands_3 rfl ?_
      refine G_X6_15 rfl h1 rfl dX6_stands_4 ?_
      refine V_iconst (v := 1) dX6_stands_7 rfl ?_
      refine V_isub dX6_stands_8 ?_
      rw [show (1 : Int32) = nI 1 from rfl, pk_sub (by omega)]
      refine V_icmp_ge (tgt := 45) dX6_stands_9 (by decide) (fun c9 => ?_) (fun c9 => absurd (nI_le (Nat.le_refl _) (by omega)) c9)
      refine V_iconst (v := 1) dX6_stands_45 rfl ?_
      refine V_pc (pc2 := 46) rfl ?_
      refine V_zret (st := []) dX6_stands_46 rfl (by simp) ?_
      rw [hs]; exact ⟨rfl, rfl⟩
    | succ m ih =>
      intro i hi hs
      refine V_iload_n 0 dX6_stands_2 rfl ?_
      refine V_aload_n 1 dX6_stands_3 rfl ?_
      refine G_X6_15 rfl h1 rfl dX6_stands_4 ?_
      refine V_iconst (v := 1) dX6_stands_7 rfl ?_
      refine V_isub dX6_stands_8 ?_
      rw [show (1 : Int32) = nI 1 from rfl, pk_sub (by omega)]
      refine V_icmp_ge (tgt := 45) dX6_stands_9 (by decide) (fun c9 => absurd c9 (nI_ge (b := s - 1) (by omega) (by omega))) (fun c9 => ?_)
      refine V_aload_n 2 dX6_stands_12 rfl ?_
      refine V_pc (pc2 := 13) rfl ?_
      refine V_aload_n 1 dX6_stands_13 rfl ?_
      refine G_X6_9 rfl h1 rfl dX6_stands_14 ?_
      refine V_iload_n 0 dX6_stands_17 rfl ?_
      refine C_X6_22 rfl ⟨Nat.le_of_ble_eq_true rfl, Nat.le_of_ble_eq_true rfl⟩ (r_at h2 (i) rfl (by omega) (by decide)) rfl (Nat.le_of_ble_eq_true rfl) dX6_stands_18 rfl ?_
      rw [h3 (i) (by omega)]
      refine V_aload_n 1 dX6_stands_21 rfl ?_
      refine G_X6_9 rfl h1 rfl dX6_stands_22 ?_
      refine V_iload_n 0 dX6_stands_25 rfl ?_
      refine V_iconst (v := 1) dX6_stands_26 rfl ?_
      refine V_pc (pc2 := 27) rfl ?_
      refine V_iadd dX6_stands_27 ?_
      rw [nI_1]
      refine C_X6_22 rfl ⟨Nat.le_of_ble_eq_true rfl, Nat.le_of_ble_eq_true rfl⟩ (r_at h2 (i + 1) rfl (by omega) (by decide)) rfl (Nat.le_of_ble_eq_true rfl) dX6_stands_28 rfl ?_
      rw [h3 (i + 1) (by omega)]
      refine C_X6_38 (show _ = some (eO 4 [rf g (1 + 3 + 1), .int _]) from hT.choose_spec.choose_spec.1.1) rfl ⟨Nat.le_of_ble_eq_true rfl, Nat.le_of_ble_eq_true rfl⟩ (hT.has hI (st i) (st (i + 1)) rfl rfl (h6 _ (by omega)) (h6 _ (by omega))) rfl (Nat.le_of_ble_eq_true rfl) dX6_stands_31 rfl ?_
      refine V_if_ne (tgt := 39) dX6_stands_34 (by decide) (fun c34 => ?_) (fun c34 => ?_)
      · refine V_iinc (v := _ + 1) (lv2 := [(2, .int _), (0, .ref _), (1, .ref _)]) 0 dX6_stands_39 rfl rfl (Nat.le_of_ble_eq_true rfl) rfl ?_
        refine V_goto (tgt := 2) dX6_stands_42 (by decide) ?_
        refine V_lv (lv2 := [(2, .int _), (0, .ref _), (1, .ref _)]) [0, 1, 2] rfl ?_
        rw [nI_1]
        exact ih (i + 1) (by omega) (by show (stdW σ st i && stdP σ st i) = true; rw [hs]; exact bI_1 c34)
      · refine V_iconst (v := 0) dX6_stands_37 rfl ?_
        refine V_zret (st := []) dX6_stands_38 rfl (by simp) ?_
        rw [show stdW σ st (s - 1) = false from allN_le (n := i + 1) (by rw [allN_s]; rw [show stdP σ st i = false from bI_0 c34, Bool.and_false]) (by omega)]
        exact ⟨rfl, rfl⟩
  refine Run.of rfl (by decide) (Nat.le_of_ble_eq_true rfl) ?_
  show V g m_X6_stands 0 _ [] _ _ _ _ _
  refine V_iconst (v := 0) dX6_stands_0 rfl ?_
  refine V_istore_n (lv2 := [(2, .int _), (0, .ref _), (1, .ref _)]) dX6_stands_1 (Nat.le_of_ble_eq_true rfl) rfl ?_
  refine V_lv (lv2 := [(2, .int _), (0, .ref _), (1, .ref _)]) [0, 1, 2] rfl ?_
  exact L (s - 1) 0 (by omega) rfl
set_option maxRecDepth 20000 in
theorem r_number {g : GE} {M : Mem} {sz : Nat} {st : Nat → Nat} {s : Nat} (hW : WG g M st s) : Run g m_X6_number [rf g 90] M sz 0 0 (Ret (some (.int (nI (numN st s)))) M) := by
  obtain ⟨⟨w, h1, h2, h3⟩, h4, h5, h6, h7⟩ := hW
  have L : ∀ m i : Nat, i + m = s → V g m_X6_number 4 [(2, .int (nI i)), (1, .int (nI (numN st i))), (0, rf g 90)] [] M sz 0 0 (Ret (some (.int (nI (numN st s)))) M) := by
    intro m
    induction m with
    | zero =>
      intro i hi
      obtain rfl : i = s := by omega
      refine V_iload_n 0 dX6_number_4 rfl ?_
      refine V_aload_n 2 dX6_number_5 rfl ?_
      refine G_X6_15 rfl h1 rfl dX6_number_6 ?_
      refine V_icmp_ge (tgt := 32) dX6_number_9 (by decide) (fun c9 => ?_) (fun c9 => absurd (nI_le (Nat.le_refl _) (by omega)) c9)
      refine V_iload_n 1 dX6_number_32 rfl ?_
      refine V_iret (st := []) dX6_number_33 rfl ?_
      exact ⟨rfl, rfl⟩
    | succ m ih =>
      intro i hi
      refine V_iload_n 0 dX6_number_4 rfl ?_
      refine V_aload_n 2 dX6_number_5 rfl ?_
      refine G_X6_15 rfl h1 rfl dX6_number_6 ?_
      refine V_icmp_ge (tgt := 32) dX6_number_9 (by decide) (fun c9 => absurd c9 (nI_ge (b := s) (by omega) (by omega))) (fun c9 => ?_)
      refine V_iload_n 1 dX6_number_12 rfl ?_
      refine V_bipush (v := 10) dX6_number_13 (by decide) ?_
      refine V_imul dX6_number_15 ?_
      refine V_pc (pc2 := 16) rfl ?_
      refine V_aload_n 2 dX6_number_16 rfl ?_
      refine G_X6_9 rfl h1 rfl dX6_number_17 ?_
      refine V_iload_n 0 dX6_number_20 rfl ?_
      refine C_X6_22 rfl ⟨Nat.le_of_ble_eq_true rfl, Nat.le_of_ble_eq_true rfl⟩ (r_at h2 (i) rfl (by omega) (by decide)) rfl (Nat.le_of_ble_eq_true rfl) dX6_number_21 rfl ?_
      rw [h3 (i) (by omega)]
      refine V_iadd dX6_number_24 ?_
      refine V_istore_n (lv2 := [(1, .int _), (2, .int _), (0, .ref _)]) dX6_number_25 (Nat.le_of_ble_eq_true rfl) rfl ?_
      refine V_iinc (v := _ + 1) (lv2 := [(2, .int _), (1, .int _), (0, .ref _)]) 1 dX6_number_26 rfl rfl (Nat.le_of_ble_eq_true rfl) rfl ?_
      refine V_goto (tgt := 4) dX6_number_29 (by decide) ?_
      refine V_lv (lv2 := [(2, .int _), (1, .int _), (0, .ref _)]) [0, 1, 2] rfl ?_
      rw [nI_1, show (10 : Int32) = nI 10 from rfl, pk_mul, nI_add]
      exact ih (i + 1) (by omega)
  refine Run.of rfl (by decide) (Nat.le_of_ble_eq_true rfl) ?_
  show V g m_X6_number 0 _ [] _ _ _ _ _
  refine V_iconst (v := 0) dX6_number_0 rfl ?_
  refine V_istore_n (lv2 := [(1, .int _), (0, .ref _)]) dX6_number_1 (Nat.le_of_ble_eq_true rfl) rfl ?_
  refine V_iconst (v := 0) dX6_number_2 rfl ?_
  refine V_istore_n (lv2 := [(2, .int _), (1, .int _), (0, .ref _)]) dX6_number_3 (Nat.le_of_ble_eq_true rfl) rfl ?_
  refine V_lv (lv2 := [(2, .int _), (1, .int _), (0, .ref _)]) [0, 1, 2] rfl ?_
  exact L s 0 (by omega)
set_option maxRecDepth 20000 in
theorem r_roundedOff {g : GE} {M : Mem} {sz : Nat} {st : Nat → Nat} {s : Nat} (hW : WG g M st s) {σ : Nat → Int32} (hI : I10 σ) (hT : TS g M (1 + 3) σ) (hs : stdW σ st (s - 1) = true) {x : Int32} : Run g m_X6_roundedOff [rf g 90, rf g (1 + 3), .int x, .int (σ 26)] M sz 0 0 (Ret (some (.long (rofS σ st x.toInt64 (s - 1)).2)) M) := by
  obtain ⟨⟨w, h1, h2, h3⟩, h4, h5, h6, h7⟩ := hW
  have L : ∀ m i : Nat, i + m = s - 1 → V g m_X6_roundedOff 10 [(8, .int (nI i)), (6, .long (rofS σ st x.toInt64 i).2), (4, .long (rofS σ st x.toInt64 i).1), (0, rf g 90), (1, rf g (1 + 3)), (2, .int x), (3, .int (σ 26))] [] M sz 0 0 (Ret (some (.long (rofS σ st x.toInt64 (s - 1)).2)) M) := by
    intro m
    induction m with
    | zero =>
      intro i hi
      obtain rfl : i = s - 1 := by omega
      refine V_iload 0 dX6_roundedOff_10 rfl ?_
      refine V_aload_n 3 dX6_roundedOff_12 rfl ?_
      refine G_X6_15 rfl h1 rfl dX6_roundedOff_13 ?_
      refine V_iconst (v := 1) dX6_roundedOff_16 rfl ?_
      refine V_isub dX6_roundedOff_17 ?_
      rw [show (1 : Int32) = nI 1 from rfl, pk_sub (by omega)]
      refine V_icmp_ge (tgt := 114) dX6_roundedOff_18 (by decide) (fun c18 => ?_) (fun c18 => absurd (nI_le (Nat.le_refl _) (by omega)) c18)
      refine V_lload 1 dX6_roundedOff_114 rfl ?_
      refine V_pc (pc2 := 116) rfl ?_
      refine V_lret (st := []) dX6_roundedOff_116 rfl ?_
      exact ⟨rfl, rfl⟩
    | succ m ih =>
      intro i hi
      have hh : hasS σ (st i) (st (i + 1)) = true := allN_lt hs i (by omega)
      have hp := hasPos2 hI (h6 i (by omega)) (h6 (i + 1) (by omega)) hh
      refine V_iload 0 dX6_roundedOff_10 rfl ?_
      refine V_aload_n 3 dX6_roundedOff_12 rfl ?_
      refine G_X6_15 rfl h1 rfl dX6_roundedOff_13 ?_
      refine V_iconst (v := 1) dX6_roundedOff_16 rfl ?_
      refine V_isub dX6_roundedOff_17 ?_
      rw [show (1 : Int32) = nI 1 from rfl, pk_sub (by omega)]
      refine V_icmp_ge (tgt := 114) dX6_roundedOff_18 (by decide) (fun c18 => absurd c18 (nI_ge (b := s - 1) (by omega) (by omega))) (fun c18 => ?_)
      refine V_aload_n 4 dX6_roundedOff_21 rfl ?_
      refine V_pc (pc2 := 22) rfl ?_
      refine V_aload_n 3 dX6_roundedOff_22 rfl ?_
      refine G_X6_9 rfl h1 rfl dX6_roundedOff_23 ?_
      refine V_iload 0 dX6_roundedOff_26 rfl ?_
      refine C_X6_22 rfl ⟨Nat.le_of_ble_eq_true rfl, Nat.le_of_ble_eq_true rfl⟩ (r_at h2 (i) rfl (by omega) (by decide)) rfl (Nat.le_of_ble_eq_true rfl) dX6_roundedOff_28 rfl ?_
      rw [h3 (i) (by omega)]
      refine V_aload_n 3 dX6_roundedOff_31 rfl ?_
      refine G_X6_9 rfl h1 rfl dX6_roundedOff_32 ?_
      refine V_iload 0 dX6_roundedOff_35 rfl ?_
      refine V_iconst (v := 1) dX6_roundedOff_37 rfl ?_
      refine V_pc (pc2 := 38) rfl ?_
      refine V_iadd dX6_roundedOff_38 ?_
      rw [nI_1]
      refine C_X6_22 rfl ⟨Nat.le_of_ble_eq_true rfl, Nat.le_of_ble_eq_true rfl⟩ (r_at h2 (i + 1) rfl (by omega) (by decide)) rfl (Nat.le_of_ble_eq_true rfl) dX6_roundedOff_39 rfl ?_
      rw [h3 (i + 1) (by omega)]
      refine C_X6_44 (show _ = some (eO 4 [rf g (1 + 3 + 1), .int _]) from hT.choose_spec.choose_spec.1.1) rfl ⟨Nat.le_of_ble_eq_true rfl, Nat.le_of_ble_eq_true rfl⟩ (hT.up (st i) (st (i + 1)) rfl rfl (h6 _ (by omega)) (h6 _ (by omega)) (h7 i (by omega))) rfl (Nat.le_of_ble_eq_true rfl) dX6_roundedOff_42 rfl ?_
      refine V_istore (lv2 := [(9, .int _), (8, .int _), (6, .long _), (4, .long _), (0, .ref _), (1, .ref _), (2, .int _), (3, .int _)]) dX6_roundedOff_45 (Nat.le_of_ble_eq_true rfl) rfl ?_
      refine V_aload_n 5 dX6_roundedOff_47 rfl ?_
      refine V_aload_n 4 dX6_roundedOff_48 rfl ?_
      refine G_X6_9 rfl h1 rfl dX6_roundedOff_49 ?_
      refine V_iload 1 dX6_roundedOff_52 rfl ?_
      refine V_pc (pc2 := 54) rfl ?_
      refine V_iconst (v := 1) dX6_roundedOff_54 rfl ?_
      refine V_iadd dX6_roundedOff_55 ?_
      rw [nI_1]
      refine C_X6_22 rfl ⟨Nat.le_of_ble_eq_true rfl, Nat.le_of_ble_eq_true rfl⟩ (r_at h2 (i + 1) rfl (by omega) (by decide)) rfl (Nat.le_of_ble_eq_true rfl) dX6_roundedOff_56 rfl ?_
      rw [h3 (i + 1) (by omega)]
      refine V_aload_n 4 dX6_roundedOff_59 rfl ?_
      refine G_X6_9 rfl h1 rfl dX6_roundedOff_60 ?_
      refine V_iload 1 dX6_roundedOff_63 rfl ?_
      refine C_X6_22 rfl ⟨Nat.le_of_ble_eq_true rfl, Nat.le_of_ble_eq_true rfl⟩ (r_at h2 (i) rfl (by omega) (by decide)) rfl (Nat.le_of_ble_eq_true rfl) dX6_roundedOff_65 rfl ?_
      rw [h3 (i) (by omega)]
      refine C_X6_44 (show _ = some (eO 4 [rf g (1 + 3 + 1), .int _]) from hT.choose_spec.choose_spec.1.1) rfl ⟨Nat.le_of_ble_eq_true rfl, Nat.le_of_ble_eq_true rfl⟩ (hT.up (st (i + 1)) (st i) rfl rfl (h6 _ (by omega)) (h6 _ (by omega)) (Ne.symm (h7 i (by omega)))) rfl (Nat.le_of_ble_eq_true rfl) dX6_roundedOff_68 rfl ?_
      refine V_pc (pc2 := 71) rfl ?_
      refine V_istore (lv2 := [(10, .int _), (9, .int _), (8, .int _), (6, .long _), (4, .long _), (0, .ref _), (1, .ref _), (2, .int _), (3, .int _)]) dX6_roundedOff_71 (Nat.le_of_ble_eq_true rfl) rfl ?_
      refine V_lload 4 dX6_roundedOff_73 rfl ?_
      refine V_iload 1 dX6_roundedOff_75 rfl ?_
      refine V_iload 0 dX6_roundedOff_77 rfl ?_
      refine V_iload_n 8 dX6_roundedOff_79 rfl ?_
      refine C_X6_48 rfl ⟨Nat.le_of_ble_eq_true rfl, Nat.le_of_ble_eq_true rfl⟩ (r_turn _ _ _ _ hp) rfl (Nat.le_of_ble_eq_true rfl) dX6_roundedOff_80 rfl ?_
      refine V_lstore (lv2 := [(11, .long _), (10, .int _), (9, .int _), (8, .int _), (6, .long _), (4, .long _), (0, .ref _), (1, .ref _), (2, .int _), (3, .int _)]) dX6_roundedOff_83 (Nat.le_of_ble_eq_true rfl) rfl ?_
      refine V_lload 4 dX6_roundedOff_85 rfl ?_
      refine V_pc (pc2 := 87) rfl ?_
      refine V_lload 5 dX6_roundedOff_87 rfl ?_
      refine V_lload 0 dX6_roundedOff_89 rfl ?_
      refine V_iload 2 dX6_roundedOff_91 rfl ?_
      refine V_iload 1 dX6_roundedOff_93 rfl ?_
      refine C_X6_52 rfl ⟨Nat.le_of_ble_eq_true rfl, Nat.le_of_ble_eq_true rfl⟩ (r_gainOfTurn _ _ _ _ hp) rfl (Nat.le_of_ble_eq_true rfl) dX6_roundedOff_95 rfl ?_
      refine C_X6_56 rfl ⟨Nat.le_of_ble_eq_true rfl, Nat.le_of_ble_eq_true rfl⟩ (r_labs _) rfl (Nat.le_of_ble_eq_true rfl) dX6_roundedOff_98 rfl ?_
      refine V_ladd dX6_roundedOff_101 ?_
      refine V_lstore (lv2 := [(6, .long _), (11, .long _), (10, .int _), (9, .int _), (8, .int _), (4, .long _), (0, .ref _), (1, .ref _), (2, .int _), (3, .int _)]) dX6_roundedOff_102 (Nat.le_of_ble_eq_true rfl) rfl ?_
      refine V_pc (pc2 := 104) rfl ?_
      refine V_lload 1 dX6_roundedOff_104 rfl ?_
      refine V_lstore (lv2 := [(4, .long _), (6, .long _), (11, .long _), (10, .int _), (9, .int _), (8, .int _), (0, .ref _), (1, .ref _), (2, .int _), (3, .int _)]) dX6_roundedOff_106 (Nat.le_of_ble_eq_true rfl) rfl ?_
      refine V_iinc (v := _ + 1) (lv2 := [(8, .int _), (4, .long _), (6, .long _), (11, .long _), (10, .int _), (9, .int _), (0, .ref _), (1, .ref _), (2, .int _), (3, .int _)]) 5 dX6_roundedOff_108 rfl rfl (Nat.le_of_ble_eq_true rfl) rfl ?_
      refine V_goto (tgt := 10) dX6_roundedOff_111 (by decide) ?_
      refine V_lv (lv2 := [(8, .int _), (6, .long _), (4, .long _), (0, .ref _), (1, .ref _), (2, .int _), (3, .int _)]) [0, 2, 1, 6, 7, 8, 9] rfl ?_
      rw [nI_1]
      exact ih (i + 1) (by omega)
  refine Run.of rfl (by decide) (Nat.le_of_ble_eq_true rfl) ?_
  show V g m_X6_roundedOff 0 _ [] _ _ _ _ _
  refine V_iload_n 2 dX6_roundedOff_0 rfl ?_
  refine V_i2l dX6_roundedOff_1 ?_
  refine V_lstore (lv2 := [(4, .long _), (0, .ref _), (1, .ref _), (2, .int _), (3, .int _)]) dX6_roundedOff_2 (Nat.le_of_ble_eq_true rfl) rfl ?_
  refine V_lconst (v := 0) dX6_roundedOff_4 rfl ?_
  refine V_lstore (lv2 := [(6, .long _), (4, .long _), (0, .ref _), (1, .ref _), (2, .int _), (3, .int _)]) dX6_roundedOff_5 (Nat.le_of_ble_eq_true rfl) rfl ?_
  refine V_iconst (v := 0) dX6_roundedOff_7 rfl ?_
  refine V_istore (lv2 := [(8, .int _), (6, .long _), (4, .long _), (0, .ref _), (1, .ref _), (2, .int _), (3, .int _)]) dX6_roundedOff_8 (Nat.le_of_ble_eq_true rfl) rfl ?_
  refine V_lv (lv2 := [(8, .int _), (6, .long _), (4, .long _), (0, .ref _), (1, .ref _), (2, .int _), (3, .int _)]) [0, 1, 2, 3, 4, 5, 6] rfl ?_
  exact L (s - 1) 0 (by omega)
set_option maxRecDepth 20000 in
theorem r_wproductT {g : GE} {M : Mem} {sz : Nat} {st : Nat → Nat} {s : Nat} (hW : WG g M st s) {σ : Nat → Int32} (hI : I10 σ) (hT : TS g M (1 + 3) σ) : Run g m_X6_product [rf g 90, rf g (1 + 3), .int 1] M sz 0 0 (Ret (some (.long (prW σ st true (s - 1)))) M) := by
  obtain ⟨⟨w, h1, h2, h3⟩, h4, h5, h6, h7⟩ := hW
  have L : ∀ m i : Nat, i + m = s - 1 → V g m_X6_product 5 [(5, .int (nI i)), (3, .long (prW σ st true i)), (0, rf g 90), (1, rf g (1 + 3)), (2, .int 1)] [] M sz 0 0 (Ret (some (.long (prW σ st true (s - 1)))) M) := by
    intro m
    induction m with
    | zero =>
      intro i hi
      obtain rfl : i = s - 1 := by omega
      refine V_iload 0 dX6_product_5 rfl ?_
      refine V_aload_n 2 dX6_product_7 rfl ?_
      refine G_X6_15 rfl h1 rfl dX6_product_8 ?_
      refine V_iconst (v := 1) dX6_product_11 rfl ?_
      refine V_isub dX6_product_12 ?_
      rw [show (1 : Int32) = nI 1 from rfl, pk_sub (by omega)]
      refine V_icmp_ge (tgt := 74) dX6_product_13 (by decide) (fun c13 => ?_) (fun c13 => absurd (nI_le (Nat.le_refl _) (by omega)) c13)
      refine V_lload_n 1 dX6_product_74 rfl ?_
      refine V_pc (pc2 := 75) rfl ?_
      refine V_lret (st := []) dX6_product_75 rfl ?_
      exact ⟨rfl, rfl⟩
    | succ m ih =>
      intro i hi
      refine V_iload 0 dX6_product_5 rfl ?_
      refine V_aload_n 2 dX6_product_7 rfl ?_
      refine G_X6_15 rfl h1 rfl dX6_product_8 ?_
      refine V_iconst (v := 1) dX6_product_11 rfl ?_
      refine V_isub dX6_product_12 ?_
      rw [show (1 : Int32) = nI 1 from rfl, pk_sub (by omega)]
      refine V_icmp_ge (tgt := 74) dX6_product_13 (by decide) (fun c13 => absurd c13 (nI_ge (b := s - 1) (by omega) (by omega))) (fun c13 => ?_)
      refine V_aload_n 2 dX6_product_16 rfl ?_
      refine V_pc (pc2 := 17) rfl ?_
      refine G_X6_9 rfl h1 rfl dX6_product_17 ?_
      refine V_iload 0 dX6_product_20 rfl ?_
      refine C_X6_22 rfl ⟨Nat.le_of_ble_eq_true rfl, Nat.le_of_ble_eq_true rfl⟩ (r_at h2 (i) rfl (by omega) (by decide)) rfl (Nat.le_of_ble_eq_true rfl) dX6_product_22 rfl ?_
      rw [h3 (i) (by omega)]
      refine V_istore (lv2 := [(6, .int _), (5, .int _), (3, .long _), (0, .ref _), (1, .ref _), (2, .int _)]) dX6_product_25 (Nat.le_of_ble_eq_true rfl) rfl ?_
      refine V_aload_n 3 dX6_product_27 rfl ?_
      refine G_X6_9 rfl h1 rfl dX6_product_28 ?_
      refine V_iload 1 dX6_product_31 rfl ?_
      refine V_iconst (v := 1) dX6_product_33 rfl ?_
      refine V_pc (pc2 := 34) rfl ?_
      refine V_iadd dX6_product_34 ?_
      rw [nI_1]
      refine C_X6_22 rfl ⟨Nat.le_of_ble_eq_true rfl, Nat.le_of_ble_eq_true rfl⟩ (r_at h2 (i + 1) rfl (by omega) (by decide)) rfl (Nat.le_of_ble_eq_true rfl) dX6_product_35 rfl ?_
      rw [h3 (i + 1) (by omega)]
      refine V_istore (lv2 := [(7, .int _), (6, .int _), (5, .int _), (3, .long _), (0, .ref _), (1, .ref _), (2, .int _)]) dX6_product_38 (Nat.le_of_ble_eq_true rfl) rfl ?_
      refine V_lload_n 3 dX6_product_40 rfl ?_
      refine V_iload_n 6 dX6_product_41 rfl ?_
      refine V_if_eq (tgt := 57) dX6_product_42 (by decide) (fun c42 => absurd c42 (by decide)) (fun c42 => ?_)
      refine V_aload_n 5 dX6_product_45 rfl ?_
      refine V_iload 1 dX6_product_46 rfl ?_
      refine V_pc (pc2 := 48) rfl ?_
      refine V_iload 0 dX6_product_48 rfl ?_
      refine C_X6_44 (show _ = some (eO 4 [rf g (1 + 3 + 1), .int _]) from hT.choose_spec.choose_spec.1.1) rfl ⟨Nat.le_of_ble_eq_true rfl, Nat.le_of_ble_eq_true rfl⟩ (hT.up (st i) (st (i + 1)) rfl rfl (h6 _ (by omega)) (h6 _ (by omega)) (h7 i (by omega))) rfl (Nat.le_of_ble_eq_true rfl) dX6_product_50 rfl ?_
      refine V_i2l dX6_product_53 ?_
      refine V_goto (tgt := 66) dX6_product_54 (by decide) ?_
      refine V_lmul dX6_product_66 ?_
      refine V_lstore_n (lv2 := [(3, .long _), (7, .int _), (6, .int _), (5, .int _), (0, .ref _), (1, .ref _), (2, .int _)]) dX6_product_67 (Nat.le_of_ble_eq_true rfl) rfl ?_
      refine V_iinc (v := _ + 1) (lv2 := [(5, .int _), (3, .long _), (7, .int _), (6, .int _), (0, .ref _), (1, .ref _), (2, .int _)]) 3 dX6_product_68 rfl rfl (Nat.le_of_ble_eq_true rfl) rfl ?_
      refine V_goto (tgt := 5) dX6_product_71 (by decide) ?_
      refine V_lv (lv2 := [(5, .int _), (3, .long _), (0, .ref _), (1, .ref _), (2, .int _)]) [0, 1, 4, 5, 6] rfl ?_
      rw [nI_1]
      exact ih (i + 1) (by omega)
  refine Run.of rfl (by decide) (Nat.le_of_ble_eq_true rfl) ?_
  show V g m_X6_product 0 _ [] _ _ _ _ _
  refine V_lconst (v := 1) dX6_product_0 rfl ?_
  refine V_lstore_n (lv2 := [(3, .long _), (0, .ref _), (1, .ref _), (2, .int _)]) dX6_product_1 (Nat.le_of_ble_eq_true rfl) rfl ?_
  refine V_iconst (v := 0) dX6_product_2 rfl ?_
  refine V_istore (lv2 := [(5, .int _), (3, .long _), (0, .ref _), (1, .ref _), (2, .int _)]) dX6_product_3 (Nat.le_of_ble_eq_true rfl) rfl ?_
  refine V_lv (lv2 := [(5, .int _), (3, .long _), (0, .ref _), (1, .ref _), (2, .int _)]) [0, 1, 2, 3, 4] rfl ?_
  exact L (s - 1) 0 (by omega)
set_option maxRecDepth 20000 in
theorem r_wproductF {g : GE} {M : Mem} {sz : Nat} {st : Nat → Nat} {s : Nat} (hW : WG g M st s) {σ : Nat → Int32} (hI : I10 σ) (hT : TS g M (1 + 3) σ) : Run g m_X6_product [rf g 90, rf g (1 + 3), .int 0] M sz 0 0 (Ret (some (.long (prW σ st false (s - 1)))) M) := by
  obtain ⟨⟨w, h1, h2, h3⟩, h4, h5, h6, h7⟩ := hW
  have L : ∀ m i : Nat, i + m = s - 1 → V g m_X6_product 5 [(5, .int (nI i)), (3, .long (prW σ st false i)), (0, rf g 90), (1, rf g (1 + 3)), (2, .int 0)] [] M sz 0 0 (Ret (some (.long (prW σ st false (s - 1)))) M) := by
    intro m
    induction m with
    | zero =>
      intro i hi
      obtain rfl : i = s - 1 := by omega
      refine V_iload 0 dX6_product_5 rfl ?_
      refine V_aload_n 2 dX6_product_7 rfl ?_
      refine G_X6_15 rfl h1 rfl dX6_product_8 ?_
      refine V_iconst (v := 1) dX6_product_11 rfl ?_
      refine V_isub dX6_product_12 ?_
      rw [show (1 : Int32) = nI 1 from rfl, pk_sub (by omega)]
      refine V_icmp_ge (tgt := 74) dX6_product_13 (by decide) (fun c13 => ?_) (fun c13 => absurd (nI_le (Nat.le_refl _) (by omega)) c13)
      refine V_lload_n 1 dX6_product_74 rfl ?_
      refine V_pc (pc2 := 75) rfl ?_
      refine V_lret (st := []) dX6_product_75 rfl ?_
      exact ⟨rfl, rfl⟩
    | succ m ih =>
      intro i hi
      refine V_iload 0 dX6_product_5 rfl ?_
      refine V_aload_n 2 dX6_product_7 rfl ?_
      refine G_X6_15 rfl h1 rfl dX6_product_8 ?_
      refine V_iconst (v := 1) dX6_product_11 rfl ?_
      refine V_isub dX6_product_12 ?_
      rw [show (1 : Int32) = nI 1 from rfl, pk_sub (by omega)]
      refine V_icmp_ge (tgt := 74) dX6_product_13 (by decide) (fun c13 => absurd c13 (nI_ge (b := s - 1) (by omega) (by omega))) (fun c13 => ?_)
      refine V_aload_n 2 dX6_product_16 rfl ?_
      refine V_pc (pc2 := 17) rfl ?_
      refine G_X6_9 rfl h1 rfl dX6_product_17 ?_
      refine V_iload 0 dX6_product_20 rfl ?_
      refine C_X6_22 rfl ⟨Nat.le_of_ble_eq_true rfl, Nat.le_of_ble_eq_true rfl⟩ (r_at h2 (i) rfl (by omega) (by decide)) rfl (Nat.le_of_ble_eq_true rfl) dX6_product_22 rfl ?_
      rw [h3 (i) (by omega)]
      refine V_istore (lv2 := [(6, .int _), (5, .int _), (3, .long _), (0, .ref _), (1, .ref _), (2, .int _)]) dX6_product_25 (Nat.le_of_ble_eq_true rfl) rfl ?_
      refine V_aload_n 3 dX6_product_27 rfl ?_
      refine G_X6_9 rfl h1 rfl dX6_product_28 ?_
      refine V_iload 1 dX6_product_31 rfl ?_
      refine V_iconst (v := 1) dX6_product_33 rfl ?_
      refine V_pc (pc2 := 34) rfl ?_
      refine V_iadd dX6_product_34 ?_
      rw [nI_1]
      refine C_X6_22 rfl ⟨Nat.le_of_ble_eq_true rfl, Nat.le_of_ble_eq_true rfl⟩ (r_at h2 (i + 1) rfl (by omega) (by decide)) rfl (Nat.le_of_ble_eq_true rfl) dX6_product_35 rfl ?_
      rw [h3 (i + 1) (by omega)]
      refine V_istore (lv2 := [(7, .int _), (6, .int _), (5, .int _), (3, .long _), (0, .ref _), (1, .ref _), (2, .int _)]) dX6_product_38 (Nat.le_of_ble_eq_true rfl) rfl ?_
      refine V_lload_n 3 dX6_product_40 rfl ?_
      refine V_iload_n 6 dX6_product_41 rfl ?_
      refine V_if_eq (tgt := 57) dX6_product_42 (by decide) (fun c42 => ?_) (fun c42 => absurd (by decide) c42)
      refine V_aload_n 5 dX6_product_57 rfl ?_
      refine V_iload 0 dX6_product_58 rfl ?_
      refine V_pc (pc2 := 60) rfl ?_
      refine V_iload 1 dX6_product_60 rfl ?_
      refine C_X6_44 (show _ = some (eO 4 [rf g (1 + 3 + 1), .int _]) from hT.choose_spec.choose_spec.1.1) rfl ⟨Nat.le_of_ble_eq_true rfl, Nat.le_of_ble_eq_true rfl⟩ (hT.up (st (i + 1)) (st i) rfl rfl (h6 _ (by omega)) (h6 _ (by omega)) (Ne.symm (h7 i (by omega)))) rfl (Nat.le_of_ble_eq_true rfl) dX6_product_62 rfl ?_
      refine V_i2l dX6_product_65 ?_
      refine V_lmul dX6_product_66 ?_
      refine V_lstore_n (lv2 := [(3, .long _), (7, .int _), (6, .int _), (5, .int _), (0, .ref _), (1, .ref _), (2, .int _)]) dX6_product_67 (Nat.le_of_ble_eq_true rfl) rfl ?_
      refine V_iinc (v := _ + 1) (lv2 := [(5, .int _), (3, .long _), (7, .int _), (6, .int _), (0, .ref _), (1, .ref _), (2, .int _)]) 3 dX6_product_68 rfl rfl (Nat.le_of_ble_eq_true rfl) rfl ?_
      refine V_goto (tgt := 5) dX6_product_71 (by decide) ?_
      refine V_lv (lv2 := [(5, .int _), (3, .long _), (0, .ref _), (1, .ref _), (2, .int _)]) [0, 1, 4, 5, 6] rfl ?_
      rw [nI_1]
      exact ih (i + 1) (by omega)
  refine Run.of rfl (by decide) (Nat.le_of_ble_eq_true rfl) ?_
  show V g m_X6_product 0 _ [] _ _ _ _ _
  refine V_lconst (v := 1) dX6_product_0 rfl ?_
  refine V_lstore_n (lv2 := [(3, .long _), (0, .ref _), (1, .ref _), (2, .int _)]) dX6_product_1 (Nat.le_of_ble_eq_true rfl) rfl ?_
  refine V_iconst (v := 0) dX6_product_2 rfl ?_
  refine V_istore (lv2 := [(5, .int _), (3, .long _), (0, .ref _), (1, .ref _), (2, .int _)]) dX6_product_3 (Nat.le_of_ble_eq_true rfl) rfl ?_
  refine V_lv (lv2 := [(5, .int _), (3, .long _), (0, .ref _), (1, .ref _), (2, .int _)]) [0, 1, 2, 3, 4] rfl ?_
  exact L (s - 1) 0 (by omega)
