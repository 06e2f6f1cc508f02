/-! ways: the reference looks at numbers -/
def dg (c s k : Nat) : Nat := c / 10 ^ (s - 1 - k) % 10
def mkD (c s : Nat) : Nat → Nat
  | 0 => 0
  | k + 1 => mkD c s k ||| 2 ^ dg c s k
def isP9 (c s k : Nat) : Bool := decide (dg c s k < 5) && !(mkD c s k).testBit (dg c s k)
def isW (c s : Nat) : Bool := allN (isP9 c s) s
theorem dg_lt (c s k : Nat) : dg c s k < 10 := Nat.mod_lt _ (by decide)
theorem isP9_lt {c s k : Nat} (h : isP9 c s k = true) : dg c s k < 5 := by
  unfold isP9 at h
  rw [Bool.and_eq_true] at h
  exact of_decide_eq_true h.1
theorem mkD_lt {c s : Nat} : ∀ k, allN (isP9 c s) k = true → mkD c s k < 32
  | 0, _ => (by show (0 : Nat) < 32; decide)
  | k + 1, h => by
    rw [allN_s, Bool.and_eq_true] at h
    have h1 := mkD_lt k h.1
    have h2 := isP9_lt h.2
    exact Nat.or_lt_two_pow (n := 5) h1 (Nat.pow_lt_pow_right (by decide) h2)
theorem isW_lt {c s : Nat} (h : isW c s = true) : ∀ k, k < s → dg c s k < 5 := fun k hk => isP9_lt (allN_lt h k hk)
theorem bitq : ∀ m p, m < 32 → p < 5 → ((nI m >>> (nI p &&& 31)) &&& 1 = 1 ↔ m.testBit p = true) := by
  have h : ((List.range 32).all fun m => (List.range 5).all fun p => decide ((nI m >>> (nI p &&& 31)) &&& 1 = 1) == m.testBit p) = true := by decide +kernel
  intro m p hm hp
  have e := eq_of_beq (all_lt (all_lt h m hm) p hp)
  rw [← e, decide_eq_true_eq]
theorem bit1 : ∀ p, p < 5 → (1 : Int32) <<< (nI p &&& 31) = nI (2 ^ p) := by
  have h : ((List.range 5).all fun p => decide ((1 : Int32) <<< (nI p &&& 31) = nI (2 ^ p))) = true := by decide +kernel
  intro p hp
  exact of_decide_eq_true (all_lt h p hp)
def ledS (σ : Nat → Int32) (c s a b : Nat) : Bool := (isW c s && (dg c s 0 == a && dg c s (s - 1) == b)) && stdW σ (dg c s) (s - 1)
def wC (a b i : Nat) : Nat := numN (oSt a b i) (wSz i)
def wlo (s : Nat) : Nat := if s ≤ 2 then 0 else if s = 3 then 1 else if s = 4 then 4 else if s = 5 then 10 else 16
theorem seg : ∀ s i, 2 ≤ s → s ≤ 5 → i < 16 → (wSz i = s ↔ wlo s ≤ i ∧ i < wlo (s + 1)) := by
  have h : ((List.range 6).all fun s => (List.range 16).all fun i => decide (2 ≤ s → (wSz i = s ↔ wlo s ≤ i ∧ i < wlo (s + 1)))) = true := by decide +kernel
  intro s i h2 h5 hi
  exact of_decide_eq_true (all_lt (all_lt h s (by omega)) i hi) h2
theorem seg_le : ∀ s i, s ≤ 6 → i < 16 → wlo s ≤ i → s ≤ wSz i ∨ s ≤ 2 := by
  have h : ((List.range 7).all fun s => (List.range 16).all fun i => decide (wlo s ≤ i → s ≤ wSz i ∨ s ≤ 2)) = true := by decide +kernel
  intro s i h5 hi
  exact of_decide_eq_true (all_lt (all_lt h s (by omega)) i hi)
theorem wlo_16 : ∀ s, wlo s ≤ 16 := by intro s; unfold wlo; (repeat' split) <;> omega
theorem wC_ok : ∀ a b i, a < 5 → b < 5 → a ≠ b → i < 16 → wC a b i < 100000 ∧ isW (wC a b i) (wSz i) = true ∧ dg (wC a b i) (wSz i) 0 = a ∧ dg (wC a b i) (wSz i) (wSz i - 1) = b ∧ a * 10 ^ (wSz i - 1) ≤ wC a b i ∧ wC a b i < (a + 1) * 10 ^ (wSz i - 1) := by
  have h : ((List.range 5).all fun a => (List.range 5).all fun b => (List.range 16).all fun i => decide (a ≠ b → wC a b i < 100000 ∧ isW (wC a b i) (wSz i) = true ∧ dg (wC a b i) (wSz i) 0 = a ∧ dg (wC a b i) (wSz i) (wSz i - 1) = b ∧ a * 10 ^ (wSz i - 1) ≤ wC a b i ∧ wC a b i < (a + 1) * 10 ^ (wSz i - 1))) = true := by decide +kernel
  intro a b i ha hb hab hi
  exact of_decide_eq_true (all_lt (all_lt (all_lt h a ha) b hb) i hi) hab
theorem wC_dg : ∀ a b i k, a < 5 → b < 5 → a ≠ b → i < 16 → k < wSz i → dg (wC a b i) (wSz i) k = oSt a b i k := by
  have h : ((List.range 5).all fun a => (List.range 5).all fun b => (List.range 16).all fun i => (List.range 5).all fun k => decide (a ≠ b → k < wSz i → dg (wC a b i) (wSz i) k = oSt a b i k)) = true := by decide +kernel
  intro a b i k ha hb hab hi hk
  exact of_decide_eq_true (all_lt (all_lt (all_lt (all_lt h a ha) b hb) i hi) k (Nat.lt_of_lt_of_le hk (szM_in _).2)) hab hk
theorem wC_lt : ∀ a b i j, a < 5 → b < 5 → a ≠ b → i < 16 → j < 16 → wSz i = wSz j → i < j → wC a b i < wC a b j := by
  have h : ((List.range 5).all fun a => (List.range 5).all fun b => (List.range 16).all fun i => (List.range 16).all fun j => decide (a ≠ b → wSz i = wSz j → i < j → wC a b i < wC a b j)) = true := by decide +kernel
  intro a b i j ha hb hab hi hj
  exact of_decide_eq_true (all_lt (all_lt (all_lt (all_lt h a ha) b hb) i hi) j hj) hab
def anyW (a b c s : Nat) : Bool := (List.range 16).any fun i => wSz i == s && wC a b i == c
theorem isW_2 : ((List.range 5).all fun p => (List.range 5).all fun q => !isW (p * 10 + q) 2 || anyW p q (p * 10 + q) 2) = true := by decide +kernel
theorem isW_3 : ((List.range 5).all fun p => (List.range 5).all fun q => (List.range 5).all fun r => !isW (p * 100 + q * 10 + r) 3 || anyW p r (p * 100 + q * 10 + r) 3) = true := by decide +kernel
theorem isW_4 : ((List.range 5).all fun p => (List.range 5).all fun q => (List.range 5).all fun r => (List.range 5).all fun t => !isW (p * 1000 + q * 100 + r * 10 + t) 4 || anyW p t (p * 1000 + q * 100 + r * 10 + t) 4) = true := by decide +kernel
theorem isW_5 : ((List.range 5).all fun p => (List.range 5).all fun q => (List.range 5).all fun r => (List.range 5).all fun t => (List.range 5).all fun u => !isW (p * 10000 + q * 1000 + r * 100 + t * 10 + u) 5 || anyW p u (p * 10000 + q * 1000 + r * 100 + t * 10 + u) 5) = true := by decide +kernel
theorem any_ex {a b c s : Nat} (h : anyW a b c s = true) : ∃ i, i < 16 ∧ wSz i = s ∧ wC a b i = c := by
  unfold anyW at h
  obtain ⟨i, hi, e⟩ := List.any_eq_true.mp h
  rw [Bool.and_eq_true, beq_iff_eq, beq_iff_eq] at e
  exact ⟨i, List.mem_range.mp hi, e.1, e.2⟩
theorem or_imp {p q : Bool} (h : (!p || q) = true) (hp : p = true) : q = true := by rw [hp] at h; exact h
/-- a number that tells a way is the number of one of the sixteen -/
theorem isW_any {c s : Nat} (h2 : 2 ≤ s) (h5 : s ≤ 5) (hc : c < 10 ^ s) (h : isW c s = true) : ∃ i, i < 16 ∧ wSz i = s ∧ wC (dg c s 0) (dg c s (s - 1)) i = c := by
  have hd := isW_lt h
  rcases s with _ | _ | _ | _ | _ | _ | s
  · omega
  · omega
  · have e : dg c 2 0 * 10 + dg c 2 1 = c := by show c / 10 ^ 1 % 10 * 10 + c / 10 ^ 0 % 10 = c; omega
    have q := all_lt (all_lt isW_2 _ (hd 0 (by omega))) _ (hd 1 (by omega))
    rw [e] at q
    exact any_ex (or_imp q h)
  · have e : dg c 3 0 * 100 + dg c 3 1 * 10 + dg c 3 2 = c := by show c / 10 ^ 2 % 10 * 100 + c / 10 ^ 1 % 10 * 10 + c / 10 ^ 0 % 10 = c; omega
    have q := all_lt (all_lt (all_lt isW_3 _ (hd 0 (by omega))) _ (hd 1 (by omega))) _ (hd 2 (by omega))
    rw [e] at q
    exact any_ex (or_imp q h)
  · have e : dg c 4 0 * 1000 + dg c 4 1 * 100 + dg c 4 2 * 10 + dg c 4 3 = c := by show c / 10 ^ 3 % 10 * 1000 + c / 10 ^ 2 % 10 * 100 + c / 10 ^ 1 % 10 * 10 + c / 10 ^ 0 % 10 = c; omega
    have q := all_lt (all_lt (all_lt (all_lt isW_4 _ (hd 0 (by omega))) _ (hd 1 (by omega))) _ (hd 2 (by omega))) _ (hd 3 (by omega))
    rw [e] at q
    exact any_ex (or_imp q h)
  · have e : dg c 5 0 * 10000 + dg c 5 1 * 1000 + dg c 5 2 * 100 + dg c 5 3 * 10 + dg c 5 4 = c := by show c / 10 ^ 4 % 10 * 10000 + c / 10 ^ 3 % 10 * 1000 + c / 10 ^ 2 % 10 * 100 + c / 10 ^ 1 % 10 * 10 + c / 10 ^ 0 % 10 = c; omega
    have q := all_lt (all_lt (all_lt (all_lt (all_lt isW_5 _ (hd 0 (by omega))) _ (hd 1 (by omega))) _ (hd 2 (by omega))) _ (hd 3 (by omega))) _ (hd 4 (by omega))
    rw [e] at q
    exact any_ex (or_imp q h)
  · omega
theorem stdW_cong {σ : Nat → Int32} {st st2 : Nat → Nat} : ∀ {n : Nat}, (∀ k, k ≤ n → st k = st2 k) → stdW σ st n = stdW σ st2 n
  | 0, _ => rfl
  | n + 1, h => by
    have i := stdW_cong (σ := σ) (n := n) (fun k hk => h k (by omega))
    show (stdW σ st n && stdP σ st n) = (stdW σ st2 n && stdP σ st2 n)
    rw [i]
    unfold stdP
    rw [h n (by omega), h (n + 1) (by omega)]
theorem rofS_cong {σ : Nat → Int32} {st st2 : Nat → Nat} {x : Int64} : ∀ {n : Nat}, (∀ k, k ≤ n → st k = st2 k) → rofS σ st x n = rofS σ st2 x n
  | 0, _ => rfl
  | n + 1, h => by
    have i := rofS_cong (σ := σ) (x := x) (n := n) (fun k hk => h k (by omega))
    show (_, _) = (_, _)
    rw [i, h n (by omega), h (n + 1) (by omega)]
theorem prW_cong {σ : Nat → Int32} {st st2 : Nat → Nat} {u : Bool} : ∀ {n : Nat}, (∀ k, k ≤ n → st k = st2 k) → prW σ st u n = prW σ st2 u n
  | 0, _ => rfl
  | n + 1, h => by
    have i := prW_cong (σ := σ) (u := u) (n := n) (fun k hk => h k (by omega))
    show prW σ st u n * _ = prW σ st2 u n * _
    rw [i, h n (by omega), h (n + 1) (by omega)]
theorem led_yes {σ : Nat → Int32} {a b i : Nat} (ha : a < 5) (hb : b < 5) (hab : a ≠ b) (hi : i < 16) : ledS σ (wC a b i) (wSz i) a b = stdW σ (oSt a b i) (wSz i - 1) := by
  obtain ⟨_, h1, h2, h3, _⟩ := wC_ok a b i ha hb hab hi
  have hs := (szM_in (midN i)).1
  have hs2 : 2 ≤ wSz i := hs
  unfold ledS
  rw [h1, h2, h3, stdW_cong (fun k hk => wC_dg a b i k ha hb hab hi (by omega))]
  simp
theorem led_no {σ : Nat → Int32} {c s a b : Nat} (h2 : 2 ≤ s) (h5 : s ≤ 5) (hc : c < 10 ^ s) (h : ledS σ c s a b = true) : ∃ i, i < 16 ∧ wSz i = s ∧ wC a b i = c := by
  unfold ledS at h
  rw [Bool.and_eq_true, Bool.and_eq_true, Bool.and_eq_true, beq_iff_eq, beq_iff_eq] at h
  obtain ⟨⟨h1, rfl, rfl⟩, _⟩ := h
  exact isW_any h2 h5 hc h1
set_option maxRecDepth 20000 in
theorem r9_isWay {g : GE} {M : Mem} {sz : Nat} {x y : Int32} (c s : Nat) (hx : x = nI c) (hy : y = nI s) (hc : c < 2 ^ 31) (hs : s ≤ 5) : Run g m_X9_isWay [.int x, .int y] M sz 0 0 (Ret (some (.int (bI (isW c s)))) M) := by
  subst hx hy
  have L : ∀ m k : Nat, k + m = s → allN (isP9 c s) k = true → V g m_X9_isWay 4 [(3, .int (nI k)), (2, .int (nI (mkD c s k))), (0, .int (nI c)), (1, .int (nI s))] [] M sz 0 0 (Ret (some (.int (bI (isW c s)))) M) := by
    intro m
    induction m with
    | zero =>
      intro k hk hall
      obtain rfl : k = s := by omega
      refine V_iload_n 0 dX9_isWay_4 rfl ?_
      refine V_iload_n 3 dX9_isWay_5 rfl ?_
      refine V_icmp_ge (tgt := 50) dX9_isWay_6 (by decide) (fun c6 => ?_) (fun c6 => absurd (nI_le (Nat.le_refl _) (by omega)) c6)
      refine V_iconst (v := 1) dX9_isWay_50 rfl ?_
      refine V_zret (st := []) dX9_isWay_51 rfl (by simp) ?_
      rw [show isW c k = true from hall]; exact ⟨rfl, rfl⟩
    | succ m ih =>
      intro k hk hall
      refine V_iload_n 0 dX9_isWay_4 rfl ?_
      refine V_iload_n 3 dX9_isWay_5 rfl ?_
      refine V_icmp_ge (tgt := 50) dX9_isWay_6 (by decide) (fun c6 => absurd c6 (nI_ge (by omega) (by omega))) (fun c6 => ?_)
      refine V_iload_n 2 dX9_isWay_9 rfl ?_
      refine V_iload_n 3 dX9_isWay_10 rfl ?_
      refine V_iload_n 0 dX9_isWay_11 rfl ?_
      refine C_X9_51 rfl ⟨Nat.le_of_ble_eq_true rfl, Nat.le_of_ble_eq_true rfl⟩ (r9_at c s (k) rfl rfl rfl hc (by omega) hs) rfl (Nat.le_of_ble_eq_true rfl) dX9_isWay_12 rfl ?_
      refine V_pc (pc2 := 15) rfl ?_
      refine V_istore (lv2 := [(4, .int _), (3, .int _), (2, .int _), (0, .int _), (1, .int _)]) dX9_isWay_15 (Nat.le_of_ble_eq_true rfl) rfl ?_
      refine V_iload 0 dX9_isWay_17 rfl ?_
      refine C_X9_55 rfl ⟨Nat.le_of_ble_eq_true rfl, Nat.le_of_ble_eq_true rfl⟩ (r9_isParish _) rfl (Nat.le_of_ble_eq_true rfl) dX9_isWay_19 rfl ?_
      refine V_if_eq (tgt := 35) dX9_isWay_22 (by decide) (fun c22 => ?_) (fun c22 => ?_)
      · refine V_iconst (v := 0) dX9_isWay_35 rfl ?_
        refine V_zret (st := []) dX9_isWay_36 rfl (by simp) ?_
        rw [show isW c s = false from allN_le (n := k + 1) (by rw [allN_s, show isP9 c s k = false by unfold isP9; rw [decide_eq_false (fun h => by rw [show isP (nI (c / 10 ^ (s - 1 - k) % 10)) = true from isP_nI h] at c22; exact absurd c22 (by decide))]; rfl, Bool.and_false]) (by omega)]
        exact ⟨rfl, rfl⟩
      · refine V_iload_n 2 dX9_isWay_25 rfl ?_
        refine V_iload 0 dX9_isWay_26 rfl ?_
        refine V_ishr dX9_isWay_28 ?_
        refine V_iconst (v := 1) dX9_isWay_29 rfl ?_
        refine V_iand dX9_isWay_30 ?_
        refine V_iconst (v := 1) dX9_isWay_31 rfl ?_
        refine V_icmp_ne (tgt := 37) dX9_isWay_32 (by decide) (fun c32 => ?_) (fun c32 => ?_)
        · refine V_iload_n 2 dX9_isWay_37 rfl ?_
          refine V_iconst (v := 1) dX9_isWay_38 rfl ?_
          refine V_iload 0 dX9_isWay_39 rfl ?_
          refine V_ishl dX9_isWay_41 ?_
          refine V_ior dX9_isWay_42 ?_
          refine V_istore_n (lv2 := [(2, .int _), (4, .int _), (3, .int _), (0, .int _), (1, .int _)]) dX9_isWay_43 (Nat.le_of_ble_eq_true rfl) rfl ?_
          refine V_iinc (v := _ + 1) (lv2 := [(3, .int _), (2, .int _), (4, .int _), (0, .int _), (1, .int _)]) 2 dX9_isWay_44 rfl rfl (Nat.le_of_ble_eq_true rfl) rfl ?_
          refine V_pc (pc2 := 47) rfl ?_
          refine V_goto (tgt := 4) dX9_isWay_47 (by decide) ?_
          refine V_lv (lv2 := [(3, .int _), (2, .int _), (0, .int _), (1, .int _)]) [0, 1, 3, 4] rfl ?_
          have hd5 : dg c s k < 5 := by
            obtain ⟨q, hq, e⟩ := isP_ex (bI_1 c22)
            have := (nI_eq (by have := dg_lt c s k; unfold dg at this; omega) (by omega)).mp e
            show c / 10 ^ (s - 1 - k) % 10 < 5
            omega
          have hp9 : isP9 c s k = true := by
            unfold isP9
            rw [decide_eq_true hd5, show (mkD c s k).testBit (dg c s k) = false from (Bool.not_eq_true _).mp (fun e => c32 ((bitq _ _ (mkD_lt k hall) hd5).mpr e))]
            rfl
          rw [nI_1, show (1 : Int32) <<< (nI (c / 10 ^ (s - 1 - k) % 10) &&& 31) = nI (2 ^ dg c s k) from bit1 _ hd5, nI_orN]
          exact ih (k + 1) (by omega) (by rw [allN_s, hall, hp9]; rfl)
        · refine V_iconst (v := 0) dX9_isWay_35 rfl ?_
          refine V_zret (st := []) dX9_isWay_36 rfl (by simp) ?_
          have hd5 : dg c s k < 5 := by
            obtain ⟨q, hq, e⟩ := isP_ex (bI_1 c22)
            have := (nI_eq (by have := dg_lt c s k; unfold dg at this; omega) (by omega)).mp e
            show c / 10 ^ (s - 1 - k) % 10 < 5
            omega
          rw [show isW c s = false from allN_le (n := k + 1) (by rw [allN_s, show isP9 c s k = false by unfold isP9; rw [(bitq _ _ (mkD_lt k hall) hd5).mp c32]; simp, Bool.and_false]) (by omega)]
          exact ⟨rfl, rfl⟩
  refine Run.of rfl (by decide) (Nat.le_of_ble_eq_true rfl) ?_
  show V g m_X9_isWay 0 _ [] _ _ _ _ _
  refine V_iconst (v := 0) dX9_isWay_0 rfl ?_
  refine V_istore_n (lv2 := [(2, .int _), (0, .int _), (1, .int _)]) dX9_isWay_1 (Nat.le_of_ble_eq_true rfl) rfl ?_
  refine V_iconst (v := 0) dX9_isWay_2 rfl ?_
  refine V_istore_n (lv2 := [(3, .int _), (2, .int _), (0, .int _), (1, .int _)]) dX9_isWay_3 (Nat.le_of_ble_eq_true rfl) rfl ?_
  refine V_lv (lv2 := [(3, .int _), (2, .int _), (0, .int _), (1, .int _)]) [0, 1, 2, 3] rfl ?_
  exact L s 0 (by omega) rfl

set_option maxRecDepth 20000 in
theorem r9_power_2 {g : GE} {M : Mem} {sz : Nat}  : Run g m_X9_power [.int 2] M sz 0 0 (Ret (some (.int 10)) M) := by
  refine Run.of rfl (by decide) (Nat.le_of_ble_eq_true rfl) ?_
  show V g m_X9_power 0 _ [] _ _ _ _ _
  refine V_iload_n 0 dX9_power_0 rfl ?_
  refine V_iconst (v := 2) dX9_power_1 rfl ?_
  refine V_icmp_ne (tgt := 10) dX9_power_2 (by decide) (fun c2 => absurd (by decide) c2) (fun c2 => ?_)
  refine V_bipush (v := 10) dX9_power_5 (by decide) ?_
  refine V_goto (tgt := 34) dX9_power_7 (by decide) ?_
  refine V_iret (st := []) dX9_power_34 rfl ?_
  exact ⟨rfl, rfl⟩

set_option maxRecDepth 20000 in
theorem r9_power_3 {g : GE} {M : Mem} {sz : Nat}  : Run g m_X9_power [.int 3] M sz 0 0 (Ret (some (.int 100)) M) := by
  refine Run.of rfl (by decide) (Nat.le_of_ble_eq_true rfl) ?_
  show V g m_X9_power 0 _ [] _ _ _ _ _
  refine V_iload_n 0 dX9_power_0 rfl ?_
  refine V_iconst (v := 2) dX9_power_1 rfl ?_
  refine V_icmp_ne (tgt := 10) dX9_power_2 (by decide) (fun c2 => ?_) (fun c2 => absurd c2 (by decide))
  refine V_iload_n 0 dX9_power_10 rfl ?_
  refine V_iconst (v := 3) dX9_power_11 rfl ?_
  refine V_icmp_ne (tgt := 20) dX9_power_12 (by decide) (fun c12 => absurd (by decide) c12) (fun c12 => ?_)
  refine V_bipush (v := 100) dX9_power_15 (by decide) ?_
  refine V_pc (pc2 := 17) rfl ?_
  refine V_goto (tgt := 34) dX9_power_17 (by decide) ?_
  refine V_iret (st := []) dX9_power_34 rfl ?_
  exact ⟨rfl, rfl⟩

set_option maxRecDepth 20000 in
theorem r9_power_4 {g : GE} {M : Mem} {sz : Nat}  : Run g m_X9_power [.int 4] M sz 0 0 (Ret (some (.int 1000)) M) := by
  refine Run.of rfl (by decide) (Nat.le_of_ble_eq_true rfl) ?_
  show V g m_X9_power 0 _ [] _ _ _ _ _
  refine V_iload_n 0 dX9_power_0 rfl ?_
  refine V_iconst (v := 2) dX9_power_1 rfl ?_
  refine V_icmp_ne (tgt := 10) dX9_power_2 (by decide) (fun c2 => ?_) (fun c2 => absurd c2 (by decide))
  refine V_iload_n 0 dX9_power_10 rfl ?_
  refine V_iconst (v := 3) dX9_power_11 rfl ?_
  refine V_icmp_ne (tgt := 20) dX9_power_12 (by decide) (fun c12 => ?_) (fun c12 => absurd c12 (by decide))
  refine V_iload_n 0 dX9_power_20 rfl ?_
  refine V_pc (pc2 := 21) rfl ?_
  refine V_iconst (v := 4) dX9_power_21 rfl ?_
  refine V_icmp_ne (tgt := 31) dX9_power_22 (by decide) (fun c22 => absurd (by decide) c22) (fun c22 => ?_)
  refine V_sipush (v := 1000) dX9_power_25 (by decide) ?_
  refine V_goto (tgt := 34) dX9_power_28 (by decide) ?_
  refine V_iret (st := []) dX9_power_34 rfl ?_
  exact ⟨rfl, rfl⟩

set_option maxRecDepth 20000 in
theorem r9_power_5 {g : GE} {M : Mem} {sz : Nat}  : Run g m_X9_power [.int 5] M sz 0 0 (Ret (some (.int 10000)) M) := by
  refine Run.of rfl (by decide) (Nat.le_of_ble_eq_true rfl) ?_
  show V g m_X9_power 0 _ [] _ _ _ _ _
  refine V_iload_n 0 dX9_power_0 rfl ?_
  refine V_iconst (v := 2) dX9_power_1 rfl ?_
  refine V_icmp_ne (tgt := 10) dX9_power_2 (by decide) (fun c2 => ?_) (fun c2 => absurd c2 (by decide))
  refine V_iload_n 0 dX9_power_10 rfl ?_
  refine V_iconst (v := 3) dX9_power_11 rfl ?_
  refine V_icmp_ne (tgt := 20) dX9_power_12 (by decide) (fun c12 => ?_) (fun c12 => absurd c12 (by decide))
  refine V_iload_n 0 dX9_power_20 rfl ?_
  refine V_pc (pc2 := 21) rfl ?_
  refine V_iconst (v := 4) dX9_power_21 rfl ?_
  refine V_icmp_ne (tgt := 31) dX9_power_22 (by decide) (fun c22 => ?_) (fun c22 => absurd c22 (by decide))
  refine V_sipush (v := 10000) dX9_power_31 (by decide) ?_
  refine V_iret (st := []) dX9_power_34 rfl ?_
  exact ⟨rfl, rfl⟩

theorem r9_power {g : GE} {M : Mem} {sz : Nat} {x : Int32} (s : Nat) (hx : x = nI s) (h2 : 2 ≤ s) (h5 : s ≤ 5) : Run g m_X9_power [.int x] M sz 0 0 (Ret (some (.int (nI (10 ^ (s - 1))))) M) := by
  subst hx
  rcases s with _ | _ | _ | _ | _ | _ | s
  · omega
  · omega
  · exact r9_power_2
  · exact r9_power_3
  · exact r9_power_4
  · exact r9_power_5
  · omega
set_option maxRecDepth 20000 in
theorem r9_leads {g : GE} {M : Mem} {sz : Nat} {σ v : Nat → Int32} (hM : MD g M σ v) {x y z w : Int32} (c s a b : Nat) (hx : x = nI c) (hy : y = nI s) (hz : z = nI a) (hw : w = nI b) (hc : c < 2 ^ 31) (h2 : 2 ≤ s) (hs : s ≤ 5) (ha : a < 5) (hb : b < 5) : Run g m_X9_leads [rf g 96, .int x, .int y, .int z, .int w] M sz 0 0 (Ret (some (.int (bI (ledS σ c s a b)))) M) := by
  subst hx hy hz hw
  have L : (∀ k, k < s → dg c s k < 5) → ∀ m k : Nat, k + m = s → 1 ≤ k → V g m_X9_leads 41 [(6, .int (nI k)), (5, .int (bI (stdW σ (dg c s) (k - 1)))), (0, rf g 96), (1, .int (nI c)), (2, .int (nI s)), (3, .int (nI a)), (4, .int (nI b))] [] M sz 0 0 (Ret (some (.int (bI (stdW σ (dg c s) (s - 1))))) M) := by
    intro hd m
    induction m with
    | zero =>
      intro k hk h1
      obtain rfl : k = s := by omega
      refine V_iload 0 dX9_leads_41 rfl ?_
      refine V_iload_n 4 dX9_leads_43 rfl ?_
      refine V_icmp_ge (tgt := 80) dX9_leads_44 (by decide) (fun c44 => ?_) (fun c44 => absurd (nI_le (Nat.le_refl _) (by omega)) c44)
      refine V_iload 1 dX9_leads_80 rfl ?_
      refine V_zret (st := []) dX9_leads_82 rfl (bI_01 _) ?_
      exact ⟨rfl, rfl⟩
    | succ m ih =>
      intro k hk h1
      refine V_iload 0 dX9_leads_41 rfl ?_
      refine V_iload_n 4 dX9_leads_43 rfl ?_
      refine V_icmp_ge (tgt := 80) dX9_leads_44 (by decide) (fun c44 => absurd c44 (nI_ge (by omega) (by omega))) (fun c44 => ?_)
      refine V_iload 1 dX9_leads_47 rfl ?_
      refine V_if_eq (tgt := 80) dX9_leads_49 (by decide) (fun c49 => ?_) (fun c49 => ?_)
      · refine V_iload 1 dX9_leads_80 rfl ?_
        refine V_zret (st := []) dX9_leads_82 rfl (bI_01 _) ?_
        rw [show stdW σ (dg c s) (s - 1) = false from allN_le (n := k - 1) (bI_0 c49) (by omega), bI_0 c49]
        exact ⟨rfl, rfl⟩
      · refine V_aload_n 2 dX9_leads_52 rfl ?_
        refine V_iload_n 3 dX9_leads_53 rfl ?_
        refine V_iload_n 4 dX9_leads_54 rfl ?_
        refine V_iload 0 dX9_leads_55 rfl ?_
        refine V_iconst (v := 1) dX9_leads_57 rfl ?_
        refine V_isub dX9_leads_58 ?_
        rw [show (1 : Int32) = nI 1 from rfl, pk_sub (by omega)]
        refine C_X9_51 rfl ⟨Nat.le_of_ble_eq_true rfl, Nat.le_of_ble_eq_true rfl⟩ (r9_at c s (k - 1) rfl rfl rfl hc (by omega) hs) rfl (Nat.le_of_ble_eq_true rfl) dX9_leads_59 rfl ?_
        refine V_pc (pc2 := 62) rfl ?_
        refine V_iload_n 3 dX9_leads_62 rfl ?_
        refine V_iload_n 4 dX9_leads_63 rfl ?_
        refine V_iload 0 dX9_leads_64 rfl ?_
        refine C_X9_51 rfl ⟨Nat.le_of_ble_eq_true rfl, Nat.le_of_ble_eq_true rfl⟩ (r9_at c s (k) rfl rfl rfl hc (by omega) hs) rfl (Nat.le_of_ble_eq_true rfl) dX9_leads_66 rfl ?_
        refine C_X9_66 hM.1 rfl ⟨Nat.le_of_ble_eq_true rfl, Nat.le_of_ble_eq_true rfl⟩ (r9_has hM (dg c s (k - 1)) (dg c s k) rfl rfl (hd _ (by omega)) (hd _ (by omega))) rfl (Nat.le_of_ble_eq_true rfl) dX9_leads_69 rfl ?_
        refine V_istore (lv2 := [(5, .int _), (6, .int _), (0, .ref _), (1, .int _), (2, .int _), (3, .int _), (4, .int _)]) dX9_leads_72 (Nat.le_of_ble_eq_true rfl) rfl ?_
        refine V_iinc (v := _ + 1) (lv2 := [(6, .int _), (5, .int _), (0, .ref _), (1, .int _), (2, .int _), (3, .int _), (4, .int _)]) 1 dX9_leads_74 rfl rfl (Nat.le_of_ble_eq_true rfl) rfl ?_
        refine V_goto (tgt := 41) dX9_leads_77 (by decide) ?_
        refine V_lv (lv2 := [(6, .int _), (5, .int _), (0, .ref _), (1, .int _), (2, .int _), (3, .int _), (4, .int _)]) [0, 1, 2, 3, 4, 5, 6] rfl ?_
        rw [nI_1]
        have i9 := ih (k + 1) (by omega) (by omega)
        rw [show k + 1 - 1 = (k - 1) + 1 by omega, show stdW σ (dg c s) (k - 1 + 1) = stdP σ (dg c s) (k - 1) by show (stdW σ (dg c s) (k - 1) && _) = _; rw [bI_1 c49, Bool.true_and]] at i9
        unfold stdP at i9
        rw [show k - 1 + 1 = k by omega] at i9
        exact i9
  refine Run.of rfl (by decide) (Nat.le_of_ble_eq_true rfl) ?_
  show V g m_X9_leads 0 _ [] _ _ _ _ _
  refine V_iload_n 1 dX9_leads_0 rfl ?_
  refine V_iload_n 2 dX9_leads_1 rfl ?_
  refine C_X9_59 rfl ⟨Nat.le_of_ble_eq_true rfl, Nat.le_of_ble_eq_true rfl⟩ (r9_isWay c s rfl rfl hc hs) rfl (Nat.le_of_ble_eq_true rfl) dX9_leads_2 rfl ?_
  refine V_if_eq (tgt := 35) dX9_leads_5 (by decide) (fun c5 => ?_) (fun c5 => ?_)
  · refine V_iconst (v := 0) dX9_leads_35 rfl ?_
    refine V_istore (lv2 := [(5, .int _), (0, .ref _), (1, .int _), (2, .int _), (3, .int _), (4, .int _)]) dX9_leads_36 (Nat.le_of_ble_eq_true rfl) rfl ?_
    refine V_iconst (v := 1) dX9_leads_38 rfl ?_
    refine V_istore (lv2 := [(6, .int _), (5, .int _), (0, .ref _), (1, .int _), (2, .int _), (3, .int _), (4, .int _)]) dX9_leads_39 (Nat.le_of_ble_eq_true rfl) rfl ?_
    refine V_lv (lv2 := [(6, .int _), (5, .int _), (0, .ref _), (1, .int _), (2, .int _), (3, .int _), (4, .int _)]) [0, 1, 2, 3, 4, 5, 6] rfl ?_
    have hB : (isW c s && (dg c s 0 == a && dg c s (s - 1) == b)) = false := by rw [bI_0 c5]; rfl
    have hL : ledS σ c s a b = false := by unfold ledS; rw [hB]; rfl
    rw [hL]
    refine V_iload 0 dX9_leads_41 rfl ?_
    refine V_iload_n 4 dX9_leads_43 rfl ?_
    refine V_icmp_ge (tgt := 80) dX9_leads_44 (by decide) (fun c44 => absurd c44 (nI_ge (a := 1) (by omega) (by omega))) (fun c44 => ?_)
    refine V_iload 1 dX9_leads_47 rfl ?_
    refine V_if_eq (tgt := 80) dX9_leads_49 (by decide) (fun c49 => ?_) (fun c49 => absurd rfl c49)
    refine V_iload 1 dX9_leads_80 rfl ?_
    refine V_zret (st := []) dX9_leads_82 rfl (by simp) ?_
    exact ⟨rfl, rfl⟩
  · refine V_iload_n 1 dX9_leads_8 rfl ?_
    refine V_iload_n 2 dX9_leads_9 rfl ?_
    refine V_iconst (v := 0) dX9_leads_10 rfl ?_
    refine C_X9_51 rfl ⟨Nat.le_of_ble_eq_true rfl, Nat.le_of_ble_eq_true rfl⟩ (r9_at c s (0) rfl rfl rfl hc (by omega) hs) rfl (Nat.le_of_ble_eq_true rfl) dX9_leads_11 rfl ?_
    refine V_iload_n 3 dX9_leads_14 rfl ?_
    refine V_icmp_ne (tgt := 35) dX9_leads_15 (by decide) (fun c15 => ?_) (fun c15 => ?_)
    · refine V_iconst (v := 0) dX9_leads_35 rfl ?_
      refine V_istore (lv2 := [(5, .int _), (0, .ref _), (1, .int _), (2, .int _), (3, .int _), (4, .int _)]) dX9_leads_36 (Nat.le_of_ble_eq_true rfl) rfl ?_
      refine V_iconst (v := 1) dX9_leads_38 rfl ?_
      refine V_istore (lv2 := [(6, .int _), (5, .int _), (0, .ref _), (1, .int _), (2, .int _), (3, .int _), (4, .int _)]) dX9_leads_39 (Nat.le_of_ble_eq_true rfl) rfl ?_
      refine V_lv (lv2 := [(6, .int _), (5, .int _), (0, .ref _), (1, .int _), (2, .int _), (3, .int _), (4, .int _)]) [0, 1, 2, 3, 4, 5, 6] rfl ?_
      have hB : (isW c s && (dg c s 0 == a && dg c s (s - 1) == b)) = false := by rw [show (dg c s 0 == a) = false from beq_false_of_ne (fun e => c15 (by show nI (dg c s 0) = nI a; rw [e])), Bool.false_and, Bool.and_false]
      have hL : ledS σ c s a b = false := by unfold ledS; rw [hB]; rfl
      rw [hL]
      refine V_iload 0 dX9_leads_41 rfl ?_
      refine V_iload_n 4 dX9_leads_43 rfl ?_
      refine V_icmp_ge (tgt := 80) dX9_leads_44 (by decide) (fun c44 => absurd c44 (nI_ge (a := 1) (by omega) (by omega))) (fun c44 => ?_)
      refine V_iload 1 dX9_leads_47 rfl ?_
      refine V_if_eq (tgt := 80) dX9_leads_49 (by decide) (fun c49 => ?_) (fun c49 => absurd rfl c49)
      refine V_iload 1 dX9_leads_80 rfl ?_
      refine V_zret (st := []) dX9_leads_82 rfl (by simp) ?_
      exact ⟨rfl, rfl⟩
    · refine V_iload_n 1 dX9_leads_18 rfl ?_
      refine V_iload_n 2 dX9_leads_19 rfl ?_
      refine V_iload_n 2 dX9_leads_20 rfl ?_
      refine V_iconst (v := 1) dX9_leads_21 rfl ?_
      refine V_isub dX9_leads_22 ?_
      rw [show (1 : Int32) = nI 1 from rfl, pk_sub (by omega)]
      refine C_X9_51 rfl ⟨Nat.le_of_ble_eq_true rfl, Nat.le_of_ble_eq_true rfl⟩ (r9_at c s (s - 1) rfl rfl rfl hc (by omega) hs) rfl (Nat.le_of_ble_eq_true rfl) dX9_leads_23 rfl ?_
      refine V_iload 4 dX9_leads_26 rfl ?_
      refine V_pc (pc2 := 28) rfl ?_
      refine V_icmp_ne (tgt := 35) dX9_leads_28 (by decide) (fun c28 => ?_) (fun c28 => ?_)
      · refine V_iconst (v := 0) dX9_leads_35 rfl ?_
        refine V_istore (lv2 := [(5, .int _), (0, .ref _), (1, .int _), (2, .int _), (3, .int _), (4, .int _)]) dX9_leads_36 (Nat.le_of_ble_eq_true rfl) rfl ?_
        refine V_iconst (v := 1) dX9_leads_38 rfl ?_
        refine V_istore (lv2 := [(6, .int _), (5, .int _), (0, .ref _), (1, .int _), (2, .int _), (3, .int _), (4, .int _)]) dX9_leads_39 (Nat.le_of_ble_eq_true rfl) rfl ?_
        refine V_lv (lv2 := [(6, .int _), (5, .int _), (0, .ref _), (1, .int _), (2, .int _), (3, .int _), (4, .int _)]) [0, 1, 2, 3, 4, 5, 6] rfl ?_
        have hB : (isW c s && (dg c s 0 == a && dg c s (s - 1) == b)) = false := by rw [show (dg c s (s - 1) == b) = false from beq_false_of_ne (fun e => c28 (by show nI (dg c s (s - 1)) = nI b; rw [e])), Bool.and_false, Bool.and_false]
        have hL : ledS σ c s a b = false := by unfold ledS; rw [hB]; rfl
        rw [hL]
        refine V_iload 0 dX9_leads_41 rfl ?_
        refine V_iload_n 4 dX9_leads_43 rfl ?_
        refine V_icmp_ge (tgt := 80) dX9_leads_44 (by decide) (fun c44 => absurd c44 (nI_ge (a := 1) (by omega) (by omega))) (fun c44 => ?_)
        refine V_iload 1 dX9_leads_47 rfl ?_
        refine V_if_eq (tgt := 80) dX9_leads_49 (by decide) (fun c49 => ?_) (fun c49 => absurd rfl c49)
        refine V_iload 1 dX9_leads_80 rfl ?_
        refine V_zret (st := []) dX9_leads_82 rfl (by simp) ?_
        exact ⟨rfl, rfl⟩
      · refine V_iconst (v := 1) dX9_leads_31 rfl ?_
        refine V_goto (tgt := 36) dX9_leads_32 (by decide) ?_
        refine V_istore (lv2 := [(5, .int _), (0, .ref _), (1, .int _), (2, .int _), (3, .int _), (4, .int _)]) dX9_leads_36 (Nat.le_of_ble_eq_true rfl) rfl ?_
        refine V_iconst (v := 1) dX9_leads_38 rfl ?_
        refine V_istore (lv2 := [(6, .int _), (5, .int _), (0, .ref _), (1, .int _), (2, .int _), (3, .int _), (4, .int _)]) dX9_leads_39 (Nat.le_of_ble_eq_true rfl) rfl ?_
        refine V_lv (lv2 := [(6, .int _), (5, .int _), (0, .ref _), (1, .int _), (2, .int _), (3, .int _), (4, .int _)]) [0, 1, 2, 3, 4, 5, 6] rfl ?_
        have e1 : dg c s 0 = a := (nI_eq (by have := dg_lt c s 0; omega) (by omega)).mp c15
        have e2 : dg c s (s - 1) = b := (nI_eq (by have := dg_lt c s (s - 1); omega) (by omega)).mp c28
        have hB : (isW c s && (dg c s 0 == a && dg c s (s - 1) == b)) = true := by rw [bI_1 c5, e1, e2]; simp
        have hL : ledS σ c s a b = stdW σ (dg c s) (s - 1) := by unfold ledS; rw [hB, Bool.true_and]
        rw [hL]
        exact L (isW_lt (bI_1 c5)) (s - 1) 1 (by omega) (Nat.le_refl _)

set_option maxRecDepth 20000 in
theorem r9_rounding {g : GE} {M : Mem} {sz : Nat} {σ v : Nat → Int32} (hM : MD g M σ v) (hI : I10 σ) {x y z : Int32} (c s : Nat) (hy : y = nI c) (hz : z = nI s) (hc : c < 2 ^ 31) (h2 : 2 ≤ s) (hs : s ≤ 5) (hd : ∀ k, k < s → dg c s k < 5) (hS : stdW σ (dg c s) (s - 1) = true) : Run g m_X9_rounding [rf g 96, .int y, .int z, .int x] M sz 0 0 (Ret (some (.long (rofS σ (dg c s) x.toInt64 (s - 1)).2)) M) := by
  subst hy hz
  have L : ∀ m k : Nat, k + m = s → 1 ≤ k → V g m_X9_rounding 10 [(8, .int (nI k)), (6, .long (rofS σ (dg c s) x.toInt64 (k - 1)).2), (4, .long (rofS σ (dg c s) x.toInt64 (k - 1)).1), (0, rf g 96), (1, .int (nI c)), (2, .int (nI s)), (3, .int x)] [] M sz 0 0 (Ret (some (.long (rofS σ (dg c s) x.toInt64 (s - 1)).2)) M) := by
    intro m
    induction m with
    | zero =>
      intro k hk h1
      obtain rfl : k = s := by omega
      refine V_iload 0 dX9_rounding_10 rfl ?_
      refine V_iload_n 5 dX9_rounding_12 rfl ?_
      refine V_icmp_ge (tgt := 90) dX9_rounding_13 (by decide) (fun c13 => ?_) (fun c13 => absurd (nI_le (Nat.le_refl _) (by omega)) c13)
      refine V_lload 1 dX9_rounding_90 rfl ?_
      refine V_lret (st := []) dX9_rounding_92 rfl ?_
      exact ⟨rfl, rfl⟩
    | succ m ih =>
      intro k hk h1
      have hh : hasS σ (dg c s (k - 1)) (dg c s k) = true := by
        have e := allN_lt hS (k - 1) (by omega)
        unfold stdP at e
        rw [show k - 1 + 1 = k by omega] at e
        exact e
      refine V_iload 0 dX9_rounding_10 rfl ?_
      refine V_iload_n 5 dX9_rounding_12 rfl ?_
      refine V_icmp_ge (tgt := 90) dX9_rounding_13 (by decide) (fun c13 => absurd c13 (nI_ge (by omega) (by omega))) (fun c13 => ?_)
      refine V_aload_n 3 dX9_rounding_16 rfl ?_
      refine V_iload_n 4 dX9_rounding_17 rfl ?_
      refine V_iload_n 5 dX9_rounding_18 rfl ?_
      refine V_iload 0 dX9_rounding_19 rfl ?_
      refine V_pc (pc2 := 21) rfl ?_
      refine V_iconst (v := 1) dX9_rounding_21 rfl ?_
      refine V_isub dX9_rounding_22 ?_
      rw [show (1 : Int32) = nI 1 from rfl, pk_sub (by omega)]
      refine C_X9_51 rfl ⟨Nat.le_of_ble_eq_true rfl, Nat.le_of_ble_eq_true rfl⟩ (r9_at c s (k - 1) rfl rfl rfl hc (by omega) hs) rfl (Nat.le_of_ble_eq_true rfl) dX9_rounding_23 rfl ?_
      refine V_iload_n 4 dX9_rounding_26 rfl ?_
      refine V_iload_n 5 dX9_rounding_27 rfl ?_
      refine V_iload 0 dX9_rounding_28 rfl ?_
      refine C_X9_51 rfl ⟨Nat.le_of_ble_eq_true rfl, Nat.le_of_ble_eq_true rfl⟩ (r9_at c s (k) rfl rfl rfl hc (by omega) hs) rfl (Nat.le_of_ble_eq_true rfl) dX9_rounding_30 rfl ?_
      refine V_lload 2 dX9_rounding_33 rfl ?_
      refine V_pc (pc2 := 35) rfl ?_
      refine C_X9_147 hM.1 rfl ⟨Nat.le_of_ble_eq_true rfl, Nat.le_of_ble_eq_true rfl⟩ (r9_gains hM (dg c s (k - 1)) (dg c s k) rfl rfl (hd _ (by omega)) (hd _ (by omega)) hI hh _) rfl (Nat.le_of_ble_eq_true rfl) dX9_rounding_35 rfl ?_
      refine V_lstore (lv2 := [(9, .long _), (8, .int _), (6, .long _), (4, .long _), (0, .ref _), (1, .int _), (2, .int _), (3, .int _)]) dX9_rounding_38 (Nat.le_of_ble_eq_true rfl) rfl ?_
      refine V_lload 2 dX9_rounding_40 rfl ?_
      refine V_lload 0 dX9_rounding_42 rfl ?_
      refine V_lconst (v := 0) dX9_rounding_44 rfl ?_
      refine V_lcmp dX9_rounding_45 ?_
      refine V_if_ge (tgt := 55) dX9_rounding_46 (by decide) (fun c46 => ?_) (fun c46 => ?_)
      · refine V_lload 0 dX9_rounding_55 rfl ?_
        refine V_ladd dX9_rounding_57 ?_
        refine V_lstore (lv2 := [(6, .long _), (9, .long _), (8, .int _), (4, .long _), (0, .ref _), (1, .int _), (2, .int _), (3, .int _)]) dX9_rounding_58 (Nat.le_of_ble_eq_true rfl) rfl ?_
        refine V_aload_n 4 dX9_rounding_60 rfl ?_
        refine V_iload_n 5 dX9_rounding_61 rfl ?_
        refine V_iload_n 6 dX9_rounding_62 rfl ?_
        refine V_iload 2 dX9_rounding_63 rfl ?_
        refine V_pc (pc2 := 65) rfl ?_
        refine V_iconst (v := 1) dX9_rounding_65 rfl ?_
        refine V_isub dX9_rounding_66 ?_
        rw [show (1 : Int32) = nI 1 from rfl, pk_sub (by omega)]
        refine C_X9_51 rfl ⟨Nat.le_of_ble_eq_true rfl, Nat.le_of_ble_eq_true rfl⟩ (r9_at c s (k - 1) rfl rfl rfl hc (by omega) hs) rfl (Nat.le_of_ble_eq_true rfl) dX9_rounding_67 rfl ?_
        refine V_iload_n 5 dX9_rounding_70 rfl ?_
        refine V_iload_n 6 dX9_rounding_71 rfl ?_
        refine V_iload 2 dX9_rounding_72 rfl ?_
        refine C_X9_51 rfl ⟨Nat.le_of_ble_eq_true rfl, Nat.le_of_ble_eq_true rfl⟩ (r9_at c s (k) rfl rfl rfl hc (by omega) hs) rfl (Nat.le_of_ble_eq_true rfl) dX9_rounding_74 rfl ?_
        refine V_lload 3 dX9_rounding_77 rfl ?_
        refine V_pc (pc2 := 79) rfl ?_
        refine C_X9_133 hM.1 rfl ⟨Nat.le_of_ble_eq_true rfl, Nat.le_of_ble_eq_true rfl⟩ (r9_turns hM (dg c s (k - 1)) (dg c s k) rfl rfl (hd _ (by omega)) (hd _ (by omega)) hI hh _) rfl (Nat.le_of_ble_eq_true rfl) dX9_rounding_79 rfl ?_
        refine V_lstore (lv2 := [(4, .long _), (6, .long _), (9, .long _), (8, .int _), (0, .ref _), (1, .int _), (2, .int _), (3, .int _)]) dX9_rounding_82 (Nat.le_of_ble_eq_true rfl) rfl ?_
        refine V_iinc (v := _ + 1) (lv2 := [(8, .int _), (4, .long _), (6, .long _), (9, .long _), (0, .ref _), (1, .int _), (2, .int _), (3, .int _)]) 3 dX9_rounding_84 rfl rfl (Nat.le_of_ble_eq_true rfl) rfl ?_
        refine V_goto (tgt := 10) dX9_rounding_87 (by decide) ?_
        refine V_lv (lv2 := [(8, .int _), (6, .long _), (4, .long _), (0, .ref _), (1, .int _), (2, .int _), (3, .int _)]) [0, 2, 1, 4, 5, 6, 7] rfl ?_
        have i9 := ih (k + 1) (by omega) (by omega)
        rw [show k + 1 - 1 = (k - 1) + 1 by omega] at i9
        rw [nI_1]
        have e9 : rofS σ (dg c s) x.toInt64 (k - 1 + 1) = (turnS σ (dg c s (k - 1)) (dg c s k) (rofS σ (dg c s) x.toInt64 (k - 1)).1, (rofS σ (dg c s) x.toInt64 (k - 1)).2 + labs (gainT σ (dg c s (k - 1)) (dg c s k) (rofS σ (dg c s) x.toInt64 (k - 1)).1)) := by
          show (_, _) = (_, _)
          rw [show k - 1 + 1 = k by omega]
        rw [e9] at i9
        rw [labs_pos (lgc_ge.mp c46)] at i9
        exact i9
      · refine V_lload 0 dX9_rounding_49 rfl ?_
        refine V_lneg dX9_rounding_51 ?_
        refine V_goto (tgt := 57) dX9_rounding_52 (by decide) ?_
        refine V_ladd dX9_rounding_57 ?_
        refine V_lstore (lv2 := [(6, .long _), (9, .long _), (8, .int _), (4, .long _), (0, .ref _), (1, .int _), (2, .int _), (3, .int _)]) dX9_rounding_58 (Nat.le_of_ble_eq_true rfl) rfl ?_
        refine V_aload_n 4 dX9_rounding_60 rfl ?_
        refine V_iload_n 5 dX9_rounding_61 rfl ?_
        refine V_pc (pc2 := 62) rfl ?_
        refine V_iload_n 6 dX9_rounding_62 rfl ?_
        refine V_iload 2 dX9_rounding_63 rfl ?_
        refine V_iconst (v := 1) dX9_rounding_65 rfl ?_
        refine V_isub dX9_rounding_66 ?_
        rw [show (1 : Int32) = nI 1 from rfl, pk_sub (by omega)]
        refine C_X9_51 rfl ⟨Nat.le_of_ble_eq_true rfl, Nat.le_of_ble_eq_true rfl⟩ (r9_at c s (k - 1) rfl rfl rfl hc (by omega) hs) rfl (Nat.le_of_ble_eq_true rfl) dX9_rounding_67 rfl ?_
        refine V_iload_n 5 dX9_rounding_70 rfl ?_
        refine V_iload_n 6 dX9_rounding_71 rfl ?_
        refine V_iload 2 dX9_rounding_72 rfl ?_
        refine V_pc (pc2 := 74) rfl ?_
        refine C_X9_51 rfl ⟨Nat.le_of_ble_eq_true rfl, Nat.le_of_ble_eq_true rfl⟩ (r9_at c s (k) rfl rfl rfl hc (by omega) hs) rfl (Nat.le_of_ble_eq_true rfl) dX9_rounding_74 rfl ?_
        refine V_lload 3 dX9_rounding_77 rfl ?_
        refine C_X9_133 hM.1 rfl ⟨Nat.le_of_ble_eq_true rfl, Nat.le_of_ble_eq_true rfl⟩ (r9_turns hM (dg c s (k - 1)) (dg c s k) rfl rfl (hd _ (by omega)) (hd _ (by omega)) hI hh _) rfl (Nat.le_of_ble_eq_true rfl) dX9_rounding_79 rfl ?_
        refine V_lstore (lv2 := [(4, .long _), (6, .long _), (9, .long _), (8, .int _), (0, .ref _), (1, .int _), (2, .int _), (3, .int _)]) dX9_rounding_82 (Nat.le_of_ble_eq_true rfl) rfl ?_
        refine V_iinc (v := _ + 1) (lv2 := [(8, .int _), (4, .long _), (6, .long _), (9, .long _), (0, .ref _), (1, .int _), (2, .int _), (3, .int _)]) 3 dX9_rounding_84 rfl rfl (Nat.le_of_ble_eq_true rfl) rfl ?_
        refine V_goto (tgt := 10) dX9_rounding_87 (by decide) ?_
        refine V_lv (lv2 := [(8, .int _), (6, .long _), (4, .long _), (0, .ref _), (1, .int _), (2, .int _), (3, .int _)]) [0, 2, 1, 4, 5, 6, 7] rfl ?_
        have i9 := ih (k + 1) (by omega) (by omega)
        rw [show k + 1 - 1 = (k - 1) + 1 by omega] at i9
        rw [nI_1]
        have e9 : rofS σ (dg c s) x.toInt64 (k - 1 + 1) = (turnS σ (dg c s (k - 1)) (dg c s k) (rofS σ (dg c s) x.toInt64 (k - 1)).1, (rofS σ (dg c s) x.toInt64 (k - 1)).2 + labs (gainT σ (dg c s (k - 1)) (dg c s k) (rofS σ (dg c s) x.toInt64 (k - 1)).1)) := by
          show (_, _) = (_, _)
          rw [show k - 1 + 1 = k by omega]
        rw [e9] at i9
        rw [labs_neg (fun h => c46 (lgc_ge.mpr h))] at i9
        exact i9
  refine Run.of rfl (by decide) (Nat.le_of_ble_eq_true rfl) ?_
  show V g m_X9_rounding 0 _ [] _ _ _ _ _
  refine V_iload_n 3 dX9_rounding_0 rfl ?_
  refine V_i2l dX9_rounding_1 ?_
  refine V_lstore (lv2 := [(4, .long _), (0, .ref _), (1, .int _), (2, .int _), (3, .int _)]) dX9_rounding_2 (Nat.le_of_ble_eq_true rfl) rfl ?_
  refine V_lconst (v := 0) dX9_rounding_4 rfl ?_
  refine V_lstore (lv2 := [(6, .long _), (4, .long _), (0, .ref _), (1, .int _), (2, .int _), (3, .int _)]) dX9_rounding_5 (Nat.le_of_ble_eq_true rfl) rfl ?_
  refine V_iconst (v := 1) dX9_rounding_7 rfl ?_
  refine V_istore (lv2 := [(8, .int _), (6, .long _), (4, .long _), (0, .ref _), (1, .int _), (2, .int _), (3, .int _)]) dX9_rounding_8 (Nat.le_of_ble_eq_true rfl) rfl ?_
  refine V_lv (lv2 := [(8, .int _), (6, .long _), (4, .long _), (0, .ref _), (1, .int _), (2, .int _), (3, .int _)]) [0, 1, 2, 3, 4, 5, 6] rfl ?_
  exact L (s - 1) 1 (by omega) (Nat.le_refl _)

