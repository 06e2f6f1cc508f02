/-! texts: how the class reads them -/
def trs : Nat → List (Nat × Nat × Nat) := fun s => match s with
  | 0 => [(48, 52, 1), (45, 45, 9), (98, 98, 13), (115, 115, 10)]
  | 1 => [(62, 62, 2)]
  | 2 => [(48, 52, 3)]
  | 3 => [(61, 61, 4)]
  | 4 => [(49, 57, 5)]
  | 5 => [(48, 57, 6), (47, 47, 7)]
  | 6 => [(47, 47, 7)]
  | 7 => [(49, 57, 8)]
  | 8 => [(48, 57, 19)]
  | 9 => [(48, 52, 11)]
  | 10 => [(48, 55, 11)]
  | 11 => [(62, 62, 12)]
  | 12 => [(48, 52, 19)]
  | 13 => [(48, 52, 14)]
  | 14 => [(61, 61, 15)]
  | 15 => [(49, 57, 16)]
  | 16 => [(48, 57, 17)]
  | 17 => [(48, 57, 18)]
  | 18 => [(48, 57, 19)]
  | _ => []
def pick : List (Nat × Nat × Nat) → Nat → Option Nat
  | [], _ => none
  | (l, h, t) :: r, c => if l ≤ c ∧ c ≤ h then some t else pick r c
def me (s : Nat) : Bool := s == 8 || (s == 16 || (s == 17 || (s == 18 || s == 19)))
def dn (s c : Nat) : Option Nat := if c = 59 then (if me s = true then some 0 else none) else pick (trs s) c
def dnI : Option Nat → Int32
  | none => -1
  | some s => nI s
theorem pick_t {l h t c : Nat} {r : List (Nat × Nat × Nat)} (e : l ≤ c ∧ c ≤ h) : pick ((l, h, t) :: r) c = some t := if_pos e
theorem pick_f {l h t c : Nat} {r : List (Nat × Nat × Nat)} (e : ¬ (l ≤ c ∧ c ≤ h)) : pick ((l, h, t) :: r) c = pick r c := if_neg e
theorem dn_o {s c : Nat} (h : c ≠ 59) : dn s c = pick (trs s) c := if_neg h
theorem pick_lt {l : List (Nat × Nat × Nat)} (h : ∀ x, x ∈ l → x.2.2 < 20) {c s : Nat} (e : pick l c = some s) : s < 20 := by
  induction l with
  | nil => cases e
  | cons x r ih =>
    obtain ⟨a, b, t⟩ := x
    unfold pick at e
    split at e
    · cases e; exact h _ List.mem_cons_self
    · exact ih (fun y hy => h y (List.mem_cons_of_mem _ hy)) e
theorem trs_lt : ∀ s, s < 20 → ∀ x, x ∈ trs s → x.2.2 < 20 := by
  have h : ((List.range 20).all fun s => (trs s).all fun x => decide (x.2.2 < 20)) = true := by decide +kernel
  intro s hs x hx
  exact of_decide_eq_true (List.all_eq_true.mp (all_lt h s hs) x hx)
theorem dn_lt {s c q : Nat} (hs : s < 20) (e : dn s c = some q) : q < 20 := by
  unfold dn at e
  split at e
  · split at e
    · cases e; decide
    · cases e
  · exact pick_lt (trs_lt s hs) e
set_option maxRecDepth 20000 in
theorem r_isDigit {g : GE} {M : Mem} {sz : Nat} {x l h : Int32} (c a b : Nat) (hx : x = nI c) (hl : l = nI a) (hh : h = nI b) (hc : c < 2 ^ 31) (ha : a < 2 ^ 31) (hb : b < 2 ^ 31) : Run g m_X5_isDigit [.int x, .int l, .int h] M sz 0 0 (Ret (some (.int (bI (decide (a ≤ c ∧ c ≤ b))))) M) := by
  subst hx hl hh
  refine Run.of rfl (by decide) (Nat.le_of_ble_eq_true rfl) ?_
  show V g m_X5_isDigit 0 _ [] _ _ _ _ _
  refine V_iload_n 0 dX5_isDigit_0 rfl ?_
  refine V_iload_n 1 dX5_isDigit_1 rfl ?_
  refine V_icmp_lt (tgt := 14) dX5_isDigit_2 (by decide) (fun c2 => ?_) (fun c2 => ?_)
  · refine V_iconst (v := 0) dX5_isDigit_14 rfl ?_
    refine V_zret (st := []) dX5_isDigit_15 rfl (by simp) ?_
    exact ⟨by rw [decide_eq_false (fun h => by have := (nI_ltI hc ha).mp c2; omega)]; rfl, rfl⟩
  · refine V_iload_n 0 dX5_isDigit_5 rfl ?_
    refine V_iload_n 2 dX5_isDigit_6 rfl ?_
    refine V_icmp_gt (tgt := 14) dX5_isDigit_7 (by decide) (fun c7 => ?_) (fun c7 => ?_)
    · refine V_iconst (v := 0) dX5_isDigit_14 rfl ?_
      refine V_zret (st := []) dX5_isDigit_15 rfl (by simp) ?_
      exact ⟨by rw [decide_eq_false (fun h => by have := (nI_ltI hb hc).mp c7; omega)]; rfl, rfl⟩
    · refine V_iconst (v := 1) dX5_isDigit_10 rfl ?_
      refine V_goto (tgt := 15) dX5_isDigit_11 (by decide) ?_
      refine V_zret (st := []) dX5_isDigit_15 rfl (by simp) ?_
      exact ⟨by rw [decide_eq_true (show a ≤ c ∧ c ≤ b from ⟨Nat.le_of_not_lt (fun h => c2 ((nI_ltI hc ha).mpr h)), Nat.le_of_not_lt (fun h => c7 ((nI_ltI hb hc).mpr h))⟩)]; rfl, rfl⟩
set_option maxRecDepth 20000 in
theorem r_mayEnd_0 {g : GE} {M : Mem} {sz : Nat}  : Run g m_X5_mayEnd [.int 0] M sz 0 0 (Ret (some (.int (bI (me 0)))) M) := by
  refine Run.of rfl (by decide) (Nat.le_of_ble_eq_true rfl) ?_
  show V g m_X5_mayEnd 0 _ [] _ _ _ _ _
  refine V_iload_n 0 dX5_mayEnd_0 rfl ?_
  refine V_tabOut (tgt := 66) dX5_mayEnd_1 (by decide) (by decide) ?_
  refine V_iconst (v := 0) dX5_mayEnd_66 rfl ?_
  refine V_zret (st := []) dX5_mayEnd_67 rfl (by simp) ?_
  exact ⟨rfl, rfl⟩
set_option maxRecDepth 20000 in
theorem r_mayEnd_1 {g : GE} {M : Mem} {sz : Nat}  : Run g m_X5_mayEnd [.int 1] M sz 0 0 (Ret (some (.int (bI (me 1)))) M) := by
  refine Run.of rfl (by decide) (Nat.le_of_ble_eq_true rfl) ?_
  show V g m_X5_mayEnd 0 _ [] _ _ _ _ _
  refine V_iload_n 0 dX5_mayEnd_0 rfl ?_
  refine V_tabOut (tgt := 66) dX5_mayEnd_1 (by decide) (by decide) ?_
  refine V_iconst (v := 0) dX5_mayEnd_66 rfl ?_
  refine V_zret (st := []) dX5_mayEnd_67 rfl (by simp) ?_
  exact ⟨rfl, rfl⟩
set_option maxRecDepth 20000 in
theorem r_mayEnd_2 {g : GE} {M : Mem} {sz : Nat}  : Run g m_X5_mayEnd [.int 2] M sz 0 0 (Ret (some (.int (bI (me 2)))) M) := by
  refine Run.of rfl (by decide) (Nat.le_of_ble_eq_true rfl) ?_
  show V g m_X5_mayEnd 0 _ [] _ _ _ _ _
  refine V_iload_n 0 dX5_mayEnd_0 rfl ?_
  refine V_tabOut (tgt := 66) dX5_mayEnd_1 (by decide) (by decide) ?_
  refine V_iconst (v := 0) dX5_mayEnd_66 rfl ?_
  refine V_zret (st := []) dX5_mayEnd_67 rfl (by simp) ?_
  exact ⟨rfl, rfl⟩
set_option maxRecDepth 20000 in
theorem r_mayEnd_3 {g : GE} {M : Mem} {sz : Nat}  : Run g m_X5_mayEnd [.int 3] M sz 0 0 (Ret (some (.int (bI (me 3)))) M) := by
  refine Run.of rfl (by decide) (Nat.le_of_ble_eq_true rfl) ?_
  show V g m_X5_mayEnd 0 _ [] _ _ _ _ _
  refine V_iload_n 0 dX5_mayEnd_0 rfl ?_
  refine V_tabOut (tgt := 66) dX5_mayEnd_1 (by decide) (by decide) ?_
  refine V_iconst (v := 0) dX5_mayEnd_66 rfl ?_
  refine V_zret (st := []) dX5_mayEnd_67 rfl (by simp) ?_
  exact ⟨rfl, rfl⟩
set_option maxRecDepth 20000 in
theorem r_mayEnd_4 {g : GE} {M : Mem} {sz : Nat}  : Run g m_X5_mayEnd [.int 4] M sz 0 0 (Ret (some (.int (bI (me 4)))) M) := by
  refine Run.of rfl (by decide) (Nat.le_of_ble_eq_true rfl) ?_
  show V g m_X5_mayEnd 0 _ [] _ _ _ _ _
  refine V_iload_n 0 dX5_mayEnd_0 rfl ?_
  refine V_tabOut (tgt := 66) dX5_mayEnd_1 (by decide) (by decide) ?_
  refine V_iconst (v := 0) dX5_mayEnd_66 rfl ?_
  refine V_zret (st := []) dX5_mayEnd_67 rfl (by simp) ?_
  exact ⟨rfl, rfl⟩
set_option maxRecDepth 20000 in
theorem r_mayEnd_5 {g : GE} {M : Mem} {sz : Nat}  : Run g m_X5_mayEnd [.int 5] M sz 0 0 (Ret (some (.int (bI (me 5)))) M) := by
  refine Run.of rfl (by decide) (Nat.le_of_ble_eq_true rfl) ?_
  show V g m_X5_mayEnd 0 _ [] _ _ _ _ _
  refine V_iload_n 0 dX5_mayEnd_0 rfl ?_
  refine V_tabOut (tgt := 66) dX5_mayEnd_1 (by decide) (by decide) ?_
  refine V_iconst (v := 0) dX5_mayEnd_66 rfl ?_
  refine V_zret (st := []) dX5_mayEnd_67 rfl (by simp) ?_
  exact ⟨rfl, rfl⟩
set_option maxRecDepth 20000 in
theorem r_mayEnd_6 {g : GE} {M : Mem} {sz : Nat}  : Run g m_X5_mayEnd [.int 6] M sz 0 0 (Ret (some (.int (bI (me 6)))) M) := by
  refine Run.of rfl (by decide) (Nat.le_of_ble_eq_true rfl) ?_
  show V g m_X5_mayEnd 0 _ [] _ _ _ _ _
  refine V_iload_n 0 dX5_mayEnd_0 rfl ?_
  refine V_tabOut (tgt := 66) dX5_mayEnd_1 (by decide) (by decide) ?_
  refine V_iconst (v := 0) dX5_mayEnd_66 rfl ?_
  refine V_zret (st := []) dX5_mayEnd_67 rfl (by simp) ?_
  exact ⟨rfl, rfl⟩
set_option maxRecDepth 20000 in
theorem r_mayEnd_7 {g : GE} {M : Mem} {sz : Nat}  : Run g m_X5_mayEnd [.int 7] M sz 0 0 (Ret (some (.int (bI (me 7)))) M) := by
  refine Run.of rfl (by decide) (Nat.le_of_ble_eq_true rfl) ?_
  show V g m_X5_mayEnd 0 _ [] _ _ _ _ _
  refine V_iload_n 0 dX5_mayEnd_0 rfl ?_
  refine V_tabOut (tgt := 66) dX5_mayEnd_1 (by decide) (by decide) ?_
  refine V_iconst (v := 0) dX5_mayEnd_66 rfl ?_
  refine V_zret (st := []) dX5_mayEnd_67 rfl (by simp) ?_
  exact ⟨rfl, rfl⟩
set_option maxRecDepth 20000 in
theorem r_mayEnd_8 {g : GE} {M : Mem} {sz : Nat}  : Run g m_X5_mayEnd [.int 8] M sz 0 0 (Ret (some (.int (bI (me 8)))) M) := by
  refine Run.of rfl (by decide) (Nat.le_of_ble_eq_true rfl) ?_
  show V g m_X5_mayEnd 0 _ [] _ _ _ _ _
  refine V_iload_n 0 dX5_mayEnd_0 rfl ?_
  refine V_tabIn (off := 63) (tgt := 64) dX5_mayEnd_1 (by decide) (by decide) (by decide) (by decide) ?_
  refine V_iconst (v := 1) dX5_mayEnd_64 rfl ?_
  refine V_zret (st := []) dX5_mayEnd_65 rfl (by simp) ?_
  exact ⟨rfl, rfl⟩
set_option maxRecDepth 20000 in
theorem r_mayEnd_9 {g : GE} {M : Mem} {sz : Nat}  : Run g m_X5_mayEnd [.int 9] M sz 0 0 (Ret (some (.int (bI (me 9)))) M) := by
  refine Run.of rfl (by decide) (Nat.le_of_ble_eq_true rfl) ?_
  show V g m_X5_mayEnd 0 _ [] _ _ _ _ _
  refine V_iload_n 0 dX5_mayEnd_0 rfl ?_
  refine V_tabIn (off := 65) (tgt := 66) dX5_mayEnd_1 (by decide) (by decide) (by decide) (by decide) ?_
  refine V_iconst (v := 0) dX5_mayEnd_66 rfl ?_
  refine V_zret (st := []) dX5_mayEnd_67 rfl (by simp) ?_
  exact ⟨rfl, rfl⟩
set_option maxRecDepth 20000 in
theorem r_mayEnd_10 {g : GE} {M : Mem} {sz : Nat}  : Run g m_X5_mayEnd [.int 10] M sz 0 0 (Ret (some (.int (bI (me 10)))) M) := by
  refine Run.of rfl (by decide) (Nat.le_of_ble_eq_true rfl) ?_
  show V g m_X5_mayEnd 0 _ [] _ _ _ _ _
  refine V_iload_n 0 dX5_mayEnd_0 rfl ?_
  refine V_tabIn (off := 65) (tgt := 66) dX5_mayEnd_1 (by decide) (by decide) (by decide) (by decide) ?_
  refine V_iconst (v := 0) dX5_mayEnd_66 rfl ?_
  refine V_zret (st := []) dX5_mayEnd_67 rfl (by simp) ?_
  exact ⟨rfl, rfl⟩
set_option maxRecDepth 20000 in
theorem r_mayEnd_11 {g : GE} {M : Mem} {sz : Nat}  : Run g m_X5_mayEnd [.int 11] M sz 0 0 (Ret (some (.int (bI (me 11)))) M) := by
  refine Run.of rfl (by decide) (Nat.le_of_ble_eq_true rfl) ?_
  show V g m_X5_mayEnd 0 _ [] _ _ _ _ _
  refine V_iload_n 0 dX5_mayEnd_0 rfl ?_
  refine V_tabIn (off := 65) (tgt := 66) dX5_mayEnd_1 (by decide) (by decide) (by decide) (by decide) ?_
  refine V_iconst (v := 0) dX5_mayEnd_66 rfl ?_
  refine V_zret (st := []) dX5_mayEnd_67 rfl (by simp) ?_
  exact ⟨rfl, rfl⟩
set_option maxRecDepth 20000 in
theorem r_mayEnd_12 {g : GE} {M : Mem} {sz : Nat}  : Run g m_X5_mayEnd [.int 12] M sz 0 0 (Ret (some (.int (bI (me 12)))) M) := by
  refine Run.of rfl (by decide) (Nat.le_of_ble_eq_true rfl) ?_
  show V g m_X5_mayEnd 0 _ [] _ _ _ _ _
  refine V_iload_n 0 dX5_mayEnd_0 rfl ?_
  refine V_tabIn (off := 65) (tgt := 66) dX5_mayEnd_1 (by decide) (by decide) (by decide) (by decide) ?_
  refine V_iconst (v := 0) dX5_mayEnd_66 rfl ?_
  refine V_zret (st := []) dX5_mayEnd_67 rfl (by simp) ?_
  exact ⟨rfl, rfl⟩
set_option maxRecDepth 20000 in
theorem r_mayEnd_13 {g : GE} {M : Mem} {sz : Nat}  : Run g m_X5_mayEnd [.int 13] M sz 0 0 (Ret (some (.int (bI (me 13)))) M) := by
  refine Run.of rfl (by decide) (Nat.le_of_ble_eq_true rfl) ?_
  show V g m_X5_mayEnd 0 _ [] _ _ _ _ _
  refine V_iload_n 0 dX5_mayEnd_0 rfl ?_
  refine V_tabIn (off := 65) (tgt := 66) dX5_mayEnd_1 (by decide) (by decide) (by decide) (by decide) ?_
  refine V_iconst (v := 0) dX5_mayEnd_66 rfl ?_
  refine V_zret (st := []) dX5_mayEnd_67 rfl (by simp) ?_
  exact ⟨rfl, rfl⟩
set_option maxRecDepth 20000 in
theorem r_mayEnd_14 {g : GE} {M : Mem} {sz : Nat}  : Run g m_X5_mayEnd [.int 14] M sz 0 0 (Ret (some (.int (bI (me 14)))) M) := by
  refine Run.of rfl (by decide) (Nat.le_of_ble_eq_true rfl) ?_
  show V g m_X5_mayEnd 0 _ [] _ _ _ _ _
  refine V_iload_n 0 dX5_mayEnd_0 rfl ?_
  refine V_tabIn (off := 65) (tgt := 66) dX5_mayEnd_1 (by decide) (by decide) (by decide) (by decide) ?_
  refine V_iconst (v := 0) dX5_mayEnd_66 rfl ?_
  refine V_zret (st := []) dX5_mayEnd_67 rfl (by simp) ?_
  exact ⟨rfl, rfl⟩
set_option maxRecDepth 20000 in
theorem r_mayEnd_15 {g : GE} {M : Mem} {sz : Nat}  : Run g m_X5_mayEnd [.int 15] M sz 0 0 (Ret (some (.int (bI (me 15)))) M) := by
  refine Run.of rfl (by decide) (Nat.le_of_ble_eq_true rfl) ?_
  show V g m_X5_mayEnd 0 _ [] _ _ _ _ _
  refine V_iload_n 0 dX5_mayEnd_0 rfl ?_
  refine V_tabIn (off := 65) (tgt := 66) dX5_mayEnd_1 (by decide) (by decide) (by decide) (by decide) ?_
  refine V_iconst (v := 0) dX5_mayEnd_66 rfl ?_
  refine V_zret (st := []) dX5_mayEnd_67 rfl (by simp) ?_
  exact ⟨rfl, rfl⟩
set_option maxRecDepth 20000 in
theorem r_mayEnd_16 {g : GE} {M : Mem} {sz : Nat}  : Run g m_X5_mayEnd [.int 16] M sz 0 0 (Ret (some (.int (bI (me 16)))) M) := by
  refine Run.of rfl (by decide) (Nat.le_of_ble_eq_true rfl) ?_
  show V g m_X5_mayEnd 0 _ [] _ _ _ _ _
  refine V_iload_n 0 dX5_mayEnd_0 rfl ?_
  refine V_tabIn (off := 63) (tgt := 64) dX5_mayEnd_1 (by decide) (by decide) (by decide) (by decide) ?_
  refine V_iconst (v := 1) dX5_mayEnd_64 rfl ?_
  refine V_zret (st := []) dX5_mayEnd_65 rfl (by simp) ?_
  exact ⟨rfl, rfl⟩
set_option maxRecDepth 20000 in
theorem r_mayEnd_17 {g : GE} {M : Mem} {sz : Nat}  : Run g m_X5_mayEnd [.int 17] M sz 0 0 (Ret (some (.int (bI (me 17)))) M) := by
  refine Run.of rfl (by decide) (Nat.le_of_ble_eq_true rfl) ?_
  show V g m_X5_mayEnd 0 _ [] _ _ _ _ _
  refine V_iload_n 0 dX5_mayEnd_0 rfl ?_
  refine V_tabIn (off := 63) (tgt := 64) dX5_mayEnd_1 (by decide) (by decide) (by decide) (by decide) ?_
  refine V_iconst (v := 1) dX5_mayEnd_64 rfl ?_
  refine V_zret (st := []) dX5_mayEnd_65 rfl (by simp) ?_
  exact ⟨rfl, rfl⟩
set_option maxRecDepth 20000 in
theorem r_mayEnd_18 {g : GE} {M : Mem} {sz : Nat}  : Run g m_X5_mayEnd [.int 18] M sz 0 0 (Ret (some (.int (bI (me 18)))) M) := by
  refine Run.of rfl (by decide) (Nat.le_of_ble_eq_true rfl) ?_
  show V g m_X5_mayEnd 0 _ [] _ _ _ _ _
  refine V_iload_n 0 dX5_mayEnd_0 rfl ?_
  refine V_tabIn (off := 63) (tgt := 64) dX5_mayEnd_1 (by decide) (by decide) (by decide) (by decide) ?_
  refine V_iconst (v := 1) dX5_mayEnd_64 rfl ?_
  refine V_zret (st := []) dX5_mayEnd_65 rfl (by simp) ?_
  exact ⟨rfl, rfl⟩
set_option maxRecDepth 20000 in
theorem r_mayEnd_19 {g : GE} {M : Mem} {sz : Nat}  : Run g m_X5_mayEnd [.int 19] M sz 0 0 (Ret (some (.int (bI (me 19)))) M) := by
  refine Run.of rfl (by decide) (Nat.le_of_ble_eq_true rfl) ?_
  show V g m_X5_mayEnd 0 _ [] _ _ _ _ _
  refine V_iload_n 0 dX5_mayEnd_0 rfl ?_
  refine V_tabIn (off := 63) (tgt := 64) dX5_mayEnd_1 (by decide) (by decide) (by decide) (by decide) ?_
  refine V_iconst (v := 1) dX5_mayEnd_64 rfl ?_
  refine V_zret (st := []) dX5_mayEnd_65 rfl (by simp) ?_
  exact ⟨rfl, rfl⟩
theorem r_mayEnd {g : GE} {M : Mem} {sz : Nat} {x : Int32} (s : Nat) (hx : x = nI s) (hs : s < 20) : Run g m_X5_mayEnd [.int x] M sz 0 0 (Ret (some (.int (bI (me s)))) M) := by
  subst hx
  match s, hs with
  | 0, _ => exact r_mayEnd_0
  | 1, _ => exact r_mayEnd_1
  | 2, _ => exact r_mayEnd_2
  | 3, _ => exact r_mayEnd_3
  | 4, _ => exact r_mayEnd_4
  | 5, _ => exact r_mayEnd_5
  | 6, _ => exact r_mayEnd_6
  | 7, _ => exact r_mayEnd_7
  | 8, _ => exact r_mayEnd_8
  | 9, _ => exact r_mayEnd_9
  | 10, _ => exact r_mayEnd_10
  | 11, _ => exact r_mayEnd_11
  | 12, _ => exact r_mayEnd_12
  | 13, _ => exact r_mayEnd_13
  | 14, _ => exact r_mayEnd_14
  | 15, _ => exact r_mayEnd_15
  | 16, _ => exact r_mayEnd_16
  | 17, _ => exact r_mayEnd_17
  | 18, _ => exact r_mayEnd_18
  | 19, _ => exact r_mayEnd_19
  | s + 20, h => exact absurd h (by omega)
set_option maxRecDepth 20000 in
theorem r_nop_d {g : GE} {M : Mem} {sz : Nat} {x : Int32} (c : Nat) (hx : x = nI c) (hc : c ≤ 126) (hd : 48 ≤ c ∧ c ≤ 52) : Run g m_X5_nextOfPart [.int x] M sz 0 0 (Ret (some (.int (dnI (pick (trs 0) c)))) M) := by
  subst hx
  refine Run.of rfl (by decide) (Nat.le_of_ble_eq_true rfl) ?_
  show V g m_X5_nextOfPart 0 _ [] _ _ _ _ _
  refine V_iload_n 0 dX5_nextOfPart_0 rfl ?_
  refine V_bipush (v := 48) dX5_nextOfPart_1 (by decide) ?_
  refine V_bipush (v := 52) dX5_nextOfPart_3 (by decide) ?_
  refine C_X5_46 rfl ⟨Nat.le_of_ble_eq_true rfl, Nat.le_of_ble_eq_true rfl⟩ (r_isDigit c 48 52 rfl rfl rfl (by omega) (by decide) (by decide)) rfl (Nat.le_of_ble_eq_true rfl) dX5_nextOfPart_5 rfl ?_
  refine V_if_eq (tgt := 13) dX5_nextOfPart_8 (by decide) (fun c8 => absurd c8 (by rw [decide_eq_true hd]; decide)) (fun c8 => ?_)
  refine V_iconst (v := 1) dX5_nextOfPart_11 rfl ?_
  refine V_iret (st := []) dX5_nextOfPart_12 rfl ?_
  exact ⟨by rw [show pick (trs 0) c = some 1 from pick_t hd]; rfl, rfl⟩
set_option maxRecDepth 20000 in
theorem r_nop_45 {g : GE} {M : Mem} {sz : Nat}  : Run g m_X5_nextOfPart [.int 45] M sz 0 0 (Ret (some (.int (dnI (pick (trs 0) 45)))) M) := by
  refine Run.of rfl (by decide) (Nat.le_of_ble_eq_true rfl) ?_
  show V g m_X5_nextOfPart 0 _ [] _ _ _ _ _
  refine V_iload_n 0 dX5_nextOfPart_0 rfl ?_
  refine V_bipush (v := 48) dX5_nextOfPart_1 (by decide) ?_
  refine V_bipush (v := 52) dX5_nextOfPart_3 (by decide) ?_
  refine C_X5_46 rfl ⟨Nat.le_of_ble_eq_true rfl, Nat.le_of_ble_eq_true rfl⟩ (r_isDigit 45 48 52 rfl rfl rfl (by omega) (by decide) (by decide)) rfl (Nat.le_of_ble_eq_true rfl) dX5_nextOfPart_5 rfl ?_
  refine V_if_eq (tgt := 13) dX5_nextOfPart_8 (by decide) (fun c8 => ?_) (fun c8 => absurd (by decide) c8)
  refine V_iload_n 0 dX5_nextOfPart_13 rfl ?_
  refine V_look (off := 34) (tgt := 48) dX5_nextOfPart_14 (by decide) (by decide) (by decide) ?_
  refine V_pc (pc2 := 48) rfl ?_
  refine V_bipush (v := 9) dX5_nextOfPart_48 (by decide) ?_
  refine V_iret (st := []) dX5_nextOfPart_50 rfl ?_
  exact ⟨rfl, rfl⟩
set_option maxRecDepth 20000 in
theorem r_nop_98 {g : GE} {M : Mem} {sz : Nat}  : Run g m_X5_nextOfPart [.int 98] M sz 0 0 (Ret (some (.int (dnI (pick (trs 0) 98)))) M) := by
  refine Run.of rfl (by decide) (Nat.le_of_ble_eq_true rfl) ?_
  show V g m_X5_nextOfPart 0 _ [] _ _ _ _ _
  refine V_iload_n 0 dX5_nextOfPart_0 rfl ?_
  refine V_bipush (v := 48) dX5_nextOfPart_1 (by decide) ?_
  refine V_bipush (v := 52) dX5_nextOfPart_3 (by decide) ?_
  refine C_X5_46 rfl ⟨Nat.le_of_ble_eq_true rfl, Nat.le_of_ble_eq_true rfl⟩ (r_isDigit 98 48 52 rfl rfl rfl (by omega) (by decide) (by decide)) rfl (Nat.le_of_ble_eq_true rfl) dX5_nextOfPart_5 rfl ?_
  refine V_if_eq (tgt := 13) dX5_nextOfPart_8 (by decide) (fun c8 => ?_) (fun c8 => absurd (by decide) c8)
  refine V_iload_n 0 dX5_nextOfPart_13 rfl ?_
  refine V_look (off := 37) (tgt := 51) dX5_nextOfPart_14 (by decide) (by decide) (by decide) ?_
  refine V_pc (pc2 := 51) rfl ?_
  refine V_bipush (v := 13) dX5_nextOfPart_51 (by decide) ?_
  refine V_iret (st := []) dX5_nextOfPart_53 rfl ?_
  exact ⟨rfl, rfl⟩
set_option maxRecDepth 20000 in
theorem r_nop_115 {g : GE} {M : Mem} {sz : Nat}  : Run g m_X5_nextOfPart [.int 115] M sz 0 0 (Ret (some (.int (dnI (pick (trs 0) 115)))) M) := by
  refine Run.of rfl (by decide) (Nat.le_of_ble_eq_true rfl) ?_
  show V g m_X5_nextOfPart 0 _ [] _ _ _ _ _
  refine V_iload_n 0 dX5_nextOfPart_0 rfl ?_
  refine V_bipush (v := 48) dX5_nextOfPart_1 (by decide) ?_
  refine V_bipush (v := 52) dX5_nextOfPart_3 (by decide) ?_
  refine C_X5_46 rfl ⟨Nat.le_of_ble_eq_true rfl, Nat.le_of_ble_eq_true rfl⟩ (r_isDigit 115 48 52 rfl rfl rfl (by omega) (by decide) (by decide)) rfl (Nat.le_of_ble_eq_true rfl) dX5_nextOfPart_5 rfl ?_
  refine V_if_eq (tgt := 13) dX5_nextOfPart_8 (by decide) (fun c8 => ?_) (fun c8 => absurd (by decide) c8)
  refine V_iload_n 0 dX5_nextOfPart_13 rfl ?_
  refine V_look (off := 40) (tgt := 54) dX5_nextOfPart_14 (by decide) (by decide) (by decide) ?_
  refine V_pc (pc2 := 54) rfl ?_
  refine V_bipush (v := 10) dX5_nextOfPart_54 (by decide) ?_
  refine V_iret (st := []) dX5_nextOfPart_56 rfl ?_
  exact ⟨rfl, rfl⟩
set_option maxRecDepth 20000 in
theorem r_nop_e {g : GE} {M : Mem} {sz : Nat} {x : Int32} (c : Nat) (hx : x = nI c) (hc : c ≤ 126) (hd : ¬ (48 ≤ c ∧ c ≤ 52)) (h1 : c ≠ 45) (h2 : c ≠ 98) (h3 : c ≠ 115) : Run g m_X5_nextOfPart [.int x] M sz 0 0 (Ret (some (.int (dnI (pick (trs 0) c)))) M) := by
  subst hx
  refine Run.of rfl (by decide) (Nat.le_of_ble_eq_true rfl) ?_
  show V g m_X5_nextOfPart 0 _ [] _ _ _ _ _
  refine V_iload_n 0 dX5_nextOfPart_0 rfl ?_
  refine V_bipush (v := 48) dX5_nextOfPart_1 (by decide) ?_
  refine V_bipush (v := 52) dX5_nextOfPart_3 (by decide) ?_
  refine C_X5_46 rfl ⟨Nat.le_of_ble_eq_true rfl, Nat.le_of_ble_eq_true rfl⟩ (r_isDigit c 48 52 rfl rfl rfl (by omega) (by decide) (by decide)) rfl (Nat.le_of_ble_eq_true rfl) dX5_nextOfPart_5 rfl ?_
  refine V_if_eq (tgt := 13) dX5_nextOfPart_8 (by decide) (fun c8 => ?_) (fun c8 => absurd (by rw [decide_eq_false hd]; rfl) c8)
  refine V_iload_n 0 dX5_nextOfPart_13 rfl ?_
  refine V_look (off := 43) (tgt := 57) dX5_nextOfPart_14 (by decide) (by rw [nI_toInt (by omega)]; show Op.lookupswitch.offset [(45, _), (98, _), (115, _)] _ _ = _; rw [Op.lookupswitch.offset_cons, if_neg (by omega), Op.lookupswitch.offset_cons, if_neg (by omega), Op.lookupswitch.offset_cons, if_neg (by omega)]; rfl) (by decide) ?_
  refine V_pc (pc2 := 57) rfl ?_
  refine V_iconst (v := -1) dX5_nextOfPart_57 rfl ?_
  refine V_iret (st := []) dX5_nextOfPart_58 rfl ?_
  exact ⟨by rw [show pick (trs 0) c = none by show pick [_, _, _, _] c = none; rw [pick_f hd, pick_f (by omega), pick_f (by omega), pick_f (by omega)]; rfl]; rfl, rfl⟩
theorem r_nop {g : GE} {M : Mem} {sz : Nat} {x : Int32} (c : Nat) (hx : x = nI c) (hc : c ≤ 126) : Run g m_X5_nextOfPart [.int x] M sz 0 0 (Ret (some (.int (dnI (pick (trs 0) c)))) M) := by
  by_cases hd : 48 ≤ c ∧ c ≤ 52
  · exact r_nop_d c hx hc hd
  · by_cases h1 : c = 45
    · subst h1 hx; exact r_nop_45
    · by_cases h2 : c = 98
      · subst h2 hx; exact r_nop_98
      · by_cases h3 : c = 115
        · subst h3 hx; exact r_nop_115
        · exact r_nop_e c hx hc hd h1 h2 h3
set_option maxRecDepth 20000 in
theorem r_nob_13 {g : GE} {M : Mem} {sz : Nat} {x : Int32} (c : Nat) (hx : x = nI c) (hc : c ≤ 126) : Run g m_X5_nextOfBolt [.int 13, .int x] M sz 0 0 (Ret (some (.int (dnI (pick (trs 13) c)))) M) := by
  subst hx
  refine Run.of rfl (by decide) (Nat.le_of_ble_eq_true rfl) ?_
  show V g m_X5_nextOfBolt 0 _ [] _ _ _ _ _
  refine V_iload_n 0 dX5_nextOfBolt_0 rfl ?_
  refine V_tabIn (off := 39) (tgt := 40) dX5_nextOfBolt_1 (by decide) (by decide) (by decide) (by decide) ?_
  refine V_iload_n 1 dX5_nextOfBolt_40 rfl ?_
  refine V_bipush (v := 48) dX5_nextOfBolt_41 (by decide) ?_
  refine V_bipush (v := 52) dX5_nextOfBolt_43 (by decide) ?_
  refine C_X5_46 rfl ⟨Nat.le_of_ble_eq_true rfl, Nat.le_of_ble_eq_true rfl⟩ (r_isDigit c 48 52 rfl rfl rfl (by omega) (by decide) (by decide)) rfl (Nat.le_of_ble_eq_true rfl) dX5_nextOfBolt_45 rfl ?_
  refine V_if_eq (tgt := 56) dX5_nextOfBolt_48 (by decide) (fun c48 => ?_) (fun c48 => ?_)
  · refine V_iconst (v := -1) dX5_nextOfBolt_56 rfl ?_
    refine V_iret (st := []) dX5_nextOfBolt_57 rfl ?_
    exact ⟨by rw [show pick (trs 13) c = none from pick_f (of_decide_eq_false (bI_0 c48))]; rfl, rfl⟩
  · refine V_bipush (v := 14) dX5_nextOfBolt_51 (by decide) ?_
    refine V_goto (tgt := 57) dX5_nextOfBolt_53 (by decide) ?_
    refine V_iret (st := []) dX5_nextOfBolt_57 rfl ?_
    exact ⟨by rw [show pick (trs 13) c = some 14 from pick_t (of_decide_eq_true (bI_1 c48))]; rfl, rfl⟩
set_option maxRecDepth 20000 in
theorem r_nob_14 {g : GE} {M : Mem} {sz : Nat} {x : Int32} (c : Nat) (hx : x = nI c) (hc : c ≤ 126) : Run g m_X5_nextOfBolt [.int 14, .int x] M sz 0 0 (Ret (some (.int (dnI (pick (trs 14) c)))) M) := by
  subst hx
  refine Run.of rfl (by decide) (Nat.le_of_ble_eq_true rfl) ?_
  show V g m_X5_nextOfBolt 0 _ [] _ _ _ _ _
  refine V_iload_n 0 dX5_nextOfBolt_0 rfl ?_
  refine V_tabIn (off := 57) (tgt := 58) dX5_nextOfBolt_1 (by decide) (by decide) (by decide) (by decide) ?_
  refine V_iload_n 1 dX5_nextOfBolt_58 rfl ?_
  refine V_bipush (v := 61) dX5_nextOfBolt_59 (by decide) ?_
  refine V_icmp_ne (tgt := 69) dX5_nextOfBolt_61 (by decide) (fun c61 => ?_) (fun c61 => ?_)
  · refine V_iconst (v := -1) dX5_nextOfBolt_69 rfl ?_
    refine V_iret (st := []) dX5_nextOfBolt_70 rfl ?_
    exact ⟨by rw [show pick (trs 14) c = none from pick_f (fun h => c61 (by rw [show c = 61 by omega]; rfl))]; rfl, rfl⟩
  · refine V_bipush (v := 15) dX5_nextOfBolt_64 (by decide) ?_
    refine V_goto (tgt := 70) dX5_nextOfBolt_66 (by decide) ?_
    refine V_iret (st := []) dX5_nextOfBolt_70 rfl ?_
    exact ⟨by rw [show pick (trs 14) c = some 15 from pick_t (by have := (nI_eq (b := 61) (by omega) (by decide)).mp c61; omega)]; rfl, rfl⟩
set_option maxRecDepth 20000 in
theorem r_nob_15 {g : GE} {M : Mem} {sz : Nat} {x : Int32} (c : Nat) (hx : x = nI c) (hc : c ≤ 126) : Run g m_X5_nextOfBolt [.int 15, .int x] M sz 0 0 (Ret (some (.int (dnI (pick (trs 15) c)))) M) := by
  subst hx
  refine Run.of rfl (by decide) (Nat.le_of_ble_eq_true rfl) ?_
  show V g m_X5_nextOfBolt 0 _ [] _ _ _ _ _
  refine V_iload_n 0 dX5_nextOfBolt_0 rfl ?_
  refine V_tabIn (off := 70) (tgt := 71) dX5_nextOfBolt_1 (by decide) (by decide) (by decide) (by decide) ?_
  refine V_iload_n 1 dX5_nextOfBolt_71 rfl ?_
  refine V_bipush (v := 49) dX5_nextOfBolt_72 (by decide) ?_
  refine V_bipush (v := 57) dX5_nextOfBolt_74 (by decide) ?_
  refine C_X5_46 rfl ⟨Nat.le_of_ble_eq_true rfl, Nat.le_of_ble_eq_true rfl⟩ (r_isDigit c 49 57 rfl rfl rfl (by omega) (by decide) (by decide)) rfl (Nat.le_of_ble_eq_true rfl) dX5_nextOfBolt_76 rfl ?_
  refine V_if_eq (tgt := 87) dX5_nextOfBolt_79 (by decide) (fun c79 => ?_) (fun c79 => ?_)
  · refine V_iconst (v := -1) dX5_nextOfBolt_87 rfl ?_
    refine V_iret (st := []) dX5_nextOfBolt_88 rfl ?_
    exact ⟨by rw [show pick (trs 15) c = none from pick_f (of_decide_eq_false (bI_0 c79))]; rfl, rfl⟩
  · refine V_bipush (v := 16) dX5_nextOfBolt_82 (by decide) ?_
    refine V_goto (tgt := 88) dX5_nextOfBolt_84 (by decide) ?_
    refine V_iret (st := []) dX5_nextOfBolt_88 rfl ?_
    exact ⟨by rw [show pick (trs 15) c = some 16 from pick_t (of_decide_eq_true (bI_1 c79))]; rfl, rfl⟩
set_option maxRecDepth 20000 in
theorem r_nob_16 {g : GE} {M : Mem} {sz : Nat} {x : Int32} (c : Nat) (hx : x = nI c) (hc : c ≤ 126) : Run g m_X5_nextOfBolt [.int 16, .int x] M sz 0 0 (Ret (some (.int (dnI (pick (trs 16) c)))) M) := by
  subst hx
  refine Run.of rfl (by decide) (Nat.le_of_ble_eq_true rfl) ?_
  show V g m_X5_nextOfBolt 0 _ [] _ _ _ _ _
  refine V_iload_n 0 dX5_nextOfBolt_0 rfl ?_
  refine V_tabIn (off := 88) (tgt := 89) dX5_nextOfBolt_1 (by decide) (by decide) (by decide) (by decide) ?_
  refine V_iload_n 1 dX5_nextOfBolt_89 rfl ?_
  refine V_bipush (v := 48) dX5_nextOfBolt_90 (by decide) ?_
  refine V_bipush (v := 57) dX5_nextOfBolt_92 (by decide) ?_
  refine C_X5_46 rfl ⟨Nat.le_of_ble_eq_true rfl, Nat.le_of_ble_eq_true rfl⟩ (r_isDigit c 48 57 rfl rfl rfl (by omega) (by decide) (by decide)) rfl (Nat.le_of_ble_eq_true rfl) dX5_nextOfBolt_94 rfl ?_
  refine V_if_eq (tgt := 105) dX5_nextOfBolt_97 (by decide) (fun c97 => ?_) (fun c97 => ?_)
  · refine V_iconst (v := -1) dX5_nextOfBolt_105 rfl ?_
    refine V_iret (st := []) dX5_nextOfBolt_106 rfl ?_
    exact ⟨by rw [show pick (trs 16) c = none from pick_f (of_decide_eq_false (bI_0 c97))]; rfl, rfl⟩
  · refine V_bipush (v := 17) dX5_nextOfBolt_100 (by decide) ?_
    refine V_goto (tgt := 106) dX5_nextOfBolt_102 (by decide) ?_
    refine V_iret (st := []) dX5_nextOfBolt_106 rfl ?_
    exact ⟨by rw [show pick (trs 16) c = some 17 from pick_t (of_decide_eq_true (bI_1 c97))]; rfl, rfl⟩
set_option maxRecDepth 20000 in
theorem r_nob_17 {g : GE} {M : Mem} {sz : Nat} {x : Int32} (c : Nat) (hx : x = nI c) (hc : c ≤ 126) : Run g m_X5_nextOfBolt [.int 17, .int x] M sz 0 0 (Ret (some (.int (dnI (pick (trs 17) c)))) M) := by
  subst hx
  refine Run.of rfl (by decide) (Nat.le_of_ble_eq_true rfl) ?_
  show V g m_X5_nextOfBolt 0 _ [] _ _ _ _ _
  refine V_iload_n 0 dX5_nextOfBolt_0 rfl ?_
  refine V_tabIn (off := 106) (tgt := 107) dX5_nextOfBolt_1 (by decide) (by decide) (by decide) (by decide) ?_
  refine V_iload_n 1 dX5_nextOfBolt_107 rfl ?_
  refine V_bipush (v := 48) dX5_nextOfBolt_108 (by decide) ?_
  refine V_bipush (v := 57) dX5_nextOfBolt_110 (by decide) ?_
  refine C_X5_46 rfl ⟨Nat.le_of_ble_eq_true rfl, Nat.le_of_ble_eq_true rfl⟩ (r_isDigit c 48 57 rfl rfl rfl (by omega) (by decide) (by decide)) rfl (Nat.le_of_ble_eq_true rfl) dX5_nextOfBolt_112 rfl ?_
  refine V_if_eq (tgt := 123) dX5_nextOfBolt_115 (by decide) (fun c115 => ?_) (fun c115 => ?_)
  · refine V_iconst (v := -1) dX5_nextOfBolt_123 rfl ?_
    refine V_iret (st := []) dX5_nextOfBolt_124 rfl ?_
    exact ⟨by rw [show pick (trs 17) c = none from pick_f (of_decide_eq_false (bI_0 c115))]; rfl, rfl⟩
  · refine V_bipush (v := 18) dX5_nextOfBolt_118 (by decide) ?_
    refine V_goto (tgt := 124) dX5_nextOfBolt_120 (by decide) ?_
    refine V_iret (st := []) dX5_nextOfBolt_124 rfl ?_
    exact ⟨by rw [show pick (trs 17) c = some 18 from pick_t (of_decide_eq_true (bI_1 c115))]; rfl, rfl⟩
set_option maxRecDepth 20000 in
theorem r_nob_18 {g : GE} {M : Mem} {sz : Nat} {x : Int32} (c : Nat) (hx : x = nI c) (hc : c ≤ 126) : Run g m_X5_nextOfBolt [.int 18, .int x] M sz 0 0 (Ret (some (.int (dnI (pick (trs 18) c)))) M) := by
  subst hx
  refine Run.of rfl (by decide) (Nat.le_of_ble_eq_true rfl) ?_
  show V g m_X5_nextOfBolt 0 _ [] _ _ _ _ _
  refine V_iload_n 0 dX5_nextOfBolt_0 rfl ?_
  refine V_tabIn (off := 124) (tgt := 125) dX5_nextOfBolt_1 (by decide) (by decide) (by decide) (by decide) ?_
  refine V_iload_n 1 dX5_nextOfBolt_125 rfl ?_
  refine V_bipush (v := 48) dX5_nextOfBolt_126 (by decide) ?_
  refine V_bipush (v := 57) dX5_nextOfBolt_128 (by decide) ?_
  refine C_X5_46 rfl ⟨Nat.le_of_ble_eq_true rfl, Nat.le_of_ble_eq_true rfl⟩ (r_isDigit c 48 57 rfl rfl rfl (by omega) (by decide) (by decide)) rfl (Nat.le_of_ble_eq_true rfl) dX5_nextOfBolt_130 rfl ?_
  refine V_if_eq (tgt := 141) dX5_nextOfBolt_133 (by decide) (fun c133 => ?_) (fun c133 => ?_)
  · refine V_iconst (v := -1) dX5_nextOfBolt_141 rfl ?_
    refine V_iret (st := []) dX5_nextOfBolt_142 rfl ?_
    exact ⟨by rw [show pick (trs 18) c = none from pick_f (of_decide_eq_false (bI_0 c133))]; rfl, rfl⟩
  · refine V_bipush (v := 19) dX5_nextOfBolt_136 (by decide) ?_
    refine V_goto (tgt := 142) dX5_nextOfBolt_138 (by decide) ?_
    refine V_iret (st := []) dX5_nextOfBolt_142 rfl ?_
    exact ⟨by rw [show pick (trs 18) c = some 19 from pick_t (of_decide_eq_true (bI_1 c133))]; rfl, rfl⟩
set_option maxRecDepth 20000 in
theorem r_nob_19 {g : GE} {M : Mem} {sz : Nat} {x : Int32} (c : Nat) (hx : x = nI c) (hc : c ≤ 126) : Run g m_X5_nextOfBolt [.int 19, .int x] M sz 0 0 (Ret (some (.int (dnI (pick (trs 19) c)))) M) := by
  subst hx
  refine Run.of rfl (by decide) (Nat.le_of_ble_eq_true rfl) ?_
  show V g m_X5_nextOfBolt 0 _ [] _ _ _ _ _
  refine V_iload_n 0 dX5_nextOfBolt_0 rfl ?_
  refine V_tabOut (tgt := 143) dX5_nextOfBolt_1 (by decide) (by decide) ?_
  refine V_iconst (v := -1) dX5_nextOfBolt_143 rfl ?_
  refine V_iret (st := []) dX5_nextOfBolt_144 rfl ?_
  exact ⟨rfl, rfl⟩
set_option maxRecDepth 20000 in
theorem r_next_0 {g : GE} {M : Mem} {sz : Nat} {x : Int32} (c : Nat) (hx : x = nI c) (hc : c ≤ 126) : Run g m_X5_next [.int 0, .int x] M sz 0 0 (Ret (some (.int (dnI (dn 0 c)))) M) := by
  subst hx
  refine Run.of rfl (by decide) (Nat.le_of_ble_eq_true rfl) ?_
  show V g m_X5_next 0 _ [] _ _ _ _ _
  refine V_iload_n 1 dX5_next_0 rfl ?_
  refine V_bipush (v := 59) dX5_next_1 (by decide) ?_
  refine V_icmp_ne (tgt := 19) dX5_next_3 (by decide) (fun c3 => ?_) (fun c3 => ?_)
  · refine V_iload_n 0 dX5_next_19 rfl ?_
    refine V_tabIn (off := 68) (tgt := 88) dX5_next_20 (by decide) (by decide) (by decide) (by decide) ?_
    refine V_iload_n 1 dX5_next_88 rfl ?_
    refine C_X5_42 rfl ⟨Nat.le_of_ble_eq_true rfl, Nat.le_of_ble_eq_true rfl⟩ (r_nop c rfl hc) rfl (Nat.le_of_ble_eq_true rfl) dX5_next_89 rfl ?_
    refine V_iret (st := []) dX5_next_92 rfl ?_
    have h59 : c ≠ 59 := fun e => c3 (by rw [e]; rfl)
    rw [dn_o h59]
    exact ⟨rfl, rfl⟩
  · refine V_iload_n 0 dX5_next_6 rfl ?_
    refine C_X5_38 rfl ⟨Nat.le_of_ble_eq_true rfl, Nat.le_of_ble_eq_true rfl⟩ (r_mayEnd_0) rfl (Nat.le_of_ble_eq_true rfl) dX5_next_7 rfl ?_
    refine V_if_eq (tgt := 17) dX5_next_10 (by decide) (fun c10 => ?_) (fun c10 => absurd (by decide) c10)
    refine V_iconst (v := -1) dX5_next_17 rfl ?_
    refine V_iret (st := []) dX5_next_18 rfl ?_
    exact ⟨by rw [show c = 59 from (nI_eq (b := 59) (by omega) (by decide)).mp c3]; rfl, rfl⟩
set_option maxRecDepth 20000 in
theorem r_next_1 {g : GE} {M : Mem} {sz : Nat} {x : Int32} (c : Nat) (hx : x = nI c) (hc : c ≤ 126) : Run g m_X5_next [.int 1, .int x] M sz 0 0 (Ret (some (.int (dnI (dn 1 c)))) M) := by
  subst hx
  refine Run.of rfl (by decide) (Nat.le_of_ble_eq_true rfl) ?_
  show V g m_X5_next 0 _ [] _ _ _ _ _
  refine V_iload_n 1 dX5_next_0 rfl ?_
  refine V_bipush (v := 59) dX5_next_1 (by decide) ?_
  refine V_icmp_ne (tgt := 19) dX5_next_3 (by decide) (fun c3 => ?_) (fun c3 => ?_)
  · refine V_iload_n 0 dX5_next_19 rfl ?_
    refine V_tabIn (off := 73) (tgt := 93) dX5_next_20 (by decide) (by decide) (by decide) (by decide) ?_
    refine V_iload_n 1 dX5_next_93 rfl ?_
    refine V_bipush (v := 62) dX5_next_94 (by decide) ?_
    refine V_icmp_ne (tgt := 103) dX5_next_96 (by decide) (fun c96 => ?_) (fun c96 => ?_)
    · refine V_iconst (v := -1) dX5_next_103 rfl ?_
      refine V_iret (st := []) dX5_next_104 rfl ?_
      have h59 : c ≠ 59 := fun e => c3 (by rw [e]; rfl)
      rw [dn_o h59]
      exact ⟨by rw [show pick (trs 1) c = none from pick_f (fun h => c96 (by rw [show c = 62 by omega]; rfl))]; rfl, rfl⟩
    · refine V_iconst (v := 2) dX5_next_99 rfl ?_
      refine V_goto (tgt := 104) dX5_next_100 (by decide) ?_
      refine V_iret (st := []) dX5_next_104 rfl ?_
      have h59 : c ≠ 59 := fun e => c3 (by rw [e]; rfl)
      rw [dn_o h59]
      exact ⟨by rw [show pick (trs 1) c = some 2 from pick_t (by have := (nI_eq (b := 62) (by omega) (by decide)).mp c96; omega)]; rfl, rfl⟩
  · refine V_iload_n 0 dX5_next_6 rfl ?_
    refine C_X5_38 rfl ⟨Nat.le_of_ble_eq_true rfl, Nat.le_of_ble_eq_true rfl⟩ (r_mayEnd_1) rfl (Nat.le_of_ble_eq_true rfl) dX5_next_7 rfl ?_
    refine V_if_eq (tgt := 17) dX5_next_10 (by decide) (fun c10 => ?_) (fun c10 => absurd (by decide) c10)
    refine V_iconst (v := -1) dX5_next_17 rfl ?_
    refine V_iret (st := []) dX5_next_18 rfl ?_
    exact ⟨by rw [show c = 59 from (nI_eq (b := 59) (by omega) (by decide)).mp c3]; rfl, rfl⟩
set_option maxRecDepth 20000 in
theorem r_next_2 {g : GE} {M : Mem} {sz : Nat} {x : Int32} (c : Nat) (hx : x = nI c) (hc : c ≤ 126) : Run g m_X5_next [.int 2, .int x] M sz 0 0 (Ret (some (.int (dnI (dn 2 c)))) M) := by
  subst hx
  refine Run.of rfl (by decide) (Nat.le_of_ble_eq_true rfl) ?_
  show V g m_X5_next 0 _ [] _ _ _ _ _
  refine V_iload_n 1 dX5_next_0 rfl ?_
  refine V_bipush (v := 59) dX5_next_1 (by decide) ?_
  refine V_icmp_ne (tgt := 19) dX5_next_3 (by decide) (fun c3 => ?_) (fun c3 => ?_)
  · refine V_iload_n 0 dX5_next_19 rfl ?_
    refine V_tabIn (off := 85) (tgt := 105) dX5_next_20 (by decide) (by decide) (by decide) (by decide) ?_
    refine V_iload_n 1 dX5_next_105 rfl ?_
    refine V_bipush (v := 48) dX5_next_106 (by decide) ?_
    refine V_bipush (v := 52) dX5_next_108 (by decide) ?_
    refine C_X5_46 rfl ⟨Nat.le_of_ble_eq_true rfl, Nat.le_of_ble_eq_true rfl⟩ (r_isDigit c 48 52 rfl rfl rfl (by omega) (by decide) (by decide)) rfl (Nat.le_of_ble_eq_true rfl) dX5_next_110 rfl ?_
    refine V_if_eq (tgt := 120) dX5_next_113 (by decide) (fun c113 => ?_) (fun c113 => ?_)
    · refine V_iconst (v := -1) dX5_next_120 rfl ?_
      refine V_iret (st := []) dX5_next_121 rfl ?_
      have h59 : c ≠ 59 := fun e => c3 (by rw [e]; rfl)
      rw [dn_o h59]
      exact ⟨by rw [show pick (trs 2) c = none from pick_f (of_decide_eq_false (bI_0 c113))]; rfl, rfl⟩
    · refine V_iconst (v := 3) dX5_next_116 rfl ?_
      refine V_goto (tgt := 121) dX5_next_117 (by decide) ?_
      refine V_iret (st := []) dX5_next_121 rfl ?_
      have h59 : c ≠ 59 := fun e => c3 (by rw [e]; rfl)
      rw [dn_o h59]
      exact ⟨by rw [show pick (trs 2) c = some 3 from pick_t (of_decide_eq_true (bI_1 c113))]; rfl, rfl⟩
  · refine V_iload_n 0 dX5_next_6 rfl ?_
    refine C_X5_38 rfl ⟨Nat.le_of_ble_eq_true rfl, Nat.le_of_ble_eq_true rfl⟩ (r_mayEnd_2) rfl (Nat.le_of_ble_eq_true rfl) dX5_next_7 rfl ?_
    refine V_if_eq (tgt := 17) dX5_next_10 (by decide) (fun c10 => ?_) (fun c10 => absurd (by decide) c10)
    refine V_iconst (v := -1) dX5_next_17 rfl ?_
    refine V_iret (st := []) dX5_next_18 rfl ?_
    exact ⟨by rw [show c = 59 from (nI_eq (b := 59) (by omega) (by decide)).mp c3]; rfl, rfl⟩
set_option maxRecDepth 20000 in
theorem r_next_3 {g : GE} {M : Mem} {sz : Nat} {x : Int32} (c : Nat) (hx : x = nI c) (hc : c ≤ 126) : Run g m_X5_next [.int 3, .int x] M sz 0 0 (Ret (some (.int (dnI (dn 3 c)))) M) := by
  subst hx
  refine Run.of rfl (by decide) (Nat.le_of_ble_eq_true rfl) ?_
  show V g m_X5_next 0 _ [] _ _ _ _ _
  refine V_iload_n 1 dX5_next_0 rfl ?_
  refine V_bipush (v := 59) dX5_next_1 (by decide) ?_
  refine V_icmp_ne (tgt := 19) dX5_next_3 (by decide) (fun c3 => ?_) (fun c3 => ?_)
  · refine V_iload_n 0 dX5_next_19 rfl ?_
    refine V_tabIn (off := 102) (tgt := 122) dX5_next_20 (by decide) (by decide) (by decide) (by decide) ?_
    refine V_iload_n 1 dX5_next_122 rfl ?_
    refine V_bipush (v := 61) dX5_next_123 (by decide) ?_
    refine V_icmp_ne (tgt := 132) dX5_next_125 (by decide) (fun c125 => ?_) (fun c125 => ?_)
    · refine V_iconst (v := -1) dX5_next_132 rfl ?_
      refine V_iret (st := []) dX5_next_133 rfl ?_
      have h59 : c ≠ 59 := fun e => c3 (by rw [e]; rfl)
      rw [dn_o h59]
      exact ⟨by rw [show pick (trs 3) c = none from pick_f (fun h => c125 (by rw [show c = 61 by omega]; rfl))]; rfl, rfl⟩
    · refine V_iconst (v := 4) dX5_next_128 rfl ?_
      refine V_goto (tgt := 133) dX5_next_129 (by decide) ?_
      refine V_iret (st := []) dX5_next_133 rfl ?_
      have h59 : c ≠ 59 := fun e => c3 (by rw [e]; rfl)
      rw [dn_o h59]
      exact ⟨by rw [show pick (trs 3) c = some 4 from pick_t (by have := (nI_eq (b := 61) (by omega) (by decide)).mp c125; omega)]; rfl, rfl⟩
  · refine V_iload_n 0 dX5_next_6 rfl ?_
    refine C_X5_38 rfl ⟨Nat.le_of_ble_eq_true rfl, Nat.le_of_ble_eq_true rfl⟩ (r_mayEnd_3) rfl (Nat.le_of_ble_eq_true rfl) dX5_next_7 rfl ?_
    refine V_if_eq (tgt := 17) dX5_next_10 (by decide) (fun c10 => ?_) (fun c10 => absurd (by decide) c10)
    refine V_iconst (v := -1) dX5_next_17 rfl ?_
    refine V_iret (st := []) dX5_next_18 rfl ?_
    exact ⟨by rw [show c = 59 from (nI_eq (b := 59) (by omega) (by decide)).mp c3]; rfl, rfl⟩
set_option maxRecDepth 20000 in
theorem r_next_4 {g : GE} {M : Mem} {sz : Nat} {x : Int32} (c : Nat) (hx : x = nI c) (hc : c ≤ 126) : Run g m_X5_next [.int 4, .int x] M sz 0 0 (Ret (some (.int (dnI (dn 4 c)))) M) := by
  subst hx
  refine Run.of rfl (by decide) (Nat.le_of_ble_eq_true rfl) ?_
  show V g m_X5_next 0 _ [] _ _ _ _ _
  refine V_iload_n 1 dX5_next_0 rfl ?_
  refine V_bipush (v := 59) dX5_next_1 (by decide) ?_
  refine V_icmp_ne (tgt := 19) dX5_next_3 (by decide) (fun c3 => ?_) (fun c3 => ?_)
  · refine V_iload_n 0 dX5_next_19 rfl ?_
    refine V_tabIn (off := 114) (tgt := 134) dX5_next_20 (by decide) (by decide) (by decide) (by decide) ?_
    refine V_iload_n 1 dX5_next_134 rfl ?_
    refine V_bipush (v := 49) dX5_next_135 (by decide) ?_
    refine V_bipush (v := 57) dX5_next_137 (by decide) ?_
    refine C_X5_46 rfl ⟨Nat.le_of_ble_eq_true rfl, Nat.le_of_ble_eq_true rfl⟩ (r_isDigit c 49 57 rfl rfl rfl (by omega) (by decide) (by decide)) rfl (Nat.le_of_ble_eq_true rfl) dX5_next_139 rfl ?_
    refine V_if_eq (tgt := 149) dX5_next_142 (by decide) (fun c142 => ?_) (fun c142 => ?_)
    · refine V_iconst (v := -1) dX5_next_149 rfl ?_
      refine V_iret (st := []) dX5_next_150 rfl ?_
      have h59 : c ≠ 59 := fun e => c3 (by rw [e]; rfl)
      rw [dn_o h59]
      exact ⟨by rw [show pick (trs 4) c = none from pick_f (of_decide_eq_false (bI_0 c142))]; rfl, rfl⟩
    · refine V_iconst (v := 5) dX5_next_145 rfl ?_
      refine V_goto (tgt := 150) dX5_next_146 (by decide) ?_
      refine V_iret (st := []) dX5_next_150 rfl ?_
      have h59 : c ≠ 59 := fun e => c3 (by rw [e]; rfl)
      rw [dn_o h59]
      exact ⟨by rw [show pick (trs 4) c = some 5 from pick_t (of_decide_eq_true (bI_1 c142))]; rfl, rfl⟩
  · refine V_iload_n 0 dX5_next_6 rfl ?_
    refine C_X5_38 rfl ⟨Nat.le_of_ble_eq_true rfl, Nat.le_of_ble_eq_true rfl⟩ (r_mayEnd_4) rfl (Nat.le_of_ble_eq_true rfl) dX5_next_7 rfl ?_
    refine V_if_eq (tgt := 17) dX5_next_10 (by decide) (fun c10 => ?_) (fun c10 => absurd (by decide) c10)
    refine V_iconst (v := -1) dX5_next_17 rfl ?_
    refine V_iret (st := []) dX5_next_18 rfl ?_
    exact ⟨by rw [show c = 59 from (nI_eq (b := 59) (by omega) (by decide)).mp c3]; rfl, rfl⟩
set_option maxRecDepth 20000 in
theorem r_next_5 {g : GE} {M : Mem} {sz : Nat} {x : Int32} (c : Nat) (hx : x = nI c) (hc : c ≤ 126) : Run g m_X5_next [.int 5, .int x] M sz 0 0 (Ret (some (.int (dnI (dn 5 c)))) M) := by
  subst hx
  refine Run.of rfl (by decide) (Nat.le_of_ble_eq_true rfl) ?_
  show V g m_X5_next 0 _ [] _ _ _ _ _
  refine V_iload_n 1 dX5_next_0 rfl ?_
  refine V_bipush (v := 59) dX5_next_1 (by decide) ?_
  refine V_icmp_ne (tgt := 19) dX5_next_3 (by decide) (fun c3 => ?_) (fun c3 => ?_)
  · refine V_iload_n 0 dX5_next_19 rfl ?_
    refine V_tabIn (off := 131) (tgt := 151) dX5_next_20 (by decide) (by decide) (by decide) (by decide) ?_
    refine V_iload_n 1 dX5_next_151 rfl ?_
    refine V_bipush (v := 48) dX5_next_152 (by decide) ?_
    refine V_bipush (v := 57) dX5_next_154 (by decide) ?_
    refine C_X5_46 rfl ⟨Nat.le_of_ble_eq_true rfl, Nat.le_of_ble_eq_true rfl⟩ (r_isDigit c 48 57 rfl rfl rfl (by omega) (by decide) (by decide)) rfl (Nat.le_of_ble_eq_true rfl) dX5_next_156 rfl ?_
    refine V_if_eq (tgt := 167) dX5_next_159 (by decide) (fun c159 => ?_) (fun c159 => ?_)
    · refine V_iload_n 1 dX5_next_167 rfl ?_
      refine V_bipush (v := 47) dX5_next_168 (by decide) ?_
      refine V_icmp_ne (tgt := 178) dX5_next_170 (by decide) (fun c170 => ?_) (fun c170 => ?_)
      · refine V_iconst (v := -1) dX5_next_178 rfl ?_
        refine V_iret (st := []) dX5_next_179 rfl ?_
        have h59 : c ≠ 59 := fun e => c3 (by rw [e]; rfl)
        rw [dn_o h59]
        exact ⟨by rw [show pick (trs 5) c = none from (pick_f (of_decide_eq_false (bI_0 c159))).trans (pick_f (fun h => c170 (by rw [show c = 47 by omega]; rfl)))]; rfl, rfl⟩
      · refine V_bipush (v := 7) dX5_next_173 (by decide) ?_
        refine V_goto (tgt := 179) dX5_next_175 (by decide) ?_
        refine V_iret (st := []) dX5_next_179 rfl ?_
        have h59 : c ≠ 59 := fun e => c3 (by rw [e]; rfl)
        rw [dn_o h59]
        exact ⟨by rw [show pick (trs 5) c = some 7 from (pick_f (of_decide_eq_false (bI_0 c159))).trans (pick_t (by have := (nI_eq (b := 47) (by omega) (by decide)).mp c170; omega))]; rfl, rfl⟩
    · refine V_bipush (v := 6) dX5_next_162 (by decide) ?_
      refine V_goto (tgt := 179) dX5_next_164 (by decide) ?_
      refine V_iret (st := []) dX5_next_179 rfl ?_
      have h59 : c ≠ 59 := fun e => c3 (by rw [e]; rfl)
      rw [dn_o h59]
      exact ⟨by rw [show pick (trs 5) c = some 6 from pick_t (of_decide_eq_true (bI_1 c159))]; rfl, rfl⟩
  · refine V_iload_n 0 dX5_next_6 rfl ?_
    refine C_X5_38 rfl ⟨Nat.le_of_ble_eq_true rfl, Nat.le_of_ble_eq_true rfl⟩ (r_mayEnd_5) rfl (Nat.le_of_ble_eq_true rfl) dX5_next_7 rfl ?_
    refine V_if_eq (tgt := 17) dX5_next_10 (by decide) (fun c10 => ?_) (fun c10 => absurd (by decide) c10)
    refine V_iconst (v := -1) dX5_next_17 rfl ?_
    refine V_iret (st := []) dX5_next_18 rfl ?_
    exact ⟨by rw [show c = 59 from (nI_eq (b := 59) (by omega) (by decide)).mp c3]; rfl, rfl⟩
set_option maxRecDepth 20000 in
theorem r_next_6 {g : GE} {M : Mem} {sz : Nat} {x : Int32} (c : Nat) (hx : x = nI c) (hc : c ≤ 126) : Run g m_X5_next [.int 6, .int x] M sz 0 0 (Ret (some (.int (dnI (dn 6 c)))) M) := by
  subst hx
  refine Run.of rfl (by decide) (Nat.le_of_ble_eq_true rfl) ?_
  show V g m_X5_next 0 _ [] _ _ _ _ _
  refine V_iload_n 1 dX5_next_0 rfl ?_
  refine V_bipush (v := 59) dX5_next_1 (by decide) ?_
  refine V_icmp_ne (tgt := 19) dX5_next_3 (by decide) (fun c3 => ?_) (fun c3 => ?_)
  · refine V_iload_n 0 dX5_next_19 rfl ?_
    refine V_tabIn (off := 160) (tgt := 180) dX5_next_20 (by decide) (by decide) (by decide) (by decide) ?_
    refine V_iload_n 1 dX5_next_180 rfl ?_
    refine V_bipush (v := 47) dX5_next_181 (by decide) ?_
    refine V_icmp_ne (tgt := 191) dX5_next_183 (by decide) (fun c183 => ?_) (fun c183 => ?_)
    · refine V_iconst (v := -1) dX5_next_191 rfl ?_
      refine V_iret (st := []) dX5_next_192 rfl ?_
      have h59 : c ≠ 59 := fun e => c3 (by rw [e]; rfl)
      rw [dn_o h59]
      exact ⟨by rw [show pick (trs 6) c = none from pick_f (fun h => c183 (by rw [show c = 47 by omega]; rfl))]; rfl, rfl⟩
    · refine V_bipush (v := 7) dX5_next_186 (by decide) ?_
      refine V_goto (tgt := 192) dX5_next_188 (by decide) ?_
      refine V_iret (st := []) dX5_next_192 rfl ?_
      have h59 : c ≠ 59 := fun e => c3 (by rw [e]; rfl)
      rw [dn_o h59]
      exact ⟨by rw [show pick (trs 6) c = some 7 from pick_t (by have := (nI_eq (b := 47) (by omega) (by decide)).mp c183; omega)]; rfl, rfl⟩
  · refine V_iload_n 0 dX5_next_6 rfl ?_
    refine C_X5_38 rfl ⟨Nat.le_of_ble_eq_true rfl, Nat.le_of_ble_eq_true rfl⟩ (r_mayEnd_6) rfl (Nat.le_of_ble_eq_true rfl) dX5_next_7 rfl ?_
    refine V_if_eq (tgt := 17) dX5_next_10 (by decide) (fun c10 => ?_) (fun c10 => absurd (by decide) c10)
    refine V_iconst (v := -1) dX5_next_17 rfl ?_
    refine V_iret (st := []) dX5_next_18 rfl ?_
    exact ⟨by rw [show c = 59 from (nI_eq (b := 59) (by omega) (by decide)).mp c3]; rfl, rfl⟩
set_option maxRecDepth 20000 in
theorem r_next_7 {g : GE} {M : Mem} {sz : Nat} {x : Int32} (c : Nat) (hx : x = nI c) (hc : c ≤ 126) : Run g m_X5_next [.int 7, .int x] M sz 0 0 (Ret (some (.int (dnI (dn 7 c)))) M) := by
  subst hx
  refine Run.of rfl (by decide) (Nat.le_of_ble_eq_true rfl) ?_
  show V g m_X5_next 0 _ [] _ _ _ _ _
  refine V_iload_n 1 dX5_next_0 rfl ?_
  refine V_bipush (v := 59) dX5_next_1 (by decide) ?_
  refine V_icmp_ne (tgt := 19) dX5_next_3 (by decide) (fun c3 => ?_) (fun c3 => ?_)
  · refine V_iload_n 0 dX5_next_19 rfl ?_
    refine V_tabIn (off := 173) (tgt := 193) dX5_next_20 (by decide) (by decide) (by decide) (by decide) ?_
    refine V_iload_n 1 dX5_next_193 rfl ?_
    refine V_bipush (v := 49) dX5_next_194 (by decide) ?_
    refine V_bipush (v := 57) dX5_next_196 (by decide) ?_
    refine C_X5_46 rfl ⟨Nat.le_of_ble_eq_true rfl, Nat.le_of_ble_eq_true rfl⟩ (r_isDigit c 49 57 rfl rfl rfl (by omega) (by decide) (by decide)) rfl (Nat.le_of_ble_eq_true rfl) dX5_next_198 rfl ?_
    refine V_if_eq (tgt := 209) dX5_next_201 (by decide) (fun c201 => ?_) (fun c201 => ?_)
    · refine V_iconst (v := -1) dX5_next_209 rfl ?_
      refine V_iret (st := []) dX5_next_210 rfl ?_
      have h59 : c ≠ 59 := fun e => c3 (by rw [e]; rfl)
      rw [dn_o h59]
      exact ⟨by rw [show pick (trs 7) c = none from pick_f (of_decide_eq_false (bI_0 c201))]; rfl, rfl⟩
    · refine V_bipush (v := 8) dX5_next_204 (by decide) ?_
      refine V_goto (tgt := 210) dX5_next_206 (by decide) ?_
      refine V_iret (st := []) dX5_next_210 rfl ?_
      have h59 : c ≠ 59 := fun e => c3 (by rw [e]; rfl)
      rw [dn_o h59]
      exact ⟨by rw [show pick (trs 7) c = some 8 from pick_t (of_decide_eq_true (bI_1 c201))]; rfl, rfl⟩
  · refine V_iload_n 0 dX5_next_6 rfl ?_
    refine C_X5_38 rfl ⟨Nat.le_of_ble_eq_true rfl, Nat.le_of_ble_eq_true rfl⟩ (r_mayEnd_7) rfl (Nat.le_of_ble_eq_true rfl) dX5_next_7 rfl ?_
    refine V_if_eq (tgt := 17) dX5_next_10 (by decide) (fun c10 => ?_) (fun c10 => absurd (by decide) c10)
    refine V_iconst (v := -1) dX5_next_17 rfl ?_
    refine V_iret (st := []) dX5_next_18 rfl ?_
    exact ⟨by rw [show c = 59 from (nI_eq (b := 59) (by omega) (by decide)).mp c3]; rfl, rfl⟩
set_option maxRecDepth 20000 in
theorem r_next_8 {g : GE} {M : Mem} {sz : Nat} {x : Int32} (c : Nat) (hx : x = nI c) (hc : c ≤ 126) : Run g m_X5_next [.int 8, .int x] M sz 0 0 (Ret (some (.int (dnI (dn 8 c)))) M) := by
  subst hx
  refine Run.of rfl (by decide) (Nat.le_of_ble_eq_true rfl) ?_
  show V g m_X5_next 0 _ [] _ _ _ _ _
  refine V_iload_n 1 dX5_next_0 rfl ?_
  refine V_bipush (v := 59) dX5_next_1 (by decide) ?_
  refine V_icmp_ne (tgt := 19) dX5_next_3 (by decide) (fun c3 => ?_) (fun c3 => ?_)
  · refine V_iload_n 0 dX5_next_19 rfl ?_
    refine V_tabIn (off := 191) (tgt := 211) dX5_next_20 (by decide) (by decide) (by decide) (by decide) ?_
    refine V_iload_n 1 dX5_next_211 rfl ?_
    refine V_bipush (v := 48) dX5_next_212 (by decide) ?_
    refine V_bipush (v := 57) dX5_next_214 (by decide) ?_
    refine C_X5_46 rfl ⟨Nat.le_of_ble_eq_true rfl, Nat.le_of_ble_eq_true rfl⟩ (r_isDigit c 48 57 rfl rfl rfl (by omega) (by decide) (by decide)) rfl (Nat.le_of_ble_eq_true rfl) dX5_next_216 rfl ?_
    refine V_if_eq (tgt := 227) dX5_next_219 (by decide) (fun c219 => ?_) (fun c219 => ?_)
    · refine V_iconst (v := -1) dX5_next_227 rfl ?_
      refine V_iret (st := []) dX5_next_228 rfl ?_
      have h59 : c ≠ 59 := fun e => c3 (by rw [e]; rfl)
      rw [dn_o h59]
      exact ⟨by rw [show pick (trs 8) c = none from pick_f (of_decide_eq_false (bI_0 c219))]; rfl, rfl⟩
    · refine V_bipush (v := 19) dX5_next_222 (by decide) ?_
      refine V_goto (tgt := 228) dX5_next_224 (by decide) ?_
      refine V_iret (st := []) dX5_next_228 rfl ?_
      have h59 : c ≠ 59 := fun e => c3 (by rw [e]; rfl)
      rw [dn_o h59]
      exact ⟨by rw [show pick (trs 8) c = some 19 from pick_t (of_decide_eq_true (bI_1 c219))]; rfl, rfl⟩
  · refine V_iload_n 0 dX5_next_6 rfl ?_
    refine C_X5_38 rfl ⟨Nat.le_of_ble_eq_true rfl, Nat.le_of_ble_eq_true rfl⟩ (r_mayEnd_8) rfl (Nat.le_of_ble_eq_true rfl) dX5_next_7 rfl ?_
    refine V_if_eq (tgt := 17) dX5_next_10 (by decide) (fun c10 => absurd c10 (by decide)) (fun c10 => ?_)
    refine V_iconst (v := 0) dX5_next_13 rfl ?_
    refine V_goto (tgt := 18) dX5_next_14 (by decide) ?_
    refine V_iret (st := []) dX5_next_18 rfl ?_
    exact ⟨by rw [show c = 59 from (nI_eq (b := 59) (by omega) (by decide)).mp c3]; rfl, rfl⟩
set_option maxRecDepth 20000 in
theorem r_next_9 {g : GE} {M : Mem} {sz : Nat} {x : Int32} (c : Nat) (hx : x = nI c) (hc : c ≤ 126) : Run g m_X5_next [.int 9, .int x] M sz 0 0 (Ret (some (.int (dnI (dn 9 c)))) M) := by
  subst hx
  refine Run.of rfl (by decide) (Nat.le_of_ble_eq_true rfl) ?_
  show V g m_X5_next 0 _ [] _ _ _ _ _
  refine V_iload_n 1 dX5_next_0 rfl ?_
  refine V_bipush (v := 59) dX5_next_1 (by decide) ?_
  refine V_icmp_ne (tgt := 19) dX5_next_3 (by decide) (fun c3 => ?_) (fun c3 => ?_)
  · refine V_iload_n 0 dX5_next_19 rfl ?_
    refine V_tabIn (off := 209) (tgt := 229) dX5_next_20 (by decide) (by decide) (by decide) (by decide) ?_
    refine V_iload_n 1 dX5_next_229 rfl ?_
    refine V_bipush (v := 48) dX5_next_230 (by decide) ?_
    refine V_bipush (v := 52) dX5_next_232 (by decide) ?_
    refine C_X5_46 rfl ⟨Nat.le_of_ble_eq_true rfl, Nat.le_of_ble_eq_true rfl⟩ (r_isDigit c 48 52 rfl rfl rfl (by omega) (by decide) (by decide)) rfl (Nat.le_of_ble_eq_true rfl) dX5_next_234 rfl ?_
    refine V_if_eq (tgt := 245) dX5_next_237 (by decide) (fun c237 => ?_) (fun c237 => ?_)
    · refine V_iconst (v := -1) dX5_next_245 rfl ?_
      refine V_iret (st := []) dX5_next_246 rfl ?_
      have h59 : c ≠ 59 := fun e => c3 (by rw [e]; rfl)
      rw [dn_o h59]
      exact ⟨by rw [show pick (trs 9) c = none from pick_f (of_decide_eq_false (bI_0 c237))]; rfl, rfl⟩
    · refine V_bipush (v := 11) dX5_next_240 (by decide) ?_
      refine V_goto (tgt := 246) dX5_next_242 (by decide) ?_
      refine V_iret (st := []) dX5_next_246 rfl ?_
      have h59 : c ≠ 59 := fun e => c3 (by rw [e]; rfl)
      rw [dn_o h59]
      exact ⟨by rw [show pick (trs 9) c = some 11 from pick_t (of_decide_eq_true (bI_1 c237))]; rfl, rfl⟩
  · refine V_iload_n 0 dX5_next_6 rfl ?_
    refine C_X5_38 rfl ⟨Nat.le_of_ble_eq_true rfl, Nat.le_of_ble_eq_true rfl⟩ (r_mayEnd_9) rfl (Nat.le_of_ble_eq_true rfl) dX5_next_7 rfl ?_
    refine V_if_eq (tgt := 17) dX5_next_10 (by decide) (fun c10 => ?_) (fun c10 => absurd (by decide) c10)
    refine V_iconst (v := -1) dX5_next_17 rfl ?_
    refine V_iret (st := []) dX5_next_18 rfl ?_
    exact ⟨by rw [show c = 59 from (nI_eq (b := 59) (by omega) (by decide)).mp c3]; rfl, rfl⟩
set_option maxRecDepth 20000 in
theorem r_next_10 {g : GE} {M : Mem} {sz : Nat} {x : Int32} (c : Nat) (hx : x = nI c) (hc : c ≤ 126) : Run g m_X5_next [.int 10, .int x] M sz 0 0 (Ret (some (.int (dnI (dn 10 c)))) M) := by
  subst hx
  refine Run.of rfl (by decide) (Nat.le_of_ble_eq_true rfl) ?_
  show V g m_X5_next 0 _ [] _ _ _ _ _
  refine V_iload_n 1 dX5_next_0 rfl ?_
  refine V_bipush (v := 59) dX5_next_1 (by decide) ?_
  refine V_icmp_ne (tgt := 19) dX5_next_3 (by decide) (fun c3 => ?_) (fun c3 => ?_)
  · refine V_iload_n 0 dX5_next_19 rfl ?_
    refine V_tabIn (off := 227) (tgt := 247) dX5_next_20 (by decide) (by decide) (by decide) (by decide) ?_
    refine V_iload_n 1 dX5_next_247 rfl ?_
    refine V_bipush (v := 48) dX5_next_248 (by decide) ?_
    refine V_bipush (v := 55) dX5_next_250 (by decide) ?_
    refine C_X5_46 rfl ⟨Nat.le_of_ble_eq_true rfl, Nat.le_of_ble_eq_true rfl⟩ (r_isDigit c 48 55 rfl rfl rfl (by omega) (by decide) (by decide)) rfl (Nat.le_of_ble_eq_true rfl) dX5_next_252 rfl ?_
    refine V_if_eq (tgt := 263) dX5_next_255 (by decide) (fun c255 => ?_) (fun c255 => ?_)
    · refine V_iconst (v := -1) dX5_next_263 rfl ?_
      refine V_iret (st := []) dX5_next_264 rfl ?_
      have h59 : c ≠ 59 := fun e => c3 (by rw [e]; rfl)
      rw [dn_o h59]
      exact ⟨by rw [show pick (trs 10) c = none from pick_f (of_decide_eq_false (bI_0 c255))]; rfl, rfl⟩
    · refine V_bipush (v := 11) dX5_next_258 (by decide) ?_
      refine V_goto (tgt := 264) dX5_next_260 (by decide) ?_
      refine V_iret (st := []) dX5_next_264 rfl ?_
      have h59 : c ≠ 59 := fun e => c3 (by rw [e]; rfl)
      rw [dn_o h59]
      exact ⟨by rw [show pick (trs 10) c = some 11 from pick_t (of_decide_eq_true (bI_1 c255))]; rfl, rfl⟩
  · refine V_iload_n 0 dX5_next_6 rfl ?_
    refine C_X5_38 rfl ⟨Nat.le_of_ble_eq_true rfl, Nat.le_of_ble_eq_true rfl⟩ (r_mayEnd_10) rfl (Nat.le_of_ble_eq_true rfl) dX5_next_7 rfl ?_
    refine V_if_eq (tgt := 17) dX5_next_10 (by decide) (fun c10 => ?_) (fun c10 => absurd (by decide) c10)
    refine V_iconst (v := -1) dX5_next_17 rfl ?_
    refine V_iret (st := []) dX5_next_18 rfl ?_
    exact ⟨by rw [show c = 59 from (nI_eq (b := 59) (by omega) (by decide)).mp c3]; rfl, rfl⟩
set_option maxRecDepth 20000 in
theorem r_next_11 {g : GE} {M : Mem} {sz : Nat} {x : Int32} (c : Nat) (hx : x = nI c) (hc : c ≤ 126) : Run g m_X5_next [.int 11, .int x] M sz 0 0 (Ret (some (.int (dnI (dn 11 c)))) M) := by
  subst hx
  refine Run.of rfl (by decide) (Nat.le_of_ble_eq_true rfl) ?_
  show V g m_X5_next 0 _ [] _ _ _ _ _
  refine V_iload_n 1 dX5_next_0 rfl ?_
  refine V_bipush (v := 59) dX5_next_1 (by decide) ?_
  refine V_icmp_ne (tgt := 19) dX5_next_3 (by decide) (fun c3 => ?_) (fun c3 => ?_)
  · refine V_iload_n 0 dX5_next_19 rfl ?_
    refine V_tabIn (off := 245) (tgt := 265) dX5_next_20 (by decide) (by decide) (by decide) (by decide) ?_
    refine V_iload_n 1 dX5_next_265 rfl ?_
    refine V_bipush (v := 62) dX5_next_266 (by decide) ?_
    refine V_icmp_ne (tgt := 276) dX5_next_268 (by decide) (fun c268 => ?_) (fun c268 => ?_)
    · refine V_iconst (v := -1) dX5_next_276 rfl ?_
      refine V_iret (st := []) dX5_next_277 rfl ?_
      have h59 : c ≠ 59 := fun e => c3 (by rw [e]; rfl)
      rw [dn_o h59]
      exact ⟨by rw [show pick (trs 11) c = none from pick_f (fun h => c268 (by rw [show c = 62 by omega]; rfl))]; rfl, rfl⟩
    · refine V_bipush (v := 12) dX5_next_271 (by decide) ?_
      refine V_goto (tgt := 277) dX5_next_273 (by decide) ?_
      refine V_iret (st := []) dX5_next_277 rfl ?_
      have h59 : c ≠ 59 := fun e => c3 (by rw [e]; rfl)
      rw [dn_o h59]
      exact ⟨by rw [show pick (trs 11) c = some 12 from pick_t (by have := (nI_eq (b := 62) (by omega) (by decide)).mp c268; omega)]; rfl, rfl⟩
  · refine V_iload_n 0 dX5_next_6 rfl ?_
    refine C_X5_38 rfl ⟨Nat.le_of_ble_eq_true rfl, Nat.le_of_ble_eq_true rfl⟩ (r_mayEnd_11) rfl (Nat.le_of_ble_eq_true rfl) dX5_next_7 rfl ?_
    refine V_if_eq (tgt := 17) dX5_next_10 (by decide) (fun c10 => ?_) (fun c10 => absurd (by decide) c10)
    refine V_iconst (v := -1) dX5_next_17 rfl ?_
    refine V_iret (st := []) dX5_next_18 rfl ?_
    exact ⟨by rw [show c = 59 from (nI_eq (b := 59) (by omega) (by decide)).mp c3]; rfl, rfl⟩
set_option maxRecDepth 20000 in
theorem r_next_12 {g : GE} {M : Mem} {sz : Nat} {x : Int32} (c : Nat) (hx : x = nI c) (hc : c ≤ 126) : Run g m_X5_next [.int 12, .int x] M sz 0 0 (Ret (some (.int (dnI (dn 12 c)))) M) := by
  subst hx
  refine Run.of rfl (by decide) (Nat.le_of_ble_eq_true rfl) ?_
  show V g m_X5_next 0 _ [] _ _ _ _ _
  refine V_iload_n 1 dX5_next_0 rfl ?_
  refine V_bipush (v := 59) dX5_next_1 (by decide) ?_
  refine V_icmp_ne (tgt := 19) dX5_next_3 (by decide) (fun c3 => ?_) (fun c3 => ?_)
  · refine V_iload_n 0 dX5_next_19 rfl ?_
    refine V_tabIn (off := 258) (tgt := 278) dX5_next_20 (by decide) (by decide) (by decide) (by decide) ?_
    refine V_iload_n 1 dX5_next_278 rfl ?_
    refine V_bipush (v := 48) dX5_next_279 (by decide) ?_
    refine V_bipush (v := 52) dX5_next_281 (by decide) ?_
    refine C_X5_46 rfl ⟨Nat.le_of_ble_eq_true rfl, Nat.le_of_ble_eq_true rfl⟩ (r_isDigit c 48 52 rfl rfl rfl (by omega) (by decide) (by decide)) rfl (Nat.le_of_ble_eq_true rfl) dX5_next_283 rfl ?_
    refine V_if_eq (tgt := 294) dX5_next_286 (by decide) (fun c286 => ?_) (fun c286 => ?_)
    · refine V_iconst (v := -1) dX5_next_294 rfl ?_
      refine V_iret (st := []) dX5_next_295 rfl ?_
      have h59 : c ≠ 59 := fun e => c3 (by rw [e]; rfl)
      rw [dn_o h59]
      exact ⟨by rw [show pick (trs 12) c = none from pick_f (of_decide_eq_false (bI_0 c286))]; rfl, rfl⟩
    · refine V_bipush (v := 19) dX5_next_289 (by decide) ?_
      refine V_goto (tgt := 295) dX5_next_291 (by decide) ?_
      refine V_iret (st := []) dX5_next_295 rfl ?_
      have h59 : c ≠ 59 := fun e => c3 (by rw [e]; rfl)
      rw [dn_o h59]
      exact ⟨by rw [show pick (trs 12) c = some 19 from pick_t (of_decide_eq_true (bI_1 c286))]; rfl, rfl⟩
  · refine V_iload_n 0 dX5_next_6 rfl ?_
    refine C_X5_38 rfl ⟨Nat.le_of_ble_eq_true rfl, Nat.le_of_ble_eq_true rfl⟩ (r_mayEnd_12) rfl (Nat.le_of_ble_eq_true rfl) dX5_next_7 rfl ?_
    refine V_if_eq (tgt := 17) dX5_next_10 (by decide) (fun c10 => ?_) (fun c10 => absurd (by decide) c10)
    refine V_iconst (v := -1) dX5_next_17 rfl ?_
    refine V_iret (st := []) dX5_next_18 rfl ?_
    exact ⟨by rw [show c = 59 from (nI_eq (b := 59) (by omega) (by decide)).mp c3]; rfl, rfl⟩
set_option maxRecDepth 20000 in
theorem r_next_13 {g : GE} {M : Mem} {sz : Nat} {x : Int32} (c : Nat) (hx : x = nI c) (hc : c ≤ 126) : Run g m_X5_next [.int 13, .int x] M sz 0 0 (Ret (some (.int (dnI (dn 13 c)))) M) := by
  subst hx
  refine Run.of rfl (by decide) (Nat.le_of_ble_eq_true rfl) ?_
  show V g m_X5_next 0 _ [] _ _ _ _ _
  refine V_iload_n 1 dX5_next_0 rfl ?_
  refine V_bipush (v := 59) dX5_next_1 (by decide) ?_
  refine V_icmp_ne (tgt := 19) dX5_next_3 (by decide) (fun c3 => ?_) (fun c3 => ?_)
  · refine V_iload_n 0 dX5_next_19 rfl ?_
    refine V_tabOut (tgt := 296) dX5_next_20 (by decide) (by decide) ?_
    refine V_iload_n 0 dX5_next_296 rfl ?_
    refine V_iload_n 1 dX5_next_297 rfl ?_
    refine C_X5_50 rfl ⟨Nat.le_of_ble_eq_true rfl, Nat.le_of_ble_eq_true rfl⟩ (r_nob_13 c rfl hc) rfl (Nat.le_of_ble_eq_true rfl) dX5_next_298 rfl ?_
    refine V_iret (st := []) dX5_next_301 rfl ?_
    have h59 : c ≠ 59 := fun e => c3 (by rw [e]; rfl)
    rw [dn_o h59]
    exact ⟨rfl, rfl⟩
  · refine V_iload_n 0 dX5_next_6 rfl ?_
    refine C_X5_38 rfl ⟨Nat.le_of_ble_eq_true rfl, Nat.le_of_ble_eq_true rfl⟩ (r_mayEnd_13) rfl (Nat.le_of_ble_eq_true rfl) dX5_next_7 rfl ?_
    refine V_if_eq (tgt := 17) dX5_next_10 (by decide) (fun c10 => ?_) (fun c10 => absurd (by decide) c10)
    refine V_iconst (v := -1) dX5_next_17 rfl ?_
    refine V_iret (st := []) dX5_next_18 rfl ?_
    exact ⟨by rw [show c = 59 from (nI_eq (b := 59) (by omega) (by decide)).mp c3]; rfl, rfl⟩
set_option maxRecDepth 20000 in
theorem r_next_14 {g : GE} {M : Mem} {sz : Nat} {x : Int32} (c : Nat) (hx : x = nI c) (hc : c ≤ 126) : Run g m_X5_next [.int 14, .int x] M sz 0 0 (Ret (some (.int (dnI (dn 14 c)))) M) := by
  subst hx
  refine Run.of rfl (by decide) (Nat.le_of_ble_eq_true rfl) ?_
  show V g m_X5_next 0 _ [] _ _ _ _ _
  refine V_iload_n 1 dX5_next_0 rfl ?_
  refine V_bipush (v := 59) dX5_next_1 (by decide) ?_
  refine V_icmp_ne (tgt := 19) dX5_next_3 (by decide) (fun c3 => ?_) (fun c3 => ?_)
  · refine V_iload_n 0 dX5_next_19 rfl ?_
    refine V_tabOut (tgt := 296) dX5_next_20 (by decide) (by decide) ?_
    refine V_iload_n 0 dX5_next_296 rfl ?_
    refine V_iload_n 1 dX5_next_297 rfl ?_
    refine C_X5_50 rfl ⟨Nat.le_of_ble_eq_true rfl, Nat.le_of_ble_eq_true rfl⟩ (r_nob_14 c rfl hc) rfl (Nat.le_of_ble_eq_true rfl) dX5_next_298 rfl ?_
    refine V_iret (st := []) dX5_next_301 rfl ?_
    have h59 : c ≠ 59 := fun e => c3 (by rw [e]; rfl)
    rw [dn_o h59]
    exact ⟨rfl, rfl⟩
  · refine V_iload_n 0 dX5_next_6 rfl ?_
    refine C_X5_38 rfl ⟨Nat.le_of_ble_eq_true rfl, Nat.le_of_ble_eq_true rfl⟩ (r_mayEnd_14) rfl (Nat.le_of_ble_eq_true rfl) dX5_next_7 rfl ?_
    refine V_if_eq (tgt := 17) dX5_next_10 (by decide) (fun c10 => ?_) (fun c10 => absurd (by decide) c10)
    refine V_iconst (v := -1) dX5_next_17 rfl ?_
    refine V_iret (st := []) dX5_next_18 rfl ?_
    exact ⟨by rw [show c = 59 from (nI_eq (b := 59) (by omega) (by decide)).mp c3]; rfl, rfl⟩
set_option maxRecDepth 20000 in
theorem r_next_15 {g : GE} {M : Mem} {sz : Nat} {x : Int32} (c : Nat) (hx : x = nI c) (hc : c ≤ 126) : Run g m_X5_next [.int 15, .int x] M sz 0 0 (Ret (some (.int (dnI (dn 15 c)))) M) := by
  subst hx
  refine Run.of rfl (by decide) (Nat.le_of_ble_eq_true rfl) ?_
  show V g m_X5_next 0 _ [] _ _ _ _ _
  refine V_iload_n 1 dX5_next_0 rfl ?_
  refine V_bipush (v := 59) dX5_next_1 (by decide) ?_
  refine V_icmp_ne (tgt := 19) dX5_next_3 (by decide) (fun c3 => ?_) (fun c3 => ?_)
  · refine V_iload_n 0 dX5_next_19 rfl ?_
    refine V_tabOut (tgt := 296) dX5_next_20 (by decide) (by decide) ?_
    refine V_iload_n 0 dX5_next_296 rfl ?_
    refine V_iload_n 1 dX5_next_297 rfl ?_
    refine C_X5_50 rfl ⟨Nat.le_of_ble_eq_true rfl, Nat.le_of_ble_eq_true rfl⟩ (r_nob_15 c rfl hc) rfl (Nat.le_of_ble_eq_true rfl) dX5_next_298 rfl ?_
    refine V_iret (st := []) dX5_next_301 rfl ?_
    have h59 : c ≠ 59 := fun e => c3 (by rw [e]; rfl)
    rw [dn_o h59]
    exact ⟨rfl, rfl⟩
  · refine V_iload_n 0 dX5_next_6 rfl ?_
    refine C_X5_38 rfl ⟨Nat.le_of_ble_eq_true rfl, Nat.le_of_ble_eq_true rfl⟩ (r_mayEnd_15) rfl (Nat.le_of_ble_eq_true rfl) dX5_next_7 rfl ?_
    refine V_if_eq (tgt := 17) dX5_next_10 (by decide) (fun c10 => ?_) (fun c10 => absurd (by decide) c10)
    refine V_iconst (v := -1) dX5_next_17 rfl ?_
    refine V_iret (st := []) dX5_next_18 rfl ?_
    exact ⟨by rw [show c = 59 from (nI_eq (b := 59) (by omega) (by decide)).mp c3]; rfl, rfl⟩
set_option maxRecDepth 20000 in
theorem r_next_16 {g : GE} {M : Mem} {sz : Nat} {x : Int32} (c : Nat) (hx : x = nI c) (hc : c ≤ 126) : Run g m_X5_next [.int 16, .int x] M sz 0 0 (Ret (some (.int (dnI (dn 16 c)))) M) := by
  subst hx
  refine Run.of rfl (by decide) (Nat.le_of_ble_eq_true rfl) ?_
  show V g m_X5_next 0 _ [] _ _ _ _ _
  refine V_iload_n 1 dX5_next_0 rfl ?_
  refine V_bipush (v := 59) dX5_next_1 (by decide) ?_
  refine V_icmp_ne (tgt := 19) dX5_next_3 (by decide) (fun c3 => ?_) (fun c3 => ?_)
  · refine V_iload_n 0 dX5_next_19 rfl ?_
    refine V_tabOut (tgt := 296) dX5_next_20 (by decide) (by decide) ?_
    refine V_iload_n 0 dX5_next_296 rfl ?_
    refine V_iload_n 1 dX5_next_297 rfl ?_
    refine C_X5_50 rfl ⟨Nat.le_of_ble_eq_true rfl, Nat.le_of_ble_eq_true rfl⟩ (r_nob_16 c rfl hc) rfl (Nat.le_of_ble_eq_true rfl) dX5_next_298 rfl ?_
    refine V_iret (st := []) dX5_next_301 rfl ?_
    have h59 : c ≠ 59 := fun e => c3 (by rw [e]; rfl)
    rw [dn_o h59]
    exact ⟨rfl, rfl⟩
  · refine V_iload_n 0 dX5_next_6 rfl ?_
    refine C_X5_38 rfl ⟨Nat.le_of_ble_eq_true rfl, Nat.le_of_ble_eq_true rfl⟩ (r_mayEnd_16) rfl (Nat.le_of_ble_eq_true rfl) dX5_next_7 rfl ?_
    refine V_if_eq (tgt := 17) dX5_next_10 (by decide) (fun c10 => absurd c10 (by decide)) (fun c10 => ?_)
    refine V_iconst (v := 0) dX5_next_13 rfl ?_
    refine V_goto (tgt := 18) dX5_next_14 (by decide) ?_
    refine V_iret (st := []) dX5_next_18 rfl ?_
    exact ⟨by rw [show c = 59 from (nI_eq (b := 59) (by omega) (by decide)).mp c3]; rfl, rfl⟩
set_option maxRecDepth 20000 in
theorem r_next_17 {g : GE} {M : Mem} {sz : Nat} {x : Int32} (c : Nat) (hx : x = nI c) (hc : c ≤ 126) : Run g m_X5_next [.int 17, .int x] M sz 0 0 (Ret (some (.int (dnI (dn 17 c)))) M) := by
  subst hx
  refine Run.of rfl (by decide) (Nat.le_of_ble_eq_true rfl) ?_
  show V g m_X5_next 0 _ [] _ _ _ _ _
  refine V_iload_n 1 dX5_next_0 rfl ?_
  refine V_bipush (v := 59) dX5_next_1 (by decide) ?_
  refine V_icmp_ne (tgt := 19) dX5_next_3 (by decide) (fun c3 => ?_) (fun c3 => ?_)
  · refine V_iload_n 0 dX5_next_19 rfl ?_
    refine V_tabOut (tgt := 296) dX5_next_20 (by decide) (by decide) ?_
    refine V_iload_n 0 dX5_next_296 rfl ?_
    refine V_iload_n 1 dX5_next_297 rfl ?_
    refine C_X5_50 rfl ⟨Nat.le_of_ble_eq_true rfl, Nat.le_of_ble_eq_true rfl⟩ (r_nob_17 c rfl hc) rfl (Nat.le_of_ble_eq_true rfl) dX5_next_298 rfl ?_
    refine V_iret (st := []) dX5_next_301 rfl ?_
    have h59 : c ≠ 59 := fun e => c3 (by rw [e]; rfl)
    rw [dn_o h59]
    exact ⟨rfl, rfl⟩
  · refine V_iload_n 0 dX5_next_6 rfl ?_
    refine C_X5_38 rfl ⟨Nat.le_of_ble_eq_true rfl, Nat.le_of_ble_eq_true rfl⟩ (r_mayEnd_17) rfl (Nat.le_of_ble_eq_true rfl) dX5_next_7 rfl ?_
    refine V_if_eq (tgt := 17) dX5_next_10 (by decide) (fun c10 => absurd c10 (by decide)) (fun c10 => ?_)
    refine V_iconst (v := 0) dX5_next_13 rfl ?_
    refine V_goto (tgt := 18) dX5_next_14 (by decide) ?_
    refine V_iret (st := []) dX5_next_18 rfl ?_
    exact ⟨by rw [show c = 59 from (nI_eq (b := 59) (by omega) (by decide)).mp c3]; rfl, rfl⟩
set_option maxRecDepth 20000 in
theorem r_next_18 {g : GE} {M : Mem} {sz : Nat} {x : Int32} (c : Nat) (hx : x = nI c) (hc : c ≤ 126) : Run g m_X5_next [.int 18, .int x] M sz 0 0 (Ret (some (.int (dnI (dn 18 c)))) M) := by
  subst hx
  refine Run.of rfl (by decide) (Nat.le_of_ble_eq_true rfl) ?_
  show V g m_X5_next 0 _ [] _ _ _ _ _
  refine V_iload_n 1 dX5_next_0 rfl ?_
  refine V_bipush (v := 59) dX5_next_1 (by decide) ?_
  refine V_icmp_ne (tgt := 19) dX5_next_3 (by decide) (fun c3 => ?_) (fun c3 => ?_)
  · refine V_iload_n 0 dX5_next_19 rfl ?_
    refine V_tabOut (tgt := 296) dX5_next_20 (by decide) (by decide) ?_
    refine V_iload_n 0 dX5_next_296 rfl ?_
    refine V_iload_n 1 dX5_next_297 rfl ?_
    refine C_X5_50 rfl ⟨Nat.le_of_ble_eq_true rfl, Nat.le_of_ble_eq_true rfl⟩ (r_nob_18 c rfl hc) rfl (Nat.le_of_ble_eq_true rfl) dX5_next_298 rfl ?_
    refine V_iret (st := []) dX5_next_301 rfl ?_
    have h59 : c ≠ 59 := fun e => c3 (by rw [e]; rfl)
    rw [dn_o h59]
    exact ⟨rfl, rfl⟩
  · refine V_iload_n 0 dX5_next_6 rfl ?_
    refine C_X5_38 rfl ⟨Nat.le_of_ble_eq_true rfl, Nat.le_of_ble_eq_true rfl⟩ (r_mayEnd_18) rfl (Nat.le_of_ble_eq_true rfl) dX5_next_7 rfl ?_
    refine V_if_eq (tgt := 17) dX5_next_10 (by decide) (fun c10 => absurd c10 (by decide)) (fun c10 => ?_)
    refine V_iconst (v := 0) dX5_next_13 rfl ?_
    refine V_goto (tgt := 18) dX5_next_14 (by decide) ?_
    refine V_iret (st := []) dX5_next_18 rfl ?_
    exact ⟨by rw [show c = 59 from (nI_eq (b := 59) (by omega) (by decide)).mp c3]; rfl, rfl⟩
set_option maxRecDepth 20000 in
theorem r_next_19 {g : GE} {M : Mem} {sz : Nat} {x : Int32} (c : Nat) (hx : x = nI c) (hc : c ≤ 126) : Run g m_X5_next [.int 19, .int x] M sz 0 0 (Ret (some (.int (dnI (dn 19 c)))) M) := by
  subst hx
  refine Run.of rfl (by decide) (Nat.le_of_ble_eq_true rfl) ?_
  show V g m_X5_next 0 _ [] _ _ _ _ _
  refine V_iload_n 1 dX5_next_0 rfl ?_
  refine V_bipush (v := 59) dX5_next_1 (by decide) ?_
  refine V_icmp_ne (tgt := 19) dX5_next_3 (by decide) (fun c3 => ?_) (fun c3 => ?_)
  · refine V_iload_n 0 dX5_next_19 rfl ?_
    refine V_tabOut (tgt := 296) dX5_next_20 (by decide) (by decide) ?_
    refine V_iload_n 0 dX5_next_296 rfl ?_
    refine V_iload_n 1 dX5_next_297 rfl ?_
    refine C_X5_50 rfl ⟨Nat.le_of_ble_eq_true rfl, Nat.le_of_ble_eq_true rfl⟩ (r_nob_19 c rfl hc) rfl (Nat.le_of_ble_eq_true rfl) dX5_next_298 rfl ?_
    refine V_iret (st := []) dX5_next_301 rfl ?_
    have h59 : c ≠ 59 := fun e => c3 (by rw [e]; rfl)
    rw [dn_o h59]
    exact ⟨rfl, rfl⟩
  · refine V_iload_n 0 dX5_next_6 rfl ?_
    refine C_X5_38 rfl ⟨Nat.le_of_ble_eq_true rfl, Nat.le_of_ble_eq_true rfl⟩ (r_mayEnd_19) rfl (Nat.le_of_ble_eq_true rfl) dX5_next_7 rfl ?_
    refine V_if_eq (tgt := 17) dX5_next_10 (by decide) (fun c10 => absurd c10 (by decide)) (fun c10 => ?_)
    refine V_iconst (v := 0) dX5_next_13 rfl ?_
    refine V_goto (tgt := 18) dX5_next_14 (by decide) ?_
    refine V_iret (st := []) dX5_next_18 rfl ?_
    exact ⟨by rw [show c = 59 from (nI_eq (b := 59) (by omega) (by decide)).mp c3]; rfl, rfl⟩
theorem r_next {g : GE} {M : Mem} {sz : Nat} {x y : Int32} (s c : Nat) (hy : y = nI s) (hs : s < 20) (hx : x = nI c) (hc : c ≤ 126) : Run g m_X5_next [.int y, .int x] M sz 0 0 (Ret (some (.int (dnI (dn s c)))) M) := by
  subst hy
  match s, hs with
  | 0, _ => exact r_next_0 c hx hc
  | 1, _ => exact r_next_1 c hx hc
  | 2, _ => exact r_next_2 c hx hc
  | 3, _ => exact r_next_3 c hx hc
  | 4, _ => exact r_next_4 c hx hc
  | 5, _ => exact r_next_5 c hx hc
  | 6, _ => exact r_next_6 c hx hc
  | 7, _ => exact r_next_7 c hx hc
  | 8, _ => exact r_next_8 c hx hc
  | 9, _ => exact r_next_9 c hx hc
  | 10, _ => exact r_next_10 c hx hc
  | 11, _ => exact r_next_11 c hx hc
  | 12, _ => exact r_next_12 c hx hc
  | 13, _ => exact r_next_13 c hx hc
  | 14, _ => exact r_next_14 c hx hc
  | 15, _ => exact r_next_15 c hx hc
  | 16, _ => exact r_next_16 c hx hc
  | 17, _ => exact r_next_17 c hx hc
  | 18, _ => exact r_next_18 c hx hc
  | 19, _ => exact r_next_19 c hx hc
  | s + 20, h => exact absurd h (by omega)
def rdE (t : Nat → Nat) : Nat → Nat → Nat → Nat
  | _, i, 0 => i
  | s, i, m + 1 => match dn s (t i) with
    | none => i
    | some q => rdE t q (i + 1) m
def rdF (t : Nat → Nat) : Nat → Nat → Nat → Option Nat
  | s, _, 0 => some s
  | s, i, m + 1 => match dn s (t i) with
    | none => none
    | some q => rdF t q (i + 1) m
theorem rdE_n {t : Nat → Nat} {s i m : Nat} (h : dn s (t i) = none) : rdE t s i (m + 1) = i := by show (match dn s (t i) with | none => i | some q => rdE t q (i + 1) m) = i; rw [h]
theorem rdE_s {t : Nat → Nat} {s i m q : Nat} (h : dn s (t i) = some q) : rdE t s i (m + 1) = rdE t q (i + 1) m := by show (match dn s (t i) with | none => i | some q => rdE t q (i + 1) m) = _; rw [h]
theorem rdF_n {t : Nat → Nat} {s i m : Nat} (h : dn s (t i) = none) : rdF t s i (m + 1) = none := by show (match dn s (t i) with | none => none | some q => rdF t q (i + 1) m) = none; rw [h]
theorem rdF_s {t : Nat → Nat} {s i m q : Nat} (h : dn s (t i) = some q) : rdF t s i (m + 1) = rdF t q (i + 1) m := by show (match dn s (t i) with | none => none | some q => rdF t q (i + 1) m) = _; rw [h]
/-- what a text's end tells: where it is wrong, and whether it may end -/
theorem rd_end {t : Nat → Nat} : ∀ (m s i : Nat), s < 20 → (rdF t s i m = none ∧ i ≤ rdE t s i m ∧ rdE t s i m < i + m) ∨ ∃ q, q < 20 ∧ rdF t s i m = some q ∧ rdE t s i m = i + m
  | 0, s, i, hs => Or.inr ⟨s, hs, rfl, rfl⟩
  | m + 1, s, i, hs => by
    cases h : dn s (t i) with
    | none => exact Or.inl ⟨rdF_n h, by rw [rdE_n h]; exact Nat.le_refl _, by rw [rdE_n h]; omega⟩
    | some q =>
      rw [rdE_s h, rdF_s h]
      rcases rd_end m q (i + 1) (dn_lt hs h) with ⟨a, b, c⟩ | ⟨r, a, b, c⟩
      · exact Or.inl ⟨a, by omega, by omega⟩
      · exact Or.inr ⟨r, a, b, by omega⟩
def okT (t : Nat → Nat) (len : Nat) : Bool := match rdF t 0 0 len with
  | none => false
  | some s => me s
/-- the codes as numbers -/
def TX (t : Nat → Nat) (tx : Nat → Int32) (len : Nat) : Prop := ∀ k, k < len → 33 ≤ t k ∧ t k ≤ 126 ∧ tx k = nI (t k)
theorem dnI_eq {o : Option Nat} (h : ∀ q, o = some q → q < 20) : dnI o = -1 ↔ o = none := by
  cases o with
  | none => exact ⟨fun _ => rfl, fun _ => rfl⟩
  | some q => exact ⟨fun e => absurd e (m1_ne (by have := h q rfl; omega)), fun e => (by cases e)⟩
theorem dnI_ne {o : Option Nat} : (¬ dnI o = -1) → ∃ q, o = some q := by
  intro h
  cases o with
  | none => exact absurd rfl h
  | some q => exact ⟨q, rfl⟩
set_option maxRecDepth 20000 in
theorem r_read {g : GE} {M : Mem} {sz : Nat} {len : Nat} {tx : Nat → Int32} {t : Nat → Nat} (hl : len ≤ 60) (ht : TX t tx len) {z : Int32} (h1 : M 83 = some (TO g len z)) (h2 : M 84 = some (eI g 60 tx)) : Run g m_X5_read [rf g 83] M sz 0 0 (Ret (some (.int (nI (rdE t 0 0 len)))) (mup M 83 (TO g len (dnI (rdF t 0 0 len))))) := by
  have L : ∀ m s i : Nat, i + m = len → s < 20 → V g m_X5_read 7 [(1, .int (nI i)), (0, rf g 83)] [] (mup M 83 (TO g len (nI s))) sz 0 0 (Ret (some (.int (nI (rdE t s i m)))) (mup M 83 (TO g len (dnI (rdF t s i m))))) := by
    intro m
    induction m with
    | zero =>
      intro s i hi hs
      obtain rfl : len = i := by omega
      refine V_iload_n 0 dX5_read_7 rfl ?_
      refine V_aload_n 1 dX5_read_8 rfl ?_
      refine G_X5_15 rfl (show _ = some (TO g len (nI s)) from mup_eq _ _ _) rfl dX5_read_9 ?_
      refine V_icmp_ge (tgt := 50) dX5_read_12 (by decide) (fun c12 => ?_) (fun c12 => absurd (nI_le (Nat.le_refl _) (by omega)) c12)
      refine V_aload_n 1 dX5_read_50 rfl ?_
      refine G_X5_15 rfl (show _ = some (TO g len (nI s)) from mup_eq _ _ _) rfl dX5_read_51 ?_
      refine V_iret (st := []) dX5_read_54 rfl ?_
      exact ⟨rfl, rfl⟩
    | succ m ih =>
      intro s i hi hs
      refine V_iload_n 0 dX5_read_7 rfl ?_
      refine V_aload_n 1 dX5_read_8 rfl ?_
      refine G_X5_15 rfl (show _ = some (TO g len (nI s)) from mup_eq _ _ _) rfl dX5_read_9 ?_
      refine V_icmp_ge (tgt := 50) dX5_read_12 (by decide) (fun c12 => absurd c12 (nI_ge (by omega) (by omega))) (fun c12 => ?_)
      refine V_aload_n 1 dX5_read_15 rfl ?_
      refine V_aload_n 1 dX5_read_16 rfl ?_
      refine G_X5_19 rfl (show _ = some (TO g len (nI s)) from mup_eq _ _ _) rfl dX5_read_17 ?_
      refine V_pc (pc2 := 20) rfl ?_
      refine V_aload_n 1 dX5_read_20 rfl ?_
      refine G_X5_9 rfl (show _ = some (TO g len (nI s)) from mup_eq _ _ _) rfl dX5_read_21 ?_
      refine V_iload_n 0 dX5_read_24 rfl ?_
      refine C_X5_26 rfl ⟨Nat.le_of_ble_eq_true rfl, Nat.le_of_ble_eq_true rfl⟩ (r_at ((mup_ne _ _ (by decide)).trans h2) i rfl (by omega) (by decide)) rfl (Nat.le_of_ble_eq_true rfl) dX5_read_25 rfl ?_
      rw [(ht i (by omega)).2.2]
      refine C_X5_30 rfl ⟨Nat.le_of_ble_eq_true rfl, Nat.le_of_ble_eq_true rfl⟩ (r_next s (t i) rfl hs rfl (ht i (by omega)).2.1) rfl (Nat.le_of_ble_eq_true rfl) dX5_read_28 rfl ?_
      refine P_X5_19 rfl (show _ = some (TO g len (nI s)) from mup_eq _ _ _) (Nat.le_of_ble_eq_true rfl) rfl rfl dX5_read_31 ?_
      refine V_aload_n 1 dX5_read_34 rfl ?_
      refine G_X5_19 rfl (show _ = some (TO g len (dnI (dn s (t i)))) from mup_eq _ _ _) rfl dX5_read_35 ?_
      refine V_pc (pc2 := 38) rfl ?_
      refine V_iconst (v := -1) dX5_read_38 rfl ?_
      refine V_icmp_ne (tgt := 44) dX5_read_39 (by decide) (fun c39 => ?_) (fun c39 => ?_)
      · refine V_iinc (v := _ + 1) (lv2 := [(1, .int _), (0, .ref _)]) 0 dX5_read_44 rfl rfl (Nat.le_of_ble_eq_true rfl) rfl ?_
        refine V_goto (tgt := 7) dX5_read_47 (by decide) ?_
        refine V_lv (lv2 := [(1, .int _), (0, .ref _)]) [0, 1] rfl ?_
        obtain ⟨q, hq⟩ := dnI_ne c39
        rw [rdE_s hq, rdF_s hq, nI_1, mup_mup, hq]
        exact ih q (i + 1) (by omega) (dn_lt hs hq)
      · refine V_iload_n 0 dX5_read_42 rfl ?_
        refine V_iret (st := []) dX5_read_43 rfl ?_
        rw [dnI_eq (fun q h => dn_lt hs h)] at c39
        rw [rdE_n c39, rdF_n c39, mup_mup, c39]
        exact ⟨rfl, rfl⟩
  refine Run.of rfl (by decide) (Nat.le_of_ble_eq_true rfl) ?_
  show V g m_X5_read 0 _ [] _ _ _ _ _
  refine V_aload_n 0 dX5_read_0 rfl ?_
  refine V_iconst (v := 0) dX5_read_1 rfl ?_
  refine P_X5_19 rfl (show _ = some (TO g len z) from h1) (Nat.le_of_ble_eq_true rfl) rfl rfl dX5_read_2 ?_
  refine V_iconst (v := 0) dX5_read_5 rfl ?_
  refine V_istore_n (lv2 := [(1, .int _), (0, .ref _)]) dX5_read_6 (Nat.le_of_ble_eq_true rfl) rfl ?_
  refine V_lv (lv2 := [(1, .int _), (0, .ref _)]) [0, 1] rfl ?_
  exact L len 0 0 (by omega) (by decide)
set_option maxRecDepth 20000 in
theorem r_isComplete {g : GE} {M : Mem} {sz : Nat} {len : Nat} {tx : Nat → Int32} {t : Nat → Nat} (hl : len ≤ 60) (ht : TX t tx len) {z : Int32} (h1 : M 83 = some (TO g len z)) (h2 : M 84 = some (eI g 60 tx)) : Run g m_X5_isComplete [rf g 83] M sz 0 0 (Ret (some (.int (bI (okT t len)))) (mup M 83 (TO g len (dnI (rdF t 0 0 len))))) := by
  refine Run.of rfl (by decide) (Nat.le_of_ble_eq_true rfl) ?_
  show V g m_X5_isComplete 0 _ [] _ _ _ _ _
  refine V_aload_n 0 dX5_isComplete_0 rfl ?_
  refine C_X5_34 (show _ = some (TO g len z) from h1) rfl ⟨Nat.le_of_ble_eq_true rfl, Nat.le_of_ble_eq_true rfl⟩ (r_read hl ht h1 h2) rfl (Nat.le_of_ble_eq_true rfl) dX5_isComplete_1 rfl ?_
  refine V_aload_n 0 dX5_isComplete_4 rfl ?_
  refine G_X5_15 rfl (show _ = some (TO g len (dnI (rdF t 0 0 len))) from mup_eq _ _ _) rfl dX5_isComplete_5 ?_
  refine V_icmp_ne (tgt := 25) dX5_isComplete_8 (by decide) (fun c8 => ?_) (fun c8 => ?_)
  · refine V_iconst (v := 0) dX5_isComplete_25 rfl ?_
    refine V_zret (st := []) dX5_isComplete_26 rfl (by simp) ?_
    have e9 : okT t len = false := by
      rcases rd_end (t := t) len 0 0 (by decide) with ⟨a, b, c⟩ | ⟨q, a, b, c⟩
      · unfold okT; rw [a]
      · exact absurd (by rw [c, Nat.zero_add]) c8
    rw [e9]
    exact ⟨rfl, rfl⟩
  · refine V_aload_n 0 dX5_isComplete_11 rfl ?_
    refine G_X5_19 rfl (show _ = some (TO g len (dnI (rdF t 0 0 len))) from mup_eq _ _ _) rfl dX5_isComplete_12 ?_
    have hq9 : ∃ q, q < 20 ∧ rdF t 0 0 len = some q := by
      rcases rd_end (t := t) len 0 0 (by decide) with ⟨a, b, c⟩ | ⟨q, a, b, c⟩
      · have := (nI_eq (by omega) (by omega)).mp c8; omega
      · exact ⟨q, a, b⟩
    obtain ⟨q, hq, eq9⟩ := hq9
    rw [eq9]
    refine C_X5_38 rfl ⟨Nat.le_of_ble_eq_true rfl, Nat.le_of_ble_eq_true rfl⟩ (r_mayEnd q rfl hq) rfl (Nat.le_of_ble_eq_true rfl) dX5_isComplete_15 rfl ?_
    refine V_if_eq (tgt := 25) dX5_isComplete_18 (by decide) (fun c18 => ?_) (fun c18 => ?_)
    · refine V_iconst (v := 0) dX5_isComplete_25 rfl ?_
      refine V_zret (st := []) dX5_isComplete_26 rfl (by simp) ?_
      have e9 : okT t len = me q := by unfold okT; rw [eq9]
      rw [e9, bI_0 c18]
      exact ⟨rfl, rfl⟩
    · refine V_iconst (v := 1) dX5_isComplete_21 rfl ?_
      refine V_goto (tgt := 26) dX5_isComplete_22 (by decide) ?_
      refine V_zret (st := []) dX5_isComplete_26 rfl (by simp) ?_
      have e9 : okT t len = me q := by unfold okT; rw [eq9]
      rw [e9, bI_1 c18]
      exact ⟨rfl, rfl⟩
theorem CW.st {g : GE} {M : Mem} {σ τ : Nat → Int32} {hk : Bool} {n : Nat} {ps : Nat → Nat → Int32} {len : Nat} {tx : Nat → Int32} (h : CW g M σ τ hk n ps len tx) (z : Int32) : CW g (mup M 83 (TO g len z)) σ τ hk n ps len tx :=
  h.txt ⟨⟨z, mup_eq _ _ _⟩, (mup_ne _ _ (by decide)).trans h.2.2.2.2.1.2⟩ ((FR.refl M 83 2).put (by omega))
set_option maxRecDepth 20000 in
theorem x_firstError_ok {g : GE} {M : Mem} {sz : Nat} {σ τ : Nat → Int32} {hk : Bool} {n : Nat} {ps : Nat → Nat → Int32} {len : Nat} {tx : Nat → Int32} (hC : CW g M σ τ hk n ps len tx) {t : Nat → Nat} (hl : len ≤ 60) (ht : TX t tx len) : Run g m_X8_firstError [rf g 0] M sz 0 0 (RetP (some (.int (nI (rdE t 0 0 len)))) (fun M2 => CW g M2 (σ) (τ) (hk) (n) (ps) (len) (tx) ∧ FR M M2 0 96)) := by
  obtain ⟨z, t1⟩ := hC.2.2.2.2.1.1
  refine Run.of rfl (by decide) (Nat.le_of_ble_eq_true rfl) ?_
  show V g m_X8_firstError 0 _ [] _ _ _ _ _
  refine V_aload_n 0 dX8_firstError_0 rfl ?_
  refine G_X8_29 rfl hC.1 rfl dX8_firstError_1 ?_
  refine C_X8_186 (show _ = some (TO g len z) from t1) rfl ⟨Nat.le_of_ble_eq_true rfl, Nat.le_of_ble_eq_true rfl⟩ (r_read hl ht t1 hC.2.2.2.2.1.2) rfl (Nat.le_of_ble_eq_true rfl) dX8_firstError_4 rfl ?_
  refine V_iret (st := []) dX8_firstError_7 rfl ?_
  exact ⟨rfl, hC.st _, (FR.refl M 0 96).put (by omega)⟩
