/-! texts: how the reference reads them -/
def nxN (t : Nat → Nat) (len p : Nat) : Nat := if p < len then t p else 0
theorem nxN_lt {t : Nat → Nat} {len p : Nat} (h : p < len) : nxN t len p = t p := if_pos h
theorem nxN_le {t : Nat → Nat} {tx : Nat → Int32} {len : Nat} (ht : TX t tx len) (p : Nat) : nxN t len p ≤ 126 := by
  unfold nxN; split
  · rename_i h; exact (ht p h).2.1
  · omega
abbrev PS : Type := Nat × Bool
def sgP (t : Nat → Nat) (len c : Nat) (s : PS) : PS := if s.2 = true ∨ nxN t len s.1 ≠ c then (s.1, true) else (s.1 + 1, false)
def dgP (t : Nat → Nat) (len l h : Nat) (s : PS) : PS := if s.2 = true ∨ ¬ (l + 48 ≤ nxN t len s.1 ∧ nxN t len s.1 ≤ h + 48) then (s.1, true) else (s.1 + 1, false)
def dvP (t : Nat → Nat) (len : Nat) (s : PS) : Int32 := nI (nxN t len s.1) - 48
def nmC (t : Nat → Nat) (len most its p : Nat) : Bool := decide (48 ≤ nxN t len p ∧ nxN t len p ≤ 57 ∧ 10 * its + (nxN t len p - 48) ≤ most)
def nmL (t : Nat → Nat) (len most : Nat) : Nat → Nat → Nat → Nat × Nat
  | 0, its, p => (its, p)
  | m + 1, its, p => if nmC t len most its p = true then nmL t len most m (10 * its + (nxN t len p - 48)) (p + 1) else (its, p)
def nmP (t : Nat → Nat) (len most : Nat) (s : PS) : PS := if (dgP t len 1 9 s).2 = true then dgP t len 1 9 s else ((nmL t len most (len + 1 - (dgP t len 1 9 s).1) (nxN t len s.1 - 48) (dgP t len 1 9 s).1).2, false)
def nvP (t : Nat → Nat) (len most : Nat) (s : PS) : Int32 := if (dgP t len 1 9 s).2 = true then dvP t len s else nI (nmL t len most (len + 1 - (dgP t len 1 9 s).1) (nxN t len s.1 - 48) (dgP t len 1 9 s).1).1
/-- the model's numbers, at a place of its text -/
def PV (v : Nat → Int32) (s : PS) : Prop := v 4 = nI s.1 ∧ v 5 = bI s.2
def MT9 (g : GE) (M : Mem) (len : Nat) (tx v : Nat → Int32) : Prop := M 96 = some (MO g v) ∧ M 100 = some (eI g 60 tx) ∧ v 2 = nI len
theorem MT9.v {g : GE} {M : Mem} {len : Nat} {tx v : Nat → Int32} (h : MT9 g M len tx v) {w : Nat → Int32} (e : w 2 = v 2) : MT9 g (mup M 96 (MO g w)) len tx w := ⟨mup_eq _ _ _, (mup_ne _ _ (by decide)).trans h.2.1, e.trans h.2.2⟩
def psV (v : Nat → Int32) (s : PS) : Nat → Int32 := upd (upd v 5 (bI s.2)) 4 (nI s.1)
theorem psV_o {v : Nat → Int32} {s : PS} {k : Nat} (h4 : k ≠ 4) (h5 : k ≠ 5) : psV v s k = v k := (upd_ne h4).trans (upd_ne h5)
theorem psV_pv (v : Nat → Int32) (s : PS) : PV (psV v s) s := ⟨upd_at _ _ _, (upd_ne (by decide)).trans (upd_at _ _ _)⟩
theorem psV_self {v : Nat → Int32} {s : PS} (h : PV v s) : psV v s = v := by
  funext k
  unfold psV
  by_cases h4 : k = 4
  · subst h4; rw [upd_at, h.1]
  · rw [upd_ne h4]
    by_cases h5 : k = 5
    · subst h5; rw [upd_at, h.2]
    · rw [upd_ne h5]
theorem upd_upd (f : Nat → Int32) (k : Nat) (x y : Int32) : upd (upd f k x) k y = upd f k y := by funext j; unfold upd; split <;> rfl
theorem upd_comm (f : Nat → Int32) {k j : Nat} (h : k ≠ j) (x y : Int32) : upd (upd f k x) j y = upd (upd f j y) k x := by
  funext i; unfold upd
  by_cases h1 : i = k
  · subst h1; rw [if_pos rfl, if_pos rfl, if_neg h]
  · rw [if_neg h1, if_neg h1]
theorem upd_self (f : Nat → Int32) (k : Nat) : upd f k (f k) = f := by
  funext j
  unfold upd
  split
  · rename_i h; rw [h]
  · rfl
theorem psV_psV (v : Nat → Int32) (s s2 : PS) : psV (psV v s) s2 = psV v s2 := by unfold psV; rw [upd_comm _ (show 4 ≠ 5 by decide), upd_upd, upd_upd]
theorem sgP_w {t : Nat → Nat} {len c : Nat} {s : PS} (h : s.2 = true ∨ nxN t len s.1 ≠ c) : sgP t len c s = (s.1, true) := if_pos h
theorem sgP_o {t : Nat → Nat} {len c : Nat} {s : PS} (h : ¬ (s.2 = true ∨ nxN t len s.1 ≠ c)) : sgP t len c s = (s.1 + 1, false) := if_neg h
theorem dgP_w {t : Nat → Nat} {len l h : Nat} {s : PS} (e : s.2 = true ∨ ¬ (l + 48 ≤ nxN t len s.1 ∧ nxN t len s.1 ≤ h + 48)) : dgP t len l h s = (s.1, true) := if_pos e
theorem dgP_o {t : Nat → Nat} {len l h : Nat} {s : PS} (e : ¬ (s.2 = true ∨ ¬ (l + 48 ≤ nxN t len s.1 ∧ nxN t len s.1 ≤ h + 48))) : dgP t len l h s = (s.1 + 1, false) := if_neg e
set_option maxRecDepth 20000 in
theorem q9_next {g : GE} {M : Mem} {sz : Nat} {len : Nat} {tx v : Nat → Int32} {t : Nat → Nat} (hl : len ≤ 60) (ht : TX t tx len) (hM : MT9 g M len tx v) {s : PS} (hs : PV v s) (hp : s.1 ≤ len) : Run g m_X9_next [rf g 96] M sz 0 0 (Ret (some (.int (nI (nxN t len s.1)))) M) := by
  have e4 : v 4 = nI s.1 := hs.1
  refine Run.of rfl (by decide) (Nat.le_of_ble_eq_true rfl) ?_
  show V g m_X9_next 0 _ [] _ _ _ _ _
  refine V_aload_n 0 dX9_next_0 rfl ?_
  refine G_X9_162 rfl hM.1 rfl dX9_next_1 ?_
  refine V_aload_n 0 dX9_next_4 rfl ?_
  refine G_X9_159 rfl hM.1 rfl dX9_next_5 ?_
  refine V_icmp_ge (tgt := 23) dX9_next_8 (by decide) (fun c8 => ?_) (fun c8 => ?_)
  · refine V_iconst (v := 0) dX9_next_23 rfl ?_
    refine V_iret (st := []) dX9_next_24 rfl ?_
    rw [e4, hM.2.2] at c8
    exact ⟨by unfold nxN; rw [if_neg (by have := (nI_leI (by omega) (by omega)).mp c8; omega)]; rfl, rfl⟩
  · rw [e4, hM.2.2] at c8
    have hlt : s.1 < len := (nI_ltI (by omega) (by omega)).mp (Int32.not_le.mp c8)
    refine V_aload_n 0 dX9_next_11 rfl ?_
    refine G_X9_19 rfl hM.1 rfl dX9_next_12 ?_
    refine V_aload_n 0 dX9_next_15 rfl ?_
    refine G_X9_162 rfl hM.1 rfl dX9_next_16 ?_
    refine V_iald hM.2.1 (by rw [e4]; exact vp_in_nI (n := s.1) (by omega) (by decide)) dX9_next_19 ?_
    refine V_goto (tgt := 24) dX9_next_20 (by decide) ?_
    refine V_iret (st := []) dX9_next_24 rfl ?_
    rw [e4, nI_clamp (by omega), (ht _ hlt).2.2]
    exact ⟨by unfold nxN; rw [if_pos hlt], rfl⟩

set_option maxRecDepth 20000 in
theorem q9_sign {g : GE} {M : Mem} {sz : Nat} {len : Nat} {tx v : Nat → Int32} {t : Nat → Nat} (hl : len ≤ 60) (ht : TX t tx len) (hM : MT9 g M len tx v) {s : PS} (hs : PV v s) (hp : s.1 ≤ len) {x : Int32} (c : Nat) (hx : x = nI c) (hc : c ≤ 126) : Run g m_X9_sign [rf g 96, .int x] M sz 0 0 (Ret none (mup M 96 (MO g (psV v (sgP t len c s))))) := by
  subst hx
  have hn9 := nxN_le ht s.1
  refine Run.of rfl (by decide) (Nat.le_of_ble_eq_true rfl) ?_
  show V g m_X9_sign 0 _ [] _ _ _ _ _
  refine V_aload_n 0 dX9_sign_0 rfl ?_
  refine V_aload_n 0 dX9_sign_1 rfl ?_
  refine G_X9_165 rfl hM.1 rfl dX9_sign_2 ?_
  refine V_if_ne (tgt := 16) dX9_sign_5 (by decide) (fun c5 => ?_) (fun c5 => ?_)
  · refine V_iconst (v := 1) dX9_sign_16 rfl ?_
    refine V_goto (tgt := 21) dX9_sign_17 (by decide) ?_
    refine P_X9_165 rfl hM.1 (Nat.le_of_ble_eq_true rfl) rfl rfl dX9_sign_21 ?_
    refine V_aload_n 0 dX9_sign_24 rfl ?_
    refine V_dup dX9_sign_25 rfl ?_
    refine G_X9_162 rfl (mup_eq _ _ _) rfl dX9_sign_26 ?_
    refine V_aload_n 0 dX9_sign_29 rfl ?_
    refine V_pc (pc2 := 30) rfl ?_
    refine G_X9_165 rfl (mup_eq _ _ _) rfl dX9_sign_30 ?_
    refine V_if_eq (tgt := 40) dX9_sign_33 (by decide) (fun c33 => absurd c33 (show ¬ (1 : Int32) = 0 by decide)) (fun c33 => ?_)
    refine V_iconst (v := 0) dX9_sign_36 rfl ?_
    refine V_goto (tgt := 41) dX9_sign_37 (by decide) ?_
    refine V_iadd dX9_sign_41 ?_
    refine P_X9_162 rfl (mup_eq _ _ _) (Nat.le_of_ble_eq_true rfl) rfl rfl dX9_sign_42 ?_
    refine V_ret (st := []) dX9_sign_45 rfl ?_
    have e9 : sgP t len c s = (s.1, true) := sgP_w (Or.inl (bI_1 (by rw [← hs.2]; exact c5)))
    rw [e9]
    rw [mup_mup]
    have e8 : upd (upd v 5 1) 4 (upd v 5 1 4 + 0) = psV v (s.1, true) := by unfold psV; rw [upd_ne (by decide), hs.1, Int32.add_zero]; rfl
    rw [← e8]
    exact ⟨rfl, rfl⟩
  · refine V_aload_n 0 dX9_sign_8 rfl ?_
    refine C_X9_169 hM.1 rfl ⟨Nat.le_of_ble_eq_true rfl, Nat.le_of_ble_eq_true rfl⟩ (q9_next hl ht hM hs hp) rfl (Nat.le_of_ble_eq_true rfl) dX9_sign_9 rfl ?_
    refine V_iload_n 1 dX9_sign_12 rfl ?_
    refine V_icmp_eq (tgt := 20) dX9_sign_13 (by decide) (fun c13 => ?_) (fun c13 => ?_)
    · refine V_iconst (v := 0) dX9_sign_20 rfl ?_
      refine P_X9_165 rfl hM.1 (Nat.le_of_ble_eq_true rfl) rfl rfl dX9_sign_21 ?_
      refine V_aload_n 0 dX9_sign_24 rfl ?_
      refine V_dup dX9_sign_25 rfl ?_
      refine G_X9_162 rfl (mup_eq _ _ _) rfl dX9_sign_26 ?_
      refine V_aload_n 0 dX9_sign_29 rfl ?_
      refine G_X9_165 rfl (mup_eq _ _ _) rfl dX9_sign_30 ?_
      refine V_pc (pc2 := 33) rfl ?_
      refine V_if_eq (tgt := 40) dX9_sign_33 (by decide) (fun c33 => ?_) (fun c33 => absurd (show (0 : Int32) = 0 from rfl) c33)
      refine V_iconst (v := 1) dX9_sign_40 rfl ?_
      refine V_iadd dX9_sign_41 ?_
      refine P_X9_162 rfl (mup_eq _ _ _) (Nat.le_of_ble_eq_true rfl) rfl rfl dX9_sign_42 ?_
      refine V_ret (st := []) dX9_sign_45 rfl ?_
      have e9 : sgP t len c s = (s.1 + 1, false) := sgP_o (fun h => h.elim (fun h => by rw [hs.2, h] at c5; exact absurd c5 (by decide)) (fun h => h ((nI_eq (by omega) (by omega)).mp c13)))
      rw [e9]
      rw [mup_mup]
      have e8 : upd (upd v 5 0) 4 (upd v 5 0 4 + 1) = psV v (s.1 + 1, false) := by unfold psV; rw [upd_ne (by decide), hs.1, nI_1]; rfl
      rw [← e8]
      exact ⟨rfl, rfl⟩
    · refine V_iconst (v := 1) dX9_sign_16 rfl ?_
      refine V_goto (tgt := 21) dX9_sign_17 (by decide) ?_
      refine P_X9_165 rfl hM.1 (Nat.le_of_ble_eq_true rfl) rfl rfl dX9_sign_21 ?_
      refine V_aload_n 0 dX9_sign_24 rfl ?_
      refine V_dup dX9_sign_25 rfl ?_
      refine G_X9_162 rfl (mup_eq _ _ _) rfl dX9_sign_26 ?_
      refine V_aload_n 0 dX9_sign_29 rfl ?_
      refine V_pc (pc2 := 30) rfl ?_
      refine G_X9_165 rfl (mup_eq _ _ _) rfl dX9_sign_30 ?_
      refine V_if_eq (tgt := 40) dX9_sign_33 (by decide) (fun c33 => absurd c33 (show ¬ (1 : Int32) = 0 by decide)) (fun c33 => ?_)
      refine V_iconst (v := 0) dX9_sign_36 rfl ?_
      refine V_goto (tgt := 41) dX9_sign_37 (by decide) ?_
      refine V_iadd dX9_sign_41 ?_
      refine P_X9_162 rfl (mup_eq _ _ _) (Nat.le_of_ble_eq_true rfl) rfl rfl dX9_sign_42 ?_
      refine V_ret (st := []) dX9_sign_45 rfl ?_
      have e9 : sgP t len c s = (s.1, true) := sgP_w (Or.inr (fun e => c13 (by rw [e])))
      rw [e9]
      rw [mup_mup]
      have e8 : upd (upd v 5 1) 4 (upd v 5 1 4 + 0) = psV v (s.1, true) := by unfold psV; rw [upd_ne (by decide), hs.1, Int32.add_zero]; rfl
      rw [← e8]
      exact ⟨rfl, rfl⟩

theorem in_dig {n l h : Nat} (hn : n ≤ 126) (hl : l ≤ 9) (hh : h ≤ 9) : inI (nI n - 48) (nI l) (nI h) = decide (l + 48 ≤ n ∧ n ≤ h + 48) := by
  have h1 : (nI n - 48).toInt = (n : Int) - 48 := pk_sub_toInt (b := 48) (by omega) (by decide)
  have e1 : nI l ≤ nI n - 48 ↔ l + 48 ≤ n := by rw [Int32.le_iff_toInt_le, h1, nI_toInt (by omega)]; omega
  have e2 : nI n - 48 ≤ nI h ↔ n ≤ h + 48 := by rw [Int32.le_iff_toInt_le, h1, nI_toInt (by omega)]; omega
  unfold inI
  rw [Bool.eq_iff_iff, Bool.and_eq_true, decide_eq_true_eq, decide_eq_true_eq, decide_eq_true_eq, e1, e2]
set_option maxRecDepth 20000 in
theorem q9_digit {g : GE} {M : Mem} {sz : Nat} {len : Nat} {tx v : Nat → Int32} {t : Nat → Nat} (hl : len ≤ 60) (ht : TX t tx len) (hM : MT9 g M len tx v) {s : PS} (hs : PV v s) (hp : s.1 ≤ len) {x y : Int32} (l h : Nat) (hx : x = nI l) (hy : y = nI h) (hl9 : l ≤ 9) (hh9 : h ≤ 9) : Run g m_X9_digit [rf g 96, .int x, .int y] M sz 0 0 (Ret (some (.int (dvP t len s))) (mup M 96 (MO g (psV v (dgP t len l h s))))) := by
  subst hx hy
  have hn9 := nxN_le ht s.1
  refine Run.of rfl (by decide) (Nat.le_of_ble_eq_true rfl) ?_
  show V g m_X9_digit 0 _ [] _ _ _ _ _
  refine V_aload_n 0 dX9_digit_0 rfl ?_
  refine C_X9_169 hM.1 rfl ⟨Nat.le_of_ble_eq_true rfl, Nat.le_of_ble_eq_true rfl⟩ (q9_next hl ht hM hs hp) rfl (Nat.le_of_ble_eq_true rfl) dX9_digit_1 rfl ?_
  refine V_bipush (v := 48) dX9_digit_4 (by decide) ?_
  refine V_isub dX9_digit_6 ?_
  refine V_istore_n (lv2 := [(3, .int _), (0, .ref _), (1, .int _), (2, .int _)]) dX9_digit_7 (Nat.le_of_ble_eq_true rfl) rfl ?_
  refine V_aload_n 1 dX9_digit_8 rfl ?_
  refine V_aload_n 1 dX9_digit_9 rfl ?_
  refine V_pc (pc2 := 10) rfl ?_
  refine G_X9_165 rfl hM.1 rfl dX9_digit_10 ?_
  refine V_if_ne (tgt := 25) dX9_digit_13 (by decide) (fun c13 => ?_) (fun c13 => ?_)
  · refine V_iconst (v := 1) dX9_digit_25 rfl ?_
    refine V_goto (tgt := 30) dX9_digit_26 (by decide) ?_
    refine P_X9_165 rfl hM.1 (Nat.le_of_ble_eq_true rfl) rfl rfl dX9_digit_30 ?_
    refine V_aload_n 1 dX9_digit_33 rfl ?_
    refine V_dup dX9_digit_34 rfl ?_
    refine G_X9_162 rfl (mup_eq _ _ _) rfl dX9_digit_35 ?_
    refine V_aload_n 1 dX9_digit_38 rfl ?_
    refine V_pc (pc2 := 39) rfl ?_
    refine G_X9_165 rfl (mup_eq _ _ _) rfl dX9_digit_39 ?_
    refine V_if_eq (tgt := 49) dX9_digit_42 (by decide) (fun c42 => absurd c42 (show ¬ (1 : Int32) = 0 by decide)) (fun c42 => ?_)
    refine V_iconst (v := 0) dX9_digit_45 rfl ?_
    refine V_goto (tgt := 50) dX9_digit_46 (by decide) ?_
    refine V_iadd dX9_digit_50 ?_
    refine P_X9_162 rfl (mup_eq _ _ _) (Nat.le_of_ble_eq_true rfl) rfl rfl dX9_digit_51 ?_
    refine V_iload_n 0 dX9_digit_54 rfl ?_
    refine V_iret (st := []) dX9_digit_55 rfl ?_
    have e9 : dgP t len l h s = (s.1, true) := dgP_w (Or.inl (bI_1 (by rw [← hs.2]; exact c13)))
    rw [e9]
    rw [mup_mup]
    have e8 : upd (upd v 5 1) 4 (upd v 5 1 4 + 0) = psV v (s.1, true) := by unfold psV; rw [upd_ne (by decide), hs.1, Int32.add_zero]; rfl
    rw [← e8]
    exact ⟨rfl, rfl⟩
  · refine V_iload_n 0 dX9_digit_16 rfl ?_
    refine V_iload_n 2 dX9_digit_17 rfl ?_
    refine V_iload_n 3 dX9_digit_18 rfl ?_
    refine C_X9_44 rfl ⟨Nat.le_of_ble_eq_true rfl, Nat.le_of_ble_eq_true rfl⟩ (r9_in _ _ _) rfl (Nat.le_of_ble_eq_true rfl) dX9_digit_19 rfl ?_
    rw [in_dig hn9 hl9 hh9]
    refine V_if_ne (tgt := 29) dX9_digit_22 (by decide) (fun c22 => ?_) (fun c22 => ?_)
    · refine V_iconst (v := 0) dX9_digit_29 rfl ?_
      refine P_X9_165 rfl hM.1 (Nat.le_of_ble_eq_true rfl) rfl rfl dX9_digit_30 ?_
      refine V_aload_n 1 dX9_digit_33 rfl ?_
      refine V_dup dX9_digit_34 rfl ?_
      refine G_X9_162 rfl (mup_eq _ _ _) rfl dX9_digit_35 ?_
      refine V_aload_n 1 dX9_digit_38 rfl ?_
      refine G_X9_165 rfl (mup_eq _ _ _) rfl dX9_digit_39 ?_
      refine V_pc (pc2 := 42) rfl ?_
      refine V_if_eq (tgt := 49) dX9_digit_42 (by decide) (fun c42 => ?_) (fun c42 => absurd (show (0 : Int32) = 0 from rfl) c42)
      refine V_iconst (v := 1) dX9_digit_49 rfl ?_
      refine V_iadd dX9_digit_50 ?_
      refine P_X9_162 rfl (mup_eq _ _ _) (Nat.le_of_ble_eq_true rfl) rfl rfl dX9_digit_51 ?_
      refine V_iload_n 0 dX9_digit_54 rfl ?_
      refine V_iret (st := []) dX9_digit_55 rfl ?_
      have e9 : dgP t len l h s = (s.1 + 1, false) := dgP_o (fun e => e.elim (fun e => by rw [hs.2, e] at c13; exact absurd c13 (by decide)) (fun e => e (of_decide_eq_true (bI_1 c22))))
      rw [e9]
      rw [mup_mup]
      have e8 : upd (upd v 5 0) 4 (upd v 5 0 4 + 1) = psV v (s.1 + 1, false) := by unfold psV; rw [upd_ne (by decide), hs.1, nI_1]; rfl
      rw [← e8]
      exact ⟨rfl, rfl⟩
    · refine V_iconst (v := 1) dX9_digit_25 rfl ?_
      refine V_goto (tgt := 30) dX9_digit_26 (by decide) ?_
      refine P_X9_165 rfl hM.1 (Nat.le_of_ble_eq_true rfl) rfl rfl dX9_digit_30 ?_
      refine V_aload_n 1 dX9_digit_33 rfl ?_
      refine V_dup dX9_digit_34 rfl ?_
      refine G_X9_162 rfl (mup_eq _ _ _) rfl dX9_digit_35 ?_
      refine V_aload_n 1 dX9_digit_38 rfl ?_
      refine V_pc (pc2 := 39) rfl ?_
      refine G_X9_165 rfl (mup_eq _ _ _) rfl dX9_digit_39 ?_
      refine V_if_eq (tgt := 49) dX9_digit_42 (by decide) (fun c42 => absurd c42 (show ¬ (1 : Int32) = 0 by decide)) (fun c42 => ?_)
      refine V_iconst (v := 0) dX9_digit_45 rfl ?_
      refine V_goto (tgt := 50) dX9_digit_46 (by decide) ?_
      refine V_iadd dX9_digit_50 ?_
      refine P_X9_162 rfl (mup_eq _ _ _) (Nat.le_of_ble_eq_true rfl) rfl rfl dX9_digit_51 ?_
      refine V_iload_n 0 dX9_digit_54 rfl ?_
      refine V_iret (st := []) dX9_digit_55 rfl ?_
      have e9 : dgP t len l h s = (s.1, true) := dgP_w (Or.inr (of_decide_eq_false (bI_0 c22)))
      rw [e9]
      rw [mup_mup]
      have e8 : upd (upd v 5 1) 4 (upd v 5 1 4 + 0) = psV v (s.1, true) := by unfold psV; rw [upd_ne (by decide), hs.1, Int32.add_zero]; rfl
      rw [← e8]
      exact ⟨rfl, rfl⟩

