/-! texts: numbers, parts, the whole, of the reference -/
theorem dgP_le {t : Nat → Nat} {len l h : Nat} {s : PS} (hp : s.1 ≤ len) : (dgP t len l h s).1 ≤ len := by
  by_cases e : s.2 = true ∨ ¬ (l + 48 ≤ nxN t len s.1 ∧ nxN t len s.1 ≤ h + 48)
  · rw [dgP_w e]; exact hp
  · rw [dgP_o e]
    have h1 : l + 48 ≤ nxN t len s.1 := (Decidable.of_not_not (fun h => e (Or.inr h))).1
    show s.1 + 1 ≤ len
    unfold nxN at h1
    split at h1 <;> omega
theorem sgP_le {t : Nat → Nat} {len c : Nat} {s : PS} (hc : 0 < c) (hp : s.1 ≤ len) : (sgP t len c s).1 ≤ len := by
  by_cases e : s.2 = true ∨ nxN t len s.1 ≠ c
  · rw [sgP_w e]; exact hp
  · rw [sgP_o e]
    have h1 : nxN t len s.1 = c := Decidable.of_not_not (fun h => e (Or.inr h))
    show s.1 + 1 ≤ len
    unfold nxN at h1
    split at h1 <;> omega
theorem nmC_lt {t : Nat → Nat} {len most its p : Nat} (h : nmC t len most its p = true) : p < len := by
  have h1 := (of_decide_eq_true h).1
  unfold nxN at h1
  split at h1 <;> omega
theorem nmL_le {t : Nat → Nat} {len most : Nat} : ∀ m its p, p ≤ len → (nmL t len most m its p).2 ≤ len ∧ p ≤ (nmL t len most m its p).2
  | 0, its, p, h => ⟨h, Nat.le_refl _⟩
  | m + 1, its, p, h => by
    unfold nmL
    by_cases e : nmC t len most its p = true
    · rw [if_pos e]
      have := nmL_le (t := t) (most := most) m (10 * its + (nxN t len p - 48)) (p + 1) (nmC_lt e)
      exact ⟨this.1, by omega⟩
    · rw [if_neg e]; exact ⟨h, Nat.le_refl _⟩
theorem nmP_le {t : Nat → Nat} {len most : Nat} {s : PS} (hp : s.1 ≤ len) : (nmP t len most s).1 ≤ len := by
  unfold nmP
  split
  · exact dgP_le hp
  · exact (nmL_le _ _ _ (dgP_le hp)).1
theorem PV.upd {v : Nat → Int32} {s : PS} (h : PV v s) {k : Nat} {x : Int32} (h4 : 4 ≠ k) (h5 : 5 ≠ k) : PV (upd v k x) s := ⟨(upd_ne h4).trans h.1, (upd_ne h5).trans h.2⟩
theorem spot_inc {w : Nat → Int32} {p : Nat} (h : PV w (p, false)) {y : Int32} (hy : y = w 4 + 1) : upd w 4 y = psV w (p + 1, false) := by
  have h5 : w 5 = 0 := h.2
  have h4 : w 4 = nI p := h.1
  unfold psV
  rw [hy, h4, nI_1, ← h5.trans (show (0 : Int32) = bI false from rfl), upd_self]
theorem in_nI {n a b : Nat} (hn : n < 2 ^ 31) (ha : a < 2 ^ 31) (hb : b < 2 ^ 31) : inI (nI n) (nI a) (nI b) = decide (a ≤ n ∧ n ≤ b) := by
  unfold inI
  rw [Bool.eq_iff_iff, Bool.and_eq_true, decide_eq_true_eq, decide_eq_true_eq, decide_eq_true_eq, nI_leI ha hn, nI_leI hn hb]
set_option maxRecDepth 20000 in
theorem q9_number {g : GE} {M : Mem} {sz : Nat} {len : Nat} {tx v : Nat → Int32} {t : Nat → Nat} (hl : len ≤ 60) (ht : TX t tx len) (hM : MT9 g M len tx v) {s : PS} (hs : PV v s) (hp : s.1 ≤ len) {x : Int32} (most : Nat) (hx : x = nI most) (hm9 : 9 ≤ most) (hm : most ≤ 9999) : Run g m_X9_number [rf g 96, .int x] M sz 0 0 (Ret (some (.int (nvP t len most s))) (mup M 96 (MO g (psV v (nmP t len most s))))) := by
  subst hx
  have L : ∀ m its p : Nat, p + m = len + 1 → p ≤ len → its ≤ most → V g m_X9_number 8 [(2, .int (nI its)), (0, rf g 96), (1, .int (nI most))] [] (mup M 96 (MO g (psV v (p, false)))) sz 0 0 (Ret (some (.int (nI (nmL t len most m its p).1))) (mup M 96 (MO g (psV v ((nmL t len most m its p).2, false))))) := by
    intro m
    induction m with
    | zero => intro its p h1 hp hi; omega
    | succ m ih =>
      intro its p h1 hp hi
      have hn9 := nxN_le ht p
      refine V_aload_n 1 dX9_number_8 rfl ?_
      refine G_X9_165 rfl (show _ = some (MO g (psV v (p, false))) from mup_eq _ _ _) rfl dX9_number_9 ?_
      refine V_if_ne (tgt := 71) dX9_number_12 (by decide) (fun c12 => absurd (show (psV v (p, false)) 5 = 0 from (psV_pv v (p, false)).2) c12) (fun c12 => ?_)
      refine V_aload_n 1 dX9_number_15 rfl ?_
      refine C_X9_169 (show _ = some (MO g (psV v (p, false))) from mup_eq _ _ _) rfl ⟨Nat.le_of_ble_eq_true rfl, Nat.le_of_ble_eq_true rfl⟩ (show Run g m_X9_next [rf g 96] _ _ _ _ (Ret (some (.int (nI (nxN t len p)))) _) from q9_next hl ht (MT9.v (w := psV v (p, false)) hM rfl) (psV_pv v (p, false)) hp) rfl (Nat.le_of_ble_eq_true rfl) dX9_number_16 rfl ?_
      refine V_bipush (v := 48) dX9_number_19 (by decide) ?_
      refine V_bipush (v := 57) dX9_number_21 (by decide) ?_
      refine V_pc (pc2 := 23) rfl ?_
      refine C_X9_44 rfl ⟨Nat.le_of_ble_eq_true rfl, Nat.le_of_ble_eq_true rfl⟩ (r9_in _ _ _) rfl (Nat.le_of_ble_eq_true rfl) dX9_number_23 rfl ?_
      rw [show inI (nI (nxN t len p)) 48 57 = decide (48 ≤ nxN t len p ∧ nxN t len p ≤ 57) from in_nI (by omega) (by decide) (by decide)]
      refine V_if_eq (tgt := 71) dX9_number_26 (by decide) (fun c26 => ?_) (fun c26 => ?_)
      · refine V_iload_n 0 dX9_number_71 rfl ?_
        refine V_iret (st := []) dX9_number_72 rfl ?_
        have e9 : nmL t len most (m + 1) its p = (its, p) := if_neg (fun e => absurd (show 48 ≤ nxN t len p ∧ nxN t len p ≤ 57 from ⟨(of_decide_eq_true e).1, (of_decide_eq_true e).2.1⟩) (of_decide_eq_false (bI_0 c26)))
        rw [e9]
        exact ⟨rfl, rfl⟩
      · refine V_bipush (v := 10) dX9_number_29 (by decide) ?_
        refine V_iload_n 0 dX9_number_31 rfl ?_
        refine V_imul dX9_number_32 ?_
        refine V_aload_n 1 dX9_number_33 rfl ?_
        have hd9 : 48 ≤ nxN t len p ∧ nxN t len p ≤ 57 := of_decide_eq_true (bI_1 c26)
        refine C_X9_169 (show _ = some (MO g (psV v (p, false))) from mup_eq _ _ _) rfl ⟨Nat.le_of_ble_eq_true rfl, Nat.le_of_ble_eq_true rfl⟩ (show Run g m_X9_next [rf g 96] _ _ _ _ (Ret (some (.int (nI (nxN t len p)))) _) from q9_next hl ht (MT9.v (w := psV v (p, false)) hM rfl) (psV_pv v (p, false)) hp) rfl (Nat.le_of_ble_eq_true rfl) dX9_number_34 rfl ?_
        refine V_iadd dX9_number_37 ?_
        refine V_bipush (v := 48) dX9_number_38 (by decide) ?_
        refine V_pc (pc2 := 40) rfl ?_
        refine V_isub dX9_number_40 ?_
        refine V_iload_n 2 dX9_number_41 rfl ?_
        rw [show (10 : Int32) = nI 10 from rfl, pk_mul, nI_add, show (48 : Int32) = nI 48 from rfl, pk_sub (by omega)]
        refine V_icmp_gt (tgt := 71) dX9_number_42 (by decide) (fun c42 => ?_) (fun c42 => ?_)
        · refine V_iload_n 0 dX9_number_71 rfl ?_
          refine V_iret (st := []) dX9_number_72 rfl ?_
          have e9 : nmL t len most (m + 1) its p = (its, p) := if_neg (fun e => by have := (nI_ltI (by omega) (by omega)).mp c42; have := (of_decide_eq_true e).2.2; omega)
          rw [e9]
          exact ⟨rfl, rfl⟩
        · refine V_bipush (v := 10) dX9_number_45 (by decide) ?_
          refine V_iload_n 0 dX9_number_47 rfl ?_
          refine V_imul dX9_number_48 ?_
          refine V_aload_n 1 dX9_number_49 rfl ?_
          refine C_X9_169 (show _ = some (MO g (psV v (p, false))) from mup_eq _ _ _) rfl ⟨Nat.le_of_ble_eq_true rfl, Nat.le_of_ble_eq_true rfl⟩ (show Run g m_X9_next [rf g 96] _ _ _ _ (Ret (some (.int (nI (nxN t len p)))) _) from q9_next hl ht (MT9.v (w := psV v (p, false)) hM rfl) (psV_pv v (p, false)) hp) rfl (Nat.le_of_ble_eq_true rfl) dX9_number_50 rfl ?_
          refine V_iadd dX9_number_53 ?_
          refine V_bipush (v := 48) dX9_number_54 (by decide) ?_
          refine V_pc (pc2 := 56) rfl ?_
          refine V_isub dX9_number_56 ?_
          rw [show (10 : Int32) = nI 10 from rfl, pk_mul, nI_add, show (48 : Int32) = nI 48 from rfl, pk_sub (by omega)]
          refine V_istore_n (lv2 := [(2, .int _), (0, .ref _), (1, .int _)]) dX9_number_57 (Nat.le_of_ble_eq_true rfl) rfl ?_
          refine V_aload_n 1 dX9_number_58 rfl ?_
          refine V_dup dX9_number_59 rfl ?_
          refine G_X9_162 rfl (show _ = some (MO g (psV v (p, false))) from mup_eq _ _ _) rfl dX9_number_60 ?_
          refine V_iconst (v := 1) dX9_number_63 rfl ?_
          refine V_iadd dX9_number_64 ?_
          refine P_X9_162 rfl (show _ = some (MO g (psV v (p, false))) from mup_eq _ _ _) (Nat.le_of_ble_eq_true rfl) rfl rfl dX9_number_65 ?_
          refine V_pc (pc2 := 68) rfl ?_
          refine V_goto (tgt := 8) dX9_number_68 (by decide) ?_
          refine V_lv (lv2 := [(2, .int _), (0, .ref _), (1, .int _)]) [0, 1, 2] rfl ?_
          have e8 : nmC t len most its p = true := decide_eq_true ⟨hd9.1, hd9.2, by have := mt (nI_ltI (by omega) (by omega)).mpr c42; omega⟩
          have hlt := nmC_lt e8
          have e9 : nmL t len most (m + 1) its p = nmL t len most m (10 * its + (nxN t len p - 48)) (p + 1) := if_pos e8
          rw [e9]
          show V g m_X9_number 8 _ _ (mup (mup M 96 (MO g (psV v (p, false)))) 96 (MO g (upd (psV v (p, false)) 4 (psV v (p, false) 4 + 1)))) _ _ _ _
          rw [mup_mup, spot_inc (psV_pv v (p, false)) rfl, psV_psV, show 10 * its + nxN t len p - 48 = 10 * its + (nxN t len p - 48) by omega]
          exact ih _ (p + 1) (by omega) (by omega) (by have := (of_decide_eq_true e8).2.2; omega)
  refine Run.of rfl (by decide) (Nat.le_of_ble_eq_true rfl) ?_
  show V g m_X9_number 0 _ [] _ _ _ _ _
  by_cases hw : (dgP t len 1 9 s).2 = true
  · have e1 : nmP t len most s = dgP t len 1 9 s := if_pos hw
    have e2 : nvP t len most s = dvP t len s := if_pos hw
    refine V_aload_n 0 dX9_number_0 rfl ?_
    refine V_iconst (v := 1) dX9_number_1 rfl ?_
    refine V_bipush (v := 9) dX9_number_2 (by decide) ?_
    refine C_X9_172 hM.1 rfl ⟨Nat.le_of_ble_eq_true rfl, Nat.le_of_ble_eq_true rfl⟩ (q9_digit hl ht hM hs hp 1 9 rfl rfl (by decide) (by decide)) rfl (Nat.le_of_ble_eq_true rfl) dX9_number_4 rfl ?_
    refine V_istore_n (lv2 := [(2, .int _), (0, .ref _), (1, .int _)]) dX9_number_7 (Nat.le_of_ble_eq_true rfl) rfl ?_
    refine V_aload_n 1 dX9_number_8 rfl ?_
    refine G_X9_165 rfl (mup_eq _ _ _) rfl dX9_number_9 ?_
    refine V_pc (pc2 := 12) rfl ?_
    refine V_if_ne (tgt := 71) dX9_number_12 (by decide) (fun c12 => ?_) (fun c12 => absurd c12 (show ¬ (psV v (dgP t len 1 9 s)) 5 = 0 by rw [(psV_pv v _).2, hw]; decide))
    refine V_iload_n 0 dX9_number_71 rfl ?_
    refine V_iret (st := []) dX9_number_72 rfl ?_
    rw [e1, e2]
    exact ⟨rfl, rfl⟩
  · have e1 : nmP t len most s = ((nmL t len most (len + 1 - (dgP t len 1 9 s).1) (nxN t len s.1 - 48) (dgP t len 1 9 s).1).2, false) := if_neg hw
    have e2 : nvP t len most s = nI (nmL t len most (len + 1 - (dgP t len 1 9 s).1) (nxN t len s.1 - 48) (dgP t len 1 9 s).1).1 := if_neg hw
    have hc : ¬ (s.2 = true ∨ ¬ (1 + 48 ≤ nxN t len s.1 ∧ nxN t len s.1 ≤ 9 + 48)) := fun h => hw (by rw [dgP_w h])
    have hd := Decidable.of_not_not (fun h => hc (Or.inr h))
    have ew : dgP t len 1 9 s = (s.1 + 1, false) := dgP_o hc
    have hle := dgP_le (t := t) (l := 1) (h := 9) hp
    rw [ew] at hle
    have ev : dvP t len s = nI (nxN t len s.1 - 48) := by show nI _ - 48 = _; rw [show (48 : Int32) = nI 48 from rfl, pk_sub (by omega)]
    rw [e1, e2, ew]
    refine V_aload_n 0 dX9_number_0 rfl ?_
    refine V_iconst (v := 1) dX9_number_1 rfl ?_
    refine V_bipush (v := 9) dX9_number_2 (by decide) ?_
    refine C_X9_172 hM.1 rfl ⟨Nat.le_of_ble_eq_true rfl, Nat.le_of_ble_eq_true rfl⟩ (q9_digit hl ht hM hs hp 1 9 rfl rfl (by decide) (by decide)) rfl (Nat.le_of_ble_eq_true rfl) dX9_number_4 rfl ?_
    refine V_istore_n (lv2 := [(2, .int _), (0, .ref _), (1, .int _)]) dX9_number_7 (Nat.le_of_ble_eq_true rfl) rfl ?_
    refine V_lv (lv2 := [(2, .int _), (0, .ref _), (1, .int _)]) [0, 1, 2] rfl ?_
    rw [ev, ew]
    exact L _ _ _ (by omega) (by omega) (by omega)

def pE45 (t : Nat → Nat) (len p : Nat) : PS := (dgP t len 0 4 (sgP t len 62 (dgP t len 0 4 (p + 1, false))))
def pU45 (t : Nat → Nat) (len p : Nat) (v : Nat → Int32) : Nat → Int32 := upd (upd (upd v 6 45) 7 (dvP t len (p + 1, false))) 8 (dvP t len (sgP t len 62 (dgP t len 0 4 (p + 1, false))))
def pE98 (t : Nat → Nat) (len p : Nat) : PS := (nmP t len 9999 (sgP t len 61 (dgP t len 0 4 (p + 1, false))))
def pU98 (t : Nat → Nat) (len p : Nat) (v : Nat → Int32) : Nat → Int32 := upd (upd (upd v 6 98) 7 (dvP t len (p + 1, false))) 8 (nvP t len 9999 (sgP t len 61 (dgP t len 0 4 (p + 1, false))))
def pE115 (t : Nat → Nat) (len p : Nat) : PS := (dgP t len 0 4 (sgP t len 62 (dgP t len 0 7 (p + 1, false))))
def pU115 (t : Nat → Nat) (len p : Nat) (v : Nat → Int32) : Nat → Int32 := upd (upd (upd v 6 115) 7 (dvP t len (p + 1, false))) 8 (dvP t len (sgP t len 62 (dgP t len 0 7 (p + 1, false))))
def pE116 (t : Nat → Nat) (len p : Nat) : PS := (nmP t len 99 (sgP t len 47 (nmP t len 99 (sgP t len 61 (dgP t len 0 4 (sgP t len 62 (dgP t len 0 4 (p, false))))))))
def pU116 (t : Nat → Nat) (len p : Nat) (v : Nat → Int32) : Nat → Int32 := upd (upd (upd (upd (upd v 6 116) 7 (dvP t len (p, false))) 8 (dvP t len (sgP t len 62 (dgP t len 0 4 (p, false))))) 9 (nvP t len 99 (sgP t len 61 (dgP t len 0 4 (sgP t len 62 (dgP t len 0 4 (p, false))))))) 10 (nvP t len 99 (sgP t len 47 (nmP t len 99 (sgP t len 61 (dgP t len 0 4 (sgP t len 62 (dgP t len 0 4 (p, false))))))))
theorem psV_upd (v : Nat → Int32) (s : PS) {k : Nat} (h4 : k ≠ 4) (h5 : k ≠ 5) (x : Int32) : upd (psV v s) k x = psV (upd v k x) s := by unfold psV; rw [upd_comm _ (Ne.symm h4), upd_comm _ (Ne.symm h5)]
set_option maxRecDepth 20000 in
theorem q9_part_45_a {g : GE} {M : Mem} {sz : Nat} {len : Nat} {tx v : Nat → Int32} {t : Nat → Nat} (hl : len ≤ 60) (ht : TX t tx len) (hM : MT9 g M len tx v) {p : Nat} (hs : PV v (p, false)) (hp : p ≤ len) (hk : nxN t len p = 45) : Run g m_X9_part [rf g 96] M sz 0 0 (Ret none (mup M 96 (MO g (upd (psV (psV (upd (psV (psV (upd v 6 45) (p + 1, false)) (dgP t len 0 4 (p + 1, false))) 7 (dvP t len (p + 1, false))) (sgP t len 62 (dgP t len 0 4 (p + 1, false)))) (dgP t len 0 4 (sgP t len 62 (dgP t len 0 4 (p + 1, false))))) 8 (dvP t len (sgP t len 62 (dgP t len 0 4 (p + 1, false)))))))) := by
  have hn9 := nxN_le ht p
  have hp1 : p + 1 ≤ len := by unfold nxN at hk; split at hk <;> omega
  refine Run.of rfl (by decide) (Nat.le_of_ble_eq_true rfl) ?_
  show V g m_X9_part 0 _ [] _ _ _ _ _
  refine V_aload_n 0 dX9_part_0 rfl ?_
  refine G_X9_165 rfl hM.1 rfl dX9_part_1 ?_
  refine V_if_eq (tgt := 11) dX9_part_4 (by decide) (fun c4 => ?_) (fun c4 => absurd (show v 5 = 0 from hs.2) c4)
  refine V_aload_n 0 dX9_part_11 rfl ?_
  refine C_X9_169 hM.1 rfl ⟨Nat.le_of_ble_eq_true rfl, Nat.le_of_ble_eq_true rfl⟩ (q9_next hl ht hM hs hp) rfl (Nat.le_of_ble_eq_true rfl) dX9_part_12 rfl ?_
  rw [hk]
  refine V_istore_n (lv2 := [(1, .int _), (0, .ref _)]) dX9_part_15 (Nat.le_of_ble_eq_true rfl) rfl ?_
  refine V_iload_n 0 dX9_part_16 rfl ?_
  refine V_pc (pc2 := 17) rfl ?_
  refine V_bipush (v := 45) dX9_part_17 (by decide) ?_
  refine V_icmp_eq (tgt := 34) dX9_part_19 (by decide) (fun c19 => ?_) (fun c19 => absurd rfl c19)
  refine V_aload_n 1 dX9_part_34 rfl ?_
  refine V_iload_n 0 dX9_part_35 rfl ?_
  refine P_X9_175 rfl hM.1 (Nat.le_of_ble_eq_true rfl) rfl rfl dX9_part_36 ?_
  refine V_aload_n 1 dX9_part_39 rfl ?_
  refine V_dup dX9_part_40 rfl ?_
  refine G_X9_162 rfl (mup_eq _ _ _) rfl dX9_part_41 ?_
  refine V_pc (pc2 := 44) rfl ?_
  refine V_iconst (v := 1) dX9_part_44 rfl ?_
  refine V_iadd dX9_part_45 ?_
  refine P_X9_162 rfl (mup_eq _ _ _) (Nat.le_of_ble_eq_true rfl) rfl rfl dX9_part_46 ?_
  refine V_goto (tgt := 58) dX9_part_49 (by decide) ?_
  show V g m_X9_part 58 _ _ (mup (mup M 96 (MO g (upd v 6 45))) 96 (MO g (upd (upd v 6 45) 4 (upd v 6 45 4 + 1)))) _ _ _ _
  rw [mup_mup, spot_inc (p := p) (PV.upd hs (by decide) (by decide)) rfl]
  refine V_aload_n 1 dX9_part_58 rfl ?_
  refine V_aload_n 1 dX9_part_59 rfl ?_
  refine V_iconst (v := 0) dX9_part_60 rfl ?_
  refine V_aload_n 1 dX9_part_61 rfl ?_
  refine V_pc (pc2 := 62) rfl ?_
  refine G_X9_175 rfl (show _ = some (MO g (psV (upd v 6 45) (p + 1, false))) from mup_eq _ _ _) rfl dX9_part_62 ?_
  refine V_bipush (v := 115) dX9_part_65 (by decide) ?_
  refine V_icmp_ne (tgt := 75) dX9_part_67 (by decide) (fun c67 => ?_) (fun c67 => absurd c67 (show ¬ (45 : Int32) = 115 by decide))
  refine V_iconst (v := 4) dX9_part_75 rfl ?_
  refine C_X9_172 (show _ = some (MO g (psV (upd v 6 45) (p + 1, false))) from mup_eq _ _ _) rfl ⟨Nat.le_of_ble_eq_true rfl, Nat.le_of_ble_eq_true rfl⟩ (q9_digit hl ht (MT9.v (w := (psV (upd v 6 45) (p + 1, false))) hM rfl) (psV_pv _ _) (show p + 1 ≤ len from hp1) 0 4 rfl rfl (by decide) (by decide)) rfl (Nat.le_of_ble_eq_true rfl) dX9_part_76 rfl ?_
  rw [mup_mup]
  refine P_X9_178 rfl (show _ = some (MO g (psV (psV (upd v 6 45) (p + 1, false)) (dgP t len 0 4 (p + 1, false)))) from mup_eq _ _ _) (Nat.le_of_ble_eq_true rfl) rfl rfl dX9_part_79 ?_
  refine V_aload_n 1 dX9_part_82 rfl ?_
  refine V_aload_n 1 dX9_part_83 rfl ?_
  refine V_pc (pc2 := 84) rfl ?_
  refine G_X9_175 rfl (show _ = some (MO g (upd (psV (psV (upd v 6 45) (p + 1, false)) (dgP t len 0 4 (p + 1, false))) 7 (dvP t len (p + 1, false)))) from mup_eq _ _ _) rfl dX9_part_84 ?_
  refine V_bipush (v := 98) dX9_part_87 (by decide) ?_
  refine V_icmp_ne (tgt := 97) dX9_part_89 (by decide) (fun c89 => ?_) (fun c89 => absurd c89 (show ¬ (45 : Int32) = 98 by decide))
  refine V_bipush (v := 62) dX9_part_97 (by decide) ?_
  rw [mup_mup]
  refine C_X9_181 (show _ = some (MO g (upd (psV (psV (upd v 6 45) (p + 1, false)) (dgP t len 0 4 (p + 1, false))) 7 (dvP t len (p + 1, false)))) from mup_eq _ _ _) rfl ⟨Nat.le_of_ble_eq_true rfl, Nat.le_of_ble_eq_true rfl⟩ (q9_sign hl ht (MT9.v (w := (upd (psV (psV (upd v 6 45) (p + 1, false)) (dgP t len 0 4 (p + 1, false))) 7 (dvP t len (p + 1, false)))) hM rfl) (PV.upd (psV_pv _ _) (by decide) (by decide)) (dgP_le (show p + 1 ≤ len from hp1)) 62 rfl (by decide)) rfl (Nat.le_of_ble_eq_true rfl) dX9_part_99 rfl ?_
  rw [mup_mup]
  refine V_aload_n 1 dX9_part_102 rfl ?_
  refine G_X9_175 rfl (show _ = some (MO g (psV (upd (psV (psV (upd v 6 45) (p + 1, false)) (dgP t len 0 4 (p + 1, false))) 7 (dvP t len (p + 1, false))) (sgP t len 62 (dgP t len 0 4 (p + 1, false))))) from mup_eq _ _ _) rfl dX9_part_103 ?_
  refine V_bipush (v := 98) dX9_part_106 (by decide) ?_
  refine V_pc (pc2 := 108) rfl ?_
  refine V_icmp_ne (tgt := 125) dX9_part_108 (by decide) (fun c108 => ?_) (fun c108 => absurd c108 (show ¬ (45 : Int32) = 98 by decide))
  refine V_aload_n 1 dX9_part_125 rfl ?_
  refine V_aload_n 1 dX9_part_126 rfl ?_
  refine V_iconst (v := 0) dX9_part_127 rfl ?_
  refine V_iconst (v := 4) dX9_part_128 rfl ?_
  refine C_X9_172 (show _ = some (MO g (psV (upd (psV (psV (upd v 6 45) (p + 1, false)) (dgP t len 0 4 (p + 1, false))) 7 (dvP t len (p + 1, false))) (sgP t len 62 (dgP t len 0 4 (p + 1, false))))) from mup_eq _ _ _) rfl ⟨Nat.le_of_ble_eq_true rfl, Nat.le_of_ble_eq_true rfl⟩ (q9_digit hl ht (MT9.v (w := (psV (upd (psV (psV (upd v 6 45) (p + 1, false)) (dgP t len 0 4 (p + 1, false))) 7 (dvP t len (p + 1, false))) (sgP t len 62 (dgP t len 0 4 (p + 1, false))))) hM rfl) (psV_pv _ _) (sgP_le (by decide) (dgP_le (show p + 1 ≤ len from hp1))) 0 4 rfl rfl (by decide) (by decide)) rfl (Nat.le_of_ble_eq_true rfl) dX9_part_129 rfl ?_
  rw [mup_mup]
  refine P_X9_189 rfl (show _ = some (MO g (psV (psV (upd (psV (psV (upd v 6 45) (p + 1, false)) (dgP t len 0 4 (p + 1, false))) 7 (dvP t len (p + 1, false))) (sgP t len 62 (dgP t len 0 4 (p + 1, false)))) (dgP t len 0 4 (sgP t len 62 (dgP t len 0 4 (p + 1, false)))))) from mup_eq _ _ _) (Nat.le_of_ble_eq_true rfl) rfl rfl dX9_part_132 ?_
  rw [mup_mup]
  refine V_aload_n 1 dX9_part_135 rfl ?_
  refine V_pc (pc2 := 136) rfl ?_
  refine G_X9_175 rfl (show _ = some (MO g (upd (psV (psV (upd (psV (psV (upd v 6 45) (p + 1, false)) (dgP t len 0 4 (p + 1, false))) 7 (dvP t len (p + 1, false))) (sgP t len 62 (dgP t len 0 4 (p + 1, false)))) (dgP t len 0 4 (sgP t len 62 (dgP t len 0 4 (p + 1, false))))) 8 (dvP t len (sgP t len 62 (dgP t len 0 4 (p + 1, false)))))) from mup_eq _ _ _) rfl dX9_part_136 ?_
  refine V_bipush (v := 116) dX9_part_139 (by decide) ?_
  refine V_icmp_ne (tgt := 176) dX9_part_141 (by decide) (fun c141 => ?_) (fun c141 => absurd c141 (show ¬ (45 : Int32) = 116 by decide))
  refine V_ret (st := []) dX9_part_176 rfl ?_
  exact ⟨rfl, rfl⟩

theorem q9_part_45 {g : GE} {M : Mem} {sz : Nat} {len : Nat} {tx v : Nat → Int32} {t : Nat → Nat} (hl : len ≤ 60) (ht : TX t tx len) (hM : MT9 g M len tx v) {p : Nat} (hs : PV v (p, false)) (hp : p ≤ len) (hk : nxN t len p = 45) : Run g m_X9_part [rf g 96] M sz 0 0 (Ret none (mup M 96 (MO g (psV (pU45 t len p v) (pE45 t len p))))) := by
  have e : (upd (psV (psV (upd (psV (psV (upd v 6 45) (p + 1, false)) (dgP t len 0 4 (p + 1, false))) 7 (dvP t len (p + 1, false))) (sgP t len 62 (dgP t len 0 4 (p + 1, false)))) (dgP t len 0 4 (sgP t len 62 (dgP t len 0 4 (p + 1, false))))) 8 (dvP t len (sgP t len 62 (dgP t len 0 4 (p + 1, false))))) = psV (pU45 t len p v) (pE45 t len p) := by
    unfold pU45 pE45
    simp only [psV_upd _ _ (show 7 ≠ 4 by decide) (show 7 ≠ 5 by decide), psV_upd _ _ (show 8 ≠ 4 by decide) (show 8 ≠ 5 by decide), psV_psV]
  rw [← e]
  exact q9_part_45_a hl ht hM hs hp hk
set_option maxRecDepth 20000 in
theorem q9_part_98_a {g : GE} {M : Mem} {sz : Nat} {len : Nat} {tx v : Nat → Int32} {t : Nat → Nat} (hl : len ≤ 60) (ht : TX t tx len) (hM : MT9 g M len tx v) {p : Nat} (hs : PV v (p, false)) (hp : p ≤ len) (hk : nxN t len p = 98) : Run g m_X9_part [rf g 96] M sz 0 0 (Ret none (mup M 96 (MO g (upd (psV (psV (upd (psV (psV (upd v 6 98) (p + 1, false)) (dgP t len 0 4 (p + 1, false))) 7 (dvP t len (p + 1, false))) (sgP t len 61 (dgP t len 0 4 (p + 1, false)))) (nmP t len 9999 (sgP t len 61 (dgP t len 0 4 (p + 1, false))))) 8 (nvP t len 9999 (sgP t len 61 (dgP t len 0 4 (p + 1, false)))))))) := by
  have hn9 := nxN_le ht p
  have hp1 : p + 1 ≤ len := by unfold nxN at hk; split at hk <;> omega
  refine Run.of rfl (by decide) (Nat.le_of_ble_eq_true rfl) ?_
  show V g m_X9_part 0 _ [] _ _ _ _ _
  refine V_aload_n 0 dX9_part_0 rfl ?_
  refine G_X9_165 rfl hM.1 rfl dX9_part_1 ?_
  refine V_if_eq (tgt := 11) dX9_part_4 (by decide) (fun c4 => ?_) (fun c4 => absurd (show v 5 = 0 from hs.2) c4)
  refine V_aload_n 0 dX9_part_11 rfl ?_
  refine C_X9_169 hM.1 rfl ⟨Nat.le_of_ble_eq_true rfl, Nat.le_of_ble_eq_true rfl⟩ (q9_next hl ht hM hs hp) rfl (Nat.le_of_ble_eq_true rfl) dX9_part_12 rfl ?_
  rw [hk]
  refine V_istore_n (lv2 := [(1, .int _), (0, .ref _)]) dX9_part_15 (Nat.le_of_ble_eq_true rfl) rfl ?_
  refine V_iload_n 0 dX9_part_16 rfl ?_
  refine V_pc (pc2 := 17) rfl ?_
  refine V_bipush (v := 45) dX9_part_17 (by decide) ?_
  refine V_icmp_eq (tgt := 34) dX9_part_19 (by decide) (fun c19 => absurd c19 (by decide)) (fun c19 => ?_)
  refine V_iload_n 0 dX9_part_22 rfl ?_
  refine V_bipush (v := 98) dX9_part_23 (by decide) ?_
  refine V_icmp_eq (tgt := 34) dX9_part_25 (by decide) (fun c25 => ?_) (fun c25 => absurd rfl c25)
  refine V_aload_n 1 dX9_part_34 rfl ?_
  refine V_iload_n 0 dX9_part_35 rfl ?_
  refine P_X9_175 rfl hM.1 (Nat.le_of_ble_eq_true rfl) rfl rfl dX9_part_36 ?_
  refine V_pc (pc2 := 39) rfl ?_
  refine V_aload_n 1 dX9_part_39 rfl ?_
  refine V_dup dX9_part_40 rfl ?_
  refine G_X9_162 rfl (mup_eq _ _ _) rfl dX9_part_41 ?_
  refine V_iconst (v := 1) dX9_part_44 rfl ?_
  refine V_iadd dX9_part_45 ?_
  refine P_X9_162 rfl (mup_eq _ _ _) (Nat.le_of_ble_eq_true rfl) rfl rfl dX9_part_46 ?_
  refine V_goto (tgt := 58) dX9_part_49 (by decide) ?_
  show V g m_X9_part 58 _ _ (mup (mup M 96 (MO g (upd v 6 98))) 96 (MO g (upd (upd v 6 98) 4 (upd v 6 98 4 + 1)))) _ _ _ _
  rw [mup_mup, spot_inc (p := p) (PV.upd hs (by decide) (by decide)) rfl]
  refine V_aload_n 1 dX9_part_58 rfl ?_
  refine V_pc (pc2 := 59) rfl ?_
  refine V_aload_n 1 dX9_part_59 rfl ?_
  refine V_iconst (v := 0) dX9_part_60 rfl ?_
  refine V_aload_n 1 dX9_part_61 rfl ?_
  refine G_X9_175 rfl (show _ = some (MO g (psV (upd v 6 98) (p + 1, false))) from mup_eq _ _ _) rfl dX9_part_62 ?_
  refine V_bipush (v := 115) dX9_part_65 (by decide) ?_
  refine V_icmp_ne (tgt := 75) dX9_part_67 (by decide) (fun c67 => ?_) (fun c67 => absurd c67 (show ¬ (98 : Int32) = 115 by decide))
  refine V_iconst (v := 4) dX9_part_75 rfl ?_
  refine C_X9_172 (show _ = some (MO g (psV (upd v 6 98) (p + 1, false))) from mup_eq _ _ _) rfl ⟨Nat.le_of_ble_eq_true rfl, Nat.le_of_ble_eq_true rfl⟩ (q9_digit hl ht (MT9.v (w := (psV (upd v 6 98) (p + 1, false))) hM rfl) (psV_pv _ _) (show p + 1 ≤ len from hp1) 0 4 rfl rfl (by decide) (by decide)) rfl (Nat.le_of_ble_eq_true rfl) dX9_part_76 rfl ?_
  rw [mup_mup]
  refine V_pc (pc2 := 79) rfl ?_
  refine P_X9_178 rfl (show _ = some (MO g (psV (psV (upd v 6 98) (p + 1, false)) (dgP t len 0 4 (p + 1, false)))) from mup_eq _ _ _) (Nat.le_of_ble_eq_true rfl) rfl rfl dX9_part_79 ?_
  refine V_aload_n 1 dX9_part_82 rfl ?_
  refine V_aload_n 1 dX9_part_83 rfl ?_
  refine G_X9_175 rfl (show _ = some (MO g (upd (psV (psV (upd v 6 98) (p + 1, false)) (dgP t len 0 4 (p + 1, false))) 7 (dvP t len (p + 1, false)))) from mup_eq _ _ _) rfl dX9_part_84 ?_
  refine V_bipush (v := 98) dX9_part_87 (by decide) ?_
  refine V_icmp_ne (tgt := 97) dX9_part_89 (by decide) (fun c89 => absurd rfl c89) (fun c89 => ?_)
  refine V_bipush (v := 61) dX9_part_92 (by decide) ?_
  refine V_goto (tgt := 99) dX9_part_94 (by decide) ?_
  refine V_pc (pc2 := 99) rfl ?_
  rw [mup_mup]
  refine C_X9_181 (show _ = some (MO g (upd (psV (psV (upd v 6 98) (p + 1, false)) (dgP t len 0 4 (p + 1, false))) 7 (dvP t len (p + 1, false)))) from mup_eq _ _ _) rfl ⟨Nat.le_of_ble_eq_true rfl, Nat.le_of_ble_eq_true rfl⟩ (q9_sign hl ht (MT9.v (w := (upd (psV (psV (upd v 6 98) (p + 1, false)) (dgP t len 0 4 (p + 1, false))) 7 (dvP t len (p + 1, false)))) hM rfl) (PV.upd (psV_pv _ _) (by decide) (by decide)) (dgP_le (show p + 1 ≤ len from hp1)) 61 rfl (by decide)) rfl (Nat.le_of_ble_eq_true rfl) dX9_part_99 rfl ?_
  rw [mup_mup]
  refine V_aload_n 1 dX9_part_102 rfl ?_
  refine G_X9_175 rfl (show _ = some (MO g (psV (upd (psV (psV (upd v 6 98) (p + 1, false)) (dgP t len 0 4 (p + 1, false))) 7 (dvP t len (p + 1, false))) (sgP t len 61 (dgP t len 0 4 (p + 1, false))))) from mup_eq _ _ _) rfl dX9_part_103 ?_
  refine V_bipush (v := 98) dX9_part_106 (by decide) ?_
  refine V_icmp_ne (tgt := 125) dX9_part_108 (by decide) (fun c108 => absurd rfl c108) (fun c108 => ?_)
  refine V_aload_n 1 dX9_part_111 rfl ?_
  refine V_aload_n 1 dX9_part_112 rfl ?_
  refine V_sipush (v := 9999) dX9_part_113 (by decide) ?_
  refine V_pc (pc2 := 116) rfl ?_
  refine C_X9_185 (show _ = some (MO g (psV (upd (psV (psV (upd v 6 98) (p + 1, false)) (dgP t len 0 4 (p + 1, false))) 7 (dvP t len (p + 1, false))) (sgP t len 61 (dgP t len 0 4 (p + 1, false))))) from mup_eq _ _ _) rfl ⟨Nat.le_of_ble_eq_true rfl, Nat.le_of_ble_eq_true rfl⟩ (q9_number hl ht (MT9.v (w := (psV (upd (psV (psV (upd v 6 98) (p + 1, false)) (dgP t len 0 4 (p + 1, false))) 7 (dvP t len (p + 1, false))) (sgP t len 61 (dgP t len 0 4 (p + 1, false))))) hM rfl) (psV_pv _ _) (sgP_le (by decide) (dgP_le (show p + 1 ≤ len from hp1))) 9999 rfl (by decide) (by decide)) rfl (Nat.le_of_ble_eq_true rfl) dX9_part_116 rfl ?_
  rw [mup_mup]
  refine P_X9_189 rfl (show _ = some (MO g (psV (psV (upd (psV (psV (upd v 6 98) (p + 1, false)) (dgP t len 0 4 (p + 1, false))) 7 (dvP t len (p + 1, false))) (sgP t len 61 (dgP t len 0 4 (p + 1, false)))) (nmP t len 9999 (sgP t len 61 (dgP t len 0 4 (p + 1, false)))))) from mup_eq _ _ _) (Nat.le_of_ble_eq_true rfl) rfl rfl dX9_part_119 ?_
  refine V_goto (tgt := 135) dX9_part_122 (by decide) ?_
  rw [mup_mup]
  refine V_aload_n 1 dX9_part_135 rfl ?_
  refine G_X9_175 rfl (show _ = some (MO g (upd (psV (psV (upd (psV (psV (upd v 6 98) (p + 1, false)) (dgP t len 0 4 (p + 1, false))) 7 (dvP t len (p + 1, false))) (sgP t len 61 (dgP t len 0 4 (p + 1, false)))) (nmP t len 9999 (sgP t len 61 (dgP t len 0 4 (p + 1, false))))) 8 (nvP t len 9999 (sgP t len 61 (dgP t len 0 4 (p + 1, false)))))) from mup_eq _ _ _) rfl dX9_part_136 ?_
  refine V_bipush (v := 116) dX9_part_139 (by decide) ?_
  refine V_icmp_ne (tgt := 176) dX9_part_141 (by decide) (fun c141 => ?_) (fun c141 => absurd c141 (show ¬ (98 : Int32) = 116 by decide))
  refine V_ret (st := []) dX9_part_176 rfl ?_
  exact ⟨rfl, rfl⟩

theorem q9_part_98 {g : GE} {M : Mem} {sz : Nat} {len : Nat} {tx v : Nat → Int32} {t : Nat → Nat} (hl : len ≤ 60) (ht : TX t tx len) (hM : MT9 g M len tx v) {p : Nat} (hs : PV v (p, false)) (hp : p ≤ len) (hk : nxN t len p = 98) : Run g m_X9_part [rf g 96] M sz 0 0 (Ret none (mup M 96 (MO g (psV (pU98 t len p v) (pE98 t len p))))) := by
  have e : (upd (psV (psV (upd (psV (psV (upd v 6 98) (p + 1, false)) (dgP t len 0 4 (p + 1, false))) 7 (dvP t len (p + 1, false))) (sgP t len 61 (dgP t len 0 4 (p + 1, false)))) (nmP t len 9999 (sgP t len 61 (dgP t len 0 4 (p + 1, false))))) 8 (nvP t len 9999 (sgP t len 61 (dgP t len 0 4 (p + 1, false))))) = psV (pU98 t len p v) (pE98 t len p) := by
    unfold pU98 pE98
    simp only [psV_upd _ _ (show 7 ≠ 4 by decide) (show 7 ≠ 5 by decide), psV_upd _ _ (show 8 ≠ 4 by decide) (show 8 ≠ 5 by decide), psV_psV]
  rw [← e]
  exact q9_part_98_a hl ht hM hs hp hk
set_option maxRecDepth 20000 in
theorem q9_part_115_a {g : GE} {M : Mem} {sz : Nat} {len : Nat} {tx v : Nat → Int32} {t : Nat → Nat} (hl : len ≤ 60) (ht : TX t tx len) (hM : MT9 g M len tx v) {p : Nat} (hs : PV v (p, false)) (hp : p ≤ len) (hk : nxN t len p = 115) : Run g m_X9_part [rf g 96] M sz 0 0 (Ret none (mup M 96 (MO g (upd (psV (psV (upd (psV (psV (upd v 6 115) (p + 1, false)) (dgP t len 0 7 (p + 1, false))) 7 (dvP t len (p + 1, false))) (sgP t len 62 (dgP t len 0 7 (p + 1, false)))) (dgP t len 0 4 (sgP t len 62 (dgP t len 0 7 (p + 1, false))))) 8 (dvP t len (sgP t len 62 (dgP t len 0 7 (p + 1, false)))))))) := by
  have hn9 := nxN_le ht p
  have hp1 : p + 1 ≤ len := by unfold nxN at hk; split at hk <;> omega
  refine Run.of rfl (by decide) (Nat.le_of_ble_eq_true rfl) ?_
  show V g m_X9_part 0 _ [] _ _ _ _ _
  refine V_aload_n 0 dX9_part_0 rfl ?_
  refine G_X9_165 rfl hM.1 rfl dX9_part_1 ?_
  refine V_if_eq (tgt := 11) dX9_part_4 (by decide) (fun c4 => ?_) (fun c4 => absurd (show v 5 = 0 from hs.2) c4)
  refine V_aload_n 0 dX9_part_11 rfl ?_
  refine C_X9_169 hM.1 rfl ⟨Nat.le_of_ble_eq_true rfl, Nat.le_of_ble_eq_true rfl⟩ (q9_next hl ht hM hs hp) rfl (Nat.le_of_ble_eq_true rfl) dX9_part_12 rfl ?_
  rw [hk]
  refine V_istore_n (lv2 := [(1, .int _), (0, .ref _)]) dX9_part_15 (Nat.le_of_ble_eq_true rfl) rfl ?_
  refine V_iload_n 0 dX9_part_16 rfl ?_
  refine V_pc (pc2 := 17) rfl ?_
  refine V_bipush (v := 45) dX9_part_17 (by decide) ?_
  refine V_icmp_eq (tgt := 34) dX9_part_19 (by decide) (fun c19 => absurd c19 (by decide)) (fun c19 => ?_)
  refine V_iload_n 0 dX9_part_22 rfl ?_
  refine V_bipush (v := 98) dX9_part_23 (by decide) ?_
  refine V_icmp_eq (tgt := 34) dX9_part_25 (by decide) (fun c25 => absurd c25 (by decide)) (fun c25 => ?_)
  refine V_iload_n 0 dX9_part_28 rfl ?_
  refine V_bipush (v := 115) dX9_part_29 (by decide) ?_
  refine V_icmp_ne (tgt := 52) dX9_part_31 (by decide) (fun c31 => absurd rfl c31) (fun c31 => ?_)
  refine V_pc (pc2 := 34) rfl ?_
  refine V_aload_n 1 dX9_part_34 rfl ?_
  refine V_iload_n 0 dX9_part_35 rfl ?_
  refine P_X9_175 rfl hM.1 (Nat.le_of_ble_eq_true rfl) rfl rfl dX9_part_36 ?_
  refine V_aload_n 1 dX9_part_39 rfl ?_
  refine V_dup dX9_part_40 rfl ?_
  refine G_X9_162 rfl (mup_eq _ _ _) rfl dX9_part_41 ?_
  refine V_iconst (v := 1) dX9_part_44 rfl ?_
  refine V_iadd dX9_part_45 ?_
  refine V_pc (pc2 := 46) rfl ?_
  refine P_X9_162 rfl (mup_eq _ _ _) (Nat.le_of_ble_eq_true rfl) rfl rfl dX9_part_46 ?_
  refine V_goto (tgt := 58) dX9_part_49 (by decide) ?_
  show V g m_X9_part 58 _ _ (mup (mup M 96 (MO g (upd v 6 115))) 96 (MO g (upd (upd v 6 115) 4 (upd v 6 115 4 + 1)))) _ _ _ _
  rw [mup_mup, spot_inc (p := p) (PV.upd hs (by decide) (by decide)) rfl]
  refine V_aload_n 1 dX9_part_58 rfl ?_
  refine V_aload_n 1 dX9_part_59 rfl ?_
  refine V_iconst (v := 0) dX9_part_60 rfl ?_
  refine V_aload_n 1 dX9_part_61 rfl ?_
  refine G_X9_175 rfl (show _ = some (MO g (psV (upd v 6 115) (p + 1, false))) from mup_eq _ _ _) rfl dX9_part_62 ?_
  refine V_bipush (v := 115) dX9_part_65 (by decide) ?_
  refine V_pc (pc2 := 67) rfl ?_
  refine V_icmp_ne (tgt := 75) dX9_part_67 (by decide) (fun c67 => absurd rfl c67) (fun c67 => ?_)
  refine V_bipush (v := 7) dX9_part_70 (by decide) ?_
  refine V_goto (tgt := 76) dX9_part_72 (by decide) ?_
  refine C_X9_172 (show _ = some (MO g (psV (upd v 6 115) (p + 1, false))) from mup_eq _ _ _) rfl ⟨Nat.le_of_ble_eq_true rfl, Nat.le_of_ble_eq_true rfl⟩ (q9_digit hl ht (MT9.v (w := (psV (upd v 6 115) (p + 1, false))) hM rfl) (psV_pv _ _) (show p + 1 ≤ len from hp1) 0 7 rfl rfl (by decide) (by decide)) rfl (Nat.le_of_ble_eq_true rfl) dX9_part_76 rfl ?_
  rw [mup_mup]
  refine P_X9_178 rfl (show _ = some (MO g (psV (psV (upd v 6 115) (p + 1, false)) (dgP t len 0 7 (p + 1, false)))) from mup_eq _ _ _) (Nat.le_of_ble_eq_true rfl) rfl rfl dX9_part_79 ?_
  refine V_aload_n 1 dX9_part_82 rfl ?_
  refine V_aload_n 1 dX9_part_83 rfl ?_
  refine G_X9_175 rfl (show _ = some (MO g (upd (psV (psV (upd v 6 115) (p + 1, false)) (dgP t len 0 7 (p + 1, false))) 7 (dvP t len (p + 1, false)))) from mup_eq _ _ _) rfl dX9_part_84 ?_
  refine V_pc (pc2 := 87) rfl ?_
  refine V_bipush (v := 98) dX9_part_87 (by decide) ?_
  refine V_icmp_ne (tgt := 97) dX9_part_89 (by decide) (fun c89 => ?_) (fun c89 => absurd c89 (show ¬ (115 : Int32) = 98 by decide))
  refine V_bipush (v := 62) dX9_part_97 (by decide) ?_
  rw [mup_mup]
  refine C_X9_181 (show _ = some (MO g (upd (psV (psV (upd v 6 115) (p + 1, false)) (dgP t len 0 7 (p + 1, false))) 7 (dvP t len (p + 1, false)))) from mup_eq _ _ _) rfl ⟨Nat.le_of_ble_eq_true rfl, Nat.le_of_ble_eq_true rfl⟩ (q9_sign hl ht (MT9.v (w := (upd (psV (psV (upd v 6 115) (p + 1, false)) (dgP t len 0 7 (p + 1, false))) 7 (dvP t len (p + 1, false)))) hM rfl) (PV.upd (psV_pv _ _) (by decide) (by decide)) (dgP_le (show p + 1 ≤ len from hp1)) 62 rfl (by decide)) rfl (Nat.le_of_ble_eq_true rfl) dX9_part_99 rfl ?_
  rw [mup_mup]
  refine V_aload_n 1 dX9_part_102 rfl ?_
  refine G_X9_175 rfl (show _ = some (MO g (psV (upd (psV (psV (upd v 6 115) (p + 1, false)) (dgP t len 0 7 (p + 1, false))) 7 (dvP t len (p + 1, false))) (sgP t len 62 (dgP t len 0 7 (p + 1, false))))) from mup_eq _ _ _) rfl dX9_part_103 ?_
  refine V_bipush (v := 98) dX9_part_106 (by decide) ?_
  refine V_icmp_ne (tgt := 125) dX9_part_108 (by decide) (fun c108 => ?_) (fun c108 => absurd c108 (show ¬ (115 : Int32) = 98 by decide))
  refine V_pc (pc2 := 125) rfl ?_
  refine V_aload_n 1 dX9_part_125 rfl ?_
  refine V_aload_n 1 dX9_part_126 rfl ?_
  refine V_iconst (v := 0) dX9_part_127 rfl ?_
  refine V_iconst (v := 4) dX9_part_128 rfl ?_
  refine C_X9_172 (show _ = some (MO g (psV (upd (psV (psV (upd v 6 115) (p + 1, false)) (dgP t len 0 7 (p + 1, false))) 7 (dvP t len (p + 1, false))) (sgP t len 62 (dgP t len 0 7 (p + 1, false))))) from mup_eq _ _ _) rfl ⟨Nat.le_of_ble_eq_true rfl, Nat.le_of_ble_eq_true rfl⟩ (q9_digit hl ht (MT9.v (w := (psV (upd (psV (psV (upd v 6 115) (p + 1, false)) (dgP t len 0 7 (p + 1, false))) 7 (dvP t len (p + 1, false))) (sgP t len 62 (dgP t len 0 7 (p + 1, false))))) hM rfl) (psV_pv _ _) (sgP_le (by decide) (dgP_le (show p + 1 ≤ len from hp1))) 0 4 rfl rfl (by decide) (by decide)) rfl (Nat.le_of_ble_eq_true rfl) dX9_part_129 rfl ?_
  rw [mup_mup]
  refine P_X9_189 rfl (show _ = some (MO g (psV (psV (upd (psV (psV (upd v 6 115) (p + 1, false)) (dgP t len 0 7 (p + 1, false))) 7 (dvP t len (p + 1, false))) (sgP t len 62 (dgP t len 0 7 (p + 1, false)))) (dgP t len 0 4 (sgP t len 62 (dgP t len 0 7 (p + 1, false)))))) from mup_eq _ _ _) (Nat.le_of_ble_eq_true rfl) rfl rfl dX9_part_132 ?_
  rw [mup_mup]
  refine V_aload_n 1 dX9_part_135 rfl ?_
  refine G_X9_175 rfl (show _ = some (MO g (upd (psV (psV (upd (psV (psV (upd v 6 115) (p + 1, false)) (dgP t len 0 7 (p + 1, false))) 7 (dvP t len (p + 1, false))) (sgP t len 62 (dgP t len 0 7 (p + 1, false)))) (dgP t len 0 4 (sgP t len 62 (dgP t len 0 7 (p + 1, false))))) 8 (dvP t len (sgP t len 62 (dgP t len 0 7 (p + 1, false)))))) from mup_eq _ _ _) rfl dX9_part_136 ?_
  refine V_pc (pc2 := 139) rfl ?_
  refine V_bipush (v := 116) dX9_part_139 (by decide) ?_
  refine V_icmp_ne (tgt := 176) dX9_part_141 (by decide) (fun c141 => ?_) (fun c141 => absurd c141 (show ¬ (115 : Int32) = 116 by decide))
  refine V_ret (st := []) dX9_part_176 rfl ?_
  exact ⟨rfl, rfl⟩

theorem q9_part_115 {g : GE} {M : Mem} {sz : Nat} {len : Nat} {tx v : Nat → Int32} {t : Nat → Nat} (hl : len ≤ 60) (ht : TX t tx len) (hM : MT9 g M len tx v) {p : Nat} (hs : PV v (p, false)) (hp : p ≤ len) (hk : nxN t len p = 115) : Run g m_X9_part [rf g 96] M sz 0 0 (Ret none (mup M 96 (MO g (psV (pU115 t len p v) (pE115 t len p))))) := by
  have e : (upd (psV (psV (upd (psV (psV (upd v 6 115) (p + 1, false)) (dgP t len 0 7 (p + 1, false))) 7 (dvP t len (p + 1, false))) (sgP t len 62 (dgP t len 0 7 (p + 1, false)))) (dgP t len 0 4 (sgP t len 62 (dgP t len 0 7 (p + 1, false))))) 8 (dvP t len (sgP t len 62 (dgP t len 0 7 (p + 1, false))))) = psV (pU115 t len p v) (pE115 t len p) := by
    unfold pU115 pE115
    simp only [psV_upd _ _ (show 7 ≠ 4 by decide) (show 7 ≠ 5 by decide), psV_upd _ _ (show 8 ≠ 4 by decide) (show 8 ≠ 5 by decide), psV_psV]
  rw [← e]
  exact q9_part_115_a hl ht hM hs hp hk
set_option maxRecDepth 20000 in
theorem q9_part_116_a {g : GE} {M : Mem} {sz : Nat} {len : Nat} {tx v : Nat → Int32} {t : Nat → Nat} (hl : len ≤ 60) (ht : TX t tx len) (hM : MT9 g M len tx v) {p : Nat} (hs : PV v (p, false)) (hp : p ≤ len) (hk45 : nxN t len p ≠ 45) (hk98 : nxN t len p ≠ 98) (hk115 : nxN t len p ≠ 115) : Run g m_X9_part [rf g 96] M sz 0 0 (Ret none (mup M 96 (MO g (upd (psV (psV (upd (psV (psV (upd (psV (psV (upd (psV (upd v 6 116) (dgP t len 0 4 (p, false))) 7 (dvP t len (p, false))) (sgP t len 62 (dgP t len 0 4 (p, false)))) (dgP t len 0 4 (sgP t len 62 (dgP t len 0 4 (p, false))))) 8 (dvP t len (sgP t len 62 (dgP t len 0 4 (p, false))))) (sgP t len 61 (dgP t len 0 4 (sgP t len 62 (dgP t len 0 4 (p, false)))))) (nmP t len 99 (sgP t len 61 (dgP t len 0 4 (sgP t len 62 (dgP t len 0 4 (p, false))))))) 9 (nvP t len 99 (sgP t len 61 (dgP t len 0 4 (sgP t len 62 (dgP t len 0 4 (p, false))))))) (sgP t len 47 (nmP t len 99 (sgP t len 61 (dgP t len 0 4 (sgP t len 62 (dgP t len 0 4 (p, false)))))))) (nmP t len 99 (sgP t len 47 (nmP t len 99 (sgP t len 61 (dgP t len 0 4 (sgP t len 62 (dgP t len 0 4 (p, false))))))))) 10 (nvP t len 99 (sgP t len 47 (nmP t len 99 (sgP t len 61 (dgP t len 0 4 (sgP t len 62 (dgP t len 0 4 (p, false)))))))))))) := by
  have hn9 := nxN_le ht p
  refine Run.of rfl (by decide) (Nat.le_of_ble_eq_true rfl) ?_
  show V g m_X9_part 0 _ [] _ _ _ _ _
  refine V_aload_n 0 dX9_part_0 rfl ?_
  refine G_X9_165 rfl hM.1 rfl dX9_part_1 ?_
  refine V_if_eq (tgt := 11) dX9_part_4 (by decide) (fun c4 => ?_) (fun c4 => absurd (show v 5 = 0 from hs.2) c4)
  refine V_aload_n 0 dX9_part_11 rfl ?_
  refine C_X9_169 hM.1 rfl ⟨Nat.le_of_ble_eq_true rfl, Nat.le_of_ble_eq_true rfl⟩ (q9_next hl ht hM hs hp) rfl (Nat.le_of_ble_eq_true rfl) dX9_part_12 rfl ?_
  skip
  refine V_istore_n (lv2 := [(1, .int _), (0, .ref _)]) dX9_part_15 (Nat.le_of_ble_eq_true rfl) rfl ?_
  refine V_iload_n 0 dX9_part_16 rfl ?_
  refine V_pc (pc2 := 17) rfl ?_
  refine V_bipush (v := 45) dX9_part_17 (by decide) ?_
  refine V_icmp_eq (tgt := 34) dX9_part_19 (by decide) (fun c19 => absurd c19 (fun e => hk45 ((nI_eq (b := 45) (by omega) (by decide)).mp e))) (fun c19 => ?_)
  refine V_iload_n 0 dX9_part_22 rfl ?_
  refine V_bipush (v := 98) dX9_part_23 (by decide) ?_
  refine V_icmp_eq (tgt := 34) dX9_part_25 (by decide) (fun c25 => absurd c25 (fun e => hk98 ((nI_eq (b := 98) (by omega) (by decide)).mp e))) (fun c25 => ?_)
  refine V_iload_n 0 dX9_part_28 rfl ?_
  refine V_bipush (v := 115) dX9_part_29 (by decide) ?_
  refine V_icmp_ne (tgt := 52) dX9_part_31 (by decide) (fun c31 => ?_) (fun c31 => absurd c31 (fun e => hk115 ((nI_eq (b := 115) (by omega) (by decide)).mp e)))
  refine V_pc (pc2 := 52) rfl ?_
  refine V_aload_n 1 dX9_part_52 rfl ?_
  refine V_bipush (v := 116) dX9_part_53 (by decide) ?_
  refine P_X9_175 rfl hM.1 (Nat.le_of_ble_eq_true rfl) rfl rfl dX9_part_55 ?_
  refine V_aload_n 1 dX9_part_58 rfl ?_
  refine V_aload_n 1 dX9_part_59 rfl ?_
  refine V_iconst (v := 0) dX9_part_60 rfl ?_
  refine V_aload_n 1 dX9_part_61 rfl ?_
  refine G_X9_175 rfl (show _ = some (MO g (upd v 6 116)) from mup_eq _ _ _) rfl dX9_part_62 ?_
  refine V_pc (pc2 := 65) rfl ?_
  refine V_bipush (v := 115) dX9_part_65 (by decide) ?_
  refine V_icmp_ne (tgt := 75) dX9_part_67 (by decide) (fun c67 => ?_) (fun c67 => absurd c67 (show ¬ (116 : Int32) = 115 by decide))
  refine V_iconst (v := 4) dX9_part_75 rfl ?_
  refine C_X9_172 (show _ = some (MO g (upd v 6 116)) from mup_eq _ _ _) rfl ⟨Nat.le_of_ble_eq_true rfl, Nat.le_of_ble_eq_true rfl⟩ (q9_digit hl ht (MT9.v (w := (upd v 6 116)) hM rfl) (PV.upd hs (by decide) (by decide)) hp 0 4 rfl rfl (by decide) (by decide)) rfl (Nat.le_of_ble_eq_true rfl) dX9_part_76 rfl ?_
  rw [mup_mup]
  refine P_X9_178 rfl (show _ = some (MO g (psV (upd v 6 116) (dgP t len 0 4 (p, false)))) from mup_eq _ _ _) (Nat.le_of_ble_eq_true rfl) rfl rfl dX9_part_79 ?_
  refine V_aload_n 1 dX9_part_82 rfl ?_
  refine V_aload_n 1 dX9_part_83 rfl ?_
  refine G_X9_175 rfl (show _ = some (MO g (upd (psV (upd v 6 116) (dgP t len 0 4 (p, false))) 7 (dvP t len (p, false)))) from mup_eq _ _ _) rfl dX9_part_84 ?_
  refine V_pc (pc2 := 87) rfl ?_
  refine V_bipush (v := 98) dX9_part_87 (by decide) ?_
  refine V_icmp_ne (tgt := 97) dX9_part_89 (by decide) (fun c89 => ?_) (fun c89 => absurd c89 (show ¬ (116 : Int32) = 98 by decide))
  refine V_bipush (v := 62) dX9_part_97 (by decide) ?_
  rw [mup_mup]
  refine C_X9_181 (show _ = some (MO g (upd (psV (upd v 6 116) (dgP t len 0 4 (p, false))) 7 (dvP t len (p, false)))) from mup_eq _ _ _) rfl ⟨Nat.le_of_ble_eq_true rfl, Nat.le_of_ble_eq_true rfl⟩ (q9_sign hl ht (MT9.v (w := (upd (psV (upd v 6 116) (dgP t len 0 4 (p, false))) 7 (dvP t len (p, false)))) hM rfl) (PV.upd (psV_pv _ _) (by decide) (by decide)) (dgP_le hp) 62 rfl (by decide)) rfl (Nat.le_of_ble_eq_true rfl) dX9_part_99 rfl ?_
  rw [mup_mup]
  refine V_aload_n 1 dX9_part_102 rfl ?_
  refine G_X9_175 rfl (show _ = some (MO g (psV (upd (psV (upd v 6 116) (dgP t len 0 4 (p, false))) 7 (dvP t len (p, false))) (sgP t len 62 (dgP t len 0 4 (p, false))))) from mup_eq _ _ _) rfl dX9_part_103 ?_
  refine V_bipush (v := 98) dX9_part_106 (by decide) ?_
  refine V_icmp_ne (tgt := 125) dX9_part_108 (by decide) (fun c108 => ?_) (fun c108 => absurd c108 (show ¬ (116 : Int32) = 98 by decide))
  refine V_pc (pc2 := 125) rfl ?_
  refine V_aload_n 1 dX9_part_125 rfl ?_
  refine V_aload_n 1 dX9_part_126 rfl ?_
  refine V_iconst (v := 0) dX9_part_127 rfl ?_
  refine V_iconst (v := 4) dX9_part_128 rfl ?_
  refine C_X9_172 (show _ = some (MO g (psV (upd (psV (upd v 6 116) (dgP t len 0 4 (p, false))) 7 (dvP t len (p, false))) (sgP t len 62 (dgP t len 0 4 (p, false))))) from mup_eq _ _ _) rfl ⟨Nat.le_of_ble_eq_true rfl, Nat.le_of_ble_eq_true rfl⟩ (q9_digit hl ht (MT9.v (w := (psV (upd (psV (upd v 6 116) (dgP t len 0 4 (p, false))) 7 (dvP t len (p, false))) (sgP t len 62 (dgP t len 0 4 (p, false))))) hM rfl) (psV_pv _ _) (sgP_le (by decide) (dgP_le hp)) 0 4 rfl rfl (by decide) (by decide)) rfl (Nat.le_of_ble_eq_true rfl) dX9_part_129 rfl ?_
  rw [mup_mup]
  refine P_X9_189 rfl (show _ = some (MO g (psV (psV (upd (psV (upd v 6 116) (dgP t len 0 4 (p, false))) 7 (dvP t len (p, false))) (sgP t len 62 (dgP t len 0 4 (p, false)))) (dgP t len 0 4 (sgP t len 62 (dgP t len 0 4 (p, false)))))) from mup_eq _ _ _) (Nat.le_of_ble_eq_true rfl) rfl rfl dX9_part_132 ?_
  rw [mup_mup]
  refine V_aload_n 1 dX9_part_135 rfl ?_
  refine G_X9_175 rfl (show _ = some (MO g (upd (psV (psV (upd (psV (upd v 6 116) (dgP t len 0 4 (p, false))) 7 (dvP t len (p, false))) (sgP t len 62 (dgP t len 0 4 (p, false)))) (dgP t len 0 4 (sgP t len 62 (dgP t len 0 4 (p, false))))) 8 (dvP t len (sgP t len 62 (dgP t len 0 4 (p, false)))))) from mup_eq _ _ _) rfl dX9_part_136 ?_
  refine V_pc (pc2 := 139) rfl ?_
  refine V_bipush (v := 116) dX9_part_139 (by decide) ?_
  refine V_icmp_ne (tgt := 176) dX9_part_141 (by decide) (fun c141 => absurd rfl c141) (fun c141 => ?_)
  refine V_aload_n 1 dX9_part_144 rfl ?_
  refine V_bipush (v := 61) dX9_part_145 (by decide) ?_
  refine C_X9_181 (show _ = some (MO g (upd (psV (psV (upd (psV (upd v 6 116) (dgP t len 0 4 (p, false))) 7 (dvP t len (p, false))) (sgP t len 62 (dgP t len 0 4 (p, false)))) (dgP t len 0 4 (sgP t len 62 (dgP t len 0 4 (p, false))))) 8 (dvP t len (sgP t len 62 (dgP t len 0 4 (p, false)))))) from mup_eq _ _ _) rfl ⟨Nat.le_of_ble_eq_true rfl, Nat.le_of_ble_eq_true rfl⟩ (q9_sign hl ht (MT9.v (w := (upd (psV (psV (upd (psV (upd v 6 116) (dgP t len 0 4 (p, false))) 7 (dvP t len (p, false))) (sgP t len 62 (dgP t len 0 4 (p, false)))) (dgP t len 0 4 (sgP t len 62 (dgP t len 0 4 (p, false))))) 8 (dvP t len (sgP t len 62 (dgP t len 0 4 (p, false)))))) hM rfl) (PV.upd (psV_pv _ _) (by decide) (by decide)) (dgP_le (sgP_le (by decide) (dgP_le hp))) 61 rfl (by decide)) rfl (Nat.le_of_ble_eq_true rfl) dX9_part_147 rfl ?_
  rw [mup_mup]
  refine V_aload_n 1 dX9_part_150 rfl ?_
  refine V_aload_n 1 dX9_part_151 rfl ?_
  refine V_bipush (v := 99) dX9_part_152 (by decide) ?_
  refine V_pc (pc2 := 154) rfl ?_
  refine C_X9_185 (show _ = some (MO g (psV (upd (psV (psV (upd (psV (upd v 6 116) (dgP t len 0 4 (p, false))) 7 (dvP t len (p, false))) (sgP t len 62 (dgP t len 0 4 (p, false)))) (dgP t len 0 4 (sgP t len 62 (dgP t len 0 4 (p, false))))) 8 (dvP t len (sgP t len 62 (dgP t len 0 4 (p, false))))) (sgP t len 61 (dgP t len 0 4 (sgP t len 62 (dgP t len 0 4 (p, false))))))) from mup_eq _ _ _) rfl ⟨Nat.le_of_ble_eq_true rfl, Nat.le_of_ble_eq_true rfl⟩ (q9_number hl ht (MT9.v (w := (psV (upd (psV (psV (upd (psV (upd v 6 116) (dgP t len 0 4 (p, false))) 7 (dvP t len (p, false))) (sgP t len 62 (dgP t len 0 4 (p, false)))) (dgP t len 0 4 (sgP t len 62 (dgP t len 0 4 (p, false))))) 8 (dvP t len (sgP t len 62 (dgP t len 0 4 (p, false))))) (sgP t len 61 (dgP t len 0 4 (sgP t len 62 (dgP t len 0 4 (p, false))))))) hM rfl) (psV_pv _ _) (sgP_le (by decide) (dgP_le (sgP_le (by decide) (dgP_le hp)))) 99 rfl (by decide) (by decide)) rfl (Nat.le_of_ble_eq_true rfl) dX9_part_154 rfl ?_
  rw [mup_mup]
  refine P_X9_192 rfl (show _ = some (MO g (psV (psV (upd (psV (psV (upd (psV (upd v 6 116) (dgP t len 0 4 (p, false))) 7 (dvP t len (p, false))) (sgP t len 62 (dgP t len 0 4 (p, false)))) (dgP t len 0 4 (sgP t len 62 (dgP t len 0 4 (p, false))))) 8 (dvP t len (sgP t len 62 (dgP t len 0 4 (p, false))))) (sgP t len 61 (dgP t len 0 4 (sgP t len 62 (dgP t len 0 4 (p, false)))))) (nmP t len 99 (sgP t len 61 (dgP t len 0 4 (sgP t len 62 (dgP t len 0 4 (p, false)))))))) from mup_eq _ _ _) (Nat.le_of_ble_eq_true rfl) rfl rfl dX9_part_157 ?_
  refine V_aload_n 1 dX9_part_160 rfl ?_
  refine V_bipush (v := 47) dX9_part_161 (by decide) ?_
  rw [mup_mup]
  refine C_X9_181 (show _ = some (MO g (upd (psV (psV (upd (psV (psV (upd (psV (upd v 6 116) (dgP t len 0 4 (p, false))) 7 (dvP t len (p, false))) (sgP t len 62 (dgP t len 0 4 (p, false)))) (dgP t len 0 4 (sgP t len 62 (dgP t len 0 4 (p, false))))) 8 (dvP t len (sgP t len 62 (dgP t len 0 4 (p, false))))) (sgP t len 61 (dgP t len 0 4 (sgP t len 62 (dgP t len 0 4 (p, false)))))) (nmP t len 99 (sgP t len 61 (dgP t len 0 4 (sgP t len 62 (dgP t len 0 4 (p, false))))))) 9 (nvP t len 99 (sgP t len 61 (dgP t len 0 4 (sgP t len 62 (dgP t len 0 4 (p, false)))))))) from mup_eq _ _ _) rfl ⟨Nat.le_of_ble_eq_true rfl, Nat.le_of_ble_eq_true rfl⟩ (q9_sign hl ht (MT9.v (w := (upd (psV (psV (upd (psV (psV (upd (psV (upd v 6 116) (dgP t len 0 4 (p, false))) 7 (dvP t len (p, false))) (sgP t len 62 (dgP t len 0 4 (p, false)))) (dgP t len 0 4 (sgP t len 62 (dgP t len 0 4 (p, false))))) 8 (dvP t len (sgP t len 62 (dgP t len 0 4 (p, false))))) (sgP t len 61 (dgP t len 0 4 (sgP t len 62 (dgP t len 0 4 (p, false)))))) (nmP t len 99 (sgP t len 61 (dgP t len 0 4 (sgP t len 62 (dgP t len 0 4 (p, false))))))) 9 (nvP t len 99 (sgP t len 61 (dgP t len 0 4 (sgP t len 62 (dgP t len 0 4 (p, false)))))))) hM rfl) (PV.upd (psV_pv _ _) (by decide) (by decide)) (nmP_le (sgP_le (by decide) (dgP_le (sgP_le (by decide) (dgP_le hp))))) 47 rfl (by decide)) rfl (Nat.le_of_ble_eq_true rfl) dX9_part_163 rfl ?_
  rw [mup_mup]
  refine V_aload_n 1 dX9_part_166 rfl ?_
  refine V_aload_n 1 dX9_part_167 rfl ?_
  refine V_bipush (v := 99) dX9_part_168 (by decide) ?_
  refine V_pc (pc2 := 170) rfl ?_
  refine C_X9_185 (show _ = some (MO g (psV (upd (psV (psV (upd (psV (psV (upd (psV (upd v 6 116) (dgP t len 0 4 (p, false))) 7 (dvP t len (p, false))) (sgP t len 62 (dgP t len 0 4 (p, false)))) (dgP t len 0 4 (sgP t len 62 (dgP t len 0 4 (p, false))))) 8 (dvP t len (sgP t len 62 (dgP t len 0 4 (p, false))))) (sgP t len 61 (dgP t len 0 4 (sgP t len 62 (dgP t len 0 4 (p, false)))))) (nmP t len 99 (sgP t len 61 (dgP t len 0 4 (sgP t len 62 (dgP t len 0 4 (p, false))))))) 9 (nvP t len 99 (sgP t len 61 (dgP t len 0 4 (sgP t len 62 (dgP t len 0 4 (p, false))))))) (sgP t len 47 (nmP t len 99 (sgP t len 61 (dgP t len 0 4 (sgP t len 62 (dgP t len 0 4 (p, false))))))))) from mup_eq _ _ _) rfl ⟨Nat.le_of_ble_eq_true rfl, Nat.le_of_ble_eq_true rfl⟩ (q9_number hl ht (MT9.v (w := (psV (upd (psV (psV (upd (psV (psV (upd (psV (upd v 6 116) (dgP t len 0 4 (p, false))) 7 (dvP t len (p, false))) (sgP t len 62 (dgP t len 0 4 (p, false)))) (dgP t len 0 4 (sgP t len 62 (dgP t len 0 4 (p, false))))) 8 (dvP t len (sgP t len 62 (dgP t len 0 4 (p, false))))) (sgP t len 61 (dgP t len 0 4 (sgP t len 62 (dgP t len 0 4 (p, false)))))) (nmP t len 99 (sgP t len 61 (dgP t len 0 4 (sgP t len 62 (dgP t len 0 4 (p, false))))))) 9 (nvP t len 99 (sgP t len 61 (dgP t len 0 4 (sgP t len 62 (dgP t len 0 4 (p, false))))))) (sgP t len 47 (nmP t len 99 (sgP t len 61 (dgP t len 0 4 (sgP t len 62 (dgP t len 0 4 (p, false))))))))) hM rfl) (psV_pv _ _) (sgP_le (by decide) (nmP_le (sgP_le (by decide) (dgP_le (sgP_le (by decide) (dgP_le hp)))))) 99 rfl (by decide) (by decide)) rfl (Nat.le_of_ble_eq_true rfl) dX9_part_170 rfl ?_
  rw [mup_mup]
  refine P_X9_195 rfl (show _ = some (MO g (psV (psV (upd (psV (psV (upd (psV (psV (upd (psV (upd v 6 116) (dgP t len 0 4 (p, false))) 7 (dvP t len (p, false))) (sgP t len 62 (dgP t len 0 4 (p, false)))) (dgP t len 0 4 (sgP t len 62 (dgP t len 0 4 (p, false))))) 8 (dvP t len (sgP t len 62 (dgP t len 0 4 (p, false))))) (sgP t len 61 (dgP t len 0 4 (sgP t len 62 (dgP t len 0 4 (p, false)))))) (nmP t len 99 (sgP t len 61 (dgP t len 0 4 (sgP t len 62 (dgP t len 0 4 (p, false))))))) 9 (nvP t len 99 (sgP t len 61 (dgP t len 0 4 (sgP t len 62 (dgP t len 0 4 (p, false))))))) (sgP t len 47 (nmP t len 99 (sgP t len 61 (dgP t len 0 4 (sgP t len 62 (dgP t len 0 4 (p, false)))))))) (nmP t len 99 (sgP t len 47 (nmP t len 99 (sgP t len 61 (dgP t len 0 4 (sgP t len 62 (dgP t len 0 4 (p, false)))))))))) from mup_eq _ _ _) (Nat.le_of_ble_eq_true rfl) rfl rfl dX9_part_173 ?_
  refine V_ret (st := []) dX9_part_176 rfl ?_
  rw [mup_mup]
  exact ⟨rfl, rfl⟩

theorem q9_part_116 {g : GE} {M : Mem} {sz : Nat} {len : Nat} {tx v : Nat → Int32} {t : Nat → Nat} (hl : len ≤ 60) (ht : TX t tx len) (hM : MT9 g M len tx v) {p : Nat} (hs : PV v (p, false)) (hp : p ≤ len) (hk45 : nxN t len p ≠ 45) (hk98 : nxN t len p ≠ 98) (hk115 : nxN t len p ≠ 115) : Run g m_X9_part [rf g 96] M sz 0 0 (Ret none (mup M 96 (MO g (psV (pU116 t len p v) (pE116 t len p))))) := by
  have e : (upd (psV (psV (upd (psV (psV (upd (psV (psV (upd (psV (upd v 6 116) (dgP t len 0 4 (p, false))) 7 (dvP t len (p, false))) (sgP t len 62 (dgP t len 0 4 (p, false)))) (dgP t len 0 4 (sgP t len 62 (dgP t len 0 4 (p, false))))) 8 (dvP t len (sgP t len 62 (dgP t len 0 4 (p, false))))) (sgP t len 61 (dgP t len 0 4 (sgP t len 62 (dgP t len 0 4 (p, false)))))) (nmP t len 99 (sgP t len 61 (dgP t len 0 4 (sgP t len 62 (dgP t len 0 4 (p, false))))))) 9 (nvP t len 99 (sgP t len 61 (dgP t len 0 4 (sgP t len 62 (dgP t len 0 4 (p, false))))))) (sgP t len 47 (nmP t len 99 (sgP t len 61 (dgP t len 0 4 (sgP t len 62 (dgP t len 0 4 (p, false)))))))) (nmP t len 99 (sgP t len 47 (nmP t len 99 (sgP t len 61 (dgP t len 0 4 (sgP t len 62 (dgP t len 0 4 (p, false))))))))) 10 (nvP t len 99 (sgP t len 47 (nmP t len 99 (sgP t len 61 (dgP t len 0 4 (sgP t len 62 (dgP t len 0 4 (p, false))))))))) = psV (pU116 t len p v) (pE116 t len p) := by
    unfold pU116 pE116
    simp only [psV_upd _ _ (show 7 ≠ 4 by decide) (show 7 ≠ 5 by decide), psV_upd _ _ (show 8 ≠ 4 by decide) (show 8 ≠ 5 by decide), psV_upd _ _ (show 9 ≠ 4 by decide) (show 9 ≠ 5 by decide), psV_upd _ _ (show 10 ≠ 4 by decide) (show 10 ≠ 5 by decide), psV_psV]
  rw [← e]
  exact q9_part_116_a hl ht hM hs hp hk45 hk98 hk115
