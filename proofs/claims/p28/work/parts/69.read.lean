/-! texts: the parts, read by the class -/
theorem dgP_inv {t : Nat → Nat} {len l h : Nat} {s : PS} (e : (dgP t len l h s).2 = false) : s.2 = false ∧ s.1 < len ∧ l + 48 ≤ t s.1 ∧ t s.1 ≤ h + 48 ∧ dgP t len l h s = (s.1 + 1, false) := by
  by_cases c : s.2 = true ∨ ¬ (l + 48 ≤ nxN t len s.1 ∧ nxN t len s.1 ≤ h + 48)
  · rw [dgP_w c] at e; cases e
  · have h1 : s.2 = false := (Bool.not_eq_true _).mp (fun x => c (Or.inl x))
    have h2 := Decidable.of_not_not (fun x => c (Or.inr x))
    have h3 : s.1 < len := by
      have := h2.1
      unfold nxN at this
      split at this
      · assumption
      · omega
    rw [nxN_lt h3] at h2
    exact ⟨h1, h3, h2.1, h2.2, dgP_o c⟩
theorem sgP_inv {t : Nat → Nat} {len x : Nat} {s : PS} (h0 : 0 < x) (e : (sgP t len x s).2 = false) : s.2 = false ∧ s.1 < len ∧ t s.1 = x ∧ sgP t len x s = (s.1 + 1, false) := by
  by_cases c : s.2 = true ∨ nxN t len s.1 ≠ x
  · rw [sgP_w c] at e; cases e
  · have h1 : s.2 = false := (Bool.not_eq_true _).mp (fun y => c (Or.inl y))
    have h2 := Decidable.of_not_not (fun y => c (Or.inr y))
    have h3 : s.1 < len := by
      unfold nxN at h2
      split at h2
      · assumption
      · omega
    rw [nxN_lt h3] at h2
    exact ⟨h1, h3, h2, sgP_o c⟩
def nmR (t : Nat → Nat) (len most : Nat) (s : PS) : Nat × Nat := nmL t len most (len + 1 - (s.1 + 1)) (t s.1 - 48) (s.1 + 1)
theorem nmP_inv {t : Nat → Nat} {len most : Nat} {s : PS} (e : (nmP t len most s).2 = false) : s.2 = false ∧ s.1 < len ∧ 49 ≤ t s.1 ∧ t s.1 ≤ 57 ∧ nmP t len most s = ((nmR t len most s).2, false) ∧ nvP t len most s = nI (nmR t len most s).1 := by
  by_cases c : (dgP t len 1 9 s).2 = true
  · unfold nmP at e; rw [if_pos c, c] at e; cases e
  · obtain ⟨h1, h2, h3, h4, h5⟩ := dgP_inv ((Bool.not_eq_true _).mp c)
    refine ⟨h1, h2, h3, h4, ?_, ?_⟩
    · unfold nmP nmR; rw [if_neg c, h5, nxN_lt h2]
    · unfold nvP nmR; rw [if_neg c, h5, nxN_lt h2]
theorem nmL_val {t : Nat → Nat} {len most : Nat} : ∀ m its p, 1 ≤ its → its ≤ most → 1 ≤ (nmL t len most m its p).1 ∧ (nmL t len most m its p).1 ≤ most
  | 0, its, p, h1, h2 => ⟨h1, h2⟩
  | m + 1, its, p, h1, h2 => by
    unfold nmL
    by_cases e : nmC t len most its p = true
    · rw [if_pos e]
      have := (of_decide_eq_true e).2.2
      exact nmL_val m _ _ (by omega) this
    · rw [if_neg e]; exact ⟨h1, h2⟩
/-- the numbers of a part -/
def pN (t : Nat → Nat) (len p : Nat) : Nat → Nat := fun k =>
  if nxN t len p = 45 then (if k = 0 then t (p + 1) - 48 else if k = 1 then t (p + 3) - 48 else 0)
  else if nxN t len p = 98 then (if k = 0 then t (p + 1) - 48 else if k = 1 then (nmR t len 9999 (p + 3, false)).1 else 0)
  else if nxN t len p = 115 then (if k = 0 then t (p + 1) - 48 else if k = 1 then t (p + 3) - 48 else 0)
  else (if k = 0 then t p - 48 else if k = 1 then t (p + 2) - 48 else if k = 2 then (nmR t len 99 (p + 4, false)).1 else if k = 3 then (nmR t len 99 ((nmR t len 99 (p + 4, false)).2 + 1, false)).1 else 0)
/-- a part that is told rightly -/
def PG (t : Nat → Nat) (len p : Nat) : Prop := (pE t len p).2 = false
theorem sh45 {t : Nat → Nat} {len p : Nat} (h : nxN t len p = 45) (e : PG t len p) : p + 3 < len ∧ t p = 45 ∧ 48 ≤ t (p + 1) ∧ t (p + 1) ≤ 52 ∧ t (p + 2) = 62 ∧ 48 ≤ t (p + 3) ∧ t (p + 3) ≤ 52 ∧ pE t len p = (p + 4, false) ∧ dgP t len 0 4 (p + 1, false) = (p + 2, false) ∧ sgP t len 62 (p + 2, false) = (p + 3, false) := by
  have hE : pE t len p = pE45 t len p := if_pos h
  unfold PG at e
  rw [hE] at e ⊢
  obtain ⟨a1, a2, a3, a4, a5⟩ := dgP_inv e
  obtain ⟨b1, b2, b3, b4⟩ := sgP_inv (by decide) a1
  obtain ⟨c1, c2, c3, c4, c5⟩ := dgP_inv b1
  unfold pE45
  rw [b4] at a2 a3 a4 a5
  rw [c5] at b2 b3 b4 a2 a3 a4 a5
  have hp : p < len := by have : p + 1 < len := c2; omega
  rw [nxN_lt hp] at h
  exact ⟨a2, h, c3, c4, b3, a3, a4, by rw [c5, b4, a5], c5, b4⟩
theorem sh115 {t : Nat → Nat} {len p : Nat} (h : nxN t len p = 115) (e : PG t len p) : p + 3 < len ∧ t p = 115 ∧ 48 ≤ t (p + 1) ∧ t (p + 1) ≤ 55 ∧ t (p + 2) = 62 ∧ 48 ≤ t (p + 3) ∧ t (p + 3) ≤ 52 ∧ pE t len p = (p + 4, false) ∧ dgP t len 0 7 (p + 1, false) = (p + 2, false) ∧ sgP t len 62 (p + 2, false) = (p + 3, false) := by
  have hE : pE t len p = pE115 t len p := by unfold pE; rw [if_neg (by omega), if_neg (by omega), if_pos h]
  unfold PG at e
  rw [hE] at e ⊢
  obtain ⟨a1, a2, a3, a4, a5⟩ := dgP_inv e
  obtain ⟨b1, b2, b3, b4⟩ := sgP_inv (by decide) a1
  obtain ⟨c1, c2, c3, c4, c5⟩ := dgP_inv b1
  unfold pE115
  rw [b4] at a2 a3 a4 a5
  rw [c5] at b2 b3 b4 a2 a3 a4 a5
  have hp : p < len := by have : p + 1 < len := c2; omega
  rw [nxN_lt hp] at h
  exact ⟨a2, h, c3, c4, b3, a3, a4, by rw [c5, b4, a5], c5, b4⟩
theorem sh98 {t : Nat → Nat} {len p : Nat} (h : nxN t len p = 98) (e : PG t len p) : p + 3 < len ∧ t p = 98 ∧ 48 ≤ t (p + 1) ∧ t (p + 1) ≤ 52 ∧ t (p + 2) = 61 ∧ 49 ≤ t (p + 3) ∧ t (p + 3) ≤ 57 ∧ pE t len p = ((nmR t len 9999 (p + 3, false)).2, false) ∧ dgP t len 0 4 (p + 1, false) = (p + 2, false) ∧ sgP t len 61 (p + 2, false) = (p + 3, false) ∧ nvP t len 9999 (p + 3, false) = nI (nmR t len 9999 (p + 3, false)).1 := by
  have hE : pE t len p = pE98 t len p := by unfold pE; rw [if_neg (by omega), if_pos h]
  unfold PG at e
  rw [hE] at e ⊢
  obtain ⟨a1, a2, a3, a4, a5, a6⟩ := nmP_inv e
  obtain ⟨b1, b2, b3, b4⟩ := sgP_inv (by decide) a1
  obtain ⟨c1, c2, c3, c4, c5⟩ := dgP_inv b1
  unfold pE98
  rw [b4] at a2 a3 a4 a5 a6
  rw [c5] at b2 b3 b4 a2 a3 a4 a5 a6
  have hp : p < len := by have : p + 1 < len := c2; omega
  rw [nxN_lt hp] at h
  exact ⟨a2, h, c3, c4, b3, a3, a4, by rw [c5, b4, a5], c5, b4, a6⟩
theorem sh116 {t : Nat → Nat} {len p : Nat} (h1 : nxN t len p ≠ 45) (h2 : nxN t len p ≠ 98) (h3 : nxN t len p ≠ 115) (e : PG t len p) :
    p + 4 < len ∧ 48 ≤ t p ∧ t p ≤ 52 ∧ t (p + 1) = 62 ∧ 48 ≤ t (p + 2) ∧ t (p + 2) ≤ 52 ∧ t (p + 3) = 61 ∧ 49 ≤ t (p + 4) ∧ t (p + 4) ≤ 57 ∧ (nmR t len 99 (p + 4, false)).2 + 1 < len ∧ t (nmR t len 99 (p + 4, false)).2 = 47 ∧ 49 ≤ t ((nmR t len 99 (p + 4, false)).2 + 1) ∧ t ((nmR t len 99 (p + 4, false)).2 + 1) ≤ 57 ∧
    pE t len p = ((nmR t len 99 ((nmR t len 99 (p + 4, false)).2 + 1, false)).2, false) ∧ dgP t len 0 4 (p, false) = (p + 1, false) ∧ sgP t len 62 (p + 1, false) = (p + 2, false) ∧ dgP t len 0 4 (p + 2, false) = (p + 3, false) ∧ sgP t len 61 (p + 3, false) = (p + 4, false) ∧ nvP t len 99 (p + 4, false) = nI (nmR t len 99 (p + 4, false)).1 ∧ nmP t len 99 (p + 4, false) = ((nmR t len 99 (p + 4, false)).2, false) ∧ sgP t len 47 ((nmR t len 99 (p + 4, false)).2, false) = ((nmR t len 99 (p + 4, false)).2 + 1, false) ∧ nvP t len 99 ((nmR t len 99 (p + 4, false)).2 + 1, false) = nI (nmR t len 99 ((nmR t len 99 (p + 4, false)).2 + 1, false)).1 := by
  have hE : pE t len p = pE116 t len p := by unfold pE; rw [if_neg h1, if_neg h2, if_neg h3]
  unfold PG at e
  rw [hE] at e ⊢
  obtain ⟨a1, a2, a3, a4, a5, a6⟩ := nmP_inv e
  obtain ⟨b1, b2, b3, b4⟩ := sgP_inv (by decide) a1
  obtain ⟨c1, c2, c3, c4, c5, c6⟩ := nmP_inv b1
  obtain ⟨d1, d2, d3, d4⟩ := sgP_inv (by decide) c1
  obtain ⟨e1, e2, e3, e4, e5⟩ := dgP_inv d1
  obtain ⟨f1, f2, f3, f4⟩ := sgP_inv (by decide) e1
  obtain ⟨g1, g2, g3, g4, g5⟩ := dgP_inv f1
  unfold pE116
  rw [b4] at a2 a3 a4 a5 a6
  rw [c5] at b2 b3 b4 a2 a3 a4 a5 a6
  rw [d4] at c2 c3 c4 c5 c6 b2 b3 b4 a2 a3 a4 a5 a6
  rw [e5] at d2 d3 d4 c2 c3 c4 c5 c6 b2 b3 b4 a2 a3 a4 a5 a6
  rw [f4] at e2 e3 e4 e5 d2 d3 d4 c2 c3 c4 c5 c6 b2 b3 b4 a2 a3 a4 a5 a6
  rw [g5] at f2 f3 f4 e2 e3 e4 e5 d2 d3 d4 c2 c3 c4 c5 c6 b2 b3 b4 a2 a3 a4 a5 a6
  exact ⟨c2, g3, g4, f3, e3, e4, d3, c3, c4, a2, b3, a3, a4, by rw [g5, f4, e5, d4, c5, b4, a5], g5, f4, e5, d4, c6, c5, b4, a6⟩
set_option maxRecDepth 20000 in
theorem rp_d {g : GE} {M : Mem} {sz : Nat} {len : Nat} {tx : Nat → Int32} {t : Nat → Nat} (hl : len ≤ 60) (ht : TX t tx len) {z : Int32} (h1 : M 83 = some (TO g len z)) (h2 : M 84 = some (eI g 60 tx)) {b i pl : Nat} {row : Nat → Int32} {Q : Ou → Mem → Prop} (hi : i < len) (hd : dgt (t i)) (hpl : pl < 4) (kk : V g m_X5_readPart 24 [(4, .int (nI (i + 1))), (3, .int (nI (pl))), (0, rf g 83), (1, .int (nI b)), (2, rf g 95)] [] (mup M 95 (eI g 4 (upd row pl (row pl * 10 + nI (t i) - 48)))) sz 0 0 Q) : V g m_X5_readPart 24 [(4, .int (nI (i))), (3, .int (nI (pl))), (0, rf g 83), (1, .int (nI b)), (2, rf g 95)] [] (mup M 95 (eI g 4 (row))) sz 0 0 Q := by
  have h126 := (ht i hi).2.1
  refine V_iload 0 dX5_readPart_24 rfl ?_
  refine V_aload_n 2 dX5_readPart_26 rfl ?_
  refine G_X5_15 rfl (show _ = some (TO g len z) from (mup_ne _ _ (by decide)).trans h1) rfl dX5_readPart_27 ?_
  refine V_icmp_ge (tgt := 107) dX5_readPart_30 (by decide) (fun c30 => absurd c30 (nI_ge hi (by omega))) (fun c30 => ?_)
  refine V_aload_n 2 dX5_readPart_33 rfl ?_
  refine G_X5_9 rfl (show _ = some (TO g len z) from (mup_ne _ _ (by decide)).trans h1) rfl dX5_readPart_34 ?_
  refine V_iload 0 dX5_readPart_37 rfl ?_
  refine V_pc (pc2 := 39) rfl ?_
  refine C_X5_26 rfl ⟨Nat.le_of_ble_eq_true rfl, Nat.le_of_ble_eq_true rfl⟩ (r_at ((mup_ne _ _ (by decide)).trans h2) i rfl (by omega) (by decide)) rfl (Nat.le_of_ble_eq_true rfl) dX5_readPart_39 rfl ?_
  rw [(ht i hi).2.2]
  refine V_bipush (v := 59) dX5_readPart_42 (by decide) ?_
  refine V_icmp_eq (tgt := 107) dX5_readPart_44 (by decide) (fun c44 => absurd c44 (fun e => by have h9 := hd.2; have := (nI_eq (b := 59) (by omega) (by decide)).mp e; omega)) (fun c44 => ?_)
  refine V_aload_n 2 dX5_readPart_47 rfl ?_
  refine G_X5_9 rfl (show _ = some (TO g len z) from (mup_ne _ _ (by decide)).trans h1) rfl dX5_readPart_48 ?_
  refine V_iload 0 dX5_readPart_51 rfl ?_
  refine C_X5_26 rfl ⟨Nat.le_of_ble_eq_true rfl, Nat.le_of_ble_eq_true rfl⟩ (r_at ((mup_ne _ _ (by decide)).trans h2) i rfl (by omega) (by decide)) rfl (Nat.le_of_ble_eq_true rfl) dX5_readPart_53 rfl ?_
  rw [(ht i hi).2.2]
  refine V_istore (lv2 := [(5, .int _), (4, .int _), (3, .int _), (0, .ref _), (1, .int _), (2, .ref _)]) dX5_readPart_56 (Nat.le_of_ble_eq_true rfl) rfl ?_
  refine V_pc (pc2 := 58) rfl ?_
  refine V_iload 0 dX5_readPart_58 rfl ?_
  refine V_bipush (v := 48) dX5_readPart_60 (by decide) ?_
  refine V_bipush (v := 57) dX5_readPart_62 (by decide) ?_
  refine C_X5_46 rfl ⟨Nat.le_of_ble_eq_true rfl, Nat.le_of_ble_eq_true rfl⟩ (r_isDigit (t i) 48 57 rfl rfl rfl (by omega) (by decide) (by decide)) rfl (Nat.le_of_ble_eq_true rfl) dX5_readPart_64 rfl ?_
  refine V_if_eq (tgt := 92) dX5_readPart_67 (by decide) (fun c67 => absurd c67 (by rw [decide_eq_true (show 48 ≤ t i ∧ t i ≤ 57 from hd)]; decide)) (fun c67 => ?_)
  refine V_aload_n 5 dX5_readPart_70 rfl ?_
  refine V_iload_n 2 dX5_readPart_71 rfl ?_
  refine V_aload_n 5 dX5_readPart_72 rfl ?_
  refine V_pc (pc2 := 73) rfl ?_
  refine V_iload_n 2 dX5_readPart_73 rfl ?_
  refine C_X5_26 rfl ⟨Nat.le_of_ble_eq_true rfl, Nat.le_of_ble_eq_true rfl⟩ (r_at (mup_eq _ _ _) pl rfl hpl (by decide)) rfl (Nat.le_of_ble_eq_true rfl) dX5_readPart_74 rfl ?_
  refine V_bipush (v := 10) dX5_readPart_77 (by decide) ?_
  refine V_imul dX5_readPart_79 ?_
  refine V_iload 0 dX5_readPart_80 rfl ?_
  refine V_iadd dX5_readPart_82 ?_
  refine V_bipush (v := 48) dX5_readPart_83 (by decide) ?_
  refine V_isub dX5_readPart_85 ?_
  refine V_pc (pc2 := 86) rfl ?_
  refine C_X5_22 rfl ⟨Nat.le_of_ble_eq_true rfl, Nat.le_of_ble_eq_true rfl⟩ (r_put (mup_eq _ _ _) pl rfl hpl (by decide)) rfl (Nat.le_of_ble_eq_true rfl) dX5_readPart_86 rfl ?_
  refine V_goto (tgt := 101) dX5_readPart_89 (by decide) ?_
  refine V_iinc (v := _ + 1) (lv2 := [(4, .int _), (5, .int _), (3, .int _), (0, .ref _), (1, .int _), (2, .ref _)]) 1 dX5_readPart_101 rfl rfl (Nat.le_of_ble_eq_true rfl) rfl ?_
  refine V_goto (tgt := 24) dX5_readPart_104 (by decide) ?_
  refine V_lv (lv2 := [(4, .int _), (3, .int _), (0, .ref _), (1, .int _), (2, .ref _)]) [0, 2, 3, 4, 5] rfl ?_
  rw [nI_1, mup_mup]
  exact kk
set_option maxRecDepth 20000 in
theorem rp_s {g : GE} {M : Mem} {sz : Nat} {len : Nat} {tx : Nat → Int32} {t : Nat → Nat} (hl : len ≤ 60) (ht : TX t tx len) {z : Int32} (h1 : M 83 = some (TO g len z)) (h2 : M 84 = some (eI g 60 tx)) {b i pl : Nat} {row : Nat → Int32} {Q : Ou → Mem → Prop} (hi : i < len) (h59 : t i ≠ 59) (hd : ¬ dgt (t i)) (hb : b < i) (hl9 : i ≤ 60) (kk : V g m_X5_readPart 24 [(4, .int (nI (i + 1))), (3, .int (nI (pl + 1))), (0, rf g 83), (1, .int (nI b)), (2, rf g 95)] [] (mup M 95 (eI g 4 (row))) sz 0 0 Q) : V g m_X5_readPart 24 [(4, .int (nI (i))), (3, .int (nI (pl))), (0, rf g 83), (1, .int (nI b)), (2, rf g 95)] [] (mup M 95 (eI g 4 (row))) sz 0 0 Q := by
  have h126 := (ht i hi).2.1
  refine V_iload 0 dX5_readPart_24 rfl ?_
  refine V_aload_n 2 dX5_readPart_26 rfl ?_
  refine G_X5_15 rfl (show _ = some (TO g len z) from (mup_ne _ _ (by decide)).trans h1) rfl dX5_readPart_27 ?_
  refine V_icmp_ge (tgt := 107) dX5_readPart_30 (by decide) (fun c30 => absurd c30 (nI_ge hi (by omega))) (fun c30 => ?_)
  refine V_aload_n 2 dX5_readPart_33 rfl ?_
  refine G_X5_9 rfl (show _ = some (TO g len z) from (mup_ne _ _ (by decide)).trans h1) rfl dX5_readPart_34 ?_
  refine V_iload 0 dX5_readPart_37 rfl ?_
  refine V_pc (pc2 := 39) rfl ?_
  refine C_X5_26 rfl ⟨Nat.le_of_ble_eq_true rfl, Nat.le_of_ble_eq_true rfl⟩ (r_at ((mup_ne _ _ (by decide)).trans h2) i rfl (by omega) (by decide)) rfl (Nat.le_of_ble_eq_true rfl) dX5_readPart_39 rfl ?_
  rw [(ht i hi).2.2]
  refine V_bipush (v := 59) dX5_readPart_42 (by decide) ?_
  refine V_icmp_eq (tgt := 107) dX5_readPart_44 (by decide) (fun c44 => absurd c44 (fun e => h59 ((nI_eq (b := 59) (by omega) (by decide)).mp e))) (fun c44 => ?_)
  refine V_aload_n 2 dX5_readPart_47 rfl ?_
  refine G_X5_9 rfl (show _ = some (TO g len z) from (mup_ne _ _ (by decide)).trans h1) rfl dX5_readPart_48 ?_
  refine V_iload 0 dX5_readPart_51 rfl ?_
  refine C_X5_26 rfl ⟨Nat.le_of_ble_eq_true rfl, Nat.le_of_ble_eq_true rfl⟩ (r_at ((mup_ne _ _ (by decide)).trans h2) i rfl (by omega) (by decide)) rfl (Nat.le_of_ble_eq_true rfl) dX5_readPart_53 rfl ?_
  rw [(ht i hi).2.2]
  refine V_istore (lv2 := [(5, .int _), (4, .int _), (3, .int _), (0, .ref _), (1, .int _), (2, .ref _)]) dX5_readPart_56 (Nat.le_of_ble_eq_true rfl) rfl ?_
  refine V_pc (pc2 := 58) rfl ?_
  refine V_iload 0 dX5_readPart_58 rfl ?_
  refine V_bipush (v := 48) dX5_readPart_60 (by decide) ?_
  refine V_bipush (v := 57) dX5_readPart_62 (by decide) ?_
  refine C_X5_46 rfl ⟨Nat.le_of_ble_eq_true rfl, Nat.le_of_ble_eq_true rfl⟩ (r_isDigit (t i) 48 57 rfl rfl rfl (by omega) (by decide) (by decide)) rfl (Nat.le_of_ble_eq_true rfl) dX5_readPart_64 rfl ?_
  refine V_if_eq (tgt := 92) dX5_readPart_67 (by decide) (fun c67 => ?_) (fun c67 => absurd (by rw [decide_eq_false (show ¬ (48 ≤ t i ∧ t i ≤ 57) from hd)]; rfl) c67)
  refine V_iload 1 dX5_readPart_92 rfl ?_
  refine V_iload_n 4 dX5_readPart_94 rfl ?_
  refine V_icmp_le (tgt := 101) dX5_readPart_95 (by decide) (fun c95 => absurd c95 (nI_ge hb (by omega))) (fun c95 => ?_)
  refine V_pc (pc2 := 98) rfl ?_
  refine V_iinc (v := _ + 1) (lv2 := [(3, .int _), (5, .int _), (4, .int _), (0, .ref _), (1, .int _), (2, .ref _)]) 2 dX5_readPart_98 rfl rfl (Nat.le_of_ble_eq_true rfl) rfl ?_
  refine V_iinc (v := _ + 1) (lv2 := [(4, .int _), (3, .int _), (5, .int _), (0, .ref _), (1, .int _), (2, .ref _)]) 2 dX5_readPart_101 rfl rfl (Nat.le_of_ble_eq_true rfl) rfl ?_
  refine V_goto (tgt := 24) dX5_readPart_104 (by decide) ?_
  refine V_lv (lv2 := [(4, .int _), (3, .int _), (0, .ref _), (1, .int _), (2, .ref _)]) [0, 1, 3, 4, 5] rfl ?_
  rw [nI_1, nI_1]
  exact kk
set_option maxRecDepth 20000 in
theorem rp_k {g : GE} {M : Mem} {sz : Nat} {len : Nat} {tx : Nat → Int32} {t : Nat → Nat} (hl : len ≤ 60) (ht : TX t tx len) {z : Int32} (h1 : M 83 = some (TO g len z)) (h2 : M 84 = some (eI g 60 tx)) {b i pl : Nat} {row : Nat → Int32} {Q : Ou → Mem → Prop} (hi : i < len) (h59 : t i ≠ 59) (hd : ¬ dgt (t i)) (hb : i = b) (kk : V g m_X5_readPart 24 [(4, .int (nI (i + 1))), (3, .int (nI (pl))), (0, rf g 83), (1, .int (nI b)), (2, rf g 95)] [] (mup M 95 (eI g 4 (row))) sz 0 0 Q) : V g m_X5_readPart 24 [(4, .int (nI (i))), (3, .int (nI (pl))), (0, rf g 83), (1, .int (nI b)), (2, rf g 95)] [] (mup M 95 (eI g 4 (row))) sz 0 0 Q := by
  have h126 := (ht i hi).2.1
  refine V_iload 0 dX5_readPart_24 rfl ?_
  refine V_aload_n 2 dX5_readPart_26 rfl ?_
  refine G_X5_15 rfl (show _ = some (TO g len z) from (mup_ne _ _ (by decide)).trans h1) rfl dX5_readPart_27 ?_
  refine V_icmp_ge (tgt := 107) dX5_readPart_30 (by decide) (fun c30 => absurd c30 (nI_ge hi (by omega))) (fun c30 => ?_)
  refine V_aload_n 2 dX5_readPart_33 rfl ?_
  refine G_X5_9 rfl (show _ = some (TO g len z) from (mup_ne _ _ (by decide)).trans h1) rfl dX5_readPart_34 ?_
  refine V_iload 0 dX5_readPart_37 rfl ?_
  refine V_pc (pc2 := 39) rfl ?_
  refine C_X5_26 rfl ⟨Nat.le_of_ble_eq_true rfl, Nat.le_of_ble_eq_true rfl⟩ (r_at ((mup_ne _ _ (by decide)).trans h2) i rfl (by omega) (by decide)) rfl (Nat.le_of_ble_eq_true rfl) dX5_readPart_39 rfl ?_
  rw [(ht i hi).2.2]
  refine V_bipush (v := 59) dX5_readPart_42 (by decide) ?_
  refine V_icmp_eq (tgt := 107) dX5_readPart_44 (by decide) (fun c44 => absurd c44 (fun e => h59 ((nI_eq (b := 59) (by omega) (by decide)).mp e))) (fun c44 => ?_)
  refine V_aload_n 2 dX5_readPart_47 rfl ?_
  refine G_X5_9 rfl (show _ = some (TO g len z) from (mup_ne _ _ (by decide)).trans h1) rfl dX5_readPart_48 ?_
  refine V_iload 0 dX5_readPart_51 rfl ?_
  refine C_X5_26 rfl ⟨Nat.le_of_ble_eq_true rfl, Nat.le_of_ble_eq_true rfl⟩ (r_at ((mup_ne _ _ (by decide)).trans h2) i rfl (by omega) (by decide)) rfl (Nat.le_of_ble_eq_true rfl) dX5_readPart_53 rfl ?_
  rw [(ht i hi).2.2]
  refine V_istore (lv2 := [(5, .int _), (4, .int _), (3, .int _), (0, .ref _), (1, .int _), (2, .ref _)]) dX5_readPart_56 (Nat.le_of_ble_eq_true rfl) rfl ?_
  refine V_pc (pc2 := 58) rfl ?_
  refine V_iload 0 dX5_readPart_58 rfl ?_
  refine V_bipush (v := 48) dX5_readPart_60 (by decide) ?_
  refine V_bipush (v := 57) dX5_readPart_62 (by decide) ?_
  refine C_X5_46 rfl ⟨Nat.le_of_ble_eq_true rfl, Nat.le_of_ble_eq_true rfl⟩ (r_isDigit (t i) 48 57 rfl rfl rfl (by omega) (by decide) (by decide)) rfl (Nat.le_of_ble_eq_true rfl) dX5_readPart_64 rfl ?_
  refine V_if_eq (tgt := 92) dX5_readPart_67 (by decide) (fun c67 => ?_) (fun c67 => absurd (by rw [decide_eq_false (show ¬ (48 ≤ t i ∧ t i ≤ 57) from hd)]; rfl) c67)
  refine V_iload 1 dX5_readPart_92 rfl ?_
  refine V_iload_n 4 dX5_readPart_94 rfl ?_
  refine V_icmp_le (tgt := 101) dX5_readPart_95 (by decide) (fun c95 => ?_) (fun c95 => absurd (nI_le (by omega) (by omega)) c95)
  refine V_pc (pc2 := 101) rfl ?_
  refine V_iinc (v := _ + 1) (lv2 := [(4, .int _), (5, .int _), (3, .int _), (0, .ref _), (1, .int _), (2, .ref _)]) 1 dX5_readPart_101 rfl rfl (Nat.le_of_ble_eq_true rfl) rfl ?_
  refine V_goto (tgt := 24) dX5_readPart_104 (by decide) ?_
  refine V_lv (lv2 := [(4, .int _), (3, .int _), (0, .ref _), (1, .int _), (2, .ref _)]) [0, 2, 3, 4, 5] rfl ?_
  rw [nI_1]
  exact kk
set_option maxRecDepth 20000 in
theorem rp_c {g : GE} {M : Mem} {sz : Nat} {len : Nat} {tx : Nat → Int32} {t : Nat → Nat} (hl : len ≤ 60) (ht : TX t tx len) {z : Int32} (h1 : M 83 = some (TO g len z)) (h2 : M 84 = some (eI g 60 tx)) {b i pl : Nat} {row : Nat → Int32} {Q : Ou → Mem → Prop} (hi : i < len) (h59 : t i = 59) (kk : Q (.inl (some (.int (nI i)))) (mup M 95 (eI g 4 row))) : V g m_X5_readPart 24 [(4, .int (nI (i))), (3, .int (nI (pl))), (0, rf g 83), (1, .int (nI b)), (2, rf g 95)] [] (mup M 95 (eI g 4 (row))) sz 0 0 Q := by
  have h126 := (ht i hi).2.1
  refine V_iload 0 dX5_readPart_24 rfl ?_
  refine V_aload_n 2 dX5_readPart_26 rfl ?_
  refine G_X5_15 rfl (show _ = some (TO g len z) from (mup_ne _ _ (by decide)).trans h1) rfl dX5_readPart_27 ?_
  refine V_icmp_ge (tgt := 107) dX5_readPart_30 (by decide) (fun c30 => absurd c30 (nI_ge hi (by omega))) (fun c30 => ?_)
  refine V_aload_n 2 dX5_readPart_33 rfl ?_
  refine G_X5_9 rfl (show _ = some (TO g len z) from (mup_ne _ _ (by decide)).trans h1) rfl dX5_readPart_34 ?_
  refine V_iload 0 dX5_readPart_37 rfl ?_
  refine V_pc (pc2 := 39) rfl ?_
  refine C_X5_26 rfl ⟨Nat.le_of_ble_eq_true rfl, Nat.le_of_ble_eq_true rfl⟩ (r_at ((mup_ne _ _ (by decide)).trans h2) i rfl (by omega) (by decide)) rfl (Nat.le_of_ble_eq_true rfl) dX5_readPart_39 rfl ?_
  rw [(ht i hi).2.2]
  refine V_bipush (v := 59) dX5_readPart_42 (by decide) ?_
  refine V_icmp_eq (tgt := 107) dX5_readPart_44 (by decide) (fun c44 => ?_) (fun c44 => absurd (by rw [h59]; rfl) c44)
  refine V_iload 0 dX5_readPart_107 rfl ?_
  refine V_iret (st := []) dX5_readPart_109 rfl ?_
  exact kk
set_option maxRecDepth 20000 in
theorem rp_e {g : GE} {M : Mem} {sz : Nat} {len : Nat} {tx : Nat → Int32} {t : Nat → Nat} (hl : len ≤ 60) (ht : TX t tx len) {z : Int32} (h1 : M 83 = some (TO g len z)) (h2 : M 84 = some (eI g 60 tx)) {b pl : Nat} {row : Nat → Int32} {Q : Ou → Mem → Prop} (kk : Q (.inl (some (.int (nI len)))) (mup M 95 (eI g 4 row))) : V g m_X5_readPart 24 [(4, .int (nI (len))), (3, .int (nI (pl))), (0, rf g 83), (1, .int (nI b)), (2, rf g 95)] [] (mup M 95 (eI g 4 (row))) sz 0 0 Q := by
  refine V_iload 0 dX5_readPart_24 rfl ?_
  refine V_aload_n 2 dX5_readPart_26 rfl ?_
  refine G_X5_15 rfl (show _ = some (TO g len z) from (mup_ne _ _ (by decide)).trans h1) rfl dX5_readPart_27 ?_
  refine V_icmp_ge (tgt := 107) dX5_readPart_30 (by decide) (fun c30 => ?_) (fun c30 => absurd (nI_le (Nat.le_refl _) (by omega)) c30)
  refine V_iload 0 dX5_readPart_107 rfl ?_
  refine V_iret (st := []) dX5_readPart_109 rfl ?_
  exact kk
theorem nI_dig {x c : Nat} (hc : 48 ≤ c) : nI x * 10 + nI c - 48 = nI (10 * x + (c - 48)) := by
  rw [show (10 : Int32) = nI 10 from rfl, pk_mul, nI_add, show (48 : Int32) = nI 48 from rfl, pk_sub (by omega), show x * 10 + c - 48 = 10 * x + (c - 48) by omega]
theorem rp_n {g : GE} {M : Mem} {sz : Nat} {len : Nat} {tx : Nat → Int32} {t : Nat → Nat} (hl : len ≤ 60) (ht : TX t tx len) {z : Int32} (h1 : M 83 = some (TO g len z)) (h2 : M 84 = some (eI g 60 tx)) {b pl most : Nat} {row : Nat → Int32} {Q : Ou → Mem → Prop} (hpl : pl < 4) : ∀ (m its i : Nat), (V g m_X5_readPart 24 [(4, .int (nI ((nmL t len most m its i).2))), (3, .int (nI (pl))), (0, rf g 83), (1, .int (nI b)), (2, rf g 95)] [] (mup M 95 (eI g 4 (upd row pl (nI (nmL t len most m its i).1)))) sz 0 0 Q) → V g m_X5_readPart 24 [(4, .int (nI (i))), (3, .int (nI (pl))), (0, rf g 83), (1, .int (nI b)), (2, rf g 95)] [] (mup M 95 (eI g 4 (upd row pl (nI its)))) sz 0 0 Q := by
  intro m
  induction m with
  | zero => intro its i kk; exact kk
  | succ m ih =>
    intro its i kk
    by_cases e : nmC t len most its i = true
    · have hi := nmC_lt e
      have hd := of_decide_eq_true e
      rw [nxN_lt hi] at hd
      refine rp_d hl ht h1 h2 hi ⟨hd.1, hd.2.1⟩ hpl ?_
      rw [upd_at, upd_upd, nI_dig hd.1]
      have e2 : nmL t len most (m + 1) its i = nmL t len most m (10 * its + (t i - 48)) (i + 1) := by rw [nmL_yes e, nxN_lt hi]
      rw [e2] at kk
      exact ih _ _ kk
    · have e2 : nmL t len most (m + 1) its i = (its, i) := nmL_no ((Bool.not_eq_true _).mp e)
      rw [e2] at kk
      exact kk
def rz : Nat → Int32 := fun _ => 0
theorem dg0 {row : Nat → Int32} {pl c : Nat} (h0 : row pl = 0) (hc : 48 ≤ c) : row pl * 10 + nI c - 48 = nI (c - 48) := by
  rw [h0, show (0 : Int32) = nI 0 from rfl, nI_dig hc, Nat.mul_zero, Nat.zero_add]
theorem pN_45 {t : Nat → Nat} {len p : Nat} (h : nxN t len p = 45) : pN t len p 0 = t (p + 1) - 48 ∧ pN t len p 1 = t (p + 3) - 48 := by
  unfold pN; rw [if_pos h, if_pos h]; exact ⟨rfl, rfl⟩
theorem pN_98 {t : Nat → Nat} {len p : Nat} (h : nxN t len p = 98) : pN t len p 0 = t (p + 1) - 48 ∧ pN t len p 1 = (nmR t len 9999 (p + 3, false)).1 := by
  have h0 : nxN t len p ≠ 45 := by omega
  unfold pN; constructor <;> rw [if_neg h0, if_pos h] <;> rfl
theorem pN_115 {t : Nat → Nat} {len p : Nat} (h : nxN t len p = 115) : pN t len p 0 = t (p + 1) - 48 ∧ pN t len p 1 = t (p + 3) - 48 := by
  have h0 : nxN t len p ≠ 45 := by omega
  have h1 : nxN t len p ≠ 98 := by omega
  unfold pN; constructor <;> rw [if_neg h0, if_neg h1, if_pos h] <;> rfl
theorem pN_116 {t : Nat → Nat} {len p : Nat} (h1 : nxN t len p ≠ 45) (h2 : nxN t len p ≠ 98) (h3 : nxN t len p ≠ 115) : pN t len p 0 = t p - 48 ∧ pN t len p 1 = t (p + 2) - 48 ∧ pN t len p 2 = (nmR t len 99 (p + 4, false)).1 ∧ pN t len p 3 = (nmR t len 99 ((nmR t len 99 (p + 4, false)).2 + 1, false)).1 := by
  unfold pN; rw [if_neg h1, if_neg h2, if_neg h3, if_neg h1, if_neg h2, if_neg h3, if_neg h1, if_neg h2, if_neg h3, if_neg h1, if_neg h2, if_neg h3]; exact ⟨rfl, rfl, rfl, rfl⟩
def rowP (t : Nat → Nat) (len p : Nat) : Nat → Int32 := if nxN t len p = 45 ∨ nxN t len p = 98 ∨ nxN t len p = 115 then upd (upd rz 0 (nI (pN t len p 0))) 1 (nI (pN t len p 1)) else upd (upd (upd (upd rz 0 (nI (pN t len p 0))) 1 (nI (pN t len p 1))) 2 (nI (pN t len p 2))) 3 (nI (pN t len p 3))
theorem rowP_at (t : Nat → Nat) (len p : Nat) : rowP t len p 0 = nI (pN t len p 0) ∧ rowP t len p 1 = nI (pN t len p 1) ∧ (nxN t len p ≠ 45 → nxN t len p ≠ 98 → nxN t len p ≠ 115 → rowP t len p 2 = nI (pN t len p 2) ∧ rowP t len p 3 = nI (pN t len p 3)) := by
  unfold rowP
  split
  · rename_i h
    exact ⟨rfl, rfl, fun a b c => by rcases h with h | h | h <;> contradiction⟩
  · exact ⟨rfl, rfl, fun _ _ _ => ⟨rfl, rfl⟩⟩
/-- the whole part -/
theorem rp_all {g : GE} {M : Mem} {sz : Nat} {len : Nat} {tx : Nat → Int32} {t : Nat → Nat} (hl : len ≤ 60) (ht : TX t tx len) {z : Int32} (h1 : M 83 = some (TO g len z)) (h2 : M 84 = some (eI g 60 tx)) {p : Nat} (hg : PG t len p) (he : (pE t len p).1 = len ∨ (pE t len p).1 < len ∧ t (pE t len p).1 = 59) {Q : Ou → Mem → Prop} (kk : Q (.inl (some (.int (nI (pE t len p).1)))) (mup M 95 (eI g 4 (rowP t len p)))) : V g m_X5_readPart 24 [(4, .int (nI (p))), (3, .int (nI (0))), (0, rf g 83), (1, .int (nI p)), (2, rf g 95)] [] (mup M 95 (eI g 4 (rz))) sz 0 0 Q := by
  have fin : ∀ pl, V g m_X5_readPart 24 [(4, .int (nI ((pE t len p).1))), (3, .int (nI (pl))), (0, rf g 83), (1, .int (nI p)), (2, rf g 95)] [] (mup M 95 (eI g 4 (rowP t len p))) sz 0 0 Q := by
    intro pl
    rcases he with he | ⟨he1, he2⟩
    · rw [he] at kk ⊢; exact rp_e hl ht h1 h2 kk
    · exact rp_c hl ht h1 h2 he1 he2 kk
  unfold rowP at fin
  by_cases c1 : nxN t len p = 45
  · obtain ⟨a1, a2, a3, a4, a5, a6, a7, a8, _⟩ := sh45 c1 hg
    rw [a8, if_pos (Or.inl c1), (pN_45 c1).1, (pN_45 c1).2] at fin
    refine rp_k (i := p) hl ht h1 h2 (by omega) (by omega) (fun h => by have := h.1; omega) rfl ?_
    refine rp_d (i := p + 1) hl ht h1 h2 (by omega) ⟨a3, by omega⟩ (by decide) ?_
    rw [dg0 rfl a3]
    refine rp_s (i := p + 2) hl ht h1 h2 (by omega) (by omega) (fun h => by have := h.2; omega) (by omega) (by omega) ?_
    refine rp_d (i := p + 3) hl ht h1 h2 (by omega) ⟨a6, by omega⟩ (by decide) ?_
    rw [dg0 rfl a6]
    exact fin _
  · by_cases c2 : nxN t len p = 98
    · obtain ⟨a1, a2, a3, a4, a5, a6, a7, a8, _⟩ := sh98 c2 hg
      rw [a8, if_pos (Or.inr (Or.inl c2)), (pN_98 c2).1, (pN_98 c2).2] at fin
      refine rp_k (i := p) hl ht h1 h2 (by omega) (by omega) (fun h => by have := h.2; omega) rfl ?_
      refine rp_d (i := p + 1) hl ht h1 h2 (by omega) ⟨a3, by omega⟩ (by decide) ?_
      rw [dg0 rfl a3]
      refine rp_s (i := p + 2) hl ht h1 h2 (by omega) (by omega) (fun h => by have := h.2; omega) (by omega) (by omega) ?_
      refine rp_d (i := p + 3) hl ht h1 h2 (by omega) ⟨by omega, a7⟩ (by decide) ?_
      rw [dg0 rfl (by omega)]
      exact rp_n hl ht h1 h2 (by decide) (len + 1 - (p + 3 + 1)) _ _ (fin _)
    · by_cases c3 : nxN t len p = 115
      · obtain ⟨a1, a2, a3, a4, a5, a6, a7, a8, _⟩ := sh115 c3 hg
        rw [a8, if_pos (Or.inr (Or.inr c3)), (pN_115 c3).1, (pN_115 c3).2] at fin
        refine rp_k (i := p) hl ht h1 h2 (by omega) (by omega) (fun h => by have := h.2; omega) rfl ?_
        refine rp_d (i := p + 1) hl ht h1 h2 (by omega) ⟨a3, by omega⟩ (by decide) ?_
        rw [dg0 rfl a3]
        refine rp_s (i := p + 2) hl ht h1 h2 (by omega) (by omega) (fun h => by have := h.2; omega) (by omega) (by omega) ?_
        refine rp_d (i := p + 3) hl ht h1 h2 (by omega) ⟨a6, by omega⟩ (by decide) ?_
        rw [dg0 rfl a6]
        exact fin _
      · obtain ⟨a1, a2, a3, a4, a5, a6, a7, a8, a9, b1, b2, b3, b4, b5, _⟩ := sh116 c1 c2 c3 hg
        have hmono : p + 5 ≤ (nmR t len 99 (p + 4, false)).2 := (nmL_le _ _ _ (show p + 4 + 1 ≤ len by omega)).2
        obtain ⟨n0, n1, n2, n3⟩ := pN_116 c1 c2 c3
        rw [b5, if_neg (fun h => by rcases h with h | h | h <;> contradiction), n0, n1, n2, n3] at fin
        refine rp_d (i := p) hl ht h1 h2 (by omega) ⟨a2, by omega⟩ (by decide) ?_
        rw [dg0 rfl a2]
        refine rp_s (i := p + 1) hl ht h1 h2 (by omega) (by omega) (fun h => by have := h.2; omega) (by omega) (by omega) ?_
        refine rp_d (i := p + 2) hl ht h1 h2 (by omega) ⟨a5, by omega⟩ (by decide) ?_
        rw [dg0 rfl a5]
        refine rp_s (i := p + 3) hl ht h1 h2 (by omega) (by omega) (fun h => by have := h.2; omega) (by omega) (by omega) ?_
        refine rp_d (i := p + 4) hl ht h1 h2 (by omega) ⟨by omega, a9⟩ (by decide) ?_
        rw [dg0 rfl (by omega)]
        refine rp_n (most := 99) hl ht h1 h2 (by decide) (len + 1 - (p + 4 + 1)) _ _ ?_
        show V g m_X5_readPart 24 [(4, .int (nI ((nmR t len 99 (p + 4, false)).2))), (3, .int (nI (0 + 1 + 1))), (0, rf g 83), (1, .int (nI p)), (2, rf g 95)] [] (mup M 95 (eI g 4 (upd (upd (upd rz 0 (nI (t p - 48))) (0 + 1) (nI (t (p + 1 + 1) - 48))) (0 + 1 + 1) (nI (nmR t len 99 (p + 4, false)).1)))) sz 0 0 Q
        refine rp_s (i := (nmR t len 99 (p + 4, false)).2) hl ht h1 h2 (by omega) (by omega) (fun h => by have := h.1; omega) (by omega) (by omega) ?_
        refine rp_d (i := (nmR t len 99 (p + 4, false)).2 + 1) hl ht h1 h2 (by omega) ⟨by omega, b4⟩ (by decide) ?_
        rw [dg0 rfl (by omega)]
        exact rp_n hl ht h1 h2 (by decide) (len + 1 - ((nmR t len 99 (p + 4, false)).2 + 1 + 1)) _ _ (fin _)
def zR (f : Nat → Int32) (i : Nat) : Nat → Int32 := fun k => if k < i then 0 else f k
theorem zR_0 (f : Nat → Int32) : zR f 0 = f := by funext k; unfold zR; rw [if_neg (by omega)]
theorem zR_s (f : Nat → Int32) (i : Nat) : upd (zR f i) i 0 = zR f (i + 1) := by
  funext k
  by_cases h : k = i
  · subst h; rw [upd_at]; unfold zR; rw [if_pos (by omega)]
  · rw [upd_ne h]; unfold zR
    by_cases h2 : k < i
    · rw [if_pos h2, if_pos (by omega)]
    · rw [if_neg h2, if_neg (by omega)]
theorem V_extI {g : GE} {mt : MT} {pc : Nat} {lv : List (Nat × Value)} {st : List Value} {M : Mem} {sz kc ks : Nat} {Q : Ou → Mem → Prop} {a n : Nat} {f f2 : Nat → Int32} (hM : M a = some (eI g n f)) (hf : ∀ k, k < n → f k = f2 k) (kk : V g mt pc lv st (mup M a (eI g n f2)) sz kc ks Q) : V g mt pc lv st M sz kc ks Q := by
  intro p e R s m args below meth c H locs cells slots mc ms ls a1 a2 a3 a4 a5 a6 a7 a8 a9
  obtain ⟨ws, hP, hD, hM2⟩ := id a2
  obtain ⟨q, hq⟩ := wo_at hM2 hM
  refine kk p e R s m args below meth c H locs cells slots mc ms ls a1 ⟨_, ?_, hD.set hq, wo_set hD hM2 hq⟩ a3 a4 a5 a6 a7 a8 a9
  refine hP.set hD hq ?_ (fun _ _ => rfl)
  have h1 : H[gb g + a]? = some (vp_cell (gI g) (n, .inl f)) := hP q _ hq
  show H[gb g + a]? = some (vp_cell (gI g) (n, .inl f2))
  rw [h1]
  show some (arrV (gI g) n (fun j => .int (f j))) = some (arrV (gI g) n (fun j => .int (f2 j)))
  unfold arrV
  congr 2
  congr 1
  funext j
  exact congrArg Value.int (hf j.val j.isLt)
set_option maxRecDepth 20000 in
theorem r_readPart {g : GE} {M : Mem} {sz : Nat} {len : Nat} {tx : Nat → Int32} {t : Nat → Nat} (hl : len ≤ 60) (ht : TX t tx len) {z : Int32} (h1 : M 83 = some (TO g len z)) (h2 : M 84 = some (eI g 60 tx)) {w : Nat → Int32} (h5 : M 95 = some (eI g 4 w)) {x : Int32} (p : Nat) (hx : x = nI p) (hg : PG t len p) (he : (pE t len p).1 = len ∨ (pE t len p).1 < len ∧ t (pE t len p).1 = 59) : Run g m_X5_readPart [rf g 83, .int x, rf g 95] M sz 0 0 (Ret (some (.int (nI (pE t len p).1))) (mup M 95 (eI g 4 (rowP t len p)))) := by
  subst hx
  have L : ∀ m i : Nat, i + m = 4 → V g m_X5_readPart 2 [(3, .int (nI i)), (0, rf g 83), (1, .int (nI p)), (2, rf g 95)] [] (mup M 95 (eI g 4 (zR w i))) sz 0 0 (Ret (some (.int (nI (pE t len p).1))) (mup M 95 (eI g 4 (rowP t len p)))) := by
    intro m
    induction m with
    | zero =>
      intro i hi
      obtain rfl : i = 4 := by omega
      refine V_iload_n 0 dX5_readPart_2 rfl ?_
      refine V_iconst (v := 4) dX5_readPart_3 rfl ?_
      refine V_icmp_ge (tgt := 19) dX5_readPart_4 (by decide) (fun c4 => ?_) (fun c4 => absurd (by decide) c4)
      refine V_iconst (v := 0) dX5_readPart_19 rfl ?_
      refine V_istore_n (lv2 := [(3, .int _), (0, .ref _), (1, .int _), (2, .ref _)]) dX5_readPart_20 (Nat.le_of_ble_eq_true rfl) rfl ?_
      refine V_iload_n 2 dX5_readPart_21 rfl ?_
      refine V_istore (lv2 := [(4, .int _), (3, .int _), (0, .ref _), (1, .int _), (2, .ref _)]) dX5_readPart_22 (Nat.le_of_ble_eq_true rfl) rfl ?_
      refine V_lv (lv2 := [(4, .int _), (3, .int _), (0, .ref _), (1, .int _), (2, .ref _)]) [0, 1, 2, 3, 4] rfl ?_
      refine V_extI (f2 := rz) (mup_eq _ _ _) (fun k hk => if_pos hk) ?_
      rw [mup_mup]
      exact rp_all hl ht h1 h2 hg he ⟨rfl, rfl⟩
    | succ m ih =>
      intro i hi
      have hlt : i < 4 := by omega
      refine V_iload_n 0 dX5_readPart_2 rfl ?_
      refine V_iconst (v := 4) dX5_readPart_3 rfl ?_
      refine V_icmp_ge (tgt := 19) dX5_readPart_4 (by decide) (fun c4 => absurd c4 (nI_ge (b := 4) hlt (by decide))) (fun c4 => ?_)
      refine V_aload_n 3 dX5_readPart_7 rfl ?_
      refine V_iload_n 0 dX5_readPart_8 rfl ?_
      refine V_iconst (v := 0) dX5_readPart_9 rfl ?_
      refine C_X5_22 rfl ⟨Nat.le_of_ble_eq_true rfl, Nat.le_of_ble_eq_true rfl⟩ (r_put (mup_eq _ _ _) i rfl hlt (by decide)) rfl (Nat.le_of_ble_eq_true rfl) dX5_readPart_10 rfl ?_
      refine V_pc (pc2 := 13) rfl ?_
      refine V_iinc (v := _ + 1) (lv2 := [(3, .int _), (0, .ref _), (1, .int _), (2, .ref _)]) 0 dX5_readPart_13 rfl rfl (Nat.le_of_ble_eq_true rfl) rfl ?_
      refine V_goto (tgt := 2) dX5_readPart_16 (by decide) ?_
      refine V_lv (lv2 := [(3, .int _), (0, .ref _), (1, .int _), (2, .ref _)]) [0, 1, 2, 3] rfl ?_
      rw [nI_1, mup_mup, zR_s]
      exact ih (i + 1) (by omega)
  refine Run.of rfl (by decide) (Nat.le_of_ble_eq_true rfl) ?_
  show V g m_X5_readPart 0 _ [] _ _ _ _ _
  refine V_iconst (v := 0) dX5_readPart_0 rfl ?_
  refine V_istore_n (lv2 := [(3, .int _), (0, .ref _), (1, .int _), (2, .ref _)]) dX5_readPart_1 (Nat.le_of_ble_eq_true rfl) rfl ?_
  refine V_lv (lv2 := [(3, .int _), (0, .ref _), (1, .int _), (2, .ref _)]) [0, 1, 2, 3] rfl ?_
  have e9 := L 4 0 rfl
  rw [zR_0, mup_self h5] at e9
  exact e9
