/-! the class: yards, what is saved -/
def YO (g : GE) (y : Nat) (p r : Int32) : va_E := eO 7 [rf g (y + 1), rf g (y + 2), rf g (y + 3), rf g (y + 5), .int p, .int r]
def TS (g : GE) (M : Mem) (t : Nat) (σ : Nat → Int32) : Prop := ∃ (f : Nat → Int32) (p : Int32), TW g M t f p ∧ TabR f p σ
/-- a Yards object at y, what is its own behind it -/
def YW (g : GE) (M : Mem) (y : Nat) (σ : Nat → Int32) : Prop := (∃ p : Int32, M y = some (YO g y p (σ 64)) ∧ (σ 64 = 0 ∨ σ 63 = p + 1)) ∧ M (y + 1) = some (eI g 5 (stR σ)) ∧ M (y + 2) = some (eI g 3 (seR σ)) ∧ TS g M (y + 3) σ ∧ BW g M (y + 5) σ
theorem TS.fr {g : GE} {M M1 : Mem} {t : Nat} {σ : Nat → Int32} (h : TS g M t σ) (e : ∀ k, t ≤ k → k < t + 2 → M1 k = M k) : TS g M1 t σ := by
  obtain ⟨f, p, h1, h2⟩ := h
  exact ⟨f, p, ⟨(e _ (by omega) (by omega)).trans h1.1, (e _ (by omega) (by omega)).trans h1.2⟩, h2⟩
theorem YW.fr {g : GE} {M M1 : Mem} {y : Nat} {σ : Nat → Int32} (h : YW g M y σ) (e : ∀ k, y ≤ k → k < y + 10 → M1 k = M k) : YW g M1 y σ := by
  obtain ⟨⟨p, h1, h2⟩, h3, h4, h5, h6⟩ := h
  exact ⟨⟨p, (e _ (by omega) (by omega)).trans h1, h2⟩, (e _ (by omega) (by omega)).trans h3, (e _ (by omega) (by omega)).trans h4, h5.fr (fun k a b => e k (by omega) (by omega)), h6.fr (fun k a b => e k (by omega) (by omega))⟩
theorem hv_ext {σ τ : Nat → Int32} (h : ∀ k, k < 65 → σ k = τ k) : hv σ = hv τ := by
  unfold hv
  rw [h 0 (by omega), h 1 (by omega), h 2 (by omega), h 3 (by omega), h 4 (by omega), h 5 (by omega), h 6 (by omega), h 7 (by omega), h 8 (by omega), h 9 (by omega)]
theorem upS_ext {σ τ : Nat → Int32} (h : ∀ k, k < 65 → σ k = τ k) {a b : Nat} (ha : a < 5) (hb : b < 5) (hab : a ≠ b) : upS σ a b = upS τ a b := by
  have := pr_lt a b ha hb hab
  unfold upS
  rw [h _ (by omega), h _ (by omega)]
theorem bR_ext {σ τ : Nat → Int32} (h : ∀ k, k < 65 → σ k = τ k) {q : Nat} (hq : q < 4) : bR σ q = bR τ q := by
  funext k
  unfold bR
  split
  · rw [h _ (by omega)]
  · rfl
theorem YW.ext {g : GE} {M : Mem} {y : Nat} {σ τ : Nat → Int32} (h : ∀ k, k < 65 → σ k = τ k) (hY : YW g M y σ) : YW g M y τ := by
  obtain ⟨⟨p, h1, h2⟩, h3, h4, ⟨f, p5, h5, h6, h7, h8⟩, h9⟩ := hY
  have e1 : stR σ = stR τ := by funext k; unfold stR; split; exact h _ (by omega); rfl
  have e2 : seR σ = seR τ := by funext k; unfold seR; split; exact h _ (by omega); rfl
  refine ⟨⟨p, by rw [← h 64 (by omega)]; exact h1, by rw [← h 64 (by omega), ← h 63 (by omega)]; exact h2⟩, e1 ▸ h3, e2 ▸ h4, ⟨f, p5, h5, fun a b ha hb hab => (h6 a b ha hb hab).trans (upS_ext h ha hb hab), h7, by rw [h8, hv_ext h]⟩, ?_⟩
  obtain ⟨b1, b2, b3, b4, b5⟩ := h9
  exact ⟨by rw [← h 60 (by omega), ← h 61 (by omega), ← h 62 (by omega)]; exact b1, bR_ext h (q := 0) (by omega) ▸ b2, bR_ext h (q := 1) (by omega) ▸ b3, bR_ext h (q := 2) (by omega) ▸ b4, bR_ext h (q := 3) (by omega) ▸ b5⟩
set_option maxRecDepth 20000 in
theorem r_ycopy {g : GE} {M : Mem} {sz : Nat} {y z : Nat} {σ τ : Nat → Int32} (hY : YW g M y σ) (hZ : YW g M z τ) (hd : y + 10 ≤ z ∨ z + 10 ≤ y) : Run g m_X7_copy [rf g y, rf g z] M sz 0 0 (RetP none (fun M1 => YW g M1 y τ ∧ FR M M1 y 10)) := by
  obtain ⟨⟨p, h1, h2⟩, h3, h4, ⟨f, p5, h5, h6⟩, h7⟩ := hY
  obtain ⟨⟨p2, k1, k2⟩, k3, k4, ⟨f2, p52, k5, k6⟩, k7⟩ := hZ
  refine Run.of rfl (by decide) (Nat.le_of_ble_eq_true rfl) ?_
  show V g m_X7_copy 0 _ [] _ _ _ _ _
  refine V_aload_n 1 dX7_copy_0 rfl ?_
  refine G_X7_9 rfl (show _ = some (YO g z p2 (τ 64)) from (by repeat (first | exact mup_eq _ _ _ | exact k1 | rw [mup_ne _ _ (by omega)]))) rfl dX7_copy_1 ?_
  refine V_aload_n 0 dX7_copy_4 rfl ?_
  refine G_X7_9 rfl (show _ = some (YO g y p (σ 64)) from (by repeat (first | exact mup_eq _ _ _ | exact h1 | rw [mup_ne _ _ (by omega)]))) rfl dX7_copy_5 ?_
  refine C_X7_43 rfl ⟨Nat.le_of_ble_eq_true rfl, Nat.le_of_ble_eq_true rfl⟩ (r_copyRow (by repeat (first | exact mup_eq _ _ _ | exact k3 | rw [mup_ne _ _ (by omega)])) (by repeat (first | exact mup_eq _ _ _ | exact h3 | rw [mup_ne _ _ (by omega)])) (by omega) (by decide)) rfl (Nat.le_of_ble_eq_true rfl) dX7_copy_8 rfl ?_
  refine V_aload_n 1 dX7_copy_11 rfl ?_
  refine G_X7_19 rfl (show _ = some (YO g z p2 (τ 64)) from (by repeat (first | exact mup_eq _ _ _ | exact k1 | rw [mup_ne _ _ (by omega)]))) rfl dX7_copy_12 ?_
  refine V_pc (pc2 := 15) rfl ?_
  refine V_aload_n 0 dX7_copy_15 rfl ?_
  refine G_X7_19 rfl (show _ = some (YO g y p (σ 64)) from (by repeat (first | exact mup_eq _ _ _ | exact h1 | rw [mup_ne _ _ (by omega)]))) rfl dX7_copy_16 ?_
  refine C_X7_43 rfl ⟨Nat.le_of_ble_eq_true rfl, Nat.le_of_ble_eq_true rfl⟩ (r_copyRow (by repeat (first | exact mup_eq _ _ _ | exact k4 | rw [mup_ne _ _ (by omega)])) (by repeat (first | exact mup_eq _ _ _ | exact h4 | rw [mup_ne _ _ (by omega)])) (by omega) (by decide)) rfl (Nat.le_of_ble_eq_true rfl) dX7_copy_19 rfl ?_
  refine V_aload_n 0 dX7_copy_22 rfl ?_
  refine G_X7_25 rfl (show _ = some (YO g y p (σ 64)) from (by repeat (first | exact mup_eq _ _ _ | exact h1 | rw [mup_ne _ _ (by omega)]))) rfl dX7_copy_23 ?_
  refine V_aload_n 1 dX7_copy_26 rfl ?_
  refine G_X7_25 rfl (show _ = some (YO g z p2 (τ 64)) from (by repeat (first | exact mup_eq _ _ _ | exact k1 | rw [mup_ne _ _ (by omega)]))) rfl dX7_copy_27 ?_
  refine C_X7_47 (show _ = some (eO 4 [rf g (y + 3 + 1), .int p5]) from (by repeat (first | exact mup_eq _ _ _ | exact h5.1 | rw [mup_ne _ _ (by omega)]))) rfl ⟨Nat.le_of_ble_eq_true rfl, Nat.le_of_ble_eq_true rfl⟩ (r_tcopy (t := y + 3) (u := z + 3) (f := f) (p := p5) (h := f2) (q := p52) ⟨(by repeat (first | exact mup_eq _ _ _ | exact h5.1 | rw [mup_ne _ _ (by omega)])), (by repeat (first | exact mup_eq _ _ _ | exact h5.2 | rw [mup_ne _ _ (by omega)]))⟩ ⟨(by repeat (first | exact mup_eq _ _ _ | exact k5.1 | rw [mup_ne _ _ (by omega)])), (by repeat (first | exact mup_eq _ _ _ | exact k5.2 | rw [mup_ne _ _ (by omega)]))⟩ (by omega)) rfl (Nat.le_of_ble_eq_true rfl) dX7_copy_30 rfl ?_
  refine V_pc (pc2 := 33) rfl ?_
  refine V_aload_n 0 dX7_copy_33 rfl ?_
  refine G_X7_32 rfl (show _ = some (YO g y p (σ 64)) from (by repeat (first | exact mup_eq _ _ _ | exact h1 | rw [mup_ne _ _ (by omega)]))) rfl dX7_copy_34 ?_
  refine V_aload_n 1 dX7_copy_37 rfl ?_
  refine G_X7_32 rfl (show _ = some (YO g z p2 (τ 64)) from (by repeat (first | exact mup_eq _ _ _ | exact k1 | rw [mup_ne _ _ (by omega)]))) rfl dX7_copy_38 ?_
  refine Cp_X7_51 (show _ = some (BO g (y + 5) (σ 60) (σ 62) (σ 61)) from (by repeat (first | exact mup_eq _ _ _ | exact h7.1 | rw [mup_ne _ _ (by omega)]))) rfl ⟨Nat.le_of_ble_eq_true rfl, Nat.le_of_ble_eq_true rfl⟩ (r_bcopy (b := y + 5) (c := z + 5) (h7.fr (fun k a b => by repeat (first | rfl | rw [mup_ne _ _ (by omega)]))) (k7.fr (fun k a b => by repeat (first | rfl | rw [mup_ne _ _ (by omega)]))) (by omega)) rfl (Nat.le_of_ble_eq_true rfl) dX7_copy_41 rfl (fun _ q41 => ?_)
  refine V_aload_n 0 dX7_copy_44 rfl ?_
  refine V_aload_n 1 dX7_copy_45 rfl ?_
  refine G_X7_36 rfl (show _ = some (YO g z p2 (τ 64)) from (q41.2 _ (by omega)).trans (by repeat (first | exact mup_eq _ _ _ | exact k1 | rw [mup_ne _ _ (by omega)]))) rfl dX7_copy_46 ?_
  refine V_pc (pc2 := 49) rfl ?_
  refine P_X7_36 rfl (show _ = some (YO g y p (σ 64)) from (q41.2 _ (by omega)).trans (by repeat (first | exact mup_eq _ _ _ | exact h1 | rw [mup_ne _ _ (by omega)]))) (Nat.le_of_ble_eq_true rfl) rfl rfl dX7_copy_49 ?_
  refine V_aload_n 0 dX7_copy_52 rfl ?_
  refine V_aload_n 1 dX7_copy_53 rfl ?_
  refine G_X7_40 rfl (show _ = some (YO g z p2 (τ 64)) from (mup_ne _ _ (by omega)).trans ((q41.2 _ (by omega)).trans (by repeat (first | exact mup_eq _ _ _ | exact k1 | rw [mup_ne _ _ (by omega)])))) rfl dX7_copy_54 ?_
  refine P_X7_40 rfl (show _ = some (YO g y p2 (σ 64)) from mup_eq _ _ _) (Nat.le_of_ble_eq_true rfl) rfl rfl dX7_copy_57 ?_
  refine V_ret (st := []) dX7_copy_60 rfl ?_
  refine ⟨rfl, ⟨⟨p2, ?_, k2⟩, ?_, ?_, ⟨f2, p52, ⟨?_, ?_⟩, k6⟩, ?_⟩, ?_⟩
  · rw [mup_eq]; rfl
  · rw [mup_ne _ _ (by omega), mup_ne _ _ (by omega), q41.2 _ (by omega)]; exact (by repeat (first | exact mup_eq _ _ _ | exact rfl | rw [mup_ne _ _ (by omega)]))
  · rw [mup_ne _ _ (by omega), mup_ne _ _ (by omega), q41.2 _ (by omega)]; exact (by repeat (first | exact mup_eq _ _ _ | exact rfl | rw [mup_ne _ _ (by omega)]))
  · rw [mup_ne _ _ (by omega), mup_ne _ _ (by omega), q41.2 _ (by omega)]; exact (by repeat (first | exact mup_eq _ _ _ | exact rfl | rw [mup_ne _ _ (by omega)]))
  · rw [mup_ne _ _ (by omega), mup_ne _ _ (by omega), q41.2 _ (by omega)]; exact (by repeat (first | exact mup_eq _ _ _ | exact rfl | rw [mup_ne _ _ (by omega)]))
  · exact q41.1.fr (fun k a b => by rw [mup_ne _ _ (by omega), mup_ne _ _ (by omega)])
  · exact ((FR.trans (b := y) (n := 10) (((((FR.refl M y 10).put (by omega)).put (by omega)).put (by omega)).put (by omega)) q41.2 (by omega)).put (by omega)).put (by omega)
def svF (g : GE) (sv : Nat → Nat) : Nat → Option Nat := fun k => if k < 6 then some (gb g + sv k) else none
theorem svF_rf (g : GE) (sv : Nat → Nat) {k : Nat} (h : k < 6) : va_rf (svF g sv k) = rf g (sv k) := by unfold svF; rw [if_pos h]; rfl
theorem svF_up (g : GE) (sv : Nat → Nat) {k w : Nat} (h : k < 6) : va_up (svF g sv) k (some (gb g + w)) = svF g (fun j => if j = k then w else sv j) := by
  funext j
  unfold va_up svF
  by_cases hj : j = k
  · subst hj; rw [if_pos rfl, if_pos h]; show _ = some (gb g + (if j = j then w else sv j)); rw [if_pos rfl]
  · rw [if_neg hj]
    by_cases h6 : j < 6
    · rw [if_pos h6, if_pos h6]; show _ = some (gb g + (if j = k then w else sv j)); rw [if_neg hj]
    · rw [if_neg h6, if_neg h6]
def HO (g : GE) (n : Nat) : va_E := eO 1 [rf g 22, .int (nI n)]
/-- the saved states: their places, and what they hold -/
def HS (g : GE) (M : Mem) (n : Nat) (sv : Nat → Nat) (ps : Nat → Nat → Int32) : Prop := M 21 = some (HO g n) ∧ M 22 = some (eY g 6 (svF g sv)) ∧ (∀ i, i < 6 → ∃ j, j < 6 ∧ sv i = 23 + 10 * j) ∧ (∀ i j, i < 6 → j < 6 → sv i = sv j → i = j) ∧ ∀ i, i < 6 → YW g M (sv i) (ps i)
def HW (g : GE) (M : Mem) (n : Nat) (ps : Nat → Nat → Int32) : Prop := ∃ sv, HS g M n sv ps
theorem HS.fr {g : GE} {M M1 : Mem} {n : Nat} {sv : Nat → Nat} {ps : Nat → Nat → Int32} (h : HS g M n sv ps) (e : ∀ k, 21 ≤ k → k < 83 → M1 k = M k) : HS g M1 n sv ps := by
  obtain ⟨h1, h2, h3, h4, h5⟩ := h
  refine ⟨(e _ (by omega) (by omega)).trans h1, (e _ (by omega) (by omega)).trans h2, h3, h4, fun i hi => (h5 i hi).fr fun k a b => e k ?_ ?_⟩
  · obtain ⟨j, hj, e⟩ := h3 i hi; omega
  · obtain ⟨j, hj, e⟩ := h3 i hi; omega
theorem HW.fr {g : GE} {M M1 : Mem} {n : Nat} {ps : Nat → Nat → Int32} (h : HW g M n ps) (e : ∀ k, 21 ≤ k → k < 83 → M1 k = M k) : HW g M1 n ps := by
  obtain ⟨sv, h⟩ := h
  exact ⟨sv, h.fr e⟩
def rotP {α : Type} (ps : Nat → α) : Nat → α := fun i => if i < 5 then ps (i + 1) else ps 0
def rotT {α : Type} (ps : Nat → α) (j : Nat) : Nat → α := fun i => if i < j then ps (i + 1) else ps i
theorem rotT_0 {α : Type} (ps : Nat → α) : rotT ps 0 = ps := by funext i; unfold rotT; rw [if_neg (by omega)]
theorem rotT_s {α : Type} (ps : Nat → α) (j : Nat) : (fun i => if i = j then ps (j + 1) else rotT ps j i) = rotT ps (j + 1) := by
  funext i
  unfold rotT
  by_cases h : i = j
  · subst h; rw [if_pos rfl, if_pos (by omega)]
  · rw [if_neg h]
    by_cases h2 : i < j
    · rw [if_pos h2, if_pos (by omega)]
    · rw [if_neg h2, if_neg (by omega)]
theorem rotT_5 (g : GE) (sv : Nat → Nat) : svF g (fun i => if i = 5 then sv 0 else rotT sv 5 i) = svF g (rotP sv) := by
  funext i
  unfold svF
  by_cases h6 : i < 6
  · rw [if_pos h6, if_pos h6]
    unfold rotT rotP
    by_cases h : i = 5
    · subst h; rfl
    · show some (gb g + (if i = 5 then sv 0 else if i < 5 then sv (i + 1) else sv i)) = _; rw [if_neg h, if_pos (show i < 5 by omega), if_pos (show i < 5 by omega)]
  · rw [if_neg h6, if_neg h6]
set_option maxRecDepth 20000 in
theorem r_dropOldest {g : GE} {M : Mem} {sz : Nat} {n : Nat} {sv : Nat → Nat} {ps : Nat → Nat → Int32} (hH : HS g M n sv ps) : Run g m_X1_dropOldest [rf g 21] M sz 0 0 (Ret none (mup (mup M 22 (eY g 6 (svF g (rotP sv)))) 21 (HO g 5))) := by
  obtain ⟨h1, h2, h3, h4, h5⟩ := hH
  have L : ∀ m j : Nat, j + m = 5 → V g m_X1_dropOldest 18 [(2, .int (nI j)), (1, rf g (sv 0)), (0, rf g 21)] [] (mup M 22 (eY g 6 (svF g (rotT sv j)))) sz 0 0 (Ret none (mup (mup M 22 (eY g 6 (svF g (rotP sv)))) 21 (HO g 5))) := by
    intro m
    induction m with
    | zero =>
      intro j hj
      obtain rfl : j = 5 := by omega
      obtain ⟨p0, y0, _⟩ := (h5 0 (by omega)).1
      refine V_iload_n 0 dX1_dropOldest_18 rfl ?_
      refine V_aload_n 2 dX1_dropOldest_19 rfl ?_
      refine G_X1_11 rfl (show _ = some (HO g n) from (mup_ne _ _ (by decide)).trans h1) rfl dX1_dropOldest_20 ?_
      refine V_alenY (mup_eq _ _ _) rfl dX1_dropOldest_23 ?_
      refine V_iconst (v := 1) dX1_dropOldest_24 rfl ?_
      refine V_isub dX1_dropOldest_25 ?_
      refine V_icmp_ge (tgt := 49) dX1_dropOldest_26 (by decide) (fun c26 => ?_) (fun c26 => absurd (by decide) c26)
      refine V_pc (pc2 := 49) rfl ?_
      refine V_aload_n 2 dX1_dropOldest_49 rfl ?_
      refine G_X1_11 rfl (show _ = some (HO g n) from (mup_ne _ _ (by decide)).trans h1) rfl dX1_dropOldest_50 ?_
      refine V_aload_n 2 dX1_dropOldest_53 rfl ?_
      refine G_X1_11 rfl (show _ = some (HO g n) from (mup_ne _ _ (by decide)).trans h1) rfl dX1_dropOldest_54 ?_
      refine V_alenY (mup_eq _ _ _) rfl dX1_dropOldest_57 ?_
      refine V_iconst (v := 1) dX1_dropOldest_58 rfl ?_
      refine V_isub dX1_dropOldest_59 ?_
      refine V_aload_n 1 dX1_dropOldest_60 rfl ?_
      refine V_pc (pc2 := 61) rfl ?_
      refine V_aast (mup_eq _ _ _) (show _ = some (YO g (sv 0) p0 (ps 0 64)) from (mup_ne _ _ (by obtain ⟨q, hq, e⟩ := h3 0 (by omega); omega)).trans y0) (show vp_in (nI 5) 6 from vp_in_nI (by decide) (by decide)) dX1_dropOldest_61 ?_
      refine V_aload_n 2 dX1_dropOldest_62 rfl ?_
      refine V_aload_n 2 dX1_dropOldest_63 rfl ?_
      refine G_X1_11 rfl (show _ = some (HO g n) from (mup_ne _ _ (by decide)).trans ((mup_ne _ _ (by decide)).trans h1)) rfl dX1_dropOldest_64 ?_
      refine V_alenY (mup_eq _ _ _) rfl dX1_dropOldest_67 ?_
      refine V_iconst (v := 1) dX1_dropOldest_68 rfl ?_
      refine V_isub dX1_dropOldest_69 ?_
      refine P_X1_18 rfl (show _ = some (HO g n) from (mup_ne _ _ (by decide)).trans ((mup_ne _ _ (by decide)).trans h1)) (Nat.le_of_ble_eq_true rfl) rfl rfl dX1_dropOldest_70 ?_
      refine V_pc (pc2 := 73) rfl ?_
      refine V_ret (st := []) dX1_dropOldest_73 rfl ?_
      rw [mup_mup, show (Int32.ofNat 6 - 1).toNatClampNeg = 5 from rfl, svF_up g _ (by omega), rotT_5]; exact ⟨rfl, rfl⟩
    | succ m ih =>
      intro j hj
      have hlt : j < 5 := by omega
      obtain ⟨p0, y0, _⟩ := (h5 (j + 1) (by omega)).1
      refine V_iload_n 0 dX1_dropOldest_18 rfl ?_
      refine V_aload_n 2 dX1_dropOldest_19 rfl ?_
      refine G_X1_11 rfl (show _ = some (HO g n) from (mup_ne _ _ (by decide)).trans h1) rfl dX1_dropOldest_20 ?_
      refine V_alenY (mup_eq _ _ _) rfl dX1_dropOldest_23 ?_
      refine V_iconst (v := 1) dX1_dropOldest_24 rfl ?_
      refine V_isub dX1_dropOldest_25 ?_
      refine V_icmp_ge (tgt := 49) dX1_dropOldest_26 (by decide) (fun c26 => absurd c26 (nI_ge (b := 5) hlt (by decide))) (fun c26 => ?_)
      refine V_pc (pc2 := 29) rfl ?_
      refine V_aload_n 2 dX1_dropOldest_29 rfl ?_
      refine G_X1_11 rfl (show _ = some (HO g n) from (mup_ne _ _ (by decide)).trans h1) rfl dX1_dropOldest_30 ?_
      refine V_iload_n 0 dX1_dropOldest_33 rfl ?_
      refine V_aload_n 2 dX1_dropOldest_34 rfl ?_
      refine G_X1_11 rfl (show _ = some (HO g n) from (mup_ne _ _ (by decide)).trans h1) rfl dX1_dropOldest_35 ?_
      refine V_iload_n 0 dX1_dropOldest_38 rfl ?_
      refine V_iconst (v := 1) dX1_dropOldest_39 rfl ?_
      refine V_iadd dX1_dropOldest_40 ?_
      refine V_pc (pc2 := 41) rfl ?_
      rw [nI_1]
      refine V_aald (mup_eq _ _ _) (vp_in_nI (n := j + 1) (by omega) (by decide)) dX1_dropOldest_41 ?_
      rw [nI_clamp (by omega), svF_rf g _ (by omega), show rotT sv j (j + 1) = sv (j + 1) from if_neg (by omega)]
      refine V_aast (mup_eq _ _ _) (show _ = some (YO g (sv (j + 1)) p0 (ps (j + 1) 64)) from (mup_ne _ _ (by obtain ⟨q, hq, e⟩ := h3 (j + 1) (by omega); omega)).trans y0) (vp_in_nI (n := j) (by omega) (by decide)) dX1_dropOldest_42 ?_
      refine V_iinc (v := _ + 1) (lv2 := [(2, .int _), (1, .ref _), (0, .ref _)]) 0 dX1_dropOldest_43 rfl rfl (Nat.le_of_ble_eq_true rfl) rfl ?_
      refine V_goto (tgt := 18) dX1_dropOldest_46 (by decide) ?_
      refine V_lv (lv2 := [(2, .int _), (1, .ref _), (0, .ref _)]) [0, 1, 2] rfl ?_
      rw [nI_1, nI_clamp (by omega), mup_mup, svF_up g _ (by omega), rotT_s]
      exact ih (j + 1) (by omega)
  refine Run.of rfl (by decide) (Nat.le_of_ble_eq_true rfl) ?_
  show V g m_X1_dropOldest 0 _ [] _ _ _ _ _
  refine V_aload_n 0 dX1_dropOldest_0 rfl ?_
  refine G_X1_11 rfl h1 rfl dX1_dropOldest_1 ?_
  refine V_alenY h2 rfl dX1_dropOldest_4 ?_
  refine V_if_ne (tgt := 9) dX1_dropOldest_5 (by decide) (fun c5 => ?_) (fun c5 => absurd c5 (by decide))
  refine V_aload_n 0 dX1_dropOldest_9 rfl ?_
  refine G_X1_11 rfl h1 rfl dX1_dropOldest_10 ?_
  refine V_iconst (v := 0) dX1_dropOldest_13 rfl ?_
  refine V_pc (pc2 := 14) rfl ?_
  refine V_aald h2 (show vp_in (nI 0) 6 from vp_in_nI (by decide) (by decide)) dX1_dropOldest_14 ?_
  rw [show (0 : Int32).toNatClampNeg = 0 from rfl, svF_rf g _ (by omega)]
  refine V_astore_n (lv2 := [(1, .ref _), (0, .ref _)]) dX1_dropOldest_15 (Nat.le_of_ble_eq_true rfl) rfl ?_
  refine V_iconst (v := 0) dX1_dropOldest_16 rfl ?_
  refine V_istore_n (lv2 := [(2, .int _), (1, .ref _), (0, .ref _)]) dX1_dropOldest_17 (Nat.le_of_ble_eq_true rfl) rfl ?_
  refine V_lv (lv2 := [(2, .int _), (1, .ref _), (0, .ref _)]) [0, 1, 2] rfl ?_
  have e := L 5 0 (by omega)
  rw [rotT_0, mup_self h2] at e
  exact e
theorem HS.rot {g : GE} {M : Mem} {n : Nat} {sv : Nat → Nat} {ps : Nat → Nat → Int32} (h : HS g M n sv ps) : HS g (mup (mup M 22 (eY g 6 (svF g (rotP sv)))) 21 (HO g 5)) 5 (rotP sv) (rotP ps) := by
  obtain ⟨h1, h2, h3, h4, h5⟩ := h
  refine ⟨mup_eq _ _ _, (mup_ne _ _ (by decide)).trans (mup_eq _ _ _), fun i hi => ?_, fun i j hi hj e => ?_, fun i hi => ?_⟩
  · unfold rotP; split
    · exact h3 _ (by omega)
    · exact h3 _ (by omega)
  · unfold rotP at e
    by_cases a : i < 5
    · rw [if_pos a] at e
      by_cases b : j < 5
      · rw [if_pos b] at e; have := h4 _ _ (by omega) (by omega) e; omega
      · rw [if_neg b] at e; have := h4 _ _ (by omega) (by omega) e; omega
    · rw [if_neg a] at e
      by_cases b : j < 5
      · rw [if_pos b] at e; have := h4 _ _ (by omega) (by omega) e; omega
      · omega
  · have e : ∃ w, w < 6 ∧ rotP sv i = sv w ∧ rotP ps i = ps w := by
      unfold rotP
      by_cases a : i < 5
      · rw [if_pos a, if_pos a]; exact ⟨i + 1, by omega, rfl, rfl⟩
      · rw [if_neg a, if_neg a]; exact ⟨0, by omega, rfl, rfl⟩
    obtain ⟨w, hw, e1, e2⟩ := e
    rw [e1, e2]
    obtain ⟨q, hq, e3⟩ := h3 w hw
    exact (h5 w hw).fr fun k a b => by rw [mup_ne _ _ (by omega), mup_ne _ _ (by omega)]
def pshN (n : Nat) : Nat := if n = 6 then 6 else n + 1
def pshP (n : Nat) (ps : Nat → Nat → Int32) (σ : Nat → Int32) : Nat → Nat → Int32 := fun i => if i = (if n = 6 then 5 else n) then σ else (if n = 6 then rotP ps i else ps i)
/-- a state is laid behind those that are saved -/
theorem HS.psh {g : GE} {M M1 : Mem} {n m : Nat} {sv : Nat → Nat} {ps : Nat → Nat → Int32} {σ : Nat → Int32} (h : HS g M m sv ps) (hm : m < 6) (hY : YW g M1 (sv m) σ) (hF : FR M M1 (sv m) 10) : HS g (mup M1 21 (HO g (m + 1))) (m + 1) sv (fun i => if i = m then σ else ps i) := by
  obtain ⟨h1, h2, h3, h4, h5⟩ := h
  obtain ⟨q, hq, e3⟩ := h3 m hm
  refine ⟨mup_eq _ _ _, (mup_ne _ _ (by decide)).trans ((hF _ (by omega)).trans h2), h3, h4, fun i hi => ?_⟩
  by_cases e : i = m
  · subst e
    show YW g _ (sv i) (if i = i then σ else ps i)
    rw [if_pos rfl]
    exact hY.fr fun k a b => mup_ne _ _ (by omega)
  · show YW g _ (sv i) (if i = m then σ else ps i)
    rw [if_neg e]
    obtain ⟨w, hw, e4⟩ := h3 i hi
    have hne : w ≠ q := fun hh => e (h4 i m hi hm (by omega))
    exact (h5 i hi).fr fun k a b => by rw [mup_ne _ _ (by omega), hF k (by omega)]
set_option maxRecDepth 20000 in
theorem r_push {g : GE} {M : Mem} {sz : Nat} {n y : Nat} {ps : Nat → Nat → Int32} {σ : Nat → Int32} (hH : HW g M n ps) (hn : n ≤ 6) (hY : YW g M y σ) (hy : y + 10 ≤ 21) : Run g m_X1_push [rf g 21, rf g y] M sz 0 0 (RetP none (fun M1 => HW g M1 (pshN n) (pshP n ps σ) ∧ FR M M1 21 62)) := by
  obtain ⟨sv, h1, h2, h3, h4, h5⟩ := hH
  by_cases hlt : n < 6
  · refine Run.of rfl (by decide) (Nat.le_of_ble_eq_true rfl) ?_
    show V g m_X1_push 0 _ [] _ _ _ _ _
    refine V_aload_n 0 dX1_push_0 rfl ?_
    refine G_X1_18 rfl (show _ = some (HO g n) from h1) rfl dX1_push_1 ?_
    refine V_aload_n 0 dX1_push_4 rfl ?_
    refine G_X1_11 rfl (show _ = some (HO g n) from h1) rfl dX1_push_5 ?_
    refine V_alenY h2 rfl dX1_push_8 ?_
    refine V_icmp_lt (tgt := 16) dX1_push_9 (by decide) (fun c9 => ?_) (fun c9 => absurd (nI_lt (b := 6) hlt (by decide)) c9)
    obtain ⟨w, hw, e3⟩ := h3 n hlt
    obtain ⟨p0, y0, _⟩ := (h5 n hlt).1
    refine V_aload_n 0 dX1_push_16 rfl ?_
    refine V_pc (pc2 := 17) rfl ?_
    refine G_X1_18 rfl (show _ = some (HO g n) from h1) rfl dX1_push_17 ?_
    refine V_if_lt (tgt := 70) dX1_push_20 (by decide) (fun c20 => absurd c20 (nI_pos (by omega))) (fun c20 => ?_)
    refine V_aload_n 0 dX1_push_23 rfl ?_
    refine G_X1_18 rfl (show _ = some (HO g n) from h1) rfl dX1_push_24 ?_
    refine V_aload_n 0 dX1_push_27 rfl ?_
    refine G_X1_11 rfl (show _ = some (HO g n) from h1) rfl dX1_push_28 ?_
    refine V_alenY h2 rfl dX1_push_31 ?_
    refine V_icmp_ge (tgt := 70) dX1_push_32 (by decide) (fun c32 => absurd c32 (nI_ge (b := 6) hlt (by decide))) (fun c32 => ?_)
    refine V_pc (pc2 := 35) rfl ?_
    refine V_aload_n 0 dX1_push_35 rfl ?_
    refine G_X1_11 rfl (show _ = some (HO g n) from h1) rfl dX1_push_36 ?_
    refine V_aload_n 0 dX1_push_39 rfl ?_
    refine G_X1_18 rfl (show _ = some (HO g n) from h1) rfl dX1_push_40 ?_
    refine V_aald h2 (show vp_in (nI n) 6 from vp_in_nI (by omega) (by decide)) dX1_push_43 ?_
    rw [nI_clamp (by omega), svF_rf g _ (by omega)]
    refine V_ifnull dX1_push_44 ?_
    refine V_aload_n 0 dX1_push_47 rfl ?_
    refine G_X1_11 rfl (show _ = some (HO g n) from h1) rfl dX1_push_48 ?_
    refine V_pc (pc2 := 51) rfl ?_
    refine V_aload_n 0 dX1_push_51 rfl ?_
    refine G_X1_18 rfl (show _ = some (HO g n) from h1) rfl dX1_push_52 ?_
    refine V_aald h2 (show vp_in (nI n) 6 from vp_in_nI (by omega) (by decide)) dX1_push_55 ?_
    rw [nI_clamp (by omega), svF_rf g _ (by omega)]
    refine V_aload_n 1 dX1_push_56 rfl ?_
    refine Cp_X1_25 (show _ = some (YO g (sv n) p0 (ps n 64)) from y0) rfl ⟨Nat.le_of_ble_eq_true rfl, Nat.le_of_ble_eq_true rfl⟩ (r_ycopy (h5 n (by omega)) hY (by omega)) rfl (Nat.le_of_ble_eq_true rfl) dX1_push_57 rfl (fun _ q57 => ?_)
    refine V_aload_n 0 dX1_push_60 rfl ?_
    refine V_dup dX1_push_61 rfl ?_
    refine G_X1_18 rfl (show _ = some (HO g n) from (q57.2 _ (by omega)).trans h1) rfl dX1_push_62 ?_
    refine V_pc (pc2 := 65) rfl ?_
    refine V_iconst (v := 1) dX1_push_65 rfl ?_
    refine V_iadd dX1_push_66 ?_
    refine P_X1_18 rfl (show _ = some (HO g n) from (q57.2 _ (by omega)).trans h1) (Nat.le_of_ble_eq_true rfl) rfl rfl dX1_push_67 ?_
    refine V_ret (st := []) dX1_push_70 rfl ?_
    refine ⟨rfl, ⟨sv, ?_⟩, ?_⟩
    · have e := HS.psh (n := n) ⟨h1, h2, h3, h4, h5⟩ hlt q57.1 q57.2
      rw [nI_1]
      unfold pshN pshP
      rw [if_neg (show ¬ n = 6 by omega)]
      simp only [if_neg (show ¬ n = 6 by omega)]
      exact e
    · exact (FR.trans (b := 21) (n := 62) (FR.refl M 21 62) q57.2 (by omega)).put (by omega)
  · obtain rfl : n = 6 := by omega
    refine Run.of rfl (by decide) (Nat.le_of_ble_eq_true rfl) ?_
    show V g m_X1_push 0 _ [] _ _ _ _ _
    refine V_aload_n 0 dX1_push_0 rfl ?_
    refine G_X1_18 rfl (show _ = some (HO g 6) from h1) rfl dX1_push_1 ?_
    refine V_aload_n 0 dX1_push_4 rfl ?_
    refine G_X1_11 rfl (show _ = some (HO g 6) from h1) rfl dX1_push_5 ?_
    refine V_alenY h2 rfl dX1_push_8 ?_
    refine V_icmp_lt (tgt := 16) dX1_push_9 (by decide) (fun c9 => absurd c9 (by decide)) (fun c9 => ?_)
    refine V_aload_n 0 dX1_push_12 rfl ?_
    refine V_pc (pc2 := 13) rfl ?_
    refine C_X1_22 h1 rfl ⟨Nat.le_of_ble_eq_true rfl, Nat.le_of_ble_eq_true rfl⟩ (r_dropOldest ⟨h1, h2, h3, h4, h5⟩) rfl (Nat.le_of_ble_eq_true rfl) dX1_push_13 rfl ?_
    have iH := HS.rot (n := 6) ⟨h1, h2, h3, h4, h5⟩
    obtain ⟨i1, i2, i3, i4, i5⟩ := id iH
    have iY := hY.fr (M1 := mup (mup M 22 (eY g 6 (svF g (rotP sv)))) 21 (HO g 5)) (fun k a b => by rw [mup_ne _ _ (by omega), mup_ne _ _ (by omega)])
    obtain ⟨w, hw, e3⟩ := i3 5 (by omega)
    obtain ⟨p0, y0, _⟩ := (i5 5 (by omega)).1
    refine V_aload_n 0 dX1_push_16 rfl ?_
    refine G_X1_18 rfl (show _ = some (HO g 5) from i1) rfl dX1_push_17 ?_
    refine V_if_lt (tgt := 70) dX1_push_20 (by decide) (fun c20 => absurd c20 (show ¬ nI 5 < 0 by decide)) (fun c20 => ?_)
    refine V_aload_n 0 dX1_push_23 rfl ?_
    refine G_X1_18 rfl (show _ = some (HO g 5) from i1) rfl dX1_push_24 ?_
    refine V_aload_n 0 dX1_push_27 rfl ?_
    refine G_X1_11 rfl (show _ = some (HO g 5) from i1) rfl dX1_push_28 ?_
    refine V_pc (pc2 := 31) rfl ?_
    refine V_alenY i2 rfl dX1_push_31 ?_
    refine V_icmp_ge (tgt := 70) dX1_push_32 (by decide) (fun c32 => absurd c32 (show ¬ (6 : Int32) ≤ nI 5 by decide)) (fun c32 => ?_)
    refine V_aload_n 0 dX1_push_35 rfl ?_
    refine G_X1_11 rfl (show _ = some (HO g 5) from i1) rfl dX1_push_36 ?_
    refine V_aload_n 0 dX1_push_39 rfl ?_
    refine G_X1_18 rfl (show _ = some (HO g 5) from i1) rfl dX1_push_40 ?_
    refine V_aald i2 (show vp_in (nI 5) 6 from vp_in_nI (by omega) (by decide)) dX1_push_43 ?_
    rw [nI_clamp (by omega), svF_rf g _ (by omega)]
    refine V_ifnull dX1_push_44 ?_
    refine V_pc (pc2 := 47) rfl ?_
    refine V_aload_n 0 dX1_push_47 rfl ?_
    refine G_X1_11 rfl (show _ = some (HO g 5) from i1) rfl dX1_push_48 ?_
    refine V_aload_n 0 dX1_push_51 rfl ?_
    refine G_X1_18 rfl (show _ = some (HO g 5) from i1) rfl dX1_push_52 ?_
    refine V_aald i2 (show vp_in (nI 5) 6 from vp_in_nI (by omega) (by decide)) dX1_push_55 ?_
    rw [nI_clamp (by omega), svF_rf g _ (by omega)]
    refine V_aload_n 1 dX1_push_56 rfl ?_
    refine Cp_X1_25 (show _ = some (YO g ((rotP sv) 5) p0 ((rotP ps) 5 64)) from y0) rfl ⟨Nat.le_of_ble_eq_true rfl, Nat.le_of_ble_eq_true rfl⟩ (r_ycopy (i5 5 (by omega)) iY (by omega)) rfl (Nat.le_of_ble_eq_true rfl) dX1_push_57 rfl (fun _ q57 => ?_)
    refine V_aload_n 0 dX1_push_60 rfl ?_
    refine V_pc (pc2 := 61) rfl ?_
    refine V_dup dX1_push_61 rfl ?_
    refine G_X1_18 rfl (show _ = some (HO g 5) from (q57.2 _ (by omega)).trans i1) rfl dX1_push_62 ?_
    refine V_iconst (v := 1) dX1_push_65 rfl ?_
    refine V_iadd dX1_push_66 ?_
    refine P_X1_18 rfl (show _ = some (HO g 5) from (q57.2 _ (by omega)).trans i1) (Nat.le_of_ble_eq_true rfl) rfl rfl dX1_push_67 ?_
    refine V_ret (st := []) dX1_push_70 rfl ?_
    refine ⟨rfl, ⟨rotP sv, ?_⟩, ?_⟩
    · have e := HS.psh (n := 6) iH (by omega) q57.1 q57.2
      exact e
    · exact ((FR.trans (b := 21) (n := 62) (((FR.refl M 21 62).put (by omega)).put (by omega)) q57.2 (by omega)).put (by omega))
set_option maxRecDepth 20000 in
theorem r_pop {g : GE} {M : Mem} {sz : Nat} {n y : Nat} {ps : Nat → Nat → Int32} {σ : Nat → Int32} (hH : HW g M (n + 1) ps) (hn : n < 6) (hY : YW g M y σ) (hy : y + 10 ≤ 21) : Run g m_X1_pop [rf g 21, rf g y] M sz 0 0 (RetP none (fun M1 => HW g M1 n ps ∧ YW g M1 y (ps n) ∧ FR (mup M 21 (HO g n)) M1 y 10)) := by
  obtain ⟨sv, h1, h2, h3, h4, h5⟩ := hH
  obtain ⟨w, hw, e3⟩ := h3 n hn
  obtain ⟨p0, y0, y1⟩ := hY.1
  refine Run.of rfl (by decide) (Nat.le_of_ble_eq_true rfl) ?_
  show V g m_X1_pop 0 _ [] _ _ _ _ _
  refine V_aload_n 0 dX1_pop_0 rfl ?_
  refine G_X1_18 rfl (show _ = some (HO g (n + 1)) from h1) rfl dX1_pop_1 ?_
  refine V_iconst (v := 1) dX1_pop_4 rfl ?_
  skip
  refine V_isub dX1_pop_5 ?_
  rw [show nI (n + 1) - 1 = nI n by rw [show (1 : Int32) = nI 1 from rfl, pk_sub (by omega)]; rfl]
  refine V_istore_n (lv2 := [(2, .int _), (0, .ref _), (1, .ref _)]) dX1_pop_6 (Nat.le_of_ble_eq_true rfl) rfl ?_
  refine V_iload_n 0 dX1_pop_7 rfl ?_
  refine V_if_lt (tgt := 44) dX1_pop_8 (by decide) (fun c8 => absurd c8 (nI_pos (by omega))) (fun c8 => ?_)
  refine V_pc (pc2 := 11) rfl ?_
  refine V_iload_n 0 dX1_pop_11 rfl ?_
  refine V_aload_n 1 dX1_pop_12 rfl ?_
  refine G_X1_11 rfl (show _ = some (HO g (n + 1)) from h1) rfl dX1_pop_13 ?_
  refine V_alenY h2 rfl dX1_pop_16 ?_
  refine V_icmp_ge (tgt := 44) dX1_pop_17 (by decide) (fun c17 => absurd c17 (nI_ge (b := 6) hn (by decide))) (fun c17 => ?_)
  refine V_aload_n 1 dX1_pop_20 rfl ?_
  refine G_X1_11 rfl (show _ = some (HO g (n + 1)) from h1) rfl dX1_pop_21 ?_
  refine V_iload_n 0 dX1_pop_24 rfl ?_
  refine V_pc (pc2 := 25) rfl ?_
  refine V_aald h2 (vp_in_nI hn (by decide)) dX1_pop_25 ?_
  rw [nI_clamp (by omega), svF_rf g _ (by omega)]
  refine V_ifnull dX1_pop_26 ?_
  refine V_aload_n 2 dX1_pop_29 rfl ?_
  refine V_aload_n 1 dX1_pop_30 rfl ?_
  refine G_X1_11 rfl (show _ = some (HO g (n + 1)) from h1) rfl dX1_pop_31 ?_
  refine V_iload_n 0 dX1_pop_34 rfl ?_
  refine V_aald h2 (vp_in_nI hn (by decide)) dX1_pop_35 ?_
  rw [nI_clamp (by omega), svF_rf g _ (by omega)]
  refine Cp_X1_25 (show _ = some (YO g y p0 (σ 64)) from y0) rfl ⟨Nat.le_of_ble_eq_true rfl, Nat.le_of_ble_eq_true rfl⟩ (r_ycopy hY (h5 n hn) (by omega)) rfl (Nat.le_of_ble_eq_true rfl) dX1_pop_36 rfl (fun _ q36 => ?_)
  refine V_pc (pc2 := 39) rfl ?_
  refine V_aload_n 1 dX1_pop_39 rfl ?_
  refine V_iload_n 0 dX1_pop_40 rfl ?_
  refine P_X1_18 rfl (show _ = some (HO g (n + 1)) from (q36.2 _ (by omega)).trans h1) (Nat.le_of_ble_eq_true rfl) rfl rfl dX1_pop_41 ?_
  refine V_ret (st := []) dX1_pop_44 rfl ?_
  refine ⟨rfl, ⟨sv, mup_eq _ _ _, (mup_ne _ _ (by decide)).trans ((q36.2 _ (by omega)).trans h2), h3, h4, fun i hi => ?_⟩, q36.1.fr fun k a b => mup_ne _ _ (by omega), fun k hk => ?_⟩
  · obtain ⟨w2, hw2, e4⟩ := h3 i hi
    exact (h5 i hi).fr fun k a b => by rw [mup_ne _ _ (by omega), q36.2 k (by omega)]
  · by_cases e : k = 21
    · subst e; rw [mup_eq, mup_eq]; rfl
    · rw [mup_ne _ _ e, mup_ne _ _ e, q36.2 k (by omega)]
