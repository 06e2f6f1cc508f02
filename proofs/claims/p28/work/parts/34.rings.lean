/-! Tables.lay; Rings, what it reads -/
theorem nI_andN (a b : Nat) : nI a &&& nI b = nI (a &&& b) := by
  apply Int32.toBitVec_inj.1
  show BitVec.ofNat 32 a &&& BitVec.ofNat 32 b = BitVec.ofNat 32 (a &&& b)
  apply BitVec.eq_of_getLsbD_eq
  intro i hi
  simp [hi]
theorem nI_orN (a b : Nat) : nI a ||| nI b = nI (a ||| b) := by
  apply Int32.toBitVec_inj.1
  show BitVec.ofNat 32 a ||| BitVec.ofNat 32 b = BitVec.ofNat 32 (a ||| b)
  apply BitVec.eq_of_getLsbD_eq
  intro i hi
  simp [hi]
theorem nI_xorN (a b : Nat) : nI a ^^^ nI b = nI (a ^^^ b) := by
  apply Int32.toBitVec_inj.1
  show BitVec.ofNat 32 a ^^^ BitVec.ofNat 32 b = BitVec.ofNat 32 (a ^^^ b)
  apply BitVec.eq_of_getLsbD_eq
  intro i hi
  simp [hi]
theorem nI_ne {a b : Nat} (ha : a < 2 ^ 31) (hb : b < 2 ^ 31) (h : a ≠ b) : ¬ nI a = nI b := fun e => h ((nI_eq ha hb).mp e)
def layP (p u : Int32) (a b : Nat) : Int32 := if 0 < u then p ||| nI (2 ^ pbit a b) else p &&& (nI (2 ^ pbit a b) ^^^ (-1))
def layF (f : Nat → Int32) (a b : Nat) (u d : Int32) : Nat → Int32 := upd (upd f (5 * a + b) u) (5 * b + a) d
set_option maxRecDepth 20000 in
theorem r_lay {g : GE} {M : Mem} {sz : Nat} {t : Nat} {f : Nat → Int32} {p : Int32} (hT : TW g M t f p) {x y : Int32} (a b : Nat) (hx : x = nI a) (hy : y = nI b) (ha : a < 5) (hb : b < 5) {u d : Int32} (hab : a ≠ b) : Run g m_X4_lay [rf g t, .int x, .int y, .int u, .int d] M sz 0 0 (Ret none (mup (mup M (t + 1) (eI g 25 (layF f a b u d))) t (eO 4 [rf g (t + 1), .int (layP p u a b)]))) := by
  subst hx hy
  refine Run.of rfl (by decide) (Nat.le_of_ble_eq_true rfl) ?_
  show V g m_X4_lay 0 _ [] _ _ _ _ _
  refine V_iload_n 1 dX4_lay_0 rfl ?_
  refine C_X4_33 rfl ⟨Nat.le_of_ble_eq_true rfl, Nat.le_of_ble_eq_true rfl⟩ (r_isParish _) rfl (Nat.le_of_ble_eq_true rfl) dX4_lay_1 rfl ?_
  refine V_if_eq (tgt := 19) dX4_lay_4 (by decide) (fun c4 => absurd c4 (by rw [isP_nI ha]; decide)) (fun c4 => ?_)
  refine V_iload_n 2 dX4_lay_7 rfl ?_
  refine C_X4_33 rfl ⟨Nat.le_of_ble_eq_true rfl, Nat.le_of_ble_eq_true rfl⟩ (r_isParish _) rfl (Nat.le_of_ble_eq_true rfl) dX4_lay_8 rfl ?_
  refine V_if_eq (tgt := 19) dX4_lay_11 (by decide) (fun c11 => absurd c11 (by rw [isP_nI hb]; decide)) (fun c11 => ?_)
  refine V_iload_n 1 dX4_lay_14 rfl ?_
  refine V_pc (pc2 := 15) rfl ?_
  refine V_iload_n 2 dX4_lay_15 rfl ?_
  refine V_icmp_ne (tgt := 20) dX4_lay_16 (by decide) (fun c16 => ?_) (fun c16 => absurd c16 (nI_ne (by omega) (by omega) hab))
  refine V_aload_n 0 dX4_lay_20 rfl ?_
  refine G_X4_9 rfl hT.1 rfl dX4_lay_21 ?_
  refine V_iload_n 1 dX4_lay_24 rfl ?_
  refine V_iconst (v := 5) dX4_lay_25 rfl ?_
  refine V_imul dX4_lay_26 ?_
  refine V_iload_n 2 dX4_lay_27 rfl ?_
  refine V_pc (pc2 := 28) rfl ?_
  refine V_iadd dX4_lay_28 ?_
  refine V_iload_n 3 dX4_lay_29 rfl ?_
  refine C_X4_37 rfl ⟨Nat.le_of_ble_eq_true rfl, Nat.le_of_ble_eq_true rfl⟩ (r_put hT.2 (5 * a + b) (ix5 ha hb) (by omega) (by decide)) rfl (Nat.le_of_ble_eq_true rfl) dX4_lay_30 rfl ?_
  refine V_aload_n 0 dX4_lay_33 rfl ?_
  refine G_X4_9 rfl (by rw [mup_ne M _ (by omega)]; exact hT.1) rfl dX4_lay_34 ?_
  refine V_iload_n 2 dX4_lay_37 rfl ?_
  refine V_iconst (v := 5) dX4_lay_38 rfl ?_
  refine V_imul dX4_lay_39 ?_
  refine V_pc (pc2 := 40) rfl ?_
  refine V_iload_n 1 dX4_lay_40 rfl ?_
  refine V_iadd dX4_lay_41 ?_
  refine V_iload 4 dX4_lay_42 rfl ?_
  refine C_X4_37 rfl ⟨Nat.le_of_ble_eq_true rfl, Nat.le_of_ble_eq_true rfl⟩ (r_put (mup_eq _ _ _) (5 * b + a) (ix5 hb ha) (by omega) (by decide)) rfl (Nat.le_of_ble_eq_true rfl) dX4_lay_44 rfl ?_
  refine V_iload_n 1 dX4_lay_47 rfl ?_
  refine V_iload_n 2 dX4_lay_48 rfl ?_
  refine C_X4_41 rfl ⟨Nat.le_of_ble_eq_true rfl, Nat.le_of_ble_eq_true rfl⟩ (r_bitOf a b rfl rfl ha hb) rfl (Nat.le_of_ble_eq_true rfl) dX4_lay_49 rfl ?_
  refine V_istore (lv2 := [(5, .int _), (0, .ref _), (1, .int _), (2, .int _), (3, .int _), (4, .int _)]) dX4_lay_52 (Nat.le_of_ble_eq_true rfl) rfl ?_
  refine V_pc (pc2 := 54) rfl ?_
  refine V_aload_n 1 dX4_lay_54 rfl ?_
  refine V_iload_n 4 dX4_lay_55 rfl ?_
  refine V_if_le (tgt := 69) dX4_lay_56 (by decide) (fun c56 => ?_) (fun c56 => ?_)
  · refine V_aload_n 1 dX4_lay_69 rfl ?_
    refine G_X4_15 rfl (by rw [mup_mup, mup_ne M _ (by omega)]; exact hT.1) rfl dX4_lay_70 ?_
    refine V_iload 0 dX4_lay_73 rfl ?_
    refine V_iconst (v := -1) dX4_lay_75 rfl ?_
    refine V_ixor dX4_lay_76 ?_
    refine V_iand dX4_lay_77 ?_
    refine P_X4_15 rfl (by rw [mup_mup, mup_ne M _ (by omega)]; exact hT.1) (Nat.le_of_ble_eq_true rfl) rfl rfl dX4_lay_78 ?_
    refine V_pc (pc2 := 81) rfl ?_
    refine V_ret (st := []) dX4_lay_81 rfl ?_
    refine ⟨rfl, ?_⟩; unfold layP; rw [mup_mup, if_neg (Int32.not_lt.mpr c56)]; rfl
  · refine V_aload_n 1 dX4_lay_59 rfl ?_
    refine G_X4_15 rfl (by rw [mup_mup, mup_ne M _ (by omega)]; exact hT.1) rfl dX4_lay_60 ?_
    refine V_iload 0 dX4_lay_63 rfl ?_
    refine V_ior dX4_lay_65 ?_
    refine V_goto (tgt := 78) dX4_lay_66 (by decide) ?_
    refine P_X4_15 rfl (by rw [mup_mup, mup_ne M _ (by omega)]; exact hT.1) (Nat.le_of_ble_eq_true rfl) rfl rfl dX4_lay_78 ?_
    refine V_ret (st := []) dX4_lay_81 rfl ?_
    refine ⟨rfl, ?_⟩; unfold layP; rw [mup_mup, if_pos (Int32.not_le.mp c56)]; rfl
def putS (σ : Nat → Int32) (a b : Nat) (u d : Int32) : Nat → Int32 := upd (upd σ (pr a b) (if a < b then u else d)) (10 + pr a b) (if a < b then d else u)
theorem upd_at (f : Nat → Int32) (k : Nat) (x : Int32) : upd f k x k = x := if_pos rfl
theorem upd_ne {f : Nat → Int32} {k j : Nat} {x : Int32} (h : j ≠ k) : upd f k x j = f j := if_neg h
theorem putS_big {σ : Nat → Int32} {a b : Nat} {u d : Int32} (ha : a < 5) (hb : b < 5) (hab : a ≠ b) {k : Nat} (hk : 20 ≤ k) : putS σ a b u d k = σ k := by
  have := pr_lt a b ha hb hab
  unfold putS
  rw [upd_ne (by omega), upd_ne (by omega)]
theorem upS_put {σ : Nat → Int32} {a b c e : Nat} {u d : Int32} (ha : a < 5) (hb : b < 5) (hab : a ≠ b) (hc : c < 5) (he : e < 5) (hce : c ≠ e) :
    upS (putS σ a b u d) c e = if c = a ∧ e = b then u else if c = b ∧ e = a then d else upS σ c e := by
  have h1 := pr_lt a b ha hb hab
  have h2 := pr_lt c e hc he hce
  unfold upS putS
  by_cases h : pr c e = pr a b
  · rcases pr_inj c e a b hc he ha hb hce hab h with ⟨e1, e2⟩ | ⟨e1, e2⟩
    · subst e1 e2
      rw [if_pos (show c = c ∧ e = e from ⟨rfl, rfl⟩)]
      by_cases hlt : c < e
      · simp only [if_pos hlt]
        rw [upd_ne (by omega), upd_at]
      · simp only [if_neg hlt]
        rw [upd_at]
    · subst e1 e2
      rw [if_neg (show ¬ (c = e ∧ e = c) from fun hh => hce hh.1), if_pos (show c = c ∧ e = e from ⟨rfl, rfl⟩), h]
      by_cases hlt : c < e
      · simp only [if_pos hlt, if_neg (show ¬ e < c by omega)]
        rw [upd_ne (by omega), upd_at]
      · simp only [if_neg hlt, if_pos (show e < c by omega)]
        rw [upd_at]
  · rw [if_neg (show ¬ (c = a ∧ e = b) from fun hh => h (by rw [hh.1, hh.2])), if_neg (show ¬ (c = b ∧ e = a) from fun hh => h (by rw [hh.1, hh.2, pr_comm]))]
    by_cases hlt : c < e
    · simp only [if_pos hlt]
      rw [upd_ne (by omega), upd_ne h]
    · simp only [if_neg hlt]
      rw [upd_ne (by omega), upd_ne (by omega)]
theorem layF_at {f : Nat → Int32} {a b c e : Nat} {u d : Int32} (ha : a < 5) (hb : b < 5) (hab : a ≠ b) (hc : c < 5) (he : e < 5) :
    layF f a b u d (5 * c + e) = if c = a ∧ e = b then u else if c = b ∧ e = a then d else f (5 * c + e) := by
  unfold layF upd
  by_cases h1 : 5 * c + e = 5 * b + a
  · rw [if_pos h1, if_neg (by omega), if_pos (by omega)]
  · rw [if_neg h1]
    by_cases h2 : 5 * c + e = 5 * a + b
    · rw [if_pos h2, if_pos (by omega)]
    · rw [if_neg h2, if_neg (by omega), if_neg (by omega)]
/-- a table's two numbers: none, or both of 1 to 99 -/
def UD (u d : Int32) : Prop := (u = 0 ∧ d = 0) ∨ ∃ i j : Nat, 1 ≤ i ∧ i ≤ 99 ∧ 1 ≤ j ∧ j ≤ 99 ∧ u = nI i ∧ d = nI j
theorem nI_gt0 {i : Nat} (h : 1 ≤ i) (h2 : i < 2 ^ 31) : (0 : Int32) < nI i := by rw [← nI_0]; exact nI_lt h h2
theorem UD.swap {u d : Int32} (h : UD u d) : UD d u := by
  rcases h with ⟨a, b⟩ | ⟨i, j, h1, h2, h3, h4, e1, e2⟩
  · exact Or.inl ⟨b, a⟩
  · exact Or.inr ⟨j, i, h3, h4, h1, h2, e2, e1⟩
theorem UD.same {u d : Int32} (h : UD u d) : (0 < u ↔ 0 < d) := by
  rcases h with ⟨a, b⟩ | ⟨i, j, h1, h2, h3, h4, e1, e2⟩
  · rw [a, b]
  · rw [e1, e2]; exact ⟨fun _ => nI_gt0 h3 (by omega), fun _ => nI_gt0 h1 (by omega)⟩
theorem I10.put {σ : Nat → Int32} (h : I10 σ) {a b : Nat} {u d : Int32} (ha : a < 5) (hb : b < 5) (hab : a ≠ b) (hud : UD u d) : I10 (putS σ a b u d) := by
  have h1 := pr_lt a b ha hb hab
  intro k hk
  unfold putS
  by_cases e : k = pr a b
  · subst e
    rw [upd_ne (show pr a b ≠ 10 + pr a b by omega), upd_at, upd_at]
    have h9 : UD (if a < b then u else d) (if a < b then d else u) := by split; exact hud; exact hud.swap
    exact h9
  · rw [upd_ne (by omega), upd_ne e, upd_ne (by omega), upd_ne (by omega)]
    exact h k hk
theorem hv_put {σ : Nat → Int32} {a b : Nat} {u d : Int32} (ha : a < 5) (hb : b < 5) (hab : a ≠ b) (hud : UD u d) : hv (putS σ a b u d) = (hv σ).set (pr a b) (decide (0 < u)) := by
  have h1 := pr_lt a b ha hb hab
  have h2 : ∀ k, k < 10 → putS σ a b u d k = if k = pr a b then (if a < b then u else d) else σ k := by
    intro k hk
    unfold putS
    rw [upd_ne (by omega)]
    rfl
  have h3 : decide (0 < (if a < b then u else d)) = decide (0 < u) := by
    split
    · rfl
    · exact decide_eq_decide.mpr hud.same.symm
  generalize hv9 : hv (putS σ a b u d) = l9
  unfold hv at hv9
  rw [h2 0 (by omega), h2 1 (by omega), h2 2 (by omega), h2 3 (by omega), h2 4 (by omega), h2 5 (by omega), h2 6 (by omega), h2 7 (by omega), h2 8 (by omega), h2 9 (by omega)] at hv9
  generalize pr a b = q at h1 hv9 ⊢
  subst hv9
  unfold hv
  rcases q with _ | _ | _ | _ | _ | _ | _ | _ | _ | _ | q <;> first | omega | simp [h3]
theorem kbit_pr : ∀ a b, a < 5 → b < 5 → a ≠ b → kbit (pr a b) = 2 ^ pbit a b := by
  have h : ((List.range 5).all fun a => (List.range 5).all fun b => decide (a ≠ b → kbit (pr a b) = 2 ^ pbit a b)) = true := by decide +kernel
  intro a b ha hb
  exact of_decide_eq_true (all_lt (all_lt h a ha) b hb)
theorem TabR.lay {f : Nat → Int32} {p : Int32} {σ : Nat → Int32} (h : TabR f p σ) {a b : Nat} {u d : Int32} (ha : a < 5) (hb : b < 5) (hab : a ≠ b) (hud : UD u d) : TabR (layF f a b u d) (layP p u a b) (putS σ a b u d) := by
  obtain ⟨h1, h2, h3⟩ := h
  refine ⟨fun c e hc he hce => ?_, fun c hc => ?_, ?_⟩
  · rw [layF_at ha hb hab hc he, upS_put ha hb hab hc he hce, h1 c e hc he hce]
  · have e := layF_at (f := f) (u := u) (d := d) ha hb hab hc hc
    rw [show 6 * c = 5 * c + c by omega, e, if_neg (by omega), if_neg (by omega), show 5 * c + c = 6 * c by omega]
    exact h2 c hc
  · rw [hv_put ha hb hab hud, h3]
    have h4 := mk_set (hv_len σ) (pr a b) (pr_lt a b ha hb hab)
    rw [kbit_pr a b ha hb hab] at h4
    unfold layP
    by_cases hu : 0 < u
    · rw [if_pos hu, decide_eq_true hu, h4.1, nI_orN]
    · rw [if_neg hu, decide_eq_false hu, h4.2, show (-1 : Int32) = nI 4294967295 from rfl, nI_xorN, nI_andN]
/-- the rings' own rows -/
def RPf : Nat → Int32 := fun k => if k % 5 < rSz (k / 5) then nI (rP (k / 5) (k % 5)) else 0
def RBf : Nat → Int32 := fun k => nI (rB k)
def RW (g : GE) (M : Mem) : Prop := M 85 = some (eO 3 [rf g 86, rf g 87, rf g 88]) ∧ M 86 = some (eI g 185 RPf) ∧ M 87 = some (eI g 37 RBf)
theorem RPf_at {r i : Nat} (hi : i < rSz r) : RPf (5 * r + i) = nI (rP r i) := by
  have := rSz_in r
  unfold RPf
  rw [show (5 * r + i) % 5 = i by omega, show (5 * r + i) / 5 = r by omega, if_pos hi]
theorem stand_iff {f : Nat → Int32} {p : Int32} {σ : Nat → Int32} (h : TabR f p σ) {r : Nat} (hr : r < 37) : p &&& RBf r = RBf r ↔ thr σ r = true := by
  have h1 := mk_thr_at (hv_len σ) hr
  have h2 := of_decide_eq_true (mk_lt (hv σ) (hv_len σ))
  have h3 := rB_lt r hr
  have h4 : mkL (hv σ) &&& rB r ≤ rB r := Nat.and_le_right
  unfold RBf
  rw [h.2.2, nI_andN, nI_eq (by omega) (by omega), ← beq_iff_eq, h1]
  rfl
theorem with_iff : ∀ r a b, r < 37 → a < 5 → b < 5 → (RBf r &&& nI (2 ^ pbit a b) = 0 ↔ rHas r a b = false) := by
  have h : ((List.range 37).all fun r => (List.range 5).all fun a => (List.range 5).all fun b => decide (RBf r &&& nI (2 ^ pbit a b) = 0 ↔ rHas r a b = false)) = true := by decide +kernel
  intro r a b hr ha hb
  exact of_decide_eq_true (all_lt (all_lt (all_lt h r hr) a ha) b hb)
set_option maxRecDepth 20000 in
theorem r_stands {g : GE} {M : Mem} {sz : Nat} {t : Nat} {f : Nat → Int32} {p : Int32} {σ : Nat → Int32} (hR : RW g M) (hT : TW g M t f p) (hσ : TabR f p σ) {x : Int32} (r : Nat) (hx : x = nI r) (hr : r < 37) : Run g m_X3_stands [rf g 85, rf g t, .int x] M sz 0 0 (Ret (some (.int (bI (thr σ r)))) M) := by
  refine Run.of rfl (by decide) (Nat.le_of_ble_eq_true rfl) ?_
  show V g m_X3_stands 0 _ [] _ _ _ _ _
  refine V_aload_n 0 dX3_stands_0 rfl ?_
  refine G_X3_15 rfl hR.1 rfl dX3_stands_1 ?_
  refine V_iload_n 2 dX3_stands_4 rfl ?_
  refine C_X3_32 rfl ⟨Nat.le_of_ble_eq_true rfl, Nat.le_of_ble_eq_true rfl⟩ (r_at hR.2.2 r hx hr (by decide)) rfl (Nat.le_of_ble_eq_true rfl) dX3_stands_5 rfl ?_
  refine V_istore_n (lv2 := [(3, .int _), (0, .ref _), (1, .ref _), (2, .int _)]) dX3_stands_8 (Nat.le_of_ble_eq_true rfl) rfl ?_
  refine V_aload_n 2 dX3_stands_9 rfl ?_
  refine G_X3_47 rfl hT.1 rfl dX3_stands_10 ?_
  refine V_pc (pc2 := 13) rfl ?_
  refine V_iload_n 0 dX3_stands_13 rfl ?_
  refine V_iand dX3_stands_14 ?_
  refine V_iload_n 0 dX3_stands_15 rfl ?_
  refine V_icmp_ne (tgt := 23) dX3_stands_16 (by decide) (fun c16 => ?_) (fun c16 => ?_)
  · refine V_iconst (v := 0) dX3_stands_23 rfl ?_
    refine V_zret (st := []) dX3_stands_24 rfl (by simp) ?_
    exact ⟨by rw [Bool.eq_false_iff.mpr (fun h => c16 ((stand_iff hσ hr).mpr h))]; rfl, rfl⟩
  · refine V_iconst (v := 1) dX3_stands_19 rfl ?_
    refine V_goto (tgt := 24) dX3_stands_20 (by decide) ?_
    refine V_zret (st := []) dX3_stands_24 rfl (by simp) ?_
    exact ⟨by rw [(stand_iff hσ hr).mp c16]; rfl, rfl⟩
set_option maxRecDepth 20000 in
theorem r_standsWith {g : GE} {M : Mem} {sz : Nat} {t : Nat} {f : Nat → Int32} {p : Int32} {σ : Nat → Int32} (hR : RW g M) (hT : TW g M t f p) (hσ : TabR f p σ) {x : Int32} (r : Nat) (hx : x = nI r) (hr : r < 37) {w : Int32} (a b : Nat) (hw : w = nI (2 ^ pbit a b)) (ha : a < 5) (hb : b < 5) : Run g m_X3_standsWith [rf g 85, rf g t, .int x, .int w] M sz 0 0 (Ret (some (.int (bI (rHas r a b && thr σ r)))) M) := by
  subst hw
  refine Run.of rfl (by decide) (Nat.le_of_ble_eq_true rfl) ?_
  show V g m_X3_standsWith 0 _ [] _ _ _ _ _
  refine V_aload_n 0 dX3_standsWith_0 rfl ?_
  refine G_X3_15 rfl hR.1 rfl dX3_standsWith_1 ?_
  refine V_iload_n 2 dX3_standsWith_4 rfl ?_
  refine C_X3_32 rfl ⟨Nat.le_of_ble_eq_true rfl, Nat.le_of_ble_eq_true rfl⟩ (r_at hR.2.2 r hx hr (by decide)) rfl (Nat.le_of_ble_eq_true rfl) dX3_standsWith_5 rfl ?_
  refine V_iload_n 3 dX3_standsWith_8 rfl ?_
  refine V_iand dX3_standsWith_9 ?_
  refine V_if_eq (tgt := 26) dX3_standsWith_10 (by decide) (fun c10 => ?_) (fun c10 => ?_)
  · refine V_iconst (v := 0) dX3_standsWith_26 rfl ?_
    refine V_zret (st := []) dX3_standsWith_27 rfl (by simp) ?_
    exact ⟨by rw [(with_iff r a b hr ha hb).mp c10]; rfl, rfl⟩
  · refine V_aload_n 0 dX3_standsWith_13 rfl ?_
    refine V_aload_n 1 dX3_standsWith_14 rfl ?_
    refine V_iload_n 2 dX3_standsWith_15 rfl ?_
    refine C_X3_50 hR.1 rfl ⟨Nat.le_of_ble_eq_true rfl, Nat.le_of_ble_eq_true rfl⟩ (r_stands hR hT hσ r hx hr) rfl (Nat.le_of_ble_eq_true rfl) dX3_standsWith_16 rfl ?_
    refine V_if_eq (tgt := 26) dX3_standsWith_19 (by decide) (fun c19 => ?_) (fun c19 => ?_)
    · refine V_iconst (v := 0) dX3_standsWith_26 rfl ?_
      refine V_zret (st := []) dX3_standsWith_27 rfl (by simp) ?_
      exact ⟨by rw [bI_0 c19, Bool.and_false]; rfl, rfl⟩
    · refine V_iconst (v := 1) dX3_standsWith_22 rfl ?_
      refine V_goto (tgt := 27) dX3_standsWith_23 (by decide) ?_
      refine V_zret (st := []) dX3_standsWith_27 rfl (by simp) ?_
      exact ⟨by rw [bI_1 c19, Bool.and_true, (Bool.eq_false_or_eq_true _).resolve_right (fun h => c10 ((with_iff r a b hr ha hb).mpr h))]; rfl, rfl⟩
set_option maxRecDepth 20000 in
theorem r_standing {g : GE} {M : Mem} {sz : Nat} {t : Nat} {f : Nat → Int32} {p : Int32} {σ : Nat → Int32} (hR : RW g M) (hT : TW g M t f p) (hσ : TabR f p σ) : Run g m_X3_standing [rf g 85, rf g t] M sz 0 0 (Ret (some (.int (nI (cnt (thr σ) 37)))) M) := by
  have L : ∀ m i : Nat, i + m = 37 → V g m_X3_standing 4 [(3, .int (nI i)), (2, .int (nI (cnt (thr σ) i))), (0, rf g 85), (1, rf g t)] [] M sz 0 0 (Ret (some (.int (nI (cnt (thr σ) 37)))) M) := by
    intro m
    induction m with
    | zero =>
      intro i hi
      obtain rfl : i = 37 := by omega
      refine V_iload_n 0 dX3_standing_4 rfl ?_
      refine V_bipush (v := 37) dX3_standing_5 (by decide) ?_
      refine V_icmp_ge (tgt := 28) dX3_standing_7 (by decide) (fun c7 => ?_) (fun c7 => absurd (by decide) c7)
      refine V_iload_n 1 dX3_standing_28 rfl ?_
      refine V_iret (st := []) dX3_standing_29 rfl ?_
      exact ⟨rfl, rfl⟩
    | succ m ih =>
      intro i hi
      have hlt : i < 37 := by omega
      refine V_iload_n 0 dX3_standing_4 rfl ?_
      refine V_bipush (v := 37) dX3_standing_5 (by decide) ?_
      refine V_icmp_ge (tgt := 28) dX3_standing_7 (by decide) (fun c7 => absurd c7 (nI_ge (b := 37) hlt (by decide))) (fun c7 => ?_)
      refine V_aload_n 2 dX3_standing_10 rfl ?_
      refine V_aload_n 3 dX3_standing_11 rfl ?_
      refine V_iload_n 0 dX3_standing_12 rfl ?_
      refine C_X3_50 hR.1 rfl ⟨Nat.le_of_ble_eq_true rfl, Nat.le_of_ble_eq_true rfl⟩ (r_stands hR hT hσ i rfl hlt) rfl (Nat.le_of_ble_eq_true rfl) dX3_standing_13 rfl ?_
      refine V_pc (pc2 := 16) rfl ?_
      refine V_if_eq (tgt := 22) dX3_standing_16 (by decide) (fun c16 => ?_) (fun c16 => ?_)
      · refine V_iinc (v := _ + 1) (lv2 := [(3, .int _), (2, .int _), (0, .ref _), (1, .ref _)]) 0 dX3_standing_22 rfl rfl (Nat.le_of_ble_eq_true rfl) rfl ?_
        refine V_goto (tgt := 4) dX3_standing_25 (by decide) ?_
        refine V_lv (lv2 := [(3, .int _), (2, .int _), (0, .ref _), (1, .ref _)]) [0, 1, 2, 3] rfl ?_
        rw [nI_1]
        have e := ih (i + 1) (by omega)
        rw [cnt_f (bI_0 c16)] at e
        exact e
      · refine V_iinc (v := _ + 1) (lv2 := [(2, .int _), (3, .int _), (0, .ref _), (1, .ref _)]) 1 dX3_standing_19 rfl rfl (Nat.le_of_ble_eq_true rfl) rfl ?_
        refine V_iinc (v := _ + 1) (lv2 := [(3, .int _), (2, .int _), (0, .ref _), (1, .ref _)]) 1 dX3_standing_22 rfl rfl (Nat.le_of_ble_eq_true rfl) rfl ?_
        refine V_goto (tgt := 4) dX3_standing_25 (by decide) ?_
        refine V_lv (lv2 := [(3, .int _), (2, .int _), (0, .ref _), (1, .ref _)]) [0, 1, 2, 3] rfl ?_
        rw [nI_1, nI_1]
        have e := ih (i + 1) (by omega)
        rw [cnt_t (bI_1 c16)] at e
        exact e
  refine Run.of rfl (by decide) (Nat.le_of_ble_eq_true rfl) ?_
  show V g m_X3_standing 0 _ [] _ _ _ _ _
  refine V_iconst (v := 0) dX3_standing_0 rfl ?_
  refine V_istore_n (lv2 := [(2, .int _), (0, .ref _), (1, .ref _)]) dX3_standing_1 (Nat.le_of_ble_eq_true rfl) rfl ?_
  refine V_iconst (v := 0) dX3_standing_2 rfl ?_
  refine V_istore_n (lv2 := [(3, .int _), (2, .int _), (0, .ref _), (1, .ref _)]) dX3_standing_3 (Nat.le_of_ble_eq_true rfl) rfl ?_
  refine V_lv (lv2 := [(3, .int _), (2, .int _), (0, .ref _), (1, .ref _)]) [0, 1, 2, 3] rfl ?_
  exact L 37 0 rfl
set_option maxRecDepth 20000 in
theorem r_standingWith {g : GE} {M : Mem} {sz : Nat} {t : Nat} {f : Nat → Int32} {p : Int32} {σ : Nat → Int32} (hR : RW g M) (hT : TW g M t f p) (hσ : TabR f p σ) {x y : Int32} (a b : Nat) (hx : x = nI a) (hy : y = nI b) (ha : a < 5) (hb : b < 5) : Run g m_X3_standingWith [rf g 85, rf g t, .int x, .int y] M sz 0 0 (Ret (some (.int (nI (cnt (fun r => rHas r a b && thr σ r) 37)))) M) := by
  have L : ∀ m i : Nat, i + m = 37 → V g m_X3_standingWith 13 [(6, .int (nI i)), (5, .int (nI (cnt (fun r => rHas r a b && thr σ r) i))), (4, .int (nI (2 ^ pbit a b))), (0, rf g 85), (1, rf g t), (2, .int x), (3, .int y)] [] M sz 0 0 (Ret (some (.int (nI (cnt (fun r => rHas r a b && thr σ r) 37)))) M) := by
    intro m
    induction m with
    | zero =>
      intro i hi
      obtain rfl : i = 37 := by omega
      refine V_iload 0 dX3_standingWith_13 rfl ?_
      refine V_bipush (v := 37) dX3_standingWith_15 (by decide) ?_
      refine V_icmp_ge (tgt := 41) dX3_standingWith_17 (by decide) (fun c17 => ?_) (fun c17 => absurd (by decide) c17)
      refine V_iload 1 dX3_standingWith_41 rfl ?_
      refine V_iret (st := []) dX3_standingWith_43 rfl ?_
      exact ⟨rfl, rfl⟩
    | succ m ih =>
      intro i hi
      have hlt : i < 37 := by omega
      refine V_iload 0 dX3_standingWith_13 rfl ?_
      refine V_bipush (v := 37) dX3_standingWith_15 (by decide) ?_
      refine V_icmp_ge (tgt := 41) dX3_standingWith_17 (by decide) (fun c17 => absurd c17 (nI_ge (b := 37) hlt (by decide))) (fun c17 => ?_)
      refine V_aload_n 3 dX3_standingWith_20 rfl ?_
      refine V_aload_n 4 dX3_standingWith_21 rfl ?_
      refine V_iload 0 dX3_standingWith_22 rfl ?_
      refine V_iload 2 dX3_standingWith_24 rfl ?_
      refine V_pc (pc2 := 26) rfl ?_
      refine C_X3_54 hR.1 rfl ⟨Nat.le_of_ble_eq_true rfl, Nat.le_of_ble_eq_true rfl⟩ (r_standsWith hR hT hσ i rfl hlt a b rfl ha hb) rfl (Nat.le_of_ble_eq_true rfl) dX3_standingWith_26 rfl ?_
      refine V_if_eq (tgt := 35) dX3_standingWith_29 (by decide) (fun c29 => ?_) (fun c29 => ?_)
      · refine V_iinc (v := _ + 1) (lv2 := [(6, .int _), (5, .int _), (4, .int _), (0, .ref _), (1, .ref _), (2, .int _), (3, .int _)]) 0 dX3_standingWith_35 rfl rfl (Nat.le_of_ble_eq_true rfl) rfl ?_
        refine V_goto (tgt := 13) dX3_standingWith_38 (by decide) ?_
        refine V_lv (lv2 := [(6, .int _), (5, .int _), (4, .int _), (0, .ref _), (1, .ref _), (2, .int _), (3, .int _)]) [0, 1, 2, 3, 4, 5, 6] rfl ?_
        rw [nI_1]
        have e := ih (i + 1) (by omega)
        rw [cnt_f (bI_0 c29)] at e
        exact e
      · refine V_iinc (v := _ + 1) (lv2 := [(5, .int _), (6, .int _), (4, .int _), (0, .ref _), (1, .ref _), (2, .int _), (3, .int _)]) 1 dX3_standingWith_32 rfl rfl (Nat.le_of_ble_eq_true rfl) rfl ?_
        refine V_iinc (v := _ + 1) (lv2 := [(6, .int _), (5, .int _), (4, .int _), (0, .ref _), (1, .ref _), (2, .int _), (3, .int _)]) 1 dX3_standingWith_35 rfl rfl (Nat.le_of_ble_eq_true rfl) rfl ?_
        refine V_goto (tgt := 13) dX3_standingWith_38 (by decide) ?_
        refine V_lv (lv2 := [(6, .int _), (5, .int _), (4, .int _), (0, .ref _), (1, .ref _), (2, .int _), (3, .int _)]) [0, 1, 2, 3, 4, 5, 6] rfl ?_
        rw [nI_1, nI_1]
        have e := ih (i + 1) (by omega)
        rw [cnt_t (bI_1 c29)] at e
        exact e
  refine Run.of rfl (by decide) (Nat.le_of_ble_eq_true rfl) ?_
  show V g m_X3_standingWith 0 _ [] _ _ _ _ _
  refine V_iload_n 2 dX3_standingWith_0 rfl ?_
  refine V_iload_n 3 dX3_standingWith_1 rfl ?_
  refine C_X3_44 rfl ⟨Nat.le_of_ble_eq_true rfl, Nat.le_of_ble_eq_true rfl⟩ (r_bitOf a b hx hy ha hb) rfl (Nat.le_of_ble_eq_true rfl) dX3_standingWith_2 rfl ?_
  refine V_istore (lv2 := [(4, .int _), (0, .ref _), (1, .ref _), (2, .int _), (3, .int _)]) dX3_standingWith_5 (Nat.le_of_ble_eq_true rfl) rfl ?_
  refine V_iconst (v := 0) dX3_standingWith_7 rfl ?_
  refine V_istore (lv2 := [(5, .int _), (4, .int _), (0, .ref _), (1, .ref _), (2, .int _), (3, .int _)]) dX3_standingWith_8 (Nat.le_of_ble_eq_true rfl) rfl ?_
  refine V_iconst (v := 0) dX3_standingWith_10 rfl ?_
  refine V_pc (pc2 := 11) rfl ?_
  refine V_istore (lv2 := [(6, .int _), (5, .int _), (4, .int _), (0, .ref _), (1, .ref _), (2, .int _), (3, .int _)]) dX3_standingWith_11 (Nat.le_of_ble_eq_true rfl) rfl ?_
  refine V_lv (lv2 := [(6, .int _), (5, .int _), (4, .int _), (0, .ref _), (1, .ref _), (2, .int _), (3, .int _)]) [0, 1, 2, 3, 4, 5, 6] rfl ?_
  exact L 37 0 rfl
def prodC (σ : Nat → Int32) (r : Nat) (ups : Bool) : Nat → Int64
  | 0 => 1
  | j + 1 => prodC σ r ups j * facs σ ups (rP r ((j + rSz r - 1) % rSz r), rP r j)
theorem rL_3 {r : Nat} (h : rSz r = 3) : rL r = [(rP r 0, rP r 1), (rP r 1, rP r 2), (rP r 2, rP r 0)] := by simp [rL, rQ, h, List.range, List.range.loop]
theorem rL_4 {r : Nat} (h : rSz r = 4) : rL r = [(rP r 0, rP r 1), (rP r 1, rP r 2), (rP r 2, rP r 3), (rP r 3, rP r 0)] := by simp [rL, rQ, h, List.range, List.range.loop]
theorem rL_5 {r : Nat} (h : rSz r = 5) : rL r = [(rP r 0, rP r 1), (rP r 1, rP r 2), (rP r 2, rP r 3), (rP r 3, rP r 4), (rP r 4, rP r 0)] := by simp [rL, rQ, h, List.range, List.range.loop]
theorem l_left_comm (a b c : Int64) : a * (b * c) = b * (a * c) := by rw [← Int64.mul_assoc, Int64.mul_comm a b, Int64.mul_assoc]
theorem prodC_eq (σ : Nat → Int32) (r : Nat) (ups : Bool) : prodC σ r ups (rSz r) = prodS σ r ups := by
  have h := rSz_in r
  rcases (show rSz r = 3 ∨ rSz r = 4 ∨ rSz r = 5 by omega) with h3 | h3 | h3
  · unfold prodS prodL
    rw [rL_3 h3, h3]
    simp only [prodC, List.foldl, h3]
    simp only [Int64.mul_assoc, Int64.one_mul]
    simp [Int64.mul_comm, l_left_comm, Int64.mul_assoc]
  · unfold prodS prodL
    rw [rL_4 h3, h3]
    simp only [prodC, List.foldl, h3]
    simp [Int64.mul_comm, l_left_comm, Int64.mul_assoc]
  · unfold prodS prodL
    rw [rL_5 h3, h3]
    simp only [prodC, List.foldl, h3]
    simp [Int64.mul_comm, l_left_comm, Int64.mul_assoc]
theorem rP_prev {r j : Nat} (hr : r < 37) (hj : j < rSz r) : rP r ((j + rSz r - 1) % rSz r) < 5 ∧ rP r j < 5 ∧ rP r ((j + rSz r - 1) % rSz r) ≠ rP r j := by
  have h3 := rSz_in r
  have hm : (j + rSz r - 1) % rSz r < rSz r := Nat.mod_lt _ (by omega)
  have h := rQ_ne r hr _ hm
  refine ⟨rP_lt r hr _ hm, rP_lt r hr _ hj, ?_⟩
  have e : ((j + rSz r - 1) % rSz r + 1) % rSz r = j := by
    rcases Nat.eq_zero_or_pos j with rfl | hj0
    · have e9 : (0 + rSz r - 1) % rSz r = rSz r - 1 := by rw [Nat.zero_add]; exact Nat.mod_eq_of_lt (by omega)
      rw [e9, show rSz r - 1 + 1 = rSz r by omega, Nat.mod_self]
    · rw [show j + rSz r - 1 = (j - 1) + rSz r by omega, Nat.add_mod_right, Nat.mod_eq_of_lt (show j - 1 < rSz r by omega), show j - 1 + 1 = j by omega, Nat.mod_eq_of_lt hj]
  unfold rQ at h
  dsimp only at h
  rw [e] at h
  exact h
set_option maxRecDepth 20000 in
theorem r_product {g : GE} {M : Mem} {sz : Nat} {t : Nat} {f : Nat → Int32} {p : Int32} {σ : Nat → Int32} (hR : RW g M) (hT : TW g M t f p) (hσ : TabR f p σ) {x : Int32} (r : Nat) (hx : x = nI r) (hr : r < 37) {w : Int32} (ups : Bool) (hw : w = bI ups) : Run g m_X3_product [rf g 85, rf g t, .int x, .int w] M sz 0 0 (Ret (some (.long (prodS σ r ups))) M) := by
  subst hx hw
  have h35 := rSz_in r
  have h0 : rSz r - 1 < rSz r := by omega
  have e5 : nI r * 5 = nI (5 * r) := by rw [show (5 : Int32) = nI 5 from rfl, pk_mul, Nat.mul_comm]
  have e6 : nI r * 5 + nI (rSz r) - 1 = nI (5 * r + (rSz r - 1)) := by rw [e5, nI_add, show (1 : Int32) = nI 1 from rfl, pk_sub (by omega)]; congr 1; omega
  have L : ∀ m j : Nat, j + m = rSz r → V g m_X3_product 33 [(9, .int (nI j)), (8, .int (nI (rP r ((j + rSz r - 1) % rSz r)))), (6, .long (prodC σ r ups j)), (5, .int (nI (5 * r))), (4, .int (nI (rSz r))), (0, rf g 85), (1, rf g t), (2, .int (nI r)), (3, .int (bI ups))] [] M sz 0 0 (Ret (some (.long (prodS σ r ups))) M) := by
    intro m
    induction m with
    | zero =>
      intro j hj
      obtain rfl : j = rSz r := by omega
      refine V_iload 0 dX3_product_33 rfl ?_
      refine V_iload 4 dX3_product_35 rfl ?_
      refine V_icmp_ge (tgt := 94) dX3_product_37 (by decide) (fun c37 => ?_) (fun c37 => absurd (nI_le (Nat.le_refl _) (by omega)) c37)
      refine V_lload 2 dX3_product_94 rfl ?_
      refine V_lret (st := []) dX3_product_96 rfl ?_
      exact ⟨by rw [prodC_eq], rfl⟩
    | succ m ih =>
      intro j hj
      have hlt : j < rSz r := by omega
      obtain ⟨ha, hb, hab⟩ := rP_prev hr hlt
      have eR : RPf (5 * r + j) = nI (rP r j) := RPf_at hlt
      have eJ : (j + 1 + rSz r - 1) % rSz r = j := by rw [show j + 1 + rSz r - 1 = j + rSz r by omega, Nat.add_mod_right, Nat.mod_eq_of_lt hlt]
      refine V_iload 0 dX3_product_33 rfl ?_
      refine V_iload 4 dX3_product_35 rfl ?_
      refine V_icmp_ge (tgt := 94) dX3_product_37 (by decide) (fun c37 => absurd c37 (nI_ge hlt (by omega))) (fun c37 => ?_)
      refine V_aload_n 5 dX3_product_40 rfl ?_
      refine G_X3_9 rfl hR.1 rfl dX3_product_41 ?_
      refine V_iload 3 dX3_product_44 rfl ?_
      refine V_iload 0 dX3_product_46 rfl ?_
      refine V_pc (pc2 := 48) rfl ?_
      refine V_iadd dX3_product_48 ?_
      refine C_X3_32 rfl ⟨Nat.le_of_ble_eq_true rfl, Nat.le_of_ble_eq_true rfl⟩ (r_at hR.2.1 (5 * r + j) (nI_add _ _) (by omega) (by decide)) rfl (Nat.le_of_ble_eq_true rfl) dX3_product_49 rfl ?_
      rw [eR]
      refine V_istore (lv2 := [(10, .int _), (9, .int _), (8, .int _), (6, .long _), (5, .int _), (4, .int _), (0, .ref _), (1, .ref _), (2, .int _), (3, .int _)]) dX3_product_52 (Nat.le_of_ble_eq_true rfl) rfl ?_
      refine V_lload 3 dX3_product_54 rfl ?_
      refine V_iload_n 9 dX3_product_56 rfl ?_
      refine V_if_eq (tgt := 72) dX3_product_57 (by decide) (fun c57 => ?_) (fun c57 => ?_)
      · refine V_aload_n 7 dX3_product_72 rfl ?_
        refine V_iload 0 dX3_product_73 rfl ?_
        refine V_iload 2 dX3_product_75 rfl ?_
        refine C_X3_58 hT.1 rfl ⟨Nat.le_of_ble_eq_true rfl, Nat.le_of_ble_eq_true rfl⟩ (r_up hT (rP r j) (rP r ((j + rSz r - 1) % rSz r)) rfl rfl hb ha) rfl (Nat.le_of_ble_eq_true rfl) dX3_product_77 rfl ?_
        refine V_i2l dX3_product_80 ?_
        refine V_lmul dX3_product_81 ?_
        refine V_lstore (lv2 := [(6, .long _), (10, .int _), (9, .int _), (8, .int _), (5, .int _), (4, .int _), (0, .ref _), (1, .ref _), (2, .int _), (3, .int _)]) dX3_product_82 (Nat.le_of_ble_eq_true rfl) rfl ?_
        refine V_pc (pc2 := 84) rfl ?_
        refine V_iload 1 dX3_product_84 rfl ?_
        refine V_istore (lv2 := [(8, .int _), (6, .long _), (10, .int _), (9, .int _), (5, .int _), (4, .int _), (0, .ref _), (1, .ref _), (2, .int _), (3, .int _)]) dX3_product_86 (Nat.le_of_ble_eq_true rfl) rfl ?_
        refine V_iinc (v := _ + 1) (lv2 := [(9, .int _), (8, .int _), (6, .long _), (10, .int _), (5, .int _), (4, .int _), (0, .ref _), (1, .ref _), (2, .int _), (3, .int _)]) 3 dX3_product_88 rfl rfl (Nat.le_of_ble_eq_true rfl) rfl ?_
        refine V_goto (tgt := 33) dX3_product_91 (by decide) ?_
        refine V_lv (lv2 := [(9, .int _), (8, .int _), (6, .long _), (5, .int _), (4, .int _), (0, .ref _), (1, .ref _), (2, .int _), (3, .int _)]) [0, 1, 2, 4, 5, 6, 7, 8, 9] rfl ?_
        obtain rfl : ups = false := bI_0 c57
        have e := ih (j + 1) (by omega)
        rw [eJ, prodC, facs] at e
        rw [nI_1, hσ.1 _ _ hb ha (Ne.symm hab)]
        exact e
      · refine V_aload_n 7 dX3_product_60 rfl ?_
        refine V_iload 2 dX3_product_61 rfl ?_
        refine V_iload 0 dX3_product_63 rfl ?_
        refine C_X3_58 hT.1 rfl ⟨Nat.le_of_ble_eq_true rfl, Nat.le_of_ble_eq_true rfl⟩ (r_up hT (rP r ((j + rSz r - 1) % rSz r)) (rP r j) rfl rfl ha hb) rfl (Nat.le_of_ble_eq_true rfl) dX3_product_65 rfl ?_
        refine V_i2l dX3_product_68 ?_
        refine V_goto (tgt := 81) dX3_product_69 (by decide) ?_
        refine V_lmul dX3_product_81 ?_
        refine V_pc (pc2 := 82) rfl ?_
        refine V_lstore (lv2 := [(6, .long _), (10, .int _), (9, .int _), (8, .int _), (5, .int _), (4, .int _), (0, .ref _), (1, .ref _), (2, .int _), (3, .int _)]) dX3_product_82 (Nat.le_of_ble_eq_true rfl) rfl ?_
        refine V_iload 1 dX3_product_84 rfl ?_
        refine V_istore (lv2 := [(8, .int _), (6, .long _), (10, .int _), (9, .int _), (5, .int _), (4, .int _), (0, .ref _), (1, .ref _), (2, .int _), (3, .int _)]) dX3_product_86 (Nat.le_of_ble_eq_true rfl) rfl ?_
        refine V_iinc (v := _ + 1) (lv2 := [(9, .int _), (8, .int _), (6, .long _), (10, .int _), (5, .int _), (4, .int _), (0, .ref _), (1, .ref _), (2, .int _), (3, .int _)]) 3 dX3_product_88 rfl rfl (Nat.le_of_ble_eq_true rfl) rfl ?_
        refine V_goto (tgt := 33) dX3_product_91 (by decide) ?_
        refine V_lv (lv2 := [(9, .int _), (8, .int _), (6, .long _), (5, .int _), (4, .int _), (0, .ref _), (1, .ref _), (2, .int _), (3, .int _)]) [0, 1, 2, 4, 5, 6, 7, 8, 9] rfl ?_
        obtain rfl : ups = true := bI_1 c57
        have e := ih (j + 1) (by omega)
        rw [eJ, prodC, facs] at e
        rw [nI_1, hσ.1 _ _ ha hb hab]
        exact e
  refine Run.of rfl (by decide) (Nat.le_of_ble_eq_true rfl) ?_
  show V g m_X3_product 0 _ [] _ _ _ _ _
  refine V_iload_n 2 dX3_product_0 rfl ?_
  refine C_X3_25 rfl ⟨Nat.le_of_ble_eq_true rfl, Nat.le_of_ble_eq_true rfl⟩ (r_ringSize r rfl hr) rfl (Nat.le_of_ble_eq_true rfl) dX3_product_1 rfl ?_
  refine V_istore (lv2 := [(4, .int _), (0, .ref _), (1, .ref _), (2, .int _), (3, .int _)]) dX3_product_4 (Nat.le_of_ble_eq_true rfl) rfl ?_
  refine V_iload_n 3 dX3_product_6 rfl ?_
  refine V_iconst (v := 5) dX3_product_7 rfl ?_
  refine V_imul dX3_product_8 ?_
  refine V_istore (lv2 := [(5, .int _), (4, .int _), (0, .ref _), (1, .ref _), (2, .int _), (3, .int _)]) dX3_product_9 (Nat.le_of_ble_eq_true rfl) rfl ?_
  refine V_pc (pc2 := 11) rfl ?_
  refine V_lconst (v := 1) dX3_product_11 rfl ?_
  refine V_lstore (lv2 := [(6, .long _), (5, .int _), (4, .int _), (0, .ref _), (1, .ref _), (2, .int _), (3, .int _)]) dX3_product_12 (Nat.le_of_ble_eq_true rfl) rfl ?_
  refine V_aload_n 3 dX3_product_14 rfl ?_
  refine G_X3_9 rfl hR.1 rfl dX3_product_15 ?_
  refine V_iload 1 dX3_product_18 rfl ?_
  refine V_iload 2 dX3_product_20 rfl ?_
  refine V_iadd dX3_product_22 ?_
  refine V_iconst (v := 1) dX3_product_23 rfl ?_
  refine V_pc (pc2 := 24) rfl ?_
  refine V_isub dX3_product_24 ?_
  refine C_X3_32 rfl ⟨Nat.le_of_ble_eq_true rfl, Nat.le_of_ble_eq_true rfl⟩ (r_at hR.2.1 (5 * r + (rSz r - 1)) e6 (by omega) (by decide)) rfl (Nat.le_of_ble_eq_true rfl) dX3_product_25 rfl ?_
  refine V_istore (lv2 := [(8, .int _), (6, .long _), (5, .int _), (4, .int _), (0, .ref _), (1, .ref _), (2, .int _), (3, .int _)]) dX3_product_28 (Nat.le_of_ble_eq_true rfl) rfl ?_
  refine V_iconst (v := 0) dX3_product_30 rfl ?_
  refine V_istore (lv2 := [(9, .int _), (8, .int _), (6, .long _), (5, .int _), (4, .int _), (0, .ref _), (1, .ref _), (2, .int _), (3, .int _)]) dX3_product_31 (Nat.le_of_ble_eq_true rfl) rfl ?_
  refine V_lv (lv2 := [(9, .int _), (8, .int _), (6, .long _), (5, .int _), (4, .int _), (0, .ref _), (1, .ref _), (2, .int _), (3, .int _)]) [0, 1, 2, 3, 4, 5, 6, 7, 8] rfl ?_
  have e := L (rSz r) 0 (by omega)
  rw [Nat.zero_add, Nat.mod_eq_of_lt h0] at e
  rw [e5, RPf_at h0]
  exact e
