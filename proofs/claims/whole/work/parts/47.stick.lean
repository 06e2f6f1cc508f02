/-! operations: what they share; stick -/
section
variable {g : GE} {M M1 : Mem} {σ sn : Nat → Int32} {hk : Bool} {n : Nat} {ps : Nat → Nat → Int32} {len : Nat} {tx : Nat → Int32} {th : Int32}
theorem ML.thr {v : Nat → Int32} {c : Int32} (h : ML g M σ sn hk n ps len tx th) (hM : MD g M σ v) (v0 : v 0 = nI n) (v1 : v 1 = bI hk) (v2 : v 2 = nI len) : ML g (mup M 96 (MO g (upd v 3 c))) σ sn hk n ps len tx c := by
  obtain ⟨_, ⟨pf, f1, f2⟩, f3, f4, a, b, f5, f6⟩ := h
  exact ⟨⟨_, hM.v _, v0, v1, v2, upd_at _ _ _⟩, ⟨pf, (mup_ne _ _ (by decide)).trans f1, f2⟩, (mup_ne _ _ (by decide)).trans f3, (mup_ne _ _ (by decide)).trans f4, a, b, (mup_ne _ _ (by decide)).trans f5, (mup_ne _ _ (by decide)).trans f6⟩
theorem ML.sav {v : Nat → Int32} {c : Int32} {n2 : Nat} {ps2 : Nat → Nat → Int32} (h : ML g M σ sn hk n ps len tx th) (hM : MD g M σ v) (v0 : v 0 = nI n) (v1 : v 1 = bI hk) (v2 : v 2 = nI len) (q : SV g (mup M 96 (MO g (upd v 3 c))) M1 σ (upd v 3 c) n2 ps2) : ML g M1 σ sn hk n2 ps2 len tx c := by
  obtain ⟨_, ⟨pf, f1, f2⟩, f3, f4, a, b, f5, f6⟩ := h
  obtain ⟨q1, q2, q3⟩ := q
  exact ⟨⟨_, q2, upd_at _ _ _, v1, v2, rfl⟩, q1, (q3 _ (by decide) (by decide)).trans ((mup_ne _ _ (by decide)).trans f3), (q3 _ (by decide) (by decide)).trans ((mup_ne _ _ (by decide)).trans f4), a, b, (q3 _ (by decide) (by decide)).trans ((mup_ne _ _ (by decide)).trans f5), (q3 _ (by decide) (by decide)).trans ((mup_ne _ _ (by decide)).trans f6)⟩
theorem SV.fr {v : Nat → Int32} {e : va_E} {n2 : Nat} {ps2 : Nat → Nat → Int32} (q : SV g (mup M 96 e) M1 σ v n2 ps2) : FR M M1 96 9 := fun k hk => (q.2.2 k (by omega) (by omega)).trans (mup_ne _ _ (by omega))
theorem ML.set (h : ML g M σ sn hk n ps len tx th) (σ2 : Nat → Int32) : ML g (mup M 97 (eI g 65 σ2)) σ2 sn hk n ps len tx th := by
  obtain ⟨⟨v, hM, e⟩, ⟨pf, f1, f2⟩, f3, f4, a, b, f5, f6⟩ := h
  exact ⟨⟨v, hM.put _, e⟩, ⟨pf, (mup_ne _ _ (by decide)).trans f1, f2⟩, (mup_ne _ _ (by decide)).trans f3, (mup_ne _ _ (by decide)).trans f4, a, b, (mup_ne _ _ (by decide)).trans f5, (mup_ne _ _ (by decide)).trans f6⟩
/-- both worlds, and the row of one answer -/
def WLD (g : GE) (M : Mem) (σ τ sn : Nat → Int32) (hk : Bool) (n : Nat) (ps : Nat → Nat → Int32) (len : Nat) (tx : Nat → Int32) (th : Int32) : Prop :=
  CW g M σ τ hk n ps len tx ∧ ML g M σ sn hk n ps len tx th ∧ INV σ τ sn hk n ps len tx ∧ ∃ o, M 105 = some (eJ g 1 o)
def Inv (g : GE) (M : Mem) (th : Int32) : Prop := ∃ (σ τ sn : Nat → Int32) (hk : Bool) (n : Nat) (ps : Nat → Nat → Int32) (len : Nat) (tx : Nat → Int32), WLD g M σ τ sn hk n ps len tx th
/-- what an operation keeps, of the class by yL, of the reference by y9 -/
def OPL (g : GE) (yL y9 : MT) (AL A9 : List Value) : Prop := ∀ (M : Mem) (sz : Nat), (∃ th, Inv g M th) → ∃ (c : Nat) (b : Int32) (P1 : Mem → Prop), c ≤ 3 ∧ Run g yL AL M sz 1 6 (RetP (some (.int (nI c))) P1) ∧ ∀ M1, P1 M1 → (∃ e, M1 96 = some (eO 9 e)) ∧ ∀ sz2, Run g y9 A9 M1 sz2 0 0 (RetP (some (.int b)) (fun M2 => Inv g M2 (nI c) ∧ ∃ o, M2 105 = some (eJ g 1 o) ∧ (c = 0 → o 0 = b.toInt64)))
end
theorem inI_t {v l m : Int32} (h1 : ¬ v < l) (h2 : v ≤ m) : inI v l m = true := by
  unfold inI; rw [decide_eq_true (Int32.not_lt.mp h1), decide_eq_true h2]; rfl
theorem inI_f {v l m : Int32} (h : v < l ∨ ¬ v ≤ m) : inI v l m = false := by
  unfold inI
  rcases h with h | h
  · rw [decide_eq_false (Int32.not_le.mpr h)]; rfl
  · rw [decide_eq_false h, Bool.and_false]
/-- a call that is refused -/
theorem OPL.bad {g : GE} {yL y9 : MT} {AL A9 : List Value} {M : Mem} {sz : Nat} {σ τ sn : Nat → Int32} {hk : Bool} {n : Nat} {ps : Nat → Nat → Int32} {len : Nat} {tx : Nat → Int32} {th : Int32} (h : WLD g M σ τ sn hk n ps len tx th) {c : Nat} (hc : c ≤ 3) (hc0 : c ≠ 0)
    (h1 : Run g yL AL M sz 1 6 (Ret (some (.int (nI c))) M)) (h2 : ∀ M2 sz2, ML g M2 σ sn hk n ps len tx th → Run g y9 A9 M2 sz2 0 0 (RetP (some (.int 0)) (fun M3 => ML g M3 σ sn hk n ps len tx (nI c) ∧ FR M2 M3 96 9))) :
    ∃ (c : Nat) (b : Int32) (P1 : Mem → Prop), c ≤ 3 ∧ Run g yL AL M sz 1 6 (RetP (some (.int (nI c))) P1) ∧ ∀ M1, P1 M1 → (∃ e, M1 96 = some (eO 9 e)) ∧ ∀ sz2, Run g y9 A9 M1 sz2 0 0 (RetP (some (.int b)) (fun M2 => Inv g M2 (nI c) ∧ ∃ o, M2 105 = some (eJ g 1 o) ∧ (c = 0 → o 0 = b.toInt64))) := by
  obtain ⟨w1, w2, w3, o, w4⟩ := h
  refine ⟨c, 0, fun M1 => M1 = M, hc, h1.mono (fun o M1 q => q), fun M1 e => ?_⟩
  subst e
  refine ⟨⟨_, w2.1.choose_spec.1.1⟩, fun sz2 => (h2 _ sz2 w2).mono fun o2 M2 q => ⟨q.1, ⟨σ, τ, sn, hk, n, ps, len, tx, w1.fr (fun k hk => q.2.2 k (by omega)), q.2.1, w3, o, (q.2.2 _ (by omega)).trans w4⟩, o, (q.2.2 _ (by omega)).trans w4, fun e => absurd e hc0⟩⟩
/-- a call that is done -/
theorem OPL.ok {g : GE} {yL y9 : MT} {AL A9 : List Value} {M : Mem} {sz : Nat} {σ τ sn : Nat → Int32} {hk : Bool} {n : Nat} {ps : Nat → Nat → Int32} {len : Nat} {tx : Nat → Int32} {th : Int32} (h : WLD g M σ τ sn hk n ps len tx th)
    {σ2 τ2 sn2 : Nat → Int32} {hk2 : Bool} {n2 : Nat} {ps2 : Nat → Nat → Int32} {len2 : Nat} {tx2 : Nat → Int32} {a : Int32} (hi : INV σ2 τ2 sn2 hk2 n2 ps2 len2 tx2)
    (h1 : Run g yL AL M sz 1 6 (RetP (some (.int 0)) (fun M2 => ∃ M1 o, (CW g M1 σ2 τ2 hk2 n2 ps2 len2 tx2 ∧ FR M M1 0 96) ∧ M1 105 = some (eJ g 1 o) ∧ M2 = mup M1 105 (eJ g 1 (vp_updL o 0 a.toInt64)))))
    (h2 : ∀ M2 sz2, ML g M2 σ sn hk n ps len tx th → Run g y9 A9 M2 sz2 0 0 (RetP (some (.int a)) (fun M3 => ML g M3 σ2 sn2 hk2 n2 ps2 len2 tx2 0 ∧ FR M2 M3 96 9))) :
    ∃ (c : Nat) (b : Int32) (P1 : Mem → Prop), c ≤ 3 ∧ Run g yL AL M sz 1 6 (RetP (some (.int (nI c))) P1) ∧ ∀ M1, P1 M1 → (∃ e, M1 96 = some (eO 9 e)) ∧ ∀ sz2, Run g y9 A9 M1 sz2 0 0 (RetP (some (.int b)) (fun M2 => Inv g M2 (nI c) ∧ ∃ o, M2 105 = some (eJ g 1 o) ∧ (c = 0 → o 0 = b.toInt64))) := by
  obtain ⟨w1, w2, w3, o, w4⟩ := h
  refine ⟨0, a, _, by decide, h1, ?_⟩
  rintro M2 ⟨M1, o1, ⟨c1, c2⟩, c3, rfl⟩
  have hL := w2.fr (M1 := mup M1 105 (eJ g 1 (vp_updL o1 0 a.toInt64))) (fun k k1 k2 => (mup_ne _ _ (by omega)).trans (c2 k (by omega)))
  refine ⟨⟨_, hL.1.choose_spec.1.1⟩, fun sz2 => (h2 _ sz2 hL).mono fun o2 M3 q => ⟨q.1, ⟨σ2, τ2, sn2, hk2, n2, ps2, len2, tx2, c1.fr (fun k hk => (q.2.2 k (by omega)).trans (mup_ne _ _ (by omega))), q.2.1, hi, _, (q.2.2 _ (by omega)).trans (mup_eq _ _ _)⟩, _, (q.2.2 _ (by omega)).trans (mup_eq _ _ _), fun _ => rfl⟩⟩
theorem FR.wide {M M1 : Mem} {b n b2 n2 : Nat} (h : FR M M1 b n) (e : b2 ≤ b ∧ b + n ≤ b2 + n2) : FR M M1 b2 n2 := fun k hk => h k (by omega)
theorem CW.out {g : GE} {M M1 : Mem} {o : Nat → Int64} (h : M 105 = some (eJ g 1 o)) (e : FR M M1 0 96) : ∃ o, M1 105 = some (eJ g 1 o) := ⟨o, (e _ (by omega)).trans h⟩
set_option maxRecDepth 20000 in
theorem x_stick_1 {g : GE} {M : Mem} {sz : Nat} {σ τ : Nat → Int32} {hk : Bool} {n : Nat} {ps : Nat → Nat → Int32} {len : Nat} {tx : Nat → Int32} (hC : CW g M σ τ hk n ps len tx) {a b : Int32} (ha : isP a = false) : Run g m_X8_stick [rf g 0, .int a, .int b] M sz 1 6 (Thr (exN 0) M) := by
  refine Run.of rfl (by decide) (Nat.le_of_ble_eq_true rfl) ?_
  show V g m_X8_stick 0 _ [] _ _ _ _ _
  refine V_iload_n 1 dX8_stick_0 rfl ?_
  refine Ct_X8_62 rfl rfl ⟨Nat.le_of_ble_eq_true rfl, Nat.le_of_ble_eq_true rfl⟩ (r_checkParish_bad ha) rfl (Nat.le_of_ble_eq_true rfl) dX8_stick_1 rfl ?_
  exact ⟨rfl, rfl⟩

set_option maxRecDepth 20000 in
theorem x_stick_2 {g : GE} {M : Mem} {sz : Nat} {σ τ : Nat → Int32} {hk : Bool} {n : Nat} {ps : Nat → Nat → Int32} {len : Nat} {tx : Nat → Int32} (hC : CW g M σ τ hk n ps len tx) {a b : Int32} (ha : isP a = true) (hb : b < 20 ∨ ¬ b ≤ 60) : Run g m_X8_stick [rf g 0, .int a, .int b] M sz 1 6 (Thr (exN 1) M) := by
  refine Run.of rfl (by decide) (Nat.le_of_ble_eq_true rfl) ?_
  show V g m_X8_stick 0 _ [] _ _ _ _ _
  refine V_iload_n 1 dX8_stick_0 rfl ?_
  refine C_X8_62 rfl ⟨Nat.le_of_ble_eq_true rfl, Nat.le_of_ble_eq_true rfl⟩ (r_checkParish_ok ha) rfl (Nat.le_of_ble_eq_true rfl) dX8_stick_1 rfl ?_
  refine V_iload_n 2 dX8_stick_4 rfl ?_
  refine V_bipush (v := 20) dX8_stick_5 (by decide) ?_
  refine V_bipush (v := 60) dX8_stick_7 (by decide) ?_
  refine Ct_X8_66 rfl rfl ⟨Nat.le_of_ble_eq_true rfl, Nat.le_of_ble_eq_true rfl⟩ (r_checkRange_bad hb) rfl (Nat.le_of_ble_eq_true rfl) dX8_stick_9 rfl ?_
  exact ⟨rfl, rfl⟩

set_option maxRecDepth 20000 in
theorem x_stick_ok {g : GE} {M : Mem} {sz : Nat} {σ τ : Nat → Int32} {hk : Bool} {n : Nat} {ps : Nat → Nat → Int32} {len : Nat} {tx : Nat → Int32} (hC : CW g M σ τ hk n ps len tx) (hn : n ≤ 6) {a b : Int32} (i : Nat) (hi : i < 5) (ha : a = nI i) (hb : ¬ b < 20) (hb2 : b ≤ 60) : Run g m_X8_stick [rf g 0, .int a, .int b] M sz 0 0 (RetP (some (.int (σ (20 + i)))) (fun M2 => CW g M2 (upd σ (20 + i) b) (τ) (hk) (pshN n) (pshP n ps σ) (len) (tx) ∧ FR M M2 0 96)) := by
  subst ha
  obtain ⟨p0, y1, y2⟩ := hC.2.1.1
  refine Run.of rfl (by decide) (Nat.le_of_ble_eq_true rfl) ?_
  show V g m_X8_stick 0 _ [] _ _ _ _ _
  refine V_iload_n 1 dX8_stick_0 rfl ?_
  refine C_X8_62 rfl ⟨Nat.le_of_ble_eq_true rfl, Nat.le_of_ble_eq_true rfl⟩ (r_checkParish_ok (isP_nI hi)) rfl (Nat.le_of_ble_eq_true rfl) dX8_stick_1 rfl ?_
  refine V_iload_n 2 dX8_stick_4 rfl ?_
  refine V_bipush (v := 20) dX8_stick_5 (by decide) ?_
  refine V_bipush (v := 60) dX8_stick_7 (by decide) ?_
  refine C_X8_66 rfl ⟨Nat.le_of_ble_eq_true rfl, Nat.le_of_ble_eq_true rfl⟩ (r_checkRange_ok hb hb2) rfl (Nat.le_of_ble_eq_true rfl) dX8_stick_9 rfl ?_
  refine V_aload_n 0 dX8_stick_12 rfl ?_
  refine V_pc (pc2 := 13) rfl ?_
  refine G_X8_22 rfl hC.1 rfl dX8_stick_13 ?_
  refine V_aload_n 0 dX8_stick_16 rfl ?_
  refine G_X8_10 rfl hC.1 rfl dX8_stick_17 ?_
  refine Cp_X8_70 hC.2.2.2.1.choose_spec.1 rfl ⟨Nat.le_of_ble_eq_true rfl, Nat.le_of_ble_eq_true rfl⟩ (r_push hC.2.2.2.1 hn hC.2.1 (by omega)) rfl (Nat.le_of_ble_eq_true rfl) dX8_stick_20 rfl (fun _ q9 => ?_)
  have hC2 := hC.psh q9.1 q9.2
  have hF2 := q9.2
  clear q9
  obtain ⟨p9, y3, y4⟩ := hC2.2.1.1
  refine V_aload_n 0 dX8_stick_23 rfl ?_
  refine G_X8_10 rfl hC2.1 rfl dX8_stick_24 ?_
  refine G_X8_74 rfl y3 rfl dX8_stick_27 ?_
  refine V_iload_n 1 dX8_stick_30 rfl ?_
  refine V_pc (pc2 := 31) rfl ?_
  refine C_X8_77 rfl ⟨Nat.le_of_ble_eq_true rfl, Nat.le_of_ble_eq_true rfl⟩ (r_at hC2.2.1.2.1 i rfl hi (by decide)) rfl (Nat.le_of_ble_eq_true rfl) dX8_stick_31 rfl ?_
  rw [stR_at hi]
  refine V_istore_n (lv2 := [(3, .int _), (0, .ref _), (1, .int _), (2, .int _)]) dX8_stick_34 (Nat.le_of_ble_eq_true rfl) rfl ?_
  refine V_aload_n 1 dX8_stick_35 rfl ?_
  refine G_X8_10 rfl hC2.1 rfl dX8_stick_36 ?_
  refine G_X8_74 rfl y3 rfl dX8_stick_39 ?_
  refine V_iload_n 2 dX8_stick_42 rfl ?_
  refine V_iload_n 3 dX8_stick_43 rfl ?_
  refine C_X8_81 rfl ⟨Nat.le_of_ble_eq_true rfl, Nat.le_of_ble_eq_true rfl⟩ (r_put hC2.2.1.2.1 i rfl hi (by decide)) rfl (Nat.le_of_ble_eq_true rfl) dX8_stick_44 rfl ?_
  refine V_pc (pc2 := 47) rfl ?_
  refine V_iload_n 0 dX8_stick_47 rfl ?_
  refine V_iret (st := []) dX8_stick_48 rfl ?_
  exact ⟨rfl, hC2.now (hC2.2.1.stick hi b) ((FR.refl _ 1 10).put (by omega)), (hF2.wide (by omega)).put (by omega)⟩

set_option maxRecDepth 20000 in
theorem q9_stick_1 {g : GE} {M : Mem} {sz : Nat} {σ sn : Nat → Int32} {hk : Bool} {n : Nat} {ps : Nat → Nat → Int32} {len : Nat} {tx : Nat → Int32} {th : Int32} (hL : ML g M σ sn hk n ps len tx th) {a b : Int32} (ha : isP a = false) : Run g m_X9_stick [rf g 96, .int a, .int b] M sz 0 0 (RetP (some (.int 0)) (fun M2 => ML g M2 (σ) (sn) (hk) (n) (ps) (len) (tx) (1) ∧ FR M M2 96 9)) := by
  obtain ⟨⟨v, hM, v0, v1, v2, v3⟩, ⟨pf, f1, f2⟩, f3, f4, f5⟩ := id hL
  refine Run.of rfl (by decide) (Nat.le_of_ble_eq_true rfl) ?_
  show V g m_X9_stick 0 _ [] _ _ _ _ _
  refine V_aload_n 0 dX9_stick_0 rfl ?_
  refine V_iload_n 1 dX9_stick_1 rfl ?_
  refine C_X9_55 rfl ⟨Nat.le_of_ble_eq_true rfl, Nat.le_of_ble_eq_true rfl⟩ (r9_isParish _) rfl (Nat.le_of_ble_eq_true rfl) dX9_stick_2 rfl ?_
  refine V_if_ne (tgt := 12) dX9_stick_5 (by decide) (fun c5 => absurd (by rw [ha]; rfl) c5) (fun c5 => ?_)
  refine V_iconst (v := 1) dX9_stick_8 rfl ?_
  refine V_goto (tgt := 28) dX9_stick_9 (by decide) ?_
  refine C_X9_111 hM.1 rfl ⟨Nat.le_of_ble_eq_true rfl, Nat.le_of_ble_eq_true rfl⟩ (r9_refused hM 1) rfl (Nat.le_of_ble_eq_true rfl) dX9_stick_28 rfl ?_
  refine V_pc (pc2 := 31) rfl ?_
  refine V_if_eq (tgt := 36) dX9_stick_31 (by decide) (fun c31 => absurd c31 (by decide)) (fun c31 => ?_)
  refine V_iconst (v := 0) dX9_stick_34 rfl ?_
  refine V_iret (st := []) dX9_stick_35 rfl ?_
  refine ⟨rfl, hL.thr hM v0 v1 v2, (FR.refl M 96 9).put (by omega)⟩

set_option maxRecDepth 20000 in
theorem q9_stick_2 {g : GE} {M : Mem} {sz : Nat} {σ sn : Nat → Int32} {hk : Bool} {n : Nat} {ps : Nat → Nat → Int32} {len : Nat} {tx : Nat → Int32} {th : Int32} (hL : ML g M σ sn hk n ps len tx th) {a b : Int32} (ha : isP a = true) (hb : b < 20 ∨ ¬ b ≤ 60) : Run g m_X9_stick [rf g 96, .int a, .int b] M sz 0 0 (RetP (some (.int 0)) (fun M2 => ML g M2 (σ) (sn) (hk) (n) (ps) (len) (tx) (2) ∧ FR M M2 96 9)) := by
  obtain ⟨⟨v, hM, v0, v1, v2, v3⟩, ⟨pf, f1, f2⟩, f3, f4, f5⟩ := id hL
  refine Run.of rfl (by decide) (Nat.le_of_ble_eq_true rfl) ?_
  show V g m_X9_stick 0 _ [] _ _ _ _ _
  refine V_aload_n 0 dX9_stick_0 rfl ?_
  refine V_iload_n 1 dX9_stick_1 rfl ?_
  refine C_X9_55 rfl ⟨Nat.le_of_ble_eq_true rfl, Nat.le_of_ble_eq_true rfl⟩ (r9_isParish _) rfl (Nat.le_of_ble_eq_true rfl) dX9_stick_2 rfl ?_
  refine V_if_ne (tgt := 12) dX9_stick_5 (by decide) (fun c5 => ?_) (fun c5 => absurd c5 (by rw [ha]; decide))
  refine V_iload_n 2 dX9_stick_12 rfl ?_
  refine V_bipush (v := 20) dX9_stick_13 (by decide) ?_
  refine V_bipush (v := 60) dX9_stick_15 (by decide) ?_
  refine V_pc (pc2 := 17) rfl ?_
  refine C_X9_44 rfl ⟨Nat.le_of_ble_eq_true rfl, Nat.le_of_ble_eq_true rfl⟩ (r9_in _ _ _) rfl (Nat.le_of_ble_eq_true rfl) dX9_stick_17 rfl ?_
  refine V_if_eq (tgt := 27) dX9_stick_20 (by decide) (fun c20 => ?_) (fun c20 => absurd (by rw [inI_f hb]; rfl) c20)
  refine V_iconst (v := 2) dX9_stick_27 rfl ?_
  refine C_X9_111 hM.1 rfl ⟨Nat.le_of_ble_eq_true rfl, Nat.le_of_ble_eq_true rfl⟩ (r9_refused hM 2) rfl (Nat.le_of_ble_eq_true rfl) dX9_stick_28 rfl ?_
  refine V_if_eq (tgt := 36) dX9_stick_31 (by decide) (fun c31 => absurd c31 (by decide)) (fun c31 => ?_)
  refine V_iconst (v := 0) dX9_stick_34 rfl ?_
  refine V_iret (st := []) dX9_stick_35 rfl ?_
  refine ⟨rfl, hL.thr hM v0 v1 v2, (FR.refl M 96 9).put (by omega)⟩

set_option maxRecDepth 20000 in
theorem q9_stick_ok {g : GE} {M : Mem} {sz : Nat} {σ sn : Nat → Int32} {hk : Bool} {n : Nat} {ps : Nat → Nat → Int32} {len : Nat} {tx : Nat → Int32} {th : Int32} (hL : ML g M σ sn hk n ps len tx th) (hn : n ≤ 6) {a b : Int32} (i : Nat) (hi : i < 5) (ha : a = nI i) (hb : ¬ b < 20) (hb2 : b ≤ 60) : Run g m_X9_stick [rf g 96, .int a, .int b] M sz 0 0 (RetP (some (.int (σ (20 + i)))) (fun M2 => ML g M2 (upd σ (20 + i) b) (sn) (hk) (pshN n) (pshP n ps σ) (len) (tx) (0) ∧ FR M M2 96 9)) := by
  subst ha
  obtain ⟨⟨v, hM, v0, v1, v2, v3⟩, ⟨pf, f1, f2⟩, f3, f4, f5⟩ := id hL
  refine Run.of rfl (by decide) (Nat.le_of_ble_eq_true rfl) ?_
  show V g m_X9_stick 0 _ [] _ _ _ _ _
  refine V_aload_n 0 dX9_stick_0 rfl ?_
  refine V_iload_n 1 dX9_stick_1 rfl ?_
  refine C_X9_55 rfl ⟨Nat.le_of_ble_eq_true rfl, Nat.le_of_ble_eq_true rfl⟩ (r9_isParish _) rfl (Nat.le_of_ble_eq_true rfl) dX9_stick_2 rfl ?_
  refine V_if_ne (tgt := 12) dX9_stick_5 (by decide) (fun c5 => ?_) (fun c5 => absurd c5 (by rw [isP_nI hi]; decide))
  refine V_iload_n 2 dX9_stick_12 rfl ?_
  refine V_bipush (v := 20) dX9_stick_13 (by decide) ?_
  refine V_bipush (v := 60) dX9_stick_15 (by decide) ?_
  refine V_pc (pc2 := 17) rfl ?_
  refine C_X9_44 rfl ⟨Nat.le_of_ble_eq_true rfl, Nat.le_of_ble_eq_true rfl⟩ (r9_in _ _ _) rfl (Nat.le_of_ble_eq_true rfl) dX9_stick_17 rfl ?_
  refine V_if_eq (tgt := 27) dX9_stick_20 (by decide) (fun c20 => absurd c20 (by rw [inI_t hb hb2]; decide)) (fun c20 => ?_)
  refine V_iconst (v := 0) dX9_stick_23 rfl ?_
  refine V_goto (tgt := 28) dX9_stick_24 (by decide) ?_
  refine C_X9_111 hM.1 rfl ⟨Nat.le_of_ble_eq_true rfl, Nat.le_of_ble_eq_true rfl⟩ (r9_refused hM 0) rfl (Nat.le_of_ble_eq_true rfl) dX9_stick_28 rfl ?_
  refine V_if_eq (tgt := 36) dX9_stick_31 (by decide) (fun c31 => ?_) (fun c31 => absurd (by decide) c31)
  refine V_aload_n 0 dX9_stick_36 rfl ?_
  refine Cp_X9_114 (hM.v _).1 rfl ⟨Nat.le_of_ble_eq_true rfl, Nat.le_of_ble_eq_true rfl⟩ (r9_saves (hM.v _) (show _ = some (eI g 390 pf) from (mup_ne _ _ (by decide)).trans f1) n (show upd v 3 _ 0 = nI n from v0) hn f2) rfl (Nat.le_of_ble_eq_true rfl) dX9_stick_37 rfl (fun _ q9 => ?_)
  have hL2 := hL.sav hM v0 v1 v2 q9
  have hF2 := SV.fr q9
  clear q9
  obtain ⟨⟨w, hW, w0, w1, w2, w3⟩, ⟨pf2, g1, g2⟩, g3, g4, g5⟩ := id hL2
  refine V_pc (pc2 := 40) rfl ?_
  refine V_aload_n 0 dX9_stick_40 rfl ?_
  refine G_X9_7 rfl hW.1 rfl dX9_stick_41 ?_
  refine V_bipush (v := 20) dX9_stick_44 (by decide) ?_
  refine V_iload_n 1 dX9_stick_46 rfl ?_
  refine V_iadd dX9_stick_47 ?_
  refine V_iald hW.2.1 (by rw [show (20 : Int32) = nI 20 from rfl, nI_add]; exact vp_in_nI (n := 20 + i) (by omega) (by decide)) dX9_stick_48 ?_
  refine V_istore_n (lv2 := [(3, .int _), (0, .ref _), (1, .int _), (2, .int _)]) dX9_stick_49 (Nat.le_of_ble_eq_true rfl) rfl ?_
  refine V_aload_n 1 dX9_stick_50 rfl ?_
  refine V_pc (pc2 := 51) rfl ?_
  refine G_X9_7 rfl hW.1 rfl dX9_stick_51 ?_
  refine V_bipush (v := 20) dX9_stick_54 (by decide) ?_
  refine V_iload_n 2 dX9_stick_56 rfl ?_
  refine V_iadd dX9_stick_57 ?_
  refine V_iload_n 3 dX9_stick_58 rfl ?_
  refine V_iast hW.2.1 (by rw [show (20 : Int32) = nI 20 from rfl, nI_add]; exact vp_in_nI (n := 20 + i) (by omega) (by decide)) dX9_stick_59 ?_
  refine V_iload_n 0 dX9_stick_60 rfl ?_
  refine V_iret (st := []) dX9_stick_61 rfl ?_
  rw [show (20 : Int32) = nI 20 from rfl, nI_add, nI_clamp (by omega)]
  exact ⟨rfl, hL2.set _, hF2.put (by omega)⟩

theorem IS.stick {σ : Nat → Int32} (h : IS σ) {i : Nat} (hi : i < 5) {x : Int32} (hx : ¬ x < 20) (hx2 : x ≤ 60) : IS (upd σ (20 + i) x) := by
  obtain ⟨h1, ⟨n, hn, hn2, h2⟩, h3, h4, h5, h6, h7⟩ := h
  refine ⟨h1.upd (by omega), ⟨n, hn, by rw [upd_ne (by omega)]; exact hn2, fun j hj => by rw [upd_ne (by omega), upd_ne (by omega)]; exact h2 j hj⟩, fun j hj => ?_, by rw [upd_ne (by omega)]; exact h4, by rw [upd_ne (by omega)]; exact h5, by rw [upd_ne (by omega)]; exact h6, by rw [upd_ne (by omega), upd_ne (by omega)]; exact h7⟩
  by_cases e : j = i
  · subst e
    rw [upd_at]
    have h0 : ¬ x < 0 := fun hh => hx (Int32.lt_trans hh (by decide))
    obtain ⟨k, hk, rfl⟩ := nI_of h0
    refine ⟨k, ?_, ?_, rfl⟩
    · have := mt (nI_ltI hk (show 20 < 2 ^ 31 by decide)).mpr hx; omega
    · exact (nI_leI hk (show 60 < 2 ^ 31 by decide)).mp hx2
  · rw [upd_ne (by omega)]; exact h3 j hj
theorem op_stick (g : GE) (a b : Int32) : OPL g m_L_stick m_X9_stick [rf g 0, .int a, .int b, rf g 105] [rf g 96, .int a, .int b] := by
  rintro M sz ⟨th, σ, τ, sn, hk, n, ps, len, tx, hW⟩
  obtain ⟨w1, w2, ⟨i1, i2, i3, i4, i5, i6⟩, o, w4⟩ := id hW
  by_cases ha : isP a = true
  · by_cases hb : b < 20 ∨ ¬ b ≤ 60
    · exact OPL.bad hW (c := 2) (by decide) (by decide) (h_stick_2 w1.1 (x_stick_2 w1 ha hb)) (fun M2 sz2 h => q9_stick_2 h ha hb)
    · obtain ⟨i, hi, rfl⟩ := isP_ex ha
      have hb1 : ¬ b < 20 := fun h => hb (Or.inl h)
      have hb2 : b ≤ 60 := Decidable.of_not_not (fun h => hb (Or.inr h))
      exact OPL.ok hW (σ2 := upd σ (20 + i) b) (τ2 := τ) (sn2 := sn) (hk2 := hk) (n2 := pshN n) (ps2 := pshP n ps σ) (len2 := len) (tx2 := tx) ⟨i1.stick hi hb1 hb2, i2, pshN_le i3, IS.psh i3 i4 i1, i5, i6⟩ (h_stick_ok w1.1 (x_stick_ok w1 i3 i hi rfl hb1 hb2) (fun M1 q => CW.out w4 q.2)) (fun M2 sz2 h => q9_stick_ok h i3 i hi rfl hb1 hb2)
  · have ha2 : isP a = false := (Bool.not_eq_true _).mp ha
    exact OPL.bad hW (c := 1) (by decide) (by decide) (h_stick_1 w1.1 (x_stick_1 w1 ha2)) (fun M2 sz2 h => q9_stick_1 h ha2)
