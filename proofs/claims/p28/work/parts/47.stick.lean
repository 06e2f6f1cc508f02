/-! operations: what they share; stick -/
section
variable {g : GE} {M M1 : Mem} {σ sn : Nat → Int32} {hk : Bool} {n : Nat} {ps : Nat → Nat → Int32} {len : Nat} {tx : Nat → Int32} {th : Int32}
theorem SV.fr {v : Nat → Int32} {e : va_E} {n2 : Nat} {ps2 : Nat → Nat → Int32} (q : SV g (mup M 96 e) M1 σ v n2 ps2) : FR M M1 96 9 := fun k hk => (q.2.2 k (by omega) (by omega)).trans (mup_ne _ _ (by omega))
theorem ML.set (h : ML g M σ sn hk n ps len tx th) (σ2 : Nat → Int32) : ML g (mup M 97 (eI g 65 σ2)) σ2 sn hk n ps len tx th := by
  obtain ⟨⟨v, hM, e⟩, ⟨pf, f1, f2⟩, f3, f4, a, b, f5, f6⟩ := h
  exact ⟨⟨v, hM.put _, e⟩, ⟨pf, (mup_ne _ _ (by decide)).trans f1, f2⟩, (mup_ne _ _ (by decide)).trans f3, (mup_ne _ _ (by decide)).trans f4, a, b, (mup_ne _ _ (by decide)).trans f5, (mup_ne _ _ (by decide)).trans f6⟩
/-- both worlds, and the row of one answer -/
def WLD (g : GE) (M : Mem) (σ τ sn : Nat → Int32) (hk : Bool) (n : Nat) (ps : Nat → Nat → Int32) (len : Nat) (tx : Nat → Int32) (th : Int32) : Prop :=
  CW g M σ τ hk n ps len tx ∧ ML g M σ sn hk n ps len tx th ∧ INV σ τ sn hk n ps len tx ∧ ∃ o, M 105 = some (eJ g 1 o)
def Inv (g : GE) (M : Mem) (th : Int32) : Prop := ∃ (σ τ sn : Nat → Int32) (hk : Bool) (n : Nat) (ps : Nat → Nat → Int32) (len : Nat) (tx : Nat → Int32), WLD g M σ τ sn hk n ps len tx th
/-- what an operation keeps, of the class by yL, of the reference by y9 -/
def OPL (g : GE) (yL y9 : MT) (AL A9 : List Value) : Prop := ∀ (M : Mem) (sz : Nat), (∃ th, Inv g M th) → ∃ (c : Nat) (b : Int32) (P1 : Mem → Prop), c ≤ 3 ∧ Run g yL AL M sz 1 6 (RetP (some (.int (nI c))) P1) ∧ ∀ M1, P1 M1 → (∃ e, M1 96 = some (eO 9 e)) ∧ ∀ sz2, Run g y9 A9 M1 sz2 0 0 (RetP (some (.int b)) (fun M2 => Inv g M2 (nI c) ∧ ∃ o, M2 105 = some (eJ g 1 o) ∧ (c = 0 → o 0 = b.toInt64)))
end
/-- a call that is done -/
theorem OPL.ok {g : GE} {yL y9 : MT} {AL A9 : List Value} {M : Mem} {sz : Nat} {σ τ sn : Nat → Int32} {hk : Bool} {n : Nat} {ps : Nat → Nat → Int32} {len : Nat} {tx : Nat → Int32} {th : Int32} (h : WLD g M σ τ sn hk n ps len tx th)
    {σ2 τ2 sn2 : Nat → Int32} {hk2 : Bool} {n2 : Nat} {ps2 : Nat → Nat → Int32} {len2 : Nat} {tx2 : Nat → Int32} {a : Int32} (hi : INV σ2 τ2 sn2 hk2 n2 ps2 len2 tx2)
    (h1 : Run g yL AL M sz 1 6 (RetP (some (.int 0)) (fun M2 => ∃ M1 o, (CW g M1 σ2 τ2 hk2 n2 ps2 len2 tx2 ∧ FR M M1 0 96) ∧ M1 105 = some (eJ g 1 o) ∧ M2 = mup M1 105 (eJ g 1 (vp_updL o 0 a.toInt64)))))
    (h2 : ∀ M2 sz2, ML g M2 σ sn hk n ps len tx th → Run g y9 A9 M2 sz2 0 0 (RetP (some (.int a)) (fun M3 => ML g M3 σ2 sn2 hk2 n2 ps2 len2 tx2 0 ∧ FR M2 M3 96 9))) :
    ∃ (c : Nat) (b : Int32) (P1 : Mem → Prop), c ≤ 3 ∧ Run g yL AL M sz 1 6 (RetP (some (.int (nI c))) P1) ∧ ∀ M1, P1 M1 → (∃ e, M1 96 = some (eO 9 e)) ∧ ∀ sz2, Run g y9 A9 M1 sz2 0 0 (RetP (some (.int b)) (fun M2 => Inv g M2 (nI c) ∧ ∃ o, M2 105 = some (eJ g 1 o) ∧ (c = 0 → o 0 = b.toInt64))) := by
  obtain ⟨w1, w2, w3, o, w4⟩ := h
  refine ⟨0, a, _, by decide, h1, ?_⟩
  rintro M2 ⟨M1, o1, ⟨c1, c2⟩, c3, rfl⟩
  have hL := w2.fr (M1 := mup M1 105 (eJ g 1 (vp_updL o1 0 a.toInt64))) (fun k k1 k2 => (mup_ne _ _ (by omega)).trans (c2 k (by omega)))
  refine ⟨⟨_, hL.1.choose_spec.1.1⟩, fun sz2 => (h2 _ sz2 hL).mono fun o2 M3 q => ⟨q.1, ⟨σ2, τ2, sn2, hk2, n2, ps2, len2, tx2, c1.fr (fun k hk => (q.2.2 k (by omega)).trans (mup_ne _ _ (by omega))), q.2.1, hi, _, (q.2.2 _ (by omega)).trans (mup_eq _ _ _)⟩, _, (q.2.2 _ (by omega)).trans (mup_eq _ _ _), fun _ => rfl⟩⟩
theorem FR.wide {M M1 : Mem} {b n b2 n2 : Nat} (h : FR M M1 b n) (e : b2 ≤ b ∧ b + n ≤ b2 + n2) : FR M M1 b2 n2 := fun k hk => h k (by omega)
set_option maxRecDepth 20000 in
theorem x_stick_1 {g : GE} {M : Mem} {sz : Nat} {σ τ : Nat → Int32} {hk : Bool} {n : Nat} {ps : Nat → Nat → Int32} {len : Nat} {tx : Nat → Int32} (hC : CW g M σ τ hk n ps len tx) {a b : Int32} (ha : isP a = false) : Run g m_X8_stick [rf g 0, .int a, .int b] M sz 1 6 (Thr (exN 0) M) := by
  refine Run.of rfl (by decide) (Nat.le_of_ble_eq_true rfl) ?_
  show V g m_X8_stick 0 _ [] _ _ _ _ _
  refine V_iload_n 1 dX8_stick_0 rfl ?_
  refine Ct_X8_62 rfl rfl ⟨Nat.le_of_ble_eq_true rfl, Nat.le_of_ble_eq_true rfl⟩ (r_checkParish_bad ha) rfl (Nat.le_of_ble_eq_true rfl) dX8_stick_1 rfl ?_
  exact ⟨rfl, rfl⟩
set_option maxRecDepth 20000 in
theorem x_stick_2 {g : GE} {M : Mem} {sz : Nat} {σ τ : Nat → Int32} {hk : Bool} {n : Nat} {ps : Nat → Nat → Int32} {len : Nat} {tx : Nat → Int32} (hC : CW g M σ τ hk n ps len tx) {a b : Int32} (ha : isP a = true) (hb : b < 20 ∨ ¬ b ≤ 60) : Run g m_X8_stick [rf g 0, .int a, .int b] M sz 1 6 (Thr (exN 1) M) := by
  refine Run.of rfl (by decide) (Nat.le_of_ble_eq_true rfl) ?_
  show V g m_X8_stick 0 _ [] _ _ _ _ _
  refine V_iload_n 1 dX8_stick_0 rfl ?_
  refine C_X8_62 rfl ⟨Nat.le_of_ble_eq_true rfl, Nat.le_of_ble_eq_true rfl⟩ (r_checkParish_ok ha) rfl (Nat.le_of_ble_eq_true rfl) dX8_stick_1 rfl ?_
  refine V_iload_n 2 dX8_stick_4 rfl ?_
  refine V_bipush (v := 20) dX8_stick_5 (by decide) ?_
  refine V_bipush (v := 60) dX8_stick_7 (by decide) ?_
  refine Ct_X8_66 rfl rfl ⟨Nat.le_of_ble_eq_true rfl, Nat.le_of_ble_eq_true rfl⟩ (r_checkRange_bad hb) rfl (Nat.le_of_ble_eq_true rfl) dX8_stick_9 rfl ?_
  exact ⟨rfl, rfl⟩
set_option maxRecDepth 20000 in
theorem x_stick_ok {g : GE} {M : Mem} {sz : Nat} {σ τ : Nat → Int32} {hk : Bool} {n : Nat} {ps : Nat → Nat → Int32} {len : Nat} {tx : Nat → Int32} (hC : CW g M σ τ hk n ps len tx) (hn : n ≤ 6) {a b : Int32} (i : Nat) (hi : i < 5) (ha : a = nI i) (hb : ¬ b < 20) (hb2 : b ≤ 60) : Run g m_X8_stick [rf g 0, .int a, .int b] M sz 0 0 (RetP (some (.int (σ (20 + i)))) (fun M2 => CW g M2 (upd σ (20 + i) b) (τ) (hk) (pshN n) (pshP n ps σ) (len) (tx) ∧ FR M M2 0 96)) := by
  subst ha
  obtain ⟨p0, y1, y2⟩ := hC.2.1.1
  refine Run.of rfl (by decide) (Nat.le_of_ble_eq_true rfl) ?_
  show V g m_X8_stick 0 _ [] _ _ _ _ _
  refine V_iload_n 1 dX8_stick_0 rfl ?_
  refine C_X8_62 rfl ⟨Nat.le_of_ble_eq_true rfl, Nat.le_of_ble_eq_true rfl⟩ (r_checkParish_ok (isP_nI hi)) rfl (Nat.le_of_ble_eq_true rfl) dX8_stick_1 rfl ?_
  refine V_iload_n 2 dX8_stick_4 rfl ?_
  refine V_bipush (v := 20) dX8_stick_5 (by decide) ?_
  refine V_bipush (v := 60) dX8_stick_7 (by decide) ?_
  refine C_X8_66 rfl ⟨Nat.le_of_ble_eq_true rfl, Nat.le_of_ble_eq_true rfl⟩ (r_checkRange_ok hb hb2) rfl (Nat.le_of_ble_eq_true rfl) dX8_stick_9 rfl ?_
  refine V_aload_n 0 dX8_stick_12 rfl ?_
  refine V_pc (pc2 := 13) rfl ?_
  refine G_X8_22 rfl hC.1 rfl dX8_stick_13 ?_
  refine V_aload_n 0 dX8_stick_16 rfl ?_
  refine G_X8_10 rfl hC.1 rfl dX8_stick_17 ?_
  refine Cp_X8_70 hC.2.2.2.1.choose_spec.1 rfl ⟨Nat.le_of_ble_eq_true rfl, Nat.le_of_ble_eq_true rfl⟩ (r_push hC.2.2.2.1 hn hC.2.1 (by omega)) rfl (Nat.le_of_ble_eq_true rfl) dX8_stick_20 rfl (fun _ q9 => ?_)
  have hC2 := hC.psh q9.1 q9.2
  have hF2 := q9.2
  clear q9
  obtain ⟨p9, y3, y4⟩ := hC2.2.1.1
  refine V_aload_n 0 dX8_stick_23 rfl ?_
  refine G_X8_10 rfl hC2.1 rfl dX8_stick_24 ?_
  refine G_X8_74 rfl y3 rfl dX8_stick_27 ?_
  refine V_iload_n 1 dX8_stick_30 rfl ?_
  refine V_pc (pc2 := 31) rfl ?_
  refine C_X8_77 rfl ⟨Nat.le_of_ble_eq_true rfl, Nat.le_of_ble_eq_true rfl⟩ (r_at hC2.2.1.2.1 i rfl hi (by decide)) rfl (Nat.le_of_ble_eq_true rfl) dX8_stick_31 rfl ?_
  rw [stR_at hi]
  refine V_istore_n (lv2 := [(3, .int _), (0, .ref _), (1, .int _), (2, .int _)]) dX8_stick_34 (Nat.le_of_ble_eq_true rfl) rfl ?_
  refine V_aload_n 1 dX8_stick_35 rfl ?_
  refine G_X8_10 rfl hC2.1 rfl dX8_stick_36 ?_
  refine G_X8_74 rfl y3 rfl dX8_stick_39 ?_
  refine V_iload_n 2 dX8_stick_42 rfl ?_
  refine V_iload_n 3 dX8_stick_43 rfl ?_
  refine C_X8_81 rfl ⟨Nat.le_of_ble_eq_true rfl, Nat.le_of_ble_eq_true rfl⟩ (r_put hC2.2.1.2.1 i rfl hi (by decide)) rfl (Nat.le_of_ble_eq_true rfl) dX8_stick_44 rfl ?_
  refine V_pc (pc2 := 47) rfl ?_
  refine V_iload_n 0 dX8_stick_47 rfl ?_
  refine V_iret (st := []) dX8_stick_48 rfl ?_
  exact ⟨rfl, hC2.now (hC2.2.1.stick hi b) ((FR.refl _ 1 10).put (by omega)), (hF2.wide (by omega)).put (by omega)⟩
theorem IS.stick {σ : Nat → Int32} (h : IS σ) {i : Nat} (hi : i < 5) {x : Int32} (hx : ¬ x < 20) (hx2 : x ≤ 60) : IS (upd σ (20 + i) x) := by
  obtain ⟨h1, ⟨n, hn, hn2, h2⟩, h3, h4, h5, h6, h7⟩ := h
  refine ⟨h1.upd (by omega), ⟨n, hn, by rw [upd_ne (by omega)]; exact hn2, fun j hj => by rw [upd_ne (by omega), upd_ne (by omega)]; exact h2 j hj⟩, fun j hj => ?_, by rw [upd_ne (by omega)]; exact h4, by rw [upd_ne (by omega)]; exact h5, by rw [upd_ne (by omega)]; exact h6, by rw [upd_ne (by omega), upd_ne (by omega)]; exact h7⟩
  by_cases e : j = i
  · subst e
    rw [upd_at]
    have h0 : ¬ x < 0 := fun hh => hx (Int32.lt_trans hh (by decide))
    obtain ⟨k, hk, rfl⟩ := nI_of h0
    refine ⟨k, ?_, ?_, rfl⟩
    · have := mt (nI_ltI hk (show 20 < 2 ^ 31 by decide)).mpr hx; omega
    · exact (nI_leI hk (show 60 < 2 ^ 31 by decide)).mp hx2
  · rw [upd_ne (by omega)]; exact h3 j hj
