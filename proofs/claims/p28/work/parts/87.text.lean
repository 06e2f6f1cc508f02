/-! the law's acts: works as a text -/
abbrev TxS : Type := Nat × (Nat → Int32)
def apS (s : TxS) (c : Int32) : Int32 × TxS := if c < 33 ∨ ¬ c ≤ 126 then (-2, s) else if s.1 < 60 then (nI (s.1 + 1), (s.1 + 1, upd s.2 s.1 c)) else (-3, s)
def TB (s : TxS) : Prop := s.1 ≤ 60 ∧ ∀ k, k < s.1 → ∃ c : Nat, 33 ≤ c ∧ c ≤ 126 ∧ s.2 k = nI c
theorem apS_TB {s : TxS} (h : TB s) (c : Int32) : TB (apS s c).2 := by
  unfold apS
  split
  · exact h
  · rename_i hc
    split
    · rename_i hl
      refine ⟨by show s.1 + 1 ≤ 60; omega, fun k hk => ?_⟩
      have hk' : k < s.1 + 1 := hk
      show ∃ c' : Nat, 33 ≤ c' ∧ c' ≤ 126 ∧ upd s.2 s.1 c k = nI c'
      by_cases e : k = s.1
      · subst e
        rw [upd_at]
        obtain ⟨x, h1, h2, h3⟩ := nI_rng (x := c) (l := 33) (h := 126) (fun h => hc (Or.inl h)) (Decidable.of_not_not (fun h => hc (Or.inr h))) (by decide) (by decide)
        exact ⟨x, h1, h2, h3⟩
      · rw [upd_ne e]; exact h.2 k (by omega)
    · exact h
/-- the land holds the buffer s -/
def CT (g : GE) (M : Mem) (S : LndS) (s : TxS) : Prop := ∃ tx, CS g M S s.1 tx ∧ ∀ k, k < s.1 → tx k = s.2 k
theorem ap_run {g : GE} {M : Mem} {sz : Nat} {S : LndS} {s : TxS} (h : CT g M S s) (hs : TB s) (c : Int32) : ∃ c0, c0 ≤ 1 ∧ Run g m_L_append [rf g 0, .int c] M sz c0 (6 * c0) (RetP (some (.int (apS s c).1)) (fun M2 => CT g M2 S (apS s c).2 ∧ FR M M2 0 96)) := by
  obtain ⟨tx, w, e⟩ := id h
  by_cases hc : c < 33 ∨ ¬ c ≤ 126
  · rw [show apS s c = (-2, s) from if_pos hc]
    exact ⟨1, Nat.le_refl _, (h_append_x1 w.1 (x_append_1 w hc)).mono fun o M2 q => ⟨q.1, by rw [q.2]; exact ⟨h, FR.refl M 0 96⟩⟩⟩
  · have hc1 : ¬ c < 33 := fun h => hc (Or.inl h)
    have hc2 : c ≤ 126 := Decidable.of_not_not (fun h => hc (Or.inr h))
    by_cases hl : s.1 < 60
    · rw [show apS s c = (nI (s.1 + 1), (s.1 + 1, upd s.2 s.1 c)) from (if_neg hc).trans (if_pos hl)]
      refine ⟨0, Nat.zero_le _, (h_append_ok w.1 (x_append_ok w hc1 hc2 hl)).mono fun o M2 q => ⟨q.1, ⟨upd tx s.1 c, q.2.1, fun k hk => ?_⟩, q.2.2⟩⟩
      have hk' : k < s.1 + 1 := hk
      show upd tx s.1 c k = upd s.2 s.1 c k
      by_cases e2 : k = s.1
      · subst e2; rw [upd_at, upd_at]
      · rw [upd_ne e2, upd_ne e2]; exact e k (by omega)
    · rw [show apS s c = (-3, s) from (if_neg hc).trans (if_neg hl)]
      have h60 : s.1 = 60 := by have := hs.1; omega
      exact ⟨1, Nat.le_refl _, (h_append_x2 w.1 (x_append_2 w hc1 hc2 h60)).mono fun o M2 q => ⟨q.1, by rw [q.2]; exact ⟨h, FR.refl M 0 96⟩⟩⟩
theorem V_ap {g : GE} {M0 M : Mem} {sz kc ks : Nat} {Q : Ou → Mem → Prop} {S : LndS} {s : TxS} {c : Int32} {pc : Nat} {lv : List (Nat × Value)} {st : List Value} (hC : CT g M S s) (hs : TB s) (hF : FR M0 M 0 96) (d : decode (mC m_L_acts) pc = .ok (.invokestatic 110, 3)) (hst : (st.map fun v => v.category).sum ≤ 8) (kk : ∀ M1 sz1, CT g M1 S (apS s c).2 → FR M0 M1 0 96 → V g m_L_acts (pc + 3) lv (.int (apS s c).1 :: st) M1 sz1 kc ks Q) : V g m_L_acts pc lv (.int c :: rf g 0 :: st) M sz (kc + 1) (ks + 6) Q := by
  obtain ⟨c0, h0, hr⟩ := ap_run (sz := sz) hC hs c
  refine V.less (kc := kc + c0) (ks := ks + 6 * c0) ?_ (by omega) (by omega)
  exact Cq_L_110 rfl ⟨Nat.le_of_ble_eq_true rfl, Nat.le_of_ble_eq_true rfl⟩ hr rfl hst d rfl (fun M1 h => kk M1 _ h.1 (hF.trans h.2 (by omega)))
def p1 (k : Nat) (s : TxS) : Int32 × TxS := if k = 0 then (0, s) else apS s 59
def p2 (z : Int32) (s : Int32 × TxS) : Int32 × TxS := if irm z 8 = 0 then apS s.2 45 else if irm z 8 = 1 then apS s.2 98 else if 5 ≤ irm z 8 then s else apS s.2 115
def p3 (z : Int32) (s : Int32 × TxS) : Int32 × TxS := apS s.2 (48 + irm (z / 8) 5)
def p4 (z : Int32) (s : Int32 × TxS) : Int32 × TxS := if irm z 8 = 1 then apS s.2 61 else apS s.2 62
def p5 (z : Int32) (s : Int32 × TxS) : Int32 × TxS := if irm z 8 = 1 then apS s.2 (49 + irm (z / 16) 9) else apS s.2 (48 + irm (z / 16) 5)
def p6 (z c : Int32) (s : Int32 × TxS) : Int32 × TxS := if irm z 8 ≤ 4 then s else apS s.2 c
theorem p1_TB {k : Nat} {s : TxS} (h : TB s) : TB (p1 k s).2 := by unfold p1; split; exact h; exact apS_TB h _
theorem p2_TB {z : Int32} {s : Int32 × TxS} (h : TB s.2) : TB (p2 z s).2 := by unfold p2; (repeat' split) <;> first | exact apS_TB h _ | exact h
theorem p3_TB {z : Int32} {s : Int32 × TxS} (h : TB s.2) : TB (p3 z s).2 := apS_TB h _
theorem p4_TB {z : Int32} {s : Int32 × TxS} (h : TB s.2) : TB (p4 z s).2 := by unfold p4; split <;> exact apS_TB h _
theorem p5_TB {z : Int32} {s : Int32 × TxS} (h : TB s.2) : TB (p5 z s).2 := by unfold p5; split <;> exact apS_TB h _
theorem p6_TB {z c : Int32} {s : Int32 × TxS} (h : TB s.2) : TB (p6 z c s).2 := by unfold p6; split; exact h; exact apS_TB h _
def part (z : Int32) (k : Nat) (s : TxS) : Int32 × TxS := p6 z (49 + irm (z / 128) 3) (p6 z 47 (p6 z (49 + irm (z / 32) 3) (p6 z 61 (p5 z (p4 z (p3 z (p2 z (p1 k s))))))))
theorem part_TB {z : Int32} {k : Nat} {s : TxS} (h : TB s) : TB (part z k s).2 := p6_TB (p6_TB (p6_TB (p6_TB (p5_TB (p4_TB (p3_TB (p2_TB (p1_TB h))))))))
def zA (c : Int32) (k : Nat) : Int32 := (yA c / 4) >>> ((5 * nI k) &&& 31)
def acc (c : Int32) : Nat → Int32 × TxS
  | 0 => (0, (0, fun _ => 0))
  | k + 1 => part (zA c k) k (acc c k).2
theorem acc_TB (c : Int32) : ∀ k, TB (acc c k).2
  | 0 => ⟨Nat.zero_le _, fun k hk => absurd hk (Nat.not_lt_zero k)⟩
  | k + 1 => part_TB (acc_TB c k)
set_option maxRecDepth 20000 in
theorem sg0 {g : GE} {M : Mem} {sz kc ks : Nat} {Q : Ou → Mem → Prop} {c : Int32} {k : Nat} {x : Int32} (hk : ¬ 1 + irm (yA c) 4 ≤ nI k) (kk : V g m_L_acts 320 [(8, .int (irm (zA c k) 8)), (7, .int (zA c k)), (6, .int (nI k)), (5, .int x), (4, .int (tA c)), (3, .int (fA c)), (2, .int (yA c)), (1, .int c), (0, rf g 0)] [] M sz kc ks Q) : V g m_L_acts 293 [(6, .int (nI k)), (5, .int x), (4, .int (tA c)), (3, .int (fA c)), (2, .int (yA c)), (1, .int c), (0, rf g 0)] [] M sz kc ks Q := by
  refine V_iload 0 dL_acts_293 rfl ?_
  refine V_iconst (v := 1) dL_acts_295 rfl ?_
  refine V_iload_n 4 dL_acts_296 rfl ?_
  refine V_iconst (v := 4) dL_acts_297 rfl ?_
  refine V_irem dL_acts_298 (by decide) ?_
  refine V_iadd dL_acts_299 ?_
  refine V_icmp_ge (tgt := 555) dL_acts_300 (by decide) (fun c300 => absurd c300 hk) (fun c300 => ?_)
  refine V_pc (pc2 := 303) rfl ?_
  refine V_iload_n 4 dL_acts_303 rfl ?_
  refine V_iconst (v := 4) dL_acts_304 rfl ?_
  refine V_idiv dL_acts_305 (by decide) ?_
  refine V_iconst (v := 5) dL_acts_306 rfl ?_
  refine V_iload 0 dL_acts_307 rfl ?_
  refine V_imul dL_acts_309 ?_
  refine V_ishr dL_acts_310 ?_
  refine V_istore (lv2 := [(7, .int _), (6, .int _), (5, .int _), (4, .int _), (3, .int _), (2, .int _), (1, .int _), (0, .ref _)]) dL_acts_311 (Nat.le_of_ble_eq_true rfl) rfl ?_
  refine V_pc (pc2 := 313) rfl ?_
  refine V_iload 0 dL_acts_313 rfl ?_
  refine V_bipush (v := 8) dL_acts_315 (by decide) ?_
  refine V_irem dL_acts_317 (by decide) ?_
  refine V_istore (lv2 := [(8, .int _), (7, .int _), (6, .int _), (5, .int _), (4, .int _), (3, .int _), (2, .int _), (1, .int _), (0, .ref _)]) dL_acts_318 (Nat.le_of_ble_eq_true rfl) rfl ?_
  refine V_lv (lv2 := [(8, .int _), (7, .int _), (6, .int _), (5, .int _), (4, .int _), (3, .int _), (2, .int _), (1, .int _), (0, .ref _)]) [0, 1, 2, 3, 4, 5, 6, 7, 8] rfl ?_
  exact kk

set_option maxRecDepth 20000 in
theorem sg1a {g : GE} {M0 M : Mem} {sz kc ks : Nat} {Q : Ou → Mem → Prop} {S : LndS} {c : Int32} {k : Nat} {z x : Int32} (s : TxS) (hk : k = 0) (hC : CT g M S s) (hs : TB s) (hF : FR M0 M 0 96) (kk : ∀ M1 sz1, CT g M1 S (p1 k s).2 → FR M0 M1 0 96 → V g m_L_acts 337 [(8, .int (irm z 8)), (7, .int z), (6, .int (nI k)), (5, .int (p1 k s).1), (4, .int (tA c)), (3, .int (fA c)), (2, .int (yA c)), (1, .int c), (0, rf g 0)] [] M1 sz1 kc ks Q) : V g m_L_acts 320 [(8, .int (irm z 8)), (7, .int z), (6, .int (nI k)), (5, .int x), (4, .int (tA c)), (3, .int (fA c)), (2, .int (yA c)), (1, .int c), (0, rf g 0)] [] M sz (kc + 1) (ks + 6) Q := by
  have e : p1 k s = (0, s) := if_pos hk
  rw [e] at kk
  refine V_iload 2 dL_acts_320 rfl ?_
  refine V_if_le (tgt := 334) dL_acts_322 (by decide) (fun c322 => ?_) (fun c322 => absurd (by rw [hk]; decide) c322)
  refine V_iconst (v := 0) dL_acts_334 rfl ?_
  refine V_istore (lv2 := [(5, .int _), (8, .int _), (7, .int _), (6, .int _), (4, .int _), (3, .int _), (2, .int _), (1, .int _), (0, .ref _)]) dL_acts_335 (Nat.le_of_ble_eq_true rfl) rfl ?_
  refine V_lv (lv2 := [(8, .int _), (7, .int _), (6, .int _), (5, .int _), (4, .int _), (3, .int _), (2, .int _), (1, .int _), (0, .ref _)]) [1, 2, 3, 0, 4, 5, 6, 7, 8] rfl ?_
  exact V.less (kk _ _ hC hF) (by omega) (by omega)

set_option maxRecDepth 20000 in
theorem sg1b {g : GE} {M0 M : Mem} {sz kc ks : Nat} {Q : Ou → Mem → Prop} {S : LndS} {c : Int32} {k : Nat} {z x : Int32} (s : TxS) (hk : ¬ k = 0) (h0 : ¬ nI k ≤ 0) (hC : CT g M S s) (hs : TB s) (hF : FR M0 M 0 96) (kk : ∀ M1 sz1, CT g M1 S (p1 k s).2 → FR M0 M1 0 96 → V g m_L_acts 337 [(8, .int (irm z 8)), (7, .int z), (6, .int (nI k)), (5, .int (p1 k s).1), (4, .int (tA c)), (3, .int (fA c)), (2, .int (yA c)), (1, .int c), (0, rf g 0)] [] M1 sz1 kc ks Q) : V g m_L_acts 320 [(8, .int (irm z 8)), (7, .int z), (6, .int (nI k)), (5, .int x), (4, .int (tA c)), (3, .int (fA c)), (2, .int (yA c)), (1, .int c), (0, rf g 0)] [] M sz (kc + 1) (ks + 6) Q := by
  have e : p1 k s = apS s 59 := if_neg hk
  rw [e] at kk
  refine V_iload 2 dL_acts_320 rfl ?_
  refine V_if_le (tgt := 334) dL_acts_322 (by decide) (fun c322 => absurd c322 h0) (fun c322 => ?_)
  refine V_aload_n 8 dL_acts_325 rfl ?_
  refine V_bipush (v := 59) dL_acts_326 (by decide) ?_
  refine V_ap hC hs hF dL_acts_328 (Nat.le_of_ble_eq_true rfl) (fun M1 sz1 hC hF => ?_)
  refine V_goto (tgt := 335) dL_acts_331 (by decide) ?_
  refine V_istore (lv2 := [(5, .int _), (8, .int _), (7, .int _), (6, .int _), (4, .int _), (3, .int _), (2, .int _), (1, .int _), (0, .ref _)]) dL_acts_335 (Nat.le_of_ble_eq_true rfl) rfl ?_
  refine V_lv (lv2 := [(8, .int _), (7, .int _), (6, .int _), (5, .int _), (4, .int _), (3, .int _), (2, .int _), (1, .int _), (0, .ref _)]) [1, 2, 3, 0, 4, 5, 6, 7, 8] rfl ?_
  exact kk _ _ hC hF

set_option maxRecDepth 20000 in
theorem sg2a {g : GE} {M0 M : Mem} {sz kc ks : Nat} {Q : Ou → Mem → Prop} {S : LndS} {c : Int32} {k : Nat} {z : Int32} (s : Int32 × TxS) (h0 : irm z 8 = 0) (hC : CT g M S s.2) (hs : TB s.2) (hF : FR M0 M 0 96) (kk : ∀ M1 sz1, CT g M1 S (p2 z s).2 → FR M0 M1 0 96 → V g m_L_acts 385 [(8, .int (irm z 8)), (7, .int z), (6, .int (nI k)), (5, .int (p2 z s).1), (4, .int (tA c)), (3, .int (fA c)), (2, .int (yA c)), (1, .int c), (0, rf g 0)] [] M1 sz1 kc ks Q) : V g m_L_acts 337 [(8, .int (irm z 8)), (7, .int z), (6, .int (nI k)), (5, .int s.1), (4, .int (tA c)), (3, .int (fA c)), (2, .int (yA c)), (1, .int c), (0, rf g 0)] [] M sz (kc + 1) (ks + 6) Q := by
  have e : p2 z s = apS s.2 45 := if_pos h0
  rw [e] at kk
  refine V_iload 0 dL_acts_337 rfl ?_
  refine V_if_ne (tgt := 351) dL_acts_339 (by decide) (fun c339 => absurd h0 c339) (fun c339 => ?_)
  refine V_aload_n 8 dL_acts_342 rfl ?_
  refine V_bipush (v := 45) dL_acts_343 (by decide) ?_
  refine V_ap hC hs hF dL_acts_345 (Nat.le_of_ble_eq_true rfl) (fun M1 sz1 hC hF => ?_)
  refine V_goto (tgt := 383) dL_acts_348 (by decide) ?_
  refine V_istore (lv2 := [(5, .int _), (8, .int _), (7, .int _), (6, .int _), (4, .int _), (3, .int _), (2, .int _), (1, .int _), (0, .ref _)]) dL_acts_383 (Nat.le_of_ble_eq_true rfl) rfl ?_
  refine V_lv (lv2 := [(8, .int _), (7, .int _), (6, .int _), (5, .int _), (4, .int _), (3, .int _), (2, .int _), (1, .int _), (0, .ref _)]) [1, 2, 3, 0, 4, 5, 6, 7, 8] rfl ?_
  exact kk _ _ hC hF

set_option maxRecDepth 20000 in
theorem sg2b {g : GE} {M0 M : Mem} {sz kc ks : Nat} {Q : Ou → Mem → Prop} {S : LndS} {c : Int32} {k : Nat} {z : Int32} (s : Int32 × TxS) (h0 : ¬ irm z 8 = 0) (h1 : irm z 8 = 1) (hC : CT g M S s.2) (hs : TB s.2) (hF : FR M0 M 0 96) (kk : ∀ M1 sz1, CT g M1 S (p2 z s).2 → FR M0 M1 0 96 → V g m_L_acts 385 [(8, .int (irm z 8)), (7, .int z), (6, .int (nI k)), (5, .int (p2 z s).1), (4, .int (tA c)), (3, .int (fA c)), (2, .int (yA c)), (1, .int c), (0, rf g 0)] [] M1 sz1 kc ks Q) : V g m_L_acts 337 [(8, .int (irm z 8)), (7, .int z), (6, .int (nI k)), (5, .int s.1), (4, .int (tA c)), (3, .int (fA c)), (2, .int (yA c)), (1, .int c), (0, rf g 0)] [] M sz (kc + 1) (ks + 6) Q := by
  have e : p2 z s = apS s.2 98 := (if_neg h0).trans (if_pos h1)
  rw [e] at kk
  refine V_iload 0 dL_acts_337 rfl ?_
  refine V_if_ne (tgt := 351) dL_acts_339 (by decide) (fun c339 => ?_) (fun c339 => absurd c339 h0)
  refine V_iload 0 dL_acts_351 rfl ?_
  refine V_iconst (v := 1) dL_acts_353 rfl ?_
  refine V_icmp_ne (tgt := 366) dL_acts_354 (by decide) (fun c354 => absurd h1 c354) (fun c354 => ?_)
  refine V_aload_n 8 dL_acts_357 rfl ?_
  refine V_bipush (v := 98) dL_acts_358 (by decide) ?_
  refine V_pc (pc2 := 360) rfl ?_
  refine V_ap hC hs hF dL_acts_360 (Nat.le_of_ble_eq_true rfl) (fun M1 sz1 hC hF => ?_)
  refine V_goto (tgt := 383) dL_acts_363 (by decide) ?_
  refine V_istore (lv2 := [(5, .int _), (8, .int _), (7, .int _), (6, .int _), (4, .int _), (3, .int _), (2, .int _), (1, .int _), (0, .ref _)]) dL_acts_383 (Nat.le_of_ble_eq_true rfl) rfl ?_
  refine V_lv (lv2 := [(8, .int _), (7, .int _), (6, .int _), (5, .int _), (4, .int _), (3, .int _), (2, .int _), (1, .int _), (0, .ref _)]) [1, 2, 3, 0, 4, 5, 6, 7, 8] rfl ?_
  exact kk _ _ hC hF

set_option maxRecDepth 20000 in
theorem sg2c {g : GE} {M0 M : Mem} {sz kc ks : Nat} {Q : Ou → Mem → Prop} {S : LndS} {c : Int32} {k : Nat} {z : Int32} (s : Int32 × TxS) (h0 : ¬ irm z 8 = 0) (h1 : ¬ irm z 8 = 1) (h5 : 5 ≤ irm z 8) (hC : CT g M S s.2) (hs : TB s.2) (hF : FR M0 M 0 96) (kk : ∀ M1 sz1, CT g M1 S (p2 z s).2 → FR M0 M1 0 96 → V g m_L_acts 385 [(8, .int (irm z 8)), (7, .int z), (6, .int (nI k)), (5, .int (p2 z s).1), (4, .int (tA c)), (3, .int (fA c)), (2, .int (yA c)), (1, .int c), (0, rf g 0)] [] M1 sz1 kc ks Q) : V g m_L_acts 337 [(8, .int (irm z 8)), (7, .int z), (6, .int (nI k)), (5, .int s.1), (4, .int (tA c)), (3, .int (fA c)), (2, .int (yA c)), (1, .int c), (0, rf g 0)] [] M sz (kc + 1) (ks + 6) Q := by
  have e : p2 z s = s := (if_neg h0).trans ((if_neg h1).trans (if_pos h5))
  rw [e] at kk
  refine V_iload 0 dL_acts_337 rfl ?_
  refine V_if_ne (tgt := 351) dL_acts_339 (by decide) (fun c339 => ?_) (fun c339 => absurd c339 h0)
  refine V_iload 0 dL_acts_351 rfl ?_
  refine V_iconst (v := 1) dL_acts_353 rfl ?_
  refine V_icmp_ne (tgt := 366) dL_acts_354 (by decide) (fun c354 => ?_) (fun c354 => absurd c354 h1)
  refine V_iload 0 dL_acts_366 rfl ?_
  refine V_iconst (v := 5) dL_acts_368 rfl ?_
  refine V_pc (pc2 := 369) rfl ?_
  refine V_icmp_ge (tgt := 381) dL_acts_369 (by decide) (fun c369 => ?_) (fun c369 => absurd h5 c369)
  refine V_iload 3 dL_acts_381 rfl ?_
  refine V_istore (lv2 := [(5, .int _), (8, .int _), (7, .int _), (6, .int _), (4, .int _), (3, .int _), (2, .int _), (1, .int _), (0, .ref _)]) dL_acts_383 (Nat.le_of_ble_eq_true rfl) rfl ?_
  refine V_lv (lv2 := [(8, .int _), (7, .int _), (6, .int _), (5, .int _), (4, .int _), (3, .int _), (2, .int _), (1, .int _), (0, .ref _)]) [1, 2, 3, 0, 4, 5, 6, 7, 8] rfl ?_
  exact V.less (kk _ _ hC hF) (by omega) (by omega)

set_option maxRecDepth 20000 in
theorem sg2d {g : GE} {M0 M : Mem} {sz kc ks : Nat} {Q : Ou → Mem → Prop} {S : LndS} {c : Int32} {k : Nat} {z : Int32} (s : Int32 × TxS) (h0 : ¬ irm z 8 = 0) (h1 : ¬ irm z 8 = 1) (h5 : ¬ 5 ≤ irm z 8) (hC : CT g M S s.2) (hs : TB s.2) (hF : FR M0 M 0 96) (kk : ∀ M1 sz1, CT g M1 S (p2 z s).2 → FR M0 M1 0 96 → V g m_L_acts 385 [(8, .int (irm z 8)), (7, .int z), (6, .int (nI k)), (5, .int (p2 z s).1), (4, .int (tA c)), (3, .int (fA c)), (2, .int (yA c)), (1, .int c), (0, rf g 0)] [] M1 sz1 kc ks Q) : V g m_L_acts 337 [(8, .int (irm z 8)), (7, .int z), (6, .int (nI k)), (5, .int s.1), (4, .int (tA c)), (3, .int (fA c)), (2, .int (yA c)), (1, .int c), (0, rf g 0)] [] M sz (kc + 1) (ks + 6) Q := by
  have e : p2 z s = apS s.2 115 := (if_neg h0).trans ((if_neg h1).trans (if_neg h5))
  rw [e] at kk
  refine V_iload 0 dL_acts_337 rfl ?_
  refine V_if_ne (tgt := 351) dL_acts_339 (by decide) (fun c339 => ?_) (fun c339 => absurd c339 h0)
  refine V_iload 0 dL_acts_351 rfl ?_
  refine V_iconst (v := 1) dL_acts_353 rfl ?_
  refine V_icmp_ne (tgt := 366) dL_acts_354 (by decide) (fun c354 => ?_) (fun c354 => absurd c354 h1)
  refine V_iload 0 dL_acts_366 rfl ?_
  refine V_iconst (v := 5) dL_acts_368 rfl ?_
  refine V_pc (pc2 := 369) rfl ?_
  refine V_icmp_ge (tgt := 381) dL_acts_369 (by decide) (fun c369 => absurd c369 h5) (fun c369 => ?_)
  refine V_aload_n 8 dL_acts_372 rfl ?_
  refine V_bipush (v := 115) dL_acts_373 (by decide) ?_
  refine V_ap hC hs hF dL_acts_375 (Nat.le_of_ble_eq_true rfl) (fun M1 sz1 hC hF => ?_)
  refine V_goto (tgt := 383) dL_acts_378 (by decide) ?_
  refine V_istore (lv2 := [(5, .int _), (8, .int _), (7, .int _), (6, .int _), (4, .int _), (3, .int _), (2, .int _), (1, .int _), (0, .ref _)]) dL_acts_383 (Nat.le_of_ble_eq_true rfl) rfl ?_
  refine V_lv (lv2 := [(8, .int _), (7, .int _), (6, .int _), (5, .int _), (4, .int _), (3, .int _), (2, .int _), (1, .int _), (0, .ref _)]) [1, 2, 3, 0, 4, 5, 6, 7, 8] rfl ?_
  exact kk _ _ hC hF

set_option maxRecDepth 20000 in
theorem sg3 {g : GE} {M0 M : Mem} {sz kc ks : Nat} {Q : Ou → Mem → Prop} {S : LndS} {c : Int32} {k : Nat} {z x : Int32} (s : Int32 × TxS) (hC : CT g M S s.2) (hs : TB s.2) (hF : FR M0 M 0 96) (kk : ∀ M1 sz1, CT g M1 S (p3 z s).2 → FR M0 M1 0 96 → V g m_L_acts 401 [(8, .int (irm z 8)), (7, .int z), (6, .int (nI k)), (5, .int (p3 z s).1), (4, .int (tA c)), (3, .int (fA c)), (2, .int (yA c)), (1, .int c), (0, rf g 0)] [] M1 sz1 kc ks Q) : V g m_L_acts 385 [(8, .int (irm z 8)), (7, .int z), (6, .int (nI k)), (5, .int x), (4, .int (tA c)), (3, .int (fA c)), (2, .int (yA c)), (1, .int c), (0, rf g 0)] [] M sz (kc + 1) (ks + 6) Q := by
  refine V_aload_n 8 dL_acts_385 rfl ?_
  refine V_bipush (v := 48) dL_acts_386 (by decide) ?_
  refine V_iload 1 dL_acts_388 rfl ?_
  refine V_bipush (v := 8) dL_acts_390 (by decide) ?_
  refine V_idiv dL_acts_392 (by decide) ?_
  refine V_iconst (v := 5) dL_acts_393 rfl ?_
  refine V_irem dL_acts_394 (by decide) ?_
  refine V_pc (pc2 := 395) rfl ?_
  refine V_iadd dL_acts_395 ?_
  refine V_ap hC hs hF dL_acts_396 (Nat.le_of_ble_eq_true rfl) (fun M1 sz1 hC hF => ?_)
  refine V_istore (lv2 := [(5, .int _), (8, .int _), (7, .int _), (6, .int _), (4, .int _), (3, .int _), (2, .int _), (1, .int _), (0, .ref _)]) dL_acts_399 (Nat.le_of_ble_eq_true rfl) rfl ?_
  refine V_lv (lv2 := [(8, .int _), (7, .int _), (6, .int _), (5, .int _), (4, .int _), (3, .int _), (2, .int _), (1, .int _), (0, .ref _)]) [1, 2, 3, 0, 4, 5, 6, 7, 8] rfl ?_
  exact kk _ _ hC hF

set_option maxRecDepth 20000 in
theorem sg4a {g : GE} {M0 M : Mem} {sz kc ks : Nat} {Q : Ou → Mem → Prop} {S : LndS} {c : Int32} {k : Nat} {z x : Int32} (s : Int32 × TxS) (h1 : irm z 8 = 1) (hC : CT g M S s.2) (hs : TB s.2) (hF : FR M0 M 0 96) (kk : ∀ M1 sz1, CT g M1 S (p4 z s).2 → FR M0 M1 0 96 → V g m_L_acts 420 [(8, .int (irm z 8)), (7, .int z), (6, .int (nI k)), (5, .int (p4 z s).1), (4, .int (tA c)), (3, .int (fA c)), (2, .int (yA c)), (1, .int c), (0, rf g 0)] [] M1 sz1 kc ks Q) : V g m_L_acts 401 [(8, .int (irm z 8)), (7, .int z), (6, .int (nI k)), (5, .int x), (4, .int (tA c)), (3, .int (fA c)), (2, .int (yA c)), (1, .int c), (0, rf g 0)] [] M sz (kc + 1) (ks + 6) Q := by
  have e : p4 z s = apS s.2 61 := if_pos h1
  rw [e] at kk
  refine V_aload_n 8 dL_acts_401 rfl ?_
  refine V_iload 0 dL_acts_402 rfl ?_
  refine V_iconst (v := 1) dL_acts_404 rfl ?_
  refine V_icmp_ne (tgt := 413) dL_acts_405 (by decide) (fun c405 => absurd h1 c405) (fun c405 => ?_)
  refine V_bipush (v := 61) dL_acts_408 (by decide) ?_
  refine V_goto (tgt := 415) dL_acts_410 (by decide) ?_
  refine V_ap hC hs hF dL_acts_415 (Nat.le_of_ble_eq_true rfl) (fun M1 sz1 hC hF => ?_)
  refine V_pc (pc2 := 418) rfl ?_
  refine V_istore (lv2 := [(5, .int _), (8, .int _), (7, .int _), (6, .int _), (4, .int _), (3, .int _), (2, .int _), (1, .int _), (0, .ref _)]) dL_acts_418 (Nat.le_of_ble_eq_true rfl) rfl ?_
  refine V_lv (lv2 := [(8, .int _), (7, .int _), (6, .int _), (5, .int _), (4, .int _), (3, .int _), (2, .int _), (1, .int _), (0, .ref _)]) [1, 2, 3, 0, 4, 5, 6, 7, 8] rfl ?_
  exact kk _ _ hC hF

set_option maxRecDepth 20000 in
theorem sg4b {g : GE} {M0 M : Mem} {sz kc ks : Nat} {Q : Ou → Mem → Prop} {S : LndS} {c : Int32} {k : Nat} {z x : Int32} (s : Int32 × TxS) (h1 : ¬ irm z 8 = 1) (hC : CT g M S s.2) (hs : TB s.2) (hF : FR M0 M 0 96) (kk : ∀ M1 sz1, CT g M1 S (p4 z s).2 → FR M0 M1 0 96 → V g m_L_acts 420 [(8, .int (irm z 8)), (7, .int z), (6, .int (nI k)), (5, .int (p4 z s).1), (4, .int (tA c)), (3, .int (fA c)), (2, .int (yA c)), (1, .int c), (0, rf g 0)] [] M1 sz1 kc ks Q) : V g m_L_acts 401 [(8, .int (irm z 8)), (7, .int z), (6, .int (nI k)), (5, .int x), (4, .int (tA c)), (3, .int (fA c)), (2, .int (yA c)), (1, .int c), (0, rf g 0)] [] M sz (kc + 1) (ks + 6) Q := by
  have e : p4 z s = apS s.2 62 := if_neg h1
  rw [e] at kk
  refine V_aload_n 8 dL_acts_401 rfl ?_
  refine V_iload 0 dL_acts_402 rfl ?_
  refine V_iconst (v := 1) dL_acts_404 rfl ?_
  refine V_icmp_ne (tgt := 413) dL_acts_405 (by decide) (fun c405 => ?_) (fun c405 => absurd c405 h1)
  refine V_bipush (v := 62) dL_acts_413 (by decide) ?_
  refine V_ap hC hs hF dL_acts_415 (Nat.le_of_ble_eq_true rfl) (fun M1 sz1 hC hF => ?_)
  refine V_istore (lv2 := [(5, .int _), (8, .int _), (7, .int _), (6, .int _), (4, .int _), (3, .int _), (2, .int _), (1, .int _), (0, .ref _)]) dL_acts_418 (Nat.le_of_ble_eq_true rfl) rfl ?_
  refine V_lv (lv2 := [(8, .int _), (7, .int _), (6, .int _), (5, .int _), (4, .int _), (3, .int _), (2, .int _), (1, .int _), (0, .ref _)]) [1, 2, 3, 0, 4, 5, 6, 7, 8] rfl ?_
  exact kk _ _ hC hF

set_option maxRecDepth 20000 in
theorem sg5a {g : GE} {M0 M : Mem} {sz kc ks : Nat} {Q : Ou → Mem → Prop} {S : LndS} {c : Int32} {k : Nat} {z x : Int32} (s : Int32 × TxS) (h1 : irm z 8 = 1) (hC : CT g M S s.2) (hs : TB s.2) (hF : FR M0 M 0 96) (kk : ∀ M1 sz1, CT g M1 S (p5 z s).2 → FR M0 M1 0 96 → V g m_L_acts 456 [(8, .int (irm z 8)), (7, .int z), (6, .int (nI k)), (5, .int (p5 z s).1), (4, .int (tA c)), (3, .int (fA c)), (2, .int (yA c)), (1, .int c), (0, rf g 0)] [] M1 sz1 kc ks Q) : V g m_L_acts 420 [(8, .int (irm z 8)), (7, .int z), (6, .int (nI k)), (5, .int x), (4, .int (tA c)), (3, .int (fA c)), (2, .int (yA c)), (1, .int c), (0, rf g 0)] [] M sz (kc + 1) (ks + 6) Q := by
  have e : p5 z s = apS s.2 (49 + irm (z / 16) 9) := if_pos h1
  rw [e] at kk
  refine V_aload_n 8 dL_acts_420 rfl ?_
  refine V_iload 0 dL_acts_421 rfl ?_
  refine V_iconst (v := 1) dL_acts_423 rfl ?_
  refine V_icmp_ne (tgt := 441) dL_acts_424 (by decide) (fun c424 => absurd h1 c424) (fun c424 => ?_)
  refine V_bipush (v := 49) dL_acts_427 (by decide) ?_
  refine V_iload 1 dL_acts_429 rfl ?_
  refine V_bipush (v := 16) dL_acts_431 (by decide) ?_
  refine V_pc (pc2 := 433) rfl ?_
  refine V_idiv dL_acts_433 (by decide) ?_
  refine V_bipush (v := 9) dL_acts_434 (by decide) ?_
  refine V_irem dL_acts_436 (by decide) ?_
  refine V_iadd dL_acts_437 ?_
  refine V_goto (tgt := 451) dL_acts_438 (by decide) ?_
  refine V_ap hC hs hF dL_acts_451 (Nat.le_of_ble_eq_true rfl) (fun M1 sz1 hC hF => ?_)
  refine V_istore (lv2 := [(5, .int _), (8, .int _), (7, .int _), (6, .int _), (4, .int _), (3, .int _), (2, .int _), (1, .int _), (0, .ref _)]) dL_acts_454 (Nat.le_of_ble_eq_true rfl) rfl ?_
  refine V_lv (lv2 := [(8, .int _), (7, .int _), (6, .int _), (5, .int _), (4, .int _), (3, .int _), (2, .int _), (1, .int _), (0, .ref _)]) [1, 2, 3, 0, 4, 5, 6, 7, 8] rfl ?_
  exact kk _ _ hC hF

set_option maxRecDepth 20000 in
theorem sg5b {g : GE} {M0 M : Mem} {sz kc ks : Nat} {Q : Ou → Mem → Prop} {S : LndS} {c : Int32} {k : Nat} {z x : Int32} (s : Int32 × TxS) (h1 : ¬ irm z 8 = 1) (hC : CT g M S s.2) (hs : TB s.2) (hF : FR M0 M 0 96) (kk : ∀ M1 sz1, CT g M1 S (p5 z s).2 → FR M0 M1 0 96 → V g m_L_acts 456 [(8, .int (irm z 8)), (7, .int z), (6, .int (nI k)), (5, .int (p5 z s).1), (4, .int (tA c)), (3, .int (fA c)), (2, .int (yA c)), (1, .int c), (0, rf g 0)] [] M1 sz1 kc ks Q) : V g m_L_acts 420 [(8, .int (irm z 8)), (7, .int z), (6, .int (nI k)), (5, .int x), (4, .int (tA c)), (3, .int (fA c)), (2, .int (yA c)), (1, .int c), (0, rf g 0)] [] M sz (kc + 1) (ks + 6) Q := by
  have e : p5 z s = apS s.2 (48 + irm (z / 16) 5) := if_neg h1
  rw [e] at kk
  refine V_aload_n 8 dL_acts_420 rfl ?_
  refine V_iload 0 dL_acts_421 rfl ?_
  refine V_iconst (v := 1) dL_acts_423 rfl ?_
  refine V_icmp_ne (tgt := 441) dL_acts_424 (by decide) (fun c424 => ?_) (fun c424 => absurd c424 h1)
  refine V_bipush (v := 48) dL_acts_441 (by decide) ?_
  refine V_iload 1 dL_acts_443 rfl ?_
  refine V_bipush (v := 16) dL_acts_445 (by decide) ?_
  refine V_pc (pc2 := 447) rfl ?_
  refine V_idiv dL_acts_447 (by decide) ?_
  refine V_iconst (v := 5) dL_acts_448 rfl ?_
  refine V_irem dL_acts_449 (by decide) ?_
  refine V_iadd dL_acts_450 ?_
  refine V_ap hC hs hF dL_acts_451 (Nat.le_of_ble_eq_true rfl) (fun M1 sz1 hC hF => ?_)
  refine V_istore (lv2 := [(5, .int _), (8, .int _), (7, .int _), (6, .int _), (4, .int _), (3, .int _), (2, .int _), (1, .int _), (0, .ref _)]) dL_acts_454 (Nat.le_of_ble_eq_true rfl) rfl ?_
  refine V_lv (lv2 := [(8, .int _), (7, .int _), (6, .int _), (5, .int _), (4, .int _), (3, .int _), (2, .int _), (1, .int _), (0, .ref _)]) [1, 2, 3, 0, 4, 5, 6, 7, 8] rfl ?_
  exact kk _ _ hC hF

set_option maxRecDepth 20000 in
theorem sg60a {g : GE} {M0 M : Mem} {sz kc ks : Nat} {Q : Ou → Mem → Prop} {S : LndS} {c : Int32} {k : Nat} {z : Int32} (s : Int32 × TxS) (h4 : irm z 8 ≤ 4) (hC : CT g M S s.2) (hs : TB s.2) (hF : FR M0 M 0 96) (kk : ∀ M1 sz1, CT g M1 S (p6 z 61 s).2 → FR M0 M1 0 96 → V g m_L_acts 475 [(8, .int (irm z 8)), (7, .int z), (6, .int (nI k)), (5, .int (p6 z 61 s).1), (4, .int (tA c)), (3, .int (fA c)), (2, .int (yA c)), (1, .int c), (0, rf g 0)] [] M1 sz1 kc ks Q) : V g m_L_acts 456 [(8, .int (irm z 8)), (7, .int z), (6, .int (nI k)), (5, .int s.1), (4, .int (tA c)), (3, .int (fA c)), (2, .int (yA c)), (1, .int c), (0, rf g 0)] [] M sz (kc + 1) (ks + 6) Q := by
  have e : p6 z 61 s = s := if_pos h4
  rw [e] at kk
  refine V_iload 0 dL_acts_456 rfl ?_
  refine V_iconst (v := 4) dL_acts_458 rfl ?_
  refine V_icmp_le (tgt := 471) dL_acts_459 (by decide) (fun c459 => ?_) (fun c459 => absurd h4 c459)
  refine V_iload 3 dL_acts_471 rfl ?_
  refine V_istore (lv2 := [(5, .int _), (8, .int _), (7, .int _), (6, .int _), (4, .int _), (3, .int _), (2, .int _), (1, .int _), (0, .ref _)]) dL_acts_473 (Nat.le_of_ble_eq_true rfl) rfl ?_
  refine V_lv (lv2 := [(8, .int _), (7, .int _), (6, .int _), (5, .int _), (4, .int _), (3, .int _), (2, .int _), (1, .int _), (0, .ref _)]) [1, 2, 3, 0, 4, 5, 6, 7, 8] rfl ?_
  exact V.less (kk _ _ hC hF) (by omega) (by omega)

set_option maxRecDepth 20000 in
theorem sg60b {g : GE} {M0 M : Mem} {sz kc ks : Nat} {Q : Ou → Mem → Prop} {S : LndS} {c : Int32} {k : Nat} {z : Int32} (s : Int32 × TxS) (h4 : ¬ irm z 8 ≤ 4) (hC : CT g M S s.2) (hs : TB s.2) (hF : FR M0 M 0 96) (kk : ∀ M1 sz1, CT g M1 S (p6 z 61 s).2 → FR M0 M1 0 96 → V g m_L_acts 475 [(8, .int (irm z 8)), (7, .int z), (6, .int (nI k)), (5, .int (p6 z 61 s).1), (4, .int (tA c)), (3, .int (fA c)), (2, .int (yA c)), (1, .int c), (0, rf g 0)] [] M1 sz1 kc ks Q) : V g m_L_acts 456 [(8, .int (irm z 8)), (7, .int z), (6, .int (nI k)), (5, .int s.1), (4, .int (tA c)), (3, .int (fA c)), (2, .int (yA c)), (1, .int c), (0, rf g 0)] [] M sz (kc + 1) (ks + 6) Q := by
  have e : p6 z 61 s = apS s.2 61 := if_neg h4
  rw [e] at kk
  refine V_iload 0 dL_acts_456 rfl ?_
  refine V_iconst (v := 4) dL_acts_458 rfl ?_
  refine V_icmp_le (tgt := 471) dL_acts_459 (by decide) (fun c459 => absurd c459 h4) (fun c459 => ?_)
  refine V_aload_n 8 dL_acts_462 rfl ?_
  refine V_bipush (v := 61) dL_acts_463 (by decide) ?_
  refine V_ap hC hs hF dL_acts_465 (Nat.le_of_ble_eq_true rfl) (fun M1 sz1 hC hF => ?_)
  refine V_goto (tgt := 473) dL_acts_468 (by decide) ?_
  refine V_pc (pc2 := 473) rfl ?_
  refine V_istore (lv2 := [(5, .int _), (8, .int _), (7, .int _), (6, .int _), (4, .int _), (3, .int _), (2, .int _), (1, .int _), (0, .ref _)]) dL_acts_473 (Nat.le_of_ble_eq_true rfl) rfl ?_
  refine V_lv (lv2 := [(8, .int _), (7, .int _), (6, .int _), (5, .int _), (4, .int _), (3, .int _), (2, .int _), (1, .int _), (0, .ref _)]) [1, 2, 3, 0, 4, 5, 6, 7, 8] rfl ?_
  exact kk _ _ hC hF

set_option maxRecDepth 20000 in
theorem sg61a {g : GE} {M0 M : Mem} {sz kc ks : Nat} {Q : Ou → Mem → Prop} {S : LndS} {c : Int32} {k : Nat} {z : Int32} (s : Int32 × TxS) (h4 : irm z 8 ≤ 4) (hC : CT g M S s.2) (hs : TB s.2) (hF : FR M0 M 0 96) (kk : ∀ M1 sz1, CT g M1 S (p6 z (49 + irm (z / 32) 3) s).2 → FR M0 M1 0 96 → V g m_L_acts 502 [(8, .int (irm z 8)), (7, .int z), (6, .int (nI k)), (5, .int (p6 z (49 + irm (z / 32) 3) s).1), (4, .int (tA c)), (3, .int (fA c)), (2, .int (yA c)), (1, .int c), (0, rf g 0)] [] M1 sz1 kc ks Q) : V g m_L_acts 475 [(8, .int (irm z 8)), (7, .int z), (6, .int (nI k)), (5, .int s.1), (4, .int (tA c)), (3, .int (fA c)), (2, .int (yA c)), (1, .int c), (0, rf g 0)] [] M sz (kc + 1) (ks + 6) Q := by
  have e : p6 z (49 + irm (z / 32) 3) s = s := if_pos h4
  rw [e] at kk
  refine V_iload 0 dL_acts_475 rfl ?_
  refine V_iconst (v := 4) dL_acts_477 rfl ?_
  refine V_icmp_le (tgt := 498) dL_acts_478 (by decide) (fun c478 => ?_) (fun c478 => absurd h4 c478)
  refine V_iload 3 dL_acts_498 rfl ?_
  refine V_istore (lv2 := [(5, .int _), (8, .int _), (7, .int _), (6, .int _), (4, .int _), (3, .int _), (2, .int _), (1, .int _), (0, .ref _)]) dL_acts_500 (Nat.le_of_ble_eq_true rfl) rfl ?_
  refine V_lv (lv2 := [(8, .int _), (7, .int _), (6, .int _), (5, .int _), (4, .int _), (3, .int _), (2, .int _), (1, .int _), (0, .ref _)]) [1, 2, 3, 0, 4, 5, 6, 7, 8] rfl ?_
  exact V.less (kk _ _ hC hF) (by omega) (by omega)

set_option maxRecDepth 20000 in
theorem sg61b {g : GE} {M0 M : Mem} {sz kc ks : Nat} {Q : Ou → Mem → Prop} {S : LndS} {c : Int32} {k : Nat} {z : Int32} (s : Int32 × TxS) (h4 : ¬ irm z 8 ≤ 4) (hC : CT g M S s.2) (hs : TB s.2) (hF : FR M0 M 0 96) (kk : ∀ M1 sz1, CT g M1 S (p6 z (49 + irm (z / 32) 3) s).2 → FR M0 M1 0 96 → V g m_L_acts 502 [(8, .int (irm z 8)), (7, .int z), (6, .int (nI k)), (5, .int (p6 z (49 + irm (z / 32) 3) s).1), (4, .int (tA c)), (3, .int (fA c)), (2, .int (yA c)), (1, .int c), (0, rf g 0)] [] M1 sz1 kc ks Q) : V g m_L_acts 475 [(8, .int (irm z 8)), (7, .int z), (6, .int (nI k)), (5, .int s.1), (4, .int (tA c)), (3, .int (fA c)), (2, .int (yA c)), (1, .int c), (0, rf g 0)] [] M sz (kc + 1) (ks + 6) Q := by
  have e : p6 z (49 + irm (z / 32) 3) s = apS s.2 (49 + irm (z / 32) 3) := if_neg h4
  rw [e] at kk
  refine V_iload 0 dL_acts_475 rfl ?_
  refine V_iconst (v := 4) dL_acts_477 rfl ?_
  refine V_icmp_le (tgt := 498) dL_acts_478 (by decide) (fun c478 => absurd c478 h4) (fun c478 => ?_)
  refine V_aload_n 8 dL_acts_481 rfl ?_
  refine V_bipush (v := 49) dL_acts_482 (by decide) ?_
  refine V_iload 1 dL_acts_484 rfl ?_
  refine V_bipush (v := 32) dL_acts_486 (by decide) ?_
  refine V_pc (pc2 := 488) rfl ?_
  refine V_idiv dL_acts_488 (by decide) ?_
  refine V_iconst (v := 3) dL_acts_489 rfl ?_
  refine V_irem dL_acts_490 (by decide) ?_
  refine V_iadd dL_acts_491 ?_
  refine V_ap hC hs hF dL_acts_492 (Nat.le_of_ble_eq_true rfl) (fun M1 sz1 hC hF => ?_)
  refine V_goto (tgt := 500) dL_acts_495 (by decide) ?_
  refine V_istore (lv2 := [(5, .int _), (8, .int _), (7, .int _), (6, .int _), (4, .int _), (3, .int _), (2, .int _), (1, .int _), (0, .ref _)]) dL_acts_500 (Nat.le_of_ble_eq_true rfl) rfl ?_
  refine V_lv (lv2 := [(8, .int _), (7, .int _), (6, .int _), (5, .int _), (4, .int _), (3, .int _), (2, .int _), (1, .int _), (0, .ref _)]) [1, 2, 3, 0, 4, 5, 6, 7, 8] rfl ?_
  exact kk _ _ hC hF

set_option maxRecDepth 20000 in
theorem sg62a {g : GE} {M0 M : Mem} {sz kc ks : Nat} {Q : Ou → Mem → Prop} {S : LndS} {c : Int32} {k : Nat} {z : Int32} (s : Int32 × TxS) (h4 : irm z 8 ≤ 4) (hC : CT g M S s.2) (hs : TB s.2) (hF : FR M0 M 0 96) (kk : ∀ M1 sz1, CT g M1 S (p6 z 47 s).2 → FR M0 M1 0 96 → V g m_L_acts 521 [(8, .int (irm z 8)), (7, .int z), (6, .int (nI k)), (5, .int (p6 z 47 s).1), (4, .int (tA c)), (3, .int (fA c)), (2, .int (yA c)), (1, .int c), (0, rf g 0)] [] M1 sz1 kc ks Q) : V g m_L_acts 502 [(8, .int (irm z 8)), (7, .int z), (6, .int (nI k)), (5, .int s.1), (4, .int (tA c)), (3, .int (fA c)), (2, .int (yA c)), (1, .int c), (0, rf g 0)] [] M sz (kc + 1) (ks + 6) Q := by
  have e : p6 z 47 s = s := if_pos h4
  rw [e] at kk
  refine V_iload 0 dL_acts_502 rfl ?_
  refine V_iconst (v := 4) dL_acts_504 rfl ?_
  refine V_icmp_le (tgt := 517) dL_acts_505 (by decide) (fun c505 => ?_) (fun c505 => absurd h4 c505)
  refine V_iload 3 dL_acts_517 rfl ?_
  refine V_istore (lv2 := [(5, .int _), (8, .int _), (7, .int _), (6, .int _), (4, .int _), (3, .int _), (2, .int _), (1, .int _), (0, .ref _)]) dL_acts_519 (Nat.le_of_ble_eq_true rfl) rfl ?_
  refine V_lv (lv2 := [(8, .int _), (7, .int _), (6, .int _), (5, .int _), (4, .int _), (3, .int _), (2, .int _), (1, .int _), (0, .ref _)]) [1, 2, 3, 0, 4, 5, 6, 7, 8] rfl ?_
  exact V.less (kk _ _ hC hF) (by omega) (by omega)

set_option maxRecDepth 20000 in
theorem sg62b {g : GE} {M0 M : Mem} {sz kc ks : Nat} {Q : Ou → Mem → Prop} {S : LndS} {c : Int32} {k : Nat} {z : Int32} (s : Int32 × TxS) (h4 : ¬ irm z 8 ≤ 4) (hC : CT g M S s.2) (hs : TB s.2) (hF : FR M0 M 0 96) (kk : ∀ M1 sz1, CT g M1 S (p6 z 47 s).2 → FR M0 M1 0 96 → V g m_L_acts 521 [(8, .int (irm z 8)), (7, .int z), (6, .int (nI k)), (5, .int (p6 z 47 s).1), (4, .int (tA c)), (3, .int (fA c)), (2, .int (yA c)), (1, .int c), (0, rf g 0)] [] M1 sz1 kc ks Q) : V g m_L_acts 502 [(8, .int (irm z 8)), (7, .int z), (6, .int (nI k)), (5, .int s.1), (4, .int (tA c)), (3, .int (fA c)), (2, .int (yA c)), (1, .int c), (0, rf g 0)] [] M sz (kc + 1) (ks + 6) Q := by
  have e : p6 z 47 s = apS s.2 47 := if_neg h4
  rw [e] at kk
  refine V_iload 0 dL_acts_502 rfl ?_
  refine V_iconst (v := 4) dL_acts_504 rfl ?_
  refine V_icmp_le (tgt := 517) dL_acts_505 (by decide) (fun c505 => absurd c505 h4) (fun c505 => ?_)
  refine V_aload_n 8 dL_acts_508 rfl ?_
  refine V_bipush (v := 47) dL_acts_509 (by decide) ?_
  refine V_ap hC hs hF dL_acts_511 (Nat.le_of_ble_eq_true rfl) (fun M1 sz1 hC hF => ?_)
  refine V_goto (tgt := 519) dL_acts_514 (by decide) ?_
  refine V_pc (pc2 := 519) rfl ?_
  refine V_istore (lv2 := [(5, .int _), (8, .int _), (7, .int _), (6, .int _), (4, .int _), (3, .int _), (2, .int _), (1, .int _), (0, .ref _)]) dL_acts_519 (Nat.le_of_ble_eq_true rfl) rfl ?_
  refine V_lv (lv2 := [(8, .int _), (7, .int _), (6, .int _), (5, .int _), (4, .int _), (3, .int _), (2, .int _), (1, .int _), (0, .ref _)]) [1, 2, 3, 0, 4, 5, 6, 7, 8] rfl ?_
  exact kk _ _ hC hF

set_option maxRecDepth 20000 in
theorem sg63a {g : GE} {M0 M : Mem} {sz kc ks : Nat} {Q : Ou → Mem → Prop} {S : LndS} {c : Int32} {k : Nat} {z : Int32} (s : Int32 × TxS) (h4 : irm z 8 ≤ 4) (hC : CT g M S s.2) (hs : TB s.2) (hF : FR M0 M 0 96) (kk : ∀ M1 sz1, CT g M1 S (p6 z (49 + irm (z / 128) 3) s).2 → FR M0 M1 0 96 → V g m_L_acts 549 [(8, .int (irm z 8)), (7, .int z), (6, .int (nI k)), (5, .int (p6 z (49 + irm (z / 128) 3) s).1), (4, .int (tA c)), (3, .int (fA c)), (2, .int (yA c)), (1, .int c), (0, rf g 0)] [] M1 sz1 kc ks Q) : V g m_L_acts 521 [(8, .int (irm z 8)), (7, .int z), (6, .int (nI k)), (5, .int s.1), (4, .int (tA c)), (3, .int (fA c)), (2, .int (yA c)), (1, .int c), (0, rf g 0)] [] M sz (kc + 1) (ks + 6) Q := by
  have e : p6 z (49 + irm (z / 128) 3) s = s := if_pos h4
  rw [e] at kk
  refine V_iload 0 dL_acts_521 rfl ?_
  refine V_iconst (v := 4) dL_acts_523 rfl ?_
  refine V_icmp_le (tgt := 545) dL_acts_524 (by decide) (fun c524 => ?_) (fun c524 => absurd h4 c524)
  refine V_iload 3 dL_acts_545 rfl ?_
  refine V_istore (lv2 := [(5, .int _), (8, .int _), (7, .int _), (6, .int _), (4, .int _), (3, .int _), (2, .int _), (1, .int _), (0, .ref _)]) dL_acts_547 (Nat.le_of_ble_eq_true rfl) rfl ?_
  refine V_lv (lv2 := [(8, .int _), (7, .int _), (6, .int _), (5, .int _), (4, .int _), (3, .int _), (2, .int _), (1, .int _), (0, .ref _)]) [1, 2, 3, 0, 4, 5, 6, 7, 8] rfl ?_
  exact V.less (kk _ _ hC hF) (by omega) (by omega)

set_option maxRecDepth 20000 in
theorem sg63b {g : GE} {M0 M : Mem} {sz kc ks : Nat} {Q : Ou → Mem → Prop} {S : LndS} {c : Int32} {k : Nat} {z : Int32} (s : Int32 × TxS) (h4 : ¬ irm z 8 ≤ 4) (hC : CT g M S s.2) (hs : TB s.2) (hF : FR M0 M 0 96) (kk : ∀ M1 sz1, CT g M1 S (p6 z (49 + irm (z / 128) 3) s).2 → FR M0 M1 0 96 → V g m_L_acts 549 [(8, .int (irm z 8)), (7, .int z), (6, .int (nI k)), (5, .int (p6 z (49 + irm (z / 128) 3) s).1), (4, .int (tA c)), (3, .int (fA c)), (2, .int (yA c)), (1, .int c), (0, rf g 0)] [] M1 sz1 kc ks Q) : V g m_L_acts 521 [(8, .int (irm z 8)), (7, .int z), (6, .int (nI k)), (5, .int s.1), (4, .int (tA c)), (3, .int (fA c)), (2, .int (yA c)), (1, .int c), (0, rf g 0)] [] M sz (kc + 1) (ks + 6) Q := by
  have e : p6 z (49 + irm (z / 128) 3) s = apS s.2 (49 + irm (z / 128) 3) := if_neg h4
  rw [e] at kk
  refine V_iload 0 dL_acts_521 rfl ?_
  refine V_iconst (v := 4) dL_acts_523 rfl ?_
  refine V_icmp_le (tgt := 545) dL_acts_524 (by decide) (fun c524 => absurd c524 h4) (fun c524 => ?_)
  refine V_aload_n 8 dL_acts_527 rfl ?_
  refine V_bipush (v := 49) dL_acts_528 (by decide) ?_
  refine V_iload 1 dL_acts_530 rfl ?_
  refine V_sipush (v := 128) dL_acts_532 (by decide) ?_
  refine V_pc (pc2 := 535) rfl ?_
  refine V_idiv dL_acts_535 (by decide) ?_
  refine V_iconst (v := 3) dL_acts_536 rfl ?_
  refine V_irem dL_acts_537 (by decide) ?_
  refine V_iadd dL_acts_538 ?_
  refine V_ap hC hs hF dL_acts_539 (Nat.le_of_ble_eq_true rfl) (fun M1 sz1 hC hF => ?_)
  refine V_goto (tgt := 547) dL_acts_542 (by decide) ?_
  refine V_istore (lv2 := [(5, .int _), (8, .int _), (7, .int _), (6, .int _), (4, .int _), (3, .int _), (2, .int _), (1, .int _), (0, .ref _)]) dL_acts_547 (Nat.le_of_ble_eq_true rfl) rfl ?_
  refine V_lv (lv2 := [(8, .int _), (7, .int _), (6, .int _), (5, .int _), (4, .int _), (3, .int _), (2, .int _), (1, .int _), (0, .ref _)]) [1, 2, 3, 0, 4, 5, 6, 7, 8] rfl ?_
  exact kk _ _ hC hF

set_option maxRecDepth 20000 in
theorem sg7 {g : GE} {M : Mem} {sz kc ks : Nat} {Q : Ou → Mem → Prop} {c : Int32} {k : Nat} {z x : Int32} (kk : V g m_L_acts 293 [(6, .int (nI (k + 1))), (5, .int x), (4, .int (tA c)), (3, .int (fA c)), (2, .int (yA c)), (1, .int c), (0, rf g 0)] [] M sz kc ks Q) : V g m_L_acts 549 [(8, .int (irm z 8)), (7, .int z), (6, .int (nI k)), (5, .int x), (4, .int (tA c)), (3, .int (fA c)), (2, .int (yA c)), (1, .int c), (0, rf g 0)] [] M sz kc ks Q := by
  refine V_iinc (v := _ + 1) (lv2 := [(6, .int _), (8, .int _), (7, .int _), (5, .int _), (4, .int _), (3, .int _), (2, .int _), (1, .int _), (0, .ref _)]) 2 dL_acts_549 rfl rfl (Nat.le_of_ble_eq_true rfl) rfl ?_
  refine V_goto (tgt := 293) dL_acts_552 (by decide) ?_
  refine V_lv (lv2 := [(6, .int _), (5, .int _), (4, .int _), (3, .int _), (2, .int _), (1, .int _), (0, .ref _)]) [0, 3, 4, 5, 6, 7, 8] rfl ?_
  rw [nI_1]
  exact kk

theorem sg1 {g : GE} {M0 M : Mem} {sz kc ks : Nat} {Q : Ou → Mem → Prop} {S : LndS} {c : Int32} {k : Nat} {z x : Int32} (s : TxS) (hk4 : k < 4) (hC : CT g M S s) (hs : TB s) (hF : FR M0 M 0 96) (kk : ∀ M1 sz1, CT g M1 S (p1 k s).2 → FR M0 M1 0 96 → V g m_L_acts 337 [(8, .int (irm z 8)), (7, .int z), (6, .int (nI k)), (5, .int (p1 k s).1), (4, .int (tA c)), (3, .int (fA c)), (2, .int (yA c)), (1, .int c), (0, rf g 0)] [] M1 sz1 kc ks Q) : V g m_L_acts 320 [(8, .int (irm z 8)), (7, .int z), (6, .int (nI k)), (5, .int x), (4, .int (tA c)), (3, .int (fA c)), (2, .int (yA c)), (1, .int c), (0, rf g 0)] [] M sz (kc + 1) (ks + 6) Q := by
  by_cases h : k = 0
  · exact sg1a s h hC hs hF kk
  · exact sg1b s h (nI_nle (by omega) (by omega)) hC hs hF kk
theorem sg2 {g : GE} {M0 M : Mem} {sz kc ks : Nat} {Q : Ou → Mem → Prop} {S : LndS} {c : Int32} {k : Nat} {z : Int32} (s : Int32 × TxS) (hC : CT g M S s.2) (hs : TB s.2) (hF : FR M0 M 0 96) (kk : ∀ M1 sz1, CT g M1 S (p2 z s).2 → FR M0 M1 0 96 → V g m_L_acts 385 [(8, .int (irm z 8)), (7, .int z), (6, .int (nI k)), (5, .int (p2 z s).1), (4, .int (tA c)), (3, .int (fA c)), (2, .int (yA c)), (1, .int c), (0, rf g 0)] [] M1 sz1 kc ks Q) : V g m_L_acts 337 [(8, .int (irm z 8)), (7, .int z), (6, .int (nI k)), (5, .int s.1), (4, .int (tA c)), (3, .int (fA c)), (2, .int (yA c)), (1, .int c), (0, rf g 0)] [] M sz (kc + 1) (ks + 6) Q := by
  by_cases h : irm z 8 = 0
  · exact sg2a s h hC hs hF kk
  · by_cases h1 : irm z 8 = 1
    · exact sg2b s h h1 hC hs hF kk
    · by_cases h5 : 5 ≤ irm z 8
      · exact sg2c s h h1 h5 hC hs hF kk
      · exact sg2d s h h1 h5 hC hs hF kk
theorem sg4 {g : GE} {M0 M : Mem} {sz kc ks : Nat} {Q : Ou → Mem → Prop} {S : LndS} {c : Int32} {k : Nat} {z x : Int32} (s : Int32 × TxS) (hC : CT g M S s.2) (hs : TB s.2) (hF : FR M0 M 0 96) (kk : ∀ M1 sz1, CT g M1 S (p4 z s).2 → FR M0 M1 0 96 → V g m_L_acts 420 [(8, .int (irm z 8)), (7, .int z), (6, .int (nI k)), (5, .int (p4 z s).1), (4, .int (tA c)), (3, .int (fA c)), (2, .int (yA c)), (1, .int c), (0, rf g 0)] [] M1 sz1 kc ks Q) : V g m_L_acts 401 [(8, .int (irm z 8)), (7, .int z), (6, .int (nI k)), (5, .int x), (4, .int (tA c)), (3, .int (fA c)), (2, .int (yA c)), (1, .int c), (0, rf g 0)] [] M sz (kc + 1) (ks + 6) Q := by
  by_cases h : irm z 8 = 1
  · exact sg4a s h hC hs hF kk
  · exact sg4b s h hC hs hF kk
theorem sg5 {g : GE} {M0 M : Mem} {sz kc ks : Nat} {Q : Ou → Mem → Prop} {S : LndS} {c : Int32} {k : Nat} {z x : Int32} (s : Int32 × TxS) (hC : CT g M S s.2) (hs : TB s.2) (hF : FR M0 M 0 96) (kk : ∀ M1 sz1, CT g M1 S (p5 z s).2 → FR M0 M1 0 96 → V g m_L_acts 456 [(8, .int (irm z 8)), (7, .int z), (6, .int (nI k)), (5, .int (p5 z s).1), (4, .int (tA c)), (3, .int (fA c)), (2, .int (yA c)), (1, .int c), (0, rf g 0)] [] M1 sz1 kc ks Q) : V g m_L_acts 420 [(8, .int (irm z 8)), (7, .int z), (6, .int (nI k)), (5, .int x), (4, .int (tA c)), (3, .int (fA c)), (2, .int (yA c)), (1, .int c), (0, rf g 0)] [] M sz (kc + 1) (ks + 6) Q := by
  by_cases h : irm z 8 = 1
  · exact sg5a s h hC hs hF kk
  · exact sg5b s h hC hs hF kk
theorem sg60 {g : GE} {M0 M : Mem} {sz kc ks : Nat} {Q : Ou → Mem → Prop} {S : LndS} {c : Int32} {k : Nat} {z : Int32} (s : Int32 × TxS) (hC : CT g M S s.2) (hs : TB s.2) (hF : FR M0 M 0 96) (kk : ∀ M1 sz1, CT g M1 S (p6 z 61 s).2 → FR M0 M1 0 96 → V g m_L_acts 475 [(8, .int (irm z 8)), (7, .int z), (6, .int (nI k)), (5, .int (p6 z 61 s).1), (4, .int (tA c)), (3, .int (fA c)), (2, .int (yA c)), (1, .int c), (0, rf g 0)] [] M1 sz1 kc ks Q) : V g m_L_acts 456 [(8, .int (irm z 8)), (7, .int z), (6, .int (nI k)), (5, .int s.1), (4, .int (tA c)), (3, .int (fA c)), (2, .int (yA c)), (1, .int c), (0, rf g 0)] [] M sz (kc + 1) (ks + 6) Q := by
  by_cases h : irm z 8 ≤ 4
  · exact sg60a s h hC hs hF kk
  · exact sg60b s h hC hs hF kk
theorem sg61 {g : GE} {M0 M : Mem} {sz kc ks : Nat} {Q : Ou → Mem → Prop} {S : LndS} {c : Int32} {k : Nat} {z : Int32} (s : Int32 × TxS) (hC : CT g M S s.2) (hs : TB s.2) (hF : FR M0 M 0 96) (kk : ∀ M1 sz1, CT g M1 S (p6 z (49 + irm (z / 32) 3) s).2 → FR M0 M1 0 96 → V g m_L_acts 502 [(8, .int (irm z 8)), (7, .int z), (6, .int (nI k)), (5, .int (p6 z (49 + irm (z / 32) 3) s).1), (4, .int (tA c)), (3, .int (fA c)), (2, .int (yA c)), (1, .int c), (0, rf g 0)] [] M1 sz1 kc ks Q) : V g m_L_acts 475 [(8, .int (irm z 8)), (7, .int z), (6, .int (nI k)), (5, .int s.1), (4, .int (tA c)), (3, .int (fA c)), (2, .int (yA c)), (1, .int c), (0, rf g 0)] [] M sz (kc + 1) (ks + 6) Q := by
  by_cases h : irm z 8 ≤ 4
  · exact sg61a s h hC hs hF kk
  · exact sg61b s h hC hs hF kk
theorem sg62 {g : GE} {M0 M : Mem} {sz kc ks : Nat} {Q : Ou → Mem → Prop} {S : LndS} {c : Int32} {k : Nat} {z : Int32} (s : Int32 × TxS) (hC : CT g M S s.2) (hs : TB s.2) (hF : FR M0 M 0 96) (kk : ∀ M1 sz1, CT g M1 S (p6 z 47 s).2 → FR M0 M1 0 96 → V g m_L_acts 521 [(8, .int (irm z 8)), (7, .int z), (6, .int (nI k)), (5, .int (p6 z 47 s).1), (4, .int (tA c)), (3, .int (fA c)), (2, .int (yA c)), (1, .int c), (0, rf g 0)] [] M1 sz1 kc ks Q) : V g m_L_acts 502 [(8, .int (irm z 8)), (7, .int z), (6, .int (nI k)), (5, .int s.1), (4, .int (tA c)), (3, .int (fA c)), (2, .int (yA c)), (1, .int c), (0, rf g 0)] [] M sz (kc + 1) (ks + 6) Q := by
  by_cases h : irm z 8 ≤ 4
  · exact sg62a s h hC hs hF kk
  · exact sg62b s h hC hs hF kk
theorem sg63 {g : GE} {M0 M : Mem} {sz kc ks : Nat} {Q : Ou → Mem → Prop} {S : LndS} {c : Int32} {k : Nat} {z : Int32} (s : Int32 × TxS) (hC : CT g M S s.2) (hs : TB s.2) (hF : FR M0 M 0 96) (kk : ∀ M1 sz1, CT g M1 S (p6 z (49 + irm (z / 128) 3) s).2 → FR M0 M1 0 96 → V g m_L_acts 549 [(8, .int (irm z 8)), (7, .int z), (6, .int (nI k)), (5, .int (p6 z (49 + irm (z / 128) 3) s).1), (4, .int (tA c)), (3, .int (fA c)), (2, .int (yA c)), (1, .int c), (0, rf g 0)] [] M1 sz1 kc ks Q) : V g m_L_acts 521 [(8, .int (irm z 8)), (7, .int z), (6, .int (nI k)), (5, .int s.1), (4, .int (tA c)), (3, .int (fA c)), (2, .int (yA c)), (1, .int c), (0, rf g 0)] [] M sz (kc + 1) (ks + 6) Q := by
  by_cases h : irm z 8 ≤ 4
  · exact sg63a s h hC hs hF kk
  · exact sg63b s h hC hs hF kk
theorem tx_body {g : GE} {M0 M : Mem} {sz kc ks : Nat} {Q : Ou → Mem → Prop} {S : LndS} {c : Int32} {k : Nat} {x : Int32} (hk : ¬ 1 + irm (yA c) 4 ≤ nI k) (hk4 : k < 4) (hC : CT g M S (acc c k).2) (hF : FR M0 M 0 96) (kk : ∀ M1 sz1, CT g M1 S (acc c (k + 1)).2 → FR M0 M1 0 96 → V g m_L_acts 293 [(6, .int (nI (k + 1))), (5, .int (acc c (k + 1)).1), (4, .int (tA c)), (3, .int (fA c)), (2, .int (yA c)), (1, .int c), (0, rf g 0)] [] M1 sz1 kc ks Q) : V g m_L_acts 293 [(6, .int (nI k)), (5, .int x), (4, .int (tA c)), (3, .int (fA c)), (2, .int (yA c)), (1, .int c), (0, rf g 0)] [] M sz (kc + 9) (ks + 54) Q := by
  refine sg0 hk ?_
  have t0 := acc_TB c k
  refine sg1 (acc c k).2 hk4 hC t0 hF (fun M1 sz1 hC hF => ?_)
  refine sg2 _ hC (p1_TB t0) hF (fun M1 sz1 hC hF => ?_)
  refine sg3 _ hC (p2_TB (p1_TB t0)) hF (fun M1 sz1 hC hF => ?_)
  refine sg4 _ hC (p3_TB (p2_TB (p1_TB t0))) hF (fun M1 sz1 hC hF => ?_)
  refine sg5 _ hC (p4_TB (p3_TB (p2_TB (p1_TB t0)))) hF (fun M1 sz1 hC hF => ?_)
  have t5 := p5_TB (z := zA c k) (p4_TB (z := zA c k) (p3_TB (z := zA c k) (p2_TB (z := zA c k) (p1_TB (k := k) t0))))
  refine sg60 _ hC t5 hF (fun M1 sz1 hC hF => ?_)
  refine sg61 _ hC (p6_TB t5) hF (fun M1 sz1 hC hF => ?_)
  refine sg62 _ hC (p6_TB (p6_TB t5)) hF (fun M1 sz1 hC hF => ?_)
  refine sg63 _ hC (p6_TB (p6_TB (p6_TB t5))) hF (fun M1 sz1 hC hF => ?_)
  exact sg7 (kk _ _ hC hF)
theorem tx_loop {g : GE} {M0 : Mem} {kc ks : Nat} {Q : Ou → Mem → Prop} {S : LndS} {c : Int32} {N : Nat} (hN : 1 + irm (yA c) 4 = nI N) (hN4 : N ≤ 4) (hq : ∀ M sz, CT g M S (acc c N).2 → FR M0 M 0 96 → V g m_L_acts 293 [(6, .int (nI N)), (5, .int (acc c N).1), (4, .int (tA c)), (3, .int (fA c)), (2, .int (yA c)), (1, .int c), (0, rf g 0)] [] M sz kc ks Q) : ∀ m k, k + m = N → 1 ≤ k → ∀ M sz, CT g M S (acc c k).2 → FR M0 M 0 96 → V g m_L_acts 293 [(6, .int (nI k)), (5, .int (acc c k).1), (4, .int (tA c)), (3, .int (fA c)), (2, .int (yA c)), (1, .int c), (0, rf g 0)] [] M sz (kc + 9 * m) (ks + 54 * m) Q := by
  intro m
  induction m with
  | zero =>
    intro k hk h1 M sz hC hF
    have e : k = N := by omega
    subst e
    exact hq M sz hC hF
  | succ m ih =>
    intro k hk h1 M sz hC hF
    rw [show kc + 9 * (m + 1) = kc + 9 * m + 9 by omega, show ks + 54 * (m + 1) = ks + 54 * m + 54 by omega]
    refine tx_body (by rw [hN]; exact nI_ge (by omega) (by omega)) (by omega) hC hF (fun M1 sz1 hC hF => ?_)
    exact ih (k + 1) (by omega) (by omega) M1 sz1 hC hF
theorem tx_all {g : GE} {M0 M : Mem} {sz kc ks : Nat} {Q : Ou → Mem → Prop} {S : LndS} {c x : Int32} {N : Nat} (hN : 1 + irm (yA c) 4 = nI N) (hN1 : 1 ≤ N) (hN4 : N ≤ 4) (hq : ∀ M sz, CT g M S (acc c N).2 → FR M0 M 0 96 → V g m_L_acts 293 [(6, .int (nI N)), (5, .int (acc c N).1), (4, .int (tA c)), (3, .int (fA c)), (2, .int (yA c)), (1, .int c), (0, rf g 0)] [] M sz kc ks Q) (hC : CT g M S (acc c 0).2) (hF : FR M0 M 0 96) : V g m_L_acts 293 [(6, .int (nI 0)), (5, .int x), (4, .int (tA c)), (3, .int (fA c)), (2, .int (yA c)), (1, .int c), (0, rf g 0)] [] M sz (kc + 36) (ks + 216) Q := by
  refine V.less (kc := kc + 9 * (N - 1) + 9) (ks := ks + 54 * (N - 1) + 54) ?_ (by omega) (by omega)
  refine tx_body (by rw [hN]; exact nI_ge (by omega) (by omega)) (by omega) hC hF (fun M1 sz1 hC hF => ?_)
  exact tx_loop hN hN4 hq (N - 1) 1 (by omega) (Nat.le_refl _) M1 sz1 hC hF
set_option maxRecDepth 20000 in
theorem fin_A {g : GE} {M : Mem} {sz kc ks : Nat} {Q : Ou → Mem → Prop} {c x : Int32} {N : Nat} (hN : 1 + irm (yA c) 4 = nI N) (h1 : x < 1) (hq : Q (.inl (some (.int (-9)))) M) : V g m_L_acts 293 [(6, .int (nI N)), (5, .int x), (4, .int (tA c)), (3, .int (fA c)), (2, .int (yA c)), (1, .int c), (0, rf g 0)] [] M sz kc ks Q := by
  refine V_iload 0 dL_acts_293 rfl ?_
  refine V_iconst (v := 1) dL_acts_295 rfl ?_
  refine V_iload_n 4 dL_acts_296 rfl ?_
  refine V_iconst (v := 4) dL_acts_297 rfl ?_
  refine V_irem dL_acts_298 (by decide) ?_
  refine V_iadd dL_acts_299 ?_
  refine V_icmp_ge (tgt := 555) dL_acts_300 (by decide) (fun c300 => ?_) (fun c300 => absurd (by rw [hN]; exact Int32.le_refl _) c300)
  refine V_pc (pc2 := 555) rfl ?_
  refine V_iload 1 dL_acts_555 rfl ?_
  refine V_iconst (v := 1) dL_acts_557 rfl ?_
  refine V_icmp_lt (tgt := 570) dL_acts_558 (by decide) (fun c558 => ?_) (fun c558 => absurd h1 c558)
  refine V_bipush (v := -9) dL_acts_570 (by decide) ?_
  refine V_goto (tgt := 579) dL_acts_572 (by decide) ?_
  refine V_iret (st := []) dL_acts_579 rfl ?_
  exact hq

set_option maxRecDepth 20000 in
theorem fin_B {g : GE} {M : Mem} {sz kc ks : Nat} {Q : Ou → Mem → Prop} {c x : Int32} {N : Nat} (hN : 1 + irm (yA c) 4 = nI N) (h1 : ¬ x < 1) {w : Int32} {P : Mem → Prop} {fs : List Value} (h0 : M 0 = some (eO 8 fs)) (hr : Run g m_X8_firstError [rf g 0] M sz 0 0 (RetP (some (.int w)) P)) (h2 : ¬ w = x) (hq : ∀ M1, P M1 → Q (.inl (some (.int (-9)))) M1) : V g m_L_acts 293 [(6, .int (nI N)), (5, .int x), (4, .int (tA c)), (3, .int (fA c)), (2, .int (yA c)), (1, .int c), (0, rf g 0)] [] M sz kc ks Q := by
  refine V_iload 0 dL_acts_293 rfl ?_
  refine V_iconst (v := 1) dL_acts_295 rfl ?_
  refine V_iload_n 4 dL_acts_296 rfl ?_
  refine V_iconst (v := 4) dL_acts_297 rfl ?_
  refine V_irem dL_acts_298 (by decide) ?_
  refine V_iadd dL_acts_299 ?_
  refine V_icmp_ge (tgt := 555) dL_acts_300 (by decide) (fun c300 => ?_) (fun c300 => absurd (by rw [hN]; exact Int32.le_refl _) c300)
  refine V_pc (pc2 := 555) rfl ?_
  refine V_iload 1 dL_acts_555 rfl ?_
  refine V_iconst (v := 1) dL_acts_557 rfl ?_
  refine V_icmp_lt (tgt := 570) dL_acts_558 (by decide) (fun c558 => absurd c558 h1) (fun c558 => ?_)
  refine V_aload_n 6 dL_acts_561 rfl ?_
  refine Cp_L_112 h0 rfl ⟨Nat.le_of_ble_eq_true rfl, Nat.le_of_ble_eq_true rfl⟩ (hr) rfl (Nat.le_of_ble_eq_true rfl) dL_acts_562 rfl (fun _ h9 => ?_)
  refine V_iload 1 dL_acts_565 rfl ?_
  refine V_icmp_eq (tgt := 575) dL_acts_567 (by decide) (fun c567 => absurd c567 h2) (fun c567 => ?_)
  refine V_bipush (v := -9) dL_acts_570 (by decide) ?_
  refine V_pc (pc2 := 572) rfl ?_
  refine V_goto (tgt := 579) dL_acts_572 (by decide) ?_
  refine V_iret (st := []) dL_acts_579 rfl ?_
  exact hq _ h9

set_option maxRecDepth 20000 in
theorem fin_C {g : GE} {M : Mem} {sz : Nat} {Q : Ou → Mem → Prop} {c x : Int32} {N : Nat} (hN : 1 + irm (yA c) 4 = nI N) (h1 : ¬ x < 1) {w : Int32} {P : Mem → Prop} {fs : List Value} (h0 : M 0 = some (eO 8 fs)) (hr : Run g m_X8_firstError [rf g 0] M sz 0 0 (RetP (some (.int w)) P)) (h2 : w = x) {c0 : Nat} {r : Int32} {P2 : Mem → Prop} (hw : ∀ M1, P M1 → Run g m_L_work [rf g 0] M1 sz c0 (6 * c0) (RetP (some (.int r)) P2)) (hq : ∀ M1, P2 M1 → Q (.inl (some (.int r))) M1) : V g m_L_acts 293 [(6, .int (nI N)), (5, .int x), (4, .int (tA c)), (3, .int (fA c)), (2, .int (yA c)), (1, .int c), (0, rf g 0)] [] M sz (0 + c0) (0 + 6 * c0) Q := by
  refine V_iload 0 dL_acts_293 rfl ?_
  refine V_iconst (v := 1) dL_acts_295 rfl ?_
  refine V_iload_n 4 dL_acts_296 rfl ?_
  refine V_iconst (v := 4) dL_acts_297 rfl ?_
  refine V_irem dL_acts_298 (by decide) ?_
  refine V_iadd dL_acts_299 ?_
  refine V_icmp_ge (tgt := 555) dL_acts_300 (by decide) (fun c300 => ?_) (fun c300 => absurd (by rw [hN]; exact Int32.le_refl _) c300)
  refine V_pc (pc2 := 555) rfl ?_
  refine V_iload 1 dL_acts_555 rfl ?_
  refine V_iconst (v := 1) dL_acts_557 rfl ?_
  refine V_icmp_lt (tgt := 570) dL_acts_558 (by decide) (fun c558 => absurd c558 h1) (fun c558 => ?_)
  refine V_aload_n 6 dL_acts_561 rfl ?_
  refine Cp_L_112 h0 rfl ⟨Nat.le_of_ble_eq_true rfl, Nat.le_of_ble_eq_true rfl⟩ (hr) rfl (Nat.le_of_ble_eq_true rfl) dL_acts_562 rfl (fun _ h9 => ?_)
  refine V_iload 1 dL_acts_565 rfl ?_
  refine V_icmp_eq (tgt := 575) dL_acts_567 (by decide) (fun c567 => ?_) (fun c567 => absurd h2 c567)
  refine V_aload_n 6 dL_acts_575 rfl ?_
  refine V_pc (pc2 := 576) rfl ?_
  refine Cq_L_115 rfl ⟨Nat.le_of_ble_eq_true rfl, Nat.le_of_ble_eq_true rfl⟩ (hw _ h9) rfl (Nat.le_of_ble_eq_true rfl) dL_acts_576 rfl (fun _ h8 => ?_)
  refine V_iret (st := []) dL_acts_579 rfl ?_
  exact hq _ h8

/-- the codes of a buffer -/
def tcS (s : TxS) : Nat → Nat := fun k => (s.2 k).toNatClampNeg
theorem tcS_TX {s : TxS} (h : TB s) {tx : Nat → Int32} (e : ∀ k, k < s.1 → tx k = s.2 k) : TX (tcS s) tx s.1 := by
  intro k hk
  obtain ⟨c, c1, c2, ec⟩ := h.2 k hk
  have e2 : tcS s k = c := by unfold tcS; rw [ec, nI_clamp (by omega)]
  rw [e k hk, e2, ec]
  exact ⟨c1, c2, rfl⟩
set_option maxRecDepth 20000 in
theorem tx_start {g : GE} {M : Mem} {sz kc ks : Nat} {Q : Ou → Mem → Prop} {S : LndS} {len : Nat} {tx : Nat → Int32} {c : Int32} (w : CS g M S len tx) (kk : ∀ M1 (x : Int32), CT g M1 S (acc c 0).2 → FR M M1 0 96 → V g m_L_acts 293 [(6, .int (nI 0)), (5, .int x), (4, .int (tA c)), (3, .int (fA c)), (2, .int (yA c)), (1, .int c), (0, rf g 0)] [] M1 sz kc ks Q) : V g m_L_acts 284 [(4, .int (tA c)), (3, .int (fA c)), (2, .int (yA c)), (1, .int c), (0, rf g 0)] [] M sz kc ks Q := by
  refine V_aload_n 4 dL_acts_284 rfl ?_
  refine Cp_L_107 w.1 rfl ⟨Nat.le_of_ble_eq_true rfl, Nat.le_of_ble_eq_true rfl⟩ (x_clearBuffer_ok w) rfl (Nat.le_of_ble_eq_true rfl) dL_acts_285 rfl (fun _ h9 => ?_)
  refine V_istore (lv2 := [(5, .int _), (4, .int _), (3, .int _), (2, .int _), (1, .int _), (0, .ref _)]) dL_acts_288 (Nat.le_of_ble_eq_true rfl) rfl ?_
  refine V_iconst (v := 0) dL_acts_290 rfl ?_
  refine V_istore (lv2 := [(6, .int _), (5, .int _), (4, .int _), (3, .int _), (2, .int _), (1, .int _), (0, .ref _)]) dL_acts_291 (Nat.le_of_ble_eq_true rfl) rfl ?_
  refine V_lv (lv2 := [(6, .int _), (5, .int _), (4, .int _), (3, .int _), (2, .int _), (1, .int _), (0, .ref _)]) [0, 1, 2, 3, 4, 5, 6] rfl ?_
  exact kk _ _ ⟨_, h9.1, fun k hk => absurd hk (Nat.not_lt_zero k)⟩ h9.2

theorem tx_N {cn : Nat} (hcn : cn < 2 ^ 31) : ∃ N, 1 ≤ N ∧ N ≤ 4 ∧ 1 + irm (yA (nI cn)) 4 = nI N := by
  have e1 : yA (nI cn) = nI (cn / 32) := pk_div hcn (by decide) (by decide)
  have e2 : irm (nI (cn / 32)) 4 = nI (cn / 32 % 4) := pk_rem (by omega) (by decide) (by decide)
  refine ⟨1 + cn / 32 % 4, by omega, by omega, ?_⟩
  rw [e1, e2, show (1 : Int32) = nI 1 from rfl, nI_add]
theorem act_text {T cn q : Nat} {S : LndS} (h : LOK T S) (hcn : cn < 2 ^ 31) (e : irm (nI cn) 32 = nI q) (hq : q = 22 ∨ q = 23 ∨ q = 24) : ACT (T + 61) (nI cn) S := by
  obtain ⟨N, hN1, hN4, hN⟩ := tx_N hcn
  have hB := acc_TB (nI cn) N
  have go : ∀ (r : Int32) (S2 : LndS), LOK (T + 61) S2 → (∀ (g : GE) (M0 M : Mem) (sz : Nat), CT g M S (acc (nI cn) N).2 → FR M0 M 0 96 → V g m_L_acts 293 [(6, .int (nI N)), (5, .int (acc (nI cn) N).1), (4, .int (tA (nI cn))), (3, .int (fA (nI cn))), (2, .int (yA (nI cn))), (1, .int (nI cn)), (0, rf g 0)] [] M sz 1 6 (RetP (some (.int r)) (fun M2 => (∃ len2 tx2, len2 ≤ 60 ∧ CS g M2 S2 len2 tx2) ∧ FR M0 M2 0 96))) → ACT (T + 61) (nI cn) S := by
    intro r S2 h2 hk
    refine ⟨r, S2, h2, fun g M sz len tx hl w => ?_⟩
    refine Run.of rfl (by decide) (Nat.le_of_ble_eq_true rfl) ?_
    show V g m_L_acts 0 _ [] _ _ _ _ _
    refine ac_head ?_
    rw [e]
    have kk : V g m_L_acts 284 [(4, .int (tA (nI cn))), (3, .int (fA (nI cn))), (2, .int (yA (nI cn))), (1, .int (nI cn)), (0, rf g 0)] [] M sz 40 240 (RetP (some (.int r)) (fun M2 => (∃ len2 tx2, len2 ≤ 60 ∧ CS g M2 S2 len2 tx2) ∧ FR M M2 0 96)) :=
      tx_start w (fun M1 x hC hF => V.less (kc := 1 + 36) (ks := 6 + 216) (tx_all hN hN1 hN4 (fun M9 sz9 hC9 hF9 => hk g M M9 sz9 hC9 hF9) hC hF) (by omega) (by omega))
    rcases hq with rfl | rfl | rfl
    · exact V_tabIn (off := 258) (tgt := 284) dL_acts_26 (by decide) (by decide) (by decide) (by decide) kk
    · exact V_tabIn (off := 258) (tgt := 284) dL_acts_26 (by decide) (by decide) (by decide) (by decide) kk
    · exact V_tabIn (off := 258) (tgt := 284) dL_acts_26 (by decide) (by decide) (by decide) (by decide) kk
  by_cases c1 : (acc (nI cn) N).1 < 1
  · exact go (-9) S (h.mono (by omega)) (fun g M0 M sz hC hF => fin_A hN c1 ⟨rfl, ⟨_, _, hB.1, hC.choose_spec.1⟩, hF⟩)
  · by_cases c2 : nI (rdE (tcS (acc (nI cn) N).2) 0 0 (acc (nI cn) N).2.1) = (acc (nI cn) N).1
    · cases hok : okT (tcS (acc (nI cn) N).2) (acc (nI cn) N).2.1 with
      | false =>
        refine go (-2) S (h.mono (by omega)) (fun g M0 M sz hC hF => ?_)
        obtain ⟨tx, w, ex⟩ := hC
        refine fin_C hN c1 w.1 (x_firstError_ok w hB.1 (tcS_TX hB ex)) c2 (c0 := 1) (P2 := fun M2 => CS g M2 S (acc (nI cn) N).2.1 tx ∧ FR M0 M2 0 96) (fun M1 q => ?_) (fun M1 q => ⟨rfl, ⟨_, _, hB.1, q.1⟩, q.2⟩)
        exact (h_work_x1 q.1.1 (x_work_1 q.1 hB.1 (tcS_TX hB ex) hok)).mono fun o M2 q2 => ⟨q2.1, q2.2.1, FR.trans (b := 0) (n := 96) (FR.trans (b := 0) (n := 96) hF q.2 (by omega)) q2.2.2 (by omega)⟩
      | true =>
        obtain ⟨k1, k2, k3⟩ := wk_facts hB.1 (acc (nI cn) N).2.1 0 0 S.1 h.1.1 (Nat.le_refl _) (by omega) (fun _ => vd_0 hok)
        have k4 := wk_BJ (t := tcS (acc (nI cn) N).2) (len := (acc (nI cn) N).2.1) (acc (nI cn) N).2.1 0 0 T S.1 h.1.2 h.1.1 (by omega) (fun _ => vd_0 hok)
        have hlen := hB.1
        obtain ⟨σ, τ, hk, n, ps⟩ := S
        have k5 : JS (T + 61) (wkS (wk (tcS (acc (nI cn) N).2) (acc (nI cn) N).2.1 (acc (nI cn) N).2.1 0 0 σ)) := ⟨IS.fin k1 k2 k3, (k4.mono (by omega)).ext (fun k _ hk => by unfold wkS; rw [upd_ne (by omega), upd_ne (by omega)])⟩
        refine go (nI (wk (tcS (acc (nI cn) N).2) (acc (nI cn) N).2.1 (acc (nI cn) N).2.1 0 0 σ).1) _ (h.psh (by omega) k5) (fun g M0 M sz hC hF => ?_)
        obtain ⟨tx, w, ex⟩ := hC
        refine V.less (kc := 0 + 0) (ks := 0 + 6 * 0) (fin_C hN c1 w.1 (x_firstError_ok w hB.1 (tcS_TX hB ex)) c2 (c0 := 0) (P2 := fun M2 => CW g M2 (wkS (wk (tcS (acc (nI cn) N).2) (acc (nI cn) N).2.1 (acc (nI cn) N).2.1 0 0 σ)) τ hk (pshN n) (pshP n ps σ) 0 tx ∧ FR M0 M2 0 96) (fun M1 q => ?_) (fun M1 q => ⟨rfl, ⟨_, _, Nat.zero_le _, q.1⟩, q.2⟩)) (by omega) (by omega)
        exact (h_work_ok q.1.1 (x_work_ok q.1 hB.1 (tcS_TX hB ex) hok h.2.2.1 h.1.1)).mono fun o M2 q2 => ⟨q2.1, q2.2.1, FR.trans (b := 0) (n := 96) (FR.trans (b := 0) (n := 96) hF q.2 (by omega)) q2.2.2 (by omega)⟩
    · refine go (-9) S (h.mono (by omega)) (fun g M0 M sz hC hF => ?_)
      obtain ⟨tx, w, ex⟩ := hC
      exact fin_B hN c1 w.1 (x_firstError_ok w hB.1 (tcS_TX hB ex)) c2 (fun M1 q => ⟨rfl, ⟨_, _, hB.1, q.1⟩, hF.trans q.2 (by omega)⟩)
theorem acts_ok {T cn : Nat} {S : LndS} (h : LOK T S) (hcn : cn < 2 ^ 31) : ACT (T + 61) (nI cn) S := by
  have e : irm (nI cn) 32 = nI (cn % 32) := pk_rem hcn (by decide) (by decide)
  have hlt : cn % 32 < 32 := Nat.mod_lt _ (by decide)
  by_cases c1 : cn % 32 < 8
  · exact act_table h e (by omega)
  by_cases c2 : cn % 32 < 9
  · exact act_drop h e (by omega)
  by_cases c3 : cn % 32 < 12
  · exact act_set0 h e (by omega)
  by_cases c4 : cn % 32 < 13
  · exact act_set2 h e (by omega)
  by_cases c5 : cn % 32 < 14
  · exact act_stick h e (by omega)
  by_cases c6 : cn % 32 < 17
  · exact act_bolt h e (by omega)
  by_cases c7 : cn % 32 < 18
  · exact act_sell h e (by omega)
  by_cases c8 : cn % 32 < 20
  · exact act_undo h e (by omega)
  by_cases c9 : cn % 32 < 21
  · exact act_keep h e (by omega)
  by_cases c10 : cn % 32 < 22
  · exact act_restore h e (by omega)
  by_cases c11 : cn % 32 < 25
  · exact act_text h hcn e (by omega)
  · exact act_send h e (by omega)
