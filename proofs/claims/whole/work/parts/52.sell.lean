/-! switches -/
theorem V_tabOut {g : GE} {mt : MT} {pc : Nat} {lv : List (Nat × Value)} {st : List Value} {M : Mem} {sz kc ks : Nat} {Q : Ou → Mem → Prop} {dflt lo hi : Int} {offs : Array Int} {len : Nat} {x : Int32} {tgt : Nat} (d : decode (mC mt) pc = .ok (.tableswitch dflt lo hi offs, len)) (h : x.toInt < lo ∨ hi < x.toInt) (ht : (pc : Int) + dflt = (tgt : Int)) (k : V g mt tgt lv st M sz kc ks Q) : V g mt pc lv (.int x :: st) M sz kc ks Q := by
  intro p e R s m args below meth c H locs cells slots mc ms ls a1 a2 a3 a4 a5 a6 a7 a8 a9
  exact lv_tableOut a1.1 a1.2.1 d h ht (k p e R s m args below meth c H locs cells slots mc ms ls a1 a2 a3 a4 a5 a6 a7 a8 a9)
theorem V_tabIn {g : GE} {mt : MT} {pc : Nat} {lv : List (Nat × Value)} {st : List Value} {M : Mem} {sz kc ks : Nat} {Q : Ou → Mem → Prop} {dflt lo hi off : Int} {offs : Array Int} {len : Nat} {x : Int32} {tgt : Nat} (d : decode (mC mt) pc = .ok (.tableswitch dflt lo hi offs, len)) (h1 : ¬ x.toInt < lo) (h2 : ¬ hi < x.toInt) (ho : offs[(x.toInt - lo).toNat]? = some off) (ht : (pc : Int) + off = (tgt : Int)) (k : V g mt tgt lv st M sz kc ks Q) : V g mt pc lv (.int x :: st) M sz kc ks Q := by
  intro p e R s m args below meth c H locs cells slots mc ms ls a1 a2 a3 a4 a5 a6 a7 a8 a9
  exact lv_tableIn a1.1 a1.2.1 d h1 h2 ho ht (k p e R s m args below meth c H locs cells slots mc ms ls a1 a2 a3 a4 a5 a6 a7 a8 a9)
theorem V_look {g : GE} {mt : MT} {pc : Nat} {lv : List (Nat × Value)} {st : List Value} {M : Mem} {sz kc ks : Nat} {Q : Ou → Mem → Prop} {dflt off : Int} {ps : Array (Int × Int)} {len : Nat} {x : Int32} {tgt : Nat} (d : decode (mC mt) pc = .ok (.lookupswitch dflt ps, len)) (hp : (ps.toList.zip (ps.toList.drop 1)).all (fun (a, next) => a.1 < next.1) = true) (ho : Op.lookupswitch.offset ps.toList dflt x.toInt = off) (ht : (pc : Int) + off = (tgt : Int)) (k : V g mt tgt lv st M sz kc ks Q) : V g mt pc lv (.int x :: st) M sz kc ks Q := by
  intro p e R s m args below meth c H locs cells slots mc ms ls a1 a2 a3 a4 a5 a6 a7 a8 a9
  exact lv_lookup a1.1 a1.2.1 d hp ho ht (k p e R s m args below meth c H locs cells slots mc ms ls a1 a2 a3 a4 a5 a6 a7 a8 a9)
/-! boltOf, sell, append -/
set_option maxRecDepth 20000 in
theorem x_boltOf_1 {g : GE} {M : Mem} {sz : Nat} {σ τ : Nat → Int32} {hk : Bool} {n : Nat} {ps : Nat → Nat → Int32} {len : Nat} {tx : Nat → Int32} (hC : CW g M σ τ hk n ps len tx) {a b : Int32} (ha : isB σ a = false) : Run g m_X8_boltOf [rf g 0, .int a, .int b] M sz 1 6 (Thr (exN 0) M) := by
  refine Run.of rfl (by decide) (Nat.le_of_ble_eq_true rfl) ?_
  show V g m_X8_boltOf 0 _ [] _ _ _ _ _
  refine V_aload_n 0 dX8_boltOf_0 rfl ?_
  refine V_iload_n 1 dX8_boltOf_1 rfl ?_
  refine Ct_X8_154 hC.1 rfl rfl ⟨Nat.le_of_ble_eq_true rfl, Nat.le_of_ble_eq_true rfl⟩ (r_checkBolt_bad hC ha) rfl (Nat.le_of_ble_eq_true rfl) dX8_boltOf_2 rfl ?_
  exact ⟨rfl, rfl⟩

set_option maxRecDepth 20000 in
theorem x_boltOf_2 {g : GE} {M : Mem} {sz : Nat} {σ τ : Nat → Int32} {hk : Bool} {n : Nat} {ps : Nat → Nat → Int32} {len : Nat} {tx : Nat → Int32} (hC : CW g M σ τ hk n ps len tx) {a b : Int32} (ha : isB σ a = true) (hb : b < 0 ∨ ¬ b ≤ 3) : Run g m_X8_boltOf [rf g 0, .int a, .int b] M sz 1 6 (Thr (exN 1) M) := by
  refine Run.of rfl (by decide) (Nat.le_of_ble_eq_true rfl) ?_
  show V g m_X8_boltOf 0 _ [] _ _ _ _ _
  refine V_aload_n 0 dX8_boltOf_0 rfl ?_
  refine V_iload_n 1 dX8_boltOf_1 rfl ?_
  refine C_X8_154 hC.1 rfl ⟨Nat.le_of_ble_eq_true rfl, Nat.le_of_ble_eq_true rfl⟩ (r_checkBolt_ok hC ha) rfl (Nat.le_of_ble_eq_true rfl) dX8_boltOf_2 rfl ?_
  refine V_iload_n 2 dX8_boltOf_5 rfl ?_
  refine V_iconst (v := 0) dX8_boltOf_6 rfl ?_
  refine V_iconst (v := 3) dX8_boltOf_7 rfl ?_
  refine Ct_X8_66 rfl rfl ⟨Nat.le_of_ble_eq_true rfl, Nat.le_of_ble_eq_true rfl⟩ (r_checkRange_bad hb) rfl (Nat.le_of_ble_eq_true rfl) dX8_boltOf_8 rfl ?_
  exact ⟨rfl, rfl⟩

set_option maxRecDepth 20000 in
theorem q9_boltOf_1 {g : GE} {M : Mem} {sz : Nat} {σ sn : Nat → Int32} {hk : Bool} {n : Nat} {ps : Nat → Nat → Int32} {len : Nat} {tx : Nat → Int32} {th : Int32} (hL : ML g M σ sn hk n ps len tx th) {m : Nat} (hm : σ 60 = nI m) (hm8 : m ≤ 8) {a b : Int32} (ha : isB σ a = false) : Run g m_X9_boltOf [rf g 96, .int a, .int b] M sz 0 0 (RetP (some (.int 0)) (fun M2 => ML g M2 (σ) (sn) (hk) (n) (ps) (len) (tx) (1) ∧ FR M M2 96 9)) := by
  obtain ⟨⟨v, hM, v0, v1, v2, v3⟩, ⟨pf, f1, f2⟩, f3, f4, f5⟩ := id hL
  refine Run.of rfl (by decide) (Nat.le_of_ble_eq_true rfl) ?_
  show V g m_X9_boltOf 0 _ [] _ _ _ _ _
  refine V_aload_n 0 dX9_boltOf_0 rfl ?_
  refine V_aload_n 0 dX9_boltOf_1 rfl ?_
  refine V_iload_n 1 dX9_boltOf_2 rfl ?_
  refine C_X9_150 hM.1 rfl ⟨Nat.le_of_ble_eq_true rfl, Nat.le_of_ble_eq_true rfl⟩ (r9_isBolt hM _) rfl (Nat.le_of_ble_eq_true rfl) dX9_boltOf_3 rfl ?_
  rw [isB_in hm hm8]
  refine V_if_ne (tgt := 13) dX9_boltOf_6 (by decide) (fun c6 => absurd (by rw [ha]; rfl) c6) (fun c6 => ?_)
  refine V_iconst (v := 1) dX9_boltOf_9 rfl ?_
  refine V_goto (tgt := 27) dX9_boltOf_10 (by decide) ?_
  refine V_pc (pc2 := 27) rfl ?_
  refine C_X9_111 hM.1 rfl ⟨Nat.le_of_ble_eq_true rfl, Nat.le_of_ble_eq_true rfl⟩ (r9_refused hM 1) rfl (Nat.le_of_ble_eq_true rfl) dX9_boltOf_27 rfl ?_
  refine V_if_eq (tgt := 35) dX9_boltOf_30 (by decide) (fun c30 => absurd c30 (by decide)) (fun c30 => ?_)
  refine V_iconst (v := 0) dX9_boltOf_33 rfl ?_
  refine V_iret (st := []) dX9_boltOf_34 rfl ?_
  refine ⟨rfl, hL.thr hM v0 v1 v2, (FR.refl M 96 9).put (by omega)⟩

set_option maxRecDepth 20000 in
theorem q9_boltOf_2 {g : GE} {M : Mem} {sz : Nat} {σ sn : Nat → Int32} {hk : Bool} {n : Nat} {ps : Nat → Nat → Int32} {len : Nat} {tx : Nat → Int32} {th : Int32} (hL : ML g M σ sn hk n ps len tx th) {m : Nat} (hm : σ 60 = nI m) (hm8 : m ≤ 8) {a b : Int32} (ha : isB σ a = true) (hb : b < 0 ∨ ¬ b ≤ 3) : Run g m_X9_boltOf [rf g 96, .int a, .int b] M sz 0 0 (RetP (some (.int 0)) (fun M2 => ML g M2 (σ) (sn) (hk) (n) (ps) (len) (tx) (2) ∧ FR M M2 96 9)) := by
  obtain ⟨⟨v, hM, v0, v1, v2, v3⟩, ⟨pf, f1, f2⟩, f3, f4, f5⟩ := id hL
  refine Run.of rfl (by decide) (Nat.le_of_ble_eq_true rfl) ?_
  show V g m_X9_boltOf 0 _ [] _ _ _ _ _
  refine V_aload_n 0 dX9_boltOf_0 rfl ?_
  refine V_aload_n 0 dX9_boltOf_1 rfl ?_
  refine V_iload_n 1 dX9_boltOf_2 rfl ?_
  refine C_X9_150 hM.1 rfl ⟨Nat.le_of_ble_eq_true rfl, Nat.le_of_ble_eq_true rfl⟩ (r9_isBolt hM _) rfl (Nat.le_of_ble_eq_true rfl) dX9_boltOf_3 rfl ?_
  rw [isB_in hm hm8]
  refine V_if_ne (tgt := 13) dX9_boltOf_6 (by decide) (fun c6 => ?_) (fun c6 => absurd c6 (by rw [ha]; decide))
  refine V_iload_n 2 dX9_boltOf_13 rfl ?_
  refine V_iconst (v := 0) dX9_boltOf_14 rfl ?_
  refine V_pc (pc2 := 15) rfl ?_
  refine V_iconst (v := 3) dX9_boltOf_15 rfl ?_
  refine C_X9_44 rfl ⟨Nat.le_of_ble_eq_true rfl, Nat.le_of_ble_eq_true rfl⟩ (r9_in _ _ _) rfl (Nat.le_of_ble_eq_true rfl) dX9_boltOf_16 rfl ?_
  refine V_if_eq (tgt := 26) dX9_boltOf_19 (by decide) (fun c19 => ?_) (fun c19 => absurd (by rw [inI_f hb]; rfl) c19)
  refine V_iconst (v := 2) dX9_boltOf_26 rfl ?_
  refine C_X9_111 hM.1 rfl ⟨Nat.le_of_ble_eq_true rfl, Nat.le_of_ble_eq_true rfl⟩ (r9_refused hM 2) rfl (Nat.le_of_ble_eq_true rfl) dX9_boltOf_27 rfl ?_
  refine V_if_eq (tgt := 35) dX9_boltOf_30 (by decide) (fun c30 => absurd c30 (by decide)) (fun c30 => ?_)
  refine V_iconst (v := 0) dX9_boltOf_33 rfl ?_
  refine V_iret (st := []) dX9_boltOf_34 rfl ?_
  refine ⟨rfl, hL.thr hM v0 v1 v2, (FR.refl M 96 9).put (by omega)⟩

def boltedS (σ : Nat → Int32) (i : Nat) (c : Nat) : Int32 := if c = 2 then σ (28 + 4 * i + c) + 1000000 else σ (28 + 4 * i + c)
set_option maxRecDepth 20000 in
theorem r9_bolted {g : GE} {M : Mem} {sz : Nat} {σ v : Nat → Int32} (hM : MD g M σ v) {x y : Int32} (i c : Nat) (hx : x = nI i) (hy : y = nI c) (hi : i < 8) (hc : c < 4) : Run g m_X9_bolted [rf g 96, .int x, .int y] M sz 0 0 (Ret (some (.int (boltedS σ i c))) M) := by
  subst hx hy
  have E : nI c = 2 ↔ c = 2 := nI_eq (b := 2) (by omega) (by decide)
  refine Run.of rfl (by decide) (Nat.le_of_ble_eq_true rfl) ?_
  show V g m_X9_bolted 0 _ [] _ _ _ _ _
  refine V_aload_n 0 dX9_bolted_0 rfl ?_
  refine V_iload_n 1 dX9_bolted_1 rfl ?_
  refine V_iload_n 2 dX9_bolted_2 rfl ?_
  refine C_X9_142 hM.1 rfl ⟨Nat.le_of_ble_eq_true rfl, Nat.le_of_ble_eq_true rfl⟩ (r9_ofBolt hM i c rfl rfl hi hc) rfl (Nat.le_of_ble_eq_true rfl) dX9_bolted_3 rfl ?_
  refine V_iload_n 2 dX9_bolted_6 rfl ?_
  refine V_iconst (v := 2) dX9_bolted_7 rfl ?_
  refine V_icmp_ne (tgt := 16) dX9_bolted_8 (by decide) (fun c8 => ?_) (fun c8 => ?_)
  · refine V_iconst (v := 0) dX9_bolted_16 rfl ?_
    refine V_iadd dX9_bolted_17 ?_
    refine V_iret (st := []) dX9_bolted_18 rfl ?_
    exact ⟨by unfold boltedS; rw [if_neg (fun e => c8 (E.mpr e)), Int32.add_zero], rfl⟩
  · refine V_ldc z_X9_235 dX9_bolted_11 ?_
    refine V_goto (tgt := 17) dX9_bolted_13 (by decide) ?_
    refine V_iadd dX9_bolted_17 ?_
    refine V_iret (st := []) dX9_bolted_18 rfl ?_
    exact ⟨by unfold boltedS; rw [if_pos (E.mp c8)], rfl⟩

set_option maxRecDepth 20000 in
theorem x_boltOf_ok0 {g : GE} {M : Mem} {sz : Nat} {σ τ : Nat → Int32} {hk : Bool} {n : Nat} {ps : Nat → Nat → Int32} {len : Nat} {tx : Nat → Int32} (hC : CW g M σ τ hk n ps len tx) {x : Int32} (i : Nat) (hx : x = nI i) (hi : i < 8) (hbo : isB σ x = true) : Run g m_X8_boltOf [rf g 0, .int x, .int 0] M sz 0 0 (RetP (some (.int (boltedS σ i 0))) (fun M2 => CW g M2 (σ) (τ) (hk) (n) (ps) (len) (tx) ∧ FR M M2 0 96)) := by
  subst hx
  obtain ⟨p0, y1, y2⟩ := hC.2.1.1
  have hB := hC.2.1.2.2.2.2
  refine Run.of rfl (by decide) (Nat.le_of_ble_eq_true rfl) ?_
  show V g m_X8_boltOf 0 _ [] _ _ _ _ _
  refine V_aload_n 0 dX8_boltOf_0 rfl ?_
  refine V_iload_n 1 dX8_boltOf_1 rfl ?_
  refine C_X8_154 hC.1 rfl ⟨Nat.le_of_ble_eq_true rfl, Nat.le_of_ble_eq_true rfl⟩ (r_checkBolt_ok hC hbo) rfl (Nat.le_of_ble_eq_true rfl) dX8_boltOf_2 rfl ?_
  refine V_iload_n 2 dX8_boltOf_5 rfl ?_
  refine V_iconst (v := 0) dX8_boltOf_6 rfl ?_
  refine V_iconst (v := 3) dX8_boltOf_7 rfl ?_
  refine C_X8_66 rfl ⟨Nat.le_of_ble_eq_true rfl, Nat.le_of_ble_eq_true rfl⟩ (r_checkRange_ok (by decide) (by decide)) rfl (Nat.le_of_ble_eq_true rfl) dX8_boltOf_8 rfl ?_
  refine V_pc (pc2 := 11) rfl ?_
  refine V_iload_n 2 dX8_boltOf_11 rfl ?_
  refine V_tabIn (off := 28) (tgt := 40) dX8_boltOf_12 (by decide) (by decide) (by decide) (by decide) ?_
  refine V_aload_n 0 dX8_boltOf_40 rfl ?_
  refine G_X8_10 rfl hC.1 rfl dX8_boltOf_41 ?_
  refine G_X8_139 rfl y1 rfl dX8_boltOf_44 ?_
  refine G_X8_169 rfl (show _ = some (BO g 6 (σ 60) (σ 62) (σ 61)) from hB.1) rfl dX8_boltOf_47 ?_
  refine V_iload_n 1 dX8_boltOf_50 rfl ?_
  refine C_X8_77 rfl ⟨Nat.le_of_ble_eq_true rfl, Nat.le_of_ble_eq_true rfl⟩ (r_at hB.2.1 i rfl hi (by decide)) rfl (Nat.le_of_ble_eq_true rfl) dX8_boltOf_51 rfl ?_
  rw [bR_at hi]
  refine V_pc (pc2 := 54) rfl ?_
  refine V_iret (st := []) dX8_boltOf_54 rfl ?_
  exact ⟨rfl, hC, FR.refl _ _ _⟩

set_option maxRecDepth 20000 in
theorem q9_boltOf_ok0 {g : GE} {M : Mem} {sz : Nat} {σ sn : Nat → Int32} {hk : Bool} {n : Nat} {ps : Nat → Nat → Int32} {len : Nat} {tx : Nat → Int32} {th : Int32} (hL : ML g M σ sn hk n ps len tx th) {m : Nat} (hm : σ 60 = nI m) (hm8 : m ≤ 8) {x : Int32} (i : Nat) (hx : x = nI i) (hi : i < 8) (hbo : isB σ x = true) : Run g m_X9_boltOf [rf g 96, .int x, .int 0] M sz 0 0 (RetP (some (.int (boltedS σ i 0))) (fun M2 => ML g M2 (σ) (sn) (hk) (n) (ps) (len) (tx) (0) ∧ FR M M2 96 9)) := by
  subst hx
  obtain ⟨⟨v, hM, v0, v1, v2, v3⟩, ⟨pf, f1, f2⟩, f3, f4, f5⟩ := id hL
  refine Run.of rfl (by decide) (Nat.le_of_ble_eq_true rfl) ?_
  show V g m_X9_boltOf 0 _ [] _ _ _ _ _
  refine V_aload_n 0 dX9_boltOf_0 rfl ?_
  refine V_aload_n 0 dX9_boltOf_1 rfl ?_
  refine V_iload_n 1 dX9_boltOf_2 rfl ?_
  refine C_X9_150 hM.1 rfl ⟨Nat.le_of_ble_eq_true rfl, Nat.le_of_ble_eq_true rfl⟩ (r9_isBolt hM _) rfl (Nat.le_of_ble_eq_true rfl) dX9_boltOf_3 rfl ?_
  rw [isB_in hm hm8]
  refine V_if_ne (tgt := 13) dX9_boltOf_6 (by decide) (fun c6 => ?_) (fun c6 => absurd c6 (by rw [hbo]; decide))
  refine V_iload_n 2 dX9_boltOf_13 rfl ?_
  refine V_iconst (v := 0) dX9_boltOf_14 rfl ?_
  refine V_pc (pc2 := 15) rfl ?_
  refine V_iconst (v := 3) dX9_boltOf_15 rfl ?_
  refine C_X9_44 rfl ⟨Nat.le_of_ble_eq_true rfl, Nat.le_of_ble_eq_true rfl⟩ (r9_in _ _ _) rfl (Nat.le_of_ble_eq_true rfl) dX9_boltOf_16 rfl ?_
  refine V_if_eq (tgt := 26) dX9_boltOf_19 (by decide) (fun c19 => absurd c19 (by decide)) (fun c19 => ?_)
  refine V_iconst (v := 0) dX9_boltOf_22 rfl ?_
  refine V_goto (tgt := 27) dX9_boltOf_23 (by decide) ?_
  refine C_X9_111 hM.1 rfl ⟨Nat.le_of_ble_eq_true rfl, Nat.le_of_ble_eq_true rfl⟩ (r9_refused hM 0) rfl (Nat.le_of_ble_eq_true rfl) dX9_boltOf_27 rfl ?_
  refine V_if_eq (tgt := 35) dX9_boltOf_30 (by decide) (fun c30 => ?_) (fun c30 => absurd (by decide) c30)
  refine V_aload_n 0 dX9_boltOf_35 rfl ?_
  refine V_pc (pc2 := 36) rfl ?_
  refine V_iload_n 1 dX9_boltOf_36 rfl ?_
  refine V_iload_n 2 dX9_boltOf_37 rfl ?_
  refine C_X9_236 (hM.v _).1 rfl ⟨Nat.le_of_ble_eq_true rfl, Nat.le_of_ble_eq_true rfl⟩ (r9_bolted (hM.v _) i 0 rfl rfl hi (by decide)) rfl (Nat.le_of_ble_eq_true rfl) dX9_boltOf_38 rfl ?_
  refine V_iret (st := []) dX9_boltOf_41 rfl ?_
  exact ⟨rfl, hL.thr hM v0 v1 v2, (FR.refl M 96 9).put (by omega)⟩

set_option maxRecDepth 20000 in
theorem x_boltOf_ok1 {g : GE} {M : Mem} {sz : Nat} {σ τ : Nat → Int32} {hk : Bool} {n : Nat} {ps : Nat → Nat → Int32} {len : Nat} {tx : Nat → Int32} (hC : CW g M σ τ hk n ps len tx) {x : Int32} (i : Nat) (hx : x = nI i) (hi : i < 8) (hbo : isB σ x = true) : Run g m_X8_boltOf [rf g 0, .int x, .int 1] M sz 0 0 (RetP (some (.int (boltedS σ i 1))) (fun M2 => CW g M2 (σ) (τ) (hk) (n) (ps) (len) (tx) ∧ FR M M2 0 96)) := by
  subst hx
  obtain ⟨p0, y1, y2⟩ := hC.2.1.1
  have hB := hC.2.1.2.2.2.2
  refine Run.of rfl (by decide) (Nat.le_of_ble_eq_true rfl) ?_
  show V g m_X8_boltOf 0 _ [] _ _ _ _ _
  refine V_aload_n 0 dX8_boltOf_0 rfl ?_
  refine V_iload_n 1 dX8_boltOf_1 rfl ?_
  refine C_X8_154 hC.1 rfl ⟨Nat.le_of_ble_eq_true rfl, Nat.le_of_ble_eq_true rfl⟩ (r_checkBolt_ok hC hbo) rfl (Nat.le_of_ble_eq_true rfl) dX8_boltOf_2 rfl ?_
  refine V_iload_n 2 dX8_boltOf_5 rfl ?_
  refine V_iconst (v := 0) dX8_boltOf_6 rfl ?_
  refine V_iconst (v := 3) dX8_boltOf_7 rfl ?_
  refine C_X8_66 rfl ⟨Nat.le_of_ble_eq_true rfl, Nat.le_of_ble_eq_true rfl⟩ (r_checkRange_ok (by decide) (by decide)) rfl (Nat.le_of_ble_eq_true rfl) dX8_boltOf_8 rfl ?_
  refine V_pc (pc2 := 11) rfl ?_
  refine V_iload_n 2 dX8_boltOf_11 rfl ?_
  refine V_tabIn (off := 43) (tgt := 55) dX8_boltOf_12 (by decide) (by decide) (by decide) (by decide) ?_
  refine V_aload_n 0 dX8_boltOf_55 rfl ?_
  refine G_X8_10 rfl hC.1 rfl dX8_boltOf_56 ?_
  refine G_X8_139 rfl y1 rfl dX8_boltOf_59 ?_
  refine G_X8_166 rfl (show _ = some (BO g 6 (σ 60) (σ 62) (σ 61)) from hB.1) rfl dX8_boltOf_62 ?_
  refine V_iload_n 1 dX8_boltOf_65 rfl ?_
  refine C_X8_77 rfl ⟨Nat.le_of_ble_eq_true rfl, Nat.le_of_ble_eq_true rfl⟩ (r_at hB.2.2.1 i rfl hi (by decide)) rfl (Nat.le_of_ble_eq_true rfl) dX8_boltOf_66 rfl ?_
  rw [bR_at hi]
  refine V_pc (pc2 := 69) rfl ?_
  refine V_iret (st := []) dX8_boltOf_69 rfl ?_
  exact ⟨rfl, hC, FR.refl _ _ _⟩

set_option maxRecDepth 20000 in
theorem q9_boltOf_ok1 {g : GE} {M : Mem} {sz : Nat} {σ sn : Nat → Int32} {hk : Bool} {n : Nat} {ps : Nat → Nat → Int32} {len : Nat} {tx : Nat → Int32} {th : Int32} (hL : ML g M σ sn hk n ps len tx th) {m : Nat} (hm : σ 60 = nI m) (hm8 : m ≤ 8) {x : Int32} (i : Nat) (hx : x = nI i) (hi : i < 8) (hbo : isB σ x = true) : Run g m_X9_boltOf [rf g 96, .int x, .int 1] M sz 0 0 (RetP (some (.int (boltedS σ i 1))) (fun M2 => ML g M2 (σ) (sn) (hk) (n) (ps) (len) (tx) (0) ∧ FR M M2 96 9)) := by
  subst hx
  obtain ⟨⟨v, hM, v0, v1, v2, v3⟩, ⟨pf, f1, f2⟩, f3, f4, f5⟩ := id hL
  refine Run.of rfl (by decide) (Nat.le_of_ble_eq_true rfl) ?_
  show V g m_X9_boltOf 0 _ [] _ _ _ _ _
  refine V_aload_n 0 dX9_boltOf_0 rfl ?_
  refine V_aload_n 0 dX9_boltOf_1 rfl ?_
  refine V_iload_n 1 dX9_boltOf_2 rfl ?_
  refine C_X9_150 hM.1 rfl ⟨Nat.le_of_ble_eq_true rfl, Nat.le_of_ble_eq_true rfl⟩ (r9_isBolt hM _) rfl (Nat.le_of_ble_eq_true rfl) dX9_boltOf_3 rfl ?_
  rw [isB_in hm hm8]
  refine V_if_ne (tgt := 13) dX9_boltOf_6 (by decide) (fun c6 => ?_) (fun c6 => absurd c6 (by rw [hbo]; decide))
  refine V_iload_n 2 dX9_boltOf_13 rfl ?_
  refine V_iconst (v := 0) dX9_boltOf_14 rfl ?_
  refine V_pc (pc2 := 15) rfl ?_
  refine V_iconst (v := 3) dX9_boltOf_15 rfl ?_
  refine C_X9_44 rfl ⟨Nat.le_of_ble_eq_true rfl, Nat.le_of_ble_eq_true rfl⟩ (r9_in _ _ _) rfl (Nat.le_of_ble_eq_true rfl) dX9_boltOf_16 rfl ?_
  refine V_if_eq (tgt := 26) dX9_boltOf_19 (by decide) (fun c19 => absurd c19 (by decide)) (fun c19 => ?_)
  refine V_iconst (v := 0) dX9_boltOf_22 rfl ?_
  refine V_goto (tgt := 27) dX9_boltOf_23 (by decide) ?_
  refine C_X9_111 hM.1 rfl ⟨Nat.le_of_ble_eq_true rfl, Nat.le_of_ble_eq_true rfl⟩ (r9_refused hM 0) rfl (Nat.le_of_ble_eq_true rfl) dX9_boltOf_27 rfl ?_
  refine V_if_eq (tgt := 35) dX9_boltOf_30 (by decide) (fun c30 => ?_) (fun c30 => absurd (by decide) c30)
  refine V_aload_n 0 dX9_boltOf_35 rfl ?_
  refine V_pc (pc2 := 36) rfl ?_
  refine V_iload_n 1 dX9_boltOf_36 rfl ?_
  refine V_iload_n 2 dX9_boltOf_37 rfl ?_
  refine C_X9_236 (hM.v _).1 rfl ⟨Nat.le_of_ble_eq_true rfl, Nat.le_of_ble_eq_true rfl⟩ (r9_bolted (hM.v _) i 1 rfl rfl hi (by decide)) rfl (Nat.le_of_ble_eq_true rfl) dX9_boltOf_38 rfl ?_
  refine V_iret (st := []) dX9_boltOf_41 rfl ?_
  exact ⟨rfl, hL.thr hM v0 v1 v2, (FR.refl M 96 9).put (by omega)⟩

set_option maxRecDepth 20000 in
theorem x_boltOf_ok2 {g : GE} {M : Mem} {sz : Nat} {σ τ : Nat → Int32} {hk : Bool} {n : Nat} {ps : Nat → Nat → Int32} {len : Nat} {tx : Nat → Int32} (hC : CW g M σ τ hk n ps len tx) {x : Int32} (i : Nat) (hx : x = nI i) (hi : i < 8) (hbo : isB σ x = true) : Run g m_X8_boltOf [rf g 0, .int x, .int 2] M sz 0 0 (RetP (some (.int (boltedS σ i 2))) (fun M2 => CW g M2 (σ) (τ) (hk) (n) (ps) (len) (tx) ∧ FR M M2 0 96)) := by
  subst hx
  obtain ⟨p0, y1, y2⟩ := hC.2.1.1
  have hB := hC.2.1.2.2.2.2
  refine Run.of rfl (by decide) (Nat.le_of_ble_eq_true rfl) ?_
  show V g m_X8_boltOf 0 _ [] _ _ _ _ _
  refine V_aload_n 0 dX8_boltOf_0 rfl ?_
  refine V_iload_n 1 dX8_boltOf_1 rfl ?_
  refine C_X8_154 hC.1 rfl ⟨Nat.le_of_ble_eq_true rfl, Nat.le_of_ble_eq_true rfl⟩ (r_checkBolt_ok hC hbo) rfl (Nat.le_of_ble_eq_true rfl) dX8_boltOf_2 rfl ?_
  refine V_iload_n 2 dX8_boltOf_5 rfl ?_
  refine V_iconst (v := 0) dX8_boltOf_6 rfl ?_
  refine V_iconst (v := 3) dX8_boltOf_7 rfl ?_
  refine C_X8_66 rfl ⟨Nat.le_of_ble_eq_true rfl, Nat.le_of_ble_eq_true rfl⟩ (r_checkRange_ok (by decide) (by decide)) rfl (Nat.le_of_ble_eq_true rfl) dX8_boltOf_8 rfl ?_
  refine V_pc (pc2 := 11) rfl ?_
  refine V_iload_n 2 dX8_boltOf_11 rfl ?_
  refine V_tabIn (off := 58) (tgt := 70) dX8_boltOf_12 (by decide) (by decide) (by decide) (by decide) ?_
  refine V_aload_n 0 dX8_boltOf_70 rfl ?_
  refine G_X8_10 rfl hC.1 rfl dX8_boltOf_71 ?_
  refine G_X8_139 rfl y1 rfl dX8_boltOf_74 ?_
  refine G_X8_269 rfl (show _ = some (BO g 6 (σ 60) (σ 62) (σ 61)) from hB.1) rfl dX8_boltOf_77 ?_
  refine V_iload_n 1 dX8_boltOf_80 rfl ?_
  refine C_X8_77 rfl ⟨Nat.le_of_ble_eq_true rfl, Nat.le_of_ble_eq_true rfl⟩ (r_at hB.2.2.2.1 i rfl hi (by decide)) rfl (Nat.le_of_ble_eq_true rfl) dX8_boltOf_81 rfl ?_
  rw [bR_at hi]
  refine V_pc (pc2 := 84) rfl ?_
  refine V_ldcw z_X8_272 dX8_boltOf_84 ?_
  refine V_iadd dX8_boltOf_87 ?_
  refine V_iret (st := []) dX8_boltOf_88 rfl ?_
  exact ⟨rfl, hC, FR.refl _ _ _⟩

set_option maxRecDepth 20000 in
theorem q9_boltOf_ok2 {g : GE} {M : Mem} {sz : Nat} {σ sn : Nat → Int32} {hk : Bool} {n : Nat} {ps : Nat → Nat → Int32} {len : Nat} {tx : Nat → Int32} {th : Int32} (hL : ML g M σ sn hk n ps len tx th) {m : Nat} (hm : σ 60 = nI m) (hm8 : m ≤ 8) {x : Int32} (i : Nat) (hx : x = nI i) (hi : i < 8) (hbo : isB σ x = true) : Run g m_X9_boltOf [rf g 96, .int x, .int 2] M sz 0 0 (RetP (some (.int (boltedS σ i 2))) (fun M2 => ML g M2 (σ) (sn) (hk) (n) (ps) (len) (tx) (0) ∧ FR M M2 96 9)) := by
  subst hx
  obtain ⟨⟨v, hM, v0, v1, v2, v3⟩, ⟨pf, f1, f2⟩, f3, f4, f5⟩ := id hL
  refine Run.of rfl (by decide) (Nat.le_of_ble_eq_true rfl) ?_
  show V g m_X9_boltOf 0 _ [] _ _ _ _ _
  refine V_aload_n 0 dX9_boltOf_0 rfl ?_
  refine V_aload_n 0 dX9_boltOf_1 rfl ?_
  refine V_iload_n 1 dX9_boltOf_2 rfl ?_
  refine C_X9_150 hM.1 rfl ⟨Nat.le_of_ble_eq_true rfl, Nat.le_of_ble_eq_true rfl⟩ (r9_isBolt hM _) rfl (Nat.le_of_ble_eq_true rfl) dX9_boltOf_3 rfl ?_
  rw [isB_in hm hm8]
  refine V_if_ne (tgt := 13) dX9_boltOf_6 (by decide) (fun c6 => ?_) (fun c6 => absurd c6 (by rw [hbo]; decide))
  refine V_iload_n 2 dX9_boltOf_13 rfl ?_
  refine V_iconst (v := 0) dX9_boltOf_14 rfl ?_
  refine V_pc (pc2 := 15) rfl ?_
  refine V_iconst (v := 3) dX9_boltOf_15 rfl ?_
  refine C_X9_44 rfl ⟨Nat.le_of_ble_eq_true rfl, Nat.le_of_ble_eq_true rfl⟩ (r9_in _ _ _) rfl (Nat.le_of_ble_eq_true rfl) dX9_boltOf_16 rfl ?_
  refine V_if_eq (tgt := 26) dX9_boltOf_19 (by decide) (fun c19 => absurd c19 (by decide)) (fun c19 => ?_)
  refine V_iconst (v := 0) dX9_boltOf_22 rfl ?_
  refine V_goto (tgt := 27) dX9_boltOf_23 (by decide) ?_
  refine C_X9_111 hM.1 rfl ⟨Nat.le_of_ble_eq_true rfl, Nat.le_of_ble_eq_true rfl⟩ (r9_refused hM 0) rfl (Nat.le_of_ble_eq_true rfl) dX9_boltOf_27 rfl ?_
  refine V_if_eq (tgt := 35) dX9_boltOf_30 (by decide) (fun c30 => ?_) (fun c30 => absurd (by decide) c30)
  refine V_aload_n 0 dX9_boltOf_35 rfl ?_
  refine V_pc (pc2 := 36) rfl ?_
  refine V_iload_n 1 dX9_boltOf_36 rfl ?_
  refine V_iload_n 2 dX9_boltOf_37 rfl ?_
  refine C_X9_236 (hM.v _).1 rfl ⟨Nat.le_of_ble_eq_true rfl, Nat.le_of_ble_eq_true rfl⟩ (r9_bolted (hM.v _) i 2 rfl rfl hi (by decide)) rfl (Nat.le_of_ble_eq_true rfl) dX9_boltOf_38 rfl ?_
  refine V_iret (st := []) dX9_boltOf_41 rfl ?_
  exact ⟨rfl, hL.thr hM v0 v1 v2, (FR.refl M 96 9).put (by omega)⟩

set_option maxRecDepth 20000 in
theorem x_boltOf_ok3 {g : GE} {M : Mem} {sz : Nat} {σ τ : Nat → Int32} {hk : Bool} {n : Nat} {ps : Nat → Nat → Int32} {len : Nat} {tx : Nat → Int32} (hC : CW g M σ τ hk n ps len tx) {x : Int32} (i : Nat) (hx : x = nI i) (hi : i < 8) (hbo : isB σ x = true) : Run g m_X8_boltOf [rf g 0, .int x, .int 3] M sz 0 0 (RetP (some (.int (boltedS σ i 3))) (fun M2 => CW g M2 (σ) (τ) (hk) (n) (ps) (len) (tx) ∧ FR M M2 0 96)) := by
  subst hx
  obtain ⟨p0, y1, y2⟩ := hC.2.1.1
  have hB := hC.2.1.2.2.2.2
  refine Run.of rfl (by decide) (Nat.le_of_ble_eq_true rfl) ?_
  show V g m_X8_boltOf 0 _ [] _ _ _ _ _
  refine V_aload_n 0 dX8_boltOf_0 rfl ?_
  refine V_iload_n 1 dX8_boltOf_1 rfl ?_
  refine C_X8_154 hC.1 rfl ⟨Nat.le_of_ble_eq_true rfl, Nat.le_of_ble_eq_true rfl⟩ (r_checkBolt_ok hC hbo) rfl (Nat.le_of_ble_eq_true rfl) dX8_boltOf_2 rfl ?_
  refine V_iload_n 2 dX8_boltOf_5 rfl ?_
  refine V_iconst (v := 0) dX8_boltOf_6 rfl ?_
  refine V_iconst (v := 3) dX8_boltOf_7 rfl ?_
  refine C_X8_66 rfl ⟨Nat.le_of_ble_eq_true rfl, Nat.le_of_ble_eq_true rfl⟩ (r_checkRange_ok (by decide) (by decide)) rfl (Nat.le_of_ble_eq_true rfl) dX8_boltOf_8 rfl ?_
  refine V_pc (pc2 := 11) rfl ?_
  refine V_iload_n 2 dX8_boltOf_11 rfl ?_
  refine V_tabOut (tgt := 89) dX8_boltOf_12 (by decide) (by decide) ?_
  refine V_aload_n 0 dX8_boltOf_89 rfl ?_
  refine G_X8_10 rfl hC.1 rfl dX8_boltOf_90 ?_
  refine G_X8_139 rfl y1 rfl dX8_boltOf_93 ?_
  refine G_X8_273 rfl (show _ = some (BO g 6 (σ 60) (σ 62) (σ 61)) from hB.1) rfl dX8_boltOf_96 ?_
  refine V_iload_n 1 dX8_boltOf_99 rfl ?_
  refine C_X8_77 rfl ⟨Nat.le_of_ble_eq_true rfl, Nat.le_of_ble_eq_true rfl⟩ (r_at hB.2.2.2.2 i rfl hi (by decide)) rfl (Nat.le_of_ble_eq_true rfl) dX8_boltOf_100 rfl ?_
  rw [bR_at hi]
  refine V_pc (pc2 := 103) rfl ?_
  refine V_iret (st := []) dX8_boltOf_103 rfl ?_
  exact ⟨rfl, hC, FR.refl _ _ _⟩

set_option maxRecDepth 20000 in
theorem q9_boltOf_ok3 {g : GE} {M : Mem} {sz : Nat} {σ sn : Nat → Int32} {hk : Bool} {n : Nat} {ps : Nat → Nat → Int32} {len : Nat} {tx : Nat → Int32} {th : Int32} (hL : ML g M σ sn hk n ps len tx th) {m : Nat} (hm : σ 60 = nI m) (hm8 : m ≤ 8) {x : Int32} (i : Nat) (hx : x = nI i) (hi : i < 8) (hbo : isB σ x = true) : Run g m_X9_boltOf [rf g 96, .int x, .int 3] M sz 0 0 (RetP (some (.int (boltedS σ i 3))) (fun M2 => ML g M2 (σ) (sn) (hk) (n) (ps) (len) (tx) (0) ∧ FR M M2 96 9)) := by
  subst hx
  obtain ⟨⟨v, hM, v0, v1, v2, v3⟩, ⟨pf, f1, f2⟩, f3, f4, f5⟩ := id hL
  refine Run.of rfl (by decide) (Nat.le_of_ble_eq_true rfl) ?_
  show V g m_X9_boltOf 0 _ [] _ _ _ _ _
  refine V_aload_n 0 dX9_boltOf_0 rfl ?_
  refine V_aload_n 0 dX9_boltOf_1 rfl ?_
  refine V_iload_n 1 dX9_boltOf_2 rfl ?_
  refine C_X9_150 hM.1 rfl ⟨Nat.le_of_ble_eq_true rfl, Nat.le_of_ble_eq_true rfl⟩ (r9_isBolt hM _) rfl (Nat.le_of_ble_eq_true rfl) dX9_boltOf_3 rfl ?_
  rw [isB_in hm hm8]
  refine V_if_ne (tgt := 13) dX9_boltOf_6 (by decide) (fun c6 => ?_) (fun c6 => absurd c6 (by rw [hbo]; decide))
  refine V_iload_n 2 dX9_boltOf_13 rfl ?_
  refine V_iconst (v := 0) dX9_boltOf_14 rfl ?_
  refine V_pc (pc2 := 15) rfl ?_
  refine V_iconst (v := 3) dX9_boltOf_15 rfl ?_
  refine C_X9_44 rfl ⟨Nat.le_of_ble_eq_true rfl, Nat.le_of_ble_eq_true rfl⟩ (r9_in _ _ _) rfl (Nat.le_of_ble_eq_true rfl) dX9_boltOf_16 rfl ?_
  refine V_if_eq (tgt := 26) dX9_boltOf_19 (by decide) (fun c19 => absurd c19 (by decide)) (fun c19 => ?_)
  refine V_iconst (v := 0) dX9_boltOf_22 rfl ?_
  refine V_goto (tgt := 27) dX9_boltOf_23 (by decide) ?_
  refine C_X9_111 hM.1 rfl ⟨Nat.le_of_ble_eq_true rfl, Nat.le_of_ble_eq_true rfl⟩ (r9_refused hM 0) rfl (Nat.le_of_ble_eq_true rfl) dX9_boltOf_27 rfl ?_
  refine V_if_eq (tgt := 35) dX9_boltOf_30 (by decide) (fun c30 => ?_) (fun c30 => absurd (by decide) c30)
  refine V_aload_n 0 dX9_boltOf_35 rfl ?_
  refine V_pc (pc2 := 36) rfl ?_
  refine V_iload_n 1 dX9_boltOf_36 rfl ?_
  refine V_iload_n 2 dX9_boltOf_37 rfl ?_
  refine C_X9_236 (hM.v _).1 rfl ⟨Nat.le_of_ble_eq_true rfl, Nat.le_of_ble_eq_true rfl⟩ (r9_bolted (hM.v _) i 3 rfl rfl hi (by decide)) rfl (Nat.le_of_ble_eq_true rfl) dX9_boltOf_38 rfl ?_
  refine V_iret (st := []) dX9_boltOf_41 rfl ?_
  exact ⟨rfl, hL.thr hM v0 v1 v2, (FR.refl M 96 9).put (by omega)⟩

theorem op_boltOf (g : GE) (a b : Int32) : OPL g m_L_boltOf m_X9_boltOf [rf g 0, .int a, .int b, rf g 105] [rf g 96, .int a, .int b] := by
  rintro M sz ⟨th, σ, τ, sn, hk, n, ps, len, tx, hW⟩
  obtain ⟨w1, w2, ⟨i1, i2, i3, i4, i5, i6⟩, o, w4⟩ := id hW
  obtain ⟨m, hm8, hm, hbs⟩ := i1.2.1
  cases ha : isB σ a with
  | false => exact OPL.bad hW (c := 1) (by decide) (by decide) (h_boltOf_1 w1.1 (x_boltOf_1 w1 ha)) (fun M2 sz2 h => q9_boltOf_1 h hm hm8 ha)
  | true =>
    by_cases hb : b < 0 ∨ ¬ b ≤ 3
    · exact OPL.bad hW (c := 2) (by decide) (by decide) (h_boltOf_2 w1.1 (x_boltOf_2 w1 ha hb)) (fun M2 sz2 h => q9_boltOf_2 h hm hm8 ha hb)
    · obtain ⟨c, _, hc, rfl⟩ := nI_rng (l := 0) (h := 3) (fun h => hb (Or.inl h)) (Decidable.of_not_not (fun h => hb (Or.inr h))) (by decide) (by decide)
      have ha2 := ha
      obtain ⟨i, hi, rfl⟩ := isB_ex hm hm8 ha
      match c, hc with
      | 0, _ => exact OPL.ok hW (σ2 := σ) (τ2 := τ) (sn2 := sn) (hk2 := hk) (n2 := n) (ps2 := ps) (len2 := len) (tx2 := tx) ⟨i1, i2, i3, i4, i5, i6⟩ (h_boltOf_ok w1.1 (x_boltOf_ok0 w1 i rfl (by omega) ha2) (fun M1 q => CW.out w4 q.2)) (fun M2 sz2 h => q9_boltOf_ok0 h hm hm8 i rfl (by omega) ha2)
      | 1, _ => exact OPL.ok hW (σ2 := σ) (τ2 := τ) (sn2 := sn) (hk2 := hk) (n2 := n) (ps2 := ps) (len2 := len) (tx2 := tx) ⟨i1, i2, i3, i4, i5, i6⟩ (h_boltOf_ok w1.1 (x_boltOf_ok1 w1 i rfl (by omega) ha2) (fun M1 q => CW.out w4 q.2)) (fun M2 sz2 h => q9_boltOf_ok1 h hm hm8 i rfl (by omega) ha2)
      | 2, _ => exact OPL.ok hW (σ2 := σ) (τ2 := τ) (sn2 := sn) (hk2 := hk) (n2 := n) (ps2 := ps) (len2 := len) (tx2 := tx) ⟨i1, i2, i3, i4, i5, i6⟩ (h_boltOf_ok w1.1 (x_boltOf_ok2 w1 i rfl (by omega) ha2) (fun M1 q => CW.out w4 q.2)) (fun M2 sz2 h => q9_boltOf_ok2 h hm hm8 i rfl (by omega) ha2)
      | 3, _ => exact OPL.ok hW (σ2 := σ) (τ2 := τ) (sn2 := sn) (hk2 := hk) (n2 := n) (ps2 := ps) (len2 := len) (tx2 := tx) ⟨i1, i2, i3, i4, i5, i6⟩ (h_boltOf_ok w1.1 (x_boltOf_ok3 w1 i rfl (by omega) ha2) (fun M1 q => CW.out w4 q.2)) (fun M2 sz2 h => q9_boltOf_ok3 h hm hm8 i rfl (by omega) ha2)
set_option maxRecDepth 20000 in
theorem x_sell_1 {g : GE} {M : Mem} {sz : Nat} {σ τ : Nat → Int32} {hk : Bool} {n : Nat} {ps : Nat → Nat → Int32} {len : Nat} {tx : Nat → Int32} (hC : CW g M σ τ hk n ps len tx) {a : Int32} (ha : isB σ a = false) : Run g m_X8_sell [rf g 0, .int a] M sz 1 6 (Thr (exN 0) M) := by
  refine Run.of rfl (by decide) (Nat.le_of_ble_eq_true rfl) ?_
  show V g m_X8_sell 0 _ [] _ _ _ _ _
  refine V_aload_n 0 dX8_sell_0 rfl ?_
  refine V_iload_n 1 dX8_sell_1 rfl ?_
  refine Ct_X8_154 hC.1 rfl rfl ⟨Nat.le_of_ble_eq_true rfl, Nat.le_of_ble_eq_true rfl⟩ (r_checkBolt_bad hC ha) rfl (Nat.le_of_ble_eq_true rfl) dX8_sell_2 rfl ?_
  exact ⟨rfl, rfl⟩

set_option maxRecDepth 20000 in
theorem x_sell_ok {g : GE} {M : Mem} {sz : Nat} {σ τ : Nat → Int32} {hk : Bool} {n : Nat} {ps : Nat → Nat → Int32} {len : Nat} {tx : Nat → Int32} (hC : CW g M σ τ hk n ps len tx) (hn : n ≤ 6) {x : Int32} (i q m : Nat) (hx : x = nI i) (hm : σ 60 = nI m) (hm8 : m ≤ 8) (hi : i < m) (hq : q < 5) (hσq : σ (28 + 4 * i) = nI q) (hs : 0 < σ (20 + q)) (hbo : isB σ x = true) : Run g m_X8_sell [rf g 0, .int x] M sz 0 0 (RetP (some (.int (σ (28 + 4 * i + 1) / σ (20 + q)))) (fun M2 => CW g M2 (goS σ i m) (τ) (hk) (pshN n) (pshP n ps σ) (len) (tx) ∧ FR M M2 0 96)) := by
  subst hx
  have hi8 : i < 8 := by omega
  obtain ⟨p0, y1, y2⟩ := hC.2.1.1
  refine Run.of rfl (by decide) (Nat.le_of_ble_eq_true rfl) ?_
  show V g m_X8_sell 0 _ [] _ _ _ _ _
  refine V_aload_n 0 dX8_sell_0 rfl ?_
  refine V_iload_n 1 dX8_sell_1 rfl ?_
  refine C_X8_154 hC.1 rfl ⟨Nat.le_of_ble_eq_true rfl, Nat.le_of_ble_eq_true rfl⟩ (r_checkBolt_ok hC hbo) rfl (Nat.le_of_ble_eq_true rfl) dX8_sell_2 rfl ?_
  refine V_aload_n 0 dX8_sell_5 rfl ?_
  refine G_X8_22 rfl hC.1 rfl dX8_sell_6 ?_
  refine V_aload_n 0 dX8_sell_9 rfl ?_
  refine G_X8_10 rfl hC.1 rfl dX8_sell_10 ?_
  refine V_pc (pc2 := 13) rfl ?_
  refine Cp_X8_70 hC.2.2.2.1.choose_spec.1 rfl ⟨Nat.le_of_ble_eq_true rfl, Nat.le_of_ble_eq_true rfl⟩ (r_push hC.2.2.2.1 hn hC.2.1 (by omega)) rfl (Nat.le_of_ble_eq_true rfl) dX8_sell_13 rfl (fun _ q9 => ?_)
  have hC2 := hC.psh q9.1 q9.2
  have hF2 := q9.2
  clear q9
  obtain ⟨p9, y3, y4⟩ := hC2.2.1.1
  refine V_aload_n 0 dX8_sell_16 rfl ?_
  refine G_X8_10 rfl hC2.1 rfl dX8_sell_17 ?_
  refine G_X8_74 rfl y3 rfl dX8_sell_20 ?_
  refine V_aload_n 0 dX8_sell_23 rfl ?_
  refine G_X8_10 rfl hC2.1 rfl dX8_sell_24 ?_
  refine G_X8_139 rfl y3 rfl dX8_sell_27 ?_
  refine G_X8_169 rfl (show _ = some (BO g 6 (σ 60) (σ 62) (σ 61)) from hC2.2.1.2.2.2.2.1) rfl dX8_sell_30 ?_
  refine V_pc (pc2 := 33) rfl ?_
  refine V_iload_n 1 dX8_sell_33 rfl ?_
  refine C_X8_77 rfl ⟨Nat.le_of_ble_eq_true rfl, Nat.le_of_ble_eq_true rfl⟩ (r_at hC2.2.1.2.2.2.2.2.1 i rfl hi8 (by decide)) rfl (Nat.le_of_ble_eq_true rfl) dX8_sell_34 rfl ?_
  rw [bR_at hi8, show σ (28 + 4 * i + 0) = nI q from hσq]
  refine C_X8_77 rfl ⟨Nat.le_of_ble_eq_true rfl, Nat.le_of_ble_eq_true rfl⟩ (r_at hC2.2.1.2.1 q rfl hq (by decide)) rfl (Nat.le_of_ble_eq_true rfl) dX8_sell_37 rfl ?_
  rw [stR_at hq]
  refine V_istore_n (lv2 := [(2, .int _), (0, .ref _), (1, .int _)]) dX8_sell_40 (Nat.le_of_ble_eq_true rfl) rfl ?_
  refine V_aload_n 1 dX8_sell_41 rfl ?_
  refine G_X8_10 rfl hC2.1 rfl dX8_sell_42 ?_
  refine G_X8_139 rfl y3 rfl dX8_sell_45 ?_
  refine G_X8_166 rfl (show _ = some (BO g 6 (σ 60) (σ 62) (σ 61)) from hC2.2.1.2.2.2.2.1) rfl dX8_sell_48 ?_
  refine V_pc (pc2 := 51) rfl ?_
  refine V_iload_n 2 dX8_sell_51 rfl ?_
  refine C_X8_77 rfl ⟨Nat.le_of_ble_eq_true rfl, Nat.le_of_ble_eq_true rfl⟩ (r_at hC2.2.1.2.2.2.2.2.2.1 i rfl hi8 (by decide)) rfl (Nat.le_of_ble_eq_true rfl) dX8_sell_52 rfl ?_
  rw [bR_at hi8]
  refine V_istore_n (lv2 := [(3, .int _), (2, .int _), (0, .ref _), (1, .int _)]) dX8_sell_55 (Nat.le_of_ble_eq_true rfl) rfl ?_
  refine V_aload_n 2 dX8_sell_56 rfl ?_
  refine G_X8_10 rfl hC2.1 rfl dX8_sell_57 ?_
  refine G_X8_139 rfl y3 rfl dX8_sell_60 ?_
  refine V_iload_n 3 dX8_sell_63 rfl ?_
  refine Cp_X8_172 (show _ = some (BO g 6 (σ 60) (σ 62) (σ 61)) from hC2.2.1.2.2.2.2.1) rfl ⟨Nat.le_of_ble_eq_true rfl, Nat.le_of_ble_eq_true rfl⟩ (r_go hC2.2.1.2.2.2.2 i m rfl hm hm8 hi) rfl (Nat.le_of_ble_eq_true rfl) dX8_sell_64 rfl (fun _ q8 => ?_)
  have hC3 := hC2.now (hC2.2.1.bol q8.1 q8.2 (fun k hk => goS_lo (by omega) hm8 (by omega) (by omega))) (q8.2.wide (by omega))
  have hF3 := q8.2
  clear q8
  refine V_pc (pc2 := 67) rfl ?_
  refine V_iload_n 1 dX8_sell_67 rfl ?_
  refine V_if_le (tgt := 77) dX8_sell_68 (by decide) (fun c68 => absurd c68 (Int32.not_le.mpr hs)) (fun c68 => ?_)
  refine V_iload_n 0 dX8_sell_71 rfl ?_
  refine V_iload_n 1 dX8_sell_72 rfl ?_
  refine V_idiv dX8_sell_73 (fun e => by rw [e] at hs; exact absurd hs (by decide)) ?_
  refine V_goto (tgt := 78) dX8_sell_74 (by decide) ?_
  refine V_iret (st := []) dX8_sell_78 rfl ?_
  exact ⟨rfl, hC3, FR.trans (b := 0) (n := 96) (FR.wide hF2 (b2 := 0) (n2 := 96) (by omega)) hF3 (by omega)⟩

set_option maxRecDepth 20000 in
theorem q9_sell_1 {g : GE} {M : Mem} {sz : Nat} {σ sn : Nat → Int32} {hk : Bool} {n : Nat} {ps : Nat → Nat → Int32} {len : Nat} {tx : Nat → Int32} {th : Int32} (hL : ML g M σ sn hk n ps len tx th) {m : Nat} (hm : σ 60 = nI m) (hm8 : m ≤ 8) {a : Int32} (ha : isB σ a = false) : Run g m_X9_sell [rf g 96, .int a] M sz 0 0 (RetP (some (.int 0)) (fun M2 => ML g M2 (σ) (sn) (hk) (n) (ps) (len) (tx) (1) ∧ FR M M2 96 9)) := by
  obtain ⟨⟨v, hM, v0, v1, v2, v3⟩, ⟨pf, f1, f2⟩, f3, f4, f5⟩ := id hL
  refine Run.of rfl (by decide) (Nat.le_of_ble_eq_true rfl) ?_
  show V g m_X9_sell 0 _ [] _ _ _ _ _
  refine V_aload_n 0 dX9_sell_0 rfl ?_
  refine V_aload_n 0 dX9_sell_1 rfl ?_
  refine V_iload_n 1 dX9_sell_2 rfl ?_
  refine C_X9_150 hM.1 rfl ⟨Nat.le_of_ble_eq_true rfl, Nat.le_of_ble_eq_true rfl⟩ (r9_isBolt hM _) rfl (Nat.le_of_ble_eq_true rfl) dX9_sell_3 rfl ?_
  rw [isB_in hm hm8]
  refine V_if_eq (tgt := 13) dX9_sell_6 (by decide) (fun c6 => ?_) (fun c6 => absurd (by rw [ha]; rfl) c6)
  refine V_iconst (v := 1) dX9_sell_13 rfl ?_
  refine C_X9_111 hM.1 rfl ⟨Nat.le_of_ble_eq_true rfl, Nat.le_of_ble_eq_true rfl⟩ (r9_refused hM 1) rfl (Nat.le_of_ble_eq_true rfl) dX9_sell_14 rfl ?_
  refine V_pc (pc2 := 17) rfl ?_
  refine V_if_eq (tgt := 22) dX9_sell_17 (by decide) (fun c17 => absurd c17 (by decide)) (fun c17 => ?_)
  refine V_iconst (v := 0) dX9_sell_20 rfl ?_
  refine V_iret (st := []) dX9_sell_21 rfl ?_
  refine ⟨rfl, hL.thr hM v0 v1 v2, (FR.refl M 96 9).put (by omega)⟩

def goT (σ : Nat → Int32) (i m j : Nat) : Nat → Int32 := fun k => if 28 + 4 * i ≤ k ∧ k < 28 + j then upd (upd σ 60 (nI (m - 1))) 62 (σ 62 + 1) (k + 4) else upd (upd σ 60 (nI (m - 1))) 62 (σ 62 + 1) k
theorem goT_0 (σ : Nat → Int32) (i m : Nat) : goT σ i m (4 * i) = upd (upd σ 60 (nI (m - 1))) 62 (σ 62 + 1) := by funext k; unfold goT; rw [if_neg (by omega)]
theorem goT_s (σ : Nat → Int32) {i m j : Nat} (h : 4 * i ≤ j) : upd (goT σ i m j) (28 + j) (goT σ i m j (28 + j + 4)) = goT σ i m (j + 1) := by
  funext k
  by_cases e : k = 28 + j
  · subst e; rw [upd_at]; unfold goT; rw [if_neg (by omega), if_pos (by omega)]
  · rw [upd_ne e]; unfold goT
    by_cases h2 : 28 + 4 * i ≤ k ∧ k < 28 + j
    · rw [if_pos h2, if_pos (by omega)]
    · rw [if_neg h2, if_neg (by omega)]
theorem goT_n (σ : Nat → Int32) {i m : Nat} (hm : m ≤ 8) (hi : i < m) : goT σ i m (4 * (m - 1)) = goS σ i m := by
  funext k
  unfold goT goS
  by_cases h : 28 + 4 * i ≤ k ∧ k < 28 + 4 * (m - 1)
  · rw [if_pos h, upd_ne (by omega), upd_ne (by omega), upd_ne (by omega), upd_ne (by omega), if_pos h]
  · rw [if_neg h]
    by_cases h2 : k = 62
    · subst h2; rw [upd_at, upd_at]
    · rw [upd_ne h2, upd_ne h2]
      by_cases h0 : k = 60
      · subst h0; rw [upd_at, upd_at]
      · rw [upd_ne h0, upd_ne h0, if_neg h]
theorem goT_60 (σ : Nat → Int32) {i m j : Nat} (hm : m ≤ 8) (hj : j ≤ 4 * (m - 1)) : goT σ i m j 60 = nI (m - 1) := by unfold goT; rw [if_neg (by omega), upd_ne (by decide), upd_at]
set_option maxRecDepth 20000 in
theorem sell_loop {g : GE} {M : Mem} {sz : Nat} {σ w : Nat → Int32} (hW : MD g M σ w) (i m : Nat) (hm8 : m ≤ 8) (hi : i < m) {r : Int32} {Q : Ou → Mem → Prop} (hq : Q (.inl (some (.int r))) (mup M 97 (eI g 65 (goS σ i m)))) : ∀ e j : Nat, j + e = 4 * (m - 1) → 4 * i ≤ j → V g m_X9_sell 74 [(3, .int (nI j)), (2, .int r), (0, rf g 96), (1, .int (nI i))] [] (mup M 97 (eI g 65 (goT σ i m j))) sz 0 0 Q := by
  intro e
  induction e with
  | zero =>
    intro j hj hij
    obtain rfl : j = 4 * (m - 1) := by omega
    refine V_iload_n 0 dX9_sell_74 rfl ?_
    refine V_iconst (v := 4) dX9_sell_75 rfl ?_
    refine V_aload_n 2 dX9_sell_76 rfl ?_
    refine G_X9_7 rfl (hW.put _).1 rfl dX9_sell_77 ?_
    refine V_bipush (v := 60) dX9_sell_80 (by decide) ?_
    refine V_iald (hW.put _).2.1 (v65 60 (by decide)) dX9_sell_82 ?_
    refine V_imul dX9_sell_83 ?_
    refine V_pc (pc2 := 84) rfl ?_
    rw [show (60 : Int32).toNatClampNeg = 60 from rfl, goT_60 σ hm8 (by omega), show (4 : Int32) = nI 4 from rfl, pk_mul]
    refine V_icmp_ge (tgt := 113) dX9_sell_84 (by decide) (fun c84 => ?_) (fun c84 => absurd (nI_le (Nat.le_refl _) (by omega)) c84)
    refine V_iload_n 1 dX9_sell_113 rfl ?_
    refine V_iret (st := []) dX9_sell_114 rfl ?_
    rw [goT_n σ hm8 hi]; exact hq
  | succ e ih =>
    intro j hj hij
    have hlt : j < 4 * (m - 1) := by omega
    refine V_iload_n 0 dX9_sell_74 rfl ?_
    refine V_iconst (v := 4) dX9_sell_75 rfl ?_
    refine V_aload_n 2 dX9_sell_76 rfl ?_
    refine G_X9_7 rfl (hW.put _).1 rfl dX9_sell_77 ?_
    refine V_bipush (v := 60) dX9_sell_80 (by decide) ?_
    refine V_iald (hW.put _).2.1 (v65 60 (by decide)) dX9_sell_82 ?_
    refine V_imul dX9_sell_83 ?_
    refine V_pc (pc2 := 84) rfl ?_
    rw [show (60 : Int32).toNatClampNeg = 60 from rfl, goT_60 σ hm8 (by omega), show (4 : Int32) = nI 4 from rfl, pk_mul]
    refine V_icmp_ge (tgt := 113) dX9_sell_84 (by decide) (fun c84 => absurd c84 (nI_ge hlt (by omega))) (fun c84 => ?_)
    refine V_aload_n 2 dX9_sell_87 rfl ?_
    refine G_X9_7 rfl (hW.put _).1 rfl dX9_sell_88 ?_
    refine V_bipush (v := 28) dX9_sell_91 (by decide) ?_
    refine V_iload_n 0 dX9_sell_93 rfl ?_
    refine V_iadd dX9_sell_94 ?_
    refine V_aload_n 2 dX9_sell_95 rfl ?_
    refine G_X9_7 rfl (hW.put _).1 rfl dX9_sell_96 ?_
    refine V_pc (pc2 := 99) rfl ?_
    refine V_bipush (v := 28) dX9_sell_99 (by decide) ?_
    refine V_iload_n 0 dX9_sell_101 rfl ?_
    refine V_iadd dX9_sell_102 ?_
    refine V_iconst (v := 4) dX9_sell_103 rfl ?_
    refine V_iadd dX9_sell_104 ?_
    refine V_iald (hW.put _).2.1 (by rw [show (28 : Int32) = nI 28 from rfl, nI_add, show (4 : Int32) = nI 4 from rfl, nI_add]; exact vp_in_nI (n := 28 + j + 4) (by omega) (by decide)) dX9_sell_105 ?_
    refine V_iast (hW.put _).2.1 (by rw [show (28 : Int32) = nI 28 from rfl, nI_add]; exact vp_in_nI (n := 28 + j) (by omega) (by decide)) dX9_sell_106 ?_
    refine V_iinc (v := _ + 1) (lv2 := [(3, .int _), (2, .int _), (0, .ref _), (1, .int _)]) 0 dX9_sell_107 rfl rfl (Nat.le_of_ble_eq_true rfl) rfl ?_
    refine V_pc (pc2 := 110) rfl ?_
    refine V_goto (tgt := 74) dX9_sell_110 (by decide) ?_
    refine V_lv (lv2 := [(3, .int _), (2, .int _), (0, .ref _), (1, .int _)]) [0, 1, 2, 3] rfl ?_
    rw [nI_1, show (28 : Int32) = nI 28 from rfl, nI_add, show (4 : Int32) = nI 4 from rfl, nI_add, nI_clamp (n := 28 + j) (by omega), nI_clamp (n := 28 + j + 4) (by omega), mup_mup, goT_s σ hij]
    exact ih (j + 1) (by omega) (by omega)

set_option maxRecDepth 20000 in
theorem q9_sell_ok {g : GE} {M : Mem} {sz : Nat} {σ sn : Nat → Int32} {hk : Bool} {n : Nat} {ps : Nat → Nat → Int32} {len : Nat} {tx : Nat → Int32} {th : Int32} (hL : ML g M σ sn hk n ps len tx th) (hn : n ≤ 6) {x : Int32} (i q m : Nat) (hx : x = nI i) (hm : σ 60 = nI m) (hm8 : m ≤ 8) (hi : i < m) (hq : q < 5) (hσq : σ (28 + 4 * i) = nI q) (hs : 0 < σ (20 + q)) (hbo : isB σ x = true) : Run g m_X9_sell [rf g 96, .int x] M sz 0 0 (RetP (some (.int (σ (28 + 4 * i + 1) / σ (20 + q)))) (fun M2 => ML g M2 (goS σ i m) (sn) (hk) (pshN n) (pshP n ps σ) (len) (tx) (0) ∧ FR M M2 96 9)) := by
  subst hx
  have hi8 : i < 8 := by omega
  obtain ⟨⟨v, hM, v0, v1, v2, v3⟩, ⟨pf, f1, f2⟩, f3, f4, f5⟩ := id hL
  refine Run.of rfl (by decide) (Nat.le_of_ble_eq_true rfl) ?_
  show V g m_X9_sell 0 _ [] _ _ _ _ _
  refine V_aload_n 0 dX9_sell_0 rfl ?_
  refine V_aload_n 0 dX9_sell_1 rfl ?_
  refine V_iload_n 1 dX9_sell_2 rfl ?_
  refine C_X9_150 hM.1 rfl ⟨Nat.le_of_ble_eq_true rfl, Nat.le_of_ble_eq_true rfl⟩ (r9_isBolt hM _) rfl (Nat.le_of_ble_eq_true rfl) dX9_sell_3 rfl ?_
  rw [isB_in hm hm8]
  refine V_if_eq (tgt := 13) dX9_sell_6 (by decide) (fun c6 => absurd c6 (by rw [hbo]; decide)) (fun c6 => ?_)
  refine V_iconst (v := 0) dX9_sell_9 rfl ?_
  refine V_goto (tgt := 14) dX9_sell_10 (by decide) ?_
  refine V_pc (pc2 := 14) rfl ?_
  refine C_X9_111 hM.1 rfl ⟨Nat.le_of_ble_eq_true rfl, Nat.le_of_ble_eq_true rfl⟩ (r9_refused hM 0) rfl (Nat.le_of_ble_eq_true rfl) dX9_sell_14 rfl ?_
  refine V_if_eq (tgt := 22) dX9_sell_17 (by decide) (fun c17 => ?_) (fun c17 => absurd (by decide) c17)
  refine V_aload_n 0 dX9_sell_22 rfl ?_
  refine Cp_X9_114 (hM.v _).1 rfl ⟨Nat.le_of_ble_eq_true rfl, Nat.le_of_ble_eq_true rfl⟩ (r9_saves (hM.v _) (show _ = some (eI g 390 pf) from (mup_ne _ _ (by decide)).trans f1) n (show upd v 3 _ 0 = nI n from v0) hn f2) rfl (Nat.le_of_ble_eq_true rfl) dX9_sell_23 rfl (fun _ q9 => ?_)
  have hL2 := hL.sav hM v0 v1 v2 q9
  have hF2 := SV.fr q9
  clear q9
  obtain ⟨⟨w, hW, w0, w1, w2, w3⟩, ⟨pf2, g1, g2⟩, g3, g4, g5⟩ := id hL2
  refine V_aload_n 0 dX9_sell_26 rfl ?_
  refine V_iload_n 1 dX9_sell_27 rfl ?_
  refine V_iconst (v := 1) dX9_sell_28 rfl ?_
  refine C_X9_142 hW.1 rfl ⟨Nat.le_of_ble_eq_true rfl, Nat.le_of_ble_eq_true rfl⟩ (r9_ofBolt hW i 1 rfl rfl hi8 (by decide)) rfl (Nat.le_of_ble_eq_true rfl) dX9_sell_29 rfl ?_
  refine V_pc (pc2 := 32) rfl ?_
  refine V_aload_n 0 dX9_sell_32 rfl ?_
  refine G_X9_7 rfl hW.1 rfl dX9_sell_33 ?_
  refine V_bipush (v := 20) dX9_sell_36 (by decide) ?_
  refine V_aload_n 0 dX9_sell_38 rfl ?_
  refine V_iload_n 1 dX9_sell_39 rfl ?_
  refine V_iconst (v := 0) dX9_sell_40 rfl ?_
  refine C_X9_142 hW.1 rfl ⟨Nat.le_of_ble_eq_true rfl, Nat.le_of_ble_eq_true rfl⟩ (r9_ofBolt hW i 0 rfl rfl hi8 (by decide)) rfl (Nat.le_of_ble_eq_true rfl) dX9_sell_41 rfl ?_
  rw [show σ (28 + 4 * i + 0) = nI q from hσq]
  refine V_iadd dX9_sell_44 ?_
  refine V_pc (pc2 := 45) rfl ?_
  refine V_iald hW.2.1 (by rw [show (20 : Int32) = nI 20 from rfl, nI_add]; exact vp_in_nI (n := 20 + q) (by omega) (by decide)) dX9_sell_45 ?_
  rw [show (20 : Int32) = nI 20 from rfl, nI_add, nI_clamp (by omega)]
  refine V_idiv dX9_sell_46 (fun e => by rw [e] at hs; exact absurd hs (by decide)) ?_
  refine V_istore_n (lv2 := [(2, .int _), (0, .ref _), (1, .int _)]) dX9_sell_47 (Nat.le_of_ble_eq_true rfl) rfl ?_
  refine V_aload_n 1 dX9_sell_48 rfl ?_
  refine G_X9_7 rfl hW.1 rfl dX9_sell_49 ?_
  refine V_bipush (v := 60) dX9_sell_52 (by decide) ?_
  refine V_dup2 dX9_sell_54 rfl rfl ?_
  refine V_iald hW.2.1 (v65 60 (by decide)) dX9_sell_55 ?_
  refine V_pc (pc2 := 56) rfl ?_
  refine V_iconst (v := 1) dX9_sell_56 rfl ?_
  refine V_isub dX9_sell_57 ?_
  refine V_iast hW.2.1 (v65 60 (by decide)) dX9_sell_58 ?_
  refine V_aload_n 1 dX9_sell_59 rfl ?_
  refine G_X9_7 rfl (show _ = some (MO g w) from (mup_ne _ _ (by decide)).trans hW.1) rfl dX9_sell_60 ?_
  refine V_bipush (v := 62) dX9_sell_63 (by decide) ?_
  refine V_dup2 dX9_sell_65 rfl rfl ?_
  refine V_iald (mup_eq _ _ _) (v65 62 (by decide)) dX9_sell_66 ?_
  refine V_pc (pc2 := 67) rfl ?_
  refine V_iconst (v := 1) dX9_sell_67 rfl ?_
  refine V_iadd dX9_sell_68 ?_
  refine V_iast (mup_eq _ _ _) (v65 62 (by decide)) dX9_sell_69 ?_
  refine V_iconst (v := 4) dX9_sell_70 rfl ?_
  refine V_iload_n 2 dX9_sell_71 rfl ?_
  refine V_imul dX9_sell_72 ?_
  refine V_istore_n (lv2 := [(3, .int _), (2, .int _), (0, .ref _), (1, .int _)]) dX9_sell_73 (Nat.le_of_ble_eq_true rfl) rfl ?_
  refine V_lv (lv2 := [(3, .int _), (2, .int _), (0, .ref _), (1, .int _)]) [0, 1, 2, 3] rfl ?_
  have e9 := sell_loop (sz := sz) (r := σ (28 + 4 * i + 1) / σ (20 + q)) hW i m hm8 hi (Q := RetP (some (.int (σ (28 + 4 * i + 1) / σ (20 + q)))) (fun M2 => ML g M2 (goS σ i m) sn hk (pshN n) (pshP n ps σ) len tx 0 ∧ FR M M2 96 9)) ⟨rfl, hL2.set _, hF2.put (by omega)⟩ (4 * (m - 1) - 4 * i) (4 * i) (by omega) (Nat.le_refl _)
  rw [goT_0] at e9
  rw [show (4 : Int32) = nI 4 from rfl, pk_mul, mup_mup, show (60 : Int32).toNatClampNeg = 60 from rfl, show (62 : Int32).toNatClampNeg = 62 from rfl, hm, show nI m - 1 = nI (m - 1) by rw [show (1 : Int32) = nI 1 from rfl, pk_sub (by omega)], upd_ne (show 62 ≠ 60 by decide)]
  exact e9

theorem IS.go {σ : Nat → Int32} (h : IS σ) {i m : Nat} (hm : σ 60 = nI m) (hm8 : m ≤ 8) (hi : i < m) : IS (goS σ i m) := by
  obtain ⟨h1, ⟨n, hn, hn2, h2⟩, h3, h4, h5, h6, h7⟩ := h
  obtain rfl : n = m := (nI_eq (by omega) (by omega)).mp (hn2.symm.trans hm)
  have e : ∀ k, k < 28 ∨ 60 ≤ k → k ≠ 60 → k ≠ 62 → goS σ i n k = σ k := fun k hk a b => goS_lo hk hm8 a b
  refine ⟨fun k hk => by rw [e _ (by omega) (by omega) (by omega), e _ (by omega) (by omega) (by omega)]; exact h1 k hk, ⟨n - 1, by omega, goS_60 _ _ _, fun j hj => ?_⟩, fun j hj => by rw [e _ (by omega) (by omega) (by omega)]; exact h3 j hj, by rw [e _ (by omega) (by omega) (by omega)]; exact h4, by rw [e _ (by omega) (by omega) (by omega)]; exact h5, by rw [e _ (by omega) (by omega) (by omega)]; exact h6, by rw [e _ (by omega) (by omega) (by omega), e _ (by omega) (by omega) (by omega)]; exact h7⟩
  unfold goS
  rw [upd_ne (by omega), upd_ne (by omega), upd_ne (by omega), upd_ne (by omega)]
  by_cases hij : i ≤ j
  · rw [if_pos (by omega), if_pos (by omega), show 28 + 4 * j + 4 = 28 + 4 * (j + 1) by omega, show 28 + 4 * j + 1 + 4 = 28 + 4 * (j + 1) + 1 by omega]
    exact h2 (j + 1) (by omega)
  · rw [if_neg (by omega), if_neg (by omega)]
    exact h2 j (by omega)
theorem op_sell (g : GE) (a : Int32) : OPL g m_L_sell m_X9_sell [rf g 0, .int a, rf g 105] [rf g 96, .int a] := by
  rintro M sz ⟨th, σ, τ, sn, hk, n, ps, len, tx, hW⟩
  obtain ⟨w1, w2, ⟨i1, i2, i3, i4, i5, i6⟩, o, w4⟩ := id hW
  obtain ⟨m, hm8, hm, hbs⟩ := i1.2.1
  cases ha : isB σ a with
  | false => exact OPL.bad hW (c := 1) (by decide) (by decide) (h_sell_1 w1.1 (x_sell_1 w1 ha)) (fun M2 sz2 h => q9_sell_1 h hm hm8 ha)
  | true =>
    have ha2 := ha
    obtain ⟨i, hi, rfl⟩ := isB_ex hm hm8 ha
    obtain ⟨⟨q, hq, hσq⟩, _⟩ := hbs i hi
    have hs : 0 < σ (20 + q) := by
      obtain ⟨k, k1, k2, k3⟩ := i1.2.2.1 q hq
      rw [k3]; exact nI_gt0 (by omega) (by omega)
    exact OPL.ok hW (σ2 := goS σ i m) (τ2 := τ) (sn2 := sn) (hk2 := hk) (n2 := pshN n) (ps2 := pshP n ps σ) (len2 := len) (tx2 := tx) ⟨i1.go hm hm8 hi, i2, pshN_le i3, IS.psh i3 i4 i1, i5, i6⟩ (h_sell_ok w1.1 (x_sell_ok w1 i3 i q m rfl hm hm8 hi hq hσq hs ha2) (fun M1 q => CW.out w4 q.2)) (fun M2 sz2 h => q9_sell_ok h i3 i q m rfl hm hm8 hi hq hσq hs ha2)
