/-! switches -/
theorem V_tabOut {g : GE} {mt : MT} {pc : Nat} {lv : List (Nat × Value)} {st : List Value} {M : Mem} {sz kc ks : Nat} {Q : Ou → Mem → Prop} {dflt lo hi : Int} {offs : Array Int} {len : Nat} {x : Int32} {tgt : Nat} (d : decode (mC mt) pc = .ok (.tableswitch dflt lo hi offs, len)) (h : x.toInt < lo ∨ hi < x.toInt) (ht : (pc : Int) + dflt = (tgt : Int)) (k : V g mt tgt lv st M sz kc ks Q) : V g mt pc lv (.int x :: st) M sz kc ks Q := by
  intro p e R s m args below meth c H locs cells slots mc ms ls a1 a2 a3 a4 a5 a6 a7 a8 a9
  exact lv_tableOut a1.1 a1.2.1 d h ht (k p e R s m args below meth c H locs cells slots mc ms ls a1 a2 a3 a4 a5 a6 a7 a8 a9)
theorem V_tabIn {g : GE} {mt : MT} {pc : Nat} {lv : List (Nat × Value)} {st : List Value} {M : Mem} {sz kc ks : Nat} {Q : Ou → Mem → Prop} {dflt lo hi off : Int} {offs : Array Int} {len : Nat} {x : Int32} {tgt : Nat} (d : decode (mC mt) pc = .ok (.tableswitch dflt lo hi offs, len)) (h1 : ¬ x.toInt < lo) (h2 : ¬ hi < x.toInt) (ho : offs[(x.toInt - lo).toNat]? = some off) (ht : (pc : Int) + off = (tgt : Int)) (k : V g mt tgt lv st M sz kc ks Q) : V g mt pc lv (.int x :: st) M sz kc ks Q := by
  intro p e R s m args below meth c H locs cells slots mc ms ls a1 a2 a3 a4 a5 a6 a7 a8 a9
  exact lv_tableIn a1.1 a1.2.1 d h1 h2 ho ht (k p e R s m args below meth c H locs cells slots mc ms ls a1 a2 a3 a4 a5 a6 a7 a8 a9)
theorem V_look {g : GE} {mt : MT} {pc : Nat} {lv : List (Nat × Value)} {st : List Value} {M : Mem} {sz kc ks : Nat} {Q : Ou → Mem → Prop} {dflt off : Int} {ps : Array (Int × Int)} {len : Nat} {x : Int32} {tgt : Nat} (d : decode (mC mt) pc = .ok (.lookupswitch dflt ps, len)) (hp : (ps.toList.zip (ps.toList.drop 1)).all (fun (a, next) => a.1 < next.1) = true) (ho : Op.lookupswitch.offset ps.toList dflt x.toInt = off) (ht : (pc : Int) + off = (tgt : Int)) (k : V g mt tgt lv st M sz kc ks Q) : V g mt pc lv (.int x :: st) M sz kc ks Q := by
  intro p e R s m args below meth c H locs cells slots mc ms ls a1 a2 a3 a4 a5 a6 a7 a8 a9
  exact lv_lookup a1.1 a1.2.1 d hp ho ht (k p e R s m args below meth c H locs cells slots mc ms ls a1 a2 a3 a4 a5 a6 a7 a8 a9)
/-! boltOf, sell, append -/
set_option maxRecDepth 20000 in
theorem x_boltOf_1 {g : GE} {M : Mem} {sz : Nat} {σ τ : Nat → Int32} {hk : Bool} {n : Nat} {ps : Nat → Nat → Int32} {len : Nat} {tx : Nat → Int32} (hC : CW g M σ τ hk n ps len tx) {a b : Int32} (ha : isB σ a = false) : Run g m_X8_boltOf [rf g 0, .int a, .int b] M sz 1 6 (Thr (exN 0) M) := by
  refine Run.of rfl (by decide) (Nat.le_of_ble_eq_true rfl) ?_
  show V g m_X8_boltOf 0 _ [] _ _ _ _ _
  refine V_aload_n 0 dX8_boltOf_0 rfl ?_
  refine V_iload_n 1 dX8_boltOf_1 rfl ?_
  refine Ct_X8_154 hC.1 rfl rfl ⟨Nat.le_of_ble_eq_true rfl, Nat.le_of_ble_eq_true rfl⟩ (r_checkBolt_bad hC ha) rfl (Nat.le_of_ble_eq_true rfl) dX8_boltOf_2 rfl ?_
  exact ⟨rfl, rfl⟩
set_option maxRecDepth 20000 in
theorem x_boltOf_2 {g : GE} {M : Mem} {sz : Nat} {σ τ : Nat → Int32} {hk : Bool} {n : Nat} {ps : Nat → Nat → Int32} {len : Nat} {tx : Nat → Int32} (hC : CW g M σ τ hk n ps len tx) {a b : Int32} (ha : isB σ a = true) (hb : b < 0 ∨ ¬ b ≤ 3) : Run g m_X8_boltOf [rf g 0, .int a, .int b] M sz 1 6 (Thr (exN 1) M) := by
  refine Run.of rfl (by decide) (Nat.le_of_ble_eq_true rfl) ?_
  show V g m_X8_boltOf 0 _ [] _ _ _ _ _
  refine V_aload_n 0 dX8_boltOf_0 rfl ?_
  refine V_iload_n 1 dX8_boltOf_1 rfl ?_
  refine C_X8_154 hC.1 rfl ⟨Nat.le_of_ble_eq_true rfl, Nat.le_of_ble_eq_true rfl⟩ (r_checkBolt_ok hC ha) rfl (Nat.le_of_ble_eq_true rfl) dX8_boltOf_2 rfl ?_
  refine V_iload_n 2 dX8_boltOf_5 rfl ?_
  refine V_iconst (v := 0) dX8_boltOf_6 rfl ?_
  refine V_iconst (v := 3) dX8_boltOf_7 rfl ?_
  refine Ct_X8_66 rfl rfl ⟨Nat.le_of_ble_eq_true rfl, Nat.le_of_ble_eq_true rfl⟩ (r_checkRange_bad hb) rfl (Nat.le_of_ble_eq_true rfl) dX8_boltOf_8 rfl ?_
  exact ⟨rfl, rfl⟩
def boltedS (σ : Nat → Int32) (i : Nat) (c : Nat) : Int32 := if c = 2 then σ (28 + 4 * i + c) + 1000000 else σ (28 + 4 * i + c)
set_option maxRecDepth 20000 in
theorem x_boltOf_ok0 {g : GE} {M : Mem} {sz : Nat} {σ τ : Nat → Int32} {hk : Bool} {n : Nat} {ps : Nat → Nat → Int32} {len : Nat} {tx : Nat → Int32} (hC : CW g M σ τ hk n ps len tx) {x : Int32} (i : Nat) (hx : x = nI i) (hi : i < 8) (hbo : isB σ x = true) : Run g m_X8_boltOf [rf g 0, .int x, .int 0] M sz 0 0 (RetP (some (.int (boltedS σ i 0))) (fun M2 => CW g M2 (σ) (τ) (hk) (n) (ps) (len) (tx) ∧ FR M M2 0 96)) := by
  subst hx
  obtain ⟨p0, y1, y2⟩ := hC.2.1.1
  have hB := hC.2.1.2.2.2.2
  refine Run.of rfl (by decide) (Nat.le_of_ble_eq_true rfl) ?_
  show V g m_X8_boltOf 0 _ [] _ _ _ _ _
  refine V_aload_n 0 dX8_boltOf_0 rfl ?_
  refine V_iload_n 1 dX8_boltOf_1 rfl ?_
  refine C_X8_154 hC.1 rfl ⟨Nat.le_of_ble_eq_true rfl, Nat.le_of_ble_eq_true rfl⟩ (r_checkBolt_ok hC hbo) rfl (Nat.le_of_ble_eq_true rfl) dX8_boltOf_2 rfl ?_
  refine V_iload_n 2 dX8_boltOf_5 rfl ?_
  refine V_iconst (v := 0) dX8_boltOf_6 rfl ?_
  refine V_iconst (v := 3) dX8_boltOf_7 rfl ?_
  refine C_X8_66 rfl ⟨Nat.le_of_ble_eq_true rfl, Nat.le_of_ble_eq_true rfl⟩ (r_checkRange_ok (by decide) (by decide)) rfl (Nat.le_of_ble_eq_true rfl) dX8_boltOf_8 rfl ?_
  refine V_pc (pc2 := 11) rfl ?_
  refine V_iload_n 2 dX8_boltOf_11 rfl ?_
  refine V_tabIn (off := 28) (tgt := 40) dX8_boltOf_12 (by decide) (by decide) (by decide) (by decide) ?_
  refine V_aload_n 0 dX8_boltOf_40 rfl ?_
  refine G_X8_10 rfl hC.1 rfl dX8_boltOf_41 ?_
  refine G_X8_139 rfl y1 rfl dX8_boltOf_44 ?_
  refine G_X8_169 rfl (show _ = some (BO g 6 (σ 60) (σ 62) (σ 61)) from hB.1) rfl dX8_boltOf_47 ?_
  refine V_iload_n 1 dX8_boltOf_50 rfl ?_
  refine C_X8_77 rfl ⟨Nat.le_of_ble_eq_true rfl, Nat.le_of_ble_eq_true rfl⟩ (r_at hB.2.1 i rfl hi (by decide)) rfl (Nat.le_of_ble_eq_true rfl) dX8_boltOf_51 rfl ?_
  rw [bR_at hi]
  refine V_pc (pc2 := 54) rfl ?_
  refine V_iret (st := []) dX8_boltOf_54 rfl ?_
  exact ⟨rfl, hC, FR.refl _ _ _⟩
set_option maxRecDepth 20000 in
theorem x_boltOf_ok1 {g : GE} {M : Mem} {sz : Nat} {σ τ : Nat → Int32} {hk : Bool} {n : Nat} {ps : Nat → Nat → Int32} {len : Nat} {tx : Nat → Int32} (hC : CW g M σ τ hk n ps len tx) {x : Int32} (i : Nat) (hx : x = nI i) (hi : i < 8) (hbo : isB σ x = true) : Run g m_X8_boltOf [rf g 0, .int x, .int 1] M sz 0 0 (RetP (some (.int (boltedS σ i 1))) (fun M2 => CW g M2 (σ) (τ) (hk) (n) (ps) (len) (tx) ∧ FR M M2 0 96)) := by
  subst hx
  obtain ⟨p0, y1, y2⟩ := hC.2.1.1
  have hB := hC.2.1.2.2.2.2
  refine Run.of rfl (by decide) (Nat.le_of_ble_eq_true rfl) ?_
  show V g m_X8_boltOf 0 _ [] _ _ _ _ _
  refine V_aload_n 0 dX8_boltOf_0 rfl ?_
  refine V_iload_n 1 dX8_boltOf_1 rfl ?_
  refine C_X8_154 hC.1 rfl ⟨Nat.le_of_ble_eq_true rfl, Nat.le_of_ble_eq_true rfl⟩ (r_checkBolt_ok hC hbo) rfl (Nat.le_of_ble_eq_true rfl) dX8_boltOf_2 rfl ?_
  refine V_iload_n 2 dX8_boltOf_5 rfl ?_
  refine V_iconst (v := 0) dX8_boltOf_6 rfl ?_
  refine V_iconst (v := 3) dX8_boltOf_7 rfl ?_
  refine C_X8_66 rfl ⟨Nat.le_of_ble_eq_true rfl, Nat.le_of_ble_eq_true rfl⟩ (r_checkRange_ok (by decide) (by decide)) rfl (Nat.le_of_ble_eq_true rfl) dX8_boltOf_8 rfl ?_
  refine V_pc (pc2 := 11) rfl ?_
  refine V_iload_n 2 dX8_boltOf_11 rfl ?_
  refine V_tabIn (off := 43) (tgt := 55) dX8_boltOf_12 (by decide) (by decide) (by decide) (by decide) ?_
  refine V_aload_n 0 dX8_boltOf_55 rfl ?_
  refine G_X8_10 rfl hC.1 rfl dX8_boltOf_56 ?_
  refine G_X8_139 rfl y1 rfl dX8_boltOf_59 ?_
  refine G_X8_166 rfl (show _ = some (BO g 6 (σ 60) (σ 62) (σ 61)) from hB.1) rfl dX8_boltOf_62 ?_
  refine V_iload_n 1 dX8_boltOf_65 rfl ?_
  refine C_X8_77 rfl ⟨Nat.le_of_ble_eq_true rfl, Nat.le_of_ble_eq_true rfl⟩ (r_at hB.2.2.1 i rfl hi (by decide)) rfl (Nat.le_of_ble_eq_true rfl) dX8_boltOf_66 rfl ?_
  rw [bR_at hi]
  refine V_pc (pc2 := 69) rfl ?_
  refine V_iret (st := []) dX8_boltOf_69 rfl ?_
  exact ⟨rfl, hC, FR.refl _ _ _⟩
set_option maxRecDepth 20000 in
theorem x_boltOf_ok2 {g : GE} {M : Mem} {sz : Nat} {σ τ : Nat → Int32} {hk : Bool} {n : Nat} {ps : Nat → Nat → Int32} {len : Nat} {tx : Nat → Int32} (hC : CW g M σ τ hk n ps len tx) {x : Int32} (i : Nat) (hx : x = nI i) (hi : i < 8) (hbo : isB σ x = true) : Run g m_X8_boltOf [rf g 0, .int x, .int 2] M sz 0 0 (RetP (some (.int (boltedS σ i 2))) (fun M2 => CW g M2 (σ) (τ) (hk) (n) (ps) (len) (tx) ∧ FR M M2 0 96)) := by
  subst hx
  obtain ⟨p0, y1, y2⟩ := hC.2.1.1
  have hB := hC.2.1.2.2.2.2
  refine Run.of rfl (by decide) (Nat.le_of_ble_eq_true rfl) ?_
  show V g m_X8_boltOf 0 _ [] _ _ _ _ _
  refine V_aload_n 0 dX8_boltOf_0 rfl ?_
  refine V_iload_n 1 dX8_boltOf_1 rfl ?_
  refine C_X8_154 hC.1 rfl ⟨Nat.le_of_ble_eq_true rfl, Nat.le_of_ble_eq_true rfl⟩ (r_checkBolt_ok hC hbo) rfl (Nat.le_of_ble_eq_true rfl) dX8_boltOf_2 rfl ?_
  refine V_iload_n 2 dX8_boltOf_5 rfl ?_
  refine V_iconst (v := 0) dX8_boltOf_6 rfl ?_
  refine V_iconst (v := 3) dX8_boltOf_7 rfl ?_
  refine C_X8_66 rfl ⟨Nat.le_of_ble_eq_true rfl, Nat.le_of_ble_eq_true rfl⟩ (r_checkRange_ok (by decide) (by decide)) rfl (Nat.le_of_ble_eq_true rfl) dX8_boltOf_8 rfl ?_
  refine V_pc (pc2 := 11) rfl ?_
  refine V_iload_n 2 dX8_boltOf_11 rfl ?_
  refine V_tabIn (off := 58) (tgt := 70) dX8_boltOf_12 (by decide) (by decide) (by decide) (by decide) ?_
  refine V_aload_n 0 dX8_boltOf_70 rfl ?_
  refine G_X8_10 rfl hC.1 rfl dX8_boltOf_71 ?_
  refine G_X8_139 rfl y1 rfl dX8_boltOf_74 ?_
  refine G_X8_269 rfl (show _ = some (BO g 6 (σ 60) (σ 62) (σ 61)) from hB.1) rfl dX8_boltOf_77 ?_
  refine V_iload_n 1 dX8_boltOf_80 rfl ?_
  refine C_X8_77 rfl ⟨Nat.le_of_ble_eq_true rfl, Nat.le_of_ble_eq_true rfl⟩ (r_at hB.2.2.2.1 i rfl hi (by decide)) rfl (Nat.le_of_ble_eq_true rfl) dX8_boltOf_81 rfl ?_
  rw [bR_at hi]
  refine V_pc (pc2 := 84) rfl ?_
  refine V_ldcw z_X8_272 dX8_boltOf_84 ?_
  refine V_iadd dX8_boltOf_87 ?_
  refine V_iret (st := []) dX8_boltOf_88 rfl ?_
  exact ⟨rfl, hC, FR.refl _ _ _⟩
set_option maxRecDepth 20000 in
theorem x_boltOf_ok3 {g : GE} {M : Mem} {sz : Nat} {σ τ : Nat → Int32} {hk : Bool} {n : Nat} {ps : Nat → Nat → Int32} {len : Nat} {tx : Nat → Int32} (hC : CW g M σ τ hk n ps len tx) {x : Int32} (i : Nat) (hx : x = nI i) (hi : i < 8) (hbo : isB σ x = true) : Run g m_X8_boltOf [rf g 0, .int x, .int 3] M sz 0 0 (RetP (some (.int (boltedS σ i 3))) (fun M2 => CW g M2 (σ) (τ) (hk) (n) (ps) (len) (tx) ∧ FR M M2 0 96)) := by
  subst hx
  obtain ⟨p0, y1, y2⟩ := hC.2.1.1
  have hB := hC.2.1.2.2.2.2
  refine Run.of rfl (by decide) (Nat.le_of_ble_eq_true rfl) ?_
  show V g m_X8_boltOf 0 _ [] _ _ _ _ _
  refine V_aload_n 0 dX8_boltOf_0 rfl ?_
  refine V_iload_n 1 dX8_boltOf_1 rfl ?_
  refine C_X8_154 hC.1 rfl ⟨Nat.le_of_ble_eq_true rfl, Nat.le_of_ble_eq_true rfl⟩ (r_checkBolt_ok hC hbo) rfl (Nat.le_of_ble_eq_true rfl) dX8_boltOf_2 rfl ?_
  refine V_iload_n 2 dX8_boltOf_5 rfl ?_
  refine V_iconst (v := 0) dX8_boltOf_6 rfl ?_
  refine V_iconst (v := 3) dX8_boltOf_7 rfl ?_
  refine C_X8_66 rfl ⟨Nat.le_of_ble_eq_true rfl, Nat.le_of_ble_eq_true rfl⟩ (r_checkRange_ok (by decide) (by decide)) rfl (Nat.le_of_ble_eq_true rfl) dX8_boltOf_8 rfl ?_
  refine V_pc (pc2 := 11) rfl ?_
  refine V_iload_n 2 dX8_boltOf_11 rfl ?_
  refine V_tabOut (tgt := 89) dX8_boltOf_12 (by decide) (by decide) ?_
  refine V_aload_n 0 dX8_boltOf_89 rfl ?_
  refine G_X8_10 rfl hC.1 rfl dX8_boltOf_90 ?_
  refine G_X8_139 rfl y1 rfl dX8_boltOf_93 ?_
  refine G_X8_273 rfl (show _ = some (BO g 6 (σ 60) (σ 62) (σ 61)) from hB.1) rfl dX8_boltOf_96 ?_
  refine V_iload_n 1 dX8_boltOf_99 rfl ?_
  refine C_X8_77 rfl ⟨Nat.le_of_ble_eq_true rfl, Nat.le_of_ble_eq_true rfl⟩ (r_at hB.2.2.2.2 i rfl hi (by decide)) rfl (Nat.le_of_ble_eq_true rfl) dX8_boltOf_100 rfl ?_
  rw [bR_at hi]
  refine V_pc (pc2 := 103) rfl ?_
  refine V_iret (st := []) dX8_boltOf_103 rfl ?_
  exact ⟨rfl, hC, FR.refl _ _ _⟩
set_option maxRecDepth 20000 in
theorem x_sell_1 {g : GE} {M : Mem} {sz : Nat} {σ τ : Nat → Int32} {hk : Bool} {n : Nat} {ps : Nat → Nat → Int32} {len : Nat} {tx : Nat → Int32} (hC : CW g M σ τ hk n ps len tx) {a : Int32} (ha : isB σ a = false) : Run g m_X8_sell [rf g 0, .int a] M sz 1 6 (Thr (exN 0) M) := by
  refine Run.of rfl (by decide) (Nat.le_of_ble_eq_true rfl) ?_
  show V g m_X8_sell 0 _ [] _ _ _ _ _
  refine V_aload_n 0 dX8_sell_0 rfl ?_
  refine V_iload_n 1 dX8_sell_1 rfl ?_
  refine Ct_X8_154 hC.1 rfl rfl ⟨Nat.le_of_ble_eq_true rfl, Nat.le_of_ble_eq_true rfl⟩ (r_checkBolt_bad hC ha) rfl (Nat.le_of_ble_eq_true rfl) dX8_sell_2 rfl ?_
  exact ⟨rfl, rfl⟩
set_option maxRecDepth 20000 in
theorem x_sell_ok {g : GE} {M : Mem} {sz : Nat} {σ τ : Nat → Int32} {hk : Bool} {n : Nat} {ps : Nat → Nat → Int32} {len : Nat} {tx : Nat → Int32} (hC : CW g M σ τ hk n ps len tx) (hn : n ≤ 6) {x : Int32} (i q m : Nat) (hx : x = nI i) (hm : σ 60 = nI m) (hm8 : m ≤ 8) (hi : i < m) (hq : q < 5) (hσq : σ (28 + 4 * i) = nI q) (hs : 0 < σ (20 + q)) (hbo : isB σ x = true) : Run g m_X8_sell [rf g 0, .int x] M sz 0 0 (RetP (some (.int (σ (28 + 4 * i + 1) / σ (20 + q)))) (fun M2 => CW g M2 (goS σ i m) (τ) (hk) (pshN n) (pshP n ps σ) (len) (tx) ∧ FR M M2 0 96)) := by
  subst hx
  have hi8 : i < 8 := by omega
  obtain ⟨p0, y1, y2⟩ := hC.2.1.1
  refine Run.of rfl (by decide) (Nat.le_of_ble_eq_true rfl) ?_
  show V g m_X8_sell 0 _ [] _ _ _ _ _
  refine V_aload_n 0 dX8_sell_0 rfl ?_
  refine V_iload_n 1 dX8_sell_1 rfl ?_
  refine C_X8_154 hC.1 rfl ⟨Nat.le_of_ble_eq_true rfl, Nat.le_of_ble_eq_true rfl⟩ (r_checkBolt_ok hC hbo) rfl (Nat.le_of_ble_eq_true rfl) dX8_sell_2 rfl ?_
  refine V_aload_n 0 dX8_sell_5 rfl ?_
  refine G_X8_22 rfl hC.1 rfl dX8_sell_6 ?_
  refine V_aload_n 0 dX8_sell_9 rfl ?_
  refine G_X8_10 rfl hC.1 rfl dX8_sell_10 ?_
  refine V_pc (pc2 := 13) rfl ?_
  refine Cp_X8_70 hC.2.2.2.1.choose_spec.1 rfl ⟨Nat.le_of_ble_eq_true rfl, Nat.le_of_ble_eq_true rfl⟩ (r_push hC.2.2.2.1 hn hC.2.1 (by omega)) rfl (Nat.le_of_ble_eq_true rfl) dX8_sell_13 rfl (fun _ q9 => ?_)
  have hC2 := hC.psh q9.1 q9.2
  have hF2 := q9.2
  clear q9
  obtain ⟨p9, y3, y4⟩ := hC2.2.1.1
  refine V_aload_n 0 dX8_sell_16 rfl ?_
  refine G_X8_10 rfl hC2.1 rfl dX8_sell_17 ?_
  refine G_X8_74 rfl y3 rfl dX8_sell_20 ?_
  refine V_aload_n 0 dX8_sell_23 rfl ?_
  refine G_X8_10 rfl hC2.1 rfl dX8_sell_24 ?_
  refine G_X8_139 rfl y3 rfl dX8_sell_27 ?_
  refine G_X8_169 rfl (show _ = some (BO g 6 (σ 60) (σ 62) (σ 61)) from hC2.2.1.2.2.2.2.1) rfl dX8_sell_30 ?_
  refine V_pc (pc2 := 33) rfl ?_
  refine V_iload_n 1 dX8_sell_33 rfl ?_
  refine C_X8_77 rfl ⟨Nat.le_of_ble_eq_true rfl, Nat.le_of_ble_eq_true rfl⟩ (r_at hC2.2.1.2.2.2.2.2.1 i rfl hi8 (by decide)) rfl (Nat.le_of_ble_eq_true rfl) dX8_sell_34 rfl ?_
  rw [bR_at hi8, show σ (28 + 4 * i + 0) = nI q from hσq]
  refine C_X8_77 rfl ⟨Nat.le_of_ble_eq_true rfl, Nat.le_of_ble_eq_true rfl⟩ (r_at hC2.2.1.2.1 q rfl hq (by decide)) rfl (Nat.le_of_ble_eq_true rfl) dX8_sell_37 rfl ?_
  rw [stR_at hq]
  refine V_istore_n (lv2 := [(2, .int _), (0, .ref _), (1, .int _)]) dX8_sell_40 (Nat.le_of_ble_eq_true rfl) rfl ?_
  refine V_aload_n 1 dX8_sell_41 rfl ?_
  refine G_X8_10 rfl hC2.1 rfl dX8_sell_42 ?_
  refine G_X8_139 rfl y3 rfl dX8_sell_45 ?_
  refine G_X8_166 rfl (show _ = some (BO g 6 (σ 60) (σ 62) (σ 61)) from hC2.2.1.2.2.2.2.1) rfl dX8_sell_48 ?_
  refine V_pc (pc2 := 51) rfl ?_
  refine V_iload_n 2 dX8_sell_51 rfl ?_
  refine C_X8_77 rfl ⟨Nat.le_of_ble_eq_true rfl, Nat.le_of_ble_eq_true rfl⟩ (r_at hC2.2.1.2.2.2.2.2.2.1 i rfl hi8 (by decide)) rfl (Nat.le_of_ble_eq_true rfl) dX8_sell_52 rfl ?_
  rw [bR_at hi8]
  refine V_istore_n (lv2 := [(3, .int _), (2, .int _), (0, .ref _), (1, .int _)]) dX8_sell_55 (Nat.le_of_ble_eq_true rfl) rfl ?_
  refine V_aload_n 2 dX8_sell_56 rfl ?_
  refine G_X8_10 rfl hC2.1 rfl dX8_sell_57 ?_
  refine G_X8_139 rfl y3 rfl dX8_sell_60 ?_
  refine V_iload_n 3 dX8_sell_63 rfl ?_
  refine Cp_X8_172 (show _ = some (BO g 6 (σ 60) (σ 62) (σ 61)) from hC2.2.1.2.2.2.2.1) rfl ⟨Nat.le_of_ble_eq_true rfl, Nat.le_of_ble_eq_true rfl⟩ (r_go hC2.2.1.2.2.2.2 i m rfl hm hm8 hi) rfl (Nat.le_of_ble_eq_true rfl) dX8_sell_64 rfl (fun _ q8 => ?_)
  have hC3 := hC2.now (hC2.2.1.bol q8.1 q8.2 (fun k hk => goS_lo (by omega) hm8 (by omega) (by omega))) (q8.2.wide (by omega))
  have hF3 := q8.2
  clear q8
  refine V_pc (pc2 := 67) rfl ?_
  refine V_iload_n 1 dX8_sell_67 rfl ?_
  refine V_if_le (tgt := 77) dX8_sell_68 (by decide) (fun c68 => absurd c68 (Int32.not_le.mpr hs)) (fun c68 => ?_)
  refine V_iload_n 0 dX8_sell_71 rfl ?_
  refine V_iload_n 1 dX8_sell_72 rfl ?_
  refine V_idiv dX8_sell_73 (fun e => by rw [e] at hs; exact absurd hs (by decide)) ?_
  refine V_goto (tgt := 78) dX8_sell_74 (by decide) ?_
  refine V_iret (st := []) dX8_sell_78 rfl ?_
  exact ⟨rfl, hC3, FR.trans (b := 0) (n := 96) (FR.wide hF2 (b2 := 0) (n2 := 96) (by omega)) hF3 (by omega)⟩
theorem IS.go {σ : Nat → Int32} (h : IS σ) {i m : Nat} (hm : σ 60 = nI m) (hm8 : m ≤ 8) (hi : i < m) : IS (goS σ i m) := by
  obtain ⟨h1, ⟨n, hn, hn2, h2⟩, h3, h4, h5, h6, h7⟩ := h
  obtain rfl : n = m := (nI_eq (by omega) (by omega)).mp (hn2.symm.trans hm)
  have e : ∀ k, k < 28 ∨ 60 ≤ k → k ≠ 60 → k ≠ 62 → goS σ i n k = σ k := fun k hk a b => goS_lo hk hm8 a b
  refine ⟨fun k hk => by rw [e _ (by omega) (by omega) (by omega), e _ (by omega) (by omega) (by omega)]; exact h1 k hk, ⟨n - 1, by omega, goS_60 _ _ _, fun j hj => ?_⟩, fun j hj => by rw [e _ (by omega) (by omega) (by omega)]; exact h3 j hj, by rw [e _ (by omega) (by omega) (by omega)]; exact h4, by rw [e _ (by omega) (by omega) (by omega)]; exact h5, by rw [e _ (by omega) (by omega) (by omega)]; exact h6, by rw [e _ (by omega) (by omega) (by omega), e _ (by omega) (by omega) (by omega)]; exact h7⟩
  unfold goS
  rw [upd_ne (by omega), upd_ne (by omega), upd_ne (by omega), upd_ne (by omega)]
  by_cases hij : i ≤ j
  · rw [if_pos (by omega), if_pos (by omega), show 28 + 4 * j + 4 = 28 + 4 * (j + 1) by omega, show 28 + 4 * j + 1 + 4 = 28 + 4 * (j + 1) + 1 by omega]
    exact h2 (j + 1) (by omega)
  · rw [if_neg (by omega), if_neg (by omega)]
    exact h2 j (by omega)
