/-! count -/
def countS (σ : Nat → Int32) (n : Nat) (c : Nat) : Int32 := match c with
  | 0 => tabN σ
  | 1 => nI (cnt (thr σ) 37)
  | 2 => nI (cnt (fun r => thr σ r && offS σ r) 37)
  | 3 => bI (fnd (badS σ) 0 37).isNone
  | 4 => bI (allS σ (meaS σ 5) 5)
  | 5 => σ 60
  | 6 => lenS σ (σ 60).toNatClampNeg
  | 7 => σ 61 + 10000000
  | 8 => σ 62
  | 9 => σ 25
  | 10 => σ 26
  | 11 => σ 27
  | 12 => σ 20
  | 13 => σ 21
  | 14 => σ 22
  | 15 => σ 23
  | 16 => σ 24
  | _ => nI n
theorem TS.off {g : GE} {M : Mem} {sz : Nat} {t : Nat} {σ : Nat → Int32} (h : TS g M t σ) (hR : RW g M) (hI : I10 σ) {b : Int32} (hb : b = σ 25) : Run g m_X3_off [rf g 85, rf g t, .int b] M sz 0 0 (Ret (some (.int (nI (cnt (fun r => thr σ r && offS σ r) 37)))) M) := by
  obtain ⟨f, p, h1, h2⟩ := h
  exact r_off hR h1 h2 hI hb
theorem TS.sound {g : GE} {M : Mem} {sz : Nat} {t : Nat} {σ : Nat → Int32} (h : TS g M t σ) (hR : RW g M) : Run g m_X3_areSound [rf g 85, rf g t] M sz 0 0 (Ret (some (.int (bI (fnd (badS σ) 0 37).isNone))) M) := by
  obtain ⟨f, p, h1, h2⟩ := h
  exact r_areSound hR h1 h2
theorem FR.ms {g : GE} {M : Mem} {p q b n : Nat} {s : ST} (h1 : b ≤ p ∧ p < b + n) (h2 : b ≤ q ∧ q < b + n) : FR M (msM g M p q s) b n := fun k hk => msM_o (by omega) (by omega)
theorem CW.mea {g : GE} {M : Mem} {σ τ : Nat → Int32} {hk : Bool} {n : Nat} {ps : Nat → Nat → Int32} {len : Nat} {tx : Nat → Int32} (h : CW g M σ τ hk n ps len tx) (s : ST) : CW g (msM g M 93 94 s) σ τ hk n ps len tx := by
  refine h.scr ?_ (FR.ms (by omega) (by omega))
  obtain ⟨⟨r1, r2, r3⟩, ⟨f, p, t1, t2⟩, ⟨w, z, w1, w2⟩, ⟨m1, a, b, m2, m3⟩, ⟨u, u1⟩⟩ := h.2.2.2.2.2
  exact ⟨⟨(msM_o (by decide) (by decide)).trans r1, (msM_o (by decide) (by decide)).trans r2, (msM_o (by decide) (by decide)).trans r3⟩, ⟨f, p, (msM_o (by decide) (by decide)).trans t1, (msM_o (by decide) (by decide)).trans t2⟩, ⟨w, z, (msM_o (by decide) (by decide)).trans w1, (msM_o (by decide) (by decide)).trans w2⟩, ⟨(msM_o (by decide) (by decide)).trans m1, _, _, msM_p (by decide), msM_q⟩, ⟨u, (msM_o (by decide) (by decide)).trans u1⟩⟩
theorem ML.mea {g : GE} {M : Mem} {σ sn : Nat → Int32} {hk : Bool} {n : Nat} {ps : Nat → Nat → Int32} {len : Nat} {tx : Nat → Int32} {th : Int32} (h : ML g M σ sn hk n ps len tx th) (s : ST) : ML g (msM g M 103 104 s) σ sn hk n ps len tx th := by
  obtain ⟨⟨v, hM, e⟩, ⟨pf, f1, f2⟩, f3, f4, a, b, f5, f6⟩ := h
  exact ⟨⟨v, hM.ms s, e⟩, ⟨pf, (msM_o (by decide) (by decide)).trans f1, f2⟩, (msM_o (by decide) (by decide)).trans f3, (msM_o (by decide) (by decide)).trans f4, _, _, msM_p (by decide), msM_q⟩
set_option maxRecDepth 20000 in
theorem x_count_0 {g : GE} {M : Mem} {sz : Nat} {σ τ : Nat → Int32} {hk : Bool} {n : Nat} {ps : Nat → Nat → Int32} {len : Nat} {tx : Nat → Int32} (hC : CW g M σ τ hk n ps len tx) (hI : I10 σ) (m : Nat) (hm : σ 60 = nI m) (hm8 : m ≤ 8) : Run g m_X8_count [rf g 0, .int 0] M sz 0 0 (RetP (some (.int (countS σ n 0))) (fun M2 => CW g M2 (σ) (τ) (hk) (n) (ps) (len) (tx) ∧ FR M M2 0 96)) := by
  obtain ⟨p0, y1, y2⟩ := hC.2.1.1
  refine Run.of rfl (by decide) (Nat.le_of_ble_eq_true rfl) ?_
  show V g m_X8_count 0 _ [] _ _ _ _ _
  refine V_iload_n 1 dX8_count_0 rfl ?_
  refine V_iconst (v := 0) dX8_count_1 rfl ?_
  refine V_bipush (v := 17) dX8_count_2 (by decide) ?_
  refine C_X8_66 rfl ⟨Nat.le_of_ble_eq_true rfl, Nat.le_of_ble_eq_true rfl⟩ (r_checkRange_ok (by decide) (by decide)) rfl (Nat.le_of_ble_eq_true rfl) dX8_count_4 rfl ?_
  refine V_iload_n 1 dX8_count_7 rfl ?_
  refine V_bipush (v := 12) dX8_count_8 (by decide) ?_
  refine V_icmp_lt (tgt := 34) dX8_count_10 (by decide) (fun c10 => ?_) (fun c10 => absurd (by decide) c10)
  refine V_pc (pc2 := 34) rfl ?_
  refine V_iload_n 1 dX8_count_34 rfl ?_
  refine V_bipush (v := 9) dX8_count_35 (by decide) ?_
  refine V_icmp_lt (tgt := 61) dX8_count_37 (by decide) (fun c37 => ?_) (fun c37 => absurd (by decide) c37)
  refine V_iload_n 1 dX8_count_61 rfl ?_
  refine V_tabIn (off := 50) (tgt := 112) dX8_count_62 (by decide) (by decide) (by decide) (by decide) ?_
  refine V_aload_n 0 dX8_count_112 rfl ?_
  refine G_X8_10 rfl hC.1 rfl dX8_count_113 ?_
  refine G_X8_89 rfl y1 rfl dX8_count_116 ?_
  refine V_pc (pc2 := 119) rfl ?_
  refine C_X8_228 (show _ = some (eO 4 [rf g (1 + 3 + 1), .int _]) from hC.2.1.2.2.2.1.choose_spec.choose_spec.1.1) rfl ⟨Nat.le_of_ble_eq_true rfl, Nat.le_of_ble_eq_true rfl⟩ (hC.2.1.2.2.2.1.size) rfl (Nat.le_of_ble_eq_true rfl) dX8_count_119 rfl ?_
  refine V_iret (st := []) dX8_count_122 rfl ?_
  exact ⟨rfl, hC, FR.refl _ _ _⟩
set_option maxRecDepth 20000 in
theorem x_count_1 {g : GE} {M : Mem} {sz : Nat} {σ τ : Nat → Int32} {hk : Bool} {n : Nat} {ps : Nat → Nat → Int32} {len : Nat} {tx : Nat → Int32} (hC : CW g M σ τ hk n ps len tx) (hI : I10 σ) (m : Nat) (hm : σ 60 = nI m) (hm8 : m ≤ 8) : Run g m_X8_count [rf g 0, .int 1] M sz 0 0 (RetP (some (.int (countS σ n 1))) (fun M2 => CW g M2 (σ) (τ) (hk) (n) (ps) (len) (tx) ∧ FR M M2 0 96)) := by
  obtain ⟨p0, y1, y2⟩ := hC.2.1.1
  refine Run.of rfl (by decide) (Nat.le_of_ble_eq_true rfl) ?_
  show V g m_X8_count 0 _ [] _ _ _ _ _
  refine V_iload_n 1 dX8_count_0 rfl ?_
  refine V_iconst (v := 0) dX8_count_1 rfl ?_
  refine V_bipush (v := 17) dX8_count_2 (by decide) ?_
  refine C_X8_66 rfl ⟨Nat.le_of_ble_eq_true rfl, Nat.le_of_ble_eq_true rfl⟩ (r_checkRange_ok (by decide) (by decide)) rfl (Nat.le_of_ble_eq_true rfl) dX8_count_4 rfl ?_
  refine V_iload_n 1 dX8_count_7 rfl ?_
  refine V_bipush (v := 12) dX8_count_8 (by decide) ?_
  refine V_icmp_lt (tgt := 34) dX8_count_10 (by decide) (fun c10 => ?_) (fun c10 => absurd (by decide) c10)
  refine V_pc (pc2 := 34) rfl ?_
  refine V_iload_n 1 dX8_count_34 rfl ?_
  refine V_bipush (v := 9) dX8_count_35 (by decide) ?_
  refine V_icmp_lt (tgt := 61) dX8_count_37 (by decide) (fun c37 => ?_) (fun c37 => absurd (by decide) c37)
  refine V_iload_n 1 dX8_count_61 rfl ?_
  refine V_tabIn (off := 61) (tgt := 123) dX8_count_62 (by decide) (by decide) (by decide) (by decide) ?_
  refine V_aload_n 0 dX8_count_123 rfl ?_
  refine G_X8_36 rfl hC.1 rfl dX8_count_124 ?_
  refine V_aload_n 0 dX8_count_127 rfl ?_
  refine V_pc (pc2 := 128) rfl ?_
  refine G_X8_10 rfl hC.1 rfl dX8_count_128 ?_
  refine G_X8_89 rfl y1 rfl dX8_count_131 ?_
  refine C_X8_114 hC.2.2.2.2.2.1.1 rfl ⟨Nat.le_of_ble_eq_true rfl, Nat.le_of_ble_eq_true rfl⟩ (hC.2.1.2.2.2.1.standing hC.2.2.2.2.2.1) rfl (Nat.le_of_ble_eq_true rfl) dX8_count_134 rfl ?_
  refine V_iret (st := []) dX8_count_137 rfl ?_
  exact ⟨rfl, hC, FR.refl _ _ _⟩
set_option maxRecDepth 20000 in
theorem x_count_2 {g : GE} {M : Mem} {sz : Nat} {σ τ : Nat → Int32} {hk : Bool} {n : Nat} {ps : Nat → Nat → Int32} {len : Nat} {tx : Nat → Int32} (hC : CW g M σ τ hk n ps len tx) (hI : I10 σ) (m : Nat) (hm : σ 60 = nI m) (hm8 : m ≤ 8) : Run g m_X8_count [rf g 0, .int 2] M sz 0 0 (RetP (some (.int (countS σ n 2))) (fun M2 => CW g M2 (σ) (τ) (hk) (n) (ps) (len) (tx) ∧ FR M M2 0 96)) := by
  obtain ⟨p0, y1, y2⟩ := hC.2.1.1
  refine Run.of rfl (by decide) (Nat.le_of_ble_eq_true rfl) ?_
  show V g m_X8_count 0 _ [] _ _ _ _ _
  refine V_iload_n 1 dX8_count_0 rfl ?_
  refine V_iconst (v := 0) dX8_count_1 rfl ?_
  refine V_bipush (v := 17) dX8_count_2 (by decide) ?_
  refine C_X8_66 rfl ⟨Nat.le_of_ble_eq_true rfl, Nat.le_of_ble_eq_true rfl⟩ (r_checkRange_ok (by decide) (by decide)) rfl (Nat.le_of_ble_eq_true rfl) dX8_count_4 rfl ?_
  refine V_iload_n 1 dX8_count_7 rfl ?_
  refine V_bipush (v := 12) dX8_count_8 (by decide) ?_
  refine V_icmp_lt (tgt := 34) dX8_count_10 (by decide) (fun c10 => ?_) (fun c10 => absurd (by decide) c10)
  refine V_pc (pc2 := 34) rfl ?_
  refine V_iload_n 1 dX8_count_34 rfl ?_
  refine V_bipush (v := 9) dX8_count_35 (by decide) ?_
  refine V_icmp_lt (tgt := 61) dX8_count_37 (by decide) (fun c37 => ?_) (fun c37 => absurd (by decide) c37)
  refine V_iload_n 1 dX8_count_61 rfl ?_
  refine V_tabIn (off := 76) (tgt := 138) dX8_count_62 (by decide) (by decide) (by decide) (by decide) ?_
  refine V_aload_n 0 dX8_count_138 rfl ?_
  refine G_X8_36 rfl hC.1 rfl dX8_count_139 ?_
  refine V_aload_n 0 dX8_count_142 rfl ?_
  refine V_pc (pc2 := 143) rfl ?_
  refine G_X8_10 rfl hC.1 rfl dX8_count_143 ?_
  refine G_X8_89 rfl y1 rfl dX8_count_146 ?_
  refine V_aload_n 0 dX8_count_149 rfl ?_
  refine C_X8_93 hC.1 rfl ⟨Nat.le_of_ble_eq_true rfl, Nat.le_of_ble_eq_true rfl⟩ (r_bound hC) rfl (Nat.le_of_ble_eq_true rfl) dX8_count_150 rfl ?_
  refine C_X8_276 hC.2.2.2.2.2.1.1 rfl ⟨Nat.le_of_ble_eq_true rfl, Nat.le_of_ble_eq_true rfl⟩ (hC.2.1.2.2.2.1.off hC.2.2.2.2.2.1 hI rfl) rfl (Nat.le_of_ble_eq_true rfl) dX8_count_153 rfl ?_
  refine V_iret (st := []) dX8_count_156 rfl ?_
  exact ⟨rfl, hC, FR.refl _ _ _⟩
set_option maxRecDepth 20000 in
theorem x_count_3 {g : GE} {M : Mem} {sz : Nat} {σ τ : Nat → Int32} {hk : Bool} {n : Nat} {ps : Nat → Nat → Int32} {len : Nat} {tx : Nat → Int32} (hC : CW g M σ τ hk n ps len tx) (hI : I10 σ) (m : Nat) (hm : σ 60 = nI m) (hm8 : m ≤ 8) : Run g m_X8_count [rf g 0, .int 3] M sz 0 0 (RetP (some (.int (countS σ n 3))) (fun M2 => CW g M2 (σ) (τ) (hk) (n) (ps) (len) (tx) ∧ FR M M2 0 96)) := by
  obtain ⟨p0, y1, y2⟩ := hC.2.1.1
  refine Run.of rfl (by decide) (Nat.le_of_ble_eq_true rfl) ?_
  show V g m_X8_count 0 _ [] _ _ _ _ _
  refine V_iload_n 1 dX8_count_0 rfl ?_
  refine V_iconst (v := 0) dX8_count_1 rfl ?_
  refine V_bipush (v := 17) dX8_count_2 (by decide) ?_
  refine C_X8_66 rfl ⟨Nat.le_of_ble_eq_true rfl, Nat.le_of_ble_eq_true rfl⟩ (r_checkRange_ok (by decide) (by decide)) rfl (Nat.le_of_ble_eq_true rfl) dX8_count_4 rfl ?_
  refine V_iload_n 1 dX8_count_7 rfl ?_
  refine V_bipush (v := 12) dX8_count_8 (by decide) ?_
  refine V_icmp_lt (tgt := 34) dX8_count_10 (by decide) (fun c10 => ?_) (fun c10 => absurd (by decide) c10)
  refine V_pc (pc2 := 34) rfl ?_
  refine V_iload_n 1 dX8_count_34 rfl ?_
  refine V_bipush (v := 9) dX8_count_35 (by decide) ?_
  refine V_icmp_lt (tgt := 61) dX8_count_37 (by decide) (fun c37 => ?_) (fun c37 => absurd (by decide) c37)
  refine V_iload_n 1 dX8_count_61 rfl ?_
  refine V_tabIn (off := 95) (tgt := 157) dX8_count_62 (by decide) (by decide) (by decide) (by decide) ?_
  refine V_aload_n 0 dX8_count_157 rfl ?_
  refine G_X8_36 rfl hC.1 rfl dX8_count_158 ?_
  refine V_aload_n 0 dX8_count_161 rfl ?_
  refine V_pc (pc2 := 162) rfl ?_
  refine G_X8_10 rfl hC.1 rfl dX8_count_162 ?_
  refine G_X8_89 rfl y1 rfl dX8_count_165 ?_
  refine C_X8_279 hC.2.2.2.2.2.1.1 rfl ⟨Nat.le_of_ble_eq_true rfl, Nat.le_of_ble_eq_true rfl⟩ (hC.2.1.2.2.2.1.sound hC.2.2.2.2.2.1) rfl (Nat.le_of_ble_eq_true rfl) dX8_count_168 rfl ?_
  refine V_if_eq (tgt := 178) dX8_count_171 (by decide) (fun c171 => ?_) (fun c171 => ?_)
  · refine V_iconst (v := 0) dX8_count_178 rfl ?_
    refine V_iret (st := []) dX8_count_179 rfl ?_
    refine ⟨?_, hC, FR.refl _ _ _⟩
    show _ = Sum.inl (some (Value.int (bI (fnd (badS σ) 0 37).isNone)))
    rw [bI_0 c171]
    rfl
  · refine V_iconst (v := 1) dX8_count_174 rfl ?_
    refine V_goto (tgt := 179) dX8_count_175 (by decide) ?_
    refine V_iret (st := []) dX8_count_179 rfl ?_
    refine ⟨?_, hC, FR.refl _ _ _⟩
    show _ = Sum.inl (some (Value.int (bI (fnd (badS σ) 0 37).isNone)))
    rw [bI_1 c171]
    rfl
set_option maxRecDepth 20000 in
theorem x_count_4 {g : GE} {M : Mem} {sz : Nat} {σ τ : Nat → Int32} {hk : Bool} {n : Nat} {ps : Nat → Nat → Int32} {len : Nat} {tx : Nat → Int32} (hC : CW g M σ τ hk n ps len tx) (hI : I10 σ) (m : Nat) (hm : σ 60 = nI m) (hm8 : m ≤ 8) : Run g m_X8_count [rf g 0, .int 4] M sz 0 0 (RetP (some (.int (countS σ n 4))) (fun M2 => CW g M2 (σ) (τ) (hk) (n) (ps) (len) (tx) ∧ FR M M2 0 96)) := by
  obtain ⟨p0, y1, y2⟩ := hC.2.1.1
  obtain ⟨hm1, ma, mb, hm2, hm3⟩ := hC.2.2.2.2.2.2.2.2.1
  refine Run.of rfl (by decide) (Nat.le_of_ble_eq_true rfl) ?_
  show V g m_X8_count 0 _ [] _ _ _ _ _
  refine V_iload_n 1 dX8_count_0 rfl ?_
  refine V_iconst (v := 0) dX8_count_1 rfl ?_
  refine V_bipush (v := 17) dX8_count_2 (by decide) ?_
  refine C_X8_66 rfl ⟨Nat.le_of_ble_eq_true rfl, Nat.le_of_ble_eq_true rfl⟩ (r_checkRange_ok (by decide) (by decide)) rfl (Nat.le_of_ble_eq_true rfl) dX8_count_4 rfl ?_
  refine V_iload_n 1 dX8_count_7 rfl ?_
  refine V_bipush (v := 12) dX8_count_8 (by decide) ?_
  refine V_icmp_lt (tgt := 34) dX8_count_10 (by decide) (fun c10 => ?_) (fun c10 => absurd (by decide) c10)
  refine V_pc (pc2 := 34) rfl ?_
  refine V_iload_n 1 dX8_count_34 rfl ?_
  refine V_bipush (v := 9) dX8_count_35 (by decide) ?_
  refine V_icmp_lt (tgt := 61) dX8_count_37 (by decide) (fun c37 => ?_) (fun c37 => absurd (by decide) c37)
  refine V_iload_n 1 dX8_count_61 rfl ?_
  refine V_tabIn (off := 118) (tgt := 180) dX8_count_62 (by decide) (by decide) (by decide) (by decide) ?_
  refine V_aload_n 0 dX8_count_180 rfl ?_
  refine G_X8_50 rfl hC.1 rfl dX8_count_181 ?_
  refine V_aload_n 0 dX8_count_184 rfl ?_
  refine V_pc (pc2 := 185) rfl ?_
  refine G_X8_10 rfl hC.1 rfl dX8_count_185 ?_
  refine G_X8_89 rfl y1 rfl dX8_count_188 ?_
  refine C_X8_283 hm1 rfl ⟨Nat.le_of_ble_eq_true rfl, Nat.le_of_ble_eq_true rfl⟩ (r_soundM hI hC.2.1.2.2.2.1 hm1 hm2 hm3) rfl (Nat.le_of_ble_eq_true rfl) dX8_count_191 rfl ?_
  refine V_if_eq (tgt := 201) dX8_count_194 (by decide) (fun c194 => ?_) (fun c194 => ?_)
  · refine V_iconst (v := 0) dX8_count_201 rfl ?_
    refine V_iret (st := []) dX8_count_202 rfl ?_
    refine ⟨?_, hC.mea _, FR.ms (by omega) (by omega)⟩
    show _ = Sum.inl (some (Value.int (bI (allS σ (meaS σ 5) 5))))
    rw [bI_0 c194]
    rfl
  · refine V_iconst (v := 1) dX8_count_197 rfl ?_
    refine V_goto (tgt := 202) dX8_count_198 (by decide) ?_
    refine V_iret (st := []) dX8_count_202 rfl ?_
    refine ⟨?_, hC.mea _, FR.ms (by omega) (by omega)⟩
    show _ = Sum.inl (some (Value.int (bI (allS σ (meaS σ 5) 5))))
    rw [bI_1 c194]
    rfl
set_option maxRecDepth 20000 in
theorem x_count_5 {g : GE} {M : Mem} {sz : Nat} {σ τ : Nat → Int32} {hk : Bool} {n : Nat} {ps : Nat → Nat → Int32} {len : Nat} {tx : Nat → Int32} (hC : CW g M σ τ hk n ps len tx) (hI : I10 σ) (m : Nat) (hm : σ 60 = nI m) (hm8 : m ≤ 8) : Run g m_X8_count [rf g 0, .int 5] M sz 0 0 (RetP (some (.int (countS σ n 5))) (fun M2 => CW g M2 (σ) (τ) (hk) (n) (ps) (len) (tx) ∧ FR M M2 0 96)) := by
  obtain ⟨p0, y1, y2⟩ := hC.2.1.1
  refine Run.of rfl (by decide) (Nat.le_of_ble_eq_true rfl) ?_
  show V g m_X8_count 0 _ [] _ _ _ _ _
  refine V_iload_n 1 dX8_count_0 rfl ?_
  refine V_iconst (v := 0) dX8_count_1 rfl ?_
  refine V_bipush (v := 17) dX8_count_2 (by decide) ?_
  refine C_X8_66 rfl ⟨Nat.le_of_ble_eq_true rfl, Nat.le_of_ble_eq_true rfl⟩ (r_checkRange_ok (by decide) (by decide)) rfl (Nat.le_of_ble_eq_true rfl) dX8_count_4 rfl ?_
  refine V_iload_n 1 dX8_count_7 rfl ?_
  refine V_bipush (v := 12) dX8_count_8 (by decide) ?_
  refine V_icmp_lt (tgt := 34) dX8_count_10 (by decide) (fun c10 => ?_) (fun c10 => absurd (by decide) c10)
  refine V_pc (pc2 := 34) rfl ?_
  refine V_iload_n 1 dX8_count_34 rfl ?_
  refine V_bipush (v := 9) dX8_count_35 (by decide) ?_
  refine V_icmp_lt (tgt := 61) dX8_count_37 (by decide) (fun c37 => ?_) (fun c37 => absurd (by decide) c37)
  refine V_iload_n 1 dX8_count_61 rfl ?_
  refine V_tabIn (off := 141) (tgt := 203) dX8_count_62 (by decide) (by decide) (by decide) (by decide) ?_
  refine V_aload_n 0 dX8_count_203 rfl ?_
  refine G_X8_10 rfl hC.1 rfl dX8_count_204 ?_
  refine G_X8_139 rfl y1 rfl dX8_count_207 ?_
  refine V_pc (pc2 := 210) rfl ?_
  refine G_X8_143 rfl (show _ = some (BO g 6 (σ 60) (σ 62) (σ 61)) from hC.2.1.2.2.2.2.1) rfl dX8_count_210 ?_
  refine V_iret (st := []) dX8_count_213 rfl ?_
  exact ⟨rfl, hC, FR.refl _ _ _⟩
set_option maxRecDepth 20000 in
theorem x_count_6 {g : GE} {M : Mem} {sz : Nat} {σ τ : Nat → Int32} {hk : Bool} {n : Nat} {ps : Nat → Nat → Int32} {len : Nat} {tx : Nat → Int32} (hC : CW g M σ τ hk n ps len tx) (hI : I10 σ) (m : Nat) (hm : σ 60 = nI m) (hm8 : m ≤ 8) : Run g m_X8_count [rf g 0, .int 6] M sz 0 0 (RetP (some (.int (countS σ n 6))) (fun M2 => CW g M2 (σ) (τ) (hk) (n) (ps) (len) (tx) ∧ FR M M2 0 96)) := by
  obtain ⟨p0, y1, y2⟩ := hC.2.1.1
  refine Run.of rfl (by decide) (Nat.le_of_ble_eq_true rfl) ?_
  show V g m_X8_count 0 _ [] _ _ _ _ _
  refine V_iload_n 1 dX8_count_0 rfl ?_
  refine V_iconst (v := 0) dX8_count_1 rfl ?_
  refine V_bipush (v := 17) dX8_count_2 (by decide) ?_
  refine C_X8_66 rfl ⟨Nat.le_of_ble_eq_true rfl, Nat.le_of_ble_eq_true rfl⟩ (r_checkRange_ok (by decide) (by decide)) rfl (Nat.le_of_ble_eq_true rfl) dX8_count_4 rfl ?_
  refine V_iload_n 1 dX8_count_7 rfl ?_
  refine V_bipush (v := 12) dX8_count_8 (by decide) ?_
  refine V_icmp_lt (tgt := 34) dX8_count_10 (by decide) (fun c10 => ?_) (fun c10 => absurd (by decide) c10)
  refine V_pc (pc2 := 34) rfl ?_
  refine V_iload_n 1 dX8_count_34 rfl ?_
  refine V_bipush (v := 9) dX8_count_35 (by decide) ?_
  refine V_icmp_lt (tgt := 61) dX8_count_37 (by decide) (fun c37 => ?_) (fun c37 => absurd (by decide) c37)
  refine V_iload_n 1 dX8_count_61 rfl ?_
  refine V_tabIn (off := 152) (tgt := 214) dX8_count_62 (by decide) (by decide) (by decide) (by decide) ?_
  refine V_aload_n 0 dX8_count_214 rfl ?_
  refine G_X8_10 rfl hC.1 rfl dX8_count_215 ?_
  refine G_X8_139 rfl y1 rfl dX8_count_218 ?_
  refine V_pc (pc2 := 221) rfl ?_
  refine C_X8_284 (show _ = some (BO g 6 (σ 60) (σ 62) (σ 61)) from hC.2.1.2.2.2.2.1) rfl ⟨Nat.le_of_ble_eq_true rfl, Nat.le_of_ble_eq_true rfl⟩ (r_lengthOfAll hC.2.1.2.2.2.2 m hm hm8) rfl (Nat.le_of_ble_eq_true rfl) dX8_count_221 rfl ?_
  refine V_iret (st := []) dX8_count_224 rfl ?_
  refine ⟨?_, hC, FR.refl _ _ _⟩
  show _ = Sum.inl (some (Value.int (lenS σ (σ 60).toNatClampNeg)))
  rw [hm, nI_clamp (by omega)]
set_option maxRecDepth 20000 in
theorem x_count_7 {g : GE} {M : Mem} {sz : Nat} {σ τ : Nat → Int32} {hk : Bool} {n : Nat} {ps : Nat → Nat → Int32} {len : Nat} {tx : Nat → Int32} (hC : CW g M σ τ hk n ps len tx) (hI : I10 σ) (m : Nat) (hm : σ 60 = nI m) (hm8 : m ≤ 8) : Run g m_X8_count [rf g 0, .int 7] M sz 0 0 (RetP (some (.int (countS σ n 7))) (fun M2 => CW g M2 (σ) (τ) (hk) (n) (ps) (len) (tx) ∧ FR M M2 0 96)) := by
  obtain ⟨p0, y1, y2⟩ := hC.2.1.1
  refine Run.of rfl (by decide) (Nat.le_of_ble_eq_true rfl) ?_
  show V g m_X8_count 0 _ [] _ _ _ _ _
  refine V_iload_n 1 dX8_count_0 rfl ?_
  refine V_iconst (v := 0) dX8_count_1 rfl ?_
  refine V_bipush (v := 17) dX8_count_2 (by decide) ?_
  refine C_X8_66 rfl ⟨Nat.le_of_ble_eq_true rfl, Nat.le_of_ble_eq_true rfl⟩ (r_checkRange_ok (by decide) (by decide)) rfl (Nat.le_of_ble_eq_true rfl) dX8_count_4 rfl ?_
  refine V_iload_n 1 dX8_count_7 rfl ?_
  refine V_bipush (v := 12) dX8_count_8 (by decide) ?_
  refine V_icmp_lt (tgt := 34) dX8_count_10 (by decide) (fun c10 => ?_) (fun c10 => absurd (by decide) c10)
  refine V_pc (pc2 := 34) rfl ?_
  refine V_iload_n 1 dX8_count_34 rfl ?_
  refine V_bipush (v := 9) dX8_count_35 (by decide) ?_
  refine V_icmp_lt (tgt := 61) dX8_count_37 (by decide) (fun c37 => ?_) (fun c37 => absurd (by decide) c37)
  refine V_iload_n 1 dX8_count_61 rfl ?_
  refine V_tabIn (off := 163) (tgt := 225) dX8_count_62 (by decide) (by decide) (by decide) (by decide) ?_
  refine V_aload_n 0 dX8_count_225 rfl ?_
  refine G_X8_10 rfl hC.1 rfl dX8_count_226 ?_
  refine G_X8_139 rfl y1 rfl dX8_count_229 ?_
  refine V_pc (pc2 := 232) rfl ?_
  refine G_X8_287 rfl (show _ = some (BO g 6 (σ 60) (σ 62) (σ 61)) from hC.2.1.2.2.2.2.1) rfl dX8_count_232 ?_
  refine V_ldcw z_X8_290 dX8_count_235 ?_
  refine V_iadd dX8_count_238 ?_
  refine V_iret (st := []) dX8_count_239 rfl ?_
  exact ⟨rfl, hC, FR.refl _ _ _⟩
set_option maxRecDepth 20000 in
theorem x_count_8 {g : GE} {M : Mem} {sz : Nat} {σ τ : Nat → Int32} {hk : Bool} {n : Nat} {ps : Nat → Nat → Int32} {len : Nat} {tx : Nat → Int32} (hC : CW g M σ τ hk n ps len tx) (hI : I10 σ) (m : Nat) (hm : σ 60 = nI m) (hm8 : m ≤ 8) : Run g m_X8_count [rf g 0, .int 8] M sz 0 0 (RetP (some (.int (countS σ n 8))) (fun M2 => CW g M2 (σ) (τ) (hk) (n) (ps) (len) (tx) ∧ FR M M2 0 96)) := by
  obtain ⟨p0, y1, y2⟩ := hC.2.1.1
  refine Run.of rfl (by decide) (Nat.le_of_ble_eq_true rfl) ?_
  show V g m_X8_count 0 _ [] _ _ _ _ _
  refine V_iload_n 1 dX8_count_0 rfl ?_
  refine V_iconst (v := 0) dX8_count_1 rfl ?_
  refine V_bipush (v := 17) dX8_count_2 (by decide) ?_
  refine C_X8_66 rfl ⟨Nat.le_of_ble_eq_true rfl, Nat.le_of_ble_eq_true rfl⟩ (r_checkRange_ok (by decide) (by decide)) rfl (Nat.le_of_ble_eq_true rfl) dX8_count_4 rfl ?_
  refine V_iload_n 1 dX8_count_7 rfl ?_
  refine V_bipush (v := 12) dX8_count_8 (by decide) ?_
  refine V_icmp_lt (tgt := 34) dX8_count_10 (by decide) (fun c10 => ?_) (fun c10 => absurd (by decide) c10)
  refine V_pc (pc2 := 34) rfl ?_
  refine V_iload_n 1 dX8_count_34 rfl ?_
  refine V_bipush (v := 9) dX8_count_35 (by decide) ?_
  refine V_icmp_lt (tgt := 61) dX8_count_37 (by decide) (fun c37 => ?_) (fun c37 => absurd (by decide) c37)
  refine V_iload_n 1 dX8_count_61 rfl ?_
  refine V_tabIn (off := 178) (tgt := 240) dX8_count_62 (by decide) (by decide) (by decide) (by decide) ?_
  refine V_aload_n 0 dX8_count_240 rfl ?_
  refine G_X8_10 rfl hC.1 rfl dX8_count_241 ?_
  refine G_X8_139 rfl y1 rfl dX8_count_244 ?_
  refine V_pc (pc2 := 247) rfl ?_
  refine G_X8_291 rfl (show _ = some (BO g 6 (σ 60) (σ 62) (σ 61)) from hC.2.1.2.2.2.2.1) rfl dX8_count_247 ?_
  refine V_iret (st := []) dX8_count_250 rfl ?_
  exact ⟨rfl, hC, FR.refl _ _ _⟩
set_option maxRecDepth 20000 in
theorem x_count_9 {g : GE} {M : Mem} {sz : Nat} {σ τ : Nat → Int32} {hk : Bool} {n : Nat} {ps : Nat → Nat → Int32} {len : Nat} {tx : Nat → Int32} (hC : CW g M σ τ hk n ps len tx) (hI : I10 σ) (m : Nat) (hm : σ 60 = nI m) (hm8 : m ≤ 8) : Run g m_X8_count [rf g 0, .int 9] M sz 0 0 (RetP (some (.int (countS σ n 9))) (fun M2 => CW g M2 (σ) (τ) (hk) (n) (ps) (len) (tx) ∧ FR M M2 0 96)) := by
  obtain ⟨p0, y1, y2⟩ := hC.2.1.1
  refine Run.of rfl (by decide) (Nat.le_of_ble_eq_true rfl) ?_
  show V g m_X8_count 0 _ [] _ _ _ _ _
  refine V_iload_n 1 dX8_count_0 rfl ?_
  refine V_iconst (v := 0) dX8_count_1 rfl ?_
  refine V_bipush (v := 17) dX8_count_2 (by decide) ?_
  refine C_X8_66 rfl ⟨Nat.le_of_ble_eq_true rfl, Nat.le_of_ble_eq_true rfl⟩ (r_checkRange_ok (by decide) (by decide)) rfl (Nat.le_of_ble_eq_true rfl) dX8_count_4 rfl ?_
  refine V_iload_n 1 dX8_count_7 rfl ?_
  refine V_bipush (v := 12) dX8_count_8 (by decide) ?_
  refine V_icmp_lt (tgt := 34) dX8_count_10 (by decide) (fun c10 => ?_) (fun c10 => absurd (by decide) c10)
  refine V_pc (pc2 := 34) rfl ?_
  refine V_iload_n 1 dX8_count_34 rfl ?_
  refine V_bipush (v := 9) dX8_count_35 (by decide) ?_
  refine V_icmp_lt (tgt := 61) dX8_count_37 (by decide) (fun c37 => absurd c37 (by decide)) (fun c37 => ?_)
  refine V_iload_n 1 dX8_count_40 rfl ?_
  refine V_bipush (v := 11) dX8_count_41 (by decide) ?_
  refine V_icmp_gt (tgt := 61) dX8_count_43 (by decide) (fun c43 => absurd c43 (by decide)) (fun c43 => ?_)
  refine V_aload_n 0 dX8_count_46 rfl ?_
  refine G_X8_10 rfl hC.1 rfl dX8_count_47 ?_
  refine V_pc (pc2 := 50) rfl ?_
  refine G_X8_136 rfl y1 rfl dX8_count_50 ?_
  refine V_iload_n 1 dX8_count_53 rfl ?_
  refine V_bipush (v := 9) dX8_count_54 (by decide) ?_
  refine V_isub dX8_count_56 ?_
  refine C_X8_77 rfl ⟨Nat.le_of_ble_eq_true rfl, Nat.le_of_ble_eq_true rfl⟩ (r_at hC.2.1.2.2.1 0 (by decide) (by decide) (by decide)) rfl (Nat.le_of_ble_eq_true rfl) dX8_count_57 rfl ?_
  rw [seR_at (by decide)]
  refine V_iret (st := []) dX8_count_60 rfl ?_
  exact ⟨rfl, hC, FR.refl _ _ _⟩
set_option maxRecDepth 20000 in
theorem x_count_10 {g : GE} {M : Mem} {sz : Nat} {σ τ : Nat → Int32} {hk : Bool} {n : Nat} {ps : Nat → Nat → Int32} {len : Nat} {tx : Nat → Int32} (hC : CW g M σ τ hk n ps len tx) (hI : I10 σ) (m : Nat) (hm : σ 60 = nI m) (hm8 : m ≤ 8) : Run g m_X8_count [rf g 0, .int 10] M sz 0 0 (RetP (some (.int (countS σ n 10))) (fun M2 => CW g M2 (σ) (τ) (hk) (n) (ps) (len) (tx) ∧ FR M M2 0 96)) := by
  obtain ⟨p0, y1, y2⟩ := hC.2.1.1
  refine Run.of rfl (by decide) (Nat.le_of_ble_eq_true rfl) ?_
  show V g m_X8_count 0 _ [] _ _ _ _ _
  refine V_iload_n 1 dX8_count_0 rfl ?_
  refine V_iconst (v := 0) dX8_count_1 rfl ?_
  refine V_bipush (v := 17) dX8_count_2 (by decide) ?_
  refine C_X8_66 rfl ⟨Nat.le_of_ble_eq_true rfl, Nat.le_of_ble_eq_true rfl⟩ (r_checkRange_ok (by decide) (by decide)) rfl (Nat.le_of_ble_eq_true rfl) dX8_count_4 rfl ?_
  refine V_iload_n 1 dX8_count_7 rfl ?_
  refine V_bipush (v := 12) dX8_count_8 (by decide) ?_
  refine V_icmp_lt (tgt := 34) dX8_count_10 (by decide) (fun c10 => ?_) (fun c10 => absurd (by decide) c10)
  refine V_pc (pc2 := 34) rfl ?_
  refine V_iload_n 1 dX8_count_34 rfl ?_
  refine V_bipush (v := 9) dX8_count_35 (by decide) ?_
  refine V_icmp_lt (tgt := 61) dX8_count_37 (by decide) (fun c37 => absurd c37 (by decide)) (fun c37 => ?_)
  refine V_iload_n 1 dX8_count_40 rfl ?_
  refine V_bipush (v := 11) dX8_count_41 (by decide) ?_
  refine V_icmp_gt (tgt := 61) dX8_count_43 (by decide) (fun c43 => absurd c43 (by decide)) (fun c43 => ?_)
  refine V_aload_n 0 dX8_count_46 rfl ?_
  refine G_X8_10 rfl hC.1 rfl dX8_count_47 ?_
  refine V_pc (pc2 := 50) rfl ?_
  refine G_X8_136 rfl y1 rfl dX8_count_50 ?_
  refine V_iload_n 1 dX8_count_53 rfl ?_
  refine V_bipush (v := 9) dX8_count_54 (by decide) ?_
  refine V_isub dX8_count_56 ?_
  refine C_X8_77 rfl ⟨Nat.le_of_ble_eq_true rfl, Nat.le_of_ble_eq_true rfl⟩ (r_at hC.2.1.2.2.1 1 (by decide) (by decide) (by decide)) rfl (Nat.le_of_ble_eq_true rfl) dX8_count_57 rfl ?_
  rw [seR_at (by decide)]
  refine V_iret (st := []) dX8_count_60 rfl ?_
  exact ⟨rfl, hC, FR.refl _ _ _⟩
set_option maxRecDepth 20000 in
theorem x_count_11 {g : GE} {M : Mem} {sz : Nat} {σ τ : Nat → Int32} {hk : Bool} {n : Nat} {ps : Nat → Nat → Int32} {len : Nat} {tx : Nat → Int32} (hC : CW g M σ τ hk n ps len tx) (hI : I10 σ) (m : Nat) (hm : σ 60 = nI m) (hm8 : m ≤ 8) : Run g m_X8_count [rf g 0, .int 11] M sz 0 0 (RetP (some (.int (countS σ n 11))) (fun M2 => CW g M2 (σ) (τ) (hk) (n) (ps) (len) (tx) ∧ FR M M2 0 96)) := by
  obtain ⟨p0, y1, y2⟩ := hC.2.1.1
  refine Run.of rfl (by decide) (Nat.le_of_ble_eq_true rfl) ?_
  show V g m_X8_count 0 _ [] _ _ _ _ _
  refine V_iload_n 1 dX8_count_0 rfl ?_
  refine V_iconst (v := 0) dX8_count_1 rfl ?_
  refine V_bipush (v := 17) dX8_count_2 (by decide) ?_
  refine C_X8_66 rfl ⟨Nat.le_of_ble_eq_true rfl, Nat.le_of_ble_eq_true rfl⟩ (r_checkRange_ok (by decide) (by decide)) rfl (Nat.le_of_ble_eq_true rfl) dX8_count_4 rfl ?_
  refine V_iload_n 1 dX8_count_7 rfl ?_
  refine V_bipush (v := 12) dX8_count_8 (by decide) ?_
  refine V_icmp_lt (tgt := 34) dX8_count_10 (by decide) (fun c10 => ?_) (fun c10 => absurd (by decide) c10)
  refine V_pc (pc2 := 34) rfl ?_
  refine V_iload_n 1 dX8_count_34 rfl ?_
  refine V_bipush (v := 9) dX8_count_35 (by decide) ?_
  refine V_icmp_lt (tgt := 61) dX8_count_37 (by decide) (fun c37 => absurd c37 (by decide)) (fun c37 => ?_)
  refine V_iload_n 1 dX8_count_40 rfl ?_
  refine V_bipush (v := 11) dX8_count_41 (by decide) ?_
  refine V_icmp_gt (tgt := 61) dX8_count_43 (by decide) (fun c43 => absurd c43 (by decide)) (fun c43 => ?_)
  refine V_aload_n 0 dX8_count_46 rfl ?_
  refine G_X8_10 rfl hC.1 rfl dX8_count_47 ?_
  refine V_pc (pc2 := 50) rfl ?_
  refine G_X8_136 rfl y1 rfl dX8_count_50 ?_
  refine V_iload_n 1 dX8_count_53 rfl ?_
  refine V_bipush (v := 9) dX8_count_54 (by decide) ?_
  refine V_isub dX8_count_56 ?_
  refine C_X8_77 rfl ⟨Nat.le_of_ble_eq_true rfl, Nat.le_of_ble_eq_true rfl⟩ (r_at hC.2.1.2.2.1 2 (by decide) (by decide) (by decide)) rfl (Nat.le_of_ble_eq_true rfl) dX8_count_57 rfl ?_
  rw [seR_at (by decide)]
  refine V_iret (st := []) dX8_count_60 rfl ?_
  exact ⟨rfl, hC, FR.refl _ _ _⟩
set_option maxRecDepth 20000 in
theorem x_count_12 {g : GE} {M : Mem} {sz : Nat} {σ τ : Nat → Int32} {hk : Bool} {n : Nat} {ps : Nat → Nat → Int32} {len : Nat} {tx : Nat → Int32} (hC : CW g M σ τ hk n ps len tx) (hI : I10 σ) (m : Nat) (hm : σ 60 = nI m) (hm8 : m ≤ 8) : Run g m_X8_count [rf g 0, .int 12] M sz 0 0 (RetP (some (.int (countS σ n 12))) (fun M2 => CW g M2 (σ) (τ) (hk) (n) (ps) (len) (tx) ∧ FR M M2 0 96)) := by
  obtain ⟨p0, y1, y2⟩ := hC.2.1.1
  refine Run.of rfl (by decide) (Nat.le_of_ble_eq_true rfl) ?_
  show V g m_X8_count 0 _ [] _ _ _ _ _
  refine V_iload_n 1 dX8_count_0 rfl ?_
  refine V_iconst (v := 0) dX8_count_1 rfl ?_
  refine V_bipush (v := 17) dX8_count_2 (by decide) ?_
  refine C_X8_66 rfl ⟨Nat.le_of_ble_eq_true rfl, Nat.le_of_ble_eq_true rfl⟩ (r_checkRange_ok (by decide) (by decide)) rfl (Nat.le_of_ble_eq_true rfl) dX8_count_4 rfl ?_
  refine V_iload_n 1 dX8_count_7 rfl ?_
  refine V_bipush (v := 12) dX8_count_8 (by decide) ?_
  refine V_icmp_lt (tgt := 34) dX8_count_10 (by decide) (fun c10 => absurd c10 (by decide)) (fun c10 => ?_)
  refine V_pc (pc2 := 13) rfl ?_
  refine V_iload_n 1 dX8_count_13 rfl ?_
  refine V_bipush (v := 16) dX8_count_14 (by decide) ?_
  refine V_icmp_gt (tgt := 34) dX8_count_16 (by decide) (fun c16 => absurd c16 (by decide)) (fun c16 => ?_)
  refine V_aload_n 0 dX8_count_19 rfl ?_
  refine G_X8_10 rfl hC.1 rfl dX8_count_20 ?_
  refine G_X8_74 rfl y1 rfl dX8_count_23 ?_
  refine V_iload_n 1 dX8_count_26 rfl ?_
  refine V_bipush (v := 12) dX8_count_27 (by decide) ?_
  refine V_pc (pc2 := 29) rfl ?_
  refine V_isub dX8_count_29 ?_
  refine C_X8_77 rfl ⟨Nat.le_of_ble_eq_true rfl, Nat.le_of_ble_eq_true rfl⟩ (r_at hC.2.1.2.1 0 (by decide) (by decide) (by decide)) rfl (Nat.le_of_ble_eq_true rfl) dX8_count_30 rfl ?_
  rw [stR_at (by decide)]
  refine V_iret (st := []) dX8_count_33 rfl ?_
  exact ⟨rfl, hC, FR.refl _ _ _⟩
set_option maxRecDepth 20000 in
theorem x_count_13 {g : GE} {M : Mem} {sz : Nat} {σ τ : Nat → Int32} {hk : Bool} {n : Nat} {ps : Nat → Nat → Int32} {len : Nat} {tx : Nat → Int32} (hC : CW g M σ τ hk n ps len tx) (hI : I10 σ) (m : Nat) (hm : σ 60 = nI m) (hm8 : m ≤ 8) : Run g m_X8_count [rf g 0, .int 13] M sz 0 0 (RetP (some (.int (countS σ n 13))) (fun M2 => CW g M2 (σ) (τ) (hk) (n) (ps) (len) (tx) ∧ FR M M2 0 96)) := by
  obtain ⟨p0, y1, y2⟩ := hC.2.1.1
  refine Run.of rfl (by decide) (Nat.le_of_ble_eq_true rfl) ?_
  show V g m_X8_count 0 _ [] _ _ _ _ _
  refine V_iload_n 1 dX8_count_0 rfl ?_
  refine V_iconst (v := 0) dX8_count_1 rfl ?_
  refine V_bipush (v := 17) dX8_count_2 (by decide) ?_
  refine C_X8_66 rfl ⟨Nat.le_of_ble_eq_true rfl, Nat.le_of_ble_eq_true rfl⟩ (r_checkRange_ok (by decide) (by decide)) rfl (Nat.le_of_ble_eq_true rfl) dX8_count_4 rfl ?_
  refine V_iload_n 1 dX8_count_7 rfl ?_
  refine V_bipush (v := 12) dX8_count_8 (by decide) ?_
  refine V_icmp_lt (tgt := 34) dX8_count_10 (by decide) (fun c10 => absurd c10 (by decide)) (fun c10 => ?_)
  refine V_pc (pc2 := 13) rfl ?_
  refine V_iload_n 1 dX8_count_13 rfl ?_
  refine V_bipush (v := 16) dX8_count_14 (by decide) ?_
  refine V_icmp_gt (tgt := 34) dX8_count_16 (by decide) (fun c16 => absurd c16 (by decide)) (fun c16 => ?_)
  refine V_aload_n 0 dX8_count_19 rfl ?_
  refine G_X8_10 rfl hC.1 rfl dX8_count_20 ?_
  refine G_X8_74 rfl y1 rfl dX8_count_23 ?_
  refine V_iload_n 1 dX8_count_26 rfl ?_
  refine V_bipush (v := 12) dX8_count_27 (by decide) ?_
  refine V_pc (pc2 := 29) rfl ?_
  refine V_isub dX8_count_29 ?_
  refine C_X8_77 rfl ⟨Nat.le_of_ble_eq_true rfl, Nat.le_of_ble_eq_true rfl⟩ (r_at hC.2.1.2.1 1 (by decide) (by decide) (by decide)) rfl (Nat.le_of_ble_eq_true rfl) dX8_count_30 rfl ?_
  rw [stR_at (by decide)]
  refine V_iret (st := []) dX8_count_33 rfl ?_
  exact ⟨rfl, hC, FR.refl _ _ _⟩
set_option maxRecDepth 20000 in
theorem x_count_14 {g : GE} {M : Mem} {sz : Nat} {σ τ : Nat → Int32} {hk : Bool} {n : Nat} {ps : Nat → Nat → Int32} {len : Nat} {tx : Nat → Int32} (hC : CW g M σ τ hk n ps len tx) (hI : I10 σ) (m : Nat) (hm : σ 60 = nI m) (hm8 : m ≤ 8) : Run g m_X8_count [rf g 0, .int 14] M sz 0 0 (RetP (some (.int (countS σ n 14))) (fun M2 => CW g M2 (σ) (τ) (hk) (n) (ps) (len) (tx) ∧ FR M M2 0 96)) := by
  obtain ⟨p0, y1, y2⟩ := hC.2.1.1
  refine Run.of rfl (by decide) (Nat.le_of_ble_eq_true rfl) ?_
  show V g m_X8_count 0 _ [] _ _ _ _ _
  refine V_iload_n 1 dX8_count_0 rfl ?_
  refine V_iconst (v := 0) dX8_count_1 rfl ?_
  refine V_bipush (v := 17) dX8_count_2 (by decide) ?_
  refine C_X8_66 rfl ⟨Nat.le_of_ble_eq_true rfl, Nat.le_of_ble_eq_true rfl⟩ (r_checkRange_ok (by decide) (by decide)) rfl (Nat.le_of_ble_eq_true rfl) dX8_count_4 rfl ?_
  refine V_iload_n 1 dX8_count_7 rfl ?_
  refine V_bipush (v := 12) dX8_count_8 (by decide) ?_
  refine V_icmp_lt (tgt := 34) dX8_count_10 (by decide) (fun c10 => absurd c10 (by decide)) (fun c10 => ?_)
  refine V_pc (pc2 := 13) rfl ?_
  refine V_iload_n 1 dX8_count_13 rfl ?_
  refine V_bipush (v := 16) dX8_count_14 (by decide) ?_
  refine V_icmp_gt (tgt := 34) dX8_count_16 (by decide) (fun c16 => absurd c16 (by decide)) (fun c16 => ?_)
  refine V_aload_n 0 dX8_count_19 rfl ?_
  refine G_X8_10 rfl hC.1 rfl dX8_count_20 ?_
  refine G_X8_74 rfl y1 rfl dX8_count_23 ?_
  refine V_iload_n 1 dX8_count_26 rfl ?_
  refine V_bipush (v := 12) dX8_count_27 (by decide) ?_
  refine V_pc (pc2 := 29) rfl ?_
  refine V_isub dX8_count_29 ?_
  refine C_X8_77 rfl ⟨Nat.le_of_ble_eq_true rfl, Nat.le_of_ble_eq_true rfl⟩ (r_at hC.2.1.2.1 2 (by decide) (by decide) (by decide)) rfl (Nat.le_of_ble_eq_true rfl) dX8_count_30 rfl ?_
  rw [stR_at (by decide)]
  refine V_iret (st := []) dX8_count_33 rfl ?_
  exact ⟨rfl, hC, FR.refl _ _ _⟩
set_option maxRecDepth 20000 in
theorem x_count_15 {g : GE} {M : Mem} {sz : Nat} {σ τ : Nat → Int32} {hk : Bool} {n : Nat} {ps : Nat → Nat → Int32} {len : Nat} {tx : Nat → Int32} (hC : CW g M σ τ hk n ps len tx) (hI : I10 σ) (m : Nat) (hm : σ 60 = nI m) (hm8 : m ≤ 8) : Run g m_X8_count [rf g 0, .int 15] M sz 0 0 (RetP (some (.int (countS σ n 15))) (fun M2 => CW g M2 (σ) (τ) (hk) (n) (ps) (len) (tx) ∧ FR M M2 0 96)) := by
  obtain ⟨p0, y1, y2⟩ := hC.2.1.1
  refine Run.of rfl (by decide) (Nat.le_of_ble_eq_true rfl) ?_
  show V g m_X8_count 0 _ [] _ _ _ _ _
  refine V_iload_n 1 dX8_count_0 rfl ?_
  refine V_iconst (v := 0) dX8_count_1 rfl ?_
  refine V_bipush (v := 17) dX8_count_2 (by decide) ?_
  refine C_X8_66 rfl ⟨Nat.le_of_ble_eq_true rfl, Nat.le_of_ble_eq_true rfl⟩ (r_checkRange_ok (by decide) (by decide)) rfl (Nat.le_of_ble_eq_true rfl) dX8_count_4 rfl ?_
  refine V_iload_n 1 dX8_count_7 rfl ?_
  refine V_bipush (v := 12) dX8_count_8 (by decide) ?_
  refine V_icmp_lt (tgt := 34) dX8_count_10 (by decide) (fun c10 => absurd c10 (by decide)) (fun c10 => ?_)
  refine V_pc (pc2 := 13) rfl ?_
  refine V_iload_n 1 dX8_count_13 rfl ?_
  refine V_bipush (v := 16) dX8_count_14 (by decide) ?_
  refine V_icmp_gt (tgt := 34) dX8_count_16 (by decide) (fun c16 => absurd c16 (by decide)) (fun c16 => ?_)
  refine V_aload_n 0 dX8_count_19 rfl ?_
  refine G_X8_10 rfl hC.1 rfl dX8_count_20 ?_
  refine G_X8_74 rfl y1 rfl dX8_count_23 ?_
  refine V_iload_n 1 dX8_count_26 rfl ?_
  refine V_bipush (v := 12) dX8_count_27 (by decide) ?_
  refine V_pc (pc2 := 29) rfl ?_
  refine V_isub dX8_count_29 ?_
  refine C_X8_77 rfl ⟨Nat.le_of_ble_eq_true rfl, Nat.le_of_ble_eq_true rfl⟩ (r_at hC.2.1.2.1 3 (by decide) (by decide) (by decide)) rfl (Nat.le_of_ble_eq_true rfl) dX8_count_30 rfl ?_
  rw [stR_at (by decide)]
  refine V_iret (st := []) dX8_count_33 rfl ?_
  exact ⟨rfl, hC, FR.refl _ _ _⟩
set_option maxRecDepth 20000 in
theorem x_count_16 {g : GE} {M : Mem} {sz : Nat} {σ τ : Nat → Int32} {hk : Bool} {n : Nat} {ps : Nat → Nat → Int32} {len : Nat} {tx : Nat → Int32} (hC : CW g M σ τ hk n ps len tx) (hI : I10 σ) (m : Nat) (hm : σ 60 = nI m) (hm8 : m ≤ 8) : Run g m_X8_count [rf g 0, .int 16] M sz 0 0 (RetP (some (.int (countS σ n 16))) (fun M2 => CW g M2 (σ) (τ) (hk) (n) (ps) (len) (tx) ∧ FR M M2 0 96)) := by
  obtain ⟨p0, y1, y2⟩ := hC.2.1.1
  refine Run.of rfl (by decide) (Nat.le_of_ble_eq_true rfl) ?_
  show V g m_X8_count 0 _ [] _ _ _ _ _
  refine V_iload_n 1 dX8_count_0 rfl ?_
  refine V_iconst (v := 0) dX8_count_1 rfl ?_
  refine V_bipush (v := 17) dX8_count_2 (by decide) ?_
  refine C_X8_66 rfl ⟨Nat.le_of_ble_eq_true rfl, Nat.le_of_ble_eq_true rfl⟩ (r_checkRange_ok (by decide) (by decide)) rfl (Nat.le_of_ble_eq_true rfl) dX8_count_4 rfl ?_
  refine V_iload_n 1 dX8_count_7 rfl ?_
  refine V_bipush (v := 12) dX8_count_8 (by decide) ?_
  refine V_icmp_lt (tgt := 34) dX8_count_10 (by decide) (fun c10 => absurd c10 (by decide)) (fun c10 => ?_)
  refine V_pc (pc2 := 13) rfl ?_
  refine V_iload_n 1 dX8_count_13 rfl ?_
  refine V_bipush (v := 16) dX8_count_14 (by decide) ?_
  refine V_icmp_gt (tgt := 34) dX8_count_16 (by decide) (fun c16 => absurd c16 (by decide)) (fun c16 => ?_)
  refine V_aload_n 0 dX8_count_19 rfl ?_
  refine G_X8_10 rfl hC.1 rfl dX8_count_20 ?_
  refine G_X8_74 rfl y1 rfl dX8_count_23 ?_
  refine V_iload_n 1 dX8_count_26 rfl ?_
  refine V_bipush (v := 12) dX8_count_27 (by decide) ?_
  refine V_pc (pc2 := 29) rfl ?_
  refine V_isub dX8_count_29 ?_
  refine C_X8_77 rfl ⟨Nat.le_of_ble_eq_true rfl, Nat.le_of_ble_eq_true rfl⟩ (r_at hC.2.1.2.1 4 (by decide) (by decide) (by decide)) rfl (Nat.le_of_ble_eq_true rfl) dX8_count_30 rfl ?_
  rw [stR_at (by decide)]
  refine V_iret (st := []) dX8_count_33 rfl ?_
  exact ⟨rfl, hC, FR.refl _ _ _⟩
set_option maxRecDepth 20000 in
theorem x_count_17 {g : GE} {M : Mem} {sz : Nat} {σ τ : Nat → Int32} {hk : Bool} {n : Nat} {ps : Nat → Nat → Int32} {len : Nat} {tx : Nat → Int32} (hC : CW g M σ τ hk n ps len tx) (hI : I10 σ) (m : Nat) (hm : σ 60 = nI m) (hm8 : m ≤ 8) : Run g m_X8_count [rf g 0, .int 17] M sz 0 0 (RetP (some (.int (countS σ n 17))) (fun M2 => CW g M2 (σ) (τ) (hk) (n) (ps) (len) (tx) ∧ FR M M2 0 96)) := by
  obtain ⟨p0, y1, y2⟩ := hC.2.1.1
  refine Run.of rfl (by decide) (Nat.le_of_ble_eq_true rfl) ?_
  show V g m_X8_count 0 _ [] _ _ _ _ _
  refine V_iload_n 1 dX8_count_0 rfl ?_
  refine V_iconst (v := 0) dX8_count_1 rfl ?_
  refine V_bipush (v := 17) dX8_count_2 (by decide) ?_
  refine C_X8_66 rfl ⟨Nat.le_of_ble_eq_true rfl, Nat.le_of_ble_eq_true rfl⟩ (r_checkRange_ok (by decide) (by decide)) rfl (Nat.le_of_ble_eq_true rfl) dX8_count_4 rfl ?_
  refine V_iload_n 1 dX8_count_7 rfl ?_
  refine V_bipush (v := 12) dX8_count_8 (by decide) ?_
  refine V_icmp_lt (tgt := 34) dX8_count_10 (by decide) (fun c10 => absurd c10 (by decide)) (fun c10 => ?_)
  refine V_pc (pc2 := 13) rfl ?_
  refine V_iload_n 1 dX8_count_13 rfl ?_
  refine V_bipush (v := 16) dX8_count_14 (by decide) ?_
  refine V_icmp_gt (tgt := 34) dX8_count_16 (by decide) (fun c16 => ?_) (fun c16 => absurd (by decide) c16)
  refine V_iload_n 1 dX8_count_34 rfl ?_
  refine V_bipush (v := 9) dX8_count_35 (by decide) ?_
  refine V_icmp_lt (tgt := 61) dX8_count_37 (by decide) (fun c37 => absurd c37 (by decide)) (fun c37 => ?_)
  refine V_iload_n 1 dX8_count_40 rfl ?_
  refine V_bipush (v := 11) dX8_count_41 (by decide) ?_
  refine V_pc (pc2 := 43) rfl ?_
  refine V_icmp_gt (tgt := 61) dX8_count_43 (by decide) (fun c43 => ?_) (fun c43 => absurd (by decide) c43)
  refine V_iload_n 1 dX8_count_61 rfl ?_
  refine V_tabOut (tgt := 251) dX8_count_62 (by decide) (by decide) ?_
  refine V_aload_n 0 dX8_count_251 rfl ?_
  refine G_X8_22 rfl hC.1 rfl dX8_count_252 ?_
  refine G_X8_219 rfl (show _ = some (HO g n) from hC.2.2.2.1.choose_spec.1) rfl dX8_count_255 ?_
  refine V_iret (st := []) dX8_count_258 rfl ?_
  exact ⟨rfl, hC, FR.refl _ _ _⟩
theorem x_count_ok {g : GE} {M : Mem} {sz : Nat} {σ τ : Nat → Int32} {hk : Bool} {n : Nat} {ps : Nat → Nat → Int32} {len : Nat} {tx : Nat → Int32} (hC : CW g M σ τ hk n ps len tx) (hI : I10 σ) (m : Nat) (hm : σ 60 = nI m) (hm8 : m ≤ 8) {x : Int32} (c : Nat) (hc : c < 18) (hx : x = nI c) : Run g m_X8_count [rf g 0, .int x] M sz 0 0 (RetP (some (.int (countS σ n c))) (fun M2 => CW g M2 (σ) (τ) (hk) (n) (ps) (len) (tx) ∧ FR M M2 0 96)) := by
  subst hx
  match c, hc with
  | 0, _ => exact x_count_0 hC hI m hm hm8
  | 1, _ => exact x_count_1 hC hI m hm hm8
  | 2, _ => exact x_count_2 hC hI m hm hm8
  | 3, _ => exact x_count_3 hC hI m hm hm8
  | 4, _ => exact x_count_4 hC hI m hm hm8
  | 5, _ => exact x_count_5 hC hI m hm hm8
  | 6, _ => exact x_count_6 hC hI m hm hm8
  | 7, _ => exact x_count_7 hC hI m hm hm8
  | 8, _ => exact x_count_8 hC hI m hm hm8
  | 9, _ => exact x_count_9 hC hI m hm hm8
  | 10, _ => exact x_count_10 hC hI m hm hm8
  | 11, _ => exact x_count_11 hC hI m hm hm8
  | 12, _ => exact x_count_12 hC hI m hm hm8
  | 13, _ => exact x_count_13 hC hI m hm hm8
  | 14, _ => exact x_count_14 hC hI m hm hm8
  | 15, _ => exact x_count_15 hC hI m hm hm8
  | 16, _ => exact x_count_16 hC hI m hm hm8
  | 17, _ => exact x_count_17 hC hI m hm hm8
  | c + 18, h => exact absurd h (by omega)
set_option maxRecDepth 20000 in
theorem x_count_1b {g : GE} {M : Mem} {sz : Nat} {σ τ : Nat → Int32} {hk : Bool} {n : Nat} {ps : Nat → Nat → Int32} {len : Nat} {tx : Nat → Int32} (hC : CW g M σ τ hk n ps len tx) {c : Int32} (hc : c < 0 ∨ ¬ c ≤ 17) : Run g m_X8_count [rf g 0, .int c] M sz 1 6 (Thr (exN 1) M) := by
  refine Run.of rfl (by decide) (Nat.le_of_ble_eq_true rfl) ?_
  show V g m_X8_count 0 _ [] _ _ _ _ _
  refine V_iload_n 1 dX8_count_0 rfl ?_
  refine V_iconst (v := 0) dX8_count_1 rfl ?_
  refine V_bipush (v := 17) dX8_count_2 (by decide) ?_
  refine Ct_X8_66 rfl rfl ⟨Nat.le_of_ble_eq_true rfl, Nat.le_of_ble_eq_true rfl⟩ (r_checkRange_bad hc) rfl (Nat.le_of_ble_eq_true rfl) dX8_count_4 rfl ?_
  exact ⟨rfl, rfl⟩
