/-! the reference: what is saved -/
theorem MD.o {g : GE} {M : Mem} {σ v : Nat → Int32} (h : MD g M σ v) {k : Nat} {e : va_E} (h1 : k ≠ 96) (h2 : k ≠ 97) (h3 : k ≠ 101) (h4 : k ≠ 102) : MD g (mup M k e) σ v := ⟨(mup_ne _ _ (Ne.symm h1)).trans h.1, (mup_ne _ _ (Ne.symm h2)).trans h.2.1, (mup_ne _ _ (Ne.symm h3)).trans h.2.2.1, (mup_ne _ _ (Ne.symm h4)).trans h.2.2.2⟩
theorem MD.v {g : GE} {M : Mem} {σ v : Nat → Int32} (h : MD g M σ v) (w : Nat → Int32) : MD g (mup M 96 (MO g w)) σ w := ⟨mup_eq _ _ _, (mup_ne _ _ (by decide)).trans h.2.1, (mup_ne _ _ (by decide)).trans h.2.2.1, (mup_ne _ _ (by decide)).trans h.2.2.2⟩
theorem MO_0 (g : GE) (v : Nat → Int32) (x : Int32) : (eO 9 ([rf g 97, rf g 98, .int (v 0), rf g 99, .int (v 1), rf g 100, .int (v 2), .int (v 3), rf g 101, rf g 102, rf g 103, rf g 104, .int (v 4), .int (v 5), .int (v 6), .int (v 7), .int (v 8), .int (v 9), .int (v 10)].set 2 (.int x)) : va_E) = MO g (upd v 0 x) := rfl
/-- a row with another laid over it at a place -/
def ovT (f h : Nat → Int32) (q j : Nat) : Nat → Int32 := fun k => if q ≤ k ∧ k < q + j then h (k - q) else f k
theorem ovT_0 (f h : Nat → Int32) (q : Nat) : ovT f h q 0 = f := by funext k; unfold ovT; rw [if_neg (by omega)]
theorem ovT_s (f h : Nat → Int32) (q j : Nat) : upd (ovT f h q j) (q + j) (h j) = ovT f h q (j + 1) := by
  funext k
  by_cases e : k = q + j
  · subst e; rw [upd_at]; unfold ovT; rw [if_pos (by omega), show q + j - q = j by omega]
  · rw [upd_ne e]; unfold ovT
    by_cases h2 : q ≤ k ∧ k < q + j
    · rw [if_pos h2, if_pos (by omega)]
    · rw [if_neg h2, if_neg (by omega)]
theorem ovT_in {f h : Nat → Int32} {q j k : Nat} (e : k < j) : ovT f h q j (q + k) = h k := by unfold ovT; rw [if_pos (by omega), show q + k - q = k by omega]
theorem ovT_out {f h : Nat → Int32} {q j k : Nat} (e : k < q ∨ q + j ≤ k) : ovT f h q j k = f k := by unfold ovT; rw [if_neg (by omega)]
/-- a row whose first numbers are those that lie 65 behind -/
def dnT (f : Nat → Int32) (j : Nat) : Nat → Int32 := fun k => if k < j then f (65 + k) else f k
theorem dnT_0 (f : Nat → Int32) : dnT f 0 = f := by funext k; unfold dnT; rw [if_neg (by omega)]
theorem dnT_s (f : Nat → Int32) (j : Nat) : upd (dnT f j) j (dnT f j (65 + j)) = dnT f (j + 1) := by
  funext k
  by_cases e : k = j
  · subst e; rw [upd_at]; unfold dnT; rw [if_neg (by omega), if_pos (by omega)]
  · rw [upd_ne e]; unfold dnT
    by_cases h2 : k < j
    · rw [if_pos h2, if_pos (by omega)]
    · rw [if_neg h2, if_neg (by omega)]
def PF (pf : Nat → Int32) (n : Nat) (ps : Nat → Nat → Int32) : Prop := ∀ i, i < n → ∀ k, k < 65 → pf (65 * i + k) = ps i k
def SV (g : GE) (M M1 : Mem) (σ v : Nat → Int32) (n : Nat) (ps : Nat → Nat → Int32) : Prop := (∃ pf, M1 98 = some (eI g 390 pf) ∧ PF pf n ps) ∧ MD g M1 σ (upd v 0 (nI n)) ∧ ∀ k, k ≠ 96 → k ≠ 98 → M1 k = M k
theorem v0 {v : Nat → Int32} {x y : Int32} : upd (upd v 0 x) 0 y = upd v 0 y := by funext k; unfold upd; split <;> rfl
set_option maxRecDepth 20000 in
theorem saves_2 {g : GE} {M : Mem} {sz : Nat} {σ v : Nat → Int32} (hM : MD g M σ v) {pf : Nat → Int32} (h8 : M 98 = some (eI g 390 pf)) (m : Nat) (hv : v 0 = nI m) (hm : m < 6) {Q : Ou → Mem → Prop} (hq : Q (.inl none) (mup (mup M 98 (eI g 390 (ovT pf σ (65 * m) 65))) 96 (MO g (upd v 0 (nI (m + 1)))))) : ∀ e j : Nat, j + e = 65 → V g m_X9_saves 51 [(1, .int (nI j)), (0, rf g 96)] [] (mup M 98 (eI g 390 (ovT pf σ (65 * m) j))) sz 0 0 Q := by
  intro e
  induction e with
  | zero =>
    intro j hj
    obtain rfl : j = 65 := by omega
    refine V_iload_n 0 dX9_saves_51 rfl ?_
    refine V_bipush (v := 65) dX9_saves_52 (by decide) ?_
    refine V_icmp_ge (tgt := 83) dX9_saves_54 (by decide) (fun c54 => ?_) (fun c54 => absurd (by decide) c54)
    refine V_aload_n 1 dX9_saves_83 rfl ?_
    refine V_dup dX9_saves_84 rfl ?_
    refine G_X9_48 rfl (MD.o hM (by decide) (by decide) (by decide) (by decide)).1 rfl dX9_saves_85 ?_
    rw [hv]
    refine V_iconst (v := 1) dX9_saves_88 rfl ?_
    refine V_pc (pc2 := 89) rfl ?_
    refine V_iadd dX9_saves_89 ?_
    refine P_X9_48 rfl (MD.o hM (by decide) (by decide) (by decide) (by decide)).1 (Nat.le_of_ble_eq_true rfl) rfl rfl dX9_saves_90 ?_
    refine V_ret (st := []) dX9_saves_93 rfl ?_
    rw [nI_1]; exact hq
  | succ e ih =>
    intro j hj
    have hlt : j < 65 := by omega
    refine V_iload_n 0 dX9_saves_51 rfl ?_
    refine V_bipush (v := 65) dX9_saves_52 (by decide) ?_
    refine V_icmp_ge (tgt := 83) dX9_saves_54 (by decide) (fun c54 => absurd c54 (nI_ge (b := 65) hlt (by decide))) (fun c54 => ?_)
    refine V_aload_n 1 dX9_saves_57 rfl ?_
    refine G_X9_13 rfl (MD.o hM (by decide) (by decide) (by decide) (by decide)).1 rfl dX9_saves_58 ?_
    refine V_bipush (v := 65) dX9_saves_61 (by decide) ?_
    refine V_aload_n 1 dX9_saves_63 rfl ?_
    refine V_pc (pc2 := 64) rfl ?_
    refine G_X9_48 rfl (MD.o hM (by decide) (by decide) (by decide) (by decide)).1 rfl dX9_saves_64 ?_
    rw [hv]
    refine V_imul dX9_saves_67 ?_
    refine V_iload_n 0 dX9_saves_68 rfl ?_
    refine V_iadd dX9_saves_69 ?_
    refine V_aload_n 1 dX9_saves_70 rfl ?_
    refine G_X9_7 rfl (MD.o hM (by decide) (by decide) (by decide) (by decide)).1 rfl dX9_saves_71 ?_
    refine V_iload_n 0 dX9_saves_74 rfl ?_
    refine V_iald (MD.o hM (by decide) (by decide) (by decide) (by decide)).2.1 (vp_in_nI hlt (by decide)) dX9_saves_75 ?_
    refine V_pc (pc2 := 76) rfl ?_
    refine V_iast (mup_eq _ _ _) (by rw [show (65 : Int32) = nI 65 from rfl, pk_mul, nI_add]; exact vp_in_nI (n := 65 * m + j) (by omega) (by decide)) dX9_saves_76 ?_
    refine V_iinc (v := _ + 1) (lv2 := [(1, .int _), (0, .ref _)]) 0 dX9_saves_77 rfl rfl (Nat.le_of_ble_eq_true rfl) rfl ?_
    refine V_goto (tgt := 51) dX9_saves_80 (by decide) ?_
    refine V_lv (lv2 := [(1, .int _), (0, .ref _)]) [0, 1] rfl ?_
    rw [nI_1, nI_clamp (n := j) (by omega), show (65 : Int32) = nI 65 from rfl, pk_mul, nI_add, nI_clamp (by omega), mup_mup, ovT_s]
    exact ih (j + 1) (by omega)
set_option maxRecDepth 20000 in
theorem saves_1 {g : GE} {M : Mem} {sz : Nat} {σ v : Nat → Int32} (hM : MD g M σ v) {pf : Nat → Int32} (h8 : M 98 = some (eI g 390 pf)) (hv : v 0 = nI 6) {Q : Ou → Mem → Prop} (hq : V g m_X9_saves 49 [(1, .int (nI 325)), (0, rf g 96)] [] (mup (mup M 98 (eI g 390 (dnT pf 325))) 96 (MO g (upd v 0 (nI 5)))) sz 0 0 Q) : ∀ e j : Nat, j + e = 325 → V g m_X9_saves 11 [(1, .int (nI j)), (0, rf g 96)] [] (mup M 98 (eI g 390 (dnT pf j))) sz 0 0 Q := by
  intro e
  induction e with
  | zero =>
    intro j hj
    obtain rfl : j = 325 := by omega
    refine V_iload_n 0 dX9_saves_11 rfl ?_
    refine V_sipush (v := 325) dX9_saves_12 (by decide) ?_
    refine V_icmp_ge (tgt := 39) dX9_saves_15 (by decide) (fun c15 => ?_) (fun c15 => absurd (by decide) c15)
    refine V_aload_n 1 dX9_saves_39 rfl ?_
    refine V_dup dX9_saves_40 rfl ?_
    refine G_X9_48 rfl (MD.o hM (by decide) (by decide) (by decide) (by decide)).1 rfl dX9_saves_41 ?_
    rw [hv]
    refine V_iconst (v := 1) dX9_saves_44 rfl ?_
    refine V_pc (pc2 := 45) rfl ?_
    refine V_isub dX9_saves_45 ?_
    refine P_X9_48 rfl (MD.o hM (by decide) (by decide) (by decide) (by decide)).1 (Nat.le_of_ble_eq_true rfl) rfl rfl dX9_saves_46 ?_
    exact hq
  | succ e ih =>
    intro j hj
    have hlt : j < 325 := by omega
    refine V_iload_n 0 dX9_saves_11 rfl ?_
    refine V_sipush (v := 325) dX9_saves_12 (by decide) ?_
    refine V_icmp_ge (tgt := 39) dX9_saves_15 (by decide) (fun c15 => absurd c15 (nI_ge (b := 325) hlt (by decide))) (fun c15 => ?_)
    refine V_aload_n 1 dX9_saves_18 rfl ?_
    refine G_X9_13 rfl (MD.o hM (by decide) (by decide) (by decide) (by decide)).1 rfl dX9_saves_19 ?_
    refine V_iload_n 0 dX9_saves_22 rfl ?_
    refine V_aload_n 1 dX9_saves_23 rfl ?_
    refine V_pc (pc2 := 24) rfl ?_
    refine G_X9_13 rfl (MD.o hM (by decide) (by decide) (by decide) (by decide)).1 rfl dX9_saves_24 ?_
    refine V_bipush (v := 65) dX9_saves_27 (by decide) ?_
    refine V_iload_n 0 dX9_saves_29 rfl ?_
    refine V_iadd dX9_saves_30 ?_
    refine V_iald (mup_eq _ _ _) (by rw [show (65 : Int32) = nI 65 from rfl, nI_add]; exact vp_in_nI (n := 65 + j) (by omega) (by decide)) dX9_saves_31 ?_
    refine V_iast (mup_eq _ _ _) (vp_in_nI (n := j) (by omega) (by decide)) dX9_saves_32 ?_
    refine V_iinc (v := _ + 1) (lv2 := [(1, .int _), (0, .ref _)]) 0 dX9_saves_33 rfl rfl (Nat.le_of_ble_eq_true rfl) rfl ?_
    refine V_goto (tgt := 11) dX9_saves_36 (by decide) ?_
    refine V_lv (lv2 := [(1, .int _), (0, .ref _)]) [0, 1] rfl ?_
    rw [nI_1, nI_clamp (n := j) (by omega), show (65 : Int32) = nI 65 from rfl, nI_add, nI_clamp (by omega), mup_mup, dnT_s]
    exact ih (j + 1) (by omega)

set_option maxRecDepth 20000 in
theorem r9_saves {g : GE} {M : Mem} {sz : Nat} {σ v : Nat → Int32} (hM : MD g M σ v) {pf : Nat → Int32} (h8 : M 98 = some (eI g 390 pf)) (n : Nat) (hv : v 0 = nI n) (hn : n ≤ 6) {ps : Nat → Nat → Int32} (hp : PF pf n ps) : Run g m_X9_saves [rf g 96] M sz 0 0 (RetP none (fun M1 => SV g M M1 σ v (pshN n) (pshP n ps σ))) := by
  refine Run.of rfl (by decide) (Nat.le_of_ble_eq_true rfl) ?_
  show V g m_X9_saves 0 _ [] _ _ _ _ _
  by_cases h6 : n = 6
  · subst h6
    refine V_aload_n 0 dX9_saves_0 rfl ?_
    refine G_X9_48 rfl hM.1 rfl dX9_saves_1 ?_
    refine V_bipush (v := 6) dX9_saves_4 (by decide) ?_
    rw [hv]
    refine V_icmp_ne (tgt := 49) dX9_saves_6 (by decide) (fun c6 => absurd (show nI 6 = 6 from rfl) c6) (fun c6 => ?_)
    refine V_iconst (v := 0) dX9_saves_9 rfl ?_
    refine V_istore_n (lv2 := [(1, .int _), (0, .ref _)]) dX9_saves_10 (Nat.le_of_ble_eq_true rfl) rfl ?_
    refine V_lv (lv2 := [(1, .int _), (0, .ref _)]) [0, 1] rfl ?_
    suffices hq : V g m_X9_saves 49 [(1, .int (nI 325)), (0, rf g 96)] [] (mup (mup M 98 (eI g 390 (dnT pf 325))) 96 (MO g (upd v 0 (nI 5)))) sz 0 0 (RetP none (fun M1 => SV g M M1 σ v (pshN 6) (pshP 6 ps σ))) by
      have e := saves_1 hM h8 hv hq 325 0 (by omega)
      rw [dnT_0, mup_self h8] at e
      exact e
    have hM2 : MD g (mup (mup M 98 (eI g 390 (dnT pf 325))) 96 (MO g (upd v 0 (nI 5)))) σ (upd v 0 (nI 5)) := (hM.o (by decide) (by decide) (by decide) (by decide)).v _
    have e := saves_2 (sz := sz) (Q := RetP none (fun M1 => SV g M M1 σ v (pshN 6) (pshP 6 ps σ))) hM2 (show _ = some (eI g 390 (dnT pf 325)) from (mup_ne _ _ (by decide)).trans (mup_eq _ _ _)) 5 (upd_at _ _ _) (by decide) ⟨rfl, ⟨_, (mup_ne _ _ (by decide)).trans (mup_eq _ _ _), fun i hi k hk => ?_⟩, ?_, fun k k1 k2 => ?_⟩ 65 0 (by omega)
    · rw [ovT_0, mup_self (show _ = some (eI g 390 (dnT pf 325)) from (mup_ne _ _ (by decide)).trans (mup_eq _ _ _))] at e
      refine V_iconst (v := 0) dX9_saves_49 rfl ?_
      refine V_istore_n (lv2 := [(1, .int _), (0, .ref _)]) dX9_saves_50 (Nat.le_of_ble_eq_true rfl) rfl ?_
      exact e
    · have hi6 : i < 6 := hi
      show _ = (if i = (if 6 = 6 then 5 else 6) then σ else (if 6 = 6 then rotP ps i else ps i)) k
      rw [if_pos (rfl : 6 = 6), if_pos (rfl : 6 = 6)]
      by_cases e5 : i = 5
      · subst e5
        rw [if_pos rfl, ovT_in hk]
      · rw [if_neg e5, ovT_out (by omega)]
        unfold dnT rotP
        rw [if_pos (by omega), if_pos (by omega), show 65 + (65 * i + k) = 65 * (i + 1) + k by omega]
        exact hp (i + 1) (by omega) k hk
    · have e9 := (hM2.o (k := 98) (e := eI g 390 (ovT (dnT pf 325) σ (65 * 5) 65)) (by decide) (by decide) (by decide) (by decide)).v (upd (upd v 0 (nI 5)) 0 (nI (5 + 1)))
      rw [v0] at e9 ⊢
      exact e9
    · rw [mup_ne _ _ k1, mup_ne _ _ k2, mup_ne _ _ k1, mup_ne _ _ k2]
  · have hlt : n < 6 := by omega
    refine V_aload_n 0 dX9_saves_0 rfl ?_
    refine G_X9_48 rfl hM.1 rfl dX9_saves_1 ?_
    refine V_bipush (v := 6) dX9_saves_4 (by decide) ?_
    rw [hv]
    refine V_icmp_ne (tgt := 49) dX9_saves_6 (by decide) (fun c6 => ?_) (fun c6 => absurd c6 (fun h => h6 ((nI_eq (b := 6) (by omega) (by decide)).mp h)))
    refine V_iconst (v := 0) dX9_saves_49 rfl ?_
    refine V_istore_n (lv2 := [(1, .int _), (0, .ref _)]) dX9_saves_50 (Nat.le_of_ble_eq_true rfl) rfl ?_
    refine V_lv (lv2 := [(1, .int _), (0, .ref _)]) [0, 1] rfl ?_
    have e := saves_2 (sz := sz) (Q := RetP none (fun M1 => SV g M M1 σ v (pshN n) (pshP n ps σ))) hM h8 n hv hlt ⟨rfl, ⟨_, (mup_ne _ _ (by decide)).trans (mup_eq _ _ _), fun i hi k hk => ?_⟩, ?_, fun k k1 k2 => ?_⟩ 65 0 (by omega)
    · rw [ovT_0, mup_self h8] at e
      exact e
    · unfold pshN at hi
      rw [if_neg h6] at hi
      show _ = (if i = (if n = 6 then 5 else n) then σ else (if n = 6 then rotP ps i else ps i)) k
      rw [if_neg h6, if_neg h6]
      by_cases e5 : i = n
      · subst e5
        rw [if_pos rfl, ovT_in hk]
      · rw [if_neg e5, ovT_out (by omega)]
        exact hp i (by omega) k hk
    · unfold pshN
      rw [if_neg h6]
      exact (hM.o (by decide) (by decide) (by decide) (by decide)).v _
    · rw [mup_ne _ _ k1, mup_ne _ _ k2]

