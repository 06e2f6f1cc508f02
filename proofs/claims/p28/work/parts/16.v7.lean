/-! throws and catches of the layer V -/
def ctorIdx : Nat → Nat := fun k => match k with
  | 0 => 128
  | 1 => 197
  | _ => 105
def newIdx : Nat → Nat := fun k => match k with
  | 0 => 124
  | 1 => 193
  | _ => 101
def upNames : List String := ["java/lang/RuntimeException", "java/lang/Exception"]
def exW (k : Nat) : List Cond := Cond.classLink RX8 (newIdx k) (exN k) :: Cond.initialized (exN k) :: vx_atS RX8 (ctorIdx k) (exN k) upNames
set_option maxRecDepth 100000 in
theorem exW_ok : ∀ k, k < 3 → ∀ w ∈ exW k, w ∈ lw_tbl ∧ (goodWord w || nestWord w) = true ∧ vx_ot w = true := by
  have h : ([0, 1, 2].all fun k => (exW k).all fun w => decide (w ∈ lw_tbl) && ((goodWord w || nestWord w) && vx_ot w)) = true := by decide +kernel
  intro k hk w hw
  have h1 := List.all_eq_true.mp (List.all_eq_true.mp h k (by rcases k with _ | _ | _ | k <;> first | omega | simp)) w hw
  simp only [Bool.and_eq_true, decide_eq_true_eq] at h1
  exact ⟨h1.1, h1.2.1, h1.2.2⟩
theorem exW_at {g : GE} {mt : MT} {s : State} {args : Array Value} {H : Heap} (ht : ∀ w ∈ mWs mt, w.before args s = true) (hE : EV g s H) {k : Nat} (hk : k < 3) : ∀ w ∈ exW k, w.before args s = true := by
  intro w hw
  obtain ⟨h1, h2, -⟩ := exW_ok k hk w hw
  cases hg : goodWord w with
  | true => exact ht w (List.mem_cons_of_mem _ (List.mem_filter.mpr ⟨h1, hg⟩))
  | false =>
    rw [hg, Bool.false_or] at h2
    exact va_Nw.use (nest_on h2) (hE.2.1 w (List.mem_filter.mpr ⟨h1, h2⟩))
section VTHROW
variable {g : GE} {mt : MT} {pc : Nat} {lv : List (Nat × Value)} {st : List Value} {M : Mem} {sz kc ks : Nat} {Q : Ou → Mem → Prop}
theorem V_throwS (k t : Nat) {ik is ic : Nat} (hk : k < 3) (ht : t < 14) (hc : (mY mt).cls = RX8) (hH : mH mt = []) (h1 : newIdx k = ik) (h2 : (txW t).1 = is) (h3 : ctorIdx k = ic) (hF : 6 ≤ mF mt) (hO : (st.map fun v => v.category).sum + 82 ≤ mO mt)
    (d0 : decode (mC mt) pc = .ok (.new ik, 3)) (d3 : decode (mC mt) (pc + 3) = .ok (.dup, 1)) (d4 : decode (mC mt) (pc + 4) = .ok (.ldc is, 2)) (d6 : decode (mC mt) (pc + 6) = .ok (.invokespecial ic, 3)) (d9 : decode (mC mt) (pc + 9) = .ok (.athrow, 1))
    (hq : Q (.inr (exN k)) M) : V g mt pc lv st M sz (kc + 1) (ks + 6) Q := by
  subst h1 h2 h3
  intro p e R s m args below meth c H locs cells slots mc ms ls a1 a2 a3 a4 a5 a6 a7 a8 a9
  have hE := a1.2.2.2.2.2.2.2.2.2.2.2.2
  have hRR := a1.2.2.2.2.2.2.2.2.2.2
  have hw := exW_at a1.2.2.2.2.1 hE hk
  have hown : s.vm.findClass RX8 = some m.cls := by rw [← hc]; exact a1.2.2.2.1
  obtain ⟨ws, hP, hD, hM2⟩ := id a2
  refine vx_throwS (names := upNames) a1.1 a1.2.1 hE.2.2.2.2.2.2.2.2.2.1 hown (by rcases k with _ | _ | _ | k <;> first | decide +kernel | omega) (by decide +kernel) (hw _ List.mem_cons_self) (hw _ (List.mem_cons_of_mem _ List.mem_cons_self)) (hE.2.2.2.2.2.1 t ht) (fun w h => hw w (List.mem_cons_of_mem _ (List.mem_cons_of_mem _ h))) (fun w h => (exW_ok k hk w h).2.2) hE.2.2.2.2.1.1 hE.2.2.2.2.1.2 a3 (a4.1.trans a1.2.2.1.symm) d0 d3 d4 d6 d9 (fun x hx => absurd hx (fun h => a1.2.2.2.2.2.2.2.2.1 hH x h)) ?_ ?_ (by omega) (by omega) a1.2.2.2.2.2.2.1 ?_ a3.2.2 (by omega) (by omega)
  · show 2 + 3 < R.frames
    have := hRR.1
    omega
  · show _ + (13 * (2 + 1) + 43) ≤ R.locals
    have := hRR.2.1
    omega
  · intro t9 _ hz hkp
    exact ⟨⟨M, hq, ⟨ws, hP.kept (fun j x hj => hkp x.1 (hP j x hj).lt), hD, hM2⟩⟩, Nat.le_trans a3.1 hz, fun q h5 h6 => (hkp q (Nat.lt_of_lt_of_le h5 a3.1)).trans (a3.2.1 q h5 h6)⟩
theorem V_throwSW (k t : Nat) {ik is ic : Nat} (hk : k < 3) (ht : t < 14) (hc : (mY mt).cls = RX8) (hH : mH mt = []) (h1 : newIdx k = ik) (h2 : (txW t).1 = is) (h3 : ctorIdx k = ic) (hF : 6 ≤ mF mt) (hO : (st.map fun v => v.category).sum + 82 ≤ mO mt)
    (d0 : decode (mC mt) pc = .ok (.new ik, 3)) (d3 : decode (mC mt) (pc + 3) = .ok (.dup, 1)) (d4 : decode (mC mt) (pc + 4) = .ok (.ldc_w is, 3)) (d7 : decode (mC mt) (pc + 7) = .ok (.invokespecial ic, 3)) (d10 : decode (mC mt) (pc + 10) = .ok (.athrow, 1))
    (hq : Q (.inr (exN k)) M) : V g mt pc lv st M sz (kc + 1) (ks + 6) Q := by
  subst h1 h2 h3
  intro p e R s m args below meth c H locs cells slots mc ms ls a1 a2 a3 a4 a5 a6 a7 a8 a9
  have hE := a1.2.2.2.2.2.2.2.2.2.2.2.2
  have hRR := a1.2.2.2.2.2.2.2.2.2.2
  have hw := exW_at a1.2.2.2.2.1 hE hk
  have hown : s.vm.findClass RX8 = some m.cls := by rw [← hc]; exact a1.2.2.2.1
  obtain ⟨ws, hP, hD, hM2⟩ := id a2
  refine vx_throwSW (names := upNames) a1.1 a1.2.1 hE.2.2.2.2.2.2.2.2.2.1 hown (by rcases k with _ | _ | _ | k <;> first | decide +kernel | omega) (by decide +kernel) (hw _ List.mem_cons_self) (hw _ (List.mem_cons_of_mem _ List.mem_cons_self)) (hE.2.2.2.2.2.1 t ht) (fun w h => hw w (List.mem_cons_of_mem _ (List.mem_cons_of_mem _ h))) (fun w h => (exW_ok k hk w h).2.2) hE.2.2.2.2.1.1 hE.2.2.2.2.1.2 a3 (a4.1.trans a1.2.2.1.symm) d0 d3 d4 d7 d10 (fun x hx => absurd hx (fun h => a1.2.2.2.2.2.2.2.2.1 hH x h)) ?_ ?_ (by omega) (by omega) a1.2.2.2.2.2.2.1 ?_ a3.2.2 (by omega) (by omega)
  · show 2 + 3 < R.frames
    have := hRR.1
    omega
  · show _ + (13 * (2 + 1) + 43) ≤ R.locals
    have := hRR.2.1
    omega
  · intro t9 _ hz hkp
    exact ⟨⟨M, hq, ⟨ws, hP.kept (fun j x hj => hkp x.1 (hP j x hj).lt), hD, hM2⟩⟩, Nat.le_trans a3.1 hz, fun q h5 h6 => (hkp q (Nat.lt_of_lt_of_le h5 a3.1)).trans (a3.2.1 q h5 h6)⟩
/-- E is thrown over the frame -/
def VX (g : GE) (mt : MT) (pc : Nat) (lv : List (Nat × Value)) (M : Mem) (sz kc ks : Nat) (E : String) (Q : Ou → Mem → Prop) : Prop :=
  ∀ (p : Program) (e : Env) (R : Room) (s : State) (m : MethodId) (args : Array Value) (below : List Frame) (meth : Method) (c : Code) (H : Heap) (locs : List Loc) (cells slots mc ms : Nat) (ls : Array Slot) (rest : List Value) (q : Addr) (ce : Cell),
    AM g mt p e R s m args meth c → WO g M H → va_S (gA g) s.heap H locs → lv_has ls (mL mt) lv → s.heap.size + cells ≤ gb g + sz → cells + kc ≤ mc → slots + ks ≤ ms → mc ≤ R.cells → ms ≤ R.slots → H[q]? = some ce → ce.vm = .none → s.vm.findClass E = some ce.cls →
    vx_W p (gl g) e R s m args below meth c H locs cells slots (vx_MQ below (QR g Q) (QX g Q) args s mc ms (gA g)) (F0 m pc ls rest) q
/-- a catch: the rows ahead name other classes -/
theorem VX_catch {k : Nat} (pre : List (Nat × Nat × Nat × Nat)) (x : Nat × Nat × Nat × Nat) (suf : List (Nat × Nat × Nat × Nat)) (hk : k < 3) (hh : mH mt = pre ++ x :: suf)
    (hpre : ∀ z ∈ pre, z.2.2.2 ≠ 0 ∧ ∃ j, j < 3 ∧ k ≠ j ∧ Cond.classLink (mY mt).cls z.2.2.2 (exN j) ∈ BIG)
    (hc : covers ⟨x.1, x.2.1, x.2.2.1, x.2.2.2⟩ pc = true) (h0 : x.2.2.2 ≠ 0) (hl : Cond.classLink (mY mt).cls x.2.2.2 (exN k) ∈ BIG) (hcast : Cond.castable (exN k) (exN k) ∈ NWL)
    (kk : ∀ q, V g mt x.2.2.1 lv [.ref q] M sz kc ks Q) : VX g mt pc lv M sz kc ks (exN k) Q := by
  intro p e R s m args below meth c H locs cells slots mc ms ls rest q ce a1 a2 a3 a4 a5 a6 a7 a8 a9 b1 b2 b3
  have hE := a1.2.2.2.2.2.2.2.2.2.2.2.2
  have hne : mH mt ≠ [] := by rw [hh]; simp
  have htab := a1.2.2.2.2.2.2.2.2.2.1 hne
  have ok : ∀ w ∈ BIG, w.before args s = true := fun w h => a1.2.2.2.2.1 w (List.mem_cons_of_mem _ h)
  refine vx_catch a1.2.2.2.1 (tableOf pre) ⟨x.1, x.2.1, x.2.2.1, x.2.2.2⟩ (tableOf suf) (by rw [htab, hh]; simp [tableOf]) ?_ hc h0 (ok _ hl) (va_Nw.use rfl (hE.2.1 _ hcast)) b1 b2 b3 (kk q p e R s m args below meth c H locs cells slots mc ms ls a1 a2 a3 a4 a5 a6 a7 a8 a9)
  intro z hz
  obtain ⟨y, hy, rfl⟩ := List.mem_map.mp hz
  obtain ⟨c1, j, hj, hkj, c2⟩ := hpre y hy
  exact Or.inr ⟨c1, _, ok _ c2, hE.2.2.2.2.2.2.1 k j hk hj hkj⟩
/-- a call of an object's method from a method with handlers -/
theorem V_callVH {y : MT} {As : List Value} {a ci idx n mc1 ms1 : Nat} {T : u_T} {N : Nat} {fs : List Value} {Q1 : Ou → Mem → Prop} (hr : Run g y (rf g a :: As) M sz mc1 ms1 Q1) (hM : M a = some (eO ci fs)) (hc : vwCl[ci]? = some ((mY y).cls, T, N)) (hy : mH y = []) (hk : MK y n) (hs : Cond.instanceMethod (mY y) ∈ BIG ∧ Cond.selects (mY y).cls (mY y) (mY y) ∈ BIG) (hl : Cond.methodLink (mY mt).cls idx (mY y) ∈ BIG) (hR : mF y + 1 ≤ mF mt ∧ 8 + (mL y + 11) + mO y ≤ mO mt)
    (hn : As.length = n) (hst : (st.map fun v => v.category).sum ≤ 8) (d : decode (mC mt) pc = .ok (.invokevirtual idx, 3))
    {st0 : List Value} (h0 : st0 = As.reverse ++ rf g a :: st)
    (kk : ∀ (v : Option Value) (M1 : Mem), Q1 (.inl v) M1 → V g mt (pc + 3) lv (v.toList ++ st) M1 (sz + mc1) kc ks Q)
    (kx : ∀ (E : String) (M1 : Mem), Q1 (.inr E) M1 → VX g mt pc lv M1 (sz + mc1) kc ks E Q) : V g mt pc lv st0 M sz (kc + mc1) (ks + ms1) Q := by
  intro p e R s m args below meth c H locs cells slots mc ms ls a1 a2 a3 a4 a5 a6 a7 a8 a9
  subst h0
  have hE := a1.2.2.2.2.2.2.2.2.2.2.2.2
  have hRR := a1.2.2.2.2.2.2.2.2.2.2
  obtain ⟨ws, hP, hD, hM2⟩ := id a2
  obtain ⟨q0, hq⟩ := wo_at hM2 hM
  refine W.size fun hz => ?_
  have hrun := vx_runV (Ts := mWs mt) (own := (mY mt).cls) (C := (mY y).cls) (g := F0 m pc ls (As.reverse ++ rf g a :: st)) (cells := cells) (slots := slots) (locs := locs) (below := below) (meth := meth) (e := e) ⟨a1.1, a1.2.1, a1.2.2.1, a1.2.2.2.1, a1.2.2.2.2.1⟩ hr (cwV n a1.2.2.2.2.1 (good_big hl (good_big hs.1 (good_big hs.2 (good_big hk.2.1 (good_ws hk.1))))) (mWs_code hy) rfl rfl ⟨rfl, hk.2.2⟩ ⟨Nat.le_trans hR.1 hRR.1, Nat.le_trans hR.2 hRR.2.1⟩)
    ⟨pc_blind, va_recv hE.1 hP hc hq, fun U hU hW => ⟨rfl, by rw [hU]; exact a2, by rw [hU]; exact hE.warm hW a3, by rw [hU]; omega⟩⟩ rfl hn a4.1 rfl (lv_room hst) d ⟨by omega, by omega⟩
  intro T9 hT X
  rcases hrun T9 hT X with ⟨v, st₀, t, T', L, h0, X', hL, e1, e2, ⟨⟨v9, M1, hv, hq9, hw⟩, hF⟩, stp⟩ | ⟨q, st₀, t, T', L, E, ce, h0, X', hL, e1, e2, ⟨⟨M1, hq9, hw⟩, hF⟩, hce, hcv, hcl, stp⟩
  · cases hv
    obtain ⟨k1, k2, k3⟩ := vx_keep (A1 := gA g) h0 e1 a3 (fun _ _ h => h) (fun _ h => h) hL hF
    obtain ⟨t2, b1, b2⟩ := kk v M1 hq9 p e R s m args below meth c T'.heap (locs ++ L) (cells + mc1) (slots + ms1) mc ms ls a1 (by rw [e1]; exact hw) k3 a4 (by omega) (by omega) (by omega) a8 a9 T' rfl X'
    exact ⟨t2, stp t2 b1, b2⟩
  · obtain ⟨k1, k2, k3⟩ := vx_keep (A1 := gA g) h0 e1 a3 (fun _ _ h => h) (fun _ h => h) hL hF
    obtain ⟨t2, b1, b2⟩ := kx E M1 hq9 p e R s m args below meth c T'.heap (locs ++ L) (cells + mc1) (slots + ms1) mc ms ls st q ce a1 (by rw [e1]; exact hw) k3 a4 (by omega) (by omega) (by omega) a8 a9 (by rw [e1]; exact hce) hcv hcl T' rfl X'
    exact ⟨t2, stp.trans b1, b2⟩
/-- a static call of a method with handlers (of one's own class) -/
theorem V_callSH {y : MT} {As : List Value} {idx n mc1 ms1 : Nat} {Q1 : Ou → Mem → Prop} (hr : Run g y As M sz mc1 ms1 Q1) (hno : ∀ E M1, ¬ Q1 (.inr E) M1) (hy : mH y ≠ []) (hk : MK y n) (hs : Cond.static (mY y) ∈ BIG) (hl : Cond.methodLink (mY mt).cls idx (mY y) ∈ BIG) (hR : mF y + 1 ≤ mF mt ∧ 8 + (mL y + 11) + mO y ≤ mO mt)
    (hn : As.length = n) (hst : (st.map fun v => v.category).sum ≤ 8) (d : decode (mC mt) pc = .ok (.invokestatic idx, 3))
    {st0 : List Value} (h0 : st0 = As.reverse ++ st)
    (kk : ∀ (v : Option Value) (M1 : Mem), Q1 (.inl v) M1 → V g mt (pc + 3) lv (v.toList ++ st) M1 (sz + mc1) kc ks Q) : V g mt pc lv st0 M sz (kc + mc1) (ks + ms1) Q := by
  intro p e R s m args below meth c H locs cells slots mc ms ls a1 a2 a3 a4 a5 a6 a7 a8 a9
  subst h0
  have hE := a1.2.2.2.2.2.2.2.2.2.2.2.2
  have hRR := a1.2.2.2.2.2.2.2.2.2.2
  refine W.size fun hz => ?_
  have cw := vx_cwSW (R := R) (own := (mY mt).cls) (index := idx) (y := mY y) (bytes := mC y) (maxL := mL y) (ret := mR y) (hh := mH y) (Ts := mWs mt) (ws := mWs y) (rm := { frames := mF y, cells := mc1, slots := ms1, locals := mO y }) (mc := mc1) (ms := ms1) n a1.2.2.2.2.1 (good_big hl (good_big hs (good_big hk.2.1 (good_ws hk.1)))) (mWs_codeW hy) rfl rfl hk.2.2 ⟨Nat.le_trans hR.1 hRR.1, Nat.le_trans hR.2 hRR.2.1⟩
  exact v_back (vx_runSX (Ts := mWs mt) (own := (mY mt).cls) ⟨a1.1, a1.2.1, a1.2.2.1, a1.2.2.2.1, a1.2.2.2.2.1⟩ hr cw
    ⟨pc_blind, fun U hU hW => ⟨rfl, by rw [hU]; exact a2, by rw [hU]; exact hE.warm hW a3, by rw [hU]; omega⟩⟩ rfl hn a4.1 rfl (lv_room hst) d ⟨by omega, by omega⟩) a1 a3 a4 a5 a6 a7 a8 a9 kk (fun E M1 h => absurd h (hno E M1))
end VTHROW
