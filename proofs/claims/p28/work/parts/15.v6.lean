/-! calls of the layer V -/
section VCALL
variable {g : GE} {mt : MT} {pc : Nat} {lv : List (Nat × Value)} {st : List Value} {M : Mem} {sz kc ks : Nat} {Q : Ou → Mem → Prop}
theorem pc_blind {As : List Value} : FrameBlind (va_Pc As (fun U => WO g M U.heap ∧ EV g U U.heap ∧ U.heap.size ≤ gb g + sz)) := by
  intro a U f mk h
  obtain ⟨h1, h2, h3, h4⟩ := h
  exact ⟨h1, h2, EV.same (U := U.calling f mk a) (u := U) rfl h3, h4⟩
/-- a call's words: the callee may be called so -/
def MK (y : MT) (n : Nat) : Prop := mW y ∈ BIG ∧ Cond.initialized (mY y).cls ∈ BIG ∧ ((mY y).cls ≠ "java/lang/invoke/MethodHandle" ∧ (mY y).cls ≠ "java/lang/invoke/VarHandle" ∧ (parseMethodDescriptor (mY y).desc).map (fun d => d.parameters.length) = some n)
theorem good_ws {mt y : MT} (hy : mW y ∈ BIG) : GoodIn (mWs mt) (mWs y) := by
  intro w hw
  rcases List.mem_cons.mp hw with rfl | h
  · exact ⟨List.mem_cons_of_mem _ hy, good_of_word (big_good _ hy)⟩
  · exact ⟨List.mem_cons_of_mem _ h, good_of_word (big_good _ h)⟩
theorem good_cons {big ws : List Cond} {w : Cond} (hw : w ∈ big) (hg : goodWord w = true) (h : GoodIn big ws) : GoodIn big (w :: ws) := by
  intro v hv
  rcases List.mem_cons.mp hv with rfl | h2
  · exact ⟨hw, good_of_word hg⟩
  · exact h v h2
theorem good_big {mt : MT} {ws : List Cond} {w : Cond} (hw : w ∈ BIG) (h : GoodIn (mWs mt) ws) : GoodIn (mWs mt) (w :: ws) := good_cons (List.mem_cons_of_mem _ hw) (big_good _ hw) h
/-- behind a call that returns or throws -/
theorem v_back {p : Program} {e : Env} {R : Room} {s : State} {m : MethodId} {args : Array Value} {below : List Frame} {meth : Method} {c : Code} {H : Heap} {locs : List Loc} {cells slots mc ms mc1 ms1 : Nat} {ls : Array Slot} {st0 : List Value} {a : Array Value} {Q1 : Ou → Mem → Prop}
    (hr : vx_Run p (gl g) e R s m args below meth c H locs cells slots mc1 ms1 (F0 m pc ls st0) st (QR g Q1 a) (QX g Q1) (gA g))
    (a1 : AM g mt p e R s m args meth c) (a3 : va_S (gA g) s.heap H locs) (a4 : lv_has ls (mL mt) lv) (a5 : s.heap.size + cells ≤ gb g + sz) (a6 : cells + (kc + mc1) ≤ mc) (a7 : slots + (ks + ms1) ≤ ms) (a8 : mc ≤ R.cells) (a9 : ms ≤ R.slots)
    (kk : ∀ (v : Option Value) (M1 : Mem), Q1 (.inl v) M1 → V g mt (pc + 3) lv (v.toList ++ st) M1 (sz + mc1) kc ks Q)
    (kx : ∀ (E : String) (M1 : Mem), Q1 (.inr E) M1 → mH mt = [] ∧ Q (.inr E) M1) :
    W p (gl g) e R s m args below meth c H locs cells slots (vx_MQ below (QR g Q) (QX g Q) args s mc ms (gA g)) (F0 m pc ls st0) := by
  intro T hT X
  rcases hr T hT X with ⟨v, st₀, t, T', L, h0, X', hL, e1, e2, ⟨⟨v9, M1, hv, hq, hw⟩, hF⟩, stp⟩ | ⟨q, st₀, t, T', L, E, ce, h0, X', hL, e1, e2, ⟨⟨M1, hq, hw⟩, hF⟩, hce, hcv, hcl, stp⟩
  · cases hv
    obtain ⟨k1, k2, k3⟩ := vx_keep (A1 := gA g) h0 e1 a3 (fun _ _ h => h) (fun _ h => h) hL hF
    obtain ⟨t2, b1, b2⟩ := kk v M1 hq p e R s m args below meth c T'.heap (locs ++ L) (cells + mc1) (slots + ms1) mc ms ls a1 (by rw [e1]; exact hw) k3 a4 (by omega) (by omega) (by omega) a8 a9 T' rfl X'
    exact ⟨t2, stp t2 b1, b2⟩
  · obtain ⟨k1, k2, k3⟩ := vx_keep (A1 := gA g) h0 e1 a3 (fun _ _ h => h) (fun _ h => h) hL hF
    obtain ⟨hH, hQ⟩ := kx E M1 hq
    have hce9 : T'.heap[q]? = some ce := by rw [e1]; exact hce
    have ho := vx_out (mc := mc) (ms := ms) (XC := QX g Q) (Qc := QR g Q) (free := gA g) (c := c) (pc := pc) (ls := ls) (rest := st) (H := T'.heap) (locs := locs ++ L) (cells := cells + mc1) (slots := slots + ms1) (p := p) (l := gl g) (e := e) (R := R) (s := s) (m := m) (args := args) (below := below) (meth := meth) (fun x hx => absurd hx (fun h => a1.2.2.2.2.2.2.2.2.1 hH x h)) a1.2.2.2.2.2.2.1 hce9 hcv hcl
      (fun t9 ht9 _ => ⟨⟨M1, hQ, by rw [ht9, e1]; exact hw⟩, k3.F ht9⟩) k3.2.2 (by omega) (by omega)
    obtain ⟨t2, b1, b2⟩ := ho T' rfl X'
    exact ⟨t2, stp.trans b1, b2⟩
theorem Run.met {y : MT} {As : List Value} {mc ms : Nat} {Q1 : Ou → Mem → Prop} (h : Run g y As M sz mc ms Q1) (hno : ∀ E M1, ¬ Q1 (.inr E) M1) :
    Met (gl g) (mY y) (mWs y) ({ frames := mF y, cells := mc, slots := ms, locals := mO y }) (va_Pc As (fun U => WO g M U.heap ∧ EV g U U.heap ∧ U.heap.size ≤ gb g + sz)) (QR g Q1) mc ms (gA g) := by
  refine MetFree.mono h fun a s o t q => ?_
  rcases q with q | ⟨x, _, E, ce, L, ⟨⟨M1, hq, _⟩, _⟩, _⟩
  · exact q
  · exact absurd hq (hno E M1)
theorem run_up {p : Program} {e : Env} {R : Room} {s : State} {m : MethodId} {args : Array Value} {below : List Frame} {meth : Method} {c : Code} {H : Heap} {locs : List Loc} {cells slots mc1 ms1 : Nat} {f : JFrame} {rest : List Value} {Qa : State → Outcome → State → Prop} {XC : String → State → State → Prop} {free : Addr → Prop} {l : Launch}
    (h : va_Run p l e R s m args below meth c H locs cells slots mc1 ms1 f rest Qa free) : vx_Run p l e R s m args below meth c H locs cells slots mc1 ms1 f rest Qa XC free := fun T hT X => Or.inl (h T hT X)
theorem mWs_code {y : MT} (h : mH y = []) : mWs y = Cond.code (mY y) (mC y) (mL y) (mR y) :: BIG := by unfold mWs mW; rw [h]
theorem mWs_codeW {y : MT} (h : mH y ≠ []) : mWs y = Cond.codeWith (mY y) (mC y) (mL y) (mR y) (mH y) :: BIG := by
  unfold mWs mW
  cases h2 : mH y with
  | nil => exact absurd h2 h
  | cons a b => rfl
/-- a static call -/
theorem V_callS {y : MT} {As : List Value} {idx n mc1 ms1 : Nat} {Q1 : Ou → Mem → Prop} (hr : Run g y As M sz mc1 ms1 Q1) (hy : mH y = []) (hk : MK y n) (hs : Cond.static (mY y) ∈ BIG) (hl : Cond.methodLink (mY mt).cls idx (mY y) ∈ BIG) (hR : mF y + 1 ≤ mF mt ∧ 8 + (mL y + 11) + mO y ≤ mO mt)
    (hn : As.length = n) (hst : (st.map fun v => v.category).sum ≤ 8) (d : decode (mC mt) pc = .ok (.invokestatic idx, 3))
    (kx : ∀ (E : String) (M1 : Mem), Q1 (.inr E) M1 → mH mt = [] ∧ Q (.inr E) M1) {st0 : List Value} (h0 : st0 = As.reverse ++ st)
    (kk : ∀ (v : Option Value) (M1 : Mem), Q1 (.inl v) M1 → V g mt (pc + 3) lv (v.toList ++ st) M1 (sz + mc1) kc ks Q) : V g mt pc lv st0 M sz (kc + mc1) (ks + ms1) Q := by
  intro p e R s m args below meth c H locs cells slots mc ms ls a1 a2 a3 a4 a5 a6 a7 a8 a9
  subst h0
  have hE := a1.2.2.2.2.2.2.2.2.2.2.2.2
  have hRR := a1.2.2.2.2.2.2.2.2.2.2
  refine W.size fun hz => ?_
  exact v_back (vx_runS (Ts := mWs mt) (own := (mY mt).cls) ⟨a1.1, a1.2.1, a1.2.2.1, a1.2.2.2.1, a1.2.2.2.2.1⟩ hr (va_cwS n a1.2.2.2.2.1 (good_big hl (good_big hs (good_big hk.2.1 (good_ws hk.1)))) (mWs_code hy) rfl rfl hk.2.2 ⟨Nat.le_trans hR.1 hRR.1, Nat.le_trans hR.2 hRR.2.1⟩)
    ⟨pc_blind, fun U hU hW => ⟨rfl, by rw [hU]; exact a2, by rw [hU]; exact hE.warm hW a3, by rw [hU]; omega⟩⟩ rfl hn a4.1 rfl (lv_room hst) d ⟨by omega, by omega⟩) a1 a3 a4 a5 a6 a7 a8 a9 kk kx
/-- a call of an object's method -/
theorem V_callV {y : MT} {As : List Value} {a ci idx n mc1 ms1 : Nat} {T : u_T} {N : Nat} {fs : List Value} {Q1 : Ou → Mem → Prop} (hr : Run g y (rf g a :: As) M sz mc1 ms1 Q1) (hM : M a = some (eO ci fs)) (hc : vwCl[ci]? = some ((mY y).cls, T, N)) (hy : mH y = []) (hk : MK y n) (hs : Cond.instanceMethod (mY y) ∈ BIG ∧ Cond.selects (mY y).cls (mY y) (mY y) ∈ BIG) (hl : Cond.methodLink (mY mt).cls idx (mY y) ∈ BIG) (hR : mF y + 1 ≤ mF mt ∧ 8 + (mL y + 11) + mO y ≤ mO mt)
    (hn : As.length = n) (hst : (st.map fun v => v.category).sum ≤ 8) (d : decode (mC mt) pc = .ok (.invokevirtual idx, 3))
    (kx : ∀ (E : String) (M1 : Mem), Q1 (.inr E) M1 → mH mt = [] ∧ Q (.inr E) M1) {st0 : List Value} (h0 : st0 = As.reverse ++ rf g a :: st)
    (kk : ∀ (v : Option Value) (M1 : Mem), Q1 (.inl v) M1 → V g mt (pc + 3) lv (v.toList ++ st) M1 (sz + mc1) kc ks Q) : V g mt pc lv st0 M sz (kc + mc1) (ks + ms1) Q := by
  intro p e R s m args below meth c H locs cells slots mc ms ls a1 a2 a3 a4 a5 a6 a7 a8 a9
  subst h0
  have hE := a1.2.2.2.2.2.2.2.2.2.2.2.2
  have hRR := a1.2.2.2.2.2.2.2.2.2.2
  obtain ⟨ws, hP, hD, hM2⟩ := id a2
  obtain ⟨q0, hq⟩ := wo_at hM2 hM
  refine W.size fun hz => ?_
  exact v_back (vx_runV (Ts := mWs mt) (own := (mY mt).cls) (C := (mY y).cls) ⟨a1.1, a1.2.1, a1.2.2.1, a1.2.2.2.1, a1.2.2.2.2.1⟩ hr (cwV n a1.2.2.2.2.1 (good_big hl (good_big hs.1 (good_big hs.2 (good_big hk.2.1 (good_ws hk.1))))) (mWs_code hy) rfl rfl ⟨rfl, hk.2.2⟩ ⟨Nat.le_trans hR.1 hRR.1, Nat.le_trans hR.2 hRR.2.1⟩)
    ⟨pc_blind, va_recv hE.1 hP hc hq, fun U hU hW => ⟨rfl, by rw [hU]; exact a2, by rw [hU]; exact hE.warm hW a3, by rw [hU]; omega⟩⟩ rfl hn a4.1 rfl (lv_room hst) d ⟨by omega, by omega⟩) a1 a3 a4 a5 a6 a7 a8 a9 kk kx
/-- a call of a constructor -/
theorem V_callI {y : MT} {As : List Value} {a idx n mc1 ms1 : Nat} {Q1 : Ou → Mem → Prop} (hr : Run g y (rf g a :: As) M sz mc1 ms1 Q1) (hno : ∀ E M1, ¬ Q1 (.inr E) M1) (hy : mH y = []) (hy2 : mR y = none) (hk : MK y n) (hs : Cond.instanceMethod (mY y) ∈ BIG) (hi : (mY y).name = "<init>") (hl : Cond.methodLink (mY mt).cls idx (mY y) ∈ BIG) (hR : mF y + 1 ≤ mF mt ∧ 8 + (mL y + 11) + mO y ≤ mO mt)
    (hn : As.length = n) (hst : (st.map fun v => v.category).sum ≤ 8) (d : decode (mC mt) pc = .ok (.invokespecial idx, 3)) {st0 : List Value} (h0 : st0 = As.reverse ++ rf g a :: st)
    (kk : ∀ (v : Option Value) (M1 : Mem), Q1 (.inl v) M1 → V g mt (pc + 3) lv (v.toList ++ st) M1 (sz + mc1) kc ks Q) : V g mt pc lv st0 M sz (kc + mc1) (ks + ms1) Q := by
  intro p e R s m args below meth c H locs cells slots mc ms ls a1 a2 a3 a4 a5 a6 a7 a8 a9
  subst h0
  have hE := a1.2.2.2.2.2.2.2.2.2.2.2.2
  have hRR := a1.2.2.2.2.2.2.2.2.2.2
  have hw := mWs_code hy
  rw [hy2] at hw
  have ok : ∀ w ∈ BIG, w.before args s = true := fun w h => a1.2.2.2.2.1 w (List.mem_cons_of_mem _ h)
  refine W.size fun hz => ?_
  exact v_back (run_up (va_runI (Ts := mWs mt) (own := (mY mt).cls) ⟨a1.1, a1.2.1, a1.2.2.1, a1.2.2.2.1, a1.2.2.2.2.1⟩ (hr.met hno) (cwI n a1.2.2.2.2.1 (good_ws hk.1) hw rfl rfl (ok _ hk.2.1) (ok _ hl) (ok _ hs) hi hk.2.2 ⟨Nat.le_trans hR.1 hRR.1, Nat.le_trans hR.2 hRR.2.1⟩)
    ⟨pc_blind, fun U hU hW => ⟨rfl, by rw [hU]; exact a2, by rw [hU]; exact hE.warm hW a3, by rw [hU]; omega⟩⟩ rfl hn a4.1 rfl (lv_room hst) d ⟨by omega, by omega⟩)) a1 a3 a4 a5 a6 a7 a8 a9 kk (fun E M1 h => absurd h (hno E M1))
/-- a static call of a nest mate's private method -/
theorem V_callSN {y : MT} {As : List Value} {idx n mc1 ms1 : Nat} {host : String} {Q1 : Ou → Mem → Prop} (hr : Run g y As M sz mc1 ms1 Q1) (hno : ∀ E M1, ¬ Q1 (.inr E) M1) (hy : mH y = []) (hk : MK y n) (hs : Cond.static (mY y) ∈ BIG) (hl : Cond.methodLinkNest (mY mt).cls idx (mY y) host ∈ NWL) (hR : mF y + 1 ≤ mF mt ∧ 8 + (mL y + 11) + mO y ≤ mO mt)
    (hn : As.length = n) (hst : (st.map fun v => v.category).sum ≤ 8) (d : decode (mC mt) pc = .ok (.invokestatic idx, 3)) {st0 : List Value} (h0 : st0 = As.reverse ++ st)
    (kk : ∀ (v : Option Value) (M1 : Mem), Q1 (.inl v) M1 → V g mt (pc + 3) lv (v.toList ++ st) M1 (sz + mc1) kc ks Q) : V g mt pc lv st0 M sz (kc + mc1) (ks + ms1) Q := by
  intro p e R s m args below meth c H locs cells slots mc ms ls a1 a2 a3 a4 a5 a6 a7 a8 a9
  subst h0
  have hE := a1.2.2.2.2.2.2.2.2.2.2.2.2
  have hRR := a1.2.2.2.2.2.2.2.2.2.2
  have ok : ∀ w ∈ BIG, w.before args s = true := fun w h => a1.2.2.2.2.1 w (List.mem_cons_of_mem _ h)
  refine W.size fun hz => ?_
  exact v_back (run_up (va_runSN (Ts := mWs mt) (own := (mY mt).cls) ⟨a1.1, a1.2.1, a1.2.2.1, a1.2.2.2.1, a1.2.2.2.2.1⟩ (hr.met hno) ⟨va_cnB n a1.2.2.2.2.1 (good_ws hk.1) (mWs_code hy) rfl rfl (hE.2.1 _ hl) (ok _ hk.2.1) hk.2.2 ⟨Nat.le_trans hR.1 hRR.1, Nat.le_trans hR.2 hRR.2.1⟩, ok _ hs, trivial⟩
    ⟨pc_blind, fun U hU hW => ⟨rfl, by rw [hU]; exact a2, by rw [hU]; exact hE.warm hW a3, by rw [hU]; omega⟩⟩ rfl hn a4.1 rfl (lv_room hst) d ⟨by omega, by omega⟩)) a1 a3 a4 a5 a6 a7 a8 a9 kk (fun E M1 h => absurd h (hno E M1))
end VCALL
