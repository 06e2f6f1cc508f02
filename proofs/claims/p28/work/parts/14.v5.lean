/-! new things, calls, throws -/
section VNEW
variable {g : GE} {mt : MT} {pc : Nat} {lv : List (Nat × Value)} {st : List Value} {M : Mem} {sz kc ks : Nat} {Q : Ou → Mem → Prop}
/-- a new cell behind a full heap lies at base + sz -/
theorem wo_new {ws : va_W} {H H1 : Heap} {q : Nat} {x : va_E} (hP : va_P (gD g) vwCl ws H) (hM2 : ∀ (k : Nat) (e : va_E), M k = some e ↔ (gb g + k, e) ∈ ws) (hfull : ∀ k, k < sz → M k ≠ none)
    (hP1 : va_P (gD g) vwCl (ws ++ [(q, x)]) H1) (hD1 : va_D (gA g) (ws ++ [(q, x)])) (hz : H1.size ≤ gb g + sz + 1) : q = gb g + sz ∧ M sz = none := by
  have hl : (ws ++ [(q, x)])[ws.length]? = some (q, x) := by simp
  have hq1 : q < H1.size := (hP1 _ _ hl).lt
  have hq2 : gb g ≤ q := hD1.2 _ _ hl
  have key : ∀ j e, M j = some e → q ≠ gb g + j := by
    intro j e he hqj
    obtain ⟨i, hi⟩ := List.getElem?_of_mem ((hM2 j e).mp he)
    have hil := (List.getElem?_eq_some_iff.mp hi).1
    have h3 : (ws ++ [(q, x)])[i]? = some (gb g + j, e) := by rw [List.getElem?_append_left hil]; exact hi
    have := hD1.1 i ws.length _ _ h3 hl hqj.symm
    omega
  have hq3 : q = gb g + sz := by
    rcases Nat.lt_or_ge q (gb g + sz) with h | h
    · cases hm : M (q - gb g) with
      | none => exact absurd hm (hfull _ (by omega))
      | some e => exact absurd (by omega) (key _ _ hm)
    · omega
  refine ⟨hq3, ?_⟩
  cases hm : M sz with
  | none => rfl
  | some e => exact absurd hq3 (key _ _ hm)
theorem W.size {p : Program} {l : Launch} {e : Env} {R : Room} {s : State} {m : MethodId} {args : Array Value} {below : List Frame} {meth : Method} {c : Code} {H : Heap} {locs : List Loc} {cells slots : Nat} {Q : State → Prop} {f : JFrame}
    (k : H.size ≤ s.heap.size + cells → W p l e R s m args below meth c H locs cells slots Q f) : W p l e R s m args below meth c H locs cells slots Q f := by
  intro T hT X
  have h := X.same.2.2.1
  have h2 : (T.setVm s.vm).heap.size = H.size := by rw [← hT]; rfl
  exact k (by omega) T hT X
theorem V_newO {ci idx : Nat} {C : String} {T : u_T} {N : Nat} {fs : List Value} (hc : vwCl[ci]? = some (C, T, N)) (hl : Cond.classLink (mY mt).cls idx C ∈ BIG) (hi : Cond.instantiable C N ∈ BIG) (hn : Cond.initialized C ∈ BIG) (hfs : ∀ j, j < N → defaultValue (clTy ci j) = vp_V fs j) (hfull : ∀ k, k < sz → M k ≠ none)
    (d : decode (mC mt) pc = .ok (.new idx, 3)) (kk : M sz = none → V g mt (pc + 3) lv (rf g sz :: st) (mup M sz (eO ci fs)) (sz + 1) kc ks Q) : V g mt pc lv st M sz (kc + 1) (ks + N) Q := by
  intro p e R s m args below meth c H locs cells slots mc ms ls a1 a2 a3 a4 a5 a6 a7 a8 a9
  obtain ⟨ws, hP, hD, hM2⟩ := id a2
  have hE := a1.2.2.2.2.2.2.2.2.2.2.2.2
  have hb : gb g ≤ s.heap.size := hE.2.2.2.2.2.2.2.2.2.2
  refine va_new a1.1 a1.2.1 a1.2.2.2.2.1 (cl_ws hc mt) (clTy ci) (cl_ty hc).1 a1.2.2.2.1 (a1.2.2.2.2.1 _ (List.mem_cons_of_mem _ hl)) (a1.2.2.2.2.1 _ (List.mem_cons_of_mem _ hi)) (a1.2.2.2.2.1 _ (List.mem_cons_of_mem _ hn)) hE.1 hP hD a3 (fun q h => Nat.le_trans hb h) hc hfs (by omega) (by omega) d (fun q H1 hP1 hD1 hS1 => W.size fun hz => ?_)
  obtain ⟨rfl, hM0⟩ := wo_new hP hM2 hfull hP1 hD1 (by omega)
  exact kk hM0 p e R s m args below meth c H1 locs (cells + 1) (slots + N) mc ms ls a1 ⟨_, hP1, hD1, wo_push hD hM2 hM0⟩ hS1 a4 (by omega) (by omega) (by omega) a8 a9
theorem va_RA_one {U : State} {t : FieldType} {a b : ClassId} (ht : t = .int ∨ t = .long) (h1 : va_RA U a t) (h2 : va_RA U b t) : a = b := by
  rcases ht with rfl | rfl <;> exact Option.some.inj (h1.symm.trans h2)
theorem V_newI {n : Int32} (N : Nat) (hw : Cond.arrayClass .int ∈ BIG) (h0 : ¬ n < 0) (hN : n.toNatClampNeg = N) (hb9 : N * componentBytes .int ≤ 536870912) (hfull : ∀ k, k < sz → M k ≠ none)
    (d : decode (mC mt) pc = .ok (.newarray .int, 2)) (kk : M sz = none → V g mt (pc + 2) lv (rf g sz :: st) (mup M sz (eI g N (fun _ => 0))) (sz + 1) kc ks Q) : V g mt pc lv (.int n :: st) M sz (kc + 1) (ks + N) Q := by
  intro p e R s m args below meth c H locs cells slots mc ms ls a1 a2 a3 a4 a5 a6 a7 a8 a9
  obtain ⟨ws, hP, hD, hM2⟩ := id a2
  have hE := a1.2.2.2.2.2.2.2.2.2.2.2.2
  have hb : gb g ≤ s.heap.size := hE.2.2.2.2.2.2.2.2.2.2
  refine va_newa (atype := .int) (ty := .int) (a0 := (N, .inl (fun _ => 0))) a1.1 a1.2.1 (a1.2.2.2.2.1 _ (List.mem_cons_of_mem _ hw)) rfl hE.1 hP hD a3 (fun q h => Nat.le_trans hb h) (fun cA => rfl) h0 hN hb9 (by omega) (by omega) d (fun q cA H1 hK1 hP1 hD1 hS1 => W.size fun hz => ?_)
  obtain ⟨rfl, hM0⟩ := wo_new hP hM2 hfull hP1 hD1 (by omega)
  have hcA : cA = gI g := va_RA_one (Or.inl rfl) (hK1.2 3 _ rfl).2 (hK1.2 0 _ rfl).2
  subst hcA
  exact kk hM0 p e R s m args below meth c H1 locs (cells + 1) (slots + N) mc ms ls a1 ⟨_, hP1, hD1, wo_push hD hM2 hM0⟩ hS1 a4 (by omega) (by omega) (by omega) a8 a9
theorem V_newJ {n : Int32} (N : Nat) (hw : Cond.arrayClass .long ∈ BIG) (h0 : ¬ n < 0) (hN : n.toNatClampNeg = N) (hb9 : N * componentBytes .long ≤ 536870912) (hfull : ∀ k, k < sz → M k ≠ none)
    (d : decode (mC mt) pc = .ok (.newarray .long, 2)) (kk : M sz = none → V g mt (pc + 2) lv (rf g sz :: st) (mup M sz (eJ g N (fun _ => 0))) (sz + 1) kc ks Q) : V g mt pc lv (.int n :: st) M sz (kc + 1) (ks + N) Q := by
  intro p e R s m args below meth c H locs cells slots mc ms ls a1 a2 a3 a4 a5 a6 a7 a8 a9
  obtain ⟨ws, hP, hD, hM2⟩ := id a2
  have hE := a1.2.2.2.2.2.2.2.2.2.2.2.2
  have hb : gb g ≤ s.heap.size := hE.2.2.2.2.2.2.2.2.2.2
  refine va_newa (atype := .long) (ty := .long) (a0 := (N, .inr (.inl (fun _ => 0)))) a1.1 a1.2.1 (a1.2.2.2.2.1 _ (List.mem_cons_of_mem _ hw)) rfl hE.1 hP hD a3 (fun q h => Nat.le_trans hb h) (fun cA => rfl) h0 hN hb9 (by omega) (by omega) d (fun q cA H1 hK1 hP1 hD1 hS1 => W.size fun hz => ?_)
  obtain ⟨rfl, hM0⟩ := wo_new hP hM2 hfull hP1 hD1 (by omega)
  have hcA : cA = gJ g := va_RA_one (Or.inr rfl) (hK1.2 3 _ rfl).2 (hK1.2 1 _ rfl).2
  subst hcA
  exact kk hM0 p e R s m args below meth c H1 locs (cells + 1) (slots + N) mc ms ls a1 ⟨_, hP1, hD1, wo_push hD hM2 hM0⟩ hS1 a4 (by omega) (by omega) (by omega) a8 a9
theorem V_newY {n : Int32} {idx : Nat} (N : Nat) (hl : Cond.classLink (mY mt).cls idx "ParishYards$Yards" ∈ BIG) (h0 : ¬ n < 0) (hN : n.toNatClampNeg = N) (hb9 : N * 4 ≤ 536870912) (hfull : ∀ k, k < sz → M k ≠ none)
    (d : decode (mC mt) pc = .ok (.anewarray idx, 3)) (kk : M sz = none → V g mt (pc + 3) lv (rf g sz :: st) (mup M sz (eY g N (fun _ => none))) (sz + 1) kc ks Q) : V g mt pc lv (.int n :: st) M sz (kc + 1) (ks + N) Q := by
  intro p e R s m args below meth c H locs cells slots mc ms ls a1 a2 a3 a4 a5 a6 a7 a8 a9
  obtain ⟨ws, hP, hD, hM2⟩ := id a2
  have hE := a1.2.2.2.2.2.2.2.2.2.2.2.2
  have hb : gb g ≤ s.heap.size := hE.2.2.2.2.2.2.2.2.2.2
  refine va_newq (C := "ParishYards$Yards") a1.1 a1.2.1 a1.2.2.2.1 (a1.2.2.2.2.1 _ (List.mem_cons_of_mem _ hl)) hE.2.2.2.2.2.2.2.2.1 hE.1 hP hD a3 (fun q h => Nat.le_trans hb h) h0 hN hb9 (by omega) (by omega) d (fun q cA H1 hK1 hP1 hD1 hS1 => W.size fun hz => ?_)
  obtain ⟨rfl, hM0⟩ := wo_new hP hM2 hfull hP1 hD1 (by omega)
  have hcA : cA = gY g := by
    obtain ⟨_, _, _, _, _, x1⟩ := (hK1.2 3 _ rfl).2
    obtain ⟨_, _, _, _, _, x2⟩ := (hK1.2 2 _ rfl).2
    exact Option.some.inj (x1.symm.trans x2)
  subst hcA
  exact kk hM0 p e R s m args below meth c H1 locs (cells + 1) (slots + N) mc ms ls a1 ⟨_, hP1, hD1, wo_push hD hM2 hM0⟩ hS1 a4 (by omega) (by omega) (by omega) a8 a9
/-- Object's constructor -/
theorem V_objInit {a idx : Nat} (hl : Cond.methodLink (mY mt).cls idx Lib.objectInit ∈ BIG) (hF : 1 ≤ mF mt) (hO : (st.map fun v => v.category).sum + 12 ≤ mO mt) (d : decode (mC mt) pc = .ok (.invokespecial idx, 3)) (kk : V g mt (pc + 3) lv st M sz kc ks Q) : V g mt pc lv (.ref a :: st) M sz kc ks Q := by
  intro p e R s m args below meth c H locs cells slots mc ms ls a1 a2 a3 a4 a5 a6 a7 a8 a9
  have hin : (Cond.instanceMethod Lib.objectInit) ∈ mWs mt := List.mem_cons_of_mem _ (inBIG 49 (by decide +kernel))
  have hco : (Cond.code Lib.objectInit ⟨#[0xb1]⟩ 1 none) ∈ mWs mt := List.mem_cons_of_mem _ (inBIG 50 (by decide +kernel))
  have hR := a1.2.2.2.2.2.2.2.2.2.2
  refine W.objInit a1.1 a1.2.1 a1.2.2.2.1 (a1.2.2.2.2.1 _ (List.mem_cons_of_mem _ hl)) (a1.2.2.2.2.1 _ hin) (a1.2.2.2.2.1 _ hco) rfl (a4.1.trans a1.2.2.1.symm) rfl d (Nat.le_trans hF hR.1) ?_ ?_
  · show 2 * 0 + _ + 12 ≤ _
    have := hR.2.1
    omega
  · exact W.eq (g2 := F0 m (pc + 3) ls st) rfl (kk p e R s m args below meth c H locs cells slots mc ms ls a1 a2 a3 a4 a5 a6 a7 a8 a9)
end VNEW
