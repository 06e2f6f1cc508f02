/-- a method: its name, its bytes, its locals, what it answers, its handlers, its room of frames and of locals -/
abbrev MT : Type := MethodName × ByteArray × Nat × Option FieldType × List (Nat × Nat × Nat × Nat) × Nat × Nat
def mY (m : MT) : MethodName := m.1
def mC (m : MT) : ByteArray := m.2.1
def mL (m : MT) : Nat := m.2.2.1
def mR (m : MT) : Option FieldType := m.2.2.2.1
def mH (m : MT) : List (Nat × Nat × Nat × Nat) := m.2.2.2.2.1
def mF (m : MT) : Nat := m.2.2.2.2.2.1
def mO (m : MT) : Nat := m.2.2.2.2.2.2
def mW (m : MT) : Cond := match mH m with
  | [] => .code (mY m) (mC m) (mL m) (mR m)
  | h :: t => .codeWith (mY m) (mC m) (mL m) (mR m) (h :: t)
def mWs (m : MT) : List Cond := mW m :: BIG
/-- what a frame of the method m stands on -/
def AM (g : GE) (mt : MT) (p : Program) (e : Env) (R : Room) (s : State) (m : MethodId) (args : Array Value) (meth : Method) (c : Code) : Prop :=
  p.tables.exec = Jvm.exec ∧ c.code = mC mt ∧ c.maxLocals = mL mt ∧ s.vm.findClass (mY mt).cls = some m.cls ∧ (∀ w ∈ mWs mt, w.before args s = true) ∧ meth.sig.returnType = mR mt ∧ meth.locks = false ∧ meth.name = (mY mt).name ∧
  (mH mt = [] → ∀ x ∈ c.exceptionTable.toList, False) ∧ (mH mt ≠ [] → c.exceptionTable.toList = tableOf (mH mt)) ∧ mF mt ≤ R.frames ∧ mO mt ≤ R.locals ∧ EV g s s.heap
def QR (g : GE) (Q : Ou → Mem → Prop) : Array Value → State → Outcome → State → Prop := fun _ st o t => (∃ (v : Option Value) (M : Mem), o = .returned v ∧ Q (.inl v) M ∧ WO g M t.heap) ∧ va_F (gA g) st t
def QX (g : GE) (Q : Ou → Mem → Prop) : String → State → State → Prop := fun E st t => (∃ M : Mem, Q (.inr E) M ∧ WO g M t.heap) ∧ va_F (gA g) st t
/-- the walk: from pc, locals lv, stack st, heap M (its size at most base + sz), with kc cells and ks slots left, the method ends with Q -/
def V (g : GE) (mt : MT) (pc : Nat) (lv : List (Nat × Value)) (st : List Value) (M : Mem) (sz kc ks : Nat) (Q : Ou → Mem → Prop) : Prop :=
  ∀ (p : Program) (e : Env) (R : Room) (s : State) (m : MethodId) (args : Array Value) (below : List Frame) (meth : Method) (c : Code) (H : Heap) (locs : List Loc) (cells slots mc ms : Nat) (ls : Array Slot),
    AM g mt p e R s m args meth c → WO g M H → va_S (gA g) s.heap H locs → lv_has ls (mL mt) lv → s.heap.size + cells ≤ gb g + sz → cells + kc ≤ mc → slots + ks ≤ ms → mc ≤ R.cells → ms ≤ R.slots →
    W p (gl g) e R s m args below meth c H locs cells slots (vx_MQ below (QR g Q) (QX g Q) args s mc ms (gA g)) (F0 m pc ls st)
/-- a call: with the arguments As, from the heap M, at the cost of mc cells and ms slots, it ends with Q -/
def Run (g : GE) (mt : MT) (As : List Value) (M : Mem) (sz mc ms : Nat) (Q : Ou → Mem → Prop) : Prop :=
  vx_Met (gl g) (mY mt) (mWs mt) ({ frames := mF mt, cells := mc, slots := ms, locals := mO mt }) (va_Pc As (fun U => WO g M U.heap ∧ EV g U U.heap ∧ U.heap.size ≤ gb g + sz)) (QR g Q) (QX g Q) mc ms (gA g)
theorem vx_Q.mono {Qc Qc' : Array Value → State → Outcome → State → Prop} {XC XC' : String → State → State → Prop} {mc ms : Nat} {free : Addr → Prop} (h1 : ∀ a st o t, Qc a st o t → Qc' a st o t) (h2 : ∀ E st t, XC E st t → XC' E st t) {a : Array Value} {st : State} {o : Outcome} {t : State} (h : vx_Q Qc XC mc ms free a st o t) : vx_Q Qc' XC' mc ms free a st o t := by
  rcases h with ⟨a1, a2⟩ | ⟨q, a1, E, ce, L, b1, b2⟩
  · exact Or.inl ⟨h1 _ _ _ _ a1, a2⟩
  · exact Or.inr ⟨q, a1, E, ce, L, h2 _ _ _ b1, b2⟩
theorem QR.mono {g : GE} {Q Q' : Ou → Mem → Prop} (h : ∀ o M, Q o M → Q' o M) {a : Array Value} {st : State} {o : Outcome} {t : State} (k : QR g Q a st o t) : QR g Q' a st o t := by
  obtain ⟨⟨v, M, e, q, w⟩, f⟩ := k
  exact ⟨⟨v, M, e, h _ _ q, w⟩, f⟩
theorem QX.mono {g : GE} {Q Q' : Ou → Mem → Prop} (h : ∀ o M, Q o M → Q' o M) {E : String} {st t : State} (k : QX g Q E st t) : QX g Q' E st t := by
  obtain ⟨⟨M, q, w⟩, f⟩ := k
  exact ⟨⟨M, h _ _ q, w⟩, f⟩
theorem vx_MQ.mono {below : List Frame} {Qc Qc' : Array Value → State → Outcome → State → Prop} {XC XC' : String → State → State → Prop} {a : Array Value} {s : State} {mc ms : Nat} {free : Addr → Prop} (h1 : ∀ a st o t, Qc a st o t → Qc' a st o t) (h2 : ∀ E st t, XC E st t → XC' E st t) {t : State} (h : vx_MQ below Qc XC a s mc ms free t) : vx_MQ below Qc' XC' a s mc ms free t := by
  obtain ⟨o, e1, e2, e3⟩ := h
  exact ⟨o, e1, e2, e3.mono h1 h2⟩
theorem V.mono {g : GE} {mt : MT} {pc : Nat} {lv : List (Nat × Value)} {st : List Value} {M : Mem} {sz kc ks : Nat} {Q Q' : Ou → Mem → Prop} (k : V g mt pc lv st M sz kc ks Q) (h : ∀ o M, Q o M → Q' o M) : V g mt pc lv st M sz kc ks Q' := by
  intro p e R s m args below meth c H locs cells slots mc ms ls a1 a2 a3 a4 a5 a6 a7 a8 a9 T hT X
  obtain ⟨t, b1, b2⟩ := k p e R s m args below meth c H locs cells slots mc ms ls a1 a2 a3 a4 a5 a6 a7 a8 a9 T hT X
  exact ⟨t, b1, b2.mono (fun _ _ _ _ => QR.mono h) (fun _ _ _ => QX.mono h)⟩
theorem MetFree.mono {l : Launch} {y : MethodName} {S : Spec} {P : Array Value → State → Prop} {K : Program → Env → List Frame → State → Array Value → Prop} {Q Q' : Array Value → State → Outcome → State → Prop} (h : MetFree l y S P K Q) (hq : ∀ a s o t, Q a s o t → Q' a s o t) : MetFree l y S P K Q' := by
  intro p e ha hc hk s m args below hf happ hP hK
  obtain ⟨k, o, h1, h2, h3, h4⟩ := h p e ha hc hk s m args below hf happ hP hK
  exact ⟨k, o, h1, h2, h3, hq _ _ _ _ h4⟩
theorem Run.mono {g : GE} {mt : MT} {As : List Value} {M : Mem} {sz mc ms : Nat} {Q Q' : Ou → Mem → Prop} (k : Run g mt As M sz mc ms Q) (h : ∀ o M, Q o M → Q' o M) : Run g mt As M sz mc ms Q' :=
  MetFree.mono k fun _ _ _ _ q => q.mono (fun _ _ _ _ => QR.mono h) (fun _ _ _ => QX.mono h)
/-- a walk from the entry is a call (methods without handlers) -/
theorem Run.of {g : GE} {mt : MT} {As : List Value} {M : Mem} {sz mc ms : Nat} {Q : Ou → Mem → Prop} (hH : mH mt = []) (hy : plainName (mY mt).cls = true) (hl : (lg_sl As).length ≤ mL mt)
    (k : V g mt 0 (lv_args 0 As) [] M sz mc ms Q) : Run g mt As M sz mc ms Q := by
  have hw : mWs mt = Cond.code (mY mt) (mC mt) (mL mt) (mR mt) :: BIG := by unfold mWs mW; rw [hH]
  refine vx_ofW (cc := mC mt) (maxL := mL mt) (ret := mR mt) hy hw ?_
  intro p e s m args below meth c s₁ B hml ht hv
  obtain ⟨rfl, hP, hE, hz⟩ := hv
  have hts := atoms_spec (ws := mWs mt) B.pre
  have hn := name_of_methodNamed B.named B.method
  rw [lg_entry_eq]
  have hl := lv_entry As (n := mL mt) hl
  exact k p e _ s m As.toArray below meth c s.heap [] 0 0 mc ms _ ⟨B.exec, B.bytes, hml, findClass_of_methodNamed B.named, hts, B.returns, B.notSynchronized, hn.1, fun _ => ht, fun h => absurd hH h, Nat.le_refl _, Nat.le_refl _, hE⟩ hP va_S.rf hl (by omega) (by omega) (by omega) (Nat.le_refl _) (Nat.le_refl _)
/-- .. and of a method with handlers -/
theorem Run.ofH {g : GE} {mt : MT} {As : List Value} {M : Mem} {sz mc ms : Nat} {Q : Ou → Mem → Prop} (hH : mH mt ≠ []) (hy : plainName (mY mt).cls = true) (hl : (lg_sl As).length ≤ mL mt)
    (k : V g mt 0 (lv_args 0 As) [] M sz mc ms Q) : Run g mt As M sz mc ms Q := by
  have hw : mWs mt = Cond.codeWith (mY mt) (mC mt) (mL mt) (mR mt) (mH mt) :: BIG := by
    unfold mWs mW
    cases h : mH mt with
    | nil => exact absurd h hH
    | cons a b => rfl
  refine vx_ofWH (cc := mC mt) (maxL := mL mt) (ret := mR mt) (hh := mH mt) hy hw ?_
  intro p e s m args below meth c s₁ B hml hv
  obtain ⟨rfl, hP, hE, hz⟩ := hv
  have hts := atoms_spec (ws := mWs mt) B.pre
  have hn := name_of_methodNamed B.named B.method
  have htab := vx_table (x := mY mt) (hh := mH mt) B (hts _ (by rw [hw]; exact List.mem_cons_self))
  rw [lg_entry_eq]
  have hl := lv_entry As (n := mL mt) hl
  exact k p e _ s m As.toArray below meth c s.heap [] 0 0 mc ms _ ⟨B.exec, B.bytes, hml, findClass_of_methodNamed B.named, hts, B.returns, B.notSynchronized, hn.1, fun h => absurd h hH, fun _ => htab, Nat.le_refl _, Nat.le_refl _, hE⟩ hP va_S.rf hl (by omega) (by omega) (by omega) (Nat.le_refl _) (Nat.le_refl _)
