/-! tables, the rest (by program) -/
theorem V_pc {g : GE} {mt : MT} {pc pc2 : Nat} {lv : List (Nat × Value)} {st : List Value} {M : Mem} {sz kc ks : Nat} {Q : Ou → Mem → Prop} (h : pc = pc2) (k : V g mt pc2 lv st M sz kc ks Q) : V g mt pc lv st M sz kc ks Q := h ▸ k
theorem st_X8_248 : Cond.fieldLink RX8 248 "ParishYards" "RINGS" "[I" ∈ BIG := inBIG 592 (by decide +kernel)
theorem st_X3_29 : Cond.fieldLinkNest RX3 29 "ParishYards" "RINGS" "[I" "ParishYards" ∈ NWL := inNWL 181 (by decide +kernel)
theorem st_X6_19 : Cond.fieldLinkNest RX6 19 "ParishYards" "MIDDLES" "[I" "ParishYards" ∈ NWL := inNWL 524 (by decide +kernel)
theorem l_obj_X8_1 : Cond.methodLink RX8 1 Lib.objectInit ∈ BIG := inBIG 48 (by decide +kernel)
theorem l_obj_X0_3 : Cond.methodLink RX0 3 Lib.objectInit ∈ BIG := inBIG 80 (by decide +kernel)
theorem l_obj_X1_3 : Cond.methodLink RX1 3 Lib.objectInit ∈ BIG := inBIG 140 (by decide +kernel)
theorem l_obj_X2_3 : Cond.methodLink RX2 3 Lib.objectInit ∈ BIG := inBIG 229 (by decide +kernel)
theorem l_obj_X3_3 : Cond.methodLink RX3 3 Lib.objectInit ∈ BIG := inBIG 175 (by decide +kernel)
theorem l_obj_X4_3 : Cond.methodLink RX4 3 Lib.objectInit ∈ BIG := inBIG 65 (by decide +kernel)
theorem l_obj_X5_3 : Cond.methodLink RX5 3 Lib.objectInit ∈ BIG := inBIG 157 (by decide +kernel)
theorem l_obj_X6_3 : Cond.methodLink RX6 3 Lib.objectInit ∈ BIG := inBIG 215 (by decide +kernel)
theorem l_obj_X7_3 : Cond.methodLink RX7 3 Lib.objectInit ∈ BIG := inBIG 56 (by decide +kernel)
theorem nw_X0 : ∀ j, j < 7 → defaultValue (clTy 0 j) = vp_V [.null, .null, .null, .null, .int 0, .int 0, .int 0] j := by
  intro j hj
  match j, hj with
  | 0, _ => rfl
  | 1, _ => rfl
  | 2, _ => rfl
  | 3, _ => rfl
  | 4, _ => rfl
  | 5, _ => rfl
  | 6, _ => rfl
  | j + 7, hj => omega
theorem nw_X1 : ∀ j, j < 2 → defaultValue (clTy 1 j) = vp_V [.null, .int 0] j := by
  intro j hj
  match j, hj with
  | 0, _ => rfl
  | 1, _ => rfl
  | j + 2, hj => omega
theorem nw_X2 : ∀ j, j < 2 → defaultValue (clTy 2 j) = vp_V [.null, .null] j := by
  intro j hj
  match j, hj with
  | 0, _ => rfl
  | 1, _ => rfl
  | j + 2, hj => omega
theorem nw_X3 : ∀ j, j < 3 → defaultValue (clTy 3 j) = vp_V [.null, .null, .null] j := by
  intro j hj
  match j, hj with
  | 0, _ => rfl
  | 1, _ => rfl
  | 2, _ => rfl
  | j + 3, hj => omega
theorem nw_X4 : ∀ j, j < 2 → defaultValue (clTy 4 j) = vp_V [.null, .int 0] j := by
  intro j hj
  match j, hj with
  | 0, _ => rfl
  | 1, _ => rfl
  | j + 2, hj => omega
theorem nw_X5 : ∀ j, j < 3 → defaultValue (clTy 5 j) = vp_V [.null, .int 0, .int 0] j := by
  intro j hj
  match j, hj with
  | 0, _ => rfl
  | 1, _ => rfl
  | 2, _ => rfl
  | j + 3, hj => omega
theorem nw_X6 : ∀ j, j < 2 → defaultValue (clTy 6 j) = vp_V [.null, .int 0] j := by
  intro j hj
  match j, hj with
  | 0, _ => rfl
  | 1, _ => rfl
  | j + 2, hj => omega
theorem nw_X7 : ∀ j, j < 6 → defaultValue (clTy 7 j) = vp_V [.null, .null, .null, .null, .int 0, .int 0] j := by
  intro j hj
  match j, hj with
  | 0, _ => rfl
  | 1, _ => rfl
  | 2, _ => rfl
  | 3, _ => rfl
  | 4, _ => rfl
  | 5, _ => rfl
  | j + 6, hj => omega
theorem nw_X8 : ∀ j, j < 9 → defaultValue (clTy 8 j) = vp_V [.null, .null, .null, .null, .null, .null, .null, .null, .int 0] j := by
  intro j hj
  match j, hj with
  | 0, _ => rfl
  | 1, _ => rfl
  | 2, _ => rfl
  | 3, _ => rfl
  | 4, _ => rfl
  | 5, _ => rfl
  | 6, _ => rfl
  | 7, _ => rfl
  | 8, _ => rfl
  | j + 9, hj => omega
theorem ca_0 : Cond.castable (exN 0) (exN 0) ∈ NWL := inNWL 491 (by decide +kernel)
theorem ca_1 : Cond.castable (exN 1) (exN 1) ∈ NWL := inNWL 357 (by decide +kernel)
theorem ca_2 : Cond.castable (exN 2) (exN 2) ∈ NWL := inNWL 685 (by decide +kernel)
theorem cl_L_15 : Cond.classLink RL 15 (exN 0) ∈ BIG := inBIG 737 (by decide +kernel)
theorem cl_L_17 : Cond.classLink RL 17 (exN 1) ∈ BIG := inBIG 669 (by decide +kernel)
theorem cl_L_23 : Cond.classLink RL 23 (exN 2) ∈ BIG := inBIG 678 (by decide +kernel)
/-- a walk from the entry, of a method that no entry of the natives stands for -/
theorem vx_ofWF {l : Launch} {y : MethodName} {ws ws' : List Cond} {rm : Room} {Pc : Array Value → State → Prop} {Qc : Array Value → State → Outcome → State → Prop} {XC : String → State → State → Prop} {mc ms : Nat} {free : Addr → Prop} {cc : ByteArray} {maxL : Nat} {ret : Option FieldType}
    (hy : plainFor y = true) (hw : ws = Cond.code y cc maxL ret :: ws')
    (body : ∀ p e s m args below meth c s₁, BodyLoose p l y (headSpec ws rm) cc maxL ret e s m args below meth c s₁ → c.maxLocals = maxL → (∀ x ∈ c.exceptionTable.toList, False) → Pc args s →
      W p l e (headSpec ws rm).room s m args below meth c s.heap [] 0 0 (vx_MQ below Qc XC args s mc ms free) (entryFrame m args maxL)) : vx_Met l y ws rm Pc Qc XC mc ms free := by
  refine MetFree.of_bodySF (code := cc) (maxLocals := maxL) (ret := ret) hy ?_ ?_
  · intro args s m h hn
    obtain ⟨meth, c, h1, h2, h3, h4, h5, h6, -, -⟩ := Cond.code_spec hn (atoms_spec (ws := ws) h _ (by rw [hw]; exact List.mem_cons_self))
    exact ⟨meth, c, h1, h2, h3, h4, h5, h6⟩
  · intro p e s m args below meth c s₁ B hml hP _
    have hh0 : s₁.heap = s.heap := by rw [B.state]; rfl
    have ht : ∀ x ∈ c.exceptionTable.toList, False := by
      obtain ⟨meth9, c9, h1, h2, -, -, -, -, h7, -⟩ := Cond.code_spec B.named (atoms_spec (ws := ws) B.pre _ (by rw [hw]; exact List.mem_cons_self))
      cases Option.some.inj (h1.symm.trans B.method)
      cases Option.some.inj (h2.symm.trans (Stand.of_body B).code)
      intro x hx
      rw [Array.isEmpty_iff.mp h7] at hx
      cases hx
    obtain ⟨t, a1, o, b1, b2, b3⟩ := body p e s m args below meth c s₁ B hml ht hP s₁ hh0 (Stand.of_body B)
    exact ⟨t, o, a1, b1, b2, b3⟩
theorem Run.ofF {g : GE} {mt : MT} {As : List Value} {M : Mem} {sz mc ms : Nat} {Q : Ou → Mem → Prop} (hH : mH mt = []) (hy : plainFor (mY mt) = true) (hl : (lg_sl As).length ≤ mL mt)
    (k : V g mt 0 (lv_args 0 As) [] M sz mc ms Q) : Run g mt As M sz mc ms Q := by
  have hw : mWs mt = Cond.code (mY mt) (mC mt) (mL mt) (mR mt) :: BIG := by unfold mWs mW; rw [hH]
  refine vx_ofWF (cc := mC mt) (maxL := mL mt) (ret := mR mt) hy hw ?_
  intro p e s m args below meth c s₁ B hml ht hv
  obtain ⟨rfl, hP, hE, hz⟩ := hv
  have hts := atoms_spec (ws := mWs mt) B.pre
  have hn := name_of_methodNamed B.named B.method
  rw [lg_entry_eq]
  have hl := lv_entry As (n := mL mt) hl
  exact k p e _ s m As.toArray below meth c s.heap [] 0 0 mc ms _ ⟨B.exec, B.bytes, hml, findClass_of_methodNamed B.named, hts, B.returns, B.notSynchronized, hn.1, fun _ => ht, fun h => absurd hH h, Nat.le_refl _, Nat.le_refl _, hE⟩ hP va_S.rf hl (by omega) (by omega) (by omega) (Nat.le_refl _) (Nat.le_refl _)
/-- a row of numbers may be told by other numbers behind its end -/
theorem V_ext {g : GE} {mt : MT} {pc : Nat} {lv : List (Nat × Value)} {st : List Value} {M : Mem} {sz kc ks : Nat} {Q : Ou → Mem → Prop} {a n : Nat} {f f2 : Nat → Int32} (hM : M a = some (eI g n f)) (hf : ∀ k, k < n → f k = f2 k) (kk : V g mt pc lv st (mup M a (eI g n f2)) sz kc ks Q) : V g mt pc lv st M sz kc ks Q := by
  intro p e R s m args below meth c H locs cells slots mc ms ls a1 a2 a3 a4 a5 a6 a7 a8 a9
  obtain ⟨ws, hP, hD, hM2⟩ := id a2
  obtain ⟨q, hq⟩ := wo_at hM2 hM
  refine kk p e R s m args below meth c H locs cells slots mc ms ls a1 ⟨_, ?_, hD.set hq, wo_set hD hM2 hq⟩ a3 a4 a5 a6 a7 a8 a9
  refine hP.set hD hq ?_ (fun _ _ => rfl)
  have h1 : H[gb g + a]? = some (vp_cell (gI g) (n, .inl f)) := hP q _ hq
  show H[gb g + a]? = some (vp_cell (gI g) (n, .inl f2))
  rw [h1, vp_cell_i, vp_cell_i]
  unfold arrV
  congr 2
  congr 1
  funext j
  exact congrArg Value.int (hf j.val j.isLt)
