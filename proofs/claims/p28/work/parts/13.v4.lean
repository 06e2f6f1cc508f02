/-! heap rows of the layer V -/
set_option maxRecDepth 100000 in
theorem cl_tab : ∀ q ∈ vwCl, ∀ w ∈ u_ws q.1 q.2.1 q.2.2, w ∈ lw_tbl ∧ goodWord w = true := by
  have h : (vwCl.all fun q => (u_ws q.1 q.2.1 q.2.2).all fun w => decide (w ∈ lw_tbl) && goodWord w) = true := by decide +kernel
  intro q hq w hw
  have h1 := List.all_eq_true.mp (List.all_eq_true.mp h q hq) w hw
  simp only [Bool.and_eq_true, decide_eq_true_eq] at h1
  exact h1
theorem cl_big {ci : Nat} {C : String} {T : u_T} {N : Nat} (hc : vwCl[ci]? = some (C, T, N)) : ∀ w ∈ u_ws C T N, w ∈ BIG := fun w hw => List.mem_filter.mpr (cl_tab (C, T, N) (List.mem_of_getElem? hc) w hw)
theorem cl_ws {ci : Nat} {C : String} {T : u_T} {N : Nat} (hc : vwCl[ci]? = some (C, T, N)) (mt : MT) : ∀ w ∈ u_ws C T N, w ∈ mWs mt := fun w hw => List.mem_cons_of_mem _ (cl_big hc w hw)
def clTy : Nat → Nat → FieldType := fun ci => match ci with
  | 0 => tyX0 | 1 => tyX1 | 2 => tyX2 | 3 => tyX3 | 4 => tyX4 | 5 => tyX5 | 6 => tyX6 | 7 => tyX7 | 8 => tyX8 | _ => tyX9
theorem cl_ty {ci : Nat} {C : String} {T : u_T} {N : Nat} (hc : vwCl[ci]? = some (C, T, N)) : (∀ k, k < N → parseFieldDescriptor (T k).2.2.1 = some (clTy ci k)) ∧ (∀ a, a < N → ∀ b, b < N → a ≠ b → (T a).2.1 ≠ (T b).2.1) := by
  match ci, hc with
  | 0, hc => cases hc; exact ⟨tyX0_ok, nmX0⟩
  | 1, hc => cases hc; exact ⟨tyX1_ok, nmX1⟩
  | 2, hc => cases hc; exact ⟨tyX2_ok, nmX2⟩
  | 3, hc => cases hc; exact ⟨tyX3_ok, nmX3⟩
  | 4, hc => cases hc; exact ⟨tyX4_ok, nmX4⟩
  | 5, hc => cases hc; exact ⟨tyX5_ok, nmX5⟩
  | 6, hc => cases hc; exact ⟨tyX6_ok, nmX6⟩
  | 7, hc => cases hc; exact ⟨tyX7_ok, nmX7⟩
  | 8, hc => cases hc; exact ⟨tyX8_ok, nmX8⟩
  | n + 9, hc => simp [vwCl] at hc
section VROWS
variable {g : GE} {mt : MT} {pc : Nat} {lv : List (Nat × Value)} {st : List Value} {M : Mem} {sz kc ks : Nat} {Q : Ou → Mem → Prop}
/-- read a field -/
theorem V_get {a ci idx : Nat} {C : String} {T : u_T} {N : Nat} {fs : List Value} {v : Value} (k : Nat) (hM : M a = some (eO ci fs)) (hc : vwCl[ci]? = some (C, T, N)) (hk : k < N) (ho : (T k).1 = C) (hw : Cond.fieldLink (mY mt).cls idx C (T k).2.1 (T k).2.2.1 ∈ BIG) (hv : fs[k]? = some v)
    (d : decode (mC mt) pc = .ok (.getfield idx, 3)) (kk : V g mt (pc + 3) lv (v :: st) M sz kc ks Q) : V g mt pc lv (rf g a :: st) M sz kc ks Q := by
  intro p e R s m args below meth c H locs cells slots mc ms ls a1 a2 a3 a4 a5 a6 a7 a8 a9
  obtain ⟨ws, hP, hD, hM2⟩ := id a2
  obtain ⟨q0, hq⟩ := wo_at hM2 hM
  have hE := a1.2.2.2.2.2.2.2.2.2.2.2.2
  exact va_get a1.1 a1.2.1 a1.2.2.2.2.1 (cl_ws hc mt) a1.2.2.2.1 hE.1 hP q0 hq hc k hk (a1.2.2.2.2.1 _ (List.mem_cons_of_mem _ hw)) (fun _ h => by rw [ho] at h; exact h) hv d (kk p e R s m args below meth c H locs cells slots mc ms ls a1 a2 a3 a4 a5 a6 a7 a8 a9)
/-- .. of a nest mate -/
theorem V_getN {a ci idx : Nat} {C host : String} {T : u_T} {N : Nat} {fs : List Value} {v : Value} (k : Nat) (hM : M a = some (eO ci fs)) (hc : vwCl[ci]? = some (C, T, N)) (hk : k < N) (ho : (T k).1 = C) (hw : Cond.fieldLinkNest (mY mt).cls idx C (T k).2.1 (T k).2.2.1 host ∈ NWL) (hv : fs[k]? = some v)
    (d : decode (mC mt) pc = .ok (.getfield idx, 3)) (kk : V g mt (pc + 3) lv (v :: st) M sz kc ks Q) : V g mt pc lv (rf g a :: st) M sz kc ks Q := by
  intro p e R s m args below meth c H locs cells slots mc ms ls a1 a2 a3 a4 a5 a6 a7 a8 a9
  obtain ⟨ws, hP, hD, hM2⟩ := id a2
  obtain ⟨q0, hq⟩ := wo_at hM2 hM
  have hE := a1.2.2.2.2.2.2.2.2.2.2.2.2
  exact va_getN a1.1 a1.2.1 a1.2.2.2.2.1 (cl_ws hc mt) a1.2.2.2.1 hE.1 hP q0 hq hc k hk (va_Nw.use rfl (hE.2.1 _ hw)) (fun _ h => by rw [ho] at h; exact h) hv d (kk p e R s m args below meth c H locs cells slots mc ms ls a1 a2 a3 a4 a5 a6 a7 a8 a9)
/-- write a field -/
theorem V_put {a ci idx : Nat} {C : String} {T : u_T} {N : Nat} {fs : List Value} {v : Value} (k : Nat) (hM : M a = some (eO ci fs)) (hc : vwCl[ci]? = some (C, T, N)) (hk : k < N) (ho : (T k).1 = C) (hw : Cond.fieldLink (mY mt).cls idx C (T k).2.1 (T k).2.2.1 ∈ BIG) (hf : (T k).2.2.2 = false) (hl : k < fs.length)
    (hn : narrow (clTy ci k) v = v) (hfit : fits (clTy ci k) v = true)
    (d : decode (mC mt) pc = .ok (.putfield idx, 3)) (kk : V g mt (pc + 3) lv st (mup M a (eO ci (fs.set k v))) sz kc ks Q) : V g mt pc lv (v :: rf g a :: st) M sz kc ks Q := by
  intro p e R s m args below meth c H locs cells slots mc ms ls a1 a2 a3 a4 a5 a6 a7 a8 a9
  obtain ⟨ws, hP, hD, hM2⟩ := id a2
  obtain ⟨q0, hq⟩ := wo_at hM2 hM
  have hE := a1.2.2.2.2.2.2.2.2.2.2.2.2
  exact va_put a1.1 a1.2.1 a1.2.2.2.2.1 (cl_ws hc mt) (clTy ci) (cl_ty hc).1 (cl_ty hc).2 a1.2.2.2.1 hE.1 hP hD a3 q0 hq hc k hk (a1.2.2.2.2.1 _ (List.mem_cons_of_mem _ hw)) (fun _ h => by rw [ho] at h; exact h) hf ((cl_ty hc).1 k hk) hn hfit hl d
    (fun H1 locs1 b1 b2 b3 => kk p e R s m args below meth c H1 locs1 cells slots mc ms ls a1 ⟨_, b1, b2, wo_set hD hM2 hq⟩ b3 a4 a5 a6 a7 a8 a9)
theorem V_putN {a ci idx : Nat} {C host : String} {T : u_T} {N : Nat} {fs : List Value} {v : Value} (k : Nat) (hM : M a = some (eO ci fs)) (hc : vwCl[ci]? = some (C, T, N)) (hk : k < N) (ho : (T k).1 = C) (hw : Cond.fieldLinkNest (mY mt).cls idx C (T k).2.1 (T k).2.2.1 host ∈ NWL) (hf : (T k).2.2.2 = false) (hl : k < fs.length)
    (hn : narrow (clTy ci k) v = v) (hfit : fits (clTy ci k) v = true)
    (d : decode (mC mt) pc = .ok (.putfield idx, 3)) (kk : V g mt (pc + 3) lv st (mup M a (eO ci (fs.set k v))) sz kc ks Q) : V g mt pc lv (v :: rf g a :: st) M sz kc ks Q := by
  intro p e R s m args below meth c H locs cells slots mc ms ls a1 a2 a3 a4 a5 a6 a7 a8 a9
  obtain ⟨ws, hP, hD, hM2⟩ := id a2
  obtain ⟨q0, hq⟩ := wo_at hM2 hM
  have hE := a1.2.2.2.2.2.2.2.2.2.2.2.2
  exact va_putN a1.1 a1.2.1 a1.2.2.2.2.1 (cl_ws hc mt) (clTy ci) (cl_ty hc).1 (cl_ty hc).2 a1.2.2.2.1 hE.1 hP hD a3 q0 hq hc k hk (va_Nw.use rfl (hE.2.1 _ hw)) (fun _ h => by rw [ho] at h; exact h) hf ((cl_ty hc).1 k hk) hn hfit hl d
    (fun H1 locs1 b1 b2 b3 => kk p e R s m args below meth c H1 locs1 cells slots mc ms ls a1 ⟨_, b1, b2, wo_set hD hM2 hq⟩ b3 a4 a5 a6 a7 a8 a9)
/-- write a final field, in its class's constructor -/
theorem V_putF {a ci idx : Nat} {C : String} {T : u_T} {N : Nat} {fs : List Value} {v : Value} (k : Nat) (hM : M a = some (eO ci fs)) (hc : vwCl[ci]? = some (C, T, N)) (hk : k < N) (ho : (T k).1 = C) (hw : Cond.fieldLink (mY mt).cls idx C (T k).2.1 (T k).2.2.1 ∈ BIG) (hf : (T k).2.2.2 = true) (hl : k < fs.length)
    (hi : (mY mt).name = "<init>") (hcl : C = (mY mt).cls) (hn : narrow (clTy ci k) v = v) (hfit : fits (clTy ci k) v = true)
    (d : decode (mC mt) pc = .ok (.putfield idx, 3)) (kk : V g mt (pc + 3) lv st (mup M a (eO ci (fs.set k v))) sz kc ks Q) : V g mt pc lv (v :: rf g a :: st) M sz kc ks Q := by
  intro p e R s m args below meth c H locs cells slots mc ms ls a1 a2 a3 a4 a5 a6 a7 a8 a9
  obtain ⟨ws, hP, hD, hM2⟩ := id a2
  obtain ⟨q0, hq⟩ := wo_at hM2 hM
  have hE := a1.2.2.2.2.2.2.2.2.2.2.2.2
  exact va_putF a1.1 a1.2.1 a1.2.2.2.2.1 (cl_ws hc mt) (clTy ci) (cl_ty hc).1 (cl_ty hc).2 a1.2.2.2.1 hE.1 hP hD a3 q0 hq hc k hk (a1.2.2.2.2.1 _ (List.mem_cons_of_mem _ hw)) (fun _ h => by rw [ho] at h; exact h) hf (a1.2.2.2.2.2.2.2.1.trans hi) (ho.trans hcl) ((cl_ty hc).1 k hk) hn hfit hl d
    (fun H1 locs1 b1 b2 b3 => kk p e R s m args below meth c H1 locs1 cells slots mc ms ls a1 ⟨_, b1, b2, wo_set hD hM2 hq⟩ b3 a4 a5 a6 a7 a8 a9)
/-- arrays -/
theorem V_iald {a n : Nat} {f : Nat → Int32} {i : Int32} (hM : M a = some (eI g n f)) (hin : vp_in i n) (d : decode (mC mt) pc = .ok (.iaload, 1)) (kk : V g mt (pc + 1) lv (.int (f i.toNatClampNeg) :: st) M sz kc ks Q) : V g mt pc lv (.int i :: rf g a :: st) M sz kc ks Q := by
  intro p e R s m args below meth c H locs cells slots mc ms ls a1 a2 a3 a4 a5 a6 a7 a8 a9
  obtain ⟨ws, hP, hD, hM2⟩ := id a2
  obtain ⟨q0, hq⟩ := wo_at hM2 hM
  exact va_iald a1.1 a1.2.1 a1.2.2.2.2.2.2.2.2.2.2.2.2.1 hP q0 0 hq rfl hin d (kk p e R s m args below meth c H locs cells slots mc ms ls a1 a2 a3 a4 a5 a6 a7 a8 a9)
theorem V_lald {a n : Nat} {f : Nat → Int64} {i : Int32} (hM : M a = some (eJ g n f)) (hin : vp_in i n) (d : decode (mC mt) pc = .ok (.laload, 1)) (kk : V g mt (pc + 1) lv (.long (f i.toNatClampNeg) :: st) M sz kc ks Q) : V g mt pc lv (.int i :: rf g a :: st) M sz kc ks Q := by
  intro p e R s m args below meth c H locs cells slots mc ms ls a1 a2 a3 a4 a5 a6 a7 a8 a9
  obtain ⟨ws, hP, hD, hM2⟩ := id a2
  obtain ⟨q0, hq⟩ := wo_at hM2 hM
  exact va_lald a1.1 a1.2.1 a1.2.2.2.2.2.2.2.2.2.2.2.2.1 hP q0 1 hq rfl hin d (kk p e R s m args below meth c H locs cells slots mc ms ls a1 a2 a3 a4 a5 a6 a7 a8 a9)
theorem V_aald {a n : Nat} {f : Nat → Option Nat} {i : Int32} (hM : M a = some (eY g n f)) (hin : vp_in i n) (d : decode (mC mt) pc = .ok (.aaload, 1)) (kk : V g mt (pc + 1) lv (va_rf (f i.toNatClampNeg) :: st) M sz kc ks Q) : V g mt pc lv (.int i :: rf g a :: st) M sz kc ks Q := by
  intro p e R s m args below meth c H locs cells slots mc ms ls a1 a2 a3 a4 a5 a6 a7 a8 a9
  obtain ⟨ws, hP, hD, hM2⟩ := id a2
  obtain ⟨q0, hq⟩ := wo_at hM2 hM
  exact va_aldq a1.1 a1.2.1 a1.2.2.2.2.2.2.2.2.2.2.2.2.1 hP q0 2 hq rfl hin d (kk p e R s m args below meth c H locs cells slots mc ms ls a1 a2 a3 a4 a5 a6 a7 a8 a9)
theorem V_iast {a n : Nat} {f : Nat → Int32} {i x : Int32} (hM : M a = some (eI g n f)) (hin : vp_in i n) (d : decode (mC mt) pc = .ok (.iastore, 1)) (kk : V g mt (pc + 1) lv st (mup M a (eI g n (upd f i.toNatClampNeg x))) sz kc ks Q) : V g mt pc lv (.int x :: .int i :: rf g a :: st) M sz kc ks Q := by
  intro p e R s m args below meth c H locs cells slots mc ms ls a1 a2 a3 a4 a5 a6 a7 a8 a9
  obtain ⟨ws, hP, hD, hM2⟩ := id a2
  obtain ⟨q0, hq⟩ := wo_at hM2 hM
  exact va_iast a1.1 a1.2.1 a1.2.2.2.2.2.2.2.2.2.2.2.2.1 hP hD a3 q0 0 hq rfl hin d (fun H1 locs1 b1 b2 b3 => kk p e R s m args below meth c H1 locs1 cells slots mc ms ls a1 ⟨_, b1, b2, wo_set hD hM2 hq⟩ b3 a4 a5 a6 a7 a8 a9)
theorem V_last {a n : Nat} {f : Nat → Int64} {i : Int32} {x : Int64} (hM : M a = some (eJ g n f)) (hin : vp_in i n) (d : decode (mC mt) pc = .ok (.lastore, 1)) (kk : V g mt (pc + 1) lv st (mup M a (eJ g n (vp_updL f i.toNatClampNeg x))) sz kc ks Q) : V g mt pc lv (.long x :: .int i :: rf g a :: st) M sz kc ks Q := by
  intro p e R s m args below meth c H locs cells slots mc ms ls a1 a2 a3 a4 a5 a6 a7 a8 a9
  obtain ⟨ws, hP, hD, hM2⟩ := id a2
  obtain ⟨q0, hq⟩ := wo_at hM2 hM
  exact va_last a1.1 a1.2.1 a1.2.2.2.2.2.2.2.2.2.2.2.2.1 hP hD a3 q0 1 hq rfl hin d (fun H1 locs1 b1 b2 b3 => kk p e R s m args below meth c H1 locs1 cells slots mc ms ls a1 ⟨_, b1, b2, wo_set hD hM2 hq⟩ b3 a4 a5 a6 a7 a8 a9)
theorem V_aast {a n w : Nat} {fs : List Value} {f : Nat → Option Nat} {i : Int32} (hM : M a = some (eY g n f)) (hV : M w = some (eO 7 fs)) (hin : vp_in i n) (d : decode (mC mt) pc = .ok (.aastore, 1)) (kk : V g mt (pc + 1) lv st (mup M a (eY g n (va_up f i.toNatClampNeg (some (gb g + w))))) sz kc ks Q) : V g mt pc lv (rf g w :: .int i :: rf g a :: st) M sz kc ks Q := by
  intro p e R s m args below meth c H locs cells slots mc ms ls a1 a2 a3 a4 a5 a6 a7 a8 a9
  obtain ⟨ws, hP, hD, hM2⟩ := id a2
  obtain ⟨q0, hq⟩ := wo_at hM2 hM
  obtain ⟨q1, hq1⟩ := wo_at hM2 hV
  exact va_astq (r := (RX7, TX7, 6)) a1.1 a1.2.1 a1.2.2.2.2.2.2.2.2.2.2.2.2.1 hP hD a3 q0 2 q1 7 hq rfl hq1 rfl hin d (fun H1 locs1 b1 b2 b3 => kk p e R s m args below meth c H1 locs1 cells slots mc ms ls a1 ⟨_, b1, b2, wo_set hD hM2 hq⟩ b3 a4 a5 a6 a7 a8 a9)
theorem V_alenI {a n : Nat} {f : Nat → Int32} {v : Int32} (hM : M a = some (eI g n f)) (hv : Int32.ofNat n = v) (d : decode (mC mt) pc = .ok (.arraylength, 1)) (kk : V g mt (pc + 1) lv (.int v :: st) M sz kc ks Q) : V g mt pc lv (rf g a :: st) M sz kc ks Q := by
  intro p e R s m args below meth c H locs cells slots mc ms ls a1 a2 a3 a4 a5 a6 a7 a8 a9
  obtain ⟨ws, hP, hD, hM2⟩ := id a2
  obtain ⟨q0, hq⟩ := wo_at hM2 hM
  exact va_alen a1.1 a1.2.1 a1.2.2.2.2.2.2.2.2.2.2.2.2.1 hP q0 0 hq rfl hv d (kk p e R s m args below meth c H locs cells slots mc ms ls a1 a2 a3 a4 a5 a6 a7 a8 a9)
theorem V_alenJ {a n : Nat} {f : Nat → Int64} {v : Int32} (hM : M a = some (eJ g n f)) (hv : Int32.ofNat n = v) (d : decode (mC mt) pc = .ok (.arraylength, 1)) (kk : V g mt (pc + 1) lv (.int v :: st) M sz kc ks Q) : V g mt pc lv (rf g a :: st) M sz kc ks Q := by
  intro p e R s m args below meth c H locs cells slots mc ms ls a1 a2 a3 a4 a5 a6 a7 a8 a9
  obtain ⟨ws, hP, hD, hM2⟩ := id a2
  obtain ⟨q0, hq⟩ := wo_at hM2 hM
  exact va_alen a1.1 a1.2.1 a1.2.2.2.2.2.2.2.2.2.2.2.2.1 hP q0 1 hq rfl hv d (kk p e R s m args below meth c H locs cells slots mc ms ls a1 a2 a3 a4 a5 a6 a7 a8 a9)
theorem V_alenY {a n : Nat} {f : Nat → Option Nat} {v : Int32} (hM : M a = some (eY g n f)) (hv : Int32.ofNat n = v) (d : decode (mC mt) pc = .ok (.arraylength, 1)) (kk : V g mt (pc + 1) lv (.int v :: st) M sz kc ks Q) : V g mt pc lv (rf g a :: st) M sz kc ks Q := by
  intro p e R s m args below meth c H locs cells slots mc ms ls a1 a2 a3 a4 a5 a6 a7 a8 a9
  obtain ⟨ws, hP, hD, hM2⟩ := id a2
  obtain ⟨q0, hq⟩ := wo_at hM2 hM
  exact va_alen a1.1 a1.2.1 a1.2.2.2.2.2.2.2.2.2.2.2.2.1 hP q0 2 hq rfl hv d (kk p e R s m args below meth c H locs cells slots mc ms ls a1 a2 a3 a4 a5 a6 a7 a8 a9)
/-- the class's two tables of numbers, and the script -/
theorem V_getR {idx : Nat} (hw : Cond.fieldLink (mY mt).cls idx "ParishYards" "RINGS" "[I" ∈ BIG) (d : decode (mC mt) pc = .ok (.getstatic idx, 3)) (kk : V g mt (pc + 3) lv (.ref (gR g) :: st) M sz kc ks Q) : V g mt pc lv st M sz kc ks Q := by
  intro p e R s m args below meth c H locs cells slots mc ms ls a1 a2 a3 a4 a5 a6 a7 a8 a9
  have hE := a1.2.2.2.2.2.2.2.2.2.2.2.2
  exact va_gets a1.1 a1.2.1 hE.2.2.1.1 a3 a1.2.2.2.1 (a1.2.2.2.2.1 _ (List.mem_cons_of_mem _ hw)) (fun _ h => h) d (kk p e R s m args below meth c H locs cells slots mc ms ls a1 a2 a3 a4 a5 a6 a7 a8 a9)
theorem V_getRN {idx : Nat} {host : String} (hw : Cond.fieldLinkNest (mY mt).cls idx "ParishYards" "RINGS" "[I" host ∈ NWL) (d : decode (mC mt) pc = .ok (.getstatic idx, 3)) (kk : V g mt (pc + 3) lv (.ref (gR g) :: st) M sz kc ks Q) : V g mt pc lv st M sz kc ks Q := by
  intro p e R s m args below meth c H locs cells slots mc ms ls a1 a2 a3 a4 a5 a6 a7 a8 a9
  have hE := a1.2.2.2.2.2.2.2.2.2.2.2.2
  exact va_getsN a1.1 a1.2.1 hE.2.2.1.1 a3 a1.2.2.2.1 (va_Nw.use rfl (hE.2.1 _ hw)) (fun _ h => h) d (kk p e R s m args below meth c H locs cells slots mc ms ls a1 a2 a3 a4 a5 a6 a7 a8 a9)
theorem V_getMN {idx : Nat} {host : String} (hw : Cond.fieldLinkNest (mY mt).cls idx "ParishYards" "MIDDLES" "[I" host ∈ NWL) (d : decode (mC mt) pc = .ok (.getstatic idx, 3)) (kk : V g mt (pc + 3) lv (.ref (gM g) :: st) M sz kc ks Q) : V g mt pc lv st M sz kc ks Q := by
  intro p e R s m args below meth c H locs cells slots mc ms ls a1 a2 a3 a4 a5 a6 a7 a8 a9
  have hE := a1.2.2.2.2.2.2.2.2.2.2.2.2
  exact va_getsN a1.1 a1.2.1 hE.2.2.2.1.1 a3 a1.2.2.2.1 (va_Nw.use rfl (hE.2.1 _ hw)) (fun _ h => h) d (kk p e R s m args below meth c H locs cells slots mc ms ls a1 a2 a3 a4 a5 a6 a7 a8 a9)
theorem V_taldR {i : Int32} (hin : vp_in i 37) (d : decode (mC mt) pc = .ok (.iaload, 1)) (kk : V g mt (pc + 1) lv (.int (ringsF i.toNatClampNeg) :: st) M sz kc ks Q) : V g mt pc lv (.int i :: .ref (gR g) :: st) M sz kc ks Q := by
  intro p e R s m args below meth c H locs cells slots mc ms ls a1 a2 a3 a4 a5 a6 a7 a8 a9
  exact va_ti a1.1 a1.2.1 a1.2.2.2.2.2.2.2.2.2.2.2.2.2.2.1.2 a3 hin rfl d (kk p e R s m args below meth c H locs cells slots mc ms ls a1 a2 a3 a4 a5 a6 a7 a8 a9)
theorem V_taldM {i : Int32} (hin : vp_in i 16) (d : decode (mC mt) pc = .ok (.iaload, 1)) (kk : V g mt (pc + 1) lv (.int (middlesF i.toNatClampNeg) :: st) M sz kc ks Q) : V g mt pc lv (.int i :: .ref (gM g) :: st) M sz kc ks Q := by
  intro p e R s m args below meth c H locs cells slots mc ms ls a1 a2 a3 a4 a5 a6 a7 a8 a9
  exact va_ti a1.1 a1.2.1 a1.2.2.2.2.2.2.2.2.2.2.2.2.2.2.2.1.2 a3 hin rfl d (kk p e R s m args below meth c H locs cells slots mc ms ls a1 a2 a3 a4 a5 a6 a7 a8 a9)
theorem V_tlenR (d : decode (mC mt) pc = .ok (.arraylength, 1)) (kk : V g mt (pc + 1) lv (.int 37 :: st) M sz kc ks Q) : V g mt pc lv (.ref (gR g) :: st) M sz kc ks Q := by
  intro p e R s m args below meth c H locs cells slots mc ms ls a1 a2 a3 a4 a5 a6 a7 a8 a9
  exact va_tlen a1.1 a1.2.1 a1.2.2.2.2.2.2.2.2.2.2.2.2.2.2.1.2 a3 rfl d (kk p e R s m args below meth c H locs cells slots mc ms ls a1 a2 a3 a4 a5 a6 a7 a8 a9)
theorem V_tlenM (d : decode (mC mt) pc = .ok (.arraylength, 1)) (kk : V g mt (pc + 1) lv (.int 16 :: st) M sz kc ks Q) : V g mt pc lv (.ref (gM g) :: st) M sz kc ks Q := by
  intro p e R s m args below meth c H locs cells slots mc ms ls a1 a2 a3 a4 a5 a6 a7 a8 a9
  exact va_tlen a1.1 a1.2.1 a1.2.2.2.2.2.2.2.2.2.2.2.2.2.2.2.1.2 a3 rfl d (kk p e R s m args below meth c H locs cells slots mc ms ls a1 a2 a3 a4 a5 a6 a7 a8 a9)
theorem V_sld {i : Int32} (hin : vp_in i (gN g)) (d : decode (mC mt) pc = .ok (.iaload, 1)) (kk : V g mt (pc + 1) lv (.int (gx g i.toNatClampNeg) :: st) M sz kc ks Q) : V g mt pc lv (.int i :: .ref (gS g) :: st) M sz kc ks Q := by
  intro p e R s m args below meth c H locs cells slots mc ms ls a1 a2 a3 a4 a5 a6 a7 a8 a9
  have hE := a1.2.2.2.2.2.2.2.2.2.2.2.2.2.2.2.2.2.2.2.1
  have hz := a1.2.2.2.2.2.2.2.2.2.2.2.2.2.2.2.2.2.2.2.2.2.2
  exact va_sld a1.1 a1.2.1 hE.1 (Nat.lt_of_lt_of_le hE.2 hz) (Nat.not_le.mpr hE.2) a3 hin d (kk p e R s m args below meth c H locs cells slots mc ms ls a1 a2 a3 a4 a5 a6 a7 a8 a9)
theorem V_slen (d : decode (mC mt) pc = .ok (.arraylength, 1)) (kk : V g mt (pc + 1) lv (.int (Int32.ofNat (gN g)) :: st) M sz kc ks Q) : V g mt pc lv (.ref (gS g) :: st) M sz kc ks Q := by
  intro p e R s m args below meth c H locs cells slots mc ms ls a1 a2 a3 a4 a5 a6 a7 a8 a9
  have hE := a1.2.2.2.2.2.2.2.2.2.2.2.2.2.2.2.2.2.2.2.1
  have hz := a1.2.2.2.2.2.2.2.2.2.2.2.2.2.2.2.2.2.2.2.2.2.2
  exact va_slen a1.1 a1.2.1 hE.1 (Nat.lt_of_lt_of_le hE.2 hz) (Nat.not_le.mpr hE.2) a3 d (kk p e R s m args below meth c H locs cells slots mc ms ls a1 a2 a3 a4 a5 a6 a7 a8 a9)
end VROWS
