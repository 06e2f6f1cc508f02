/-! the start: what the tables and the given say, gathered -/
def GN : List Cond := flatC (Jvm.Cond.and given_1 narrow_1)
theorem gn_rings : ∀ j, j < 37 → Cond.eq (.elem (.static "ParishYards" "RINGS" "[I") (.int (Int32.ofNat j))) (.int (ringsF j)) ∈ GN := by
  have h : ((List.range 37).all fun j => decide (GN[7 + j]? = some (Cond.eq (.elem (.static "ParishYards" "RINGS" "[I") (.int (Int32.ofNat j))) (.int (ringsF j))))) = true := by decide +kernel
  intro j hj
  exact List.mem_of_getElem? (of_decide_eq_true (all_lt h j hj))
theorem gn_middles : ∀ j, j < 16 → Cond.eq (.elem (.static "ParishYards" "MIDDLES" "[I") (.int (Int32.ofNat j))) (.int (middlesF j)) ∈ GN := by
  have h : ((List.range 16).all fun j => decide (GN[49 + j]? = some (Cond.eq (.elem (.static "ParishYards" "MIDDLES" "[I") (.int (Int32.ofNat j))) (.int (middlesF j))))) = true := by decide +kernel
  intro j hj
  exact List.mem_of_getElem? (of_decide_eq_true (all_lt h j hj))
theorem gn_nc : ∀ i j, i < 3 → j < 3 → i ≠ j → Cond.not (.castable (exN i) (exN j)) ∈ GN := by
  have h : ((List.range 3).all fun i => (List.range 3).all fun j => decide (i ≠ j → Cond.not (.castable (exN i) (exN j)) ∈ GN)) = true := by decide +kernel
  intro i j hi hj
  exact of_decide_eq_true (all_lt (all_lt h i hi) j hj)
theorem gn_str : ∀ k, k < 14 → Cond.exactly (.string "ParishYards" (txW k).1) "java/lang/String" ∈ GN := by
  have h : ((List.range 14).all fun k => decide (Cond.exactly (.string "ParishYards" (txW k).1) "java/lang/String" ∈ GN)) = true := by decide +kernel
  intro k hk
  exact of_decide_eq_true (all_lt h k hk)
theorem tb_str : ∀ k, k < 14 → Cond.stringRef "ParishYards" (txW k).1 (txW k).2 ∈ lw_tbl := by
  have h : ((List.range 14).all fun k => decide (lw_tbl[([742, 754, 762, 784, 884, 816, 834, 692, 721, 586, 498, 505, 619, 396] : List Nat).getD k 0]? = some (Cond.stringRef "ParishYards" (txW k).1 (txW k).2))) = true := by decide +kernel
  intro k hk
  exact List.mem_of_getElem? (of_decide_eq_true (all_lt h k hk))
theorem cl_inst : ∀ q ∈ vwCl, Cond.instantiable q.1 q.2.2 ∈ lw_tbl := by
  have h : (vwCl.all fun q => decide (Cond.instantiable q.1 q.2.2 ∈ lw_tbl)) = true := by decide +kernel
  intro q hq
  exact of_decide_eq_true (List.all_eq_true.mp h q hq)
theorem w_ao : Cond.arrayOver (.object "ParishYards$Yards") ∈ lw_tbl := List.mem_of_getElem? (i := 142) (by decide +kernel)
theorem w_zr : Cond.laysStatic "ParishYards" "RINGS" "[I" ∈ lw_tbl := List.mem_of_getElem? (i := 182) (by decide +kernel)
theorem w_zm : Cond.laysStatic "ParishYards" "MIDDLES" "[I" ∈ lw_tbl := List.mem_of_getElem? (i := 525) (by decide +kernel)
theorem w_zu : Cond.laysStatic Bundle.tN "UNASSIGNED_STACK" Bundle.steD ∈ lw_tbl := List.mem_of_getElem? (i := 382) (by decide +kernel)
theorem w_zs : Cond.laysStatic Bundle.tN "SUPPRESSED_SENTINEL" Bundle.listD ∈ lw_tbl := List.mem_of_getElem? (i := 384) (by decide +kernel)
theorem w_ip : Cond.initialized "ParishYards" ∈ lw_tbl := by decide +kernel
theorem w_it : Cond.initialized Bundle.tN ∈ lw_tbl := by decide +kernel
theorem g_ar : Cond.arrayOf (.static "ParishYards" "RINGS" "[I") .int ∈ GN := by decide +kernel
theorem g_am : Cond.arrayOf (.static "ParishYards" "MIDDLES" "[I") .int ∈ GN := by decide +kernel
theorem g_lr : Cond.eq (.length (.static "ParishYards" "RINGS" "[I")) (.int (Int32.ofNat 37)) ∈ GN := by decide +kernel
theorem g_lm : Cond.eq (.length (.static "ParishYards" "MIDDLES" "[I")) (.int (Int32.ofNat 16)) ∈ GN := by decide +kernel
theorem g_ru : Cond.isRef (.static Bundle.tN "UNASSIGNED_STACK" Bundle.steD) ∈ GN := by decide +kernel
theorem g_rs : Cond.isRef (.static Bundle.tN "SUPPRESSED_SENTINEL" Bundle.listD) ∈ GN := by decide +kernel
theorem whole_env {s : State} (l : Launch) (hl : l.stackTraces = false) {b L : Nat} {xs : Nat → Int32} {A : Array Value} (hts : ∀ w ∈ lw_tbl, w.before A s = true) (hgv : ∀ w ∈ GN, w.before A s = true) (hX : va_X b L xs s s.heap) (hb : b < s.heap.size) :
    ∃ g : GE, gl g = l ∧ gb g = s.heap.size ∧ gS g = b ∧ gN g = L ∧ EV g s s.heap := by
  have hA : ∀ a : Nat, a < s.heap.size → ¬ (fun q : Nat => s.heap.size ≤ q) a := fun a h => Nat.not_le.mpr h
  have hcl : ∀ c : Nat, ∃ (cC : ClassId) (iS : Nat → Nat), ∀ q : vw_C, vwCl[c]? = some q → u_Kn s q.1 q.2.1 q.2.2 cC iS := by
    intro c
    cases hq : vwCl[c]? with
    | none => exact ⟨0, fun _ => 0, fun q h => nomatch h⟩
    | some q =>
      have hm := List.mem_of_getElem? hq
      obtain ⟨cC, iS, h⟩ := u_known (C := q.1) (T := q.2.1) (N := q.2.2) (n := q.2.2) hts (fun w hw => (cl_tab q hm w hw).1) (hts _ (cl_inst q hm))
      exact ⟨cC, iS, fun q2 h2 => by cases h2; exact h⟩
  have hcl2 : ∀ (c : Nat) (q : vw_C), vwCl[c]? = some q → u_Kn s q.1 q.2.1 q.2.2 ((hcl c).choose) ((hcl c).choose_spec.choose) := fun c q h => (hcl c).choose_spec.choose_spec q h
  have hst : ∀ k : Nat, ∃ a : Nat, k < 14 → vk_R "ParishYards" (txW k).1 (txW k).2 a s := by
    intro k
    by_cases hk : k < 14
    · obtain ⟨a, c, cell, kk, h1, -⟩ := Cond.exactly_spec (hgv _ (gn_str k hk))
      exact ⟨a, fun _ => vk_R.of (hts _ (tb_str k hk)) h1⟩
    · exact ⟨0, fun h => absurd h hk⟩
  obtain ⟨cI, kI, pI, i1, i2, i3⟩ := Cond.arrayClass_spec (hts _ (List.mem_filter.mp ac_I).1)
  obtain ⟨cJ, kJ, pJ, j1, j2, j3⟩ := Cond.arrayClass_spec (hts _ (List.mem_filter.mp ac_J).1)
  obtain ⟨pY, cY, kY, y1, -, y3, y4, y5⟩ := Cond.arrayOver_spec (hts _ w_ao)
  obtain ⟨tR, r1, r2⟩ := va_Tof (A := fun q => s.heap.size ≤ q) (tm := .static "ParishYards" "RINGS" "[I") (ty := .int) (N := 37) (f := fun k => .int (ringsF k)) (by decide) (hgv _ g_ar) (va_eqt (hgv _ g_lr)) (fun j hj => va_eqt (hgv _ (gn_rings j hj))) hA
  obtain ⟨tM, m1, m2⟩ := va_Tof (A := fun q => s.heap.size ≤ q) (tm := .static "ParishYards" "MIDDLES" "[I") (ty := .int) (N := 16) (f := fun k => .int (middlesF k)) (by decide) (hgv _ g_am) (va_eqt (hgv _ g_lm)) (fun j hj => va_eqt (hgv _ (gn_middles j hj))) hA
  refine ⟨(l, (fun c => (hcl c).choose, fun c => (hcl c).choose_spec.choose), (cI, cJ, cY), (s.heap.size, tR, tM, b), (L, xs), fun k => (hst k).choose), rfl, rfl, rfl, rfl, ⟨hcl2, ?_⟩, ?_, ⟨va_Zof (hts _ w_zr) (hts _ w_ip) r1 hA, r2⟩, ⟨va_Zof (hts _ w_zm) (hts _ w_ip) m1 hA, m2⟩, ⟨vx_Zqof (hts _ w_zu) (hts _ w_it) (hgv _ g_ru) hA, vx_Zqof (hts _ w_zs) (hts _ w_it) (hgv _ g_rs) hA⟩, fun k hk => (hst k).choose_spec hk, fun i j hi hj hij => va_Nc.of (hgv _ (gn_nc i j hi hj hij)), ⟨hX, hb⟩, va_AO.of (hts _ w_ao), hl, Nat.le_refl _⟩
  · intro k q hq
    match k, hq with
    | 0, hq => cases hq; exact ⟨fun n z => ⟨(fun k h => by cases h), kI, i2, pI, i3⟩, i1⟩
    | 1, hq => cases hq; exact ⟨fun n z => ⟨(fun k h => by cases h), kJ, j2, pJ, j3⟩, j1⟩
    | 2, hq => cases hq; exact ⟨fun n z => ⟨(fun k h => by cases h), kY, y3, pY, y4⟩, kY, pY, y3, y4, y1, y5⟩
    | k + 3, hq => simp [gT] at hq
  · intro w hw
    exact va_tabs (nest_on (List.mem_filter.mp hw).2) rfl (hts w (List.mem_filter.mp hw).1)
theorem whole_none (g : GE) (H : Heap) : WO g (fun _ => none) H := by
  refine ⟨[], fun k q h => ?_, ⟨fun i j p q h => ?_, fun k q h => ?_⟩, fun k e => Iff.intro (fun h => ?_) (fun h => ?_)⟩
  · rw [List.getElem?_nil] at h; cases h
  · rw [List.getElem?_nil] at h; cases h
  · rw [List.getElem?_nil] at h; cases h
  · cases h
  · exact absurd h List.not_mem_nil
