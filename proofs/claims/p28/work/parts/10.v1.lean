/-! THE LAYER V: what a frame's walk needs, kept in one place. A heap is a partial map from numbers k to things; the thing k lies at the address base + k. -/
abbrev Mem : Type := Nat → Option va_E
def mup (M : Mem) (k : Nat) (e : va_E) : Mem := fun j => if j = k then some e else M j
theorem mup_eq (M : Mem) (k : Nat) (e : va_E) : mup M k e k = some e := if_pos rfl
theorem mup_ne (M : Mem) {k j : Nat} (e : va_E) (h : j ≠ k) : mup M k e j = M j := if_neg h
abbrev Ou : Type := Option Value ⊕ String
/-- fixed over a run: the launch; the classes' numbers and slots; the classes of int[], long[], Yards[]; the base, the cells of RINGS, MIDDLES and the script; the script; the texts' cells -/
abbrev GE : Type := Launch × va_G × (ClassId × ClassId × ClassId) × (Nat × Nat × Nat × Nat) × (Nat × (Nat → Int32)) × (Nat → Nat)
def gl (g : GE) : Launch := g.1
def gD (g : GE) : va_G := g.2.1
def gI (g : GE) : ClassId := g.2.2.1.1
def gJ (g : GE) : ClassId := g.2.2.1.2.1
def gY (g : GE) : ClassId := g.2.2.1.2.2
def gb (g : GE) : Nat := g.2.2.2.1.1
def gR (g : GE) : Nat := g.2.2.2.1.2.1
def gM (g : GE) : Nat := g.2.2.2.1.2.2.1
def gS (g : GE) : Nat := g.2.2.2.1.2.2.2
def gN (g : GE) : Nat := g.2.2.2.2.1.1
def gx (g : GE) : Nat → Int32 := g.2.2.2.2.1.2
def gt (g : GE) : Nat → Nat := g.2.2.2.2.2
def gA (g : GE) : Nat → Prop := fun q => gb g ≤ q
def gT (g : GE) : List (ClassId × FieldType) := [(gI g, .int), (gJ g, .long), (gY g, .object "ParishYards$Yards")]
abbrev rf (g : GE) (k : Nat) : Value := .ref (gb g + k)
abbrev eI (g : GE) (n : Nat) (f : Nat → Int32) : va_E := .inl (gI g, n, .inl f)
abbrev eJ (g : GE) (n : Nat) (f : Nat → Int64) : va_E := .inl (gJ g, n, .inr (.inl f))
abbrev eY (g : GE) (n : Nat) (f : Nat → Option Nat) : va_E := .inl (gY g, n, .inr (.inr (.inr (.inr f))))
abbrev eO (ci : Nat) (fs : List Value) : va_E := .inr (ci, fs)
/-- the heap holds what M says -/
def WO (g : GE) (M : Mem) (H : Heap) : Prop := ∃ ws : va_W, va_P (gD g) vwCl ws H ∧ va_D (gA g) ws ∧ ∀ (k : Nat) (e : va_E), M k = some e ↔ (gb g + k, e) ∈ ws
theorem wo_at {g : GE} {M : Mem} {ws : va_W} (h : ∀ (k : Nat) (e : va_E), M k = some e ↔ (gb g + k, e) ∈ ws) {k : Nat} {e : va_E} (hk : M k = some e) : ∃ q : Nat, ws[q]? = some (gb g + k, e) := List.getElem?_of_mem ((h k e).mp hk)
theorem wo_set {g : GE} {M : Mem} {ws : va_W} (hD : va_D (gA g) ws) (h : ∀ (k : Nat) (e : va_E), M k = some e ↔ (gb g + k, e) ∈ ws) {k q : Nat} {e0 e : va_E} (hq : ws[q]? = some (gb g + k, e0)) :
    ∀ (j : Nat) (x : va_E), mup M k e j = some x ↔ (gb g + j, x) ∈ ws.set q (gb g + k, e) := by
  have hl := (List.getElem?_eq_some_iff.mp hq).1
  intro j x
  by_cases hj : j = k
  · subst hj
    rw [mup_eq]
    constructor
    · intro hx
      cases hx
      exact List.mem_of_getElem? (List.getElem?_set_self hl)
    · intro hx
      obtain ⟨i, hi⟩ := List.getElem?_of_mem hx
      by_cases hiq : i = q
      · subst hiq
        rw [List.getElem?_set_self hl] at hi
        cases hi
        rfl
      · rw [List.getElem?_set_ne (Ne.symm hiq)] at hi
        exact absurd (hD.1 i q _ _ hi hq rfl) hiq
  · rw [mup_ne M e hj, h j x]
    constructor
    · intro hx
      obtain ⟨i, hi⟩ := List.getElem?_of_mem hx
      have hiq : i ≠ q := by
        intro hiq
        subst hiq
        rw [hq] at hi
        have := congrArg Prod.fst (Option.some.inj hi)
        simp only at this
        omega
      exact List.mem_of_getElem? (by rw [List.getElem?_set_ne (Ne.symm hiq)]; exact hi)
    · intro hx
      obtain ⟨i, hi⟩ := List.getElem?_of_mem hx
      have hiq : i ≠ q := by
        intro hiq
        subst hiq
        rw [List.getElem?_set_self hl] at hi
        have := congrArg Prod.fst (Option.some.inj hi)
        simp only at this
        omega
      rw [List.getElem?_set_ne (Ne.symm hiq)] at hi
      exact List.mem_of_getElem? hi
theorem wo_push {g : GE} {M : Mem} {ws : va_W} (hD : va_D (gA g) ws) (h : ∀ (k : Nat) (e : va_E), M k = some e ↔ (gb g + k, e) ∈ ws) {k : Nat} {e : va_E} (hk : M k = none) :
    ∀ (j : Nat) (x : va_E), mup M k e j = some x ↔ (gb g + j, x) ∈ ws ++ [(gb g + k, e)] := by
  intro j x
  rw [List.mem_append, List.mem_singleton]
  by_cases hj : j = k
  · subst hj
    rw [mup_eq]
    constructor
    · intro hx
      cases hx
      exact Or.inr rfl
    · rintro (hx | hx)
      · rw [← h j x, hk] at hx; cases hx
      · cases hx; rfl
  · rw [mup_ne M e hj, h j x]
    constructor
    · exact Or.inl
    · rintro (hx | hx)
      · exact hx
      · have := congrArg Prod.fst hx
        simp only at this
        omega
/-- words of the tables: those that a callee may be handed, and those of nest mates, names and casts -/
def nestWord : Cond → Bool
  | .methodLinkNest .. => true
  | .fieldLinkNest .. => true
  | .declares _ => true
  | .castable .. => true
  | _ => false
def BIG : List Cond := lw_tbl.filter goodWord
def NWL : List Cond := lw_tbl.filter nestWord
theorem inBIG {w : Cond} (i : Nat) (h : (lw_tbl[i]? = some w ∧ goodWord w = true)) : w ∈ BIG := List.mem_filter.mpr ⟨List.mem_of_getElem? h.1, h.2⟩
theorem inNWL {w : Cond} (i : Nat) (h : (lw_tbl[i]? = some w ∧ nestWord w = true)) : w ∈ NWL := List.mem_filter.mpr ⟨List.mem_of_getElem? h.1, h.2⟩
theorem big_good : ∀ w ∈ BIG, goodWord w = true := fun w h => (List.mem_filter.mp h).2
theorem nest_on {w : Cond} (h : nestWord w = true) : w.onTables = true := by cases w <;> first | rfl | cases h
theorem nest_warm {w : Cond} (h : nestWord w = true) {s U : State} (hW : s.WarmedH U.vm) (hw : va_Nw w s) : va_Nw w U := by
  cases w with
  | methodLinkNest a b c d => exact va_Nw.warmM hW hw
  | fieldLinkNest a b c d e f => exact va_Nw.warmF hW hw
  | declares a => exact va_Nw.warmD hW hw
  | castable a b => exact va_Nw.warmC hW hw
  | _ => cases h
/-- the texts of the throws: number, place in the class file, text -/
def txW : Nat → Nat × String := fun k => match k with
  | 0 => (103, "a ring would be off")
  | 1 => (122, "there is no table")
  | 2 => (126, "no such setting")
  | 3 => (149, "there are 8 bolts")
  | 4 => (161, "the bolt cannot be sent")
  | 5 => (178, "the buffer is full")
  | 6 => (195, "the buffer is not complete works")
  | 7 => (220, "there is no saved state")
  | 8 => (230, "there is no snapshot")
  | 9 => (239, "a ring below 0")
  | 10 => (415, "no such parish")
  | 11 => (417, "both parishes are the same")
  | 12 => (419, "no such bolt")
  | _ => (421, "out of range")
def exN : Nat → String := fun k => match k with
  | 0 => "java/lang/IndexOutOfBoundsException"
  | 1 => "java/lang/IllegalArgumentException"
  | _ => "java/lang/IllegalStateException"
/-- the numbers of RINGS and MIDDLES, as the class has them -/
def ringsL : List Int32 := [12, 13, 14, 23, 24, 34, 123, 124, 134, 234, 123, 124, 132, 134, 142, 143, 213, 214, 234, 243, 314, 324, 1234, 1243, 1324, 1234, 1243, 1324, 1342, 1423, 1432, 2134, 2143, 2314, 2413, 3124, 3214]
def middlesL : List Int32 := [0, 1, 2, 3, 12, 13, 21, 23, 31, 32, 123, 132, 213, 231, 312, 321]
def ringsF : Nat → Int32 := fun k => ringsL.getD k 0
def middlesF : Nat → Int32 := fun k => middlesL.getD k 0
/-- what every frame's start bears -/
def EV (g : GE) (U : State) (H : Heap) : Prop :=
  va_K (gD g) vwCl (gT g) U ∧ (∀ w ∈ NWL, va_Nw w U) ∧
  (va_Z "ParishYards" "RINGS" "[I" (.ref (gR g)) (gA g) U H ∧ va_T .int (gR g) 37 (fun k => .int (ringsF k)) (gA g) U H) ∧
  (va_Z "ParishYards" "MIDDLES" "[I" (.ref (gM g)) (gA g) U H ∧ va_T .int (gM g) 16 (fun k => .int (middlesF k)) (gA g) U H) ∧
  (vx_Zq Bundle.tN "UNASSIGNED_STACK" Bundle.steD (gA g) U H ∧ vx_Zq Bundle.tN "SUPPRESSED_SENTINEL" Bundle.listD (gA g) U H) ∧
  (∀ k, k < 14 → vk_R "ParishYards" (txW k).1 (txW k).2 (gt g k) U) ∧
  (∀ i j, i < 3 → j < 3 → i ≠ j → va_Nc (exN i) (exN j) U) ∧
  (va_X (gS g) (gN g) (gx g) U H ∧ gS g < gb g) ∧ va_AO "ParishYards$Yards" U ∧ (gl g).stackTraces = false ∧ gb g ≤ H.size
theorem EV.warm {g : GE} {s U : State} {H H1 : Heap} {locs : List Loc} (hW : s.WarmedH U.vm) (hS : va_S (gA g) H H1 locs) (h : EV g s H) : EV g U H1 := by
  obtain ⟨h1, h2, ⟨h3, h4⟩, ⟨h5, h6⟩, ⟨h7, h8⟩, h9, h10, ⟨h11, h12⟩, h13, h14, h15⟩ := h
  have hv := hW.alike
  have hk : ∀ a : Nat, a < H.size → ¬ gA g a → H1[a]? = H[a]? := hS.2.1
  refine ⟨h1.moved hv, fun w hw => nest_warm (List.mem_filter.mp hw).2 hW (h2 w hw), ⟨(h3.kept hk).moved hv, (h4.kept hk).moved hv⟩, ⟨(h5.kept hk).moved hv, (h6.kept hk).moved hv⟩, ⟨(h7.kept hk).moved hv, (h8.kept hk).moved hv⟩, fun k hk => (h9 k hk).warm hW, fun i j hi hj hij => (h10 i j hi hj hij).moved hv, ⟨?_, h12⟩, h13.moved hv, h14, Nat.le_trans h15 hS.1⟩
  have hb : gS g < H.size := Nat.lt_of_lt_of_le h12 h15
  exact (h11.kept (hk _ hb (Nat.not_le.mpr h12))).moved hv
theorem EV.same {g : GE} {U u : State} {H : Heap} (hv : U.vm = u.vm) (h : EV g u H) : EV g U H := by
  obtain ⟨h1, h2, ⟨h3, h4⟩, ⟨h5, h6⟩, ⟨h7, h8⟩, h9, h10, ⟨h11, h12⟩, h13, h14, h15⟩ := h
  have ha : u.vm.Alike U.vm := by rw [hv]; exact Vm.Alike.refl _
  exact ⟨h1.moved ha, fun w hw => va_Nw.same (nest_on (List.mem_filter.mp hw).2) hv.symm (h2 w hw), ⟨h3.moved ha, h4.moved ha⟩, ⟨h5.moved ha, h6.moved ha⟩, ⟨h7.moved ha, h8.moved ha⟩, fun k hk => (h9 k hk).same hv, fun i j hi hj hij => (h10 i j hi hj hij).moved ha, ⟨h11.moved ha, h12⟩, h13.moved ha, h14, h15⟩
