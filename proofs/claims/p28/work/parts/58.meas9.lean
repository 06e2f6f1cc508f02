/-! measures, the reference -/
theorem MD.ms {g : GE} {M : Mem} {σ v : Nat → Int32} (h : MD g M σ v) (s : ST) : MD g (msM g M 103 104 s) σ v := (h.o (k := 103) (by decide) (by decide) (by decide) (by decide)).o (k := 104) (by decide) (by decide) (by decide) (by decide)
