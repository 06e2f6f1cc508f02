/-! A land further on: the same heap, seen from a base that is d further. What is ahead of that base is not free there, so a call keeps it. -/
def gs (d : Nat) (g : GE) : GE := (gl g, gD g, (gI g, gJ g, gY g), (gb g + d, gR g, gM g, gS g), (gN g, gx g), gt g)
def shM (d : Nat) (M : Mem) : Mem := fun k => M (d + k)
def jnM (d : Nat) (M M1 : Mem) : Mem := fun k => if k < d then M k else M1 (k - d)
theorem gA_gs {d : Nat} {g : GE} : ∀ q, gA (gs d g) q → gA g q := fun _ h => Nat.le_trans (Nat.le_add_right _ _) h
theorem va_D.pw {A : Nat → Prop} {ws : va_W} (h : va_D A ws) : ws.Pairwise (fun p q => p.1 ≠ q.1) := by
  rw [List.pairwise_iff_getElem]
  intro i j hi hj hij e
  have := h.1 i j _ _ (List.getElem?_eq_getElem hi) (List.getElem?_eq_getElem hj) e
  omega
theorem va_D.of_pw {A : Nat → Prop} {ws : va_W} (h : ws.Pairwise (fun p q => p.1 ≠ q.1)) (hA : ∀ q ∈ ws, A q.1) : va_D A ws := by
  refine ⟨fun i j p q hi hj e => ?_, fun k q hk => hA q (List.mem_of_getElem? hk)⟩
  rw [List.pairwise_iff_getElem] at h
  obtain ⟨hi1, hi2⟩ := List.getElem?_eq_some_iff.mp hi
  obtain ⟨hj1, hj2⟩ := List.getElem?_eq_some_iff.mp hj
  rcases Nat.lt_trichotomy i j with c | c | c
  · exact absurd (show ws[i].1 = ws[j].1 by rw [hi2, hj2]; exact e) (h i j hi1 hj1 c)
  · exact c
  · exact absurd (show ws[j].1 = ws[i].1 by rw [hi2, hj2]; exact e.symm) (h j i hj1 hi1 c)
theorem WO.shift {g : GE} {M : Mem} {H : Heap} (d : Nat) (h : WO g M H) : WO (gs d g) (shM d M) H := by
  obtain ⟨ws, hP, hD, hM⟩ := h
  refine ⟨ws.filter (fun x => decide (gb g + d ≤ x.1)), ?_, ?_, ?_⟩
  · intro k q hk
    obtain ⟨i, hi⟩ := List.getElem?_of_mem (List.mem_filter.mp (List.mem_of_getElem? hk)).1
    exact hP i q hi
  · refine va_D.of_pw (hD.pw.filter _) fun q hq => ?_
    exact (show gb g + d ≤ q.1 from of_decide_eq_true (List.mem_filter.mp hq).2)
  · intro k e
    show M (d + k) = some e ↔ _
    rw [hM, List.mem_filter, show gb (gs d g) + k = gb g + (d + k) from Nat.add_assoc _ _ _]
    constructor
    · exact fun h => ⟨h, decide_eq_true (show gb g + d ≤ gb g + (d + k) by omega)⟩
    · exact fun h => h.1
theorem WO.join {g : GE} {M M1 : Mem} {H H1 : Heap} (d : Nat) (h : WO g M H) (hk : ∀ q : Nat, q < H.size → ¬ (gb g + d ≤ q) → H1[q]? = H[q]?) (h1 : WO (gs d g) M1 H1) : WO g (jnM d M M1) H1 := by
  obtain ⟨ws, hP, hD, hM⟩ := h
  obtain ⟨vs, kP, kD, kM⟩ := h1
  have hP2 : va_P (gD g) vwCl (ws.filter (fun x => decide (x.1 < gb g + d))) H := by
    intro k q hk
    obtain ⟨i, hi⟩ := List.getElem?_of_mem (List.mem_filter.mp (List.mem_of_getElem? hk)).1
    exact hP i q hi
  have hP3 := hP2.kept (H1 := H1) (fun j x hj => hk x.1 (hP2 j x hj).lt (by
    have h9 : x.1 < gb g + d := of_decide_eq_true (List.mem_filter.mp (List.mem_of_getElem? hj)).2
    omega))
  have kA : ∀ q ∈ vs, gb g + d ≤ q.1 := by
    intro q hq
    obtain ⟨i, hi⟩ := List.getElem?_of_mem hq
    exact kD.2 i q hi
  refine ⟨ws.filter (fun x => decide (x.1 < gb g + d)) ++ vs, ?_, ?_, ?_⟩
  · intro k q hq
    rcases List.mem_append.mp (List.mem_of_getElem? hq) with m | m
    · obtain ⟨i, hi⟩ := List.getElem?_of_mem m
      exact hP3 i q hi
    · obtain ⟨i, hi⟩ := List.getElem?_of_mem m
      exact kP i q hi
  · refine va_D.of_pw (List.pairwise_append.mpr ⟨hD.pw.filter _, kD.pw, fun a ha b hb => ?_⟩) fun q hq => ?_
    · have h1 : a.1 < gb g + d := of_decide_eq_true (List.mem_filter.mp ha).2
      have h2 := kA b hb
      omega
    · rcases List.mem_append.mp hq with m | m
      · obtain ⟨i, hi⟩ := List.getElem?_of_mem (List.mem_filter.mp m).1
        exact hD.2 i q hi
      · exact gA_gs _ (kA q m)
  · intro k e
    show (if k < d then M k else M1 (k - d)) = some e ↔ _
    rw [List.mem_append, List.mem_filter]
    by_cases hc : k < d
    · rw [if_pos hc, hM]
      constructor
      · exact fun h => Or.inl ⟨h, decide_eq_true (show gb g + k < gb g + d by omega)⟩
      · rintro (h | h)
        · exact h.1
        · have := kA _ h
          simp only at this
          omega
    · rw [if_neg hc, kM, show gb (gs d g) + (k - d) = gb g + k by show gb g + d + (k - d) = gb g + k; omega]
      constructor
      · exact Or.inr
      · rintro (h | h)
        · have h2 : gb g + k < gb g + d := of_decide_eq_true h.2
          omega
        · exact h
theorem EV.shift {g : GE} {U : State} {H : Heap} (d : Nat) (h : EV g U H) (hs : gb g + d ≤ H.size) : EV (gs d g) U H := by
  obtain ⟨h1, h2, ⟨h3, h4⟩, ⟨h5, h6⟩, ⟨h7, h8⟩, h9, h10, ⟨h11, h12⟩, h13, h14, h15⟩ := h
  exact ⟨h1, h2, ⟨h3.narrow gA_gs, h4.narrow gA_gs⟩, ⟨h5.narrow gA_gs, h6.narrow gA_gs⟩, ⟨h7.narrow gA_gs, h8.narrow gA_gs⟩, h9, h10, ⟨h11, Nat.lt_of_lt_of_le h12 (Nat.le_add_right _ _)⟩, h13, h14, hs⟩
theorem QR.join {g : GE} {M : Mem} {Q : Ou → Mem → Prop} {d : Nat} {a : Array Value} {s t : State} {o : Outcome} (hW : WO g M s.heap) (h : QR (gs d g) Q a s o t) : QR g (fun o M1 => ∃ M2, Q o M2 ∧ M1 = jnM d M M2) a s o t := by
  obtain ⟨⟨v, M2, e, q, w⟩, f1, f2⟩ := h
  exact ⟨⟨v, _, e, ⟨M2, q, rfl⟩, hW.join d f2 w⟩, f1, fun q h5 h6 => f2 q h5 (fun h => h6 (gA_gs _ h))⟩
theorem QX.join {g : GE} {M : Mem} {Q : Ou → Mem → Prop} {d : Nat} {E : String} {s t : State} (hW : WO g M s.heap) (h : QX (gs d g) Q E s t) : QX g (fun o M1 => ∃ M2, Q o M2 ∧ M1 = jnM d M M2) E s t := by
  obtain ⟨⟨M2, q, w⟩, f1, f2⟩ := h
  exact ⟨⟨_, ⟨M2, q, rfl⟩, hW.join d f2 w⟩, f1, fun q h5 h6 => f2 q h5 (fun h => h6 (gA_gs _ h))⟩
/-- a call over the further base is a call -/
theorem Run.shift {g : GE} {y : MT} {As : List Value} {M : Mem} {sz mc ms : Nat} {Q : Ou → Mem → Prop} (d : Nat) {e : va_E} (hd : M d = some e) (k : Run (gs d g) y As (shM d M) sz mc ms Q) : Run g y As M (d + sz) mc ms (fun o M1 => ∃ M2, Q o M2 ∧ M1 = jnM d M M2) := by
  intro p e9 ha hc hk s m args below hf happ hP hK
  obtain ⟨hA, hW, hE, hz⟩ := hP
  have hlt : gb g + d ≤ s.heap.size := by
    obtain ⟨ws, hP, hD, hM⟩ := hW
    obtain ⟨i, hi⟩ := List.getElem?_of_mem ((hM d e).mp hd)
    exact Nat.le_of_lt (hP i _ hi).lt
  obtain ⟨n, o, b1, b2, b3, b4⟩ := k p e9 ha hc hk s m args below hf happ ⟨hA, hW.shift d, hE.shift d hlt, by show _ ≤ gb g + d + sz; omega⟩ hK
  refine ⟨n, o, b1, b2, b3, ?_⟩
  rcases b4 with ⟨c1, L, c2, c3⟩ | ⟨q, c1, E, ce, L, c2, c3, c4, c5, c6, c7, c8⟩
  · exact Or.inl ⟨c1.join hW, L, c2, fun q hq => gA_gs _ (c3 q hq)⟩
  · exact Or.inr ⟨q, c1, E, ce, L, c2.join hW, c3, c4, c5, c6, c7, fun z hz => gA_gs _ (c8 z hz)⟩
