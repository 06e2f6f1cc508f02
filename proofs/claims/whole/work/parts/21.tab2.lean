/-! tables, the rest (by program) -/
theorem V_pc {g : GE} {mt : MT} {pc pc2 : Nat} {lv : List (Nat × Value)} {st : List Value} {M : Mem} {sz kc ks : Nat} {Q : Ou → Mem → Prop} (h : pc = pc2) (k : V g mt pc2 lv st M sz kc ks Q) : V g mt pc lv st M sz kc ks Q := h ▸ k
theorem st_X8_248 : Cond.fieldLink RX8 248 "ParishYards" "RINGS" "[I" ∈ BIG := inBIG 661 (by decide +kernel)
theorem st_X3_29 : Cond.fieldLinkNest RX3 29 "ParishYards" "RINGS" "[I" "ParishYards" ∈ NWL := inNWL 229 (by decide +kernel)
theorem st_X6_19 : Cond.fieldLinkNest RX6 19 "ParishYards" "MIDDLES" "[I" "ParishYards" ∈ NWL := inNWL 593 (by decide +kernel)
theorem l_obj_X8_1 : Cond.methodLink RX8 1 Lib.objectInit ∈ BIG := inBIG 96 (by decide +kernel)
theorem l_obj_X0_3 : Cond.methodLink RX0 3 Lib.objectInit ∈ BIG := inBIG 128 (by decide +kernel)
theorem l_obj_X1_3 : Cond.methodLink RX1 3 Lib.objectInit ∈ BIG := inBIG 188 (by decide +kernel)
theorem l_obj_X2_3 : Cond.methodLink RX2 3 Lib.objectInit ∈ BIG := inBIG 277 (by decide +kernel)
theorem l_obj_X3_3 : Cond.methodLink RX3 3 Lib.objectInit ∈ BIG := inBIG 223 (by decide +kernel)
theorem l_obj_X4_3 : Cond.methodLink RX4 3 Lib.objectInit ∈ BIG := inBIG 113 (by decide +kernel)
theorem l_obj_X5_3 : Cond.methodLink RX5 3 Lib.objectInit ∈ BIG := inBIG 205 (by decide +kernel)
theorem l_obj_X6_3 : Cond.methodLink RX6 3 Lib.objectInit ∈ BIG := inBIG 263 (by decide +kernel)
theorem l_obj_X7_3 : Cond.methodLink RX7 3 Lib.objectInit ∈ BIG := inBIG 104 (by decide +kernel)
theorem l_obj_X9_1 : Cond.methodLink RX9 1 Lib.objectInit ∈ BIG := inBIG 958 (by decide +kernel)
theorem nw_X0 : ∀ j, j < 7 → defaultValue (clTy 0 j) = vp_V [.null, .null, .null, .null, .int 0, .int 0, .int 0] j := by
  intro j hj
  match j, hj with
  | 0, _ => rfl
  | 1, _ => rfl
  | 2, _ => rfl
  | 3, _ => rfl
  | 4, _ => rfl
  | 5, _ => rfl
  | 6, _ => rfl
  | j + 7, hj => omega
theorem nw_X1 : ∀ j, j < 2 → defaultValue (clTy 1 j) = vp_V [.null, .int 0] j := by
  intro j hj
  match j, hj with
  | 0, _ => rfl
  | 1, _ => rfl
  | j + 2, hj => omega
theorem nw_X2 : ∀ j, j < 2 → defaultValue (clTy 2 j) = vp_V [.null, .null] j := by
  intro j hj
  match j, hj with
  | 0, _ => rfl
  | 1, _ => rfl
  | j + 2, hj => omega
theorem nw_X3 : ∀ j, j < 3 → defaultValue (clTy 3 j) = vp_V [.null, .null, .null] j := by
  intro j hj
  match j, hj with
  | 0, _ => rfl
  | 1, _ => rfl
  | 2, _ => rfl
  | j + 3, hj => omega
theorem nw_X4 : ∀ j, j < 2 → defaultValue (clTy 4 j) = vp_V [.null, .int 0] j := by
  intro j hj
  match j, hj with
  | 0, _ => rfl
  | 1, _ => rfl
  | j + 2, hj => omega
theorem nw_X5 : ∀ j, j < 3 → defaultValue (clTy 5 j) = vp_V [.null, .int 0, .int 0] j := by
  intro j hj
  match j, hj with
  | 0, _ => rfl
  | 1, _ => rfl
  | 2, _ => rfl
  | j + 3, hj => omega
theorem nw_X6 : ∀ j, j < 2 → defaultValue (clTy 6 j) = vp_V [.null, .int 0] j := by
  intro j hj
  match j, hj with
  | 0, _ => rfl
  | 1, _ => rfl
  | j + 2, hj => omega
theorem nw_X7 : ∀ j, j < 6 → defaultValue (clTy 7 j) = vp_V [.null, .null, .null, .null, .int 0, .int 0] j := by
  intro j hj
  match j, hj with
  | 0, _ => rfl
  | 1, _ => rfl
  | 2, _ => rfl
  | 3, _ => rfl
  | 4, _ => rfl
  | 5, _ => rfl
  | j + 6, hj => omega
theorem nw_X8 : ∀ j, j < 9 → defaultValue (clTy 8 j) = vp_V [.null, .null, .null, .null, .null, .null, .null, .null, .int 0] j := by
  intro j hj
  match j, hj with
  | 0, _ => rfl
  | 1, _ => rfl
  | 2, _ => rfl
  | 3, _ => rfl
  | 4, _ => rfl
  | 5, _ => rfl
  | 6, _ => rfl
  | 7, _ => rfl
  | 8, _ => rfl
  | j + 9, hj => omega
theorem nw_X9 : ∀ j, j < 19 → defaultValue (clTy 9 j) = vp_V [.null, .null, .int 0, .null, .int 0, .null, .int 0, .int 0, .null, .null, .null, .null, .int 0, .int 0, .int 0, .int 0, .int 0, .int 0, .int 0] j := by
  intro j hj
  match j, hj with
  | 0, _ => rfl
  | 1, _ => rfl
  | 2, _ => rfl
  | 3, _ => rfl
  | 4, _ => rfl
  | 5, _ => rfl
  | 6, _ => rfl
  | 7, _ => rfl
  | 8, _ => rfl
  | 9, _ => rfl
  | 10, _ => rfl
  | 11, _ => rfl
  | 12, _ => rfl
  | 13, _ => rfl
  | 14, _ => rfl
  | 15, _ => rfl
  | 16, _ => rfl
  | 17, _ => rfl
  | 18, _ => rfl
  | j + 19, hj => omega
theorem ca_0 : Cond.castable (exN 0) (exN 0) ∈ NWL := inNWL 560 (by decide +kernel)
theorem ca_1 : Cond.castable (exN 1) (exN 1) ∈ NWL := inNWL 436 (by decide +kernel)
theorem ca_2 : Cond.castable (exN 2) (exN 2) ∈ NWL := inNWL 756 (by decide +kernel)
theorem cl_L_13 : Cond.classLink RL 13 (exN 0) ∈ BIG := inBIG 727 (by decide +kernel)
theorem cl_L_15 : Cond.classLink RL 15 (exN 1) ∈ BIG := inBIG 728 (by decide +kernel)
theorem cl_L_21 : Cond.classLink RL 21 (exN 2) ∈ BIG := inBIG 749 (by decide +kernel)
