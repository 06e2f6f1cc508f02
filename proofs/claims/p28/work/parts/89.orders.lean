/-! rings in their order: what a loop over them has gathered -/
def fdl {α : Type} (p : Nat → Bool) (f : Nat → α → α) (a : α) : Nat → α
  | 0 => a
  | r + 1 => if p r = true then f r (fdl p f a r) else fdl p f a r
theorem fdl_t {α : Type} {p : Nat → Bool} {f : Nat → α → α} {a : α} {r : Nat} (h : p r = true) : fdl p f a (r + 1) = f r (fdl p f a r) := if_pos h
theorem fdl_f {α : Type} {p : Nat → Bool} {f : Nat → α → α} {a : α} {r : Nat} (h : p r = false) : fdl p f a (r + 1) = fdl p f a r := if_neg (by rw [h]; decide)
theorem fdl_flat {α : Type} {p : Nat → Bool} {f : Nat → α → α} {a : α} {r : Nat} : ∀ {n : Nat}, r ≤ n → cnt p r = cnt p n → fdl p f a r = fdl p f a n := by
  intro n
  induction n with
  | zero => intro h _; rw [show r = 0 by omega]
  | succ n ih =>
    intro h e
    rcases Nat.lt_or_ge n r with c | c
    · rw [show r = n + 1 by omega]
    · cases hp : p n with
      | true =>
        rw [cnt_t hp] at e
        have := cnt_le2 (p := p) c
        omega
      | false =>
        rw [cnt_f hp] at e
        rw [fdl_f hp]
        exact ih c e
theorem fdl_step {p : Nat → Bool} {R r : Nat} (hR : cnt p R = cnt p r) (hp : p r = true) : R ≤ r := by
  rcases Nat.lt_or_ge r R with c | c
  · have := cnt_le2 (p := p) (show r + 1 ≤ R from c)
    rw [cnt_t hp] at this
    omega
  · exact c
theorem fdl_next {α : Type} {p : Nat → Bool} {f : Nat → α → α} {a : α} {R r : Nat} (hR : cnt p R = cnt p r) (hp : p r = true) : fdl p f a (r + 1) = f r (fdl p f a R) := by rw [fdl_t hp, fdl_flat (fdl_step hR hp) hR]
theorem fnd_none {P : Nat → Bool} : ∀ {m i : Nat}, fnd P i m = none → ∀ k, i ≤ k → k < i + m → P k = false
  | 0, i, h, k, h1, h2 => by omega
  | m + 1, i, h, k, h1, h2 => by
    cases hp : P i with
    | true => rw [fnd_t hp] at h; cases h
    | false =>
      rw [fnd_f hp] at h
      by_cases e : k = i
      · rw [e]; exact hp
      · exact fnd_none h k (by omega) (by omega)
theorem cnt_and (p q : Nat → Bool) (r : Nat) : cnt (fun k => p k && q k) (r + 1) = cnt (fun k => p k && q k) r + (if (p r && q r) = true then 1 else 0) := rfl
/-- gains -/
theorem gain_i {σ : Nat → Int32} (hI : I10 σ) {r : Nat} (hr : r < 37) (ht : thr σ r = true) : -10000 ≤ (gainS σ r).toInt ∧ (gainS σ r).toInt < 96000000000000 ∧ (prodS σ r true = prodS σ r false → (gainS σ r).toInt = 0) := by
  obtain ⟨u, u1, u2, eu⟩ := prodS_pos hI hr ht true
  obtain ⟨d, d1, d2, ed⟩ := prodS_pos hI hr ht false
  have tu : (prodS σ r true).toInt = (u : Int) := by rw [eu]; exact pk_lT (by omega)
  have td : (prodS σ r false).toInt = (d : Int) := by rw [ed]; exact pk_lT (by omega)
  have hy : 0 < prodS σ r false := by rw [ed]; exact lN_gt0 d1 (by omega)
  have t1 : (prodS σ r true - prodS σ r false).toInt = (u : Int) - d := by
    rw [Int64.toInt_sub, tu, td, Int.bmod_eq_of_le (by omega) (by omega)]
  have t2 : ((prodS σ r true - prodS σ r false) * 10000).toInt = ((u : Int) - d) * 10000 := by
    rw [Int64.toInt_mul, t1, show (10000 : Int64).toInt = 10000 from rfl, Int.bmod_eq_of_le (by omega) (by omega)]
  obtain ⟨h1, h2, h3⟩ := l_div (x := (prodS σ r true - prodS σ r false) * 10000) hy
  rw [td, t2] at h1 h2 h3
  have hb := tmod_bounds (a := ((u : Int) - d) * 10000) (show (0 : Int) < d by omega)
  have he : (d : Int) * (((u : Int) - d) * 10000).tdiv d + (((u : Int) - d) * 10000).tmod d = ((u : Int) - d) * 10000 := Int.mul_tdiv_add_tmod _ _
  have h0 : u = d → (((u : Int) - d) * 10000).tdiv d = 0 ∧ (((u : Int) - d) * 10000).tmod d = 0 := by
    intro e
    rw [e, show ((d : Int) - d) * 10000 = 0 by omega]
    exact ⟨Int.zero_tdiv _, Int.zero_tmod _⟩
  have hsgn : (prodS σ r true - prodS σ r false) * 10000 - (prodS σ r true - prodS σ r false) * 10000 / prodS σ r false * prodS σ r false < 0 ↔ (((u : Int) - d) * 10000).tmod d < 0 := by rw [l_lt0, h3]
  generalize hq : (((u : Int) - d) * 10000).tdiv d = q at *
  generalize hm : (((u : Int) - d) * 10000).tmod d = m at *
  have lo : -10001 < q := by
    apply Int.not_le.mp
    intro hc
    have := Int.mul_le_mul_of_nonneg_left hc (show (0 : Int) ≤ d by omega)
    generalize (d : Int) * q = P at *
    omega
  have lo2 : m < 0 → -10000 < q := by
    intro hm0
    apply Int.not_le.mp
    intro hc
    have := Int.mul_le_mul_of_nonneg_left hc (show (0 : Int) ≤ d by omega)
    generalize (d : Int) * q = P at *
    omega
  have hi : q < 96000000000000 := by
    apply Int.not_le.mp
    intro hc
    have := Int.mul_le_mul_of_nonneg_left hc (show (0 : Int) ≤ d by omega)
    generalize (d : Int) * q = P at *
    omega
  have key : (gainS σ r).toInt = if m < 0 then q - 1 else q := by
    unfold gainS flr
    by_cases c : m < 0
    · rw [if_pos (hsgn.mpr c), if_pos c, Int64.toInt_sub, h1, show (1 : Int64).toInt = 1 from rfl, Int.bmod_eq_of_le (by omega) (by omega)]
    · rw [if_neg (fun e => c (hsgn.mp e)), if_neg c, h1]
  rw [key]
  refine ⟨?_, ?_, fun e => ?_⟩
  · split
    · have := lo2 (by assumption); omega
    · omega
  · split <;> omega
  · have e2 : u = d := by
      rw [eu, ed] at e
      exact (pk_lEQ (by omega) (by omega)).mp e
    obtain ⟨z1, z2⟩ := h0 e2
    rw [z1, z2]
    rfl
def gnA (σ : Nat → Int32) (r : Nat) : Int32 := toldS σ r (nI 2) - 1000000
theorem told_0 (σ : Nat → Int32) (r : Nat) : toldS σ r (nI 0) = nI (rSz r) := if_pos rfl
theorem told_1 (σ : Nat → Int32) (r : Nat) : toldS σ r (nI 1) = nI (rC r) := (if_neg (by decide)).trans (if_pos rfl)
theorem told_2 (σ : Nat → Int32) (r : Nat) : toldS σ r (nI 2) = clampG (gainS σ r + 1000000) := (if_neg (by decide)).trans ((if_neg (by decide)).trans (if_neg (by decide)))
theorem told_3 (σ : Nat → Int32) (r : Nat) : toldS σ r (nI 3) = bI (offS σ r) := (if_neg (by decide)).trans ((if_neg (by decide)).trans (if_pos rfl))
theorem gn_i {σ : Nat → Int32} (hI : I10 σ) {r : Nat} (hr : r < 37) (ht : thr σ r = true) : ((gnA σ r).toInt = (gainS σ r).toInt ∧ (gainS σ r).toInt ≤ 1999000000) ∨ ((gnA σ r).toInt = 1999000000 ∧ 1999000000 < (gainS σ r).toInt) := by
  obtain ⟨g1, g2, g3⟩ := gain_i hI hr ht
  have t1 : (gainS σ r + 1000000).toInt = (gainS σ r).toInt + 1000000 := by
    rw [Int64.toInt_add, show (1000000 : Int64).toInt = 1000000 from rfl, Int.bmod_eq_of_le (by omega) (by omega)]
  have n0 : ¬ gainS σ r + 1000000 < 0 := by rw [l_lt0, t1]; omega
  have e2 : (2000000000 : Int64) < gainS σ r + 1000000 ↔ 1999000000 < (gainS σ r).toInt := by
    rw [fa_lt64', t1, show (2000000000 : Int64).toInt = 2000000000 from rfl]
    omega
  unfold gnA
  rw [told_2]
  unfold clampG
  rw [if_neg n0]
  by_cases c : (2000000000 : Int64) < gainS σ r + 1000000
  · rw [if_pos c]
    exact Or.inr ⟨by decide, e2.mp c⟩
  · rw [if_neg c]
    have c2 : (gainS σ r).toInt ≤ 1999000000 := Int.not_lt.mp (fun e => c (e2.mpr e))
    refine Or.inl ⟨?_, c2⟩
    have t2 : (gainS σ r + 1000000).toInt32.toInt = (gainS σ r).toInt + 1000000 := by
      rw [Int64.toInt_toInt32, t1, Int.bmod_eq_of_le (by omega) (by omega)]
    rw [Int32.toInt_sub, t2, show (1000000 : Int32).toInt = 1000000 from rfl, Int.bmod_eq_of_le (by omega) (by omega)]
    omega
theorem off_iff {σ : Nat → Int32} (hI : I10 σ) {r : Nat} (hr : r < 37) (ht : thr σ r = true) {K : Nat} (hK : σ 25 = nI K) (hK5 : K ≤ 500) : offS σ r = true ↔ (σ 25 < gnA σ r ∨ σ 25 < -gnA σ r) := by
  obtain ⟨g1, g2, g3⟩ := gain_i hI hr ht
  have gi := gn_i hI hr ht
  have tn : (-gnA σ r).toInt = -(gnA σ r).toInt := by
    rw [Int32.toInt_neg, Int.bmod_eq_of_le (by omega) (by omega)]
  have tl : (labs (gainS σ r)).toInt = if 0 ≤ (gainS σ r).toInt then (gainS σ r).toInt else -(gainS σ r).toInt := by
    unfold labs
    have e0 : (0 : Int64) ≤ gainS σ r ↔ 0 ≤ (gainS σ r).toInt := by rw [Int64.le_iff_toInt_le]; exact Iff.rfl
    by_cases c : 0 ≤ (gainS σ r).toInt
    · rw [if_pos (e0.mpr c), if_pos c]
    · rw [if_neg (fun e => c (e0.mp e)), if_neg c, Int64.toInt_neg, Int.bmod_eq_of_le (by omega) (by omega)]
  unfold offS
  rw [decide_eq_true_eq, fa_lt64', tl, hK, Int32.toInt_toInt64, fa_lt', fa_lt', tn, nI_toInt (by omega)]
  split <;> omega
/-- the gathered -/
def sizF (σ : Nat → Int32) : Nat → Int32 → Int32 := fun r x => x + toldS σ r (nI 0)
def offF (σ : Nat → Int32) : Nat → Int32 → Int32 := fun r x => x + toldS σ r (nI 3)
def lstF (σ : Nat → Int32) : Nat → Int32 → Int32 := fun r _ => 100000 * toldS σ r (nI 0) + toldS σ r (nI 1)
def evnF (σ : Nat → Int32) : Nat → Int32 → Int32 := fun r x => if x = 0 then 0 else if gnA σ r = 0 then 1 else 0
def szN (σ : Nat → Int32) : Nat → Nat := fdl (thr σ) (fun r x => x + rSz r) 0
def cdR (r : Nat) : Nat := 100000 * rSz r + rC r
theorem cdR_lt : ∀ r s, r < s → s < 37 → cdR r < cdR s := by
  have h : ((List.range 37).all fun s => (List.range 37).all fun r => decide (r < s → cdR r < cdR s)) = true := by decide +kernel
  intro r s hrs hs
  exact of_decide_eq_true (all_lt (all_lt h s hs) r (by omega)) hrs
theorem cdR_in : ∀ r, r < 37 → 300000 ≤ cdR r ∧ cdR r < 600000 := by
  have h : ((List.range 37).all fun r => decide (300000 ≤ cdR r ∧ cdR r < 600000)) = true := by decide +kernel
  intro r hr
  exact of_decide_eq_true (all_lt h r hr)
theorem lst_cd (σ : Nat → Int32) (r : Nat) (x : Int32) : lstF σ r x = nI (cdR r) := by
  unfold lstF cdR
  rw [told_0, told_1, show (100000 : Int32) = nI 100000 from rfl, pk_mul, nI_add]
theorem lst_v (σ : Nat → Int32) : ∀ R, ∃ v, fdl (thr σ) (lstF σ) 0 R = nI v ∧ (v = 0 ∨ ∃ r, r < R ∧ v = cdR r)
  | 0 => ⟨0, rfl, Or.inl rfl⟩
  | R + 1 => by
    cases h : thr σ R with
    | true => exact ⟨cdR R, by rw [fdl_t h, lst_cd], Or.inr ⟨R, by omega, rfl⟩⟩
    | false =>
      obtain ⟨v, h1, h2⟩ := lst_v σ R
      rw [fdl_f h]
      refine ⟨v, h1, ?_⟩
      rcases h2 with h2 | ⟨r, h3, h4⟩
      · exact Or.inl h2
      · exact Or.inr ⟨r, by omega, h4⟩
theorem lst_lt {σ : Nat → Int32} {R r : Nat} (h : R ≤ r) (hr : r < 37) : fdl (thr σ) (lstF σ) 0 R < nI (cdR r) := by
  obtain ⟨v, h1, h2⟩ := lst_v σ R
  have hi := cdR_in r hr
  rw [h1]
  rcases h2 with h2 | ⟨q, h3, h4⟩
  · exact nI_lt (by omega) (by omega)
  · have := cdR_lt q r (by omega) hr
    exact nI_lt (by omega) (by omega)
theorem off_v (σ : Nat → Int32) : ∀ R, fdl (thr σ) (offF σ) 0 R = nI (cnt (fun r => thr σ r && offS σ r) R)
  | 0 => rfl
  | R + 1 => by
    cases h : thr σ R with
    | true =>
      rw [fdl_t h, cnt_and, h, off_v σ R]
      show _ + toldS σ R (nI 3) = _
      rw [told_3]
      cases ho : offS σ R with
      | true => exact nI_1 _
      | false => exact nI_add _ 0
    | false =>
      rw [fdl_f h, cnt_and, h, off_v σ R]
      rfl
theorem siz_v (σ : Nat → Int32) : ∀ R, fdl (thr σ) (sizF σ) 0 R = nI (szN σ R)
  | 0 => rfl
  | R + 1 => by
    unfold szN
    cases h : thr σ R with
    | true =>
      rw [fdl_t h, fdl_t h, siz_v σ R]
      show _ + toldS σ R (nI 0) = _
      rw [told_0, nI_add]
      rfl
    | false =>
      rw [fdl_f h, fdl_f h, siz_v σ R]
      rfl
theorem gn_0 {σ : Nat → Int32} (hI : I10 σ) {r : Nat} (hr : r < 37) (ht : thr σ r = true) (hp : prodS σ r true = prodS σ r false) : gnA σ r = 0 := by
  obtain ⟨g1, g2, g3⟩ := gain_i hI hr ht
  have gi := gn_i hI hr ht
  have := g3 hp
  apply Int32.toInt_inj.mp
  rw [show (0 : Int32).toInt = 0 from rfl]
  omega
theorem evn_v {σ : Nat → Int32} (hI : I10 σ) (h : fnd (badS σ) 0 37 = none) : ∀ R, R ≤ 37 → fdl (thr σ) (evnF σ) 1 R = 1
  | 0, _ => rfl
  | R + 1, hR => by
    cases ht : thr σ R with
    | true =>
      rw [fdl_t ht, evn_v hI h R (by omega)]
      have hb := fnd_none h R (by omega) (by omega)
      unfold badS at hb
      rw [ht, Bool.true_and, Bool.not_eq_false', beq_iff_eq] at hb
      show (if (1 : Int32) = 0 then (0 : Int32) else if gnA σ R = 0 then 1 else 0) = 1
      rw [if_neg (by decide), if_pos (gn_0 hI (by omega) ht hb)]
    | false => rw [fdl_f ht, evn_v hI h R (by omega)]
/-- the pairs: how many rings have them, together -/
def twS (σ : Nat → Int32) : Nat → Int32
  | 0 => 0
  | c + 1 => twS σ c + (if c / 5 = c % 5 then 0 else nI (cnt (fun r => rHas r (c / 5) (c % 5) && thr σ r) 37))
def twN (σ : Nat → Int32) (n : Nat) : Nat → Nat
  | 0 => 0
  | c + 1 => twN σ n c + (if c / 5 = c % 5 then 0 else cnt (fun r => rHas r (c / 5) (c % 5) && thr σ r) n)
def rhN (n : Nat) : Nat → Nat
  | 0 => 0
  | c + 1 => rhN n c + (if c / 5 = c % 5 then 0 else if rHas n (c / 5) (c % 5) = true then 1 else 0)
theorem rh_25 : ∀ n, n < 37 → rhN n 25 = 2 * rSz n := by
  have h : ((List.range 37).all fun n => decide (rhN n 25 = 2 * rSz n)) = true := by decide +kernel
  intro n hn
  exact of_decide_eq_true (all_lt h n hn)
theorem tw_v (σ : Nat → Int32) : ∀ c, twS σ c = nI (twN σ 37 c)
  | 0 => rfl
  | c + 1 => by
    show twS σ c + _ = nI (twN σ 37 c + _)
    rw [tw_v σ c, ← nI_add]
    split <;> rfl
theorem tw_s (σ : Nat → Int32) (n : Nat) : ∀ c, twN σ (n + 1) c = twN σ n c + (if thr σ n = true then rhN n c else 0)
  | 0 => by show 0 = 0 + _; split <;> rfl
  | c + 1 => by
    show twN σ (n + 1) c + _ = twN σ n c + _ + (if thr σ n = true then rhN n c + _ else 0)
    rw [tw_s σ n c]
    by_cases e : c / 5 = c % 5
    · rw [if_pos e, if_pos e, if_pos e]; split <;> omega
    · rw [if_neg e, if_neg e, if_neg e]
      rw [show cnt (fun r => rHas r (c / 5) (c % 5) && thr σ r) (n + 1) = cnt (fun r => rHas r (c / 5) (c % 5) && thr σ r) n + (if (rHas n (c / 5) (c % 5) && thr σ n) = true then 1 else 0) from rfl]
      cases ht : thr σ n <;> cases hh : rHas n (c / 5) (c % 5) <;> simp <;> omega
theorem tw_n (σ : Nat → Int32) : ∀ n, n ≤ 37 → twN σ n 25 = 2 * szN σ n
  | 0, _ => by
    have h : ∀ c, twN σ 0 c = 0 := by
      intro c
      induction c with
      | zero => rfl
      | succ c ih => show twN σ 0 c + _ = 0; rw [ih]; split <;> rfl
    rw [h]; rfl
  | n + 1, h => by
    rw [tw_s, tw_n σ n (by omega)]
    unfold szN
    cases ht : thr σ n with
    | true => rw [fdl_t ht, if_pos rfl, rh_25 n (by omega)]; omega
    | false => rw [fdl_f ht, if_neg (by decide)]; rfl
theorem tw_fin (σ : Nat → Int32) : twS σ 25 = 2 * fdl (thr σ) (sizF σ) 0 37 := by
  rw [tw_v, tw_n σ 37 (Nat.le_refl _), siz_v, show (2 : Int32) = nI 2 from rfl, pk_mul]
/-- the tables -/
def tbL (l : List Bool) : Nat → Nat
  | 0 => 0
  | c + 1 => tbL l c + (if c / 5 < c % 5 ∧ hasL l (c / 5) (c % 5) = true then 1 else 0)
def tbS (σ : Nat → Int32) : Nat → Int32
  | 0 => 0
  | c + 1 => tbS σ c + (if c / 5 < c % 5 ∧ hasS σ (c / 5) (c % 5) = true then 1 else 0)
theorem tb_l : ∀ l : List Bool, l.length = 10 → (tbL l 25 == cnt (fun k => l.getD k false) 10) = true := len10 (by decide +kernel)
theorem tb_v (σ : Nat → Int32) : ∀ c, tbS σ c = nI (tbL (hv σ) c)
  | 0 => rfl
  | c + 1 => by
    show tbS σ c + _ = nI (tbL (hv σ) c + _)
    rw [tb_v σ c, ← nI_add]
    unfold hasS
    split <;> rfl
theorem tb_fin (σ : Nat → Int32) : tbS σ 25 = tabN σ := by
  have h := tb_l (hv σ) (hv_len σ)
  rw [beq_iff_eq] at h
  rw [tb_v, h]
  rfl
/-- the table of a pair, and its rings -/
theorem rHas_comm (r a b : Nat) : rHas r a b = rHas r b a := by
  unfold rHas
  congr 1
  funext i
  exact Bool.or_comm _ _
theorem of_12 (σ : Nat → Int32) (a b : Nat) : ofTabS σ a b 0 = ofTabS σ b a 1 := by
  unfold ofTabS
  rw [if_neg (show ¬ (0 : Int32) = 2 by decide), if_neg (show ¬ (1 : Int32) = 2 by decide), hasS_comm σ b a, if_pos (show (0 : Int32) = 0 from rfl), if_neg (show ¬ (1 : Int32) = 0 by decide)]
theorem of_22 (σ : Nat → Int32) (a b : Nat) : ofTabS σ a b 2 = ofTabS σ b a 2 := by
  unfold ofTabS
  rw [if_pos rfl, if_pos rfl]
  congr 2
  funext r
  rw [rHas_comm]
theorem of_0f {σ : Nat → Int32} {a b : Nat} (h : hasS σ a b = false) : ofTabS σ a b 0 = -1 := (if_neg (by decide)).trans (if_pos h)
theorem of_0t {σ : Nat → Int32} {a b : Nat} (h : hasS σ a b = true) : ofTabS σ a b 0 = upS σ a b := (if_neg (by decide)).trans ((if_neg (by rw [h]; decide)).trans (if_pos rfl))
theorem of_1t {σ : Nat → Int32} {a b : Nat} (h : hasS σ a b = true) : ofTabS σ a b 1 = upS σ b a := (if_neg (by decide)).trans ((if_neg (by rw [h]; decide)).trans (if_neg (by decide)))
theorem has_ring {σ : Nat → Int32} {a b r : Nat} (h1 : rHas r a b = true) (h2 : thr σ r = true) : hasS σ a b = true := by
  obtain ⟨i, hi, h⟩ := List.any_eq_true.mp h1
  have h3 : hasS σ (rQ r i).1 (rQ r i).2 = true := List.all_eq_true.mp h2 i hi
  rw [Bool.or_eq_true, Bool.and_eq_true, Bool.and_eq_true, beq_iff_eq, beq_iff_eq, beq_iff_eq, beq_iff_eq] at h
  rcases h with ⟨e1, e2⟩ | ⟨e1, e2⟩
  · rw [e1, e2] at h3; exact h3
  · rw [e1, e2] at h3; rw [hasS_comm]; exact h3
theorem cnt_0 {p : Nat → Bool} (h : ∀ k, p k = false) : ∀ n, cnt p n = 0
  | 0 => rfl
  | n + 1 => by rw [cnt_f (h n), cnt_0 h n]
theorem of_2f {σ : Nat → Int32} {a b : Nat} (h : hasS σ a b = false) : ofTabS σ a b 2 = 0 := by
  unfold ofTabS
  rw [if_pos rfl, cnt_0 (fun r => ?_) 37]
  · rfl
  · cases h1 : rHas r a b with
    | false => rfl
    | true =>
      cases h2 : thr σ r with
      | false => rfl
      | true => rw [has_ring h1 h2] at h; cases h
theorem put_self {σ : Nat → Int32} {a b : Nat} (hab : a ≠ b) : putS σ a b (upS σ a b) (upS σ b a) = σ := by
  have us : ∀ (f : Nat → Int32) (k : Nat) (x : Int32), f k = x → upd f k x = f := by
    intro f k x h
    funext j
    by_cases e : j = k
    · rw [e, upd_at, h]
    · rw [upd_ne e]
  unfold putS
  rcases Nat.lt_or_gt_of_ne hab with c | c
  · have h1 : upS σ a b = σ (pr a b) := if_pos c
    have h2 : upS σ b a = σ (10 + pr a b) := by rw [pr_comm]; exact if_neg (by omega)
    rw [if_pos c, if_pos c, us σ _ _ h1.symm, us σ _ _ h2.symm]
  · have h1 : upS σ a b = σ (10 + pr a b) := if_neg (by omega)
    have h2 : upS σ b a = σ (pr a b) := by rw [pr_comm]; exact if_pos c
    rw [if_neg (by omega), if_neg (by omega), us σ _ _ h2.symm, us σ _ _ h1.symm]
theorem turn_0 (u d r : Int32) (hd : 0 < d) : turnF 0 u d r = 0 := by
  have h1 : ∀ y : Int64, 0 / y = 0 := fun y => Int64.zero_div
  unfold turnF
  split
  · rw [Int64.zero_mul, h1]
  · rw [Int64.mul_zero, Int64.zero_mul, Int64.zero_add]
    have hp := pos_i64 hd
    obtain ⟨x, hx, e⟩ := pk_lOf (x := d.toInt64) (Int64.not_lt.mpr (Int64.le_of_lt hp))
    have x32 : d.toInt64.toInt < 2147483648 := by rw [Int32.toInt_toInt64]; exact (fb_rng' d).2
    rw [e, pk_lT hx] at x32
    have x1 : 1 ≤ x := by
      rw [e, show (0 : Int64) = lN 0 from rfl, pk_lLT (by decide) hx] at hp
      exact hp
    rw [e, show (2 : Int64) = lN 2 from rfl, lN_mul, pk_lDiv hx (by omega) (by omega), Nat.div_eq_of_lt (by omega)]
    rfl
theorem turned_0 {σ : Nat → Int32} (hI : I10 σ) {a b : Nat} (ha : a < 5) (hb : b < 5) (h : hasS σ a b = true) : turnedS σ a b 0 = 0 := by
  unfold turnedS turnS
  rw [if_pos h, turn_0 _ _ _ (hasPos2 hI ha hb h)]
  rfl
/-- ways -/
theorem allN_of {P : Nat → Bool} : ∀ {n : Nat}, (∀ k, k < n → P k = true) → allN P n = true
  | 0, _ => rfl
  | n + 1, h => by rw [allN_s, allN_of (fun k hk => h k (by omega)), h n (by omega)]; rfl
set_option maxRecDepth 100000 in
theorem ways_rev : ∀ a b i, a < 5 → b < 5 → a ≠ b → i < 16 → ∃ j, j < 16 ∧ wSz j = wSz i ∧ (1 ≤ i → 1 ≤ j) ∧ ∀ k, k < wSz i → oSt b a j k = oSt a b i (wSz i - 1 - k) := by
  have h : ((List.range 5).all fun a => (List.range 5).all fun b => (List.range 16).all fun i => decide (a = b) || (List.range 16).any fun j => decide (wSz j = wSz i ∧ (1 ≤ i → 1 ≤ j)) && (List.range (wSz i)).all fun k => decide (oSt b a j k = oSt a b i (wSz i - 1 - k))) = true := by decide +kernel
  intro a b i ha hb hab hi
  have h1 := all_lt (all_lt (all_lt h a ha) b hb) i hi
  rw [decide_eq_false hab, Bool.false_or] at h1
  obtain ⟨j, hj, h2⟩ := List.any_eq_true.mp h1
  rw [Bool.and_eq_true, decide_eq_true_eq] at h2
  exact ⟨j, List.mem_range.mp hj, h2.1.1, h2.1.2, fun k hk => of_decide_eq_true (all_lt h2.2 k hk)⟩
theorem std_rev {σ : Nat → Int32} {a b i : Nat} (ha : a < 5) (hb : b < 5) (hab : a ≠ b) (hi : i < 16) (h : stdI σ a b i = true) : ∃ j, j < 16 ∧ wSz j = wSz i ∧ (1 ≤ i → 1 ≤ j) ∧ stdI σ b a j = true := by
  obtain ⟨j, hj, h1, h2, h3⟩ := ways_rev a b i ha hb hab hi
  refine ⟨j, hj, h1, h2, ?_⟩
  have hs := szM_in (midN i)
  have hs' : 2 ≤ wSz i := hs.1
  unfold stdI stdW
  rw [h1]
  refine allN_of (fun k hk => ?_)
  unfold stdP
  rw [h3 k (by omega), h3 (k + 1) (by omega), hasS_comm]
  have h4 : stdP σ (oSt a b i) (wSz i - 1 - (k + 1)) = true := allN_lt h _ (by omega)
  unfold stdP at h4
  rw [show wSz i - 1 - (k + 1) + 1 = wSz i - 1 - k by omega] at h4
  exact h4
theorem bw_some {σ : Nat → Int32} {a b : Nat} {x : Int64} {K : Nat} : ∀ {n : Nat} {c : Nat} {l : Int64}, bwS σ a b x K n = some (c, l) → ∃ i, i < n ∧ c = wC a b i ∧ stdI σ a b i = true ∧ wSz i ≤ K + 1
  | 0, c, l, h => by cases h
  | n + 1, c, l, h => by
    have e : bwS σ a b x K (n + 1) = bwStep σ a b x K n (bwS σ a b x K n) := rfl
    rw [e] at h
    unfold bwStep at h
    split at h
    · rename_i hc
      rw [Bool.and_eq_true, Bool.and_eq_true, decide_eq_true_eq] at hc
      cases h
      exact ⟨n, by omega, rfl, hc.1.2, hc.1.1⟩
    · obtain ⟨i, h1, h2, h3, h4⟩ := bw_some h
      exact ⟨i, by omega, h2, h3, h4⟩
theorem bw_none {σ : Nat → Int32} {a b : Nat} {x : Int64} {K : Nat} : ∀ {n : Nat}, bwS σ a b x K n = none → ∀ i, i < n → wSz i ≤ K + 1 → stdI σ a b i = false
  | 0, _, i, hi, _ => by omega
  | n + 1, h, i, hi, hs => by
    have e : bwS σ a b x K (n + 1) = bwStep σ a b x K n (bwS σ a b x K n) := rfl
    rw [e] at h
    unfold bwStep at h
    split at h
    · cases h
    · rename_i hc
      by_cases e2 : i = n
      · subst e2
        rw [h] at hc
        cases hd : stdI σ a b i with
        | false => rfl
        | true =>
          rw [hd, decide_eq_true hs] at hc
          exact absurd rfl hc
      · exact bw_none h i (by omega) hs
theorem bw_rev {σ : Nat → Int32} {a b : Nat} {x : Int64} {K : Nat} (ha : a < 5) (hb : b < 5) (hab : a ≠ b) (h : bwS σ a b x K 16 = none) : bwS σ b a x K 16 = none := by
  cases h2 : bwS σ b a x K 16 with
  | none => rfl
  | some s =>
    obtain ⟨c, l⟩ := s
    obtain ⟨i, h3, h4, h5, h6⟩ := bw_some h2
    obtain ⟨j, j1, j2, j3, j4⟩ := std_rev hb ha (Ne.symm hab) h3 h5
    rw [bw_none h j j1 (by omega)] at j4
    cases j4
theorem wC_in : ∀ a b i, a < 5 → b < 5 → a ≠ b → i < 16 → 1 ≤ wC a b i ∧ wC a b i < 100000 ∧ wC a b i % 10 = b := by
  have h : ((List.range 5).all fun a => (List.range 5).all fun b => (List.range 16).all fun i => decide (a ≠ b → 1 ≤ wC a b i ∧ wC a b i < 100000 ∧ wC a b i % 10 = b)) = true := by decide +kernel
  intro a b i ha hb hab hi
  exact of_decide_eq_true (all_lt (all_lt (all_lt h a ha) b hb) i hi) hab
theorem fC_v {σ : Nat → Int32} {a b : Nat} {x : Int64} {K : Nat} (ha : a < 5) (hb : b < 5) (hab : a ≠ b) (h : bwS σ a b x K 16 ≠ none) : ∃ w, fC (bwS σ a b x K 16) = nI w ∧ 100000 < w ∧ w < 200000 ∧ w % 10 = b := by
  cases h2 : bwS σ a b x K 16 with
  | none => exact absurd h2 h
  | some s =>
    obtain ⟨c, l⟩ := s
    obtain ⟨i, h3, h4, h5, h6⟩ := bw_some h2
    obtain ⟨w1, w2, w3⟩ := wC_in a b i ha hb hab h3
    subst h4
    exact ⟨wC a b i + 100000, rfl, by omega, by omega, by omega⟩
theorem bw_has {σ : Nat → Int32} {a b : Nat} {x : Int64} {K : Nat} (hK : 1 ≤ K) (h : hasS σ a b = true) : bwS σ a b x K 16 ≠ none := by
  intro e
  have h1 := bw_none e 0 (by decide) (show wSz 0 ≤ K + 1 by show 2 ≤ K + 1; omega)
  have h2 : stdI σ a b 0 = (true && hasS σ a b) := rfl
  rw [h2, h] at h1
  cases h1
theorem md_rev {σ : Nat → Int32} {a b : Nat} (ha : a < 5) (hb : b < 5) (hab : a ≠ b) (h : fnd (stdI σ a b) 1 15 = none) : fnd (stdI σ b a) 1 15 = none := by
  cases h2 : fnd (stdI σ b a) 1 15 with
  | none => rfl
  | some i =>
    obtain ⟨h3, h4, h5⟩ := fnd_some h2
    obtain ⟨j, j1, j2, j3, j4⟩ := std_rev hb ha (Ne.symm hab) (by omega) h3
    rw [fnd_none h j (j3 h4) (by omega)] at j4
    cases j4
theorem cod_pos {σ : Nat → Int32} {a b : Nat} : (¬ codI (fnd (wouS σ a b) 0 37) ≤ 0) ↔ (fnd (wouS σ a b) 0 37).isSome = true := by
  cases h : fnd (wouS σ a b) 0 37 with
  | none => exact ⟨fun e => absurd (show codI none ≤ 0 by decide) e, fun e => nomatch e⟩
  | some r =>
    obtain ⟨h1, h2, h3⟩ := fnd_some h
    have h4 : ∀ r, r < 37 → 1 ≤ rC r := by
      have h : ((List.range 37).all fun r => decide (1 ≤ rC r)) = true := by decide +kernel
      intro r hr
      exact of_decide_eq_true (all_lt h r hr)
    refine ⟨fun _ => rfl, fun _ => ?_⟩
    show ¬ nI (rC r) ≤ 0
    exact nI_nle (h4 r (by omega)) (by have := rC_lt r (by omega); omega)
