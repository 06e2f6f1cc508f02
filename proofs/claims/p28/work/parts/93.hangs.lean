/-! what hangs together: rings, bolts, counts -/
set_option maxRecDepth 20000 in
theorem hr1a {g : GE} {M0 M : Mem} {sz kc ks : Nat} {Q : Ou → Mem → Prop} {σ τ : Nat → Int32} {hk : Bool} {n : Nat} {ps : Nat → Nat → Int32} {len : Nat} {tx : Nat → Int32} (w : CW g M σ τ hk n ps len tx) (hF : FR M0 M 0 96) (hI : I10 σ) {q r R : Nat} (hq31 : q < 2 ^ 31) (hr : r < 37) (ht : thr σ r = true) (ho : fnd (atS σ q) 0 37 = some r) (hRr : R ≤ r) {mb : Nat} (hm : σ 60 = nI mb) (hm8 : mb ≤ 8) {y1 y3 x7 x6 x4 : Int32} (hq37 : q < 37) (hk0 : ¬ y3 ≤ nI q) (hA : σ 25 < gnA σ r) (hof : offS σ r = true) (kk : ∀ M1 sz1, CW g M1 σ τ hk n ps len tx → FR M0 M1 0 96 → V g m_L_hangs 530 [(11, .int (gnA σ r)), (10, .int (toldS σ r (nI 1))), (9, .int (toldS σ r (nI 0))), (8, .int (nI q)), (7, .int x7), (6, .int x6), (5, .int (fdl (thr σ) (lstF σ) 0 R)), (4, .int x4), (3, .int y3), (2, .int 1), (1, .int y1), (0, rf g 0)] [] M1 sz1 kc ks Q) : V g m_L_hangs 413 [(8, .int (nI q)), (7, .int x7), (6, .int x6), (5, .int (fdl (thr σ) (lstF σ) 0 R)), (4, .int x4), (3, .int y3), (2, .int 1), (1, .int y1), (0, rf g 0)] [] M sz kc ks Q := by
  have hs := rSz_in r
  have hlast : ¬ 100000 * toldS σ r (nI 0) + toldS σ r (nI 1) ≤ fdl (thr σ) (lstF σ) 0 R := by
    apply Int32.not_le.mpr
    have e := lst_cd σ r 0
    unfold lstF at e
    rw [e]
    exact lst_lt hRr hr
  refine V_iload 0 dL_hangs_413 rfl ?_
  refine V_iload_n 5 dL_hangs_415 rfl ?_
  refine V_icmp_ge (tgt := 582) dL_hangs_416 (by decide) (fun c416 => absurd c416 hk0) (fun c416 => ?_)
  refine V_iload 0 dL_hangs_419 rfl ?_
  refine V_bipush (v := 37) dL_hangs_421 (by decide) ?_
  refine V_icmp_ge (tgt := 582) dL_hangs_423 (by decide) (fun c423 => absurd c423 (nI_ge (b := 37) hq37 (by decide))) (fun c423 => ?_)
  refine V_iload_n 6 dL_hangs_426 rfl ?_
  refine V_pc (pc2 := 427) rfl ?_
  refine V_if_eq (tgt := 582) dL_hangs_427 (by decide) (fun c427 => absurd c427 (by decide)) (fun c427 => ?_)
  refine V_aload_n 8 dL_hangs_430 rfl ?_
  refine V_iload 0 dL_hangs_431 rfl ?_
  refine V_iconst (v := 0) dL_hangs_433 rfl ?_
  refine Cq_L_138 (mc1 := 0) (ms1 := 0) rfl ⟨Nat.le_of_ble_eq_true rfl, Nat.le_of_ble_eq_true rfl⟩ (h_ring_ok w.1 (x_ring_s w hI q r 0 rfl rfl (by decide) hq31 ho hr ht)) rfl (Nat.le_of_ble_eq_true rfl) dL_hangs_434 rfl (fun _ hq => ?_)
  have w := hq.1
  have hF := FR.trans (b := 0) (n := 96) hF hq.2 (by omega)
  clear hq
  refine V_istore (lv2 := [(9, .int _), (8, .int _), (7, .int _), (6, .int _), (5, .int _), (4, .int _), (3, .int _), (2, .int _), (1, .int _), (0, .ref _)]) dL_hangs_437 (Nat.le_of_ble_eq_true rfl) rfl ?_
  refine V_aload_n 9 dL_hangs_439 rfl ?_
  refine V_iload 1 dL_hangs_440 rfl ?_
  refine V_pc (pc2 := 442) rfl ?_
  refine V_iconst (v := 1) dL_hangs_442 rfl ?_
  refine Cq_L_138 (mc1 := 0) (ms1 := 0) rfl ⟨Nat.le_of_ble_eq_true rfl, Nat.le_of_ble_eq_true rfl⟩ (h_ring_ok w.1 (x_ring_s w hI q r 1 rfl rfl (by decide) hq31 ho hr ht)) rfl (Nat.le_of_ble_eq_true rfl) dL_hangs_443 rfl (fun _ hq => ?_)
  have w := hq.1
  have hF := FR.trans (b := 0) (n := 96) hF hq.2 (by omega)
  clear hq
  refine V_istore (lv2 := [(10, .int _), (9, .int _), (8, .int _), (7, .int _), (6, .int _), (5, .int _), (4, .int _), (3, .int _), (2, .int _), (1, .int _), (0, .ref _)]) dL_hangs_446 (Nat.le_of_ble_eq_true rfl) rfl ?_
  refine V_aload_n 10 dL_hangs_448 rfl ?_
  refine V_iload 2 dL_hangs_449 rfl ?_
  refine V_iconst (v := 2) dL_hangs_451 rfl ?_
  refine Cq_L_138 (mc1 := 0) (ms1 := 0) rfl ⟨Nat.le_of_ble_eq_true rfl, Nat.le_of_ble_eq_true rfl⟩ (h_ring_ok w.1 (x_ring_s w hI q r 2 rfl rfl (by decide) hq31 ho hr ht)) rfl (Nat.le_of_ble_eq_true rfl) dL_hangs_452 rfl (fun _ hq => ?_)
  have w := hq.1
  have hF := FR.trans (b := 0) (n := 96) hF hq.2 (by omega)
  clear hq
  refine V_ldc z_L_140 dL_hangs_455 ?_
  refine V_pc (pc2 := 457) rfl ?_
  refine V_isub dL_hangs_457 ?_
  refine V_istore (lv2 := [(11, .int _), (10, .int _), (9, .int _), (8, .int _), (7, .int _), (6, .int _), (5, .int _), (4, .int _), (3, .int _), (2, .int _), (1, .int _), (0, .ref _)]) dL_hangs_458 (Nat.le_of_ble_eq_true rfl) rfl ?_
  refine V_iload 2 dL_hangs_460 rfl ?_
  refine V_iconst (v := 3) dL_hangs_462 rfl ?_
  refine V_icmp_lt (tgt := 528) dL_hangs_463 (by decide) (fun c463 => absurd c463 (by rw [told_0]; exact nI_nlt (b := 3) (by omega) (by omega))) (fun c463 => ?_)
  refine V_iload 2 dL_hangs_466 rfl ?_
  refine V_bipush (v := 6) dL_hangs_468 (by decide) ?_
  refine V_icmp_ge (tgt := 528) dL_hangs_470 (by decide) (fun c470 => absurd c470 (by rw [told_0]; exact nI_ge (b := 6) (by omega) (by decide))) (fun c470 => ?_)
  refine V_pc (pc2 := 473) rfl ?_
  refine V_ldc z_L_126 dL_hangs_473 ?_
  refine V_iload 2 dL_hangs_475 rfl ?_
  refine V_imul dL_hangs_477 ?_
  refine V_iload 1 dL_hangs_478 rfl ?_
  refine V_iadd dL_hangs_480 ?_
  refine V_iload 6 dL_hangs_481 rfl ?_
  refine V_icmp_le (tgt := 528) dL_hangs_483 (by decide) (fun c483 => absurd c483 hlast) (fun c483 => ?_)
  refine V_aload_n 11 dL_hangs_486 rfl ?_
  refine V_pc (pc2 := 487) rfl ?_
  refine V_iload 3 dL_hangs_487 rfl ?_
  refine V_iconst (v := 3) dL_hangs_489 rfl ?_
  refine Cq_L_138 (mc1 := 0) (ms1 := 0) rfl ⟨Nat.le_of_ble_eq_true rfl, Nat.le_of_ble_eq_true rfl⟩ (h_ring_ok w.1 (x_ring_s w hI q r 3 rfl rfl (by decide) hq31 ho hr ht)) rfl (Nat.le_of_ble_eq_true rfl) dL_hangs_490 rfl (fun _ hq => ?_)
  have w := hq.1
  have hF := FR.trans (b := 0) (n := 96) hF hq.2 (by omega)
  clear hq
  refine V_iload 0 dL_hangs_493 rfl ?_
  refine V_aload_n 11 dL_hangs_495 rfl ?_
  refine V_bipush (v := 9) dL_hangs_496 (by decide) ?_
  refine Cq_L_130 (mc1 := 0) (ms1 := 0) rfl ⟨Nat.le_of_ble_eq_true rfl, Nat.le_of_ble_eq_true rfl⟩ (h_count_ok w.1 (x_count_ok w hI mb hm hm8 9 (by decide) rfl)) rfl (Nat.le_of_ble_eq_true rfl) dL_hangs_498 rfl (fun _ hq => ?_)
  have w := hq.1
  have hF := FR.trans (b := 0) (n := 96) hF hq.2 (by omega)
  clear hq
  refine V_icmp_gt (tgt := 516) dL_hangs_501 (by decide) (fun c501 => ?_) (fun c501 => absurd hA c501)
  refine V_pc (pc2 := 516) rfl ?_
  refine V_iconst (v := 1) dL_hangs_516 rfl ?_
  refine V_goto (tgt := 521) dL_hangs_517 (by decide) ?_
  refine V_icmp_ne (tgt := 528) dL_hangs_521 (by decide) (fun c521 => absurd (by rw [told_3, hof]; rfl) c521) (fun c521 => ?_)
  refine V_iconst (v := 1) dL_hangs_524 rfl ?_
  refine V_goto (tgt := 529) dL_hangs_525 (by decide) ?_
  refine V_istore_n (lv2 := [(2, .int _), (11, .int _), (10, .int _), (9, .int _), (8, .int _), (7, .int _), (6, .int _), (5, .int _), (4, .int _), (3, .int _), (1, .int _), (0, .ref _)]) dL_hangs_529 (Nat.le_of_ble_eq_true rfl) rfl ?_
  refine V_lv (lv2 := [(11, .int _), (10, .int _), (9, .int _), (8, .int _), (7, .int _), (6, .int _), (5, .int _), (4, .int _), (3, .int _), (2, .int _), (1, .int _), (0, .ref _)]) [1, 2, 3, 4, 5, 6, 7, 8, 9, 0, 10, 11] rfl ?_
  exact kk _ _ w hF

set_option maxRecDepth 20000 in
theorem hr1b {g : GE} {M0 M : Mem} {sz kc ks : Nat} {Q : Ou → Mem → Prop} {σ τ : Nat → Int32} {hk : Bool} {n : Nat} {ps : Nat → Nat → Int32} {len : Nat} {tx : Nat → Int32} (w : CW g M σ τ hk n ps len tx) (hF : FR M0 M 0 96) (hI : I10 σ) {q r R : Nat} (hq31 : q < 2 ^ 31) (hr : r < 37) (ht : thr σ r = true) (ho : fnd (atS σ q) 0 37 = some r) (hRr : R ≤ r) {mb : Nat} (hm : σ 60 = nI mb) (hm8 : mb ≤ 8) {y1 y3 x7 x6 x4 : Int32} (hq37 : q < 37) (hk0 : ¬ y3 ≤ nI q) (hA : ¬ σ 25 < gnA σ r) (hB : ¬ -gnA σ r ≤ σ 25) (hof : offS σ r = true) (kk : ∀ M1 sz1, CW g M1 σ τ hk n ps len tx → FR M0 M1 0 96 → V g m_L_hangs 530 [(11, .int (gnA σ r)), (10, .int (toldS σ r (nI 1))), (9, .int (toldS σ r (nI 0))), (8, .int (nI q)), (7, .int x7), (6, .int x6), (5, .int (fdl (thr σ) (lstF σ) 0 R)), (4, .int x4), (3, .int y3), (2, .int 1), (1, .int y1), (0, rf g 0)] [] M1 sz1 kc ks Q) : V g m_L_hangs 413 [(8, .int (nI q)), (7, .int x7), (6, .int x6), (5, .int (fdl (thr σ) (lstF σ) 0 R)), (4, .int x4), (3, .int y3), (2, .int 1), (1, .int y1), (0, rf g 0)] [] M sz kc ks Q := by
  have hs := rSz_in r
  have hlast : ¬ 100000 * toldS σ r (nI 0) + toldS σ r (nI 1) ≤ fdl (thr σ) (lstF σ) 0 R := by
    apply Int32.not_le.mpr
    have e := lst_cd σ r 0
    unfold lstF at e
    rw [e]
    exact lst_lt hRr hr
  refine V_iload 0 dL_hangs_413 rfl ?_
  refine V_iload_n 5 dL_hangs_415 rfl ?_
  refine V_icmp_ge (tgt := 582) dL_hangs_416 (by decide) (fun c416 => absurd c416 hk0) (fun c416 => ?_)
  refine V_iload 0 dL_hangs_419 rfl ?_
  refine V_bipush (v := 37) dL_hangs_421 (by decide) ?_
  refine V_icmp_ge (tgt := 582) dL_hangs_423 (by decide) (fun c423 => absurd c423 (nI_ge (b := 37) hq37 (by decide))) (fun c423 => ?_)
  refine V_iload_n 6 dL_hangs_426 rfl ?_
  refine V_pc (pc2 := 427) rfl ?_
  refine V_if_eq (tgt := 582) dL_hangs_427 (by decide) (fun c427 => absurd c427 (by decide)) (fun c427 => ?_)
  refine V_aload_n 8 dL_hangs_430 rfl ?_
  refine V_iload 0 dL_hangs_431 rfl ?_
  refine V_iconst (v := 0) dL_hangs_433 rfl ?_
  refine Cq_L_138 (mc1 := 0) (ms1 := 0) rfl ⟨Nat.le_of_ble_eq_true rfl, Nat.le_of_ble_eq_true rfl⟩ (h_ring_ok w.1 (x_ring_s w hI q r 0 rfl rfl (by decide) hq31 ho hr ht)) rfl (Nat.le_of_ble_eq_true rfl) dL_hangs_434 rfl (fun _ hq => ?_)
  have w := hq.1
  have hF := FR.trans (b := 0) (n := 96) hF hq.2 (by omega)
  clear hq
  refine V_istore (lv2 := [(9, .int _), (8, .int _), (7, .int _), (6, .int _), (5, .int _), (4, .int _), (3, .int _), (2, .int _), (1, .int _), (0, .ref _)]) dL_hangs_437 (Nat.le_of_ble_eq_true rfl) rfl ?_
  refine V_aload_n 9 dL_hangs_439 rfl ?_
  refine V_iload 1 dL_hangs_440 rfl ?_
  refine V_pc (pc2 := 442) rfl ?_
  refine V_iconst (v := 1) dL_hangs_442 rfl ?_
  refine Cq_L_138 (mc1 := 0) (ms1 := 0) rfl ⟨Nat.le_of_ble_eq_true rfl, Nat.le_of_ble_eq_true rfl⟩ (h_ring_ok w.1 (x_ring_s w hI q r 1 rfl rfl (by decide) hq31 ho hr ht)) rfl (Nat.le_of_ble_eq_true rfl) dL_hangs_443 rfl (fun _ hq => ?_)
  have w := hq.1
  have hF := FR.trans (b := 0) (n := 96) hF hq.2 (by omega)
  clear hq
  refine V_istore (lv2 := [(10, .int _), (9, .int _), (8, .int _), (7, .int _), (6, .int _), (5, .int _), (4, .int _), (3, .int _), (2, .int _), (1, .int _), (0, .ref _)]) dL_hangs_446 (Nat.le_of_ble_eq_true rfl) rfl ?_
  refine V_aload_n 10 dL_hangs_448 rfl ?_
  refine V_iload 2 dL_hangs_449 rfl ?_
  refine V_iconst (v := 2) dL_hangs_451 rfl ?_
  refine Cq_L_138 (mc1 := 0) (ms1 := 0) rfl ⟨Nat.le_of_ble_eq_true rfl, Nat.le_of_ble_eq_true rfl⟩ (h_ring_ok w.1 (x_ring_s w hI q r 2 rfl rfl (by decide) hq31 ho hr ht)) rfl (Nat.le_of_ble_eq_true rfl) dL_hangs_452 rfl (fun _ hq => ?_)
  have w := hq.1
  have hF := FR.trans (b := 0) (n := 96) hF hq.2 (by omega)
  clear hq
  refine V_ldc z_L_140 dL_hangs_455 ?_
  refine V_pc (pc2 := 457) rfl ?_
  refine V_isub dL_hangs_457 ?_
  refine V_istore (lv2 := [(11, .int _), (10, .int _), (9, .int _), (8, .int _), (7, .int _), (6, .int _), (5, .int _), (4, .int _), (3, .int _), (2, .int _), (1, .int _), (0, .ref _)]) dL_hangs_458 (Nat.le_of_ble_eq_true rfl) rfl ?_
  refine V_iload 2 dL_hangs_460 rfl ?_
  refine V_iconst (v := 3) dL_hangs_462 rfl ?_
  refine V_icmp_lt (tgt := 528) dL_hangs_463 (by decide) (fun c463 => absurd c463 (by rw [told_0]; exact nI_nlt (b := 3) (by omega) (by omega))) (fun c463 => ?_)
  refine V_iload 2 dL_hangs_466 rfl ?_
  refine V_bipush (v := 6) dL_hangs_468 (by decide) ?_
  refine V_icmp_ge (tgt := 528) dL_hangs_470 (by decide) (fun c470 => absurd c470 (by rw [told_0]; exact nI_ge (b := 6) (by omega) (by decide))) (fun c470 => ?_)
  refine V_pc (pc2 := 473) rfl ?_
  refine V_ldc z_L_126 dL_hangs_473 ?_
  refine V_iload 2 dL_hangs_475 rfl ?_
  refine V_imul dL_hangs_477 ?_
  refine V_iload 1 dL_hangs_478 rfl ?_
  refine V_iadd dL_hangs_480 ?_
  refine V_iload 6 dL_hangs_481 rfl ?_
  refine V_icmp_le (tgt := 528) dL_hangs_483 (by decide) (fun c483 => absurd c483 hlast) (fun c483 => ?_)
  refine V_aload_n 11 dL_hangs_486 rfl ?_
  refine V_pc (pc2 := 487) rfl ?_
  refine V_iload 3 dL_hangs_487 rfl ?_
  refine V_iconst (v := 3) dL_hangs_489 rfl ?_
  refine Cq_L_138 (mc1 := 0) (ms1 := 0) rfl ⟨Nat.le_of_ble_eq_true rfl, Nat.le_of_ble_eq_true rfl⟩ (h_ring_ok w.1 (x_ring_s w hI q r 3 rfl rfl (by decide) hq31 ho hr ht)) rfl (Nat.le_of_ble_eq_true rfl) dL_hangs_490 rfl (fun _ hq => ?_)
  have w := hq.1
  have hF := FR.trans (b := 0) (n := 96) hF hq.2 (by omega)
  clear hq
  refine V_iload 0 dL_hangs_493 rfl ?_
  refine V_aload_n 11 dL_hangs_495 rfl ?_
  refine V_bipush (v := 9) dL_hangs_496 (by decide) ?_
  refine Cq_L_130 (mc1 := 0) (ms1 := 0) rfl ⟨Nat.le_of_ble_eq_true rfl, Nat.le_of_ble_eq_true rfl⟩ (h_count_ok w.1 (x_count_ok w hI mb hm hm8 9 (by decide) rfl)) rfl (Nat.le_of_ble_eq_true rfl) dL_hangs_498 rfl (fun _ hq => ?_)
  have w := hq.1
  have hF := FR.trans (b := 0) (n := 96) hF hq.2 (by omega)
  clear hq
  refine V_icmp_gt (tgt := 516) dL_hangs_501 (by decide) (fun c501 => absurd c501 hA) (fun c501 => ?_)
  refine V_pc (pc2 := 504) rfl ?_
  refine V_iload 0 dL_hangs_504 rfl ?_
  refine V_ineg dL_hangs_506 ?_
  refine V_aload_n 11 dL_hangs_507 rfl ?_
  refine V_bipush (v := 9) dL_hangs_508 (by decide) ?_
  refine Cq_L_130 (mc1 := 0) (ms1 := 0) rfl ⟨Nat.le_of_ble_eq_true rfl, Nat.le_of_ble_eq_true rfl⟩ (h_count_ok w.1 (x_count_ok w hI mb hm hm8 9 (by decide) rfl)) rfl (Nat.le_of_ble_eq_true rfl) dL_hangs_510 rfl (fun _ hq => ?_)
  have w := hq.1
  have hF := FR.trans (b := 0) (n := 96) hF hq.2 (by omega)
  clear hq
  refine V_icmp_le (tgt := 520) dL_hangs_513 (by decide) (fun c513 => absurd c513 hB) (fun c513 => ?_)
  refine V_iconst (v := 1) dL_hangs_516 rfl ?_
  refine V_goto (tgt := 521) dL_hangs_517 (by decide) ?_
  refine V_pc (pc2 := 521) rfl ?_
  refine V_icmp_ne (tgt := 528) dL_hangs_521 (by decide) (fun c521 => absurd (by rw [told_3, hof]; rfl) c521) (fun c521 => ?_)
  refine V_iconst (v := 1) dL_hangs_524 rfl ?_
  refine V_goto (tgt := 529) dL_hangs_525 (by decide) ?_
  refine V_istore_n (lv2 := [(2, .int _), (11, .int _), (10, .int _), (9, .int _), (8, .int _), (7, .int _), (6, .int _), (5, .int _), (4, .int _), (3, .int _), (1, .int _), (0, .ref _)]) dL_hangs_529 (Nat.le_of_ble_eq_true rfl) rfl ?_
  refine V_lv (lv2 := [(11, .int _), (10, .int _), (9, .int _), (8, .int _), (7, .int _), (6, .int _), (5, .int _), (4, .int _), (3, .int _), (2, .int _), (1, .int _), (0, .ref _)]) [1, 2, 3, 4, 5, 6, 7, 8, 9, 0, 10, 11] rfl ?_
  exact kk _ _ w hF

set_option maxRecDepth 20000 in
theorem hr1c {g : GE} {M0 M : Mem} {sz kc ks : Nat} {Q : Ou → Mem → Prop} {σ τ : Nat → Int32} {hk : Bool} {n : Nat} {ps : Nat → Nat → Int32} {len : Nat} {tx : Nat → Int32} (w : CW g M σ τ hk n ps len tx) (hF : FR M0 M 0 96) (hI : I10 σ) {q r R : Nat} (hq31 : q < 2 ^ 31) (hr : r < 37) (ht : thr σ r = true) (ho : fnd (atS σ q) 0 37 = some r) (hRr : R ≤ r) {mb : Nat} (hm : σ 60 = nI mb) (hm8 : mb ≤ 8) {y1 y3 x7 x6 x4 : Int32} (hq37 : q < 37) (hk0 : ¬ y3 ≤ nI q) (hA : ¬ σ 25 < gnA σ r) (hB : -gnA σ r ≤ σ 25) (hof : offS σ r = false) (kk : ∀ M1 sz1, CW g M1 σ τ hk n ps len tx → FR M0 M1 0 96 → V g m_L_hangs 530 [(11, .int (gnA σ r)), (10, .int (toldS σ r (nI 1))), (9, .int (toldS σ r (nI 0))), (8, .int (nI q)), (7, .int x7), (6, .int x6), (5, .int (fdl (thr σ) (lstF σ) 0 R)), (4, .int x4), (3, .int y3), (2, .int 1), (1, .int y1), (0, rf g 0)] [] M1 sz1 kc ks Q) : V g m_L_hangs 413 [(8, .int (nI q)), (7, .int x7), (6, .int x6), (5, .int (fdl (thr σ) (lstF σ) 0 R)), (4, .int x4), (3, .int y3), (2, .int 1), (1, .int y1), (0, rf g 0)] [] M sz kc ks Q := by
  have hs := rSz_in r
  have hlast : ¬ 100000 * toldS σ r (nI 0) + toldS σ r (nI 1) ≤ fdl (thr σ) (lstF σ) 0 R := by
    apply Int32.not_le.mpr
    have e := lst_cd σ r 0
    unfold lstF at e
    rw [e]
    exact lst_lt hRr hr
  refine V_iload 0 dL_hangs_413 rfl ?_
  refine V_iload_n 5 dL_hangs_415 rfl ?_
  refine V_icmp_ge (tgt := 582) dL_hangs_416 (by decide) (fun c416 => absurd c416 hk0) (fun c416 => ?_)
  refine V_iload 0 dL_hangs_419 rfl ?_
  refine V_bipush (v := 37) dL_hangs_421 (by decide) ?_
  refine V_icmp_ge (tgt := 582) dL_hangs_423 (by decide) (fun c423 => absurd c423 (nI_ge (b := 37) hq37 (by decide))) (fun c423 => ?_)
  refine V_iload_n 6 dL_hangs_426 rfl ?_
  refine V_pc (pc2 := 427) rfl ?_
  refine V_if_eq (tgt := 582) dL_hangs_427 (by decide) (fun c427 => absurd c427 (by decide)) (fun c427 => ?_)
  refine V_aload_n 8 dL_hangs_430 rfl ?_
  refine V_iload 0 dL_hangs_431 rfl ?_
  refine V_iconst (v := 0) dL_hangs_433 rfl ?_
  refine Cq_L_138 (mc1 := 0) (ms1 := 0) rfl ⟨Nat.le_of_ble_eq_true rfl, Nat.le_of_ble_eq_true rfl⟩ (h_ring_ok w.1 (x_ring_s w hI q r 0 rfl rfl (by decide) hq31 ho hr ht)) rfl (Nat.le_of_ble_eq_true rfl) dL_hangs_434 rfl (fun _ hq => ?_)
  have w := hq.1
  have hF := FR.trans (b := 0) (n := 96) hF hq.2 (by omega)
  clear hq
  refine V_istore (lv2 := [(9, .int _), (8, .int _), (7, .int _), (6, .int _), (5, .int _), (4, .int _), (3, .int _), (2, .int _), (1, .int _), (0, .ref _)]) dL_hangs_437 (Nat.le_of_ble_eq_true rfl) rfl ?_
  refine V_aload_n 9 dL_hangs_439 rfl ?_
  refine V_iload 1 dL_hangs_440 rfl ?_
  refine V_pc (pc2 := 442) rfl ?_
  refine V_iconst (v := 1) dL_hangs_442 rfl ?_
  refine Cq_L_138 (mc1 := 0) (ms1 := 0) rfl ⟨Nat.le_of_ble_eq_true rfl, Nat.le_of_ble_eq_true rfl⟩ (h_ring_ok w.1 (x_ring_s w hI q r 1 rfl rfl (by decide) hq31 ho hr ht)) rfl (Nat.le_of_ble_eq_true rfl) dL_hangs_443 rfl (fun _ hq => ?_)
  have w := hq.1
  have hF := FR.trans (b := 0) (n := 96) hF hq.2 (by omega)
  clear hq
  refine V_istore (lv2 := [(10, .int _), (9, .int _), (8, .int _), (7, .int _), (6, .int _), (5, .int _), (4, .int _), (3, .int _), (2, .int _), (1, .int _), (0, .ref _)]) dL_hangs_446 (Nat.le_of_ble_eq_true rfl) rfl ?_
  refine V_aload_n 10 dL_hangs_448 rfl ?_
  refine V_iload 2 dL_hangs_449 rfl ?_
  refine V_iconst (v := 2) dL_hangs_451 rfl ?_
  refine Cq_L_138 (mc1 := 0) (ms1 := 0) rfl ⟨Nat.le_of_ble_eq_true rfl, Nat.le_of_ble_eq_true rfl⟩ (h_ring_ok w.1 (x_ring_s w hI q r 2 rfl rfl (by decide) hq31 ho hr ht)) rfl (Nat.le_of_ble_eq_true rfl) dL_hangs_452 rfl (fun _ hq => ?_)
  have w := hq.1
  have hF := FR.trans (b := 0) (n := 96) hF hq.2 (by omega)
  clear hq
  refine V_ldc z_L_140 dL_hangs_455 ?_
  refine V_pc (pc2 := 457) rfl ?_
  refine V_isub dL_hangs_457 ?_
  refine V_istore (lv2 := [(11, .int _), (10, .int _), (9, .int _), (8, .int _), (7, .int _), (6, .int _), (5, .int _), (4, .int _), (3, .int _), (2, .int _), (1, .int _), (0, .ref _)]) dL_hangs_458 (Nat.le_of_ble_eq_true rfl) rfl ?_
  refine V_iload 2 dL_hangs_460 rfl ?_
  refine V_iconst (v := 3) dL_hangs_462 rfl ?_
  refine V_icmp_lt (tgt := 528) dL_hangs_463 (by decide) (fun c463 => absurd c463 (by rw [told_0]; exact nI_nlt (b := 3) (by omega) (by omega))) (fun c463 => ?_)
  refine V_iload 2 dL_hangs_466 rfl ?_
  refine V_bipush (v := 6) dL_hangs_468 (by decide) ?_
  refine V_icmp_ge (tgt := 528) dL_hangs_470 (by decide) (fun c470 => absurd c470 (by rw [told_0]; exact nI_ge (b := 6) (by omega) (by decide))) (fun c470 => ?_)
  refine V_pc (pc2 := 473) rfl ?_
  refine V_ldc z_L_126 dL_hangs_473 ?_
  refine V_iload 2 dL_hangs_475 rfl ?_
  refine V_imul dL_hangs_477 ?_
  refine V_iload 1 dL_hangs_478 rfl ?_
  refine V_iadd dL_hangs_480 ?_
  refine V_iload 6 dL_hangs_481 rfl ?_
  refine V_icmp_le (tgt := 528) dL_hangs_483 (by decide) (fun c483 => absurd c483 hlast) (fun c483 => ?_)
  refine V_aload_n 11 dL_hangs_486 rfl ?_
  refine V_pc (pc2 := 487) rfl ?_
  refine V_iload 3 dL_hangs_487 rfl ?_
  refine V_iconst (v := 3) dL_hangs_489 rfl ?_
  refine Cq_L_138 (mc1 := 0) (ms1 := 0) rfl ⟨Nat.le_of_ble_eq_true rfl, Nat.le_of_ble_eq_true rfl⟩ (h_ring_ok w.1 (x_ring_s w hI q r 3 rfl rfl (by decide) hq31 ho hr ht)) rfl (Nat.le_of_ble_eq_true rfl) dL_hangs_490 rfl (fun _ hq => ?_)
  have w := hq.1
  have hF := FR.trans (b := 0) (n := 96) hF hq.2 (by omega)
  clear hq
  refine V_iload 0 dL_hangs_493 rfl ?_
  refine V_aload_n 11 dL_hangs_495 rfl ?_
  refine V_bipush (v := 9) dL_hangs_496 (by decide) ?_
  refine Cq_L_130 (mc1 := 0) (ms1 := 0) rfl ⟨Nat.le_of_ble_eq_true rfl, Nat.le_of_ble_eq_true rfl⟩ (h_count_ok w.1 (x_count_ok w hI mb hm hm8 9 (by decide) rfl)) rfl (Nat.le_of_ble_eq_true rfl) dL_hangs_498 rfl (fun _ hq => ?_)
  have w := hq.1
  have hF := FR.trans (b := 0) (n := 96) hF hq.2 (by omega)
  clear hq
  refine V_icmp_gt (tgt := 516) dL_hangs_501 (by decide) (fun c501 => absurd c501 hA) (fun c501 => ?_)
  refine V_pc (pc2 := 504) rfl ?_
  refine V_iload 0 dL_hangs_504 rfl ?_
  refine V_ineg dL_hangs_506 ?_
  refine V_aload_n 11 dL_hangs_507 rfl ?_
  refine V_bipush (v := 9) dL_hangs_508 (by decide) ?_
  refine Cq_L_130 (mc1 := 0) (ms1 := 0) rfl ⟨Nat.le_of_ble_eq_true rfl, Nat.le_of_ble_eq_true rfl⟩ (h_count_ok w.1 (x_count_ok w hI mb hm hm8 9 (by decide) rfl)) rfl (Nat.le_of_ble_eq_true rfl) dL_hangs_510 rfl (fun _ hq => ?_)
  have w := hq.1
  have hF := FR.trans (b := 0) (n := 96) hF hq.2 (by omega)
  clear hq
  refine V_icmp_le (tgt := 520) dL_hangs_513 (by decide) (fun c513 => ?_) (fun c513 => absurd hB c513)
  refine V_iconst (v := 0) dL_hangs_520 rfl ?_
  refine V_icmp_ne (tgt := 528) dL_hangs_521 (by decide) (fun c521 => absurd (by rw [told_3, hof]; rfl) c521) (fun c521 => ?_)
  refine V_pc (pc2 := 524) rfl ?_
  refine V_iconst (v := 1) dL_hangs_524 rfl ?_
  refine V_goto (tgt := 529) dL_hangs_525 (by decide) ?_
  refine V_istore_n (lv2 := [(2, .int _), (11, .int _), (10, .int _), (9, .int _), (8, .int _), (7, .int _), (6, .int _), (5, .int _), (4, .int _), (3, .int _), (1, .int _), (0, .ref _)]) dL_hangs_529 (Nat.le_of_ble_eq_true rfl) rfl ?_
  refine V_lv (lv2 := [(11, .int _), (10, .int _), (9, .int _), (8, .int _), (7, .int _), (6, .int _), (5, .int _), (4, .int _), (3, .int _), (2, .int _), (1, .int _), (0, .ref _)]) [1, 2, 3, 4, 5, 6, 7, 8, 9, 0, 10, 11] rfl ?_
  exact kk _ _ w hF

set_option maxRecDepth 20000 in
theorem hr2 {g : GE} {M0 M : Mem} {sz kc ks : Nat} {Q : Ou → Mem → Prop} {σ τ : Nat → Int32} {hk : Bool} {n : Nat} {ps : Nat → Nat → Int32} {len : Nat} {tx : Nat → Int32} (w : CW g M σ τ hk n ps len tx) (hF : FR M0 M 0 96) (hI : I10 σ) {q r R : Nat} (hq31 : q < 2 ^ 31) (hr : r < 37) (ht : thr σ r = true) (ho : fnd (atS σ q) 0 37 = some r) (hRr : R ≤ r) {y1 y3 x7 x6 x5 x4 : Int32} (kk : ∀ M1 sz1, CW g M1 σ τ hk n ps len tx → FR M0 M1 0 96 → V g m_L_hangs 552 [(11, .int (gnA σ r)), (10, .int (toldS σ r (nI 1))), (9, .int (toldS σ r (nI 0))), (8, .int (nI q)), (7, .int x7), (6, .int x6), (5, .int (lstF σ r x5)), (4, .int (offF σ r x4)), (3, .int y3), (2, .int 1), (1, .int y1), (0, rf g 0)] [] M1 sz1 kc ks Q) : V g m_L_hangs 530 [(11, .int (gnA σ r)), (10, .int (toldS σ r (nI 1))), (9, .int (toldS σ r (nI 0))), (8, .int (nI q)), (7, .int x7), (6, .int x6), (5, .int x5), (4, .int x4), (3, .int y3), (2, .int 1), (1, .int y1), (0, rf g 0)] [] M sz kc ks Q := by
  refine V_ldc z_L_126 dL_hangs_530 ?_
  refine V_iload 2 dL_hangs_532 rfl ?_
  refine V_imul dL_hangs_534 ?_
  refine V_iload 1 dL_hangs_535 rfl ?_
  refine V_iadd dL_hangs_537 ?_
  refine V_istore (lv2 := [(5, .int _), (11, .int _), (10, .int _), (9, .int _), (8, .int _), (7, .int _), (6, .int _), (4, .int _), (3, .int _), (2, .int _), (1, .int _), (0, .ref _)]) dL_hangs_538 (Nat.le_of_ble_eq_true rfl) rfl ?_
  refine V_iload 7 dL_hangs_540 rfl ?_
  refine V_pc (pc2 := 542) rfl ?_
  refine V_aload_n 11 dL_hangs_542 rfl ?_
  refine V_iload 4 dL_hangs_543 rfl ?_
  refine V_iconst (v := 3) dL_hangs_545 rfl ?_
  refine Cq_L_138 (mc1 := 0) (ms1 := 0) rfl ⟨Nat.le_of_ble_eq_true rfl, Nat.le_of_ble_eq_true rfl⟩ (h_ring_ok w.1 (x_ring_s w hI q r 3 rfl rfl (by decide) hq31 ho hr ht)) rfl (Nat.le_of_ble_eq_true rfl) dL_hangs_546 rfl (fun _ hq => ?_)
  have w := hq.1
  have hF := FR.trans (b := 0) (n := 96) hF hq.2 (by omega)
  clear hq
  refine V_iadd dL_hangs_549 ?_
  refine V_istore (lv2 := [(4, .int _), (5, .int _), (11, .int _), (10, .int _), (9, .int _), (8, .int _), (7, .int _), (6, .int _), (3, .int _), (2, .int _), (1, .int _), (0, .ref _)]) dL_hangs_550 (Nat.le_of_ble_eq_true rfl) rfl ?_
  refine V_lv (lv2 := [(11, .int _), (10, .int _), (9, .int _), (8, .int _), (7, .int _), (6, .int _), (5, .int _), (4, .int _), (3, .int _), (2, .int _), (1, .int _), (0, .ref _)]) [2, 3, 4, 5, 6, 7, 1, 0, 8, 9, 10, 11] rfl ?_
  exact kk _ _ w hF

set_option maxRecDepth 20000 in
theorem hr3a {g : GE} {M : Mem} {sz kc ks : Nat} {Q : Ou → Mem → Prop} {σ : Nat → Int32} {q r : Nat} {y1 y3 x7 x6 x5 x4 : Int32} (h0 : x7 = 0) (kk : V g m_L_hangs 413 [(8, .int (nI (q + 1))), (7, .int (evnF σ r x7)), (6, .int (sizF σ r x6)), (5, .int x5), (4, .int x4), (3, .int y3), (2, .int 1), (1, .int y1), (0, rf g 0)] [] M sz kc ks Q) : V g m_L_hangs 552 [(11, .int (gnA σ r)), (10, .int (toldS σ r (nI 1))), (9, .int (toldS σ r (nI 0))), (8, .int (nI q)), (7, .int x7), (6, .int x6), (5, .int x5), (4, .int x4), (3, .int y3), (2, .int 1), (1, .int y1), (0, rf g 0)] [] M sz kc ks Q := by
  rw [show evnF σ r x7 = _ from (if_pos h0 : evnF σ r x7 = 0)] at kk
  refine V_iload 4 dL_hangs_552 rfl ?_
  refine V_if_eq (tgt := 566) dL_hangs_554 (by decide) (fun c554 => ?_) (fun c554 => absurd h0 c554)
  refine V_iconst (v := 0) dL_hangs_566 rfl ?_
  refine V_istore (lv2 := [(7, .int _), (11, .int _), (10, .int _), (9, .int _), (8, .int _), (6, .int _), (5, .int _), (4, .int _), (3, .int _), (2, .int _), (1, .int _), (0, .ref _)]) dL_hangs_567 (Nat.le_of_ble_eq_true rfl) rfl ?_
  refine V_iload 5 dL_hangs_569 rfl ?_
  refine V_iload 3 dL_hangs_571 rfl ?_
  refine V_iadd dL_hangs_573 ?_
  refine V_pc (pc2 := 574) rfl ?_
  refine V_istore (lv2 := [(6, .int _), (7, .int _), (11, .int _), (10, .int _), (9, .int _), (8, .int _), (5, .int _), (4, .int _), (3, .int _), (2, .int _), (1, .int _), (0, .ref _)]) dL_hangs_574 (Nat.le_of_ble_eq_true rfl) rfl ?_
  refine V_iinc (v := _ + 1) (lv2 := [(8, .int _), (6, .int _), (7, .int _), (11, .int _), (10, .int _), (9, .int _), (5, .int _), (4, .int _), (3, .int _), (2, .int _), (1, .int _), (0, .ref _)]) 5 dL_hangs_576 rfl rfl (Nat.le_of_ble_eq_true rfl) rfl ?_
  refine V_goto (tgt := 413) dL_hangs_579 (by decide) ?_
  refine V_lv (lv2 := [(8, .int _), (7, .int _), (6, .int _), (5, .int _), (4, .int _), (3, .int _), (2, .int _), (1, .int _), (0, .ref _)]) [0, 2, 1, 6, 7, 8, 9, 10, 11] rfl ?_
  rw [nI_1]
  exact kk

set_option maxRecDepth 20000 in
theorem hr3b {g : GE} {M : Mem} {sz kc ks : Nat} {Q : Ou → Mem → Prop} {σ : Nat → Int32} {q r : Nat} {y1 y3 x7 x6 x5 x4 : Int32} (h0 : ¬ x7 = 0) (hg : gnA σ r = 0) (kk : V g m_L_hangs 413 [(8, .int (nI (q + 1))), (7, .int (evnF σ r x7)), (6, .int (sizF σ r x6)), (5, .int x5), (4, .int x4), (3, .int y3), (2, .int 1), (1, .int y1), (0, rf g 0)] [] M sz kc ks Q) : V g m_L_hangs 552 [(11, .int (gnA σ r)), (10, .int (toldS σ r (nI 1))), (9, .int (toldS σ r (nI 0))), (8, .int (nI q)), (7, .int x7), (6, .int x6), (5, .int x5), (4, .int x4), (3, .int y3), (2, .int 1), (1, .int y1), (0, rf g 0)] [] M sz kc ks Q := by
  rw [show evnF σ r x7 = _ from ((if_neg h0).trans (if_pos hg) : evnF σ r x7 = 1)] at kk
  refine V_iload 4 dL_hangs_552 rfl ?_
  refine V_if_eq (tgt := 566) dL_hangs_554 (by decide) (fun c554 => absurd c554 h0) (fun c554 => ?_)
  refine V_iload 0 dL_hangs_557 rfl ?_
  refine V_if_ne (tgt := 566) dL_hangs_559 (by decide) (fun c559 => absurd hg c559) (fun c559 => ?_)
  refine V_iconst (v := 1) dL_hangs_562 rfl ?_
  refine V_goto (tgt := 567) dL_hangs_563 (by decide) ?_
  refine V_istore (lv2 := [(7, .int _), (11, .int _), (10, .int _), (9, .int _), (8, .int _), (6, .int _), (5, .int _), (4, .int _), (3, .int _), (2, .int _), (1, .int _), (0, .ref _)]) dL_hangs_567 (Nat.le_of_ble_eq_true rfl) rfl ?_
  refine V_pc (pc2 := 569) rfl ?_
  refine V_iload 5 dL_hangs_569 rfl ?_
  refine V_iload 3 dL_hangs_571 rfl ?_
  refine V_iadd dL_hangs_573 ?_
  refine V_istore (lv2 := [(6, .int _), (7, .int _), (11, .int _), (10, .int _), (9, .int _), (8, .int _), (5, .int _), (4, .int _), (3, .int _), (2, .int _), (1, .int _), (0, .ref _)]) dL_hangs_574 (Nat.le_of_ble_eq_true rfl) rfl ?_
  refine V_iinc (v := _ + 1) (lv2 := [(8, .int _), (6, .int _), (7, .int _), (11, .int _), (10, .int _), (9, .int _), (5, .int _), (4, .int _), (3, .int _), (2, .int _), (1, .int _), (0, .ref _)]) 5 dL_hangs_576 rfl rfl (Nat.le_of_ble_eq_true rfl) rfl ?_
  refine V_goto (tgt := 413) dL_hangs_579 (by decide) ?_
  refine V_lv (lv2 := [(8, .int _), (7, .int _), (6, .int _), (5, .int _), (4, .int _), (3, .int _), (2, .int _), (1, .int _), (0, .ref _)]) [0, 2, 1, 6, 7, 8, 9, 10, 11] rfl ?_
  rw [nI_1]
  exact kk

set_option maxRecDepth 20000 in
theorem hr3c {g : GE} {M : Mem} {sz kc ks : Nat} {Q : Ou → Mem → Prop} {σ : Nat → Int32} {q r : Nat} {y1 y3 x7 x6 x5 x4 : Int32} (h0 : ¬ x7 = 0) (hg : ¬ gnA σ r = 0) (kk : V g m_L_hangs 413 [(8, .int (nI (q + 1))), (7, .int (evnF σ r x7)), (6, .int (sizF σ r x6)), (5, .int x5), (4, .int x4), (3, .int y3), (2, .int 1), (1, .int y1), (0, rf g 0)] [] M sz kc ks Q) : V g m_L_hangs 552 [(11, .int (gnA σ r)), (10, .int (toldS σ r (nI 1))), (9, .int (toldS σ r (nI 0))), (8, .int (nI q)), (7, .int x7), (6, .int x6), (5, .int x5), (4, .int x4), (3, .int y3), (2, .int 1), (1, .int y1), (0, rf g 0)] [] M sz kc ks Q := by
  rw [show evnF σ r x7 = _ from ((if_neg h0).trans (if_neg hg) : evnF σ r x7 = 0)] at kk
  refine V_iload 4 dL_hangs_552 rfl ?_
  refine V_if_eq (tgt := 566) dL_hangs_554 (by decide) (fun c554 => absurd c554 h0) (fun c554 => ?_)
  refine V_iload 0 dL_hangs_557 rfl ?_
  refine V_if_ne (tgt := 566) dL_hangs_559 (by decide) (fun c559 => ?_) (fun c559 => absurd c559 hg)
  refine V_iconst (v := 0) dL_hangs_566 rfl ?_
  refine V_istore (lv2 := [(7, .int _), (11, .int _), (10, .int _), (9, .int _), (8, .int _), (6, .int _), (5, .int _), (4, .int _), (3, .int _), (2, .int _), (1, .int _), (0, .ref _)]) dL_hangs_567 (Nat.le_of_ble_eq_true rfl) rfl ?_
  refine V_iload 5 dL_hangs_569 rfl ?_
  refine V_pc (pc2 := 571) rfl ?_
  refine V_iload 3 dL_hangs_571 rfl ?_
  refine V_iadd dL_hangs_573 ?_
  refine V_istore (lv2 := [(6, .int _), (7, .int _), (11, .int _), (10, .int _), (9, .int _), (8, .int _), (5, .int _), (4, .int _), (3, .int _), (2, .int _), (1, .int _), (0, .ref _)]) dL_hangs_574 (Nat.le_of_ble_eq_true rfl) rfl ?_
  refine V_iinc (v := _ + 1) (lv2 := [(8, .int _), (6, .int _), (7, .int _), (11, .int _), (10, .int _), (9, .int _), (5, .int _), (4, .int _), (3, .int _), (2, .int _), (1, .int _), (0, .ref _)]) 5 dL_hangs_576 rfl rfl (Nat.le_of_ble_eq_true rfl) rfl ?_
  refine V_goto (tgt := 413) dL_hangs_579 (by decide) ?_
  refine V_lv (lv2 := [(8, .int _), (7, .int _), (6, .int _), (5, .int _), (4, .int _), (3, .int _), (2, .int _), (1, .int _), (0, .ref _)]) [0, 2, 1, 6, 7, 8, 9, 10, 11] rfl ?_
  rw [nI_1]
  exact kk

theorem hg_rings {g : GE} {M0 : Mem} {kc ks : Nat} {Q : Ou → Mem → Prop} {σ τ : Nat → Int32} {hk : Bool} {n : Nat} {ps : Nat → Nat → Int32} {len : Nat} {tx : Nat → Int32} (hI : I10 σ) {mb : Nat} (hm : σ 60 = nI mb) (hm8 : mb ≤ 8) {K5 : Nat} (hK5 : σ 25 = nI K5) (hK5b : K5 ≤ 500) {y1 : Int32} (kk : ∀ M sz, CW g M σ τ hk n ps len tx → FR M0 M 0 96 → V g m_L_hangs 582 [(7, .int (fdl (thr σ) (evnF σ) 1 37)), (6, .int (fdl (thr σ) (sizF σ) 0 37)), (4, .int (fdl (thr σ) (offF σ) 0 37)), (3, .int (nI (cnt (thr σ) 37))), (2, .int 1), (1, .int y1), (0, rf g 0)] [] M sz kc ks Q) : ∀ m k, k + m = cnt (thr σ) 37 → ∀ R, R ≤ 37 → cnt (thr σ) R = k → ∀ M sz, CW g M σ τ hk n ps len tx → FR M0 M 0 96 → V g m_L_hangs 413 [(8, .int (nI k)), (7, .int (fdl (thr σ) (evnF σ) 1 R)), (6, .int (fdl (thr σ) (sizF σ) 0 R)), (5, .int (fdl (thr σ) (lstF σ) 0 R)), (4, .int (fdl (thr σ) (offF σ) 0 R)), (3, .int (nI (cnt (thr σ) 37))), (2, .int 1), (1, .int y1), (0, rf g 0)] [] M sz kc ks Q := by
  have h37 := cnt_le (thr σ) 37
  intro m
  induction m with
  | zero =>
    intro k hkm R hR hRk M sz w hF
    have hc : cnt (thr σ) R = cnt (thr σ) 37 := by omega
    rw [fdl_flat (f := evnF σ) (a := 1) hR hc, fdl_flat (f := sizF σ) (a := 0) hR hc, fdl_flat (f := offF σ) (a := 0) hR hc]
    refine V_iload 0 dL_hangs_413 rfl ?_
    refine V_iload_n 5 dL_hangs_415 rfl ?_
    refine V_icmp_ge (tgt := 582) dL_hangs_416 (by decide) (fun c416 => ?_) (fun c416 => absurd (nI_le (by omega) (by omega)) c416)
    refine V_lv (lv2 := [(7, .int _), (6, .int _), (4, .int _), (3, .int _), (2, .int _), (1, .int _), (0, .ref _)]) [1, 2, 4, 5, 6, 7, 8] rfl ?_
    exact kk _ _ w hF
  | succ m ih =>
    intro k hkm R hR hRk M sz w hF
    obtain ⟨r, hr, ht, hrk⟩ := cnt_ex (p := thr σ) (n := 37) (i := k) (by omega)
    have ho : fnd (atS σ k) 0 37 = some r := by rw [← hrk]; exact fnd_at hr ht
    have hRr : R ≤ r := fdl_step (by omega) ht
    have hk31 : k < 2 ^ 31 := by omega
    have hk0 : ¬ nI (cnt (thr σ) 37) ≤ nI k := nI_ge (by omega) (by omega)
    have k3 : ∀ M sz, CW g M σ τ hk n ps len tx → FR M0 M 0 96 → V g m_L_hangs 552 [(11, .int (gnA σ r)), (10, .int (toldS σ r (nI 1))), (9, .int (toldS σ r (nI 0))), (8, .int (nI k)), (7, .int (fdl (thr σ) (evnF σ) 1 R)), (6, .int (fdl (thr σ) (sizF σ) 0 R)), (5, .int (lstF σ r (fdl (thr σ) (lstF σ) 0 R))), (4, .int (offF σ r (fdl (thr σ) (offF σ) 0 R))), (3, .int (nI (cnt (thr σ) 37))), (2, .int 1), (1, .int y1), (0, rf g 0)] [] M sz kc ks Q := by
      intro M sz w hF
      have fin : V g m_L_hangs 413 [(8, .int (nI (k + 1))), (7, .int (evnF σ r (fdl (thr σ) (evnF σ) 1 R))), (6, .int (sizF σ r (fdl (thr σ) (sizF σ) 0 R))), (5, .int (lstF σ r (fdl (thr σ) (lstF σ) 0 R))), (4, .int (offF σ r (fdl (thr σ) (offF σ) 0 R))), (3, .int (nI (cnt (thr σ) 37))), (2, .int 1), (1, .int y1), (0, rf g 0)] [] M sz kc ks Q := by
        have hc : cnt (thr σ) R = cnt (thr σ) r := by omega
        rw [← fdl_next (f := evnF σ) (a := 1) hc ht, ← fdl_next (f := sizF σ) (a := 0) hc ht, ← fdl_next (f := lstF σ) (a := 0) hc ht, ← fdl_next (f := offF σ) (a := 0) hc ht]
        exact ih (k + 1) (by omega) (r + 1) (by omega) (by rw [cnt_t ht, hrk]) M sz w hF
      by_cases h0 : (fdl (thr σ) (evnF σ) 1 R) = 0
      · exact hr3a h0 fin
      · by_cases hg : gnA σ r = 0
        · exact hr3b h0 hg fin
        · exact hr3c h0 hg fin
    have k2 : ∀ M sz, CW g M σ τ hk n ps len tx → FR M0 M 0 96 → V g m_L_hangs 530 [(11, .int (gnA σ r)), (10, .int (toldS σ r (nI 1))), (9, .int (toldS σ r (nI 0))), (8, .int (nI k)), (7, .int (fdl (thr σ) (evnF σ) 1 R)), (6, .int (fdl (thr σ) (sizF σ) 0 R)), (5, .int (fdl (thr σ) (lstF σ) 0 R)), (4, .int (fdl (thr σ) (offF σ) 0 R)), (3, .int (nI (cnt (thr σ) 37))), (2, .int 1), (1, .int y1), (0, rf g 0)] [] M sz kc ks Q :=
      fun M sz w hF => hr2 (R := R) w hF hI hk31 hr ht ho hRr k3
    have oi := off_iff hI hr ht hK5 hK5b
    by_cases hA : σ 25 < gnA σ r
    · exact hr1a w hF hI hk31 hr ht ho hRr hm hm8 (by omega) hk0 hA (oi.mpr (Or.inl hA)) k2
    · by_cases hB : -gnA σ r ≤ σ 25
      · exact hr1c w hF hI hk31 hr ht ho hRr hm hm8 (by omega) hk0 hA hB (by
          cases hof : offS σ r with
          | false => rfl
          | true => rcases oi.mp hof with h | h; exact absurd h hA; exact absurd hB (Int32.not_le.mpr h)) k2
      · exact hr1b w hF hI hk31 hr ht ho hRr hm hm8 (by omega) hk0 hA hB (oi.mpr (Or.inr (Int32.not_le.mp hB))) k2
set_option maxRecDepth 20000 in
theorem hg_twice {g : GE} {M0 : Mem} {kc ks : Nat} {Q : Ou → Mem → Prop} {σ τ : Nat → Int32} {hk : Bool} {n : Nat} {ps : Nat → Nat → Int32} {len : Nat} {tx : Nat → Int32} (hI : I10 σ) {y1 y3 x7 x6 x4 : Int32} (kk : ∀ M sz, CW g M σ τ hk n ps len tx → FR M0 M 0 96 → V g m_L_hangs 634 [(8, .int (twS σ 25)), (7, .int x7), (6, .int x6), (4, .int x4), (3, .int y3), (2, .int 1), (1, .int y1), (0, rf g 0)] [] M sz kc ks Q) : ∀ m c, c + m = 25 → ∀ M sz, CW g M σ τ hk n ps len tx → FR M0 M 0 96 → V g m_L_hangs 588 [(9, .int (nI c)), (8, .int (twS σ c)), (7, .int x7), (6, .int x6), (4, .int x4), (3, .int y3), (2, .int 1), (1, .int y1), (0, rf g 0)] [] M sz kc ks Q := by
  intro m
  induction m with
  | zero =>
    intro c hc M sz w hF
    have e : c = 25 := by omega
    subst e
    refine V_iload 0 dL_hangs_588 rfl ?_
    refine V_bipush (v := 25) dL_hangs_590 (by decide) ?_
    refine V_icmp_ge (tgt := 634) dL_hangs_592 (by decide) (fun c592 => ?_) (fun c592 => absurd (by decide) c592)
    refine V_lv (lv2 := [(8, .int _), (7, .int _), (6, .int _), (4, .int _), (3, .int _), (2, .int _), (1, .int _), (0, .ref _)]) [1, 2, 3, 4, 5, 6, 7, 8] rfl ?_
    exact kk _ _ w hF
  | succ m ih =>
    intro c hc M sz w hF
    have e1 : nI c / 5 = nI (c / 5) := pk_div (by omega) (by decide) (by decide)
    have e2 : nI c - nI c / 5 * 5 = nI (c % 5) := pk_rem (by omega) (by decide) (by decide)
    have ha : c / 5 < 5 := by omega
    have hb : c % 5 < 5 := Nat.mod_lt _ (by decide)
    by_cases hab : c / 5 = c % 5
    · have et : twS σ (c + 1) = twS σ c + 0 := by show _ + (if c / 5 = c % 5 then _ else _) = _; rw [if_pos hab]
      refine V_iload 0 dL_hangs_588 rfl ?_
      refine V_bipush (v := 25) dL_hangs_590 (by decide) ?_
      refine V_icmp_ge (tgt := 634) dL_hangs_592 (by decide) (fun c592 => absurd c592 (nI_ge (b := 25) (by omega) (by decide))) (fun c592 => ?_)
      refine V_iload 1 dL_hangs_595 rfl ?_
      refine V_iload 0 dL_hangs_597 rfl ?_
      refine V_iconst (v := 5) dL_hangs_599 rfl ?_
      refine V_idiv dL_hangs_600 (by decide) ?_
      refine V_pc (pc2 := 601) rfl ?_
      refine V_iload 0 dL_hangs_601 rfl ?_
      refine V_iconst (v := 5) dL_hangs_603 rfl ?_
      refine V_irem dL_hangs_604 (by decide) ?_
      refine V_icmp_ne (tgt := 612) dL_hangs_605 (by decide) (fun c605 => absurd (by rw [e2, e1, hab]) c605) (fun c605 => ?_)
      refine V_iconst (v := 0) dL_hangs_608 rfl ?_
      refine V_goto (tgt := 625) dL_hangs_609 (by decide) ?_
      refine V_iadd dL_hangs_625 ?_
      refine V_istore (lv2 := [(8, .int _), (9, .int _), (7, .int _), (6, .int _), (4, .int _), (3, .int _), (2, .int _), (1, .int _), (0, .ref _)]) dL_hangs_626 (Nat.le_of_ble_eq_true rfl) rfl ?_
      refine V_pc (pc2 := 628) rfl ?_
      refine V_iinc (v := _ + 1) (lv2 := [(9, .int _), (8, .int _), (7, .int _), (6, .int _), (4, .int _), (3, .int _), (2, .int _), (1, .int _), (0, .ref _)]) 1 dL_hangs_628 rfl rfl (Nat.le_of_ble_eq_true rfl) rfl ?_
      refine V_goto (tgt := 588) dL_hangs_631 (by decide) ?_
      refine V_lv (lv2 := [(9, .int _), (8, .int _), (7, .int _), (6, .int _), (4, .int _), (3, .int _), (2, .int _), (1, .int _), (0, .ref _)]) [0, 1, 2, 3, 4, 5, 6, 7, 8] rfl ?_
      rw [nI_1, ← et]
      exact ih (c + 1) (by omega) _ _ w hF
    · have et : twS σ (c + 1) = twS σ c + ofTabS σ (c / 5) (c % 5) 2 := by show _ + (if c / 5 = c % 5 then _ else _) = _; rw [if_neg hab]; rfl
      refine V_iload 0 dL_hangs_588 rfl ?_
      refine V_bipush (v := 25) dL_hangs_590 (by decide) ?_
      refine V_icmp_ge (tgt := 634) dL_hangs_592 (by decide) (fun c592 => absurd c592 (nI_ge (b := 25) (by omega) (by decide))) (fun c592 => ?_)
      refine V_iload 1 dL_hangs_595 rfl ?_
      refine V_iload 0 dL_hangs_597 rfl ?_
      refine V_iconst (v := 5) dL_hangs_599 rfl ?_
      refine V_idiv dL_hangs_600 (by decide) ?_
      refine V_pc (pc2 := 601) rfl ?_
      refine V_iload 0 dL_hangs_601 rfl ?_
      refine V_iconst (v := 5) dL_hangs_603 rfl ?_
      refine V_irem dL_hangs_604 (by decide) ?_
      refine V_icmp_ne (tgt := 612) dL_hangs_605 (by decide) (fun c605 => ?_) (fun c605 => absurd c605 (by rw [e2, e1]; exact fun e => hab ((nI_eq (by omega) (by omega)).mp e)))
      refine V_aload_n 8 dL_hangs_612 rfl ?_
      refine V_iload 0 dL_hangs_613 rfl ?_
      refine V_iconst (v := 5) dL_hangs_615 rfl ?_
      refine V_idiv dL_hangs_616 (by decide) ?_
      refine V_pc (pc2 := 617) rfl ?_
      refine V_iload 0 dL_hangs_617 rfl ?_
      refine V_iconst (v := 5) dL_hangs_619 rfl ?_
      refine V_irem dL_hangs_620 (by decide) ?_
      refine V_iconst (v := 2) dL_hangs_621 rfl ?_
      rw [e2, e1]
      refine Cq_L_119 (mc1 := 0) (ms1 := 0) rfl ⟨Nat.le_of_ble_eq_true rfl, Nat.le_of_ble_eq_true rfl⟩ (h_tableOf_ok w.1 (x_tableOf_ok w hI (c / 5) (c % 5) ha hb rfl rfl hab (by decide) (by decide))) rfl (Nat.le_of_ble_eq_true rfl) dL_hangs_622 rfl (fun _ hq => ?_)
      have w := hq.1
      have hF := FR.trans (b := 0) (n := 96) hF hq.2 (by omega)
      clear hq
      refine V_iadd dL_hangs_625 ?_
      refine V_istore (lv2 := [(8, .int _), (9, .int _), (7, .int _), (6, .int _), (4, .int _), (3, .int _), (2, .int _), (1, .int _), (0, .ref _)]) dL_hangs_626 (Nat.le_of_ble_eq_true rfl) rfl ?_
      refine V_iinc (v := _ + 1) (lv2 := [(9, .int _), (8, .int _), (7, .int _), (6, .int _), (4, .int _), (3, .int _), (2, .int _), (1, .int _), (0, .ref _)]) 1 dL_hangs_628 rfl rfl (Nat.le_of_ble_eq_true rfl) rfl ?_
      refine V_pc (pc2 := 631) rfl ?_
      refine V_goto (tgt := 588) dL_hangs_631 (by decide) ?_
      refine V_lv (lv2 := [(9, .int _), (8, .int _), (7, .int _), (6, .int _), (4, .int _), (3, .int _), (2, .int _), (1, .int _), (0, .ref _)]) [0, 1, 2, 3, 4, 5, 6, 7, 8] rfl ?_
      rw [nI_1, ← et]
      exact ih (c + 1) (by omega) _ _ w hF

set_option maxRecDepth 20000 in
theorem hg_bolts {g : GE} {M0 : Mem} {kc ks : Nat} {Q : Ou → Mem → Prop} {σ τ : Nat → Int32} {hk : Bool} {n : Nat} {ps : Nat → Nat → Int32} {len : Nat} {tx : Nat → Int32} (hI : I10 σ) {mb : Nat} (hm : σ 60 = nI mb) (hm8 : mb ≤ 8) (hB : ∀ i, i < mb → (∃ q : Nat, q < 5 ∧ σ (28 + 4 * i) = nI q) ∧ ∃ l : Nat, l ≤ 99999 ∧ σ (28 + 4 * i + 1) = nI l) {Tb : Nat} (hTb : Tb < 2 ^ 30) (hJ : ∀ i, i < mb → ∃ s : Nat, s ≤ Tb ∧ σ (28 + 4 * i + 3) = nI s ∧ (s = 0 → σ (28 + 4 * i + 2) = 0)) {y1 y3 x8 x7 x6 x4 : Int32} (kk : ∀ M sz, CW g M σ τ hk n ps len tx → FR M0 M 0 96 → V g m_L_hangs 760 [(9, .int (lenS σ mb)), (8, .int x8), (7, .int x7), (6, .int x6), (4, .int x4), (3, .int y3), (2, .int 1), (1, .int y1), (0, rf g 0)] [] M sz kc ks Q) : ∀ m k, k + m = mb → ∀ M sz, CW g M σ τ hk n ps len tx → FR M0 M 0 96 → V g m_L_hangs 640 [(10, .int (nI k)), (9, .int (lenS σ k)), (8, .int x8), (7, .int x7), (6, .int x6), (4, .int x4), (3, .int y3), (2, .int 1), (1, .int y1), (0, rf g 0)] [] M sz kc ks Q := by
  intro m
  induction m with
  | zero =>
    intro k hkm M sz w hF
    have e : k = mb := by omega
    subst e
    refine V_iload 0 dL_hangs_640 rfl ?_
    refine V_aload_n 9 dL_hangs_642 rfl ?_
    refine V_iconst (v := 5) dL_hangs_643 rfl ?_
    refine Cq_L_130 (mc1 := 0) (ms1 := 0) rfl ⟨Nat.le_of_ble_eq_true rfl, Nat.le_of_ble_eq_true rfl⟩ (h_count_ok w.1 (x_count_ok w hI k hm hm8 5 (by decide) rfl)) rfl (Nat.le_of_ble_eq_true rfl) dL_hangs_644 rfl (fun _ hq => ?_)
    have w := hq.1
    have hF := FR.trans (b := 0) (n := 96) hF hq.2 (by omega)
    clear hq
    refine V_icmp_ge (tgt := 760) dL_hangs_647 (by decide) (fun c647 => ?_) (fun c647 => absurd (by rw [show countS σ n 5 = nI k from hm]; exact Int32.le_refl _) c647)
    refine V_lv (lv2 := [(9, .int _), (8, .int _), (7, .int _), (6, .int _), (4, .int _), (3, .int _), (2, .int _), (1, .int _), (0, .ref _)]) [1, 2, 3, 4, 5, 6, 7, 8, 9] rfl ?_
    exact kk _ _ w hF
  | succ m ih =>
    intro k hkm M sz w hF
    have hbo : isB σ (nI k) = true := by
      unfold isB
      rw [hm, decide_eq_true (nI_pos' (by omega)), decide_eq_true (nI_lt (by omega) (by omega))]
      rfl
    obtain ⟨⟨q0, q5, eq0⟩, l1, hl1, el1⟩ := hB k (by omega)
    obtain ⟨s, hs, es, es0⟩ := hJ k (by omega)
    have b0 : boltedS σ k 0 = nI q0 := eq0
    have b1 : boltedS σ k 1 = nI l1 := el1
    have b3 : boltedS σ k 3 = nI s := es
    have el : lenS σ (k + 1) = lenS σ k + boltedS σ k 1 := rfl
    by_cases h0 : s = 0
    · have b2 : boltedS σ k 2 = 1000000 := by show σ (28 + 4 * k + 2) + 1000000 = 1000000; rw [es0 h0]; rfl
      refine V_iload 0 dL_hangs_640 rfl ?_
      refine V_aload_n 9 dL_hangs_642 rfl ?_
      refine V_iconst (v := 5) dL_hangs_643 rfl ?_
      refine Cq_L_130 (mc1 := 0) (ms1 := 0) rfl ⟨Nat.le_of_ble_eq_true rfl, Nat.le_of_ble_eq_true rfl⟩ (h_count_ok w.1 (x_count_ok w hI mb hm hm8 5 (by decide) rfl)) rfl (Nat.le_of_ble_eq_true rfl) dL_hangs_644 rfl (fun _ hq => ?_)
      have w := hq.1
      have hF := FR.trans (b := 0) (n := 96) hF hq.2 (by omega)
      clear hq
      refine V_icmp_ge (tgt := 760) dL_hangs_647 (by decide) (fun c647 => absurd c647 (by rw [show countS σ n 5 = nI mb from hm]; exact nI_ge (by omega) (by omega))) (fun c647 => ?_)
      refine V_iload 0 dL_hangs_650 rfl ?_
      refine V_bipush (v := 8) dL_hangs_652 (by decide) ?_
      refine V_pc (pc2 := 654) rfl ?_
      refine V_icmp_ge (tgt := 760) dL_hangs_654 (by decide) (fun c654 => absurd c654 (nI_ge (b := 8) (by omega) (by decide))) (fun c654 => ?_)
      refine V_iload_n 7 dL_hangs_657 rfl ?_
      refine V_if_eq (tgt := 760) dL_hangs_658 (by decide) (fun c658 => absurd c658 (by decide)) (fun c658 => ?_)
      refine V_iload 1 dL_hangs_661 rfl ?_
      refine V_aload_n 9 dL_hangs_663 rfl ?_
      refine V_iload 0 dL_hangs_664 rfl ?_
      refine V_iconst (v := 1) dL_hangs_666 rfl ?_
      refine Cq_L_141 (mc1 := 0) (ms1 := 0) rfl ⟨Nat.le_of_ble_eq_true rfl, Nat.le_of_ble_eq_true rfl⟩ (h_boltOf_ok w.1 (x_boltOf_s w k 1 rfl rfl (by decide) (by omega) hbo)) rfl (Nat.le_of_ble_eq_true rfl) dL_hangs_667 rfl (fun _ hq => ?_)
      have w := hq.1
      have hF := FR.trans (b := 0) (n := 96) hF hq.2 (by omega)
      clear hq
      refine V_pc (pc2 := 670) rfl ?_
      refine V_iadd dL_hangs_670 ?_
      refine V_istore (lv2 := [(9, .int _), (10, .int _), (8, .int _), (7, .int _), (6, .int _), (4, .int _), (3, .int _), (2, .int _), (1, .int _), (0, .ref _)]) dL_hangs_671 (Nat.le_of_ble_eq_true rfl) rfl ?_
      refine V_aload_n 9 dL_hangs_673 rfl ?_
      refine V_iload 1 dL_hangs_674 rfl ?_
      refine V_iconst (v := 0) dL_hangs_676 rfl ?_
      refine Cq_L_141 (mc1 := 0) (ms1 := 0) rfl ⟨Nat.le_of_ble_eq_true rfl, Nat.le_of_ble_eq_true rfl⟩ (h_boltOf_ok w.1 (x_boltOf_s w k 0 rfl rfl (by decide) (by omega) hbo)) rfl (Nat.le_of_ble_eq_true rfl) dL_hangs_677 rfl (fun _ hq => ?_)
      have w := hq.1
      have hF := FR.trans (b := 0) (n := 96) hF hq.2 (by omega)
      clear hq
      refine V_if_lt (tgt := 752) dL_hangs_680 (by decide) (fun c680 => absurd c680 (by rw [b0]; exact nI_pos (by omega))) (fun c680 => ?_)
      refine V_aload_n 9 dL_hangs_683 rfl ?_
      refine V_pc (pc2 := 684) rfl ?_
      refine V_iload 1 dL_hangs_684 rfl ?_
      refine V_iconst (v := 0) dL_hangs_686 rfl ?_
      refine Cq_L_141 (mc1 := 0) (ms1 := 0) rfl ⟨Nat.le_of_ble_eq_true rfl, Nat.le_of_ble_eq_true rfl⟩ (h_boltOf_ok w.1 (x_boltOf_s w k 0 rfl rfl (by decide) (by omega) hbo)) rfl (Nat.le_of_ble_eq_true rfl) dL_hangs_687 rfl (fun _ hq => ?_)
      have w := hq.1
      have hF := FR.trans (b := 0) (n := 96) hF hq.2 (by omega)
      clear hq
      refine V_iconst (v := 5) dL_hangs_690 rfl ?_
      refine V_icmp_ge (tgt := 752) dL_hangs_691 (by decide) (fun c691 => absurd c691 (by rw [b0]; exact nI_ge (b := 5) (by omega) (by decide))) (fun c691 => ?_)
      refine V_aload_n 9 dL_hangs_694 rfl ?_
      refine V_iload 1 dL_hangs_695 rfl ?_
      refine V_iconst (v := 1) dL_hangs_697 rfl ?_
      refine V_pc (pc2 := 698) rfl ?_
      refine Cq_L_141 (mc1 := 0) (ms1 := 0) rfl ⟨Nat.le_of_ble_eq_true rfl, Nat.le_of_ble_eq_true rfl⟩ (h_boltOf_ok w.1 (x_boltOf_s w k 1 rfl rfl (by decide) (by omega) hbo)) rfl (Nat.le_of_ble_eq_true rfl) dL_hangs_698 rfl (fun _ hq => ?_)
      have w := hq.1
      have hF := FR.trans (b := 0) (n := 96) hF hq.2 (by omega)
      clear hq
      refine V_if_lt (tgt := 752) dL_hangs_701 (by decide) (fun c701 => absurd c701 (by rw [b1]; exact nI_pos (by omega))) (fun c701 => ?_)
      refine V_aload_n 9 dL_hangs_704 rfl ?_
      refine V_iload 1 dL_hangs_705 rfl ?_
      refine V_iconst (v := 1) dL_hangs_707 rfl ?_
      refine Cq_L_141 (mc1 := 0) (ms1 := 0) rfl ⟨Nat.le_of_ble_eq_true rfl, Nat.le_of_ble_eq_true rfl⟩ (h_boltOf_ok w.1 (x_boltOf_s w k 1 rfl rfl (by decide) (by omega) hbo)) rfl (Nat.le_of_ble_eq_true rfl) dL_hangs_708 rfl (fun _ hq => ?_)
      have w := hq.1
      have hF := FR.trans (b := 0) (n := 96) hF hq.2 (by omega)
      clear hq
      refine V_ldc z_L_126 dL_hangs_711 ?_
      refine V_icmp_ge (tgt := 752) dL_hangs_713 (by decide) (fun c713 => absurd c713 (by rw [b1]; exact nI_ge (b := 100000) (by omega) (by decide))) (fun c713 => ?_)
      refine V_pc (pc2 := 716) rfl ?_
      refine V_aload_n 9 dL_hangs_716 rfl ?_
      refine V_iload 1 dL_hangs_717 rfl ?_
      refine V_iconst (v := 3) dL_hangs_719 rfl ?_
      refine Cq_L_141 (mc1 := 0) (ms1 := 0) rfl ⟨Nat.le_of_ble_eq_true rfl, Nat.le_of_ble_eq_true rfl⟩ (h_boltOf_ok w.1 (x_boltOf_s w k 3 rfl rfl (by decide) (by omega) hbo)) rfl (Nat.le_of_ble_eq_true rfl) dL_hangs_720 rfl (fun _ hq => ?_)
      have w := hq.1
      have hF := FR.trans (b := 0) (n := 96) hF hq.2 (by omega)
      clear hq
      refine V_if_lt (tgt := 752) dL_hangs_723 (by decide) (fun c723 => absurd c723 (by rw [b3]; exact nI_pos (by omega))) (fun c723 => ?_)
      refine V_aload_n 9 dL_hangs_726 rfl ?_
      refine V_iload 1 dL_hangs_727 rfl ?_
      refine V_iconst (v := 3) dL_hangs_729 rfl ?_
      refine V_pc (pc2 := 730) rfl ?_
      refine Cq_L_141 (mc1 := 0) (ms1 := 0) rfl ⟨Nat.le_of_ble_eq_true rfl, Nat.le_of_ble_eq_true rfl⟩ (h_boltOf_ok w.1 (x_boltOf_s w k 3 rfl rfl (by decide) (by omega) hbo)) rfl (Nat.le_of_ble_eq_true rfl) dL_hangs_730 rfl (fun _ hq => ?_)
      have w := hq.1
      have hF := FR.trans (b := 0) (n := 96) hF hq.2 (by omega)
      clear hq
      refine V_if_gt (tgt := 748) dL_hangs_733 (by decide) (fun c733 => absurd c733 (by rw [b3, h0]; decide)) (fun c733 => ?_)
      refine V_aload_n 9 dL_hangs_736 rfl ?_
      refine V_iload 1 dL_hangs_737 rfl ?_
      refine V_iconst (v := 2) dL_hangs_739 rfl ?_
      refine Cq_L_141 (mc1 := 0) (ms1 := 0) rfl ⟨Nat.le_of_ble_eq_true rfl, Nat.le_of_ble_eq_true rfl⟩ (h_boltOf_ok w.1 (x_boltOf_s w k 2 rfl rfl (by decide) (by omega) hbo)) rfl (Nat.le_of_ble_eq_true rfl) dL_hangs_740 rfl (fun _ hq => ?_)
      have w := hq.1
      have hF := FR.trans (b := 0) (n := 96) hF hq.2 (by omega)
      clear hq
      refine V_ldc z_L_140 dL_hangs_743 ?_
      refine V_icmp_ne (tgt := 752) dL_hangs_745 (by decide) (fun c745 => absurd b2 c745) (fun c745 => ?_)
      refine V_pc (pc2 := 748) rfl ?_
      refine V_iconst (v := 1) dL_hangs_748 rfl ?_
      refine V_goto (tgt := 753) dL_hangs_749 (by decide) ?_
      refine V_istore_n (lv2 := [(2, .int _), (9, .int _), (10, .int _), (8, .int _), (7, .int _), (6, .int _), (4, .int _), (3, .int _), (1, .int _), (0, .ref _)]) dL_hangs_753 (Nat.le_of_ble_eq_true rfl) rfl ?_
      refine V_iinc (v := _ + 1) (lv2 := [(10, .int _), (2, .int _), (9, .int _), (8, .int _), (7, .int _), (6, .int _), (4, .int _), (3, .int _), (1, .int _), (0, .ref _)]) 2 dL_hangs_754 rfl rfl (Nat.le_of_ble_eq_true rfl) rfl ?_
      refine V_goto (tgt := 640) dL_hangs_757 (by decide) ?_
      refine V_lv (lv2 := [(10, .int _), (9, .int _), (8, .int _), (7, .int _), (6, .int _), (4, .int _), (3, .int _), (2, .int _), (1, .int _), (0, .ref _)]) [0, 2, 3, 4, 5, 6, 7, 1, 8, 9] rfl ?_
      rw [nI_1, ← el]
      exact ih (k + 1) (by omega) _ _ w hF
    · skip
      refine V_iload 0 dL_hangs_640 rfl ?_
      refine V_aload_n 9 dL_hangs_642 rfl ?_
      refine V_iconst (v := 5) dL_hangs_643 rfl ?_
      refine Cq_L_130 (mc1 := 0) (ms1 := 0) rfl ⟨Nat.le_of_ble_eq_true rfl, Nat.le_of_ble_eq_true rfl⟩ (h_count_ok w.1 (x_count_ok w hI mb hm hm8 5 (by decide) rfl)) rfl (Nat.le_of_ble_eq_true rfl) dL_hangs_644 rfl (fun _ hq => ?_)
      have w := hq.1
      have hF := FR.trans (b := 0) (n := 96) hF hq.2 (by omega)
      clear hq
      refine V_icmp_ge (tgt := 760) dL_hangs_647 (by decide) (fun c647 => absurd c647 (by rw [show countS σ n 5 = nI mb from hm]; exact nI_ge (by omega) (by omega))) (fun c647 => ?_)
      refine V_iload 0 dL_hangs_650 rfl ?_
      refine V_bipush (v := 8) dL_hangs_652 (by decide) ?_
      refine V_pc (pc2 := 654) rfl ?_
      refine V_icmp_ge (tgt := 760) dL_hangs_654 (by decide) (fun c654 => absurd c654 (nI_ge (b := 8) (by omega) (by decide))) (fun c654 => ?_)
      refine V_iload_n 7 dL_hangs_657 rfl ?_
      refine V_if_eq (tgt := 760) dL_hangs_658 (by decide) (fun c658 => absurd c658 (by decide)) (fun c658 => ?_)
      refine V_iload 1 dL_hangs_661 rfl ?_
      refine V_aload_n 9 dL_hangs_663 rfl ?_
      refine V_iload 0 dL_hangs_664 rfl ?_
      refine V_iconst (v := 1) dL_hangs_666 rfl ?_
      refine Cq_L_141 (mc1 := 0) (ms1 := 0) rfl ⟨Nat.le_of_ble_eq_true rfl, Nat.le_of_ble_eq_true rfl⟩ (h_boltOf_ok w.1 (x_boltOf_s w k 1 rfl rfl (by decide) (by omega) hbo)) rfl (Nat.le_of_ble_eq_true rfl) dL_hangs_667 rfl (fun _ hq => ?_)
      have w := hq.1
      have hF := FR.trans (b := 0) (n := 96) hF hq.2 (by omega)
      clear hq
      refine V_pc (pc2 := 670) rfl ?_
      refine V_iadd dL_hangs_670 ?_
      refine V_istore (lv2 := [(9, .int _), (10, .int _), (8, .int _), (7, .int _), (6, .int _), (4, .int _), (3, .int _), (2, .int _), (1, .int _), (0, .ref _)]) dL_hangs_671 (Nat.le_of_ble_eq_true rfl) rfl ?_
      refine V_aload_n 9 dL_hangs_673 rfl ?_
      refine V_iload 1 dL_hangs_674 rfl ?_
      refine V_iconst (v := 0) dL_hangs_676 rfl ?_
      refine Cq_L_141 (mc1 := 0) (ms1 := 0) rfl ⟨Nat.le_of_ble_eq_true rfl, Nat.le_of_ble_eq_true rfl⟩ (h_boltOf_ok w.1 (x_boltOf_s w k 0 rfl rfl (by decide) (by omega) hbo)) rfl (Nat.le_of_ble_eq_true rfl) dL_hangs_677 rfl (fun _ hq => ?_)
      have w := hq.1
      have hF := FR.trans (b := 0) (n := 96) hF hq.2 (by omega)
      clear hq
      refine V_if_lt (tgt := 752) dL_hangs_680 (by decide) (fun c680 => absurd c680 (by rw [b0]; exact nI_pos (by omega))) (fun c680 => ?_)
      refine V_aload_n 9 dL_hangs_683 rfl ?_
      refine V_pc (pc2 := 684) rfl ?_
      refine V_iload 1 dL_hangs_684 rfl ?_
      refine V_iconst (v := 0) dL_hangs_686 rfl ?_
      refine Cq_L_141 (mc1 := 0) (ms1 := 0) rfl ⟨Nat.le_of_ble_eq_true rfl, Nat.le_of_ble_eq_true rfl⟩ (h_boltOf_ok w.1 (x_boltOf_s w k 0 rfl rfl (by decide) (by omega) hbo)) rfl (Nat.le_of_ble_eq_true rfl) dL_hangs_687 rfl (fun _ hq => ?_)
      have w := hq.1
      have hF := FR.trans (b := 0) (n := 96) hF hq.2 (by omega)
      clear hq
      refine V_iconst (v := 5) dL_hangs_690 rfl ?_
      refine V_icmp_ge (tgt := 752) dL_hangs_691 (by decide) (fun c691 => absurd c691 (by rw [b0]; exact nI_ge (b := 5) (by omega) (by decide))) (fun c691 => ?_)
      refine V_aload_n 9 dL_hangs_694 rfl ?_
      refine V_iload 1 dL_hangs_695 rfl ?_
      refine V_iconst (v := 1) dL_hangs_697 rfl ?_
      refine V_pc (pc2 := 698) rfl ?_
      refine Cq_L_141 (mc1 := 0) (ms1 := 0) rfl ⟨Nat.le_of_ble_eq_true rfl, Nat.le_of_ble_eq_true rfl⟩ (h_boltOf_ok w.1 (x_boltOf_s w k 1 rfl rfl (by decide) (by omega) hbo)) rfl (Nat.le_of_ble_eq_true rfl) dL_hangs_698 rfl (fun _ hq => ?_)
      have w := hq.1
      have hF := FR.trans (b := 0) (n := 96) hF hq.2 (by omega)
      clear hq
      refine V_if_lt (tgt := 752) dL_hangs_701 (by decide) (fun c701 => absurd c701 (by rw [b1]; exact nI_pos (by omega))) (fun c701 => ?_)
      refine V_aload_n 9 dL_hangs_704 rfl ?_
      refine V_iload 1 dL_hangs_705 rfl ?_
      refine V_iconst (v := 1) dL_hangs_707 rfl ?_
      refine Cq_L_141 (mc1 := 0) (ms1 := 0) rfl ⟨Nat.le_of_ble_eq_true rfl, Nat.le_of_ble_eq_true rfl⟩ (h_boltOf_ok w.1 (x_boltOf_s w k 1 rfl rfl (by decide) (by omega) hbo)) rfl (Nat.le_of_ble_eq_true rfl) dL_hangs_708 rfl (fun _ hq => ?_)
      have w := hq.1
      have hF := FR.trans (b := 0) (n := 96) hF hq.2 (by omega)
      clear hq
      refine V_ldc z_L_126 dL_hangs_711 ?_
      refine V_icmp_ge (tgt := 752) dL_hangs_713 (by decide) (fun c713 => absurd c713 (by rw [b1]; exact nI_ge (b := 100000) (by omega) (by decide))) (fun c713 => ?_)
      refine V_pc (pc2 := 716) rfl ?_
      refine V_aload_n 9 dL_hangs_716 rfl ?_
      refine V_iload 1 dL_hangs_717 rfl ?_
      refine V_iconst (v := 3) dL_hangs_719 rfl ?_
      refine Cq_L_141 (mc1 := 0) (ms1 := 0) rfl ⟨Nat.le_of_ble_eq_true rfl, Nat.le_of_ble_eq_true rfl⟩ (h_boltOf_ok w.1 (x_boltOf_s w k 3 rfl rfl (by decide) (by omega) hbo)) rfl (Nat.le_of_ble_eq_true rfl) dL_hangs_720 rfl (fun _ hq => ?_)
      have w := hq.1
      have hF := FR.trans (b := 0) (n := 96) hF hq.2 (by omega)
      clear hq
      refine V_if_lt (tgt := 752) dL_hangs_723 (by decide) (fun c723 => absurd c723 (by rw [b3]; exact nI_pos (by omega))) (fun c723 => ?_)
      refine V_aload_n 9 dL_hangs_726 rfl ?_
      refine V_iload 1 dL_hangs_727 rfl ?_
      refine V_iconst (v := 3) dL_hangs_729 rfl ?_
      refine V_pc (pc2 := 730) rfl ?_
      refine Cq_L_141 (mc1 := 0) (ms1 := 0) rfl ⟨Nat.le_of_ble_eq_true rfl, Nat.le_of_ble_eq_true rfl⟩ (h_boltOf_ok w.1 (x_boltOf_s w k 3 rfl rfl (by decide) (by omega) hbo)) rfl (Nat.le_of_ble_eq_true rfl) dL_hangs_730 rfl (fun _ hq => ?_)
      have w := hq.1
      have hF := FR.trans (b := 0) (n := 96) hF hq.2 (by omega)
      clear hq
      refine V_if_gt (tgt := 748) dL_hangs_733 (by decide) (fun c733 => ?_) (fun c733 => absurd (by rw [b3]; exact nI_gt0 (by omega) (by omega)) c733)
      refine V_iconst (v := 1) dL_hangs_748 rfl ?_
      refine V_goto (tgt := 753) dL_hangs_749 (by decide) ?_
      refine V_istore_n (lv2 := [(2, .int _), (9, .int _), (10, .int _), (8, .int _), (7, .int _), (6, .int _), (4, .int _), (3, .int _), (1, .int _), (0, .ref _)]) dL_hangs_753 (Nat.le_of_ble_eq_true rfl) rfl ?_
      refine V_iinc (v := _ + 1) (lv2 := [(10, .int _), (2, .int _), (9, .int _), (8, .int _), (7, .int _), (6, .int _), (4, .int _), (3, .int _), (1, .int _), (0, .ref _)]) 2 dL_hangs_754 rfl rfl (Nat.le_of_ble_eq_true rfl) rfl ?_
      refine V_goto (tgt := 640) dL_hangs_757 (by decide) ?_
      refine V_lv (lv2 := [(10, .int _), (9, .int _), (8, .int _), (7, .int _), (6, .int _), (4, .int _), (3, .int _), (2, .int _), (1, .int _), (0, .ref _)]) [0, 2, 3, 4, 5, 6, 7, 1, 8, 9] rfl ?_
      rw [nI_1, ← el]
      exact ih (k + 1) (by omega) _ _ w hF

theorem no_ring (σ : Nat → Int32) : fnd (atS σ (cnt (thr σ) 37)) 0 37 = none := by
  cases h : fnd (atS σ (cnt (thr σ) 37)) 0 37 with
  | none => rfl
  | some r =>
    obtain ⟨h1, h2, h3⟩ := fnd_some h
    unfold atS at h1
    rw [Bool.and_eq_true, beq_iff_eq] at h1
    have := cnt_le2 (p := thr σ) (show r + 1 ≤ 37 by omega)
    rw [cnt_t h1.1] at this
    omega
set_option maxRecDepth 20000 in
theorem he1s {g : GE} {M0 M : Mem} {sz kc ks : Nat} {Q : Ou → Mem → Prop} {σ τ : Nat → Int32} {hk : Bool} {n : Nat} {ps : Nat → Nat → Int32} {len : Nat} {tx : Nat → Int32} (w : CW g M σ τ hk n ps len tx) (hF : FR M0 M 0 96) (hI : I10 σ) {mb : Nat} (hm : σ 60 = nI mb) (hm8 : mb ≤ 8) (hS : fnd (badS σ) 0 37 = none) (kk : ∀ M1 sz1, CW g M1 σ τ hk n ps len tx → FR M0 M1 0 96 → V g m_L_hangs 881 [(11, .int (stopS σ 1)), (10, .int (stopS σ 0)), (4, .int (fdl (thr σ) (offF σ) 0 37)), (3, .int (nI (cnt (thr σ) 37))), (0, rf g 0)] [] M1 sz1 kc ks Q) : V g m_L_hangs 760 [(9, .int (lenS σ mb)), (8, .int (twS σ 25)), (7, .int (fdl (thr σ) (evnF σ) 1 37)), (6, .int (fdl (thr σ) (sizF σ) 0 37)), (4, .int (fdl (thr σ) (offF σ) 0 37)), (3, .int (nI (cnt (thr σ) 37))), (2, .int 1), (1, .int (tabN σ)), (0, rf g 0)] [] M sz kc ks Q := by
  have h37 := cnt_le (thr σ) 37
  have hno := no_ring σ
  have hle : lenS σ mb = countS σ n 6 := by show _ = lenS σ (σ 60).toNatClampNeg; rw [hm, nI_clamp (by omega)]
  refine V_aload_n 8 dL_hangs_760 rfl ?_
  refine V_iconst (v := 0) dL_hangs_761 rfl ?_
  refine Cq_L_143 (mc1 := 0) (ms1 := 0) rfl ⟨Nat.le_of_ble_eq_true rfl, Nat.le_of_ble_eq_true rfl⟩ (h_stopped_ok w.1 (x_stopped_ok w (by decide) (by decide))) rfl (Nat.le_of_ble_eq_true rfl) dL_hangs_762 rfl (fun _ hq => ?_)
  have w := hq.1
  have hF := FR.trans (b := 0) (n := 96) hF hq.2 (by omega)
  clear hq
  refine V_istore (lv2 := [(10, .int _), (9, .int _), (8, .int _), (7, .int _), (6, .int _), (4, .int _), (3, .int _), (2, .int _), (1, .int _), (0, .ref _)]) dL_hangs_765 (Nat.le_of_ble_eq_true rfl) rfl ?_
  refine V_aload_n 9 dL_hangs_767 rfl ?_
  refine V_iconst (v := 1) dL_hangs_768 rfl ?_
  refine Cq_L_143 (mc1 := 0) (ms1 := 0) rfl ⟨Nat.le_of_ble_eq_true rfl, Nat.le_of_ble_eq_true rfl⟩ (h_stopped_ok w.1 (x_stopped_ok w (by decide) (by decide))) rfl (Nat.le_of_ble_eq_true rfl) dL_hangs_769 rfl (fun _ hq => ?_)
  have w := hq.1
  have hF := FR.trans (b := 0) (n := 96) hF hq.2 (by omega)
  clear hq
  refine V_pc (pc2 := 772) rfl ?_
  refine V_istore (lv2 := [(11, .int _), (10, .int _), (9, .int _), (8, .int _), (7, .int _), (6, .int _), (4, .int _), (3, .int _), (2, .int _), (1, .int _), (0, .ref _)]) dL_hangs_772 (Nat.le_of_ble_eq_true rfl) rfl ?_
  refine V_iload_n 8 dL_hangs_774 rfl ?_
  refine V_if_eq (tgt := 952) dL_hangs_775 (by decide) (fun c775 => absurd c775 (by decide)) (fun c775 => ?_)
  refine V_iload_n 9 dL_hangs_778 rfl ?_
  refine V_aload_n 10 dL_hangs_779 rfl ?_
  refine V_iconst (v := 0) dL_hangs_780 rfl ?_
  refine Cq_L_130 (mc1 := 0) (ms1 := 0) rfl ⟨Nat.le_of_ble_eq_true rfl, Nat.le_of_ble_eq_true rfl⟩ (h_count_ok w.1 (x_count_ok w hI mb hm hm8 0 (by decide) rfl)) rfl (Nat.le_of_ble_eq_true rfl) dL_hangs_781 rfl (fun _ hq => ?_)
  have w := hq.1
  have hF := FR.trans (b := 0) (n := 96) hF hq.2 (by omega)
  clear hq
  refine V_icmp_ne (tgt := 952) dL_hangs_784 (by decide) (fun c784 => absurd rfl c784) (fun c784 => ?_)
  refine V_pc (pc2 := 787) rfl ?_
  refine V_iload_n 7 dL_hangs_787 rfl ?_
  refine V_if_lt (tgt := 952) dL_hangs_788 (by decide) (fun c788 => absurd c788 (nI_pos (by omega))) (fun c788 => ?_)
  refine V_iload_n 7 dL_hangs_791 rfl ?_
  refine V_bipush (v := 37) dL_hangs_792 (by decide) ?_
  refine V_icmp_gt (tgt := 952) dL_hangs_794 (by decide) (fun c794 => absurd c794 (nI_nlt (a := 37) (b := cnt (thr σ) 37) h37 (by decide))) (fun c794 => ?_)
  refine V_aload_n 10 dL_hangs_797 rfl ?_
  refine V_iload_n 7 dL_hangs_798 rfl ?_
  refine V_iconst (v := 0) dL_hangs_799 rfl ?_
  refine V_pc (pc2 := 800) rfl ?_
  refine Cq_L_138 (mc1 := 0) (ms1 := 0) rfl ⟨Nat.le_of_ble_eq_true rfl, Nat.le_of_ble_eq_true rfl⟩ (h_ring_ok w.1 (x_ring_n0 w (cnt (thr σ) 37) rfl (by omega) hno)) rfl (Nat.le_of_ble_eq_true rfl) dL_hangs_800 rfl (fun _ hq => ?_)
  have w := hq.1
  have hF := FR.trans (b := 0) (n := 96) hF hq.2 (by omega)
  clear hq
  refine V_iconst (v := -1) dL_hangs_803 rfl ?_
  refine V_icmp_ne (tgt := 952) dL_hangs_804 (by decide) (fun c804 => absurd rfl c804) (fun c804 => ?_)
  refine V_iload 6 dL_hangs_807 rfl ?_
  refine V_aload_n 10 dL_hangs_809 rfl ?_
  refine V_iconst (v := 2) dL_hangs_810 rfl ?_
  refine Cq_L_130 (mc1 := 0) (ms1 := 0) rfl ⟨Nat.le_of_ble_eq_true rfl, Nat.le_of_ble_eq_true rfl⟩ (h_count_ok w.1 (x_count_ok w hI mb hm hm8 2 (by decide) rfl)) rfl (Nat.le_of_ble_eq_true rfl) dL_hangs_811 rfl (fun _ hq => ?_)
  have w := hq.1
  have hF := FR.trans (b := 0) (n := 96) hF hq.2 (by omega)
  clear hq
  refine V_icmp_ne (tgt := 952) dL_hangs_814 (by decide) (fun c814 => absurd (off_v σ 37) c814) (fun c814 => ?_)
  refine V_pc (pc2 := 817) rfl ?_
  refine V_iload 3 dL_hangs_817 rfl ?_
  refine V_iconst (v := 2) dL_hangs_819 rfl ?_
  refine V_iload 5 dL_hangs_820 rfl ?_
  refine V_imul dL_hangs_822 ?_
  refine V_icmp_ne (tgt := 952) dL_hangs_823 (by decide) (fun c823 => absurd (tw_fin σ) c823) (fun c823 => ?_)
  refine V_aload_n 10 dL_hangs_826 rfl ?_
  refine V_iconst (v := 3) dL_hangs_827 rfl ?_
  refine Cq_L_130 (mc1 := 0) (ms1 := 0) rfl ⟨Nat.le_of_ble_eq_true rfl, Nat.le_of_ble_eq_true rfl⟩ (h_count_ok w.1 (x_count_ok w hI mb hm hm8 3 (by decide) rfl)) rfl (Nat.le_of_ble_eq_true rfl) dL_hangs_828 rfl (fun _ hq => ?_)
  have w := hq.1
  have hF := FR.trans (b := 0) (n := 96) hF hq.2 (by omega)
  clear hq
  refine V_pc (pc2 := 831) rfl ?_
  refine V_if_eq (tgt := 839) dL_hangs_831 (by decide) (fun c831 => absurd c831 (by show ¬ bI (fnd (badS σ) 0 37).isNone = 0; rw [hS]; decide)) (fun c831 => ?_)
  refine V_iload 4 dL_hangs_834 rfl ?_
  refine V_if_eq (tgt := 952) dL_hangs_836 (by decide) (fun c836 => absurd c836 (by rw [evn_v hI hS 37 (Nat.le_refl _)]; decide)) (fun c836 => ?_)
  refine V_aload_n 10 dL_hangs_839 rfl ?_
  refine V_iconst (v := 3) dL_hangs_840 rfl ?_
  refine Cq_L_130 (mc1 := 0) (ms1 := 0) rfl ⟨Nat.le_of_ble_eq_true rfl, Nat.le_of_ble_eq_true rfl⟩ (h_count_ok w.1 (x_count_ok w hI mb hm hm8 3 (by decide) rfl)) rfl (Nat.le_of_ble_eq_true rfl) dL_hangs_841 rfl (fun _ hq => ?_)
  have w := hq.1
  have hF := FR.trans (b := 0) (n := 96) hF hq.2 (by omega)
  clear hq
  refine V_aload_n 10 dL_hangs_844 rfl ?_
  refine V_iconst (v := 4) dL_hangs_845 rfl ?_
  refine V_pc (pc2 := 846) rfl ?_
  refine Cq_L_130 (mc1 := 0) (ms1 := 0) rfl ⟨Nat.le_of_ble_eq_true rfl, Nat.le_of_ble_eq_true rfl⟩ (h_count_ok w.1 (x_count_ok w hI mb hm hm8 4 (by decide) rfl)) rfl (Nat.le_of_ble_eq_true rfl) dL_hangs_846 rfl (fun _ hq => ?_)
  have w := hq.1
  have hF := FR.trans (b := 0) (n := 96) hF hq.2 (by omega)
  clear hq
  refine V_icmp_ne (tgt := 952) dL_hangs_849 (by decide) (fun c849 => absurd (c34 hI n) c849) (fun c849 => ?_)
  refine V_iload 2 dL_hangs_852 rfl ?_
  refine V_aload_n 10 dL_hangs_854 rfl ?_
  refine V_bipush (v := 6) dL_hangs_855 (by decide) ?_
  refine Cq_L_130 (mc1 := 0) (ms1 := 0) rfl ⟨Nat.le_of_ble_eq_true rfl, Nat.le_of_ble_eq_true rfl⟩ (h_count_ok w.1 (x_count_ok w hI mb hm hm8 6 (by decide) rfl)) rfl (Nat.le_of_ble_eq_true rfl) dL_hangs_857 rfl (fun _ hq => ?_)
  have w := hq.1
  have hF := FR.trans (b := 0) (n := 96) hF hq.2 (by omega)
  clear hq
  refine V_icmp_ne (tgt := 952) dL_hangs_860 (by decide) (fun c860 => absurd hle c860) (fun c860 => ?_)
  refine V_aload_n 10 dL_hangs_863 rfl ?_
  refine V_pc (pc2 := 864) rfl ?_
  refine V_iconst (v := 5) dL_hangs_864 rfl ?_
  refine Cq_L_130 (mc1 := 0) (ms1 := 0) rfl ⟨Nat.le_of_ble_eq_true rfl, Nat.le_of_ble_eq_true rfl⟩ (h_count_ok w.1 (x_count_ok w hI mb hm hm8 5 (by decide) rfl)) rfl (Nat.le_of_ble_eq_true rfl) dL_hangs_865 rfl (fun _ hq => ?_)
  have w := hq.1
  have hF := FR.trans (b := 0) (n := 96) hF hq.2 (by omega)
  clear hq
  refine V_if_lt (tgt := 952) dL_hangs_868 (by decide) (fun c868 => absurd c868 (by rw [show countS σ n 5 = nI mb from hm]; exact nI_pos (by omega))) (fun c868 => ?_)
  refine V_aload_n 10 dL_hangs_871 rfl ?_
  refine V_iconst (v := 5) dL_hangs_872 rfl ?_
  refine Cq_L_130 (mc1 := 0) (ms1 := 0) rfl ⟨Nat.le_of_ble_eq_true rfl, Nat.le_of_ble_eq_true rfl⟩ (h_count_ok w.1 (x_count_ok w hI mb hm hm8 5 (by decide) rfl)) rfl (Nat.le_of_ble_eq_true rfl) dL_hangs_873 rfl (fun _ hq => ?_)
  have w := hq.1
  have hF := FR.trans (b := 0) (n := 96) hF hq.2 (by omega)
  clear hq
  refine V_bipush (v := 9) dL_hangs_876 (by decide) ?_
  refine V_icmp_ge (tgt := 952) dL_hangs_878 (by decide) (fun c878 => absurd c878 (by rw [show countS σ n 5 = nI mb from hm]; exact nI_ge (b := 9) (by omega) (by decide))) (fun c878 => ?_)
  refine V_lv (lv2 := [(11, .int _), (10, .int _), (4, .int _), (3, .int _), (0, .ref _)]) [0, 1, 6, 7, 10] rfl ?_
  exact kk _ _ w hF

set_option maxRecDepth 20000 in
theorem he1u {g : GE} {M0 M : Mem} {sz kc ks : Nat} {Q : Ou → Mem → Prop} {σ τ : Nat → Int32} {hk : Bool} {n : Nat} {ps : Nat → Nat → Int32} {len : Nat} {tx : Nat → Int32} (w : CW g M σ τ hk n ps len tx) (hF : FR M0 M 0 96) (hI : I10 σ) {mb : Nat} (hm : σ 60 = nI mb) (hm8 : mb ≤ 8) {r9 : Nat} (hS : fnd (badS σ) 0 37 = some r9) (kk : ∀ M1 sz1, CW g M1 σ τ hk n ps len tx → FR M0 M1 0 96 → V g m_L_hangs 881 [(11, .int (stopS σ 1)), (10, .int (stopS σ 0)), (4, .int (fdl (thr σ) (offF σ) 0 37)), (3, .int (nI (cnt (thr σ) 37))), (0, rf g 0)] [] M1 sz1 kc ks Q) : V g m_L_hangs 760 [(9, .int (lenS σ mb)), (8, .int (twS σ 25)), (7, .int (fdl (thr σ) (evnF σ) 1 37)), (6, .int (fdl (thr σ) (sizF σ) 0 37)), (4, .int (fdl (thr σ) (offF σ) 0 37)), (3, .int (nI (cnt (thr σ) 37))), (2, .int 1), (1, .int (tabN σ)), (0, rf g 0)] [] M sz kc ks Q := by
  have h37 := cnt_le (thr σ) 37
  have hno := no_ring σ
  have hle : lenS σ mb = countS σ n 6 := by show _ = lenS σ (σ 60).toNatClampNeg; rw [hm, nI_clamp (by omega)]
  refine V_aload_n 8 dL_hangs_760 rfl ?_
  refine V_iconst (v := 0) dL_hangs_761 rfl ?_
  refine Cq_L_143 (mc1 := 0) (ms1 := 0) rfl ⟨Nat.le_of_ble_eq_true rfl, Nat.le_of_ble_eq_true rfl⟩ (h_stopped_ok w.1 (x_stopped_ok w (by decide) (by decide))) rfl (Nat.le_of_ble_eq_true rfl) dL_hangs_762 rfl (fun _ hq => ?_)
  have w := hq.1
  have hF := FR.trans (b := 0) (n := 96) hF hq.2 (by omega)
  clear hq
  refine V_istore (lv2 := [(10, .int _), (9, .int _), (8, .int _), (7, .int _), (6, .int _), (4, .int _), (3, .int _), (2, .int _), (1, .int _), (0, .ref _)]) dL_hangs_765 (Nat.le_of_ble_eq_true rfl) rfl ?_
  refine V_aload_n 9 dL_hangs_767 rfl ?_
  refine V_iconst (v := 1) dL_hangs_768 rfl ?_
  refine Cq_L_143 (mc1 := 0) (ms1 := 0) rfl ⟨Nat.le_of_ble_eq_true rfl, Nat.le_of_ble_eq_true rfl⟩ (h_stopped_ok w.1 (x_stopped_ok w (by decide) (by decide))) rfl (Nat.le_of_ble_eq_true rfl) dL_hangs_769 rfl (fun _ hq => ?_)
  have w := hq.1
  have hF := FR.trans (b := 0) (n := 96) hF hq.2 (by omega)
  clear hq
  refine V_pc (pc2 := 772) rfl ?_
  refine V_istore (lv2 := [(11, .int _), (10, .int _), (9, .int _), (8, .int _), (7, .int _), (6, .int _), (4, .int _), (3, .int _), (2, .int _), (1, .int _), (0, .ref _)]) dL_hangs_772 (Nat.le_of_ble_eq_true rfl) rfl ?_
  refine V_iload_n 8 dL_hangs_774 rfl ?_
  refine V_if_eq (tgt := 952) dL_hangs_775 (by decide) (fun c775 => absurd c775 (by decide)) (fun c775 => ?_)
  refine V_iload_n 9 dL_hangs_778 rfl ?_
  refine V_aload_n 10 dL_hangs_779 rfl ?_
  refine V_iconst (v := 0) dL_hangs_780 rfl ?_
  refine Cq_L_130 (mc1 := 0) (ms1 := 0) rfl ⟨Nat.le_of_ble_eq_true rfl, Nat.le_of_ble_eq_true rfl⟩ (h_count_ok w.1 (x_count_ok w hI mb hm hm8 0 (by decide) rfl)) rfl (Nat.le_of_ble_eq_true rfl) dL_hangs_781 rfl (fun _ hq => ?_)
  have w := hq.1
  have hF := FR.trans (b := 0) (n := 96) hF hq.2 (by omega)
  clear hq
  refine V_icmp_ne (tgt := 952) dL_hangs_784 (by decide) (fun c784 => absurd rfl c784) (fun c784 => ?_)
  refine V_pc (pc2 := 787) rfl ?_
  refine V_iload_n 7 dL_hangs_787 rfl ?_
  refine V_if_lt (tgt := 952) dL_hangs_788 (by decide) (fun c788 => absurd c788 (nI_pos (by omega))) (fun c788 => ?_)
  refine V_iload_n 7 dL_hangs_791 rfl ?_
  refine V_bipush (v := 37) dL_hangs_792 (by decide) ?_
  refine V_icmp_gt (tgt := 952) dL_hangs_794 (by decide) (fun c794 => absurd c794 (nI_nlt (a := 37) (b := cnt (thr σ) 37) h37 (by decide))) (fun c794 => ?_)
  refine V_aload_n 10 dL_hangs_797 rfl ?_
  refine V_iload_n 7 dL_hangs_798 rfl ?_
  refine V_iconst (v := 0) dL_hangs_799 rfl ?_
  refine V_pc (pc2 := 800) rfl ?_
  refine Cq_L_138 (mc1 := 0) (ms1 := 0) rfl ⟨Nat.le_of_ble_eq_true rfl, Nat.le_of_ble_eq_true rfl⟩ (h_ring_ok w.1 (x_ring_n0 w (cnt (thr σ) 37) rfl (by omega) hno)) rfl (Nat.le_of_ble_eq_true rfl) dL_hangs_800 rfl (fun _ hq => ?_)
  have w := hq.1
  have hF := FR.trans (b := 0) (n := 96) hF hq.2 (by omega)
  clear hq
  refine V_iconst (v := -1) dL_hangs_803 rfl ?_
  refine V_icmp_ne (tgt := 952) dL_hangs_804 (by decide) (fun c804 => absurd rfl c804) (fun c804 => ?_)
  refine V_iload 6 dL_hangs_807 rfl ?_
  refine V_aload_n 10 dL_hangs_809 rfl ?_
  refine V_iconst (v := 2) dL_hangs_810 rfl ?_
  refine Cq_L_130 (mc1 := 0) (ms1 := 0) rfl ⟨Nat.le_of_ble_eq_true rfl, Nat.le_of_ble_eq_true rfl⟩ (h_count_ok w.1 (x_count_ok w hI mb hm hm8 2 (by decide) rfl)) rfl (Nat.le_of_ble_eq_true rfl) dL_hangs_811 rfl (fun _ hq => ?_)
  have w := hq.1
  have hF := FR.trans (b := 0) (n := 96) hF hq.2 (by omega)
  clear hq
  refine V_icmp_ne (tgt := 952) dL_hangs_814 (by decide) (fun c814 => absurd (off_v σ 37) c814) (fun c814 => ?_)
  refine V_pc (pc2 := 817) rfl ?_
  refine V_iload 3 dL_hangs_817 rfl ?_
  refine V_iconst (v := 2) dL_hangs_819 rfl ?_
  refine V_iload 5 dL_hangs_820 rfl ?_
  refine V_imul dL_hangs_822 ?_
  refine V_icmp_ne (tgt := 952) dL_hangs_823 (by decide) (fun c823 => absurd (tw_fin σ) c823) (fun c823 => ?_)
  refine V_aload_n 10 dL_hangs_826 rfl ?_
  refine V_iconst (v := 3) dL_hangs_827 rfl ?_
  refine Cq_L_130 (mc1 := 0) (ms1 := 0) rfl ⟨Nat.le_of_ble_eq_true rfl, Nat.le_of_ble_eq_true rfl⟩ (h_count_ok w.1 (x_count_ok w hI mb hm hm8 3 (by decide) rfl)) rfl (Nat.le_of_ble_eq_true rfl) dL_hangs_828 rfl (fun _ hq => ?_)
  have w := hq.1
  have hF := FR.trans (b := 0) (n := 96) hF hq.2 (by omega)
  clear hq
  refine V_pc (pc2 := 831) rfl ?_
  refine V_if_eq (tgt := 839) dL_hangs_831 (by decide) (fun c831 => ?_) (fun c831 => absurd (by show bI (fnd (badS σ) 0 37).isNone = 0; rw [hS]; rfl) c831)
  refine V_aload_n 10 dL_hangs_839 rfl ?_
  refine V_iconst (v := 3) dL_hangs_840 rfl ?_
  refine Cq_L_130 (mc1 := 0) (ms1 := 0) rfl ⟨Nat.le_of_ble_eq_true rfl, Nat.le_of_ble_eq_true rfl⟩ (h_count_ok w.1 (x_count_ok w hI mb hm hm8 3 (by decide) rfl)) rfl (Nat.le_of_ble_eq_true rfl) dL_hangs_841 rfl (fun _ hq => ?_)
  have w := hq.1
  have hF := FR.trans (b := 0) (n := 96) hF hq.2 (by omega)
  clear hq
  refine V_aload_n 10 dL_hangs_844 rfl ?_
  refine V_iconst (v := 4) dL_hangs_845 rfl ?_
  refine Cq_L_130 (mc1 := 0) (ms1 := 0) rfl ⟨Nat.le_of_ble_eq_true rfl, Nat.le_of_ble_eq_true rfl⟩ (h_count_ok w.1 (x_count_ok w hI mb hm hm8 4 (by decide) rfl)) rfl (Nat.le_of_ble_eq_true rfl) dL_hangs_846 rfl (fun _ hq => ?_)
  have w := hq.1
  have hF := FR.trans (b := 0) (n := 96) hF hq.2 (by omega)
  clear hq
  refine V_icmp_ne (tgt := 952) dL_hangs_849 (by decide) (fun c849 => absurd (c34 hI n) c849) (fun c849 => ?_)
  refine V_pc (pc2 := 852) rfl ?_
  refine V_iload 2 dL_hangs_852 rfl ?_
  refine V_aload_n 10 dL_hangs_854 rfl ?_
  refine V_bipush (v := 6) dL_hangs_855 (by decide) ?_
  refine Cq_L_130 (mc1 := 0) (ms1 := 0) rfl ⟨Nat.le_of_ble_eq_true rfl, Nat.le_of_ble_eq_true rfl⟩ (h_count_ok w.1 (x_count_ok w hI mb hm hm8 6 (by decide) rfl)) rfl (Nat.le_of_ble_eq_true rfl) dL_hangs_857 rfl (fun _ hq => ?_)
  have w := hq.1
  have hF := FR.trans (b := 0) (n := 96) hF hq.2 (by omega)
  clear hq
  refine V_icmp_ne (tgt := 952) dL_hangs_860 (by decide) (fun c860 => absurd hle c860) (fun c860 => ?_)
  refine V_aload_n 10 dL_hangs_863 rfl ?_
  refine V_iconst (v := 5) dL_hangs_864 rfl ?_
  refine Cq_L_130 (mc1 := 0) (ms1 := 0) rfl ⟨Nat.le_of_ble_eq_true rfl, Nat.le_of_ble_eq_true rfl⟩ (h_count_ok w.1 (x_count_ok w hI mb hm hm8 5 (by decide) rfl)) rfl (Nat.le_of_ble_eq_true rfl) dL_hangs_865 rfl (fun _ hq => ?_)
  have w := hq.1
  have hF := FR.trans (b := 0) (n := 96) hF hq.2 (by omega)
  clear hq
  refine V_pc (pc2 := 868) rfl ?_
  refine V_if_lt (tgt := 952) dL_hangs_868 (by decide) (fun c868 => absurd c868 (by rw [show countS σ n 5 = nI mb from hm]; exact nI_pos (by omega))) (fun c868 => ?_)
  refine V_aload_n 10 dL_hangs_871 rfl ?_
  refine V_iconst (v := 5) dL_hangs_872 rfl ?_
  refine Cq_L_130 (mc1 := 0) (ms1 := 0) rfl ⟨Nat.le_of_ble_eq_true rfl, Nat.le_of_ble_eq_true rfl⟩ (h_count_ok w.1 (x_count_ok w hI mb hm hm8 5 (by decide) rfl)) rfl (Nat.le_of_ble_eq_true rfl) dL_hangs_873 rfl (fun _ hq => ?_)
  have w := hq.1
  have hF := FR.trans (b := 0) (n := 96) hF hq.2 (by omega)
  clear hq
  refine V_bipush (v := 9) dL_hangs_876 (by decide) ?_
  refine V_icmp_ge (tgt := 952) dL_hangs_878 (by decide) (fun c878 => absurd c878 (by rw [show countS σ n 5 = nI mb from hm]; exact nI_ge (b := 9) (by omega) (by decide))) (fun c878 => ?_)
  refine V_lv (lv2 := [(11, .int _), (10, .int _), (4, .int _), (3, .int _), (0, .ref _)]) [0, 1, 6, 7, 10] rfl ?_
  exact kk _ _ w hF

set_option maxRecDepth 20000 in
theorem he2n {g : GE} {M : Mem} {sz kc ks : Nat} {Q : Ou → Mem → Prop} {σ : Nat → Int32} (h0 : stopS σ 0 = -1) (h1 : stopS σ 1 = -1) (kk : V g m_L_hangs 924 [(4, .int (fdl (thr σ) (offF σ) 0 37)), (3, .int (nI (cnt (thr σ) 37))), (0, rf g 0)] [] M sz kc ks Q) : V g m_L_hangs 881 [(11, .int (stopS σ 1)), (10, .int (stopS σ 0)), (4, .int (fdl (thr σ) (offF σ) 0 37)), (3, .int (nI (cnt (thr σ) 37))), (0, rf g 0)] [] M sz kc ks Q := by
  refine V_iload 1 dL_hangs_881 rfl ?_
  refine V_iconst (v := -1) dL_hangs_883 rfl ?_
  refine V_icmp_ne (tgt := 891) dL_hangs_884 (by decide) (fun c884 => absurd h0 c884) (fun c884 => ?_)
  refine V_iconst (v := 1) dL_hangs_887 rfl ?_
  refine V_goto (tgt := 892) dL_hangs_888 (by decide) ?_
  refine V_iload 0 dL_hangs_892 rfl ?_
  refine V_iconst (v := -1) dL_hangs_894 rfl ?_
  refine V_pc (pc2 := 895) rfl ?_
  refine V_icmp_ne (tgt := 902) dL_hangs_895 (by decide) (fun c895 => absurd h1 c895) (fun c895 => ?_)
  refine V_iconst (v := 1) dL_hangs_898 rfl ?_
  refine V_goto (tgt := 903) dL_hangs_899 (by decide) ?_
  refine V_icmp_ne (tgt := 952) dL_hangs_903 (by decide) (fun c903 => absurd rfl c903) (fun c903 => ?_)
  refine V_iload 0 dL_hangs_906 rfl ?_
  refine V_iconst (v := -1) dL_hangs_908 rfl ?_
  refine V_icmp_eq (tgt := 924) dL_hangs_909 (by decide) (fun c909 => ?_) (fun c909 => absurd h1 c909)
  refine V_lv (lv2 := [(4, .int _), (3, .int _), (0, .ref _)]) [2, 3, 4] rfl ?_
  exact kk

set_option maxRecDepth 20000 in
theorem he2s {g : GE} {M : Mem} {sz kc ks : Nat} {Q : Ou → Mem → Prop} {σ : Nat → Int32} {v w : Nat} (hv : v < 100) (hw1 : 1 ≤ w) (hw8 : w ≤ 8) (h0 : stopS σ 0 = nI v) (h1 : stopS σ 1 = nI w) (kk : V g m_L_hangs 924 [(4, .int (fdl (thr σ) (offF σ) 0 37)), (3, .int (nI (cnt (thr σ) 37))), (0, rf g 0)] [] M sz kc ks Q) : V g m_L_hangs 881 [(11, .int (stopS σ 1)), (10, .int (stopS σ 0)), (4, .int (fdl (thr σ) (offF σ) 0 37)), (3, .int (nI (cnt (thr σ) 37))), (0, rf g 0)] [] M sz kc ks Q := by
  have n0 : ¬ stopS σ 0 = -1 := by rw [h0]; exact m1_ne (by omega)
  have n1 : ¬ stopS σ 1 = -1 := by rw [h1]; exact m1_ne (by omega)
  refine V_iload 1 dL_hangs_881 rfl ?_
  refine V_iconst (v := -1) dL_hangs_883 rfl ?_
  refine V_icmp_ne (tgt := 891) dL_hangs_884 (by decide) (fun c884 => ?_) (fun c884 => absurd c884 n0)
  refine V_iconst (v := 0) dL_hangs_891 rfl ?_
  refine V_iload 0 dL_hangs_892 rfl ?_
  refine V_iconst (v := -1) dL_hangs_894 rfl ?_
  refine V_icmp_ne (tgt := 902) dL_hangs_895 (by decide) (fun c895 => ?_) (fun c895 => absurd c895 n1)
  refine V_pc (pc2 := 902) rfl ?_
  refine V_iconst (v := 0) dL_hangs_902 rfl ?_
  refine V_icmp_ne (tgt := 952) dL_hangs_903 (by decide) (fun c903 => absurd rfl c903) (fun c903 => ?_)
  refine V_iload 0 dL_hangs_906 rfl ?_
  refine V_iconst (v := -1) dL_hangs_908 rfl ?_
  refine V_icmp_eq (tgt := 924) dL_hangs_909 (by decide) (fun c909 => absurd c909 n1) (fun c909 => ?_)
  refine V_iload 0 dL_hangs_912 rfl ?_
  refine V_if_le (tgt := 952) dL_hangs_914 (by decide) (fun c914 => absurd c914 (by rw [h1]; exact nI_nle hw1 (by omega))) (fun c914 => ?_)
  refine V_iload 0 dL_hangs_917 rfl ?_
  refine V_pc (pc2 := 919) rfl ?_
  refine V_bipush (v := 9) dL_hangs_919 (by decide) ?_
  refine V_icmp_ge (tgt := 952) dL_hangs_921 (by decide) (fun c921 => absurd c921 (by rw [h1]; exact nI_ge (b := 9) (by omega) (by decide))) (fun c921 => ?_)
  refine V_lv (lv2 := [(4, .int _), (3, .int _), (0, .ref _)]) [2, 3, 4] rfl ?_
  exact kk

theorem shS_c (σ : Nat → Int32) : Op.cmpValue (FP.dcmp (shS σ) (shS σ)) .l = 0 := by
  have h := shS_ok σ
  unfold bsC at h
  rw [Bool.and_eq_true, Bool.and_eq_true, decide_eq_true_eq] at h
  exact h.2.1
set_option maxRecDepth 20000 in
theorem he3 {g : GE} {M0 M : Mem} {sz : Nat} {σ τ : Nat → Int32} {hk : Bool} {n : Nat} {ps : Nat → Nat → Int32} {len : Nat} {tx : Nat → Int32} (w : CW g M σ τ hk n ps len tx) (hF : FR M0 M 0 96) (hI : I10 σ) : V g m_L_hangs 924 [(4, .int (fdl (thr σ) (offF σ) 0 37)), (3, .int (nI (cnt (thr σ) 37))), (0, rf g 0)] [] M sz 0 0 (RetP (some (.int 1)) (fun M2 => CW g M2 σ τ hk n ps len tx ∧ FR M0 M2 0 96)) := by
  have h37 := cnt_le (thr σ) 37
  by_cases h0 : allR σ = 0
  · have es : shS σ = FP.dconst1 := by unfold shS; rw [if_pos h0, sh_1]
    have hc := shS_c σ
    have h0' : cnt (thr σ) 37 = 0 := h0
    refine V_aload_n 2 dL_hangs_924 rfl ?_
    refine Cp_L_145 w.1 rfl ⟨Nat.le_of_ble_eq_true rfl, Nat.le_of_ble_eq_true rfl⟩ (x_trueShare_ok w hI) rfl (Nat.le_of_ble_eq_true rfl) dL_hangs_925 rfl (fun _ hq => ?_)
    have w := hq.1
    have hF := FR.trans (b := 0) (n := 96) hF hq.2 (by omega)
    clear hq
    refine V_iload_n 1 dL_hangs_928 rfl ?_
    refine V_if_ne (tgt := 936) dL_hangs_929 (by decide) (fun c929 => absurd (by rw [h0']; rfl) c929) (fun c929 => ?_)
    refine V_dconst1 dL_hangs_932 ?_
    refine V_goto (tgt := 944) dL_hangs_933 (by decide) ?_
    refine V_dcmp dL_hangs_944 ?_
    refine V_pc (pc2 := 945) rfl ?_
    refine V_if_ne (tgt := 952) dL_hangs_945 (by decide) (fun c945 => absurd (by rw [es] at hc ⊢; exact hc) c945) (fun c945 => ?_)
    refine V_iconst (v := 1) dL_hangs_948 rfl ?_
    refine V_goto (tgt := 953) dL_hangs_949 (by decide) ?_
    refine V_zret (st := []) dL_hangs_953 rfl (by decide) ?_
    exact ⟨rfl, w, hF⟩
  · have es : shS σ = FP.ddiv (FP.i2d (nI (cnt (thr σ) 37) - fdl (thr σ) (offF σ) 0 37)) (FP.i2d (nI (cnt (thr σ) 37))) := by
      unfold shS
      rw [if_neg h0, off_v, show nI (cnt (thr σ) 37) - nI (cnt (fun r => thr σ r && offS σ r) 37) = nI (allR σ - offR σ) from pk_sub (off_all σ)]
      rfl
    have hc := shS_c σ
    have hn := bsC_n (shS_ok σ)
    rw [es] at hn
    have hne : ¬ nI (cnt (thr σ) 37) = 0 := nI_ne0 (Nat.pos_of_ne_zero h0) (by omega)
    refine V_aload_n 2 dL_hangs_924 rfl ?_
    refine Cp_L_145 w.1 rfl ⟨Nat.le_of_ble_eq_true rfl, Nat.le_of_ble_eq_true rfl⟩ (x_trueShare_ok w hI) rfl (Nat.le_of_ble_eq_true rfl) dL_hangs_925 rfl (fun _ hq => ?_)
    have w := hq.1
    have hF := FR.trans (b := 0) (n := 96) hF hq.2 (by omega)
    clear hq
    refine V_iload_n 1 dL_hangs_928 rfl ?_
    refine V_if_ne (tgt := 936) dL_hangs_929 (by decide) (fun c929 => ?_) (fun c929 => absurd c929 hne)
    refine V_iload_n 1 dL_hangs_936 rfl ?_
    refine V_iload 0 dL_hangs_937 rfl ?_
    refine V_isub dL_hangs_939 ?_
    refine V_pc (pc2 := 940) rfl ?_
    refine V_i2d dL_hangs_940 ?_
    refine V_iload_n 1 dL_hangs_941 rfl ?_
    refine V_i2d dL_hangs_942 ?_
    refine V_ddiv dL_hangs_943 hn ?_
    refine V_dcmp dL_hangs_944 ?_
    refine V_if_ne (tgt := 952) dL_hangs_945 (by decide) (fun c945 => absurd (by rw [es] at hc ⊢; exact hc) c945) (fun c945 => ?_)
    refine V_iconst (v := 1) dL_hangs_948 rfl ?_
    refine V_goto (tgt := 953) dL_hangs_949 (by decide) ?_
    refine V_pc (pc2 := 953) rfl ?_
    refine V_zret (st := []) dL_hangs_953 rfl (by decide) ?_
    exact ⟨rfl, w, hF⟩

theorem hangs_ok {T : Nat} {S : LndS} (h : LOK T S) (hT : T < 2 ^ 30) {g : GE} {M : Mem} {sz len : Nat} {tx : Nat → Int32} (w : CS g M S len tx) : Run g m_L_hangs [rf g 0] M sz 0 0 (RetP (some (.int 1)) (fun M2 => CS g M2 S len tx ∧ FR M M2 0 96)) := by
  obtain ⟨σ, τ, hk, n, ps⟩ := S
  have i1 : IS σ := h.1.1
  have hI : I10 σ := i1.1
  obtain ⟨mb, hm8, hm, hB⟩ := i1.2.1
  obtain ⟨mb2, hm82, hm2, hJ⟩ := h.1.2
  have em : mb2 = mb := (nI_eq (by omega) (by omega)).mp (hm2.symm.trans hm)
  subst em
  obtain ⟨K5, hK5b, hK5⟩ := i1.2.2.2.1
  obtain ⟨K, hK1, hK4, hK⟩ := i1.2.2.2.2.2.1
  have hst := i1.2.2.2.2.2.2
  have w : CW g M σ τ hk n ps len tx := w
  have e3 : ∀ M1 sz1, CW g M1 σ τ hk n ps len tx → FR M M1 0 96 → V g m_L_hangs 924 [(4, .int (fdl (thr σ) (offF σ) 0 37)), (3, .int (nI (cnt (thr σ) 37))), (0, rf g 0)] [] M1 sz1 0 0 (RetP (some (.int 1)) (fun M2 => CW g M2 σ τ hk n ps len tx ∧ FR M M2 0 96)) := fun M1 sz1 w hF => he3 w hF hI
  have e2 : ∀ M1 sz1, CW g M1 σ τ hk n ps len tx → FR M M1 0 96 → V g m_L_hangs 881 [(11, .int (stopS σ 1)), (10, .int (stopS σ 0)), (4, .int (fdl (thr σ) (offF σ) 0 37)), (3, .int (nI (cnt (thr σ) 37))), (0, rf g 0)] [] M1 sz1 0 0 (RetP (some (.int 1)) (fun M2 => CW g M2 σ τ hk n ps len tx ∧ FR M M2 0 96)) := by
    intro M1 sz1 w hF
    rcases hst with ⟨z1, z2⟩ | ⟨nn, ww, n1, w1, w8, q1, q2⟩
    · exact he2n (by unfold stopS; rw [if_pos z2]) (by unfold stopS; rw [if_pos z2]) (e3 M1 sz1 w hF)
    · have nz : ¬ σ 64 = 0 := by rw [q2]; exact nI_ne0 w1 (by omega)
      exact he2s n1 w1 w8 (by unfold stopS; rw [if_neg nz, if_pos rfl, q1, nI_pred]) (by unfold stopS; rw [if_neg nz, if_neg (by decide), q2]) (e3 M1 sz1 w hF)
  have e1 : ∀ M1 sz1, CW g M1 σ τ hk n ps len tx → FR M M1 0 96 → V g m_L_hangs 760 [(9, .int (lenS σ mb2)), (8, .int (twS σ 25)), (7, .int (fdl (thr σ) (evnF σ) 1 37)), (6, .int (fdl (thr σ) (sizF σ) 0 37)), (4, .int (fdl (thr σ) (offF σ) 0 37)), (3, .int (nI (cnt (thr σ) 37))), (2, .int 1), (1, .int (tabN σ)), (0, rf g 0)] [] M1 sz1 0 0 (RetP (some (.int 1)) (fun M2 => CW g M2 σ τ hk n ps len tx ∧ FR M M2 0 96)) := by
    intro M1 sz1 w hF
    cases hS : fnd (badS σ) 0 37 with
    | none => exact he1s w hF hI hm hm8 hS e2
    | some r9 => exact he1u w hF hI hm hm8 hS e2
  refine Run.of rfl (by decide) (Nat.le_of_ble_eq_true rfl) ?_
  show V g m_L_hangs 0 _ [] _ _ _ _ _
  refine V_iconst (v := 0) dL_hangs_0 rfl ?_
  refine V_istore_n (lv2 := [(1, .int _), (0, .ref _)]) dL_hangs_1 (Nat.le_of_ble_eq_true rfl) rfl ?_
  refine V_iconst (v := 1) dL_hangs_2 rfl ?_
  refine V_istore_n (lv2 := [(2, .int _), (1, .int _), (0, .ref _)]) dL_hangs_3 (Nat.le_of_ble_eq_true rfl) rfl ?_
  refine V_iconst (v := 0) dL_hangs_4 rfl ?_
  refine V_istore_n (lv2 := [(3, .int _), (2, .int _), (1, .int _), (0, .ref _)]) dL_hangs_5 (Nat.le_of_ble_eq_true rfl) rfl ?_
  refine V_lv (lv2 := [(3, .int _), (2, .int _), (1, .int _), (0, .ref _)]) [0, 1, 2, 3] rfl ?_
  refine hg_loop (M0 := M) hI hK hK1 hK4 hm hm8 (fun M sz w hF => ?_) 25 0 (by omega) M sz w (FR.refl M 0 96)
  refine V_aload_n 2 dL_hangs_392 rfl ?_
  refine V_iconst (v := 1) dL_hangs_393 rfl ?_
  refine Cq_L_130 (mc1 := 0) (ms1 := 0) rfl ⟨Nat.le_of_ble_eq_true rfl, Nat.le_of_ble_eq_true rfl⟩ (h_count_ok w.1 (x_count_ok w hI mb2 hm hm8 1 (by decide) rfl)) rfl (Nat.le_of_ble_eq_true rfl) dL_hangs_394 rfl (fun _ hq => ?_)
  have w := hq.1
  have hF := FR.trans (b := 0) (n := 96) hF hq.2 (by omega)
  clear hq
  refine V_istore_n (lv2 := [(3, .int _), (2, .int _), (1, .int _), (0, .ref _)]) dL_hangs_397 (Nat.le_of_ble_eq_true rfl) rfl ?_
  refine V_iconst (v := 0) dL_hangs_398 rfl ?_
  refine V_istore (lv2 := [(4, .int _), (3, .int _), (2, .int _), (1, .int _), (0, .ref _)]) dL_hangs_399 (Nat.le_of_ble_eq_true rfl) rfl ?_
  refine V_iconst (v := 0) dL_hangs_401 rfl ?_
  refine V_pc (pc2 := 402) rfl ?_
  refine V_istore (lv2 := [(5, .int _), (4, .int _), (3, .int _), (2, .int _), (1, .int _), (0, .ref _)]) dL_hangs_402 (Nat.le_of_ble_eq_true rfl) rfl ?_
  refine V_iconst (v := 0) dL_hangs_404 rfl ?_
  refine V_istore (lv2 := [(6, .int _), (5, .int _), (4, .int _), (3, .int _), (2, .int _), (1, .int _), (0, .ref _)]) dL_hangs_405 (Nat.le_of_ble_eq_true rfl) rfl ?_
  refine V_iconst (v := 1) dL_hangs_407 rfl ?_
  refine V_istore (lv2 := [(7, .int _), (6, .int _), (5, .int _), (4, .int _), (3, .int _), (2, .int _), (1, .int _), (0, .ref _)]) dL_hangs_408 (Nat.le_of_ble_eq_true rfl) rfl ?_
  refine V_iconst (v := 0) dL_hangs_410 rfl ?_
  refine V_istore (lv2 := [(8, .int _), (7, .int _), (6, .int _), (5, .int _), (4, .int _), (3, .int _), (2, .int _), (1, .int _), (0, .ref _)]) dL_hangs_411 (Nat.le_of_ble_eq_true rfl) rfl ?_
  refine V_lv (lv2 := [(8, .int _), (7, .int _), (6, .int _), (5, .int _), (4, .int _), (3, .int _), (2, .int _), (1, .int _), (0, .ref _)]) [0, 1, 2, 3, 4, 5, 6, 7, 8] rfl ?_
  refine hg_rings hI hm hm8 hK5 hK5b (fun M sz w hF => ?_) (cnt (thr σ) 37) 0 (by omega) 0 (by decide) rfl _ _ w hF
  refine V_iconst (v := 0) dL_hangs_582 rfl ?_
  refine V_istore (lv2 := [(8, .int _), (7, .int _), (6, .int _), (4, .int _), (3, .int _), (2, .int _), (1, .int _), (0, .ref _)]) dL_hangs_583 (Nat.le_of_ble_eq_true rfl) rfl ?_
  refine V_iconst (v := 0) dL_hangs_585 rfl ?_
  refine V_istore (lv2 := [(9, .int _), (8, .int _), (7, .int _), (6, .int _), (4, .int _), (3, .int _), (2, .int _), (1, .int _), (0, .ref _)]) dL_hangs_586 (Nat.le_of_ble_eq_true rfl) rfl ?_
  refine V_lv (lv2 := [(9, .int _), (8, .int _), (7, .int _), (6, .int _), (4, .int _), (3, .int _), (2, .int _), (1, .int _), (0, .ref _)]) [0, 1, 2, 3, 4, 5, 6, 7, 8] rfl ?_
  refine hg_twice hI (fun M sz w hF => ?_) 25 0 (by omega) _ _ w hF
  refine V_iconst (v := 0) dL_hangs_634 rfl ?_
  refine V_istore (lv2 := [(9, .int _), (8, .int _), (7, .int _), (6, .int _), (4, .int _), (3, .int _), (2, .int _), (1, .int _), (0, .ref _)]) dL_hangs_635 (Nat.le_of_ble_eq_true rfl) rfl ?_
  refine V_iconst (v := 0) dL_hangs_637 rfl ?_
  refine V_istore (lv2 := [(10, .int _), (9, .int _), (8, .int _), (7, .int _), (6, .int _), (4, .int _), (3, .int _), (2, .int _), (1, .int _), (0, .ref _)]) dL_hangs_638 (Nat.le_of_ble_eq_true rfl) rfl ?_
  refine V_lv (lv2 := [(10, .int _), (9, .int _), (8, .int _), (7, .int _), (6, .int _), (4, .int _), (3, .int _), (2, .int _), (1, .int _), (0, .ref _)]) [0, 1, 2, 3, 4, 5, 6, 7, 8, 9] rfl ?_
  exact hg_bolts hI hm hm8 hB hT hJ e1 mb2 0 (by omega) _ _ w hF
