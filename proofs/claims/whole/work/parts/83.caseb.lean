/-! the law's cases 9 to 17 -/
section LD
variable {p : Program} {l : Launch} {e : Env} {s : State} {m : MethodId} {below : List Frame} {meth : Method} {c : Code} {b L i : Nat} {xs : Nat → Int32} {G : tt_G} {S M : tt_St} {V : Int64} {H : Heap} {locs : List Loc} {cells slots : Nat} {Q : State → Prop} {pc index : Nat} {ls : Array Slot} {rest : List Value}
theorem L_c9 (C : L_C p s m c b L i xs G) (hf : cells ≤ room_1.cells ∧ slots ≤ room_1.slots) (hR : RR S M) (hw : L_W G S M V s H locs) (hl : L_lv G b i ls)
    (kk : ∀ (S' M' : tt_St) (V' : Int64) (H1 : Heap) (locs1 : List Loc), RR S' M' → L_W G S' M' V' s H1 locs1 → W p l e room_1 s m #[Value.ref b] below meth c H1 locs1 cells slots Q (F0 m 1339 ls [])) : W p l e room_1 s m #[Value.ref b] below meth c H locs cells slots Q (F0 m 467 ls []) := by
  refine lv_aload_n C.1.1 C.1.2.1 dL_law_467 rfl (lv_at hl 2 rfl) ?_
  refine L_arg C hw hl 1 (by decide) dL_law_468 dL_law_469 dL_law_470 rfl dL_law_471 dL_law_472 ?_
  refine L_arg C hw hl 2 (by decide) dL_law_473 dL_law_474 dL_law_475 rfl dL_law_476 dL_law_477 ?_
  refine L_callC C.1 C.2.1 hw (k_X6_week l G S (L_v xs i 1) (L_v xs i 2) (RR_ci hR)) hiX6_week q456 q457 q458 q459 ⟨Nat.le_of_ble_eq_true rfl, Nat.le_of_ble_eq_true rfl⟩ rfl hl.1 rfl (Nat.le_of_ble_eq_true rfl) dL_law_478 hf (fun z1 S2 H locs e1 e2 hw => ?_)
  refine lv_aload_n C.1.1 C.1.2.1 dL_law_481 rfl (lv_at hl 1 rfl) ?_
  refine L_arg C hw hl 1 (by decide) dL_law_482 dL_law_483 dL_law_484 rfl dL_law_485 dL_law_486 ?_
  refine L_arg C hw hl 2 (by decide) dL_law_487 dL_law_488 dL_law_489 rfl dL_law_490 dL_law_491 ?_
  refine L_callM C.1 C.2.1 hw (k_X7_week l G M V (L_v xs i 1) (L_v xs i 2) (RR_mi hR)) hiX7_week q1019 q1020 q1021 q1022 ⟨Nat.le_of_ble_eq_true rfl, Nat.le_of_ble_eq_true rfl⟩ rfl hl.1 rfl (Nat.le_of_ble_eq_true rfl) dL_law_492 hf (fun z2 M2 V2 H locs e3 e4 _ hw => ?_)
  have hp := p_week (L_v xs i 1) (L_v xs i 2) hR
  refine lv_icmp_eq (tgt := 1339) C.1.1 C.1.2.1 dL_law_495 (by decide) (fun _ => ?_) (fun hz => absurd (by rw [e1, e3]; exact hp.1) hz)
  exact kk S2 M2 V2 H locs (by rw [e2, e4]; exact hp.2) hw
theorem L_c10 (C : L_C p s m c b L i xs G) (hf : cells ≤ room_1.cells ∧ slots ≤ room_1.slots) (hR : RR S M) (hw : L_W G S M V s H locs) (hl : L_lv G b i ls)
    (kk : ∀ (S' M' : tt_St) (V' : Int64) (H1 : Heap) (locs1 : List Loc), RR S' M' → L_W G S' M' V' s H1 locs1 → W p l e room_1 s m #[Value.ref b] below meth c H1 locs1 cells slots Q (F0 m 1339 ls [])) : W p l e room_1 s m #[Value.ref b] below meth c H locs cells slots Q (F0 m 500 ls []) := by
  refine lv_aload_n C.1.1 C.1.2.1 dL_law_500 rfl (lv_at hl 2 rfl) ?_
  refine L_arg C hw hl 1 (by decide) dL_law_501 dL_law_502 dL_law_503 rfl dL_law_504 dL_law_505 ?_
  refine L_callC C.1 C.2.1 hw (k_X6_each l G S (L_v xs i 1) (RR_ci hR)) hiX6_each q460 q461 q462 q463 ⟨Nat.le_of_ble_eq_true rfl, Nat.le_of_ble_eq_true rfl⟩ rfl hl.1 rfl (Nat.le_of_ble_eq_true rfl) dL_law_506 hf (fun z1 S2 H locs e1 e2 hw => ?_)
  refine lv_aload_n C.1.1 C.1.2.1 dL_law_509 rfl (lv_at hl 1 rfl) ?_
  refine L_arg C hw hl 1 (by decide) dL_law_510 dL_law_511 dL_law_512 rfl dL_law_513 dL_law_514 ?_
  refine L_callM C.1 C.2.1 hw (k_X7_each l G M V (L_v xs i 1) (RR_mi hR)) hiX7_each q1023 q1024 q1025 q1026 ⟨Nat.le_of_ble_eq_true rfl, Nat.le_of_ble_eq_true rfl⟩ rfl hl.1 rfl (Nat.le_of_ble_eq_true rfl) dL_law_515 hf (fun z2 M2 V2 H locs e3 e4 _ hw => ?_)
  have hp := p_each (L_v xs i 1) hR
  refine lv_icmp_eq (tgt := 1339) C.1.1 C.1.2.1 dL_law_518 (by decide) (fun _ => ?_) (fun hz => absurd (by rw [e1, e3]; exact hp.1) hz)
  exact kk S2 M2 V2 H locs (by rw [e2, e4]; exact hp.2) hw
theorem L_c11 (C : L_C p s m c b L i xs G) (hf : cells ≤ room_1.cells ∧ slots ≤ room_1.slots) (hR : RR S M) (hw : L_W G S M V s H locs) (hl : L_lv G b i ls)
    (kk : ∀ (S' M' : tt_St) (V' : Int64) (H1 : Heap) (locs1 : List Loc), RR S' M' → L_W G S' M' V' s H1 locs1 → W p l e room_1 s m #[Value.ref b] below meth c H1 locs1 cells slots Q (F0 m 1339 ls [])) : W p l e room_1 s m #[Value.ref b] below meth c H locs cells slots Q (F0 m 523 ls []) := by
  refine lv_aload_n C.1.1 C.1.2.1 dL_law_523 rfl (lv_at hl 2 rfl) ?_
  refine L_arg C hw hl 1 (by decide) dL_law_524 dL_law_525 dL_law_526 rfl dL_law_527 dL_law_528 ?_
  refine L_callC C.1 C.2.1 hw (k_X6_many l G S (L_v xs i 1) (RR_ci hR)) hiX6_many q484 q485 q486 q487 ⟨Nat.le_of_ble_eq_true rfl, Nat.le_of_ble_eq_true rfl⟩ rfl hl.1 rfl (Nat.le_of_ble_eq_true rfl) dL_law_529 hf (fun z1 S2 H locs e1 e2 hw => ?_)
  refine lv_aload_n C.1.1 C.1.2.1 dL_law_532 rfl (lv_at hl 1 rfl) ?_
  refine L_arg C hw hl 1 (by decide) dL_law_533 dL_law_534 dL_law_535 rfl dL_law_536 dL_law_537 ?_
  refine L_callM C.1 C.2.1 hw (k_X7_many l G M V (L_v xs i 1) (RR_mi hR)) hiX7_many q1030 q1031 q1032 q1033 ⟨Nat.le_of_ble_eq_true rfl, Nat.le_of_ble_eq_true rfl⟩ rfl hl.1 rfl (Nat.le_of_ble_eq_true rfl) dL_law_538 hf (fun z2 M2 V2 H locs e3 e4 _ hw => ?_)
  have hp := p_many (L_v xs i 1) hR
  refine lv_icmp_eq (tgt := 1339) C.1.1 C.1.2.1 dL_law_541 (by decide) (fun _ => ?_) (fun hz => absurd (by rw [e1, e3]; exact hp.1) hz)
  exact kk S2 M2 V2 H locs (by rw [e2, e4]; exact hp.2) hw
theorem L_c12 (C : L_C p s m c b L i xs G) (hf : cells ≤ room_1.cells ∧ slots ≤ room_1.slots) (hR : RR S M) (hw : L_W G S M V s H locs) (hl : L_lv G b i ls)
    (kk : ∀ (S' M' : tt_St) (V' : Int64) (H1 : Heap) (locs1 : List Loc), RR S' M' → L_W G S' M' V' s H1 locs1 → W p l e room_1 s m #[Value.ref b] below meth c H1 locs1 cells slots Q (F0 m 1339 ls [])) : W p l e room_1 s m #[Value.ref b] below meth c H locs cells slots Q (F0 m 546 ls []) := by
  refine lv_aload_n C.1.1 C.1.2.1 dL_law_546 rfl (lv_at hl 2 rfl) ?_
  refine L_arg C hw hl 1 (by decide) dL_law_547 dL_law_548 dL_law_549 rfl dL_law_550 dL_law_551 ?_
  refine L_arg C hw hl 2 (by decide) dL_law_552 dL_law_553 dL_law_554 rfl dL_law_555 dL_law_556 ?_
  refine L_callC C.1 C.2.1 hw (k_X6_who l G S (L_v xs i 1) (L_v xs i 2) (RR_ci hR)) hiX6_who q492 q493 q494 q495 ⟨Nat.le_of_ble_eq_true rfl, Nat.le_of_ble_eq_true rfl⟩ rfl hl.1 rfl (Nat.le_of_ble_eq_true rfl) dL_law_557 hf (fun z1 S2 H locs e1 e2 hw => ?_)
  refine lv_aload_n C.1.1 C.1.2.1 dL_law_560 rfl (lv_at hl 1 rfl) ?_
  refine L_arg C hw hl 1 (by decide) dL_law_561 dL_law_562 dL_law_563 rfl dL_law_564 dL_law_565 ?_
  refine L_arg C hw hl 2 (by decide) dL_law_566 dL_law_567 dL_law_568 rfl dL_law_569 dL_law_570 ?_
  refine L_callM C.1 C.2.1 hw (k_X7_who l G M V (L_v xs i 1) (L_v xs i 2) (RR_mi hR)) hiX7_who q1045 q1046 q1047 q1048 ⟨Nat.le_of_ble_eq_true rfl, Nat.le_of_ble_eq_true rfl⟩ rfl hl.1 rfl (Nat.le_of_ble_eq_true rfl) dL_law_571 hf (fun z2 M2 V2 H locs e3 e4 _ hw => ?_)
  have hp := p_who (L_v xs i 1) (L_v xs i 2) hR
  refine lv_icmp_eq (tgt := 1339) C.1.1 C.1.2.1 dL_law_574 (by decide) (fun _ => ?_) (fun hz => absurd (by rw [e1, e3]; exact hp.1) hz)
  exact kk S2 M2 V2 H locs (by rw [e2, e4]; exact hp.2) hw
theorem L_c13 (C : L_C p s m c b L i xs G) (hf : cells ≤ room_1.cells ∧ slots ≤ room_1.slots) (hR : RR S M) (hw : L_W G S M V s H locs) (hl : L_lv G b i ls)
    (kk : ∀ (S' M' : tt_St) (V' : Int64) (H1 : Heap) (locs1 : List Loc), RR S' M' → L_W G S' M' V' s H1 locs1 → W p l e room_1 s m #[Value.ref b] below meth c H1 locs1 cells slots Q (F0 m 1339 ls [])) : W p l e room_1 s m #[Value.ref b] below meth c H locs cells slots Q (F0 m 579 ls []) := by
  refine lv_aload_n C.1.1 C.1.2.1 dL_law_579 rfl (lv_at hl 2 rfl) ?_
  refine L_arg C hw hl 1 (by decide) dL_law_580 dL_law_581 dL_law_582 rfl dL_law_583 dL_law_584 ?_
  refine L_callC C.1 C.2.1 hw (k_X6_fewest l G S (L_v xs i 1) (RR_ci hR)) hiX6_fewest q496 q497 q498 q499 ⟨Nat.le_of_ble_eq_true rfl, Nat.le_of_ble_eq_true rfl⟩ rfl hl.1 rfl (Nat.le_of_ble_eq_true rfl) dL_law_585 hf (fun z1 S2 H locs e1 e2 hw => ?_)
  refine lv_aload_n C.1.1 C.1.2.1 dL_law_588 rfl (lv_at hl 1 rfl) ?_
  refine L_arg C hw hl 1 (by decide) dL_law_589 dL_law_590 dL_law_591 rfl dL_law_592 dL_law_593 ?_
  refine L_callM C.1 C.2.1 hw (k_X7_fewest l G M V (L_v xs i 1) (RR_mi hR)) hiX7_fewest q1049 q1050 q1051 q1052 ⟨Nat.le_of_ble_eq_true rfl, Nat.le_of_ble_eq_true rfl⟩ rfl hl.1 rfl (Nat.le_of_ble_eq_true rfl) dL_law_594 hf (fun z2 M2 V2 H locs e3 e4 _ hw => ?_)
  have hp := p_fewest (L_v xs i 1) hR
  refine lv_icmp_eq (tgt := 1339) C.1.1 C.1.2.1 dL_law_597 (by decide) (fun _ => ?_) (fun hz => absurd (by rw [e1, e3]; exact hp.1) hz)
  exact kk S2 M2 V2 H locs (by rw [e2, e4]; exact hp.2) hw
theorem L_c14 (C : L_C p s m c b L i xs G) (hf : cells ≤ room_1.cells ∧ slots ≤ room_1.slots) (hR : RR S M) (hw : L_W G S M V s H locs) (hl : L_lv G b i ls)
    (kk : ∀ (S' M' : tt_St) (V' : Int64) (H1 : Heap) (locs1 : List Loc), RR S' M' → L_W G S' M' V' s H1 locs1 → W p l e room_1 s m #[Value.ref b] below meth c H1 locs1 cells slots Q (F0 m 1339 ls [])) : W p l e room_1 s m #[Value.ref b] below meth c H locs cells slots Q (F0 m 602 ls []) := by
  refine lv_aload_n C.1.1 C.1.2.1 dL_law_602 rfl (lv_at hl 2 rfl) ?_
  refine L_arg C hw hl 1 (by decide) dL_law_603 dL_law_604 dL_law_605 rfl dL_law_606 dL_law_607 ?_
  refine L_arg C hw hl 2 (by decide) dL_law_608 dL_law_609 dL_law_610 rfl dL_law_611 dL_law_612 ?_
  refine L_callC C.1 C.2.1 hw (k_X6_ahead l G S (L_v xs i 1) (L_v xs i 2) (RR_ci hR)) hiX6_ahead q506 q507 q508 q509 ⟨Nat.le_of_ble_eq_true rfl, Nat.le_of_ble_eq_true rfl⟩ rfl hl.1 rfl (Nat.le_of_ble_eq_true rfl) dL_law_613 hf (fun z1 S2 H locs e1 e2 hw => ?_)
  refine lv_aload_n C.1.1 C.1.2.1 dL_law_616 rfl (lv_at hl 1 rfl) ?_
  refine L_arg C hw hl 1 (by decide) dL_law_617 dL_law_618 dL_law_619 rfl dL_law_620 dL_law_621 ?_
  refine L_arg C hw hl 2 (by decide) dL_law_622 dL_law_623 dL_law_624 rfl dL_law_625 dL_law_626 ?_
  refine L_callM C.1 C.2.1 hw (k_X7_ahead l G M V (L_v xs i 1) (L_v xs i 2) (RR_mi hR)) hiX7_ahead q1053 q1054 q1055 q1056 ⟨Nat.le_of_ble_eq_true rfl, Nat.le_of_ble_eq_true rfl⟩ rfl hl.1 rfl (Nat.le_of_ble_eq_true rfl) dL_law_627 hf (fun z2 M2 V2 H locs e3 e4 _ hw => ?_)
  have hp := p_ahead (L_v xs i 1) (L_v xs i 2) hR
  refine lv_icmp_eq (tgt := 1339) C.1.1 C.1.2.1 dL_law_630 (by decide) (fun _ => ?_) (fun hz => absurd (by rw [e1, e3]; exact hp.1) hz)
  exact kk S2 M2 V2 H locs (by rw [e2, e4]; exact hp.2) hw
theorem L_c15 (C : L_C p s m c b L i xs G) (hf : cells ≤ room_1.cells ∧ slots ≤ room_1.slots) (hR : RR S M) (hw : L_W G S M V s H locs) (hl : L_lv G b i ls)
    (kk : ∀ (S' M' : tt_St) (V' : Int64) (H1 : Heap) (locs1 : List Loc), RR S' M' → L_W G S' M' V' s H1 locs1 → W p l e room_1 s m #[Value.ref b] below meth c H1 locs1 cells slots Q (F0 m 1339 ls [])) : W p l e room_1 s m #[Value.ref b] below meth c H locs cells slots Q (F0 m 635 ls []) := by
  refine lv_aload_n C.1.1 C.1.2.1 dL_law_635 rfl (lv_at hl 2 rfl) ?_
  refine L_callC C.1 C.2.1 hw (k_X6_rests l G S (RR_ci hR)) hiX6_rests q518 q519 q520 q521 ⟨Nat.le_of_ble_eq_true rfl, Nat.le_of_ble_eq_true rfl⟩ rfl hl.1 rfl (Nat.le_of_ble_eq_true rfl) dL_law_636 hf (fun z1 S2 H locs e1 e2 hw => ?_)
  refine lv_aload_n C.1.1 C.1.2.1 dL_law_639 rfl (lv_at hl 1 rfl) ?_
  refine L_callM C.1 C.2.1 hw (k_X7_rests l G M V (RR_mi hR)) hiX7_rests q1073 q1074 q1075 q1076 ⟨Nat.le_of_ble_eq_true rfl, Nat.le_of_ble_eq_true rfl⟩ rfl hl.1 rfl (Nat.le_of_ble_eq_true rfl) dL_law_640 hf (fun z2 M2 V2 H locs e3 e4 _ hw => ?_)
  have hp := p_rests hR
  refine lv_icmp_eq (tgt := 1339) C.1.1 C.1.2.1 dL_law_643 (by decide) (fun _ => ?_) (fun hz => absurd (by rw [e1, e3]; exact hp.1) hz)
  exact kk S2 M2 V2 H locs (by rw [e2, e4]; exact hp.2) hw
theorem L_c16 (C : L_C p s m c b L i xs G) (hf : cells ≤ room_1.cells ∧ slots ≤ room_1.slots) (hR : RR S M) (hw : L_W G S M V s H locs) (hl : L_lv G b i ls)
    (kk : ∀ (S' M' : tt_St) (V' : Int64) (H1 : Heap) (locs1 : List Loc), RR S' M' → L_W G S' M' V' s H1 locs1 → W p l e room_1 s m #[Value.ref b] below meth c H1 locs1 cells slots Q (F0 m 1339 ls [])) : W p l e room_1 s m #[Value.ref b] below meth c H locs cells slots Q (F0 m 648 ls []) := by
  refine lv_aload_n C.1.1 C.1.2.1 dL_law_648 rfl (lv_at hl 2 rfl) ?_
  refine L_arg C hw hl 1 (by decide) dL_law_649 dL_law_650 dL_law_651 rfl dL_law_652 dL_law_653 ?_
  refine L_arg C hw hl 2 (by decide) dL_law_654 dL_law_655 dL_law_656 rfl dL_law_657 dL_law_658 ?_
  refine L_callC C.1 C.2.1 hw (k_X6_tips l G S (L_v xs i 1) (L_v xs i 2) (RR_ci hR)) hiX6_tips q530 q531 q532 q533 ⟨Nat.le_of_ble_eq_true rfl, Nat.le_of_ble_eq_true rfl⟩ rfl hl.1 rfl (Nat.le_of_ble_eq_true rfl) dL_law_659 hf (fun z1 S2 H locs e1 e2 hw => ?_)
  refine lv_aload_n C.1.1 C.1.2.1 dL_law_662 rfl (lv_at hl 1 rfl) ?_
  refine L_arg C hw hl 1 (by decide) dL_law_663 dL_law_664 dL_law_665 rfl dL_law_666 dL_law_667 ?_
  refine L_arg C hw hl 2 (by decide) dL_law_668 dL_law_669 dL_law_670 rfl dL_law_671 dL_law_672 ?_
  refine L_callM C.1 C.2.1 hw (k_X7_tips l G M V (L_v xs i 1) (L_v xs i 2) (RR_mi hR)) hiX7_tips q1081 q1082 q1083 q1084 ⟨Nat.le_of_ble_eq_true rfl, Nat.le_of_ble_eq_true rfl⟩ rfl hl.1 rfl (Nat.le_of_ble_eq_true rfl) dL_law_673 hf (fun z2 M2 V2 H locs e3 e4 _ hw => ?_)
  have hp := p_tips (L_v xs i 1) (L_v xs i 2) hR
  refine lv_icmp_eq (tgt := 1339) C.1.1 C.1.2.1 dL_law_676 (by decide) (fun _ => ?_) (fun hz => absurd (by rw [e1, e3]; exact hp.1) hz)
  exact kk S2 M2 V2 H locs (by rw [e2, e4]; exact hp.2) hw
theorem L_c17 (C : L_C p s m c b L i xs G) (hf : cells ≤ room_1.cells ∧ slots ≤ room_1.slots) (hR : RR S M) (hw : L_W G S M V s H locs) (hl : L_lv G b i ls)
    (kk : ∀ (S' M' : tt_St) (V' : Int64) (H1 : Heap) (locs1 : List Loc), RR S' M' → L_W G S' M' V' s H1 locs1 → W p l e room_1 s m #[Value.ref b] below meth c H1 locs1 cells slots Q (F0 m 1339 ls [])) : W p l e room_1 s m #[Value.ref b] below meth c H locs cells slots Q (F0 m 681 ls []) := by
  refine lv_aload_n C.1.1 C.1.2.1 dL_law_681 rfl (lv_at hl 2 rfl) ?_
  refine L_arg C hw hl 1 (by decide) dL_law_682 dL_law_683 dL_law_684 rfl dL_law_685 dL_law_686 ?_
  refine L_callC C.1 C.2.1 hw (k_X6_best l G S (L_v xs i 1) (RR_ci hR)) hiX6_best q534 q535 q536 q537 ⟨Nat.le_of_ble_eq_true rfl, Nat.le_of_ble_eq_true rfl⟩ rfl hl.1 rfl (Nat.le_of_ble_eq_true rfl) dL_law_687 hf (fun z1 S2 H locs e1 e2 hw => ?_)
  refine lv_aload_n C.1.1 C.1.2.1 dL_law_690 rfl (lv_at hl 1 rfl) ?_
  refine L_arg C hw hl 1 (by decide) dL_law_691 dL_law_692 dL_law_693 rfl dL_law_694 dL_law_695 ?_
  refine L_callM C.1 C.2.1 hw (k_X7_best l G M V (L_v xs i 1) (RR_mi hR)) hiX7_best q1086 q1087 q1088 q1089 ⟨Nat.le_of_ble_eq_true rfl, Nat.le_of_ble_eq_true rfl⟩ rfl hl.1 rfl (Nat.le_of_ble_eq_true rfl) dL_law_696 hf (fun z2 M2 V2 H locs e3 e4 _ hw => ?_)
  have hp := p_best (L_v xs i 1) hR
  refine lv_icmp_eq (tgt := 1339) C.1.1 C.1.2.1 dL_law_699 (by decide) (fun _ => ?_) (fun hz => absurd (by rw [e1, e3]; exact hp.1) hz)
  exact kk S2 M2 V2 H locs (by rw [e2, e4]; exact hp.2) hw
end LD
