/-! the law's cases 18 to 26 -/
section LD
variable {p : Program} {l : Launch} {e : Env} {s : State} {m : MethodId} {below : List Frame} {meth : Method} {c : Code} {b L i : Nat} {xs : Nat → Int32} {G : tt_G} {S M : tt_St} {V : Int64} {H : Heap} {locs : List Loc} {cells slots : Nat} {Q : State → Prop} {pc index : Nat} {ls : Array Slot} {rest : List Value}
theorem L_c18 (C : L_C p s m c b L i xs G) (hf : cells ≤ room_1.cells ∧ slots ≤ room_1.slots) (hR : RR S M) (hw : L_W G S M V s H locs) (hl : L_lv G b i ls)
    (kk : ∀ (S' M' : tt_St) (V' : Int64) (H1 : Heap) (locs1 : List Loc), RR S' M' → L_W G S' M' V' s H1 locs1 → W p l e room_1 s m #[Value.ref b] below meth c H1 locs1 cells slots Q (F0 m 1339 ls [])) : W p l e room_1 s m #[Value.ref b] below meth c H locs cells slots Q (F0 m 704 ls []) := by
  refine lv_aload_n C.1.1 C.1.2.1 dL_law_704 rfl (lv_at hl 2 rfl) ?_
  refine L_arg C hw hl 1 (by decide) dL_law_705 dL_law_706 dL_law_707 rfl dL_law_708 dL_law_709 ?_
  refine L_callC C.1 C.2.1 hw (k_X6_sign l G S (L_v xs i 1) (RR_ci hR)) hiX6_sign q538 q539 q540 q541 ⟨Nat.le_of_ble_eq_true rfl, Nat.le_of_ble_eq_true rfl⟩ rfl hl.1 rfl (Nat.le_of_ble_eq_true rfl) dL_law_710 hf (fun z1 S2 H locs e1 e2 hw => ?_)
  refine lv_aload_n C.1.1 C.1.2.1 dL_law_713 rfl (lv_at hl 1 rfl) ?_
  refine L_arg C hw hl 1 (by decide) dL_law_714 dL_law_715 dL_law_716 rfl dL_law_717 dL_law_718 ?_
  refine L_callM C.1 C.2.1 hw (k_X7_sign l G M V (L_v xs i 1) (RR_mi hR)) hiX7_sign q1099 q1100 q1101 q1102 ⟨Nat.le_of_ble_eq_true rfl, Nat.le_of_ble_eq_true rfl⟩ rfl hl.1 rfl (Nat.le_of_ble_eq_true rfl) dL_law_719 hf (fun z2 M2 V2 H locs e3 e4 _ hw => ?_)
  have hp := p_sign (L_v xs i 1) hR
  refine lv_icmp_eq (tgt := 1339) C.1.1 C.1.2.1 dL_law_722 (by decide) (fun _ => ?_) (fun hz => absurd (by rw [e1, e3]; exact hp.1) hz)
  exact kk S2 M2 V2 H locs (by rw [e2, e4]; exact hp.2) hw
theorem L_c19 (C : L_C p s m c b L i xs G) (hf : cells ≤ room_1.cells ∧ slots ≤ room_1.slots) (hR : RR S M) (hw : L_W G S M V s H locs) (hl : L_lv G b i ls)
    (kk : ∀ (S' M' : tt_St) (V' : Int64) (H1 : Heap) (locs1 : List Loc), RR S' M' → L_W G S' M' V' s H1 locs1 → W p l e room_1 s m #[Value.ref b] below meth c H1 locs1 cells slots Q (F0 m 1339 ls [])) : W p l e room_1 s m #[Value.ref b] below meth c H locs cells slots Q (F0 m 727 ls []) := by
  refine lv_aload_n C.1.1 C.1.2.1 dL_law_727 rfl (lv_at hl 2 rfl) ?_
  refine L_arg C hw hl 1 (by decide) dL_law_728 dL_law_729 dL_law_730 rfl dL_law_731 dL_law_732 ?_
  refine L_callC C.1 C.2.1 hw (k_X6_potFor l G S (L_v xs i 1) (RR_ci hR)) hiX6_potFor q542 q543 q544 q545 ⟨Nat.le_of_ble_eq_true rfl, Nat.le_of_ble_eq_true rfl⟩ rfl hl.1 rfl (Nat.le_of_ble_eq_true rfl) dL_law_733 hf (fun z1 S2 H locs e1 e2 hw => ?_)
  refine lv_aload_n C.1.1 C.1.2.1 dL_law_736 rfl (lv_at hl 1 rfl) ?_
  refine L_arg C hw hl 1 (by decide) dL_law_737 dL_law_738 dL_law_739 rfl dL_law_740 dL_law_741 ?_
  refine L_callM C.1 C.2.1 hw (k_X7_potFor l G M V (L_v xs i 1) (RR_mi hR)) hiX7_potFor q1103 q1104 q1105 q1106 ⟨Nat.le_of_ble_eq_true rfl, Nat.le_of_ble_eq_true rfl⟩ rfl hl.1 rfl (Nat.le_of_ble_eq_true rfl) dL_law_742 hf (fun z2 M2 V2 H locs e3 e4 _ hw => ?_)
  have hp := p_potFor (L_v xs i 1) hR
  refine lv_icmp_eq (tgt := 1339) C.1.1 C.1.2.1 dL_law_745 (by decide) (fun _ => ?_) (fun hz => absurd (by rw [e1, e3]; exact hp.1) hz)
  exact kk S2 M2 V2 H locs (by rw [e2, e4]; exact hp.2) hw
theorem L_c20 (C : L_C p s m c b L i xs G) (hf : cells ≤ room_1.cells ∧ slots ≤ room_1.slots) (hR : RR S M) (hw : L_W G S M V s H locs) (hl : L_lv G b i ls)
    (kk : ∀ (S' M' : tt_St) (V' : Int64) (H1 : Heap) (locs1 : List Loc), RR S' M' → L_W G S' M' V' s H1 locs1 → W p l e room_1 s m #[Value.ref b] below meth c H1 locs1 cells slots Q (F0 m 1339 ls [])) : W p l e room_1 s m #[Value.ref b] below meth c H locs cells slots Q (F0 m 750 ls []) := by
  refine lv_aload_n C.1.1 C.1.2.1 dL_law_750 rfl (lv_at hl 2 rfl) ?_
  refine L_arg C hw hl 1 (by decide) dL_law_751 dL_law_752 dL_law_753 rfl dL_law_754 dL_law_755 ?_
  refine L_arg C hw hl 2 (by decide) dL_law_756 dL_law_757 dL_law_758 rfl dL_law_759 dL_law_760 ?_
  refine L_callC C.1 C.2.1 hw (k_X6_kindFor l G S (L_v xs i 1) (L_v xs i 2) (RR_ci hR)) hiX6_kindFor q546 q547 q548 q549 ⟨Nat.le_of_ble_eq_true rfl, Nat.le_of_ble_eq_true rfl⟩ rfl hl.1 rfl (Nat.le_of_ble_eq_true rfl) dL_law_761 hf (fun z1 S2 H locs e1 e2 hw => ?_)
  refine lv_aload_n C.1.1 C.1.2.1 dL_law_764 rfl (lv_at hl 1 rfl) ?_
  refine L_arg C hw hl 1 (by decide) dL_law_765 dL_law_766 dL_law_767 rfl dL_law_768 dL_law_769 ?_
  refine L_arg C hw hl 2 (by decide) dL_law_770 dL_law_771 dL_law_772 rfl dL_law_773 dL_law_774 ?_
  refine L_callM C.1 C.2.1 hw (k_X7_kindFor l G M V (L_v xs i 1) (L_v xs i 2) (RR_mi hR)) hiX7_kindFor q1107 q1108 q1109 q1110 ⟨Nat.le_of_ble_eq_true rfl, Nat.le_of_ble_eq_true rfl⟩ rfl hl.1 rfl (Nat.le_of_ble_eq_true rfl) dL_law_775 hf (fun z2 M2 V2 H locs e3 e4 _ hw => ?_)
  have hp := p_kindFor (L_v xs i 1) (L_v xs i 2) hR
  refine lv_icmp_eq (tgt := 1339) C.1.1 C.1.2.1 dL_law_778 (by decide) (fun _ => ?_) (fun hz => absurd (by rw [e1, e3]; exact hp.1) hz)
  exact kk S2 M2 V2 H locs (by rw [e2, e4]; exact hp.2) hw
theorem L_c21 (C : L_C p s m c b L i xs G) (hf : cells ≤ room_1.cells ∧ slots ≤ room_1.slots) (hR : RR S M) (hw : L_W G S M V s H locs) (hl : L_lv G b i ls)
    (kk : ∀ (S' M' : tt_St) (V' : Int64) (H1 : Heap) (locs1 : List Loc), RR S' M' → L_W G S' M' V' s H1 locs1 → W p l e room_1 s m #[Value.ref b] below meth c H1 locs1 cells slots Q (F0 m 1339 ls [])) : W p l e room_1 s m #[Value.ref b] below meth c H locs cells slots Q (F0 m 783 ls []) := by
  refine lv_aload_n C.1.1 C.1.2.1 dL_law_783 rfl (lv_at hl 2 rfl) ?_
  refine L_arg C hw hl 1 (by decide) dL_law_784 dL_law_785 dL_law_786 rfl dL_law_787 dL_law_788 ?_
  refine L_arg C hw hl 2 (by decide) dL_law_789 dL_law_790 dL_law_791 rfl dL_law_792 dL_law_793 ?_
  refine L_callC C.1 C.2.1 hw (k_X6_told l G S (L_v xs i 1) (L_v xs i 2) (RR_ci hR)) hiX6_told q550 q551 q552 q553 ⟨Nat.le_of_ble_eq_true rfl, Nat.le_of_ble_eq_true rfl⟩ rfl hl.1 rfl (Nat.le_of_ble_eq_true rfl) dL_law_794 hf (fun z1 S2 H locs e1 e2 hw => ?_)
  refine lv_aload_n C.1.1 C.1.2.1 dL_law_797 rfl (lv_at hl 1 rfl) ?_
  refine L_arg C hw hl 1 (by decide) dL_law_798 dL_law_799 dL_law_800 rfl dL_law_801 dL_law_802 ?_
  refine L_arg C hw hl 2 (by decide) dL_law_803 dL_law_804 dL_law_805 rfl dL_law_806 dL_law_807 ?_
  refine L_callM C.1 C.2.1 hw (k_X7_told l G M V (L_v xs i 1) (L_v xs i 2) (RR_mi hR)) hiX7_told q1111 q1112 q1113 q1114 ⟨Nat.le_of_ble_eq_true rfl, Nat.le_of_ble_eq_true rfl⟩ rfl hl.1 rfl (Nat.le_of_ble_eq_true rfl) dL_law_808 hf (fun z2 M2 V2 H locs e3 e4 _ hw => ?_)
  have hp := p_told (L_v xs i 1) (L_v xs i 2) hR
  refine lv_icmp_eq (tgt := 1339) C.1.1 C.1.2.1 dL_law_811 (by decide) (fun _ => ?_) (fun hz => absurd (by rw [e1, e3]; exact hp.1) hz)
  exact kk S2 M2 V2 H locs (by rw [e2, e4]; exact hp.2) hw
theorem L_c22 (C : L_C p s m c b L i xs G) (hf : cells ≤ room_1.cells ∧ slots ≤ room_1.slots) (hR : RR S M) (hw : L_W G S M V s H locs) (hl : L_lv G b i ls)
    (kk : ∀ (S' M' : tt_St) (V' : Int64) (H1 : Heap) (locs1 : List Loc), RR S' M' → L_W G S' M' V' s H1 locs1 → W p l e room_1 s m #[Value.ref b] below meth c H1 locs1 cells slots Q (F0 m 1339 ls [])) : W p l e room_1 s m #[Value.ref b] below meth c H locs cells slots Q (F0 m 816 ls []) := by
  refine lv_aload_n C.1.1 C.1.2.1 dL_law_816 rfl (lv_at hl 2 rfl) ?_
  refine L_arg C hw hl 1 (by decide) dL_law_817 dL_law_818 dL_law_819 rfl dL_law_820 dL_law_821 ?_
  refine L_callC C.1 C.2.1 hw (k_X6_uneven l G S (L_v xs i 1) (RR_ci hR)) hiX6_uneven q554 q555 q556 q557 ⟨Nat.le_of_ble_eq_true rfl, Nat.le_of_ble_eq_true rfl⟩ rfl hl.1 rfl (Nat.le_of_ble_eq_true rfl) dL_law_822 hf (fun z1 S2 H locs e1 e2 hw => ?_)
  refine lv_aload_n C.1.1 C.1.2.1 dL_law_825 rfl (lv_at hl 1 rfl) ?_
  refine L_arg C hw hl 1 (by decide) dL_law_826 dL_law_827 dL_law_828 rfl dL_law_829 dL_law_830 ?_
  refine L_callM C.1 C.2.1 hw (k_X7_uneven l G M V (L_v xs i 1) (RR_mi hR)) hiX7_uneven q1115 q1116 q1117 q1118 ⟨Nat.le_of_ble_eq_true rfl, Nat.le_of_ble_eq_true rfl⟩ rfl hl.1 rfl (Nat.le_of_ble_eq_true rfl) dL_law_831 hf (fun z2 M2 V2 H locs e3 e4 _ hw => ?_)
  have hp := p_uneven (L_v xs i 1) hR
  refine lv_icmp_eq (tgt := 1339) C.1.1 C.1.2.1 dL_law_834 (by decide) (fun _ => ?_) (fun hz => absurd (by rw [e1, e3]; exact hp.1) hz)
  exact kk S2 M2 V2 H locs (by rw [e2, e4]; exact hp.2) hw
theorem L_c23 (C : L_C p s m c b L i xs G) (hf : cells ≤ room_1.cells ∧ slots ≤ room_1.slots) (hR : RR S M) (hw : L_W G S M V s H locs) (hl : L_lv G b i ls)
    (kk : ∀ (S' M' : tt_St) (V' : Int64) (H1 : Heap) (locs1 : List Loc), RR S' M' → L_W G S' M' V' s H1 locs1 → W p l e room_1 s m #[Value.ref b] below meth c H1 locs1 cells slots Q (F0 m 1339 ls [])) : W p l e room_1 s m #[Value.ref b] below meth c H locs cells slots Q (F0 m 839 ls []) := by
  refine lv_aload_n C.1.1 C.1.2.1 dL_law_839 rfl (lv_at hl 2 rfl) ?_
  refine L_callC C.1 C.2.1 hw (k_X6_strokes l G S (RR_ci hR)) hiX6_strokes q566 q567 q568 q569 ⟨Nat.le_of_ble_eq_true rfl, Nat.le_of_ble_eq_true rfl⟩ rfl hl.1 rfl (Nat.le_of_ble_eq_true rfl) dL_law_840 hf (fun z1 S2 H locs e1 e2 hw => ?_)
  refine lv_aload_n C.1.1 C.1.2.1 dL_law_843 rfl (lv_at hl 1 rfl) ?_
  refine L_callM C.1 C.2.1 hw (k_X7_strokes l G M V (RR_mi hR)) hiX7_strokes q1123 q1124 q1125 q1126 ⟨Nat.le_of_ble_eq_true rfl, Nat.le_of_ble_eq_true rfl⟩ rfl hl.1 rfl (Nat.le_of_ble_eq_true rfl) dL_law_844 hf (fun z2 M2 V2 H locs e3 e4 _ hw => ?_)
  have hp := p_strokes hR
  refine lv_icmp_eq (tgt := 1339) C.1.1 C.1.2.1 dL_law_847 (by decide) (fun _ => ?_) (fun hz => absurd (by rw [e1, e3]; exact hp.1) hz)
  exact kk S2 M2 V2 H locs (by rw [e2, e4]; exact hp.2) hw
theorem L_c24 (C : L_C p s m c b L i xs G) (hf : cells ≤ room_1.cells ∧ slots ≤ room_1.slots) (hR : RR S M) (hw : L_W G S M V s H locs) (hl : L_lv G b i ls)
    (kk : ∀ (S' M' : tt_St) (V' : Int64) (H1 : Heap) (locs1 : List Loc), RR S' M' → L_W G S' M' V' s H1 locs1 → W p l e room_1 s m #[Value.ref b] below meth c H1 locs1 cells slots Q (F0 m 1339 ls [])) : W p l e room_1 s m #[Value.ref b] below meth c H locs cells slots Q (F0 m 852 ls []) := by
  refine lv_aload_n C.1.1 C.1.2.1 dL_law_852 rfl (lv_at hl 2 rfl) ?_
  refine L_callC C.1 C.2.1 hw (k_X6_lacks l G S (RR_ci hR)) hiX6_lacks q571 q572 q573 q574 ⟨Nat.le_of_ble_eq_true rfl, Nat.le_of_ble_eq_true rfl⟩ rfl hl.1 rfl (Nat.le_of_ble_eq_true rfl) dL_law_853 hf (fun z1 S2 H locs e1 e2 hw => ?_)
  refine lv_aload_n C.1.1 C.1.2.1 dL_law_856 rfl (lv_at hl 1 rfl) ?_
  refine L_callM C.1 C.2.1 hw (k_X7_lacks l G M V (RR_mi hR)) hiX7_lacks q1127 q1128 q1129 q1130 ⟨Nat.le_of_ble_eq_true rfl, Nat.le_of_ble_eq_true rfl⟩ rfl hl.1 rfl (Nat.le_of_ble_eq_true rfl) dL_law_857 hf (fun z2 M2 V2 H locs e3 e4 _ hw => ?_)
  have hp := (⟨p_lacks hR, hR⟩ : f6_lacks S = f7_lacks M ∧ RR S M)
  refine lv_icmp_eq (tgt := 1339) C.1.1 C.1.2.1 dL_law_860 (by decide) (fun _ => ?_) (fun hz => absurd (by rw [e1, e3]; exact hp.1) hz)
  exact kk S2 M2 V2 H locs (by rw [e2, e4]; exact hp.2) hw
theorem L_c25 (C : L_C p s m c b L i xs G) (hf : cells ≤ room_1.cells ∧ slots ≤ room_1.slots) (hR : RR S M) (hw : L_W G S M V s H locs) (hl : L_lv G b i ls)
    (kk : ∀ (S' M' : tt_St) (V' : Int64) (H1 : Heap) (locs1 : List Loc), RR S' M' → L_W G S' M' V' s H1 locs1 → W p l e room_1 s m #[Value.ref b] below meth c H1 locs1 cells slots Q (F0 m 1339 ls [])) : W p l e room_1 s m #[Value.ref b] below meth c H locs cells slots Q (F0 m 865 ls []) := by
  refine lv_aload_n C.1.1 C.1.2.1 dL_law_865 rfl (lv_at hl 2 rfl) ?_
  refine L_callC C.1 C.2.1 hw (k_X6_owes l G S (RR_ci hR)) hiX6_owes q575 q576 q577 q578 ⟨Nat.le_of_ble_eq_true rfl, Nat.le_of_ble_eq_true rfl⟩ rfl hl.1 rfl (Nat.le_of_ble_eq_true rfl) dL_law_866 hf (fun z1 S2 H locs e1 e2 hw => ?_)
  refine lv_aload_n C.1.1 C.1.2.1 dL_law_869 rfl (lv_at hl 1 rfl) ?_
  refine L_callM C.1 C.2.1 hw (k_X7_owes l G M V (RR_mi hR)) hiX7_owes q1131 q1132 q1133 q1134 ⟨Nat.le_of_ble_eq_true rfl, Nat.le_of_ble_eq_true rfl⟩ rfl hl.1 rfl (Nat.le_of_ble_eq_true rfl) dL_law_870 hf (fun z2 M2 V2 H locs e3 e4 _ hw => ?_)
  have hp := p_owes hR
  refine lv_icmp_eq (tgt := 1339) C.1.1 C.1.2.1 dL_law_873 (by decide) (fun _ => ?_) (fun hz => absurd (by rw [e1, e3]; exact hp.1) hz)
  exact kk S2 M2 V2 H locs (by rw [e2, e4]; exact hp.2) hw
theorem L_c26 (C : L_C p s m c b L i xs G) (hf : cells ≤ room_1.cells ∧ slots ≤ room_1.slots) (hR : RR S M) (hw : L_W G S M V s H locs) (hl : L_lv G b i ls)
    (kk : ∀ (S' M' : tt_St) (V' : Int64) (H1 : Heap) (locs1 : List Loc), RR S' M' → L_W G S' M' V' s H1 locs1 → W p l e room_1 s m #[Value.ref b] below meth c H1 locs1 cells slots Q (F0 m 1339 ls [])) : W p l e room_1 s m #[Value.ref b] below meth c H locs cells slots Q (F0 m 878 ls []) := by
  refine lv_aload_n C.1.1 C.1.2.1 dL_law_878 rfl (lv_at hl 2 rfl) ?_
  refine L_arg C hw hl 1 (by decide) dL_law_879 dL_law_880 dL_law_881 rfl dL_law_882 dL_law_883 ?_
  refine L_arg C hw hl 2 (by decide) dL_law_884 dL_law_885 dL_law_886 rfl dL_law_887 dL_law_888 ?_
  refine L_callC C.1 C.2.1 hw (k_X6_odds l G S (L_v xs i 1) (L_v xs i 2) (RR_ci hR)) hiX6_odds q583 q584 q585 q586 ⟨Nat.le_of_ble_eq_true rfl, Nat.le_of_ble_eq_true rfl⟩ rfl hl.1 rfl (Nat.le_of_ble_eq_true rfl) dL_law_889 hf (fun z1 S2 H locs e1 e2 hw => ?_)
  refine lv_aload_n C.1.1 C.1.2.1 dL_law_892 rfl (lv_at hl 1 rfl) ?_
  refine L_arg C hw hl 1 (by decide) dL_law_893 dL_law_894 dL_law_895 rfl dL_law_896 dL_law_897 ?_
  refine L_arg C hw hl 2 (by decide) dL_law_898 dL_law_899 dL_law_900 rfl dL_law_901 dL_law_902 ?_
  refine L_callM C.1 C.2.1 hw (k_X7_odds l G M V (L_v xs i 1) (L_v xs i 2) (RR_mi hR)) hiX7_odds q1135 q1136 q1137 q1138 ⟨Nat.le_of_ble_eq_true rfl, Nat.le_of_ble_eq_true rfl⟩ rfl hl.1 rfl (Nat.le_of_ble_eq_true rfl) dL_law_903 hf (fun z2 M2 V2 H locs e3 e4 _ hw => ?_)
  have hp := p_odds (L_v xs i 1) (L_v xs i 2) hR
  refine lv_icmp_eq (tgt := 1339) C.1.1 C.1.2.1 dL_law_906 (by decide) (fun _ => ?_) (fun hz => absurd (by rw [e1, e3]; exact hp.1) hz)
  exact kk S2 M2 V2 H locs (by rw [e2, e4]; exact hp.2) hw
end LD
