/-! the law's cases 27 to 35 -/
section LD
variable {p : Program} {l : Launch} {e : Env} {s : State} {m : MethodId} {below : List Frame} {meth : Method} {c : Code} {b L i : Nat} {xs : Nat → Int32} {G : tt_G} {S M : tt_St} {V : Int64} {H : Heap} {locs : List Loc} {cells slots : Nat} {Q : State → Prop} {pc index : Nat} {ls : Array Slot} {rest : List Value}
theorem L_c27 (C : L_C p s m c b L i xs G) (hf : cells ≤ room_1.cells ∧ slots ≤ room_1.slots) (hR : RR S M) (hw : L_W G S M V s H locs) (hl : L_lv G b i ls)
    (kk : ∀ (S' M' : tt_St) (V' : Int64) (H1 : Heap) (locs1 : List Loc), RR S' M' → L_W G S' M' V' s H1 locs1 → W p l e room_1 s m #[Value.ref b] below meth c H1 locs1 cells slots Q (F0 m 1339 ls [])) : W p l e room_1 s m #[Value.ref b] below meth c H locs cells slots Q (F0 m 911 ls []) := by
  refine lv_aload_n C.1.1 C.1.2.1 dL_law_911 rfl (lv_at hl 2 rfl) ?_
  refine L_arg C hw hl 1 (by decide) dL_law_912 dL_law_913 dL_law_914 rfl dL_law_915 dL_law_916 ?_
  refine L_callC C.1 C.2.1 hw (k_X6_seed l G S (L_v xs i 1) (RR_ci hR)) hiX6_seed q587 q588 q589 q590 ⟨Nat.le_of_ble_eq_true rfl, Nat.le_of_ble_eq_true rfl⟩ rfl hl.1 rfl (Nat.le_of_ble_eq_true rfl) dL_law_917 hf (fun z1 S2 H locs e1 e2 hw => ?_)
  refine lv_aload_n C.1.1 C.1.2.1 dL_law_920 rfl (lv_at hl 1 rfl) ?_
  refine L_arg C hw hl 1 (by decide) dL_law_921 dL_law_922 dL_law_923 rfl dL_law_924 dL_law_925 ?_
  refine L_callM C.1 C.2.1 hw (k_X7_seed l G M V (L_v xs i 1) (RR_mi hR)) hiX7_seed q1139 q1140 q1141 q1142 ⟨Nat.le_of_ble_eq_true rfl, Nat.le_of_ble_eq_true rfl⟩ rfl hl.1 rfl (Nat.le_of_ble_eq_true rfl) dL_law_926 hf (fun z2 M2 V2 H locs e3 e4 _ hw => ?_)
  have hp := p_seed (L_v xs i 1) hR
  refine lv_icmp_eq (tgt := 1339) C.1.1 C.1.2.1 dL_law_929 (by decide) (fun _ => ?_) (fun hz => absurd (by rw [e1, e3]; exact hp.1) hz)
  exact kk S2 M2 V2 H locs (by rw [e2, e4]; exact hp.2) hw
theorem L_c28 (C : L_C p s m c b L i xs G) (hf : cells ≤ room_1.cells ∧ slots ≤ room_1.slots) (hR : RR S M) (hw : L_W G S M V s H locs) (hl : L_lv G b i ls)
    (kk : ∀ (S' M' : tt_St) (V' : Int64) (H1 : Heap) (locs1 : List Loc), RR S' M' → L_W G S' M' V' s H1 locs1 → W p l e room_1 s m #[Value.ref b] below meth c H1 locs1 cells slots Q (F0 m 1339 ls [])) : W p l e room_1 s m #[Value.ref b] below meth c H locs cells slots Q (F0 m 934 ls []) := by
  refine lv_aload_n C.1.1 C.1.2.1 dL_law_934 rfl (lv_at hl 2 rfl) ?_
  refine L_arg C hw hl 1 (by decide) dL_law_935 dL_law_936 dL_law_937 rfl dL_law_938 dL_law_939 ?_
  refine L_arg C hw hl 2 (by decide) dL_law_940 dL_law_941 dL_law_942 rfl dL_law_943 dL_law_944 ?_
  refine L_callC C.1 C.2.1 hw (k_X6_feed l G S (L_v xs i 1) (L_v xs i 2) (RR_ci hR)) hiX6_feed q591 q592 q593 q594 ⟨Nat.le_of_ble_eq_true rfl, Nat.le_of_ble_eq_true rfl⟩ rfl hl.1 rfl (Nat.le_of_ble_eq_true rfl) dL_law_945 hf (fun z1 S2 H locs e1 e2 hw => ?_)
  refine lv_aload_n C.1.1 C.1.2.1 dL_law_948 rfl (lv_at hl 1 rfl) ?_
  refine L_arg C hw hl 1 (by decide) dL_law_949 dL_law_950 dL_law_951 rfl dL_law_952 dL_law_953 ?_
  refine L_arg C hw hl 2 (by decide) dL_law_954 dL_law_955 dL_law_956 rfl dL_law_957 dL_law_958 ?_
  refine L_callM C.1 C.2.1 hw (k_X7_feed l G M V (L_v xs i 1) (L_v xs i 2) (RR_mi hR)) hiX7_feed q1143 q1144 q1145 q1146 ⟨Nat.le_of_ble_eq_true rfl, Nat.le_of_ble_eq_true rfl⟩ rfl hl.1 rfl (Nat.le_of_ble_eq_true rfl) dL_law_959 hf (fun z2 M2 V2 H locs e3 e4 _ hw => ?_)
  have hp := p_feed (L_v xs i 1) (L_v xs i 2) hR
  refine lv_icmp_eq (tgt := 1339) C.1.1 C.1.2.1 dL_law_962 (by decide) (fun _ => ?_) (fun hz => absurd (by rw [e1, e3]; exact hp.1) hz)
  exact kk S2 M2 V2 H locs (by rw [e2, e4]; exact hp.2) hw
theorem L_c29 (C : L_C p s m c b L i xs G) (hf : cells ≤ room_1.cells ∧ slots ≤ room_1.slots) (hR : RR S M) (hw : L_W G S M V s H locs) (hl : L_lv G b i ls)
    (kk : ∀ (S' M' : tt_St) (V' : Int64) (H1 : Heap) (locs1 : List Loc), RR S' M' → L_W G S' M' V' s H1 locs1 → W p l e room_1 s m #[Value.ref b] below meth c H1 locs1 cells slots Q (F0 m 1339 ls [])) : W p l e room_1 s m #[Value.ref b] below meth c H locs cells slots Q (F0 m 967 ls []) := by
  refine lv_aload_n C.1.1 C.1.2.1 dL_law_967 rfl (lv_at hl 2 rfl) ?_
  refine L_callC C.1 C.2.1 hw (k_X6_wipe l G S (RR_ci hR)) hiX6_wipe q599 q600 q601 q602 ⟨Nat.le_of_ble_eq_true rfl, Nat.le_of_ble_eq_true rfl⟩ rfl hl.1 rfl (Nat.le_of_ble_eq_true rfl) dL_law_968 hf (fun z1 S2 H locs e1 e2 hw => ?_)
  refine lv_aload_n C.1.1 C.1.2.1 dL_law_971 rfl (lv_at hl 1 rfl) ?_
  refine L_callM C.1 C.2.1 hw (k_X7_wipe l G M V (RR_mi hR)) hiX7_wipe q1148 q1149 q1150 q1151 ⟨Nat.le_of_ble_eq_true rfl, Nat.le_of_ble_eq_true rfl⟩ rfl hl.1 rfl (Nat.le_of_ble_eq_true rfl) dL_law_972 hf (fun z2 M2 V2 H locs e3 e4 _ hw => ?_)
  have hp := p_wipe hR
  refine lv_icmp_eq (tgt := 1339) C.1.1 C.1.2.1 dL_law_975 (by decide) (fun _ => ?_) (fun hz => absurd (by rw [e1, e3]; exact hp.1) hz)
  exact kk S2 M2 V2 H locs (by rw [e2, e4]; exact hp.2) hw
theorem L_c30 (C : L_C p s m c b L i xs G) (hf : cells ≤ room_1.cells ∧ slots ≤ room_1.slots) (hR : RR S M) (hw : L_W G S M V s H locs) (hl : L_lv G b i ls)
    (kk : ∀ (S' M' : tt_St) (V' : Int64) (H1 : Heap) (locs1 : List Loc), RR S' M' → L_W G S' M' V' s H1 locs1 → W p l e room_1 s m #[Value.ref b] below meth c H1 locs1 cells slots Q (F0 m 1339 ls [])) : W p l e room_1 s m #[Value.ref b] below meth c H locs cells slots Q (F0 m 980 ls []) := by
  refine lv_aload_n C.1.1 C.1.2.1 dL_law_980 rfl (lv_at hl 2 rfl) ?_
  refine L_callC C.1 C.2.1 hw (k_X6_text l G S (RR_ci hR)) hiX6_text q603 q604 q605 q606 ⟨Nat.le_of_ble_eq_true rfl, Nat.le_of_ble_eq_true rfl⟩ rfl hl.1 rfl (Nat.le_of_ble_eq_true rfl) dL_law_981 hf (fun z1 S2 H locs e1 e2 hw => ?_)
  refine lv_aload_n C.1.1 C.1.2.1 dL_law_984 rfl (lv_at hl 1 rfl) ?_
  refine L_callM C.1 C.2.1 hw (k_X7_text l G M V (RR_mi hR) hR.2.2.2.2.2) hiX7_text q1152 q1153 q1154 q1155 ⟨Nat.le_of_ble_eq_true rfl, Nat.le_of_ble_eq_true rfl⟩ rfl hl.1 rfl (Nat.le_of_ble_eq_true rfl) dL_law_985 hf (fun z2 M2 V2 H locs e3 e4 _ hw => ?_)
  have hp := p_text V hR
  refine lv_icmp_eq (tgt := 1339) C.1.1 C.1.2.1 dL_law_988 (by decide) (fun _ => ?_) (fun hz => absurd (by rw [e1, e3]; exact hp.1) hz)
  exact kk S2 M2 V2 H locs (by rw [e2, e4]; exact hp.2) hw
theorem L_c31 (C : L_C p s m c b L i xs G) (hf : cells ≤ room_1.cells ∧ slots ≤ room_1.slots) (hR : RR S M) (hw : L_W G S M V s H locs) (hl : L_lv G b i ls)
    (kk : ∀ (S' M' : tt_St) (V' : Int64) (H1 : Heap) (locs1 : List Loc), RR S' M' → L_W G S' M' V' s H1 locs1 → W p l e room_1 s m #[Value.ref b] below meth c H1 locs1 cells slots Q (F0 m 1339 ls [])) : W p l e room_1 s m #[Value.ref b] below meth c H locs cells slots Q (F0 m 993 ls []) := by
  refine lv_aload_n C.1.1 C.1.2.1 dL_law_993 rfl (lv_at hl 2 rfl) ?_
  refine L_arg C hw hl 1 (by decide) dL_law_994 dL_law_995 dL_law_996 rfl dL_law_997 dL_law_998 ?_
  refine L_arg C hw hl 2 (by decide) dL_law_999 dL_law_1000 dL_law_1001 rfl dL_law_1002 dL_law_1003 ?_
  refine L_callC C.1 C.2.1 hw (k_X6_hold l G S (L_v xs i 1) (L_v xs i 2) (RR_ci hR)) hiX6_hold q743 q744 q745 q746 ⟨Nat.le_of_ble_eq_true rfl, Nat.le_of_ble_eq_true rfl⟩ rfl hl.1 rfl (Nat.le_of_ble_eq_true rfl) dL_law_1004 hf (fun z1 S2 H locs e1 e2 hw => ?_)
  refine lv_aload_n C.1.1 C.1.2.1 dL_law_1007 rfl (lv_at hl 1 rfl) ?_
  refine L_arg C hw hl 1 (by decide) dL_law_1008 dL_law_1009 dL_law_1010 rfl dL_law_1011 dL_law_1012 ?_
  refine L_arg C hw hl 2 (by decide) dL_law_1013 dL_law_1014 dL_law_1015 rfl dL_law_1016 dL_law_1017 ?_
  refine L_callM C.1 C.2.1 hw (k_X7_hold l G M V (L_v xs i 1) (L_v xs i 2) (RR_mi hR)) hiX7_hold q1235 q1236 q1237 q1238 ⟨Nat.le_of_ble_eq_true rfl, Nat.le_of_ble_eq_true rfl⟩ rfl hl.1 rfl (Nat.le_of_ble_eq_true rfl) dL_law_1018 hf (fun z2 M2 V2 H locs e3 e4 _ hw => ?_)
  have hp := p_hold (L_v xs i 1) (L_v xs i 2) hR
  refine lv_icmp_eq (tgt := 1339) C.1.1 C.1.2.1 dL_law_1021 (by decide) (fun _ => ?_) (fun hz => absurd (by rw [e1, e3]; exact hp.1) hz)
  exact kk S2 M2 V2 H locs (by rw [e2, e4]; exact hp.2) hw
theorem L_c32 (C : L_C p s m c b L i xs G) (hf : cells ≤ room_1.cells ∧ slots ≤ room_1.slots) (hR : RR S M) (hw : L_W G S M V s H locs) (hl : L_lv G b i ls)
    (kk : ∀ (S' M' : tt_St) (V' : Int64) (H1 : Heap) (locs1 : List Loc), RR S' M' → L_W G S' M' V' s H1 locs1 → W p l e room_1 s m #[Value.ref b] below meth c H1 locs1 cells slots Q (F0 m 1339 ls [])) : W p l e room_1 s m #[Value.ref b] below meth c H locs cells slots Q (F0 m 1026 ls []) := by
  refine lv_aload_n C.1.1 C.1.2.1 dL_law_1026 rfl (lv_at hl 2 rfl) ?_
  refine L_arg C hw hl 1 (by decide) dL_law_1027 dL_law_1028 dL_law_1029 rfl dL_law_1030 dL_law_1031 ?_
  refine L_arg C hw hl 2 (by decide) dL_law_1032 dL_law_1033 dL_law_1034 rfl dL_law_1035 dL_law_1036 ?_
  refine L_callC C.1 C.2.1 hw (k_X6_as l G S (L_v xs i 1) (L_v xs i 2) (RR_ci hR)) hiX6_as q747 q748 q749 q750 ⟨Nat.le_of_ble_eq_true rfl, Nat.le_of_ble_eq_true rfl⟩ rfl hl.1 rfl (Nat.le_of_ble_eq_true rfl) dL_law_1037 hf (fun z1 S2 H locs e1 e2 hw => ?_)
  refine lv_aload_n C.1.1 C.1.2.1 dL_law_1040 rfl (lv_at hl 1 rfl) ?_
  refine L_arg C hw hl 1 (by decide) dL_law_1041 dL_law_1042 dL_law_1043 rfl dL_law_1044 dL_law_1045 ?_
  refine L_arg C hw hl 2 (by decide) dL_law_1046 dL_law_1047 dL_law_1048 rfl dL_law_1049 dL_law_1050 ?_
  refine L_callM C.1 C.2.1 hw (k_X7_as l G M V (L_v xs i 1) (L_v xs i 2) (RR_mi hR)) hiX7_as q1239 q1240 q1241 q1242 ⟨Nat.le_of_ble_eq_true rfl, Nat.le_of_ble_eq_true rfl⟩ rfl hl.1 rfl (Nat.le_of_ble_eq_true rfl) dL_law_1051 hf (fun z2 M2 V2 H locs e3 e4 _ hw => ?_)
  have hp := p_as (L_v xs i 1) (L_v xs i 2) hR
  refine lv_icmp_eq (tgt := 1339) C.1.1 C.1.2.1 dL_law_1054 (by decide) (fun _ => ?_) (fun hz => absurd (by rw [e1, e3]; exact hp.1) hz)
  exact kk S2 M2 V2 H locs (by rw [e2, e4]; exact hp.2) hw
theorem L_c33 (C : L_C p s m c b L i xs G) (hf : cells ≤ room_1.cells ∧ slots ≤ room_1.slots) (hR : RR S M) (hw : L_W G S M V s H locs) (hl : L_lv G b i ls)
    (kk : ∀ (S' M' : tt_St) (V' : Int64) (H1 : Heap) (locs1 : List Loc), RR S' M' → L_W G S' M' V' s H1 locs1 → W p l e room_1 s m #[Value.ref b] below meth c H1 locs1 cells slots Q (F0 m 1339 ls [])) : W p l e room_1 s m #[Value.ref b] below meth c H locs cells slots Q (F0 m 1059 ls []) := by
  refine lv_aload_n C.1.1 C.1.2.1 dL_law_1059 rfl (lv_at hl 2 rfl) ?_
  refine L_arg C hw hl 1 (by decide) dL_law_1060 dL_law_1061 dL_law_1062 rfl dL_law_1063 dL_law_1064 ?_
  refine L_arg C hw hl 2 (by decide) dL_law_1065 dL_law_1066 dL_law_1067 rfl dL_law_1068 dL_law_1069 ?_
  refine L_arg C hw hl 3 (by decide) dL_law_1070 dL_law_1071 dL_law_1072 rfl dL_law_1073 dL_law_1074 ?_
  refine L_callC C.1 C.2.1 hw (k_X6_sheet l G S (L_v xs i 1) (L_v xs i 2) (L_v xs i 3) (RR_ci hR)) hiX6_sheet q756 q757 q758 q759 ⟨Nat.le_of_ble_eq_true rfl, Nat.le_of_ble_eq_true rfl⟩ rfl hl.1 rfl (Nat.le_of_ble_eq_true rfl) dL_law_1075 hf (fun z1 S2 H locs e1 e2 hw => ?_)
  refine lv_aload_n C.1.1 C.1.2.1 dL_law_1078 rfl (lv_at hl 1 rfl) ?_
  refine L_arg C hw hl 1 (by decide) dL_law_1079 dL_law_1080 dL_law_1081 rfl dL_law_1082 dL_law_1083 ?_
  refine L_arg C hw hl 2 (by decide) dL_law_1084 dL_law_1085 dL_law_1086 rfl dL_law_1087 dL_law_1088 ?_
  refine L_arg C hw hl 3 (by decide) dL_law_1089 dL_law_1090 dL_law_1091 rfl dL_law_1092 dL_law_1093 ?_
  refine L_callM C.1 C.2.1 hw (k_X7_sheet l G M V (L_v xs i 1) (L_v xs i 2) (L_v xs i 3) (RR_mi hR)) hiX7_sheet q1246 q1247 q1248 q1249 ⟨Nat.le_of_ble_eq_true rfl, Nat.le_of_ble_eq_true rfl⟩ rfl hl.1 rfl (Nat.le_of_ble_eq_true rfl) dL_law_1094 hf (fun z2 M2 V2 H locs e3 e4 _ hw => ?_)
  have hp := p_sheet (L_v xs i 1) (L_v xs i 2) (L_v xs i 3) hR
  refine lv_icmp_eq (tgt := 1339) C.1.1 C.1.2.1 dL_law_1097 (by decide) (fun _ => ?_) (fun hz => absurd (by rw [e1, e3]; exact hp.1) hz)
  exact kk S2 M2 V2 H locs (by rw [e2, e4]; exact hp.2) hw
theorem L_c34 (C : L_C p s m c b L i xs G) (hf : cells ≤ room_1.cells ∧ slots ≤ room_1.slots) (hR : RR S M) (hw : L_W G S M V s H locs) (hl : L_lv G b i ls)
    (kk : ∀ (S' M' : tt_St) (V' : Int64) (H1 : Heap) (locs1 : List Loc), RR S' M' → L_W G S' M' V' s H1 locs1 → W p l e room_1 s m #[Value.ref b] below meth c H1 locs1 cells slots Q (F0 m 1339 ls [])) : W p l e room_1 s m #[Value.ref b] below meth c H locs cells slots Q (F0 m 1102 ls []) := by
  refine lv_aload_n C.1.1 C.1.2.1 dL_law_1102 rfl (lv_at hl 2 rfl) ?_
  refine L_arg C hw hl 1 (by decide) dL_law_1103 dL_law_1104 dL_law_1105 rfl dL_law_1106 dL_law_1107 ?_
  refine L_arg C hw hl 2 (by decide) dL_law_1108 dL_law_1109 dL_law_1110 rfl dL_law_1111 dL_law_1112 ?_
  refine L_arg C hw hl 3 (by decide) dL_law_1113 dL_law_1114 dL_law_1115 rfl dL_law_1116 dL_law_1117 ?_
  refine L_callC C.1 C.2.1 hw (k_X6_write l G S (L_v xs i 1) (L_v xs i 2) (L_v xs i 3) (RR_ci hR)) hiX6_write q767 q768 q769 q770 ⟨Nat.le_of_ble_eq_true rfl, Nat.le_of_ble_eq_true rfl⟩ rfl hl.1 rfl (Nat.le_of_ble_eq_true rfl) dL_law_1118 hf (fun z1 S2 H locs e1 e2 hw => ?_)
  refine lv_aload_n C.1.1 C.1.2.1 dL_law_1121 rfl (lv_at hl 1 rfl) ?_
  refine L_arg C hw hl 1 (by decide) dL_law_1122 dL_law_1123 dL_law_1124 rfl dL_law_1125 dL_law_1126 ?_
  refine L_arg C hw hl 2 (by decide) dL_law_1127 dL_law_1128 dL_law_1129 rfl dL_law_1130 dL_law_1131 ?_
  refine L_arg C hw hl 3 (by decide) dL_law_1132 dL_law_1133 dL_law_1134 rfl dL_law_1135 dL_law_1136 ?_
  refine L_callM C.1 C.2.1 hw (k_X7_write l G M V (L_v xs i 1) (L_v xs i 2) (L_v xs i 3) (RR_mi hR)) hiX7_write q1254 q1255 q1256 q1257 ⟨Nat.le_of_ble_eq_true rfl, Nat.le_of_ble_eq_true rfl⟩ rfl hl.1 rfl (Nat.le_of_ble_eq_true rfl) dL_law_1137 hf (fun z2 M2 V2 H locs e3 e4 _ hw => ?_)
  have hp := p_write (L_v xs i 1) (L_v xs i 2) (L_v xs i 3) hR
  refine lv_icmp_eq (tgt := 1339) C.1.1 C.1.2.1 dL_law_1140 (by decide) (fun _ => ?_) (fun hz => absurd (by rw [e1, e3]; exact hp.1) hz)
  exact kk S2 M2 V2 H locs (by rw [e2, e4]; exact hp.2) hw
theorem L_c35 (C : L_C p s m c b L i xs G) (hf : cells ≤ room_1.cells ∧ slots ≤ room_1.slots) (hR : RR S M) (hw : L_W G S M V s H locs) (hl : L_lv G b i ls)
    (kk : ∀ (S' M' : tt_St) (V' : Int64) (H1 : Heap) (locs1 : List Loc), RR S' M' → L_W G S' M' V' s H1 locs1 → W p l e room_1 s m #[Value.ref b] below meth c H1 locs1 cells slots Q (F0 m 1339 ls [])) : W p l e room_1 s m #[Value.ref b] below meth c H locs cells slots Q (F0 m 1145 ls []) := by
  refine lv_aload_n C.1.1 C.1.2.1 dL_law_1145 rfl (lv_at hl 2 rfl) ?_
  refine L_arg C hw hl 1 (by decide) dL_law_1146 dL_law_1147 dL_law_1148 rfl dL_law_1149 dL_law_1150 ?_
  refine L_arg C hw hl 2 (by decide) dL_law_1151 dL_law_1152 dL_law_1153 rfl dL_law_1154 dL_law_1155 ?_
  refine L_arg C hw hl 3 (by decide) dL_law_1156 dL_law_1157 dL_law_1158 rfl dL_law_1159 dL_law_1160 ?_
  refine L_arg C hw hl 4 (by decide) dL_law_1161 dL_law_1162 dL_law_1163 rfl dL_law_1164 dL_law_1165 ?_
  refine L_arg C hw hl 5 (by decide) dL_law_1166 dL_law_1167 dL_law_1168 rfl dL_law_1169 dL_law_1170 ?_
  refine L_callC C.1 C.2.1 hw (k_X6_copy l G S (L_v xs i 1) (L_v xs i 2) (L_v xs i 3) (L_v xs i 4) (L_v xs i 5) (RR_ci hR)) hiX6_copy q779 q780 q781 q782 ⟨Nat.le_of_ble_eq_true rfl, Nat.le_of_ble_eq_true rfl⟩ rfl hl.1 rfl (Nat.le_of_ble_eq_true rfl) dL_law_1171 hf (fun z1 S2 H locs e1 e2 hw => ?_)
  refine lv_aload_n C.1.1 C.1.2.1 dL_law_1174 rfl (lv_at hl 1 rfl) ?_
  refine L_arg C hw hl 1 (by decide) dL_law_1175 dL_law_1176 dL_law_1177 rfl dL_law_1178 dL_law_1179 ?_
  refine L_arg C hw hl 2 (by decide) dL_law_1180 dL_law_1181 dL_law_1182 rfl dL_law_1183 dL_law_1184 ?_
  refine L_arg C hw hl 3 (by decide) dL_law_1185 dL_law_1186 dL_law_1187 rfl dL_law_1188 dL_law_1189 ?_
  refine L_arg C hw hl 4 (by decide) dL_law_1190 dL_law_1191 dL_law_1192 rfl dL_law_1193 dL_law_1194 ?_
  refine L_arg C hw hl 5 (by decide) dL_law_1195 dL_law_1196 dL_law_1197 rfl dL_law_1198 dL_law_1199 ?_
  refine L_callM C.1 C.2.1 hw (k_X7_copy l G M V (L_v xs i 1) (L_v xs i 2) (L_v xs i 3) (L_v xs i 4) (L_v xs i 5) (RR_mi hR)) hiX7_copy q1258 q1259 q1260 q1261 ⟨Nat.le_of_ble_eq_true rfl, Nat.le_of_ble_eq_true rfl⟩ rfl hl.1 rfl (Nat.le_of_ble_eq_true rfl) dL_law_1200 hf (fun z2 M2 V2 H locs e3 e4 _ hw => ?_)
  have hp := p_copy (L_v xs i 1) (L_v xs i 2) (L_v xs i 3) (L_v xs i 4) (L_v xs i 5) hR
  refine lv_icmp_eq (tgt := 1339) C.1.1 C.1.2.1 dL_law_1203 (by decide) (fun _ => ?_) (fun hz => absurd (by rw [e1, e3]; exact hp.1) hz)
  exact kk S2 M2 V2 H locs (by rw [e2, e4]; exact hp.2) hw
end LD
