/-! the law's cases 36 to 42 -/
section LD
variable {p : Program} {l : Launch} {e : Env} {s : State} {m : MethodId} {below : List Frame} {meth : Method} {c : Code} {b L i : Nat} {xs : Nat → Int32} {G : tt_G} {S M : tt_St} {V : Int64} {H : Heap} {locs : List Loc} {cells slots : Nat} {Q : State → Prop} {pc index : Nat} {ls : Array Slot} {rest : List Value}
theorem L_c36 (C : L_C p s m c b L i xs G) (hf : cells ≤ room_1.cells ∧ slots ≤ room_1.slots) (hR : RR S M) (hw : L_W G S M V s H locs) (hl : L_lv G b i ls)
    (kk : ∀ (S' M' : tt_St) (V' : Int64) (H1 : Heap) (locs1 : List Loc), RR S' M' → L_W G S' M' V' s H1 locs1 → W p l e room_1 s m #[Value.ref b] below meth c H1 locs1 cells slots Q (F0 m 1339 ls [])) : W p l e room_1 s m #[Value.ref b] below meth c H locs cells slots Q (F0 m 1208 ls []) := by
  refine lv_aload_n C.1.1 C.1.2.1 dL_law_1208 rfl (lv_at hl 2 rfl) ?_
  refine L_arg C hw hl 1 (by decide) dL_law_1209 dL_law_1210 dL_law_1211 rfl dL_law_1212 dL_law_1213 ?_
  refine L_callC C.1 C.2.1 hw (k_X6_load l G S (L_v xs i 1) (RR_ci hR)) hiX6_load q788 q789 q790 q791 ⟨Nat.le_of_ble_eq_true rfl, Nat.le_of_ble_eq_true rfl⟩ rfl hl.1 rfl (Nat.le_of_ble_eq_true rfl) dL_law_1214 hf (fun z1 S2 H locs e1 e2 hw => ?_)
  refine lv_aload_n C.1.1 C.1.2.1 dL_law_1217 rfl (lv_at hl 1 rfl) ?_
  refine L_arg C hw hl 1 (by decide) dL_law_1218 dL_law_1219 dL_law_1220 rfl dL_law_1221 dL_law_1222 ?_
  refine L_callM C.1 C.2.1 hw (k_X7_load l G M V (L_v xs i 1) (RR_mi hR)) hiX7_load q1262 q1263 q1264 q1265 ⟨Nat.le_of_ble_eq_true rfl, Nat.le_of_ble_eq_true rfl⟩ rfl hl.1 rfl (Nat.le_of_ble_eq_true rfl) dL_law_1223 hf (fun z2 M2 V2 H locs e3 e4 _ hw => ?_)
  have hp := p_load (L_v xs i 1) hR
  refine lv_icmp_eq (tgt := 1339) C.1.1 C.1.2.1 dL_law_1226 (by decide) (fun _ => ?_) (fun hz => absurd (by rw [e1, e3]; exact hp.1) hz)
  exact kk S2 M2 V2 H locs (by rw [e2, e4]; exact hp.2) hw
theorem L_c37 (C : L_C p s m c b L i xs G) (hf : cells ≤ room_1.cells ∧ slots ≤ room_1.slots) (hR : RR S M) (hw : L_W G S M V s H locs) (hl : L_lv G b i ls)
    (kk : ∀ (S' M' : tt_St) (V' : Int64) (H1 : Heap) (locs1 : List Loc), RR S' M' → L_W G S' M' V' s H1 locs1 → W p l e room_1 s m #[Value.ref b] below meth c H1 locs1 cells slots Q (F0 m 1339 ls [])) : W p l e room_1 s m #[Value.ref b] below meth c H locs cells slots Q (F0 m 1231 ls []) := by
  refine lv_aload_n C.1.1 C.1.2.1 dL_law_1231 rfl (lv_at hl 2 rfl) ?_
  refine L_arg C hw hl 1 (by decide) dL_law_1232 dL_law_1233 dL_law_1234 rfl dL_law_1235 dL_law_1236 ?_
  refine L_callC C.1 C.2.1 hw (k_X6_judge l G S (L_v xs i 1) (RR_ci hR)) hiX6_judge q792 q793 q794 q795 ⟨Nat.le_of_ble_eq_true rfl, Nat.le_of_ble_eq_true rfl⟩ rfl hl.1 rfl (Nat.le_of_ble_eq_true rfl) dL_law_1237 hf (fun z1 S2 H locs e1 e2 hw => ?_)
  refine lv_aload_n C.1.1 C.1.2.1 dL_law_1240 rfl (lv_at hl 1 rfl) ?_
  refine L_arg C hw hl 1 (by decide) dL_law_1241 dL_law_1242 dL_law_1243 rfl dL_law_1244 dL_law_1245 ?_
  refine L_callM C.1 C.2.1 hw (k_X7_judge l G M V (L_v xs i 1) (RR_mi hR)) hiX7_judge q1270 q1271 q1272 q1273 ⟨Nat.le_of_ble_eq_true rfl, Nat.le_of_ble_eq_true rfl⟩ rfl hl.1 rfl (Nat.le_of_ble_eq_true rfl) dL_law_1246 hf (fun z2 M2 V2 H locs e3 e4 _ hw => ?_)
  have hp := p_judge (L_v xs i 1) hR
  refine lv_icmp_eq (tgt := 1339) C.1.1 C.1.2.1 dL_law_1249 (by decide) (fun _ => ?_) (fun hz => absurd (by rw [e1, e3]; exact hp.1) hz)
  exact kk S2 M2 V2 H locs (by rw [e2, e4]; exact hp.2) hw
theorem L_c38 (C : L_C p s m c b L i xs G) (hf : cells ≤ room_1.cells ∧ slots ≤ room_1.slots) (hR : RR S M) (hw : L_W G S M V s H locs) (hl : L_lv G b i ls)
    (kk : ∀ (S' M' : tt_St) (V' : Int64) (H1 : Heap) (locs1 : List Loc), RR S' M' → L_W G S' M' V' s H1 locs1 → W p l e room_1 s m #[Value.ref b] below meth c H1 locs1 cells slots Q (F0 m 1339 ls [])) : W p l e room_1 s m #[Value.ref b] below meth c H locs cells slots Q (F0 m 1254 ls []) := by
  refine lv_aload_n C.1.1 C.1.2.1 dL_law_1254 rfl (lv_at hl 2 rfl) ?_
  refine L_callC C.1 C.2.1 hw (k_X6_image l G S (RR_ci hR)) hiX6_image q796 q797 q798 q799 ⟨Nat.le_of_ble_eq_true rfl, Nat.le_of_ble_eq_true rfl⟩ rfl hl.1 rfl (Nat.le_of_ble_eq_true rfl) dL_law_1255 hf (fun z1 S2 H locs e1 e2 hw => ?_)
  refine lv_aload_n C.1.1 C.1.2.1 dL_law_1258 rfl (lv_at hl 1 rfl) ?_
  refine L_callM C.1 C.2.1 hw (k_X7_image l G M V (RR_mi hR)) hiX7_image q1274 q1275 q1276 q1277 ⟨Nat.le_of_ble_eq_true rfl, Nat.le_of_ble_eq_true rfl⟩ rfl hl.1 rfl (Nat.le_of_ble_eq_true rfl) dL_law_1259 hf (fun z2 M2 V2 H locs e3 e4 _ hw => ?_)
  have hp := p_image hR
  refine lv_icmp_eq (tgt := 1339) C.1.1 C.1.2.1 dL_law_1262 (by decide) (fun _ => ?_) (fun hz => absurd (by rw [e1, e3]; exact hp.1) hz)
  exact kk S2 M2 V2 H locs (by rw [e2, e4]; exact hp.2) hw
theorem L_c39 (C : L_C p s m c b L i xs G) (hf : cells ≤ room_1.cells ∧ slots ≤ room_1.slots) (hR : RR S M) (hw : L_W G S M V s H locs) (hl : L_lv G b i ls)
    (kk : ∀ (S' M' : tt_St) (V' : Int64) (H1 : Heap) (locs1 : List Loc), RR S' M' → L_W G S' M' V' s H1 locs1 → W p l e room_1 s m #[Value.ref b] below meth c H1 locs1 cells slots Q (F0 m 1339 ls [])) : W p l e room_1 s m #[Value.ref b] below meth c H locs cells slots Q (F0 m 1267 ls []) := by
  refine lv_aload_n C.1.1 C.1.2.1 dL_law_1267 rfl (lv_at hl 2 rfl) ?_
  refine L_callC C.1 C.2.1 hw (k_X6_undo l G S (RR_ci hR)) hiX6_undo q810 q811 q812 q813 ⟨Nat.le_of_ble_eq_true rfl, Nat.le_of_ble_eq_true rfl⟩ rfl hl.1 rfl (Nat.le_of_ble_eq_true rfl) dL_law_1268 hf (fun z1 S2 H locs e1 e2 hw => ?_)
  refine lv_aload_n C.1.1 C.1.2.1 dL_law_1271 rfl (lv_at hl 1 rfl) ?_
  refine L_callM C.1 C.2.1 hw (k_X7_undo l G M V (RR_mi hR)) hiX7_undo q1278 q1279 q1280 q1281 ⟨Nat.le_of_ble_eq_true rfl, Nat.le_of_ble_eq_true rfl⟩ rfl hl.1 rfl (Nat.le_of_ble_eq_true rfl) dL_law_1272 hf (fun z2 M2 V2 H locs e3 e4 _ hw => ?_)
  have hp := p_undo hR
  refine lv_icmp_eq (tgt := 1339) C.1.1 C.1.2.1 dL_law_1275 (by decide) (fun _ => ?_) (fun hz => absurd (by rw [e1, e3]; exact hp.1) hz)
  exact kk S2 M2 V2 H locs (by rw [e2, e4]; exact hp.2) hw
theorem L_c40 (C : L_C p s m c b L i xs G) (hf : cells ≤ room_1.cells ∧ slots ≤ room_1.slots) (hR : RR S M) (hw : L_W G S M V s H locs) (hl : L_lv G b i ls)
    (kk : ∀ (S' M' : tt_St) (V' : Int64) (H1 : Heap) (locs1 : List Loc), RR S' M' → L_W G S' M' V' s H1 locs1 → W p l e room_1 s m #[Value.ref b] below meth c H1 locs1 cells slots Q (F0 m 1339 ls [])) : W p l e room_1 s m #[Value.ref b] below meth c H locs cells slots Q (F0 m 1280 ls []) := by
  refine lv_aload_n C.1.1 C.1.2.1 dL_law_1280 rfl (lv_at hl 2 rfl) ?_
  refine L_callC C.1 C.2.1 hw (k_X6_tear l G S (RR_ci hR)) hiX6_tear q814 q815 q816 q817 ⟨Nat.le_of_ble_eq_true rfl, Nat.le_of_ble_eq_true rfl⟩ rfl hl.1 rfl (Nat.le_of_ble_eq_true rfl) dL_law_1281 hf (fun z1 S2 H locs e1 e2 hw => ?_)
  refine lv_aload_n C.1.1 C.1.2.1 dL_law_1284 rfl (lv_at hl 1 rfl) ?_
  refine L_callM C.1 C.2.1 hw (k_X7_tear l G M V (RR_mi hR)) hiX7_tear q1282 q1283 q1284 q1285 ⟨Nat.le_of_ble_eq_true rfl, Nat.le_of_ble_eq_true rfl⟩ rfl hl.1 rfl (Nat.le_of_ble_eq_true rfl) dL_law_1285 hf (fun z2 M2 V2 H locs e3 e4 _ hw => ?_)
  have hp := p_tear hR
  refine lv_icmp_eq (tgt := 1339) C.1.1 C.1.2.1 dL_law_1288 (by decide) (fun _ => ?_) (fun hz => absurd (by rw [e1, e3]; exact hp.1) hz)
  exact kk S2 M2 V2 H locs (by rw [e2, e4]; exact hp.2) hw
theorem L_c41 (C : L_C p s m c b L i xs G) (hf : cells ≤ room_1.cells ∧ slots ≤ room_1.slots) (hR : RR S M) (hw : L_W G S M V s H locs) (hl : L_lv G b i ls)
    (kk : ∀ (S' M' : tt_St) (V' : Int64) (H1 : Heap) (locs1 : List Loc), RR S' M' → L_W G S' M' V' s H1 locs1 → W p l e room_1 s m #[Value.ref b] below meth c H1 locs1 cells slots Q (F0 m 1339 ls [])) : W p l e room_1 s m #[Value.ref b] below meth c H locs cells slots Q (F0 m 1293 ls []) := by
  refine lv_aload_n C.1.1 C.1.2.1 dL_law_1293 rfl (lv_at hl 2 rfl) ?_
  refine L_arg C hw hl 1 (by decide) dL_law_1294 dL_law_1295 dL_law_1296 rfl dL_law_1297 dL_law_1298 ?_
  refine L_callC C.1 C.2.1 hw (k_X6_count l G S (L_v xs i 1) (RR_ci hR)) hiX6_count q818 q819 q820 q821 ⟨Nat.le_of_ble_eq_true rfl, Nat.le_of_ble_eq_true rfl⟩ rfl hl.1 rfl (Nat.le_of_ble_eq_true rfl) dL_law_1299 hf (fun z1 S2 H locs e1 e2 hw => ?_)
  refine lv_aload_n C.1.1 C.1.2.1 dL_law_1302 rfl (lv_at hl 1 rfl) ?_
  refine L_arg C hw hl 1 (by decide) dL_law_1303 dL_law_1304 dL_law_1305 rfl dL_law_1306 dL_law_1307 ?_
  refine L_callM C.1 C.2.1 hw (k_X7_count l G M V (L_v xs i 1) (RR_mi hR)) hiX7_count q1286 q1287 q1288 q1289 ⟨Nat.le_of_ble_eq_true rfl, Nat.le_of_ble_eq_true rfl⟩ rfl hl.1 rfl (Nat.le_of_ble_eq_true rfl) dL_law_1308 hf (fun z2 M2 V2 H locs e3 e4 _ hw => ?_)
  have hp := p_count (L_v xs i 1) hR
  refine lv_icmp_eq (tgt := 1339) C.1.1 C.1.2.1 dL_law_1311 (by decide) (fun _ => ?_) (fun hz => absurd (by rw [e1, e3]; exact hp.1) hz)
  exact kk S2 M2 V2 H locs (by rw [e2, e4]; exact hp.2) hw
theorem L_c42 (C : L_C p s m c b L i xs G) (hf : cells ≤ room_1.cells ∧ slots ≤ room_1.slots) (hR : RR S M) (hw : L_W G S M V s H locs) (hl : L_lv G b i ls)
    (kk : ∀ (S' M' : tt_St) (V' : Int64) (H1 : Heap) (locs1 : List Loc), RR S' M' → L_W G S' M' V' s H1 locs1 → W p l e room_1 s m #[Value.ref b] below meth c H1 locs1 cells slots Q (F0 m 1339 ls [])) : W p l e room_1 s m #[Value.ref b] below meth c H locs cells slots Q (F0 m 1316 ls []) := by
  refine lv_aload_n C.1.1 C.1.2.1 dL_law_1316 rfl (lv_at hl 2 rfl) ?_
  refine L_arg C hw hl 1 (by decide) dL_law_1317 dL_law_1318 dL_law_1319 rfl dL_law_1320 dL_law_1321 ?_
  refine L_callC C.1 C.2.1 hw (k_X6_status l G S (L_v xs i 1) (RR_ci hR)) hiX6_status q826 q827 q828 q829 ⟨Nat.le_of_ble_eq_true rfl, Nat.le_of_ble_eq_true rfl⟩ rfl hl.1 rfl (Nat.le_of_ble_eq_true rfl) dL_law_1322 hf (fun z1 S2 H locs e1 e2 hw => ?_)
  refine lv_aload_n C.1.1 C.1.2.1 dL_law_1325 rfl (lv_at hl 1 rfl) ?_
  refine L_arg C hw hl 1 (by decide) dL_law_1326 dL_law_1327 dL_law_1328 rfl dL_law_1329 dL_law_1330 ?_
  refine L_callM C.1 C.2.1 hw (k_X7_status l G M V (L_v xs i 1) (RR_mi hR)) hiX7_status q1294 q1295 q1296 q1297 ⟨Nat.le_of_ble_eq_true rfl, Nat.le_of_ble_eq_true rfl⟩ rfl hl.1 rfl (Nat.le_of_ble_eq_true rfl) dL_law_1331 hf (fun z2 M2 V2 H locs e3 e4 _ hw => ?_)
  have hp := p_status (L_v xs i 1) hR
  refine lv_icmp_eq (tgt := 1339) C.1.1 C.1.2.1 dL_law_1334 (by decide) (fun _ => ?_) (fun hz => absurd (by rw [e1, e3]; exact hp.1) hz)
  exact kk S2 M2 V2 H locs (by rw [e2, e4]; exact hp.2) hw
end LD
