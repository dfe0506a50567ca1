/-! the law's cases 0 to 8 -/
section LD
variable {p : Program} {l : Launch} {e : Env} {s : State} {m : MethodId} {below : List Frame} {meth : Method} {c : Code} {b L i : Nat} {xs : Nat → Int32} {G : tt_G} {S M : tt_St} {V : Int64} {H : Heap} {locs : List Loc} {cells slots : Nat} {Q : State → Prop} {pc index : Nat} {ls : Array Slot} {rest : List Value}
theorem L_c0 (C : L_C p s m c b L i xs G) (hf : cells ≤ room_1.cells ∧ slots ≤ room_1.slots) (hR : RR S M) (hw : L_W G S M V s H locs) (hl : L_lv G b i ls)
    (kk : ∀ (S' M' : tt_St) (V' : Int64) (H1 : Heap) (locs1 : List Loc), RR S' M' → L_W G S' M' V' s H1 locs1 → W p l e room_1 s m #[Value.ref b] below meth c H1 locs1 cells slots Q (F0 m 1339 ls [])) : W p l e room_1 s m #[Value.ref b] below meth c H locs cells slots Q (F0 m 220 ls []) := by
  refine lv_aload_n C.1.1 C.1.2.1 dL_law_220 rfl (lv_at hl 2 rfl) ?_
  refine L_arg C hw hl 1 (by decide) dL_law_221 dL_law_222 dL_law_223 rfl dL_law_224 dL_law_225 ?_
  refine L_arg C hw hl 2 (by decide) dL_law_226 dL_law_227 dL_law_228 rfl dL_law_229 dL_law_230 ?_
  refine L_callC C.1 C.2.1 hw (k_X6_drinker l G S (L_v xs i 1) (L_v xs i 2) (RR_ci hR)) hiX6_drinker q305 q306 q307 q308 ⟨Nat.le_of_ble_eq_true rfl, Nat.le_of_ble_eq_true rfl⟩ rfl hl.1 rfl (Nat.le_of_ble_eq_true rfl) dL_law_231 hf (fun z1 S2 H locs e1 e2 hw => ?_)
  refine lv_aload_n C.1.1 C.1.2.1 dL_law_234 rfl (lv_at hl 1 rfl) ?_
  refine L_arg C hw hl 1 (by decide) dL_law_235 dL_law_236 dL_law_237 rfl dL_law_238 dL_law_239 ?_
  refine L_arg C hw hl 2 (by decide) dL_law_240 dL_law_241 dL_law_242 rfl dL_law_243 dL_law_244 ?_
  refine L_callM C.1 C.2.1 hw (k_X7_drinker l G M V (L_v xs i 1) (L_v xs i 2) (RR_mi hR)) hiX7_drinker q903 q904 q905 q906 ⟨Nat.le_of_ble_eq_true rfl, Nat.le_of_ble_eq_true rfl⟩ rfl hl.1 rfl (Nat.le_of_ble_eq_true rfl) dL_law_245 hf (fun z2 M2 V2 H locs e3 e4 _ hw => ?_)
  have hp := p_drinker (L_v xs i 1) (L_v xs i 2) hR
  refine lv_icmp_eq (tgt := 1339) C.1.1 C.1.2.1 dL_law_248 (by decide) (fun _ => ?_) (fun hz => absurd (by rw [e1, e3]; exact hp.1) hz)
  exact kk S2 M2 V2 H locs (by rw [e2, e4]; exact hp.2) hw
theorem L_c1 (C : L_C p s m c b L i xs G) (hf : cells ≤ room_1.cells ∧ slots ≤ room_1.slots) (hR : RR S M) (hw : L_W G S M V s H locs) (hl : L_lv G b i ls)
    (kk : ∀ (S' M' : tt_St) (V' : Int64) (H1 : Heap) (locs1 : List Loc), RR S' M' → L_W G S' M' V' s H1 locs1 → W p l e room_1 s m #[Value.ref b] below meth c H1 locs1 cells slots Q (F0 m 1339 ls [])) : W p l e room_1 s m #[Value.ref b] below meth c H locs cells slots Q (F0 m 253 ls []) := by
  refine lv_aload_n C.1.1 C.1.2.1 dL_law_253 rfl (lv_at hl 2 rfl) ?_
  refine L_arg C hw hl 1 (by decide) dL_law_254 dL_law_255 dL_law_256 rfl dL_law_257 dL_law_258 ?_
  refine L_arg C hw hl 2 (by decide) dL_law_259 dL_law_260 dL_law_261 rfl dL_law_262 dL_law_263 ?_
  refine L_callC C.1 C.2.1 hw (k_X6_of l G S (L_v xs i 1) (L_v xs i 2) (RR_ci hR)) hiX6_of q328 q329 q330 q331 ⟨Nat.le_of_ble_eq_true rfl, Nat.le_of_ble_eq_true rfl⟩ rfl hl.1 rfl (Nat.le_of_ble_eq_true rfl) dL_law_264 hf (fun z1 S2 H locs e1 e2 hw => ?_)
  refine lv_aload_n C.1.1 C.1.2.1 dL_law_267 rfl (lv_at hl 1 rfl) ?_
  refine L_arg C hw hl 1 (by decide) dL_law_268 dL_law_269 dL_law_270 rfl dL_law_271 dL_law_272 ?_
  refine L_arg C hw hl 2 (by decide) dL_law_273 dL_law_274 dL_law_275 rfl dL_law_276 dL_law_277 ?_
  refine L_callM C.1 C.2.1 hw (k_X7_of l G M V (L_v xs i 1) (L_v xs i 2) (RR_mi hR)) hiX7_of q925 q926 q927 q928 ⟨Nat.le_of_ble_eq_true rfl, Nat.le_of_ble_eq_true rfl⟩ rfl hl.1 rfl (Nat.le_of_ble_eq_true rfl) dL_law_278 hf (fun z2 M2 V2 H locs e3 e4 _ hw => ?_)
  have hp := p_of (L_v xs i 1) (L_v xs i 2) hR
  refine lv_icmp_eq (tgt := 1339) C.1.1 C.1.2.1 dL_law_281 (by decide) (fun _ => ?_) (fun hz => absurd (by rw [e1, e3]; exact hp.1) hz)
  exact kk S2 M2 V2 H locs (by rw [e2, e4]; exact hp.2) hw
theorem L_c2 (C : L_C p s m c b L i xs G) (hf : cells ≤ room_1.cells ∧ slots ≤ room_1.slots) (hR : RR S M) (hw : L_W G S M V s H locs) (hl : L_lv G b i ls)
    (kk : ∀ (S' M' : tt_St) (V' : Int64) (H1 : Heap) (locs1 : List Loc), RR S' M' → L_W G S' M' V' s H1 locs1 → W p l e room_1 s m #[Value.ref b] below meth c H1 locs1 cells slots Q (F0 m 1339 ls [])) : W p l e room_1 s m #[Value.ref b] below meth c H locs cells slots Q (F0 m 286 ls []) := by
  refine lv_aload_n C.1.1 C.1.2.1 dL_law_286 rfl (lv_at hl 2 rfl) ?_
  refine L_arg C hw hl 1 (by decide) dL_law_287 dL_law_288 dL_law_289 rfl dL_law_290 dL_law_291 ?_
  refine L_arg C hw hl 2 (by decide) dL_law_292 dL_law_293 dL_law_294 rfl dL_law_295 dL_law_296 ?_
  refine L_arg C hw hl 3 (by decide) dL_law_297 dL_law_298 dL_law_299 rfl dL_law_300 dL_law_301 ?_
  refine L_callC C.1 C.2.1 hw (k_X6_change l G S (L_v xs i 1) (L_v xs i 2) (L_v xs i 3) (RR_ci hR)) hiX6_change q340 q341 q342 q343 ⟨Nat.le_of_ble_eq_true rfl, Nat.le_of_ble_eq_true rfl⟩ rfl hl.1 rfl (Nat.le_of_ble_eq_true rfl) dL_law_302 hf (fun z1 S2 H locs e1 e2 hw => ?_)
  refine lv_aload_n C.1.1 C.1.2.1 dL_law_305 rfl (lv_at hl 1 rfl) ?_
  refine L_arg C hw hl 1 (by decide) dL_law_306 dL_law_307 dL_law_308 rfl dL_law_309 dL_law_310 ?_
  refine L_arg C hw hl 2 (by decide) dL_law_311 dL_law_312 dL_law_313 rfl dL_law_314 dL_law_315 ?_
  refine L_arg C hw hl 3 (by decide) dL_law_316 dL_law_317 dL_law_318 rfl dL_law_319 dL_law_320 ?_
  refine L_callM C.1 C.2.1 hw (k_X7_change l G M V (L_v xs i 1) (L_v xs i 2) (L_v xs i 3) (RR_mi hR)) hiX7_change q937 q938 q939 q940 ⟨Nat.le_of_ble_eq_true rfl, Nat.le_of_ble_eq_true rfl⟩ rfl hl.1 rfl (Nat.le_of_ble_eq_true rfl) dL_law_321 hf (fun z2 M2 V2 H locs e3 e4 _ hw => ?_)
  have hp := p_change (L_v xs i 1) (L_v xs i 2) (L_v xs i 3) hR
  refine lv_icmp_eq (tgt := 1339) C.1.1 C.1.2.1 dL_law_324 (by decide) (fun _ => ?_) (fun hz => absurd (by rw [e1, e3]; exact hp.1) hz)
  exact kk S2 M2 V2 H locs (by rw [e2, e4]; exact hp.2) hw
theorem L_c3 (C : L_C p s m c b L i xs G) (hf : cells ≤ room_1.cells ∧ slots ≤ room_1.slots) (hR : RR S M) (hw : L_W G S M V s H locs) (hl : L_lv G b i ls)
    (kk : ∀ (S' M' : tt_St) (V' : Int64) (H1 : Heap) (locs1 : List Loc), RR S' M' → L_W G S' M' V' s H1 locs1 → W p l e room_1 s m #[Value.ref b] below meth c H1 locs1 cells slots Q (F0 m 1339 ls [])) : W p l e room_1 s m #[Value.ref b] below meth c H locs cells slots Q (F0 m 329 ls []) := by
  refine lv_aload_n C.1.1 C.1.2.1 dL_law_329 rfl (lv_at hl 2 rfl) ?_
  refine L_arg C hw hl 1 (by decide) dL_law_330 dL_law_331 dL_law_332 rfl dL_law_333 dL_law_334 ?_
  refine L_arg C hw hl 2 (by decide) dL_law_335 dL_law_336 dL_law_337 rfl dL_law_338 dL_law_339 ?_
  refine L_callC C.1 C.2.1 hw (k_X6_room l G S (L_v xs i 1) (L_v xs i 2) (RR_ci hR)) hiX6_room q351 q352 q353 q354 ⟨Nat.le_of_ble_eq_true rfl, Nat.le_of_ble_eq_true rfl⟩ rfl hl.1 rfl (Nat.le_of_ble_eq_true rfl) dL_law_340 hf (fun z1 S2 H locs e1 e2 hw => ?_)
  refine lv_aload_n C.1.1 C.1.2.1 dL_law_343 rfl (lv_at hl 1 rfl) ?_
  refine L_arg C hw hl 1 (by decide) dL_law_344 dL_law_345 dL_law_346 rfl dL_law_347 dL_law_348 ?_
  refine L_arg C hw hl 2 (by decide) dL_law_349 dL_law_350 dL_law_351 rfl dL_law_352 dL_law_353 ?_
  refine L_callM C.1 C.2.1 hw (k_X7_room l G M V (L_v xs i 1) (L_v xs i 2) (RR_mi hR)) hiX7_room q943 q944 q945 q946 ⟨Nat.le_of_ble_eq_true rfl, Nat.le_of_ble_eq_true rfl⟩ rfl hl.1 rfl (Nat.le_of_ble_eq_true rfl) dL_law_354 hf (fun z2 M2 V2 H locs e3 e4 _ hw => ?_)
  have hp := p_room (L_v xs i 1) (L_v xs i 2) hR
  refine lv_icmp_eq (tgt := 1339) C.1.1 C.1.2.1 dL_law_357 (by decide) (fun _ => ?_) (fun hz => absurd (by rw [e1, e3]; exact hp.1) hz)
  exact kk S2 M2 V2 H locs (by rw [e2, e4]; exact hp.2) hw
theorem L_c4 (C : L_C p s m c b L i xs G) (hf : cells ≤ room_1.cells ∧ slots ≤ room_1.slots) (hR : RR S M) (hw : L_W G S M V s H locs) (hl : L_lv G b i ls)
    (kk : ∀ (S' M' : tt_St) (V' : Int64) (H1 : Heap) (locs1 : List Loc), RR S' M' → L_W G S' M' V' s H1 locs1 → W p l e room_1 s m #[Value.ref b] below meth c H1 locs1 cells slots Q (F0 m 1339 ls [])) : W p l e room_1 s m #[Value.ref b] below meth c H locs cells slots Q (F0 m 362 ls []) := by
  refine lv_aload_n C.1.1 C.1.2.1 dL_law_362 rfl (lv_at hl 2 rfl) ?_
  refine L_callC C.1 C.2.1 hw (k_X6_empty l G S (RR_ci hR)) hiX6_empty q371 q372 q373 q374 ⟨Nat.le_of_ble_eq_true rfl, Nat.le_of_ble_eq_true rfl⟩ rfl hl.1 rfl (Nat.le_of_ble_eq_true rfl) dL_law_363 hf (fun z1 S2 H locs e1 e2 hw => ?_)
  refine lv_aload_n C.1.1 C.1.2.1 dL_law_366 rfl (lv_at hl 1 rfl) ?_
  refine L_callM C.1 C.2.1 hw (k_X7_empty l G M V (RR_mi hR)) hiX7_empty q948 q949 q950 q951 ⟨Nat.le_of_ble_eq_true rfl, Nat.le_of_ble_eq_true rfl⟩ rfl hl.1 rfl (Nat.le_of_ble_eq_true rfl) dL_law_367 hf (fun z2 M2 V2 H locs e3 e4 _ hw => ?_)
  have hp := p_empty hR
  refine lv_icmp_eq (tgt := 1339) C.1.1 C.1.2.1 dL_law_370 (by decide) (fun _ => ?_) (fun hz => absurd (by rw [e1, e3]; exact hp.1) hz)
  exact kk S2 M2 V2 H locs (by rw [e2, e4]; exact hp.2) hw
theorem L_c5 (C : L_C p s m c b L i xs G) (hf : cells ≤ room_1.cells ∧ slots ≤ room_1.slots) (hR : RR S M) (hw : L_W G S M V s H locs) (hl : L_lv G b i ls)
    (kk : ∀ (S' M' : tt_St) (V' : Int64) (H1 : Heap) (locs1 : List Loc), RR S' M' → L_W G S' M' V' s H1 locs1 → W p l e room_1 s m #[Value.ref b] below meth c H1 locs1 cells slots Q (F0 m 1339 ls [])) : W p l e room_1 s m #[Value.ref b] below meth c H locs cells slots Q (F0 m 375 ls []) := by
  refine lv_aload_n C.1.1 C.1.2.1 dL_law_375 rfl (lv_at hl 2 rfl) ?_
  refine L_arg C hw hl 1 (by decide) dL_law_376 dL_law_377 dL_law_378 rfl dL_law_379 dL_law_380 ?_
  refine L_callC C.1 C.2.1 hw (k_X6_taken l G S (L_v xs i 1) (RR_ci hR)) hiX6_taken q375 q376 q377 q378 ⟨Nat.le_of_ble_eq_true rfl, Nat.le_of_ble_eq_true rfl⟩ rfl hl.1 rfl (Nat.le_of_ble_eq_true rfl) dL_law_381 hf (fun z1 S2 H locs e1 e2 hw => ?_)
  refine lv_aload_n C.1.1 C.1.2.1 dL_law_384 rfl (lv_at hl 1 rfl) ?_
  refine L_arg C hw hl 1 (by decide) dL_law_385 dL_law_386 dL_law_387 rfl dL_law_388 dL_law_389 ?_
  refine L_callM C.1 C.2.1 hw (k_X7_taken l G M V (L_v xs i 1) (RR_mi hR)) hiX7_taken q952 q953 q954 q955 ⟨Nat.le_of_ble_eq_true rfl, Nat.le_of_ble_eq_true rfl⟩ rfl hl.1 rfl (Nat.le_of_ble_eq_true rfl) dL_law_390 hf (fun z2 M2 V2 H locs e3 e4 _ hw => ?_)
  have hp := p_taken (L_v xs i 1) hR
  refine lv_icmp_eq (tgt := 1339) C.1.1 C.1.2.1 dL_law_393 (by decide) (fun _ => ?_) (fun hz => absurd (by rw [e1, e3]; exact hp.1) hz)
  exact kk S2 M2 V2 H locs (by rw [e2, e4]; exact hp.2) hw
theorem L_c6 (C : L_C p s m c b L i xs G) (hf : cells ≤ room_1.cells ∧ slots ≤ room_1.slots) (hR : RR S M) (hw : L_W G S M V s H locs) (hl : L_lv G b i ls)
    (kk : ∀ (S' M' : tt_St) (V' : Int64) (H1 : Heap) (locs1 : List Loc), RR S' M' → L_W G S' M' V' s H1 locs1 → W p l e room_1 s m #[Value.ref b] below meth c H1 locs1 cells slots Q (F0 m 1339 ls [])) : W p l e room_1 s m #[Value.ref b] below meth c H locs cells slots Q (F0 m 398 ls []) := by
  refine lv_aload_n C.1.1 C.1.2.1 dL_law_398 rfl (lv_at hl 2 rfl) ?_
  refine L_arg C hw hl 1 (by decide) dL_law_399 dL_law_400 dL_law_401 rfl dL_law_402 dL_law_403 ?_
  refine L_callC C.1 C.2.1 hw (k_X6_forgive l G S (L_v xs i 1) (RR_ci hR)) hiX6_forgive q380 q381 q382 q383 ⟨Nat.le_of_ble_eq_true rfl, Nat.le_of_ble_eq_true rfl⟩ rfl hl.1 rfl (Nat.le_of_ble_eq_true rfl) dL_law_404 hf (fun z1 S2 H locs e1 e2 hw => ?_)
  refine lv_aload_n C.1.1 C.1.2.1 dL_law_407 rfl (lv_at hl 1 rfl) ?_
  refine L_arg C hw hl 1 (by decide) dL_law_408 dL_law_409 dL_law_410 rfl dL_law_411 dL_law_412 ?_
  refine L_callM C.1 C.2.1 hw (k_X7_forgive l G M V (L_v xs i 1) (RR_mi hR)) hiX7_forgive q960 q961 q962 q963 ⟨Nat.le_of_ble_eq_true rfl, Nat.le_of_ble_eq_true rfl⟩ rfl hl.1 rfl (Nat.le_of_ble_eq_true rfl) dL_law_413 hf (fun z2 M2 V2 H locs e3 e4 _ hw => ?_)
  have hp := p_forgive (L_v xs i 1) hR
  refine lv_icmp_eq (tgt := 1339) C.1.1 C.1.2.1 dL_law_416 (by decide) (fun _ => ?_) (fun hz => absurd (by rw [e1, e3]; exact hp.1) hz)
  exact kk S2 M2 V2 H locs (by rw [e2, e4]; exact hp.2) hw
theorem L_c7 (C : L_C p s m c b L i xs G) (hf : cells ≤ room_1.cells ∧ slots ≤ room_1.slots) (hR : RR S M) (hw : L_W G S M V s H locs) (hl : L_lv G b i ls)
    (kk : ∀ (S' M' : tt_St) (V' : Int64) (H1 : Heap) (locs1 : List Loc), RR S' M' → L_W G S' M' V' s H1 locs1 → W p l e room_1 s m #[Value.ref b] below meth c H1 locs1 cells slots Q (F0 m 1339 ls [])) : W p l e room_1 s m #[Value.ref b] below meth c H locs cells slots Q (F0 m 421 ls []) := by
  refine lv_aload_n C.1.1 C.1.2.1 dL_law_421 rfl (lv_at hl 2 rfl) ?_
  refine L_arg C hw hl 1 (by decide) dL_law_422 dL_law_423 dL_law_424 rfl dL_law_425 dL_law_426 ?_
  refine L_callC C.1 C.2.1 hw (k_X6_now l G S (L_v xs i 1) (RR_ci hR)) hiX6_now q384 q385 q386 q387 ⟨Nat.le_of_ble_eq_true rfl, Nat.le_of_ble_eq_true rfl⟩ rfl hl.1 rfl (Nat.le_of_ble_eq_true rfl) dL_law_427 hf (fun z1 S2 H locs e1 e2 hw => ?_)
  refine lv_aload_n C.1.1 C.1.2.1 dL_law_430 rfl (lv_at hl 1 rfl) ?_
  refine L_arg C hw hl 1 (by decide) dL_law_431 dL_law_432 dL_law_433 rfl dL_law_434 dL_law_435 ?_
  refine L_callM C.1 C.2.1 hw (k_X7_now l G M V (L_v xs i 1) (RR_mi hR)) hiX7_now q964 q965 q966 q967 ⟨Nat.le_of_ble_eq_true rfl, Nat.le_of_ble_eq_true rfl⟩ rfl hl.1 rfl (Nat.le_of_ble_eq_true rfl) dL_law_436 hf (fun z2 M2 V2 H locs e3 e4 _ hw => ?_)
  have hp := p_now (L_v xs i 1) hR
  refine lv_icmp_eq (tgt := 1339) C.1.1 C.1.2.1 dL_law_439 (by decide) (fun _ => ?_) (fun hz => absurd (by rw [e1, e3]; exact hp.1) hz)
  exact kk S2 M2 V2 H locs (by rw [e2, e4]; exact hp.2) hw
theorem L_c8 (C : L_C p s m c b L i xs G) (hf : cells ≤ room_1.cells ∧ slots ≤ room_1.slots) (hR : RR S M) (hw : L_W G S M V s H locs) (hl : L_lv G b i ls)
    (kk : ∀ (S' M' : tt_St) (V' : Int64) (H1 : Heap) (locs1 : List Loc), RR S' M' → L_W G S' M' V' s H1 locs1 → W p l e room_1 s m #[Value.ref b] below meth c H1 locs1 cells slots Q (F0 m 1339 ls [])) : W p l e room_1 s m #[Value.ref b] below meth c H locs cells slots Q (F0 m 444 ls []) := by
  refine lv_aload_n C.1.1 C.1.2.1 dL_law_444 rfl (lv_at hl 2 rfl) ?_
  refine L_arg C hw hl 1 (by decide) dL_law_445 dL_law_446 dL_law_447 rfl dL_law_448 dL_law_449 ?_
  refine L_callC C.1 C.2.1 hw (k_X6_days l G S (L_v xs i 1) (RR_ci hR)) hiX6_days q398 q399 q400 q401 ⟨Nat.le_of_ble_eq_true rfl, Nat.le_of_ble_eq_true rfl⟩ rfl hl.1 rfl (Nat.le_of_ble_eq_true rfl) dL_law_450 hf (fun z1 S2 H locs e1 e2 hw => ?_)
  refine lv_aload_n C.1.1 C.1.2.1 dL_law_453 rfl (lv_at hl 1 rfl) ?_
  refine L_arg C hw hl 1 (by decide) dL_law_454 dL_law_455 dL_law_456 rfl dL_law_457 dL_law_458 ?_
  refine L_callM C.1 C.2.1 hw (k_X7_days l G M V (L_v xs i 1) (RR_mi hR)) hiX7_days q972 q973 q974 q975 ⟨Nat.le_of_ble_eq_true rfl, Nat.le_of_ble_eq_true rfl⟩ rfl hl.1 rfl (Nat.le_of_ble_eq_true rfl) dL_law_459 hf (fun z2 M2 V2 H locs e3 e4 _ hw => ?_)
  have hp := p_days (L_v xs i 1) hR
  refine lv_icmp_eq (tgt := 1339) C.1.1 C.1.2.1 dL_law_462 (by decide) (fun _ => ?_) (fun hz => absurd (by rw [e1, e3]; exact hp.1) hz)
  exact kk S2 M2 V2 H locs (by rw [e2, e4]; exact hp.2) hw
end LD
