/-! the constant texts' own members -/
section JS
variable {p : Program} {l : Launch} {e : Env} {R : Room} {s : State} {m : MethodId} {args : Array Value} {below : List Frame} {meth : Method} {c : Code} {H : Heap} {locs : List Loc} {cells slots : Nat} {Q : State → Prop}
variable {cc : ByteArray} {pc nL index : Nat} {ls : Array Slot} {rest : List Value} {own : String} {G : tt_G} {S : tt_St}
variable {y : MethodName} {b : ByteArray} {mL fr lo : Nat} {r : Option FieldType} {As st0 : List Value}
theorem c_callStr (X : CallFix p m c cc nL s args tt_T own) (K : tt_K G s) (hw : c_W G S s H locs) {i : Nat} {a : Int32} (hM : c_MI l G y (g_code y b mL r) fr lo (.ref (G.2.2 (110 + i)) :: As) S a S) {na : Nat} (cw : CallW R s args own "java/lang/String" index y b mL r (g_code y b mL r) (g_rm fr lo) 0 0 na) (hi : i < 15) (hna : As.length = na) (hsz : ls.size = nL) (hst : st0 = As.reverse ++ .ref (G.2.2 (110 + i)) :: rest) (hroom : (rest.map fun v => v.category).sum ≤ 8) (hdg : decode cc pc = .ok (.invokevirtual index, 3)) (hf : cells ≤ R.cells ∧ slots ≤ R.slots)
    (kk : ∀ (z : Int32) (H1 : Heap) (locs1 : List Loc), z = a → c_W G S s H1 locs1 → W p l e R s m args below meth c H1 locs1 cells slots Q (F0 m (pc + 3) ls (.int z :: rest))) : W p l e R s m args below meth c H locs cells slots Q (F0 m pc ls st0) := by
  refine va_calli (va_runV (As := As) (rest := rest) X hM cw ⟨g_Pc_blind _, vk_recv (K.2.2.2.1.1.narrow (c_A G)) hi hw.2, g_pre K (c_A G) hw _⟩ rfl hna hsz hst (lv_room hroom) hdg hf) hw.2 (fun q _ h => h) (fun q h => h) (fun z u t H1 locs1 ht hvm hp hB hz1 hk1 hS => ?_)
  obtain ⟨rfl, rfl⟩ := hp
  exact kk _ H1 locs1 rfl ⟨by rw [← ht]; exact hB, hS⟩
theorem c_callSN (X : CallFix p m c cc nL s args tt_T "TrustTin$TextReader") (K : tt_K G s) (hw : c_W G S s H locs) {a : Int32} (hM : c_MI l G yX6_within (g_code yX6_within b mL r) fr lo As S a S) {na : Nat} (hy : g_is yX6_within "TrustTin" na) (h2 : Cond.static yX6_within ∈ tt_T) (h4 : Cond.initialized "TrustTin" ∈ tt_T) (h5 : Cond.code yX6_within b mL r ∈ tt_T) (hR : fr + 1 ≤ R.frames ∧ 8 + (mL + 11) + lo ≤ R.locals) (hna : As.length = na) (hsz : ls.size = nL) (hst : st0 = As.reverse ++ rest) (hroom : (rest.map fun v => v.category).sum ≤ 8) (hdg : decode cc pc = .ok (.invokestatic 106, 3)) (hf : cells ≤ R.cells ∧ slots ≤ R.slots)
    (kk : ∀ (z : Int32) (H1 : Heap) (locs1 : List Loc), z = a → c_W G S s H1 locs1 → W p l e R s m args below meth c H1 locs1 cells slots Q (F0 m (pc + 3) ls (.int z :: rest))) : W p l e R s m args below meth c H locs cells slots Q (F0 m pc ls st0) := by
  refine va_calli (va_runSN (As := As) (rest := rest) X hM ⟨va_cnB (Ts := tt_T) na X.2.2.2.2 (g_goodC h5) rfl rfl rfl K.2.2.2.2.2.2 (X.2.2.2.2 _ h4) hy.2 hR, X.2.2.2.2 _ h2, trivial⟩ ⟨g_Pc_blind _, g_pre K (c_A G) hw _⟩ rfl hna hsz hst (lv_room hroom) hdg hf) hw.2 (fun q _ h => h) (fun q h => h) (fun z u t H1 locs1 ht hvm hp hB hz1 hk1 hS => ?_)
  obtain ⟨rfl, rfl⟩ := hp
  exact kk _ H1 locs1 rfl ⟨by rw [← ht]; exact hB, hS⟩
end JS
set_option maxHeartbeats 4000000 in
set_option maxRecDepth 10000 in
theorem k_J0_coder (l : Launch) (G : tt_G) (S : tt_St) (i : Nat) (hi : i < 15) : c_MI l G yJ0_coder_7d493 (g_code yJ0_coder_7d493 cJ0_coder_7d493 1 (some FieldType.byte)) 0 0 [.ref (G.2.2 (110 + i))] S 0 S := by
  refine g_begin rfl (Nat.le_of_ble_eq_true rfl) _ (fun p e s m below meth c ls X hret hlk hB hl => ?_)
  obtain ⟨hP0, K⟩ := hB
  have hw : c_W G S s s.heap [] := ⟨hP0, va_S.rf⟩
  have X : CallFix p m c cJ0_coder_7d493 1 s ([.ref (G.2.2 (110 + i))] : List Value).toArray tt_T "java/lang/String" := X
  have hl : lv_has ls 1 [(0, .ref (G.2.2 (110 + i)))] := hl
  have hE := (K.2.2.2.1.1.narrow (c_A G)).1 i hi
  refine va_gets X.1 X.2.1 (K.2.2.2.2.1.1.narrow (c_A G)) hw.2 X.2.2.2.1 (X.2.2.2.2 _ q664) (fun _ h => h) dJ0_coder_7d493_0 ?_
  refine lv_if_eq (tgt := 13) X.1 X.2.1 dJ0_coder_7d493_3 (by decide) (fun c1 => absurd c1 (by decide)) (fun c1 => ?_)
  refine lv_aload_n X.1 X.2.1 dJ0_coder_7d493_6 rfl (lv_at hl 0 rfl) ?_
  refine vk_getf X.1 X.2.1 hE.2.1 hw.2 X.2.2.2.1 (X.2.2.2.2 _ q1300) (fun _ h => h) dJ0_coder_7d493_7 ?_
  refine lv_goto (tgt := 14) X.1 X.2.1 dJ0_coder_7d493_10 (by decide) ?_
  exact g_zret X hret hlk hw rfl rfl rfl dJ0_coder_7d493_14
set_option maxHeartbeats 4000000 in
set_option maxRecDepth 10000 in
theorem k_J0_length (l : Launch) (G : tt_G) (S : tt_St) (i : Nat) (hi : i < 15) : c_MI l G yJ0_length_8abf5 (g_code yJ0_length_8abf5 cJ0_length_8abf5 1 (some FieldType.int)) 1 20 [.ref (G.2.2 (110 + i))] S (nI (tt_len.getD i 0)) S := by
  refine g_begin rfl (Nat.le_of_ble_eq_true rfl) _ (fun p e s m below meth c ls X hret hlk hB hl => ?_)
  obtain ⟨hP0, K⟩ := hB
  have hw : c_W G S s s.heap [] := ⟨hP0, va_S.rf⟩
  have X : CallFix p m c cJ0_length_8abf5 1 s ([.ref (G.2.2 (110 + i))] : List Value).toArray tt_T "java/lang/String" := X
  have hl : lv_has ls 1 [(0, .ref (G.2.2 (110 + i)))] := hl
  have hE := (K.2.2.2.1.1.narrow (c_A G)).1 i hi
  refine lv_aload_n X.1 X.2.1 dJ0_length_8abf5_0 rfl (lv_at hl 0 rfl) ?_
  refine vk_getf X.1 X.2.1 hE.2.2.1 hw.2 X.2.2.2.1 (X.2.2.2.2 _ q1299) (fun _ h => h) dJ0_length_8abf5_1 ?_
  refine va_tlen (v := nI (tt_len.getD i 0)) X.1 X.2.1 hE.2.2.2 hw.2 rfl dJ0_length_8abf5_4 ?_
  refine lv_aload_n X.1 X.2.1 dJ0_length_8abf5_5 rfl (lv_at hl 0 rfl) ?_
  refine c_callStr X K hw (k_J0_coder l G S i hi) (g_cwV X hiJ0_coder_7d493 q660 q661 q662 q78 q663 ⟨(Nat.le_of_ble_eq_true rfl), (Nat.le_of_ble_eq_true rfl)⟩) hi rfl hl.1 rfl (Nat.le_of_ble_eq_true rfl) dJ0_length_8abf5_6 ⟨(Nat.le_of_ble_eq_true rfl), (Nat.le_of_ble_eq_true rfl)⟩ (fun z H locs ez hw => ?_)
  subst ez
  refine lv_ishr X.1 X.2.1 dJ0_length_8abf5_9 ?_
  have e0 : ∀ j : Nat, j < 15 → nI (tt_len.getD j 0) >>> ((0 : Int32) &&& 31) = nI (tt_len.getD j 0) := by decide +kernel
  exact g_iret X hret hlk hw (e0 i hi) rfl dJ0_length_8abf5_10
set_option maxHeartbeats 4000000 in
set_option maxRecDepth 10000 in
theorem k_J0_isLatin1 (l : Launch) (G : tt_G) (S : tt_St) (i : Nat) (hi : i < 15) : c_MI l G yJ0_isLatin1_aae02 (g_code yJ0_isLatin1_aae02 cJ0_isLatin1_aae02 1 (some FieldType.boolean)) 0 0 [.ref (G.2.2 (110 + i))] S 1 S := by
  refine g_begin rfl (Nat.le_of_ble_eq_true rfl) _ (fun p e s m below meth c ls X hret hlk hB hl => ?_)
  obtain ⟨hP0, K⟩ := hB
  have hw : c_W G S s s.heap [] := ⟨hP0, va_S.rf⟩
  have X : CallFix p m c cJ0_isLatin1_aae02 1 s ([.ref (G.2.2 (110 + i))] : List Value).toArray tt_T "java/lang/String" := X
  have hl : lv_has ls 1 [(0, .ref (G.2.2 (110 + i)))] := hl
  have hE := (K.2.2.2.1.1.narrow (c_A G)).1 i hi
  refine va_gets X.1 X.2.1 (K.2.2.2.2.1.1.narrow (c_A G)) hw.2 X.2.2.2.1 (X.2.2.2.2 _ q664) (fun _ h => h) dJ0_isLatin1_aae02_0 ?_
  refine lv_if_eq (tgt := 17) X.1 X.2.1 dJ0_isLatin1_aae02_3 (by decide) (fun c1 => absurd c1 (by decide)) (fun c1 => ?_)
  refine lv_aload_n X.1 X.2.1 dJ0_isLatin1_aae02_6 rfl (lv_at hl 0 rfl) ?_
  refine vk_getf X.1 X.2.1 hE.2.1 hw.2 X.2.2.2.1 (X.2.2.2.2 _ q1300) (fun _ h => h) dJ0_isLatin1_aae02_7 ?_
  refine lv_if_ne (tgt := 17) X.1 X.2.1 dJ0_isLatin1_aae02_10 (by decide) (fun c1 => absurd rfl c1) (fun c1 => ?_)
  refine lv_iconst (v := (1 : Int32)) X.1 X.2.1 dJ0_isLatin1_aae02_13 (by decide) ?_
  refine lv_goto (tgt := 18) X.1 X.2.1 dJ0_isLatin1_aae02_14 (by decide) ?_
  exact g_zret X hret hlk hw rfl rfl rfl dJ0_isLatin1_aae02_18
set_option maxHeartbeats 4000000 in
set_option maxRecDepth 10000 in
theorem k_J3_checkIndex (l : Launch) (G : tt_G) (S : tt_St) (k n : Int32) (v : Value) (hv : v = .null ∨ ∃ t : Nat, v = .ref t) (h0 : ¬ k < 0) (h1 : k < n) : c_MI l G yJ3_checkIndex_8e157 (g_code yJ3_checkIndex_8e157 cJ3_checkIndex_8e157 3 (some FieldType.int)) 0 0 [.int k, .int n, v] S k S := by
  have hle : (lg_sl [.int k, .int n, v]).length ≤ 3 := by
    rcases hv with rfl | ⟨t, rfl⟩
    · exact Nat.le_of_ble_eq_true rfl
    · exact Nat.le_of_ble_eq_true rfl
  have ha : lv_args 0 [.int k, .int n, v] = [(0, .int k), (1, .int n), (2, v)] := rfl
  refine g_begin rfl hle _ (fun p e s m below meth c ls X hret hlk hB hl => ?_)
  obtain ⟨hP0, K⟩ := hB
  have hw : c_W G S s s.heap [] := ⟨hP0, va_S.rf⟩
  have X : CallFix p m c cJ3_checkIndex_8e157 3 s ([.int k, .int n, v] : List Value).toArray tt_T "jdk/internal/util/Preconditions" := X
  rw [ha] at hl
  refine lv_iload_n X.1 X.2.1 dJ3_checkIndex_8e157_0 rfl (lv_at hl 0 rfl) ?_
  refine lv_if_lt (tgt := 9) X.1 X.2.1 dJ3_checkIndex_8e157_1 (by decide) (fun c1 => absurd c1 h0) (fun c1 => ?_)
  refine lv_iload_n X.1 X.2.1 dJ3_checkIndex_8e157_4 rfl (lv_at hl 0 rfl) ?_
  refine lv_iload_n X.1 X.2.1 dJ3_checkIndex_8e157_5 rfl (lv_at hl 1 rfl) ?_
  refine lv_icmp_lt (tgt := 16) X.1 X.2.1 dJ3_checkIndex_8e157_6 (by decide) (fun c1 => ?_) (fun c1 => absurd h1 c1)
  refine lv_iload_n X.1 X.2.1 dJ3_checkIndex_8e157_16 rfl (lv_at hl 0 rfl) ?_
  exact g_iret X hret hlk hw rfl rfl dJ3_checkIndex_8e157_17
set_option maxHeartbeats 4000000 in
set_option maxRecDepth 10000 in
theorem k_J0_checkIndex (l : Launch) (G : tt_G) (S : tt_St) (k n : Int32) (h0 : ¬ k < 0) (h1 : k < n) : c_MV l G yJ0_checkIndex_df160 (g_code yJ0_checkIndex_df160 cJ0_checkIndex_df160 2 none) 1 22 [.int k, .int n] S S := by
  refine g_begin rfl (Nat.le_of_ble_eq_true rfl) _ (fun p e s m below meth c ls X hret hlk hB hl => ?_)
  obtain ⟨hP0, K⟩ := hB
  have hw : c_W G S s s.heap [] := ⟨hP0, va_S.rf⟩
  have X : CallFix p m c cJ0_checkIndex_df160 2 s ([.int k, .int n] : List Value).toArray tt_T "java/lang/String" := X
  have hl : lv_has ls 2 [(0, .int k), (1, .int n)] := hl
  refine lv_iload_n X.1 X.2.1 dJ0_checkIndex_df160_0 rfl (lv_at hl 0 rfl) ?_
  refine lv_iload_n X.1 X.2.1 dJ0_checkIndex_df160_1 rfl (lv_at hl 1 rfl) ?_
  rcases K.2.2.2.2.1.2.narrow (c_A G) with hZ | ⟨t, hZ⟩
  · refine va_gets X.1 X.2.1 hZ hw.2 X.2.2.2.1 (X.2.2.2.2 _ q680) (fun _ h => h) dJ0_checkIndex_df160_2 ?_
    refine c_callSI_p X K hw (k_J3_checkIndex l G S k n .null (Or.inl rfl) h0 h1) (g_cwS X hiJ3_checkIndex_8e157 q682 q683 q80 q684 ⟨(Nat.le_of_ble_eq_true rfl), (Nat.le_of_ble_eq_true rfl)⟩) rfl hl.1 rfl (Nat.le_of_ble_eq_true rfl) dJ0_checkIndex_df160_5 ⟨(Nat.le_of_ble_eq_true rfl), (Nat.le_of_ble_eq_true rfl)⟩ (fun z H locs ez hw => ?_)
    refine lv_pop X.1 X.2.1 dJ0_checkIndex_df160_8 rfl ?_
    exact g_vret X hret hlk hw rfl dJ0_checkIndex_df160_9
  · refine va_gets X.1 X.2.1 hZ hw.2 X.2.2.2.1 (X.2.2.2.2 _ q680) (fun _ h => h) dJ0_checkIndex_df160_2 ?_
    refine c_callSI_p X K hw (k_J3_checkIndex l G S k n (.ref t) (Or.inr ⟨t, rfl⟩) h0 h1) (g_cwS X hiJ3_checkIndex_8e157 q682 q683 q80 q684 ⟨(Nat.le_of_ble_eq_true rfl), (Nat.le_of_ble_eq_true rfl)⟩) rfl hl.1 rfl (Nat.le_of_ble_eq_true rfl) dJ0_checkIndex_df160_5 ⟨(Nat.le_of_ble_eq_true rfl), (Nat.le_of_ble_eq_true rfl)⟩ (fun z H locs ez hw => ?_)
    refine lv_pop X.1 X.2.1 dJ0_checkIndex_df160_8 rfl ?_
    exact g_vret X hret hlk hw rfl dJ0_checkIndex_df160_9
theorem ch_nar : ∀ i : Nat, i < 15 → ∀ j : Nat, j < 7 → narrow .char (.int (tt_ch i (nI j))) = .int (tt_ch i (nI j)) := by decide +kernel
theorem ch_nr {i : Nat} {k : Int32} (hi : i < 15) (hk : vp_in k (tt_len.getD i 0)) : narrow .char (.int (tt_ch i k)) = .int (tt_ch i k) := by
  have h7 := (wl_all i hi).1
  rw [vp_in_iff] at hk
  obtain ⟨j, hj, rfl⟩ := nI_of (x := k) (nn_int hk.1)
  rw [nI_toInt hj] at hk
  exact ch_nar i hi j (by omega)
set_option maxHeartbeats 4000000 in
set_option maxRecDepth 10000 in
theorem k_J1_charAt (l : Launch) (G : tt_G) (S : tt_St) (i : Nat) (k : Int32) (hi : i < 15) (hk : vp_in k (tt_len.getD i 0)) : c_MI l G yJ1_charAt_3b067 (g_code yJ1_charAt_3b067 cJ1_charAt_3b067 2 (some FieldType.char)) 2 43 [.ref (G.2.2 (130 + i)), .int k] S (tt_ch i k) S := by
  have h7 := (wl_all i hi).1
  have hk2 := vp_in_iff.mp hk
  refine g_begin rfl (Nat.le_of_ble_eq_true rfl) _ (fun p e s m below meth c ls X hret hlk hB hl => ?_)
  obtain ⟨hP0, K⟩ := hB
  have hw : c_W G S s s.heap [] := ⟨hP0, va_S.rf⟩
  have X : CallFix p m c cJ1_charAt_3b067 2 s ([.ref (G.2.2 (130 + i)), .int k] : List Value).toArray tt_T "java/lang/StringLatin1" := X
  have hl : lv_has ls 2 [(0, .ref (G.2.2 (130 + i))), (1, .int k)] := hl
  have hE := (K.2.2.2.1.1.narrow (c_A G)).1 i hi
  refine lv_iload_n X.1 X.2.1 dJ1_charAt_3b067_0 rfl (lv_at hl 1 rfl) ?_
  refine lv_aload_n X.1 X.2.1 dJ1_charAt_3b067_1 rfl (lv_at hl 0 rfl) ?_
  refine va_tlen (v := nI (tt_len.getD i 0)) X.1 X.2.1 hE.2.2.2 hw.2 rfl dJ1_charAt_3b067_2 ?_
  refine g_callSV X K (c_A G) hw (k_J0_checkIndex l G S k (nI (tt_len.getD i 0)) (nn_int hk2.1) (by rw [lp_lt, nI_toInt (by omega)]; exact hk2.2)) (g_cwS X hiJ0_checkIndex_df160 q677 q678 q78 q679 ⟨(Nat.le_of_ble_eq_true rfl), (Nat.le_of_ble_eq_true rfl)⟩) rfl hl.1 rfl (Nat.le_of_ble_eq_true rfl) dJ1_charAt_3b067_3 ⟨(Nat.le_of_ble_eq_true rfl), (Nat.le_of_ble_eq_true rfl)⟩ (fun S2 H locs eS hw => ?_)
  rw [eS] at hw
  refine lv_aload_n X.1 X.2.1 dJ1_charAt_3b067_6 rfl (lv_at hl 0 rfl) ?_
  refine lv_iload_n X.1 X.2.1 dJ1_charAt_3b067_7 rfl (lv_at hl 1 rfl) ?_
  refine va_tb X.1 X.2.1 hE.2.2.2 hw.2 hk (v := .int ((tt_byt.getD i []).getD k.toNatClampNeg 0)) rfl dJ1_charAt_3b067_8 ?_
  refine lv_sipush (v := (255 : Int32)) X.1 X.2.1 dJ1_charAt_3b067_9 (by decide) ?_
  refine lv_iand X.1 X.2.1 dJ1_charAt_3b067_12 ?_
  refine lv_i2c X.1 X.2.1 dJ1_charAt_3b067_13 rfl ?_
  exact g_zret X hret hlk hw (ch_nr hi hk) rfl rfl dJ1_charAt_3b067_14
set_option maxHeartbeats 4000000 in
set_option maxRecDepth 10000 in
theorem k_J0_charAt (l : Launch) (G : tt_G) (S : tt_St) (i : Nat) (k : Int32) (hi : i < 15) (hk : vp_in k (tt_len.getD i 0)) : c_MI l G yJ0_charAt_5068e (g_code yJ0_charAt_5068e cJ0_charAt_5068e 2 (some FieldType.char)) 3 65 [.ref (G.2.2 (110 + i)), .int k] S (tt_ch i k) S := by
  refine g_begin rfl (Nat.le_of_ble_eq_true rfl) _ (fun p e s m below meth c ls X hret hlk hB hl => ?_)
  obtain ⟨hP0, K⟩ := hB
  have hw : c_W G S s s.heap [] := ⟨hP0, va_S.rf⟩
  have X : CallFix p m c cJ0_charAt_5068e 2 s ([.ref (G.2.2 (110 + i)), .int k] : List Value).toArray tt_T "java/lang/String" := X
  have hl : lv_has ls 2 [(0, .ref (G.2.2 (110 + i))), (1, .int k)] := hl
  have hE := (K.2.2.2.1.1.narrow (c_A G)).1 i hi
  refine lv_aload_n X.1 X.2.1 dJ0_charAt_5068e_0 rfl (lv_at hl 0 rfl) ?_
  refine c_callStr X K hw (k_J0_isLatin1 l G S i hi) (g_cwV X hiJ0_isLatin1_aae02 q670 q671 q672 q78 q673 ⟨(Nat.le_of_ble_eq_true rfl), (Nat.le_of_ble_eq_true rfl)⟩) hi rfl hl.1 rfl (Nat.le_of_ble_eq_true rfl) dJ0_charAt_5068e_1 ⟨(Nat.le_of_ble_eq_true rfl), (Nat.le_of_ble_eq_true rfl)⟩ (fun z H locs ez hw => ?_)
  subst ez
  refine lv_if_eq (tgt := 16) X.1 X.2.1 dJ0_charAt_5068e_4 (by decide) (fun c1 => absurd c1 (by decide)) (fun c1 => ?_)
  refine lv_aload_n X.1 X.2.1 dJ0_charAt_5068e_7 rfl (lv_at hl 0 rfl) ?_
  refine vk_getf X.1 X.2.1 hE.2.2.1 hw.2 X.2.2.2.1 (X.2.2.2.2 _ q1299) (fun _ h => h) dJ0_charAt_5068e_8 ?_
  refine lv_iload_n X.1 X.2.1 dJ0_charAt_5068e_11 rfl (lv_at hl 1 rfl) ?_
  refine c_callSI_p X K hw (k_J1_charAt l G S i k hi hk) (g_cwS X hiJ1_charAt_3b067 q674 q675 q79 q676 ⟨(Nat.le_of_ble_eq_true rfl), (Nat.le_of_ble_eq_true rfl)⟩) rfl hl.1 rfl (Nat.le_of_ble_eq_true rfl) dJ0_charAt_5068e_12 ⟨(Nat.le_of_ble_eq_true rfl), (Nat.le_of_ble_eq_true rfl)⟩ (fun z H locs ez hw => ?_)
  subst ez
  exact g_zret X hret hlk hw (ch_nr hi hk) rfl rfl dJ0_charAt_5068e_15
