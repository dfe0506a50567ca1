set_option maxHeartbeats 4000000 in
set_option maxRecDepth 10000 in
theorem k_X7_finds (l : Launch) (G : tt_G) (S : tt_St) (V : Int64) (a1 : Int32) (hp0 : vp_in a1 7) : m_MI l G yX7_finds (g_code yX7_finds cX7_finds 2 (some FieldType.int)) 0 0 [.ref (mm_ad G 0), .int a1] S V ((f7_finds S a1).1) ((f7_finds S a1).2) V := by
  generalize hF : f7_finds S a1 = tgt
  refine g_begin rfl (Nat.le_of_ble_eq_true rfl) _ (fun p e s m below meth c ls X hret hlk hB hl => ?_)
  obtain ⟨hP0, K⟩ := hB
  have hw : m_W G S V s s.heap [] := ⟨hP0, va_S.rf⟩
  have X : CallFix p m c cX7_finds 2 s ([.ref (mm_ad G 0), .int a1] : List Value).toArray tt_T "TrustTinModel" := X
  have hl : lv_has ls 2 [(0, .ref (mm_ad G 0)), (1, .int a1)] := hl
  refine lv_aload_n X.1 X.2.1 dX7_finds_0 rfl (lv_at hl 0 rfl) ?_
  refine m_get X K hw 4 (by decide) q840 rfl dX7_finds_1 ?_
  refine lv_iload_n X.1 X.2.1 dX7_finds_4 rfl (lv_at hl 1 rfl) ?_
  refine lv_dup2_11 X.1 X.2.1 dX7_finds_5 rfl rfl ?_
  have hi1 : vp_in a1 7 := hp0
  refine g_iald X K hw (by decide) mm_e4 hi1 dX7_finds_6 ?_
  refine lv_iconst (v := (1 : Int32)) X.1 X.2.1 dX7_finds_7 (by decide) ?_
  refine lv_iadd X.1 X.2.1 dX7_finds_8 ?_
  refine lv_topi (fun x2 ex2 => ?_)
  have hi3 : vp_in a1 7 := hp0
  refine m_iast X K hw (by decide) (by decide) (fun _ => mm_e4) hi3 dX7_finds_9 (fun S4 H locs eS4 hw => ?_)
  refine lv_ldc (v := (-1000001 : Int32)) X.1 X.2.1 X.2.2.2.1 (X.2.2.2.2 _ q916) dX7_finds_10 ?_
  refine lv_iload_n X.1 X.2.1 dX7_finds_12 rfl (lv_at hl 1 rfl) ?_
  refine lv_isub X.1 X.2.1 dX7_finds_13 ?_
  have hR : ((-1000001 : Int32) - a1, S4) = tgt := by
    rw [← hF]
    subst ex2 eS4
    simp only [f7_finds]
  have hRR : (-1000001 : Int32) - a1 = tgt.1 := pr1 hR
  have hRS : S4 = tgt.2 := pr2 hR
  exact g_iret X hret hlk hw hRR (congrArg (fun z => (z, V)) hRS) dX7_finds_14
set_option maxHeartbeats 4000000 in
set_option maxRecDepth 10000 in
theorem k_X7_in (l : Launch) (G : tt_G) (S : tt_St) (V : Int64) (a0 : Int64) (a2 : Int64) (a4 : Int64) : m_MI l G yX7_in (g_code yX7_in cX7_in 6 (some FieldType.boolean)) 0 0 [.long a0, .long a2, .long a4] S V (f7_in a0 a2 a4) S V := by
  generalize hF : f7_in a0 a2 a4 = tgt
  refine g_begin rfl (Nat.le_of_ble_eq_true rfl) _ (fun p e s m below meth c ls X hret hlk hB hl => ?_)
  obtain ⟨hP0, K⟩ := hB
  have hw : m_W G S V s s.heap [] := ⟨hP0, va_S.rf⟩
  have X : CallFix p m c cX7_in 6 s ([.long a0, .long a2, .long a4] : List Value).toArray tt_T "TrustTinModel" := X
  have hl : lv_has ls 6 [(0, .long a0), (2, .long a2), (4, .long a4)] := hl
  refine lv_lload_n X.1 X.2.1 dX7_in_0 rfl (lv_at hl 0 rfl) ?_
  refine lv_lload_n X.1 X.2.1 dX7_in_1 rfl (lv_at hl 1 rfl) ?_
  refine W.lcmp X.1 X.2.1 dX7_in_2 ?_
  refine lv_if_lt (tgt := 17) X.1 X.2.1 dX7_in_3 (by decide) (fun c1 => ?_) (fun c1 => ?_)
  · refine lv_iconst (v := (0 : Int32)) X.1 X.2.1 dX7_in_17 (by decide) ?_
    have hR : (0 : Int32) = tgt := by
      rw [← hF]
      simp only [f7_in, if_pos c1]
    exact g_zret X hret hlk hw rfl hR rfl dX7_in_18
  · refine lv_lload_n X.1 X.2.1 dX7_in_6 rfl (lv_at hl 0 rfl) ?_
    refine lv_lload X.1 X.2.1 dX7_in_7 (lv_at hl 2 rfl) ?_
    refine W.lcmp X.1 X.2.1 dX7_in_9 ?_
    refine lv_if_gt (tgt := 17) X.1 X.2.1 dX7_in_10 (by decide) (fun c2 => ?_) (fun c2 => ?_)
    · refine lv_iconst (v := (0 : Int32)) X.1 X.2.1 dX7_in_17 (by decide) ?_
      have hR : (0 : Int32) = tgt := by
        rw [← hF]
        simp only [f7_in, if_neg c1, if_pos c2]
      exact g_zret X hret hlk hw rfl hR rfl dX7_in_18
    · refine lv_iconst (v := (1 : Int32)) X.1 X.2.1 dX7_in_13 (by decide) ?_
      refine lv_goto (tgt := 18) X.1 X.2.1 dX7_in_14 (by decide) ?_
      have hR : (1 : Int32) = tgt := by
        rw [← hF]
        simp only [f7_in, if_neg c1, if_neg c2]
      exact g_zret X hret hlk hw rfl hR rfl dX7_in_18
set_option maxHeartbeats 4000000 in
set_option maxRecDepth 10000 in
theorem k_X7_least (l : Launch) (G : tt_G) (S : tt_St) (V : Int64) (a0 : Int32) (a1 : Int32) : m_MI l G yX7_least (g_code yX7_least cX7_least 2 (some FieldType.int)) 0 0 [.int a0, .int a1] S V (f7_least a0 a1) S V := by
  generalize hF : f7_least a0 a1 = tgt
  refine g_begin rfl (Nat.le_of_ble_eq_true rfl) _ (fun p e s m below meth c ls X hret hlk hB hl => ?_)
  obtain ⟨hP0, K⟩ := hB
  have hw : m_W G S V s s.heap [] := ⟨hP0, va_S.rf⟩
  have X : CallFix p m c cX7_least 2 s ([.int a0, .int a1] : List Value).toArray tt_T "TrustTinModel" := X
  have hl : lv_has ls 2 [(0, .int a0), (1, .int a1)] := hl
  refine lv_iload_n X.1 X.2.1 dX7_least_0 rfl (lv_at hl 0 rfl) ?_
  refine lv_iload_n X.1 X.2.1 dX7_least_1 rfl (lv_at hl 1 rfl) ?_
  refine lv_icmp_ge (tgt := 9) X.1 X.2.1 dX7_least_2 (by decide) (fun c1 => ?_) (fun c1 => ?_)
  · refine lv_iload_n X.1 X.2.1 dX7_least_9 rfl (lv_at hl 1 rfl) ?_
    have hR : a1 = tgt := by
      rw [← hF]
      simp only [f7_least, if_pos c1]
    exact g_iret X hret hlk hw hR rfl dX7_least_10
  · refine lv_iload_n X.1 X.2.1 dX7_least_5 rfl (lv_at hl 0 rfl) ?_
    refine lv_goto (tgt := 10) X.1 X.2.1 dX7_least_6 (by decide) ?_
    have hR : a0 = tgt := by
      rw [← hF]
      simp only [f7_least, if_neg c1]
    exact g_iret X hret hlk hw hR rfl dX7_least_10
set_option maxHeartbeats 4000000 in
set_option maxRecDepth 10000 in
theorem k_X7_copies (l : Launch) (G : tt_G) (S : tt_St) (V : Int64) (q1 : Nat) (q2 : Nat) (hq1 : 1 ≤ q1 ∧ q1 ≤ 3) (hq2 : 1 ≤ q2 ∧ q2 ≤ 3) : m_MV l G yX7_copies (g_code yX7_copies cX7_copies 3 none) 0 0 [.ref (mm_ad G q1), .ref (mm_ad G q2)] S V (f7_copies S q1 q2) V := by
  generalize hF : f7_copies S q1 q2 = tgt
  refine g_begin rfl (Nat.le_of_ble_eq_true rfl) _ (fun p e s m below meth c ls X hret hlk hB hl => ?_)
  obtain ⟨hP0, K⟩ := hB
  have hw : m_W G S V s s.heap [] := ⟨hP0, va_S.rf⟩
  have X : CallFix p m c cX7_copies 3 s ([.ref (mm_ad G q1), .ref (mm_ad G q2)] : List Value).toArray tt_T "TrustTinModel" := X
  have hl : lv_has ls 3 [(0, .ref (mm_ad G q1)), (1, .ref (mm_ad G q2))] := hl
  refine lv_iconst (v := (0 : Int32)) X.1 X.2.1 dX7_copies_0 (by decide) ?_
  refine lv_istore_n (lv' := [(2, .int (0 : Int32)), (0, .ref (mm_ad G q1)), (1, .ref (mm_ad G q2))]) X.1 X.2.1 dX7_copies_1 rfl hl (by decide) rfl (fun ls hl => ?_)
  have j2 : ∀ (n : Nat) (S1 : tt_St) (y2_2 : Int32) (H : Heap) (locs : List Loc) (ls : Array Slot), (¬ y2_2 < 0) → lp_mu (132 : Int32) y2_2 < n → f7_copies_L2 q1 q2 n S1 y2_2 = tgt → m_W G S1 V s H locs → lv_has ls 3 [(0, .ref (mm_ad G q1)), (1, .ref (mm_ad G q2)), (2, .int y2_2)] → W p l e (g_rm 0 0) s m ([.ref (mm_ad G q1), .ref (mm_ad G q2)] : List Value).toArray below meth c H locs 0 0 (MQ below (va_Qv (fun T => T = (tgt, V)) (g_Post G 10 (mm_ad G) (mm_cell G)) (g_in 10 (mm_ad G))) ([.ref (mm_ad G q1), .ref (mm_ad G q2)] : List Value).toArray s 0 0 (g_in 10 (mm_ad G))) (F0 m 2 ls []) := by
    intro n
    induction n with
    | zero => intro S1 y2_2 H locs ls hI hm; exact absurd hm (Nat.not_lt_zero _)
    | succ n ih =>
      intro S1 y2_2 H locs ls hI hm hF hw hl
      refine lv_iload_n X.1 X.2.1 dX7_copies_2 rfl (lv_at hl 2 rfl) ?_
      refine lv_sipush (v := (132 : Int32)) X.1 X.2.1 dX7_copies_3 (by decide) ?_
      refine lv_icmp_ge (tgt := 21) X.1 X.2.1 dX7_copies_6 (by decide) (fun c2 => ?_) (fun c2 => ?_)
      · have hR : S1 = tgt := by
          rw [← hF]
          simp only [f7_copies_L2, if_pos c2]
        exact g_vret X hret hlk hw (congrArg (fun z => (z, V)) hR) dX7_copies_21
      · refine lv_aload_n X.1 X.2.1 dX7_copies_9 rfl (lv_at hl 1 rfl) ?_
        refine lv_iload_n X.1 X.2.1 dX7_copies_10 rfl (lv_at hl 2 rfl) ?_
        refine lv_aload_n X.1 X.2.1 dX7_copies_11 rfl (lv_at hl 0 rfl) ?_
        refine lv_iload_n X.1 X.2.1 dX7_copies_12 rfl (lv_at hl 2 rfl) ?_
        have hi3 : vp_in y2_2 132 := lp_in hI c2 (by decide)
        refine g_iald X K hw (by have := hq1; omega) (mm_eR hq1) hi3 dX7_copies_13 ?_
        refine lv_topi (fun x4 ex4 => ?_)
        have hi5 : vp_in y2_2 132 := lp_in hI c2 (by decide)
        refine m_iast X K hw (hq2).1 (by have := hq2; omega) (fun _ => mm_eR hq2) hi5 dX7_copies_14 (fun S6 H locs eS6 hw => ?_)
        obtain ⟨x7, ex7⟩ : ∃ y : Int32, y = y2_2 + (1 : Int32) := ⟨_, rfl⟩
        refine lv_iinc (v := x7) (lv' := [(2, .int x7), (0, .ref (mm_ad G q1)), (1, .ref (mm_ad G q2))]) X.1 X.2.1 dX7_copies_15 hl (k := 2) rfl (by rw [ex7]; rfl) (by decide) rfl (fun ls hl => ?_)
        refine lv_goto (tgt := 2) X.1 X.2.1 dX7_copies_18 (by decide) ?_
        have hF2 : f7_copies_L2 q1 q2 n S6 x7 = tgt := by
          rw [← hF]
          subst ex4 eS6 ex7
          simp only [f7_copies_L2, if_neg c2]
        exact ih S6 x7 _ _ ls (by rw [ex7]; exact lp_nn hI c2) (by rw [ex7]; exact lp_dec' c2 hm) hF2 hw (lv_sub hl [1, 2, 0] rfl)
  have hF2 : f7_copies_L2 q1 q2 (lp_mu (132 : Int32) 0 + 1) S (0 : Int32) = tgt := by
    rw [← hF]
    simp only [f7_copies]
  exact j2 (lp_mu (132 : Int32) 0 + 1) S (0 : Int32) _ _ ls (by decide) (Nat.lt_succ_self _) hF2 hw (lv_sub hl [1, 2, 0] rfl)
set_option maxHeartbeats 4000000 in
set_option maxRecDepth 10000 in
theorem k_X7_isDrinker (l : Launch) (G : tt_G) (S : tt_St) (V : Int64) (a1 : Int32) : m_MI l G yX7_isDrinker (g_code yX7_isDrinker cX7_isDrinker 2 (some FieldType.boolean)) 1 25 [.ref (mm_ad G 0), .int a1] S V (f7_isDrinker S a1) S V := by
  generalize hF : f7_isDrinker S a1 = tgt
  refine g_begin rfl (Nat.le_of_ble_eq_true rfl) _ (fun p e s m below meth c ls X hret hlk hB hl => ?_)
  obtain ⟨hP0, K⟩ := hB
  have hw : m_W G S V s s.heap [] := ⟨hP0, va_S.rf⟩
  have X : CallFix p m c cX7_isDrinker 2 s ([.ref (mm_ad G 0), .int a1] : List Value).toArray tt_T "TrustTinModel" := X
  have hl : lv_has ls 2 [(0, .ref (mm_ad G 0)), (1, .int a1)] := hl
  refine lv_iload_n X.1 X.2.1 dX7_isDrinker_0 rfl (lv_at hl 1 rfl) ?_
  refine lv_i2l X.1 X.2.1 dX7_isDrinker_1 rfl ?_
  refine lv_lconst (v := (0 : Int64)) X.1 X.2.1 dX7_isDrinker_2 (by decide) ?_
  refine lv_aload_n X.1 X.2.1 dX7_isDrinker_3 rfl (lv_at hl 0 rfl) ?_
  refine m_get X K hw 0 (by decide) q836 rfl dX7_isDrinker_4 ?_
  refine lv_iconst (v := (0 : Int32)) X.1 X.2.1 dX7_isDrinker_7 (by decide) ?_
  have hi1 : vp_in (0 : Int32) 132 := by unfold vp_in; decide
  refine g_ialdL (j := 0) X K hw (by decide) mm_e1 hi1 rfl dX7_isDrinker_8 ?_
  refine lv_iconst (v := (1 : Int32)) X.1 X.2.1 dX7_isDrinker_9 (by decide) ?_
  refine lv_isub X.1 X.2.1 dX7_isDrinker_10 ?_
  refine lv_i2l X.1 X.2.1 dX7_isDrinker_11 rfl ?_
  refine m_callSI_p X K hw (k_X7_in l G S V a1.toInt64 (0 : Int64) (((S 1 0) - (1 : Int32)).toInt64)) (g_cwS X hiX7_in q908 q909 q74 q910 ⟨(Nat.le_of_ble_eq_true rfl), (Nat.le_of_ble_eq_true rfl)⟩) rfl hl.1 rfl (Nat.le_of_ble_eq_true rfl) dX7_isDrinker_12 ⟨(Nat.le_of_ble_eq_true rfl), (Nat.le_of_ble_eq_true rfl)⟩ (fun z2 H locs ez2 hw => ?_)
  have hR : z2 = tgt := by
    rw [← hF]
    subst ez2
    simp only [f7_isDrinker]
  exact g_zret X hret hlk hw (bo_nr (bo_X7_in ez2)) hR rfl dX7_isDrinker_15
set_option maxHeartbeats 4000000 in
set_option maxRecDepth 10000 in
theorem k_X7_its (l : Launch) (G : tt_G) (S : tt_St) (V : Int64) (a1 : Int32) (a2 : Int32) (hp0 : vp_in a1 10) (hp1 : vp_in a2 7) : m_MI l G yX7_its (g_code yX7_its cX7_its 3 (some FieldType.int)) 0 0 [.ref (mm_ad G 0), .int a1, .int a2] S V (f7_its S a1 a2) S V := by
  generalize hF : f7_its S a1 a2 = tgt
  refine g_begin rfl (Nat.le_of_ble_eq_true rfl) _ (fun p e s m below meth c ls X hret hlk hB hl => ?_)
  obtain ⟨hP0, K⟩ := hB
  have hw : m_W G S V s s.heap [] := ⟨hP0, va_S.rf⟩
  have X : CallFix p m c cX7_its 3 s ([.ref (mm_ad G 0), .int a1, .int a2] : List Value).toArray tt_T "TrustTinModel" := X
  have hl : lv_has ls 3 [(0, .ref (mm_ad G 0)), (1, .int a1), (2, .int a2)] := hl
  refine lv_aload_n X.1 X.2.1 dX7_its_0 rfl (lv_at hl 0 rfl) ?_
  refine m_get X K hw 0 (by decide) q836 rfl dX7_its_1 ?_
  refine lv_bipush (v := (12 : Int32)) X.1 X.2.1 dX7_its_4 (by decide) ?_
  refine lv_bipush (v := (7 : Int32)) X.1 X.2.1 dX7_its_6 (by decide) ?_
  refine lv_iload_n X.1 X.2.1 dX7_its_8 rfl (lv_at hl 1 rfl) ?_
  refine lv_imul X.1 X.2.1 dX7_its_9 ?_
  refine lv_iadd X.1 X.2.1 dX7_its_10 ?_
  refine lv_iload_n X.1 X.2.1 dX7_its_11 rfl (lv_at hl 2 rfl) ?_
  refine lv_iadd X.1 X.2.1 dX7_its_12 ?_
  have hi1 : vp_in (((12 : Int32) + ((7 : Int32) * a1)) + a2) 132 := mi_in hp0 hp1
  refine g_iald X K hw (by decide) mm_e1 hi1 dX7_its_13 ?_
  have hR : S 1 (((12 : Int32) + ((7 : Int32) * a1)) + a2).toNatClampNeg = tgt := by
    rw [← hF]
    simp only [f7_its]
  exact g_iret X hret hlk hw hR rfl dX7_its_14
set_option maxHeartbeats 4000000 in
set_option maxRecDepth 10000 in
theorem k_X7_becomes (l : Launch) (G : tt_G) (S : tt_St) (V : Int64) (a1 : Int32) (a2 : Int32) (a3 : Int32) (hp0 : vp_in a1 10) (hp1 : vp_in a2 7) : m_MV l G yX7_becomes (g_code yX7_becomes cX7_becomes 4 none) 0 0 [.ref (mm_ad G 0), .int a1, .int a2, .int a3] S V (f7_becomes S a1 a2 a3) V := by
  generalize hF : f7_becomes S a1 a2 a3 = tgt
  refine g_begin rfl (Nat.le_of_ble_eq_true rfl) _ (fun p e s m below meth c ls X hret hlk hB hl => ?_)
  obtain ⟨hP0, K⟩ := hB
  have hw : m_W G S V s s.heap [] := ⟨hP0, va_S.rf⟩
  have X : CallFix p m c cX7_becomes 4 s ([.ref (mm_ad G 0), .int a1, .int a2, .int a3] : List Value).toArray tt_T "TrustTinModel" := X
  have hl : lv_has ls 4 [(0, .ref (mm_ad G 0)), (1, .int a1), (2, .int a2), (3, .int a3)] := hl
  refine lv_aload_n X.1 X.2.1 dX7_becomes_0 rfl (lv_at hl 0 rfl) ?_
  refine m_get X K hw 0 (by decide) q836 rfl dX7_becomes_1 ?_
  refine lv_bipush (v := (12 : Int32)) X.1 X.2.1 dX7_becomes_4 (by decide) ?_
  refine lv_bipush (v := (7 : Int32)) X.1 X.2.1 dX7_becomes_6 (by decide) ?_
  refine lv_iload_n X.1 X.2.1 dX7_becomes_8 rfl (lv_at hl 1 rfl) ?_
  refine lv_imul X.1 X.2.1 dX7_becomes_9 ?_
  refine lv_iadd X.1 X.2.1 dX7_becomes_10 ?_
  refine lv_iload_n X.1 X.2.1 dX7_becomes_11 rfl (lv_at hl 2 rfl) ?_
  refine lv_iadd X.1 X.2.1 dX7_becomes_12 ?_
  refine lv_iload_n X.1 X.2.1 dX7_becomes_13 rfl (lv_at hl 3 rfl) ?_
  have hi1 : vp_in (((12 : Int32) + ((7 : Int32) * a1)) + a2) 132 := mi_in hp0 hp1
  refine m_iast X K hw (by decide) (by decide) (fun _ => mm_e1) hi1 dX7_becomes_14 (fun S2 H locs eS2 hw => ?_)
  have hR : S2 = tgt := by
    rw [← hF]
    subst eS2
    simp only [f7_becomes]
  exact g_vret X hret hlk hw (congrArg (fun z => (z, V)) hR) dX7_becomes_15
set_option maxHeartbeats 4000000 in
set_option maxRecDepth 10000 in
theorem k_X7_comes (l : Launch) (G : tt_G) (S : tt_St) (V : Int64) (a1 : Int32) (a2 : Int32) (a3 : Int32) (a4 : Int32) (hp0 : vp_in (S 1 0) 10) : m_MI l G yX7_comes (g_code yX7_comes cX7_comes 6 (some FieldType.int)) 1 23 [.ref (mm_ad G 0), .int a1, .int a2, .int a3, .int a4] S V ((f7_comes S a1 a2 a3 a4).1) ((f7_comes S a1 a2 a3 a4).2) V := by
  generalize hF : f7_comes S a1 a2 a3 a4 = tgt
  refine g_begin rfl (Nat.le_of_ble_eq_true rfl) _ (fun p e s m below meth c ls X hret hlk hB hl => ?_)
  obtain ⟨hP0, K⟩ := hB
  have hw : m_W G S V s s.heap [] := ⟨hP0, va_S.rf⟩
  have X : CallFix p m c cX7_comes 6 s ([.ref (mm_ad G 0), .int a1, .int a2, .int a3, .int a4] : List Value).toArray tt_T "TrustTinModel" := X
  have hl : lv_has ls 6 [(0, .ref (mm_ad G 0)), (1, .int a1), (2, .int a2), (3, .int a3), (4, .int a4)] := hl
  refine lv_aload_n X.1 X.2.1 dX7_comes_0 rfl (lv_at hl 0 rfl) ?_
  refine m_get X K hw 0 (by decide) q836 rfl dX7_comes_1 ?_
  refine lv_iconst (v := (0 : Int32)) X.1 X.2.1 dX7_comes_4 (by decide) ?_
  have hi1 : vp_in (0 : Int32) 132 := by unfold vp_in; decide
  refine g_ialdL (j := 0) X K hw (by decide) mm_e1 hi1 rfl dX7_comes_5 ?_
  refine lv_topi (fun x2 ex2 => ?_)
  refine lv_istore (lv' := [(5, .int x2), (0, .ref (mm_ad G 0)), (1, .int a1), (2, .int a2), (3, .int a3), (4, .int a4)]) X.1 X.2.1 dX7_comes_6 hl (by decide) rfl (fun ls hl => ?_)
  refine lv_aload_n X.1 X.2.1 dX7_comes_8 rfl (lv_at hl 1 rfl) ?_
  refine lv_iload X.1 X.2.1 dX7_comes_9 (lv_at hl 0 rfl) ?_
  refine lv_iconst (v := (0 : Int32)) X.1 X.2.1 dX7_comes_11 (by decide) ?_
  refine lv_iload_n X.1 X.2.1 dX7_comes_12 rfl (lv_at hl 2 rfl) ?_
  refine m_callVV_s X K hw (k_X7_becomes l G S V x2 (0 : Int32) a1 (by rw [ex2]; exact hp0) (by unfold vp_in; decide)) (g_cwV X hiX7_becomes q921 q923 q31 q74 q924 ⟨(Nat.le_of_ble_eq_true rfl), (Nat.le_of_ble_eq_true rfl)⟩) rfl hl.1 rfl (Nat.le_of_ble_eq_true rfl) dX7_comes_13 ⟨(Nat.le_of_ble_eq_true rfl), (Nat.le_of_ble_eq_true rfl)⟩ (fun S3 H locs eS3 hw => ?_)
  refine lv_aload_n X.1 X.2.1 dX7_comes_16 rfl (lv_at hl 1 rfl) ?_
  refine lv_iload X.1 X.2.1 dX7_comes_17 (lv_at hl 0 rfl) ?_
  refine lv_iconst (v := (1 : Int32)) X.1 X.2.1 dX7_comes_19 (by decide) ?_
  refine lv_iload_n X.1 X.2.1 dX7_comes_20 rfl (lv_at hl 3 rfl) ?_
  refine m_callVV_s X K hw (k_X7_becomes l G S3 V x2 (1 : Int32) a2 (by rw [ex2]; exact hp0) (by unfold vp_in; decide)) (g_cwV X hiX7_becomes q921 q923 q31 q74 q924 ⟨(Nat.le_of_ble_eq_true rfl), (Nat.le_of_ble_eq_true rfl)⟩) rfl hl.1 rfl (Nat.le_of_ble_eq_true rfl) dX7_comes_21 ⟨(Nat.le_of_ble_eq_true rfl), (Nat.le_of_ble_eq_true rfl)⟩ (fun S4 H locs eS4 hw => ?_)
  refine lv_aload_n X.1 X.2.1 dX7_comes_24 rfl (lv_at hl 1 rfl) ?_
  refine lv_iload X.1 X.2.1 dX7_comes_25 (lv_at hl 0 rfl) ?_
  refine lv_iconst (v := (2 : Int32)) X.1 X.2.1 dX7_comes_27 (by decide) ?_
  refine lv_iload_n X.1 X.2.1 dX7_comes_28 rfl (lv_at hl 4 rfl) ?_
  refine m_callVV_s X K hw (k_X7_becomes l G S4 V x2 (2 : Int32) a3 (by rw [ex2]; exact hp0) (by unfold vp_in; decide)) (g_cwV X hiX7_becomes q921 q923 q31 q74 q924 ⟨(Nat.le_of_ble_eq_true rfl), (Nat.le_of_ble_eq_true rfl)⟩) rfl hl.1 rfl (Nat.le_of_ble_eq_true rfl) dX7_comes_29 ⟨(Nat.le_of_ble_eq_true rfl), (Nat.le_of_ble_eq_true rfl)⟩ (fun S5 H locs eS5 hw => ?_)
  refine lv_aload_n X.1 X.2.1 dX7_comes_32 rfl (lv_at hl 1 rfl) ?_
  refine lv_iload X.1 X.2.1 dX7_comes_33 (lv_at hl 0 rfl) ?_
  refine lv_iconst (v := (3 : Int32)) X.1 X.2.1 dX7_comes_35 (by decide) ?_
  refine lv_iload X.1 X.2.1 dX7_comes_36 (lv_at hl 5 rfl) ?_
  refine m_callVV_s X K hw (k_X7_becomes l G S5 V x2 (3 : Int32) a4 (by rw [ex2]; exact hp0) (by unfold vp_in; decide)) (g_cwV X hiX7_becomes q921 q923 q31 q74 q924 ⟨(Nat.le_of_ble_eq_true rfl), (Nat.le_of_ble_eq_true rfl)⟩) rfl hl.1 rfl (Nat.le_of_ble_eq_true rfl) dX7_comes_38 ⟨(Nat.le_of_ble_eq_true rfl), (Nat.le_of_ble_eq_true rfl)⟩ (fun S6 H locs eS6 hw => ?_)
  refine lv_aload_n X.1 X.2.1 dX7_comes_41 rfl (lv_at hl 1 rfl) ?_
  refine lv_iload X.1 X.2.1 dX7_comes_42 (lv_at hl 0 rfl) ?_
  refine lv_iconst (v := (4 : Int32)) X.1 X.2.1 dX7_comes_44 (by decide) ?_
  refine lv_iconst (v := (0 : Int32)) X.1 X.2.1 dX7_comes_45 (by decide) ?_
  refine m_callVV_s X K hw (k_X7_becomes l G S6 V x2 (4 : Int32) (0 : Int32) (by rw [ex2]; exact hp0) (by unfold vp_in; decide)) (g_cwV X hiX7_becomes q921 q923 q31 q74 q924 ⟨(Nat.le_of_ble_eq_true rfl), (Nat.le_of_ble_eq_true rfl)⟩) rfl hl.1 rfl (Nat.le_of_ble_eq_true rfl) dX7_comes_46 ⟨(Nat.le_of_ble_eq_true rfl), (Nat.le_of_ble_eq_true rfl)⟩ (fun S7 H locs eS7 hw => ?_)
  refine lv_aload_n X.1 X.2.1 dX7_comes_49 rfl (lv_at hl 1 rfl) ?_
  refine lv_iload X.1 X.2.1 dX7_comes_50 (lv_at hl 0 rfl) ?_
  refine lv_iconst (v := (5 : Int32)) X.1 X.2.1 dX7_comes_52 (by decide) ?_
  refine lv_iconst (v := (0 : Int32)) X.1 X.2.1 dX7_comes_53 (by decide) ?_
  refine m_callVV_s X K hw (k_X7_becomes l G S7 V x2 (5 : Int32) (0 : Int32) (by rw [ex2]; exact hp0) (by unfold vp_in; decide)) (g_cwV X hiX7_becomes q921 q923 q31 q74 q924 ⟨(Nat.le_of_ble_eq_true rfl), (Nat.le_of_ble_eq_true rfl)⟩) rfl hl.1 rfl (Nat.le_of_ble_eq_true rfl) dX7_comes_54 ⟨(Nat.le_of_ble_eq_true rfl), (Nat.le_of_ble_eq_true rfl)⟩ (fun S8 H locs eS8 hw => ?_)
  refine lv_aload_n X.1 X.2.1 dX7_comes_57 rfl (lv_at hl 1 rfl) ?_
  refine lv_iload X.1 X.2.1 dX7_comes_58 (lv_at hl 0 rfl) ?_
  refine lv_bipush (v := (6 : Int32)) X.1 X.2.1 dX7_comes_60 (by decide) ?_
  refine lv_iconst (v := (0 : Int32)) X.1 X.2.1 dX7_comes_62 (by decide) ?_
  refine m_callVV_s X K hw (k_X7_becomes l G S8 V x2 (6 : Int32) (0 : Int32) (by rw [ex2]; exact hp0) (by unfold vp_in; decide)) (g_cwV X hiX7_becomes q921 q923 q31 q74 q924 ⟨(Nat.le_of_ble_eq_true rfl), (Nat.le_of_ble_eq_true rfl)⟩) rfl hl.1 rfl (Nat.le_of_ble_eq_true rfl) dX7_comes_63 ⟨(Nat.le_of_ble_eq_true rfl), (Nat.le_of_ble_eq_true rfl)⟩ (fun S9 H locs eS9 hw => ?_)
  refine lv_aload_n X.1 X.2.1 dX7_comes_66 rfl (lv_at hl 1 rfl) ?_
  refine m_get X K hw 0 (by decide) q836 rfl dX7_comes_67 ?_
  refine lv_iconst (v := (0 : Int32)) X.1 X.2.1 dX7_comes_70 (by decide) ?_
  refine lv_dup2_11 X.1 X.2.1 dX7_comes_71 rfl rfl ?_
  have hi10 : vp_in (0 : Int32) 132 := by unfold vp_in; decide
  refine g_ialdL (j := 0) X K hw (by decide) mm_e1 hi10 rfl dX7_comes_72 ?_
  refine lv_iconst (v := (1 : Int32)) X.1 X.2.1 dX7_comes_73 (by decide) ?_
  refine lv_iadd X.1 X.2.1 dX7_comes_74 ?_
  refine lv_topi (fun x11 ex11 => ?_)
  have hi12 : vp_in (0 : Int32) 132 := by unfold vp_in; decide
  refine m_iastL (j := 0) X K hw (by decide) (by decide) (fun _ => mm_e1) hi12 rfl dX7_comes_75 (fun S13 H locs eS13 hw => ?_)
  refine lv_iload X.1 X.2.1 dX7_comes_76 (lv_at hl 0 rfl) ?_
  have hR : (x2, S13) = tgt := by
    rw [← hF]
    subst ex2 eS3 eS4 eS5 eS6 eS7 eS8 eS9 ex11 eS13
    simp only [f7_comes]
  have hRR : x2 = tgt.1 := pr1 hR
  have hRS : S13 = tgt.2 := pr2 hR
  exact g_iret X hret hlk hw hRR (congrArg (fun z => (z, V)) hRS) dX7_comes_78
set_option maxHeartbeats 4000000 in
set_option maxRecDepth 10000 in
theorem k_X7_empty (l : Launch) (G : tt_G) (S : tt_St) (V : Int64) (hp0 : mi S) : m_MI l G yX7_empty (g_code yX7_empty cX7_empty 2 (some FieldType.int)) 0 0 [.ref (mm_ad G 0)] S V ((f7_empty S).1) ((f7_empty S).2) V := by
  generalize hF : f7_empty S = tgt
  refine g_begin rfl (Nat.le_of_ble_eq_true rfl) _ (fun p e s m below meth c ls X hret hlk hB hl => ?_)
  obtain ⟨hP0, K⟩ := hB
  have hw : m_W G S V s s.heap [] := ⟨hP0, va_S.rf⟩
  have X : CallFix p m c cX7_empty 2 s ([.ref (mm_ad G 0)] : List Value).toArray tt_T "TrustTinModel" := X
  have hl : lv_has ls 2 [(0, .ref (mm_ad G 0))] := hl
  refine lv_aload_n X.1 X.2.1 dX7_empty_0 rfl (lv_at hl 0 rfl) ?_
  refine m_get X K hw 0 (by decide) q836 rfl dX7_empty_1 ?_
  refine lv_iconst (v := (4 : Int32)) X.1 X.2.1 dX7_empty_4 (by decide) ?_
  have hi1 : vp_in (4 : Int32) 132 := by unfold vp_in; decide
  refine g_ialdL (j := 4) X K hw (by decide) mm_e1 hi1 rfl dX7_empty_5 ?_
  refine lv_topi (fun x2 ex2 => ?_)
  refine lv_istore_n (lv' := [(1, .int x2), (0, .ref (mm_ad G 0))]) X.1 X.2.1 dX7_empty_6 rfl hl (by decide) rfl (fun ls hl => ?_)
  refine lv_aload_n X.1 X.2.1 dX7_empty_7 rfl (lv_at hl 1 rfl) ?_
  refine m_get X K hw 0 (by decide) q836 rfl dX7_empty_8 ?_
  refine lv_iconst (v := (4 : Int32)) X.1 X.2.1 dX7_empty_11 (by decide) ?_
  refine lv_iconst (v := (0 : Int32)) X.1 X.2.1 dX7_empty_12 (by decide) ?_
  have hi3 : vp_in (4 : Int32) 132 := by unfold vp_in; decide
  refine m_iastL (j := 4) X K hw (by decide) (by decide) (fun _ => mm_e1) hi3 rfl dX7_empty_13 (fun S4 H locs eS4 hw => ?_)
  refine lv_iload_n X.1 X.2.1 dX7_empty_14 rfl (lv_at hl 0 rfl) ?_
  have hR : (x2, S4) = tgt := by
    rw [← hF]
    subst ex2 eS4
    simp only [f7_empty]
  have hRR : x2 = tgt.1 := pr1 hR
  have hRS : S4 = tgt.2 := pr2 hR
  exact g_iret X hret hlk hw hRR (congrArg (fun z => (z, V)) hRS) dX7_empty_15
set_option maxHeartbeats 4000000 in
set_option maxRecDepth 10000 in
theorem k_X7_taken (l : Launch) (G : tt_G) (S : tt_St) (V : Int64) (a1 : Int32) (hp0 : mi S) : m_MI l G yX7_taken (g_code yX7_taken cX7_taken 3 (some FieldType.int)) 1 25 [.ref (mm_ad G 0), .int a1] S V ((f7_taken S a1).1) ((f7_taken S a1).2) V := by
  generalize hF : f7_taken S a1 = tgt
  refine g_begin rfl (Nat.le_of_ble_eq_true rfl) _ (fun p e s m below meth c ls X hret hlk hB hl => ?_)
  obtain ⟨hP0, K⟩ := hB
  have hw : m_W G S V s s.heap [] := ⟨hP0, va_S.rf⟩
  have X : CallFix p m c cX7_taken 3 s ([.ref (mm_ad G 0), .int a1] : List Value).toArray tt_T "TrustTinModel" := X
  have hl : lv_has ls 3 [(0, .ref (mm_ad G 0)), (1, .int a1)] := hl
  refine lv_iload_n X.1 X.2.1 dX7_taken_0 rfl (lv_at hl 1 rfl) ?_
  refine lv_i2l X.1 X.2.1 dX7_taken_1 rfl ?_
  refine lv_lconst (v := (1 : Int64)) X.1 X.2.1 dX7_taken_2 (by decide) ?_
  refine lv_ldc2 (v := (999 : Int64)) X.1 X.2.1 X.2.2.2.1 (X.2.2.2.2 _ q956) dX7_taken_3 ?_
  refine m_callSI_p X K hw (k_X7_in l G S V a1.toInt64 (1 : Int64) (999 : Int64)) (g_cwS X hiX7_in q908 q909 q74 q910 ⟨(Nat.le_of_ble_eq_true rfl), (Nat.le_of_ble_eq_true rfl)⟩) rfl hl.1 rfl (Nat.le_of_ble_eq_true rfl) dX7_taken_6 ⟨(Nat.le_of_ble_eq_true rfl), (Nat.le_of_ble_eq_true rfl)⟩ (fun z1 H locs ez1 hw => ?_)
  refine lv_if_ne (tgt := 18) X.1 X.2.1 dX7_taken_9 (by decide) (fun c2 => ?_) (fun c2 => ?_)
  · refine lv_iload_n X.1 X.2.1 dX7_taken_18 rfl (lv_at hl 1 rfl) ?_
    refine lv_aload_n X.1 X.2.1 dX7_taken_19 rfl (lv_at hl 0 rfl) ?_
    refine m_get X K hw 0 (by decide) q836 rfl dX7_taken_20 ?_
    refine lv_iconst (v := (4 : Int32)) X.1 X.2.1 dX7_taken_23 (by decide) ?_
    have hi3 : vp_in (4 : Int32) 132 := by unfold vp_in; decide
    refine g_ialdL (j := 4) X K hw (by decide) mm_e1 hi3 rfl dX7_taken_24 ?_
    refine m_callSI_p X K hw (k_X7_least l G S V a1 (S 1 4)) (g_cwS X hiX7_least q957 q958 q74 q959 ⟨(Nat.le_of_ble_eq_true rfl), (Nat.le_of_ble_eq_true rfl)⟩) rfl hl.1 rfl (Nat.le_of_ble_eq_true rfl) dX7_taken_25 ⟨(Nat.le_of_ble_eq_true rfl), (Nat.le_of_ble_eq_true rfl)⟩ (fun z4 H locs ez4 hw => ?_)
    refine lv_istore_n (lv' := [(2, .int z4), (0, .ref (mm_ad G 0)), (1, .int a1)]) X.1 X.2.1 dX7_taken_28 rfl hl (by decide) rfl (fun ls hl => ?_)
    refine lv_aload_n X.1 X.2.1 dX7_taken_29 rfl (lv_at hl 1 rfl) ?_
    refine m_get X K hw 0 (by decide) q836 rfl dX7_taken_30 ?_
    refine lv_iconst (v := (4 : Int32)) X.1 X.2.1 dX7_taken_33 (by decide) ?_
    refine lv_dup2_11 X.1 X.2.1 dX7_taken_34 rfl rfl ?_
    have hi5 : vp_in (4 : Int32) 132 := by unfold vp_in; decide
    refine g_ialdL (j := 4) X K hw (by decide) mm_e1 hi5 rfl dX7_taken_35 ?_
    refine lv_iload_n X.1 X.2.1 dX7_taken_36 rfl (lv_at hl 0 rfl) ?_
    refine lv_isub X.1 X.2.1 dX7_taken_37 ?_
    refine lv_topi (fun x6 ex6 => ?_)
    have hi7 : vp_in (4 : Int32) 132 := by unfold vp_in; decide
    refine m_iastL (j := 4) X K hw (by decide) (by decide) (fun _ => mm_e1) hi7 rfl dX7_taken_38 (fun S8 H locs eS8 hw => ?_)
    refine lv_iload_n X.1 X.2.1 dX7_taken_39 rfl (lv_at hl 0 rfl) ?_
    have hR : (z4, S8) = tgt := by
      rw [← hF]
      subst ez1 ez4 ex6 eS8
      simp only [f7_taken, if_neg c2]
    have hRR : z4 = tgt.1 := pr1 hR
    have hRS : S8 = tgt.2 := pr2 hR
    exact g_iret X hret hlk hw hRR (congrArg (fun z => (z, V)) hRS) dX7_taken_40
  · refine lv_aload_n X.1 X.2.1 dX7_taken_12 rfl (lv_at hl 0 rfl) ?_
    refine lv_iconst (v := (0 : Int32)) X.1 X.2.1 dX7_taken_13 (by decide) ?_
    refine m_callVI_s X K hw (k_X7_finds l G S V (0 : Int32) (by unfold vp_in; decide)) (g_cwV X hiX7_finds q912 q914 q29 q74 q915 ⟨(Nat.le_of_ble_eq_true rfl), (Nat.le_of_ble_eq_true rfl)⟩) rfl hl.1 rfl (Nat.le_of_ble_eq_true rfl) dX7_taken_14 ⟨(Nat.le_of_ble_eq_true rfl), (Nat.le_of_ble_eq_true rfl)⟩ (fun z9 S10 H locs ez9 eS10 hw => ?_)
    have hR : (z9, S10) = tgt := by
      rw [← hF]
      subst ez1 ez9 eS10
      simp only [f7_taken, if_pos c2]
    have hRR : z9 = tgt.1 := pr1 hR
    have hRS : S10 = tgt.2 := pr2 hR
    exact g_iret X hret hlk hw hRR (congrArg (fun z => (z, V)) hRS) dX7_taken_17
set_option maxHeartbeats 4000000 in
set_option maxRecDepth 10000 in
theorem k_X7_sumOf (l : Launch) (G : tt_G) (S : tt_St) (V : Int64) (a1 : Int32) (hp0 : (S 1 0).toInt ≤ 10) (hp1 : vp_in a1 7) : m_MI l G yX7_sumOf (g_code yX7_sumOf cX7_sumOf 4 (some FieldType.int)) 1 22 [.ref (mm_ad G 0), .int a1] S V (f7_sumOf S a1) S V := by
  generalize hF : f7_sumOf S a1 = tgt
  refine g_begin rfl (Nat.le_of_ble_eq_true rfl) _ (fun p e s m below meth c ls X hret hlk hB hl => ?_)
  obtain ⟨hP0, K⟩ := hB
  have hw : m_W G S V s s.heap [] := ⟨hP0, va_S.rf⟩
  have X : CallFix p m c cX7_sumOf 4 s ([.ref (mm_ad G 0), .int a1] : List Value).toArray tt_T "TrustTinModel" := X
  have hl : lv_has ls 4 [(0, .ref (mm_ad G 0)), (1, .int a1)] := hl
  refine lv_iconst (v := (0 : Int32)) X.1 X.2.1 dX7_sumOf_0 (by decide) ?_
  refine lv_istore_n (lv' := [(2, .int (0 : Int32)), (0, .ref (mm_ad G 0)), (1, .int a1)]) X.1 X.2.1 dX7_sumOf_1 rfl hl (by decide) rfl (fun ls hl => ?_)
  refine lv_iconst (v := (0 : Int32)) X.1 X.2.1 dX7_sumOf_2 (by decide) ?_
  refine lv_istore_n (lv' := [(3, .int (0 : Int32)), (2, .int (0 : Int32)), (0, .ref (mm_ad G 0)), (1, .int a1)]) X.1 X.2.1 dX7_sumOf_3 rfl hl (by decide) rfl (fun ls hl => ?_)
  have j4 : ∀ (n : Nat) (y2_4 : Int32) (y3_4 : Int32) (H : Heap) (locs : List Loc) (ls : Array Slot), (¬ y3_4 < 0) → lp_mu (S 1 0) y3_4 < n → f7_sumOf_L4 S a1 n y2_4 y3_4 = tgt → m_W G S V s H locs → lv_has ls 4 [(0, .ref (mm_ad G 0)), (1, .int a1), (2, .int y2_4), (3, .int y3_4)] → W p l e (g_rm 1 22) s m ([.ref (mm_ad G 0), .int a1] : List Value).toArray below meth c H locs 0 0 (MQ below (va_Qi (fun r T => r = tgt ∧ T = (S, V)) (g_Post G 10 (mm_ad G) (mm_cell G)) (g_in 10 (mm_ad G))) ([.ref (mm_ad G 0), .int a1] : List Value).toArray s 0 0 (g_in 10 (mm_ad G))) (F0 m 4 ls []) := by
    intro n
    induction n with
    | zero => intro y2_4 y3_4 H locs ls hI hm; exact absurd hm (Nat.not_lt_zero _)
    | succ n ih =>
      intro y2_4 y3_4 H locs ls hI hm hF hw hl
      refine lv_iload_n X.1 X.2.1 dX7_sumOf_4 rfl (lv_at hl 3 rfl) ?_
      refine lv_aload_n X.1 X.2.1 dX7_sumOf_5 rfl (lv_at hl 0 rfl) ?_
      refine m_get X K hw 0 (by decide) q836 rfl dX7_sumOf_6 ?_
      refine lv_iconst (v := (0 : Int32)) X.1 X.2.1 dX7_sumOf_9 (by decide) ?_
      have hi1 : vp_in (0 : Int32) 132 := by unfold vp_in; decide
      refine g_ialdL (j := 0) X K hw (by decide) mm_e1 hi1 rfl dX7_sumOf_10 ?_
      refine lv_icmp_ge (tgt := 29) X.1 X.2.1 dX7_sumOf_11 (by decide) (fun c2 => ?_) (fun c2 => ?_)
      · refine lv_iload_n X.1 X.2.1 dX7_sumOf_29 rfl (lv_at hl 2 rfl) ?_
        have hR : y2_4 = tgt := by
          rw [← hF]
          simp only [f7_sumOf_L4, if_pos c2]
        exact g_iret X hret hlk hw hR rfl dX7_sumOf_30
      · refine lv_iload_n X.1 X.2.1 dX7_sumOf_14 rfl (lv_at hl 2 rfl) ?_
        refine lv_aload_n X.1 X.2.1 dX7_sumOf_15 rfl (lv_at hl 0 rfl) ?_
        refine lv_iload_n X.1 X.2.1 dX7_sumOf_16 rfl (lv_at hl 3 rfl) ?_
        refine lv_iload_n X.1 X.2.1 dX7_sumOf_17 rfl (lv_at hl 1 rfl) ?_
        refine m_callVI_p X K hw (k_X7_its l G S V y3_4 a1 (lp_in hI c2 hp0) (hp1)) (g_cwV X hiX7_its q933 q935 q33 q74 q936 ⟨(Nat.le_of_ble_eq_true rfl), (Nat.le_of_ble_eq_true rfl)⟩) rfl hl.1 rfl (Nat.le_of_ble_eq_true rfl) dX7_sumOf_18 ⟨(Nat.le_of_ble_eq_true rfl), (Nat.le_of_ble_eq_true rfl)⟩ (fun z3 H locs ez3 hw => ?_)
        refine lv_iadd X.1 X.2.1 dX7_sumOf_21 ?_
        refine lv_topi (fun x4 ex4 => ?_)
        refine lv_istore_n (lv' := [(2, .int x4), (0, .ref (mm_ad G 0)), (1, .int a1), (3, .int y3_4)]) X.1 X.2.1 dX7_sumOf_22 rfl hl (by decide) rfl (fun ls hl => ?_)
        obtain ⟨x5, ex5⟩ : ∃ y : Int32, y = y3_4 + (1 : Int32) := ⟨_, rfl⟩
        refine lv_iinc (v := x5) (lv' := [(3, .int x5), (2, .int x4), (0, .ref (mm_ad G 0)), (1, .int a1)]) X.1 X.2.1 dX7_sumOf_23 hl (k := 3) rfl (by rw [ex5]; rfl) (by decide) rfl (fun ls hl => ?_)
        refine lv_goto (tgt := 4) X.1 X.2.1 dX7_sumOf_26 (by decide) ?_
        have hF2 : f7_sumOf_L4 S a1 n x4 x5 = tgt := by
          rw [← hF]
          subst ez3 ex4 ex5
          simp only [f7_sumOf_L4, if_neg c2]
        exact ih x4 x5 _ _ ls (by rw [ex5]; exact lp_nn hI c2) (by rw [ex5]; exact lp_dec' c2 hm) hF2 hw (lv_sub hl [2, 3, 1, 0] rfl)
  have hF2 : f7_sumOf_L4 S a1 (lp_mu (S 1 0) 0 + 1) (0 : Int32) (0 : Int32) = tgt := by
    rw [← hF]
    simp only [f7_sumOf]
  exact j4 (lp_mu (S 1 0) 0 + 1) (0 : Int32) (0 : Int32) _ _ ls (by decide) (Nat.lt_succ_self _) hF2 hw (lv_sub hl [2, 3, 1, 0] rfl)
set_option maxHeartbeats 4000000 in
set_option maxRecDepth 10000 in
theorem k_X7_drawn (l : Launch) (G : tt_G) (S : tt_St) (V : Int64) : m_MI l G yX7_drawn (g_code yX7_drawn cX7_drawn 1 (some FieldType.int)) 0 0 [.ref (mm_ad G 0)] S V ((f7_drawn S).1) ((f7_drawn S).2) V := by
  generalize hF : f7_drawn S = tgt
  refine g_begin rfl (Nat.le_of_ble_eq_true rfl) _ (fun p e s m below meth c ls X hret hlk hB hl => ?_)
  obtain ⟨hP0, K⟩ := hB
  have hw : m_W G S V s s.heap [] := ⟨hP0, va_S.rf⟩
  have X : CallFix p m c cX7_drawn 1 s ([.ref (mm_ad G 0)] : List Value).toArray tt_T "TrustTinModel" := X
  have hl : lv_has ls 1 [(0, .ref (mm_ad G 0))] := hl
  refine lv_aload_n X.1 X.2.1 dX7_drawn_0 rfl (lv_at hl 0 rfl) ?_
  refine m_get X K hw 0 (by decide) q836 rfl dX7_drawn_1 ?_
  refine lv_bipush (v := (10 : Int32)) X.1 X.2.1 dX7_drawn_4 (by decide) ?_
  refine lv_aload_n X.1 X.2.1 dX7_drawn_6 rfl (lv_at hl 0 rfl) ?_
  refine m_get X K hw 0 (by decide) q836 rfl dX7_drawn_7 ?_
  refine lv_bipush (v := (10 : Int32)) X.1 X.2.1 dX7_drawn_10 (by decide) ?_
  have hi1 : vp_in (10 : Int32) 132 := by unfold vp_in; decide
  refine g_ialdL (j := 10) X K hw (by decide) mm_e1 hi1 rfl dX7_drawn_12 ?_
  refine lv_ldc (v := (1103515245 : Int32)) X.1 X.2.1 X.2.2.2.1 (X.2.2.2.2 _ q1001) dX7_drawn_13 ?_
  refine lv_imul X.1 X.2.1 dX7_drawn_15 ?_
  refine lv_sipush (v := (12345 : Int32)) X.1 X.2.1 dX7_drawn_16 (by decide) ?_
  refine lv_iadd X.1 X.2.1 dX7_drawn_19 ?_
  refine lv_topi (fun x2 ex2 => ?_)
  have hi3 : vp_in (10 : Int32) 132 := by unfold vp_in; decide
  refine m_iastL (j := 10) X K hw (by decide) (by decide) (fun _ => mm_e1) hi3 rfl dX7_drawn_20 (fun S4 H locs eS4 hw => ?_)
  refine lv_aload_n X.1 X.2.1 dX7_drawn_21 rfl (lv_at hl 0 rfl) ?_
  refine m_get X K hw 0 (by decide) q836 rfl dX7_drawn_22 ?_
  refine lv_bipush (v := (10 : Int32)) X.1 X.2.1 dX7_drawn_25 (by decide) ?_
  have hi5 : vp_in (10 : Int32) 132 := by unfold vp_in; decide
  refine g_ialdL (j := 10) X K hw (by decide) mm_e1 hi5 rfl dX7_drawn_27 ?_
  refine lv_bipush (v := (8 : Int32)) X.1 X.2.1 dX7_drawn_28 (by decide) ?_
  refine lv_iushr X.1 X.2.1 dX7_drawn_30 rfl ?_
  have hR : (((S4 1 10).toUInt32 >>> ((8 : Int32).toUInt32 &&& Int32.toUInt32 31)).toInt32, S4) = tgt := by
    rw [← hF]
    subst ex2 eS4
    simp only [f7_drawn]
  have hRR : ((S4 1 10).toUInt32 >>> ((8 : Int32).toUInt32 &&& Int32.toUInt32 31)).toInt32 = tgt.1 := pr1 hR
  have hRS : S4 = tgt.2 := pr2 hR
  exact g_iret X hret hlk hw hRR (congrArg (fun z => (z, V)) hRS) dX7_drawn_31
set_option maxHeartbeats 4000000 in
set_option maxRecDepth 10000 in
theorem k_X7_pays (l : Launch) (G : tt_G) (S : tt_St) (V : Int64) (a1 : Int32) (a2 : Int32) (hp0 : vp_in a1 10) : m_MV l G yX7_pays (g_code yX7_pays cX7_pays 4 none) 1 23 [.ref (mm_ad G 0), .int a1, .int a2] S V (f7_pays S a1 a2) V := by
  generalize hF : f7_pays S a1 a2 = tgt
  refine g_begin rfl (Nat.le_of_ble_eq_true rfl) _ (fun p e s m below meth c ls X hret hlk hB hl => ?_)
  obtain ⟨hP0, K⟩ := hB
  have hw : m_W G S V s s.heap [] := ⟨hP0, va_S.rf⟩
  have X : CallFix p m c cX7_pays 4 s ([.ref (mm_ad G 0), .int a1, .int a2] : List Value).toArray tt_T "TrustTinModel" := X
  have hl : lv_has ls 4 [(0, .ref (mm_ad G 0)), (1, .int a1), (2, .int a2)] := hl
  refine lv_iload_n X.1 X.2.1 dX7_pays_0 rfl (lv_at hl 2 rfl) ?_
  refine lv_aload_n X.1 X.2.1 dX7_pays_1 rfl (lv_at hl 0 rfl) ?_
  refine lv_iload_n X.1 X.2.1 dX7_pays_2 rfl (lv_at hl 1 rfl) ?_
  refine lv_iconst (v := (2 : Int32)) X.1 X.2.1 dX7_pays_3 (by decide) ?_
  refine m_callVI_p X K hw (k_X7_its l G S V a1 (2 : Int32) hp0 (by unfold vp_in; decide)) (g_cwV X hiX7_its q933 q935 q33 q74 q936 ⟨(Nat.le_of_ble_eq_true rfl), (Nat.le_of_ble_eq_true rfl)⟩) rfl hl.1 rfl (Nat.le_of_ble_eq_true rfl) dX7_pays_4 ⟨(Nat.le_of_ble_eq_true rfl), (Nat.le_of_ble_eq_true rfl)⟩ (fun z1 H locs ez1 hw => ?_)
  refine m_callSI_p X K hw (k_X7_least l G S V a2 z1) (g_cwS X hiX7_least q957 q958 q74 q959 ⟨(Nat.le_of_ble_eq_true rfl), (Nat.le_of_ble_eq_true rfl)⟩) rfl hl.1 rfl (Nat.le_of_ble_eq_true rfl) dX7_pays_7 ⟨(Nat.le_of_ble_eq_true rfl), (Nat.le_of_ble_eq_true rfl)⟩ (fun z2 H locs ez2 hw => ?_)
  refine lv_istore_n (lv' := [(3, .int z2), (0, .ref (mm_ad G 0)), (1, .int a1), (2, .int a2)]) X.1 X.2.1 dX7_pays_10 rfl hl (by decide) rfl (fun ls hl => ?_)
  refine lv_aload_n X.1 X.2.1 dX7_pays_11 rfl (lv_at hl 1 rfl) ?_
  refine lv_iload_n X.1 X.2.1 dX7_pays_12 rfl (lv_at hl 2 rfl) ?_
  refine lv_iconst (v := (2 : Int32)) X.1 X.2.1 dX7_pays_13 (by decide) ?_
  refine lv_aload_n X.1 X.2.1 dX7_pays_14 rfl (lv_at hl 1 rfl) ?_
  refine lv_iload_n X.1 X.2.1 dX7_pays_15 rfl (lv_at hl 2 rfl) ?_
  refine lv_iconst (v := (2 : Int32)) X.1 X.2.1 dX7_pays_16 (by decide) ?_
  refine m_callVI_p X K hw (k_X7_its l G S V a1 (2 : Int32) hp0 (by unfold vp_in; decide)) (g_cwV X hiX7_its q933 q935 q33 q74 q936 ⟨(Nat.le_of_ble_eq_true rfl), (Nat.le_of_ble_eq_true rfl)⟩) rfl hl.1 rfl (Nat.le_of_ble_eq_true rfl) dX7_pays_17 ⟨(Nat.le_of_ble_eq_true rfl), (Nat.le_of_ble_eq_true rfl)⟩ (fun z3 H locs ez3 hw => ?_)
  refine lv_iload_n X.1 X.2.1 dX7_pays_20 rfl (lv_at hl 0 rfl) ?_
  refine lv_isub X.1 X.2.1 dX7_pays_21 ?_
  refine m_callVV_s X K hw (k_X7_becomes l G S V a1 (2 : Int32) (z3 - z2) hp0 (by unfold vp_in; decide)) (g_cwV X hiX7_becomes q921 q923 q31 q74 q924 ⟨(Nat.le_of_ble_eq_true rfl), (Nat.le_of_ble_eq_true rfl)⟩) rfl hl.1 rfl (Nat.le_of_ble_eq_true rfl) dX7_pays_22 ⟨(Nat.le_of_ble_eq_true rfl), (Nat.le_of_ble_eq_true rfl)⟩ (fun S4 H locs eS4 hw => ?_)
  refine lv_aload_n X.1 X.2.1 dX7_pays_25 rfl (lv_at hl 1 rfl) ?_
  refine lv_iload_n X.1 X.2.1 dX7_pays_26 rfl (lv_at hl 2 rfl) ?_
  refine lv_bipush (v := (6 : Int32)) X.1 X.2.1 dX7_pays_27 (by decide) ?_
  refine lv_aload_n X.1 X.2.1 dX7_pays_29 rfl (lv_at hl 1 rfl) ?_
  refine lv_iload_n X.1 X.2.1 dX7_pays_30 rfl (lv_at hl 2 rfl) ?_
  refine lv_bipush (v := (6 : Int32)) X.1 X.2.1 dX7_pays_31 (by decide) ?_
  refine m_callVI_p X K hw (k_X7_its l G S4 V a1 (6 : Int32) hp0 (by unfold vp_in; decide)) (g_cwV X hiX7_its q933 q935 q33 q74 q936 ⟨(Nat.le_of_ble_eq_true rfl), (Nat.le_of_ble_eq_true rfl)⟩) rfl hl.1 rfl (Nat.le_of_ble_eq_true rfl) dX7_pays_33 ⟨(Nat.le_of_ble_eq_true rfl), (Nat.le_of_ble_eq_true rfl)⟩ (fun z5 H locs ez5 hw => ?_)
  refine lv_iload_n X.1 X.2.1 dX7_pays_36 rfl (lv_at hl 0 rfl) ?_
  refine lv_iadd X.1 X.2.1 dX7_pays_37 ?_
  refine m_callVV_s X K hw (k_X7_becomes l G S4 V a1 (6 : Int32) (z5 + z2) hp0 (by unfold vp_in; decide)) (g_cwV X hiX7_becomes q921 q923 q31 q74 q924 ⟨(Nat.le_of_ble_eq_true rfl), (Nat.le_of_ble_eq_true rfl)⟩) rfl hl.1 rfl (Nat.le_of_ble_eq_true rfl) dX7_pays_38 ⟨(Nat.le_of_ble_eq_true rfl), (Nat.le_of_ble_eq_true rfl)⟩ (fun S6 H locs eS6 hw => ?_)
  refine lv_aload_n X.1 X.2.1 dX7_pays_41 rfl (lv_at hl 1 rfl) ?_
  refine m_get X K hw 0 (by decide) q836 rfl dX7_pays_42 ?_
  refine lv_iconst (v := (4 : Int32)) X.1 X.2.1 dX7_pays_45 (by decide) ?_
  refine lv_dup2_11 X.1 X.2.1 dX7_pays_46 rfl rfl ?_
  have hi7 : vp_in (4 : Int32) 132 := by unfold vp_in; decide
  refine g_ialdL (j := 4) X K hw (by decide) mm_e1 hi7 rfl dX7_pays_47 ?_
  refine lv_iload_n X.1 X.2.1 dX7_pays_48 rfl (lv_at hl 0 rfl) ?_
  refine lv_iadd X.1 X.2.1 dX7_pays_49 ?_
  refine lv_topi (fun x8 ex8 => ?_)
  have hi9 : vp_in (4 : Int32) 132 := by unfold vp_in; decide
  refine m_iastL (j := 4) X K hw (by decide) (by decide) (fun _ => mm_e1) hi9 rfl dX7_pays_50 (fun S10 H locs eS10 hw => ?_)
  refine lv_aload_n X.1 X.2.1 dX7_pays_51 rfl (lv_at hl 1 rfl) ?_
  refine m_get X K hw 0 (by decide) q836 rfl dX7_pays_52 ?_
  refine lv_bipush (v := (9 : Int32)) X.1 X.2.1 dX7_pays_55 (by decide) ?_
  refine lv_dup2_11 X.1 X.2.1 dX7_pays_57 rfl rfl ?_
  have hi11 : vp_in (9 : Int32) 132 := by unfold vp_in; decide
  refine g_ialdL (j := 9) X K hw (by decide) mm_e1 hi11 rfl dX7_pays_58 ?_
  refine lv_iload_n X.1 X.2.1 dX7_pays_59 rfl (lv_at hl 0 rfl) ?_
  refine lv_iadd X.1 X.2.1 dX7_pays_60 ?_
  refine lv_topi (fun x12 ex12 => ?_)
  have hi13 : vp_in (9 : Int32) 132 := by unfold vp_in; decide
  refine m_iastL (j := 9) X K hw (by decide) (by decide) (fun _ => mm_e1) hi13 rfl dX7_pays_61 (fun S14 H locs eS14 hw => ?_)
  refine lv_aload_n X.1 X.2.1 dX7_pays_62 rfl (lv_at hl 1 rfl) ?_
  refine lv_dup X.1 X.2.1 dX7_pays_63 rfl ?_
  refine m_get X K hw 7 (by decide) q843 rfl dX7_pays_64 ?_
  refine lv_iload_n X.1 X.2.1 dX7_pays_67 rfl (lv_at hl 0 rfl) ?_
  refine lv_iadd X.1 X.2.1 dX7_pays_68 ?_
  refine lv_topi (fun x15 ex15 => ?_)
  refine m_put X K hw 7 (by decide) q843 rfl rfl rfl dX7_pays_69 (fun S16 H locs eS16 hw => ?_)
  have hR : S16 = tgt := by
    rw [← hF]
    subst ez1 ez2 ez3 eS4 ez5 eS6 ex8 eS10 ex12 eS14 ex15 eS16
    simp only [f7_pays]
  exact g_vret X hret hlk hw (congrArg (fun z => (z, V)) hR) dX7_pays_72
set_option maxHeartbeats 4000000 in
set_option maxRecDepth 10000 in
theorem k_X7_forgets (l : Launch) (G : tt_G) (S : tt_St) (V : Int64) (a1 : Int32) (hp0 : vp_in a1 10) : m_MV l G yX7_forgets (g_code yX7_forgets cX7_forgets 2 none) 2 46 [.ref (mm_ad G 0), .int a1] S V (f7_forgets S a1) V := by
  generalize hF : f7_forgets S a1 = tgt
  refine g_begin rfl (Nat.le_of_ble_eq_true rfl) _ (fun p e s m below meth c ls X hret hlk hB hl => ?_)
  obtain ⟨hP0, K⟩ := hB
  have hw : m_W G S V s s.heap [] := ⟨hP0, va_S.rf⟩
  have X : CallFix p m c cX7_forgets 2 s ([.ref (mm_ad G 0), .int a1] : List Value).toArray tt_T "TrustTinModel" := X
  have hl : lv_has ls 2 [(0, .ref (mm_ad G 0)), (1, .int a1)] := hl
  refine lv_aload_n X.1 X.2.1 dX7_forgets_0 rfl (lv_at hl 0 rfl) ?_
  refine m_callVI_s X K hw (k_X7_drawn l G S V) (g_cwV X hiX7_drawn q997 q999 q40 q74 q1000 ⟨(Nat.le_of_ble_eq_true rfl), (Nat.le_of_ble_eq_true rfl)⟩) rfl hl.1 rfl (Nat.le_of_ble_eq_true rfl) dX7_forgets_1 ⟨(Nat.le_of_ble_eq_true rfl), (Nat.le_of_ble_eq_true rfl)⟩ (fun z1 S2 H locs ez1 eS2 hw => ?_)
  refine lv_bipush (v := (10 : Int32)) X.1 X.2.1 dX7_forgets_4 (by decide) ?_
  refine lv_irem X.1 X.2.1 dX7_forgets_6 (by decide) ?_
  refine lv_iconst (v := (4 : Int32)) X.1 X.2.1 dX7_forgets_7 (by decide) ?_
  refine lv_iconst (v := (2 : Int32)) X.1 X.2.1 dX7_forgets_8 (by decide) ?_
  refine lv_aload_n X.1 X.2.1 dX7_forgets_9 rfl (lv_at hl 0 rfl) ?_
  refine m_get X K hw 0 (by decide) q836 rfl dX7_forgets_10 ?_
  refine lv_iconst (v := (5 : Int32)) X.1 X.2.1 dX7_forgets_13 (by decide) ?_
  have hi3 : vp_in (5 : Int32) 132 := by unfold vp_in; decide
  refine g_ialdL (j := 5) X K hw (by decide) mm_e1 hi3 rfl dX7_forgets_14 ?_
  refine lv_imul X.1 X.2.1 dX7_forgets_15 ?_
  refine lv_isub X.1 X.2.1 dX7_forgets_16 ?_
  refine lv_icmp_lt (tgt := 31) X.1 X.2.1 dX7_forgets_17 (by decide) (fun c4 => ?_) (fun c4 => ?_)
  · have hR : S2 = tgt := by
      rw [← hF]
      subst ez1 eS2
      simp only [f7_forgets, if_pos c4]
    exact g_vret X hret hlk hw (congrArg (fun z => (z, V)) hR) dX7_forgets_31
  · refine lv_aload_n X.1 X.2.1 dX7_forgets_20 rfl (lv_at hl 0 rfl) ?_
    refine lv_iload_n X.1 X.2.1 dX7_forgets_21 rfl (lv_at hl 1 rfl) ?_
    refine lv_aload_n X.1 X.2.1 dX7_forgets_22 rfl (lv_at hl 0 rfl) ?_
    refine m_get X K hw 0 (by decide) q836 rfl dX7_forgets_23 ?_
    refine lv_iconst (v := (1 : Int32)) X.1 X.2.1 dX7_forgets_26 (by decide) ?_
    have hi5 : vp_in (1 : Int32) 132 := by unfold vp_in; decide
    refine g_ialdL (j := 1) X K hw (by decide) mm_e1 hi5 rfl dX7_forgets_27 ?_
    refine m_callVV_s X K hw (k_X7_pays l G S2 V a1 (S2 1 1) hp0) (g_cwV X hiX7_pays q1010 q1012 q43 q74 q1013 ⟨(Nat.le_of_ble_eq_true rfl), (Nat.le_of_ble_eq_true rfl)⟩) rfl hl.1 rfl (Nat.le_of_ble_eq_true rfl) dX7_forgets_28 ⟨(Nat.le_of_ble_eq_true rfl), (Nat.le_of_ble_eq_true rfl)⟩ (fun S6 H locs eS6 hw => ?_)
    have hR : S6 = tgt := by
      rw [← hF]
      subst ez1 eS2 eS6
      simp only [f7_forgets, if_neg c4]
    exact g_vret X hret hlk hw (congrArg (fun z => (z, V)) hR) dX7_forgets_31
set_option maxHeartbeats 4000000 in
set_option maxRecDepth 10000 in
theorem k_X7_paysFor (l : Launch) (G : tt_G) (S : tt_St) (V : Int64) (a1 : Int32) (a2 : Int32) (hp0 : vp_in a1 10) : m_MV l G yX7_paysFor (g_code yX7_paysFor cX7_paysFor 3 none) 3 67 [.ref (mm_ad G 0), .int a1, .int a2] S V (f7_paysFor S a1 a2) V := by
  generalize hF : f7_paysFor S a1 a2 = tgt
  refine g_begin rfl (Nat.le_of_ble_eq_true rfl) _ (fun p e s m below meth c ls X hret hlk hB hl => ?_)
  obtain ⟨hP0, K⟩ := hB
  have hw : m_W G S V s s.heap [] := ⟨hP0, va_S.rf⟩
  have X : CallFix p m c cX7_paysFor 3 s ([.ref (mm_ad G 0), .int a1, .int a2] : List Value).toArray tt_T "TrustTinModel" := X
  have hl : lv_has ls 3 [(0, .ref (mm_ad G 0)), (1, .int a1), (2, .int a2)] := hl
  refine lv_aload_n X.1 X.2.1 dX7_paysFor_0 rfl (lv_at hl 0 rfl) ?_
  refine lv_iload_n X.1 X.2.1 dX7_paysFor_1 rfl (lv_at hl 1 rfl) ?_
  refine lv_iconst (v := (0 : Int32)) X.1 X.2.1 dX7_paysFor_2 (by decide) ?_
  refine m_callVI_p X K hw (k_X7_its l G S V a1 (0 : Int32) hp0 (by unfold vp_in; decide)) (g_cwV X hiX7_its q933 q935 q33 q74 q936 ⟨(Nat.le_of_ble_eq_true rfl), (Nat.le_of_ble_eq_true rfl)⟩) rfl hl.1 rfl (Nat.le_of_ble_eq_true rfl) dX7_paysFor_3 ⟨(Nat.le_of_ble_eq_true rfl), (Nat.le_of_ble_eq_true rfl)⟩ (fun z1 H locs ez1 hw => ?_)
  by_cases c2 : z1 = (1 : Int32)
  · refine lv_tableIn (tgt := 44) X.1 X.2.1 dX7_paysFor_6 (by rw [c2]; decide) (by rw [c2]; decide) (by rw [c2]; rfl) (by decide) ?_
    refine lv_aload_n X.1 X.2.1 dX7_paysFor_44 rfl (lv_at hl 0 rfl) ?_
    refine lv_iload_n X.1 X.2.1 dX7_paysFor_45 rfl (lv_at hl 1 rfl) ?_
    refine lv_iconst (v := (4 : Int32)) X.1 X.2.1 dX7_paysFor_46 (by decide) ?_
    refine lv_aload_n X.1 X.2.1 dX7_paysFor_47 rfl (lv_at hl 0 rfl) ?_
    refine lv_iload_n X.1 X.2.1 dX7_paysFor_48 rfl (lv_at hl 1 rfl) ?_
    refine lv_iconst (v := (4 : Int32)) X.1 X.2.1 dX7_paysFor_49 (by decide) ?_
    refine m_callVI_p X K hw (k_X7_its l G S V a1 (4 : Int32) hp0 (by unfold vp_in; decide)) (g_cwV X hiX7_its q933 q935 q33 q74 q936 ⟨(Nat.le_of_ble_eq_true rfl), (Nat.le_of_ble_eq_true rfl)⟩) rfl hl.1 rfl (Nat.le_of_ble_eq_true rfl) dX7_paysFor_50 ⟨(Nat.le_of_ble_eq_true rfl), (Nat.le_of_ble_eq_true rfl)⟩ (fun z3 H locs ez3 hw => ?_)
    refine lv_aload_n X.1 X.2.1 dX7_paysFor_53 rfl (lv_at hl 0 rfl) ?_
    refine m_get X K hw 0 (by decide) q836 rfl dX7_paysFor_54 ?_
    refine lv_iconst (v := (1 : Int32)) X.1 X.2.1 dX7_paysFor_57 (by decide) ?_
    have hi4 : vp_in (1 : Int32) 132 := by unfold vp_in; decide
    refine g_ialdL (j := 1) X K hw (by decide) mm_e1 hi4 rfl dX7_paysFor_58 ?_
    refine lv_iadd X.1 X.2.1 dX7_paysFor_59 ?_
    refine m_callVV_s X K hw (k_X7_becomes l G S V a1 (4 : Int32) (z3 + (S 1 1)) hp0 (by unfold vp_in; decide)) (g_cwV X hiX7_becomes q921 q923 q31 q74 q924 ⟨(Nat.le_of_ble_eq_true rfl), (Nat.le_of_ble_eq_true rfl)⟩) rfl hl.1 rfl (Nat.le_of_ble_eq_true rfl) dX7_paysFor_60 ⟨(Nat.le_of_ble_eq_true rfl), (Nat.le_of_ble_eq_true rfl)⟩ (fun S5 H locs eS5 hw => ?_)
    refine lv_goto (tgt := 177) X.1 X.2.1 dX7_paysFor_63 (by decide) ?_
    have hR : S5 = tgt := by
      rw [← hF]
      subst ez1 ez3 eS5
      simp only [f7_paysFor, if_pos c2]
    exact g_vret X hret hlk hw (congrArg (fun z => (z, V)) hR) dX7_paysFor_177
  by_cases c6 : z1 = (2 : Int32)
  · refine lv_tableIn (tgt := 66) X.1 X.2.1 dX7_paysFor_6 (by rw [c6]; decide) (by rw [c6]; decide) (by rw [c6]; rfl) (by decide) ?_
    refine lv_aload_n X.1 X.2.1 dX7_paysFor_66 rfl (lv_at hl 0 rfl) ?_
    refine lv_iload_n X.1 X.2.1 dX7_paysFor_67 rfl (lv_at hl 1 rfl) ?_
    refine m_callVV_s X K hw (k_X7_forgets l G S V a1 hp0) (g_cwV X hiX7_forgets q1006 q1008 q42 q74 q1009 ⟨(Nat.le_of_ble_eq_true rfl), (Nat.le_of_ble_eq_true rfl)⟩) rfl hl.1 rfl (Nat.le_of_ble_eq_true rfl) dX7_paysFor_68 ⟨(Nat.le_of_ble_eq_true rfl), (Nat.le_of_ble_eq_true rfl)⟩ (fun S7 H locs eS7 hw => ?_)
    refine lv_goto (tgt := 177) X.1 X.2.1 dX7_paysFor_71 (by decide) ?_
    have hR : S7 = tgt := by
      rw [← hF]
      subst ez1 eS7
      simp only [f7_paysFor, if_neg c2, if_pos c6]
    exact g_vret X hret hlk hw (congrArg (fun z => (z, V)) hR) dX7_paysFor_177
  by_cases c8 : z1 = (3 : Int32)
  · refine lv_tableIn (tgt := 74) X.1 X.2.1 dX7_paysFor_6 (by rw [c8]; decide) (by rw [c8]; decide) (by rw [c8]; rfl) (by decide) ?_
    refine lv_aload_n X.1 X.2.1 dX7_paysFor_74 rfl (lv_at hl 0 rfl) ?_
    refine lv_iload_n X.1 X.2.1 dX7_paysFor_75 rfl (lv_at hl 1 rfl) ?_
    refine lv_aload_n X.1 X.2.1 dX7_paysFor_76 rfl (lv_at hl 0 rfl) ?_
    refine m_get X K hw 0 (by decide) q836 rfl dX7_paysFor_77 ?_
    refine lv_iconst (v := (5 : Int32)) X.1 X.2.1 dX7_paysFor_80 (by decide) ?_
    have hi9 : vp_in (5 : Int32) 132 := by unfold vp_in; decide
    refine g_ialdL (j := 5) X K hw (by decide) mm_e1 hi9 rfl dX7_paysFor_81 ?_
    refine lv_iconst (v := (2 : Int32)) X.1 X.2.1 dX7_paysFor_82 (by decide) ?_
    refine lv_icmp_ne (tgt := 99) X.1 X.2.1 dX7_paysFor_83 (by decide) (fun c10 => ?_) (fun c10 => ?_)
    · refine lv_iconst (v := (0 : Int32)) X.1 X.2.1 dX7_paysFor_99 (by decide) ?_
      refine m_callVV_s X K hw (k_X7_pays l G S V a1 (0 : Int32) hp0) (g_cwV X hiX7_pays q1010 q1012 q43 q74 q1013 ⟨(Nat.le_of_ble_eq_true rfl), (Nat.le_of_ble_eq_true rfl)⟩) rfl hl.1 rfl (Nat.le_of_ble_eq_true rfl) dX7_paysFor_100 ⟨(Nat.le_of_ble_eq_true rfl), (Nat.le_of_ble_eq_true rfl)⟩ (fun S11 H locs eS11 hw => ?_)
      refine lv_goto (tgt := 177) X.1 X.2.1 dX7_paysFor_103 (by decide) ?_
      have hR : S11 = tgt := by
        rw [← hF]
        subst ez1 eS11
        simp only [f7_paysFor, if_neg c2, if_neg c6, if_pos c8, if_neg c10]
      exact g_vret X hret hlk hw (congrArg (fun z => (z, V)) hR) dX7_paysFor_177
    · refine lv_iload_n X.1 X.2.1 dX7_paysFor_86 rfl (lv_at hl 2 rfl) ?_
      refine lv_if_eq (tgt := 99) X.1 X.2.1 dX7_paysFor_87 (by decide) (fun c12 => ?_) (fun c12 => ?_)
      · refine lv_iconst (v := (0 : Int32)) X.1 X.2.1 dX7_paysFor_99 (by decide) ?_
        refine m_callVV_s X K hw (k_X7_pays l G S V a1 (0 : Int32) hp0) (g_cwV X hiX7_pays q1010 q1012 q43 q74 q1013 ⟨(Nat.le_of_ble_eq_true rfl), (Nat.le_of_ble_eq_true rfl)⟩) rfl hl.1 rfl (Nat.le_of_ble_eq_true rfl) dX7_paysFor_100 ⟨(Nat.le_of_ble_eq_true rfl), (Nat.le_of_ble_eq_true rfl)⟩ (fun S13 H locs eS13 hw => ?_)
        refine lv_goto (tgt := 177) X.1 X.2.1 dX7_paysFor_103 (by decide) ?_
        have hR : S13 = tgt := by
          rw [← hF]
          subst ez1 eS13
          simp only [f7_paysFor, if_neg c2, if_neg c6, if_pos c8, if_pos c10, if_pos c12]
        exact g_vret X hret hlk hw (congrArg (fun z => (z, V)) hR) dX7_paysFor_177
      · refine lv_aload_n X.1 X.2.1 dX7_paysFor_90 rfl (lv_at hl 0 rfl) ?_
        refine m_get X K hw 0 (by decide) q836 rfl dX7_paysFor_91 ?_
        refine lv_iconst (v := (1 : Int32)) X.1 X.2.1 dX7_paysFor_94 (by decide) ?_
        have hi14 : vp_in (1 : Int32) 132 := by unfold vp_in; decide
        refine g_ialdL (j := 1) X K hw (by decide) mm_e1 hi14 rfl dX7_paysFor_95 ?_
        refine lv_goto (tgt := 100) X.1 X.2.1 dX7_paysFor_96 (by decide) ?_
        refine m_callVV_s X K hw (k_X7_pays l G S V a1 (S 1 1) hp0) (g_cwV X hiX7_pays q1010 q1012 q43 q74 q1013 ⟨(Nat.le_of_ble_eq_true rfl), (Nat.le_of_ble_eq_true rfl)⟩) rfl hl.1 rfl (Nat.le_of_ble_eq_true rfl) dX7_paysFor_100 ⟨(Nat.le_of_ble_eq_true rfl), (Nat.le_of_ble_eq_true rfl)⟩ (fun S15 H locs eS15 hw => ?_)
        refine lv_goto (tgt := 177) X.1 X.2.1 dX7_paysFor_103 (by decide) ?_
        have hR : S15 = tgt := by
          rw [← hF]
          subst ez1 eS15
          simp only [f7_paysFor, if_neg c2, if_neg c6, if_pos c8, if_pos c10, if_neg c12]
        exact g_vret X hret hlk hw (congrArg (fun z => (z, V)) hR) dX7_paysFor_177
  by_cases c16 : z1 = (4 : Int32)
  · refine lv_tableIn (tgt := 106) X.1 X.2.1 dX7_paysFor_6 (by rw [c16]; decide) (by rw [c16]; decide) (by rw [c16]; rfl) (by decide) ?_
    refine lv_aload_n X.1 X.2.1 dX7_paysFor_106 rfl (lv_at hl 0 rfl) ?_
    refine m_get X K hw 0 (by decide) q836 rfl dX7_paysFor_107 ?_
    refine lv_bipush (v := (6 : Int32)) X.1 X.2.1 dX7_paysFor_110 (by decide) ?_
    have hi17 : vp_in (6 : Int32) 132 := by unfold vp_in; decide
    refine g_ialdL (j := 6) X K hw (by decide) mm_e1 hi17 rfl dX7_paysFor_112 ?_
    refine lv_bipush (v := (50 : Int32)) X.1 X.2.1 dX7_paysFor_113 (by decide) ?_
    refine lv_icmp_lt (tgt := 177) X.1 X.2.1 dX7_paysFor_115 (by decide) (fun c18 => ?_) (fun c18 => ?_)
    · have hR : S = tgt := by
        rw [← hF]
        subst ez1
        simp only [f7_paysFor, if_neg c2, if_neg c6, if_neg c8, if_pos c16, if_pos c18]
      exact g_vret X hret hlk hw (congrArg (fun z => (z, V)) hR) dX7_paysFor_177
    · refine lv_aload_n X.1 X.2.1 dX7_paysFor_118 rfl (lv_at hl 0 rfl) ?_
      refine lv_iload_n X.1 X.2.1 dX7_paysFor_119 rfl (lv_at hl 1 rfl) ?_
      refine m_callVV_s X K hw (k_X7_forgets l G S V a1 hp0) (g_cwV X hiX7_forgets q1006 q1008 q42 q74 q1009 ⟨(Nat.le_of_ble_eq_true rfl), (Nat.le_of_ble_eq_true rfl)⟩) rfl hl.1 rfl (Nat.le_of_ble_eq_true rfl) dX7_paysFor_120 ⟨(Nat.le_of_ble_eq_true rfl), (Nat.le_of_ble_eq_true rfl)⟩ (fun S19 H locs eS19 hw => ?_)
      refine lv_goto (tgt := 177) X.1 X.2.1 dX7_paysFor_123 (by decide) ?_
      have hR : S19 = tgt := by
        rw [← hF]
        subst ez1 eS19
        simp only [f7_paysFor, if_neg c2, if_neg c6, if_neg c8, if_pos c16, if_neg c18]
      exact g_vret X hret hlk hw (congrArg (fun z => (z, V)) hR) dX7_paysFor_177
  by_cases c20 : z1 = (5 : Int32)
  · refine lv_tableIn (tgt := 126) X.1 X.2.1 dX7_paysFor_6 (by rw [c20]; decide) (by rw [c20]; decide) (by rw [c20]; rfl) (by decide) ?_
    refine lv_aload_n X.1 X.2.1 dX7_paysFor_126 rfl (lv_at hl 0 rfl) ?_
    refine lv_iload_n X.1 X.2.1 dX7_paysFor_127 rfl (lv_at hl 1 rfl) ?_
    refine lv_iconst (v := (2 : Int32)) X.1 X.2.1 dX7_paysFor_128 (by decide) ?_
    refine lv_aload_n X.1 X.2.1 dX7_paysFor_129 rfl (lv_at hl 0 rfl) ?_
    refine m_get X K hw 0 (by decide) q836 rfl dX7_paysFor_130 ?_
    refine lv_iconst (v := (1 : Int32)) X.1 X.2.1 dX7_paysFor_133 (by decide) ?_
    have hi21 : vp_in (1 : Int32) 132 := by unfold vp_in; decide
    refine g_ialdL (j := 1) X K hw (by decide) mm_e1 hi21 rfl dX7_paysFor_134 ?_
    refine lv_imul X.1 X.2.1 dX7_paysFor_135 ?_
    refine m_callVV_s X K hw (k_X7_pays l G S V a1 ((2 : Int32) * (S 1 1)) hp0) (g_cwV X hiX7_pays q1010 q1012 q43 q74 q1013 ⟨(Nat.le_of_ble_eq_true rfl), (Nat.le_of_ble_eq_true rfl)⟩) rfl hl.1 rfl (Nat.le_of_ble_eq_true rfl) dX7_paysFor_136 ⟨(Nat.le_of_ble_eq_true rfl), (Nat.le_of_ble_eq_true rfl)⟩ (fun S22 H locs eS22 hw => ?_)
    refine lv_goto (tgt := 177) X.1 X.2.1 dX7_paysFor_139 (by decide) ?_
    have hR : S22 = tgt := by
      rw [← hF]
      subst ez1 eS22
      simp only [f7_paysFor, if_neg c2, if_neg c6, if_neg c8, if_neg c16, if_pos c20]
    exact g_vret X hret hlk hw (congrArg (fun z => (z, V)) hR) dX7_paysFor_177
  by_cases c23 : z1 = (6 : Int32)
  · refine lv_tableIn (tgt := 142) X.1 X.2.1 dX7_paysFor_6 (by rw [c23]; decide) (by rw [c23]; decide) (by rw [c23]; rfl) (by decide) ?_
    refine lv_aload_n X.1 X.2.1 dX7_paysFor_142 rfl (lv_at hl 0 rfl) ?_
    refine lv_iload_n X.1 X.2.1 dX7_paysFor_143 rfl (lv_at hl 1 rfl) ?_
    refine lv_iconst (v := (4 : Int32)) X.1 X.2.1 dX7_paysFor_144 (by decide) ?_
    refine lv_aload_n X.1 X.2.1 dX7_paysFor_145 rfl (lv_at hl 0 rfl) ?_
    refine lv_iload_n X.1 X.2.1 dX7_paysFor_146 rfl (lv_at hl 1 rfl) ?_
    refine lv_iconst (v := (4 : Int32)) X.1 X.2.1 dX7_paysFor_147 (by decide) ?_
    refine m_callVI_p X K hw (k_X7_its l G S V a1 (4 : Int32) hp0 (by unfold vp_in; decide)) (g_cwV X hiX7_its q933 q935 q33 q74 q936 ⟨(Nat.le_of_ble_eq_true rfl), (Nat.le_of_ble_eq_true rfl)⟩) rfl hl.1 rfl (Nat.le_of_ble_eq_true rfl) dX7_paysFor_148 ⟨(Nat.le_of_ble_eq_true rfl), (Nat.le_of_ble_eq_true rfl)⟩ (fun z24 H locs ez24 hw => ?_)
    refine lv_aload_n X.1 X.2.1 dX7_paysFor_151 rfl (lv_at hl 0 rfl) ?_
    refine m_get X K hw 0 (by decide) q836 rfl dX7_paysFor_152 ?_
    refine lv_iconst (v := (1 : Int32)) X.1 X.2.1 dX7_paysFor_155 (by decide) ?_
    have hi25 : vp_in (1 : Int32) 132 := by unfold vp_in; decide
    refine g_ialdL (j := 1) X K hw (by decide) mm_e1 hi25 rfl dX7_paysFor_156 ?_
    refine lv_iconst (v := (2 : Int32)) X.1 X.2.1 dX7_paysFor_157 (by decide) ?_
    refine lv_idiv X.1 X.2.1 dX7_paysFor_158 (by decide) ?_
    refine lv_iadd X.1 X.2.1 dX7_paysFor_159 ?_
    refine m_callVV_s X K hw (k_X7_becomes l G S V a1 (4 : Int32) (z24 + ((S 1 1) / (2 : Int32))) hp0 (by unfold vp_in; decide)) (g_cwV X hiX7_becomes q921 q923 q31 q74 q924 ⟨(Nat.le_of_ble_eq_true rfl), (Nat.le_of_ble_eq_true rfl)⟩) rfl hl.1 rfl (Nat.le_of_ble_eq_true rfl) dX7_paysFor_160 ⟨(Nat.le_of_ble_eq_true rfl), (Nat.le_of_ble_eq_true rfl)⟩ (fun S26 H locs eS26 hw => ?_)
    refine lv_goto (tgt := 177) X.1 X.2.1 dX7_paysFor_163 (by decide) ?_
    have hR : S26 = tgt := by
      rw [← hF]
      subst ez1 ez24 eS26
      simp only [f7_paysFor, if_neg c2, if_neg c6, if_neg c8, if_neg c16, if_neg c20, if_pos c23]
    exact g_vret X hret hlk hw (congrArg (fun z => (z, V)) hR) dX7_paysFor_177
  refine lv_tableOut (tgt := 166) X.1 X.2.1 dX7_paysFor_6 (by have := lv_neT (a := 1) c2 rfl; have := lv_neT (a := 2) c6 rfl; have := lv_neT (a := 3) c8 rfl; have := lv_neT (a := 4) c16 rfl; have := lv_neT (a := 5) c20 rfl; have := lv_neT (a := 6) c23 rfl; omega) (by decide) ?_
  refine lv_aload_n X.1 X.2.1 dX7_paysFor_166 rfl (lv_at hl 0 rfl) ?_
  refine lv_iload_n X.1 X.2.1 dX7_paysFor_167 rfl (lv_at hl 1 rfl) ?_
  refine lv_aload_n X.1 X.2.1 dX7_paysFor_168 rfl (lv_at hl 0 rfl) ?_
  refine m_get X K hw 0 (by decide) q836 rfl dX7_paysFor_169 ?_
  refine lv_iconst (v := (1 : Int32)) X.1 X.2.1 dX7_paysFor_172 (by decide) ?_
  have hi27 : vp_in (1 : Int32) 132 := by unfold vp_in; decide
  refine g_ialdL (j := 1) X K hw (by decide) mm_e1 hi27 rfl dX7_paysFor_173 ?_
  refine m_callVV_s X K hw (k_X7_pays l G S V a1 (S 1 1) hp0) (g_cwV X hiX7_pays q1010 q1012 q43 q74 q1013 ⟨(Nat.le_of_ble_eq_true rfl), (Nat.le_of_ble_eq_true rfl)⟩) rfl hl.1 rfl (Nat.le_of_ble_eq_true rfl) dX7_paysFor_174 ⟨(Nat.le_of_ble_eq_true rfl), (Nat.le_of_ble_eq_true rfl)⟩ (fun S28 H locs eS28 hw => ?_)
  have hR : S28 = tgt := by
    rw [← hF]
    subst ez1 eS28
    simp only [f7_paysFor, if_neg c2, if_neg c6, if_neg c8, if_neg c16, if_neg c20, if_neg c23]
  exact g_vret X hret hlk hw (congrArg (fun z => (z, V)) hR) dX7_paysFor_177
set_option maxHeartbeats 4000000 in
set_option maxRecDepth 10000 in
theorem k_X7_hasCup (l : Launch) (G : tt_G) (S : tt_St) (V : Int64) (a1 : Int32) (hp0 : vp_in a1 10) : m_MI l G yX7_hasCup (g_code yX7_hasCup cX7_hasCup 3 (some FieldType.boolean)) 1 22 [.ref (mm_ad G 0), .int a1] S V ((f7_hasCup S a1).1) ((f7_hasCup S a1).2) V := by
  generalize hF : f7_hasCup S a1 = tgt
  refine g_begin rfl (Nat.le_of_ble_eq_true rfl) _ (fun p e s m below meth c ls X hret hlk hB hl => ?_)
  obtain ⟨hP0, K⟩ := hB
  have hw : m_W G S V s s.heap [] := ⟨hP0, va_S.rf⟩
  have X : CallFix p m c cX7_hasCup 3 s ([.ref (mm_ad G 0), .int a1] : List Value).toArray tt_T "TrustTinModel" := X
  have hl : lv_has ls 3 [(0, .ref (mm_ad G 0)), (1, .int a1)] := hl
  refine lv_aload_n X.1 X.2.1 dX7_hasCup_0 rfl (lv_at hl 0 rfl) ?_
  refine m_get X K hw 0 (by decide) q836 rfl dX7_hasCup_1 ?_
  refine lv_iconst (v := (3 : Int32)) X.1 X.2.1 dX7_hasCup_4 (by decide) ?_
  have hi1 : vp_in (3 : Int32) 132 := by unfold vp_in; decide
  refine g_ialdL (j := 3) X K hw (by decide) mm_e1 hi1 rfl dX7_hasCup_5 ?_
  refine lv_if_le (tgt := 11) X.1 X.2.1 dX7_hasCup_6 (by decide) (fun c2 => ?_) (fun c2 => ?_)
  · refine lv_aload_n X.1 X.2.1 dX7_hasCup_11 rfl (lv_at hl 0 rfl) ?_
    refine lv_iload_n X.1 X.2.1 dX7_hasCup_12 rfl (lv_at hl 1 rfl) ?_
    refine lv_iconst (v := (0 : Int32)) X.1 X.2.1 dX7_hasCup_13 (by decide) ?_
    refine m_callVI_p X K hw (k_X7_its l G S V a1 (0 : Int32) hp0 (by unfold vp_in; decide)) (g_cwV X hiX7_its q933 q935 q33 q74 q936 ⟨(Nat.le_of_ble_eq_true rfl), (Nat.le_of_ble_eq_true rfl)⟩) rfl hl.1 rfl (Nat.le_of_ble_eq_true rfl) dX7_hasCup_14 ⟨(Nat.le_of_ble_eq_true rfl), (Nat.le_of_ble_eq_true rfl)⟩ (fun z3 H locs ez3 hw => ?_)
    refine lv_bipush (v := (6 : Int32)) X.1 X.2.1 dX7_hasCup_17 (by decide) ?_
    refine lv_icmp_eq (tgt := 33) X.1 X.2.1 dX7_hasCup_19 (by decide) (fun c4 => ?_) (fun c4 => ?_)
    · refine lv_iconst (v := (1 : Int32)) X.1 X.2.1 dX7_hasCup_33 (by decide) ?_
      refine lv_goto (tgt := 38) X.1 X.2.1 dX7_hasCup_34 (by decide) ?_
      refine lv_istore_n (lv' := [(2, .int (1 : Int32)), (0, .ref (mm_ad G 0)), (1, .int a1)]) X.1 X.2.1 dX7_hasCup_38 rfl hl (by decide) rfl (fun ls hl => ?_)
      refine lv_aload_n X.1 X.2.1 dX7_hasCup_39 rfl (lv_at hl 1 rfl) ?_
      refine m_get X K hw 0 (by decide) q836 rfl dX7_hasCup_40 ?_
      refine lv_iconst (v := (3 : Int32)) X.1 X.2.1 dX7_hasCup_43 (by decide) ?_
      refine lv_iload_n X.1 X.2.1 dX7_hasCup_44 rfl (lv_at hl 0 rfl) ?_
      refine lv_if_eq (tgt := 57) X.1 X.2.1 dX7_hasCup_45 (by decide) (fun c5 => ?_) (fun c5 => ?_)
      · exact absurd c5 (by decide)
      · refine lv_aload_n X.1 X.2.1 dX7_hasCup_48 rfl (lv_at hl 1 rfl) ?_
        refine m_get X K hw 0 (by decide) q836 rfl dX7_hasCup_49 ?_
        refine lv_iconst (v := (2 : Int32)) X.1 X.2.1 dX7_hasCup_52 (by decide) ?_
        have hi6 : vp_in (2 : Int32) 132 := by unfold vp_in; decide
        refine g_ialdL (j := 2) X K hw (by decide) mm_e1 hi6 rfl dX7_hasCup_53 ?_
        refine lv_goto (tgt := 58) X.1 X.2.1 dX7_hasCup_54 (by decide) ?_
        refine lv_topi (fun x7 ex7 => ?_)
        have hi8 : vp_in (3 : Int32) 132 := by unfold vp_in; decide
        refine m_iastL (j := 3) X K hw (by decide) (by decide) (fun _ => mm_e1) hi8 rfl dX7_hasCup_58 (fun S9 H locs eS9 hw => ?_)
        refine lv_aload_n X.1 X.2.1 dX7_hasCup_59 rfl (lv_at hl 1 rfl) ?_
        refine m_get X K hw 0 (by decide) q836 rfl dX7_hasCup_60 ?_
        refine lv_bipush (v := (8 : Int32)) X.1 X.2.1 dX7_hasCup_63 (by decide) ?_
        refine lv_dup2_11 X.1 X.2.1 dX7_hasCup_65 rfl rfl ?_
        have hi10 : vp_in (8 : Int32) 132 := by unfold vp_in; decide
        refine g_ialdL (j := 8) X K hw (by decide) mm_e1 hi10 rfl dX7_hasCup_66 ?_
        refine lv_iload_n X.1 X.2.1 dX7_hasCup_67 rfl (lv_at hl 0 rfl) ?_
        refine lv_if_eq (tgt := 75) X.1 X.2.1 dX7_hasCup_68 (by decide) (fun c11 => ?_) (fun c11 => ?_)
        · exact absurd c11 (by decide)
        · refine lv_iconst (v := (0 : Int32)) X.1 X.2.1 dX7_hasCup_71 (by decide) ?_
          refine lv_goto (tgt := 76) X.1 X.2.1 dX7_hasCup_72 (by decide) ?_
          refine lv_iadd X.1 X.2.1 dX7_hasCup_76 ?_
          refine lv_topi (fun x12 ex12 => ?_)
          have hi13 : vp_in (8 : Int32) 132 := by unfold vp_in; decide
          refine m_iastL (j := 8) X K hw (by decide) (by decide) (fun _ => mm_e1) hi13 rfl dX7_hasCup_77 (fun S14 H locs eS14 hw => ?_)
          refine lv_iload_n X.1 X.2.1 dX7_hasCup_78 rfl (lv_at hl 0 rfl) ?_
          have hR : ((1 : Int32), S14) = tgt := by
            rw [← hF]
            subst ez3 ex7 eS9 ex12 eS14
            simp only [f7_hasCup, if_pos c2, if_pos c4]
          have hRR : (1 : Int32) = tgt.1 := pr1 hR
          have hRS : S14 = tgt.2 := pr2 hR
          exact g_zret X hret hlk hw rfl hRR (congrArg (fun z => (z, V)) hRS) dX7_hasCup_79
    · refine lv_aload_n X.1 X.2.1 dX7_hasCup_22 rfl (lv_at hl 0 rfl) ?_
      refine m_callVI_s X K hw (k_X7_drawn l G S V) (g_cwV X hiX7_drawn q997 q999 q40 q74 q1000 ⟨(Nat.le_of_ble_eq_true rfl), (Nat.le_of_ble_eq_true rfl)⟩) rfl hl.1 rfl (Nat.le_of_ble_eq_true rfl) dX7_hasCup_23 ⟨(Nat.le_of_ble_eq_true rfl), (Nat.le_of_ble_eq_true rfl)⟩ (fun z15 S16 H locs ez15 eS16 hw => ?_)
      refine lv_bipush (v := (10 : Int32)) X.1 X.2.1 dX7_hasCup_26 (by decide) ?_
      refine lv_irem X.1 X.2.1 dX7_hasCup_28 (by decide) ?_
      refine lv_iconst (v := (3 : Int32)) X.1 X.2.1 dX7_hasCup_29 (by decide) ?_
      refine lv_icmp_ge (tgt := 37) X.1 X.2.1 dX7_hasCup_30 (by decide) (fun c17 => ?_) (fun c17 => ?_)
      · refine lv_iconst (v := (0 : Int32)) X.1 X.2.1 dX7_hasCup_37 (by decide) ?_
        refine lv_istore_n (lv' := [(2, .int (0 : Int32)), (0, .ref (mm_ad G 0)), (1, .int a1)]) X.1 X.2.1 dX7_hasCup_38 rfl hl (by decide) rfl (fun ls hl => ?_)
        refine lv_aload_n X.1 X.2.1 dX7_hasCup_39 rfl (lv_at hl 1 rfl) ?_
        refine m_get X K hw 0 (by decide) q836 rfl dX7_hasCup_40 ?_
        refine lv_iconst (v := (3 : Int32)) X.1 X.2.1 dX7_hasCup_43 (by decide) ?_
        refine lv_iload_n X.1 X.2.1 dX7_hasCup_44 rfl (lv_at hl 0 rfl) ?_
        refine lv_if_eq (tgt := 57) X.1 X.2.1 dX7_hasCup_45 (by decide) (fun c18 => ?_) (fun c18 => ?_)
        · refine lv_iconst (v := (0 : Int32)) X.1 X.2.1 dX7_hasCup_57 (by decide) ?_
          have hi19 : vp_in (3 : Int32) 132 := by unfold vp_in; decide
          refine m_iastL (j := 3) X K hw (by decide) (by decide) (fun _ => mm_e1) hi19 rfl dX7_hasCup_58 (fun S20 H locs eS20 hw => ?_)
          refine lv_aload_n X.1 X.2.1 dX7_hasCup_59 rfl (lv_at hl 1 rfl) ?_
          refine m_get X K hw 0 (by decide) q836 rfl dX7_hasCup_60 ?_
          refine lv_bipush (v := (8 : Int32)) X.1 X.2.1 dX7_hasCup_63 (by decide) ?_
          refine lv_dup2_11 X.1 X.2.1 dX7_hasCup_65 rfl rfl ?_
          have hi21 : vp_in (8 : Int32) 132 := by unfold vp_in; decide
          refine g_ialdL (j := 8) X K hw (by decide) mm_e1 hi21 rfl dX7_hasCup_66 ?_
          refine lv_iload_n X.1 X.2.1 dX7_hasCup_67 rfl (lv_at hl 0 rfl) ?_
          refine lv_if_eq (tgt := 75) X.1 X.2.1 dX7_hasCup_68 (by decide) (fun c22 => ?_) (fun c22 => ?_)
          · refine lv_iconst (v := (1 : Int32)) X.1 X.2.1 dX7_hasCup_75 (by decide) ?_
            refine lv_iadd X.1 X.2.1 dX7_hasCup_76 ?_
            refine lv_topi (fun x23 ex23 => ?_)
            have hi24 : vp_in (8 : Int32) 132 := by unfold vp_in; decide
            refine m_iastL (j := 8) X K hw (by decide) (by decide) (fun _ => mm_e1) hi24 rfl dX7_hasCup_77 (fun S25 H locs eS25 hw => ?_)
            refine lv_iload_n X.1 X.2.1 dX7_hasCup_78 rfl (lv_at hl 0 rfl) ?_
            have hR : ((0 : Int32), S25) = tgt := by
              rw [← hF]
              subst ez3 ez15 eS16 eS20 ex23 eS25
              simp only [f7_hasCup, if_pos c2, if_neg c4, if_pos c17]
            have hRR : (0 : Int32) = tgt.1 := pr1 hR
            have hRS : S25 = tgt.2 := pr2 hR
            exact g_zret X hret hlk hw rfl hRR (congrArg (fun z => (z, V)) hRS) dX7_hasCup_79
          · exact absurd (by decide) c22
        · exact absurd (by decide) c18
      · refine lv_iconst (v := (1 : Int32)) X.1 X.2.1 dX7_hasCup_33 (by decide) ?_
        refine lv_goto (tgt := 38) X.1 X.2.1 dX7_hasCup_34 (by decide) ?_
        refine lv_istore_n (lv' := [(2, .int (1 : Int32)), (0, .ref (mm_ad G 0)), (1, .int a1)]) X.1 X.2.1 dX7_hasCup_38 rfl hl (by decide) rfl (fun ls hl => ?_)
        refine lv_aload_n X.1 X.2.1 dX7_hasCup_39 rfl (lv_at hl 1 rfl) ?_
        refine m_get X K hw 0 (by decide) q836 rfl dX7_hasCup_40 ?_
        refine lv_iconst (v := (3 : Int32)) X.1 X.2.1 dX7_hasCup_43 (by decide) ?_
        refine lv_iload_n X.1 X.2.1 dX7_hasCup_44 rfl (lv_at hl 0 rfl) ?_
        refine lv_if_eq (tgt := 57) X.1 X.2.1 dX7_hasCup_45 (by decide) (fun c26 => ?_) (fun c26 => ?_)
        · exact absurd c26 (by decide)
        · refine lv_aload_n X.1 X.2.1 dX7_hasCup_48 rfl (lv_at hl 1 rfl) ?_
          refine m_get X K hw 0 (by decide) q836 rfl dX7_hasCup_49 ?_
          refine lv_iconst (v := (2 : Int32)) X.1 X.2.1 dX7_hasCup_52 (by decide) ?_
          have hi27 : vp_in (2 : Int32) 132 := by unfold vp_in; decide
          refine g_ialdL (j := 2) X K hw (by decide) mm_e1 hi27 rfl dX7_hasCup_53 ?_
          refine lv_goto (tgt := 58) X.1 X.2.1 dX7_hasCup_54 (by decide) ?_
          refine lv_topi (fun x28 ex28 => ?_)
          have hi29 : vp_in (3 : Int32) 132 := by unfold vp_in; decide
          refine m_iastL (j := 3) X K hw (by decide) (by decide) (fun _ => mm_e1) hi29 rfl dX7_hasCup_58 (fun S30 H locs eS30 hw => ?_)
          refine lv_aload_n X.1 X.2.1 dX7_hasCup_59 rfl (lv_at hl 1 rfl) ?_
          refine m_get X K hw 0 (by decide) q836 rfl dX7_hasCup_60 ?_
          refine lv_bipush (v := (8 : Int32)) X.1 X.2.1 dX7_hasCup_63 (by decide) ?_
          refine lv_dup2_11 X.1 X.2.1 dX7_hasCup_65 rfl rfl ?_
          have hi31 : vp_in (8 : Int32) 132 := by unfold vp_in; decide
          refine g_ialdL (j := 8) X K hw (by decide) mm_e1 hi31 rfl dX7_hasCup_66 ?_
          refine lv_iload_n X.1 X.2.1 dX7_hasCup_67 rfl (lv_at hl 0 rfl) ?_
          refine lv_if_eq (tgt := 75) X.1 X.2.1 dX7_hasCup_68 (by decide) (fun c32 => ?_) (fun c32 => ?_)
          · exact absurd c32 (by decide)
          · refine lv_iconst (v := (0 : Int32)) X.1 X.2.1 dX7_hasCup_71 (by decide) ?_
            refine lv_goto (tgt := 76) X.1 X.2.1 dX7_hasCup_72 (by decide) ?_
            refine lv_iadd X.1 X.2.1 dX7_hasCup_76 ?_
            refine lv_topi (fun x33 ex33 => ?_)
            have hi34 : vp_in (8 : Int32) 132 := by unfold vp_in; decide
            refine m_iastL (j := 8) X K hw (by decide) (by decide) (fun _ => mm_e1) hi34 rfl dX7_hasCup_77 (fun S35 H locs eS35 hw => ?_)
            refine lv_iload_n X.1 X.2.1 dX7_hasCup_78 rfl (lv_at hl 0 rfl) ?_
            have hR : ((1 : Int32), S35) = tgt := by
              rw [← hF]
              subst ez3 ez15 eS16 ex28 eS30 ex33 eS35
              simp only [f7_hasCup, if_pos c2, if_neg c4, if_neg c17]
            have hRR : (1 : Int32) = tgt.1 := pr1 hR
            have hRS : S35 = tgt.2 := pr2 hR
            exact g_zret X hret hlk hw rfl hRR (congrArg (fun z => (z, V)) hRS) dX7_hasCup_79
  · refine lv_iconst (v := (1 : Int32)) X.1 X.2.1 dX7_hasCup_9 (by decide) ?_
    have hR : ((1 : Int32), S) = tgt := by
      rw [← hF]
      simp only [f7_hasCup, if_neg c2]
    have hRR : (1 : Int32) = tgt.1 := pr1 hR
    have hRS : S = tgt.2 := pr2 hR
    exact g_zret X hret hlk hw rfl hRR (congrArg (fun z => (z, V)) hRS) dX7_hasCup_10
set_option maxHeartbeats 4000000 in
set_option maxRecDepth 10000 in
theorem k_X7_drinks (l : Launch) (G : tt_G) (S : tt_St) (V : Int64) (a1 : Int32) (hp0 : vp_in a1 10) : m_MV l G yX7_drinks (g_code yX7_drinks cX7_drinks 4 none) 4 89 [.ref (mm_ad G 0), .int a1] S V (f7_drinks S a1) V := by
  generalize hF : f7_drinks S a1 = tgt
  refine g_begin rfl (Nat.le_of_ble_eq_true rfl) _ (fun p e s m below meth c ls X hret hlk hB hl => ?_)
  obtain ⟨hP0, K⟩ := hB
  have hw : m_W G S V s s.heap [] := ⟨hP0, va_S.rf⟩
  have X : CallFix p m c cX7_drinks 4 s ([.ref (mm_ad G 0), .int a1] : List Value).toArray tt_T "TrustTinModel" := X
  have hl : lv_has ls 4 [(0, .ref (mm_ad G 0)), (1, .int a1)] := hl
  refine lv_aload_n X.1 X.2.1 dX7_drinks_0 rfl (lv_at hl 0 rfl) ?_
  refine lv_iload_n X.1 X.2.1 dX7_drinks_1 rfl (lv_at hl 1 rfl) ?_
  refine lv_iconst (v := (3 : Int32)) X.1 X.2.1 dX7_drinks_2 (by decide) ?_
  refine m_callVI_p X K hw (k_X7_its l G S V a1 (3 : Int32) hp0 (by unfold vp_in; decide)) (g_cwV X hiX7_its q933 q935 q33 q74 q936 ⟨(Nat.le_of_ble_eq_true rfl), (Nat.le_of_ble_eq_true rfl)⟩) rfl hl.1 rfl (Nat.le_of_ble_eq_true rfl) dX7_drinks_3 ⟨(Nat.le_of_ble_eq_true rfl), (Nat.le_of_ble_eq_true rfl)⟩ (fun z1 H locs ez1 hw => ?_)
  refine lv_aload_n X.1 X.2.1 dX7_drinks_6 rfl (lv_at hl 0 rfl) ?_
  refine m_get X K hw 0 (by decide) q836 rfl dX7_drinks_7 ?_
  refine lv_iconst (v := (1 : Int32)) X.1 X.2.1 dX7_drinks_10 (by decide) ?_
  have hi2 : vp_in (1 : Int32) 132 := by unfold vp_in; decide
  refine g_ialdL (j := 1) X K hw (by decide) mm_e1 hi2 rfl dX7_drinks_11 ?_
  refine lv_icmp_ge (tgt := 19) X.1 X.2.1 dX7_drinks_12 (by decide) (fun c3 => ?_) (fun c3 => ?_)
  · refine lv_aload_n X.1 X.2.1 dX7_drinks_19 rfl (lv_at hl 0 rfl) ?_
    refine lv_iload_n X.1 X.2.1 dX7_drinks_20 rfl (lv_at hl 1 rfl) ?_
    refine lv_iconst (v := (1 : Int32)) X.1 X.2.1 dX7_drinks_21 (by decide) ?_
    refine m_callVI_p X K hw (k_X7_its l G S V a1 (1 : Int32) hp0 (by unfold vp_in; decide)) (g_cwV X hiX7_its q933 q935 q33 q74 q936 ⟨(Nat.le_of_ble_eq_true rfl), (Nat.le_of_ble_eq_true rfl)⟩) rfl hl.1 rfl (Nat.le_of_ble_eq_true rfl) dX7_drinks_22 ⟨(Nat.le_of_ble_eq_true rfl), (Nat.le_of_ble_eq_true rfl)⟩ (fun z4 H locs ez4 hw => ?_)
    refine lv_istore_n (lv' := [(2, .int z4), (0, .ref (mm_ad G 0)), (1, .int a1)]) X.1 X.2.1 dX7_drinks_25 rfl hl (by decide) rfl (fun ls hl => ?_)
    refine lv_iconst (v := (0 : Int32)) X.1 X.2.1 dX7_drinks_26 (by decide) ?_
    refine lv_istore_n (lv' := [(3, .int (0 : Int32)), (2, .int z4), (0, .ref (mm_ad G 0)), (1, .int a1)]) X.1 X.2.1 dX7_drinks_27 rfl hl (by decide) rfl (fun ls hl => ?_)
    have j28 : ∀ (n : Nat) (S5 : tt_St) (y2_28 : Int32) (y3_28 : Int32) (H : Heap) (locs : List Loc) (ls : Array Slot), (¬ y3_28 < 0) → lp_mu y2_28 y3_28 < n → f7_drinks_L28 a1 n S5 y2_28 y3_28 = tgt → m_W G S5 V s H locs → lv_has ls 4 [(0, .ref (mm_ad G 0)), (1, .int a1), (2, .int y2_28), (3, .int y3_28)] → W p l e (g_rm 4 89) s m ([.ref (mm_ad G 0), .int a1] : List Value).toArray below meth c H locs 0 0 (MQ below (va_Qv (fun T => T = (tgt, V)) (g_Post G 10 (mm_ad G) (mm_cell G)) (g_in 10 (mm_ad G))) ([.ref (mm_ad G 0), .int a1] : List Value).toArray s 0 0 (g_in 10 (mm_ad G))) (F0 m 28 ls []) := by
      intro n
      induction n with
      | zero => intro S5 y2_28 y3_28 H locs ls hI hm; exact absurd hm (Nat.not_lt_zero _)
      | succ n ih =>
        intro S5 y2_28 y3_28 H locs ls hI hm hF hw hl
        refine lv_iload_n X.1 X.2.1 dX7_drinks_28 rfl (lv_at hl 3 rfl) ?_
        refine lv_iload_n X.1 X.2.1 dX7_drinks_29 rfl (lv_at hl 2 rfl) ?_
        refine lv_icmp_ge (tgt := 96) X.1 X.2.1 dX7_drinks_30 (by decide) (fun c6 => ?_) (fun c6 => ?_)
        · have hR : S5 = tgt := by
            rw [← hF]
            simp only [f7_drinks_L28, if_pos c6]
          exact g_vret X hret hlk hw (congrArg (fun z => (z, V)) hR) dX7_drinks_96
        · refine lv_aload_n X.1 X.2.1 dX7_drinks_33 rfl (lv_at hl 0 rfl) ?_
          refine lv_iload_n X.1 X.2.1 dX7_drinks_34 rfl (lv_at hl 1 rfl) ?_
          refine m_callVI_s X K hw (k_X7_hasCup l G S5 V a1 hp0) (g_cwV X hiX7_hasCup q993 q995 q39 q74 q996 ⟨(Nat.le_of_ble_eq_true rfl), (Nat.le_of_ble_eq_true rfl)⟩) rfl hl.1 rfl (Nat.le_of_ble_eq_true rfl) dX7_drinks_35 ⟨(Nat.le_of_ble_eq_true rfl), (Nat.le_of_ble_eq_true rfl)⟩ (fun z7 S8 H locs ez7 eS8 hw => ?_)
          refine lv_if_ne (tgt := 42) X.1 X.2.1 dX7_drinks_38 (by decide) (fun c9 => ?_) (fun c9 => ?_)
          · refine lv_aload_n X.1 X.2.1 dX7_drinks_42 rfl (lv_at hl 0 rfl) ?_
            refine m_get X K hw 0 (by decide) q836 rfl dX7_drinks_43 ?_
            refine lv_iconst (v := (3 : Int32)) X.1 X.2.1 dX7_drinks_46 (by decide) ?_
            refine lv_dup2_11 X.1 X.2.1 dX7_drinks_47 rfl rfl ?_
            have hi10 : vp_in (3 : Int32) 132 := by unfold vp_in; decide
            refine g_ialdL (j := 3) X K hw (by decide) mm_e1 hi10 rfl dX7_drinks_48 ?_
            refine lv_iconst (v := (1 : Int32)) X.1 X.2.1 dX7_drinks_49 (by decide) ?_
            refine lv_isub X.1 X.2.1 dX7_drinks_50 ?_
            refine lv_topi (fun x11 ex11 => ?_)
            have hi12 : vp_in (3 : Int32) 132 := by unfold vp_in; decide
            refine m_iastL (j := 3) X K hw (by decide) (by decide) (fun _ => mm_e1) hi12 rfl dX7_drinks_51 (fun S13 H locs eS13 hw => ?_)
            refine lv_aload_n X.1 X.2.1 dX7_drinks_52 rfl (lv_at hl 0 rfl) ?_
            refine lv_iload_n X.1 X.2.1 dX7_drinks_53 rfl (lv_at hl 1 rfl) ?_
            refine lv_iconst (v := (5 : Int32)) X.1 X.2.1 dX7_drinks_54 (by decide) ?_
            refine lv_aload_n X.1 X.2.1 dX7_drinks_55 rfl (lv_at hl 0 rfl) ?_
            refine lv_iload_n X.1 X.2.1 dX7_drinks_56 rfl (lv_at hl 1 rfl) ?_
            refine lv_iconst (v := (5 : Int32)) X.1 X.2.1 dX7_drinks_57 (by decide) ?_
            refine m_callVI_p X K hw (k_X7_its l G S13 V a1 (5 : Int32) hp0 (by unfold vp_in; decide)) (g_cwV X hiX7_its q933 q935 q33 q74 q936 ⟨(Nat.le_of_ble_eq_true rfl), (Nat.le_of_ble_eq_true rfl)⟩) rfl hl.1 rfl (Nat.le_of_ble_eq_true rfl) dX7_drinks_58 ⟨(Nat.le_of_ble_eq_true rfl), (Nat.le_of_ble_eq_true rfl)⟩ (fun z14 H locs ez14 hw => ?_)
            refine lv_iconst (v := (1 : Int32)) X.1 X.2.1 dX7_drinks_61 (by decide) ?_
            refine lv_iadd X.1 X.2.1 dX7_drinks_62 ?_
            refine m_callVV_s X K hw (k_X7_becomes l G S13 V a1 (5 : Int32) (z14 + (1 : Int32)) hp0 (by unfold vp_in; decide)) (g_cwV X hiX7_becomes q921 q923 q31 q74 q924 ⟨(Nat.le_of_ble_eq_true rfl), (Nat.le_of_ble_eq_true rfl)⟩) rfl hl.1 rfl (Nat.le_of_ble_eq_true rfl) dX7_drinks_63 ⟨(Nat.le_of_ble_eq_true rfl), (Nat.le_of_ble_eq_true rfl)⟩ (fun S15 H locs eS15 hw => ?_)
            refine lv_aload_n X.1 X.2.1 dX7_drinks_66 rfl (lv_at hl 0 rfl) ?_
            refine lv_dup X.1 X.2.1 dX7_drinks_67 rfl ?_
            refine m_get X K hw 8 (by decide) q844 rfl dX7_drinks_68 ?_
            refine lv_iconst (v := (1 : Int32)) X.1 X.2.1 dX7_drinks_71 (by decide) ?_
            refine lv_iadd X.1 X.2.1 dX7_drinks_72 ?_
            refine lv_topi (fun x16 ex16 => ?_)
            refine m_put X K hw 8 (by decide) q844 rfl rfl rfl dX7_drinks_73 (fun S17 H locs eS17 hw => ?_)
            refine lv_aload_n X.1 X.2.1 dX7_drinks_76 rfl (lv_at hl 0 rfl) ?_
            refine lv_iload_n X.1 X.2.1 dX7_drinks_77 rfl (lv_at hl 1 rfl) ?_
            refine lv_iload_n X.1 X.2.1 dX7_drinks_78 rfl (lv_at hl 3 rfl) ?_
            refine lv_if_ne (tgt := 86) X.1 X.2.1 dX7_drinks_79 (by decide) (fun c18 => ?_) (fun c18 => ?_)
            · refine lv_iconst (v := (0 : Int32)) X.1 X.2.1 dX7_drinks_86 (by decide) ?_
              refine m_callVV_s X K hw (k_X7_paysFor l G S17 V a1 (0 : Int32) hp0) (g_cwV X hiX7_paysFor q1002 q1004 q41 q74 q1005 ⟨(Nat.le_of_ble_eq_true rfl), (Nat.le_of_ble_eq_true rfl)⟩) rfl hl.1 rfl (Nat.le_of_ble_eq_true rfl) dX7_drinks_87 ⟨(Nat.le_of_ble_eq_true rfl), (Nat.le_of_ble_eq_true rfl)⟩ (fun S19 H locs eS19 hw => ?_)
              obtain ⟨x20, ex20⟩ : ∃ y : Int32, y = y3_28 + (1 : Int32) := ⟨_, rfl⟩
              refine lv_iinc (v := x20) (lv' := [(3, .int x20), (0, .ref (mm_ad G 0)), (1, .int a1), (2, .int y2_28)]) X.1 X.2.1 dX7_drinks_90 hl (k := 3) rfl (by rw [ex20]; rfl) (by decide) rfl (fun ls hl => ?_)
              refine lv_goto (tgt := 28) X.1 X.2.1 dX7_drinks_93 (by decide) ?_
              have hF2 : f7_drinks_L28 a1 n S19 y2_28 x20 = tgt := by
                rw [← hF]
                subst ez7 eS8 ex11 eS13 ez14 eS15 ex16 eS17 eS19 ex20
                simp only [f7_drinks_L28, if_neg c6, if_neg c9, if_neg c18]
              exact ih S19 y2_28 x20 _ _ ls (by rw [ex20]; exact lp_nn hI c6) (by rw [ex20]; exact lp_dec' c6 hm) hF2 hw (lv_sub hl [1, 2, 3, 0] rfl)
            · refine lv_iconst (v := (1 : Int32)) X.1 X.2.1 dX7_drinks_82 (by decide) ?_
              refine lv_goto (tgt := 87) X.1 X.2.1 dX7_drinks_83 (by decide) ?_
              refine m_callVV_s X K hw (k_X7_paysFor l G S17 V a1 (1 : Int32) hp0) (g_cwV X hiX7_paysFor q1002 q1004 q41 q74 q1005 ⟨(Nat.le_of_ble_eq_true rfl), (Nat.le_of_ble_eq_true rfl)⟩) rfl hl.1 rfl (Nat.le_of_ble_eq_true rfl) dX7_drinks_87 ⟨(Nat.le_of_ble_eq_true rfl), (Nat.le_of_ble_eq_true rfl)⟩ (fun S21 H locs eS21 hw => ?_)
              obtain ⟨x22, ex22⟩ : ∃ y : Int32, y = y3_28 + (1 : Int32) := ⟨_, rfl⟩
              refine lv_iinc (v := x22) (lv' := [(3, .int x22), (0, .ref (mm_ad G 0)), (1, .int a1), (2, .int y2_28)]) X.1 X.2.1 dX7_drinks_90 hl (k := 3) rfl (by rw [ex22]; rfl) (by decide) rfl (fun ls hl => ?_)
              refine lv_goto (tgt := 28) X.1 X.2.1 dX7_drinks_93 (by decide) ?_
              have hF2 : f7_drinks_L28 a1 n S21 y2_28 x22 = tgt := by
                rw [← hF]
                subst ez7 eS8 ex11 eS13 ez14 eS15 ex16 eS17 eS21 ex22
                simp only [f7_drinks_L28, if_neg c6, if_neg c9, if_pos c18]
              exact ih S21 y2_28 x22 _ _ ls (by rw [ex22]; exact lp_nn hI c6) (by rw [ex22]; exact lp_dec' c6 hm) hF2 hw (lv_sub hl [1, 2, 3, 0] rfl)
          · have hR : S8 = tgt := by
              rw [← hF]
              subst ez7 eS8
              simp only [f7_drinks_L28, if_neg c6, if_pos c9]
            exact g_vret X hret hlk hw (congrArg (fun z => (z, V)) hR) dX7_drinks_41
    have hF2 : f7_drinks_L28 a1 (lp_mu z4 0 + 1) S z4 (0 : Int32) = tgt := by
      rw [← hF]
      subst ez1 ez4
      simp only [f7_drinks, if_pos c3]
    exact j28 (lp_mu z4 0 + 1) S z4 (0 : Int32) _ _ ls (by decide) (Nat.lt_succ_self _) hF2 hw (lv_sub hl [2, 3, 1, 0] rfl)
  · refine lv_iconst (v := (0 : Int32)) X.1 X.2.1 dX7_drinks_15 (by decide) ?_
    refine lv_goto (tgt := 25) X.1 X.2.1 dX7_drinks_16 (by decide) ?_
    refine lv_istore_n (lv' := [(2, .int (0 : Int32)), (0, .ref (mm_ad G 0)), (1, .int a1)]) X.1 X.2.1 dX7_drinks_25 rfl hl (by decide) rfl (fun ls hl => ?_)
    refine lv_iconst (v := (0 : Int32)) X.1 X.2.1 dX7_drinks_26 (by decide) ?_
    refine lv_istore_n (lv' := [(3, .int (0 : Int32)), (2, .int (0 : Int32)), (0, .ref (mm_ad G 0)), (1, .int a1)]) X.1 X.2.1 dX7_drinks_27 rfl hl (by decide) rfl (fun ls hl => ?_)
    have j28 : ∀ (n : Nat) (S23 : tt_St) (y2_28 : Int32) (y3_28 : Int32) (H : Heap) (locs : List Loc) (ls : Array Slot), (¬ y3_28 < 0) → lp_mu y2_28 y3_28 < n → f7_drinks_L28 a1 n S23 y2_28 y3_28 = tgt → m_W G S23 V s H locs → lv_has ls 4 [(0, .ref (mm_ad G 0)), (1, .int a1), (2, .int y2_28), (3, .int y3_28)] → W p l e (g_rm 4 89) s m ([.ref (mm_ad G 0), .int a1] : List Value).toArray below meth c H locs 0 0 (MQ below (va_Qv (fun T => T = (tgt, V)) (g_Post G 10 (mm_ad G) (mm_cell G)) (g_in 10 (mm_ad G))) ([.ref (mm_ad G 0), .int a1] : List Value).toArray s 0 0 (g_in 10 (mm_ad G))) (F0 m 28 ls []) := by
      intro n
      induction n with
      | zero => intro S23 y2_28 y3_28 H locs ls hI hm; exact absurd hm (Nat.not_lt_zero _)
      | succ n ih =>
        intro S23 y2_28 y3_28 H locs ls hI hm hF hw hl
        refine lv_iload_n X.1 X.2.1 dX7_drinks_28 rfl (lv_at hl 3 rfl) ?_
        refine lv_iload_n X.1 X.2.1 dX7_drinks_29 rfl (lv_at hl 2 rfl) ?_
        refine lv_icmp_ge (tgt := 96) X.1 X.2.1 dX7_drinks_30 (by decide) (fun c24 => ?_) (fun c24 => ?_)
        · have hR : S23 = tgt := by
            rw [← hF]
            simp only [f7_drinks_L28, if_pos c24]
          exact g_vret X hret hlk hw (congrArg (fun z => (z, V)) hR) dX7_drinks_96
        · refine lv_aload_n X.1 X.2.1 dX7_drinks_33 rfl (lv_at hl 0 rfl) ?_
          refine lv_iload_n X.1 X.2.1 dX7_drinks_34 rfl (lv_at hl 1 rfl) ?_
          refine m_callVI_s X K hw (k_X7_hasCup l G S23 V a1 hp0) (g_cwV X hiX7_hasCup q993 q995 q39 q74 q996 ⟨(Nat.le_of_ble_eq_true rfl), (Nat.le_of_ble_eq_true rfl)⟩) rfl hl.1 rfl (Nat.le_of_ble_eq_true rfl) dX7_drinks_35 ⟨(Nat.le_of_ble_eq_true rfl), (Nat.le_of_ble_eq_true rfl)⟩ (fun z25 S26 H locs ez25 eS26 hw => ?_)
          refine lv_if_ne (tgt := 42) X.1 X.2.1 dX7_drinks_38 (by decide) (fun c27 => ?_) (fun c27 => ?_)
          · refine lv_aload_n X.1 X.2.1 dX7_drinks_42 rfl (lv_at hl 0 rfl) ?_
            refine m_get X K hw 0 (by decide) q836 rfl dX7_drinks_43 ?_
            refine lv_iconst (v := (3 : Int32)) X.1 X.2.1 dX7_drinks_46 (by decide) ?_
            refine lv_dup2_11 X.1 X.2.1 dX7_drinks_47 rfl rfl ?_
            have hi28 : vp_in (3 : Int32) 132 := by unfold vp_in; decide
            refine g_ialdL (j := 3) X K hw (by decide) mm_e1 hi28 rfl dX7_drinks_48 ?_
            refine lv_iconst (v := (1 : Int32)) X.1 X.2.1 dX7_drinks_49 (by decide) ?_
            refine lv_isub X.1 X.2.1 dX7_drinks_50 ?_
            refine lv_topi (fun x29 ex29 => ?_)
            have hi30 : vp_in (3 : Int32) 132 := by unfold vp_in; decide
            refine m_iastL (j := 3) X K hw (by decide) (by decide) (fun _ => mm_e1) hi30 rfl dX7_drinks_51 (fun S31 H locs eS31 hw => ?_)
            refine lv_aload_n X.1 X.2.1 dX7_drinks_52 rfl (lv_at hl 0 rfl) ?_
            refine lv_iload_n X.1 X.2.1 dX7_drinks_53 rfl (lv_at hl 1 rfl) ?_
            refine lv_iconst (v := (5 : Int32)) X.1 X.2.1 dX7_drinks_54 (by decide) ?_
            refine lv_aload_n X.1 X.2.1 dX7_drinks_55 rfl (lv_at hl 0 rfl) ?_
            refine lv_iload_n X.1 X.2.1 dX7_drinks_56 rfl (lv_at hl 1 rfl) ?_
            refine lv_iconst (v := (5 : Int32)) X.1 X.2.1 dX7_drinks_57 (by decide) ?_
            refine m_callVI_p X K hw (k_X7_its l G S31 V a1 (5 : Int32) hp0 (by unfold vp_in; decide)) (g_cwV X hiX7_its q933 q935 q33 q74 q936 ⟨(Nat.le_of_ble_eq_true rfl), (Nat.le_of_ble_eq_true rfl)⟩) rfl hl.1 rfl (Nat.le_of_ble_eq_true rfl) dX7_drinks_58 ⟨(Nat.le_of_ble_eq_true rfl), (Nat.le_of_ble_eq_true rfl)⟩ (fun z32 H locs ez32 hw => ?_)
            refine lv_iconst (v := (1 : Int32)) X.1 X.2.1 dX7_drinks_61 (by decide) ?_
            refine lv_iadd X.1 X.2.1 dX7_drinks_62 ?_
            refine m_callVV_s X K hw (k_X7_becomes l G S31 V a1 (5 : Int32) (z32 + (1 : Int32)) hp0 (by unfold vp_in; decide)) (g_cwV X hiX7_becomes q921 q923 q31 q74 q924 ⟨(Nat.le_of_ble_eq_true rfl), (Nat.le_of_ble_eq_true rfl)⟩) rfl hl.1 rfl (Nat.le_of_ble_eq_true rfl) dX7_drinks_63 ⟨(Nat.le_of_ble_eq_true rfl), (Nat.le_of_ble_eq_true rfl)⟩ (fun S33 H locs eS33 hw => ?_)
            refine lv_aload_n X.1 X.2.1 dX7_drinks_66 rfl (lv_at hl 0 rfl) ?_
            refine lv_dup X.1 X.2.1 dX7_drinks_67 rfl ?_
            refine m_get X K hw 8 (by decide) q844 rfl dX7_drinks_68 ?_
            refine lv_iconst (v := (1 : Int32)) X.1 X.2.1 dX7_drinks_71 (by decide) ?_
            refine lv_iadd X.1 X.2.1 dX7_drinks_72 ?_
            refine lv_topi (fun x34 ex34 => ?_)
            refine m_put X K hw 8 (by decide) q844 rfl rfl rfl dX7_drinks_73 (fun S35 H locs eS35 hw => ?_)
            refine lv_aload_n X.1 X.2.1 dX7_drinks_76 rfl (lv_at hl 0 rfl) ?_
            refine lv_iload_n X.1 X.2.1 dX7_drinks_77 rfl (lv_at hl 1 rfl) ?_
            refine lv_iload_n X.1 X.2.1 dX7_drinks_78 rfl (lv_at hl 3 rfl) ?_
            refine lv_if_ne (tgt := 86) X.1 X.2.1 dX7_drinks_79 (by decide) (fun c36 => ?_) (fun c36 => ?_)
            · refine lv_iconst (v := (0 : Int32)) X.1 X.2.1 dX7_drinks_86 (by decide) ?_
              refine m_callVV_s X K hw (k_X7_paysFor l G S35 V a1 (0 : Int32) hp0) (g_cwV X hiX7_paysFor q1002 q1004 q41 q74 q1005 ⟨(Nat.le_of_ble_eq_true rfl), (Nat.le_of_ble_eq_true rfl)⟩) rfl hl.1 rfl (Nat.le_of_ble_eq_true rfl) dX7_drinks_87 ⟨(Nat.le_of_ble_eq_true rfl), (Nat.le_of_ble_eq_true rfl)⟩ (fun S37 H locs eS37 hw => ?_)
              obtain ⟨x38, ex38⟩ : ∃ y : Int32, y = y3_28 + (1 : Int32) := ⟨_, rfl⟩
              refine lv_iinc (v := x38) (lv' := [(3, .int x38), (0, .ref (mm_ad G 0)), (1, .int a1), (2, .int y2_28)]) X.1 X.2.1 dX7_drinks_90 hl (k := 3) rfl (by rw [ex38]; rfl) (by decide) rfl (fun ls hl => ?_)
              refine lv_goto (tgt := 28) X.1 X.2.1 dX7_drinks_93 (by decide) ?_
              have hF2 : f7_drinks_L28 a1 n S37 y2_28 x38 = tgt := by
                rw [← hF]
                subst ez25 eS26 ex29 eS31 ez32 eS33 ex34 eS35 eS37 ex38
                simp only [f7_drinks_L28, if_neg c24, if_neg c27, if_neg c36]
              exact ih S37 y2_28 x38 _ _ ls (by rw [ex38]; exact lp_nn hI c24) (by rw [ex38]; exact lp_dec' c24 hm) hF2 hw (lv_sub hl [1, 2, 3, 0] rfl)
            · refine lv_iconst (v := (1 : Int32)) X.1 X.2.1 dX7_drinks_82 (by decide) ?_
              refine lv_goto (tgt := 87) X.1 X.2.1 dX7_drinks_83 (by decide) ?_
              refine m_callVV_s X K hw (k_X7_paysFor l G S35 V a1 (1 : Int32) hp0) (g_cwV X hiX7_paysFor q1002 q1004 q41 q74 q1005 ⟨(Nat.le_of_ble_eq_true rfl), (Nat.le_of_ble_eq_true rfl)⟩) rfl hl.1 rfl (Nat.le_of_ble_eq_true rfl) dX7_drinks_87 ⟨(Nat.le_of_ble_eq_true rfl), (Nat.le_of_ble_eq_true rfl)⟩ (fun S39 H locs eS39 hw => ?_)
              obtain ⟨x40, ex40⟩ : ∃ y : Int32, y = y3_28 + (1 : Int32) := ⟨_, rfl⟩
              refine lv_iinc (v := x40) (lv' := [(3, .int x40), (0, .ref (mm_ad G 0)), (1, .int a1), (2, .int y2_28)]) X.1 X.2.1 dX7_drinks_90 hl (k := 3) rfl (by rw [ex40]; rfl) (by decide) rfl (fun ls hl => ?_)
              refine lv_goto (tgt := 28) X.1 X.2.1 dX7_drinks_93 (by decide) ?_
              have hF2 : f7_drinks_L28 a1 n S39 y2_28 x40 = tgt := by
                rw [← hF]
                subst ez25 eS26 ex29 eS31 ez32 eS33 ex34 eS35 eS39 ex40
                simp only [f7_drinks_L28, if_neg c24, if_neg c27, if_pos c36]
              exact ih S39 y2_28 x40 _ _ ls (by rw [ex40]; exact lp_nn hI c24) (by rw [ex40]; exact lp_dec' c24 hm) hF2 hw (lv_sub hl [1, 2, 3, 0] rfl)
          · have hR : S26 = tgt := by
              rw [← hF]
              subst ez25 eS26
              simp only [f7_drinks_L28, if_neg c24, if_pos c27]
            exact g_vret X hret hlk hw (congrArg (fun z => (z, V)) hR) dX7_drinks_41
    have hF2 : f7_drinks_L28 a1 (lp_mu (0 : Int32) 0 + 1) S (0 : Int32) (0 : Int32) = tgt := by
      rw [← hF]
      subst ez1
      simp only [f7_drinks, if_neg c3]
    exact j28 (lp_mu (0 : Int32) 0 + 1) S (0 : Int32) (0 : Int32) _ _ ls (by decide) (Nat.lt_succ_self _) hF2 hw (lv_sub hl [2, 3, 1, 0] rfl)
set_option maxHeartbeats 4000000 in
set_option maxRecDepth 10000 in
theorem k_X7_settles (l : Launch) (G : tt_G) (S : tt_St) (V : Int64) (hp0 : (S 1 0).toInt ≤ 10) : m_MV l G yX7_settles (g_code yX7_settles cX7_settles 4 none) 2 46 [.ref (mm_ad G 0)] S V (f7_settles S) V := by
  generalize hF : f7_settles S = tgt
  refine g_begin rfl (Nat.le_of_ble_eq_true rfl) _ (fun p e s m below meth c ls X hret hlk hB hl => ?_)
  obtain ⟨hP0, K⟩ := hB
  have hw : m_W G S V s s.heap [] := ⟨hP0, va_S.rf⟩
  have X : CallFix p m c cX7_settles 4 s ([.ref (mm_ad G 0)] : List Value).toArray tt_T "TrustTinModel" := X
  have hl : lv_has ls 4 [(0, .ref (mm_ad G 0))] := hl
  refine lv_iconst (v := (0 : Int32)) X.1 X.2.1 dX7_settles_0 (by decide) ?_
  refine lv_istore_n (lv' := [(1, .int (0 : Int32)), (0, .ref (mm_ad G 0))]) X.1 X.2.1 dX7_settles_1 rfl hl (by decide) rfl (fun ls hl => ?_)
  have j2 : ∀ (n : Nat) (S1 : tt_St) (y1_2 : Int32) (H : Heap) (locs : List Loc) (ls : Array Slot), ((¬ y1_2 < 0) ∧ (S1 1 0).toInt ≤ 10) → lp_mu (S1 1 0) y1_2 < n → f7_settles_L2 n S1 y1_2 = tgt → m_W G S1 V s H locs → lv_has ls 4 [(0, .ref (mm_ad G 0)), (1, .int y1_2)] → W p l e (g_rm 2 46) s m ([.ref (mm_ad G 0)] : List Value).toArray below meth c H locs 0 0 (MQ below (va_Qv (fun T => T = (tgt, V)) (g_Post G 10 (mm_ad G) (mm_cell G)) (g_in 10 (mm_ad G))) ([.ref (mm_ad G 0)] : List Value).toArray s 0 0 (g_in 10 (mm_ad G))) (F0 m 2 ls []) := by
    intro n
    induction n with
    | zero => intro S1 y1_2 H locs ls hI hm; exact absurd hm (Nat.not_lt_zero _)
    | succ n ih =>
      intro S1 y1_2 H locs ls hI hm hF hw hl
      refine lv_iload_n X.1 X.2.1 dX7_settles_2 rfl (lv_at hl 1 rfl) ?_
      refine lv_aload_n X.1 X.2.1 dX7_settles_3 rfl (lv_at hl 0 rfl) ?_
      refine m_get X K hw 0 (by decide) q836 rfl dX7_settles_4 ?_
      refine lv_iconst (v := (0 : Int32)) X.1 X.2.1 dX7_settles_7 (by decide) ?_
      have hi2 : vp_in (0 : Int32) 132 := by unfold vp_in; decide
      refine g_ialdL (j := 0) X K hw (by decide) mm_e1 hi2 rfl dX7_settles_8 ?_
      refine lv_icmp_ge (tgt := 75) X.1 X.2.1 dX7_settles_9 (by decide) (fun c3 => ?_) (fun c3 => ?_)
      · refine lv_aload_n X.1 X.2.1 dX7_settles_75 rfl (lv_at hl 0 rfl) ?_
        refine lv_iconst (v := (5 : Int32)) X.1 X.2.1 dX7_settles_76 (by decide) ?_
        refine m_callVI_p X K hw (k_X7_sumOf l G S1 V (5 : Int32) (hI.2) (by unfold vp_in; decide)) (g_cwV X hiX7_sumOf q968 q970 q34 q74 q971 ⟨(Nat.le_of_ble_eq_true rfl), (Nat.le_of_ble_eq_true rfl)⟩) rfl hl.1 rfl (Nat.le_of_ble_eq_true rfl) dX7_settles_77 ⟨(Nat.le_of_ble_eq_true rfl), (Nat.le_of_ble_eq_true rfl)⟩ (fun z4 H locs ez4 hw => ?_)
        refine lv_istore_n (lv' := [(1, .int z4), (0, .ref (mm_ad G 0))]) X.1 X.2.1 dX7_settles_80 rfl hl (by decide) rfl (fun ls hl => ?_)
        refine lv_bipush (v := (19 : Int32)) X.1 X.2.1 dX7_settles_81 (by decide) ?_
        refine lv_istore_n (lv' := [(2, .int (19 : Int32)), (1, .int z4), (0, .ref (mm_ad G 0))]) X.1 X.2.1 dX7_settles_83 rfl hl (by decide) rfl (fun ls hl => ?_)
        have j84 : ∀ (n : Nat) (S5 : tt_St) (y1_84 : Int32) (y2_84 : Int32) (H : Heap) (locs : List Loc) (ls : Array Slot), ((y2_84.toInt ≤ 19) ∧ (S5 1 0).toInt ≤ 10) → y2_84.toNatClampNeg < n → f7_settles_L84 n S5 y1_84 y2_84 = tgt → m_W G S5 V s H locs → lv_has ls 4 [(0, .ref (mm_ad G 0)), (1, .int y1_84), (2, .int y2_84)] → W p l e (g_rm 2 46) s m ([.ref (mm_ad G 0)] : List Value).toArray below meth c H locs 0 0 (MQ below (va_Qv (fun T => T = (tgt, V)) (g_Post G 10 (mm_ad G) (mm_cell G)) (g_in 10 (mm_ad G))) ([.ref (mm_ad G 0)] : List Value).toArray s 0 0 (g_in 10 (mm_ad G))) (F0 m 84 ls []) := by
          intro n
          induction n with
          | zero => intro S5 y1_84 y2_84 H locs ls hI hm; exact absurd hm (Nat.not_lt_zero _)
          | succ n ih =>
            intro S5 y1_84 y2_84 H locs ls hI hm hF hw hl
            refine lv_iload_n X.1 X.2.1 dX7_settles_84 rfl (lv_at hl 2 rfl) ?_
            refine lv_if_le (tgt := 144) X.1 X.2.1 dX7_settles_85 (by decide) (fun c6 => ?_) (fun c6 => ?_)
            · refine lv_aload_n X.1 X.2.1 dX7_settles_144 rfl (lv_at hl 0 rfl) ?_
              refine m_get X K hw 0 (by decide) q836 rfl dX7_settles_145 ?_
              refine lv_bipush (v := (82 : Int32)) X.1 X.2.1 dX7_settles_148 (by decide) ?_
              refine lv_iload_n X.1 X.2.1 dX7_settles_150 rfl (lv_at hl 1 rfl) ?_
              have hi7 : vp_in (82 : Int32) 132 := by unfold vp_in; decide
              refine m_iastL (j := 82) X K hw (by decide) (by decide) (fun _ => mm_e1) hi7 rfl dX7_settles_151 (fun S8 H locs eS8 hw => ?_)
              refine lv_aload_n X.1 X.2.1 dX7_settles_152 rfl (lv_at hl 0 rfl) ?_
              refine m_get X K hw 0 (by decide) q836 rfl dX7_settles_153 ?_
              refine lv_bipush (v := (83 : Int32)) X.1 X.2.1 dX7_settles_156 (by decide) ?_
              refine lv_aload_n X.1 X.2.1 dX7_settles_158 rfl (lv_at hl 0 rfl) ?_
              refine m_get X K hw 0 (by decide) q836 rfl dX7_settles_159 ?_
              refine lv_bipush (v := (9 : Int32)) X.1 X.2.1 dX7_settles_162 (by decide) ?_
              have hi9 : vp_in (9 : Int32) 132 := by unfold vp_in; decide
              refine g_ialdL (j := 9) X K hw (by decide) mm_e1 hi9 rfl dX7_settles_164 ?_
              refine lv_topi (fun x10 ex10 => ?_)
              have hi11 : vp_in (83 : Int32) 132 := by unfold vp_in; decide
              refine m_iastL (j := 83) X K hw (by decide) (by decide) (fun _ => mm_e1) hi11 rfl dX7_settles_165 (fun S12 H locs eS12 hw => ?_)
              refine lv_aload_n X.1 X.2.1 dX7_settles_166 rfl (lv_at hl 0 rfl) ?_
              refine m_get X K hw 0 (by decide) q836 rfl dX7_settles_167 ?_
              refine lv_bipush (v := (11 : Int32)) X.1 X.2.1 dX7_settles_170 (by decide) ?_
              refine lv_bipush (v := (20 : Int32)) X.1 X.2.1 dX7_settles_172 (by decide) ?_
              refine lv_aload_n X.1 X.2.1 dX7_settles_174 rfl (lv_at hl 0 rfl) ?_
              refine m_get X K hw 0 (by decide) q836 rfl dX7_settles_175 ?_
              refine lv_bipush (v := (11 : Int32)) X.1 X.2.1 dX7_settles_178 (by decide) ?_
              have hi13 : vp_in (11 : Int32) 132 := by unfold vp_in; decide
              refine g_ialdL (j := 11) X K hw (by decide) mm_e1 hi13 rfl dX7_settles_180 ?_
              refine lv_iconst (v := (1 : Int32)) X.1 X.2.1 dX7_settles_181 (by decide) ?_
              refine lv_iadd X.1 X.2.1 dX7_settles_182 ?_
              refine m_callSI_p X K hw (k_X7_least l G S12 V (20 : Int32) ((S12 1 11) + (1 : Int32))) (g_cwS X hiX7_least q957 q958 q74 q959 ⟨(Nat.le_of_ble_eq_true rfl), (Nat.le_of_ble_eq_true rfl)⟩) rfl hl.1 rfl (Nat.le_of_ble_eq_true rfl) dX7_settles_183 ⟨(Nat.le_of_ble_eq_true rfl), (Nat.le_of_ble_eq_true rfl)⟩ (fun z14 H locs ez14 hw => ?_)
              have hi15 : vp_in (11 : Int32) 132 := by unfold vp_in; decide
              refine m_iastL (j := 11) X K hw (by decide) (by decide) (fun _ => mm_e1) hi15 rfl dX7_settles_186 (fun S16 H locs eS16 hw => ?_)
              refine lv_aload_n X.1 X.2.1 dX7_settles_187 rfl (lv_at hl 0 rfl) ?_
              refine m_get X K hw 0 (by decide) q836 rfl dX7_settles_188 ?_
              refine lv_iconst (v := (1 : Int32)) X.1 X.2.1 dX7_settles_191 (by decide) ?_
              have hi17 : vp_in (1 : Int32) 132 := by unfold vp_in; decide
              refine g_ialdL (j := 1) X K hw (by decide) mm_e1 hi17 rfl dX7_settles_192 ?_
              refine lv_iload_n X.1 X.2.1 dX7_settles_193 rfl (lv_at hl 1 rfl) ?_
              refine lv_imul X.1 X.2.1 dX7_settles_194 ?_
              refine lv_topi (fun x18 ex18 => ?_)
              refine lv_istore_n (lv' := [(2, .int x18), (0, .ref (mm_ad G 0)), (1, .int y1_84)]) X.1 X.2.1 dX7_settles_195 rfl hl (by decide) rfl (fun ls hl => ?_)
              refine lv_aload_n X.1 X.2.1 dX7_settles_196 rfl (lv_at hl 1 rfl) ?_
              refine m_get X K hw 0 (by decide) q836 rfl dX7_settles_197 ?_
              refine lv_bipush (v := (6 : Int32)) X.1 X.2.1 dX7_settles_200 (by decide) ?_
              refine lv_iload_n X.1 X.2.1 dX7_settles_202 rfl (lv_at hl 0 rfl) ?_
              refine lv_if_ne (tgt := 211) X.1 X.2.1 dX7_settles_203 (by decide) (fun c19 => ?_) (fun c19 => ?_)
              · refine lv_aload_n X.1 X.2.1 dX7_settles_211 rfl (lv_at hl 1 rfl) ?_
                refine m_get X K hw 0 (by decide) q836 rfl dX7_settles_212 ?_
                refine lv_bipush (v := (9 : Int32)) X.1 X.2.1 dX7_settles_215 (by decide) ?_
                have hi20 : vp_in (9 : Int32) 132 := by unfold vp_in; decide
                refine g_ialdL (j := 9) X K hw (by decide) mm_e1 hi20 rfl dX7_settles_217 ?_
                refine lv_i2l X.1 X.2.1 dX7_settles_218 rfl ?_
                refine lv_ldc2 (v := (100 : Int64)) X.1 X.2.1 X.2.2.2.1 (X.2.2.2.2 _ q1018) dX7_settles_219 ?_
                refine lv_lmul X.1 X.2.1 dX7_settles_222 ?_
                refine lv_iload_n X.1 X.2.1 dX7_settles_223 rfl (lv_at hl 0 rfl) ?_
                refine lv_i2l X.1 X.2.1 dX7_settles_224 rfl ?_
                refine lv_ldiv X.1 X.2.1 dX7_settles_225 (dv_ne c19) ?_
                refine lv_ldc2 (v := (999 : Int64)) X.1 X.2.1 X.2.2.2.1 (X.2.2.2.2 _ q956) dX7_settles_226 ?_
                refine W.lcmp X.1 X.2.1 dX7_settles_229 ?_
                refine lv_if_le (tgt := 239) X.1 X.2.1 dX7_settles_230 (by decide) (fun c21 => ?_) (fun c21 => ?_)
                · refine lv_aload_n X.1 X.2.1 dX7_settles_239 rfl (lv_at hl 1 rfl) ?_
                  refine m_get X K hw 0 (by decide) q836 rfl dX7_settles_240 ?_
                  refine lv_bipush (v := (9 : Int32)) X.1 X.2.1 dX7_settles_243 (by decide) ?_
                  have hi22 : vp_in (9 : Int32) 132 := by unfold vp_in; decide
                  refine g_ialdL (j := 9) X K hw (by decide) mm_e1 hi22 rfl dX7_settles_245 ?_
                  refine lv_i2l X.1 X.2.1 dX7_settles_246 rfl ?_
                  refine lv_ldc2 (v := (100 : Int64)) X.1 X.2.1 X.2.2.2.1 (X.2.2.2.2 _ q1018) dX7_settles_247 ?_
                  refine lv_lmul X.1 X.2.1 dX7_settles_250 ?_
                  refine lv_iload_n X.1 X.2.1 dX7_settles_251 rfl (lv_at hl 0 rfl) ?_
                  refine lv_i2l X.1 X.2.1 dX7_settles_252 rfl ?_
                  refine lv_ldiv X.1 X.2.1 dX7_settles_253 (dv_ne c19) ?_
                  refine lv_l2i X.1 X.2.1 dX7_settles_254 rfl ?_
                  refine lv_topi (fun x23 ex23 => ?_)
                  have hi24 : vp_in (6 : Int32) 132 := by unfold vp_in; decide
                  refine m_iastL (j := 6) X K hw (by decide) (by decide) (fun _ => mm_e1) hi24 rfl dX7_settles_255 (fun S25 H locs eS25 hw => ?_)
                  refine lv_aload_n X.1 X.2.1 dX7_settles_256 rfl (lv_at hl 1 rfl) ?_
                  refine m_get X K hw 0 (by decide) q836 rfl dX7_settles_257 ?_
                  refine lv_bipush (v := (9 : Int32)) X.1 X.2.1 dX7_settles_260 (by decide) ?_
                  refine lv_iconst (v := (0 : Int32)) X.1 X.2.1 dX7_settles_262 (by decide) ?_
                  have hi26 : vp_in (9 : Int32) 132 := by unfold vp_in; decide
                  refine m_iastL (j := 9) X K hw (by decide) (by decide) (fun _ => mm_e1) hi26 rfl dX7_settles_263 (fun S27 H locs eS27 hw => ?_)
                  refine lv_iconst (v := (0 : Int32)) X.1 X.2.1 dX7_settles_264 (by decide) ?_
                  refine lv_istore_n (lv' := [(3, .int (0 : Int32)), (2, .int x18), (0, .ref (mm_ad G 0)), (1, .int y1_84)]) X.1 X.2.1 dX7_settles_265 rfl hl (by decide) rfl (fun ls hl => ?_)
                  have j266 : ∀ (n : Nat) (S28 : tt_St) (y3_266 : Int32) (H : Heap) (locs : List Loc) (ls : Array Slot), ((¬ y3_266 < 0) ∧ (S28 1 0).toInt ≤ 10) → lp_mu (S28 1 0) y3_266 < n → f7_settles_L266 n S28 y3_266 = tgt → m_W G S28 V s H locs → lv_has ls 4 [(0, .ref (mm_ad G 0)), (3, .int y3_266)] → W p l e (g_rm 2 46) s m ([.ref (mm_ad G 0)] : List Value).toArray below meth c H locs 0 0 (MQ below (va_Qv (fun T => T = (tgt, V)) (g_Post G 10 (mm_ad G) (mm_cell G)) (g_in 10 (mm_ad G))) ([.ref (mm_ad G 0)] : List Value).toArray s 0 0 (g_in 10 (mm_ad G))) (F0 m 266 ls []) := by
                    intro n
                    induction n with
                    | zero => intro S28 y3_266 H locs ls hI hm; exact absurd hm (Nat.not_lt_zero _)
                    | succ n ih =>
                      intro S28 y3_266 H locs ls hI hm hF hw hl
                      refine lv_iload_n X.1 X.2.1 dX7_settles_266 rfl (lv_at hl 1 rfl) ?_
                      refine lv_aload_n X.1 X.2.1 dX7_settles_267 rfl (lv_at hl 0 rfl) ?_
                      refine m_get X K hw 0 (by decide) q836 rfl dX7_settles_268 ?_
                      refine lv_iconst (v := (0 : Int32)) X.1 X.2.1 dX7_settles_271 (by decide) ?_
                      have hi29 : vp_in (0 : Int32) 132 := by unfold vp_in; decide
                      refine g_ialdL (j := 0) X K hw (by decide) mm_e1 hi29 rfl dX7_settles_272 ?_
                      refine lv_icmp_ge (tgt := 297) X.1 X.2.1 dX7_settles_273 (by decide) (fun c30 => ?_) (fun c30 => ?_)
                      · have hR : S28 = tgt := by
                          rw [← hF]
                          simp only [f7_settles_L266, if_pos c30]
                        exact g_vret X hret hlk hw (congrArg (fun z => (z, V)) hR) dX7_settles_297
                      · refine lv_aload_n X.1 X.2.1 dX7_settles_276 rfl (lv_at hl 0 rfl) ?_
                        refine lv_iload_n X.1 X.2.1 dX7_settles_277 rfl (lv_at hl 1 rfl) ?_
                        refine lv_iconst (v := (5 : Int32)) X.1 X.2.1 dX7_settles_278 (by decide) ?_
                        refine lv_iconst (v := (0 : Int32)) X.1 X.2.1 dX7_settles_279 (by decide) ?_
                        refine m_callVV_s X K hw (k_X7_becomes l G S28 V y3_266 (5 : Int32) (0 : Int32) (lp_in hI.1 c30 hI.2) (by unfold vp_in; decide)) (g_cwV X hiX7_becomes q921 q923 q31 q74 q924 ⟨(Nat.le_of_ble_eq_true rfl), (Nat.le_of_ble_eq_true rfl)⟩) rfl hl.1 rfl (Nat.le_of_ble_eq_true rfl) dX7_settles_280 ⟨(Nat.le_of_ble_eq_true rfl), (Nat.le_of_ble_eq_true rfl)⟩ (fun S31 H locs eS31 hw => ?_)
                        refine lv_aload_n X.1 X.2.1 dX7_settles_283 rfl (lv_at hl 0 rfl) ?_
                        refine lv_iload_n X.1 X.2.1 dX7_settles_284 rfl (lv_at hl 1 rfl) ?_
                        refine lv_bipush (v := (6 : Int32)) X.1 X.2.1 dX7_settles_285 (by decide) ?_
                        refine lv_iconst (v := (0 : Int32)) X.1 X.2.1 dX7_settles_287 (by decide) ?_
                        refine m_callVV_s X K hw (k_X7_becomes l G S31 V y3_266 (6 : Int32) (0 : Int32) (lp_in hI.1 c30 hI.2) (by unfold vp_in; decide)) (g_cwV X hiX7_becomes q921 q923 q31 q74 q924 ⟨(Nat.le_of_ble_eq_true rfl), (Nat.le_of_ble_eq_true rfl)⟩) rfl hl.1 rfl (Nat.le_of_ble_eq_true rfl) dX7_settles_288 ⟨(Nat.le_of_ble_eq_true rfl), (Nat.le_of_ble_eq_true rfl)⟩ (fun S32 H locs eS32 hw => ?_)
                        obtain ⟨x33, ex33⟩ : ∃ y : Int32, y = y3_266 + (1 : Int32) := ⟨_, rfl⟩
                        refine lv_iinc (v := x33) (lv' := [(3, .int x33), (0, .ref (mm_ad G 0))]) X.1 X.2.1 dX7_settles_291 hl (k := 1) rfl (by rw [ex33]; rfl) (by decide) rfl (fun ls hl => ?_)
                        refine lv_goto (tgt := 266) X.1 X.2.1 dX7_settles_294 (by decide) ?_
                        have hF2 : f7_settles_L266 n S32 x33 = tgt := by
                          rw [← hF]
                          subst eS31 eS32 ex33
                          simp only [f7_settles_L266, if_neg c30]
                        exact ih S32 x33 _ _ ls (⟨by rw [ex33]; exact lp_nn hI.1 c30, by rw [show S32 1 0 = S28 1 0 from by subst eS31 eS32 ex33; exact (fm_tr (fm_becomes (lp_in hI.1 c30 hI.2) (by decide)) (fm_becomes (lp_in hI.1 c30 hI.2) (by decide))).sz]; exact hI.2⟩) (by rw [ex33, show S32 1 0 = S28 1 0 from by subst eS31 eS32 ex33; exact (fm_tr (fm_becomes (lp_in hI.1 c30 hI.2) (by decide)) (fm_becomes (lp_in hI.1 c30 hI.2) (by decide))).sz]; exact lp_dec' c30 hm) hF2 hw (lv_sub hl [1, 0] rfl)
                  have hF2 : f7_settles_L266 (lp_mu (S27 1 0) 0 + 1) S27 (0 : Int32) = tgt := by
                    rw [← hF]
                    subst eS8 ex10 eS12 ez14 eS16 ex18 ex23 eS25 eS27
                    simp only [f7_settles_L84, if_pos c6, if_neg c19, if_pos c21]
                  exact j266 (lp_mu (S27 1 0) 0 + 1) S27 (0 : Int32) _ _ ls (⟨by decide, by rw [show S27 1 0 = S5 1 0 from by subst eS8 ex10 eS12 ez14 eS16 ex18 ex23 eS25 eS27; exact (fm_tr (fm_tr (fm_tr (fm_tr (fm_up _ _ (ma_c (by omega))) (fm_up _ _ (ma_c (by omega)))) (fm_up _ _ (ma_c (by omega)))) (fm_up _ _ (ma_c (by omega)))) (fm_up _ _ (ma_c (by omega)))).sz]; exact hI.2⟩) (Nat.lt_succ_self _) hF2 hw (lv_sub hl [2, 0] rfl)
                · refine lv_ldc2 (v := (999 : Int64)) X.1 X.2.1 X.2.2.2.1 (X.2.2.2.2 _ q956) dX7_settles_233 ?_
                  refine lv_goto (tgt := 254) X.1 X.2.1 dX7_settles_236 (by decide) ?_
                  refine lv_l2i X.1 X.2.1 dX7_settles_254 rfl ?_
                  refine lv_topi (fun x34 ex34 => ?_)
                  have hi35 : vp_in (6 : Int32) 132 := by unfold vp_in; decide
                  refine m_iastL (j := 6) X K hw (by decide) (by decide) (fun _ => mm_e1) hi35 rfl dX7_settles_255 (fun S36 H locs eS36 hw => ?_)
                  refine lv_aload_n X.1 X.2.1 dX7_settles_256 rfl (lv_at hl 1 rfl) ?_
                  refine m_get X K hw 0 (by decide) q836 rfl dX7_settles_257 ?_
                  refine lv_bipush (v := (9 : Int32)) X.1 X.2.1 dX7_settles_260 (by decide) ?_
                  refine lv_iconst (v := (0 : Int32)) X.1 X.2.1 dX7_settles_262 (by decide) ?_
                  have hi37 : vp_in (9 : Int32) 132 := by unfold vp_in; decide
                  refine m_iastL (j := 9) X K hw (by decide) (by decide) (fun _ => mm_e1) hi37 rfl dX7_settles_263 (fun S38 H locs eS38 hw => ?_)
                  refine lv_iconst (v := (0 : Int32)) X.1 X.2.1 dX7_settles_264 (by decide) ?_
                  refine lv_istore_n (lv' := [(3, .int (0 : Int32)), (2, .int x18), (0, .ref (mm_ad G 0)), (1, .int y1_84)]) X.1 X.2.1 dX7_settles_265 rfl hl (by decide) rfl (fun ls hl => ?_)
                  have j266 : ∀ (n : Nat) (S39 : tt_St) (y3_266 : Int32) (H : Heap) (locs : List Loc) (ls : Array Slot), ((¬ y3_266 < 0) ∧ (S39 1 0).toInt ≤ 10) → lp_mu (S39 1 0) y3_266 < n → f7_settles_L266 n S39 y3_266 = tgt → m_W G S39 V s H locs → lv_has ls 4 [(0, .ref (mm_ad G 0)), (3, .int y3_266)] → W p l e (g_rm 2 46) s m ([.ref (mm_ad G 0)] : List Value).toArray below meth c H locs 0 0 (MQ below (va_Qv (fun T => T = (tgt, V)) (g_Post G 10 (mm_ad G) (mm_cell G)) (g_in 10 (mm_ad G))) ([.ref (mm_ad G 0)] : List Value).toArray s 0 0 (g_in 10 (mm_ad G))) (F0 m 266 ls []) := by
                    intro n
                    induction n with
                    | zero => intro S39 y3_266 H locs ls hI hm; exact absurd hm (Nat.not_lt_zero _)
                    | succ n ih =>
                      intro S39 y3_266 H locs ls hI hm hF hw hl
                      refine lv_iload_n X.1 X.2.1 dX7_settles_266 rfl (lv_at hl 1 rfl) ?_
                      refine lv_aload_n X.1 X.2.1 dX7_settles_267 rfl (lv_at hl 0 rfl) ?_
                      refine m_get X K hw 0 (by decide) q836 rfl dX7_settles_268 ?_
                      refine lv_iconst (v := (0 : Int32)) X.1 X.2.1 dX7_settles_271 (by decide) ?_
                      have hi40 : vp_in (0 : Int32) 132 := by unfold vp_in; decide
                      refine g_ialdL (j := 0) X K hw (by decide) mm_e1 hi40 rfl dX7_settles_272 ?_
                      refine lv_icmp_ge (tgt := 297) X.1 X.2.1 dX7_settles_273 (by decide) (fun c41 => ?_) (fun c41 => ?_)
                      · have hR : S39 = tgt := by
                          rw [← hF]
                          simp only [f7_settles_L266, if_pos c41]
                        exact g_vret X hret hlk hw (congrArg (fun z => (z, V)) hR) dX7_settles_297
                      · refine lv_aload_n X.1 X.2.1 dX7_settles_276 rfl (lv_at hl 0 rfl) ?_
                        refine lv_iload_n X.1 X.2.1 dX7_settles_277 rfl (lv_at hl 1 rfl) ?_
                        refine lv_iconst (v := (5 : Int32)) X.1 X.2.1 dX7_settles_278 (by decide) ?_
                        refine lv_iconst (v := (0 : Int32)) X.1 X.2.1 dX7_settles_279 (by decide) ?_
                        refine m_callVV_s X K hw (k_X7_becomes l G S39 V y3_266 (5 : Int32) (0 : Int32) (lp_in hI.1 c41 hI.2) (by unfold vp_in; decide)) (g_cwV X hiX7_becomes q921 q923 q31 q74 q924 ⟨(Nat.le_of_ble_eq_true rfl), (Nat.le_of_ble_eq_true rfl)⟩) rfl hl.1 rfl (Nat.le_of_ble_eq_true rfl) dX7_settles_280 ⟨(Nat.le_of_ble_eq_true rfl), (Nat.le_of_ble_eq_true rfl)⟩ (fun S42 H locs eS42 hw => ?_)
                        refine lv_aload_n X.1 X.2.1 dX7_settles_283 rfl (lv_at hl 0 rfl) ?_
                        refine lv_iload_n X.1 X.2.1 dX7_settles_284 rfl (lv_at hl 1 rfl) ?_
                        refine lv_bipush (v := (6 : Int32)) X.1 X.2.1 dX7_settles_285 (by decide) ?_
                        refine lv_iconst (v := (0 : Int32)) X.1 X.2.1 dX7_settles_287 (by decide) ?_
                        refine m_callVV_s X K hw (k_X7_becomes l G S42 V y3_266 (6 : Int32) (0 : Int32) (lp_in hI.1 c41 hI.2) (by unfold vp_in; decide)) (g_cwV X hiX7_becomes q921 q923 q31 q74 q924 ⟨(Nat.le_of_ble_eq_true rfl), (Nat.le_of_ble_eq_true rfl)⟩) rfl hl.1 rfl (Nat.le_of_ble_eq_true rfl) dX7_settles_288 ⟨(Nat.le_of_ble_eq_true rfl), (Nat.le_of_ble_eq_true rfl)⟩ (fun S43 H locs eS43 hw => ?_)
                        obtain ⟨x44, ex44⟩ : ∃ y : Int32, y = y3_266 + (1 : Int32) := ⟨_, rfl⟩
                        refine lv_iinc (v := x44) (lv' := [(3, .int x44), (0, .ref (mm_ad G 0))]) X.1 X.2.1 dX7_settles_291 hl (k := 1) rfl (by rw [ex44]; rfl) (by decide) rfl (fun ls hl => ?_)
                        refine lv_goto (tgt := 266) X.1 X.2.1 dX7_settles_294 (by decide) ?_
                        have hF2 : f7_settles_L266 n S43 x44 = tgt := by
                          rw [← hF]
                          subst eS42 eS43 ex44
                          simp only [f7_settles_L266, if_neg c41]
                        exact ih S43 x44 _ _ ls (⟨by rw [ex44]; exact lp_nn hI.1 c41, by rw [show S43 1 0 = S39 1 0 from by subst eS42 eS43 ex44; exact (fm_tr (fm_becomes (lp_in hI.1 c41 hI.2) (by decide)) (fm_becomes (lp_in hI.1 c41 hI.2) (by decide))).sz]; exact hI.2⟩) (by rw [ex44, show S43 1 0 = S39 1 0 from by subst eS42 eS43 ex44; exact (fm_tr (fm_becomes (lp_in hI.1 c41 hI.2) (by decide)) (fm_becomes (lp_in hI.1 c41 hI.2) (by decide))).sz]; exact lp_dec' c41 hm) hF2 hw (lv_sub hl [1, 0] rfl)
                  have hF2 : f7_settles_L266 (lp_mu (S38 1 0) 0 + 1) S38 (0 : Int32) = tgt := by
                    rw [← hF]
                    subst eS8 ex10 eS12 ez14 eS16 ex18 ex34 eS36 eS38
                    simp only [f7_settles_L84, if_pos c6, if_neg c19, if_neg c21]
                  exact j266 (lp_mu (S38 1 0) 0 + 1) S38 (0 : Int32) _ _ ls (⟨by decide, by rw [show S38 1 0 = S5 1 0 from by subst eS8 ex10 eS12 ez14 eS16 ex18 ex34 eS36 eS38; exact (fm_tr (fm_tr (fm_tr (fm_tr (fm_up _ _ (ma_c (by omega))) (fm_up _ _ (ma_c (by omega)))) (fm_up _ _ (ma_c (by omega)))) (fm_up _ _ (ma_c (by omega)))) (fm_up _ _ (ma_c (by omega)))).sz]; exact hI.2⟩) (Nat.lt_succ_self _) hF2 hw (lv_sub hl [2, 0] rfl)
              · refine lv_bipush (v := (100 : Int32)) X.1 X.2.1 dX7_settles_206 (by decide) ?_
                refine lv_goto (tgt := 255) X.1 X.2.1 dX7_settles_208 (by decide) ?_
                have hi45 : vp_in (6 : Int32) 132 := by unfold vp_in; decide
                refine m_iastL (j := 6) X K hw (by decide) (by decide) (fun _ => mm_e1) hi45 rfl dX7_settles_255 (fun S46 H locs eS46 hw => ?_)
                refine lv_aload_n X.1 X.2.1 dX7_settles_256 rfl (lv_at hl 1 rfl) ?_
                refine m_get X K hw 0 (by decide) q836 rfl dX7_settles_257 ?_
                refine lv_bipush (v := (9 : Int32)) X.1 X.2.1 dX7_settles_260 (by decide) ?_
                refine lv_iconst (v := (0 : Int32)) X.1 X.2.1 dX7_settles_262 (by decide) ?_
                have hi47 : vp_in (9 : Int32) 132 := by unfold vp_in; decide
                refine m_iastL (j := 9) X K hw (by decide) (by decide) (fun _ => mm_e1) hi47 rfl dX7_settles_263 (fun S48 H locs eS48 hw => ?_)
                refine lv_iconst (v := (0 : Int32)) X.1 X.2.1 dX7_settles_264 (by decide) ?_
                refine lv_istore_n (lv' := [(3, .int (0 : Int32)), (2, .int x18), (0, .ref (mm_ad G 0)), (1, .int y1_84)]) X.1 X.2.1 dX7_settles_265 rfl hl (by decide) rfl (fun ls hl => ?_)
                have j266 : ∀ (n : Nat) (S49 : tt_St) (y3_266 : Int32) (H : Heap) (locs : List Loc) (ls : Array Slot), ((¬ y3_266 < 0) ∧ (S49 1 0).toInt ≤ 10) → lp_mu (S49 1 0) y3_266 < n → f7_settles_L266 n S49 y3_266 = tgt → m_W G S49 V s H locs → lv_has ls 4 [(0, .ref (mm_ad G 0)), (3, .int y3_266)] → W p l e (g_rm 2 46) s m ([.ref (mm_ad G 0)] : List Value).toArray below meth c H locs 0 0 (MQ below (va_Qv (fun T => T = (tgt, V)) (g_Post G 10 (mm_ad G) (mm_cell G)) (g_in 10 (mm_ad G))) ([.ref (mm_ad G 0)] : List Value).toArray s 0 0 (g_in 10 (mm_ad G))) (F0 m 266 ls []) := by
                  intro n
                  induction n with
                  | zero => intro S49 y3_266 H locs ls hI hm; exact absurd hm (Nat.not_lt_zero _)
                  | succ n ih =>
                    intro S49 y3_266 H locs ls hI hm hF hw hl
                    refine lv_iload_n X.1 X.2.1 dX7_settles_266 rfl (lv_at hl 1 rfl) ?_
                    refine lv_aload_n X.1 X.2.1 dX7_settles_267 rfl (lv_at hl 0 rfl) ?_
                    refine m_get X K hw 0 (by decide) q836 rfl dX7_settles_268 ?_
                    refine lv_iconst (v := (0 : Int32)) X.1 X.2.1 dX7_settles_271 (by decide) ?_
                    have hi50 : vp_in (0 : Int32) 132 := by unfold vp_in; decide
                    refine g_ialdL (j := 0) X K hw (by decide) mm_e1 hi50 rfl dX7_settles_272 ?_
                    refine lv_icmp_ge (tgt := 297) X.1 X.2.1 dX7_settles_273 (by decide) (fun c51 => ?_) (fun c51 => ?_)
                    · have hR : S49 = tgt := by
                        rw [← hF]
                        simp only [f7_settles_L266, if_pos c51]
                      exact g_vret X hret hlk hw (congrArg (fun z => (z, V)) hR) dX7_settles_297
                    · refine lv_aload_n X.1 X.2.1 dX7_settles_276 rfl (lv_at hl 0 rfl) ?_
                      refine lv_iload_n X.1 X.2.1 dX7_settles_277 rfl (lv_at hl 1 rfl) ?_
                      refine lv_iconst (v := (5 : Int32)) X.1 X.2.1 dX7_settles_278 (by decide) ?_
                      refine lv_iconst (v := (0 : Int32)) X.1 X.2.1 dX7_settles_279 (by decide) ?_
                      refine m_callVV_s X K hw (k_X7_becomes l G S49 V y3_266 (5 : Int32) (0 : Int32) (lp_in hI.1 c51 hI.2) (by unfold vp_in; decide)) (g_cwV X hiX7_becomes q921 q923 q31 q74 q924 ⟨(Nat.le_of_ble_eq_true rfl), (Nat.le_of_ble_eq_true rfl)⟩) rfl hl.1 rfl (Nat.le_of_ble_eq_true rfl) dX7_settles_280 ⟨(Nat.le_of_ble_eq_true rfl), (Nat.le_of_ble_eq_true rfl)⟩ (fun S52 H locs eS52 hw => ?_)
                      refine lv_aload_n X.1 X.2.1 dX7_settles_283 rfl (lv_at hl 0 rfl) ?_
                      refine lv_iload_n X.1 X.2.1 dX7_settles_284 rfl (lv_at hl 1 rfl) ?_
                      refine lv_bipush (v := (6 : Int32)) X.1 X.2.1 dX7_settles_285 (by decide) ?_
                      refine lv_iconst (v := (0 : Int32)) X.1 X.2.1 dX7_settles_287 (by decide) ?_
                      refine m_callVV_s X K hw (k_X7_becomes l G S52 V y3_266 (6 : Int32) (0 : Int32) (lp_in hI.1 c51 hI.2) (by unfold vp_in; decide)) (g_cwV X hiX7_becomes q921 q923 q31 q74 q924 ⟨(Nat.le_of_ble_eq_true rfl), (Nat.le_of_ble_eq_true rfl)⟩) rfl hl.1 rfl (Nat.le_of_ble_eq_true rfl) dX7_settles_288 ⟨(Nat.le_of_ble_eq_true rfl), (Nat.le_of_ble_eq_true rfl)⟩ (fun S53 H locs eS53 hw => ?_)
                      obtain ⟨x54, ex54⟩ : ∃ y : Int32, y = y3_266 + (1 : Int32) := ⟨_, rfl⟩
                      refine lv_iinc (v := x54) (lv' := [(3, .int x54), (0, .ref (mm_ad G 0))]) X.1 X.2.1 dX7_settles_291 hl (k := 1) rfl (by rw [ex54]; rfl) (by decide) rfl (fun ls hl => ?_)
                      refine lv_goto (tgt := 266) X.1 X.2.1 dX7_settles_294 (by decide) ?_
                      have hF2 : f7_settles_L266 n S53 x54 = tgt := by
                        rw [← hF]
                        subst eS52 eS53 ex54
                        simp only [f7_settles_L266, if_neg c51]
                      exact ih S53 x54 _ _ ls (⟨by rw [ex54]; exact lp_nn hI.1 c51, by rw [show S53 1 0 = S49 1 0 from by subst eS52 eS53 ex54; exact (fm_tr (fm_becomes (lp_in hI.1 c51 hI.2) (by decide)) (fm_becomes (lp_in hI.1 c51 hI.2) (by decide))).sz]; exact hI.2⟩) (by rw [ex54, show S53 1 0 = S49 1 0 from by subst eS52 eS53 ex54; exact (fm_tr (fm_becomes (lp_in hI.1 c51 hI.2) (by decide)) (fm_becomes (lp_in hI.1 c51 hI.2) (by decide))).sz]; exact lp_dec' c51 hm) hF2 hw (lv_sub hl [1, 0] rfl)
                have hF2 : f7_settles_L266 (lp_mu (S48 1 0) 0 + 1) S48 (0 : Int32) = tgt := by
                  rw [← hF]
                  subst eS8 ex10 eS12 ez14 eS16 ex18 eS46 eS48
                  simp only [f7_settles_L84, if_pos c6, if_pos c19]
                exact j266 (lp_mu (S48 1 0) 0 + 1) S48 (0 : Int32) _ _ ls (⟨by decide, by rw [show S48 1 0 = S5 1 0 from by subst eS8 ex10 eS12 ez14 eS16 ex18 eS46 eS48; exact (fm_tr (fm_tr (fm_tr (fm_tr (fm_up _ _ (ma_c (by omega))) (fm_up _ _ (ma_c (by omega)))) (fm_up _ _ (ma_c (by omega)))) (fm_up _ _ (ma_c (by omega)))) (fm_up _ _ (ma_c (by omega)))).sz]; exact hI.2⟩) (Nat.lt_succ_self _) hF2 hw (lv_sub hl [2, 0] rfl)
            · refine lv_aload_n X.1 X.2.1 dX7_settles_88 rfl (lv_at hl 0 rfl) ?_
              refine m_get X K hw 0 (by decide) q836 rfl dX7_settles_89 ?_
              refine lv_bipush (v := (82 : Int32)) X.1 X.2.1 dX7_settles_92 (by decide) ?_
              refine lv_iconst (v := (2 : Int32)) X.1 X.2.1 dX7_settles_94 (by decide) ?_
              refine lv_iload_n X.1 X.2.1 dX7_settles_95 rfl (lv_at hl 2 rfl) ?_
              refine lv_imul X.1 X.2.1 dX7_settles_96 ?_
              refine lv_iadd X.1 X.2.1 dX7_settles_97 ?_
              refine lv_aload_n X.1 X.2.1 dX7_settles_98 rfl (lv_at hl 0 rfl) ?_
              refine m_get X K hw 0 (by decide) q836 rfl dX7_settles_99 ?_
              refine lv_bipush (v := (82 : Int32)) X.1 X.2.1 dX7_settles_102 (by decide) ?_
              refine lv_iconst (v := (2 : Int32)) X.1 X.2.1 dX7_settles_104 (by decide) ?_
              refine lv_iload_n X.1 X.2.1 dX7_settles_105 rfl (lv_at hl 2 rfl) ?_
              refine lv_imul X.1 X.2.1 dX7_settles_106 ?_
              refine lv_iadd X.1 X.2.1 dX7_settles_107 ?_
              refine lv_iconst (v := (2 : Int32)) X.1 X.2.1 dX7_settles_108 (by decide) ?_
              refine lv_isub X.1 X.2.1 dX7_settles_109 ?_
              have hi55 : vp_in (((82 : Int32) + ((2 : Int32) * y2_84)) - (2 : Int32)) 132 := bk_in110 hI.1 c6
              refine g_iald X K hw (by decide) mm_e1 hi55 dX7_settles_110 ?_
              refine lv_topi (fun x56 ex56 => ?_)
              have hi57 : vp_in ((82 : Int32) + ((2 : Int32) * y2_84)) 132 := bk_in111 hI.1 c6
              refine m_iast X K hw (by decide) (by decide) (fun _ => mm_e1) hi57 dX7_settles_111 (fun S58 H locs eS58 hw => ?_)
              refine lv_aload_n X.1 X.2.1 dX7_settles_112 rfl (lv_at hl 0 rfl) ?_
              refine m_get X K hw 0 (by decide) q836 rfl dX7_settles_113 ?_
              refine lv_bipush (v := (82 : Int32)) X.1 X.2.1 dX7_settles_116 (by decide) ?_
              refine lv_iconst (v := (2 : Int32)) X.1 X.2.1 dX7_settles_118 (by decide) ?_
              refine lv_iload_n X.1 X.2.1 dX7_settles_119 rfl (lv_at hl 2 rfl) ?_
              refine lv_imul X.1 X.2.1 dX7_settles_120 ?_
              refine lv_iadd X.1 X.2.1 dX7_settles_121 ?_
              refine lv_iconst (v := (1 : Int32)) X.1 X.2.1 dX7_settles_122 (by decide) ?_
              refine lv_iadd X.1 X.2.1 dX7_settles_123 ?_
              refine lv_aload_n X.1 X.2.1 dX7_settles_124 rfl (lv_at hl 0 rfl) ?_
              refine m_get X K hw 0 (by decide) q836 rfl dX7_settles_125 ?_
              refine lv_bipush (v := (82 : Int32)) X.1 X.2.1 dX7_settles_128 (by decide) ?_
              refine lv_iconst (v := (2 : Int32)) X.1 X.2.1 dX7_settles_130 (by decide) ?_
              refine lv_iload_n X.1 X.2.1 dX7_settles_131 rfl (lv_at hl 2 rfl) ?_
              refine lv_imul X.1 X.2.1 dX7_settles_132 ?_
              refine lv_iadd X.1 X.2.1 dX7_settles_133 ?_
              refine lv_iconst (v := (1 : Int32)) X.1 X.2.1 dX7_settles_134 (by decide) ?_
              refine lv_isub X.1 X.2.1 dX7_settles_135 ?_
              have hi59 : vp_in (((82 : Int32) + ((2 : Int32) * y2_84)) - (1 : Int32)) 132 := bk_in136 hI.1 c6
              refine g_iald X K hw (by decide) mm_e1 hi59 dX7_settles_136 ?_
              refine lv_topi (fun x60 ex60 => ?_)
              have hi61 : vp_in (((82 : Int32) + ((2 : Int32) * y2_84)) + (1 : Int32)) 132 := bk_in137 hI.1 c6
              refine m_iast X K hw (by decide) (by decide) (fun _ => mm_e1) hi61 dX7_settles_137 (fun S62 H locs eS62 hw => ?_)
              obtain ⟨x63, ex63⟩ : ∃ y : Int32, y = y2_84 + (-1 : Int32) := ⟨_, rfl⟩
              refine lv_iinc (v := x63) (lv' := [(2, .int x63), (0, .ref (mm_ad G 0)), (1, .int y1_84)]) X.1 X.2.1 dX7_settles_138 hl (k := 2) rfl (by rw [ex63]; rfl) (by decide) rfl (fun ls hl => ?_)
              refine lv_goto (tgt := 84) X.1 X.2.1 dX7_settles_141 (by decide) ?_
              have hF2 : f7_settles_L84 n S62 y1_84 x63 = tgt := by
                rw [← hF]
                subst ex56 eS58 ex60 eS62 ex63
                simp only [f7_settles_L84, if_neg c6]
              exact ih S62 y1_84 x63 _ _ ls (⟨by rw [ex63]; exact bk_le hI.1 c6, by rw [show S62 1 0 = S5 1 0 from by subst ex56 eS58 ex60 eS62 ex63; exact bk_sz hI.1 c6]; exact hI.2⟩) (by rw [ex63]; exact bk_mu c6 hm) hF2 hw (lv_sub hl [1, 2, 0] rfl)
        have hF2 : f7_settles_L84 (lp_k 20) S1 z4 (19 : Int32) = tgt := by
          rw [← hF]
          subst ez4
          simp only [f7_settles_L2, if_pos c3]
        exact j84 (lp_k 20) S1 z4 (19 : Int32) _ _ ls (⟨by decide, hI.2⟩) (by rw [lp_k_eq]; decide) hF2 hw (lv_sub hl [2, 1, 0] rfl)
      · refine lv_aload_n X.1 X.2.1 dX7_settles_12 rfl (lv_at hl 0 rfl) ?_
        refine lv_iload_n X.1 X.2.1 dX7_settles_13 rfl (lv_at hl 1 rfl) ?_
        refine lv_iconst (v := (0 : Int32)) X.1 X.2.1 dX7_settles_14 (by decide) ?_
        refine m_callVI_p X K hw (k_X7_its l G S1 V y1_2 (0 : Int32) (lp_in hI.1 c3 hI.2) (by unfold vp_in; decide)) (g_cwV X hiX7_its q933 q935 q33 q74 q936 ⟨(Nat.le_of_ble_eq_true rfl), (Nat.le_of_ble_eq_true rfl)⟩) rfl hl.1 rfl (Nat.le_of_ble_eq_true rfl) dX7_settles_15 ⟨(Nat.le_of_ble_eq_true rfl), (Nat.le_of_ble_eq_true rfl)⟩ (fun z64 H locs ez64 hw => ?_)
        refine lv_iconst (v := (1 : Int32)) X.1 X.2.1 dX7_settles_18 (by decide) ?_
        refine lv_icmp_eq (tgt := 33) X.1 X.2.1 dX7_settles_19 (by decide) (fun c65 => ?_) (fun c65 => ?_)
        · refine lv_aload_n X.1 X.2.1 dX7_settles_33 rfl (lv_at hl 0 rfl) ?_
          refine lv_iload_n X.1 X.2.1 dX7_settles_34 rfl (lv_at hl 1 rfl) ?_
          refine lv_iconst (v := (4 : Int32)) X.1 X.2.1 dX7_settles_35 (by decide) ?_
          refine m_callVI_p X K hw (k_X7_its l G S1 V y1_2 (4 : Int32) (lp_in hI.1 c3 hI.2) (by unfold vp_in; decide)) (g_cwV X hiX7_its q933 q935 q33 q74 q936 ⟨(Nat.le_of_ble_eq_true rfl), (Nat.le_of_ble_eq_true rfl)⟩) rfl hl.1 rfl (Nat.le_of_ble_eq_true rfl) dX7_settles_36 ⟨(Nat.le_of_ble_eq_true rfl), (Nat.le_of_ble_eq_true rfl)⟩ (fun z66 H locs ez66 hw => ?_)
          refine lv_aload_n X.1 X.2.1 dX7_settles_39 rfl (lv_at hl 0 rfl) ?_
          refine lv_iload_n X.1 X.2.1 dX7_settles_40 rfl (lv_at hl 1 rfl) ?_
          refine lv_iconst (v := (2 : Int32)) X.1 X.2.1 dX7_settles_41 (by decide) ?_
          refine m_callVI_p X K hw (k_X7_its l G S1 V y1_2 (2 : Int32) (lp_in hI.1 c3 hI.2) (by unfold vp_in; decide)) (g_cwV X hiX7_its q933 q935 q33 q74 q936 ⟨(Nat.le_of_ble_eq_true rfl), (Nat.le_of_ble_eq_true rfl)⟩) rfl hl.1 rfl (Nat.le_of_ble_eq_true rfl) dX7_settles_42 ⟨(Nat.le_of_ble_eq_true rfl), (Nat.le_of_ble_eq_true rfl)⟩ (fun z67 H locs ez67 hw => ?_)
          refine m_callSI_p X K hw (k_X7_least l G S1 V z66 z67) (g_cwS X hiX7_least q957 q958 q74 q959 ⟨(Nat.le_of_ble_eq_true rfl), (Nat.le_of_ble_eq_true rfl)⟩) rfl hl.1 rfl (Nat.le_of_ble_eq_true rfl) dX7_settles_45 ⟨(Nat.le_of_ble_eq_true rfl), (Nat.le_of_ble_eq_true rfl)⟩ (fun z68 H locs ez68 hw => ?_)
          refine lv_istore_n (lv' := [(2, .int z68), (0, .ref (mm_ad G 0)), (1, .int y1_2)]) X.1 X.2.1 dX7_settles_48 rfl hl (by decide) rfl (fun ls hl => ?_)
          refine lv_aload_n X.1 X.2.1 dX7_settles_49 rfl (lv_at hl 1 rfl) ?_
          refine lv_iload_n X.1 X.2.1 dX7_settles_50 rfl (lv_at hl 2 rfl) ?_
          refine lv_iload_n X.1 X.2.1 dX7_settles_51 rfl (lv_at hl 0 rfl) ?_
          refine m_callVV_s X K hw (k_X7_pays l G S1 V y1_2 z68 (lp_in hI.1 c3 hI.2)) (g_cwV X hiX7_pays q1010 q1012 q43 q74 q1013 ⟨(Nat.le_of_ble_eq_true rfl), (Nat.le_of_ble_eq_true rfl)⟩) rfl hl.1 rfl (Nat.le_of_ble_eq_true rfl) dX7_settles_52 ⟨(Nat.le_of_ble_eq_true rfl), (Nat.le_of_ble_eq_true rfl)⟩ (fun S69 H locs eS69 hw => ?_)
          refine lv_aload_n X.1 X.2.1 dX7_settles_55 rfl (lv_at hl 1 rfl) ?_
          refine lv_iload_n X.1 X.2.1 dX7_settles_56 rfl (lv_at hl 2 rfl) ?_
          refine lv_iconst (v := (4 : Int32)) X.1 X.2.1 dX7_settles_57 (by decide) ?_
          refine lv_aload_n X.1 X.2.1 dX7_settles_58 rfl (lv_at hl 1 rfl) ?_
          refine lv_iload_n X.1 X.2.1 dX7_settles_59 rfl (lv_at hl 2 rfl) ?_
          refine lv_iconst (v := (4 : Int32)) X.1 X.2.1 dX7_settles_60 (by decide) ?_
          refine m_callVI_p X K hw (k_X7_its l G S69 V y1_2 (4 : Int32) (lp_in hI.1 c3 hI.2) (by unfold vp_in; decide)) (g_cwV X hiX7_its q933 q935 q33 q74 q936 ⟨(Nat.le_of_ble_eq_true rfl), (Nat.le_of_ble_eq_true rfl)⟩) rfl hl.1 rfl (Nat.le_of_ble_eq_true rfl) dX7_settles_61 ⟨(Nat.le_of_ble_eq_true rfl), (Nat.le_of_ble_eq_true rfl)⟩ (fun z70 H locs ez70 hw => ?_)
          refine lv_iload_n X.1 X.2.1 dX7_settles_64 rfl (lv_at hl 0 rfl) ?_
          refine lv_isub X.1 X.2.1 dX7_settles_65 ?_
          refine m_callVV_s X K hw (k_X7_becomes l G S69 V y1_2 (4 : Int32) (z70 - z68) (lp_in hI.1 c3 hI.2) (by unfold vp_in; decide)) (g_cwV X hiX7_becomes q921 q923 q31 q74 q924 ⟨(Nat.le_of_ble_eq_true rfl), (Nat.le_of_ble_eq_true rfl)⟩) rfl hl.1 rfl (Nat.le_of_ble_eq_true rfl) dX7_settles_66 ⟨(Nat.le_of_ble_eq_true rfl), (Nat.le_of_ble_eq_true rfl)⟩ (fun S71 H locs eS71 hw => ?_)
          obtain ⟨x72, ex72⟩ : ∃ y : Int32, y = y1_2 + (1 : Int32) := ⟨_, rfl⟩
          refine lv_iinc (v := x72) (lv' := [(1, .int x72), (2, .int z68), (0, .ref (mm_ad G 0))]) X.1 X.2.1 dX7_settles_69 hl (k := 2) rfl (by rw [ex72]; rfl) (by decide) rfl (fun ls hl => ?_)
          refine lv_goto (tgt := 2) X.1 X.2.1 dX7_settles_72 (by decide) ?_
          have hF2 : f7_settles_L2 n S71 x72 = tgt := by
            rw [← hF]
            subst ez64 ez66 ez67 ez68 eS69 ez70 eS71 ex72
            simp only [f7_settles_L2, if_neg c3, if_pos c65]
          exact ih S71 x72 _ _ ls (⟨by rw [ex72]; exact lp_nn hI.1 c3, by rw [show S71 1 0 = S1 1 0 from by subst ez64 ez66 ez67 ez68 eS69 ez70 eS71 ex72; exact (by have hk := (lp_in hI.1 c3 hI.2); first | with_reducible rfl | with_reducible exact (fm_tr (fm_pays _ _ hk) (fm_becomes hk (by decide))).sz)]; exact hI.2⟩) (by rw [ex72, show S71 1 0 = S1 1 0 from by subst ez64 ez66 ez67 ez68 eS69 ez70 eS71 ex72; exact (by have hk := (lp_in hI.1 c3 hI.2); first | with_reducible rfl | with_reducible exact (fm_tr (fm_pays _ _ hk) (fm_becomes hk (by decide))).sz)]; exact lp_dec' c3 hm) hF2 hw (lv_sub hl [2, 0] rfl)
        · refine lv_aload_n X.1 X.2.1 dX7_settles_22 rfl (lv_at hl 0 rfl) ?_
          refine lv_iload_n X.1 X.2.1 dX7_settles_23 rfl (lv_at hl 1 rfl) ?_
          refine lv_iconst (v := (0 : Int32)) X.1 X.2.1 dX7_settles_24 (by decide) ?_
          refine m_callVI_p X K hw (k_X7_its l G S1 V y1_2 (0 : Int32) (lp_in hI.1 c3 hI.2) (by unfold vp_in; decide)) (g_cwV X hiX7_its q933 q935 q33 q74 q936 ⟨(Nat.le_of_ble_eq_true rfl), (Nat.le_of_ble_eq_true rfl)⟩) rfl hl.1 rfl (Nat.le_of_ble_eq_true rfl) dX7_settles_25 ⟨(Nat.le_of_ble_eq_true rfl), (Nat.le_of_ble_eq_true rfl)⟩ (fun z73 H locs ez73 hw => ?_)
          refine lv_bipush (v := (6 : Int32)) X.1 X.2.1 dX7_settles_28 (by decide) ?_
          refine lv_icmp_ne (tgt := 69) X.1 X.2.1 dX7_settles_30 (by decide) (fun c74 => ?_) (fun c74 => ?_)
          · obtain ⟨x75, ex75⟩ : ∃ y : Int32, y = y1_2 + (1 : Int32) := ⟨_, rfl⟩
            refine lv_iinc (v := x75) (lv' := [(1, .int x75), (0, .ref (mm_ad G 0))]) X.1 X.2.1 dX7_settles_69 hl (k := 1) rfl (by rw [ex75]; rfl) (by decide) rfl (fun ls hl => ?_)
            refine lv_goto (tgt := 2) X.1 X.2.1 dX7_settles_72 (by decide) ?_
            have hF2 : f7_settles_L2 n S1 x75 = tgt := by
              rw [← hF]
              subst ez64 ez73 ex75
              simp only [f7_settles_L2, if_neg c3, if_neg c65, if_neg c74]
            exact ih S1 x75 _ _ ls (⟨by rw [ex75]; exact lp_nn hI.1 c3, by rw [show S1 1 0 = S1 1 0 from by subst ez64 ez73 ex75; exact (by have hk := (lp_in hI.1 c3 hI.2); first | with_reducible rfl | with_reducible exact (fm_tr (fm_pays _ _ hk) (fm_becomes hk (by decide))).sz)]; exact hI.2⟩) (by rw [ex75, show S1 1 0 = S1 1 0 from by subst ez64 ez73 ex75; exact (by have hk := (lp_in hI.1 c3 hI.2); first | with_reducible rfl | with_reducible exact (fm_tr (fm_pays _ _ hk) (fm_becomes hk (by decide))).sz)]; exact lp_dec' c3 hm) hF2 hw (lv_sub hl [1, 0] rfl)
          · refine lv_aload_n X.1 X.2.1 dX7_settles_33 rfl (lv_at hl 0 rfl) ?_
            refine lv_iload_n X.1 X.2.1 dX7_settles_34 rfl (lv_at hl 1 rfl) ?_
            refine lv_iconst (v := (4 : Int32)) X.1 X.2.1 dX7_settles_35 (by decide) ?_
            refine m_callVI_p X K hw (k_X7_its l G S1 V y1_2 (4 : Int32) (lp_in hI.1 c3 hI.2) (by unfold vp_in; decide)) (g_cwV X hiX7_its q933 q935 q33 q74 q936 ⟨(Nat.le_of_ble_eq_true rfl), (Nat.le_of_ble_eq_true rfl)⟩) rfl hl.1 rfl (Nat.le_of_ble_eq_true rfl) dX7_settles_36 ⟨(Nat.le_of_ble_eq_true rfl), (Nat.le_of_ble_eq_true rfl)⟩ (fun z76 H locs ez76 hw => ?_)
            refine lv_aload_n X.1 X.2.1 dX7_settles_39 rfl (lv_at hl 0 rfl) ?_
            refine lv_iload_n X.1 X.2.1 dX7_settles_40 rfl (lv_at hl 1 rfl) ?_
            refine lv_iconst (v := (2 : Int32)) X.1 X.2.1 dX7_settles_41 (by decide) ?_
            refine m_callVI_p X K hw (k_X7_its l G S1 V y1_2 (2 : Int32) (lp_in hI.1 c3 hI.2) (by unfold vp_in; decide)) (g_cwV X hiX7_its q933 q935 q33 q74 q936 ⟨(Nat.le_of_ble_eq_true rfl), (Nat.le_of_ble_eq_true rfl)⟩) rfl hl.1 rfl (Nat.le_of_ble_eq_true rfl) dX7_settles_42 ⟨(Nat.le_of_ble_eq_true rfl), (Nat.le_of_ble_eq_true rfl)⟩ (fun z77 H locs ez77 hw => ?_)
            refine m_callSI_p X K hw (k_X7_least l G S1 V z76 z77) (g_cwS X hiX7_least q957 q958 q74 q959 ⟨(Nat.le_of_ble_eq_true rfl), (Nat.le_of_ble_eq_true rfl)⟩) rfl hl.1 rfl (Nat.le_of_ble_eq_true rfl) dX7_settles_45 ⟨(Nat.le_of_ble_eq_true rfl), (Nat.le_of_ble_eq_true rfl)⟩ (fun z78 H locs ez78 hw => ?_)
            refine lv_istore_n (lv' := [(2, .int z78), (0, .ref (mm_ad G 0)), (1, .int y1_2)]) X.1 X.2.1 dX7_settles_48 rfl hl (by decide) rfl (fun ls hl => ?_)
            refine lv_aload_n X.1 X.2.1 dX7_settles_49 rfl (lv_at hl 1 rfl) ?_
            refine lv_iload_n X.1 X.2.1 dX7_settles_50 rfl (lv_at hl 2 rfl) ?_
            refine lv_iload_n X.1 X.2.1 dX7_settles_51 rfl (lv_at hl 0 rfl) ?_
            refine m_callVV_s X K hw (k_X7_pays l G S1 V y1_2 z78 (lp_in hI.1 c3 hI.2)) (g_cwV X hiX7_pays q1010 q1012 q43 q74 q1013 ⟨(Nat.le_of_ble_eq_true rfl), (Nat.le_of_ble_eq_true rfl)⟩) rfl hl.1 rfl (Nat.le_of_ble_eq_true rfl) dX7_settles_52 ⟨(Nat.le_of_ble_eq_true rfl), (Nat.le_of_ble_eq_true rfl)⟩ (fun S79 H locs eS79 hw => ?_)
            refine lv_aload_n X.1 X.2.1 dX7_settles_55 rfl (lv_at hl 1 rfl) ?_
            refine lv_iload_n X.1 X.2.1 dX7_settles_56 rfl (lv_at hl 2 rfl) ?_
            refine lv_iconst (v := (4 : Int32)) X.1 X.2.1 dX7_settles_57 (by decide) ?_
            refine lv_aload_n X.1 X.2.1 dX7_settles_58 rfl (lv_at hl 1 rfl) ?_
            refine lv_iload_n X.1 X.2.1 dX7_settles_59 rfl (lv_at hl 2 rfl) ?_
            refine lv_iconst (v := (4 : Int32)) X.1 X.2.1 dX7_settles_60 (by decide) ?_
            refine m_callVI_p X K hw (k_X7_its l G S79 V y1_2 (4 : Int32) (lp_in hI.1 c3 hI.2) (by unfold vp_in; decide)) (g_cwV X hiX7_its q933 q935 q33 q74 q936 ⟨(Nat.le_of_ble_eq_true rfl), (Nat.le_of_ble_eq_true rfl)⟩) rfl hl.1 rfl (Nat.le_of_ble_eq_true rfl) dX7_settles_61 ⟨(Nat.le_of_ble_eq_true rfl), (Nat.le_of_ble_eq_true rfl)⟩ (fun z80 H locs ez80 hw => ?_)
            refine lv_iload_n X.1 X.2.1 dX7_settles_64 rfl (lv_at hl 0 rfl) ?_
            refine lv_isub X.1 X.2.1 dX7_settles_65 ?_
            refine m_callVV_s X K hw (k_X7_becomes l G S79 V y1_2 (4 : Int32) (z80 - z78) (lp_in hI.1 c3 hI.2) (by unfold vp_in; decide)) (g_cwV X hiX7_becomes q921 q923 q31 q74 q924 ⟨(Nat.le_of_ble_eq_true rfl), (Nat.le_of_ble_eq_true rfl)⟩) rfl hl.1 rfl (Nat.le_of_ble_eq_true rfl) dX7_settles_66 ⟨(Nat.le_of_ble_eq_true rfl), (Nat.le_of_ble_eq_true rfl)⟩ (fun S81 H locs eS81 hw => ?_)
            obtain ⟨x82, ex82⟩ : ∃ y : Int32, y = y1_2 + (1 : Int32) := ⟨_, rfl⟩
            refine lv_iinc (v := x82) (lv' := [(1, .int x82), (2, .int z78), (0, .ref (mm_ad G 0))]) X.1 X.2.1 dX7_settles_69 hl (k := 2) rfl (by rw [ex82]; rfl) (by decide) rfl (fun ls hl => ?_)
            refine lv_goto (tgt := 2) X.1 X.2.1 dX7_settles_72 (by decide) ?_
            have hF2 : f7_settles_L2 n S81 x82 = tgt := by
              rw [← hF]
              subst ez64 ez73 ez76 ez77 ez78 eS79 ez80 eS81 ex82
              simp only [f7_settles_L2, if_neg c3, if_neg c65, if_pos c74]
            exact ih S81 x82 _ _ ls (⟨by rw [ex82]; exact lp_nn hI.1 c3, by rw [show S81 1 0 = S1 1 0 from by subst ez64 ez73 ez76 ez77 ez78 eS79 ez80 eS81 ex82; exact (by have hk := (lp_in hI.1 c3 hI.2); first | with_reducible rfl | with_reducible exact (fm_tr (fm_pays _ _ hk) (fm_becomes hk (by decide))).sz)]; exact hI.2⟩) (by rw [ex82, show S81 1 0 = S1 1 0 from by subst ez64 ez73 ez76 ez77 ez78 eS79 ez80 eS81 ex82; exact (by have hk := (lp_in hI.1 c3 hI.2); first | with_reducible rfl | with_reducible exact (fm_tr (fm_pays _ _ hk) (fm_becomes hk (by decide))).sz)]; exact lp_dec' c3 hm) hF2 hw (lv_sub hl [2, 0] rfl)
  have hF2 : f7_settles_L2 (lp_mu (S 1 0) 0 + 1) S (0 : Int32) = tgt := by
    rw [← hF]
    simp only [f7_settles]
  exact j2 (lp_mu (S 1 0) 0 + 1) S (0 : Int32) _ _ ls (⟨by decide, hp0⟩) (Nat.lt_succ_self _) hF2 hw (lv_sub hl [1, 0] rfl)
set_option maxHeartbeats 4000000 in
set_option maxRecDepth 10000 in
theorem k_X7_goesBy (l : Launch) (G : tt_G) (S : tt_St) (V : Int64) (hp0 : (S 1 0).toInt ≤ 10) : m_MV l G yX7_goesBy (g_code yX7_goesBy cX7_goesBy 2 none) 5 112 [.ref (mm_ad G 0)] S V (f7_goesBy S) V := by
  generalize hF : f7_goesBy S = tgt
  refine g_begin rfl (Nat.le_of_ble_eq_true rfl) _ (fun p e s m below meth c ls X hret hlk hB hl => ?_)
  obtain ⟨hP0, K⟩ := hB
  have hw : m_W G S V s s.heap [] := ⟨hP0, va_S.rf⟩
  have X : CallFix p m c cX7_goesBy 2 s ([.ref (mm_ad G 0)] : List Value).toArray tt_T "TrustTinModel" := X
  have hl : lv_has ls 2 [(0, .ref (mm_ad G 0))] := hl
  refine lv_iconst (v := (0 : Int32)) X.1 X.2.1 dX7_goesBy_0 (by decide) ?_
  refine lv_istore_n (lv' := [(1, .int (0 : Int32)), (0, .ref (mm_ad G 0))]) X.1 X.2.1 dX7_goesBy_1 rfl hl (by decide) rfl (fun ls hl => ?_)
  have j2 : ∀ (n : Nat) (S1 : tt_St) (y1_2 : Int32) (H : Heap) (locs : List Loc) (ls : Array Slot), ((¬ y1_2 < 0) ∧ (S1 1 0).toInt ≤ 10) → lp_mu (S1 1 0) y1_2 < n → f7_goesBy_L2 n S1 y1_2 = tgt → m_W G S1 V s H locs → lv_has ls 2 [(0, .ref (mm_ad G 0)), (1, .int y1_2)] → W p l e (g_rm 5 112) s m ([.ref (mm_ad G 0)] : List Value).toArray below meth c H locs 0 0 (MQ below (va_Qv (fun T => T = (tgt, V)) (g_Post G 10 (mm_ad G) (mm_cell G)) (g_in 10 (mm_ad G))) ([.ref (mm_ad G 0)] : List Value).toArray s 0 0 (g_in 10 (mm_ad G))) (F0 m 2 ls []) := by
    intro n
    induction n with
    | zero => intro S1 y1_2 H locs ls hI hm; exact absurd hm (Nat.not_lt_zero _)
    | succ n ih =>
      intro S1 y1_2 H locs ls hI hm hF hw hl
      refine lv_iload_n X.1 X.2.1 dX7_goesBy_2 rfl (lv_at hl 1 rfl) ?_
      refine lv_aload_n X.1 X.2.1 dX7_goesBy_3 rfl (lv_at hl 0 rfl) ?_
      refine m_get X K hw 0 (by decide) q836 rfl dX7_goesBy_4 ?_
      refine lv_iconst (v := (0 : Int32)) X.1 X.2.1 dX7_goesBy_7 (by decide) ?_
      have hi2 : vp_in (0 : Int32) 132 := by unfold vp_in; decide
      refine g_ialdL (j := 0) X K hw (by decide) mm_e1 hi2 rfl dX7_goesBy_8 ?_
      refine lv_icmp_ge (tgt := 23) X.1 X.2.1 dX7_goesBy_9 (by decide) (fun c3 => ?_) (fun c3 => ?_)
      · refine lv_aload_n X.1 X.2.1 dX7_goesBy_23 rfl (lv_at hl 0 rfl) ?_
        refine m_get X K hw 0 (by decide) q836 rfl dX7_goesBy_24 ?_
        refine lv_iconst (v := (3 : Int32)) X.1 X.2.1 dX7_goesBy_27 (by decide) ?_
        refine lv_aload_n X.1 X.2.1 dX7_goesBy_28 rfl (lv_at hl 0 rfl) ?_
        refine m_get X K hw 0 (by decide) q836 rfl dX7_goesBy_29 ?_
        refine lv_iconst (v := (2 : Int32)) X.1 X.2.1 dX7_goesBy_32 (by decide) ?_
        have hi4 : vp_in (2 : Int32) 132 := by unfold vp_in; decide
        refine g_ialdL (j := 2) X K hw (by decide) mm_e1 hi4 rfl dX7_goesBy_33 ?_
        refine lv_topi (fun x5 ex5 => ?_)
        have hi6 : vp_in (3 : Int32) 132 := by unfold vp_in; decide
        refine m_iastL (j := 3) X K hw (by decide) (by decide) (fun _ => mm_e1) hi6 rfl dX7_goesBy_34 (fun S7 H locs eS7 hw => ?_)
        refine lv_aload_n X.1 X.2.1 dX7_goesBy_35 rfl (lv_at hl 0 rfl) ?_
        refine m_get X K hw 0 (by decide) q836 rfl dX7_goesBy_36 ?_
        refine lv_bipush (v := (7 : Int32)) X.1 X.2.1 dX7_goesBy_39 (by decide) ?_
        have hi8 : vp_in (7 : Int32) 132 := by unfold vp_in; decide
        refine g_ialdL (j := 7) X K hw (by decide) mm_e1 hi8 rfl dX7_goesBy_41 ?_
        refine lv_iconst (v := (5 : Int32)) X.1 X.2.1 dX7_goesBy_42 (by decide) ?_
        refine lv_irem X.1 X.2.1 dX7_goesBy_43 (by decide) ?_
        refine lv_iconst (v := (4 : Int32)) X.1 X.2.1 dX7_goesBy_44 (by decide) ?_
        refine lv_icmp_ne (tgt := 52) X.1 X.2.1 dX7_goesBy_45 (by decide) (fun c9 => ?_) (fun c9 => ?_)
        · refine lv_aload_n X.1 X.2.1 dX7_goesBy_52 rfl (lv_at hl 0 rfl) ?_
          refine m_get X K hw 0 (by decide) q836 rfl dX7_goesBy_53 ?_
          refine lv_bipush (v := (7 : Int32)) X.1 X.2.1 dX7_goesBy_56 (by decide) ?_
          refine lv_dup2_11 X.1 X.2.1 dX7_goesBy_58 rfl rfl ?_
          have hi10 : vp_in (7 : Int32) 132 := by unfold vp_in; decide
          refine g_ialdL (j := 7) X K hw (by decide) mm_e1 hi10 rfl dX7_goesBy_59 ?_
          refine lv_iconst (v := (1 : Int32)) X.1 X.2.1 dX7_goesBy_60 (by decide) ?_
          refine lv_iadd X.1 X.2.1 dX7_goesBy_61 ?_
          refine lv_topi (fun x11 ex11 => ?_)
          have hi12 : vp_in (7 : Int32) 132 := by unfold vp_in; decide
          refine m_iastL (j := 7) X K hw (by decide) (by decide) (fun _ => mm_e1) hi12 rfl dX7_goesBy_62 (fun S13 H locs eS13 hw => ?_)
          have hR : S13 = tgt := by
            rw [← hF]
            subst ex5 eS7 ex11 eS13
            simp only [f7_goesBy_L2, if_pos c3, if_neg c9]
          exact g_vret X hret hlk hw (congrArg (fun z => (z, V)) hR) dX7_goesBy_63
        · refine lv_aload_n X.1 X.2.1 dX7_goesBy_48 rfl (lv_at hl 0 rfl) ?_
          refine m_callVV_s X K hw (k_X7_settles l G S7 V (by rw [show S7 1 0 = S1 1 0 from by subst ex5 eS7; exact (fm_up _ _ (ma_c (by omega))).sz]; exact hI.2)) (g_cwV X hiX7_settles q1014 q1016 q44 q74 q1017 ⟨(Nat.le_of_ble_eq_true rfl), (Nat.le_of_ble_eq_true rfl)⟩) rfl hl.1 rfl (Nat.le_of_ble_eq_true rfl) dX7_goesBy_49 ⟨(Nat.le_of_ble_eq_true rfl), (Nat.le_of_ble_eq_true rfl)⟩ (fun S14 H locs eS14 hw => ?_)
          refine lv_aload_n X.1 X.2.1 dX7_goesBy_52 rfl (lv_at hl 0 rfl) ?_
          refine m_get X K hw 0 (by decide) q836 rfl dX7_goesBy_53 ?_
          refine lv_bipush (v := (7 : Int32)) X.1 X.2.1 dX7_goesBy_56 (by decide) ?_
          refine lv_dup2_11 X.1 X.2.1 dX7_goesBy_58 rfl rfl ?_
          have hi15 : vp_in (7 : Int32) 132 := by unfold vp_in; decide
          refine g_ialdL (j := 7) X K hw (by decide) mm_e1 hi15 rfl dX7_goesBy_59 ?_
          refine lv_iconst (v := (1 : Int32)) X.1 X.2.1 dX7_goesBy_60 (by decide) ?_
          refine lv_iadd X.1 X.2.1 dX7_goesBy_61 ?_
          refine lv_topi (fun x16 ex16 => ?_)
          have hi17 : vp_in (7 : Int32) 132 := by unfold vp_in; decide
          refine m_iastL (j := 7) X K hw (by decide) (by decide) (fun _ => mm_e1) hi17 rfl dX7_goesBy_62 (fun S18 H locs eS18 hw => ?_)
          have hR : S18 = tgt := by
            rw [← hF]
            subst ex5 eS7 eS14 ex16 eS18
            simp only [f7_goesBy_L2, if_pos c3, if_pos c9]
          exact g_vret X hret hlk hw (congrArg (fun z => (z, V)) hR) dX7_goesBy_63
      · refine lv_aload_n X.1 X.2.1 dX7_goesBy_12 rfl (lv_at hl 0 rfl) ?_
        refine lv_iload_n X.1 X.2.1 dX7_goesBy_13 rfl (lv_at hl 1 rfl) ?_
        refine m_callVV_s X K hw (k_X7_drinks l G S1 V y1_2 (lp_in hI.1 c3 hI.2)) (g_cwV X hiX7_drinks q989 q991 q38 q74 q992 ⟨(Nat.le_of_ble_eq_true rfl), (Nat.le_of_ble_eq_true rfl)⟩) rfl hl.1 rfl (Nat.le_of_ble_eq_true rfl) dX7_goesBy_14 ⟨(Nat.le_of_ble_eq_true rfl), (Nat.le_of_ble_eq_true rfl)⟩ (fun S19 H locs eS19 hw => ?_)
        obtain ⟨x20, ex20⟩ : ∃ y : Int32, y = y1_2 + (1 : Int32) := ⟨_, rfl⟩
        refine lv_iinc (v := x20) (lv' := [(1, .int x20), (0, .ref (mm_ad G 0))]) X.1 X.2.1 dX7_goesBy_17 hl (k := 1) rfl (by rw [ex20]; rfl) (by decide) rfl (fun ls hl => ?_)
        refine lv_goto (tgt := 2) X.1 X.2.1 dX7_goesBy_20 (by decide) ?_
        have hF2 : f7_goesBy_L2 n S19 x20 = tgt := by
          rw [← hF]
          subst eS19 ex20
          simp only [f7_goesBy_L2, if_neg c3]
        exact ih S19 x20 _ _ ls (⟨by rw [ex20]; exact lp_nn hI.1 c3, by rw [show S19 1 0 = S1 1 0 from by subst eS19 ex20; exact (fm_drinks _ (lp_in hI.1 c3 hI.2)).sz]; exact hI.2⟩) (by rw [ex20, show S19 1 0 = S1 1 0 from by subst eS19 ex20; exact (fm_drinks _ (lp_in hI.1 c3 hI.2)).sz]; exact lp_dec' c3 hm) hF2 hw (lv_sub hl [1, 0] rfl)
  have hF2 : f7_goesBy_L2 (lp_mu (S 1 0) 0 + 1) S (0 : Int32) = tgt := by
    rw [← hF]
    simp only [f7_goesBy]
  exact j2 (lp_mu (S 1 0) 0 + 1) S (0 : Int32) _ _ ls (⟨by decide, hp0⟩) (Nat.lt_succ_self _) hF2 hw (lv_sub hl [1, 0] rfl)
set_option maxHeartbeats 4000000 in
set_option maxRecDepth 10000 in
theorem k_X7_goesOn (l : Launch) (G : tt_G) (S : tt_St) (V : Int64) (a1 : Int32) (hp0 : (S 1 0).toInt ≤ 10) : m_MI l G yX7_goesOn (g_code yX7_goesOn cX7_goesOn 3 (some FieldType.int)) 6 133 [.ref (mm_ad G 0), .int a1] S V ((f7_goesOn S a1).1) ((f7_goesOn S a1).2) V := by
  generalize hF : f7_goesOn S a1 = tgt
  refine g_begin rfl (Nat.le_of_ble_eq_true rfl) _ (fun p e s m below meth c ls X hret hlk hB hl => ?_)
  obtain ⟨hP0, K⟩ := hB
  have hw : m_W G S V s s.heap [] := ⟨hP0, va_S.rf⟩
  have X : CallFix p m c cX7_goesOn 3 s ([.ref (mm_ad G 0), .int a1] : List Value).toArray tt_T "TrustTinModel" := X
  have hl : lv_has ls 3 [(0, .ref (mm_ad G 0)), (1, .int a1)] := hl
  refine lv_aload_n X.1 X.2.1 dX7_goesOn_0 rfl (lv_at hl 0 rfl) ?_
  refine lv_iconst (v := (0 : Int32)) X.1 X.2.1 dX7_goesOn_1 (by decide) ?_
  refine m_put X K hw 7 (by decide) q843 rfl rfl rfl dX7_goesOn_2 (fun S1 H locs eS1 hw => ?_)
  refine lv_aload_n X.1 X.2.1 dX7_goesOn_5 rfl (lv_at hl 0 rfl) ?_
  refine lv_iconst (v := (0 : Int32)) X.1 X.2.1 dX7_goesOn_6 (by decide) ?_
  refine m_put X K hw 8 (by decide) q844 rfl rfl rfl dX7_goesOn_7 (fun S2 H locs eS2 hw => ?_)
  refine lv_iconst (v := (0 : Int32)) X.1 X.2.1 dX7_goesOn_10 (by decide) ?_
  refine lv_istore_n (lv' := [(2, .int (0 : Int32)), (0, .ref (mm_ad G 0)), (1, .int a1)]) X.1 X.2.1 dX7_goesOn_11 rfl hl (by decide) rfl (fun ls hl => ?_)
  have j12 : ∀ (n : Nat) (S3 : tt_St) (y2_12 : Int32) (H : Heap) (locs : List Loc) (ls : Array Slot), ((¬ y2_12 < 0) ∧ (S3 1 0).toInt ≤ 10) → lp_mu a1 y2_12 < n → f7_goesOn_L12 a1 n S3 y2_12 = tgt → m_W G S3 V s H locs → lv_has ls 3 [(0, .ref (mm_ad G 0)), (1, .int a1), (2, .int y2_12)] → W p l e (g_rm 6 133) s m ([.ref (mm_ad G 0), .int a1] : List Value).toArray below meth c H locs 0 0 (MQ below (va_Qi (fun r T => r = tgt.1 ∧ T = (tgt.2, V)) (g_Post G 10 (mm_ad G) (mm_cell G)) (g_in 10 (mm_ad G))) ([.ref (mm_ad G 0), .int a1] : List Value).toArray s 0 0 (g_in 10 (mm_ad G))) (F0 m 12 ls []) := by
    intro n
    induction n with
    | zero => intro S3 y2_12 H locs ls hI hm; exact absurd hm (Nat.not_lt_zero _)
    | succ n ih =>
      intro S3 y2_12 H locs ls hI hm hF hw hl
      refine lv_iload_n X.1 X.2.1 dX7_goesOn_12 rfl (lv_at hl 2 rfl) ?_
      refine lv_iload_n X.1 X.2.1 dX7_goesOn_13 rfl (lv_at hl 1 rfl) ?_
      refine lv_icmp_ge (tgt := 27) X.1 X.2.1 dX7_goesOn_14 (by decide) (fun c4 => ?_) (fun c4 => ?_)
      · refine lv_aload_n X.1 X.2.1 dX7_goesOn_27 rfl (lv_at hl 0 rfl) ?_
        refine m_get X K hw 7 (by decide) q843 rfl dX7_goesOn_28 ?_
        have hR : (S3 0 7, S3) = tgt := by
          rw [← hF]
          simp only [f7_goesOn_L12, if_pos c4]
        have hRR : S3 0 7 = tgt.1 := pr1 hR
        have hRS : S3 = tgt.2 := pr2 hR
        exact g_iret X hret hlk hw hRR (congrArg (fun z => (z, V)) hRS) dX7_goesOn_31
      · refine lv_aload_n X.1 X.2.1 dX7_goesOn_17 rfl (lv_at hl 0 rfl) ?_
        refine m_callVV_s X K hw (k_X7_goesBy l G S3 V (hI.2)) (g_cwV X hiX7_goesBy q985 q987 q37 q74 q988 ⟨(Nat.le_of_ble_eq_true rfl), (Nat.le_of_ble_eq_true rfl)⟩) rfl hl.1 rfl (Nat.le_of_ble_eq_true rfl) dX7_goesOn_18 ⟨(Nat.le_of_ble_eq_true rfl), (Nat.le_of_ble_eq_true rfl)⟩ (fun S5 H locs eS5 hw => ?_)
        obtain ⟨x6, ex6⟩ : ∃ y : Int32, y = y2_12 + (1 : Int32) := ⟨_, rfl⟩
        refine lv_iinc (v := x6) (lv' := [(2, .int x6), (0, .ref (mm_ad G 0)), (1, .int a1)]) X.1 X.2.1 dX7_goesOn_21 hl (k := 2) rfl (by rw [ex6]; rfl) (by decide) rfl (fun ls hl => ?_)
        refine lv_goto (tgt := 12) X.1 X.2.1 dX7_goesOn_24 (by decide) ?_
        have hF2 : f7_goesOn_L12 a1 n S5 x6 = tgt := by
          rw [← hF]
          subst eS5 ex6
          simp only [f7_goesOn_L12, if_neg c4]
        exact ih S5 x6 _ _ ls (⟨by rw [ex6]; exact lp_nn hI.1 c4, by rw [show S5 1 0 = S3 1 0 from by subst eS5 ex6; exact (fm_goesBy hI.2).sz]; exact hI.2⟩) (by rw [ex6]; exact lp_dec' c4 hm) hF2 hw (lv_sub hl [1, 2, 0] rfl)
  have hF2 : f7_goesOn_L12 a1 (lp_mu a1 0 + 1) S2 (0 : Int32) = tgt := by
    rw [← hF]
    subst eS1 eS2
    simp only [f7_goesOn]
  exact j12 (lp_mu a1 0 + 1) S2 (0 : Int32) _ _ ls (⟨by decide, by rw [show S2 1 0 = S 1 0 from by subst eS1 eS2; exact (fm_tr (fm_u0 _ _ (by omega)) (fm_u0 _ _ (by omega))).sz]; exact hp0⟩) (Nat.lt_succ_self _) hF2 hw (lv_sub hl [1, 2, 0] rfl)
set_option maxHeartbeats 4000000 in
set_option maxRecDepth 10000 in
theorem k_X7_isFar (l : Launch) (G : tt_G) (S : tt_St) (V : Int64) (a1 : Int32) : m_MI l G yX7_isFar (g_code yX7_isFar cX7_isFar 2 (some FieldType.boolean)) 0 0 [.ref (mm_ad G 0), .int a1] S V (f7_isFar S a1) S V := by
  generalize hF : f7_isFar S a1 = tgt
  refine g_begin rfl (Nat.le_of_ble_eq_true rfl) _ (fun p e s m below meth c ls X hret hlk hB hl => ?_)
  obtain ⟨hP0, K⟩ := hB
  have hw : m_W G S V s s.heap [] := ⟨hP0, va_S.rf⟩
  have X : CallFix p m c cX7_isFar 2 s ([.ref (mm_ad G 0), .int a1] : List Value).toArray tt_T "TrustTinModel" := X
  have hl : lv_has ls 2 [(0, .ref (mm_ad G 0)), (1, .int a1)] := hl
  refine lv_aload_n X.1 X.2.1 dX7_isFar_0 rfl (lv_at hl 0 rfl) ?_
  refine m_get X K hw 0 (by decide) q836 rfl dX7_isFar_1 ?_
  refine lv_bipush (v := (7 : Int32)) X.1 X.2.1 dX7_isFar_4 (by decide) ?_
  have hi1 : vp_in (7 : Int32) 132 := by unfold vp_in; decide
  refine g_ialdL (j := 7) X K hw (by decide) mm_e1 hi1 rfl dX7_isFar_6 ?_
  refine lv_iload_n X.1 X.2.1 dX7_isFar_7 rfl (lv_at hl 1 rfl) ?_
  refine lv_iadd X.1 X.2.1 dX7_isFar_8 ?_
  refine lv_sipush (v := (9999 : Int32)) X.1 X.2.1 dX7_isFar_9 (by decide) ?_
  refine lv_icmp_le (tgt := 19) X.1 X.2.1 dX7_isFar_12 (by decide) (fun c2 => ?_) (fun c2 => ?_)
  · refine lv_iconst (v := (0 : Int32)) X.1 X.2.1 dX7_isFar_19 (by decide) ?_
    have hR : (0 : Int32) = tgt := by
      rw [← hF]
      simp only [f7_isFar, if_pos c2]
    exact g_zret X hret hlk hw rfl hR rfl dX7_isFar_20
  · refine lv_iconst (v := (1 : Int32)) X.1 X.2.1 dX7_isFar_15 (by decide) ?_
    refine lv_goto (tgt := 20) X.1 X.2.1 dX7_isFar_16 (by decide) ?_
    have hR : (1 : Int32) = tgt := by
      rw [← hF]
      simp only [f7_isFar, if_neg c2]
    exact g_zret X hret hlk hw rfl hR rfl dX7_isFar_20
set_option maxHeartbeats 4000000 in
set_option maxRecDepth 10000 in
theorem k_X7_common (l : Launch) (G : tt_G) (S : tt_St) (V : Int64) (a0 : Int32) (a1 : Int32) (hp0 : ¬ a0 < 0) (hp1 : ¬ a1 < 0) : m_MI l G yX7_common (g_code yX7_common cX7_common 5 (some FieldType.int)) 0 0 [.int a0, .int a1] S V (f7_common a0 a1) S V := by
  generalize hF : f7_common a0 a1 = tgt
  refine g_begin rfl (Nat.le_of_ble_eq_true rfl) _ (fun p e s m below meth c ls X hret hlk hB hl => ?_)
  obtain ⟨hP0, K⟩ := hB
  have hw : m_W G S V s s.heap [] := ⟨hP0, va_S.rf⟩
  have X : CallFix p m c cX7_common 5 s ([.int a0, .int a1] : List Value).toArray tt_T "TrustTinModel" := X
  have hl : lv_has ls 5 [(0, .int a0), (1, .int a1)] := hl
  refine lv_iload_n X.1 X.2.1 dX7_common_0 rfl (lv_at hl 0 rfl) ?_
  refine lv_istore_n (lv' := [(2, .int a0), (0, .int a0), (1, .int a1)]) X.1 X.2.1 dX7_common_1 rfl hl (by decide) rfl (fun ls hl => ?_)
  refine lv_iload_n X.1 X.2.1 dX7_common_2 rfl (lv_at hl 2 rfl) ?_
  refine lv_istore_n (lv' := [(3, .int a1), (2, .int a0), (0, .int a0), (1, .int a1)]) X.1 X.2.1 dX7_common_3 rfl hl (by decide) rfl (fun ls hl => ?_)
  have j4 : ∀ (n : Nat) (y2_4 : Int32) (y3_4 : Int32) (H : Heap) (locs : List Loc) (ls : Array Slot), ((¬ y2_4 < 0) ∧ ¬ y3_4 < 0) → y3_4.toNatClampNeg < n → f7_common_L4 a0 a1 n y2_4 y3_4 = tgt → m_W G S V s H locs → lv_has ls 5 [(2, .int y2_4), (3, .int y3_4)] → W p l e (g_rm 0 0) s m ([.int a0, .int a1] : List Value).toArray below meth c H locs 0 0 (MQ below (va_Qi (fun r T => r = tgt ∧ T = (S, V)) (g_Post G 10 (mm_ad G) (mm_cell G)) (g_in 10 (mm_ad G))) ([.int a0, .int a1] : List Value).toArray s 0 0 (g_in 10 (mm_ad G))) (F0 m 4 ls []) := by
    intro n
    induction n with
    | zero => intro y2_4 y3_4 H locs ls hI hm; exact absurd hm (Nat.not_lt_zero _)
    | succ n ih =>
      intro y2_4 y3_4 H locs ls hI hm hF hw hl
      refine lv_iload_n X.1 X.2.1 dX7_common_4 rfl (lv_at hl 1 rfl) ?_
      refine lv_if_eq (tgt := 21) X.1 X.2.1 dX7_common_5 (by decide) (fun c1 => ?_) (fun c1 => ?_)
      · refine lv_iload_n X.1 X.2.1 dX7_common_21 rfl (lv_at hl 0 rfl) ?_
        have hR : y2_4 = tgt := by
          rw [← hF]
          simp only [f7_common_L4, if_pos c1]
        exact g_iret X hret hlk hw hR rfl dX7_common_22
      · refine lv_iload_n X.1 X.2.1 dX7_common_8 rfl (lv_at hl 0 rfl) ?_
        refine lv_iload_n X.1 X.2.1 dX7_common_9 rfl (lv_at hl 1 rfl) ?_
        refine lv_irem X.1 X.2.1 dX7_common_10 (c1) ?_
        refine lv_topi (fun x2 ex2 => ?_)
        refine lv_istore (lv' := [(4, .int x2), (2, .int y2_4), (3, .int y3_4)]) X.1 X.2.1 dX7_common_11 hl (by decide) rfl (fun ls hl => ?_)
        refine lv_iload_n X.1 X.2.1 dX7_common_13 rfl (lv_at hl 2 rfl) ?_
        refine lv_istore_n (lv' := [(2, .int y3_4), (4, .int x2), (3, .int y3_4)]) X.1 X.2.1 dX7_common_14 rfl hl (by decide) rfl (fun ls hl => ?_)
        refine lv_iload X.1 X.2.1 dX7_common_15 (lv_at hl 1 rfl) ?_
        refine lv_istore_n (lv' := [(3, .int x2), (2, .int y3_4), (4, .int x2)]) X.1 X.2.1 dX7_common_17 rfl hl (by decide) rfl (fun ls hl => ?_)
        refine lv_goto (tgt := 4) X.1 X.2.1 dX7_common_18 (by decide) ?_
        have hF2 : f7_common_L4 a0 a1 n y3_4 x2 = tgt := by
          rw [← hF]
          subst ex2
          simp only [f7_common_L4, if_neg c1]
        exact ih y3_4 x2 _ _ ls (⟨hI.2, by rw [ex2]; exact gc_nn hI.1 hI.2 c1⟩) (by rw [ex2]; exact gc_mu hI.1 hI.2 c1 hm) hF2 hw (lv_sub hl [1, 0] rfl)
  have hF2 : f7_common_L4 a0 a1 (a1.toNatClampNeg + 1) a0 a1 = tgt := by
    rw [← hF]
    simp only [f7_common]
  exact j4 (a1.toNatClampNeg + 1) a0 a1 _ _ ls (⟨hp0, hp1⟩) (Nat.lt_succ_self _) hF2 hw (lv_sub hl [1, 0] rfl)
set_option maxHeartbeats 4000000 in
set_option maxRecDepth 10000 in
theorem k_X7_isSum (l : Launch) (G : tt_G) (S : tt_St) (V : Int64) (a1 : Int32) (a2 : Int32) (hp0 : (S 1 0).toInt ≤ 10) : m_MI l G yX7_isSum (g_code yX7_isSum cX7_isSum 5 (some FieldType.boolean)) 1 22 [.ref (mm_ad G 0), .int a1, .int a2] S V (f7_isSum S a1 a2) S V := by
  generalize hF : f7_isSum S a1 a2 = tgt
  refine g_begin rfl (Nat.le_of_ble_eq_true rfl) _ (fun p e s m below meth c ls X hret hlk hB hl => ?_)
  obtain ⟨hP0, K⟩ := hB
  have hw : m_W G S V s s.heap [] := ⟨hP0, va_S.rf⟩
  have X : CallFix p m c cX7_isSum 5 s ([.ref (mm_ad G 0), .int a1, .int a2] : List Value).toArray tt_T "TrustTinModel" := X
  have hl : lv_has ls 5 [(0, .ref (mm_ad G 0)), (1, .int a1), (2, .int a2)] := hl
  refine lv_iconst (v := (0 : Int32)) X.1 X.2.1 dX7_isSum_0 (by decide) ?_
  refine lv_istore_n (lv' := [(3, .int (0 : Int32)), (0, .ref (mm_ad G 0)), (1, .int a1), (2, .int a2)]) X.1 X.2.1 dX7_isSum_1 rfl hl (by decide) rfl (fun ls hl => ?_)
  refine lv_iconst (v := (0 : Int32)) X.1 X.2.1 dX7_isSum_2 (by decide) ?_
  refine lv_istore (lv' := [(4, .int (0 : Int32)), (3, .int (0 : Int32)), (0, .ref (mm_ad G 0)), (1, .int a1), (2, .int a2)]) X.1 X.2.1 dX7_isSum_3 hl (by decide) rfl (fun ls hl => ?_)
  have j5 : ∀ (n : Nat) (y3_5 : Int32) (y4_5 : Int32) (H : Heap) (locs : List Loc) (ls : Array Slot), (¬ y4_5 < 0) → lp_mu (S 1 0) y4_5 < n → f7_isSum_L5 S a1 a2 n y3_5 y4_5 = tgt → m_W G S V s H locs → lv_has ls 5 [(0, .ref (mm_ad G 0)), (1, .int a1), (2, .int a2), (3, .int y3_5), (4, .int y4_5)] → W p l e (g_rm 1 22) s m ([.ref (mm_ad G 0), .int a1, .int a2] : List Value).toArray below meth c H locs 0 0 (MQ below (va_Qi (fun r T => r = tgt ∧ T = (S, V)) (g_Post G 10 (mm_ad G) (mm_cell G)) (g_in 10 (mm_ad G))) ([.ref (mm_ad G 0), .int a1, .int a2] : List Value).toArray s 0 0 (g_in 10 (mm_ad G))) (F0 m 5 ls []) := by
    intro n
    induction n with
    | zero => intro y3_5 y4_5 H locs ls hI hm; exact absurd hm (Nat.not_lt_zero _)
    | succ n ih =>
      intro y3_5 y4_5 H locs ls hI hm hF hw hl
      refine lv_iload X.1 X.2.1 dX7_isSum_5 (lv_at hl 4 rfl) ?_
      refine lv_aload_n X.1 X.2.1 dX7_isSum_7 rfl (lv_at hl 0 rfl) ?_
      refine m_get X K hw 0 (by decide) q836 rfl dX7_isSum_8 ?_
      refine lv_iconst (v := (0 : Int32)) X.1 X.2.1 dX7_isSum_11 (by decide) ?_
      have hi1 : vp_in (0 : Int32) 132 := by unfold vp_in; decide
      refine g_ialdL (j := 0) X K hw (by decide) mm_e1 hi1 rfl dX7_isSum_12 ?_
      refine lv_icmp_ge (tgt := 39) X.1 X.2.1 dX7_isSum_13 (by decide) (fun c2 => ?_) (fun c2 => ?_)
      · refine lv_iload_n X.1 X.2.1 dX7_isSum_39 rfl (lv_at hl 3 rfl) ?_
        refine lv_aload_n X.1 X.2.1 dX7_isSum_40 rfl (lv_at hl 0 rfl) ?_
        refine m_get X K hw 0 (by decide) q836 rfl dX7_isSum_41 ?_
        refine lv_iconst (v := (1 : Int32)) X.1 X.2.1 dX7_isSum_44 (by decide) ?_
        have hi3 : vp_in (1 : Int32) 132 := by unfold vp_in; decide
        refine g_ialdL (j := 1) X K hw (by decide) mm_e1 hi3 rfl dX7_isSum_45 ?_
        refine lv_imul X.1 X.2.1 dX7_isSum_46 ?_
        refine lv_iload_n X.1 X.2.1 dX7_isSum_47 rfl (lv_at hl 2 rfl) ?_
        refine lv_icmp_ne (tgt := 55) X.1 X.2.1 dX7_isSum_48 (by decide) (fun c4 => ?_) (fun c4 => ?_)
        · refine lv_iconst (v := (0 : Int32)) X.1 X.2.1 dX7_isSum_55 (by decide) ?_
          have hR : (0 : Int32) = tgt := by
            rw [← hF]
            simp only [f7_isSum_L5, if_pos c2, if_neg c4]
          exact g_zret X hret hlk hw rfl hR rfl dX7_isSum_56
        · refine lv_iconst (v := (1 : Int32)) X.1 X.2.1 dX7_isSum_51 (by decide) ?_
          refine lv_goto (tgt := 56) X.1 X.2.1 dX7_isSum_52 (by decide) ?_
          have hR : (1 : Int32) = tgt := by
            rw [← hF]
            simp only [f7_isSum_L5, if_pos c2, if_pos c4]
          exact g_zret X hret hlk hw rfl hR rfl dX7_isSum_56
      · refine lv_iload_n X.1 X.2.1 dX7_isSum_16 rfl (lv_at hl 3 rfl) ?_
        refine lv_iload_n X.1 X.2.1 dX7_isSum_17 rfl (lv_at hl 1 rfl) ?_
        refine lv_iload X.1 X.2.1 dX7_isSum_18 (lv_at hl 4 rfl) ?_
        refine lv_ishr X.1 X.2.1 dX7_isSum_20 ?_
        refine lv_iconst (v := (1 : Int32)) X.1 X.2.1 dX7_isSum_21 (by decide) ?_
        refine lv_iand X.1 X.2.1 dX7_isSum_22 ?_
        refine lv_aload_n X.1 X.2.1 dX7_isSum_23 rfl (lv_at hl 0 rfl) ?_
        refine lv_iload X.1 X.2.1 dX7_isSum_24 (lv_at hl 4 rfl) ?_
        refine lv_iconst (v := (5 : Int32)) X.1 X.2.1 dX7_isSum_26 (by decide) ?_
        refine m_callVI_p X K hw (k_X7_its l G S V y4_5 (5 : Int32) (lp_in hI c2 hp0) (by unfold vp_in; decide)) (g_cwV X hiX7_its q933 q935 q33 q74 q936 ⟨(Nat.le_of_ble_eq_true rfl), (Nat.le_of_ble_eq_true rfl)⟩) rfl hl.1 rfl (Nat.le_of_ble_eq_true rfl) dX7_isSum_27 ⟨(Nat.le_of_ble_eq_true rfl), (Nat.le_of_ble_eq_true rfl)⟩ (fun z5 H locs ez5 hw => ?_)
        refine lv_imul X.1 X.2.1 dX7_isSum_30 ?_
        refine lv_iadd X.1 X.2.1 dX7_isSum_31 ?_
        refine lv_topi (fun x6 ex6 => ?_)
        refine lv_istore_n (lv' := [(3, .int x6), (0, .ref (mm_ad G 0)), (1, .int a1), (2, .int a2), (4, .int y4_5)]) X.1 X.2.1 dX7_isSum_32 rfl hl (by decide) rfl (fun ls hl => ?_)
        obtain ⟨x7, ex7⟩ : ∃ y : Int32, y = y4_5 + (1 : Int32) := ⟨_, rfl⟩
        refine lv_iinc (v := x7) (lv' := [(4, .int x7), (3, .int x6), (0, .ref (mm_ad G 0)), (1, .int a1), (2, .int a2)]) X.1 X.2.1 dX7_isSum_33 hl (k := 4) rfl (by rw [ex7]; rfl) (by decide) rfl (fun ls hl => ?_)
        refine lv_goto (tgt := 5) X.1 X.2.1 dX7_isSum_36 (by decide) ?_
        have hF2 : f7_isSum_L5 S a1 a2 n x6 x7 = tgt := by
          rw [← hF]
          subst ez5 ex6 ex7
          simp only [f7_isSum_L5, if_neg c2]
        exact ih x6 x7 _ _ ls (by rw [ex7]; exact lp_nn hI c2) (by rw [ex7]; exact lp_dec' c2 hm) hF2 hw (lv_sub hl [2, 3, 4, 1, 0] rfl)
  have hF2 : f7_isSum_L5 S a1 a2 (lp_mu (S 1 0) 0 + 1) (0 : Int32) (0 : Int32) = tgt := by
    rw [← hF]
    simp only [f7_isSum]
  exact j5 (lp_mu (S 1 0) 0 + 1) (0 : Int32) (0 : Int32) _ _ ls (by decide) (Nat.lt_succ_self _) hF2 hw (lv_sub hl [2, 3, 4, 1, 0] rfl)
set_option maxHeartbeats 4000000 in
set_option maxRecDepth 10000 in
theorem k_X7_ones (l : Launch) (G : tt_G) (S : tt_St) (V : Int64) (a0 : Int32) : m_MI l G yX7_ones (g_code yX7_ones cX7_ones 3 (some FieldType.int)) 0 0 [.int a0] S V (f7_ones a0) S V := by
  generalize hF : f7_ones a0 = tgt
  refine g_begin rfl (Nat.le_of_ble_eq_true rfl) _ (fun p e s m below meth c ls X hret hlk hB hl => ?_)
  obtain ⟨hP0, K⟩ := hB
  have hw : m_W G S V s s.heap [] := ⟨hP0, va_S.rf⟩
  have X : CallFix p m c cX7_ones 3 s ([.int a0] : List Value).toArray tt_T "TrustTinModel" := X
  have hl : lv_has ls 3 [(0, .int a0)] := hl
  refine lv_iconst (v := (0 : Int32)) X.1 X.2.1 dX7_ones_0 (by decide) ?_
  refine lv_istore_n (lv' := [(1, .int (0 : Int32)), (0, .int a0)]) X.1 X.2.1 dX7_ones_1 rfl hl (by decide) rfl (fun ls hl => ?_)
  refine lv_iconst (v := (0 : Int32)) X.1 X.2.1 dX7_ones_2 (by decide) ?_
  refine lv_istore_n (lv' := [(2, .int (0 : Int32)), (1, .int (0 : Int32)), (0, .int a0)]) X.1 X.2.1 dX7_ones_3 rfl hl (by decide) rfl (fun ls hl => ?_)
  have j4 : ∀ (n : Nat) (y1_4 : Int32) (y2_4 : Int32) (H : Heap) (locs : List Loc) (ls : Array Slot), (¬ y2_4 < 0) → lp_mu (12 : Int32) y2_4 < n → f7_ones_L4 a0 n y1_4 y2_4 = tgt → m_W G S V s H locs → lv_has ls 3 [(0, .int a0), (1, .int y1_4), (2, .int y2_4)] → W p l e (g_rm 0 0) s m ([.int a0] : List Value).toArray below meth c H locs 0 0 (MQ below (va_Qi (fun r T => r = tgt ∧ T = (S, V)) (g_Post G 10 (mm_ad G) (mm_cell G)) (g_in 10 (mm_ad G))) ([.int a0] : List Value).toArray s 0 0 (g_in 10 (mm_ad G))) (F0 m 4 ls []) := by
    intro n
    induction n with
    | zero => intro y1_4 y2_4 H locs ls hI hm; exact absurd hm (Nat.not_lt_zero _)
    | succ n ih =>
      intro y1_4 y2_4 H locs ls hI hm hF hw hl
      refine lv_iload_n X.1 X.2.1 dX7_ones_4 rfl (lv_at hl 2 rfl) ?_
      refine lv_bipush (v := (12 : Int32)) X.1 X.2.1 dX7_ones_5 (by decide) ?_
      refine lv_icmp_ge (tgt := 24) X.1 X.2.1 dX7_ones_7 (by decide) (fun c1 => ?_) (fun c1 => ?_)
      · refine lv_iload_n X.1 X.2.1 dX7_ones_24 rfl (lv_at hl 1 rfl) ?_
        have hR : y1_4 = tgt := by
          rw [← hF]
          simp only [f7_ones_L4, if_pos c1]
        exact g_iret X hret hlk hw hR rfl dX7_ones_25
      · refine lv_iload_n X.1 X.2.1 dX7_ones_10 rfl (lv_at hl 1 rfl) ?_
        refine lv_iload_n X.1 X.2.1 dX7_ones_11 rfl (lv_at hl 0 rfl) ?_
        refine lv_iload_n X.1 X.2.1 dX7_ones_12 rfl (lv_at hl 2 rfl) ?_
        refine lv_ishr X.1 X.2.1 dX7_ones_13 ?_
        refine lv_iconst (v := (1 : Int32)) X.1 X.2.1 dX7_ones_14 (by decide) ?_
        refine lv_iand X.1 X.2.1 dX7_ones_15 ?_
        refine lv_iadd X.1 X.2.1 dX7_ones_16 ?_
        refine lv_topi (fun x2 ex2 => ?_)
        refine lv_istore_n (lv' := [(1, .int x2), (0, .int a0), (2, .int y2_4)]) X.1 X.2.1 dX7_ones_17 rfl hl (by decide) rfl (fun ls hl => ?_)
        obtain ⟨x3, ex3⟩ : ∃ y : Int32, y = y2_4 + (1 : Int32) := ⟨_, rfl⟩
        refine lv_iinc (v := x3) (lv' := [(2, .int x3), (1, .int x2), (0, .int a0)]) X.1 X.2.1 dX7_ones_18 hl (k := 2) rfl (by rw [ex3]; rfl) (by decide) rfl (fun ls hl => ?_)
        refine lv_goto (tgt := 4) X.1 X.2.1 dX7_ones_21 (by decide) ?_
        have hF2 : f7_ones_L4 a0 n x2 x3 = tgt := by
          rw [← hF]
          subst ex2 ex3
          simp only [f7_ones_L4, if_neg c1]
        exact ih x2 x3 _ _ ls (by rw [ex3]; exact lp_nn hI c1) (by rw [ex3]; exact lp_dec' c1 hm) hF2 hw (lv_sub hl [2, 1, 0] rfl)
  have hF2 : f7_ones_L4 a0 (lp_mu (12 : Int32) 0 + 1) (0 : Int32) (0 : Int32) = tgt := by
    rw [← hF]
    simp only [f7_ones]
  exact j4 (lp_mu (12 : Int32) 0 + 1) (0 : Int32) (0 : Int32) _ _ ls (by decide) (Nat.lt_succ_self _) hF2 hw (lv_sub hl [2, 1, 0] rfl)
set_option maxHeartbeats 4000000 in
set_option maxRecDepth 10000 in
theorem k_X7_begins (l : Launch) (G : tt_G) (S : tt_St) (V : Int64) : m_MV l G yX7_begins (g_code yX7_begins cX7_begins 1 none) 1 22 [.ref (mm_ad G 0)] S V (f7_begins S) V := by
  generalize hF : f7_begins S = tgt
  refine g_begin rfl (Nat.le_of_ble_eq_true rfl) _ (fun p e s m below meth c ls X hret hlk hB hl => ?_)
  obtain ⟨hP0, K⟩ := hB
  have hw : m_W G S V s s.heap [] := ⟨hP0, va_S.rf⟩
  have X : CallFix p m c cX7_begins 1 s ([.ref (mm_ad G 0)] : List Value).toArray tt_T "TrustTinModel" := X
  have hl : lv_has ls 1 [(0, .ref (mm_ad G 0))] := hl
  refine lv_aload_n X.1 X.2.1 dX7_begins_0 rfl (lv_at hl 0 rfl) ?_
  refine m_get X K hw 0 (by decide) q836 rfl dX7_begins_1 ?_
  refine lv_aload_n X.1 X.2.1 dX7_begins_4 rfl (lv_at hl 0 rfl) ?_
  refine m_get X K hw 1 (by decide) q837 rfl dX7_begins_5 ?_
  refine m_callSV_s X K hw (k_X7_copies l G S V 1 2 (by decide) (by decide)) (g_cwS X hiX7_copies q1066 q1067 q74 q1068 ⟨(Nat.le_of_ble_eq_true rfl), (Nat.le_of_ble_eq_true rfl)⟩) rfl hl.1 rfl (Nat.le_of_ble_eq_true rfl) dX7_begins_8 ⟨(Nat.le_of_ble_eq_true rfl), (Nat.le_of_ble_eq_true rfl)⟩ (fun S1 H locs eS1 hw => ?_)
  have hR : S1 = tgt := by
    rw [← hF]
    subst eS1
    simp only [f7_begins]
  exact g_vret X hret hlk hw (congrArg (fun z => (z, V)) hR) dX7_begins_11
set_option maxHeartbeats 4000000 in
set_option maxRecDepth 10000 in
theorem k_X7_ends (l : Launch) (G : tt_G) (S : tt_St) (V : Int64) : m_MV l G yX7_ends (g_code yX7_ends cX7_ends 1 none) 1 22 [.ref (mm_ad G 0)] S V (f7_ends S) V := by
  generalize hF : f7_ends S = tgt
  refine g_begin rfl (Nat.le_of_ble_eq_true rfl) _ (fun p e s m below meth c ls X hret hlk hB hl => ?_)
  obtain ⟨hP0, K⟩ := hB
  have hw : m_W G S V s s.heap [] := ⟨hP0, va_S.rf⟩
  have X : CallFix p m c cX7_ends 1 s ([.ref (mm_ad G 0)] : List Value).toArray tt_T "TrustTinModel" := X
  have hl : lv_has ls 1 [(0, .ref (mm_ad G 0))] := hl
  refine lv_aload_n X.1 X.2.1 dX7_ends_0 rfl (lv_at hl 0 rfl) ?_
  refine m_get X K hw 1 (by decide) q837 rfl dX7_ends_1 ?_
  refine lv_aload_n X.1 X.2.1 dX7_ends_4 rfl (lv_at hl 0 rfl) ?_
  refine m_get X K hw 0 (by decide) q836 rfl dX7_ends_5 ?_
  refine m_callSV_s X K hw (k_X7_copies l G S V 2 1 (by decide) (by decide)) (g_cwS X hiX7_copies q1066 q1067 q74 q1068 ⟨(Nat.le_of_ble_eq_true rfl), (Nat.le_of_ble_eq_true rfl)⟩) rfl hl.1 rfl (Nat.le_of_ble_eq_true rfl) dX7_ends_8 ⟨(Nat.le_of_ble_eq_true rfl), (Nat.le_of_ble_eq_true rfl)⟩ (fun S1 H locs eS1 hw => ?_)
  have hR : S1 = tgt := by
    rw [← hF]
    subst eS1
    simp only [f7_ends]
  exact g_vret X hret hlk hw (congrArg (fun z => (z, V)) hR) dX7_ends_11
set_option maxHeartbeats 4000000 in
set_option maxRecDepth 10000 in
theorem k_X7_why (l : Launch) (G : tt_G) (S : tt_St) (V : Int64) (a1 : Int32) (a2 : Int32) : m_MI l G yX7_why (g_code yX7_why cX7_why 3 (some FieldType.int)) 1 21 [.ref (mm_ad G 0), .int a1, .int a2] S V (f7_why S a1 a2) S V := by
  generalize hF : f7_why S a1 a2 = tgt
  refine g_begin rfl (Nat.le_of_ble_eq_true rfl) _ (fun p e s m below meth c ls X hret hlk hB hl => ?_)
  obtain ⟨hP0, K⟩ := hB
  have hw : m_W G S V s s.heap [] := ⟨hP0, va_S.rf⟩
  have X : CallFix p m c cX7_why 3 s ([.ref (mm_ad G 0), .int a1, .int a2] : List Value).toArray tt_T "TrustTinModel" := X
  have hl : lv_has ls 3 [(0, .ref (mm_ad G 0)), (1, .int a1), (2, .int a2)] := hl
  refine lv_iload_n X.1 X.2.1 dX7_why_0 rfl (lv_at hl 1 rfl) ?_
  refine lv_if_ne (tgt := 8) X.1 X.2.1 dX7_why_1 (by decide) (fun c1 => ?_) (fun c1 => ?_)
  · refine lv_aload_n X.1 X.2.1 dX7_why_8 rfl (lv_at hl 0 rfl) ?_
    refine lv_iload_n X.1 X.2.1 dX7_why_9 rfl (lv_at hl 2 rfl) ?_
    refine m_callVI_p X K hw (k_X7_isFar l G S V a2) (g_cwV X hiX7_isFar q977 q979 q35 q74 q980 ⟨(Nat.le_of_ble_eq_true rfl), (Nat.le_of_ble_eq_true rfl)⟩) rfl hl.1 rfl (Nat.le_of_ble_eq_true rfl) dX7_why_10 ⟨(Nat.le_of_ble_eq_true rfl), (Nat.le_of_ble_eq_true rfl)⟩ (fun z2 H locs ez2 hw => ?_)
    refine lv_if_eq (tgt := 20) X.1 X.2.1 dX7_why_13 (by decide) (fun c3 => ?_) (fun c3 => ?_)
    · refine lv_iconst (v := (-1 : Int32)) X.1 X.2.1 dX7_why_20 (by decide) ?_
      have hR : (-1 : Int32) = tgt := by
        rw [← hF]
        subst ez2
        simp only [f7_why, if_neg c1, if_pos c3]
      exact g_iret X hret hlk hw hR rfl dX7_why_21
    · refine lv_iconst (v := (4 : Int32)) X.1 X.2.1 dX7_why_16 (by decide) ?_
      refine lv_goto (tgt := 21) X.1 X.2.1 dX7_why_17 (by decide) ?_
      have hR : (4 : Int32) = tgt := by
        rw [← hF]
        subst ez2
        simp only [f7_why, if_neg c1, if_neg c3]
      exact g_iret X hret hlk hw hR rfl dX7_why_21
  · refine lv_iconst (v := (0 : Int32)) X.1 X.2.1 dX7_why_4 (by decide) ?_
    refine lv_goto (tgt := 21) X.1 X.2.1 dX7_why_5 (by decide) ?_
    have hR : (0 : Int32) = tgt := by
      rw [← hF]
      simp only [f7_why, if_pos c1]
    exact g_iret X hret hlk hw hR rfl dX7_why_21
set_option maxHeartbeats 4000000 in
set_option maxRecDepth 10000 in
theorem k_X7_monday (l : Launch) (G : tt_G) (S : tt_St) (V : Int64) (a1 : Int32) (hp0 : (S 1 0).toInt ≤ 10) : m_MV l G yX7_monday (g_code yX7_monday cX7_monday 3 none) 1 23 [.ref (mm_ad G 0), .int a1] S V (f7_monday S a1) V := by
  generalize hF : f7_monday S a1 = tgt
  refine g_begin rfl (Nat.le_of_ble_eq_true rfl) _ (fun p e s m below meth c ls X hret hlk hB hl => ?_)
  obtain ⟨hP0, K⟩ := hB
  have hw : m_W G S V s s.heap [] := ⟨hP0, va_S.rf⟩
  have X : CallFix p m c cX7_monday 3 s ([.ref (mm_ad G 0), .int a1] : List Value).toArray tt_T "TrustTinModel" := X
  have hl : lv_has ls 3 [(0, .ref (mm_ad G 0)), (1, .int a1)] := hl
  refine lv_aload_n X.1 X.2.1 dX7_monday_0 rfl (lv_at hl 0 rfl) ?_
  refine m_get X K hw 0 (by decide) q836 rfl dX7_monday_1 ?_
  refine lv_bipush (v := (6 : Int32)) X.1 X.2.1 dX7_monday_4 (by decide) ?_
  refine lv_iload_n X.1 X.2.1 dX7_monday_6 rfl (lv_at hl 1 rfl) ?_
  have hi1 : vp_in (6 : Int32) 132 := by unfold vp_in; decide
  refine m_iastL (j := 6) X K hw (by decide) (by decide) (fun _ => mm_e1) hi1 rfl dX7_monday_7 (fun S2 H locs eS2 hw => ?_)
  refine lv_aload_n X.1 X.2.1 dX7_monday_8 rfl (lv_at hl 0 rfl) ?_
  refine m_get X K hw 0 (by decide) q836 rfl dX7_monday_9 ?_
  refine lv_bipush (v := (7 : Int32)) X.1 X.2.1 dX7_monday_12 (by decide) ?_
  refine lv_iconst (v := (0 : Int32)) X.1 X.2.1 dX7_monday_14 (by decide) ?_
  have hi3 : vp_in (7 : Int32) 132 := by unfold vp_in; decide
  refine m_iastL (j := 7) X K hw (by decide) (by decide) (fun _ => mm_e1) hi3 rfl dX7_monday_15 (fun S4 H locs eS4 hw => ?_)
  refine lv_aload_n X.1 X.2.1 dX7_monday_16 rfl (lv_at hl 0 rfl) ?_
  refine m_get X K hw 0 (by decide) q836 rfl dX7_monday_17 ?_
  refine lv_bipush (v := (9 : Int32)) X.1 X.2.1 dX7_monday_20 (by decide) ?_
  refine lv_iconst (v := (0 : Int32)) X.1 X.2.1 dX7_monday_22 (by decide) ?_
  have hi5 : vp_in (9 : Int32) 132 := by unfold vp_in; decide
  refine m_iastL (j := 9) X K hw (by decide) (by decide) (fun _ => mm_e1) hi5 rfl dX7_monday_23 (fun S6 H locs eS6 hw => ?_)
  refine lv_iconst (v := (0 : Int32)) X.1 X.2.1 dX7_monday_24 (by decide) ?_
  refine lv_istore_n (lv' := [(2, .int (0 : Int32)), (0, .ref (mm_ad G 0)), (1, .int a1)]) X.1 X.2.1 dX7_monday_25 rfl hl (by decide) rfl (fun ls hl => ?_)
  have j26 : ∀ (n : Nat) (S7 : tt_St) (y2_26 : Int32) (H : Heap) (locs : List Loc) (ls : Array Slot), ((¬ y2_26 < 0) ∧ (S7 1 0).toInt ≤ 10) → lp_mu (S7 1 0) y2_26 < n → f7_monday_L26 a1 n S7 y2_26 = tgt → m_W G S7 V s H locs → lv_has ls 3 [(0, .ref (mm_ad G 0)), (2, .int y2_26)] → W p l e (g_rm 1 23) s m ([.ref (mm_ad G 0), .int a1] : List Value).toArray below meth c H locs 0 0 (MQ below (va_Qv (fun T => T = (tgt, V)) (g_Post G 10 (mm_ad G) (mm_cell G)) (g_in 10 (mm_ad G))) ([.ref (mm_ad G 0), .int a1] : List Value).toArray s 0 0 (g_in 10 (mm_ad G))) (F0 m 26 ls []) := by
    intro n
    induction n with
    | zero => intro S7 y2_26 H locs ls hI hm; exact absurd hm (Nat.not_lt_zero _)
    | succ n ih =>
      intro S7 y2_26 H locs ls hI hm hF hw hl
      refine lv_iload_n X.1 X.2.1 dX7_monday_26 rfl (lv_at hl 1 rfl) ?_
      refine lv_aload_n X.1 X.2.1 dX7_monday_27 rfl (lv_at hl 0 rfl) ?_
      refine m_get X K hw 0 (by decide) q836 rfl dX7_monday_28 ?_
      refine lv_iconst (v := (0 : Int32)) X.1 X.2.1 dX7_monday_31 (by decide) ?_
      have hi8 : vp_in (0 : Int32) 132 := by unfold vp_in; decide
      refine g_ialdL (j := 0) X K hw (by decide) mm_e1 hi8 rfl dX7_monday_32 ?_
      refine lv_icmp_ge (tgt := 57) X.1 X.2.1 dX7_monday_33 (by decide) (fun c9 => ?_) (fun c9 => ?_)
      · have hR : S7 = tgt := by
          rw [← hF]
          simp only [f7_monday_L26, if_pos c9]
        exact g_vret X hret hlk hw (congrArg (fun z => (z, V)) hR) dX7_monday_57
      · refine lv_aload_n X.1 X.2.1 dX7_monday_36 rfl (lv_at hl 0 rfl) ?_
        refine lv_iload_n X.1 X.2.1 dX7_monday_37 rfl (lv_at hl 1 rfl) ?_
        refine lv_iconst (v := (5 : Int32)) X.1 X.2.1 dX7_monday_38 (by decide) ?_
        refine lv_iconst (v := (0 : Int32)) X.1 X.2.1 dX7_monday_39 (by decide) ?_
        refine m_callVV_s X K hw (k_X7_becomes l G S7 V y2_26 (5 : Int32) (0 : Int32) (lp_in hI.1 c9 hI.2) (by unfold vp_in; decide)) (g_cwV X hiX7_becomes q921 q923 q31 q74 q924 ⟨(Nat.le_of_ble_eq_true rfl), (Nat.le_of_ble_eq_true rfl)⟩) rfl hl.1 rfl (Nat.le_of_ble_eq_true rfl) dX7_monday_40 ⟨(Nat.le_of_ble_eq_true rfl), (Nat.le_of_ble_eq_true rfl)⟩ (fun S10 H locs eS10 hw => ?_)
        refine lv_aload_n X.1 X.2.1 dX7_monday_43 rfl (lv_at hl 0 rfl) ?_
        refine lv_iload_n X.1 X.2.1 dX7_monday_44 rfl (lv_at hl 1 rfl) ?_
        refine lv_bipush (v := (6 : Int32)) X.1 X.2.1 dX7_monday_45 (by decide) ?_
        refine lv_iconst (v := (0 : Int32)) X.1 X.2.1 dX7_monday_47 (by decide) ?_
        refine m_callVV_s X K hw (k_X7_becomes l G S10 V y2_26 (6 : Int32) (0 : Int32) (lp_in hI.1 c9 hI.2) (by unfold vp_in; decide)) (g_cwV X hiX7_becomes q921 q923 q31 q74 q924 ⟨(Nat.le_of_ble_eq_true rfl), (Nat.le_of_ble_eq_true rfl)⟩) rfl hl.1 rfl (Nat.le_of_ble_eq_true rfl) dX7_monday_48 ⟨(Nat.le_of_ble_eq_true rfl), (Nat.le_of_ble_eq_true rfl)⟩ (fun S11 H locs eS11 hw => ?_)
        obtain ⟨x12, ex12⟩ : ∃ y : Int32, y = y2_26 + (1 : Int32) := ⟨_, rfl⟩
        refine lv_iinc (v := x12) (lv' := [(2, .int x12), (0, .ref (mm_ad G 0))]) X.1 X.2.1 dX7_monday_51 hl (k := 1) rfl (by rw [ex12]; rfl) (by decide) rfl (fun ls hl => ?_)
        refine lv_goto (tgt := 26) X.1 X.2.1 dX7_monday_54 (by decide) ?_
        have hF2 : f7_monday_L26 a1 n S11 x12 = tgt := by
          rw [← hF]
          subst eS10 eS11 ex12
          simp only [f7_monday_L26, if_neg c9]
        exact ih S11 x12 _ _ ls (⟨by rw [ex12]; exact lp_nn hI.1 c9, by rw [show S11 1 0 = S7 1 0 from by subst eS10 eS11 ex12; exact (fm_tr (fm_becomes (lp_in hI.1 c9 hI.2) (by decide)) (fm_becomes (lp_in hI.1 c9 hI.2) (by decide))).sz]; exact hI.2⟩) (by rw [ex12, show S11 1 0 = S7 1 0 from by subst eS10 eS11 ex12; exact (fm_tr (fm_becomes (lp_in hI.1 c9 hI.2) (by decide)) (fm_becomes (lp_in hI.1 c9 hI.2) (by decide))).sz]; exact lp_dec' c9 hm) hF2 hw (lv_sub hl [1, 0] rfl)
  have hF2 : f7_monday_L26 a1 (lp_mu (S6 1 0) 0 + 1) S6 (0 : Int32) = tgt := by
    rw [← hF]
    subst eS2 eS4 eS6
    simp only [f7_monday]
  exact j26 (lp_mu (S6 1 0) 0 + 1) S6 (0 : Int32) _ _ ls (⟨by decide, by rw [show S6 1 0 = S 1 0 from by subst eS2 eS4 eS6; exact (fm_tr (fm_tr (fm_up _ _ (ma_c (by omega))) (fm_up _ _ (ma_c (by omega)))) (fm_up _ _ (ma_c (by omega)))).sz]; exact hp0⟩) (Nat.lt_succ_self _) hF2 hw (lv_sub hl [1, 0] rfl)
set_option maxHeartbeats 4000000 in
set_option maxRecDepth 10000 in
theorem k_X7_drinking (l : Launch) (G : tt_G) (S : tt_St) (V : Int64) (hp0 : (S 1 0).toInt ≤ 10) : m_MI l G yX7_drinking (g_code yX7_drinking cX7_drinking 3 (some FieldType.int)) 1 22 [.ref (mm_ad G 0)] S V (f7_drinking S) S V := by
  generalize hF : f7_drinking S = tgt
  refine g_begin rfl (Nat.le_of_ble_eq_true rfl) _ (fun p e s m below meth c ls X hret hlk hB hl => ?_)
  obtain ⟨hP0, K⟩ := hB
  have hw : m_W G S V s s.heap [] := ⟨hP0, va_S.rf⟩
  have X : CallFix p m c cX7_drinking 3 s ([.ref (mm_ad G 0)] : List Value).toArray tt_T "TrustTinModel" := X
  have hl : lv_has ls 3 [(0, .ref (mm_ad G 0))] := hl
  refine lv_iconst (v := (0 : Int32)) X.1 X.2.1 dX7_drinking_0 (by decide) ?_
  refine lv_istore_n (lv' := [(1, .int (0 : Int32)), (0, .ref (mm_ad G 0))]) X.1 X.2.1 dX7_drinking_1 rfl hl (by decide) rfl (fun ls hl => ?_)
  refine lv_iconst (v := (0 : Int32)) X.1 X.2.1 dX7_drinking_2 (by decide) ?_
  refine lv_istore_n (lv' := [(2, .int (0 : Int32)), (1, .int (0 : Int32)), (0, .ref (mm_ad G 0))]) X.1 X.2.1 dX7_drinking_3 rfl hl (by decide) rfl (fun ls hl => ?_)
  have j4 : ∀ (n : Nat) (y1_4 : Int32) (y2_4 : Int32) (H : Heap) (locs : List Loc) (ls : Array Slot), (¬ y2_4 < 0) → lp_mu (S 1 0) y2_4 < n → f7_drinking_L4 S n y1_4 y2_4 = tgt → m_W G S V s H locs → lv_has ls 3 [(0, .ref (mm_ad G 0)), (1, .int y1_4), (2, .int y2_4)] → W p l e (g_rm 1 22) s m ([.ref (mm_ad G 0)] : List Value).toArray below meth c H locs 0 0 (MQ below (va_Qi (fun r T => r = tgt ∧ T = (S, V)) (g_Post G 10 (mm_ad G) (mm_cell G)) (g_in 10 (mm_ad G))) ([.ref (mm_ad G 0)] : List Value).toArray s 0 0 (g_in 10 (mm_ad G))) (F0 m 4 ls []) := by
    intro n
    induction n with
    | zero => intro y1_4 y2_4 H locs ls hI hm; exact absurd hm (Nat.not_lt_zero _)
    | succ n ih =>
      intro y1_4 y2_4 H locs ls hI hm hF hw hl
      refine lv_iload_n X.1 X.2.1 dX7_drinking_4 rfl (lv_at hl 2 rfl) ?_
      refine lv_aload_n X.1 X.2.1 dX7_drinking_5 rfl (lv_at hl 0 rfl) ?_
      refine m_get X K hw 0 (by decide) q836 rfl dX7_drinking_6 ?_
      refine lv_iconst (v := (0 : Int32)) X.1 X.2.1 dX7_drinking_9 (by decide) ?_
      have hi1 : vp_in (0 : Int32) 132 := by unfold vp_in; decide
      refine g_ialdL (j := 0) X K hw (by decide) mm_e1 hi1 rfl dX7_drinking_10 ?_
      refine lv_icmp_ge (tgt := 37) X.1 X.2.1 dX7_drinking_11 (by decide) (fun c2 => ?_) (fun c2 => ?_)
      · refine lv_iload_n X.1 X.2.1 dX7_drinking_37 rfl (lv_at hl 1 rfl) ?_
        have hR : y1_4 = tgt := by
          rw [← hF]
          simp only [f7_drinking_L4, if_pos c2]
        exact g_iret X hret hlk hw hR rfl dX7_drinking_38
      · refine lv_iload_n X.1 X.2.1 dX7_drinking_14 rfl (lv_at hl 1 rfl) ?_
        refine lv_aload_n X.1 X.2.1 dX7_drinking_15 rfl (lv_at hl 0 rfl) ?_
        refine lv_iload_n X.1 X.2.1 dX7_drinking_16 rfl (lv_at hl 2 rfl) ?_
        refine lv_iconst (v := (5 : Int32)) X.1 X.2.1 dX7_drinking_17 (by decide) ?_
        refine m_callVI_p X K hw (k_X7_its l G S V y2_4 (5 : Int32) (lp_in hI c2 hp0) (by unfold vp_in; decide)) (g_cwV X hiX7_its q933 q935 q33 q74 q936 ⟨(Nat.le_of_ble_eq_true rfl), (Nat.le_of_ble_eq_true rfl)⟩) rfl hl.1 rfl (Nat.le_of_ble_eq_true rfl) dX7_drinking_18 ⟨(Nat.le_of_ble_eq_true rfl), (Nat.le_of_ble_eq_true rfl)⟩ (fun z3 H locs ez3 hw => ?_)
        refine lv_if_le (tgt := 28) X.1 X.2.1 dX7_drinking_21 (by decide) (fun c4 => ?_) (fun c4 => ?_)
        · refine lv_iconst (v := (0 : Int32)) X.1 X.2.1 dX7_drinking_28 (by decide) ?_
          refine lv_iadd X.1 X.2.1 dX7_drinking_29 ?_
          refine lv_topi (fun x5 ex5 => ?_)
          refine lv_istore_n (lv' := [(1, .int x5), (0, .ref (mm_ad G 0)), (2, .int y2_4)]) X.1 X.2.1 dX7_drinking_30 rfl hl (by decide) rfl (fun ls hl => ?_)
          obtain ⟨x6, ex6⟩ : ∃ y : Int32, y = y2_4 + (1 : Int32) := ⟨_, rfl⟩
          refine lv_iinc (v := x6) (lv' := [(2, .int x6), (1, .int x5), (0, .ref (mm_ad G 0))]) X.1 X.2.1 dX7_drinking_31 hl (k := 2) rfl (by rw [ex6]; rfl) (by decide) rfl (fun ls hl => ?_)
          refine lv_goto (tgt := 4) X.1 X.2.1 dX7_drinking_34 (by decide) ?_
          have hF2 : f7_drinking_L4 S n x5 x6 = tgt := by
            rw [← hF]
            subst ez3 ex5 ex6
            simp only [f7_drinking_L4, if_neg c2, if_pos c4]
          exact ih x5 x6 _ _ ls (by rw [ex6]; exact lp_nn hI c2) (by rw [ex6]; exact lp_dec' c2 hm) hF2 hw (lv_sub hl [2, 1, 0] rfl)
        · refine lv_iconst (v := (1 : Int32)) X.1 X.2.1 dX7_drinking_24 (by decide) ?_
          refine lv_goto (tgt := 29) X.1 X.2.1 dX7_drinking_25 (by decide) ?_
          refine lv_iadd X.1 X.2.1 dX7_drinking_29 ?_
          refine lv_topi (fun x7 ex7 => ?_)
          refine lv_istore_n (lv' := [(1, .int x7), (0, .ref (mm_ad G 0)), (2, .int y2_4)]) X.1 X.2.1 dX7_drinking_30 rfl hl (by decide) rfl (fun ls hl => ?_)
          obtain ⟨x8, ex8⟩ : ∃ y : Int32, y = y2_4 + (1 : Int32) := ⟨_, rfl⟩
          refine lv_iinc (v := x8) (lv' := [(2, .int x8), (1, .int x7), (0, .ref (mm_ad G 0))]) X.1 X.2.1 dX7_drinking_31 hl (k := 2) rfl (by rw [ex8]; rfl) (by decide) rfl (fun ls hl => ?_)
          refine lv_goto (tgt := 4) X.1 X.2.1 dX7_drinking_34 (by decide) ?_
          have hF2 : f7_drinking_L4 S n x7 x8 = tgt := by
            rw [← hF]
            subst ez3 ex7 ex8
            simp only [f7_drinking_L4, if_neg c2, if_neg c4]
          exact ih x7 x8 _ _ ls (by rw [ex8]; exact lp_nn hI c2) (by rw [ex8]; exact lp_dec' c2 hm) hF2 hw (lv_sub hl [2, 1, 0] rfl)
  have hF2 : f7_drinking_L4 S (lp_mu (S 1 0) 0 + 1) (0 : Int32) (0 : Int32) = tgt := by
    rw [← hF]
    simp only [f7_drinking]
  exact j4 (lp_mu (S 1 0) 0 + 1) (0 : Int32) (0 : Int32) _ _ ls (by decide) (Nat.lt_succ_self _) hF2 hw (lv_sub hl [2, 1, 0] rfl)
set_option maxHeartbeats 4000000 in
set_option maxRecDepth 10000 in
theorem k_X7_isOf (l : Launch) (G : tt_G) (S : tt_St) (V : Int64) (a0 : Int32) (a1 : Int32) : m_MI l G yX7_isOf (g_code yX7_isOf cX7_isOf 2 (some FieldType.boolean)) 0 0 [.int a0, .int a1] S V (f7_isOf a0 a1) S V := by
  generalize hF : f7_isOf a0 a1 = tgt
  refine g_begin rfl (Nat.le_of_ble_eq_true rfl) _ (fun p e s m below meth c ls X hret hlk hB hl => ?_)
  obtain ⟨hP0, K⟩ := hB
  have hw : m_W G S V s s.heap [] := ⟨hP0, va_S.rf⟩
  have X : CallFix p m c cX7_isOf 2 s ([.int a0, .int a1] : List Value).toArray tt_T "TrustTinModel" := X
  have hl : lv_has ls 2 [(0, .int a0), (1, .int a1)] := hl
  refine lv_iload_n X.1 X.2.1 dX7_isOf_0 rfl (lv_at hl 1 rfl) ?_
  refine lv_if_eq (tgt := 30) X.1 X.2.1 dX7_isOf_1 (by decide) (fun c1 => ?_) (fun c1 => ?_)
  · refine lv_iconst (v := (1 : Int32)) X.1 X.2.1 dX7_isOf_30 (by decide) ?_
    refine lv_goto (tgt := 35) X.1 X.2.1 dX7_isOf_31 (by decide) ?_
    have hR : (1 : Int32) = tgt := by
      rw [← hF]
      simp only [f7_isOf, if_pos c1]
    exact g_zret X hret hlk hw rfl hR rfl dX7_isOf_35
  · refine lv_iload_n X.1 X.2.1 dX7_isOf_4 rfl (lv_at hl 1 rfl) ?_
    refine lv_iload_n X.1 X.2.1 dX7_isOf_5 rfl (lv_at hl 0 rfl) ?_
    refine lv_icmp_eq (tgt := 30) X.1 X.2.1 dX7_isOf_6 (by decide) (fun c2 => ?_) (fun c2 => ?_)
    · refine lv_iconst (v := (1 : Int32)) X.1 X.2.1 dX7_isOf_30 (by decide) ?_
      refine lv_goto (tgt := 35) X.1 X.2.1 dX7_isOf_31 (by decide) ?_
      have hR : (1 : Int32) = tgt := by
        rw [← hF]
        simp only [f7_isOf, if_neg c1, if_pos c2]
      exact g_zret X hret hlk hw rfl hR rfl dX7_isOf_35
    · refine lv_iload_n X.1 X.2.1 dX7_isOf_9 rfl (lv_at hl 1 rfl) ?_
      refine lv_iconst (v := (2 : Int32)) X.1 X.2.1 dX7_isOf_10 (by decide) ?_
      refine lv_icmp_ne (tgt := 19) X.1 X.2.1 dX7_isOf_11 (by decide) (fun c3 => ?_) (fun c3 => ?_)
      · refine lv_iload_n X.1 X.2.1 dX7_isOf_19 rfl (lv_at hl 1 rfl) ?_
        refine lv_iconst (v := (1 : Int32)) X.1 X.2.1 dX7_isOf_20 (by decide) ?_
        refine lv_icmp_ne (tgt := 34) X.1 X.2.1 dX7_isOf_21 (by decide) (fun c4 => ?_) (fun c4 => ?_)
        · refine lv_iconst (v := (0 : Int32)) X.1 X.2.1 dX7_isOf_34 (by decide) ?_
          have hR : (0 : Int32) = tgt := by
            rw [← hF]
            simp only [f7_isOf, if_neg c1, if_neg c2, if_neg c3, if_neg c4]
          exact g_zret X hret hlk hw rfl hR rfl dX7_isOf_35
        · refine lv_iload_n X.1 X.2.1 dX7_isOf_24 rfl (lv_at hl 0 rfl) ?_
          refine lv_bipush (v := (6 : Int32)) X.1 X.2.1 dX7_isOf_25 (by decide) ?_
          refine lv_icmp_ne (tgt := 34) X.1 X.2.1 dX7_isOf_27 (by decide) (fun c5 => ?_) (fun c5 => ?_)
          · refine lv_iconst (v := (0 : Int32)) X.1 X.2.1 dX7_isOf_34 (by decide) ?_
            have hR : (0 : Int32) = tgt := by
              rw [← hF]
              simp only [f7_isOf, if_neg c1, if_neg c2, if_neg c3, if_pos c4, if_neg c5]
            exact g_zret X hret hlk hw rfl hR rfl dX7_isOf_35
          · refine lv_iconst (v := (1 : Int32)) X.1 X.2.1 dX7_isOf_30 (by decide) ?_
            refine lv_goto (tgt := 35) X.1 X.2.1 dX7_isOf_31 (by decide) ?_
            have hR : (1 : Int32) = tgt := by
              rw [← hF]
              simp only [f7_isOf, if_neg c1, if_neg c2, if_neg c3, if_pos c4, if_pos c5]
            exact g_zret X hret hlk hw rfl hR rfl dX7_isOf_35
      · refine lv_iload_n X.1 X.2.1 dX7_isOf_14 rfl (lv_at hl 0 rfl) ?_
        refine lv_iconst (v := (4 : Int32)) X.1 X.2.1 dX7_isOf_15 (by decide) ?_
        refine lv_icmp_eq (tgt := 30) X.1 X.2.1 dX7_isOf_16 (by decide) (fun c6 => ?_) (fun c6 => ?_)
        · refine lv_iconst (v := (1 : Int32)) X.1 X.2.1 dX7_isOf_30 (by decide) ?_
          refine lv_goto (tgt := 35) X.1 X.2.1 dX7_isOf_31 (by decide) ?_
          have hR : (1 : Int32) = tgt := by
            rw [← hF]
            simp only [f7_isOf, if_neg c1, if_neg c2, if_pos c3, if_pos c6]
          exact g_zret X hret hlk hw rfl hR rfl dX7_isOf_35
        · refine lv_iload_n X.1 X.2.1 dX7_isOf_19 rfl (lv_at hl 1 rfl) ?_
          refine lv_iconst (v := (1 : Int32)) X.1 X.2.1 dX7_isOf_20 (by decide) ?_
          refine lv_icmp_ne (tgt := 34) X.1 X.2.1 dX7_isOf_21 (by decide) (fun c7 => ?_) (fun c7 => ?_)
          · refine lv_iconst (v := (0 : Int32)) X.1 X.2.1 dX7_isOf_34 (by decide) ?_
            have hR : (0 : Int32) = tgt := by
              rw [← hF]
              simp only [f7_isOf, if_neg c1, if_neg c2, if_pos c3, if_neg c6, if_neg c7]
            exact g_zret X hret hlk hw rfl hR rfl dX7_isOf_35
          · refine lv_iload_n X.1 X.2.1 dX7_isOf_24 rfl (lv_at hl 0 rfl) ?_
            refine lv_bipush (v := (6 : Int32)) X.1 X.2.1 dX7_isOf_25 (by decide) ?_
            refine lv_icmp_ne (tgt := 34) X.1 X.2.1 dX7_isOf_27 (by decide) (fun c8 => ?_) (fun c8 => ?_)
            · refine lv_iconst (v := (0 : Int32)) X.1 X.2.1 dX7_isOf_34 (by decide) ?_
              have hR : (0 : Int32) = tgt := by
                rw [← hF]
                simp only [f7_isOf, if_neg c1, if_neg c2, if_pos c3, if_neg c6, if_pos c7, if_neg c8]
              exact g_zret X hret hlk hw rfl hR rfl dX7_isOf_35
            · refine lv_iconst (v := (1 : Int32)) X.1 X.2.1 dX7_isOf_30 (by decide) ?_
              refine lv_goto (tgt := 35) X.1 X.2.1 dX7_isOf_31 (by decide) ?_
              have hR : (1 : Int32) = tgt := by
                rw [← hF]
                simp only [f7_isOf, if_neg c1, if_neg c2, if_pos c3, if_neg c6, if_pos c7, if_pos c8]
              exact g_zret X hret hlk hw rfl hR rfl dX7_isOf_35
set_option maxHeartbeats 4000000 in
set_option maxRecDepth 10000 in
theorem k_X7_isSheet (l : Launch) (G : tt_G) (S : tt_St) (V : Int64) (a0 : Int32) : m_MI l G yX7_isSheet (g_code yX7_isSheet cX7_isSheet 1 (some FieldType.boolean)) 1 25 [.int a0] S V (f7_isSheet a0) S V := by
  generalize hF : f7_isSheet a0 = tgt
  refine g_begin rfl (Nat.le_of_ble_eq_true rfl) _ (fun p e s m below meth c ls X hret hlk hB hl => ?_)
  obtain ⟨hP0, K⟩ := hB
  have hw : m_W G S V s s.heap [] := ⟨hP0, va_S.rf⟩
  have X : CallFix p m c cX7_isSheet 1 s ([.int a0] : List Value).toArray tt_T "TrustTinModel" := X
  have hl : lv_has ls 1 [(0, .int a0)] := hl
  refine lv_iload_n X.1 X.2.1 dX7_isSheet_0 rfl (lv_at hl 0 rfl) ?_
  refine lv_i2l X.1 X.2.1 dX7_isSheet_1 rfl ?_
  refine lv_lconst (v := (0 : Int64)) X.1 X.2.1 dX7_isSheet_2 (by decide) ?_
  refine lv_ldc2 (v := (3 : Int64)) X.1 X.2.1 X.2.2.2.1 (X.2.2.2.2 _ q1253) dX7_isSheet_3 ?_
  refine m_callSI_p X K hw (k_X7_in l G S V a0.toInt64 (0 : Int64) (3 : Int64)) (g_cwS X hiX7_in q908 q909 q74 q910 ⟨(Nat.le_of_ble_eq_true rfl), (Nat.le_of_ble_eq_true rfl)⟩) rfl hl.1 rfl (Nat.le_of_ble_eq_true rfl) dX7_isSheet_6 ⟨(Nat.le_of_ble_eq_true rfl), (Nat.le_of_ble_eq_true rfl)⟩ (fun z1 H locs ez1 hw => ?_)
  have hR : z1 = tgt := by
    rw [← hF]
    subst ez1
    simp only [f7_isSheet]
  exact g_zret X hret hlk hw (bo_nr (bo_X7_in ez1)) hR rfl dX7_isSheet_9
