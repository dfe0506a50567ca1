set_option maxHeartbeats 4000000 in
set_option maxRecDepth 10000 in
theorem k_X5_byteAt (l : Launch) (G : tt_G) (S : tt_St) (a1 : Int32) (hp0 : (S 3 1).toInt ≤ 120) : c_MI l G yX5_byteAt (g_code yX5_byteAt cX5_byteAt 2 (some FieldType.int)) 0 0 [.ref (G.2.2 58), .int a1] S (f5_byteAt S a1) S := by
  generalize hF : f5_byteAt S a1 = tgt
  refine g_begin rfl (Nat.le_of_ble_eq_true rfl) _ (fun p e s m below meth c ls X hret hlk hB hl => ?_)
  obtain ⟨hP0, K⟩ := hB
  have hw : c_W G S s s.heap [] := ⟨hP0, va_S.rf⟩
  have X : CallFix p m c cX5_byteAt 2 s ([.ref (G.2.2 58), .int a1] : List Value).toArray tt_T "TrustTin$TextReader" := X
  have hl : lv_has ls 2 [(0, .ref (G.2.2 58)), (1, .int a1)] := hl
  refine lv_iload_n X.1 X.2.1 dX5_byteAt_0 rfl (lv_at hl 1 rfl) ?_
  refine lv_if_lt (tgt := 27) X.1 X.2.1 dX5_byteAt_1 (by decide) (fun c1 => ?_) (fun c1 => ?_)
  · refine lv_iconst (v := (-1 : Int32)) X.1 X.2.1 dX5_byteAt_27 (by decide) ?_
    have hR : (-1 : Int32) = tgt := by
      rw [← hF]
      simp only [f5_byteAt, if_pos c1]
    exact g_iret X hret hlk hw hR rfl dX5_byteAt_28
  · refine lv_iload_n X.1 X.2.1 dX5_byteAt_4 rfl (lv_at hl 1 rfl) ?_
    refine lv_aload_n X.1 X.2.1 dX5_byteAt_5 rfl (lv_at hl 0 rfl) ?_
    refine g_get (v := .ref (G.2.2 56)) X K hw (by decide) tt_eRd rfl iT5 0 (by decide) q241 rfl dX5_byteAt_6 ?_
    refine g_get (v := .int (S 3 1)) X K hw (by decide) tt_eTp rfl iT4 1 (by decide) q228 rfl dX5_byteAt_9 ?_
    refine lv_icmp_ge (tgt := 27) X.1 X.2.1 dX5_byteAt_12 (by decide) (fun c2 => ?_) (fun c2 => ?_)
    · refine lv_iconst (v := (-1 : Int32)) X.1 X.2.1 dX5_byteAt_27 (by decide) ?_
      have hR : (-1 : Int32) = tgt := by
        rw [← hF]
        simp only [f5_byteAt, if_neg c1, if_pos c2]
      exact g_iret X hret hlk hw hR rfl dX5_byteAt_28
    · refine lv_aload_n X.1 X.2.1 dX5_byteAt_15 rfl (lv_at hl 0 rfl) ?_
      refine g_get (v := .ref (G.2.2 56)) X K hw (by decide) tt_eRd rfl iT5 0 (by decide) q241 rfl dX5_byteAt_16 ?_
      refine g_get (v := .ref (G.2.2 57)) X K hw (by decide) tt_eTp rfl iT4 0 (by decide) q226 rfl dX5_byteAt_19 ?_
      refine lv_iload_n X.1 X.2.1 dX5_byteAt_22 rfl (lv_at hl 1 rfl) ?_
      have hi3 : vp_in a1 120 := lp_in c1 c2 hp0
      refine g_iald X K hw (by decide) tt_eBy hi3 dX5_byteAt_23 ?_
      refine lv_goto (tgt := 28) X.1 X.2.1 dX5_byteAt_24 (by decide) ?_
      have hR : S 5 a1.toNatClampNeg = tgt := by
        rw [← hF]
        simp only [f5_byteAt, if_neg c1, if_neg c2]
      exact g_iret X hret hlk hw hR rfl dX5_byteAt_28
set_option maxHeartbeats 4000000 in
set_option maxRecDepth 10000 in
theorem k_X5_isLetter (l : Launch) (G : tt_G) (S : tt_St) (a0 : Int32) : c_MI l G yX5_isLetter (g_code yX5_isLetter cX5_isLetter 1 (some FieldType.boolean)) 0 0 [.int a0] S (f5_isLetter a0) S := by
  generalize hF : f5_isLetter a0 = tgt
  refine g_begin rfl (Nat.le_of_ble_eq_true rfl) _ (fun p e s m below meth c ls X hret hlk hB hl => ?_)
  obtain ⟨hP0, K⟩ := hB
  have hw : c_W G S s s.heap [] := ⟨hP0, va_S.rf⟩
  have X : CallFix p m c cX5_isLetter 1 s ([.int a0] : List Value).toArray tt_T "TrustTin$TextReader" := X
  have hl : lv_has ls 1 [(0, .int a0)] := hl
  refine lv_iload_n X.1 X.2.1 dX5_isLetter_0 rfl (lv_at hl 0 rfl) ?_
  refine lv_bipush (v := (97 : Int32)) X.1 X.2.1 dX5_isLetter_1 (by decide) ?_
  refine lv_icmp_lt (tgt := 16) X.1 X.2.1 dX5_isLetter_3 (by decide) (fun c1 => ?_) (fun c1 => ?_)
  · refine lv_iconst (v := (0 : Int32)) X.1 X.2.1 dX5_isLetter_16 (by decide) ?_
    have hR : (0 : Int32) = tgt := by
      rw [← hF]
      simp only [f5_isLetter, if_pos c1]
    exact g_zret X hret hlk hw rfl hR rfl dX5_isLetter_17
  · refine lv_iload_n X.1 X.2.1 dX5_isLetter_6 rfl (lv_at hl 0 rfl) ?_
    refine lv_bipush (v := (122 : Int32)) X.1 X.2.1 dX5_isLetter_7 (by decide) ?_
    refine lv_icmp_gt (tgt := 16) X.1 X.2.1 dX5_isLetter_9 (by decide) (fun c2 => ?_) (fun c2 => ?_)
    · refine lv_iconst (v := (0 : Int32)) X.1 X.2.1 dX5_isLetter_16 (by decide) ?_
      have hR : (0 : Int32) = tgt := by
        rw [← hF]
        simp only [f5_isLetter, if_neg c1, if_pos c2]
      exact g_zret X hret hlk hw rfl hR rfl dX5_isLetter_17
    · refine lv_iconst (v := (1 : Int32)) X.1 X.2.1 dX5_isLetter_12 (by decide) ?_
      refine lv_goto (tgt := 17) X.1 X.2.1 dX5_isLetter_13 (by decide) ?_
      have hR : (1 : Int32) = tgt := by
        rw [← hF]
        simp only [f5_isLetter, if_neg c1, if_neg c2]
      exact g_zret X hret hlk hw rfl hR rfl dX5_isLetter_17
set_option maxHeartbeats 4000000 in
set_option maxRecDepth 10000 in
theorem k_X5_passLetters (l : Launch) (G : tt_G) (S : tt_St) (hp0 : (S 3 1).toInt ≤ 120) : c_MV l G yX5_passLetters (g_code yX5_passLetters cX5_passLetters 1 none) 1 21 [.ref (G.2.2 58)] S (f5_passLetters S) := by
  generalize hF : f5_passLetters S = tgt
  refine g_begin rfl (Nat.le_of_ble_eq_true rfl) _ (fun p e s m below meth c ls X hret hlk hB hl => ?_)
  obtain ⟨hP0, K⟩ := hB
  have hw : c_W G S s s.heap [] := ⟨hP0, va_S.rf⟩
  have X : CallFix p m c cX5_passLetters 1 s ([.ref (G.2.2 58)] : List Value).toArray tt_T "TrustTin$TextReader" := X
  have hl : lv_has ls 1 [(0, .ref (G.2.2 58))] := hl
  have j0 : ∀ (n : Nat) (S1 : tt_St) (H : Heap) (locs : List Loc) (ls : Array Slot), ((S1 3 1).toInt ≤ 120) → lp_mu (S1 3 1) (S1 3 4) < n → f5_passLetters_L0 n S1 = tgt → c_W G S1 s H locs → lv_has ls 1 [(0, .ref (G.2.2 58))] → W p l e (g_rm 1 21) s m ([.ref (G.2.2 58)] : List Value).toArray below meth c H locs 0 0 (MQ below (va_Qv (fun T => T = tgt) (g_Post G 62 G.2.2 (tt_cell G)) (g_in 62 G.2.2)) ([.ref (G.2.2 58)] : List Value).toArray s 0 0 (g_in 62 G.2.2)) (F0 m 0 ls []) := by
    intro n
    induction n with
    | zero => intro S1 H locs ls hI hm; exact absurd hm (Nat.not_lt_zero _)
    | succ n ih =>
      intro S1 H locs ls hI hm hF hw hl
      refine lv_aload_n X.1 X.2.1 dX5_passLetters_0 rfl (lv_at hl 0 rfl) ?_
      refine g_get (v := .int (S1 3 4)) X K hw (by decide) tt_eRd rfl iT5 3 (by decide) q244 rfl dX5_passLetters_1 ?_
      refine lv_aload_n X.1 X.2.1 dX5_passLetters_4 rfl (lv_at hl 0 rfl) ?_
      refine g_get (v := .ref (G.2.2 56)) X K hw (by decide) tt_eRd rfl iT5 0 (by decide) q241 rfl dX5_passLetters_5 ?_
      refine g_get (v := .int (S1 3 1)) X K hw (by decide) tt_eTp rfl iT4 1 (by decide) q228 rfl dX5_passLetters_8 ?_
      refine lv_icmp_ge (tgt := 41) X.1 X.2.1 dX5_passLetters_11 (by decide) (fun c2 => ?_) (fun c2 => ?_)
      · have hR : S1 = tgt := by
          rw [← hF]
          simp only [f5_passLetters_L0, if_pos c2]
        exact g_vret X hret hlk hw hR dX5_passLetters_41
      · refine lv_aload_n X.1 X.2.1 dX5_passLetters_14 rfl (lv_at hl 0 rfl) ?_
        refine lv_aload_n X.1 X.2.1 dX5_passLetters_15 rfl (lv_at hl 0 rfl) ?_
        refine g_get (v := .int (S1 3 4)) X K hw (by decide) tt_eRd rfl iT5 3 (by decide) q244 rfl dX5_passLetters_16 ?_
        refine c_callVI_p X K hw (k_X5_byteAt l G S1 (S1 3 4) (hI)) (g_cwV X hiX5_byteAt q615 q617 q17 q72 q618 ⟨(Nat.le_of_ble_eq_true rfl), (Nat.le_of_ble_eq_true rfl)⟩) (by decide) tt_eRd rfl rfl hl.1 rfl (Nat.le_of_ble_eq_true rfl) dX5_passLetters_19 ⟨(Nat.le_of_ble_eq_true rfl), (Nat.le_of_ble_eq_true rfl)⟩ (fun z3 H locs ez3 hw => ?_)
        refine c_callSI_p X K hw (k_X5_isLetter l G S1 z3) (g_cwS X hiX5_isLetter q619 q620 q72 q621 ⟨(Nat.le_of_ble_eq_true rfl), (Nat.le_of_ble_eq_true rfl)⟩) rfl hl.1 rfl (Nat.le_of_ble_eq_true rfl) dX5_passLetters_22 ⟨(Nat.le_of_ble_eq_true rfl), (Nat.le_of_ble_eq_true rfl)⟩ (fun z4 H locs ez4 hw => ?_)
        refine lv_if_eq (tgt := 41) X.1 X.2.1 dX5_passLetters_25 (by decide) (fun c5 => ?_) (fun c5 => ?_)
        · have hR : S1 = tgt := by
            rw [← hF]
            subst ez3 ez4
            simp only [f5_passLetters_L0, if_neg c2, if_pos c5]
          exact g_vret X hret hlk hw hR dX5_passLetters_41
        · refine lv_aload_n X.1 X.2.1 dX5_passLetters_28 rfl (lv_at hl 0 rfl) ?_
          refine lv_dup X.1 X.2.1 dX5_passLetters_29 rfl ?_
          refine g_get (v := .int (S1 3 4)) X K hw (by decide) tt_eRd rfl iT5 3 (by decide) q244 rfl dX5_passLetters_30 ?_
          refine lv_iconst (v := (1 : Int32)) X.1 X.2.1 dX5_passLetters_33 (by decide) ?_
          refine lv_iadd X.1 X.2.1 dX5_passLetters_34 ?_
          refine lv_topi (fun x6 ex6 => ?_)
          refine g_put (S' := tt_up S1 3 4 x6) X K (c_ap K) hw (by decide) tt_eRd rfl iT5 tyX5_ok nmX5 3 (by decide) q244 rfl rfl rfl (Nat.le_of_ble_eq_true rfl) (tt_sRd (k := 2) (by decide)) dX5_passLetters_35 (fun S7 H locs eS7 hw => ?_)
          refine lv_goto (tgt := 0) X.1 X.2.1 dX5_passLetters_38 (by decide) ?_
          have hF2 : f5_passLetters_L0 n S7 = tgt := by
            rw [← hF]
            subst ez3 ez4 ex6 eS7
            simp only [f5_passLetters_L0, if_neg c2, if_neg c5]
          exact ih S7 _ _ ls (by subst ez3 ez4 ex6 eS7; rw [tt_up_ne (by omega)]; exact hI) (by subst ez3 ez4 ex6 eS7; rw [tt_up_ne (by omega), tt_up_self]; exact lp_dec' c2 hm) hF2 hw (lv_sub hl [0] rfl)
  have hF2 : f5_passLetters_L0 (lp_mu (S 3 1) (S 3 4) + 1) S = tgt := by
    rw [← hF]
    simp only [f5_passLetters]
  exact j0 (lp_mu (S 3 1) (S 3 4) + 1) S _ _ ls (hp0) (Nat.lt_succ_self _) hF2 hw (lv_sub hl [0] rfl)
set_option maxHeartbeats 4000000 in
set_option maxRecDepth 10000 in
theorem k_X5_isDigit (l : Launch) (G : tt_G) (S : tt_St) (a0 : Int32) : c_MI l G yX5_isDigit (g_code yX5_isDigit cX5_isDigit 1 (some FieldType.boolean)) 0 0 [.int a0] S (f5_isDigit a0) S := by
  generalize hF : f5_isDigit a0 = tgt
  refine g_begin rfl (Nat.le_of_ble_eq_true rfl) _ (fun p e s m below meth c ls X hret hlk hB hl => ?_)
  obtain ⟨hP0, K⟩ := hB
  have hw : c_W G S s s.heap [] := ⟨hP0, va_S.rf⟩
  have X : CallFix p m c cX5_isDigit 1 s ([.int a0] : List Value).toArray tt_T "TrustTin$TextReader" := X
  have hl : lv_has ls 1 [(0, .int a0)] := hl
  refine lv_iload_n X.1 X.2.1 dX5_isDigit_0 rfl (lv_at hl 0 rfl) ?_
  refine lv_bipush (v := (48 : Int32)) X.1 X.2.1 dX5_isDigit_1 (by decide) ?_
  refine lv_icmp_lt (tgt := 16) X.1 X.2.1 dX5_isDigit_3 (by decide) (fun c1 => ?_) (fun c1 => ?_)
  · refine lv_iconst (v := (0 : Int32)) X.1 X.2.1 dX5_isDigit_16 (by decide) ?_
    have hR : (0 : Int32) = tgt := by
      rw [← hF]
      simp only [f5_isDigit, if_pos c1]
    exact g_zret X hret hlk hw rfl hR rfl dX5_isDigit_17
  · refine lv_iload_n X.1 X.2.1 dX5_isDigit_6 rfl (lv_at hl 0 rfl) ?_
    refine lv_bipush (v := (57 : Int32)) X.1 X.2.1 dX5_isDigit_7 (by decide) ?_
    refine lv_icmp_gt (tgt := 16) X.1 X.2.1 dX5_isDigit_9 (by decide) (fun c2 => ?_) (fun c2 => ?_)
    · refine lv_iconst (v := (0 : Int32)) X.1 X.2.1 dX5_isDigit_16 (by decide) ?_
      have hR : (0 : Int32) = tgt := by
        rw [← hF]
        simp only [f5_isDigit, if_neg c1, if_pos c2]
      exact g_zret X hret hlk hw rfl hR rfl dX5_isDigit_17
    · refine lv_iconst (v := (1 : Int32)) X.1 X.2.1 dX5_isDigit_12 (by decide) ?_
      refine lv_goto (tgt := 17) X.1 X.2.1 dX5_isDigit_13 (by decide) ?_
      have hR : (1 : Int32) = tgt := by
        rw [← hF]
        simp only [f5_isDigit, if_neg c1, if_neg c2]
      exact g_zret X hret hlk hw rfl hR rfl dX5_isDigit_17
set_option maxHeartbeats 4000000 in
set_option maxRecDepth 10000 in
theorem k_X5_passDigits (l : Launch) (G : tt_G) (S : tt_St) (hp0 : (S 3 1).toInt ≤ 120) : c_MV l G yX5_passDigits (g_code yX5_passDigits cX5_passDigits 1 none) 1 30 [.ref (G.2.2 58)] S (f5_passDigits S) := by
  generalize hF : f5_passDigits S = tgt
  refine g_begin rfl (Nat.le_of_ble_eq_true rfl) _ (fun p e s m below meth c ls X hret hlk hB hl => ?_)
  obtain ⟨hP0, K⟩ := hB
  have hw : c_W G S s s.heap [] := ⟨hP0, va_S.rf⟩
  have X : CallFix p m c cX5_passDigits 1 s ([.ref (G.2.2 58)] : List Value).toArray tt_T "TrustTin$TextReader" := X
  have hl : lv_has ls 1 [(0, .ref (G.2.2 58))] := hl
  refine lv_aload_n X.1 X.2.1 dX5_passDigits_0 rfl (lv_at hl 0 rfl) ?_
  refine lv_iconst (v := (0 : Int32)) X.1 X.2.1 dX5_passDigits_1 (by decide) ?_
  refine g_put (S' := tt_up S 3 5 (0 : Int32)) X K (c_ap K) hw (by decide) tt_eRd rfl iT5 tyX5_ok nmX5 4 (by decide) q245 rfl rfl rfl (Nat.le_of_ble_eq_true rfl) (tt_sRd (k := 3) (by decide)) dX5_passDigits_2 (fun S1 H locs eS1 hw => ?_)
  have j5 : ∀ (n : Nat) (S2 : tt_St) (H : Heap) (locs : List Loc) (ls : Array Slot), ((S2 3 1).toInt ≤ 120) → lp_mu (S2 3 1) (S2 3 4) < n → f5_passDigits_L5 n S2 = tgt → c_W G S2 s H locs → lv_has ls 1 [(0, .ref (G.2.2 58))] → W p l e (g_rm 1 30) s m ([.ref (G.2.2 58)] : List Value).toArray below meth c H locs 0 0 (MQ below (va_Qv (fun T => T = tgt) (g_Post G 62 G.2.2 (tt_cell G)) (g_in 62 G.2.2)) ([.ref (G.2.2 58)] : List Value).toArray s 0 0 (g_in 62 G.2.2)) (F0 m 5 ls []) := by
    intro n
    induction n with
    | zero => intro S2 H locs ls hI hm; exact absurd hm (Nat.not_lt_zero _)
    | succ n ih =>
      intro S2 H locs ls hI hm hF hw hl
      refine lv_aload_n X.1 X.2.1 dX5_passDigits_5 rfl (lv_at hl 0 rfl) ?_
      refine g_get (v := .int (S2 3 4)) X K hw (by decide) tt_eRd rfl iT5 3 (by decide) q244 rfl dX5_passDigits_6 ?_
      refine lv_aload_n X.1 X.2.1 dX5_passDigits_9 rfl (lv_at hl 0 rfl) ?_
      refine g_get (v := .ref (G.2.2 56)) X K hw (by decide) tt_eRd rfl iT5 0 (by decide) q241 rfl dX5_passDigits_10 ?_
      refine g_get (v := .int (S2 3 1)) X K hw (by decide) tt_eTp rfl iT4 1 (by decide) q228 rfl dX5_passDigits_13 ?_
      refine lv_icmp_ge (tgt := 75) X.1 X.2.1 dX5_passDigits_16 (by decide) (fun c3 => ?_) (fun c3 => ?_)
      · have hR : S2 = tgt := by
          rw [← hF]
          simp only [f5_passDigits_L5, if_pos c3]
        exact g_vret X hret hlk hw hR dX5_passDigits_75
      · refine lv_aload_n X.1 X.2.1 dX5_passDigits_19 rfl (lv_at hl 0 rfl) ?_
        refine lv_aload_n X.1 X.2.1 dX5_passDigits_20 rfl (lv_at hl 0 rfl) ?_
        refine g_get (v := .int (S2 3 4)) X K hw (by decide) tt_eRd rfl iT5 3 (by decide) q244 rfl dX5_passDigits_21 ?_
        refine c_callVI_p X K hw (k_X5_byteAt l G S2 (S2 3 4) (hI)) (g_cwV X hiX5_byteAt q615 q617 q17 q72 q618 ⟨(Nat.le_of_ble_eq_true rfl), (Nat.le_of_ble_eq_true rfl)⟩) (by decide) tt_eRd rfl rfl hl.1 rfl (Nat.le_of_ble_eq_true rfl) dX5_passDigits_24 ⟨(Nat.le_of_ble_eq_true rfl), (Nat.le_of_ble_eq_true rfl)⟩ (fun z4 H locs ez4 hw => ?_)
        refine c_callSI_p X K hw (k_X5_isDigit l G S2 z4) (g_cwS X hiX5_isDigit q626 q627 q72 q628 ⟨(Nat.le_of_ble_eq_true rfl), (Nat.le_of_ble_eq_true rfl)⟩) rfl hl.1 rfl (Nat.le_of_ble_eq_true rfl) dX5_passDigits_27 ⟨(Nat.le_of_ble_eq_true rfl), (Nat.le_of_ble_eq_true rfl)⟩ (fun z5 H locs ez5 hw => ?_)
        refine lv_if_eq (tgt := 75) X.1 X.2.1 dX5_passDigits_30 (by decide) (fun c6 => ?_) (fun c6 => ?_)
        · have hR : S2 = tgt := by
            rw [← hF]
            subst ez4 ez5
            simp only [f5_passDigits_L5, if_neg c3, if_pos c6]
          exact g_vret X hret hlk hw hR dX5_passDigits_75
        · refine lv_aload_n X.1 X.2.1 dX5_passDigits_33 rfl (lv_at hl 0 rfl) ?_
          refine lv_aload_n X.1 X.2.1 dX5_passDigits_34 rfl (lv_at hl 0 rfl) ?_
          refine g_get (v := .int (S2 3 5)) X K hw (by decide) tt_eRd rfl iT5 4 (by decide) q245 rfl dX5_passDigits_35 ?_
          refine lv_bipush (v := (10 : Int32)) X.1 X.2.1 dX5_passDigits_38 (by decide) ?_
          refine lv_imul X.1 X.2.1 dX5_passDigits_40 ?_
          refine lv_aload_n X.1 X.2.1 dX5_passDigits_41 rfl (lv_at hl 0 rfl) ?_
          refine lv_aload_n X.1 X.2.1 dX5_passDigits_42 rfl (lv_at hl 0 rfl) ?_
          refine g_get (v := .int (S2 3 4)) X K hw (by decide) tt_eRd rfl iT5 3 (by decide) q244 rfl dX5_passDigits_43 ?_
          refine c_callVI_p X K hw (k_X5_byteAt l G S2 (S2 3 4) (hI)) (g_cwV X hiX5_byteAt q615 q617 q17 q72 q618 ⟨(Nat.le_of_ble_eq_true rfl), (Nat.le_of_ble_eq_true rfl)⟩) (by decide) tt_eRd rfl rfl hl.1 rfl (Nat.le_of_ble_eq_true rfl) dX5_passDigits_46 ⟨(Nat.le_of_ble_eq_true rfl), (Nat.le_of_ble_eq_true rfl)⟩ (fun z7 H locs ez7 hw => ?_)
          refine lv_iadd X.1 X.2.1 dX5_passDigits_49 ?_
          refine lv_bipush (v := (48 : Int32)) X.1 X.2.1 dX5_passDigits_50 (by decide) ?_
          refine lv_isub X.1 X.2.1 dX5_passDigits_52 ?_
          refine lv_sipush (v := (10000 : Int32)) X.1 X.2.1 dX5_passDigits_53 (by decide) ?_
          refine va_mmin X.1 X.2.1 (X.2.2.1.trans hl.1.symm) X.2.2.2.1 (X.2.2.2.2 _ q633) (X.2.2.2.2 _ q322) (X.2.2.2.2 _ q75) (X.2.2.2.2 _ q323) (Nat.le_of_ble_eq_true rfl) (Nat.le_of_ble_eq_true rfl) (Nat.le_of_ble_eq_true rfl) (Nat.le_of_ble_eq_true rfl) dX5_passDigits_56 ?_
          refine lv_topi (fun x8 ex8 => ?_)
          refine g_put (S' := tt_up S2 3 5 x8) X K (c_ap K) hw (by decide) tt_eRd rfl iT5 tyX5_ok nmX5 4 (by decide) q245 rfl rfl rfl (Nat.le_of_ble_eq_true rfl) (tt_sRd (k := 3) (by decide)) dX5_passDigits_59 (fun S9 H locs eS9 hw => ?_)
          refine lv_aload_n X.1 X.2.1 dX5_passDigits_62 rfl (lv_at hl 0 rfl) ?_
          refine lv_dup X.1 X.2.1 dX5_passDigits_63 rfl ?_
          refine g_get (v := .int (S9 3 4)) X K hw (by decide) tt_eRd rfl iT5 3 (by decide) q244 rfl dX5_passDigits_64 ?_
          refine lv_iconst (v := (1 : Int32)) X.1 X.2.1 dX5_passDigits_67 (by decide) ?_
          refine lv_iadd X.1 X.2.1 dX5_passDigits_68 ?_
          refine lv_topi (fun x10 ex10 => ?_)
          refine g_put (S' := tt_up S9 3 4 x10) X K (c_ap K) hw (by decide) tt_eRd rfl iT5 tyX5_ok nmX5 3 (by decide) q244 rfl rfl rfl (Nat.le_of_ble_eq_true rfl) (tt_sRd (k := 2) (by decide)) dX5_passDigits_69 (fun S11 H locs eS11 hw => ?_)
          refine lv_goto (tgt := 5) X.1 X.2.1 dX5_passDigits_72 (by decide) ?_
          have hF2 : f5_passDigits_L5 n S11 = tgt := by
            rw [← hF]
            subst ez4 ez5 ez7 ex8 eS9 ex10 eS11
            simp only [f5_passDigits_L5, if_neg c3, if_neg c6]
          exact ih S11 _ _ ls (by subst ez4 ez5 ez7 ex8 eS9 ex10 eS11; rw [tt_up_ne (by omega), tt_up_ne (by omega)]; exact hI) (by subst ez4 ez5 ez7 ex8 eS9 ex10 eS11; rw [tt_up_ne (by omega), tt_up_ne (by omega), tt_up_self, tt_up_ne (by omega)]; exact lp_dec' c3 hm) hF2 hw (lv_sub hl [0] rfl)
  have hF2 : f5_passDigits_L5 (lp_mu (S1 3 1) (S1 3 4) + 1) S1 = tgt := by
    rw [← hF]
    subst eS1
    simp only [f5_passDigits]
  exact j5 (lp_mu (S1 3 1) (S1 3 4) + 1) S1 _ _ ls (by subst eS1; rw [tt_up_ne (by omega)]; exact hp0) (Nat.lt_succ_self _) hF2 hw (lv_sub hl [0] rfl)
set_option maxHeartbeats 4000000 in
set_option maxRecDepth 10000 in
theorem k_X5_advance (l : Launch) (G : tt_G) (S : tt_St) (hp0 : (S 3 1).toInt ≤ 120) : c_MV l G yX5_advance (g_code yX5_advance cX5_advance 2 none) 2 50 [.ref (G.2.2 58)] S (f5_advance S) := by
  generalize hF : f5_advance S = tgt
  refine g_begin rfl (Nat.le_of_ble_eq_true rfl) _ (fun p e s m below meth c ls X hret hlk hB hl => ?_)
  obtain ⟨hP0, K⟩ := hB
  have hw : c_W G S s s.heap [] := ⟨hP0, va_S.rf⟩
  have X : CallFix p m c cX5_advance 2 s ([.ref (G.2.2 58)] : List Value).toArray tt_T "TrustTin$TextReader" := X
  have hl : lv_has ls 2 [(0, .ref (G.2.2 58))] := hl
  refine lv_aload_n X.1 X.2.1 dX5_advance_0 rfl (lv_at hl 0 rfl) ?_
  refine lv_aload_n X.1 X.2.1 dX5_advance_1 rfl (lv_at hl 0 rfl) ?_
  refine g_get (v := .int (S 3 4)) X K hw (by decide) tt_eRd rfl iT5 3 (by decide) q244 rfl dX5_advance_2 ?_
  refine lv_topi (fun x1 ex1 => ?_)
  refine g_put (S' := tt_up S 3 3 x1) X K (c_ap K) hw (by decide) tt_eRd rfl iT5 tyX5_ok nmX5 2 (by decide) q243 rfl rfl rfl (Nat.le_of_ble_eq_true rfl) (tt_sRd (k := 1) (by decide)) dX5_advance_5 (fun S2 H locs eS2 hw => ?_)
  have j8 : ∀ (n : Nat) (S3 : tt_St) (H : Heap) (locs : List Loc) (ls : Array Slot), ((S3 3 1).toInt ≤ 120) → lp_mu (S3 3 1) (S3 3 3) < n → f5_advance_L8 n S3 = tgt → c_W G S3 s H locs → lv_has ls 2 [(0, .ref (G.2.2 58))] → W p l e (g_rm 2 50) s m ([.ref (G.2.2 58)] : List Value).toArray below meth c H locs 0 0 (MQ below (va_Qv (fun T => T = tgt) (g_Post G 62 G.2.2 (tt_cell G)) (g_in 62 G.2.2)) ([.ref (G.2.2 58)] : List Value).toArray s 0 0 (g_in 62 G.2.2)) (F0 m 8 ls []) := by
    intro n
    induction n with
    | zero => intro S3 H locs ls hI hm; exact absurd hm (Nat.not_lt_zero _)
    | succ n ih =>
      intro S3 H locs ls hI hm hF hw hl
      refine lv_aload_n X.1 X.2.1 dX5_advance_8 rfl (lv_at hl 0 rfl) ?_
      refine g_get (v := .int (S3 3 3)) X K hw (by decide) tt_eRd rfl iT5 2 (by decide) q243 rfl dX5_advance_9 ?_
      refine lv_aload_n X.1 X.2.1 dX5_advance_12 rfl (lv_at hl 0 rfl) ?_
      refine g_get (v := .ref (G.2.2 56)) X K hw (by decide) tt_eRd rfl iT5 0 (by decide) q241 rfl dX5_advance_13 ?_
      refine g_get (v := .int (S3 3 1)) X K hw (by decide) tt_eTp rfl iT4 1 (by decide) q228 rfl dX5_advance_16 ?_
      refine lv_icmp_ge (tgt := 48) X.1 X.2.1 dX5_advance_19 (by decide) (fun c4 => ?_) (fun c4 => ?_)
      · refine lv_aload_n X.1 X.2.1 dX5_advance_48 rfl (lv_at hl 0 rfl) ?_
        refine lv_aload_n X.1 X.2.1 dX5_advance_49 rfl (lv_at hl 0 rfl) ?_
        refine g_get (v := .int (S3 3 3)) X K hw (by decide) tt_eRd rfl iT5 2 (by decide) q243 rfl dX5_advance_50 ?_
        refine lv_topi (fun x5 ex5 => ?_)
        refine g_put (S' := tt_up S3 3 4 x5) X K (c_ap K) hw (by decide) tt_eRd rfl iT5 tyX5_ok nmX5 3 (by decide) q244 rfl rfl rfl (Nat.le_of_ble_eq_true rfl) (tt_sRd (k := 2) (by decide)) dX5_advance_53 (fun S6 H locs eS6 hw => ?_)
        refine lv_aload_n X.1 X.2.1 dX5_advance_56 rfl (lv_at hl 0 rfl) ?_
        refine lv_aload_n X.1 X.2.1 dX5_advance_57 rfl (lv_at hl 0 rfl) ?_
        refine g_get (v := .int (S6 3 3)) X K hw (by decide) tt_eRd rfl iT5 2 (by decide) q243 rfl dX5_advance_58 ?_
        refine c_callVI_p X K hw (k_X5_byteAt l G S6 (S6 3 3) (by subst ex5 eS6; rw [tt_up_ne (by omega)]; exact hI)) (g_cwV X hiX5_byteAt q615 q617 q17 q72 q618 ⟨(Nat.le_of_ble_eq_true rfl), (Nat.le_of_ble_eq_true rfl)⟩) (by decide) tt_eRd rfl rfl hl.1 rfl (Nat.le_of_ble_eq_true rfl) dX5_advance_61 ⟨(Nat.le_of_ble_eq_true rfl), (Nat.le_of_ble_eq_true rfl)⟩ (fun z7 H locs ez7 hw => ?_)
        refine lv_istore_n (lv' := [(1, .int z7), (0, .ref (G.2.2 58))]) X.1 X.2.1 dX5_advance_64 rfl hl (by decide) rfl (fun ls hl => ?_)
        refine lv_iload_n X.1 X.2.1 dX5_advance_65 rfl (lv_at hl 0 rfl) ?_
        refine lv_if_ge (tgt := 77) X.1 X.2.1 dX5_advance_66 (by decide) (fun c8 => ?_) (fun c8 => ?_)
        · refine lv_iload_n X.1 X.2.1 dX5_advance_77 rfl (lv_at hl 0 rfl) ?_
          refine c_callSI_p X K hw (k_X5_isLetter l G S6 z7) (g_cwS X hiX5_isLetter q619 q620 q72 q621 ⟨(Nat.le_of_ble_eq_true rfl), (Nat.le_of_ble_eq_true rfl)⟩) rfl hl.1 rfl (Nat.le_of_ble_eq_true rfl) dX5_advance_78 ⟨(Nat.le_of_ble_eq_true rfl), (Nat.le_of_ble_eq_true rfl)⟩ (fun z9 H locs ez9 hw => ?_)
          refine lv_if_eq (tgt := 96) X.1 X.2.1 dX5_advance_81 (by decide) (fun c10 => ?_) (fun c10 => ?_)
          · refine lv_iload_n X.1 X.2.1 dX5_advance_96 rfl (lv_at hl 0 rfl) ?_
            refine c_callSI_p X K hw (k_X5_isDigit l G S6 z7) (g_cwS X hiX5_isDigit q626 q627 q72 q628 ⟨(Nat.le_of_ble_eq_true rfl), (Nat.le_of_ble_eq_true rfl)⟩) rfl hl.1 rfl (Nat.le_of_ble_eq_true rfl) dX5_advance_97 ⟨(Nat.le_of_ble_eq_true rfl), (Nat.le_of_ble_eq_true rfl)⟩ (fun z11 H locs ez11 hw => ?_)
            refine lv_if_eq (tgt := 115) X.1 X.2.1 dX5_advance_100 (by decide) (fun c12 => ?_) (fun c12 => ?_)
            · refine lv_aload_n X.1 X.2.1 dX5_advance_115 rfl (lv_at hl 1 rfl) ?_
              refine lv_iload_n X.1 X.2.1 dX5_advance_116 rfl (lv_at hl 0 rfl) ?_
              refine lv_bipush (v := (59 : Int32)) X.1 X.2.1 dX5_advance_117 (by decide) ?_
              refine lv_icmp_ne (tgt := 126) X.1 X.2.1 dX5_advance_119 (by decide) (fun c13 => ?_) (fun c13 => ?_)
              · refine lv_iconst (v := (4 : Int32)) X.1 X.2.1 dX5_advance_126 (by decide) ?_
                refine g_put (S' := tt_up S6 3 2 (4 : Int32)) X K (c_ap K) hw (by decide) tt_eRd rfl iT5 tyX5_ok nmX5 1 (by decide) q242 rfl rfl rfl (Nat.le_of_ble_eq_true rfl) (tt_sRd (k := 0) (by decide)) dX5_advance_127 (fun S14 H locs eS14 hw => ?_)
                refine lv_aload_n X.1 X.2.1 dX5_advance_130 rfl (lv_at hl 1 rfl) ?_
                refine lv_aload_n X.1 X.2.1 dX5_advance_131 rfl (lv_at hl 1 rfl) ?_
                refine g_get (v := .int (S14 3 3)) X K hw (by decide) tt_eRd rfl iT5 2 (by decide) q243 rfl dX5_advance_132 ?_
                refine lv_iconst (v := (1 : Int32)) X.1 X.2.1 dX5_advance_135 (by decide) ?_
                refine lv_iadd X.1 X.2.1 dX5_advance_136 ?_
                refine lv_topi (fun x15 ex15 => ?_)
                refine g_put (S' := tt_up S14 3 4 x15) X K (c_ap K) hw (by decide) tt_eRd rfl iT5 tyX5_ok nmX5 3 (by decide) q244 rfl rfl rfl (Nat.le_of_ble_eq_true rfl) (tt_sRd (k := 2) (by decide)) dX5_advance_137 (fun S16 H locs eS16 hw => ?_)
                have hR : S16 = tgt := by
                  rw [← hF]
                  subst ex5 eS6 ez7 ez9 ez11 eS14 ex15 eS16
                  simp only [f5_advance_L8, if_pos c4, if_pos c8, if_pos c10, if_pos c12, if_neg c13]
                exact g_vret X hret hlk hw hR dX5_advance_140
              · refine lv_iconst (v := (3 : Int32)) X.1 X.2.1 dX5_advance_122 (by decide) ?_
                refine lv_goto (tgt := 127) X.1 X.2.1 dX5_advance_123 (by decide) ?_
                refine g_put (S' := tt_up S6 3 2 (3 : Int32)) X K (c_ap K) hw (by decide) tt_eRd rfl iT5 tyX5_ok nmX5 1 (by decide) q242 rfl rfl rfl (Nat.le_of_ble_eq_true rfl) (tt_sRd (k := 0) (by decide)) dX5_advance_127 (fun S17 H locs eS17 hw => ?_)
                refine lv_aload_n X.1 X.2.1 dX5_advance_130 rfl (lv_at hl 1 rfl) ?_
                refine lv_aload_n X.1 X.2.1 dX5_advance_131 rfl (lv_at hl 1 rfl) ?_
                refine g_get (v := .int (S17 3 3)) X K hw (by decide) tt_eRd rfl iT5 2 (by decide) q243 rfl dX5_advance_132 ?_
                refine lv_iconst (v := (1 : Int32)) X.1 X.2.1 dX5_advance_135 (by decide) ?_
                refine lv_iadd X.1 X.2.1 dX5_advance_136 ?_
                refine lv_topi (fun x18 ex18 => ?_)
                refine g_put (S' := tt_up S17 3 4 x18) X K (c_ap K) hw (by decide) tt_eRd rfl iT5 tyX5_ok nmX5 3 (by decide) q244 rfl rfl rfl (Nat.le_of_ble_eq_true rfl) (tt_sRd (k := 2) (by decide)) dX5_advance_137 (fun S19 H locs eS19 hw => ?_)
                have hR : S19 = tgt := by
                  rw [← hF]
                  subst ex5 eS6 ez7 ez9 ez11 eS17 ex18 eS19
                  simp only [f5_advance_L8, if_pos c4, if_pos c8, if_pos c10, if_pos c12, if_pos c13]
                exact g_vret X hret hlk hw hR dX5_advance_140
            · refine lv_aload_n X.1 X.2.1 dX5_advance_103 rfl (lv_at hl 1 rfl) ?_
              refine lv_iconst (v := (2 : Int32)) X.1 X.2.1 dX5_advance_104 (by decide) ?_
              refine g_put (S' := tt_up S6 3 2 (2 : Int32)) X K (c_ap K) hw (by decide) tt_eRd rfl iT5 tyX5_ok nmX5 1 (by decide) q242 rfl rfl rfl (Nat.le_of_ble_eq_true rfl) (tt_sRd (k := 0) (by decide)) dX5_advance_105 (fun S20 H locs eS20 hw => ?_)
              refine lv_aload_n X.1 X.2.1 dX5_advance_108 rfl (lv_at hl 1 rfl) ?_
              refine c_callVV_s X K hw (k_X5_passDigits l G S20 (by subst ex5 eS6 ez7 ez9 ez11 eS20; rw [tt_up_ne (by omega), tt_up_ne (by omega)]; exact hI)) (g_cwV X hiX5_passDigits q629 q631 q19 q72 q632 ⟨(Nat.le_of_ble_eq_true rfl), (Nat.le_of_ble_eq_true rfl)⟩) (by decide) tt_eRd rfl rfl hl.1 rfl (Nat.le_of_ble_eq_true rfl) dX5_advance_109 ⟨(Nat.le_of_ble_eq_true rfl), (Nat.le_of_ble_eq_true rfl)⟩ (fun S21 H locs eS21 hw => ?_)
              refine lv_goto (tgt := 140) X.1 X.2.1 dX5_advance_112 (by decide) ?_
              have hR : S21 = tgt := by
                rw [← hF]
                subst ex5 eS6 ez7 ez9 ez11 eS20 eS21
                simp only [f5_advance_L8, if_pos c4, if_pos c8, if_pos c10, if_neg c12]
              exact g_vret X hret hlk hw hR dX5_advance_140
          · refine lv_aload_n X.1 X.2.1 dX5_advance_84 rfl (lv_at hl 1 rfl) ?_
            refine lv_iconst (v := (1 : Int32)) X.1 X.2.1 dX5_advance_85 (by decide) ?_
            refine g_put (S' := tt_up S6 3 2 (1 : Int32)) X K (c_ap K) hw (by decide) tt_eRd rfl iT5 tyX5_ok nmX5 1 (by decide) q242 rfl rfl rfl (Nat.le_of_ble_eq_true rfl) (tt_sRd (k := 0) (by decide)) dX5_advance_86 (fun S22 H locs eS22 hw => ?_)
            refine lv_aload_n X.1 X.2.1 dX5_advance_89 rfl (lv_at hl 1 rfl) ?_
            refine c_callVV_s X K hw (k_X5_passLetters l G S22 (by subst ex5 eS6 ez7 ez9 eS22; rw [tt_up_ne (by omega), tt_up_ne (by omega)]; exact hI)) (g_cwV X hiX5_passLetters q622 q624 q18 q72 q625 ⟨(Nat.le_of_ble_eq_true rfl), (Nat.le_of_ble_eq_true rfl)⟩) (by decide) tt_eRd rfl rfl hl.1 rfl (Nat.le_of_ble_eq_true rfl) dX5_advance_90 ⟨(Nat.le_of_ble_eq_true rfl), (Nat.le_of_ble_eq_true rfl)⟩ (fun S23 H locs eS23 hw => ?_)
            refine lv_goto (tgt := 140) X.1 X.2.1 dX5_advance_93 (by decide) ?_
            have hR : S23 = tgt := by
              rw [← hF]
              subst ex5 eS6 ez7 ez9 eS22 eS23
              simp only [f5_advance_L8, if_pos c4, if_pos c8, if_neg c10]
            exact g_vret X hret hlk hw hR dX5_advance_140
        · refine lv_aload_n X.1 X.2.1 dX5_advance_69 rfl (lv_at hl 1 rfl) ?_
          refine lv_iconst (v := (0 : Int32)) X.1 X.2.1 dX5_advance_70 (by decide) ?_
          refine g_put (S' := tt_up S6 3 2 (0 : Int32)) X K (c_ap K) hw (by decide) tt_eRd rfl iT5 tyX5_ok nmX5 1 (by decide) q242 rfl rfl rfl (Nat.le_of_ble_eq_true rfl) (tt_sRd (k := 0) (by decide)) dX5_advance_71 (fun S24 H locs eS24 hw => ?_)
          refine lv_goto (tgt := 140) X.1 X.2.1 dX5_advance_74 (by decide) ?_
          have hR : S24 = tgt := by
            rw [← hF]
            subst ex5 eS6 ez7 eS24
            simp only [f5_advance_L8, if_pos c4, if_neg c8]
          exact g_vret X hret hlk hw hR dX5_advance_140
      · refine lv_aload_n X.1 X.2.1 dX5_advance_22 rfl (lv_at hl 0 rfl) ?_
        refine lv_aload_n X.1 X.2.1 dX5_advance_23 rfl (lv_at hl 0 rfl) ?_
        refine g_get (v := .int (S3 3 3)) X K hw (by decide) tt_eRd rfl iT5 2 (by decide) q243 rfl dX5_advance_24 ?_
        refine c_callVI_p X K hw (k_X5_byteAt l G S3 (S3 3 3) (hI)) (g_cwV X hiX5_byteAt q615 q617 q17 q72 q618 ⟨(Nat.le_of_ble_eq_true rfl), (Nat.le_of_ble_eq_true rfl)⟩) (by decide) tt_eRd rfl rfl hl.1 rfl (Nat.le_of_ble_eq_true rfl) dX5_advance_27 ⟨(Nat.le_of_ble_eq_true rfl), (Nat.le_of_ble_eq_true rfl)⟩ (fun z25 H locs ez25 hw => ?_)
        refine lv_bipush (v := (32 : Int32)) X.1 X.2.1 dX5_advance_30 (by decide) ?_
        refine lv_icmp_ne (tgt := 48) X.1 X.2.1 dX5_advance_32 (by decide) (fun c26 => ?_) (fun c26 => ?_)
        · refine lv_aload_n X.1 X.2.1 dX5_advance_48 rfl (lv_at hl 0 rfl) ?_
          refine lv_aload_n X.1 X.2.1 dX5_advance_49 rfl (lv_at hl 0 rfl) ?_
          refine g_get (v := .int (S3 3 3)) X K hw (by decide) tt_eRd rfl iT5 2 (by decide) q243 rfl dX5_advance_50 ?_
          refine lv_topi (fun x27 ex27 => ?_)
          refine g_put (S' := tt_up S3 3 4 x27) X K (c_ap K) hw (by decide) tt_eRd rfl iT5 tyX5_ok nmX5 3 (by decide) q244 rfl rfl rfl (Nat.le_of_ble_eq_true rfl) (tt_sRd (k := 2) (by decide)) dX5_advance_53 (fun S28 H locs eS28 hw => ?_)
          refine lv_aload_n X.1 X.2.1 dX5_advance_56 rfl (lv_at hl 0 rfl) ?_
          refine lv_aload_n X.1 X.2.1 dX5_advance_57 rfl (lv_at hl 0 rfl) ?_
          refine g_get (v := .int (S28 3 3)) X K hw (by decide) tt_eRd rfl iT5 2 (by decide) q243 rfl dX5_advance_58 ?_
          refine c_callVI_p X K hw (k_X5_byteAt l G S28 (S28 3 3) (by subst ez25 ex27 eS28; rw [tt_up_ne (by omega)]; exact hI)) (g_cwV X hiX5_byteAt q615 q617 q17 q72 q618 ⟨(Nat.le_of_ble_eq_true rfl), (Nat.le_of_ble_eq_true rfl)⟩) (by decide) tt_eRd rfl rfl hl.1 rfl (Nat.le_of_ble_eq_true rfl) dX5_advance_61 ⟨(Nat.le_of_ble_eq_true rfl), (Nat.le_of_ble_eq_true rfl)⟩ (fun z29 H locs ez29 hw => ?_)
          refine lv_istore_n (lv' := [(1, .int z29), (0, .ref (G.2.2 58))]) X.1 X.2.1 dX5_advance_64 rfl hl (by decide) rfl (fun ls hl => ?_)
          refine lv_iload_n X.1 X.2.1 dX5_advance_65 rfl (lv_at hl 0 rfl) ?_
          refine lv_if_ge (tgt := 77) X.1 X.2.1 dX5_advance_66 (by decide) (fun c30 => ?_) (fun c30 => ?_)
          · refine lv_iload_n X.1 X.2.1 dX5_advance_77 rfl (lv_at hl 0 rfl) ?_
            refine c_callSI_p X K hw (k_X5_isLetter l G S28 z29) (g_cwS X hiX5_isLetter q619 q620 q72 q621 ⟨(Nat.le_of_ble_eq_true rfl), (Nat.le_of_ble_eq_true rfl)⟩) rfl hl.1 rfl (Nat.le_of_ble_eq_true rfl) dX5_advance_78 ⟨(Nat.le_of_ble_eq_true rfl), (Nat.le_of_ble_eq_true rfl)⟩ (fun z31 H locs ez31 hw => ?_)
            refine lv_if_eq (tgt := 96) X.1 X.2.1 dX5_advance_81 (by decide) (fun c32 => ?_) (fun c32 => ?_)
            · refine lv_iload_n X.1 X.2.1 dX5_advance_96 rfl (lv_at hl 0 rfl) ?_
              refine c_callSI_p X K hw (k_X5_isDigit l G S28 z29) (g_cwS X hiX5_isDigit q626 q627 q72 q628 ⟨(Nat.le_of_ble_eq_true rfl), (Nat.le_of_ble_eq_true rfl)⟩) rfl hl.1 rfl (Nat.le_of_ble_eq_true rfl) dX5_advance_97 ⟨(Nat.le_of_ble_eq_true rfl), (Nat.le_of_ble_eq_true rfl)⟩ (fun z33 H locs ez33 hw => ?_)
              refine lv_if_eq (tgt := 115) X.1 X.2.1 dX5_advance_100 (by decide) (fun c34 => ?_) (fun c34 => ?_)
              · refine lv_aload_n X.1 X.2.1 dX5_advance_115 rfl (lv_at hl 1 rfl) ?_
                refine lv_iload_n X.1 X.2.1 dX5_advance_116 rfl (lv_at hl 0 rfl) ?_
                refine lv_bipush (v := (59 : Int32)) X.1 X.2.1 dX5_advance_117 (by decide) ?_
                refine lv_icmp_ne (tgt := 126) X.1 X.2.1 dX5_advance_119 (by decide) (fun c35 => ?_) (fun c35 => ?_)
                · refine lv_iconst (v := (4 : Int32)) X.1 X.2.1 dX5_advance_126 (by decide) ?_
                  refine g_put (S' := tt_up S28 3 2 (4 : Int32)) X K (c_ap K) hw (by decide) tt_eRd rfl iT5 tyX5_ok nmX5 1 (by decide) q242 rfl rfl rfl (Nat.le_of_ble_eq_true rfl) (tt_sRd (k := 0) (by decide)) dX5_advance_127 (fun S36 H locs eS36 hw => ?_)
                  refine lv_aload_n X.1 X.2.1 dX5_advance_130 rfl (lv_at hl 1 rfl) ?_
                  refine lv_aload_n X.1 X.2.1 dX5_advance_131 rfl (lv_at hl 1 rfl) ?_
                  refine g_get (v := .int (S36 3 3)) X K hw (by decide) tt_eRd rfl iT5 2 (by decide) q243 rfl dX5_advance_132 ?_
                  refine lv_iconst (v := (1 : Int32)) X.1 X.2.1 dX5_advance_135 (by decide) ?_
                  refine lv_iadd X.1 X.2.1 dX5_advance_136 ?_
                  refine lv_topi (fun x37 ex37 => ?_)
                  refine g_put (S' := tt_up S36 3 4 x37) X K (c_ap K) hw (by decide) tt_eRd rfl iT5 tyX5_ok nmX5 3 (by decide) q244 rfl rfl rfl (Nat.le_of_ble_eq_true rfl) (tt_sRd (k := 2) (by decide)) dX5_advance_137 (fun S38 H locs eS38 hw => ?_)
                  have hR : S38 = tgt := by
                    rw [← hF]
                    subst ez25 ex27 eS28 ez29 ez31 ez33 eS36 ex37 eS38
                    simp only [f5_advance_L8, if_neg c4, if_neg c26, if_pos c30, if_pos c32, if_pos c34, if_neg c35]
                  exact g_vret X hret hlk hw hR dX5_advance_140
                · refine lv_iconst (v := (3 : Int32)) X.1 X.2.1 dX5_advance_122 (by decide) ?_
                  refine lv_goto (tgt := 127) X.1 X.2.1 dX5_advance_123 (by decide) ?_
                  refine g_put (S' := tt_up S28 3 2 (3 : Int32)) X K (c_ap K) hw (by decide) tt_eRd rfl iT5 tyX5_ok nmX5 1 (by decide) q242 rfl rfl rfl (Nat.le_of_ble_eq_true rfl) (tt_sRd (k := 0) (by decide)) dX5_advance_127 (fun S39 H locs eS39 hw => ?_)
                  refine lv_aload_n X.1 X.2.1 dX5_advance_130 rfl (lv_at hl 1 rfl) ?_
                  refine lv_aload_n X.1 X.2.1 dX5_advance_131 rfl (lv_at hl 1 rfl) ?_
                  refine g_get (v := .int (S39 3 3)) X K hw (by decide) tt_eRd rfl iT5 2 (by decide) q243 rfl dX5_advance_132 ?_
                  refine lv_iconst (v := (1 : Int32)) X.1 X.2.1 dX5_advance_135 (by decide) ?_
                  refine lv_iadd X.1 X.2.1 dX5_advance_136 ?_
                  refine lv_topi (fun x40 ex40 => ?_)
                  refine g_put (S' := tt_up S39 3 4 x40) X K (c_ap K) hw (by decide) tt_eRd rfl iT5 tyX5_ok nmX5 3 (by decide) q244 rfl rfl rfl (Nat.le_of_ble_eq_true rfl) (tt_sRd (k := 2) (by decide)) dX5_advance_137 (fun S41 H locs eS41 hw => ?_)
                  have hR : S41 = tgt := by
                    rw [← hF]
                    subst ez25 ex27 eS28 ez29 ez31 ez33 eS39 ex40 eS41
                    simp only [f5_advance_L8, if_neg c4, if_neg c26, if_pos c30, if_pos c32, if_pos c34, if_pos c35]
                  exact g_vret X hret hlk hw hR dX5_advance_140
              · refine lv_aload_n X.1 X.2.1 dX5_advance_103 rfl (lv_at hl 1 rfl) ?_
                refine lv_iconst (v := (2 : Int32)) X.1 X.2.1 dX5_advance_104 (by decide) ?_
                refine g_put (S' := tt_up S28 3 2 (2 : Int32)) X K (c_ap K) hw (by decide) tt_eRd rfl iT5 tyX5_ok nmX5 1 (by decide) q242 rfl rfl rfl (Nat.le_of_ble_eq_true rfl) (tt_sRd (k := 0) (by decide)) dX5_advance_105 (fun S42 H locs eS42 hw => ?_)
                refine lv_aload_n X.1 X.2.1 dX5_advance_108 rfl (lv_at hl 1 rfl) ?_
                refine c_callVV_s X K hw (k_X5_passDigits l G S42 (by subst ez25 ex27 eS28 ez29 ez31 ez33 eS42; rw [tt_up_ne (by omega), tt_up_ne (by omega)]; exact hI)) (g_cwV X hiX5_passDigits q629 q631 q19 q72 q632 ⟨(Nat.le_of_ble_eq_true rfl), (Nat.le_of_ble_eq_true rfl)⟩) (by decide) tt_eRd rfl rfl hl.1 rfl (Nat.le_of_ble_eq_true rfl) dX5_advance_109 ⟨(Nat.le_of_ble_eq_true rfl), (Nat.le_of_ble_eq_true rfl)⟩ (fun S43 H locs eS43 hw => ?_)
                refine lv_goto (tgt := 140) X.1 X.2.1 dX5_advance_112 (by decide) ?_
                have hR : S43 = tgt := by
                  rw [← hF]
                  subst ez25 ex27 eS28 ez29 ez31 ez33 eS42 eS43
                  simp only [f5_advance_L8, if_neg c4, if_neg c26, if_pos c30, if_pos c32, if_neg c34]
                exact g_vret X hret hlk hw hR dX5_advance_140
            · refine lv_aload_n X.1 X.2.1 dX5_advance_84 rfl (lv_at hl 1 rfl) ?_
              refine lv_iconst (v := (1 : Int32)) X.1 X.2.1 dX5_advance_85 (by decide) ?_
              refine g_put (S' := tt_up S28 3 2 (1 : Int32)) X K (c_ap K) hw (by decide) tt_eRd rfl iT5 tyX5_ok nmX5 1 (by decide) q242 rfl rfl rfl (Nat.le_of_ble_eq_true rfl) (tt_sRd (k := 0) (by decide)) dX5_advance_86 (fun S44 H locs eS44 hw => ?_)
              refine lv_aload_n X.1 X.2.1 dX5_advance_89 rfl (lv_at hl 1 rfl) ?_
              refine c_callVV_s X K hw (k_X5_passLetters l G S44 (by subst ez25 ex27 eS28 ez29 ez31 eS44; rw [tt_up_ne (by omega), tt_up_ne (by omega)]; exact hI)) (g_cwV X hiX5_passLetters q622 q624 q18 q72 q625 ⟨(Nat.le_of_ble_eq_true rfl), (Nat.le_of_ble_eq_true rfl)⟩) (by decide) tt_eRd rfl rfl hl.1 rfl (Nat.le_of_ble_eq_true rfl) dX5_advance_90 ⟨(Nat.le_of_ble_eq_true rfl), (Nat.le_of_ble_eq_true rfl)⟩ (fun S45 H locs eS45 hw => ?_)
              refine lv_goto (tgt := 140) X.1 X.2.1 dX5_advance_93 (by decide) ?_
              have hR : S45 = tgt := by
                rw [← hF]
                subst ez25 ex27 eS28 ez29 ez31 eS44 eS45
                simp only [f5_advance_L8, if_neg c4, if_neg c26, if_pos c30, if_neg c32]
              exact g_vret X hret hlk hw hR dX5_advance_140
          · refine lv_aload_n X.1 X.2.1 dX5_advance_69 rfl (lv_at hl 1 rfl) ?_
            refine lv_iconst (v := (0 : Int32)) X.1 X.2.1 dX5_advance_70 (by decide) ?_
            refine g_put (S' := tt_up S28 3 2 (0 : Int32)) X K (c_ap K) hw (by decide) tt_eRd rfl iT5 tyX5_ok nmX5 1 (by decide) q242 rfl rfl rfl (Nat.le_of_ble_eq_true rfl) (tt_sRd (k := 0) (by decide)) dX5_advance_71 (fun S46 H locs eS46 hw => ?_)
            refine lv_goto (tgt := 140) X.1 X.2.1 dX5_advance_74 (by decide) ?_
            have hR : S46 = tgt := by
              rw [← hF]
              subst ez25 ex27 eS28 ez29 eS46
              simp only [f5_advance_L8, if_neg c4, if_neg c26, if_neg c30]
            exact g_vret X hret hlk hw hR dX5_advance_140
        · refine lv_aload_n X.1 X.2.1 dX5_advance_35 rfl (lv_at hl 0 rfl) ?_
          refine lv_dup X.1 X.2.1 dX5_advance_36 rfl ?_
          refine g_get (v := .int (S3 3 3)) X K hw (by decide) tt_eRd rfl iT5 2 (by decide) q243 rfl dX5_advance_37 ?_
          refine lv_iconst (v := (1 : Int32)) X.1 X.2.1 dX5_advance_40 (by decide) ?_
          refine lv_iadd X.1 X.2.1 dX5_advance_41 ?_
          refine lv_topi (fun x47 ex47 => ?_)
          refine g_put (S' := tt_up S3 3 3 x47) X K (c_ap K) hw (by decide) tt_eRd rfl iT5 tyX5_ok nmX5 2 (by decide) q243 rfl rfl rfl (Nat.le_of_ble_eq_true rfl) (tt_sRd (k := 1) (by decide)) dX5_advance_42 (fun S48 H locs eS48 hw => ?_)
          refine lv_goto (tgt := 8) X.1 X.2.1 dX5_advance_45 (by decide) ?_
          have hF2 : f5_advance_L8 n S48 = tgt := by
            rw [← hF]
            subst ez25 ex47 eS48
            simp only [f5_advance_L8, if_neg c4, if_pos c26]
          exact ih S48 _ _ ls (by subst ez25 ex47 eS48; rw [tt_up_ne (by omega)]; exact hI) (by subst ez25 ex47 eS48; rw [tt_up_ne (by omega), tt_up_self]; exact lp_dec' c4 hm) hF2 hw (lv_sub hl [0] rfl)
  have hF2 : f5_advance_L8 (lp_mu (S2 3 1) (S2 3 3) + 1) S2 = tgt := by
    rw [← hF]
    subst ex1 eS2
    simp only [f5_advance]
  exact j8 (lp_mu (S2 3 1) (S2 3 3) + 1) S2 _ _ ls (by subst ex1 eS2; rw [tt_up_ne (by omega)]; exact hp0) (Nat.lt_succ_self _) hF2 hw (lv_sub hl [0] rfl)
set_option maxHeartbeats 4000000 in
set_option maxRecDepth 10000 in
theorem k_X5_wordOfKind (l : Launch) (G : tt_G) (S : tt_St) (a0 : Int32) : c_MR l G yX5_wordOfKind (g_code yX5_wordOfKind cX5_wordOfKind 1 (some (FieldType.object "java/lang/String"))) 0 0 [.int a0] S (G.2.2 (110 + f5_wordOfKind a0)) S := by
  generalize hF : f5_wordOfKind a0 = tgt
  refine g_begin rfl (Nat.le_of_ble_eq_true rfl) _ (fun p e s m below meth c ls X hret hlk hB hl => ?_)
  obtain ⟨hP0, K⟩ := hB
  have hw : c_W G S s s.heap [] := ⟨hP0, va_S.rf⟩
  have X : CallFix p m c cX5_wordOfKind 1 s ([.int a0] : List Value).toArray tt_T "TrustTin$TextReader" := X
  have hl : lv_has ls 1 [(0, .int a0)] := hl
  refine lv_iload_n X.1 X.2.1 dX5_wordOfKind_0 rfl (lv_at hl 0 rfl) ?_
  by_cases c1 : a0 = (0 : Int32)
  · refine lv_tableIn (tgt := 40) X.1 X.2.1 dX5_wordOfKind_1 (by rw [c1]; decide) (by rw [c1]; decide) (by rw [c1]; rfl) (by decide) ?_
    refine va_ldcS X.1 X.2.1 X.2.2.2.1 (K.2.2.2.1.2 0 (by decide)) dX5_wordOfKind_40 ?_
    have hR : 0 = tgt := by
      rw [← hF]
      simp only [f5_wordOfKind, if_pos c1]
    exact g_aret X hret hlk hw (congrArg (fun z => G.2.2 (110 + z)) hR) rfl dX5_wordOfKind_42
  by_cases c2 : a0 = (1 : Int32)
  · refine lv_tableIn (tgt := 43) X.1 X.2.1 dX5_wordOfKind_1 (by rw [c2]; decide) (by rw [c2]; decide) (by rw [c2]; rfl) (by decide) ?_
    refine va_ldcS X.1 X.2.1 X.2.2.2.1 (K.2.2.2.1.2 1 (by decide)) dX5_wordOfKind_43 ?_
    have hR : 1 = tgt := by
      rw [← hF]
      simp only [f5_wordOfKind, if_neg c1, if_pos c2]
    exact g_aret X hret hlk hw (congrArg (fun z => G.2.2 (110 + z)) hR) rfl dX5_wordOfKind_45
  by_cases c3 : a0 = (2 : Int32)
  · refine lv_tableIn (tgt := 46) X.1 X.2.1 dX5_wordOfKind_1 (by rw [c3]; decide) (by rw [c3]; decide) (by rw [c3]; rfl) (by decide) ?_
    refine va_ldcS X.1 X.2.1 X.2.2.2.1 (K.2.2.2.1.2 2 (by decide)) dX5_wordOfKind_46 ?_
    have hR : 2 = tgt := by
      rw [← hF]
      simp only [f5_wordOfKind, if_neg c1, if_neg c2, if_pos c3]
    exact g_aret X hret hlk hw (congrArg (fun z => G.2.2 (110 + z)) hR) rfl dX5_wordOfKind_48
  by_cases c4 : a0 = (3 : Int32)
  · refine lv_tableIn (tgt := 49) X.1 X.2.1 dX5_wordOfKind_1 (by rw [c4]; decide) (by rw [c4]; decide) (by rw [c4]; rfl) (by decide) ?_
    refine va_ldcS X.1 X.2.1 X.2.2.2.1 (K.2.2.2.1.2 3 (by decide)) dX5_wordOfKind_49 ?_
    have hR : 3 = tgt := by
      rw [← hF]
      simp only [f5_wordOfKind, if_neg c1, if_neg c2, if_neg c3, if_pos c4]
    exact g_aret X hret hlk hw (congrArg (fun z => G.2.2 (110 + z)) hR) rfl dX5_wordOfKind_51
  by_cases c5 : a0 = (4 : Int32)
  · refine lv_tableIn (tgt := 52) X.1 X.2.1 dX5_wordOfKind_1 (by rw [c5]; decide) (by rw [c5]; decide) (by rw [c5]; rfl) (by decide) ?_
    refine va_ldcS X.1 X.2.1 X.2.2.2.1 (K.2.2.2.1.2 4 (by decide)) dX5_wordOfKind_52 ?_
    have hR : 4 = tgt := by
      rw [← hF]
      simp only [f5_wordOfKind, if_neg c1, if_neg c2, if_neg c3, if_neg c4, if_pos c5]
    exact g_aret X hret hlk hw (congrArg (fun z => G.2.2 (110 + z)) hR) rfl dX5_wordOfKind_54
  by_cases c6 : a0 = (5 : Int32)
  · refine lv_tableIn (tgt := 55) X.1 X.2.1 dX5_wordOfKind_1 (by rw [c6]; decide) (by rw [c6]; decide) (by rw [c6]; rfl) (by decide) ?_
    refine va_ldcS X.1 X.2.1 X.2.2.2.1 (K.2.2.2.1.2 5 (by decide)) dX5_wordOfKind_55 ?_
    have hR : 5 = tgt := by
      rw [← hF]
      simp only [f5_wordOfKind, if_neg c1, if_neg c2, if_neg c3, if_neg c4, if_neg c5, if_pos c6]
    exact g_aret X hret hlk hw (congrArg (fun z => G.2.2 (110 + z)) hR) rfl dX5_wordOfKind_57
  refine lv_tableOut (tgt := 58) X.1 X.2.1 dX5_wordOfKind_1 (by have := lv_neT (a := 0) c1 rfl; have := lv_neT (a := 1) c2 rfl; have := lv_neT (a := 2) c3 rfl; have := lv_neT (a := 3) c4 rfl; have := lv_neT (a := 4) c5 rfl; have := lv_neT (a := 5) c6 rfl; omega) (by decide) ?_
  refine va_ldcS X.1 X.2.1 X.2.2.2.1 (K.2.2.2.1.2 6 (by decide)) dX5_wordOfKind_58 ?_
  have hR : 6 = tgt := by
    rw [← hF]
    simp only [f5_wordOfKind, if_neg c1, if_neg c2, if_neg c3, if_neg c4, if_neg c5, if_neg c6]
  exact g_aret X hret hlk hw (congrArg (fun z => G.2.2 (110 + z)) hR) rfl dX5_wordOfKind_60
set_option maxHeartbeats 4000000 in
set_option maxRecDepth 10000 in
theorem k_X5_isWord (l : Launch) (G : tt_G) (S : tt_St) (i : Nat) (hi : i < 15) (hp0 : (S 3 1).toInt ≤ 120) : c_MI l G yX5_isWord (g_code yX5_isWord cX5_isWord 3 (some FieldType.boolean)) 4 86 [.ref (G.2.2 58), .ref (G.2.2 (110 + i))] S (f5_isWord S i) S := by
  generalize hF : f5_isWord S i = tgt
  refine g_begin rfl (Nat.le_of_ble_eq_true rfl) _ (fun p e s m below meth c ls X hret hlk hB hl => ?_)
  obtain ⟨hP0, K⟩ := hB
  have hw : c_W G S s s.heap [] := ⟨hP0, va_S.rf⟩
  have X : CallFix p m c cX5_isWord 3 s ([.ref (G.2.2 58), .ref (G.2.2 (110 + i))] : List Value).toArray tt_T "TrustTin$TextReader" := X
  have hl : lv_has ls 3 [(0, .ref (G.2.2 58)), (1, .ref (G.2.2 (110 + i)))] := hl
  refine lv_aload_n X.1 X.2.1 dX5_isWord_0 rfl (lv_at hl 0 rfl) ?_
  refine g_get (v := .int (S 3 2)) X K hw (by decide) tt_eRd rfl iT5 1 (by decide) q242 rfl dX5_isWord_1 ?_
  refine lv_iconst (v := (1 : Int32)) X.1 X.2.1 dX5_isWord_4 (by decide) ?_
  refine lv_icmp_ne (tgt := 24) X.1 X.2.1 dX5_isWord_5 (by decide) (fun c1 => ?_) (fun c1 => ?_)
  · refine lv_iconst (v := (0 : Int32)) X.1 X.2.1 dX5_isWord_24 (by decide) ?_
    have hR : (0 : Int32) = tgt := by
      rw [← hF]
      simp only [f5_isWord, if_neg c1]
    exact g_zret X hret hlk hw rfl hR rfl dX5_isWord_25
  · refine lv_aload_n X.1 X.2.1 dX5_isWord_8 rfl (lv_at hl 0 rfl) ?_
    refine g_get (v := .int (S 3 4)) X K hw (by decide) tt_eRd rfl iT5 3 (by decide) q244 rfl dX5_isWord_9 ?_
    refine lv_aload_n X.1 X.2.1 dX5_isWord_12 rfl (lv_at hl 0 rfl) ?_
    refine g_get (v := .int (S 3 3)) X K hw (by decide) tt_eRd rfl iT5 2 (by decide) q243 rfl dX5_isWord_13 ?_
    refine lv_isub X.1 X.2.1 dX5_isWord_16 ?_
    refine lv_aload_n X.1 X.2.1 dX5_isWord_17 rfl (lv_at hl 1 rfl) ?_
    refine c_callStr X K hw (k_J0_length l G S i hi) (g_cwV X hiJ0_length_8abf5 q656 q657 q658 q78 q659 ⟨(Nat.le_of_ble_eq_true rfl), (Nat.le_of_ble_eq_true rfl)⟩) hi rfl hl.1 rfl (Nat.le_of_ble_eq_true rfl) dX5_isWord_18 ⟨(Nat.le_of_ble_eq_true rfl), (Nat.le_of_ble_eq_true rfl)⟩ (fun z2 H locs ez2 hw => ?_)
    refine lv_icmp_eq (tgt := 26) X.1 X.2.1 dX5_isWord_21 (by decide) (fun c3 => ?_) (fun c3 => ?_)
    · refine lv_iconst (v := (0 : Int32)) X.1 X.2.1 dX5_isWord_26 (by decide) ?_
      refine lv_istore_n (lv' := [(2, .int (0 : Int32)), (0, .ref (G.2.2 58)), (1, .ref (G.2.2 (110 + i)))]) X.1 X.2.1 dX5_isWord_27 rfl hl (by decide) rfl (fun ls hl => ?_)
      have j28 : ∀ (n : Nat) (y2_28 : Int32) (H : Heap) (locs : List Loc) (ls : Array Slot), (¬ y2_28 < 0) → lp_mu (nI (tt_len.getD i 0)) y2_28 < n → f5_isWord_L28 S i n y2_28 = tgt → c_W G S s H locs → lv_has ls 3 [(0, .ref (G.2.2 58)), (1, .ref (G.2.2 (110 + i))), (2, .int y2_28)] → W p l e (g_rm 4 86) s m ([.ref (G.2.2 58), .ref (G.2.2 (110 + i))] : List Value).toArray below meth c H locs 0 0 (MQ below (va_Qi (fun r T => r = tgt ∧ T = S) (g_Post G 62 G.2.2 (tt_cell G)) (g_in 62 G.2.2)) ([.ref (G.2.2 58), .ref (G.2.2 (110 + i))] : List Value).toArray s 0 0 (g_in 62 G.2.2)) (F0 m 28 ls []) := by
        intro n
        induction n with
        | zero => intro y2_28 H locs ls hI hm; exact absurd hm (Nat.not_lt_zero _)
        | succ n ih =>
          intro y2_28 H locs ls hI hm hF hw hl
          refine lv_iload_n X.1 X.2.1 dX5_isWord_28 rfl (lv_at hl 2 rfl) ?_
          refine lv_aload_n X.1 X.2.1 dX5_isWord_29 rfl (lv_at hl 1 rfl) ?_
          refine c_callStr X K hw (k_J0_length l G S i hi) (g_cwV X hiJ0_length_8abf5 q656 q657 q658 q78 q659 ⟨(Nat.le_of_ble_eq_true rfl), (Nat.le_of_ble_eq_true rfl)⟩) hi rfl hl.1 rfl (Nat.le_of_ble_eq_true rfl) dX5_isWord_30 ⟨(Nat.le_of_ble_eq_true rfl), (Nat.le_of_ble_eq_true rfl)⟩ (fun z4 H locs ez4 hw => ?_)
          refine lv_icmp_ge (tgt := 62) X.1 X.2.1 dX5_isWord_33 (by decide) (fun c5 => ?_) (fun c5 => ?_)
          · refine lv_iconst (v := (1 : Int32)) X.1 X.2.1 dX5_isWord_62 (by decide) ?_
            have hR : (1 : Int32) = tgt := by
              rw [← hF]
              subst ez4
              simp only [f5_isWord_L28, if_pos c5]
            exact g_zret X hret hlk hw rfl hR rfl dX5_isWord_63
          · refine lv_aload_n X.1 X.2.1 dX5_isWord_36 rfl (lv_at hl 0 rfl) ?_
            refine lv_aload_n X.1 X.2.1 dX5_isWord_37 rfl (lv_at hl 0 rfl) ?_
            refine g_get (v := .int (S 3 3)) X K hw (by decide) tt_eRd rfl iT5 2 (by decide) q243 rfl dX5_isWord_38 ?_
            refine lv_iload_n X.1 X.2.1 dX5_isWord_41 rfl (lv_at hl 2 rfl) ?_
            refine lv_iadd X.1 X.2.1 dX5_isWord_42 ?_
            refine c_callVI_p X K hw (k_X5_byteAt l G S ((S 3 3) + y2_28) (hp0)) (g_cwV X hiX5_byteAt q615 q617 q17 q72 q618 ⟨(Nat.le_of_ble_eq_true rfl), (Nat.le_of_ble_eq_true rfl)⟩) (by decide) tt_eRd rfl rfl hl.1 rfl (Nat.le_of_ble_eq_true rfl) dX5_isWord_43 ⟨(Nat.le_of_ble_eq_true rfl), (Nat.le_of_ble_eq_true rfl)⟩ (fun z6 H locs ez6 hw => ?_)
            refine lv_aload_n X.1 X.2.1 dX5_isWord_46 rfl (lv_at hl 1 rfl) ?_
            refine lv_iload_n X.1 X.2.1 dX5_isWord_47 rfl (lv_at hl 2 rfl) ?_
            have hi8 : vp_in y2_28 (tt_len.getD i 0) := by have hg := c5; rw [ez4] at hg; exact lp_in hI hg (wl_le hi)
            refine c_callStr X K hw (k_J0_charAt l G S i y2_28 hi hi8) (g_cwV X hiJ0_charAt_5068e q666 q667 q668 q78 q669 ⟨(Nat.le_of_ble_eq_true rfl), (Nat.le_of_ble_eq_true rfl)⟩) hi rfl hl.1 rfl (Nat.le_of_ble_eq_true rfl) dX5_isWord_48 ⟨(Nat.le_of_ble_eq_true rfl), (Nat.le_of_ble_eq_true rfl)⟩ (fun z7 H locs ez7 hw => ?_)
            refine lv_icmp_eq (tgt := 56) X.1 X.2.1 dX5_isWord_51 (by decide) (fun c9 => ?_) (fun c9 => ?_)
            · obtain ⟨x10, ex10⟩ : ∃ y : Int32, y = y2_28 + (1 : Int32) := ⟨_, rfl⟩
              refine lv_iinc (v := x10) (lv' := [(2, .int x10), (0, .ref (G.2.2 58)), (1, .ref (G.2.2 (110 + i)))]) X.1 X.2.1 dX5_isWord_56 hl (k := 2) rfl (by rw [ex10]; rfl) (by decide) rfl (fun ls hl => ?_)
              refine lv_goto (tgt := 28) X.1 X.2.1 dX5_isWord_59 (by decide) ?_
              have hF2 : f5_isWord_L28 S i n x10 = tgt := by
                rw [← hF]
                subst ez4 ez6 ez7 ex10
                simp only [f5_isWord_L28, if_neg c5, if_pos c9]
              exact ih x10 _ _ ls (by rw [ex10]; exact lp_nn hI c5) (by have hg := c5; rw [ez4] at hg; rw [ex10]; exact lp_dec' hg hm) hF2 hw (lv_sub hl [1, 2, 0] rfl)
            · refine lv_iconst (v := (0 : Int32)) X.1 X.2.1 dX5_isWord_54 (by decide) ?_
              have hR : (0 : Int32) = tgt := by
                rw [← hF]
                subst ez4 ez6 ez7
                simp only [f5_isWord_L28, if_neg c5, if_neg c9]
              exact g_zret X hret hlk hw rfl hR rfl dX5_isWord_55
      have hF2 : f5_isWord_L28 S i (lp_mu (nI (tt_len.getD i 0)) 0 + 1) (0 : Int32) = tgt := by
        rw [← hF]
        subst ez2
        simp only [f5_isWord, if_pos c1, if_pos c3]
      exact j28 (lp_mu (nI (tt_len.getD i 0)) 0 + 1) (0 : Int32) _ _ ls (by decide) (Nat.lt_succ_self _) hF2 hw (lv_sub hl [1, 2, 0] rfl)
    · refine lv_iconst (v := (0 : Int32)) X.1 X.2.1 dX5_isWord_24 (by decide) ?_
      have hR : (0 : Int32) = tgt := by
        rw [← hF]
        subst ez2
        simp only [f5_isWord, if_pos c1, if_neg c3]
      exact g_zret X hret hlk hw rfl hR rfl dX5_isWord_25
set_option maxHeartbeats 4000000 in
set_option maxRecDepth 10000 in
theorem k_X5_kindOfWord (l : Launch) (G : tt_G) (S : tt_St) (hp0 : (S 3 1).toInt ≤ 120) : c_MI l G yX5_kindOfWord (g_code yX5_kindOfWord cX5_kindOfWord 2 (some FieldType.int)) 5 108 [.ref (G.2.2 58)] S (f5_kindOfWord S) S := by
  generalize hF : f5_kindOfWord S = tgt
  refine g_begin rfl (Nat.le_of_ble_eq_true rfl) _ (fun p e s m below meth c ls X hret hlk hB hl => ?_)
  obtain ⟨hP0, K⟩ := hB
  have hw : c_W G S s s.heap [] := ⟨hP0, va_S.rf⟩
  have X : CallFix p m c cX5_kindOfWord 2 s ([.ref (G.2.2 58)] : List Value).toArray tt_T "TrustTin$TextReader" := X
  have hl : lv_has ls 2 [(0, .ref (G.2.2 58))] := hl
  refine lv_iconst (v := (0 : Int32)) X.1 X.2.1 dX5_kindOfWord_0 (by decide) ?_
  refine lv_istore_n (lv' := [(1, .int (0 : Int32)), (0, .ref (G.2.2 58))]) X.1 X.2.1 dX5_kindOfWord_1 rfl hl (by decide) rfl (fun ls hl => ?_)
  have j2 : ∀ (n : Nat) (y1_2 : Int32) (H : Heap) (locs : List Loc) (ls : Array Slot), (¬ y1_2 < 0) → lp_mu (7 : Int32) y1_2 < n → f5_kindOfWord_L2 S n y1_2 = tgt → c_W G S s H locs → lv_has ls 2 [(0, .ref (G.2.2 58)), (1, .int y1_2)] → W p l e (g_rm 5 108) s m ([.ref (G.2.2 58)] : List Value).toArray below meth c H locs 0 0 (MQ below (va_Qi (fun r T => r = tgt ∧ T = S) (g_Post G 62 G.2.2 (tt_cell G)) (g_in 62 G.2.2)) ([.ref (G.2.2 58)] : List Value).toArray s 0 0 (g_in 62 G.2.2)) (F0 m 2 ls []) := by
    intro n
    induction n with
    | zero => intro y1_2 H locs ls hI hm; exact absurd hm (Nat.not_lt_zero _)
    | succ n ih =>
      intro y1_2 H locs ls hI hm hF hw hl
      refine lv_iload_n X.1 X.2.1 dX5_kindOfWord_2 rfl (lv_at hl 1 rfl) ?_
      refine lv_bipush (v := (7 : Int32)) X.1 X.2.1 dX5_kindOfWord_3 (by decide) ?_
      refine lv_icmp_ge (tgt := 27) X.1 X.2.1 dX5_kindOfWord_5 (by decide) (fun c1 => ?_) (fun c1 => ?_)
      · refine lv_iconst (v := (-1 : Int32)) X.1 X.2.1 dX5_kindOfWord_27 (by decide) ?_
        have hR : (-1 : Int32) = tgt := by
          rw [← hF]
          simp only [f5_kindOfWord_L2, if_pos c1]
        exact g_iret X hret hlk hw hR rfl dX5_kindOfWord_28
      · refine lv_aload_n X.1 X.2.1 dX5_kindOfWord_8 rfl (lv_at hl 0 rfl) ?_
        refine lv_iload_n X.1 X.2.1 dX5_kindOfWord_9 rfl (lv_at hl 1 rfl) ?_
        refine c_callSR_p X K hw (k_X5_wordOfKind l G S y1_2) (g_cwS X hiX5_wordOfKind q642 q643 q72 q644 ⟨(Nat.le_of_ble_eq_true rfl), (Nat.le_of_ble_eq_true rfl)⟩) rfl hl.1 rfl (Nat.le_of_ble_eq_true rfl) dX5_kindOfWord_10 ⟨(Nat.le_of_ble_eq_true rfl), (Nat.le_of_ble_eq_true rfl)⟩ (fun H locs hw => ?_)
        have hd2 : f5_wordOfKind y1_2 < 15 := wk15 _
        refine c_callVI_p X K hw (k_X5_isWord l G S (f5_wordOfKind y1_2) hd2 (hp0)) (g_cwV X hiX5_isWord q652 q654 q22 q72 q655 ⟨(Nat.le_of_ble_eq_true rfl), (Nat.le_of_ble_eq_true rfl)⟩) (by decide) tt_eRd rfl rfl hl.1 rfl (Nat.le_of_ble_eq_true rfl) dX5_kindOfWord_13 ⟨(Nat.le_of_ble_eq_true rfl), (Nat.le_of_ble_eq_true rfl)⟩ (fun z3 H locs ez3 hw => ?_)
        refine lv_if_eq (tgt := 21) X.1 X.2.1 dX5_kindOfWord_16 (by decide) (fun c4 => ?_) (fun c4 => ?_)
        · obtain ⟨x5, ex5⟩ : ∃ y : Int32, y = y1_2 + (1 : Int32) := ⟨_, rfl⟩
          refine lv_iinc (v := x5) (lv' := [(1, .int x5), (0, .ref (G.2.2 58))]) X.1 X.2.1 dX5_kindOfWord_21 hl (k := 1) rfl (by rw [ex5]; rfl) (by decide) rfl (fun ls hl => ?_)
          refine lv_goto (tgt := 2) X.1 X.2.1 dX5_kindOfWord_24 (by decide) ?_
          have hF2 : f5_kindOfWord_L2 S n x5 = tgt := by
            rw [← hF]
            subst ez3 ex5
            simp only [f5_kindOfWord_L2, if_neg c1, if_pos c4]
          exact ih x5 _ _ ls (by rw [ex5]; exact lp_nn hI c1) (by rw [ex5]; exact lp_dec' c1 hm) hF2 hw (lv_sub hl [1, 0] rfl)
        · refine lv_iload_n X.1 X.2.1 dX5_kindOfWord_19 rfl (lv_at hl 1 rfl) ?_
          have hR : y1_2 = tgt := by
            rw [← hF]
            subst ez3
            simp only [f5_kindOfWord_L2, if_neg c1, if_neg c4]
          exact g_iret X hret hlk hw hR rfl dX5_kindOfWord_20
  have hF2 : f5_kindOfWord_L2 S (lp_mu (7 : Int32) 0 + 1) (0 : Int32) = tgt := by
    rw [← hF]
    simp only [f5_kindOfWord]
  exact j2 (lp_mu (7 : Int32) 0 + 1) (0 : Int32) _ _ ls (by decide) (Nat.lt_succ_self _) hF2 hw (lv_sub hl [1, 0] rfl)
set_option maxHeartbeats 4000000 in
set_option maxRecDepth 10000 in
theorem k_X6_within (l : Launch) (G : tt_G) (S : tt_St) (a0 : Int32) (a1 : Int32) (a2 : Int32) : c_MI l G yX6_within (g_code yX6_within cX6_within 3 (some FieldType.boolean)) 0 0 [.int a0, .int a1, .int a2] S (f6_within a0 a1 a2) S := by
  generalize hF : f6_within a0 a1 a2 = tgt
  refine g_begin rfl (Nat.le_of_ble_eq_true rfl) _ (fun p e s m below meth c ls X hret hlk hB hl => ?_)
  obtain ⟨hP0, K⟩ := hB
  have hw : c_W G S s s.heap [] := ⟨hP0, va_S.rf⟩
  have X : CallFix p m c cX6_within 3 s ([.int a0, .int a1, .int a2] : List Value).toArray tt_T "TrustTin" := X
  have hl : lv_has ls 3 [(0, .int a0), (1, .int a1), (2, .int a2)] := hl
  refine lv_iload_n X.1 X.2.1 dX6_within_0 rfl (lv_at hl 0 rfl) ?_
  refine lv_iload_n X.1 X.2.1 dX6_within_1 rfl (lv_at hl 1 rfl) ?_
  refine lv_icmp_lt (tgt := 14) X.1 X.2.1 dX6_within_2 (by decide) (fun c1 => ?_) (fun c1 => ?_)
  · refine lv_iconst (v := (0 : Int32)) X.1 X.2.1 dX6_within_14 (by decide) ?_
    have hR : (0 : Int32) = tgt := by
      rw [← hF]
      simp only [f6_within, if_pos c1]
    exact g_zret X hret hlk hw rfl hR rfl dX6_within_15
  · refine lv_iload_n X.1 X.2.1 dX6_within_5 rfl (lv_at hl 0 rfl) ?_
    refine lv_iload_n X.1 X.2.1 dX6_within_6 rfl (lv_at hl 2 rfl) ?_
    refine lv_icmp_gt (tgt := 14) X.1 X.2.1 dX6_within_7 (by decide) (fun c2 => ?_) (fun c2 => ?_)
    · refine lv_iconst (v := (0 : Int32)) X.1 X.2.1 dX6_within_14 (by decide) ?_
      have hR : (0 : Int32) = tgt := by
        rw [← hF]
        simp only [f6_within, if_neg c1, if_pos c2]
      exact g_zret X hret hlk hw rfl hR rfl dX6_within_15
    · refine lv_iconst (v := (1 : Int32)) X.1 X.2.1 dX6_within_10 (by decide) ?_
      refine lv_goto (tgt := 15) X.1 X.2.1 dX6_within_11 (by decide) ?_
      have hR : (1 : Int32) = tgt := by
        rw [← hF]
        simp only [f6_within, if_neg c1, if_neg c2]
      exact g_zret X hret hlk hw rfl hR rfl dX6_within_15
set_option maxHeartbeats 4000000 in
set_option maxRecDepth 10000 in
theorem k_X5_takeNumber (l : Launch) (G : tt_G) (S : tt_St) (a1 : Int32) (a2 : Int32) (hp0 : (S 3 1).toInt ≤ 120) : c_MI l G yX5_takeNumber (g_code yX5_takeNumber cX5_takeNumber 3 (some FieldType.boolean)) 3 71 [.ref (G.2.2 58), .int a1, .int a2] S ((f5_takeNumber S a1 a2).1) ((f5_takeNumber S a1 a2).2) := by
  generalize hF : f5_takeNumber S a1 a2 = tgt
  refine g_begin rfl (Nat.le_of_ble_eq_true rfl) _ (fun p e s m below meth c ls X hret hlk hB hl => ?_)
  obtain ⟨hP0, K⟩ := hB
  have hw : c_W G S s s.heap [] := ⟨hP0, va_S.rf⟩
  have X : CallFix p m c cX5_takeNumber 3 s ([.ref (G.2.2 58), .int a1, .int a2] : List Value).toArray tt_T "TrustTin$TextReader" := X
  have hl : lv_has ls 3 [(0, .ref (G.2.2 58)), (1, .int a1), (2, .int a2)] := hl
  refine lv_aload_n X.1 X.2.1 dX5_takeNumber_0 rfl (lv_at hl 0 rfl) ?_
  refine g_get (v := .int (S 3 2)) X K hw (by decide) tt_eRd rfl iT5 1 (by decide) q242 rfl dX5_takeNumber_1 ?_
  refine lv_iconst (v := (2 : Int32)) X.1 X.2.1 dX5_takeNumber_4 (by decide) ?_
  refine lv_icmp_ne (tgt := 20) X.1 X.2.1 dX5_takeNumber_5 (by decide) (fun c1 => ?_) (fun c1 => ?_)
  · refine lv_iconst (v := (0 : Int32)) X.1 X.2.1 dX5_takeNumber_20 (by decide) ?_
    have hR : ((0 : Int32), S) = tgt := by
      rw [← hF]
      simp only [f5_takeNumber, if_neg c1]
    have hRR : (0 : Int32) = tgt.1 := pr1 hR
    have hRS : S = tgt.2 := pr2 hR
    exact g_zret X hret hlk hw rfl hRR hRS dX5_takeNumber_21
  · refine lv_aload_n X.1 X.2.1 dX5_takeNumber_8 rfl (lv_at hl 0 rfl) ?_
    refine g_get (v := .int (S 3 5)) X K hw (by decide) tt_eRd rfl iT5 4 (by decide) q245 rfl dX5_takeNumber_9 ?_
    refine lv_iload_n X.1 X.2.1 dX5_takeNumber_12 rfl (lv_at hl 1 rfl) ?_
    refine lv_iload_n X.1 X.2.1 dX5_takeNumber_13 rfl (lv_at hl 2 rfl) ?_
    refine c_callSN X K hw (k_X6_within l G S (S 3 5) a1 a2) hiX6_within q310 q67 q311 ⟨(Nat.le_of_ble_eq_true rfl), (Nat.le_of_ble_eq_true rfl)⟩ rfl hl.1 rfl (Nat.le_of_ble_eq_true rfl) dX5_takeNumber_14 ⟨(Nat.le_of_ble_eq_true rfl), (Nat.le_of_ble_eq_true rfl)⟩ (fun z2 H locs ez2 hw => ?_)
    refine lv_if_ne (tgt := 22) X.1 X.2.1 dX5_takeNumber_17 (by decide) (fun c3 => ?_) (fun c3 => ?_)
    · refine lv_aload_n X.1 X.2.1 dX5_takeNumber_22 rfl (lv_at hl 0 rfl) ?_
      refine lv_aload_n X.1 X.2.1 dX5_takeNumber_23 rfl (lv_at hl 0 rfl) ?_
      refine g_get (v := .int (S 3 5)) X K hw (by decide) tt_eRd rfl iT5 4 (by decide) q245 rfl dX5_takeNumber_24 ?_
      refine lv_topi (fun x4 ex4 => ?_)
      refine g_put (S' := tt_up S 3 6 x4) X K (c_ap K) hw (by decide) tt_eRd rfl iT5 tyX5_ok nmX5 5 (by decide) q246 rfl rfl rfl (Nat.le_of_ble_eq_true rfl) (tt_sRd (k := 4) (by decide)) dX5_takeNumber_27 (fun S5 H locs eS5 hw => ?_)
      refine lv_aload_n X.1 X.2.1 dX5_takeNumber_30 rfl (lv_at hl 0 rfl) ?_
      refine c_callVV_s X K hw (k_X5_advance l G S5 (by subst ez2 ex4 eS5; rw [tt_up_ne (by omega)]; exact hp0)) (g_cwV X hiX5_advance q611 q613 q16 q72 q614 ⟨(Nat.le_of_ble_eq_true rfl), (Nat.le_of_ble_eq_true rfl)⟩) (by decide) tt_eRd rfl rfl hl.1 rfl (Nat.le_of_ble_eq_true rfl) dX5_takeNumber_31 ⟨(Nat.le_of_ble_eq_true rfl), (Nat.le_of_ble_eq_true rfl)⟩ (fun S6 H locs eS6 hw => ?_)
      refine lv_iconst (v := (1 : Int32)) X.1 X.2.1 dX5_takeNumber_34 (by decide) ?_
      have hR : ((1 : Int32), S6) = tgt := by
        rw [← hF]
        subst ez2 ex4 eS5 eS6
        simp only [f5_takeNumber, if_pos c1, if_neg c3]
      have hRR : (1 : Int32) = tgt.1 := pr1 hR
      have hRS : S6 = tgt.2 := pr2 hR
      exact g_zret X hret hlk hw rfl hRR hRS dX5_takeNumber_35
    · refine lv_iconst (v := (0 : Int32)) X.1 X.2.1 dX5_takeNumber_20 (by decide) ?_
      have hR : ((0 : Int32), S) = tgt := by
        rw [← hF]
        subst ez2
        simp only [f5_takeNumber, if_pos c1, if_pos c3]
      have hRR : (0 : Int32) = tgt.1 := pr1 hR
      have hRS : S = tgt.2 := pr2 hR
      exact g_zret X hret hlk hw rfl hRR hRS dX5_takeNumber_21
set_option maxHeartbeats 4000000 in
set_option maxRecDepth 10000 in
theorem k_X5_takeWord (l : Launch) (G : tt_G) (S : tt_St) (i : Nat) (hi : i < 15) (hp0 : (S 3 1).toInt ≤ 120) : c_MI l G yX5_takeWord (g_code yX5_takeWord cX5_takeWord 2 (some FieldType.boolean)) 5 108 [.ref (G.2.2 58), .ref (G.2.2 (110 + i))] S ((f5_takeWord S i).1) ((f5_takeWord S i).2) := by
  generalize hF : f5_takeWord S i = tgt
  refine g_begin rfl (Nat.le_of_ble_eq_true rfl) _ (fun p e s m below meth c ls X hret hlk hB hl => ?_)
  obtain ⟨hP0, K⟩ := hB
  have hw : c_W G S s s.heap [] := ⟨hP0, va_S.rf⟩
  have X : CallFix p m c cX5_takeWord 2 s ([.ref (G.2.2 58), .ref (G.2.2 (110 + i))] : List Value).toArray tt_T "TrustTin$TextReader" := X
  have hl : lv_has ls 2 [(0, .ref (G.2.2 58)), (1, .ref (G.2.2 (110 + i)))] := hl
  refine lv_aload_n X.1 X.2.1 dX5_takeWord_0 rfl (lv_at hl 0 rfl) ?_
  refine lv_aload_n X.1 X.2.1 dX5_takeWord_1 rfl (lv_at hl 1 rfl) ?_
  refine c_callVI_p X K hw (k_X5_isWord l G S i hi hp0) (g_cwV X hiX5_isWord q652 q654 q22 q72 q655 ⟨(Nat.le_of_ble_eq_true rfl), (Nat.le_of_ble_eq_true rfl)⟩) (by decide) tt_eRd rfl rfl hl.1 rfl (Nat.le_of_ble_eq_true rfl) dX5_takeWord_2 ⟨(Nat.le_of_ble_eq_true rfl), (Nat.le_of_ble_eq_true rfl)⟩ (fun z1 H locs ez1 hw => ?_)
  refine lv_if_ne (tgt := 10) X.1 X.2.1 dX5_takeWord_5 (by decide) (fun c2 => ?_) (fun c2 => ?_)
  · refine lv_aload_n X.1 X.2.1 dX5_takeWord_10 rfl (lv_at hl 0 rfl) ?_
    refine c_callVV_s X K hw (k_X5_advance l G S hp0) (g_cwV X hiX5_advance q611 q613 q16 q72 q614 ⟨(Nat.le_of_ble_eq_true rfl), (Nat.le_of_ble_eq_true rfl)⟩) (by decide) tt_eRd rfl rfl hl.1 rfl (Nat.le_of_ble_eq_true rfl) dX5_takeWord_11 ⟨(Nat.le_of_ble_eq_true rfl), (Nat.le_of_ble_eq_true rfl)⟩ (fun S3 H locs eS3 hw => ?_)
    refine lv_iconst (v := (1 : Int32)) X.1 X.2.1 dX5_takeWord_14 (by decide) ?_
    have hR : ((1 : Int32), S3) = tgt := by
      rw [← hF]
      subst ez1 eS3
      simp only [f5_takeWord, if_neg c2]
    have hRR : (1 : Int32) = tgt.1 := pr1 hR
    have hRS : S3 = tgt.2 := pr2 hR
    exact g_zret X hret hlk hw rfl hRR hRS dX5_takeWord_15
  · refine lv_iconst (v := (0 : Int32)) X.1 X.2.1 dX5_takeWord_8 (by decide) ?_
    have hR : ((0 : Int32), S) = tgt := by
      rw [← hF]
      subst ez1
      simp only [f5_takeWord, if_pos c2]
    have hRR : (0 : Int32) = tgt.1 := pr1 hR
    have hRS : S = tgt.2 := pr2 hR
    exact g_zret X hret hlk hw rfl hRR hRS dX5_takeWord_9
