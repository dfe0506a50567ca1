set_option maxHeartbeats 4000000 in
set_option maxRecDepth 10000 in
theorem k_X7_letter (l : Launch) (G : tt_G) (S : tt_St) (V : Int64) (a0 : Int32) : m_MI l G yX7_letter (g_code yX7_letter cX7_letter 1 (some FieldType.int)) 0 0 [.int a0] S V (f7_letter a0) S V := by
  generalize hF : f7_letter a0 = tgt
  refine g_begin rfl (Nat.le_of_ble_eq_true rfl) _ (fun p e s m below meth c ls X hret hlk hB hl => ?_)
  obtain ⟨hP0, K⟩ := hB
  have hw : m_W G S V s s.heap [] := ⟨hP0, va_S.rf⟩
  have X : CallFix p m c cX7_letter 1 s ([.int a0] : List Value).toArray tt_T "TrustTinModel" := X
  have hl : lv_has ls 1 [(0, .int a0)] := hl
  refine lv_iload_n X.1 X.2.1 dX7_letter_0 rfl (lv_at hl 0 rfl) ?_
  refine lv_bipush (v := (97 : Int32)) X.1 X.2.1 dX7_letter_1 (by decide) ?_
  refine lv_icmp_lt (tgt := 21) X.1 X.2.1 dX7_letter_3 (by decide) (fun c1 => ?_) (fun c1 => ?_)
  · refine lv_iconst (v := (0 : Int32)) X.1 X.2.1 dX7_letter_21 (by decide) ?_
    have hR : (0 : Int32) = tgt := by
      rw [← hF]
      simp only [f7_letter, if_pos c1]
    exact g_iret X hret hlk hw hR rfl dX7_letter_22
  · refine lv_iload_n X.1 X.2.1 dX7_letter_6 rfl (lv_at hl 0 rfl) ?_
    refine lv_bipush (v := (122 : Int32)) X.1 X.2.1 dX7_letter_7 (by decide) ?_
    refine lv_icmp_gt (tgt := 21) X.1 X.2.1 dX7_letter_9 (by decide) (fun c2 => ?_) (fun c2 => ?_)
    · refine lv_iconst (v := (0 : Int32)) X.1 X.2.1 dX7_letter_21 (by decide) ?_
      have hR : (0 : Int32) = tgt := by
        rw [← hF]
        simp only [f7_letter, if_neg c1, if_pos c2]
      exact g_iret X hret hlk hw hR rfl dX7_letter_22
    · refine lv_iload_n X.1 X.2.1 dX7_letter_12 rfl (lv_at hl 0 rfl) ?_
      refine lv_bipush (v := (97 : Int32)) X.1 X.2.1 dX7_letter_13 (by decide) ?_
      refine lv_isub X.1 X.2.1 dX7_letter_15 ?_
      refine lv_iconst (v := (1 : Int32)) X.1 X.2.1 dX7_letter_16 (by decide) ?_
      refine lv_iadd X.1 X.2.1 dX7_letter_17 ?_
      refine lv_goto (tgt := 22) X.1 X.2.1 dX7_letter_18 (by decide) ?_
      have hR : (a0 - (97 : Int32)) + (1 : Int32) = tgt := by
        rw [← hF]
        simp only [f7_letter, if_neg c1, if_neg c2]
      exact g_iret X hret hlk hw hR rfl dX7_letter_22
set_option maxHeartbeats 4000000 in
set_option maxRecDepth 10000 in
theorem k_X7_isDigit (l : Launch) (G : tt_G) (S : tt_St) (V : Int64) (a0 : Int32) : m_MI l G yX7_isDigit (g_code yX7_isDigit cX7_isDigit 1 (some FieldType.boolean)) 0 0 [.int a0] S V (f7_isDigit a0) S V := by
  generalize hF : f7_isDigit a0 = tgt
  refine g_begin rfl (Nat.le_of_ble_eq_true rfl) _ (fun p e s m below meth c ls X hret hlk hB hl => ?_)
  obtain ⟨hP0, K⟩ := hB
  have hw : m_W G S V s s.heap [] := ⟨hP0, va_S.rf⟩
  have X : CallFix p m c cX7_isDigit 1 s ([.int a0] : List Value).toArray tt_T "TrustTinModel" := X
  have hl : lv_has ls 1 [(0, .int a0)] := hl
  refine lv_iload_n X.1 X.2.1 dX7_isDigit_0 rfl (lv_at hl 0 rfl) ?_
  refine lv_bipush (v := (48 : Int32)) X.1 X.2.1 dX7_isDigit_1 (by decide) ?_
  refine lv_icmp_lt (tgt := 16) X.1 X.2.1 dX7_isDigit_3 (by decide) (fun c1 => ?_) (fun c1 => ?_)
  · refine lv_iconst (v := (0 : Int32)) X.1 X.2.1 dX7_isDigit_16 (by decide) ?_
    have hR : (0 : Int32) = tgt := by
      rw [← hF]
      simp only [f7_isDigit, if_pos c1]
    exact g_zret X hret hlk hw rfl hR rfl dX7_isDigit_17
  · refine lv_iload_n X.1 X.2.1 dX7_isDigit_6 rfl (lv_at hl 0 rfl) ?_
    refine lv_bipush (v := (57 : Int32)) X.1 X.2.1 dX7_isDigit_7 (by decide) ?_
    refine lv_icmp_gt (tgt := 16) X.1 X.2.1 dX7_isDigit_9 (by decide) (fun c2 => ?_) (fun c2 => ?_)
    · refine lv_iconst (v := (0 : Int32)) X.1 X.2.1 dX7_isDigit_16 (by decide) ?_
      have hR : (0 : Int32) = tgt := by
        rw [← hF]
        simp only [f7_isDigit, if_neg c1, if_pos c2]
      exact g_zret X hret hlk hw rfl hR rfl dX7_isDigit_17
    · refine lv_iconst (v := (1 : Int32)) X.1 X.2.1 dX7_isDigit_12 (by decide) ?_
      refine lv_goto (tgt := 17) X.1 X.2.1 dX7_isDigit_13 (by decide) ?_
      have hR : (1 : Int32) = tgt := by
        rw [← hF]
        simp only [f7_isDigit, if_neg c1, if_neg c2]
      exact g_zret X hret hlk hw rfl hR rfl dX7_isDigit_17
set_option maxHeartbeats 4000000 in
set_option maxRecDepth 10000 in
theorem k_X7_byteAt (l : Launch) (G : tt_G) (S : tt_St) (V : Int64) (a1 : Int32) (hp0 : (S 0 6).toInt ≤ 120) (hp1 : ¬ a1 < 0) : m_MI l G yX7_byteAt (g_code yX7_byteAt cX7_byteAt 2 (some FieldType.int)) 0 0 [.ref (mm_ad G 0), .int a1] S V (f7_byteAt S a1) S V := by
  generalize hF : f7_byteAt S a1 = tgt
  refine g_begin rfl (Nat.le_of_ble_eq_true rfl) _ (fun p e s m below meth c ls X hret hlk hB hl => ?_)
  obtain ⟨hP0, K⟩ := hB
  have hw : m_W G S V s s.heap [] := ⟨hP0, va_S.rf⟩
  have X : CallFix p m c cX7_byteAt 2 s ([.ref (mm_ad G 0), .int a1] : List Value).toArray tt_T "TrustTinModel" := X
  have hl : lv_has ls 2 [(0, .ref (mm_ad G 0)), (1, .int a1)] := hl
  refine lv_iload_n X.1 X.2.1 dX7_byteAt_0 rfl (lv_at hl 1 rfl) ?_
  refine lv_aload_n X.1 X.2.1 dX7_byteAt_1 rfl (lv_at hl 0 rfl) ?_
  refine m_get X K hw 6 (by decide) q842 rfl dX7_byteAt_2 ?_
  refine lv_icmp_ge (tgt := 17) X.1 X.2.1 dX7_byteAt_5 (by decide) (fun c1 => ?_) (fun c1 => ?_)
  · refine lv_iconst (v := (-1 : Int32)) X.1 X.2.1 dX7_byteAt_17 (by decide) ?_
    have hR : (-1 : Int32) = tgt := by
      rw [← hF]
      simp only [f7_byteAt, if_pos c1]
    exact g_iret X hret hlk hw hR rfl dX7_byteAt_18
  · refine lv_aload_n X.1 X.2.1 dX7_byteAt_8 rfl (lv_at hl 0 rfl) ?_
    refine m_get X K hw 5 (by decide) q841 rfl dX7_byteAt_9 ?_
    refine lv_iload_n X.1 X.2.1 dX7_byteAt_12 rfl (lv_at hl 1 rfl) ?_
    have hi2 : vp_in a1 120 := lp_in hp1 c1 hp0
    refine g_bald X K hw (by decide) mm_e5 hi2 dX7_byteAt_13 ?_
    refine lv_goto (tgt := 18) X.1 X.2.1 dX7_byteAt_14 (by decide) ?_
    have hR : S 5 a1.toNatClampNeg = tgt := by
      rw [← hF]
      simp only [f7_byteAt, if_neg c1]
    exact g_iret X hret hlk hw hR rfl dX7_byteAt_18
set_option maxHeartbeats 4000000 in
set_option maxRecDepth 10000 in
theorem k_X7_next (l : Launch) (G : tt_G) (S : tt_St) (V : Int64) (hp0 : mt S) : m_MV l G yX7_next (g_code yX7_next cX7_next 2 none) 1 21 [.ref (mm_ad G 0)] S V ((f7_next S V).1) ((f7_next S V).2) := by
  generalize hF : f7_next S V = tgt
  refine g_begin rfl (Nat.le_of_ble_eq_true rfl) _ (fun p e s m below meth c ls X hret hlk hB hl => ?_)
  obtain ⟨hP0, K⟩ := hB
  have hw : m_W G S V s s.heap [] := ⟨hP0, va_S.rf⟩
  have X : CallFix p m c cX7_next 2 s ([.ref (mm_ad G 0)] : List Value).toArray tt_T "TrustTinModel" := X
  have hl : lv_has ls 2 [(0, .ref (mm_ad G 0))] := hl
  have j0 : ∀ (n : Nat) (S1 : tt_St) (V2 : Int64) (H : Heap) (locs : List Loc) (ls : Array Slot), (mt S1) → lp_mu (S1 0 6) (S1 0 13) < n → f7_next_L0 n S1 V2 = tgt → m_W G S1 V2 s H locs → lv_has ls 2 [(0, .ref (mm_ad G 0))] → W p l e (g_rm 1 21) s m ([.ref (mm_ad G 0)] : List Value).toArray below meth c H locs 0 0 (MQ below (va_Qv (fun T => T = (tgt.1, tgt.2)) (g_Post G 10 (mm_ad G) (mm_cell G)) (g_in 10 (mm_ad G))) ([.ref (mm_ad G 0)] : List Value).toArray s 0 0 (g_in 10 (mm_ad G))) (F0 m 0 ls []) := by
    intro n
    induction n with
    | zero => intro S1 V2 H locs ls hI hm; exact absurd hm (Nat.not_lt_zero _)
    | succ n ih =>
      intro S1 V2 H locs ls hI hm hF hw hl
      refine lv_aload_n X.1 X.2.1 dX7_next_0 rfl (lv_at hl 0 rfl) ?_
      refine lv_aload_n X.1 X.2.1 dX7_next_1 rfl (lv_at hl 0 rfl) ?_
      refine m_get X K hw 13 (by decide) q849 rfl dX7_next_2 ?_
      refine m_callVI_p X K hw (k_X7_byteAt l G S1 V2 (S1 0 13) (hI.2.2.1) (mt_at hI)) (g_cwV X hiX7_byteAt q1164 q1166 q56 q74 q1167 ⟨(Nat.le_of_ble_eq_true rfl), (Nat.le_of_ble_eq_true rfl)⟩) rfl hl.1 rfl (Nat.le_of_ble_eq_true rfl) dX7_next_5 ⟨(Nat.le_of_ble_eq_true rfl), (Nat.le_of_ble_eq_true rfl)⟩ (fun z3 H locs ez3 hw => ?_)
      refine lv_bipush (v := (32 : Int32)) X.1 X.2.1 dX7_next_8 (by decide) ?_
      refine lv_icmp_ne (tgt := 26) X.1 X.2.1 dX7_next_10 (by decide) (fun c4 => ?_) (fun c4 => ?_)
      · refine lv_aload_n X.1 X.2.1 dX7_next_26 rfl (lv_at hl 0 rfl) ?_
        refine lv_aload_n X.1 X.2.1 dX7_next_27 rfl (lv_at hl 0 rfl) ?_
        refine m_get X K hw 13 (by decide) q849 rfl dX7_next_28 ?_
        refine lv_topi (fun x5 ex5 => ?_)
        refine m_put X K hw 15 (by decide) q851 rfl rfl rfl dX7_next_31 (fun S6 H locs eS6 hw => ?_)
        refine lv_aload_n X.1 X.2.1 dX7_next_34 rfl (lv_at hl 0 rfl) ?_
        refine lv_lconst (v := (0 : Int64)) X.1 X.2.1 dX7_next_35 (by decide) ?_
        refine m_putL X K hw q852 dX7_next_36 (fun V7 H locs eV7 hw => ?_)
        refine lv_aload_n X.1 X.2.1 dX7_next_39 rfl (lv_at hl 0 rfl) ?_
        refine lv_aload_n X.1 X.2.1 dX7_next_40 rfl (lv_at hl 0 rfl) ?_
        refine m_get X K hw 13 (by decide) q849 rfl dX7_next_41 ?_
        refine m_callVI_p X K hw (k_X7_byteAt l G S6 V7 (S6 0 13) (by subst ez3 ex5 eS6 eV7; exact (mt_15 hI).2.2.1) (by subst ez3 ex5 eS6 eV7; exact mt_at (mt_15 hI))) (g_cwV X hiX7_byteAt q1164 q1166 q56 q74 q1167 ⟨(Nat.le_of_ble_eq_true rfl), (Nat.le_of_ble_eq_true rfl)⟩) rfl hl.1 rfl (Nat.le_of_ble_eq_true rfl) dX7_next_44 ⟨(Nat.le_of_ble_eq_true rfl), (Nat.le_of_ble_eq_true rfl)⟩ (fun z8 H locs ez8 hw => ?_)
        refine lv_istore_n (lv' := [(1, .int z8), (0, .ref (mm_ad G 0))]) X.1 X.2.1 dX7_next_47 rfl hl (by decide) rfl (fun ls hl => ?_)
        refine lv_aload_n X.1 X.2.1 dX7_next_48 rfl (lv_at hl 1 rfl) ?_
        refine m_get X K hw 13 (by decide) q849 rfl dX7_next_49 ?_
        refine lv_aload_n X.1 X.2.1 dX7_next_52 rfl (lv_at hl 1 rfl) ?_
        refine m_get X K hw 6 (by decide) q842 rfl dX7_next_53 ?_
        refine lv_icmp_ne (tgt := 67) X.1 X.2.1 dX7_next_56 (by decide) (fun c9 => ?_) (fun c9 => ?_)
        · refine lv_iload_n X.1 X.2.1 dX7_next_67 rfl (lv_at hl 0 rfl) ?_
          refine lv_bipush (v := (59 : Int32)) X.1 X.2.1 dX7_next_68 (by decide) ?_
          refine lv_icmp_ne (tgt := 91) X.1 X.2.1 dX7_next_70 (by decide) (fun c10 => ?_) (fun c10 => ?_)
          · refine lv_iload_n X.1 X.2.1 dX7_next_91 rfl (lv_at hl 0 rfl) ?_
            refine m_callSI_p X K hw (k_X7_letter l G S6 V7 z8) (g_cwS X hiX7_letter q1168 q1169 q74 q1170 ⟨(Nat.le_of_ble_eq_true rfl), (Nat.le_of_ble_eq_true rfl)⟩) rfl hl.1 rfl (Nat.le_of_ble_eq_true rfl) dX7_next_92 ⟨(Nat.le_of_ble_eq_true rfl), (Nat.le_of_ble_eq_true rfl)⟩ (fun z11 H locs ez11 hw => ?_)
            refine lv_if_le (tgt := 173) X.1 X.2.1 dX7_next_95 (by decide) (fun c12 => ?_) (fun c12 => ?_)
            · refine lv_iload_n X.1 X.2.1 dX7_next_173 rfl (lv_at hl 0 rfl) ?_
              refine m_callSI_p X K hw (k_X7_isDigit l G S6 V7 z8) (g_cwS X hiX7_isDigit q1173 q1174 q74 q1175 ⟨(Nat.le_of_ble_eq_true rfl), (Nat.le_of_ble_eq_true rfl)⟩) rfl hl.1 rfl (Nat.le_of_ble_eq_true rfl) dX7_next_174 ⟨(Nat.le_of_ble_eq_true rfl), (Nat.le_of_ble_eq_true rfl)⟩ (fun z13 H locs ez13 hw => ?_)
              refine lv_if_eq (tgt := 256) X.1 X.2.1 dX7_next_177 (by decide) (fun c14 => ?_) (fun c14 => ?_)
              · refine lv_aload_n X.1 X.2.1 dX7_next_256 rfl (lv_at hl 1 rfl) ?_
                refine lv_iconst (v := (4 : Int32)) X.1 X.2.1 dX7_next_257 (by decide) ?_
                refine m_put X K hw 14 (by decide) q850 rfl rfl rfl dX7_next_258 (fun S15 H locs eS15 hw => ?_)
                have hR : (S15, V7) = tgt := by
                  rw [← hF]
                  subst ez3 ex5 eS6 eV7 ez8 ez11 ez13 eS15
                  simp only [f7_next_L0, if_neg c4, if_neg c9, if_neg c10, if_pos c12, if_pos c14]
                have hRS : S15 = tgt.1 := pr1 hR
                have hRV : V7 = tgt.2 := pr2 hR
                exact g_vret X hret hlk hw (Prod.ext hRS hRV) dX7_next_261
              · refine lv_aload_n X.1 X.2.1 dX7_next_180 rfl (lv_at hl 1 rfl) ?_
                refine lv_iconst (v := (2 : Int32)) X.1 X.2.1 dX7_next_181 (by decide) ?_
                refine m_put X K hw 14 (by decide) q850 rfl rfl rfl dX7_next_182 (fun S16 H locs eS16 hw => ?_)
                have j185 : ∀ (n : Nat) (S17 : tt_St) (V18 : Int64) (H : Heap) (locs : List Loc) (ls : Array Slot), (mt S17) → lp_mu (S17 0 6) (S17 0 13) < n → f7_next_L185 n S17 V18 = tgt → m_W G S17 V18 s H locs → lv_has ls 2 [(0, .ref (mm_ad G 0))] → W p l e (g_rm 1 21) s m ([.ref (mm_ad G 0)] : List Value).toArray below meth c H locs 0 0 (MQ below (va_Qv (fun T => T = (tgt.1, tgt.2)) (g_Post G 10 (mm_ad G) (mm_cell G)) (g_in 10 (mm_ad G))) ([.ref (mm_ad G 0)] : List Value).toArray s 0 0 (g_in 10 (mm_ad G))) (F0 m 185 ls []) := by
                  intro n
                  induction n with
                  | zero => intro S17 V18 H locs ls hI hm; exact absurd hm (Nat.not_lt_zero _)
                  | succ n ih =>
                    intro S17 V18 H locs ls hI hm hF hw hl
                    refine lv_aload_n X.1 X.2.1 dX7_next_185 rfl (lv_at hl 0 rfl) ?_
                    refine lv_aload_n X.1 X.2.1 dX7_next_186 rfl (lv_at hl 0 rfl) ?_
                    refine m_get X K hw 13 (by decide) q849 rfl dX7_next_187 ?_
                    refine m_callVI_p X K hw (k_X7_byteAt l G S17 V18 (S17 0 13) (hI.2.2.1) (mt_at hI)) (g_cwV X hiX7_byteAt q1164 q1166 q56 q74 q1167 ⟨(Nat.le_of_ble_eq_true rfl), (Nat.le_of_ble_eq_true rfl)⟩) rfl hl.1 rfl (Nat.le_of_ble_eq_true rfl) dX7_next_190 ⟨(Nat.le_of_ble_eq_true rfl), (Nat.le_of_ble_eq_true rfl)⟩ (fun z19 H locs ez19 hw => ?_)
                    refine m_callSI_p X K hw (k_X7_isDigit l G S17 V18 z19) (g_cwS X hiX7_isDigit q1173 q1174 q74 q1175 ⟨(Nat.le_of_ble_eq_true rfl), (Nat.le_of_ble_eq_true rfl)⟩) rfl hl.1 rfl (Nat.le_of_ble_eq_true rfl) dX7_next_193 ⟨(Nat.le_of_ble_eq_true rfl), (Nat.le_of_ble_eq_true rfl)⟩ (fun z20 H locs ez20 hw => ?_)
                    refine lv_if_eq (tgt := 261) X.1 X.2.1 dX7_next_196 (by decide) (fun c21 => ?_) (fun c21 => ?_)
                    · have hR : (S17, V18) = tgt := by
                        rw [← hF]
                        subst ez19 ez20
                        simp only [f7_next_L185, if_pos c21]
                      have hRS : S17 = tgt.1 := pr1 hR
                      have hRV : V18 = tgt.2 := pr2 hR
                      exact g_vret X hret hlk hw (Prod.ext hRS hRV) dX7_next_261
                    · refine lv_aload_n X.1 X.2.1 dX7_next_199 rfl (lv_at hl 0 rfl) ?_
                      refine lv_aload_n X.1 X.2.1 dX7_next_200 rfl (lv_at hl 0 rfl) ?_
                      refine m_get X K hw 16 (by decide) q852 rfl dX7_next_201 ?_
                      refine lv_ldc2 (v := (9999 : Int64)) X.1 X.2.1 X.2.2.2.1 (X.2.2.2.2 _ q941) dX7_next_204 ?_
                      refine W.lcmp X.1 X.2.1 dX7_next_207 ?_
                      refine lv_if_le (tgt := 218) X.1 X.2.1 dX7_next_208 (by decide) (fun c22 => ?_) (fun c22 => ?_)
                      · refine lv_aload_n X.1 X.2.1 dX7_next_218 rfl (lv_at hl 0 rfl) ?_
                        refine m_get X K hw 16 (by decide) q852 rfl dX7_next_219 ?_
                        refine lv_ldc2 (v := (10 : Int64)) X.1 X.2.1 X.2.2.2.1 (X.2.2.2.2 _ q1085) dX7_next_222 ?_
                        refine lv_lmul X.1 X.2.1 dX7_next_225 ?_
                        refine lv_aload_n X.1 X.2.1 dX7_next_226 rfl (lv_at hl 0 rfl) ?_
                        refine lv_aload_n X.1 X.2.1 dX7_next_227 rfl (lv_at hl 0 rfl) ?_
                        refine m_get X K hw 13 (by decide) q849 rfl dX7_next_228 ?_
                        refine m_callVI_p X K hw (k_X7_byteAt l G S17 V18 (S17 0 13) (hI.2.2.1) (mt_at hI)) (g_cwV X hiX7_byteAt q1164 q1166 q56 q74 q1167 ⟨(Nat.le_of_ble_eq_true rfl), (Nat.le_of_ble_eq_true rfl)⟩) rfl hl.1 rfl (Nat.le_of_ble_eq_true rfl) dX7_next_231 ⟨(Nat.le_of_ble_eq_true rfl), (Nat.le_of_ble_eq_true rfl)⟩ (fun z23 H locs ez23 hw => ?_)
                        refine lv_i2l X.1 X.2.1 dX7_next_234 rfl ?_
                        refine lv_ladd X.1 X.2.1 dX7_next_235 ?_
                        refine lv_ldc2 (v := (48 : Int64)) X.1 X.2.1 X.2.2.2.1 (X.2.2.2.2 _ q1176) dX7_next_236 ?_
                        refine lv_lsub X.1 X.2.1 dX7_next_239 ?_
                        refine m_putL X K hw q852 dX7_next_240 (fun V24 H locs eV24 hw => ?_)
                        refine lv_aload_n X.1 X.2.1 dX7_next_243 rfl (lv_at hl 0 rfl) ?_
                        refine lv_dup X.1 X.2.1 dX7_next_244 rfl ?_
                        refine m_get X K hw 13 (by decide) q849 rfl dX7_next_245 ?_
                        refine lv_iconst (v := (1 : Int32)) X.1 X.2.1 dX7_next_248 (by decide) ?_
                        refine lv_iadd X.1 X.2.1 dX7_next_249 ?_
                        refine lv_topi (fun x25 ex25 => ?_)
                        refine m_put X K hw 13 (by decide) q849 rfl rfl rfl dX7_next_250 (fun S26 H locs eS26 hw => ?_)
                        refine lv_goto (tgt := 185) X.1 X.2.1 dX7_next_253 (by decide) ?_
                        have hF2 : f7_next_L185 n S26 V24 = tgt := by
                          rw [← hF]
                          subst ez19 ez20 ez23 eV24 ex25 eS26
                          simp only [f7_next_L185, if_neg c21, if_pos c22]
                        exact ih S26 V24 _ _ ls (by subst ez19 ez20 ez23 eV24 ex25 eS26; exact (mt_inc hI (by_di rfl rfl c21)).1) (by subst ez19 ez20 ez23 eV24 ex25 eS26; exact mt_mu (by_di rfl rfl c21) hm) hF2 hw (lv_sub hl [0] rfl)
                      · refine lv_aload_n X.1 X.2.1 dX7_next_211 rfl (lv_at hl 0 rfl) ?_
                        refine m_get X K hw 16 (by decide) q852 rfl dX7_next_212 ?_
                        refine lv_goto (tgt := 240) X.1 X.2.1 dX7_next_215 (by decide) ?_
                        refine m_putL X K hw q852 dX7_next_240 (fun V27 H locs eV27 hw => ?_)
                        refine lv_aload_n X.1 X.2.1 dX7_next_243 rfl (lv_at hl 0 rfl) ?_
                        refine lv_dup X.1 X.2.1 dX7_next_244 rfl ?_
                        refine m_get X K hw 13 (by decide) q849 rfl dX7_next_245 ?_
                        refine lv_iconst (v := (1 : Int32)) X.1 X.2.1 dX7_next_248 (by decide) ?_
                        refine lv_iadd X.1 X.2.1 dX7_next_249 ?_
                        refine lv_topi (fun x28 ex28 => ?_)
                        refine m_put X K hw 13 (by decide) q849 rfl rfl rfl dX7_next_250 (fun S29 H locs eS29 hw => ?_)
                        refine lv_goto (tgt := 185) X.1 X.2.1 dX7_next_253 (by decide) ?_
                        have hF2 : f7_next_L185 n S29 V27 = tgt := by
                          rw [← hF]
                          subst ez19 ez20 eV27 ex28 eS29
                          simp only [f7_next_L185, if_neg c21, if_neg c22]
                        exact ih S29 V27 _ _ ls (by subst ez19 ez20 eV27 ex28 eS29; exact (mt_inc hI (by_di rfl rfl c21)).1) (by subst ez19 ez20 eV27 ex28 eS29; exact mt_mu (by_di rfl rfl c21) hm) hF2 hw (lv_sub hl [0] rfl)
                have hF2 : f7_next_L185 (lp_mu (S16 0 6) (S16 0 13) + 1) S16 V7 = tgt := by
                  rw [← hF]
                  subst ez3 ex5 eS6 eV7 ez8 ez11 ez13 eS16
                  simp only [f7_next_L0, if_neg c4, if_neg c9, if_neg c10, if_pos c12, if_neg c14]
                exact j185 (lp_mu (S16 0 6) (S16 0 13) + 1) S16 V7 _ _ ls (by subst ez3 ex5 eS6 eV7 ez8 ez11 ez13 eS16; exact mt_up (mt_15 hI) (by omega) (by omega) (by omega)) (Nat.lt_succ_self _) hF2 hw (lv_sub hl [1] rfl)
            · refine lv_aload_n X.1 X.2.1 dX7_next_98 rfl (lv_at hl 1 rfl) ?_
              refine lv_iconst (v := (1 : Int32)) X.1 X.2.1 dX7_next_99 (by decide) ?_
              refine m_put X K hw 14 (by decide) q850 rfl rfl rfl dX7_next_100 (fun S30 H locs eS30 hw => ?_)
              have j103 : ∀ (n : Nat) (S31 : tt_St) (V32 : Int64) (H : Heap) (locs : List Loc) (ls : Array Slot), (mt S31) → lp_mu (S31 0 6) (S31 0 13) < n → f7_next_L103 n S31 V32 = tgt → m_W G S31 V32 s H locs → lv_has ls 2 [(0, .ref (mm_ad G 0))] → W p l e (g_rm 1 21) s m ([.ref (mm_ad G 0)] : List Value).toArray below meth c H locs 0 0 (MQ below (va_Qv (fun T => T = (tgt.1, tgt.2)) (g_Post G 10 (mm_ad G) (mm_cell G)) (g_in 10 (mm_ad G))) ([.ref (mm_ad G 0)] : List Value).toArray s 0 0 (g_in 10 (mm_ad G))) (F0 m 103 ls []) := by
                intro n
                induction n with
                | zero => intro S31 V32 H locs ls hI hm; exact absurd hm (Nat.not_lt_zero _)
                | succ n ih =>
                  intro S31 V32 H locs ls hI hm hF hw hl
                  refine lv_aload_n X.1 X.2.1 dX7_next_103 rfl (lv_at hl 0 rfl) ?_
                  refine lv_aload_n X.1 X.2.1 dX7_next_104 rfl (lv_at hl 0 rfl) ?_
                  refine m_get X K hw 13 (by decide) q849 rfl dX7_next_105 ?_
                  refine m_callVI_p X K hw (k_X7_byteAt l G S31 V32 (S31 0 13) (hI.2.2.1) (mt_at hI)) (g_cwV X hiX7_byteAt q1164 q1166 q56 q74 q1167 ⟨(Nat.le_of_ble_eq_true rfl), (Nat.le_of_ble_eq_true rfl)⟩) rfl hl.1 rfl (Nat.le_of_ble_eq_true rfl) dX7_next_108 ⟨(Nat.le_of_ble_eq_true rfl), (Nat.le_of_ble_eq_true rfl)⟩ (fun z33 H locs ez33 hw => ?_)
                  refine m_callSI_p X K hw (k_X7_letter l G S31 V32 z33) (g_cwS X hiX7_letter q1168 q1169 q74 q1170 ⟨(Nat.le_of_ble_eq_true rfl), (Nat.le_of_ble_eq_true rfl)⟩) rfl hl.1 rfl (Nat.le_of_ble_eq_true rfl) dX7_next_111 ⟨(Nat.le_of_ble_eq_true rfl), (Nat.le_of_ble_eq_true rfl)⟩ (fun z34 H locs ez34 hw => ?_)
                  refine lv_if_le (tgt := 261) X.1 X.2.1 dX7_next_114 (by decide) (fun c35 => ?_) (fun c35 => ?_)
                  · have hR : (S31, V32) = tgt := by
                      rw [← hF]
                      subst ez33 ez34
                      simp only [f7_next_L103, if_pos c35]
                    have hRS : S31 = tgt.1 := pr1 hR
                    have hRV : V32 = tgt.2 := pr2 hR
                    exact g_vret X hret hlk hw (Prod.ext hRS hRV) dX7_next_261
                  · refine lv_aload_n X.1 X.2.1 dX7_next_117 rfl (lv_at hl 0 rfl) ?_
                    refine lv_aload_n X.1 X.2.1 dX7_next_118 rfl (lv_at hl 0 rfl) ?_
                    refine m_get X K hw 16 (by decide) q852 rfl dX7_next_119 ?_
                    refine lv_ldc2 (v := (100000000000 : Int64)) X.1 X.2.1 X.2.2.2.1 (X.2.2.2.2 _ q1171) dX7_next_122 ?_
                    refine W.lcmp X.1 X.2.1 dX7_next_125 ?_
                    refine lv_if_le (tgt := 136) X.1 X.2.1 dX7_next_126 (by decide) (fun c36 => ?_) (fun c36 => ?_)
                    · refine lv_aload_n X.1 X.2.1 dX7_next_136 rfl (lv_at hl 0 rfl) ?_
                      refine m_get X K hw 16 (by decide) q852 rfl dX7_next_137 ?_
                      refine lv_ldc2 (v := (27 : Int64)) X.1 X.2.1 X.2.2.2.1 (X.2.2.2.2 _ q1172) dX7_next_140 ?_
                      refine lv_lmul X.1 X.2.1 dX7_next_143 ?_
                      refine lv_aload_n X.1 X.2.1 dX7_next_144 rfl (lv_at hl 0 rfl) ?_
                      refine lv_aload_n X.1 X.2.1 dX7_next_145 rfl (lv_at hl 0 rfl) ?_
                      refine m_get X K hw 13 (by decide) q849 rfl dX7_next_146 ?_
                      refine m_callVI_p X K hw (k_X7_byteAt l G S31 V32 (S31 0 13) (hI.2.2.1) (mt_at hI)) (g_cwV X hiX7_byteAt q1164 q1166 q56 q74 q1167 ⟨(Nat.le_of_ble_eq_true rfl), (Nat.le_of_ble_eq_true rfl)⟩) rfl hl.1 rfl (Nat.le_of_ble_eq_true rfl) dX7_next_149 ⟨(Nat.le_of_ble_eq_true rfl), (Nat.le_of_ble_eq_true rfl)⟩ (fun z37 H locs ez37 hw => ?_)
                      refine m_callSI_p X K hw (k_X7_letter l G S31 V32 z37) (g_cwS X hiX7_letter q1168 q1169 q74 q1170 ⟨(Nat.le_of_ble_eq_true rfl), (Nat.le_of_ble_eq_true rfl)⟩) rfl hl.1 rfl (Nat.le_of_ble_eq_true rfl) dX7_next_152 ⟨(Nat.le_of_ble_eq_true rfl), (Nat.le_of_ble_eq_true rfl)⟩ (fun z38 H locs ez38 hw => ?_)
                      refine lv_i2l X.1 X.2.1 dX7_next_155 rfl ?_
                      refine lv_ladd X.1 X.2.1 dX7_next_156 ?_
                      refine m_putL X K hw q852 dX7_next_157 (fun V39 H locs eV39 hw => ?_)
                      refine lv_aload_n X.1 X.2.1 dX7_next_160 rfl (lv_at hl 0 rfl) ?_
                      refine lv_dup X.1 X.2.1 dX7_next_161 rfl ?_
                      refine m_get X K hw 13 (by decide) q849 rfl dX7_next_162 ?_
                      refine lv_iconst (v := (1 : Int32)) X.1 X.2.1 dX7_next_165 (by decide) ?_
                      refine lv_iadd X.1 X.2.1 dX7_next_166 ?_
                      refine lv_topi (fun x40 ex40 => ?_)
                      refine m_put X K hw 13 (by decide) q849 rfl rfl rfl dX7_next_167 (fun S41 H locs eS41 hw => ?_)
                      refine lv_goto (tgt := 103) X.1 X.2.1 dX7_next_170 (by decide) ?_
                      have hF2 : f7_next_L103 n S41 V39 = tgt := by
                        rw [← hF]
                        subst ez33 ez34 ez37 ez38 eV39 ex40 eS41
                        simp only [f7_next_L103, if_neg c35, if_pos c36]
                      exact ih S41 V39 _ _ ls (by subst ez33 ez34 ez37 ez38 eV39 ex40 eS41; exact (mt_inc hI (by_le rfl rfl c35)).1) (by subst ez33 ez34 ez37 ez38 eV39 ex40 eS41; exact mt_mu (by_le rfl rfl c35) hm) hF2 hw (lv_sub hl [0] rfl)
                    · refine lv_aload_n X.1 X.2.1 dX7_next_129 rfl (lv_at hl 0 rfl) ?_
                      refine m_get X K hw 16 (by decide) q852 rfl dX7_next_130 ?_
                      refine lv_goto (tgt := 157) X.1 X.2.1 dX7_next_133 (by decide) ?_
                      refine m_putL X K hw q852 dX7_next_157 (fun V42 H locs eV42 hw => ?_)
                      refine lv_aload_n X.1 X.2.1 dX7_next_160 rfl (lv_at hl 0 rfl) ?_
                      refine lv_dup X.1 X.2.1 dX7_next_161 rfl ?_
                      refine m_get X K hw 13 (by decide) q849 rfl dX7_next_162 ?_
                      refine lv_iconst (v := (1 : Int32)) X.1 X.2.1 dX7_next_165 (by decide) ?_
                      refine lv_iadd X.1 X.2.1 dX7_next_166 ?_
                      refine lv_topi (fun x43 ex43 => ?_)
                      refine m_put X K hw 13 (by decide) q849 rfl rfl rfl dX7_next_167 (fun S44 H locs eS44 hw => ?_)
                      refine lv_goto (tgt := 103) X.1 X.2.1 dX7_next_170 (by decide) ?_
                      have hF2 : f7_next_L103 n S44 V42 = tgt := by
                        rw [← hF]
                        subst ez33 ez34 eV42 ex43 eS44
                        simp only [f7_next_L103, if_neg c35, if_neg c36]
                      exact ih S44 V42 _ _ ls (by subst ez33 ez34 eV42 ex43 eS44; exact (mt_inc hI (by_le rfl rfl c35)).1) (by subst ez33 ez34 eV42 ex43 eS44; exact mt_mu (by_le rfl rfl c35) hm) hF2 hw (lv_sub hl [0] rfl)
              have hF2 : f7_next_L103 (lp_mu (S30 0 6) (S30 0 13) + 1) S30 V7 = tgt := by
                rw [← hF]
                subst ez3 ex5 eS6 eV7 ez8 ez11 eS30
                simp only [f7_next_L0, if_neg c4, if_neg c9, if_neg c10, if_neg c12]
              exact j103 (lp_mu (S30 0 6) (S30 0 13) + 1) S30 V7 _ _ ls (by subst ez3 ex5 eS6 eV7 ez8 ez11 eS30; exact mt_up (mt_15 hI) (by omega) (by omega) (by omega)) (Nat.lt_succ_self _) hF2 hw (lv_sub hl [1] rfl)
          · refine lv_aload_n X.1 X.2.1 dX7_next_73 rfl (lv_at hl 1 rfl) ?_
            refine lv_iconst (v := (3 : Int32)) X.1 X.2.1 dX7_next_74 (by decide) ?_
            refine m_put X K hw 14 (by decide) q850 rfl rfl rfl dX7_next_75 (fun S45 H locs eS45 hw => ?_)
            refine lv_aload_n X.1 X.2.1 dX7_next_78 rfl (lv_at hl 1 rfl) ?_
            refine lv_dup X.1 X.2.1 dX7_next_79 rfl ?_
            refine m_get X K hw 13 (by decide) q849 rfl dX7_next_80 ?_
            refine lv_iconst (v := (1 : Int32)) X.1 X.2.1 dX7_next_83 (by decide) ?_
            refine lv_iadd X.1 X.2.1 dX7_next_84 ?_
            refine lv_topi (fun x46 ex46 => ?_)
            refine m_put X K hw 13 (by decide) q849 rfl rfl rfl dX7_next_85 (fun S47 H locs eS47 hw => ?_)
            refine lv_goto (tgt := 261) X.1 X.2.1 dX7_next_88 (by decide) ?_
            have hR : (S47, V7) = tgt := by
              rw [← hF]
              subst ez3 ex5 eS6 eV7 ez8 eS45 ex46 eS47
              simp only [f7_next_L0, if_neg c4, if_neg c9, if_pos c10]
            have hRS : S47 = tgt.1 := pr1 hR
            have hRV : V7 = tgt.2 := pr2 hR
            exact g_vret X hret hlk hw (Prod.ext hRS hRV) dX7_next_261
        · refine lv_aload_n X.1 X.2.1 dX7_next_59 rfl (lv_at hl 1 rfl) ?_
          refine lv_iconst (v := (0 : Int32)) X.1 X.2.1 dX7_next_60 (by decide) ?_
          refine m_put X K hw 14 (by decide) q850 rfl rfl rfl dX7_next_61 (fun S48 H locs eS48 hw => ?_)
          refine lv_goto (tgt := 261) X.1 X.2.1 dX7_next_64 (by decide) ?_
          have hR : (S48, V7) = tgt := by
            rw [← hF]
            subst ez3 ex5 eS6 eV7 ez8 eS48
            simp only [f7_next_L0, if_neg c4, if_pos c9]
          have hRS : S48 = tgt.1 := pr1 hR
          have hRV : V7 = tgt.2 := pr2 hR
          exact g_vret X hret hlk hw (Prod.ext hRS hRV) dX7_next_261
      · refine lv_aload_n X.1 X.2.1 dX7_next_13 rfl (lv_at hl 0 rfl) ?_
        refine lv_dup X.1 X.2.1 dX7_next_14 rfl ?_
        refine m_get X K hw 13 (by decide) q849 rfl dX7_next_15 ?_
        refine lv_iconst (v := (1 : Int32)) X.1 X.2.1 dX7_next_18 (by decide) ?_
        refine lv_iadd X.1 X.2.1 dX7_next_19 ?_
        refine lv_topi (fun x49 ex49 => ?_)
        refine m_put X K hw 13 (by decide) q849 rfl rfl rfl dX7_next_20 (fun S50 H locs eS50 hw => ?_)
        refine lv_goto (tgt := 0) X.1 X.2.1 dX7_next_23 (by decide) ?_
        have hF2 : f7_next_L0 n S50 V2 = tgt := by
          rw [← hF]
          subst ez3 ex49 eS50
          simp only [f7_next_L0, if_pos c4]
        exact ih S50 V2 _ _ ls (by subst ez3 ex49 eS50; exact (mt_inc hI (by_sp rfl c4)).1) (by subst ez3 ex49 eS50; exact mt_mu (by_sp rfl c4) hm) hF2 hw (lv_sub hl [0] rfl)
  have hF2 : f7_next_L0 (lp_mu (S 0 6) (S 0 13) + 1) S V = tgt := by
    rw [← hF]
    simp only [f7_next]
  exact j0 (lp_mu (S 0 6) (S 0 13) + 1) S V _ _ ls (hp0) (Nat.lt_succ_self _) hF2 hw (lv_sub hl [0] rfl)
set_option maxHeartbeats 4000000 in
set_option maxRecDepth 10000 in
theorem k_X7_wrongHere (l : Launch) (G : tt_G) (S : tt_St) (V : Int64) : m_MV l G yX7_wrongHere (g_code yX7_wrongHere cX7_wrongHere 1 none) 0 0 [.ref (mm_ad G 0)] S V (f7_wrongHere S) V := by
  generalize hF : f7_wrongHere S = tgt
  refine g_begin rfl (Nat.le_of_ble_eq_true rfl) _ (fun p e s m below meth c ls X hret hlk hB hl => ?_)
  obtain ⟨hP0, K⟩ := hB
  have hw : m_W G S V s s.heap [] := ⟨hP0, va_S.rf⟩
  have X : CallFix p m c cX7_wrongHere 1 s ([.ref (mm_ad G 0)] : List Value).toArray tt_T "TrustTinModel" := X
  have hl : lv_has ls 1 [(0, .ref (mm_ad G 0))] := hl
  refine lv_aload_n X.1 X.2.1 dX7_wrongHere_0 rfl (lv_at hl 0 rfl) ?_
  refine lv_aload_n X.1 X.2.1 dX7_wrongHere_1 rfl (lv_at hl 0 rfl) ?_
  refine m_get X K hw 17 (by decide) q853 rfl dX7_wrongHere_2 ?_
  refine lv_if_ge (tgt := 15) X.1 X.2.1 dX7_wrongHere_5 (by decide) (fun c1 => ?_) (fun c1 => ?_)
  · refine lv_aload_n X.1 X.2.1 dX7_wrongHere_15 rfl (lv_at hl 0 rfl) ?_
    refine m_get X K hw 17 (by decide) q853 rfl dX7_wrongHere_16 ?_
    refine lv_topi (fun x2 ex2 => ?_)
    refine m_put X K hw 17 (by decide) q853 rfl rfl rfl dX7_wrongHere_19 (fun S3 H locs eS3 hw => ?_)
    have hR : S3 = tgt := by
      rw [← hF]
      subst ex2 eS3
      simp only [f7_wrongHere, if_pos c1]
    exact g_vret X hret hlk hw (congrArg (fun z => (z, V)) hR) dX7_wrongHere_22
  · refine lv_aload_n X.1 X.2.1 dX7_wrongHere_8 rfl (lv_at hl 0 rfl) ?_
    refine m_get X K hw 15 (by decide) q851 rfl dX7_wrongHere_9 ?_
    refine lv_goto (tgt := 19) X.1 X.2.1 dX7_wrongHere_12 (by decide) ?_
    refine lv_topi (fun x4 ex4 => ?_)
    refine m_put X K hw 17 (by decide) q853 rfl rfl rfl dX7_wrongHere_19 (fun S5 H locs eS5 hw => ?_)
    have hR : S5 = tgt := by
      rw [← hF]
      subst ex4 eS5
      simp only [f7_wrongHere, if_neg c1]
    exact g_vret X hret hlk hw (congrArg (fun z => (z, V)) hR) dX7_wrongHere_22
set_option maxHeartbeats 4000000 in
set_option maxRecDepth 10000 in
theorem k_X7_isWord (l : Launch) (G : tt_G) (S : tt_St) (V : Int64) (a1 : Int64) : m_MI l G yX7_isWord (g_code yX7_isWord cX7_isWord 3 (some FieldType.boolean)) 0 0 [.ref (mm_ad G 0), .long a1] S V (f7_isWord S V a1) S V := by
  generalize hF : f7_isWord S V a1 = tgt
  refine g_begin rfl (Nat.le_of_ble_eq_true rfl) _ (fun p e s m below meth c ls X hret hlk hB hl => ?_)
  obtain ⟨hP0, K⟩ := hB
  have hw : m_W G S V s s.heap [] := ⟨hP0, va_S.rf⟩
  have X : CallFix p m c cX7_isWord 3 s ([.ref (mm_ad G 0), .long a1] : List Value).toArray tt_T "TrustTinModel" := X
  have hl : lv_has ls 3 [(0, .ref (mm_ad G 0)), (1, .long a1)] := hl
  refine lv_aload_n X.1 X.2.1 dX7_isWord_0 rfl (lv_at hl 0 rfl) ?_
  refine m_get X K hw 14 (by decide) q850 rfl dX7_isWord_1 ?_
  refine lv_iconst (v := (1 : Int32)) X.1 X.2.1 dX7_isWord_4 (by decide) ?_
  refine lv_icmp_ne (tgt := 21) X.1 X.2.1 dX7_isWord_5 (by decide) (fun c1 => ?_) (fun c1 => ?_)
  · refine lv_iconst (v := (0 : Int32)) X.1 X.2.1 dX7_isWord_21 (by decide) ?_
    have hR : (0 : Int32) = tgt := by
      rw [← hF]
      simp only [f7_isWord, if_neg c1]
    exact g_zret X hret hlk hw rfl hR rfl dX7_isWord_22
  · refine lv_aload_n X.1 X.2.1 dX7_isWord_8 rfl (lv_at hl 0 rfl) ?_
    refine m_get X K hw 16 (by decide) q852 rfl dX7_isWord_9 ?_
    refine lv_lload_n X.1 X.2.1 dX7_isWord_12 rfl (lv_at hl 1 rfl) ?_
    refine W.lcmp X.1 X.2.1 dX7_isWord_13 ?_
    refine lv_if_ne (tgt := 21) X.1 X.2.1 dX7_isWord_14 (by decide) (fun c2 => ?_) (fun c2 => ?_)
    · refine lv_iconst (v := (0 : Int32)) X.1 X.2.1 dX7_isWord_21 (by decide) ?_
      have hR : (0 : Int32) = tgt := by
        rw [← hF]
        simp only [f7_isWord, if_pos c1, if_neg c2]
      exact g_zret X hret hlk hw rfl hR rfl dX7_isWord_22
    · refine lv_iconst (v := (1 : Int32)) X.1 X.2.1 dX7_isWord_17 (by decide) ?_
      refine lv_goto (tgt := 22) X.1 X.2.1 dX7_isWord_18 (by decide) ?_
      have hR : (1 : Int32) = tgt := by
        rw [← hF]
        simp only [f7_isWord, if_pos c1, if_pos c2]
      exact g_zret X hret hlk hw rfl hR rfl dX7_isWord_22
set_option maxHeartbeats 4000000 in
set_option maxRecDepth 10000 in
theorem k_X7_kindHere (l : Launch) (G : tt_G) (S : tt_St) (V : Int64) : m_MI l G yX7_kindHere (g_code yX7_kindHere cX7_kindHere 1 (some FieldType.int)) 1 22 [.ref (mm_ad G 0)] S V (f7_kindHere S V) S V := by
  generalize hF : f7_kindHere S V = tgt
  refine g_begin rfl (Nat.le_of_ble_eq_true rfl) _ (fun p e s m below meth c ls X hret hlk hB hl => ?_)
  obtain ⟨hP0, K⟩ := hB
  have hw : m_W G S V s s.heap [] := ⟨hP0, va_S.rf⟩
  have X : CallFix p m c cX7_kindHere 1 s ([.ref (mm_ad G 0)] : List Value).toArray tt_T "TrustTinModel" := X
  have hl : lv_has ls 1 [(0, .ref (mm_ad G 0))] := hl
  refine lv_aload_n X.1 X.2.1 dX7_kindHere_0 rfl (lv_at hl 0 rfl) ?_
  refine m_gets X K hw 0 (by decide) (x := (99233 : Int64)) rfl q1185 dX7_kindHere_1 ?_
  refine m_callVI_p X K hw (k_X7_isWord l G S V (99233 : Int64)) (g_cwV X hiX7_isWord q1187 q1189 q59 q74 q1190 ⟨(Nat.le_of_ble_eq_true rfl), (Nat.le_of_ble_eq_true rfl)⟩) rfl hl.1 rfl (Nat.le_of_ble_eq_true rfl) dX7_kindHere_4 ⟨(Nat.le_of_ble_eq_true rfl), (Nat.le_of_ble_eq_true rfl)⟩ (fun z1 H locs ez1 hw => ?_)
  refine lv_if_eq (tgt := 14) X.1 X.2.1 dX7_kindHere_7 (by decide) (fun c2 => ?_) (fun c2 => ?_)
  · refine lv_aload_n X.1 X.2.1 dX7_kindHere_14 rfl (lv_at hl 0 rfl) ?_
    refine m_gets X K hw 1 (by decide) (x := (6411708 : Int64)) rfl q1191 dX7_kindHere_15 ?_
    refine m_callVI_p X K hw (k_X7_isWord l G S V (6411708 : Int64)) (g_cwV X hiX7_isWord q1187 q1189 q59 q74 q1190 ⟨(Nat.le_of_ble_eq_true rfl), (Nat.le_of_ble_eq_true rfl)⟩) rfl hl.1 rfl (Nat.le_of_ble_eq_true rfl) dX7_kindHere_18 ⟨(Nat.le_of_ble_eq_true rfl), (Nat.le_of_ble_eq_true rfl)⟩ (fun z3 H locs ez3 hw => ?_)
    refine lv_if_eq (tgt := 28) X.1 X.2.1 dX7_kindHere_21 (by decide) (fun c4 => ?_) (fun c4 => ?_)
    · refine lv_aload_n X.1 X.2.1 dX7_kindHere_28 rfl (lv_at hl 0 rfl) ?_
      refine m_gets X K hw 2 (by decide) (x := (2549464462 : Int64)) rfl q1193 dX7_kindHere_29 ?_
      refine m_callVI_p X K hw (k_X7_isWord l G S V (2549464462 : Int64)) (g_cwV X hiX7_isWord q1187 q1189 q59 q74 q1190 ⟨(Nat.le_of_ble_eq_true rfl), (Nat.le_of_ble_eq_true rfl)⟩) rfl hl.1 rfl (Nat.le_of_ble_eq_true rfl) dX7_kindHere_32 ⟨(Nat.le_of_ble_eq_true rfl), (Nat.le_of_ble_eq_true rfl)⟩ (fun z5 H locs ez5 hw => ?_)
      refine lv_if_eq (tgt := 42) X.1 X.2.1 dX7_kindHere_35 (by decide) (fun c6 => ?_) (fun c6 => ?_)
      · refine lv_aload_n X.1 X.2.1 dX7_kindHere_42 rfl (lv_at hl 0 rfl) ?_
        refine m_gets X K hw 3 (by decide) (x := (7554780 : Int64)) rfl q1195 dX7_kindHere_43 ?_
        refine m_callVI_p X K hw (k_X7_isWord l G S V (7554780 : Int64)) (g_cwV X hiX7_isWord q1187 q1189 q59 q74 q1190 ⟨(Nat.le_of_ble_eq_true rfl), (Nat.le_of_ble_eq_true rfl)⟩) rfl hl.1 rfl (Nat.le_of_ble_eq_true rfl) dX7_kindHere_46 ⟨(Nat.le_of_ble_eq_true rfl), (Nat.le_of_ble_eq_true rfl)⟩ (fun z7 H locs ez7 hw => ?_)
        refine lv_if_eq (tgt := 56) X.1 X.2.1 dX7_kindHere_49 (by decide) (fun c8 => ?_) (fun c8 => ?_)
        · refine lv_aload_n X.1 X.2.1 dX7_kindHere_56 rfl (lv_at hl 0 rfl) ?_
          refine m_gets X K hw 4 (by decide) (x := (249 : Int64)) rfl q1197 dX7_kindHere_57 ?_
          refine m_callVI_p X K hw (k_X7_isWord l G S V (249 : Int64)) (g_cwV X hiX7_isWord q1187 q1189 q59 q74 q1190 ⟨(Nat.le_of_ble_eq_true rfl), (Nat.le_of_ble_eq_true rfl)⟩) rfl hl.1 rfl (Nat.le_of_ble_eq_true rfl) dX7_kindHere_60 ⟨(Nat.le_of_ble_eq_true rfl), (Nat.le_of_ble_eq_true rfl)⟩ (fun z9 H locs ez9 hw => ?_)
          refine lv_if_eq (tgt := 70) X.1 X.2.1 dX7_kindHere_63 (by decide) (fun c10 => ?_) (fun c10 => ?_)
          · refine lv_aload_n X.1 X.2.1 dX7_kindHere_70 rfl (lv_at hl 0 rfl) ?_
            refine m_gets X K hw 5 (by decide) (x := (11088176 : Int64)) rfl q1199 dX7_kindHere_71 ?_
            refine m_callVI_p X K hw (k_X7_isWord l G S V (11088176 : Int64)) (g_cwV X hiX7_isWord q1187 q1189 q59 q74 q1190 ⟨(Nat.le_of_ble_eq_true rfl), (Nat.le_of_ble_eq_true rfl)⟩) rfl hl.1 rfl (Nat.le_of_ble_eq_true rfl) dX7_kindHere_74 ⟨(Nat.le_of_ble_eq_true rfl), (Nat.le_of_ble_eq_true rfl)⟩ (fun z11 H locs ez11 hw => ?_)
            refine lv_if_eq (tgt := 84) X.1 X.2.1 dX7_kindHere_77 (by decide) (fun c12 => ?_) (fun c12 => ?_)
            · refine lv_aload_n X.1 X.2.1 dX7_kindHere_84 rfl (lv_at hl 0 rfl) ?_
              refine m_gets X K hw 6 (by decide) (x := (6936588 : Int64)) rfl q1201 dX7_kindHere_85 ?_
              refine m_callVI_p X K hw (k_X7_isWord l G S V (6936588 : Int64)) (g_cwV X hiX7_isWord q1187 q1189 q59 q74 q1190 ⟨(Nat.le_of_ble_eq_true rfl), (Nat.le_of_ble_eq_true rfl)⟩) rfl hl.1 rfl (Nat.le_of_ble_eq_true rfl) dX7_kindHere_88 ⟨(Nat.le_of_ble_eq_true rfl), (Nat.le_of_ble_eq_true rfl)⟩ (fun z13 H locs ez13 hw => ?_)
              refine lv_if_eq (tgt := 99) X.1 X.2.1 dX7_kindHere_91 (by decide) (fun c14 => ?_) (fun c14 => ?_)
              · refine lv_iconst (v := (-1 : Int32)) X.1 X.2.1 dX7_kindHere_99 (by decide) ?_
                have hR : (-1 : Int32) = tgt := by
                  rw [← hF]
                  subst ez1 ez3 ez5 ez7 ez9 ez11 ez13
                  simp only [f7_kindHere, if_pos c2, if_pos c4, if_pos c6, if_pos c8, if_pos c10, if_pos c12, if_pos c14]
                exact g_iret X hret hlk hw hR rfl dX7_kindHere_100
              · refine lv_bipush (v := (6 : Int32)) X.1 X.2.1 dX7_kindHere_94 (by decide) ?_
                refine lv_goto (tgt := 100) X.1 X.2.1 dX7_kindHere_96 (by decide) ?_
                have hR : (6 : Int32) = tgt := by
                  rw [← hF]
                  subst ez1 ez3 ez5 ez7 ez9 ez11 ez13
                  simp only [f7_kindHere, if_pos c2, if_pos c4, if_pos c6, if_pos c8, if_pos c10, if_pos c12, if_neg c14]
                exact g_iret X hret hlk hw hR rfl dX7_kindHere_100
            · refine lv_iconst (v := (5 : Int32)) X.1 X.2.1 dX7_kindHere_80 (by decide) ?_
              refine lv_goto (tgt := 100) X.1 X.2.1 dX7_kindHere_81 (by decide) ?_
              have hR : (5 : Int32) = tgt := by
                rw [← hF]
                subst ez1 ez3 ez5 ez7 ez9 ez11
                simp only [f7_kindHere, if_pos c2, if_pos c4, if_pos c6, if_pos c8, if_pos c10, if_neg c12]
              exact g_iret X hret hlk hw hR rfl dX7_kindHere_100
          · refine lv_iconst (v := (4 : Int32)) X.1 X.2.1 dX7_kindHere_66 (by decide) ?_
            refine lv_goto (tgt := 100) X.1 X.2.1 dX7_kindHere_67 (by decide) ?_
            have hR : (4 : Int32) = tgt := by
              rw [← hF]
              subst ez1 ez3 ez5 ez7 ez9
              simp only [f7_kindHere, if_pos c2, if_pos c4, if_pos c6, if_pos c8, if_neg c10]
            exact g_iret X hret hlk hw hR rfl dX7_kindHere_100
        · refine lv_iconst (v := (3 : Int32)) X.1 X.2.1 dX7_kindHere_52 (by decide) ?_
          refine lv_goto (tgt := 100) X.1 X.2.1 dX7_kindHere_53 (by decide) ?_
          have hR : (3 : Int32) = tgt := by
            rw [← hF]
            subst ez1 ez3 ez5 ez7
            simp only [f7_kindHere, if_pos c2, if_pos c4, if_pos c6, if_neg c8]
          exact g_iret X hret hlk hw hR rfl dX7_kindHere_100
      · refine lv_iconst (v := (2 : Int32)) X.1 X.2.1 dX7_kindHere_38 (by decide) ?_
        refine lv_goto (tgt := 100) X.1 X.2.1 dX7_kindHere_39 (by decide) ?_
        have hR : (2 : Int32) = tgt := by
          rw [← hF]
          subst ez1 ez3 ez5
          simp only [f7_kindHere, if_pos c2, if_pos c4, if_neg c6]
        exact g_iret X hret hlk hw hR rfl dX7_kindHere_100
    · refine lv_iconst (v := (1 : Int32)) X.1 X.2.1 dX7_kindHere_24 (by decide) ?_
      refine lv_goto (tgt := 100) X.1 X.2.1 dX7_kindHere_25 (by decide) ?_
      have hR : (1 : Int32) = tgt := by
        rw [← hF]
        subst ez1 ez3
        simp only [f7_kindHere, if_pos c2, if_neg c4]
      exact g_iret X hret hlk hw hR rfl dX7_kindHere_100
  · refine lv_iconst (v := (0 : Int32)) X.1 X.2.1 dX7_kindHere_10 (by decide) ?_
    refine lv_goto (tgt := 100) X.1 X.2.1 dX7_kindHere_11 (by decide) ?_
    have hR : (0 : Int32) = tgt := by
      rw [← hF]
      subst ez1
      simp only [f7_kindHere, if_neg c2]
    exact g_iret X hret hlk hw hR rfl dX7_kindHere_100
set_option maxHeartbeats 4000000 in
set_option maxRecDepth 10000 in
theorem k_X7_number (l : Launch) (G : tt_G) (S : tt_St) (V : Int64) (a1 : Int32) (a2 : Int32) (hp0 : mt S) (hp1 : nb S) : m_MI l G yX7_number (g_code yX7_number cX7_number 4 (some FieldType.int)) 2 42 [.ref (mm_ad G 0), .int a1, .int a2] S V ((f7_number S V a1 a2).1) ((f7_number S V a1 a2).2.1) ((f7_number S V a1 a2).2.2) := by
  generalize hF : f7_number S V a1 a2 = tgt
  refine g_begin rfl (Nat.le_of_ble_eq_true rfl) _ (fun p e s m below meth c ls X hret hlk hB hl => ?_)
  obtain ⟨hP0, K⟩ := hB
  have hw : m_W G S V s s.heap [] := ⟨hP0, va_S.rf⟩
  have X : CallFix p m c cX7_number 4 s ([.ref (mm_ad G 0), .int a1, .int a2] : List Value).toArray tt_T "TrustTinModel" := X
  have hl : lv_has ls 4 [(0, .ref (mm_ad G 0)), (1, .int a1), (2, .int a2)] := hl
  refine lv_aload_n X.1 X.2.1 dX7_number_0 rfl (lv_at hl 0 rfl) ?_
  refine m_get X K hw 16 (by decide) q852 rfl dX7_number_1 ?_
  refine lv_l2i X.1 X.2.1 dX7_number_4 rfl ?_
  refine lv_topi (fun x1 ex1 => ?_)
  refine lv_istore_n (lv' := [(3, .int x1), (0, .ref (mm_ad G 0)), (1, .int a1), (2, .int a2)]) X.1 X.2.1 dX7_number_5 rfl hl (by decide) rfl (fun ls hl => ?_)
  refine lv_aload_n X.1 X.2.1 dX7_number_6 rfl (lv_at hl 1 rfl) ?_
  refine m_get X K hw 14 (by decide) q850 rfl dX7_number_7 ?_
  refine lv_iconst (v := (2 : Int32)) X.1 X.2.1 dX7_number_10 (by decide) ?_
  refine lv_icmp_ne (tgt := 28) X.1 X.2.1 dX7_number_11 (by decide) (fun c2 => ?_) (fun c2 => ?_)
  · refine lv_aload_n X.1 X.2.1 dX7_number_28 rfl (lv_at hl 1 rfl) ?_
    refine m_callVV_s X K hw (k_X7_wrongHere l G S V) (g_cwV X hiX7_wrongHere q1207 q1209 q61 q74 q1210 ⟨(Nat.le_of_ble_eq_true rfl), (Nat.le_of_ble_eq_true rfl)⟩) rfl hl.1 rfl (Nat.le_of_ble_eq_true rfl) dX7_number_29 ⟨(Nat.le_of_ble_eq_true rfl), (Nat.le_of_ble_eq_true rfl)⟩ (fun S3 H locs eS3 hw => ?_)
    refine lv_iload_n X.1 X.2.1 dX7_number_32 rfl (lv_at hl 2 rfl) ?_
    have hR : (a1, S3, V) = tgt := by
      rw [← hF]
      subst ex1 eS3
      simp only [f7_number, if_neg c2]
    have hRR : a1 = tgt.1 := pr31 hR
    have hRS : S3 = tgt.2.1 := pr32 hR
    have hRV : V = tgt.2.2 := pr33 hR
    exact g_iret X hret hlk hw hRR (Prod.ext hRS hRV) dX7_number_33
  · refine lv_aload_n X.1 X.2.1 dX7_number_14 rfl (lv_at hl 1 rfl) ?_
    refine m_get X K hw 16 (by decide) q852 rfl dX7_number_15 ?_
    refine lv_iload_n X.1 X.2.1 dX7_number_18 rfl (lv_at hl 2 rfl) ?_
    refine lv_i2l X.1 X.2.1 dX7_number_19 rfl ?_
    refine lv_iload_n X.1 X.2.1 dX7_number_20 rfl (lv_at hl 3 rfl) ?_
    refine lv_i2l X.1 X.2.1 dX7_number_21 rfl ?_
    refine m_callSI_p X K hw (k_X7_in l G S V V a1.toInt64 a2.toInt64) (g_cwS X hiX7_in q908 q909 q74 q910 ⟨(Nat.le_of_ble_eq_true rfl), (Nat.le_of_ble_eq_true rfl)⟩) rfl hl.1 rfl (Nat.le_of_ble_eq_true rfl) dX7_number_22 ⟨(Nat.le_of_ble_eq_true rfl), (Nat.le_of_ble_eq_true rfl)⟩ (fun z4 H locs ez4 hw => ?_)
    refine lv_if_ne (tgt := 34) X.1 X.2.1 dX7_number_25 (by decide) (fun c5 => ?_) (fun c5 => ?_)
    · refine lv_aload_n X.1 X.2.1 dX7_number_34 rfl (lv_at hl 1 rfl) ?_
      refine m_callVV_sv X K hw (k_X7_next l G S V hp0) (g_cwV X hiX7_next q1160 q1162 q55 q74 q1163 ⟨(Nat.le_of_ble_eq_true rfl), (Nat.le_of_ble_eq_true rfl)⟩) rfl hl.1 rfl (Nat.le_of_ble_eq_true rfl) dX7_number_35 ⟨(Nat.le_of_ble_eq_true rfl), (Nat.le_of_ble_eq_true rfl)⟩ (fun S6 V7 H locs eS6 eV7 hw => ?_)
      refine lv_iload_n X.1 X.2.1 dX7_number_38 rfl (lv_at hl 0 rfl) ?_
      have hR : (x1, S6, V7) = tgt := by
        rw [← hF]
        subst ex1 ez4 eS6 eV7
        simp only [f7_number, if_pos c2, if_neg c5]
      have hRR : x1 = tgt.1 := pr31 hR
      have hRS : S6 = tgt.2.1 := pr32 hR
      have hRV : V7 = tgt.2.2 := pr33 hR
      exact g_iret X hret hlk hw hRR (Prod.ext hRS hRV) dX7_number_39
    · refine lv_aload_n X.1 X.2.1 dX7_number_28 rfl (lv_at hl 1 rfl) ?_
      refine m_callVV_s X K hw (k_X7_wrongHere l G S V) (g_cwV X hiX7_wrongHere q1207 q1209 q61 q74 q1210 ⟨(Nat.le_of_ble_eq_true rfl), (Nat.le_of_ble_eq_true rfl)⟩) rfl hl.1 rfl (Nat.le_of_ble_eq_true rfl) dX7_number_29 ⟨(Nat.le_of_ble_eq_true rfl), (Nat.le_of_ble_eq_true rfl)⟩ (fun S8 H locs eS8 hw => ?_)
      refine lv_iload_n X.1 X.2.1 dX7_number_32 rfl (lv_at hl 2 rfl) ?_
      have hR : (a1, S8, V) = tgt := by
        rw [← hF]
        subst ex1 ez4 eS8
        simp only [f7_number, if_pos c2, if_pos c5]
      have hRR : a1 = tgt.1 := pr31 hR
      have hRS : S8 = tgt.2.1 := pr32 hR
      have hRV : V = tgt.2.2 := pr33 hR
      exact g_iret X hret hlk hw hRR (Prod.ext hRS hRV) dX7_number_33
