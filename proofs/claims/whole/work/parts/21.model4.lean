set_option maxHeartbeats 4000000 in
set_option maxRecDepth 10000 in
theorem k_X7_letter (l : Launch) (G : tt_G) (S : tt_St) (V : Int64) (a0 : Int32) : m_MI l G yX7_letter (g_code yX7_letter cX7_letter 1 (some FieldType.int)) 0 0 [.int a0] S V (f7_letter a0) S V := by
  generalize hF : f7_letter a0 = tgt
  refine g_begin rfl (Nat.le_of_ble_eq_true rfl) _ (fun p e s m below meth c ls X hret hlk hB hl => ?_)
  obtain ⟨hP0, K⟩ := hB
  have hw : m_W G S V s s.heap [] := ⟨hP0, va_S.rf⟩
  have X : CallFix p m c cX7_letter 1 s ([.int a0] : List Value).toArray tt_T "TrustTinModel" := X
  have hl : lv_has ls 1 [(0, .int a0)] := hl
  refine lv_iload_n X.1 X.2.1 dX7_letter_0 rfl (lv_at hl 0 rfl) ?_
  refine lv_bipush (v := (97 : Int32)) X.1 X.2.1 dX7_letter_1 (by decide) ?_
  refine lv_icmp_lt (tgt := 21) X.1 X.2.1 dX7_letter_3 (by decide) (fun c1 => ?_) (fun c1 => ?_)
  · refine lv_iconst (v := (0 : Int32)) X.1 X.2.1 dX7_letter_21 (by decide) ?_
    have hR : (0 : Int32) = tgt := by
      rw [← hF]
      simp only [f7_letter, if_pos c1]
    exact g_iret X hret hlk hw hR rfl dX7_letter_22
  · refine lv_iload_n X.1 X.2.1 dX7_letter_6 rfl (lv_at hl 0 rfl) ?_
    refine lv_bipush (v := (122 : Int32)) X.1 X.2.1 dX7_letter_7 (by decide) ?_
    refine lv_icmp_gt (tgt := 21) X.1 X.2.1 dX7_letter_9 (by decide) (fun c2 => ?_) (fun c2 => ?_)
    · refine lv_iconst (v := (0 : Int32)) X.1 X.2.1 dX7_letter_21 (by decide) ?_
      have hR : (0 : Int32) = tgt := by
        rw [← hF]
        simp only [f7_letter, if_neg c1, if_pos c2]
      exact g_iret X hret hlk hw hR rfl dX7_letter_22
    · refine lv_iload_n X.1 X.2.1 dX7_letter_12 rfl (lv_at hl 0 rfl) ?_
      refine lv_bipush (v := (97 : Int32)) X.1 X.2.1 dX7_letter_13 (by decide) ?_
      refine lv_isub X.1 X.2.1 dX7_letter_15 ?_
      refine lv_iconst (v := (1 : Int32)) X.1 X.2.1 dX7_letter_16 (by decide) ?_
      refine lv_iadd X.1 X.2.1 dX7_letter_17 ?_
      refine lv_goto (tgt := 22) X.1 X.2.1 dX7_letter_18 (by decide) ?_
      have hR : (a0 - (97 : Int32)) + (1 : Int32) = tgt := by
        rw [← hF]
        simp only [f7_letter, if_neg c1, if_neg c2]
      exact g_iret X hret hlk hw hR rfl dX7_letter_22
set_option maxHeartbeats 4000000 in
set_option maxRecDepth 10000 in
theorem k_X7_isDigit (l : Launch) (G : tt_G) (S : tt_St) (V : Int64) (a0 : Int32) : m_MI l G yX7_isDigit (g_code yX7_isDigit cX7_isDigit 1 (some FieldType.boolean)) 0 0 [.int a0] S V (f7_isDigit a0) S V := by
  generalize hF : f7_isDigit a0 = tgt
  refine g_begin rfl (Nat.le_of_ble_eq_true rfl) _ (fun p e s m below meth c ls X hret hlk hB hl => ?_)
  obtain ⟨hP0, K⟩ := hB
  have hw : m_W G S V s s.heap [] := ⟨hP0, va_S.rf⟩
  have X : CallFix p m c cX7_isDigit 1 s ([.int a0] : List Value).toArray tt_T "TrustTinModel" := X
  have hl : lv_has ls 1 [(0, .int a0)] := hl
  refine lv_iload_n X.1 X.2.1 dX7_isDigit_0 rfl (lv_at hl 0 rfl) ?_
  refine lv_bipush (v := (48 : Int32)) X.1 X.2.1 dX7_isDigit_1 (by decide) ?_
  refine lv_icmp_lt (tgt := 16) X.1 X.2.1 dX7_isDigit_3 (by decide) (fun c1 => ?_) (fun c1 => ?_)
  · refine lv_iconst (v := (0 : Int32)) X.1 X.2.1 dX7_isDigit_16 (by decide) ?_
    have hR : (0 : Int32) = tgt := by
      rw [← hF]
      simp only [f7_isDigit, if_pos c1]
    exact g_zret X hret hlk hw rfl hR rfl dX7_isDigit_17
  · refine lv_iload_n X.1 X.2.1 dX7_isDigit_6 rfl (lv_at hl 0 rfl) ?_
    refine lv_bipush (v := (57 : Int32)) X.1 X.2.1 dX7_isDigit_7 (by decide) ?_
    refine lv_icmp_gt (tgt := 16) X.1 X.2.1 dX7_isDigit_9 (by decide) (fun c2 => ?_) (fun c2 => ?_)
    · refine lv_iconst (v := (0 : Int32)) X.1 X.2.1 dX7_isDigit_16 (by decide) ?_
      have hR : (0 : Int32) = tgt := by
        rw [← hF]
        simp only [f7_isDigit, if_neg c1, if_pos c2]
      exact g_zret X hret hlk hw rfl hR rfl dX7_isDigit_17
    · refine lv_iconst (v := (1 : Int32)) X.1 X.2.1 dX7_isDigit_12 (by decide) ?_
      refine lv_goto (tgt := 17) X.1 X.2.1 dX7_isDigit_13 (by decide) ?_
      have hR : (1 : Int32) = tgt := by
        rw [← hF]
        simp only [f7_isDigit, if_neg c1, if_neg c2]
      exact g_zret X hret hlk hw rfl hR rfl dX7_isDigit_17
set_option maxHeartbeats 4000000 in
set_option maxRecDepth 10000 in
theorem k_X7_byteAt (l : Launch) (G : tt_G) (S : tt_St) (V : Int64) (a1 : Int32) (hp0 : (S 0 6).toInt ≤ 120) (hp1 : ¬ a1 < 0) : m_MI l G yX7_byteAt (g_code yX7_byteAt cX7_byteAt 2 (some FieldType.int)) 0 0 [.ref (mm_ad G 0), .int a1] S V (f7_byteAt S a1) S V := by
  generalize hF : f7_byteAt S a1 = tgt
  refine g_begin rfl (Nat.le_of_ble_eq_true rfl) _ (fun p e s m below meth c ls X hret hlk hB hl => ?_)
  obtain ⟨hP0, K⟩ := hB
  have hw : m_W G S V s s.heap [] := ⟨hP0, va_S.rf⟩
  have X : CallFix p m c cX7_byteAt 2 s ([.ref (mm_ad G 0), .int a1] : List Value).toArray tt_T "TrustTinModel" := X
  have hl : lv_has ls 2 [(0, .ref (mm_ad G 0)), (1, .int a1)] := hl
  refine lv_iload_n X.1 X.2.1 dX7_byteAt_0 rfl (lv_at hl 1 rfl) ?_
  refine lv_aload_n X.1 X.2.1 dX7_byteAt_1 rfl (lv_at hl 0 rfl) ?_
  refine m_get X K hw 6 (by decide) q844 rfl dX7_byteAt_2 ?_
  refine lv_icmp_ge (tgt := 17) X.1 X.2.1 dX7_byteAt_5 (by decide) (fun c1 => ?_) (fun c1 => ?_)
  · refine lv_iconst (v := (-1 : Int32)) X.1 X.2.1 dX7_byteAt_17 (by decide) ?_
    have hR : (-1 : Int32) = tgt := by
      rw [← hF]
      simp only [f7_byteAt, if_pos c1]
    exact g_iret X hret hlk hw hR rfl dX7_byteAt_18
  · refine lv_aload_n X.1 X.2.1 dX7_byteAt_8 rfl (lv_at hl 0 rfl) ?_
    refine m_get X K hw 5 (by decide) q843 rfl dX7_byteAt_9 ?_
    refine lv_iload_n X.1 X.2.1 dX7_byteAt_12 rfl (lv_at hl 1 rfl) ?_
    have hi2 : vp_in a1 120 := lp_in hp1 c1 hp0
    refine g_bald X K hw (by decide) mm_e5 hi2 dX7_byteAt_13 ?_
    refine lv_goto (tgt := 18) X.1 X.2.1 dX7_byteAt_14 (by decide) ?_
    have hR : S 5 a1.toNatClampNeg = tgt := by
      rw [← hF]
      simp only [f7_byteAt, if_neg c1]
    exact g_iret X hret hlk hw hR rfl dX7_byteAt_18
set_option maxHeartbeats 4000000 in
set_option maxRecDepth 10000 in
theorem k_X7_next (l : Launch) (G : tt_G) (S : tt_St) (V : Int64) (hp0 : mt S) : m_MV l G yX7_next (g_code yX7_next cX7_next 2 none) 1 21 [.ref (mm_ad G 0)] S V ((f7_next S V).1) ((f7_next S V).2) := by
  generalize hF : f7_next S V = tgt
  refine g_begin rfl (Nat.le_of_ble_eq_true rfl) _ (fun p e s m below meth c ls X hret hlk hB hl => ?_)
  obtain ⟨hP0, K⟩ := hB
  have hw : m_W G S V s s.heap [] := ⟨hP0, va_S.rf⟩
  have X : CallFix p m c cX7_next 2 s ([.ref (mm_ad G 0)] : List Value).toArray tt_T "TrustTinModel" := X
  have hl : lv_has ls 2 [(0, .ref (mm_ad G 0))] := hl
  have j0 : ∀ (n : Nat) (S1 : tt_St) (V2 : Int64) (H : Heap) (locs : List Loc) (ls : Array Slot), (mt S1) → lp_mu (S1 0 6) (S1 0 13) < n → f7_next_L0 n S1 V2 = tgt → m_W G S1 V2 s H locs → lv_has ls 2 [(0, .ref (mm_ad G 0))] → W p l e (g_rm 1 21) s m ([.ref (mm_ad G 0)] : List Value).toArray below meth c H locs 0 0 (MQ below (va_Qv (fun T => T = (tgt.1, tgt.2)) (g_Post G 10 (mm_ad G) (mm_cell G)) (g_in 10 (mm_ad G))) ([.ref (mm_ad G 0)] : List Value).toArray s 0 0 (g_in 10 (mm_ad G))) (F0 m 0 ls []) := by
    intro n
    induction n with
    | zero => intro S1 V2 H locs ls hI hm; exact absurd hm (Nat.not_lt_zero _)
    | succ n ih =>
      intro S1 V2 H locs ls hI hm hF hw hl
      refine lv_aload_n X.1 X.2.1 dX7_next_0 rfl (lv_at hl 0 rfl) ?_
      refine lv_aload_n X.1 X.2.1 dX7_next_1 rfl (lv_at hl 0 rfl) ?_
      refine m_get X K hw 13 (by decide) q851 rfl dX7_next_2 ?_
      refine m_callVI_p X K hw (k_X7_byteAt l G S1 V2 (S1 0 13) (hI.2.2.1) (mt_at hI)) (g_cwV X hiX7_byteAt q1166 q1168 q56 q74 q1169 ⟨(Nat.le_of_ble_eq_true rfl), (Nat.le_of_ble_eq_true rfl)⟩) rfl hl.1 rfl (Nat.le_of_ble_eq_true rfl) dX7_next_5 ⟨(Nat.le_of_ble_eq_true rfl), (Nat.le_of_ble_eq_true rfl)⟩ (fun z3 H locs ez3 hw => ?_)
      refine lv_bipush (v := (32 : Int32)) X.1 X.2.1 dX7_next_8 (by decide) ?_
      refine lv_icmp_ne (tgt := 26) X.1 X.2.1 dX7_next_10 (by decide) (fun c4 => ?_) (fun c4 => ?_)
      · refine lv_aload_n X.1 X.2.1 dX7_next_26 rfl (lv_at hl 0 rfl) ?_
        refine lv_aload_n X.1 X.2.1 dX7_next_27 rfl (lv_at hl 0 rfl) ?_
        refine m_get X K hw 13 (by decide) q851 rfl dX7_next_28 ?_
        refine lv_topi (fun x5 ex5 => ?_)
        refine m_put X K hw 15 (by decide) q853 rfl rfl rfl dX7_next_31 (fun S6 H locs eS6 hw => ?_)
        refine lv_aload_n X.1 X.2.1 dX7_next_34 rfl (lv_at hl 0 rfl) ?_
        refine lv_lconst (v := (0 : Int64)) X.1 X.2.1 dX7_next_35 (by decide) ?_
        refine m_putL X K hw q854 dX7_next_36 (fun V7 H locs eV7 hw => ?_)
        refine lv_aload_n X.1 X.2.1 dX7_next_39 rfl (lv_at hl 0 rfl) ?_
        refine lv_aload_n X.1 X.2.1 dX7_next_40 rfl (lv_at hl 0 rfl) ?_
        refine m_get X K hw 13 (by decide) q851 rfl dX7_next_41 ?_
        refine m_callVI_p X K hw (k_X7_byteAt l G S6 V7 (S6 0 13) (by subst ez3 ex5 eS6 eV7; exact (mt_15 hI).2.2.1) (by subst ez3 ex5 eS6 eV7; exact mt_at (mt_15 hI))) (g_cwV X hiX7_byteAt q1166 q1168 q56 q74 q1169 ⟨(Nat.le_of_ble_eq_true rfl), (Nat.le_of_ble_eq_true rfl)⟩) rfl hl.1 rfl (Nat.le_of_ble_eq_true rfl) dX7_next_44 ⟨(Nat.le_of_ble_eq_true rfl), (Nat.le_of_ble_eq_true rfl)⟩ (fun z8 H locs ez8 hw => ?_)
        refine lv_istore_n (lv' := [(1, .int z8), (0, .ref (mm_ad G 0))]) X.1 X.2.1 dX7_next_47 rfl hl (by decide) rfl (fun ls hl => ?_)
        refine lv_aload_n X.1 X.2.1 dX7_next_48 rfl (lv_at hl 1 rfl) ?_
        refine m_get X K hw 13 (by decide) q851 rfl dX7_next_49 ?_
        refine lv_aload_n X.1 X.2.1 dX7_next_52 rfl (lv_at hl 1 rfl) ?_
        refine m_get X K hw 6 (by decide) q844 rfl dX7_next_53 ?_
        refine lv_icmp_ne (tgt := 67) X.1 X.2.1 dX7_next_56 (by decide) (fun c9 => ?_) (fun c9 => ?_)
        · refine lv_iload_n X.1 X.2.1 dX7_next_67 rfl (lv_at hl 0 rfl) ?_
          refine lv_bipush (v := (59 : Int32)) X.1 X.2.1 dX7_next_68 (by decide) ?_
          refine lv_icmp_ne (tgt := 91) X.1 X.2.1 dX7_next_70 (by decide) (fun c10 => ?_) (fun c10 => ?_)
          · refine lv_iload_n X.1 X.2.1 dX7_next_91 rfl (lv_at hl 0 rfl) ?_
            refine m_callSI_p X K hw (k_X7_letter l G S6 V7 z8) (g_cwS X hiX7_letter q1170 q1171 q74 q1172 ⟨(Nat.le_of_ble_eq_true rfl), (Nat.le_of_ble_eq_true rfl)⟩) rfl hl.1 rfl (Nat.le_of_ble_eq_true rfl) dX7_next_92 ⟨(Nat.le_of_ble_eq_true rfl), (Nat.le_of_ble_eq_true rfl)⟩ (fun z11 H locs ez11 hw => ?_)
            refine lv_if_le (tgt := 173) X.1 X.2.1 dX7_next_95 (by decide) (fun c12 => ?_) (fun c12 => ?_)
            · refine lv_iload_n X.1 X.2.1 dX7_next_173 rfl (lv_at hl 0 rfl) ?_
              refine m_callSI_p X K hw (k_X7_isDigit l G S6 V7 z8) (g_cwS X hiX7_isDigit q1175 q1176 q74 q1177 ⟨(Nat.le_of_ble_eq_true rfl), (Nat.le_of_ble_eq_true rfl)⟩) rfl hl.1 rfl (Nat.le_of_ble_eq_true rfl) dX7_next_174 ⟨(Nat.le_of_ble_eq_true rfl), (Nat.le_of_ble_eq_true rfl)⟩ (fun z13 H locs ez13 hw => ?_)
              refine lv_if_eq (tgt := 256) X.1 X.2.1 dX7_next_177 (by decide) (fun c14 => ?_) (fun c14 => ?_)
              · refine lv_aload_n X.1 X.2.1 dX7_next_256 rfl (lv_at hl 1 rfl) ?_
                refine lv_iconst (v := (4 : Int32)) X.1 X.2.1 dX7_next_257 (by decide) ?_
                refine m_put X K hw 14 (by decide) q852 rfl rfl rfl dX7_next_258 (fun S15 H locs eS15 hw => ?_)
                have hR : (S15, V7) = tgt := by
                  rw [← hF]
                  subst ez3 ex5 eS6 eV7 ez8 ez11 ez13 eS15
                  simp only [f7_next_L0, if_neg c4, if_neg c9, if_neg c10, if_pos c12, if_pos c14]
                have hRS : S15 = tgt.1 := pr1 hR
                have hRV : V7 = tgt.2 := pr2 hR
                exact g_vret X hret hlk hw (Prod.ext hRS hRV) dX7_next_261
              · refine lv_aload_n X.1 X.2.1 dX7_next_180 rfl (lv_at hl 1 rfl) ?_
                refine lv_iconst (v := (2 : Int32)) X.1 X.2.1 dX7_next_181 (by decide) ?_
                refine m_put X K hw 14 (by decide) q852 rfl rfl rfl dX7_next_182 (fun S16 H locs eS16 hw => ?_)
                have j185 : ∀ (n : Nat) (S17 : tt_St) (V18 : Int64) (H : Heap) (locs : List Loc) (ls : Array Slot), (mt S17) → lp_mu (S17 0 6) (S17 0 13) < n → f7_next_L185 n S17 V18 = tgt → m_W G S17 V18 s H locs → lv_has ls 2 [(0, .ref (mm_ad G 0))] → W p l e (g_rm 1 21) s m ([.ref (mm_ad G 0)] : List Value).toArray below meth c H locs 0 0 (MQ below (va_Qv (fun T => T = (tgt.1, tgt.2)) (g_Post G 10 (mm_ad G) (mm_cell G)) (g_in 10 (mm_ad G))) ([.ref (mm_ad G 0)] : List Value).toArray s 0 0 (g_in 10 (mm_ad G))) (F0 m 185 ls []) := by
                  intro n
                  induction n with
                  | zero => intro S17 V18 H locs ls hI hm; exact absurd hm (Nat.not_lt_zero _)
                  | succ n ih =>
                    intro S17 V18 H locs ls hI hm hF hw hl
                    refine lv_aload_n X.1 X.2.1 dX7_next_185 rfl (lv_at hl 0 rfl) ?_
                    refine lv_aload_n X.1 X.2.1 dX7_next_186 rfl (lv_at hl 0 rfl) ?_
                    refine m_get X K hw 13 (by decide) q851 rfl dX7_next_187 ?_
                    refine m_callVI_p X K hw (k_X7_byteAt l G S17 V18 (S17 0 13) (hI.2.2.1) (mt_at hI)) (g_cwV X hiX7_byteAt q1166 q1168 q56 q74 q1169 ⟨(Nat.le_of_ble_eq_true rfl), (Nat.le_of_ble_eq_true rfl)⟩) rfl hl.1 rfl (Nat.le_of_ble_eq_true rfl) dX7_next_190 ⟨(Nat.le_of_ble_eq_true rfl), (Nat.le_of_ble_eq_true rfl)⟩ (fun z19 H locs ez19 hw => ?_)
                    refine m_callSI_p X K hw (k_X7_isDigit l G S17 V18 z19) (g_cwS X hiX7_isDigit q1175 q1176 q74 q1177 ⟨(Nat.le_of_ble_eq_true rfl), (Nat.le_of_ble_eq_true rfl)⟩) rfl hl.1 rfl (Nat.le_of_ble_eq_true rfl) dX7_next_193 ⟨(Nat.le_of_ble_eq_true rfl), (Nat.le_of_ble_eq_true rfl)⟩ (fun z20 H locs ez20 hw => ?_)
                    refine lv_if_eq (tgt := 261) X.1 X.2.1 dX7_next_196 (by decide) (fun c21 => ?_) (fun c21 => ?_)
                    · have hR : (S17, V18) = tgt := by
                        rw [← hF]
                        subst ez19 ez20
                        simp only [f7_next_L185, if_pos c21]
                      have hRS : S17 = tgt.1 := pr1 hR
                      have hRV : V18 = tgt.2 := pr2 hR
                      exact g_vret X hret hlk hw (Prod.ext hRS hRV) dX7_next_261
                    · refine lv_aload_n X.1 X.2.1 dX7_next_199 rfl (lv_at hl 0 rfl) ?_
                      refine lv_aload_n X.1 X.2.1 dX7_next_200 rfl (lv_at hl 0 rfl) ?_
                      refine m_get X K hw 16 (by decide) q854 rfl dX7_next_201 ?_
                      refine lv_ldc2 (v := (9999 : Int64)) X.1 X.2.1 X.2.2.2.1 (X.2.2.2.2 _ q943) dX7_next_204 ?_
                      refine W.lcmp X.1 X.2.1 dX7_next_207 ?_
                      refine lv_if_le (tgt := 218) X.1 X.2.1 dX7_next_208 (by decide) (fun c22 => ?_) (fun c22 => ?_)
                      · refine lv_aload_n X.1 X.2.1 dX7_next_218 rfl (lv_at hl 0 rfl) ?_
                        refine m_get X K hw 16 (by decide) q854 rfl dX7_next_219 ?_
                        refine lv_ldc2 (v := (10 : Int64)) X.1 X.2.1 X.2.2.2.1 (X.2.2.2.2 _ q1087) dX7_next_222 ?_
                        refine lv_lmul X.1 X.2.1 dX7_next_225 ?_
                        refine lv_aload_n X.1 X.2.1 dX7_next_226 rfl (lv_at hl 0 rfl) ?_
                        refine lv_aload_n X.1 X.2.1 dX7_next_227 rfl (lv_at hl 0 rfl) ?_
                        refine m_get X K hw 13 (by decide) q851 rfl dX7_next_228 ?_
                        refine m_callVI_p X K hw (k_X7_byteAt l G S17 V18 (S17 0 13) (hI.2.2.1) (mt_at hI)) (g_cwV X hiX7_byteAt q1166 q1168 q56 q74 q1169 ⟨(Nat.le_of_ble_eq_true rfl), (Nat.le_of_ble_eq_true rfl)⟩) rfl hl.1 rfl (Nat.le_of_ble_eq_true rfl) dX7_next_231 ⟨(Nat.le_of_ble_eq_true rfl), (Nat.le_of_ble_eq_true rfl)⟩ (fun z23 H locs ez23 hw => ?_)
                        refine lv_i2l X.1 X.2.1 dX7_next_234 rfl ?_
                        refine lv_ladd X.1 X.2.1 dX7_next_235 ?_
                        refine lv_ldc2 (v := (48 : Int64)) X.1 X.2.1 X.2.2.2.1 (X.2.2.2.2 _ q1178) dX7_next_236 ?_
                        refine lv_lsub X.1 X.2.1 dX7_next_239 ?_
                        refine m_putL X K hw q854 dX7_next_240 (fun V24 H locs eV24 hw => ?_)
                        refine lv_aload_n X.1 X.2.1 dX7_next_243 rfl (lv_at hl 0 rfl) ?_
                        refine lv_dup X.1 X.2.1 dX7_next_244 rfl ?_
                        refine m_get X K hw 13 (by decide) q851 rfl dX7_next_245 ?_
                        refine lv_iconst (v := (1 : Int32)) X.1 X.2.1 dX7_next_248 (by decide) ?_
                        refine lv_iadd X.1 X.2.1 dX7_next_249 ?_
                        refine lv_topi (fun x25 ex25 => ?_)
                        refine m_put X K hw 13 (by decide) q851 rfl rfl rfl dX7_next_250 (fun S26 H locs eS26 hw => ?_)
                        refine lv_goto (tgt := 185) X.1 X.2.1 dX7_next_253 (by decide) ?_
                        have hF2 : f7_next_L185 n S26 V24 = tgt := by
                          rw [← hF]
                          subst ez19 ez20 ez23 eV24 ex25 eS26
                          simp only [f7_next_L185, if_neg c21, if_pos c22]
                        exact ih S26 V24 _ _ ls (by subst ez19 ez20 ez23 eV24 ex25 eS26; exact (mt_inc hI (by_di rfl rfl c21)).1) (by subst ez19 ez20 ez23 eV24 ex25 eS26; exact mt_mu (by_di rfl rfl c21) hm) hF2 hw (lv_sub hl [0] rfl)
                      · refine lv_aload_n X.1 X.2.1 dX7_next_211 rfl (lv_at hl 0 rfl) ?_
                        refine m_get X K hw 16 (by decide) q854 rfl dX7_next_212 ?_
                        refine lv_goto (tgt := 240) X.1 X.2.1 dX7_next_215 (by decide) ?_
                        refine m_putL X K hw q854 dX7_next_240 (fun V27 H locs eV27 hw => ?_)
                        refine lv_aload_n X.1 X.2.1 dX7_next_243 rfl (lv_at hl 0 rfl) ?_
                        refine lv_dup X.1 X.2.1 dX7_next_244 rfl ?_
                        refine m_get X K hw 13 (by decide) q851 rfl dX7_next_245 ?_
                        refine lv_iconst (v := (1 : Int32)) X.1 X.2.1 dX7_next_248 (by decide) ?_
                        refine lv_iadd X.1 X.2.1 dX7_next_249 ?_
                        refine lv_topi (fun x28 ex28 => ?_)
                        refine m_put X K hw 13 (by decide) q851 rfl rfl rfl dX7_next_250 (fun S29 H locs eS29 hw => ?_)
                        refine lv_goto (tgt := 185) X.1 X.2.1 dX7_next_253 (by decide) ?_
                        have hF2 : f7_next_L185 n S29 V27 = tgt := by
                          rw [← hF]
                          subst ez19 ez20 eV27 ex28 eS29
                          simp only [f7_next_L185, if_neg c21, if_neg c22]
                        exact ih S29 V27 _ _ ls (by subst ez19 ez20 eV27 ex28 eS29; exact (mt_inc hI (by_di rfl rfl c21)).1) (by subst ez19 ez20 eV27 ex28 eS29; exact mt_mu (by_di rfl rfl c21) hm) hF2 hw (lv_sub hl [0] rfl)
                have hF2 : f7_next_L185 (lp_mu (S16 0 6) (S16 0 13) + 1) S16 V7 = tgt := by
                  rw [← hF]
                  subst ez3 ex5 eS6 eV7 ez8 ez11 ez13 eS16
                  simp only [f7_next_L0, if_neg c4, if_neg c9, if_neg c10, if_pos c12, if_neg c14]
                exact j185 (lp_mu (S16 0 6) (S16 0 13) + 1) S16 V7 _ _ ls (by subst ez3 ex5 eS6 eV7 ez8 ez11 ez13 eS16; exact mt_up (mt_15 hI) (by omega) (by omega) (by omega)) (Nat.lt_succ_self _) hF2 hw (lv_sub hl [1] rfl)
            · refine lv_aload_n X.1 X.2.1 dX7_next_98 rfl (lv_at hl 1 rfl) ?_
              refine lv_iconst (v := (1 : Int32)) X.1 X.2.1 dX7_next_99 (by decide) ?_
              refine m_put X K hw 14 (by decide) q852 rfl rfl rfl dX7_next_100 (fun S30 H locs eS30 hw => ?_)
              have j103 : ∀ (n : Nat) (S31 : tt_St) (V32 : Int64) (H : Heap) (locs : List Loc) (ls : Array Slot), (mt S31) → lp_mu (S31 0 6) (S31 0 13) < n → f7_next_L103 n S31 V32 = tgt → m_W G S31 V32 s H locs → lv_has ls 2 [(0, .ref (mm_ad G 0))] → W p l e (g_rm 1 21) s m ([.ref (mm_ad G 0)] : List Value).toArray below meth c H locs 0 0 (MQ below (va_Qv (fun T => T = (tgt.1, tgt.2)) (g_Post G 10 (mm_ad G) (mm_cell G)) (g_in 10 (mm_ad G))) ([.ref (mm_ad G 0)] : List Value).toArray s 0 0 (g_in 10 (mm_ad G))) (F0 m 103 ls []) := by
                intro n
                induction n with
                | zero => intro S31 V32 H locs ls hI hm; exact absurd hm (Nat.not_lt_zero _)
                | succ n ih =>
                  intro S31 V32 H locs ls hI hm hF hw hl
                  refine lv_aload_n X.1 X.2.1 dX7_next_103 rfl (lv_at hl 0 rfl) ?_
                  refine lv_aload_n X.1 X.2.1 dX7_next_104 rfl (lv_at hl 0 rfl) ?_
                  refine m_get X K hw 13 (by decide) q851 rfl dX7_next_105 ?_
                  refine m_callVI_p X K hw (k_X7_byteAt l G S31 V32 (S31 0 13) (hI.2.2.1) (mt_at hI)) (g_cwV X hiX7_byteAt q1166 q1168 q56 q74 q1169 ⟨(Nat.le_of_ble_eq_true rfl), (Nat.le_of_ble_eq_true rfl)⟩) rfl hl.1 rfl (Nat.le_of_ble_eq_true rfl) dX7_next_108 ⟨(Nat.le_of_ble_eq_true rfl), (Nat.le_of_ble_eq_true rfl)⟩ (fun z33 H locs ez33 hw => ?_)
                  refine m_callSI_p X K hw (k_X7_letter l G S31 V32 z33) (g_cwS X hiX7_letter q1170 q1171 q74 q1172 ⟨(Nat.le_of_ble_eq_true rfl), (Nat.le_of_ble_eq_true rfl)⟩) rfl hl.1 rfl (Nat.le_of_ble_eq_true rfl) dX7_next_111 ⟨(Nat.le_of_ble_eq_true rfl), (Nat.le_of_ble_eq_true rfl)⟩ (fun z34 H locs ez34 hw => ?_)
                  refine lv_if_le (tgt := 261) X.1 X.2.1 dX7_next_114 (by decide) (fun c35 => ?_) (fun c35 => ?_)
                  · have hR : (S31, V32) = tgt := by
                      rw [← hF]
                      subst ez33 ez34
                      simp only [f7_next_L103, if_pos c35]
                    have hRS : S31 = tgt.1 := pr1 hR
                    have hRV : V32 = tgt.2 := pr2 hR
                    exact g_vret X hret hlk hw (Prod.ext hRS hRV) dX7_next_261
                  · refine lv_aload_n X.1 X.2.1 dX7_next_117 rfl (lv_at hl 0 rfl) ?_
                    refine lv_aload_n X.1 X.2.1 dX7_next_118 rfl (lv_at hl 0 rfl) ?_
                    refine m_get X K hw 16 (by decide) q854 rfl dX7_next_119 ?_
                    refine lv_ldc2 (v := (100000000000 : Int64)) X.1 X.2.1 X.2.2.2.1 (X.2.2.2.2 _ q1173) dX7_next_122 ?_
                    refine W.lcmp X.1 X.2.1 dX7_next_125 ?_
                    refine lv_if_le (tgt := 136) X.1 X.2.1 dX7_next_126 (by decide) (fun c36 => ?_) (fun c36 => ?_)
                    · refine lv_aload_n X.1 X.2.1 dX7_next_136 rfl (lv_at hl 0 rfl) ?_
                      refine m_get X K hw 16 (by decide) q854 rfl dX7_next_137 ?_
                      refine lv_ldc2 (v := (27 : Int64)) X.1 X.2.1 X.2.2.2.1 (X.2.2.2.2 _ q1174) dX7_next_140 ?_
                      refine lv_lmul X.1 X.2.1 dX7_next_143 ?_
                      refine lv_aload_n X.1 X.2.1 dX7_next_144 rfl (lv_at hl 0 rfl) ?_
                      refine lv_aload_n X.1 X.2.1 dX7_next_145 rfl (lv_at hl 0 rfl) ?_
                      refine m_get X K hw 13 (by decide) q851 rfl dX7_next_146 ?_
                      refine m_callVI_p X K hw (k_X7_byteAt l G S31 V32 (S31 0 13) (hI.2.2.1) (mt_at hI)) (g_cwV X hiX7_byteAt q1166 q1168 q56 q74 q1169 ⟨(Nat.le_of_ble_eq_true rfl), (Nat.le_of_ble_eq_true rfl)⟩) rfl hl.1 rfl (Nat.le_of_ble_eq_true rfl) dX7_next_149 ⟨(Nat.le_of_ble_eq_true rfl), (Nat.le_of_ble_eq_true rfl)⟩ (fun z37 H locs ez37 hw => ?_)
                      refine m_callSI_p X K hw (k_X7_letter l G S31 V32 z37) (g_cwS X hiX7_letter q1170 q1171 q74 q1172 ⟨(Nat.le_of_ble_eq_true rfl), (Nat.le_of_ble_eq_true rfl)⟩) rfl hl.1 rfl (Nat.le_of_ble_eq_true rfl) dX7_next_152 ⟨(Nat.le_of_ble_eq_true rfl), (Nat.le_of_ble_eq_true rfl)⟩ (fun z38 H locs ez38 hw => ?_)
                      refine lv_i2l X.1 X.2.1 dX7_next_155 rfl ?_
                      refine lv_ladd X.1 X.2.1 dX7_next_156 ?_
                      refine m_putL X K hw q854 dX7_next_157 (fun V39 H locs eV39 hw => ?_)
                      refine lv_aload_n X.1 X.2.1 dX7_next_160 rfl (lv_at hl 0 rfl) ?_
                      refine lv_dup X.1 X.2.1 dX7_next_161 rfl ?_
                      refine m_get X K hw 13 (by decide) q851 rfl dX7_next_162 ?_
                      refine lv_iconst (v := (1 : Int32)) X.1 X.2.1 dX7_next_165 (by decide) ?_
                      refine lv_iadd X.1 X.2.1 dX7_next_166 ?_
                      refine lv_topi (fun x40 ex40 => ?_)
                      refine m_put X K hw 13 (by decide) q851 rfl rfl rfl dX7_next_167 (fun S41 H locs eS41 hw => ?_)
                      refine lv_goto (tgt := 103) X.1 X.2.1 dX7_next_170 (by decide) ?_
                      have hF2 : f7_next_L103 n S41 V39 = tgt := by
                        rw [← hF]
                        subst ez33 ez34 ez37 ez38 eV39 ex40 eS41
                        simp only [f7_next_L103, if_neg c35, if_pos c36]
                      exact ih S41 V39 _ _ ls (by subst ez33 ez34 ez37 ez38 eV39 ex40 eS41; exact (mt_inc hI (by_le rfl rfl c35)).1) (by subst ez33 ez34 ez37 ez38 eV39 ex40 eS41; exact mt_mu (by_le rfl rfl c35) hm) hF2 hw (lv_sub hl [0] rfl)
                    · refine lv_aload_n X.1 X.2.1 dX7_next_129 rfl (lv_at hl 0 rfl) ?_
                      refine m_get X K hw 16 (by decide) q854 rfl dX7_next_130 ?_
                      refine lv_goto (tgt := 157) X.1 X.2.1 dX7_next_133 (by decide) ?_
                      refine m_putL X K hw q854 dX7_next_157 (fun V42 H locs eV42 hw => ?_)
                      refine lv_aload_n X.1 X.2.1 dX7_next_160 rfl (lv_at hl 0 rfl) ?_
                      refine lv_dup X.1 X.2.1 dX7_next_161 rfl ?_
                      refine m_get X K hw 13 (by decide) q851 rfl dX7_next_162 ?_
                      refine lv_iconst (v := (1 : Int32)) X.1 X.2.1 dX7_next_165 (by decide) ?_
                      refine lv_iadd X.1 X.2.1 dX7_next_166 ?_
                      refine lv_topi (fun x43 ex43 => ?_)
                      refine m_put X K hw 13 (by decide) q851 rfl rfl rfl dX7_next_167 (fun S44 H locs eS44 hw => ?_)
                      refine lv_goto (tgt := 103) X.1 X.2.1 dX7_next_170 (by decide) ?_
                      have hF2 : f7_next_L103 n S44 V42 = tgt := by
                        rw [← hF]
                        subst ez33 ez34 eV42 ex43 eS44
                        simp only [f7_next_L103, if_neg c35, if_neg c36]
                      exact ih S44 V42 _ _ ls (by subst ez33 ez34 eV42 ex43 eS44; exact (mt_inc hI (by_le rfl rfl c35)).1) (by subst ez33 ez34 eV42 ex43 eS44; exact mt_mu (by_le rfl rfl c35) hm) hF2 hw (lv_sub hl [0] rfl)
              have hF2 : f7_next_L103 (lp_mu (S30 0 6) (S30 0 13) + 1) S30 V7 = tgt := by
                rw [← hF]
                subst ez3 ex5 eS6 eV7 ez8 ez11 eS30
                simp only [f7_next_L0, if_neg c4, if_neg c9, if_neg c10, if_neg c12]
              exact j103 (lp_mu (S30 0 6) (S30 0 13) + 1) S30 V7 _ _ ls (by subst ez3 ex5 eS6 eV7 ez8 ez11 eS30; exact mt_up (mt_15 hI) (by omega) (by omega) (by omega)) (Nat.lt_succ_self _) hF2 hw (lv_sub hl [1] rfl)
          · refine lv_aload_n X.1 X.2.1 dX7_next_73 rfl (lv_at hl 1 rfl) ?_
            refine lv_iconst (v := (3 : Int32)) X.1 X.2.1 dX7_next_74 (by decide) ?_
            refine m_put X K hw 14 (by decide) q852 rfl rfl rfl dX7_next_75 (fun S45 H locs eS45 hw => ?_)
            refine lv_aload_n X.1 X.2.1 dX7_next_78 rfl (lv_at hl 1 rfl) ?_
            refine lv_dup X.1 X.2.1 dX7_next_79 rfl ?_
            refine m_get X K hw 13 (by decide) q851 rfl dX7_next_80 ?_
            refine lv_iconst (v := (1 : Int32)) X.1 X.2.1 dX7_next_83 (by decide) ?_
            refine lv_iadd X.1 X.2.1 dX7_next_84 ?_
            refine lv_topi (fun x46 ex46 => ?_)
            refine m_put X K hw 13 (by decide) q851 rfl rfl rfl dX7_next_85 (fun S47 H locs eS47 hw => ?_)
            refine lv_goto (tgt := 261) X.1 X.2.1 dX7_next_88 (by decide) ?_
            have hR : (S47, V7) = tgt := by
              rw [← hF]
              subst ez3 ex5 eS6 eV7 ez8 eS45 ex46 eS47
              simp only [f7_next_L0, if_neg c4, if_neg c9, if_pos c10]
            have hRS : S47 = tgt.1 := pr1 hR
            have hRV : V7 = tgt.2 := pr2 hR
            exact g_vret X hret hlk hw (Prod.ext hRS hRV) dX7_next_261
        · refine lv_aload_n X.1 X.2.1 dX7_next_59 rfl (lv_at hl 1 rfl) ?_
          refine lv_iconst (v := (0 : Int32)) X.1 X.2.1 dX7_next_60 (by decide) ?_
          refine m_put X K hw 14 (by decide) q852 rfl rfl rfl dX7_next_61 (fun S48 H locs eS48 hw => ?_)
          refine lv_goto (tgt := 261) X.1 X.2.1 dX7_next_64 (by decide) ?_
          have hR : (S48, V7) = tgt := by
            rw [← hF]
            subst ez3 ex5 eS6 eV7 ez8 eS48
            simp only [f7_next_L0, if_neg c4, if_pos c9]
          have hRS : S48 = tgt.1 := pr1 hR
          have hRV : V7 = tgt.2 := pr2 hR
          exact g_vret X hret hlk hw (Prod.ext hRS hRV) dX7_next_261
      · refine lv_aload_n X.1 X.2.1 dX7_next_13 rfl (lv_at hl 0 rfl) ?_
        refine lv_dup X.1 X.2.1 dX7_next_14 rfl ?_
        refine m_get X K hw 13 (by decide) q851 rfl dX7_next_15 ?_
        refine lv_iconst (v := (1 : Int32)) X.1 X.2.1 dX7_next_18 (by decide) ?_
        refine lv_iadd X.1 X.2.1 dX7_next_19 ?_
        refine lv_topi (fun x49 ex49 => ?_)
        refine m_put X K hw 13 (by decide) q851 rfl rfl rfl dX7_next_20 (fun S50 H locs eS50 hw => ?_)
        refine lv_goto (tgt := 0) X.1 X.2.1 dX7_next_23 (by decide) ?_
        have hF2 : f7_next_L0 n S50 V2 = tgt := by
          rw [← hF]
          subst ez3 ex49 eS50
          simp only [f7_next_L0, if_pos c4]
        exact ih S50 V2 _ _ ls (by subst ez3 ex49 eS50; exact (mt_inc hI (by_sp rfl c4)).1) (by subst ez3 ex49 eS50; exact mt_mu (by_sp rfl c4) hm) hF2 hw (lv_sub hl [0] rfl)
  have hF2 : f7_next_L0 (lp_mu (S 0 6) (S 0 13) + 1) S V = tgt := by
    rw [← hF]
    simp only [f7_next]
  exact j0 (lp_mu (S 0 6) (S 0 13) + 1) S V _ _ ls (hp0) (Nat.lt_succ_self _) hF2 hw (lv_sub hl [0] rfl)
set_option maxHeartbeats 4000000 in
set_option maxRecDepth 10000 in
theorem k_X7_wrongHere (l : Launch) (G : tt_G) (S : tt_St) (V : Int64) : m_MV l G yX7_wrongHere (g_code yX7_wrongHere cX7_wrongHere 1 none) 0 0 [.ref (mm_ad G 0)] S V (f7_wrongHere S) V := by
  generalize hF : f7_wrongHere S = tgt
  refine g_begin rfl (Nat.le_of_ble_eq_true rfl) _ (fun p e s m below meth c ls X hret hlk hB hl => ?_)
  obtain ⟨hP0, K⟩ := hB
  have hw : m_W G S V s s.heap [] := ⟨hP0, va_S.rf⟩
  have X : CallFix p m c cX7_wrongHere 1 s ([.ref (mm_ad G 0)] : List Value).toArray tt_T "TrustTinModel" := X
  have hl : lv_has ls 1 [(0, .ref (mm_ad G 0))] := hl
  refine lv_aload_n X.1 X.2.1 dX7_wrongHere_0 rfl (lv_at hl 0 rfl) ?_
  refine lv_aload_n X.1 X.2.1 dX7_wrongHere_1 rfl (lv_at hl 0 rfl) ?_
  refine m_get X K hw 17 (by decide) q855 rfl dX7_wrongHere_2 ?_
  refine lv_if_ge (tgt := 15) X.1 X.2.1 dX7_wrongHere_5 (by decide) (fun c1 => ?_) (fun c1 => ?_)
  · refine lv_aload_n X.1 X.2.1 dX7_wrongHere_15 rfl (lv_at hl 0 rfl) ?_
    refine m_get X K hw 17 (by decide) q855 rfl dX7_wrongHere_16 ?_
    refine lv_topi (fun x2 ex2 => ?_)
    refine m_put X K hw 17 (by decide) q855 rfl rfl rfl dX7_wrongHere_19 (fun S3 H locs eS3 hw => ?_)
    have hR : S3 = tgt := by
      rw [← hF]
      subst ex2 eS3
      simp only [f7_wrongHere, if_pos c1]
    exact g_vret X hret hlk hw (congrArg (fun z => (z, V)) hR) dX7_wrongHere_22
  · refine lv_aload_n X.1 X.2.1 dX7_wrongHere_8 rfl (lv_at hl 0 rfl) ?_
    refine m_get X K hw 15 (by decide) q853 rfl dX7_wrongHere_9 ?_
    refine lv_goto (tgt := 19) X.1 X.2.1 dX7_wrongHere_12 (by decide) ?_
    refine lv_topi (fun x4 ex4 => ?_)
    refine m_put X K hw 17 (by decide) q855 rfl rfl rfl dX7_wrongHere_19 (fun S5 H locs eS5 hw => ?_)
    have hR : S5 = tgt := by
      rw [← hF]
      subst ex4 eS5
      simp only [f7_wrongHere, if_neg c1]
    exact g_vret X hret hlk hw (congrArg (fun z => (z, V)) hR) dX7_wrongHere_22
set_option maxHeartbeats 4000000 in
set_option maxRecDepth 10000 in
theorem k_X7_isWord (l : Launch) (G : tt_G) (S : tt_St) (V : Int64) (a1 : Int64) : m_MI l G yX7_isWord (g_code yX7_isWord cX7_isWord 3 (some FieldType.boolean)) 0 0 [.ref (mm_ad G 0), .long a1] S V (f7_isWord S V a1) S V := by
  generalize hF : f7_isWord S V a1 = tgt
  refine g_begin rfl (Nat.le_of_ble_eq_true rfl) _ (fun p e s m below meth c ls X hret hlk hB hl => ?_)
  obtain ⟨hP0, K⟩ := hB
  have hw : m_W G S V s s.heap [] := ⟨hP0, va_S.rf⟩
  have X : CallFix p m c cX7_isWord 3 s ([.ref (mm_ad G 0), .long a1] : List Value).toArray tt_T "TrustTinModel" := X
  have hl : lv_has ls 3 [(0, .ref (mm_ad G 0)), (1, .long a1)] := hl
  refine lv_aload_n X.1 X.2.1 dX7_isWord_0 rfl (lv_at hl 0 rfl) ?_
  refine m_get X K hw 14 (by decide) q852 rfl dX7_isWord_1 ?_
  refine lv_iconst (v := (1 : Int32)) X.1 X.2.1 dX7_isWord_4 (by decide) ?_
  refine lv_icmp_ne (tgt := 21) X.1 X.2.1 dX7_isWord_5 (by decide) (fun c1 => ?_) (fun c1 => ?_)
  · refine lv_iconst (v := (0 : Int32)) X.1 X.2.1 dX7_isWord_21 (by decide) ?_
    have hR : (0 : Int32) = tgt := by
      rw [← hF]
      simp only [f7_isWord, if_neg c1]
    exact g_zret X hret hlk hw rfl hR rfl dX7_isWord_22
  · refine lv_aload_n X.1 X.2.1 dX7_isWord_8 rfl (lv_at hl 0 rfl) ?_
    refine m_get X K hw 16 (by decide) q854 rfl dX7_isWord_9 ?_
    refine lv_lload_n X.1 X.2.1 dX7_isWord_12 rfl (lv_at hl 1 rfl) ?_
    refine W.lcmp X.1 X.2.1 dX7_isWord_13 ?_
    refine lv_if_ne (tgt := 21) X.1 X.2.1 dX7_isWord_14 (by decide) (fun c2 => ?_) (fun c2 => ?_)
    · refine lv_iconst (v := (0 : Int32)) X.1 X.2.1 dX7_isWord_21 (by decide) ?_
      have hR : (0 : Int32) = tgt := by
        rw [← hF]
        simp only [f7_isWord, if_pos c1, if_neg c2]
      exact g_zret X hret hlk hw rfl hR rfl dX7_isWord_22
    · refine lv_iconst (v := (1 : Int32)) X.1 X.2.1 dX7_isWord_17 (by decide) ?_
      refine lv_goto (tgt := 22) X.1 X.2.1 dX7_isWord_18 (by decide) ?_
      have hR : (1 : Int32) = tgt := by
        rw [← hF]
        simp only [f7_isWord, if_pos c1, if_pos c2]
      exact g_zret X hret hlk hw rfl hR rfl dX7_isWord_22
set_option maxHeartbeats 4000000 in
set_option maxRecDepth 10000 in
theorem k_X7_kindHere (l : Launch) (G : tt_G) (S : tt_St) (V : Int64) : m_MI l G yX7_kindHere (g_code yX7_kindHere cX7_kindHere 1 (some FieldType.int)) 1 22 [.ref (mm_ad G 0)] S V (f7_kindHere S V) S V := by
  generalize hF : f7_kindHere S V = tgt
  refine g_begin rfl (Nat.le_of_ble_eq_true rfl) _ (fun p e s m below meth c ls X hret hlk hB hl => ?_)
  obtain ⟨hP0, K⟩ := hB
  have hw : m_W G S V s s.heap [] := ⟨hP0, va_S.rf⟩
  have X : CallFix p m c cX7_kindHere 1 s ([.ref (mm_ad G 0)] : List Value).toArray tt_T "TrustTinModel" := X
  have hl : lv_has ls 1 [(0, .ref (mm_ad G 0))] := hl
  refine lv_aload_n X.1 X.2.1 dX7_kindHere_0 rfl (lv_at hl 0 rfl) ?_
  refine m_gets X K hw 0 (by decide) (x := (99233 : Int64)) rfl q1187 dX7_kindHere_1 ?_
  refine m_callVI_p X K hw (k_X7_isWord l G S V (99233 : Int64)) (g_cwV X hiX7_isWord q1189 q1191 q59 q74 q1192 ⟨(Nat.le_of_ble_eq_true rfl), (Nat.le_of_ble_eq_true rfl)⟩) rfl hl.1 rfl (Nat.le_of_ble_eq_true rfl) dX7_kindHere_4 ⟨(Nat.le_of_ble_eq_true rfl), (Nat.le_of_ble_eq_true rfl)⟩ (fun z1 H locs ez1 hw => ?_)
  refine lv_if_eq (tgt := 14) X.1 X.2.1 dX7_kindHere_7 (by decide) (fun c2 => ?_) (fun c2 => ?_)
  · refine lv_aload_n X.1 X.2.1 dX7_kindHere_14 rfl (lv_at hl 0 rfl) ?_
    refine m_gets X K hw 1 (by decide) (x := (6411708 : Int64)) rfl q1193 dX7_kindHere_15 ?_
    refine m_callVI_p X K hw (k_X7_isWord l G S V (6411708 : Int64)) (g_cwV X hiX7_isWord q1189 q1191 q59 q74 q1192 ⟨(Nat.le_of_ble_eq_true rfl), (Nat.le_of_ble_eq_true rfl)⟩) rfl hl.1 rfl (Nat.le_of_ble_eq_true rfl) dX7_kindHere_18 ⟨(Nat.le_of_ble_eq_true rfl), (Nat.le_of_ble_eq_true rfl)⟩ (fun z3 H locs ez3 hw => ?_)
    refine lv_if_eq (tgt := 28) X.1 X.2.1 dX7_kindHere_21 (by decide) (fun c4 => ?_) (fun c4 => ?_)
    · refine lv_aload_n X.1 X.2.1 dX7_kindHere_28 rfl (lv_at hl 0 rfl) ?_
      refine m_gets X K hw 2 (by decide) (x := (2549464462 : Int64)) rfl q1195 dX7_kindHere_29 ?_
      refine m_callVI_p X K hw (k_X7_isWord l G S V (2549464462 : Int64)) (g_cwV X hiX7_isWord q1189 q1191 q59 q74 q1192 ⟨(Nat.le_of_ble_eq_true rfl), (Nat.le_of_ble_eq_true rfl)⟩) rfl hl.1 rfl (Nat.le_of_ble_eq_true rfl) dX7_kindHere_32 ⟨(Nat.le_of_ble_eq_true rfl), (Nat.le_of_ble_eq_true rfl)⟩ (fun z5 H locs ez5 hw => ?_)
      refine lv_if_eq (tgt := 42) X.1 X.2.1 dX7_kindHere_35 (by decide) (fun c6 => ?_) (fun c6 => ?_)
      · refine lv_aload_n X.1 X.2.1 dX7_kindHere_42 rfl (lv_at hl 0 rfl) ?_
        refine m_gets X K hw 3 (by decide) (x := (7554780 : Int64)) rfl q1197 dX7_kindHere_43 ?_
        refine m_callVI_p X K hw (k_X7_isWord l G S V (7554780 : Int64)) (g_cwV X hiX7_isWord q1189 q1191 q59 q74 q1192 ⟨(Nat.le_of_ble_eq_true rfl), (Nat.le_of_ble_eq_true rfl)⟩) rfl hl.1 rfl (Nat.le_of_ble_eq_true rfl) dX7_kindHere_46 ⟨(Nat.le_of_ble_eq_true rfl), (Nat.le_of_ble_eq_true rfl)⟩ (fun z7 H locs ez7 hw => ?_)
        refine lv_if_eq (tgt := 56) X.1 X.2.1 dX7_kindHere_49 (by decide) (fun c8 => ?_) (fun c8 => ?_)
        · refine lv_aload_n X.1 X.2.1 dX7_kindHere_56 rfl (lv_at hl 0 rfl) ?_
          refine m_gets X K hw 4 (by decide) (x := (249 : Int64)) rfl q1199 dX7_kindHere_57 ?_
          refine m_callVI_p X K hw (k_X7_isWord l G S V (249 : Int64)) (g_cwV X hiX7_isWord q1189 q1191 q59 q74 q1192 ⟨(Nat.le_of_ble_eq_true rfl), (Nat.le_of_ble_eq_true rfl)⟩) rfl hl.1 rfl (Nat.le_of_ble_eq_true rfl) dX7_kindHere_60 ⟨(Nat.le_of_ble_eq_true rfl), (Nat.le_of_ble_eq_true rfl)⟩ (fun z9 H locs ez9 hw => ?_)
          refine lv_if_eq (tgt := 70) X.1 X.2.1 dX7_kindHere_63 (by decide) (fun c10 => ?_) (fun c10 => ?_)
          · refine lv_aload_n X.1 X.2.1 dX7_kindHere_70 rfl (lv_at hl 0 rfl) ?_
            refine m_gets X K hw 5 (by decide) (x := (11088176 : Int64)) rfl q1201 dX7_kindHere_71 ?_
            refine m_callVI_p X K hw (k_X7_isWord l G S V (11088176 : Int64)) (g_cwV X hiX7_isWord q1189 q1191 q59 q74 q1192 ⟨(Nat.le_of_ble_eq_true rfl), (Nat.le_of_ble_eq_true rfl)⟩) rfl hl.1 rfl (Nat.le_of_ble_eq_true rfl) dX7_kindHere_74 ⟨(Nat.le_of_ble_eq_true rfl), (Nat.le_of_ble_eq_true rfl)⟩ (fun z11 H locs ez11 hw => ?_)
            refine lv_if_eq (tgt := 84) X.1 X.2.1 dX7_kindHere_77 (by decide) (fun c12 => ?_) (fun c12 => ?_)
            · refine lv_aload_n X.1 X.2.1 dX7_kindHere_84 rfl (lv_at hl 0 rfl) ?_
              refine m_gets X K hw 6 (by decide) (x := (6936588 : Int64)) rfl q1203 dX7_kindHere_85 ?_
              refine m_callVI_p X K hw (k_X7_isWord l G S V (6936588 : Int64)) (g_cwV X hiX7_isWord q1189 q1191 q59 q74 q1192 ⟨(Nat.le_of_ble_eq_true rfl), (Nat.le_of_ble_eq_true rfl)⟩) rfl hl.1 rfl (Nat.le_of_ble_eq_true rfl) dX7_kindHere_88 ⟨(Nat.le_of_ble_eq_true rfl), (Nat.le_of_ble_eq_true rfl)⟩ (fun z13 H locs ez13 hw => ?_)
              refine lv_if_eq (tgt := 99) X.1 X.2.1 dX7_kindHere_91 (by decide) (fun c14 => ?_) (fun c14 => ?_)
              · refine lv_iconst (v := (-1 : Int32)) X.1 X.2.1 dX7_kindHere_99 (by decide) ?_
                have hR : (-1 : Int32) = tgt := by
                  rw [← hF]
                  subst ez1 ez3 ez5 ez7 ez9 ez11 ez13
                  simp only [f7_kindHere, if_pos c2, if_pos c4, if_pos c6, if_pos c8, if_pos c10, if_pos c12, if_pos c14]
                exact g_iret X hret hlk hw hR rfl dX7_kindHere_100
              · refine lv_bipush (v := (6 : Int32)) X.1 X.2.1 dX7_kindHere_94 (by decide) ?_
                refine lv_goto (tgt := 100) X.1 X.2.1 dX7_kindHere_96 (by decide) ?_
                have hR : (6 : Int32) = tgt := by
                  rw [← hF]
                  subst ez1 ez3 ez5 ez7 ez9 ez11 ez13
                  simp only [f7_kindHere, if_pos c2, if_pos c4, if_pos c6, if_pos c8, if_pos c10, if_pos c12, if_neg c14]
                exact g_iret X hret hlk hw hR rfl dX7_kindHere_100
            · refine lv_iconst (v := (5 : Int32)) X.1 X.2.1 dX7_kindHere_80 (by decide) ?_
              refine lv_goto (tgt := 100) X.1 X.2.1 dX7_kindHere_81 (by decide) ?_
              have hR : (5 : Int32) = tgt := by
                rw [← hF]
                subst ez1 ez3 ez5 ez7 ez9 ez11
                simp only [f7_kindHere, if_pos c2, if_pos c4, if_pos c6, if_pos c8, if_pos c10, if_neg c12]
              exact g_iret X hret hlk hw hR rfl dX7_kindHere_100
          · refine lv_iconst (v := (4 : Int32)) X.1 X.2.1 dX7_kindHere_66 (by decide) ?_
            refine lv_goto (tgt := 100) X.1 X.2.1 dX7_kindHere_67 (by decide) ?_
            have hR : (4 : Int32) = tgt := by
              rw [← hF]
              subst ez1 ez3 ez5 ez7 ez9
              simp only [f7_kindHere, if_pos c2, if_pos c4, if_pos c6, if_pos c8, if_neg c10]
            exact g_iret X hret hlk hw hR rfl dX7_kindHere_100
        · refine lv_iconst (v := (3 : Int32)) X.1 X.2.1 dX7_kindHere_52 (by decide) ?_
          refine lv_goto (tgt := 100) X.1 X.2.1 dX7_kindHere_53 (by decide) ?_
          have hR : (3 : Int32) = tgt := by
            rw [← hF]
            subst ez1 ez3 ez5 ez7
            simp only [f7_kindHere, if_pos c2, if_pos c4, if_pos c6, if_neg c8]
          exact g_iret X hret hlk hw hR rfl dX7_kindHere_100
      · refine lv_iconst (v := (2 : Int32)) X.1 X.2.1 dX7_kindHere_38 (by decide) ?_
        refine lv_goto (tgt := 100) X.1 X.2.1 dX7_kindHere_39 (by decide) ?_
        have hR : (2 : Int32) = tgt := by
          rw [← hF]
          subst ez1 ez3 ez5
          simp only [f7_kindHere, if_pos c2, if_pos c4, if_neg c6]
        exact g_iret X hret hlk hw hR rfl dX7_kindHere_100
    · refine lv_iconst (v := (1 : Int32)) X.1 X.2.1 dX7_kindHere_24 (by decide) ?_
      refine lv_goto (tgt := 100) X.1 X.2.1 dX7_kindHere_25 (by decide) ?_
      have hR : (1 : Int32) = tgt := by
        rw [← hF]
        subst ez1 ez3
        simp only [f7_kindHere, if_pos c2, if_neg c4]
      exact g_iret X hret hlk hw hR rfl dX7_kindHere_100
  · refine lv_iconst (v := (0 : Int32)) X.1 X.2.1 dX7_kindHere_10 (by decide) ?_
    refine lv_goto (tgt := 100) X.1 X.2.1 dX7_kindHere_11 (by decide) ?_
    have hR : (0 : Int32) = tgt := by
      rw [← hF]
      subst ez1
      simp only [f7_kindHere, if_neg c2]
    exact g_iret X hret hlk hw hR rfl dX7_kindHere_100
set_option maxHeartbeats 4000000 in
set_option maxRecDepth 10000 in
theorem k_X7_number (l : Launch) (G : tt_G) (S : tt_St) (V : Int64) (a1 : Int32) (a2 : Int32) (hp0 : mt S) (hp1 : nb S) : m_MI l G yX7_number (g_code yX7_number cX7_number 4 (some FieldType.int)) 2 42 [.ref (mm_ad G 0), .int a1, .int a2] S V ((f7_number S V a1 a2).1) ((f7_number S V a1 a2).2.1) ((f7_number S V a1 a2).2.2) := by
  generalize hF : f7_number S V a1 a2 = tgt
  refine g_begin rfl (Nat.le_of_ble_eq_true rfl) _ (fun p e s m below meth c ls X hret hlk hB hl => ?_)
  obtain ⟨hP0, K⟩ := hB
  have hw : m_W G S V s s.heap [] := ⟨hP0, va_S.rf⟩
  have X : CallFix p m c cX7_number 4 s ([.ref (mm_ad G 0), .int a1, .int a2] : List Value).toArray tt_T "TrustTinModel" := X
  have hl : lv_has ls 4 [(0, .ref (mm_ad G 0)), (1, .int a1), (2, .int a2)] := hl
  refine lv_aload_n X.1 X.2.1 dX7_number_0 rfl (lv_at hl 0 rfl) ?_
  refine m_get X K hw 16 (by decide) q854 rfl dX7_number_1 ?_
  refine lv_l2i X.1 X.2.1 dX7_number_4 rfl ?_
  refine lv_topi (fun x1 ex1 => ?_)
  refine lv_istore_n (lv' := [(3, .int x1), (0, .ref (mm_ad G 0)), (1, .int a1), (2, .int a2)]) X.1 X.2.1 dX7_number_5 rfl hl (by decide) rfl (fun ls hl => ?_)
  refine lv_aload_n X.1 X.2.1 dX7_number_6 rfl (lv_at hl 1 rfl) ?_
  refine m_get X K hw 14 (by decide) q852 rfl dX7_number_7 ?_
  refine lv_iconst (v := (2 : Int32)) X.1 X.2.1 dX7_number_10 (by decide) ?_
  refine lv_icmp_ne (tgt := 28) X.1 X.2.1 dX7_number_11 (by decide) (fun c2 => ?_) (fun c2 => ?_)
  · refine lv_aload_n X.1 X.2.1 dX7_number_28 rfl (lv_at hl 1 rfl) ?_
    refine m_callVV_s X K hw (k_X7_wrongHere l G S V) (g_cwV X hiX7_wrongHere q1209 q1211 q61 q74 q1212 ⟨(Nat.le_of_ble_eq_true rfl), (Nat.le_of_ble_eq_true rfl)⟩) rfl hl.1 rfl (Nat.le_of_ble_eq_true rfl) dX7_number_29 ⟨(Nat.le_of_ble_eq_true rfl), (Nat.le_of_ble_eq_true rfl)⟩ (fun S3 H locs eS3 hw => ?_)
    refine lv_iload_n X.1 X.2.1 dX7_number_32 rfl (lv_at hl 2 rfl) ?_
    have hR : (a1, S3, V) = tgt := by
      rw [← hF]
      subst ex1 eS3
      simp only [f7_number, if_neg c2]
    have hRR : a1 = tgt.1 := pr31 hR
    have hRS : S3 = tgt.2.1 := pr32 hR
    have hRV : V = tgt.2.2 := pr33 hR
    exact g_iret X hret hlk hw hRR (Prod.ext hRS hRV) dX7_number_33
  · refine lv_aload_n X.1 X.2.1 dX7_number_14 rfl (lv_at hl 1 rfl) ?_
    refine m_get X K hw 16 (by decide) q854 rfl dX7_number_15 ?_
    refine lv_iload_n X.1 X.2.1 dX7_number_18 rfl (lv_at hl 2 rfl) ?_
    refine lv_i2l X.1 X.2.1 dX7_number_19 rfl ?_
    refine lv_iload_n X.1 X.2.1 dX7_number_20 rfl (lv_at hl 3 rfl) ?_
    refine lv_i2l X.1 X.2.1 dX7_number_21 rfl ?_
    refine m_callSI_p X K hw (k_X7_in l G S V V a1.toInt64 a2.toInt64) (g_cwS X hiX7_in q910 q911 q74 q912 ⟨(Nat.le_of_ble_eq_true rfl), (Nat.le_of_ble_eq_true rfl)⟩) rfl hl.1 rfl (Nat.le_of_ble_eq_true rfl) dX7_number_22 ⟨(Nat.le_of_ble_eq_true rfl), (Nat.le_of_ble_eq_true rfl)⟩ (fun z4 H locs ez4 hw => ?_)
    refine lv_if_ne (tgt := 34) X.1 X.2.1 dX7_number_25 (by decide) (fun c5 => ?_) (fun c5 => ?_)
    · refine lv_aload_n X.1 X.2.1 dX7_number_34 rfl (lv_at hl 1 rfl) ?_
      refine m_callVV_sv X K hw (k_X7_next l G S V hp0) (g_cwV X hiX7_next q1162 q1164 q55 q74 q1165 ⟨(Nat.le_of_ble_eq_true rfl), (Nat.le_of_ble_eq_true rfl)⟩) rfl hl.1 rfl (Nat.le_of_ble_eq_true rfl) dX7_number_35 ⟨(Nat.le_of_ble_eq_true rfl), (Nat.le_of_ble_eq_true rfl)⟩ (fun S6 V7 H locs eS6 eV7 hw => ?_)
      refine lv_iload_n X.1 X.2.1 dX7_number_38 rfl (lv_at hl 0 rfl) ?_
      have hR : (x1, S6, V7) = tgt := by
        rw [← hF]
        subst ex1 ez4 eS6 eV7
        simp only [f7_number, if_pos c2, if_neg c5]
      have hRR : x1 = tgt.1 := pr31 hR
      have hRS : S6 = tgt.2.1 := pr32 hR
      have hRV : V7 = tgt.2.2 := pr33 hR
      exact g_iret X hret hlk hw hRR (Prod.ext hRS hRV) dX7_number_39
    · refine lv_aload_n X.1 X.2.1 dX7_number_28 rfl (lv_at hl 1 rfl) ?_
      refine m_callVV_s X K hw (k_X7_wrongHere l G S V) (g_cwV X hiX7_wrongHere q1209 q1211 q61 q74 q1212 ⟨(Nat.le_of_ble_eq_true rfl), (Nat.le_of_ble_eq_true rfl)⟩) rfl hl.1 rfl (Nat.le_of_ble_eq_true rfl) dX7_number_29 ⟨(Nat.le_of_ble_eq_true rfl), (Nat.le_of_ble_eq_true rfl)⟩ (fun S8 H locs eS8 hw => ?_)
      refine lv_iload_n X.1 X.2.1 dX7_number_32 rfl (lv_at hl 2 rfl) ?_
      have hR : (a1, S8, V) = tgt := by
        rw [← hF]
        subst ex1 ez4 eS8
        simp only [f7_number, if_pos c2, if_pos c5]
      have hRR : a1 = tgt.1 := pr31 hR
      have hRS : S8 = tgt.2.1 := pr32 hR
      have hRV : V = tgt.2.2 := pr33 hR
      exact g_iret X hret hlk hw hRR (Prod.ext hRS hRV) dX7_number_33
set_option maxHeartbeats 4000000 in
set_option maxRecDepth 10000 in
theorem k_X7_drinkerHere (l : Launch) (G : tt_G) (S : tt_St) (V : Int64) (a1 : Int32) (hp0 : mt S) (hp1 : nb S) : m_MV l G yX7_drinkerHere (g_code yX7_drinkerHere cX7_drinkerHere 6 none) 3 65 [.ref (mm_ad G 0), .int a1] S V ((f7_drinkerHere S V a1).1) ((f7_drinkerHere S V a1).2) := by
  generalize hF : f7_drinkerHere S V a1 = tgt
  refine g_begin rfl (Nat.le_of_ble_eq_true rfl) _ (fun p e s m below meth c ls X hret hlk hB hl => ?_)
  obtain ⟨hP0, K⟩ := hB
  have hw : m_W G S V s s.heap [] := ⟨hP0, va_S.rf⟩
  have X : CallFix p m c cX7_drinkerHere 6 s ([.ref (mm_ad G 0), .int a1] : List Value).toArray tt_T "TrustTinModel" := X
  have hl : lv_has ls 6 [(0, .ref (mm_ad G 0)), (1, .int a1)] := hl
  refine lv_aload_n X.1 X.2.1 dX7_drinkerHere_0 rfl (lv_at hl 0 rfl) ?_
  refine m_get X K hw 0 (by decide) q838 rfl dX7_drinkerHere_1 ?_
  refine lv_iconst (v := (0 : Int32)) X.1 X.2.1 dX7_drinkerHere_4 (by decide) ?_
  have hi1 : vp_in (0 : Int32) 132 := by unfold vp_in; decide
  refine g_ialdL (j := 0) X K hw (by decide) mm_e1 hi1 rfl dX7_drinkerHere_5 ?_
  refine lv_bipush (v := (10 : Int32)) X.1 X.2.1 dX7_drinkerHere_6 (by decide) ?_
  refine lv_icmp_ne (tgt := 16) X.1 X.2.1 dX7_drinkerHere_8 (by decide) (fun c2 => ?_) (fun c2 => ?_)
  · refine lv_aload_n X.1 X.2.1 dX7_drinkerHere_16 rfl (lv_at hl 0 rfl) ?_
    refine m_callVV_sv X K hw (k_X7_next l G S V hp0) (g_cwV X hiX7_next q1162 q1164 q55 q74 q1165 ⟨(Nat.le_of_ble_eq_true rfl), (Nat.le_of_ble_eq_true rfl)⟩) rfl hl.1 rfl (Nat.le_of_ble_eq_true rfl) dX7_drinkerHere_17 ⟨(Nat.le_of_ble_eq_true rfl), (Nat.le_of_ble_eq_true rfl)⟩ (fun S3 V4 H locs eS3 eV4 hw => ?_)
    refine lv_aload_n X.1 X.2.1 dX7_drinkerHere_20 rfl (lv_at hl 0 rfl) ?_
    refine lv_iconst (v := (1 : Int32)) X.1 X.2.1 dX7_drinkerHere_21 (by decide) ?_
    refine lv_bipush (v := (9 : Int32)) X.1 X.2.1 dX7_drinkerHere_22 (by decide) ?_
    refine m_callVI_sv X K hw (k_X7_number l G S3 V4 (1 : Int32) (9 : Int32) (by subst eS3 eV4; exact (tx_next V hp0 hp1).1) (by subst eS3 eV4; exact (tx_next V hp0 hp1).2.1)) (g_cwV X hiX7_number q1213 q1215 q62 q74 q1216 ⟨(Nat.le_of_ble_eq_true rfl), (Nat.le_of_ble_eq_true rfl)⟩) rfl hl.1 rfl (Nat.le_of_ble_eq_true rfl) dX7_drinkerHere_24 ⟨(Nat.le_of_ble_eq_true rfl), (Nat.le_of_ble_eq_true rfl)⟩ (fun z5 S6 V7 H locs ez5 eS6 eV7 hw => ?_)
    refine lv_istore_n (lv' := [(2, .int z5), (0, .ref (mm_ad G 0)), (1, .int a1)]) X.1 X.2.1 dX7_drinkerHere_27 rfl hl (by decide) rfl (fun ls hl => ?_)
    refine lv_sipush (v := (200 : Int32)) X.1 X.2.1 dX7_drinkerHere_28 (by decide) ?_
    refine lv_istore_n (lv' := [(3, .int (200 : Int32)), (2, .int z5), (0, .ref (mm_ad G 0)), (1, .int a1)]) X.1 X.2.1 dX7_drinkerHere_31 rfl hl (by decide) rfl (fun ls hl => ?_)
    refine lv_bipush (v := (20 : Int32)) X.1 X.2.1 dX7_drinkerHere_32 (by decide) ?_
    refine lv_istore (lv' := [(4, .int (20 : Int32)), (3, .int (200 : Int32)), (2, .int z5), (0, .ref (mm_ad G 0)), (1, .int a1)]) X.1 X.2.1 dX7_drinkerHere_34 hl (by decide) rfl (fun ls hl => ?_)
    refine lv_aload_n X.1 X.2.1 dX7_drinkerHere_36 rfl (lv_at hl 3 rfl) ?_
    refine m_get X K hw 17 (by decide) q855 rfl dX7_drinkerHere_37 ?_
    refine lv_if_ge (tgt := 66) X.1 X.2.1 dX7_drinkerHere_40 (by decide) (fun c8 => ?_) (fun c8 => ?_)
    · refine lv_aload_n X.1 X.2.1 dX7_drinkerHere_66 rfl (lv_at hl 3 rfl) ?_
      refine m_get X K hw 17 (by decide) q855 rfl dX7_drinkerHere_67 ?_
      refine lv_if_ge (tgt := 96) X.1 X.2.1 dX7_drinkerHere_70 (by decide) (fun c9 => ?_) (fun c9 => ?_)
      · refine lv_aload_n X.1 X.2.1 dX7_drinkerHere_96 rfl (lv_at hl 3 rfl) ?_
        refine m_get X K hw 17 (by decide) q855 rfl dX7_drinkerHere_97 ?_
        refine lv_if_ge (tgt := 114) X.1 X.2.1 dX7_drinkerHere_100 (by decide) (fun c10 => ?_) (fun c10 => ?_)
        · have hR : (S6, V7) = tgt := by
            rw [← hF]
            subst eS3 eV4 ez5 eS6 eV7
            simp only [f7_drinkerHere, if_neg c2, if_pos c8]
          have hRS : S6 = tgt.1 := pr1 hR
          have hRV : V7 = tgt.2 := pr2 hR
          exact g_vret X hret hlk hw (Prod.ext hRS hRV) dX7_drinkerHere_114
        · exact absurd c8 c10
      · exact absurd c8 c9
    · refine lv_aload_n X.1 X.2.1 dX7_drinkerHere_43 rfl (lv_at hl 3 rfl) ?_
      refine m_gets X K hw 7 (by decide) (x := (8930039 : Int64)) rfl q1217 dX7_drinkerHere_44 ?_
      refine m_callVI_p X K hw (k_X7_isWord l G S6 V7 (8930039 : Int64)) (g_cwV X hiX7_isWord q1189 q1191 q59 q74 q1192 ⟨(Nat.le_of_ble_eq_true rfl), (Nat.le_of_ble_eq_true rfl)⟩) rfl hl.1 rfl (Nat.le_of_ble_eq_true rfl) dX7_drinkerHere_47 ⟨(Nat.le_of_ble_eq_true rfl), (Nat.le_of_ble_eq_true rfl)⟩ (fun z11 H locs ez11 hw => ?_)
      refine lv_if_eq (tgt := 66) X.1 X.2.1 dX7_drinkerHere_50 (by decide) (fun c12 => ?_) (fun c12 => ?_)
      · refine lv_aload_n X.1 X.2.1 dX7_drinkerHere_66 rfl (lv_at hl 3 rfl) ?_
        refine m_get X K hw 17 (by decide) q855 rfl dX7_drinkerHere_67 ?_
        refine lv_if_ge (tgt := 96) X.1 X.2.1 dX7_drinkerHere_70 (by decide) (fun c13 => ?_) (fun c13 => ?_)
        · exact absurd c13 c8
        · refine lv_aload_n X.1 X.2.1 dX7_drinkerHere_73 rfl (lv_at hl 3 rfl) ?_
          refine m_gets X K hw 8 (by decide) (x := (6564179 : Int64)) rfl q1219 dX7_drinkerHere_74 ?_
          refine m_callVI_p X K hw (k_X7_isWord l G S6 V7 (6564179 : Int64)) (g_cwV X hiX7_isWord q1189 q1191 q59 q74 q1192 ⟨(Nat.le_of_ble_eq_true rfl), (Nat.le_of_ble_eq_true rfl)⟩) rfl hl.1 rfl (Nat.le_of_ble_eq_true rfl) dX7_drinkerHere_77 ⟨(Nat.le_of_ble_eq_true rfl), (Nat.le_of_ble_eq_true rfl)⟩ (fun z14 H locs ez14 hw => ?_)
          refine lv_if_eq (tgt := 96) X.1 X.2.1 dX7_drinkerHere_80 (by decide) (fun c15 => ?_) (fun c15 => ?_)
          · refine lv_aload_n X.1 X.2.1 dX7_drinkerHere_96 rfl (lv_at hl 3 rfl) ?_
            refine m_get X K hw 17 (by decide) q855 rfl dX7_drinkerHere_97 ?_
            refine lv_if_ge (tgt := 114) X.1 X.2.1 dX7_drinkerHere_100 (by decide) (fun c16 => ?_) (fun c16 => ?_)
            · exact absurd c16 c8
            · refine lv_aload_n X.1 X.2.1 dX7_drinkerHere_103 rfl (lv_at hl 3 rfl) ?_
              refine lv_iload_n X.1 X.2.1 dX7_drinkerHere_104 rfl (lv_at hl 4 rfl) ?_
              refine lv_iload_n X.1 X.2.1 dX7_drinkerHere_105 rfl (lv_at hl 2 rfl) ?_
              refine lv_iload_n X.1 X.2.1 dX7_drinkerHere_106 rfl (lv_at hl 1 rfl) ?_
              refine lv_iload X.1 X.2.1 dX7_drinkerHere_107 (lv_at hl 0 rfl) ?_
              refine m_callVI_s X K hw (k_X7_comes l G S6 V7 a1 z5 (200 : Int32) (20 : Int32) (by rw [show S6 1 = S 1 from by subst eS3 eV4 ez5 eS6 eV7 ez11 ez14; with_reducible first | exact (dh_6 V hp0 hp1).2 | exact (dh_p (dh_6 V hp0 hp1)).2 | exact (dh_p (dh_p (dh_6 V hp0 hp1))).2]; exact dk_in hp1 c2)) (g_cwV X hiX7_comes q919 q921 q30 q74 q922 ⟨(Nat.le_of_ble_eq_true rfl), (Nat.le_of_ble_eq_true rfl)⟩) rfl hl.1 rfl (Nat.le_of_ble_eq_true rfl) dX7_drinkerHere_109 ⟨(Nat.le_of_ble_eq_true rfl), (Nat.le_of_ble_eq_true rfl)⟩ (fun z17 S18 H locs ez17 eS18 hw => ?_)
              refine lv_istore (lv' := [(5, .int z17), (4, .int (20 : Int32)), (3, .int (200 : Int32)), (2, .int z5), (0, .ref (mm_ad G 0)), (1, .int a1)]) X.1 X.2.1 dX7_drinkerHere_112 hl (by decide) rfl (fun ls hl => ?_)
              have hR : (S18, V7) = tgt := by
                rw [← hF]
                subst eS3 eV4 ez5 eS6 eV7 ez11 ez14 ez17 eS18
                simp only [f7_drinkerHere, if_neg c2, if_neg c8, if_pos c12, if_pos c15]
              have hRS : S18 = tgt.1 := pr1 hR
              have hRV : V7 = tgt.2 := pr2 hR
              exact g_vret X hret hlk hw (Prod.ext hRS hRV) dX7_drinkerHere_114
          · refine lv_aload_n X.1 X.2.1 dX7_drinkerHere_83 rfl (lv_at hl 3 rfl) ?_
            refine m_callVV_sv X K hw (k_X7_next l G S6 V7 (by subst eS3 eV4 ez5 eS6 eV7 ez11 ez14; with_reducible first | exact (dh_6 V hp0 hp1).1.1 | exact (dh_p (dh_6 V hp0 hp1)).1.1)) (g_cwV X hiX7_next q1162 q1164 q55 q74 q1165 ⟨(Nat.le_of_ble_eq_true rfl), (Nat.le_of_ble_eq_true rfl)⟩) rfl hl.1 rfl (Nat.le_of_ble_eq_true rfl) dX7_drinkerHere_84 ⟨(Nat.le_of_ble_eq_true rfl), (Nat.le_of_ble_eq_true rfl)⟩ (fun S19 V20 H locs eS19 eV20 hw => ?_)
            refine lv_aload_n X.1 X.2.1 dX7_drinkerHere_87 rfl (lv_at hl 3 rfl) ?_
            refine lv_iconst (v := (0 : Int32)) X.1 X.2.1 dX7_drinkerHere_88 (by decide) ?_
            refine lv_bipush (v := (99 : Int32)) X.1 X.2.1 dX7_drinkerHere_89 (by decide) ?_
            refine m_callVI_sv X K hw (k_X7_number l G S19 V20 (0 : Int32) (99 : Int32) (by subst eS3 eV4 ez5 eS6 eV7 ez11 ez14 eS19 eV20; with_reducible first | exact (dh_n (dh_6 V hp0 hp1)).1.1 | exact (dh_n (dh_p (dh_6 V hp0 hp1))).1.1) (by subst eS3 eV4 ez5 eS6 eV7 ez11 ez14 eS19 eV20; with_reducible first | exact (dh_n (dh_6 V hp0 hp1)).1.2.1 | exact (dh_n (dh_p (dh_6 V hp0 hp1))).1.2.1)) (g_cwV X hiX7_number q1213 q1215 q62 q74 q1216 ⟨(Nat.le_of_ble_eq_true rfl), (Nat.le_of_ble_eq_true rfl)⟩) rfl hl.1 rfl (Nat.le_of_ble_eq_true rfl) dX7_drinkerHere_91 ⟨(Nat.le_of_ble_eq_true rfl), (Nat.le_of_ble_eq_true rfl)⟩ (fun z21 S22 V23 H locs ez21 eS22 eV23 hw => ?_)
            refine lv_istore (lv' := [(4, .int z21), (3, .int (200 : Int32)), (2, .int z5), (0, .ref (mm_ad G 0)), (1, .int a1)]) X.1 X.2.1 dX7_drinkerHere_94 hl (by decide) rfl (fun ls hl => ?_)
            refine lv_aload_n X.1 X.2.1 dX7_drinkerHere_96 rfl (lv_at hl 3 rfl) ?_
            refine m_get X K hw 17 (by decide) q855 rfl dX7_drinkerHere_97 ?_
            refine lv_if_ge (tgt := 114) X.1 X.2.1 dX7_drinkerHere_100 (by decide) (fun c24 => ?_) (fun c24 => ?_)
            · have hR : (S22, V23) = tgt := by
                rw [← hF]
                subst eS3 eV4 ez5 eS6 eV7 ez11 ez14 eS19 eV20 ez21 eS22 eV23
                simp only [f7_drinkerHere, if_neg c2, if_neg c8, if_pos c12, if_neg c15, if_pos c24]
              have hRS : S22 = tgt.1 := pr1 hR
              have hRV : V23 = tgt.2 := pr2 hR
              exact g_vret X hret hlk hw (Prod.ext hRS hRV) dX7_drinkerHere_114
            · refine lv_aload_n X.1 X.2.1 dX7_drinkerHere_103 rfl (lv_at hl 3 rfl) ?_
              refine lv_iload_n X.1 X.2.1 dX7_drinkerHere_104 rfl (lv_at hl 4 rfl) ?_
              refine lv_iload_n X.1 X.2.1 dX7_drinkerHere_105 rfl (lv_at hl 2 rfl) ?_
              refine lv_iload_n X.1 X.2.1 dX7_drinkerHere_106 rfl (lv_at hl 1 rfl) ?_
              refine lv_iload X.1 X.2.1 dX7_drinkerHere_107 (lv_at hl 0 rfl) ?_
              refine m_callVI_s X K hw (k_X7_comes l G S22 V23 a1 z5 (200 : Int32) z21 (by rw [show S22 1 = S 1 from by subst eS3 eV4 ez5 eS6 eV7 ez11 ez14 eS19 eV20 ez21 eS22 eV23; with_reducible first | exact (dh_6 V hp0 hp1).2 | exact (dh_p (dh_6 V hp0 hp1)).2 | exact (dh_p (dh_p (dh_6 V hp0 hp1))).2]; exact dk_in hp1 c2)) (g_cwV X hiX7_comes q919 q921 q30 q74 q922 ⟨(Nat.le_of_ble_eq_true rfl), (Nat.le_of_ble_eq_true rfl)⟩) rfl hl.1 rfl (Nat.le_of_ble_eq_true rfl) dX7_drinkerHere_109 ⟨(Nat.le_of_ble_eq_true rfl), (Nat.le_of_ble_eq_true rfl)⟩ (fun z25 S26 H locs ez25 eS26 hw => ?_)
              refine lv_istore (lv' := [(5, .int z25), (4, .int z21), (3, .int (200 : Int32)), (2, .int z5), (0, .ref (mm_ad G 0)), (1, .int a1)]) X.1 X.2.1 dX7_drinkerHere_112 hl (by decide) rfl (fun ls hl => ?_)
              have hR : (S26, V23) = tgt := by
                rw [← hF]
                subst eS3 eV4 ez5 eS6 eV7 ez11 ez14 eS19 eV20 ez21 eS22 eV23 ez25 eS26
                simp only [f7_drinkerHere, if_neg c2, if_neg c8, if_pos c12, if_neg c15, if_neg c24]
              have hRS : S26 = tgt.1 := pr1 hR
              have hRV : V23 = tgt.2 := pr2 hR
              exact g_vret X hret hlk hw (Prod.ext hRS hRV) dX7_drinkerHere_114
      · refine lv_aload_n X.1 X.2.1 dX7_drinkerHere_53 rfl (lv_at hl 3 rfl) ?_
        refine m_callVV_sv X K hw (k_X7_next l G S6 V7 (by subst eS3 eV4 ez5 eS6 eV7 ez11; exact (dh_6 V hp0 hp1).1.1)) (g_cwV X hiX7_next q1162 q1164 q55 q74 q1165 ⟨(Nat.le_of_ble_eq_true rfl), (Nat.le_of_ble_eq_true rfl)⟩) rfl hl.1 rfl (Nat.le_of_ble_eq_true rfl) dX7_drinkerHere_54 ⟨(Nat.le_of_ble_eq_true rfl), (Nat.le_of_ble_eq_true rfl)⟩ (fun S27 V28 H locs eS27 eV28 hw => ?_)
        refine lv_aload_n X.1 X.2.1 dX7_drinkerHere_57 rfl (lv_at hl 3 rfl) ?_
        refine lv_iconst (v := (0 : Int32)) X.1 X.2.1 dX7_drinkerHere_58 (by decide) ?_
        refine lv_sipush (v := (9999 : Int32)) X.1 X.2.1 dX7_drinkerHere_59 (by decide) ?_
        refine m_callVI_sv X K hw (k_X7_number l G S27 V28 (0 : Int32) (9999 : Int32) (by subst eS3 eV4 ez5 eS6 eV7 ez11 eS27 eV28; exact ((dh_n (dh_6 V hp0 hp1)).1).1) (by subst eS3 eV4 ez5 eS6 eV7 ez11 eS27 eV28; exact ((dh_n (dh_6 V hp0 hp1)).1).2.1)) (g_cwV X hiX7_number q1213 q1215 q62 q74 q1216 ⟨(Nat.le_of_ble_eq_true rfl), (Nat.le_of_ble_eq_true rfl)⟩) rfl hl.1 rfl (Nat.le_of_ble_eq_true rfl) dX7_drinkerHere_62 ⟨(Nat.le_of_ble_eq_true rfl), (Nat.le_of_ble_eq_true rfl)⟩ (fun z29 S30 V31 H locs ez29 eS30 eV31 hw => ?_)
        refine lv_istore_n (lv' := [(3, .int z29), (4, .int (20 : Int32)), (2, .int z5), (0, .ref (mm_ad G 0)), (1, .int a1)]) X.1 X.2.1 dX7_drinkerHere_65 rfl hl (by decide) rfl (fun ls hl => ?_)
        refine lv_aload_n X.1 X.2.1 dX7_drinkerHere_66 rfl (lv_at hl 3 rfl) ?_
        refine m_get X K hw 17 (by decide) q855 rfl dX7_drinkerHere_67 ?_
        refine lv_if_ge (tgt := 96) X.1 X.2.1 dX7_drinkerHere_70 (by decide) (fun c32 => ?_) (fun c32 => ?_)
        · refine lv_aload_n X.1 X.2.1 dX7_drinkerHere_96 rfl (lv_at hl 3 rfl) ?_
          refine m_get X K hw 17 (by decide) q855 rfl dX7_drinkerHere_97 ?_
          refine lv_if_ge (tgt := 114) X.1 X.2.1 dX7_drinkerHere_100 (by decide) (fun c33 => ?_) (fun c33 => ?_)
          · have hR : (S30, V31) = tgt := by
              rw [← hF]
              subst eS3 eV4 ez5 eS6 eV7 ez11 eS27 eV28 ez29 eS30 eV31
              simp only [f7_drinkerHere, if_neg c2, if_neg c8, if_neg c12, if_pos c32]
            have hRS : S30 = tgt.1 := pr1 hR
            have hRV : V31 = tgt.2 := pr2 hR
            exact g_vret X hret hlk hw (Prod.ext hRS hRV) dX7_drinkerHere_114
          · exact absurd c32 c33
        · refine lv_aload_n X.1 X.2.1 dX7_drinkerHere_73 rfl (lv_at hl 3 rfl) ?_
          refine m_gets X K hw 8 (by decide) (x := (6564179 : Int64)) rfl q1219 dX7_drinkerHere_74 ?_
          refine m_callVI_p X K hw (k_X7_isWord l G S30 V31 (6564179 : Int64)) (g_cwV X hiX7_isWord q1189 q1191 q59 q74 q1192 ⟨(Nat.le_of_ble_eq_true rfl), (Nat.le_of_ble_eq_true rfl)⟩) rfl hl.1 rfl (Nat.le_of_ble_eq_true rfl) dX7_drinkerHere_77 ⟨(Nat.le_of_ble_eq_true rfl), (Nat.le_of_ble_eq_true rfl)⟩ (fun z34 H locs ez34 hw => ?_)
          refine lv_if_eq (tgt := 96) X.1 X.2.1 dX7_drinkerHere_80 (by decide) (fun c35 => ?_) (fun c35 => ?_)
          · refine lv_aload_n X.1 X.2.1 dX7_drinkerHere_96 rfl (lv_at hl 3 rfl) ?_
            refine m_get X K hw 17 (by decide) q855 rfl dX7_drinkerHere_97 ?_
            refine lv_if_ge (tgt := 114) X.1 X.2.1 dX7_drinkerHere_100 (by decide) (fun c36 => ?_) (fun c36 => ?_)
            · exact absurd c36 c32
            · refine lv_aload_n X.1 X.2.1 dX7_drinkerHere_103 rfl (lv_at hl 3 rfl) ?_
              refine lv_iload_n X.1 X.2.1 dX7_drinkerHere_104 rfl (lv_at hl 4 rfl) ?_
              refine lv_iload_n X.1 X.2.1 dX7_drinkerHere_105 rfl (lv_at hl 2 rfl) ?_
              refine lv_iload_n X.1 X.2.1 dX7_drinkerHere_106 rfl (lv_at hl 0 rfl) ?_
              refine lv_iload X.1 X.2.1 dX7_drinkerHere_107 (lv_at hl 1 rfl) ?_
              refine m_callVI_s X K hw (k_X7_comes l G S30 V31 a1 z5 z29 (20 : Int32) (by rw [show S30 1 = S 1 from by subst eS3 eV4 ez5 eS6 eV7 ez11 eS27 eV28 ez29 eS30 eV31 ez34; with_reducible first | exact (dh_6 V hp0 hp1).2 | exact (dh_p (dh_6 V hp0 hp1)).2 | exact (dh_p (dh_p (dh_6 V hp0 hp1))).2]; exact dk_in hp1 c2)) (g_cwV X hiX7_comes q919 q921 q30 q74 q922 ⟨(Nat.le_of_ble_eq_true rfl), (Nat.le_of_ble_eq_true rfl)⟩) rfl hl.1 rfl (Nat.le_of_ble_eq_true rfl) dX7_drinkerHere_109 ⟨(Nat.le_of_ble_eq_true rfl), (Nat.le_of_ble_eq_true rfl)⟩ (fun z37 S38 H locs ez37 eS38 hw => ?_)
              refine lv_istore (lv' := [(5, .int z37), (3, .int z29), (4, .int (20 : Int32)), (2, .int z5), (0, .ref (mm_ad G 0)), (1, .int a1)]) X.1 X.2.1 dX7_drinkerHere_112 hl (by decide) rfl (fun ls hl => ?_)
              have hR : (S38, V31) = tgt := by
                rw [← hF]
                subst eS3 eV4 ez5 eS6 eV7 ez11 eS27 eV28 ez29 eS30 eV31 ez34 ez37 eS38
                simp only [f7_drinkerHere, if_neg c2, if_neg c8, if_neg c12, if_neg c32, if_pos c35]
              have hRS : S38 = tgt.1 := pr1 hR
              have hRV : V31 = tgt.2 := pr2 hR
              exact g_vret X hret hlk hw (Prod.ext hRS hRV) dX7_drinkerHere_114
          · refine lv_aload_n X.1 X.2.1 dX7_drinkerHere_83 rfl (lv_at hl 3 rfl) ?_
            refine m_callVV_sv X K hw (k_X7_next l G S30 V31 (by subst eS3 eV4 ez5 eS6 eV7 ez11 eS27 eV28 ez29 eS30 eV31 ez34; with_reducible first | exact (dh_6 V hp0 hp1).1.1 | exact (dh_p (dh_6 V hp0 hp1)).1.1)) (g_cwV X hiX7_next q1162 q1164 q55 q74 q1165 ⟨(Nat.le_of_ble_eq_true rfl), (Nat.le_of_ble_eq_true rfl)⟩) rfl hl.1 rfl (Nat.le_of_ble_eq_true rfl) dX7_drinkerHere_84 ⟨(Nat.le_of_ble_eq_true rfl), (Nat.le_of_ble_eq_true rfl)⟩ (fun S39 V40 H locs eS39 eV40 hw => ?_)
            refine lv_aload_n X.1 X.2.1 dX7_drinkerHere_87 rfl (lv_at hl 3 rfl) ?_
            refine lv_iconst (v := (0 : Int32)) X.1 X.2.1 dX7_drinkerHere_88 (by decide) ?_
            refine lv_bipush (v := (99 : Int32)) X.1 X.2.1 dX7_drinkerHere_89 (by decide) ?_
            refine m_callVI_sv X K hw (k_X7_number l G S39 V40 (0 : Int32) (99 : Int32) (by subst eS3 eV4 ez5 eS6 eV7 ez11 eS27 eV28 ez29 eS30 eV31 ez34 eS39 eV40; with_reducible first | exact (dh_n (dh_6 V hp0 hp1)).1.1 | exact (dh_n (dh_p (dh_6 V hp0 hp1))).1.1) (by subst eS3 eV4 ez5 eS6 eV7 ez11 eS27 eV28 ez29 eS30 eV31 ez34 eS39 eV40; with_reducible first | exact (dh_n (dh_6 V hp0 hp1)).1.2.1 | exact (dh_n (dh_p (dh_6 V hp0 hp1))).1.2.1)) (g_cwV X hiX7_number q1213 q1215 q62 q74 q1216 ⟨(Nat.le_of_ble_eq_true rfl), (Nat.le_of_ble_eq_true rfl)⟩) rfl hl.1 rfl (Nat.le_of_ble_eq_true rfl) dX7_drinkerHere_91 ⟨(Nat.le_of_ble_eq_true rfl), (Nat.le_of_ble_eq_true rfl)⟩ (fun z41 S42 V43 H locs ez41 eS42 eV43 hw => ?_)
            refine lv_istore (lv' := [(4, .int z41), (3, .int z29), (2, .int z5), (0, .ref (mm_ad G 0)), (1, .int a1)]) X.1 X.2.1 dX7_drinkerHere_94 hl (by decide) rfl (fun ls hl => ?_)
            refine lv_aload_n X.1 X.2.1 dX7_drinkerHere_96 rfl (lv_at hl 3 rfl) ?_
            refine m_get X K hw 17 (by decide) q855 rfl dX7_drinkerHere_97 ?_
            refine lv_if_ge (tgt := 114) X.1 X.2.1 dX7_drinkerHere_100 (by decide) (fun c44 => ?_) (fun c44 => ?_)
            · have hR : (S42, V43) = tgt := by
                rw [← hF]
                subst eS3 eV4 ez5 eS6 eV7 ez11 eS27 eV28 ez29 eS30 eV31 ez34 eS39 eV40 ez41 eS42 eV43
                simp only [f7_drinkerHere, if_neg c2, if_neg c8, if_neg c12, if_neg c32, if_neg c35, if_pos c44]
              have hRS : S42 = tgt.1 := pr1 hR
              have hRV : V43 = tgt.2 := pr2 hR
              exact g_vret X hret hlk hw (Prod.ext hRS hRV) dX7_drinkerHere_114
            · refine lv_aload_n X.1 X.2.1 dX7_drinkerHere_103 rfl (lv_at hl 3 rfl) ?_
              refine lv_iload_n X.1 X.2.1 dX7_drinkerHere_104 rfl (lv_at hl 4 rfl) ?_
              refine lv_iload_n X.1 X.2.1 dX7_drinkerHere_105 rfl (lv_at hl 2 rfl) ?_
              refine lv_iload_n X.1 X.2.1 dX7_drinkerHere_106 rfl (lv_at hl 1 rfl) ?_
              refine lv_iload X.1 X.2.1 dX7_drinkerHere_107 (lv_at hl 0 rfl) ?_
              refine m_callVI_s X K hw (k_X7_comes l G S42 V43 a1 z5 z29 z41 (by rw [show S42 1 = S 1 from by subst eS3 eV4 ez5 eS6 eV7 ez11 eS27 eV28 ez29 eS30 eV31 ez34 eS39 eV40 ez41 eS42 eV43; with_reducible first | exact (dh_6 V hp0 hp1).2 | exact (dh_p (dh_6 V hp0 hp1)).2 | exact (dh_p (dh_p (dh_6 V hp0 hp1))).2]; exact dk_in hp1 c2)) (g_cwV X hiX7_comes q919 q921 q30 q74 q922 ⟨(Nat.le_of_ble_eq_true rfl), (Nat.le_of_ble_eq_true rfl)⟩) rfl hl.1 rfl (Nat.le_of_ble_eq_true rfl) dX7_drinkerHere_109 ⟨(Nat.le_of_ble_eq_true rfl), (Nat.le_of_ble_eq_true rfl)⟩ (fun z45 S46 H locs ez45 eS46 hw => ?_)
              refine lv_istore (lv' := [(5, .int z45), (4, .int z41), (3, .int z29), (2, .int z5), (0, .ref (mm_ad G 0)), (1, .int a1)]) X.1 X.2.1 dX7_drinkerHere_112 hl (by decide) rfl (fun ls hl => ?_)
              have hR : (S46, V43) = tgt := by
                rw [← hF]
                subst eS3 eV4 ez5 eS6 eV7 ez11 eS27 eV28 ez29 eS30 eV31 ez34 eS39 eV40 ez41 eS42 eV43 ez45 eS46
                simp only [f7_drinkerHere, if_neg c2, if_neg c8, if_neg c12, if_neg c32, if_neg c35, if_neg c44]
              have hRS : S46 = tgt.1 := pr1 hR
              have hRV : V43 = tgt.2 := pr2 hR
              exact g_vret X hret hlk hw (Prod.ext hRS hRV) dX7_drinkerHere_114
  · refine lv_aload_n X.1 X.2.1 dX7_drinkerHere_11 rfl (lv_at hl 0 rfl) ?_
    refine m_callVV_s X K hw (k_X7_wrongHere l G S V) (g_cwV X hiX7_wrongHere q1209 q1211 q61 q74 q1212 ⟨(Nat.le_of_ble_eq_true rfl), (Nat.le_of_ble_eq_true rfl)⟩) rfl hl.1 rfl (Nat.le_of_ble_eq_true rfl) dX7_drinkerHere_12 ⟨(Nat.le_of_ble_eq_true rfl), (Nat.le_of_ble_eq_true rfl)⟩ (fun S47 H locs eS47 hw => ?_)
    have hR : (S47, V) = tgt := by
      rw [← hF]
      subst eS47
      simp only [f7_drinkerHere, if_pos c2]
    have hRS : S47 = tgt.1 := pr1 hR
    have hRV : V = tgt.2 := pr2 hR
    exact g_vret X hret hlk hw (Prod.ext hRS hRV) dX7_drinkerHere_15
set_option maxHeartbeats 4000000 in
set_option maxRecDepth 10000 in
theorem k_X7_signHere (l : Launch) (G : tt_G) (S : tt_St) (V : Int64) (hp0 : mt S) (hp1 : nb S) : m_MV l G yX7_signHere (g_code yX7_signHere cX7_signHere 2 none) 2 42 [.ref (mm_ad G 0)] S V ((f7_signHere S V).1) ((f7_signHere S V).2) := by
  generalize hF : f7_signHere S V = tgt
  refine g_begin rfl (Nat.le_of_ble_eq_true rfl) _ (fun p e s m below meth c ls X hret hlk hB hl => ?_)
  obtain ⟨hP0, K⟩ := hB
  have hw : m_W G S V s s.heap [] := ⟨hP0, va_S.rf⟩
  have X : CallFix p m c cX7_signHere 2 s ([.ref (mm_ad G 0)] : List Value).toArray tt_T "TrustTinModel" := X
  have hl : lv_has ls 2 [(0, .ref (mm_ad G 0))] := hl
  refine lv_aload_n X.1 X.2.1 dX7_signHere_0 rfl (lv_at hl 0 rfl) ?_
  refine m_gets X K hw 12 (by decide) (x := (286880 : Int64)) rfl q1231 dX7_signHere_1 ?_
  refine m_callVI_p X K hw (k_X7_isWord l G S V (286880 : Int64)) (g_cwV X hiX7_isWord q1189 q1191 q59 q74 q1192 ⟨(Nat.le_of_ble_eq_true rfl), (Nat.le_of_ble_eq_true rfl)⟩) rfl hl.1 rfl (Nat.le_of_ble_eq_true rfl) dX7_signHere_4 ⟨(Nat.le_of_ble_eq_true rfl), (Nat.le_of_ble_eq_true rfl)⟩ (fun z1 H locs ez1 hw => ?_)
  refine lv_if_eq (tgt := 14) X.1 X.2.1 dX7_signHere_7 (by decide) (fun c2 => ?_) (fun c2 => ?_)
  · refine lv_aload_n X.1 X.2.1 dX7_signHere_14 rfl (lv_at hl 0 rfl) ?_
    refine m_gets X K hw 13 (by decide) (x := (2505138292 : Int64)) rfl q1233 dX7_signHere_15 ?_
    refine m_callVI_p X K hw (k_X7_isWord l G S V (2505138292 : Int64)) (g_cwV X hiX7_isWord q1189 q1191 q59 q74 q1192 ⟨(Nat.le_of_ble_eq_true rfl), (Nat.le_of_ble_eq_true rfl)⟩) rfl hl.1 rfl (Nat.le_of_ble_eq_true rfl) dX7_signHere_18 ⟨(Nat.le_of_ble_eq_true rfl), (Nat.le_of_ble_eq_true rfl)⟩ (fun z3 H locs ez3 hw => ?_)
    refine lv_if_eq (tgt := 28) X.1 X.2.1 dX7_signHere_21 (by decide) (fun c4 => ?_) (fun c4 => ?_)
    · refine lv_aload_n X.1 X.2.1 dX7_signHere_28 rfl (lv_at hl 0 rfl) ?_
      refine m_gets X K hw 14 (by decide) (x := (116794 : Int64)) rfl q1235 dX7_signHere_29 ?_
      refine m_callVI_p X K hw (k_X7_isWord l G S V (116794 : Int64)) (g_cwV X hiX7_isWord q1189 q1191 q59 q74 q1192 ⟨(Nat.le_of_ble_eq_true rfl), (Nat.le_of_ble_eq_true rfl)⟩) rfl hl.1 rfl (Nat.le_of_ble_eq_true rfl) dX7_signHere_32 ⟨(Nat.le_of_ble_eq_true rfl), (Nat.le_of_ble_eq_true rfl)⟩ (fun z5 H locs ez5 hw => ?_)
      refine lv_if_eq (tgt := 42) X.1 X.2.1 dX7_signHere_35 (by decide) (fun c6 => ?_) (fun c6 => ?_)
      · refine lv_iconst (v := (-1 : Int32)) X.1 X.2.1 dX7_signHere_42 (by decide) ?_
        refine lv_istore_n (lv' := [(1, .int (-1 : Int32)), (0, .ref (mm_ad G 0))]) X.1 X.2.1 dX7_signHere_43 rfl hl (by decide) rfl (fun ls hl => ?_)
        refine lv_iload_n X.1 X.2.1 dX7_signHere_44 rfl (lv_at hl 0 rfl) ?_
        refine lv_if_ge (tgt := 53) X.1 X.2.1 dX7_signHere_45 (by decide) (fun c7 => ?_) (fun c7 => ?_)
        · exact absurd c7 (by decide)
        · refine lv_aload_n X.1 X.2.1 dX7_signHere_48 rfl (lv_at hl 1 rfl) ?_
          refine m_callVV_s X K hw (k_X7_wrongHere l G S V) (g_cwV X hiX7_wrongHere q1209 q1211 q61 q74 q1212 ⟨(Nat.le_of_ble_eq_true rfl), (Nat.le_of_ble_eq_true rfl)⟩) rfl hl.1 rfl (Nat.le_of_ble_eq_true rfl) dX7_signHere_49 ⟨(Nat.le_of_ble_eq_true rfl), (Nat.le_of_ble_eq_true rfl)⟩ (fun S8 H locs eS8 hw => ?_)
          have hR : (S8, V) = tgt := by
            rw [← hF]
            subst ez1 ez3 ez5 eS8
            simp only [f7_signHere, if_pos c2, if_pos c4, if_pos c6]
          have hRS : S8 = tgt.1 := pr1 hR
          have hRV : V = tgt.2 := pr2 hR
          exact g_vret X hret hlk hw (Prod.ext hRS hRV) dX7_signHere_52
      · refine lv_iconst (v := (2 : Int32)) X.1 X.2.1 dX7_signHere_38 (by decide) ?_
        refine lv_goto (tgt := 43) X.1 X.2.1 dX7_signHere_39 (by decide) ?_
        refine lv_istore_n (lv' := [(1, .int (2 : Int32)), (0, .ref (mm_ad G 0))]) X.1 X.2.1 dX7_signHere_43 rfl hl (by decide) rfl (fun ls hl => ?_)
        refine lv_iload_n X.1 X.2.1 dX7_signHere_44 rfl (lv_at hl 0 rfl) ?_
        refine lv_if_ge (tgt := 53) X.1 X.2.1 dX7_signHere_45 (by decide) (fun c9 => ?_) (fun c9 => ?_)
        · refine lv_aload_n X.1 X.2.1 dX7_signHere_53 rfl (lv_at hl 1 rfl) ?_
          refine m_get X K hw 0 (by decide) q838 rfl dX7_signHere_54 ?_
          refine lv_iconst (v := (5 : Int32)) X.1 X.2.1 dX7_signHere_57 (by decide) ?_
          refine lv_iload_n X.1 X.2.1 dX7_signHere_58 rfl (lv_at hl 0 rfl) ?_
          have hi10 : vp_in (5 : Int32) 132 := by unfold vp_in; decide
          refine m_iastL (j := 5) X K hw (by decide) (by decide) (fun _ => mm_e1) hi10 rfl dX7_signHere_59 (fun S11 H locs eS11 hw => ?_)
          refine lv_aload_n X.1 X.2.1 dX7_signHere_60 rfl (lv_at hl 1 rfl) ?_
          refine m_callVV_sv X K hw (k_X7_next l G S11 V (by subst ez1 ez3 ez5 eS11; exact mt_row1 hp0)) (g_cwV X hiX7_next q1162 q1164 q55 q74 q1165 ⟨(Nat.le_of_ble_eq_true rfl), (Nat.le_of_ble_eq_true rfl)⟩) rfl hl.1 rfl (Nat.le_of_ble_eq_true rfl) dX7_signHere_61 ⟨(Nat.le_of_ble_eq_true rfl), (Nat.le_of_ble_eq_true rfl)⟩ (fun S12 V13 H locs eS12 eV13 hw => ?_)
          have hR : (S12, V13) = tgt := by
            rw [← hF]
            subst ez1 ez3 ez5 eS11 eS12 eV13
            simp only [f7_signHere, if_pos c2, if_pos c4, if_neg c6]
          have hRS : S12 = tgt.1 := pr1 hR
          have hRV : V13 = tgt.2 := pr2 hR
          exact g_vret X hret hlk hw (Prod.ext hRS hRV) dX7_signHere_64
        · exact absurd (by decide) c9
    · refine lv_iconst (v := (1 : Int32)) X.1 X.2.1 dX7_signHere_24 (by decide) ?_
      refine lv_goto (tgt := 43) X.1 X.2.1 dX7_signHere_25 (by decide) ?_
      refine lv_istore_n (lv' := [(1, .int (1 : Int32)), (0, .ref (mm_ad G 0))]) X.1 X.2.1 dX7_signHere_43 rfl hl (by decide) rfl (fun ls hl => ?_)
      refine lv_iload_n X.1 X.2.1 dX7_signHere_44 rfl (lv_at hl 0 rfl) ?_
      refine lv_if_ge (tgt := 53) X.1 X.2.1 dX7_signHere_45 (by decide) (fun c14 => ?_) (fun c14 => ?_)
      · refine lv_aload_n X.1 X.2.1 dX7_signHere_53 rfl (lv_at hl 1 rfl) ?_
        refine m_get X K hw 0 (by decide) q838 rfl dX7_signHere_54 ?_
        refine lv_iconst (v := (5 : Int32)) X.1 X.2.1 dX7_signHere_57 (by decide) ?_
        refine lv_iload_n X.1 X.2.1 dX7_signHere_58 rfl (lv_at hl 0 rfl) ?_
        have hi15 : vp_in (5 : Int32) 132 := by unfold vp_in; decide
        refine m_iastL (j := 5) X K hw (by decide) (by decide) (fun _ => mm_e1) hi15 rfl dX7_signHere_59 (fun S16 H locs eS16 hw => ?_)
        refine lv_aload_n X.1 X.2.1 dX7_signHere_60 rfl (lv_at hl 1 rfl) ?_
        refine m_callVV_sv X K hw (k_X7_next l G S16 V (by subst ez1 ez3 eS16; exact mt_row1 hp0)) (g_cwV X hiX7_next q1162 q1164 q55 q74 q1165 ⟨(Nat.le_of_ble_eq_true rfl), (Nat.le_of_ble_eq_true rfl)⟩) rfl hl.1 rfl (Nat.le_of_ble_eq_true rfl) dX7_signHere_61 ⟨(Nat.le_of_ble_eq_true rfl), (Nat.le_of_ble_eq_true rfl)⟩ (fun S17 V18 H locs eS17 eV18 hw => ?_)
        have hR : (S17, V18) = tgt := by
          rw [← hF]
          subst ez1 ez3 eS16 eS17 eV18
          simp only [f7_signHere, if_pos c2, if_neg c4]
        have hRS : S17 = tgt.1 := pr1 hR
        have hRV : V18 = tgt.2 := pr2 hR
        exact g_vret X hret hlk hw (Prod.ext hRS hRV) dX7_signHere_64
      · exact absurd (by decide) c14
  · refine lv_iconst (v := (0 : Int32)) X.1 X.2.1 dX7_signHere_10 (by decide) ?_
    refine lv_goto (tgt := 43) X.1 X.2.1 dX7_signHere_11 (by decide) ?_
    refine lv_istore_n (lv' := [(1, .int (0 : Int32)), (0, .ref (mm_ad G 0))]) X.1 X.2.1 dX7_signHere_43 rfl hl (by decide) rfl (fun ls hl => ?_)
    refine lv_iload_n X.1 X.2.1 dX7_signHere_44 rfl (lv_at hl 0 rfl) ?_
    refine lv_if_ge (tgt := 53) X.1 X.2.1 dX7_signHere_45 (by decide) (fun c19 => ?_) (fun c19 => ?_)
    · refine lv_aload_n X.1 X.2.1 dX7_signHere_53 rfl (lv_at hl 1 rfl) ?_
      refine m_get X K hw 0 (by decide) q838 rfl dX7_signHere_54 ?_
      refine lv_iconst (v := (5 : Int32)) X.1 X.2.1 dX7_signHere_57 (by decide) ?_
      refine lv_iload_n X.1 X.2.1 dX7_signHere_58 rfl (lv_at hl 0 rfl) ?_
      have hi20 : vp_in (5 : Int32) 132 := by unfold vp_in; decide
      refine m_iastL (j := 5) X K hw (by decide) (by decide) (fun _ => mm_e1) hi20 rfl dX7_signHere_59 (fun S21 H locs eS21 hw => ?_)
      refine lv_aload_n X.1 X.2.1 dX7_signHere_60 rfl (lv_at hl 1 rfl) ?_
      refine m_callVV_sv X K hw (k_X7_next l G S21 V (by subst ez1 eS21; exact mt_row1 hp0)) (g_cwV X hiX7_next q1162 q1164 q55 q74 q1165 ⟨(Nat.le_of_ble_eq_true rfl), (Nat.le_of_ble_eq_true rfl)⟩) rfl hl.1 rfl (Nat.le_of_ble_eq_true rfl) dX7_signHere_61 ⟨(Nat.le_of_ble_eq_true rfl), (Nat.le_of_ble_eq_true rfl)⟩ (fun S22 V23 H locs eS22 eV23 hw => ?_)
      have hR : (S22, V23) = tgt := by
        rw [← hF]
        subst ez1 eS21 eS22 eV23
        simp only [f7_signHere, if_neg c2]
      have hRS : S22 = tgt.1 := pr1 hR
      have hRV : V23 = tgt.2 := pr2 hR
      exact g_vret X hret hlk hw (Prod.ext hRS hRV) dX7_signHere_64
    · exact absurd (by decide) c19
set_option maxHeartbeats 4000000 in
set_option maxRecDepth 10000 in
theorem k_X7_item (l : Launch) (G : tt_G) (S : tt_St) (V : Int64) (hp0 : mt S) (hp1 : nb S) : m_MV l G yX7_item (g_code yX7_item cX7_item 2 none) 4 90 [.ref (mm_ad G 0)] S V ((f7_item S V).1) ((f7_item S V).2) := by
  generalize hF : f7_item S V = tgt
  refine g_begin rfl (Nat.le_of_ble_eq_true rfl) _ (fun p e s m below meth c ls X hret hlk hB hl => ?_)
  obtain ⟨hP0, K⟩ := hB
  have hw : m_W G S V s s.heap [] := ⟨hP0, va_S.rf⟩
  have X : CallFix p m c cX7_item 2 s ([.ref (mm_ad G 0)] : List Value).toArray tt_T "TrustTinModel" := X
  have hl : lv_has ls 2 [(0, .ref (mm_ad G 0))] := hl
  refine lv_aload_n X.1 X.2.1 dX7_item_0 rfl (lv_at hl 0 rfl) ?_
  refine m_callVI_p X K hw (k_X7_kindHere l G S V) (g_cwV X hiX7_kindHere q1183 q1185 q58 q74 q1186 ⟨(Nat.le_of_ble_eq_true rfl), (Nat.le_of_ble_eq_true rfl)⟩) rfl hl.1 rfl (Nat.le_of_ble_eq_true rfl) dX7_item_1 ⟨(Nat.le_of_ble_eq_true rfl), (Nat.le_of_ble_eq_true rfl)⟩ (fun z1 H locs ez1 hw => ?_)
  refine lv_istore_n (lv' := [(1, .int z1), (0, .ref (mm_ad G 0))]) X.1 X.2.1 dX7_item_4 rfl hl (by decide) rfl (fun ls hl => ?_)
  refine lv_iload_n X.1 X.2.1 dX7_item_5 rfl (lv_at hl 0 rfl) ?_
  refine lv_if_lt (tgt := 17) X.1 X.2.1 dX7_item_6 (by decide) (fun c2 => ?_) (fun c2 => ?_)
  · refine lv_aload_n X.1 X.2.1 dX7_item_17 rfl (lv_at hl 1 rfl) ?_
    refine m_gets X K hw 9 (by decide) (x := (8863997 : Int64)) rfl q1221 dX7_item_18 ?_
    refine m_callVI_p X K hw (k_X7_isWord l G S V (8863997 : Int64)) (g_cwV X hiX7_isWord q1189 q1191 q59 q74 q1192 ⟨(Nat.le_of_ble_eq_true rfl), (Nat.le_of_ble_eq_true rfl)⟩) rfl hl.1 rfl (Nat.le_of_ble_eq_true rfl) dX7_item_21 ⟨(Nat.le_of_ble_eq_true rfl), (Nat.le_of_ble_eq_true rfl)⟩ (fun z3 H locs ez3 hw => ?_)
    refine lv_if_eq (tgt := 47) X.1 X.2.1 dX7_item_24 (by decide) (fun c4 => ?_) (fun c4 => ?_)
    · refine lv_aload_n X.1 X.2.1 dX7_item_47 rfl (lv_at hl 1 rfl) ?_
      refine m_gets X K hw 10 (by decide) (x := (12089 : Int64)) rfl q1223 dX7_item_48 ?_
      refine m_callVI_p X K hw (k_X7_isWord l G S V (12089 : Int64)) (g_cwV X hiX7_isWord q1189 q1191 q59 q74 q1192 ⟨(Nat.le_of_ble_eq_true rfl), (Nat.le_of_ble_eq_true rfl)⟩) rfl hl.1 rfl (Nat.le_of_ble_eq_true rfl) dX7_item_51 ⟨(Nat.le_of_ble_eq_true rfl), (Nat.le_of_ble_eq_true rfl)⟩ (fun z5 H locs ez5 hw => ?_)
      refine lv_if_eq (tgt := 89) X.1 X.2.1 dX7_item_54 (by decide) (fun c6 => ?_) (fun c6 => ?_)
      · refine lv_aload_n X.1 X.2.1 dX7_item_89 rfl (lv_at hl 1 rfl) ?_
        refine m_gets X K hw 11 (by decide) (x := (380741 : Int64)) rfl q1225 dX7_item_90 ?_
        refine m_callVI_p X K hw (k_X7_isWord l G S V (380741 : Int64)) (g_cwV X hiX7_isWord q1189 q1191 q59 q74 q1192 ⟨(Nat.le_of_ble_eq_true rfl), (Nat.le_of_ble_eq_true rfl)⟩) rfl hl.1 rfl (Nat.le_of_ble_eq_true rfl) dX7_item_93 ⟨(Nat.le_of_ble_eq_true rfl), (Nat.le_of_ble_eq_true rfl)⟩ (fun z7 H locs ez7 hw => ?_)
        refine lv_if_eq (tgt := 110) X.1 X.2.1 dX7_item_96 (by decide) (fun c8 => ?_) (fun c8 => ?_)
        · refine lv_aload_n X.1 X.2.1 dX7_item_110 rfl (lv_at hl 1 rfl) ?_
          refine m_callVV_s X K hw (k_X7_wrongHere l G S V) (g_cwV X hiX7_wrongHere q1209 q1211 q61 q74 q1212 ⟨(Nat.le_of_ble_eq_true rfl), (Nat.le_of_ble_eq_true rfl)⟩) rfl hl.1 rfl (Nat.le_of_ble_eq_true rfl) dX7_item_111 ⟨(Nat.le_of_ble_eq_true rfl), (Nat.le_of_ble_eq_true rfl)⟩ (fun S9 H locs eS9 hw => ?_)
          have hR : (S9, V) = tgt := by
            rw [← hF]
            subst ez1 ez3 ez5 ez7 eS9
            simp only [f7_item, if_pos c2, if_pos c4, if_pos c6, if_pos c8]
          have hRS : S9 = tgt.1 := pr1 hR
          have hRV : V = tgt.2 := pr2 hR
          exact g_vret X hret hlk hw (Prod.ext hRS hRV) dX7_item_114
        · refine lv_aload_n X.1 X.2.1 dX7_item_99 rfl (lv_at hl 1 rfl) ?_
          refine m_callVV_sv X K hw (k_X7_next l G S V hp0) (g_cwV X hiX7_next q1162 q1164 q55 q74 q1165 ⟨(Nat.le_of_ble_eq_true rfl), (Nat.le_of_ble_eq_true rfl)⟩) rfl hl.1 rfl (Nat.le_of_ble_eq_true rfl) dX7_item_100 ⟨(Nat.le_of_ble_eq_true rfl), (Nat.le_of_ble_eq_true rfl)⟩ (fun S10 V11 H locs eS10 eV11 hw => ?_)
          refine lv_aload_n X.1 X.2.1 dX7_item_103 rfl (lv_at hl 1 rfl) ?_
          refine m_callVV_sv X K hw (k_X7_signHere l G S10 V11 (by subst ez1 ez3 ez5 ez7 eS10 eV11; exact (tx_next V hp0 hp1).1) (by subst ez1 ez3 ez5 ez7 eS10 eV11; exact (tx_next V hp0 hp1).2.1)) (g_cwV X hiX7_signHere q1227 q1229 q63 q74 q1230 ⟨(Nat.le_of_ble_eq_true rfl), (Nat.le_of_ble_eq_true rfl)⟩) rfl hl.1 rfl (Nat.le_of_ble_eq_true rfl) dX7_item_104 ⟨(Nat.le_of_ble_eq_true rfl), (Nat.le_of_ble_eq_true rfl)⟩ (fun S12 V13 H locs eS12 eV13 hw => ?_)
          refine lv_goto (tgt := 114) X.1 X.2.1 dX7_item_107 (by decide) ?_
          have hR : (S12, V13) = tgt := by
            rw [← hF]
            subst ez1 ez3 ez5 ez7 eS10 eV11 eS12 eV13
            simp only [f7_item, if_pos c2, if_pos c4, if_pos c6, if_neg c8]
          have hRS : S12 = tgt.1 := pr1 hR
          have hRV : V13 = tgt.2 := pr2 hR
          exact g_vret X hret hlk hw (Prod.ext hRS hRV) dX7_item_114
      · refine lv_aload_n X.1 X.2.1 dX7_item_57 rfl (lv_at hl 1 rfl) ?_
        refine m_callVV_sv X K hw (k_X7_next l G S V hp0) (g_cwV X hiX7_next q1162 q1164 q55 q74 q1165 ⟨(Nat.le_of_ble_eq_true rfl), (Nat.le_of_ble_eq_true rfl)⟩) rfl hl.1 rfl (Nat.le_of_ble_eq_true rfl) dX7_item_58 ⟨(Nat.le_of_ble_eq_true rfl), (Nat.le_of_ble_eq_true rfl)⟩ (fun S14 V15 H locs eS14 eV15 hw => ?_)
        refine lv_aload_n X.1 X.2.1 dX7_item_61 rfl (lv_at hl 1 rfl) ?_
        refine m_get X K hw 0 (by decide) q838 rfl dX7_item_62 ?_
        refine lv_iconst (v := (2 : Int32)) X.1 X.2.1 dX7_item_65 (by decide) ?_
        refine lv_aload_n X.1 X.2.1 dX7_item_66 rfl (lv_at hl 1 rfl) ?_
        refine lv_iconst (v := (1 : Int32)) X.1 X.2.1 dX7_item_67 (by decide) ?_
        refine lv_bipush (v := (99 : Int32)) X.1 X.2.1 dX7_item_68 (by decide) ?_
        refine m_callVI_sv X K hw (k_X7_number l G S14 V15 (1 : Int32) (99 : Int32) (by subst ez1 ez3 ez5 eS14 eV15; exact (tx_next V hp0 hp1).1) (by subst ez1 ez3 ez5 eS14 eV15; exact (tx_next V hp0 hp1).2.1)) (g_cwV X hiX7_number q1213 q1215 q62 q74 q1216 ⟨(Nat.le_of_ble_eq_true rfl), (Nat.le_of_ble_eq_true rfl)⟩) rfl hl.1 rfl (Nat.le_of_ble_eq_true rfl) dX7_item_70 ⟨(Nat.le_of_ble_eq_true rfl), (Nat.le_of_ble_eq_true rfl)⟩ (fun z16 S17 V18 H locs ez16 eS17 eV18 hw => ?_)
        have hi19 : vp_in (2 : Int32) 132 := by unfold vp_in; decide
        refine m_iastL (j := 2) X K hw (by decide) (by decide) (fun _ => mm_e1) hi19 rfl dX7_item_73 (fun S20 H locs eS20 hw => ?_)
        refine lv_aload_n X.1 X.2.1 dX7_item_74 rfl (lv_at hl 1 rfl) ?_
        refine m_get X K hw 0 (by decide) q838 rfl dX7_item_75 ?_
        refine lv_iconst (v := (3 : Int32)) X.1 X.2.1 dX7_item_78 (by decide) ?_
        refine lv_aload_n X.1 X.2.1 dX7_item_79 rfl (lv_at hl 1 rfl) ?_
        refine m_get X K hw 0 (by decide) q838 rfl dX7_item_80 ?_
        refine lv_iconst (v := (2 : Int32)) X.1 X.2.1 dX7_item_83 (by decide) ?_
        have hi21 : vp_in (2 : Int32) 132 := by unfold vp_in; decide
        refine g_ialdL (j := 2) X K hw (by decide) mm_e1 hi21 rfl dX7_item_84 ?_
        refine lv_topi (fun x22 ex22 => ?_)
        have hi23 : vp_in (3 : Int32) 132 := by unfold vp_in; decide
        refine m_iastL (j := 3) X K hw (by decide) (by decide) (fun _ => mm_e1) hi23 rfl dX7_item_85 (fun S24 H locs eS24 hw => ?_)
        refine lv_goto (tgt := 114) X.1 X.2.1 dX7_item_86 (by decide) ?_
        have hR : (S24, V18) = tgt := by
          rw [← hF]
          subst ez1 ez3 ez5 eS14 eV15 ez16 eS17 eV18 eS20 ex22 eS24
          simp only [f7_item, if_pos c2, if_pos c4, if_neg c6]
        have hRS : S24 = tgt.1 := pr1 hR
        have hRV : V18 = tgt.2 := pr2 hR
        exact g_vret X hret hlk hw (Prod.ext hRS hRV) dX7_item_114
    · refine lv_aload_n X.1 X.2.1 dX7_item_27 rfl (lv_at hl 1 rfl) ?_
      refine m_callVV_sv X K hw (k_X7_next l G S V hp0) (g_cwV X hiX7_next q1162 q1164 q55 q74 q1165 ⟨(Nat.le_of_ble_eq_true rfl), (Nat.le_of_ble_eq_true rfl)⟩) rfl hl.1 rfl (Nat.le_of_ble_eq_true rfl) dX7_item_28 ⟨(Nat.le_of_ble_eq_true rfl), (Nat.le_of_ble_eq_true rfl)⟩ (fun S25 V26 H locs eS25 eV26 hw => ?_)
      refine lv_aload_n X.1 X.2.1 dX7_item_31 rfl (lv_at hl 1 rfl) ?_
      refine m_get X K hw 0 (by decide) q838 rfl dX7_item_32 ?_
      refine lv_iconst (v := (1 : Int32)) X.1 X.2.1 dX7_item_35 (by decide) ?_
      refine lv_aload_n X.1 X.2.1 dX7_item_36 rfl (lv_at hl 1 rfl) ?_
      refine lv_iconst (v := (0 : Int32)) X.1 X.2.1 dX7_item_37 (by decide) ?_
      refine lv_bipush (v := (99 : Int32)) X.1 X.2.1 dX7_item_38 (by decide) ?_
      refine m_callVI_sv X K hw (k_X7_number l G S25 V26 (0 : Int32) (99 : Int32) (by subst ez1 ez3 eS25 eV26; exact (tx_next V hp0 hp1).1) (by subst ez1 ez3 eS25 eV26; exact (tx_next V hp0 hp1).2.1)) (g_cwV X hiX7_number q1213 q1215 q62 q74 q1216 ⟨(Nat.le_of_ble_eq_true rfl), (Nat.le_of_ble_eq_true rfl)⟩) rfl hl.1 rfl (Nat.le_of_ble_eq_true rfl) dX7_item_40 ⟨(Nat.le_of_ble_eq_true rfl), (Nat.le_of_ble_eq_true rfl)⟩ (fun z27 S28 V29 H locs ez27 eS28 eV29 hw => ?_)
      have hi30 : vp_in (1 : Int32) 132 := by unfold vp_in; decide
      refine m_iastL (j := 1) X K hw (by decide) (by decide) (fun _ => mm_e1) hi30 rfl dX7_item_43 (fun S31 H locs eS31 hw => ?_)
      refine lv_goto (tgt := 114) X.1 X.2.1 dX7_item_44 (by decide) ?_
      have hR : (S31, V29) = tgt := by
        rw [← hF]
        subst ez1 ez3 eS25 eV26 ez27 eS28 eV29 eS31
        simp only [f7_item, if_pos c2, if_neg c4]
      have hRS : S31 = tgt.1 := pr1 hR
      have hRV : V29 = tgt.2 := pr2 hR
      exact g_vret X hret hlk hw (Prod.ext hRS hRV) dX7_item_114
  · refine lv_aload_n X.1 X.2.1 dX7_item_9 rfl (lv_at hl 1 rfl) ?_
    refine lv_iload_n X.1 X.2.1 dX7_item_10 rfl (lv_at hl 0 rfl) ?_
    refine m_callVV_sv X K hw (k_X7_drinkerHere l G S V z1 hp0 hp1) (g_cwV X hiX7_drinkerHere q1205 q1207 q60 q74 q1208 ⟨(Nat.le_of_ble_eq_true rfl), (Nat.le_of_ble_eq_true rfl)⟩) rfl hl.1 rfl (Nat.le_of_ble_eq_true rfl) dX7_item_11 ⟨(Nat.le_of_ble_eq_true rfl), (Nat.le_of_ble_eq_true rfl)⟩ (fun S32 V33 H locs eS32 eV33 hw => ?_)
    refine lv_goto (tgt := 114) X.1 X.2.1 dX7_item_14 (by decide) ?_
    have hR : (S32, V33) = tgt := by
      rw [← hF]
      subst ez1 eS32 eV33
      simp only [f7_item, if_neg c2]
    have hRS : S32 = tgt.1 := pr1 hR
    have hRV : V33 = tgt.2 := pr2 hR
    exact g_vret X hret hlk hw (Prod.ext hRS hRV) dX7_item_114
set_option maxHeartbeats 4000000 in
set_option maxRecDepth 10000 in
theorem k_X7_items (l : Launch) (G : tt_G) (S : tt_St) (V : Int64) (hp0 : (S 0 6).toInt ≤ 120) (hp1 : ¬ S 0 6 < 0) (hp2 : 0 ≤ (S 0 15).toInt) (hp3 : nb S) : m_MI l G yX7_items (g_code yX7_items cX7_items 2 (some FieldType.int)) 5 111 [.ref (mm_ad G 0)] S V ((f7_items S V).1) ((f7_items S V).2.1) ((f7_items S V).2.2) := by
  generalize hF : f7_items S V = tgt
  refine g_begin rfl (Nat.le_of_ble_eq_true rfl) _ (fun p e s m below meth c ls X hret hlk hB hl => ?_)
  obtain ⟨hP0, K⟩ := hB
  have hw : m_W G S V s s.heap [] := ⟨hP0, va_S.rf⟩
  have X : CallFix p m c cX7_items 2 s ([.ref (mm_ad G 0)] : List Value).toArray tt_T "TrustTinModel" := X
  have hl : lv_has ls 2 [(0, .ref (mm_ad G 0))] := hl
  refine lv_aload_n X.1 X.2.1 dX7_items_0 rfl (lv_at hl 0 rfl) ?_
  refine lv_iconst (v := (0 : Int32)) X.1 X.2.1 dX7_items_1 (by decide) ?_
  refine m_put X K hw 13 (by decide) q851 rfl rfl rfl dX7_items_2 (fun S1 H locs eS1 hw => ?_)
  refine lv_aload_n X.1 X.2.1 dX7_items_5 rfl (lv_at hl 0 rfl) ?_
  refine lv_iconst (v := (-1 : Int32)) X.1 X.2.1 dX7_items_6 (by decide) ?_
  refine m_put X K hw 17 (by decide) q855 rfl rfl rfl dX7_items_7 (fun S2 H locs eS2 hw => ?_)
  refine lv_aload_n X.1 X.2.1 dX7_items_10 rfl (lv_at hl 0 rfl) ?_
  refine m_callVV_sv X K hw (k_X7_next l G S2 V (by subst eS1 eS2; exact (is_0 hp0 hp1 hp2 hp3).1)) (g_cwV X hiX7_next q1162 q1164 q55 q74 q1165 ⟨(Nat.le_of_ble_eq_true rfl), (Nat.le_of_ble_eq_true rfl)⟩) rfl hl.1 rfl (Nat.le_of_ble_eq_true rfl) dX7_items_11 ⟨(Nat.le_of_ble_eq_true rfl), (Nat.le_of_ble_eq_true rfl)⟩ (fun S3 V4 H locs eS3 eV4 hw => ?_)
  refine lv_aload_n X.1 X.2.1 dX7_items_14 rfl (lv_at hl 0 rfl) ?_
  refine m_callVV_sv X K hw (k_X7_item l G S3 V4 (by subst eS1 eS2 eS3 eV4; exact (tx_next V (is_0 hp0 hp1 hp2 hp3).1 (is_0 hp0 hp1 hp2 hp3).2).1) (by subst eS1 eS2 eS3 eV4; exact (tx_next V (is_0 hp0 hp1 hp2 hp3).1 (is_0 hp0 hp1 hp2 hp3).2).2.1)) (g_cwV X hiX7_item q1179 q1181 q57 q74 q1182 ⟨(Nat.le_of_ble_eq_true rfl), (Nat.le_of_ble_eq_true rfl)⟩) rfl hl.1 rfl (Nat.le_of_ble_eq_true rfl) dX7_items_15 ⟨(Nat.le_of_ble_eq_true rfl), (Nat.le_of_ble_eq_true rfl)⟩ (fun S5 V6 H locs eS5 eV6 hw => ?_)
  refine lv_iconst (v := (1 : Int32)) X.1 X.2.1 dX7_items_18 (by decide) ?_
  refine lv_istore_n (lv' := [(1, .int (1 : Int32)), (0, .ref (mm_ad G 0))]) X.1 X.2.1 dX7_items_19 rfl hl (by decide) rfl (fun ls hl => ?_)
  have j20 : ∀ (n : Nat) (S7 : tt_St) (V8 : Int64) (y1_20 : Int32) (H : Heap) (locs : List Loc) (ls : Array Slot), (mt S7 ∧ nb S7) → it_m S7 < n → f7_items_L20 n S7 V8 y1_20 = tgt → m_W G S7 V8 s H locs → lv_has ls 2 [(0, .ref (mm_ad G 0)), (1, .int y1_20)] → W p l e (g_rm 5 111) s m ([.ref (mm_ad G 0)] : List Value).toArray below meth c H locs 0 0 (MQ below (va_Qi (fun r T => r = tgt.1 ∧ T = (tgt.2.1, tgt.2.2)) (g_Post G 10 (mm_ad G) (mm_cell G)) (g_in 10 (mm_ad G))) ([.ref (mm_ad G 0)] : List Value).toArray s 0 0 (g_in 10 (mm_ad G))) (F0 m 20 ls []) := by
    intro n
    induction n with
    | zero => intro S7 V8 y1_20 H locs ls hI hm; exact absurd hm (Nat.not_lt_zero _)
    | succ n ih =>
      intro S7 V8 y1_20 H locs ls hI hm hF hw hl
      refine lv_aload_n X.1 X.2.1 dX7_items_20 rfl (lv_at hl 0 rfl) ?_
      refine m_get X K hw 17 (by decide) q855 rfl dX7_items_21 ?_
      refine lv_if_ge (tgt := 49) X.1 X.2.1 dX7_items_24 (by decide) (fun c9 => ?_) (fun c9 => ?_)
      · refine lv_aload_n X.1 X.2.1 dX7_items_49 rfl (lv_at hl 0 rfl) ?_
        refine m_get X K hw 17 (by decide) q855 rfl dX7_items_50 ?_
        refine lv_if_ge (tgt := 67) X.1 X.2.1 dX7_items_53 (by decide) (fun c10 => ?_) (fun c10 => ?_)
        · refine lv_iload_n X.1 X.2.1 dX7_items_67 rfl (lv_at hl 1 rfl) ?_
          have hR : (y1_20, S7, V8) = tgt := by
            rw [← hF]
            simp only [f7_items_L20, if_pos c9]
          have hRR : y1_20 = tgt.1 := pr31 hR
          have hRS : S7 = tgt.2.1 := pr32 hR
          have hRV : V8 = tgt.2.2 := pr33 hR
          exact g_iret X hret hlk hw hRR (Prod.ext hRS hRV) dX7_items_68
        · exact absurd c9 c10
      · refine lv_aload_n X.1 X.2.1 dX7_items_27 rfl (lv_at hl 0 rfl) ?_
        refine m_get X K hw 14 (by decide) q852 rfl dX7_items_28 ?_
        refine lv_iconst (v := (3 : Int32)) X.1 X.2.1 dX7_items_31 (by decide) ?_
        refine lv_icmp_ne (tgt := 49) X.1 X.2.1 dX7_items_32 (by decide) (fun c11 => ?_) (fun c11 => ?_)
        · refine lv_aload_n X.1 X.2.1 dX7_items_49 rfl (lv_at hl 0 rfl) ?_
          refine m_get X K hw 17 (by decide) q855 rfl dX7_items_50 ?_
          refine lv_if_ge (tgt := 67) X.1 X.2.1 dX7_items_53 (by decide) (fun c12 => ?_) (fun c12 => ?_)
          · exact absurd c12 c9
          · refine lv_aload_n X.1 X.2.1 dX7_items_56 rfl (lv_at hl 0 rfl) ?_
            refine m_get X K hw 14 (by decide) q852 rfl dX7_items_57 ?_
            refine lv_if_eq (tgt := 67) X.1 X.2.1 dX7_items_60 (by decide) (fun c13 => ?_) (fun c13 => ?_)
            · refine lv_iload_n X.1 X.2.1 dX7_items_67 rfl (lv_at hl 1 rfl) ?_
              have hR : (y1_20, S7, V8) = tgt := by
                rw [← hF]
                simp only [f7_items_L20, if_neg c9, if_neg c11, if_pos c13]
              have hRR : y1_20 = tgt.1 := pr31 hR
              have hRS : S7 = tgt.2.1 := pr32 hR
              have hRV : V8 = tgt.2.2 := pr33 hR
              exact g_iret X hret hlk hw hRR (Prod.ext hRS hRV) dX7_items_68
            · refine lv_aload_n X.1 X.2.1 dX7_items_63 rfl (lv_at hl 0 rfl) ?_
              refine m_callVV_s X K hw (k_X7_wrongHere l G S7 V8) (g_cwV X hiX7_wrongHere q1209 q1211 q61 q74 q1212 ⟨(Nat.le_of_ble_eq_true rfl), (Nat.le_of_ble_eq_true rfl)⟩) rfl hl.1 rfl (Nat.le_of_ble_eq_true rfl) dX7_items_64 ⟨(Nat.le_of_ble_eq_true rfl), (Nat.le_of_ble_eq_true rfl)⟩ (fun S14 H locs eS14 hw => ?_)
              refine lv_iload_n X.1 X.2.1 dX7_items_67 rfl (lv_at hl 1 rfl) ?_
              have hR : (y1_20, S14, V8) = tgt := by
                rw [← hF]
                subst eS14
                simp only [f7_items_L20, if_neg c9, if_neg c11, if_neg c13]
              have hRR : y1_20 = tgt.1 := pr31 hR
              have hRS : S14 = tgt.2.1 := pr32 hR
              have hRV : V8 = tgt.2.2 := pr33 hR
              exact g_iret X hret hlk hw hRR (Prod.ext hRS hRV) dX7_items_68
        · refine lv_aload_n X.1 X.2.1 dX7_items_35 rfl (lv_at hl 0 rfl) ?_
          refine m_callVV_sv X K hw (k_X7_next l G S7 V8 (hI.1)) (g_cwV X hiX7_next q1162 q1164 q55 q74 q1165 ⟨(Nat.le_of_ble_eq_true rfl), (Nat.le_of_ble_eq_true rfl)⟩) rfl hl.1 rfl (Nat.le_of_ble_eq_true rfl) dX7_items_36 ⟨(Nat.le_of_ble_eq_true rfl), (Nat.le_of_ble_eq_true rfl)⟩ (fun S15 V16 H locs eS15 eV16 hw => ?_)
          refine lv_aload_n X.1 X.2.1 dX7_items_39 rfl (lv_at hl 0 rfl) ?_
          refine m_callVV_sv X K hw (k_X7_item l G S15 V16 (by subst eS15 eV16; exact (tx_next _ hI.1 hI.2).1) (by subst eS15 eV16; exact (tx_next _ hI.1 hI.2).2.1)) (g_cwV X hiX7_item q1179 q1181 q57 q74 q1182 ⟨(Nat.le_of_ble_eq_true rfl), (Nat.le_of_ble_eq_true rfl)⟩) rfl hl.1 rfl (Nat.le_of_ble_eq_true rfl) dX7_items_40 ⟨(Nat.le_of_ble_eq_true rfl), (Nat.le_of_ble_eq_true rfl)⟩ (fun S17 V18 H locs eS17 eV18 hw => ?_)
          obtain ⟨x19, ex19⟩ : ∃ y : Int32, y = y1_20 + (1 : Int32) := ⟨_, rfl⟩
          refine lv_iinc (v := x19) (lv' := [(1, .int x19), (0, .ref (mm_ad G 0))]) X.1 X.2.1 dX7_items_43 hl (k := 1) rfl (by rw [ex19]; rfl) (by decide) rfl (fun ls hl => ?_)
          refine lv_goto (tgt := 20) X.1 X.2.1 dX7_items_46 (by decide) ?_
          have hF2 : f7_items_L20 n S17 V18 x19 = tgt := by
            rw [← hF]
            subst eS15 eV16 eS17 eV18 ex19
            simp only [f7_items_L20, if_neg c9, if_pos c11]
          exact ih S17 V18 x19 _ _ ls (by subst eS15 eV16 eS17 eV18 ex19; exact is_s hI) (by subst eS15 eV16 eS17 eV18 ex19; exact it_dec hI.1 hI.2 c9 c11 hm) hF2 hw (lv_sub hl [1, 0] rfl)
  have hF2 : f7_items_L20 (it_m S5 + 1) S5 V6 (1 : Int32) = tgt := by
    rw [← hF]
    subst eS1 eS2 eS3 eV4 eS5 eV6
    simp only [f7_items]
  exact j20 (it_m S5 + 1) S5 V6 (1 : Int32) _ _ ls (by subst eS1 eS2 eS3 eV4 eS5 eV6; exact is_1 V hp0 hp1 hp2 hp3) (Nat.lt_succ_self _) hF2 hw (lv_sub hl [1, 0] rfl)
set_option maxHeartbeats 4000000 in
set_option maxRecDepth 10000 in
theorem k_X7_text (l : Launch) (G : tt_G) (S : tt_St) (V : Int64) (hp0 : mi S) (hp1 : 0 ≤ (S 0 15).toInt) : m_MI l G yX7_text (g_code yX7_text cX7_text 2 (some FieldType.int)) 6 132 [.ref (mm_ad G 0)] S V ((f7_text S V).1) ((f7_text S V).2.1) ((f7_text S V).2.2) := by
  generalize hF : f7_text S V = tgt
  refine g_begin rfl (Nat.le_of_ble_eq_true rfl) _ (fun p e s m below meth c ls X hret hlk hB hl => ?_)
  obtain ⟨hP0, K⟩ := hB
  have hw : m_W G S V s s.heap [] := ⟨hP0, va_S.rf⟩
  have X : CallFix p m c cX7_text 2 s ([.ref (mm_ad G 0)] : List Value).toArray tt_T "TrustTinModel" := X
  have hl : lv_has ls 2 [(0, .ref (mm_ad G 0))] := hl
  refine lv_aload_n X.1 X.2.1 dX7_text_0 rfl (lv_at hl 0 rfl) ?_
  refine m_callVV_s X K hw (k_X7_begins l G S V) (g_cwV X hiX7_begins q1064 q1066 q48 q74 q1067 ⟨(Nat.le_of_ble_eq_true rfl), (Nat.le_of_ble_eq_true rfl)⟩) rfl hl.1 rfl (Nat.le_of_ble_eq_true rfl) dX7_text_1 ⟨(Nat.le_of_ble_eq_true rfl), (Nat.le_of_ble_eq_true rfl)⟩ (fun S1 H locs eS1 hw => ?_)
  refine lv_aload_n X.1 X.2.1 dX7_text_4 rfl (lv_at hl 0 rfl) ?_
  refine m_callVI_sv X K hw (k_X7_items l G S1 V (by subst eS1; rw [bg_row (by decide)]; exact hp0.2.1.2) (by subst eS1; rw [bg_row (by decide)]; exact hp0.2.1.1) (by subst eS1; rw [bg_row (by decide)]; exact hp1) (by subst eS1; unfold nb; rw [bg_row (by decide)]; exact hp0.1)) (g_cwV X hiX7_items q1158 q1160 q54 q74 q1161 ⟨(Nat.le_of_ble_eq_true rfl), (Nat.le_of_ble_eq_true rfl)⟩) rfl hl.1 rfl (Nat.le_of_ble_eq_true rfl) dX7_text_5 ⟨(Nat.le_of_ble_eq_true rfl), (Nat.le_of_ble_eq_true rfl)⟩ (fun z2 S3 V4 H locs ez2 eS3 eV4 hw => ?_)
  refine lv_istore_n (lv' := [(1, .int z2), (0, .ref (mm_ad G 0))]) X.1 X.2.1 dX7_text_8 rfl hl (by decide) rfl (fun ls hl => ?_)
  refine lv_aload_n X.1 X.2.1 dX7_text_9 rfl (lv_at hl 1 rfl) ?_
  refine lv_iconst (v := (0 : Int32)) X.1 X.2.1 dX7_text_10 (by decide) ?_
  refine m_put X K hw 6 (by decide) q844 rfl rfl rfl dX7_text_11 (fun S5 H locs eS5 hw => ?_)
  refine lv_aload_n X.1 X.2.1 dX7_text_14 rfl (lv_at hl 1 rfl) ?_
  refine m_get X K hw 17 (by decide) q855 rfl dX7_text_15 ?_
  refine lv_if_lt (tgt := 32) X.1 X.2.1 dX7_text_18 (by decide) (fun c6 => ?_) (fun c6 => ?_)
  · refine lv_iload_n X.1 X.2.1 dX7_text_32 rfl (lv_at hl 0 rfl) ?_
    have hR : (z2, S5, V4) = tgt := by
      rw [← hF]
      subst eS1 ez2 eS3 eV4 eS5
      simp only [f7_text, if_pos c6]
    have hRR : z2 = tgt.1 := pr31 hR
    have hRS : S5 = tgt.2.1 := pr32 hR
    have hRV : V4 = tgt.2.2 := pr33 hR
    exact g_iret X hret hlk hw hRR (Prod.ext hRS hRV) dX7_text_33
  · refine lv_aload_n X.1 X.2.1 dX7_text_21 rfl (lv_at hl 1 rfl) ?_
    refine m_callVV_s X K hw (k_X7_ends l G S5 V4) (g_cwV X hiX7_ends q1071 q1073 q49 q74 q1074 ⟨(Nat.le_of_ble_eq_true rfl), (Nat.le_of_ble_eq_true rfl)⟩) rfl hl.1 rfl (Nat.le_of_ble_eq_true rfl) dX7_text_22 ⟨(Nat.le_of_ble_eq_true rfl), (Nat.le_of_ble_eq_true rfl)⟩ (fun S7 H locs eS7 hw => ?_)
    refine lv_iconst (v := (-1 : Int32)) X.1 X.2.1 dX7_text_25 (by decide) ?_
    refine lv_aload_n X.1 X.2.1 dX7_text_26 rfl (lv_at hl 1 rfl) ?_
    refine m_get X K hw 17 (by decide) q855 rfl dX7_text_27 ?_
    refine lv_isub X.1 X.2.1 dX7_text_30 ?_
    have hR : ((-1 : Int32) - (S7 0 17), S7, V4) = tgt := by
      rw [← hF]
      subst eS1 ez2 eS3 eV4 eS5 eS7
      simp only [f7_text, if_neg c6]
    have hRR : (-1 : Int32) - (S7 0 17) = tgt.1 := pr31 hR
    have hRS : S7 = tgt.2.1 := pr32 hR
    have hRV : V4 = tgt.2.2 := pr33 hR
    exact g_iret X hret hlk hw hRR (Prod.ext hRS hRV) dX7_text_31
