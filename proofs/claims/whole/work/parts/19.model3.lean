set_option maxHeartbeats 4000000 in
set_option maxRecDepth 10000 in
theorem k_X7_week (l : Launch) (G : tt_G) (S : tt_St) (V : Int64) (a1 : Int32) (a2 : Int32) (hp0 : mi S) : m_MI l G yX7_week (g_code yX7_week cX7_week 3 (some FieldType.int)) 1 25 [.ref (mm_ad G 0), .int a1, .int a2] S V ((f7_week S a1 a2).1) ((f7_week S a1 a2).2) V := by
  generalize hF : f7_week S a1 a2 = tgt
  refine g_begin rfl (Nat.le_of_ble_eq_true rfl) _ (fun p e s m below meth c ls X hret hlk hB hl => ?_)
  obtain ⟨hP0, K⟩ := hB
  have hw : m_W G S V s s.heap [] := ⟨hP0, va_S.rf⟩
  have X : CallFix p m c cX7_week 3 s ([.ref (mm_ad G 0), .int a1, .int a2] : List Value).toArray tt_T "TrustTinModel" := X
  have hl : lv_has ls 3 [(0, .ref (mm_ad G 0)), (1, .int a1), (2, .int a2)] := hl
  refine lv_iload_n X.1 X.2.1 dX7_week_0 rfl (lv_at hl 1 rfl) ?_
  refine lv_if_lt (tgt := 14) X.1 X.2.1 dX7_week_1 (by decide) (fun c1 => ?_) (fun c1 => ?_)
  · refine lv_aload_n X.1 X.2.1 dX7_week_14 rfl (lv_at hl 0 rfl) ?_
    refine lv_iconst (v := (0 : Int32)) X.1 X.2.1 dX7_week_15 (by decide) ?_
    refine m_callVI_s X K hw (k_X7_finds l G S V (0 : Int32) (by unfold vp_in; decide)) (g_cwV X hiX7_finds q912 q914 q29 q74 q915 ⟨(Nat.le_of_ble_eq_true rfl), (Nat.le_of_ble_eq_true rfl)⟩) rfl hl.1 rfl (Nat.le_of_ble_eq_true rfl) dX7_week_16 ⟨(Nat.le_of_ble_eq_true rfl), (Nat.le_of_ble_eq_true rfl)⟩ (fun z2 S3 H locs ez2 eS3 hw => ?_)
    have hR : (z2, S3) = tgt := by
      rw [← hF]
      subst ez2 eS3
      simp only [f7_week, if_pos c1]
    have hRR : z2 = tgt.1 := pr1 hR
    have hRS : S3 = tgt.2 := pr2 hR
    exact g_iret X hret hlk hw hRR (congrArg (fun z => (z, V)) hRS) dX7_week_19
  · refine lv_iload_n X.1 X.2.1 dX7_week_4 rfl (lv_at hl 2 rfl) ?_
    refine lv_i2l X.1 X.2.1 dX7_week_5 rfl ?_
    refine lv_lconst (v := (0 : Int64)) X.1 X.2.1 dX7_week_6 (by decide) ?_
    refine lv_lconst (v := (1 : Int64)) X.1 X.2.1 dX7_week_7 (by decide) ?_
    refine m_callSI_p X K hw (k_X7_in l G S V a2.toInt64 (0 : Int64) (1 : Int64)) (g_cwS X hiX7_in q908 q909 q74 q910 ⟨(Nat.le_of_ble_eq_true rfl), (Nat.le_of_ble_eq_true rfl)⟩) rfl hl.1 rfl (Nat.le_of_ble_eq_true rfl) dX7_week_8 ⟨(Nat.le_of_ble_eq_true rfl), (Nat.le_of_ble_eq_true rfl)⟩ (fun z4 H locs ez4 hw => ?_)
    refine lv_if_ne (tgt := 20) X.1 X.2.1 dX7_week_11 (by decide) (fun c5 => ?_) (fun c5 => ?_)
    · refine lv_iload_n X.1 X.2.1 dX7_week_20 rfl (lv_at hl 1 rfl) ?_
      refine lv_aload_n X.1 X.2.1 dX7_week_21 rfl (lv_at hl 0 rfl) ?_
      refine m_get X K hw 0 (by decide) q836 rfl dX7_week_22 ?_
      refine lv_bipush (v := (11 : Int32)) X.1 X.2.1 dX7_week_25 (by decide) ?_
      have hi6 : vp_in (11 : Int32) 132 := by unfold vp_in; decide
      refine g_ialdL (j := 11) X K hw (by decide) mm_e1 hi6 rfl dX7_week_27 ?_
      refine lv_icmp_lt (tgt := 39) X.1 X.2.1 dX7_week_28 (by decide) (fun c7 => ?_) (fun c7 => ?_)
      · refine lv_aload_n X.1 X.2.1 dX7_week_39 rfl (lv_at hl 0 rfl) ?_
        refine m_get X K hw 0 (by decide) q836 rfl dX7_week_40 ?_
        refine lv_bipush (v := (82 : Int32)) X.1 X.2.1 dX7_week_43 (by decide) ?_
        refine lv_iconst (v := (2 : Int32)) X.1 X.2.1 dX7_week_45 (by decide) ?_
        refine lv_iload_n X.1 X.2.1 dX7_week_46 rfl (lv_at hl 1 rfl) ?_
        refine lv_imul X.1 X.2.1 dX7_week_47 ?_
        refine lv_iadd X.1 X.2.1 dX7_week_48 ?_
        refine lv_iload_n X.1 X.2.1 dX7_week_49 rfl (lv_at hl 2 rfl) ?_
        refine lv_iadd X.1 X.2.1 dX7_week_50 ?_
        have hi8 : vp_in (((82 : Int32) + ((2 : Int32) * a1)) + a2) 132 := wk_in (int_nn c1) (wk_lt hp0 c7) (in_of ez4 c5 (by decide) (by decide))
        refine g_iald X K hw (by decide) mm_e1 hi8 dX7_week_51 ?_
        have hR : (S 1 (((82 : Int32) + ((2 : Int32) * a1)) + a2).toNatClampNeg, S) = tgt := by
          rw [← hF]
          subst ez4
          simp only [f7_week, if_neg c1, if_neg c5, if_pos c7]
        have hRR : S 1 (((82 : Int32) + ((2 : Int32) * a1)) + a2).toNatClampNeg = tgt.1 := pr1 hR
        have hRS : S = tgt.2 := pr2 hR
        exact g_iret X hret hlk hw hRR (congrArg (fun z => (z, V)) hRS) dX7_week_52
      · refine lv_aload_n X.1 X.2.1 dX7_week_31 rfl (lv_at hl 0 rfl) ?_
        refine lv_iconst (v := (3 : Int32)) X.1 X.2.1 dX7_week_32 (by decide) ?_
        refine m_callVI_s X K hw (k_X7_finds l G S V (3 : Int32) (by unfold vp_in; decide)) (g_cwV X hiX7_finds q912 q914 q29 q74 q915 ⟨(Nat.le_of_ble_eq_true rfl), (Nat.le_of_ble_eq_true rfl)⟩) rfl hl.1 rfl (Nat.le_of_ble_eq_true rfl) dX7_week_33 ⟨(Nat.le_of_ble_eq_true rfl), (Nat.le_of_ble_eq_true rfl)⟩ (fun z9 S10 H locs ez9 eS10 hw => ?_)
        refine lv_goto (tgt := 52) X.1 X.2.1 dX7_week_36 (by decide) ?_
        have hR : (z9, S10) = tgt := by
          rw [← hF]
          subst ez4 ez9 eS10
          simp only [f7_week, if_neg c1, if_neg c5, if_neg c7]
        have hRR : z9 = tgt.1 := pr1 hR
        have hRS : S10 = tgt.2 := pr2 hR
        exact g_iret X hret hlk hw hRR (congrArg (fun z => (z, V)) hRS) dX7_week_52
    · refine lv_aload_n X.1 X.2.1 dX7_week_14 rfl (lv_at hl 0 rfl) ?_
      refine lv_iconst (v := (0 : Int32)) X.1 X.2.1 dX7_week_15 (by decide) ?_
      refine m_callVI_s X K hw (k_X7_finds l G S V (0 : Int32) (by unfold vp_in; decide)) (g_cwV X hiX7_finds q912 q914 q29 q74 q915 ⟨(Nat.le_of_ble_eq_true rfl), (Nat.le_of_ble_eq_true rfl)⟩) rfl hl.1 rfl (Nat.le_of_ble_eq_true rfl) dX7_week_16 ⟨(Nat.le_of_ble_eq_true rfl), (Nat.le_of_ble_eq_true rfl)⟩ (fun z11 S12 H locs ez11 eS12 hw => ?_)
      have hR : (z11, S12) = tgt := by
        rw [← hF]
        subst ez4 ez11 eS12
        simp only [f7_week, if_neg c1, if_pos c5]
      have hRR : z11 = tgt.1 := pr1 hR
      have hRS : S12 = tgt.2 := pr2 hR
      exact g_iret X hret hlk hw hRR (congrArg (fun z => (z, V)) hRS) dX7_week_19
set_option maxHeartbeats 4000000 in
set_option maxRecDepth 10000 in
theorem k_X7_rests (l : Launch) (G : tt_G) (S : tt_St) (V : Int64) (hp0 : mi S) : m_MI l G yX7_rests (g_code yX7_rests cX7_rests 4 (some FieldType.int)) 7 155 [.ref (mm_ad G 0)] S V ((f7_rests S).1) ((f7_rests S).2) V := by
  generalize hF : f7_rests S = tgt
  refine g_begin rfl (Nat.le_of_ble_eq_true rfl) _ (fun p e s m below meth c ls X hret hlk hB hl => ?_)
  obtain ⟨hP0, K⟩ := hB
  have hw : m_W G S V s s.heap [] := ⟨hP0, va_S.rf⟩
  have X : CallFix p m c cX7_rests 4 s ([.ref (mm_ad G 0)] : List Value).toArray tt_T "TrustTinModel" := X
  have hl : lv_has ls 4 [(0, .ref (mm_ad G 0))] := hl
  refine lv_aload_n X.1 X.2.1 dX7_rests_0 rfl (lv_at hl 0 rfl) ?_
  refine m_get X K hw 0 (by decide) q836 rfl dX7_rests_1 ?_
  refine lv_bipush (v := (7 : Int32)) X.1 X.2.1 dX7_rests_4 (by decide) ?_
  have hi1 : vp_in (7 : Int32) 132 := by unfold vp_in; decide
  refine g_ialdL (j := 7) X K hw (by decide) mm_e1 hi1 rfl dX7_rests_6 ?_
  refine lv_sipush (v := (9990 : Int32)) X.1 X.2.1 dX7_rests_7 (by decide) ?_
  refine lv_icmp_le (tgt := 19) X.1 X.2.1 dX7_rests_10 (by decide) (fun c2 => ?_) (fun c2 => ?_)
  · refine lv_iconst (v := (0 : Int32)) X.1 X.2.1 dX7_rests_19 (by decide) ?_
    refine lv_istore_n (lv' := [(1, .int (0 : Int32)), (0, .ref (mm_ad G 0))]) X.1 X.2.1 dX7_rests_20 rfl hl (by decide) rfl (fun ls hl => ?_)
    refine lv_iconst (v := (0 : Int32)) X.1 X.2.1 dX7_rests_21 (by decide) ?_
    refine lv_istore_n (lv' := [(2, .int (0 : Int32)), (1, .int (0 : Int32)), (0, .ref (mm_ad G 0))]) X.1 X.2.1 dX7_rests_22 rfl hl (by decide) rfl (fun ls hl => ?_)
    have j23 : ∀ (n : Nat) (S3 : tt_St) (y1_23 : Int32) (y2_23 : Int32) (H : Heap) (locs : List Loc) (ls : Array Slot), ((¬ y2_23 < 0) ∧ (S3 1 0).toInt ≤ 10) → lp_mu (11 : Int32) y2_23 < n → f7_rests_L23 n S3 y1_23 y2_23 = tgt → m_W G S3 V s H locs → lv_has ls 4 [(0, .ref (mm_ad G 0)), (1, .int y1_23), (2, .int y2_23)] → W p l e (g_rm 7 155) s m ([.ref (mm_ad G 0)] : List Value).toArray below meth c H locs 0 0 (MQ below (va_Qi (fun r T => r = tgt.1 ∧ T = (tgt.2, V)) (g_Post G 10 (mm_ad G) (mm_cell G)) (g_in 10 (mm_ad G))) ([.ref (mm_ad G 0)] : List Value).toArray s 0 0 (g_in 10 (mm_ad G))) (F0 m 23 ls []) := by
      intro n
      induction n with
      | zero => intro S3 y1_23 y2_23 H locs ls hI hm; exact absurd hm (Nat.not_lt_zero _)
      | succ n ih =>
        intro S3 y1_23 y2_23 H locs ls hI hm hF hw hl
        refine lv_iload_n X.1 X.2.1 dX7_rests_23 rfl (lv_at hl 2 rfl) ?_
        refine lv_bipush (v := (11 : Int32)) X.1 X.2.1 dX7_rests_24 (by decide) ?_
        refine lv_icmp_ge (tgt := 81) X.1 X.2.1 dX7_rests_26 (by decide) (fun c4 => ?_) (fun c4 => ?_)
        · refine lv_iload_n X.1 X.2.1 dX7_rests_81 rfl (lv_at hl 1 rfl) ?_
          have hR : (y1_23, S3) = tgt := by
            rw [← hF]
            simp only [f7_rests_L23, if_pos c4]
          have hRR : y1_23 = tgt.1 := pr1 hR
          have hRS : S3 = tgt.2 := pr2 hR
          exact g_iret X hret hlk hw hRR (congrArg (fun z => (z, V)) hRS) dX7_rests_82
        · refine lv_aload_n X.1 X.2.1 dX7_rests_29 rfl (lv_at hl 0 rfl) ?_
          refine m_callVV_s X K hw (k_X7_begins l G S3 V) (g_cwV X hiX7_begins q1062 q1064 q48 q74 q1065 ⟨(Nat.le_of_ble_eq_true rfl), (Nat.le_of_ble_eq_true rfl)⟩) rfl hl.1 rfl (Nat.le_of_ble_eq_true rfl) dX7_rests_30 ⟨(Nat.le_of_ble_eq_true rfl), (Nat.le_of_ble_eq_true rfl)⟩ (fun S5 H locs eS5 hw => ?_)
          refine lv_aload_n X.1 X.2.1 dX7_rests_33 rfl (lv_at hl 0 rfl) ?_
          refine lv_bipush (v := (10 : Int32)) X.1 X.2.1 dX7_rests_34 (by decide) ?_
          refine lv_iload_n X.1 X.2.1 dX7_rests_36 rfl (lv_at hl 2 rfl) ?_
          refine lv_imul X.1 X.2.1 dX7_rests_37 ?_
          refine m_callVV_s X K hw (k_X7_monday l G S5 V ((10 : Int32) * y2_23) (by rw [show S5 1 0 = S3 1 0 from by subst eS5; exact bg_sz _]; exact hI.2)) (g_cwV X hiX7_monday q1077 q1079 q50 q74 q1080 ⟨(Nat.le_of_ble_eq_true rfl), (Nat.le_of_ble_eq_true rfl)⟩) rfl hl.1 rfl (Nat.le_of_ble_eq_true rfl) dX7_rests_38 ⟨(Nat.le_of_ble_eq_true rfl), (Nat.le_of_ble_eq_true rfl)⟩ (fun S6 H locs eS6 hw => ?_)
          refine lv_aload_n X.1 X.2.1 dX7_rests_41 rfl (lv_at hl 0 rfl) ?_
          refine lv_iconst (v := (5 : Int32)) X.1 X.2.1 dX7_rests_42 (by decide) ?_
          refine m_callVI_s X K hw (k_X7_goesOn l G S6 V (5 : Int32) (by rw [show S6 1 0 = S3 1 0 from by subst eS5 eS6; exact (fm_monday _ (by rw [bg_sz]; exact hI.2)).sz.trans (bg_sz _)]; exact hI.2)) (g_cwV X hiX7_goesOn q981 q983 q36 q74 q984 ⟨(Nat.le_of_ble_eq_true rfl), (Nat.le_of_ble_eq_true rfl)⟩) rfl hl.1 rfl (Nat.le_of_ble_eq_true rfl) dX7_rests_43 ⟨(Nat.le_of_ble_eq_true rfl), (Nat.le_of_ble_eq_true rfl)⟩ (fun z7 S8 H locs ez7 eS8 hw => ?_)
          refine lv_istore_n (lv' := [(3, .int z7), (0, .ref (mm_ad G 0)), (1, .int y1_23), (2, .int y2_23)]) X.1 X.2.1 dX7_rests_46 rfl hl (by decide) rfl (fun ls hl => ?_)
          refine lv_iload_n X.1 X.2.1 dX7_rests_47 rfl (lv_at hl 2 rfl) ?_
          refine lv_aload_n X.1 X.2.1 dX7_rests_48 rfl (lv_at hl 1 rfl) ?_
          refine m_get X K hw 0 (by decide) q836 rfl dX7_rests_49 ?_
          refine lv_bipush (v := (6 : Int32)) X.1 X.2.1 dX7_rests_52 (by decide) ?_
          have hi9 : vp_in (6 : Int32) 132 := by unfold vp_in; decide
          refine g_ialdL (j := 6) X K hw (by decide) mm_e1 hi9 rfl dX7_rests_54 ?_
          refine lv_bipush (v := (10 : Int32)) X.1 X.2.1 dX7_rests_55 (by decide) ?_
          refine lv_iload_n X.1 X.2.1 dX7_rests_57 rfl (lv_at hl 3 rfl) ?_
          refine lv_imul X.1 X.2.1 dX7_rests_58 ?_
          refine lv_icmp_ne (tgt := 68) X.1 X.2.1 dX7_rests_59 (by decide) (fun c10 => ?_) (fun c10 => ?_)
          · refine lv_iconst (v := (0 : Int32)) X.1 X.2.1 dX7_rests_68 (by decide) ?_
            refine lv_ior X.1 X.2.1 dX7_rests_69 ?_
            refine lv_topi (fun x11 ex11 => ?_)
            refine lv_istore_n (lv' := [(1, .int x11), (3, .int z7), (0, .ref (mm_ad G 0)), (2, .int y2_23)]) X.1 X.2.1 dX7_rests_70 rfl hl (by decide) rfl (fun ls hl => ?_)
            refine lv_aload_n X.1 X.2.1 dX7_rests_71 rfl (lv_at hl 2 rfl) ?_
            refine m_callVV_s X K hw (k_X7_ends l G S8 V) (g_cwV X hiX7_ends q1069 q1071 q49 q74 q1072 ⟨(Nat.le_of_ble_eq_true rfl), (Nat.le_of_ble_eq_true rfl)⟩) rfl hl.1 rfl (Nat.le_of_ble_eq_true rfl) dX7_rests_72 ⟨(Nat.le_of_ble_eq_true rfl), (Nat.le_of_ble_eq_true rfl)⟩ (fun S12 H locs eS12 hw => ?_)
            obtain ⟨x13, ex13⟩ : ∃ y : Int32, y = y2_23 + (1 : Int32) := ⟨_, rfl⟩
            refine lv_iinc (v := x13) (lv' := [(2, .int x13), (1, .int x11), (3, .int z7), (0, .ref (mm_ad G 0))]) X.1 X.2.1 dX7_rests_75 hl (k := 3) rfl (by rw [ex13]; rfl) (by decide) rfl (fun ls hl => ?_)
            refine lv_goto (tgt := 23) X.1 X.2.1 dX7_rests_78 (by decide) ?_
            have hF2 : f7_rests_L23 n S12 x11 x13 = tgt := by
              rw [← hF]
              subst eS5 eS6 ez7 eS8 ex11 eS12 ex13
              simp only [f7_rests_L23, if_neg c4, if_neg c10]
            exact ih S12 x11 x13 _ _ ls (⟨by rw [ex13]; exact lp_nn hI.1 c4, by rw [show S12 1 0 = S3 1 0 from by subst eS5 eS6 ez7 eS8 ex11 eS12 ex13; exact be_sz (md_2 hI.2)]; exact hI.2⟩) (by rw [ex13]; exact lp_dec' c4 hm) hF2 hw (lv_sub hl [3, 1, 0] rfl)
          · refine lv_iconst (v := (1 : Int32)) X.1 X.2.1 dX7_rests_62 (by decide) ?_
            refine lv_iload_n X.1 X.2.1 dX7_rests_63 rfl (lv_at hl 3 rfl) ?_
            refine lv_ishl X.1 X.2.1 dX7_rests_64 ?_
            refine lv_goto (tgt := 69) X.1 X.2.1 dX7_rests_65 (by decide) ?_
            refine lv_ior X.1 X.2.1 dX7_rests_69 ?_
            refine lv_topi (fun x14 ex14 => ?_)
            refine lv_istore_n (lv' := [(1, .int x14), (3, .int z7), (0, .ref (mm_ad G 0)), (2, .int y2_23)]) X.1 X.2.1 dX7_rests_70 rfl hl (by decide) rfl (fun ls hl => ?_)
            refine lv_aload_n X.1 X.2.1 dX7_rests_71 rfl (lv_at hl 2 rfl) ?_
            refine m_callVV_s X K hw (k_X7_ends l G S8 V) (g_cwV X hiX7_ends q1069 q1071 q49 q74 q1072 ⟨(Nat.le_of_ble_eq_true rfl), (Nat.le_of_ble_eq_true rfl)⟩) rfl hl.1 rfl (Nat.le_of_ble_eq_true rfl) dX7_rests_72 ⟨(Nat.le_of_ble_eq_true rfl), (Nat.le_of_ble_eq_true rfl)⟩ (fun S15 H locs eS15 hw => ?_)
            obtain ⟨x16, ex16⟩ : ∃ y : Int32, y = y2_23 + (1 : Int32) := ⟨_, rfl⟩
            refine lv_iinc (v := x16) (lv' := [(2, .int x16), (1, .int x14), (3, .int z7), (0, .ref (mm_ad G 0))]) X.1 X.2.1 dX7_rests_75 hl (k := 3) rfl (by rw [ex16]; rfl) (by decide) rfl (fun ls hl => ?_)
            refine lv_goto (tgt := 23) X.1 X.2.1 dX7_rests_78 (by decide) ?_
            have hF2 : f7_rests_L23 n S15 x14 x16 = tgt := by
              rw [← hF]
              subst eS5 eS6 ez7 eS8 ex14 eS15 ex16
              simp only [f7_rests_L23, if_neg c4, if_pos c10]
            exact ih S15 x14 x16 _ _ ls (⟨by rw [ex16]; exact lp_nn hI.1 c4, by rw [show S15 1 0 = S3 1 0 from by subst eS5 eS6 ez7 eS8 ex14 eS15 ex16; exact be_sz (md_2 hI.2)]; exact hI.2⟩) (by rw [ex16]; exact lp_dec' c4 hm) hF2 hw (lv_sub hl [3, 1, 0] rfl)
    have hF2 : f7_rests_L23 (lp_mu (11 : Int32) (0 : Int32) + 1) S (0 : Int32) (0 : Int32) = tgt := by
      rw [← hF]
      simp only [f7_rests, if_pos c2]
    exact j23 (lp_mu (11 : Int32) (0 : Int32) + 1) S (0 : Int32) (0 : Int32) _ _ ls (⟨by decide, hp0.1.2⟩) (Nat.lt_succ_self _) hF2 hw (lv_sub hl [2, 1, 0] rfl)
  · refine lv_aload_n X.1 X.2.1 dX7_rests_13 rfl (lv_at hl 0 rfl) ?_
    refine lv_iconst (v := (4 : Int32)) X.1 X.2.1 dX7_rests_14 (by decide) ?_
    refine m_callVI_s X K hw (k_X7_finds l G S V (4 : Int32) (by unfold vp_in; decide)) (g_cwV X hiX7_finds q912 q914 q29 q74 q915 ⟨(Nat.le_of_ble_eq_true rfl), (Nat.le_of_ble_eq_true rfl)⟩) rfl hl.1 rfl (Nat.le_of_ble_eq_true rfl) dX7_rests_15 ⟨(Nat.le_of_ble_eq_true rfl), (Nat.le_of_ble_eq_true rfl)⟩ (fun z17 S18 H locs ez17 eS18 hw => ?_)
    have hR : (z17, S18) = tgt := by
      rw [← hF]
      subst ez17 eS18
      simp only [f7_rests, if_neg c2]
    have hRR : z17 = tgt.1 := pr1 hR
    have hRS : S18 = tgt.2 := pr2 hR
    exact g_iret X hret hlk hw hRR (congrArg (fun z => (z, V)) hRS) dX7_rests_18
set_option maxHeartbeats 4000000 in
set_option maxRecDepth 10000 in
theorem k_X7_tips (l : Launch) (G : tt_G) (S : tt_St) (V : Int64) (a1 : Int32) (a2 : Int32) (hp0 : mi S) : m_MI l G yX7_tips (g_code yX7_tips cX7_tips 5 (some FieldType.int)) 7 155 [.ref (mm_ad G 0), .int a1, .int a2] S V ((f7_tips S a1 a2).1) ((f7_tips S a1 a2).2) V := by
  generalize hF : f7_tips S a1 a2 = tgt
  refine g_begin rfl (Nat.le_of_ble_eq_true rfl) _ (fun p e s m below meth c ls X hret hlk hB hl => ?_)
  obtain ⟨hP0, K⟩ := hB
  have hw : m_W G S V s s.heap [] := ⟨hP0, va_S.rf⟩
  have X : CallFix p m c cX7_tips 5 s ([.ref (mm_ad G 0), .int a1, .int a2] : List Value).toArray tt_T "TrustTinModel" := X
  have hl : lv_has ls 5 [(0, .ref (mm_ad G 0)), (1, .int a1), (2, .int a2)] := hl
  refine lv_iload_n X.1 X.2.1 dX7_tips_0 rfl (lv_at hl 1 rfl) ?_
  refine lv_i2l X.1 X.2.1 dX7_tips_1 rfl ?_
  refine lv_lconst (v := (0 : Int64)) X.1 X.2.1 dX7_tips_2 (by decide) ?_
  refine lv_ldc2 (v := (999 : Int64)) X.1 X.2.1 X.2.2.2.1 (X.2.2.2.2 _ q956) dX7_tips_3 ?_
  refine m_callSI_p X K hw (k_X7_in l G S V a1.toInt64 (0 : Int64) (999 : Int64)) (g_cwS X hiX7_in q908 q909 q74 q910 ⟨(Nat.le_of_ble_eq_true rfl), (Nat.le_of_ble_eq_true rfl)⟩) rfl hl.1 rfl (Nat.le_of_ble_eq_true rfl) dX7_tips_6 ⟨(Nat.le_of_ble_eq_true rfl), (Nat.le_of_ble_eq_true rfl)⟩ (fun z1 H locs ez1 hw => ?_)
  refine lv_if_eq (tgt := 24) X.1 X.2.1 dX7_tips_9 (by decide) (fun c2 => ?_) (fun c2 => ?_)
  · refine lv_aload_n X.1 X.2.1 dX7_tips_24 rfl (lv_at hl 0 rfl) ?_
    refine lv_iconst (v := (0 : Int32)) X.1 X.2.1 dX7_tips_25 (by decide) ?_
    refine m_callVI_s X K hw (k_X7_finds l G S V (0 : Int32) (by unfold vp_in; decide)) (g_cwV X hiX7_finds q912 q914 q29 q74 q915 ⟨(Nat.le_of_ble_eq_true rfl), (Nat.le_of_ble_eq_true rfl)⟩) rfl hl.1 rfl (Nat.le_of_ble_eq_true rfl) dX7_tips_26 ⟨(Nat.le_of_ble_eq_true rfl), (Nat.le_of_ble_eq_true rfl)⟩ (fun z3 S4 H locs ez3 eS4 hw => ?_)
    have hR : (z3, S4) = tgt := by
      rw [← hF]
      subst ez1 ez3 eS4
      simp only [f7_tips, if_pos c2]
    have hRR : z3 = tgt.1 := pr1 hR
    have hRS : S4 = tgt.2 := pr2 hR
    exact g_iret X hret hlk hw hRR (congrArg (fun z => (z, V)) hRS) dX7_tips_29
  · refine lv_iload_n X.1 X.2.1 dX7_tips_12 rfl (lv_at hl 2 rfl) ?_
    refine lv_i2l X.1 X.2.1 dX7_tips_13 rfl ?_
    refine lv_lconst (v := (1 : Int64)) X.1 X.2.1 dX7_tips_14 (by decide) ?_
    refine lv_ldc2 (v := (10 : Int64)) X.1 X.2.1 X.2.2.2.1 (X.2.2.2.2 _ q1085) dX7_tips_15 ?_
    refine m_callSI_p X K hw (k_X7_in l G S V a2.toInt64 (1 : Int64) (10 : Int64)) (g_cwS X hiX7_in q908 q909 q74 q910 ⟨(Nat.le_of_ble_eq_true rfl), (Nat.le_of_ble_eq_true rfl)⟩) rfl hl.1 rfl (Nat.le_of_ble_eq_true rfl) dX7_tips_18 ⟨(Nat.le_of_ble_eq_true rfl), (Nat.le_of_ble_eq_true rfl)⟩ (fun z5 H locs ez5 hw => ?_)
    refine lv_if_ne (tgt := 30) X.1 X.2.1 dX7_tips_21 (by decide) (fun c6 => ?_) (fun c6 => ?_)
    · refine lv_aload_n X.1 X.2.1 dX7_tips_30 rfl (lv_at hl 0 rfl) ?_
      refine m_get X K hw 0 (by decide) q836 rfl dX7_tips_31 ?_
      refine lv_bipush (v := (7 : Int32)) X.1 X.2.1 dX7_tips_34 (by decide) ?_
      have hi7 : vp_in (7 : Int32) 132 := by unfold vp_in; decide
      refine g_ialdL (j := 7) X K hw (by decide) mm_e1 hi7 rfl dX7_tips_36 ?_
      refine lv_sipush (v := (9940 : Int32)) X.1 X.2.1 dX7_tips_37 (by decide) ?_
      refine lv_icmp_le (tgt := 49) X.1 X.2.1 dX7_tips_40 (by decide) (fun c8 => ?_) (fun c8 => ?_)
      · refine lv_aload_n X.1 X.2.1 dX7_tips_49 rfl (lv_at hl 0 rfl) ?_
        refine m_callVV_s X K hw (k_X7_begins l G S V) (g_cwV X hiX7_begins q1062 q1064 q48 q74 q1065 ⟨(Nat.le_of_ble_eq_true rfl), (Nat.le_of_ble_eq_true rfl)⟩) rfl hl.1 rfl (Nat.le_of_ble_eq_true rfl) dX7_tips_50 ⟨(Nat.le_of_ble_eq_true rfl), (Nat.le_of_ble_eq_true rfl)⟩ (fun S9 H locs eS9 hw => ?_)
        refine lv_aload_n X.1 X.2.1 dX7_tips_53 rfl (lv_at hl 0 rfl) ?_
        refine lv_iload_n X.1 X.2.1 dX7_tips_54 rfl (lv_at hl 1 rfl) ?_
        refine m_callVV_s X K hw (k_X7_monday l G S9 V a1 (by rw [show S9 1 0 = S 1 0 from by subst ez1 ez5 eS9; exact bg_sz S]; exact hp0.1.2)) (g_cwV X hiX7_monday q1077 q1079 q50 q74 q1080 ⟨(Nat.le_of_ble_eq_true rfl), (Nat.le_of_ble_eq_true rfl)⟩) rfl hl.1 rfl (Nat.le_of_ble_eq_true rfl) dX7_tips_55 ⟨(Nat.le_of_ble_eq_true rfl), (Nat.le_of_ble_eq_true rfl)⟩ (fun S10 H locs eS10 hw => ?_)
        refine lv_aload_n X.1 X.2.1 dX7_tips_58 rfl (lv_at hl 0 rfl) ?_
        refine lv_iconst (v := (5 : Int32)) X.1 X.2.1 dX7_tips_59 (by decide) ?_
        refine lv_iload_n X.1 X.2.1 dX7_tips_60 rfl (lv_at hl 2 rfl) ?_
        refine lv_imul X.1 X.2.1 dX7_tips_61 ?_
        refine m_callVI_s X K hw (k_X7_goesOn l G S10 V ((5 : Int32) * a2) (by rw [show S10 1 0 = S 1 0 from by subst ez1 ez5 eS9 eS10; exact (fm_monday _ (by rw [bg_sz]; exact hp0.1.2)).sz.trans (bg_sz _)]; exact hp0.1.2)) (g_cwV X hiX7_goesOn q981 q983 q36 q74 q984 ⟨(Nat.le_of_ble_eq_true rfl), (Nat.le_of_ble_eq_true rfl)⟩) rfl hl.1 rfl (Nat.le_of_ble_eq_true rfl) dX7_tips_62 ⟨(Nat.le_of_ble_eq_true rfl), (Nat.le_of_ble_eq_true rfl)⟩ (fun z11 S12 H locs ez11 eS12 hw => ?_)
        refine lv_istore_n (lv' := [(3, .int z11), (0, .ref (mm_ad G 0)), (1, .int a1), (2, .int a2)]) X.1 X.2.1 dX7_tips_65 rfl hl (by decide) rfl (fun ls hl => ?_)
        refine lv_aload_n X.1 X.2.1 dX7_tips_66 rfl (lv_at hl 1 rfl) ?_
        refine m_get X K hw 0 (by decide) q836 rfl dX7_tips_67 ?_
        refine lv_bipush (v := (6 : Int32)) X.1 X.2.1 dX7_tips_70 (by decide) ?_
        have hi13 : vp_in (6 : Int32) 132 := by unfold vp_in; decide
        refine g_ialdL (j := 6) X K hw (by decide) mm_e1 hi13 rfl dX7_tips_72 ?_
        refine lv_topi (fun x14 ex14 => ?_)
        refine lv_istore (lv' := [(4, .int x14), (3, .int z11), (0, .ref (mm_ad G 0)), (1, .int a1), (2, .int a2)]) X.1 X.2.1 dX7_tips_73 hl (by decide) rfl (fun ls hl => ?_)
        refine lv_aload_n X.1 X.2.1 dX7_tips_75 rfl (lv_at hl 2 rfl) ?_
        refine m_callVV_s X K hw (k_X7_ends l G S12 V) (g_cwV X hiX7_ends q1069 q1071 q49 q74 q1072 ⟨(Nat.le_of_ble_eq_true rfl), (Nat.le_of_ble_eq_true rfl)⟩) rfl hl.1 rfl (Nat.le_of_ble_eq_true rfl) dX7_tips_76 ⟨(Nat.le_of_ble_eq_true rfl), (Nat.le_of_ble_eq_true rfl)⟩ (fun S15 H locs eS15 hw => ?_)
        refine lv_iload X.1 X.2.1 dX7_tips_79 (lv_at hl 0 rfl) ?_
        have hR : (x14, S15) = tgt := by
          rw [← hF]
          subst ez1 ez5 eS9 eS10 ez11 eS12 ex14 eS15
          simp only [f7_tips, if_neg c2, if_neg c6, if_pos c8]
        have hRR : x14 = tgt.1 := pr1 hR
        have hRS : S15 = tgt.2 := pr2 hR
        exact g_iret X hret hlk hw hRR (congrArg (fun z => (z, V)) hRS) dX7_tips_81
      · refine lv_aload_n X.1 X.2.1 dX7_tips_43 rfl (lv_at hl 0 rfl) ?_
        refine lv_iconst (v := (4 : Int32)) X.1 X.2.1 dX7_tips_44 (by decide) ?_
        refine m_callVI_s X K hw (k_X7_finds l G S V (4 : Int32) (by unfold vp_in; decide)) (g_cwV X hiX7_finds q912 q914 q29 q74 q915 ⟨(Nat.le_of_ble_eq_true rfl), (Nat.le_of_ble_eq_true rfl)⟩) rfl hl.1 rfl (Nat.le_of_ble_eq_true rfl) dX7_tips_45 ⟨(Nat.le_of_ble_eq_true rfl), (Nat.le_of_ble_eq_true rfl)⟩ (fun z16 S17 H locs ez16 eS17 hw => ?_)
        have hR : (z16, S17) = tgt := by
          rw [← hF]
          subst ez1 ez5 ez16 eS17
          simp only [f7_tips, if_neg c2, if_neg c6, if_neg c8]
        have hRR : z16 = tgt.1 := pr1 hR
        have hRS : S17 = tgt.2 := pr2 hR
        exact g_iret X hret hlk hw hRR (congrArg (fun z => (z, V)) hRS) dX7_tips_48
    · refine lv_aload_n X.1 X.2.1 dX7_tips_24 rfl (lv_at hl 0 rfl) ?_
      refine lv_iconst (v := (0 : Int32)) X.1 X.2.1 dX7_tips_25 (by decide) ?_
      refine m_callVI_s X K hw (k_X7_finds l G S V (0 : Int32) (by unfold vp_in; decide)) (g_cwV X hiX7_finds q912 q914 q29 q74 q915 ⟨(Nat.le_of_ble_eq_true rfl), (Nat.le_of_ble_eq_true rfl)⟩) rfl hl.1 rfl (Nat.le_of_ble_eq_true rfl) dX7_tips_26 ⟨(Nat.le_of_ble_eq_true rfl), (Nat.le_of_ble_eq_true rfl)⟩ (fun z18 S19 H locs ez18 eS19 hw => ?_)
      have hR : (z18, S19) = tgt := by
        rw [← hF]
        subst ez1 ez5 ez18 eS19
        simp only [f7_tips, if_neg c2, if_pos c6]
      have hRR : z18 = tgt.1 := pr1 hR
      have hRS : S19 = tgt.2 := pr2 hR
      exact g_iret X hret hlk hw hRR (congrArg (fun z => (z, V)) hRS) dX7_tips_29
set_option maxHeartbeats 4000000 in
set_option maxRecDepth 10000 in
theorem k_X7_potFor (l : Launch) (G : tt_G) (S : tt_St) (V : Int64) (a1 : Int32) (hp0 : mi S) : m_MI l G yX7_potFor (g_code yX7_potFor cX7_potFor 6 (some FieldType.int)) 7 155 [.ref (mm_ad G 0), .int a1] S V ((f7_potFor S a1).1) ((f7_potFor S a1).2) V := by
  generalize hF : f7_potFor S a1 = tgt
  refine g_begin rfl (Nat.le_of_ble_eq_true rfl) _ (fun p e s m below meth c ls X hret hlk hB hl => ?_)
  obtain ⟨hP0, K⟩ := hB
  have hw : m_W G S V s s.heap [] := ⟨hP0, va_S.rf⟩
  have X : CallFix p m c cX7_potFor 6 s ([.ref (mm_ad G 0), .int a1] : List Value).toArray tt_T "TrustTinModel" := X
  have hl : lv_has ls 6 [(0, .ref (mm_ad G 0)), (1, .int a1)] := hl
  refine lv_aload_n X.1 X.2.1 dX7_potFor_0 rfl (lv_at hl 0 rfl) ?_
  refine lv_iload_n X.1 X.2.1 dX7_potFor_1 rfl (lv_at hl 1 rfl) ?_
  refine lv_i2l X.1 X.2.1 dX7_potFor_2 rfl ?_
  refine lv_lconst (v := (1 : Int64)) X.1 X.2.1 dX7_potFor_3 (by decide) ?_
  refine lv_ldc2 (v := (20 : Int64)) X.1 X.2.1 X.2.2.2.1 (X.2.2.2.2 _ q1090) dX7_potFor_4 ?_
  refine m_callSI_p X K hw (k_X7_in l G S V a1.toInt64 (1 : Int64) (20 : Int64)) (g_cwS X hiX7_in q908 q909 q74 q910 ⟨(Nat.le_of_ble_eq_true rfl), (Nat.le_of_ble_eq_true rfl)⟩) rfl hl.1 rfl (Nat.le_of_ble_eq_true rfl) dX7_potFor_7 ⟨(Nat.le_of_ble_eq_true rfl), (Nat.le_of_ble_eq_true rfl)⟩ (fun z1 H locs ez1 hw => ?_)
  refine lv_iload_n X.1 X.2.1 dX7_potFor_10 rfl (lv_at hl 1 rfl) ?_
  refine m_callVI_p X K hw (k_X7_why l G S V z1 a1) (g_cwV X hiX7_why q1058 q1060 q47 q74 q1061 ⟨(Nat.le_of_ble_eq_true rfl), (Nat.le_of_ble_eq_true rfl)⟩) rfl hl.1 rfl (Nat.le_of_ble_eq_true rfl) dX7_potFor_11 ⟨(Nat.le_of_ble_eq_true rfl), (Nat.le_of_ble_eq_true rfl)⟩ (fun z2 H locs ez2 hw => ?_)
  refine lv_istore_n (lv' := [(2, .int z2), (0, .ref (mm_ad G 0)), (1, .int a1)]) X.1 X.2.1 dX7_potFor_14 rfl hl (by decide) rfl (fun ls hl => ?_)
  refine lv_iload_n X.1 X.2.1 dX7_potFor_15 rfl (lv_at hl 0 rfl) ?_
  refine lv_if_lt (tgt := 25) X.1 X.2.1 dX7_potFor_16 (by decide) (fun c3 => ?_) (fun c3 => ?_)
  · refine lv_iconst (v := (1 : Int32)) X.1 X.2.1 dX7_potFor_25 (by decide) ?_
    refine lv_istore_n (lv' := [(3, .int (1 : Int32)), (2, .int z2), (0, .ref (mm_ad G 0)), (1, .int a1)]) X.1 X.2.1 dX7_potFor_26 rfl hl (by decide) rfl (fun ls hl => ?_)
    have j27 : ∀ (n : Nat) (S4 : tt_St) (y3_27 : Int32) (H : Heap) (locs : List Loc) (ls : Array Slot), ((¬ y3_27 < 0) ∧ (S4 1 0).toInt ≤ 10) → lp_mu (100 : Int32) y3_27 < n → f7_potFor_L27 a1 n S4 y3_27 = tgt → m_W G S4 V s H locs → lv_has ls 6 [(0, .ref (mm_ad G 0)), (1, .int a1), (3, .int y3_27)] → W p l e (g_rm 7 155) s m ([.ref (mm_ad G 0), .int a1] : List Value).toArray below meth c H locs 0 0 (MQ below (va_Qi (fun r T => r = tgt.1 ∧ T = (tgt.2, V)) (g_Post G 10 (mm_ad G) (mm_cell G)) (g_in 10 (mm_ad G))) ([.ref (mm_ad G 0), .int a1] : List Value).toArray s 0 0 (g_in 10 (mm_ad G))) (F0 m 27 ls []) := by
      intro n
      induction n with
      | zero => intro S4 y3_27 H locs ls hI hm; exact absurd hm (Nat.not_lt_zero _)
      | succ n ih =>
        intro S4 y3_27 H locs ls hI hm hF hw hl
        refine lv_iload_n X.1 X.2.1 dX7_potFor_27 rfl (lv_at hl 2 rfl) ?_
        refine lv_bipush (v := (100 : Int32)) X.1 X.2.1 dX7_potFor_28 (by decide) ?_
        refine lv_icmp_ge (tgt := 99) X.1 X.2.1 dX7_potFor_30 (by decide) (fun c5 => ?_) (fun c5 => ?_)
        · refine lv_aload_n X.1 X.2.1 dX7_potFor_99 rfl (lv_at hl 0 rfl) ?_
          refine lv_iconst (v := (3 : Int32)) X.1 X.2.1 dX7_potFor_100 (by decide) ?_
          refine m_callVI_s X K hw (k_X7_finds l G S4 V (3 : Int32) (by unfold vp_in; decide)) (g_cwV X hiX7_finds q912 q914 q29 q74 q915 ⟨(Nat.le_of_ble_eq_true rfl), (Nat.le_of_ble_eq_true rfl)⟩) rfl hl.1 rfl (Nat.le_of_ble_eq_true rfl) dX7_potFor_101 ⟨(Nat.le_of_ble_eq_true rfl), (Nat.le_of_ble_eq_true rfl)⟩ (fun z6 S7 H locs ez6 eS7 hw => ?_)
          have hR : (z6, S7) = tgt := by
            rw [← hF]
            subst ez6 eS7
            simp only [f7_potFor_L27, if_pos c5]
          have hRR : z6 = tgt.1 := pr1 hR
          have hRS : S7 = tgt.2 := pr2 hR
          exact g_iret X hret hlk hw hRR (congrArg (fun z => (z, V)) hRS) dX7_potFor_104
        · refine lv_aload_n X.1 X.2.1 dX7_potFor_33 rfl (lv_at hl 0 rfl) ?_
          refine m_callVV_s X K hw (k_X7_begins l G S4 V) (g_cwV X hiX7_begins q1062 q1064 q48 q74 q1065 ⟨(Nat.le_of_ble_eq_true rfl), (Nat.le_of_ble_eq_true rfl)⟩) rfl hl.1 rfl (Nat.le_of_ble_eq_true rfl) dX7_potFor_34 ⟨(Nat.le_of_ble_eq_true rfl), (Nat.le_of_ble_eq_true rfl)⟩ (fun S8 H locs eS8 hw => ?_)
          refine lv_aload_n X.1 X.2.1 dX7_potFor_37 rfl (lv_at hl 0 rfl) ?_
          refine m_get X K hw 0 (by decide) q836 rfl dX7_potFor_38 ?_
          refine lv_iconst (v := (2 : Int32)) X.1 X.2.1 dX7_potFor_41 (by decide) ?_
          refine lv_iload_n X.1 X.2.1 dX7_potFor_42 rfl (lv_at hl 2 rfl) ?_
          have hi9 : vp_in (2 : Int32) 132 := by unfold vp_in; decide
          refine m_iastL (j := 2) X K hw (by decide) (by decide) (fun _ => mm_e1) hi9 rfl dX7_potFor_43 (fun S10 H locs eS10 hw => ?_)
          refine lv_aload_n X.1 X.2.1 dX7_potFor_44 rfl (lv_at hl 0 rfl) ?_
          refine m_get X K hw 0 (by decide) q836 rfl dX7_potFor_45 ?_
          refine lv_iconst (v := (3 : Int32)) X.1 X.2.1 dX7_potFor_48 (by decide) ?_
          refine lv_iload_n X.1 X.2.1 dX7_potFor_49 rfl (lv_at hl 2 rfl) ?_
          have hi11 : vp_in (3 : Int32) 132 := by unfold vp_in; decide
          refine m_iastL (j := 3) X K hw (by decide) (by decide) (fun _ => mm_e1) hi11 rfl dX7_potFor_50 (fun S12 H locs eS12 hw => ?_)
          refine lv_aload_n X.1 X.2.1 dX7_potFor_51 rfl (lv_at hl 0 rfl) ?_
          refine lv_iload_n X.1 X.2.1 dX7_potFor_52 rfl (lv_at hl 1 rfl) ?_
          refine m_callVI_s X K hw (k_X7_goesOn l G S12 V a1 (by rw [show S12 1 0 = S4 1 0 from by subst eS8 eS10 eS12; rw [tt_up_ne (by omega), tt_up_ne (by omega)]; exact bg_sz _]; exact hI.2)) (g_cwV X hiX7_goesOn q981 q983 q36 q74 q984 ⟨(Nat.le_of_ble_eq_true rfl), (Nat.le_of_ble_eq_true rfl)⟩) rfl hl.1 rfl (Nat.le_of_ble_eq_true rfl) dX7_potFor_53 ⟨(Nat.le_of_ble_eq_true rfl), (Nat.le_of_ble_eq_true rfl)⟩ (fun z13 S14 H locs ez13 eS14 hw => ?_)
          refine lv_istore (lv' := [(4, .int z13), (0, .ref (mm_ad G 0)), (1, .int a1), (3, .int y3_27)]) X.1 X.2.1 dX7_potFor_56 hl (by decide) rfl (fun ls hl => ?_)
          refine lv_aload_n X.1 X.2.1 dX7_potFor_58 rfl (lv_at hl 1 rfl) ?_
          refine m_get X K hw 0 (by decide) q836 rfl dX7_potFor_59 ?_
          refine lv_bipush (v := (8 : Int32)) X.1 X.2.1 dX7_potFor_62 (by decide) ?_
          have hi15 : vp_in (8 : Int32) 132 := by unfold vp_in; decide
          refine g_ialdL (j := 8) X K hw (by decide) mm_e1 hi15 rfl dX7_potFor_64 ?_
          refine lv_aload_n X.1 X.2.1 dX7_potFor_65 rfl (lv_at hl 1 rfl) ?_
          refine m_get X K hw 1 (by decide) q837 rfl dX7_potFor_66 ?_
          refine lv_bipush (v := (8 : Int32)) X.1 X.2.1 dX7_potFor_69 (by decide) ?_
          have hi16 : vp_in (8 : Int32) 132 := by unfold vp_in; decide
          refine g_ialdL (j := 8) X K hw (by decide) mm_e2 hi16 rfl dX7_potFor_71 ?_
          refine lv_icmp_ne (tgt := 79) X.1 X.2.1 dX7_potFor_72 (by decide) (fun c17 => ?_) (fun c17 => ?_)
          · refine lv_iconst (v := (0 : Int32)) X.1 X.2.1 dX7_potFor_79 (by decide) ?_
            refine lv_istore (lv' := [(5, .int (0 : Int32)), (4, .int z13), (0, .ref (mm_ad G 0)), (1, .int a1), (3, .int y3_27)]) X.1 X.2.1 dX7_potFor_80 hl (by decide) rfl (fun ls hl => ?_)
            refine lv_aload_n X.1 X.2.1 dX7_potFor_82 rfl (lv_at hl 2 rfl) ?_
            refine m_callVV_s X K hw (k_X7_ends l G S14 V) (g_cwV X hiX7_ends q1069 q1071 q49 q74 q1072 ⟨(Nat.le_of_ble_eq_true rfl), (Nat.le_of_ble_eq_true rfl)⟩) rfl hl.1 rfl (Nat.le_of_ble_eq_true rfl) dX7_potFor_83 ⟨(Nat.le_of_ble_eq_true rfl), (Nat.le_of_ble_eq_true rfl)⟩ (fun S18 H locs eS18 hw => ?_)
            refine lv_iload X.1 X.2.1 dX7_potFor_86 (lv_at hl 0 rfl) ?_
            refine lv_if_eq (tgt := 93) X.1 X.2.1 dX7_potFor_88 (by decide) (fun c19 => ?_) (fun c19 => ?_)
            · obtain ⟨x20, ex20⟩ : ∃ y : Int32, y = y3_27 + (1 : Int32) := ⟨_, rfl⟩
              refine lv_iinc (v := x20) (lv' := [(3, .int x20), (5, .int (0 : Int32)), (4, .int z13), (0, .ref (mm_ad G 0)), (1, .int a1)]) X.1 X.2.1 dX7_potFor_93 hl (k := 4) rfl (by rw [ex20]; rfl) (by decide) rfl (fun ls hl => ?_)
              refine lv_goto (tgt := 27) X.1 X.2.1 dX7_potFor_96 (by decide) ?_
              have hF2 : f7_potFor_L27 a1 n S18 x20 = tgt := by
                rw [← hF]
                subst eS8 eS10 eS12 ez13 eS14 eS18 ex20
                simp only [f7_potFor_L27, if_neg c5, if_neg c17]
              exact ih S18 x20 _ _ ls (⟨by rw [ex20]; exact lp_nn hI.1 c5, by rw [show S18 1 0 = S4 1 0 from by subst eS8 eS10 eS12 ez13 eS14 eS18 ex20; exact be_sz (pf_2 hI.2)]; exact hI.2⟩) (by rw [ex20]; exact lp_dec' c5 hm) hF2 hw (lv_sub hl [3, 4, 0] rfl)
            · exact absurd (by decide) c19
          · refine lv_iconst (v := (1 : Int32)) X.1 X.2.1 dX7_potFor_75 (by decide) ?_
            refine lv_goto (tgt := 80) X.1 X.2.1 dX7_potFor_76 (by decide) ?_
            refine lv_istore (lv' := [(5, .int (1 : Int32)), (4, .int z13), (0, .ref (mm_ad G 0)), (1, .int a1), (3, .int y3_27)]) X.1 X.2.1 dX7_potFor_80 hl (by decide) rfl (fun ls hl => ?_)
            refine lv_aload_n X.1 X.2.1 dX7_potFor_82 rfl (lv_at hl 2 rfl) ?_
            refine m_callVV_s X K hw (k_X7_ends l G S14 V) (g_cwV X hiX7_ends q1069 q1071 q49 q74 q1072 ⟨(Nat.le_of_ble_eq_true rfl), (Nat.le_of_ble_eq_true rfl)⟩) rfl hl.1 rfl (Nat.le_of_ble_eq_true rfl) dX7_potFor_83 ⟨(Nat.le_of_ble_eq_true rfl), (Nat.le_of_ble_eq_true rfl)⟩ (fun S21 H locs eS21 hw => ?_)
            refine lv_iload X.1 X.2.1 dX7_potFor_86 (lv_at hl 0 rfl) ?_
            refine lv_if_eq (tgt := 93) X.1 X.2.1 dX7_potFor_88 (by decide) (fun c22 => ?_) (fun c22 => ?_)
            · exact absurd c22 (by decide)
            · refine lv_iload_n X.1 X.2.1 dX7_potFor_91 rfl (lv_at hl 4 rfl) ?_
              have hR : (y3_27, S21) = tgt := by
                rw [← hF]
                subst eS8 eS10 eS12 ez13 eS14 eS21
                simp only [f7_potFor_L27, if_neg c5, if_pos c17]
              have hRR : y3_27 = tgt.1 := pr1 hR
              have hRS : S21 = tgt.2 := pr2 hR
              exact g_iret X hret hlk hw hRR (congrArg (fun z => (z, V)) hRS) dX7_potFor_92
    have hF2 : f7_potFor_L27 a1 (lp_mu (100 : Int32) (1 : Int32) + 1) S (1 : Int32) = tgt := by
      rw [← hF]
      subst ez1 ez2
      simp only [f7_potFor, if_pos c3]
    exact j27 (lp_mu (100 : Int32) (1 : Int32) + 1) S (1 : Int32) _ _ ls (⟨by decide, hp0.1.2⟩) (Nat.lt_succ_self _) hF2 hw (lv_sub hl [2, 3, 0] rfl)
  · refine lv_aload_n X.1 X.2.1 dX7_potFor_19 rfl (lv_at hl 1 rfl) ?_
    refine lv_iload_n X.1 X.2.1 dX7_potFor_20 rfl (lv_at hl 0 rfl) ?_
    refine m_callVI_s X K hw (k_X7_finds l G S V z2 (why_in ez2 c3)) (g_cwV X hiX7_finds q912 q914 q29 q74 q915 ⟨(Nat.le_of_ble_eq_true rfl), (Nat.le_of_ble_eq_true rfl)⟩) rfl hl.1 rfl (Nat.le_of_ble_eq_true rfl) dX7_potFor_21 ⟨(Nat.le_of_ble_eq_true rfl), (Nat.le_of_ble_eq_true rfl)⟩ (fun z23 S24 H locs ez23 eS24 hw => ?_)
    have hR : (z23, S24) = tgt := by
      rw [← hF]
      subst ez1 ez2 ez23 eS24
      simp only [f7_potFor, if_neg c3]
    have hRR : z23 = tgt.1 := pr1 hR
    have hRS : S24 = tgt.2 := pr2 hR
    exact g_iret X hret hlk hw hRR (congrArg (fun z => (z, V)) hRS) dX7_potFor_24
set_option maxHeartbeats 4000000 in
set_option maxRecDepth 10000 in
theorem k_X7_kindFor (l : Launch) (G : tt_G) (S : tt_St) (V : Int64) (a1 : Int32) (a2 : Int32) (hp0 : mi S) : m_MI l G yX7_kindFor (g_code yX7_kindFor cX7_kindFor 9 (some FieldType.int)) 7 155 [.ref (mm_ad G 0), .int a1, .int a2] S V ((f7_kindFor S a1 a2).1) ((f7_kindFor S a1 a2).2) V := by
  generalize hF : f7_kindFor S a1 a2 = tgt
  refine g_begin rfl (Nat.le_of_ble_eq_true rfl) _ (fun p e s m below meth c ls X hret hlk hB hl => ?_)
  obtain ⟨hP0, K⟩ := hB
  have hw : m_W G S V s s.heap [] := ⟨hP0, va_S.rf⟩
  have X : CallFix p m c cX7_kindFor 9 s ([.ref (mm_ad G 0), .int a1, .int a2] : List Value).toArray tt_T "TrustTinModel" := X
  have hl : lv_has ls 9 [(0, .ref (mm_ad G 0)), (1, .int a1), (2, .int a2)] := hl
  refine lv_aload_n X.1 X.2.1 dX7_kindFor_0 rfl (lv_at hl 0 rfl) ?_
  refine lv_aload_n X.1 X.2.1 dX7_kindFor_1 rfl (lv_at hl 0 rfl) ?_
  refine lv_iload_n X.1 X.2.1 dX7_kindFor_2 rfl (lv_at hl 1 rfl) ?_
  refine m_callVI_p X K hw (k_X7_isDrinker l G S V a1) (g_cwV X hiX7_isDrinker q929 q931 q32 q74 q932 ⟨(Nat.le_of_ble_eq_true rfl), (Nat.le_of_ble_eq_true rfl)⟩) rfl hl.1 rfl (Nat.le_of_ble_eq_true rfl) dX7_kindFor_3 ⟨(Nat.le_of_ble_eq_true rfl), (Nat.le_of_ble_eq_true rfl)⟩ (fun z1 H locs ez1 hw => ?_)
  refine lv_if_eq (tgt := 25) X.1 X.2.1 dX7_kindFor_6 (by decide) (fun c2 => ?_) (fun c2 => ?_)
  · refine lv_iconst (v := (0 : Int32)) X.1 X.2.1 dX7_kindFor_25 (by decide) ?_
    refine lv_iload_n X.1 X.2.1 dX7_kindFor_26 rfl (lv_at hl 2 rfl) ?_
    refine m_callVI_p X K hw (k_X7_why l G S V (0 : Int32) a2) (g_cwV X hiX7_why q1058 q1060 q47 q74 q1061 ⟨(Nat.le_of_ble_eq_true rfl), (Nat.le_of_ble_eq_true rfl)⟩) rfl hl.1 rfl (Nat.le_of_ble_eq_true rfl) dX7_kindFor_27 ⟨(Nat.le_of_ble_eq_true rfl), (Nat.le_of_ble_eq_true rfl)⟩ (fun z3 H locs ez3 hw => ?_)
    obtain rfl : z3 = (0 : Int32) := ez3.trans (why_0 _ _)
    refine lv_istore_n (lv' := [(3, .int (0 : Int32)), (0, .ref (mm_ad G 0)), (1, .int a1), (2, .int a2)]) X.1 X.2.1 dX7_kindFor_30 rfl hl (by decide) rfl (fun ls hl => ?_)
    refine lv_iload_n X.1 X.2.1 dX7_kindFor_31 rfl (lv_at hl 0 rfl) ?_
    refine lv_if_lt (tgt := 41) X.1 X.2.1 dX7_kindFor_32 (by decide) (fun c4 => ?_) (fun c4 => ?_)
    · exact absurd c4 (by decide)
    · refine lv_aload_n X.1 X.2.1 dX7_kindFor_35 rfl (lv_at hl 1 rfl) ?_
      refine lv_iload_n X.1 X.2.1 dX7_kindFor_36 rfl (lv_at hl 0 rfl) ?_
      refine m_callVI_s X K hw (k_X7_finds l G S V (0 : Int32) (by unfold vp_in; decide)) (g_cwV X hiX7_finds q912 q914 q29 q74 q915 ⟨(Nat.le_of_ble_eq_true rfl), (Nat.le_of_ble_eq_true rfl)⟩) rfl hl.1 rfl (Nat.le_of_ble_eq_true rfl) dX7_kindFor_37 ⟨(Nat.le_of_ble_eq_true rfl), (Nat.le_of_ble_eq_true rfl)⟩ (fun z5 S6 H locs ez5 eS6 hw => ?_)
      have hR : (z5, S6) = tgt := by
        rw [← hF]
        subst ez1 ez5 eS6
        simp only [f7_kindFor, if_pos c2]
      have hRR : z5 = tgt.1 := pr1 hR
      have hRS : S6 = tgt.2 := pr2 hR
      exact g_iret X hret hlk hw hRR (congrArg (fun z => (z, V)) hRS) dX7_kindFor_40
  · refine lv_iload_n X.1 X.2.1 dX7_kindFor_9 rfl (lv_at hl 2 rfl) ?_
    refine lv_i2l X.1 X.2.1 dX7_kindFor_10 rfl ?_
    refine lv_lconst (v := (1 : Int64)) X.1 X.2.1 dX7_kindFor_11 (by decide) ?_
    refine lv_ldc2 (v := (50 : Int64)) X.1 X.2.1 X.2.2.2.1 (X.2.2.2.2 _ q976) dX7_kindFor_12 ?_
    refine m_callSI_p X K hw (k_X7_in l G S V a2.toInt64 (1 : Int64) (50 : Int64)) (g_cwS X hiX7_in q908 q909 q74 q910 ⟨(Nat.le_of_ble_eq_true rfl), (Nat.le_of_ble_eq_true rfl)⟩) rfl hl.1 rfl (Nat.le_of_ble_eq_true rfl) dX7_kindFor_15 ⟨(Nat.le_of_ble_eq_true rfl), (Nat.le_of_ble_eq_true rfl)⟩ (fun z7 H locs ez7 hw => ?_)
    refine lv_if_eq (tgt := 25) X.1 X.2.1 dX7_kindFor_18 (by decide) (fun c8 => ?_) (fun c8 => ?_)
    · refine lv_iconst (v := (0 : Int32)) X.1 X.2.1 dX7_kindFor_25 (by decide) ?_
      refine lv_iload_n X.1 X.2.1 dX7_kindFor_26 rfl (lv_at hl 2 rfl) ?_
      refine m_callVI_p X K hw (k_X7_why l G S V (0 : Int32) a2) (g_cwV X hiX7_why q1058 q1060 q47 q74 q1061 ⟨(Nat.le_of_ble_eq_true rfl), (Nat.le_of_ble_eq_true rfl)⟩) rfl hl.1 rfl (Nat.le_of_ble_eq_true rfl) dX7_kindFor_27 ⟨(Nat.le_of_ble_eq_true rfl), (Nat.le_of_ble_eq_true rfl)⟩ (fun z9 H locs ez9 hw => ?_)
      obtain rfl : z9 = (0 : Int32) := ez9.trans (why_0 _ _)
      refine lv_istore_n (lv' := [(3, .int (0 : Int32)), (0, .ref (mm_ad G 0)), (1, .int a1), (2, .int a2)]) X.1 X.2.1 dX7_kindFor_30 rfl hl (by decide) rfl (fun ls hl => ?_)
      refine lv_iload_n X.1 X.2.1 dX7_kindFor_31 rfl (lv_at hl 0 rfl) ?_
      refine lv_if_lt (tgt := 41) X.1 X.2.1 dX7_kindFor_32 (by decide) (fun c10 => ?_) (fun c10 => ?_)
      · exact absurd c10 (by decide)
      · refine lv_aload_n X.1 X.2.1 dX7_kindFor_35 rfl (lv_at hl 1 rfl) ?_
        refine lv_iload_n X.1 X.2.1 dX7_kindFor_36 rfl (lv_at hl 0 rfl) ?_
        refine m_callVI_s X K hw (k_X7_finds l G S V (0 : Int32) (by unfold vp_in; decide)) (g_cwV X hiX7_finds q912 q914 q29 q74 q915 ⟨(Nat.le_of_ble_eq_true rfl), (Nat.le_of_ble_eq_true rfl)⟩) rfl hl.1 rfl (Nat.le_of_ble_eq_true rfl) dX7_kindFor_37 ⟨(Nat.le_of_ble_eq_true rfl), (Nat.le_of_ble_eq_true rfl)⟩ (fun z11 S12 H locs ez11 eS12 hw => ?_)
        have hR : (z11, S12) = tgt := by
          rw [← hF]
          subst ez1 ez7 ez11 eS12
          simp only [f7_kindFor, if_neg c2, if_pos c8]
        have hRR : z11 = tgt.1 := pr1 hR
        have hRS : S12 = tgt.2 := pr2 hR
        exact g_iret X hret hlk hw hRR (congrArg (fun z => (z, V)) hRS) dX7_kindFor_40
    · refine lv_iconst (v := (1 : Int32)) X.1 X.2.1 dX7_kindFor_21 (by decide) ?_
      refine lv_goto (tgt := 26) X.1 X.2.1 dX7_kindFor_22 (by decide) ?_
      refine lv_iload_n X.1 X.2.1 dX7_kindFor_26 rfl (lv_at hl 2 rfl) ?_
      refine m_callVI_p X K hw (k_X7_why l G S V (1 : Int32) a2) (g_cwV X hiX7_why q1058 q1060 q47 q74 q1061 ⟨(Nat.le_of_ble_eq_true rfl), (Nat.le_of_ble_eq_true rfl)⟩) rfl hl.1 rfl (Nat.le_of_ble_eq_true rfl) dX7_kindFor_27 ⟨(Nat.le_of_ble_eq_true rfl), (Nat.le_of_ble_eq_true rfl)⟩ (fun z13 H locs ez13 hw => ?_)
      refine lv_istore_n (lv' := [(3, .int z13), (0, .ref (mm_ad G 0)), (1, .int a1), (2, .int a2)]) X.1 X.2.1 dX7_kindFor_30 rfl hl (by decide) rfl (fun ls hl => ?_)
      refine lv_iload_n X.1 X.2.1 dX7_kindFor_31 rfl (lv_at hl 0 rfl) ?_
      refine lv_if_lt (tgt := 41) X.1 X.2.1 dX7_kindFor_32 (by decide) (fun c14 => ?_) (fun c14 => ?_)
      · refine lv_iconst (v := (-1 : Int32)) X.1 X.2.1 dX7_kindFor_41 (by decide) ?_
        refine lv_istore (lv' := [(4, .int (-1 : Int32)), (3, .int z13), (0, .ref (mm_ad G 0)), (1, .int a1), (2, .int a2)]) X.1 X.2.1 dX7_kindFor_42 hl (by decide) rfl (fun ls hl => ?_)
        refine lv_iconst (v := (0 : Int32)) X.1 X.2.1 dX7_kindFor_44 (by decide) ?_
        refine lv_istore (lv' := [(5, .int (0 : Int32)), (4, .int (-1 : Int32)), (3, .int z13), (0, .ref (mm_ad G 0)), (1, .int a1), (2, .int a2)]) X.1 X.2.1 dX7_kindFor_45 hl (by decide) rfl (fun ls hl => ?_)
        refine lv_iconst (v := (0 : Int32)) X.1 X.2.1 dX7_kindFor_47 (by decide) ?_
        refine lv_istore (lv' := [(6, .int (0 : Int32)), (5, .int (0 : Int32)), (4, .int (-1 : Int32)), (3, .int z13), (0, .ref (mm_ad G 0)), (1, .int a1), (2, .int a2)]) X.1 X.2.1 dX7_kindFor_48 hl (by decide) rfl (fun ls hl => ?_)
        have j50 : ∀ (n : Nat) (S15 : tt_St) (y4_50 : Int32) (y5_50 : Int32) (y6_50 : Int32) (H : Heap) (locs : List Loc) (ls : Array Slot), ((¬ y6_50 < 0) ∧ (S15 1 0).toInt ≤ 10) → lp_mu (7 : Int32) y6_50 < n → f7_kindFor_L50 a1 a2 n S15 y4_50 y5_50 y6_50 = tgt → m_W G S15 V s H locs → lv_has ls 9 [(0, .ref (mm_ad G 0)), (1, .int a1), (2, .int a2), (4, .int y4_50), (5, .int y5_50), (6, .int y6_50)] → W p l e (g_rm 7 155) s m ([.ref (mm_ad G 0), .int a1, .int a2] : List Value).toArray below meth c H locs 0 0 (MQ below (va_Qi (fun r T => r = tgt.1 ∧ T = (tgt.2, V)) (g_Post G 10 (mm_ad G) (mm_cell G)) (g_in 10 (mm_ad G))) ([.ref (mm_ad G 0), .int a1, .int a2] : List Value).toArray s 0 0 (g_in 10 (mm_ad G))) (F0 m 50 ls []) := by
          intro n
          induction n with
          | zero => intro S15 y4_50 y5_50 y6_50 H locs ls hI hm; exact absurd hm (Nat.not_lt_zero _)
          | succ n ih =>
            intro S15 y4_50 y5_50 y6_50 H locs ls hI hm hF hw hl
            refine lv_iload X.1 X.2.1 dX7_kindFor_50 (lv_at hl 5 rfl) ?_
            refine lv_bipush (v := (7 : Int32)) X.1 X.2.1 dX7_kindFor_52 (by decide) ?_
            refine lv_icmp_ge (tgt := 121) X.1 X.2.1 dX7_kindFor_54 (by decide) (fun c16 => ?_) (fun c16 => ?_)
            · refine lv_iload X.1 X.2.1 dX7_kindFor_121 (lv_at hl 3 rfl) ?_
              have hR : (y4_50, S15) = tgt := by
                rw [← hF]
                simp only [f7_kindFor_L50, if_pos c16]
              have hRR : y4_50 = tgt.1 := pr1 hR
              have hRS : S15 = tgt.2 := pr2 hR
              exact g_iret X hret hlk hw hRR (congrArg (fun z => (z, V)) hRS) dX7_kindFor_123
            · refine lv_aload_n X.1 X.2.1 dX7_kindFor_57 rfl (lv_at hl 0 rfl) ?_
              refine m_callVV_s X K hw (k_X7_begins l G S15 V) (g_cwV X hiX7_begins q1062 q1064 q48 q74 q1065 ⟨(Nat.le_of_ble_eq_true rfl), (Nat.le_of_ble_eq_true rfl)⟩) rfl hl.1 rfl (Nat.le_of_ble_eq_true rfl) dX7_kindFor_58 ⟨(Nat.le_of_ble_eq_true rfl), (Nat.le_of_ble_eq_true rfl)⟩ (fun S17 H locs eS17 hw => ?_)
              refine lv_aload_n X.1 X.2.1 dX7_kindFor_61 rfl (lv_at hl 0 rfl) ?_
              refine lv_iload_n X.1 X.2.1 dX7_kindFor_62 rfl (lv_at hl 1 rfl) ?_
              refine lv_iconst (v := (0 : Int32)) X.1 X.2.1 dX7_kindFor_63 (by decide) ?_
              refine lv_iload X.1 X.2.1 dX7_kindFor_64 (lv_at hl 5 rfl) ?_
              refine m_callVV_s X K hw (k_X7_becomes l G S17 V a1 (0 : Int32) y6_50 (md_in hp0.1 ez1 c2) (by unfold vp_in; decide)) (g_cwV X hiX7_becomes q921 q923 q31 q74 q924 ⟨(Nat.le_of_ble_eq_true rfl), (Nat.le_of_ble_eq_true rfl)⟩) rfl hl.1 rfl (Nat.le_of_ble_eq_true rfl) dX7_kindFor_66 ⟨(Nat.le_of_ble_eq_true rfl), (Nat.le_of_ble_eq_true rfl)⟩ (fun S18 H locs eS18 hw => ?_)
              refine lv_aload_n X.1 X.2.1 dX7_kindFor_69 rfl (lv_at hl 0 rfl) ?_
              refine lv_iload_n X.1 X.2.1 dX7_kindFor_70 rfl (lv_at hl 2 rfl) ?_
              refine m_callVI_s X K hw (k_X7_goesOn l G S18 V a2 (by subst eS17 eS18; exact be_sz2 hI.2 (md_in hp0.1 ez1 c2) (by unfold vp_in; decide))) (g_cwV X hiX7_goesOn q981 q983 q36 q74 q984 ⟨(Nat.le_of_ble_eq_true rfl), (Nat.le_of_ble_eq_true rfl)⟩) rfl hl.1 rfl (Nat.le_of_ble_eq_true rfl) dX7_kindFor_71 ⟨(Nat.le_of_ble_eq_true rfl), (Nat.le_of_ble_eq_true rfl)⟩ (fun z19 S20 H locs ez19 eS20 hw => ?_)
              refine lv_istore (lv' := [(7, .int z19), (0, .ref (mm_ad G 0)), (1, .int a1), (2, .int a2), (4, .int y4_50), (5, .int y5_50), (6, .int y6_50)]) X.1 X.2.1 dX7_kindFor_74 hl (by decide) rfl (fun ls hl => ?_)
              refine lv_aload_n X.1 X.2.1 dX7_kindFor_76 rfl (lv_at hl 1 rfl) ?_
              refine lv_iload_n X.1 X.2.1 dX7_kindFor_77 rfl (lv_at hl 2 rfl) ?_
              refine lv_iconst (v := (2 : Int32)) X.1 X.2.1 dX7_kindFor_78 (by decide) ?_
              refine m_callVI_p X K hw (k_X7_its l G S20 V a1 (2 : Int32) (md_in hp0.1 ez1 c2) (by unfold vp_in; decide)) (g_cwV X hiX7_its q933 q935 q33 q74 q936 ⟨(Nat.le_of_ble_eq_true rfl), (Nat.le_of_ble_eq_true rfl)⟩) rfl hl.1 rfl (Nat.le_of_ble_eq_true rfl) dX7_kindFor_79 ⟨(Nat.le_of_ble_eq_true rfl), (Nat.le_of_ble_eq_true rfl)⟩ (fun z21 H locs ez21 hw => ?_)
              refine lv_aload_n X.1 X.2.1 dX7_kindFor_82 rfl (lv_at hl 1 rfl) ?_
              refine lv_iload_n X.1 X.2.1 dX7_kindFor_83 rfl (lv_at hl 2 rfl) ?_
              refine lv_iconst (v := (4 : Int32)) X.1 X.2.1 dX7_kindFor_84 (by decide) ?_
              refine m_callVI_p X K hw (k_X7_its l G S20 V a1 (4 : Int32) (md_in hp0.1 ez1 c2) (by unfold vp_in; decide)) (g_cwV X hiX7_its q933 q935 q33 q74 q936 ⟨(Nat.le_of_ble_eq_true rfl), (Nat.le_of_ble_eq_true rfl)⟩) rfl hl.1 rfl (Nat.le_of_ble_eq_true rfl) dX7_kindFor_85 ⟨(Nat.le_of_ble_eq_true rfl), (Nat.le_of_ble_eq_true rfl)⟩ (fun z22 H locs ez22 hw => ?_)
              refine lv_isub X.1 X.2.1 dX7_kindFor_88 ?_
              refine lv_topi (fun x23 ex23 => ?_)
              refine lv_istore (lv' := [(8, .int x23), (7, .int z19), (0, .ref (mm_ad G 0)), (1, .int a1), (2, .int a2), (4, .int y4_50), (5, .int y5_50), (6, .int y6_50)]) X.1 X.2.1 dX7_kindFor_89 hl (by decide) rfl (fun ls hl => ?_)
              refine lv_aload_n X.1 X.2.1 dX7_kindFor_91 rfl (lv_at hl 2 rfl) ?_
              refine m_callVV_s X K hw (k_X7_ends l G S20 V) (g_cwV X hiX7_ends q1069 q1071 q49 q74 q1072 ⟨(Nat.le_of_ble_eq_true rfl), (Nat.le_of_ble_eq_true rfl)⟩) rfl hl.1 rfl (Nat.le_of_ble_eq_true rfl) dX7_kindFor_92 ⟨(Nat.le_of_ble_eq_true rfl), (Nat.le_of_ble_eq_true rfl)⟩ (fun S24 H locs eS24 hw => ?_)
              refine lv_iload X.1 X.2.1 dX7_kindFor_95 (lv_at hl 5 rfl) ?_
              refine lv_if_lt (tgt := 107) X.1 X.2.1 dX7_kindFor_97 (by decide) (fun c25 => ?_) (fun c25 => ?_)
              · refine lv_iload X.1 X.2.1 dX7_kindFor_107 (lv_at hl 7 rfl) ?_
                refine lv_istore (lv' := [(4, .int y6_50), (8, .int x23), (7, .int z19), (0, .ref (mm_ad G 0)), (1, .int a1), (2, .int a2), (5, .int y5_50), (6, .int y6_50)]) X.1 X.2.1 dX7_kindFor_109 hl (by decide) rfl (fun ls hl => ?_)
                refine lv_iload X.1 X.2.1 dX7_kindFor_111 (lv_at hl 1 rfl) ?_
                refine lv_istore (lv' := [(5, .int x23), (4, .int y6_50), (8, .int x23), (7, .int z19), (0, .ref (mm_ad G 0)), (1, .int a1), (2, .int a2), (6, .int y6_50)]) X.1 X.2.1 dX7_kindFor_113 hl (by decide) rfl (fun ls hl => ?_)
                obtain ⟨x26, ex26⟩ : ∃ y : Int32, y = y6_50 + (1 : Int32) := ⟨_, rfl⟩
                refine lv_iinc (v := x26) (lv' := [(6, .int x26), (5, .int x23), (4, .int y6_50), (8, .int x23), (7, .int z19), (0, .ref (mm_ad G 0)), (1, .int a1), (2, .int a2)]) X.1 X.2.1 dX7_kindFor_115 hl (k := 7) rfl (by rw [ex26]; rfl) (by decide) rfl (fun ls hl => ?_)
                refine lv_goto (tgt := 50) X.1 X.2.1 dX7_kindFor_118 (by decide) ?_
                have hF2 : f7_kindFor_L50 a1 a2 n S24 y6_50 x23 x26 = tgt := by
                  rw [← hF]
                  subst eS17 eS18 ez19 eS20 ez21 ez22 ex23 eS24 ex26
                  simp only [f7_kindFor_L50, if_neg c16, if_pos c25]
                exact ih S24 y6_50 x23 x26 _ _ ls (⟨by rw [ex26]; exact lp_nn hI.1 c16, by rw [show S24 1 0 = S15 1 0 from by subst eS17 eS18 ez19 eS20 ez21 ez22 ex23 eS24 ex26; exact be_sz (kf_2 hI.2 (md_in hp0.1 ez1 c2) (by unfold vp_in; decide))]; exact hI.2⟩) (by rw [ex26]; exact lp_dec' c16 hm) hF2 hw (lv_sub hl [5, 6, 7, 2, 1, 0] rfl)
              · refine lv_iload X.1 X.2.1 dX7_kindFor_100 (lv_at hl 0 rfl) ?_
                refine lv_iload X.1 X.2.1 dX7_kindFor_102 (lv_at hl 6 rfl) ?_
                refine lv_icmp_le (tgt := 115) X.1 X.2.1 dX7_kindFor_104 (by decide) (fun c27 => ?_) (fun c27 => ?_)
                · obtain ⟨x28, ex28⟩ : ∃ y : Int32, y = y6_50 + (1 : Int32) := ⟨_, rfl⟩
                  refine lv_iinc (v := x28) (lv' := [(6, .int x28), (8, .int x23), (7, .int z19), (0, .ref (mm_ad G 0)), (1, .int a1), (2, .int a2), (4, .int y4_50), (5, .int y5_50)]) X.1 X.2.1 dX7_kindFor_115 hl (k := 7) rfl (by rw [ex28]; rfl) (by decide) rfl (fun ls hl => ?_)
                  refine lv_goto (tgt := 50) X.1 X.2.1 dX7_kindFor_118 (by decide) ?_
                  have hF2 : f7_kindFor_L50 a1 a2 n S24 y4_50 y5_50 x28 = tgt := by
                    rw [← hF]
                    subst eS17 eS18 ez19 eS20 ez21 ez22 ex23 eS24 ex28
                    simp only [f7_kindFor_L50, if_neg c16, if_neg c25, if_pos c27]
                  exact ih S24 y4_50 y5_50 x28 _ _ ls (⟨by rw [ex28]; exact lp_nn hI.1 c16, by rw [show S24 1 0 = S15 1 0 from by subst eS17 eS18 ez19 eS20 ez21 ez22 ex23 eS24 ex28; exact be_sz (kf_2 hI.2 (md_in hp0.1 ez1 c2) (by unfold vp_in; decide))]; exact hI.2⟩) (by rw [ex28]; exact lp_dec' c16 hm) hF2 hw (lv_sub hl [3, 4, 5, 6, 7, 0] rfl)
                · refine lv_iload X.1 X.2.1 dX7_kindFor_107 (lv_at hl 7 rfl) ?_
                  refine lv_istore (lv' := [(4, .int y6_50), (8, .int x23), (7, .int z19), (0, .ref (mm_ad G 0)), (1, .int a1), (2, .int a2), (5, .int y5_50), (6, .int y6_50)]) X.1 X.2.1 dX7_kindFor_109 hl (by decide) rfl (fun ls hl => ?_)
                  refine lv_iload X.1 X.2.1 dX7_kindFor_111 (lv_at hl 1 rfl) ?_
                  refine lv_istore (lv' := [(5, .int x23), (4, .int y6_50), (8, .int x23), (7, .int z19), (0, .ref (mm_ad G 0)), (1, .int a1), (2, .int a2), (6, .int y6_50)]) X.1 X.2.1 dX7_kindFor_113 hl (by decide) rfl (fun ls hl => ?_)
                  obtain ⟨x29, ex29⟩ : ∃ y : Int32, y = y6_50 + (1 : Int32) := ⟨_, rfl⟩
                  refine lv_iinc (v := x29) (lv' := [(6, .int x29), (5, .int x23), (4, .int y6_50), (8, .int x23), (7, .int z19), (0, .ref (mm_ad G 0)), (1, .int a1), (2, .int a2)]) X.1 X.2.1 dX7_kindFor_115 hl (k := 7) rfl (by rw [ex29]; rfl) (by decide) rfl (fun ls hl => ?_)
                  refine lv_goto (tgt := 50) X.1 X.2.1 dX7_kindFor_118 (by decide) ?_
                  have hF2 : f7_kindFor_L50 a1 a2 n S24 y6_50 x23 x29 = tgt := by
                    rw [← hF]
                    subst eS17 eS18 ez19 eS20 ez21 ez22 ex23 eS24 ex29
                    simp only [f7_kindFor_L50, if_neg c16, if_neg c25, if_neg c27]
                  exact ih S24 y6_50 x23 x29 _ _ ls (⟨by rw [ex29]; exact lp_nn hI.1 c16, by rw [show S24 1 0 = S15 1 0 from by subst eS17 eS18 ez19 eS20 ez21 ez22 ex23 eS24 ex29; exact be_sz (kf_2 hI.2 (md_in hp0.1 ez1 c2) (by unfold vp_in; decide))]; exact hI.2⟩) (by rw [ex29]; exact lp_dec' c16 hm) hF2 hw (lv_sub hl [5, 6, 7, 2, 1, 0] rfl)
        have hF2 : f7_kindFor_L50 a1 a2 (lp_mu (7 : Int32) (0 : Int32) + 1) S (-1 : Int32) (0 : Int32) (0 : Int32) = tgt := by
          rw [← hF]
          subst ez1 ez7 ez13
          simp only [f7_kindFor, if_neg c2, if_neg c8, if_pos c14]
        exact j50 (lp_mu (7 : Int32) (0 : Int32) + 1) S (-1 : Int32) (0 : Int32) (0 : Int32) _ _ ls (⟨by decide, hp0.1.2⟩) (Nat.lt_succ_self _) hF2 hw (lv_sub hl [4, 5, 6, 2, 1, 0] rfl)
      · refine lv_aload_n X.1 X.2.1 dX7_kindFor_35 rfl (lv_at hl 1 rfl) ?_
        refine lv_iload_n X.1 X.2.1 dX7_kindFor_36 rfl (lv_at hl 0 rfl) ?_
        refine m_callVI_s X K hw (k_X7_finds l G S V z13 (why_in ez13 c14)) (g_cwV X hiX7_finds q912 q914 q29 q74 q915 ⟨(Nat.le_of_ble_eq_true rfl), (Nat.le_of_ble_eq_true rfl)⟩) rfl hl.1 rfl (Nat.le_of_ble_eq_true rfl) dX7_kindFor_37 ⟨(Nat.le_of_ble_eq_true rfl), (Nat.le_of_ble_eq_true rfl)⟩ (fun z30 S31 H locs ez30 eS31 hw => ?_)
        have hR : (z30, S31) = tgt := by
          rw [← hF]
          subst ez1 ez7 ez13 ez30 eS31
          simp only [f7_kindFor, if_neg c2, if_neg c8, if_neg c14]
        have hRR : z30 = tgt.1 := pr1 hR
        have hRS : S31 = tgt.2 := pr2 hR
        exact g_iret X hret hlk hw hRR (congrArg (fun z => (z, V)) hRS) dX7_kindFor_40
set_option maxHeartbeats 4000000 in
set_option maxRecDepth 10000 in
theorem k_X7_told (l : Launch) (G : tt_G) (S : tt_St) (V : Int64) (a1 : Int32) (a2 : Int32) (hp0 : mi S) : m_MI l G yX7_told (g_code yX7_told cX7_told 5 (some FieldType.int)) 8 179 [.ref (mm_ad G 0), .int a1, .int a2] S V ((f7_told S a1 a2).1) ((f7_told S a1 a2).2) V := by
  generalize hF : f7_told S a1 a2 = tgt
  refine g_begin rfl (Nat.le_of_ble_eq_true rfl) _ (fun p e s m below meth c ls X hret hlk hB hl => ?_)
  obtain ⟨hP0, K⟩ := hB
  have hw : m_W G S V s s.heap [] := ⟨hP0, va_S.rf⟩
  have X : CallFix p m c cX7_told 5 s ([.ref (mm_ad G 0), .int a1, .int a2] : List Value).toArray tt_T "TrustTinModel" := X
  have hl : lv_has ls 5 [(0, .ref (mm_ad G 0)), (1, .int a1), (2, .int a2)] := hl
  refine lv_aload_n X.1 X.2.1 dX7_told_0 rfl (lv_at hl 0 rfl) ?_
  refine lv_aload_n X.1 X.2.1 dX7_told_1 rfl (lv_at hl 0 rfl) ?_
  refine lv_iload_n X.1 X.2.1 dX7_told_2 rfl (lv_at hl 1 rfl) ?_
  refine m_callVI_p X K hw (k_X7_isDrinker l G S V a1) (g_cwV X hiX7_isDrinker q929 q931 q32 q74 q932 ⟨(Nat.le_of_ble_eq_true rfl), (Nat.le_of_ble_eq_true rfl)⟩) rfl hl.1 rfl (Nat.le_of_ble_eq_true rfl) dX7_told_3 ⟨(Nat.le_of_ble_eq_true rfl), (Nat.le_of_ble_eq_true rfl)⟩ (fun z1 H locs ez1 hw => ?_)
  refine lv_if_eq (tgt := 25) X.1 X.2.1 dX7_told_6 (by decide) (fun c2 => ?_) (fun c2 => ?_)
  · refine lv_iconst (v := (0 : Int32)) X.1 X.2.1 dX7_told_25 (by decide) ?_
    refine lv_iload_n X.1 X.2.1 dX7_told_26 rfl (lv_at hl 2 rfl) ?_
    refine m_callVI_p X K hw (k_X7_why l G S V (0 : Int32) a2) (g_cwV X hiX7_why q1058 q1060 q47 q74 q1061 ⟨(Nat.le_of_ble_eq_true rfl), (Nat.le_of_ble_eq_true rfl)⟩) rfl hl.1 rfl (Nat.le_of_ble_eq_true rfl) dX7_told_27 ⟨(Nat.le_of_ble_eq_true rfl), (Nat.le_of_ble_eq_true rfl)⟩ (fun z3 H locs ez3 hw => ?_)
    obtain rfl : z3 = (0 : Int32) := ez3.trans (why_0 _ _)
    refine lv_istore_n (lv' := [(3, .int (0 : Int32)), (0, .ref (mm_ad G 0)), (1, .int a1), (2, .int a2)]) X.1 X.2.1 dX7_told_30 rfl hl (by decide) rfl (fun ls hl => ?_)
    refine lv_iload_n X.1 X.2.1 dX7_told_31 rfl (lv_at hl 0 rfl) ?_
    refine lv_if_lt (tgt := 41) X.1 X.2.1 dX7_told_32 (by decide) (fun c4 => ?_) (fun c4 => ?_)
    · exact absurd c4 (by decide)
    · refine lv_aload_n X.1 X.2.1 dX7_told_35 rfl (lv_at hl 1 rfl) ?_
      refine lv_iload_n X.1 X.2.1 dX7_told_36 rfl (lv_at hl 0 rfl) ?_
      refine m_callVI_s X K hw (k_X7_finds l G S V (0 : Int32) (by unfold vp_in; decide)) (g_cwV X hiX7_finds q912 q914 q29 q74 q915 ⟨(Nat.le_of_ble_eq_true rfl), (Nat.le_of_ble_eq_true rfl)⟩) rfl hl.1 rfl (Nat.le_of_ble_eq_true rfl) dX7_told_37 ⟨(Nat.le_of_ble_eq_true rfl), (Nat.le_of_ble_eq_true rfl)⟩ (fun z5 S6 H locs ez5 eS6 hw => ?_)
      have hR : (z5, S6) = tgt := by
        rw [← hF]
        subst ez1 ez5 eS6
        simp only [f7_told, if_pos c2]
      have hRR : z5 = tgt.1 := pr1 hR
      have hRS : S6 = tgt.2 := pr2 hR
      exact g_iret X hret hlk hw hRR (congrArg (fun z => (z, V)) hRS) dX7_told_40
  · refine lv_iload_n X.1 X.2.1 dX7_told_9 rfl (lv_at hl 2 rfl) ?_
    refine lv_i2l X.1 X.2.1 dX7_told_10 rfl ?_
    refine lv_lconst (v := (1 : Int64)) X.1 X.2.1 dX7_told_11 (by decide) ?_
    refine lv_ldc2 (v := (50 : Int64)) X.1 X.2.1 X.2.2.2.1 (X.2.2.2.2 _ q976) dX7_told_12 ?_
    refine m_callSI_p X K hw (k_X7_in l G S V a2.toInt64 (1 : Int64) (50 : Int64)) (g_cwS X hiX7_in q908 q909 q74 q910 ⟨(Nat.le_of_ble_eq_true rfl), (Nat.le_of_ble_eq_true rfl)⟩) rfl hl.1 rfl (Nat.le_of_ble_eq_true rfl) dX7_told_15 ⟨(Nat.le_of_ble_eq_true rfl), (Nat.le_of_ble_eq_true rfl)⟩ (fun z7 H locs ez7 hw => ?_)
    refine lv_if_eq (tgt := 25) X.1 X.2.1 dX7_told_18 (by decide) (fun c8 => ?_) (fun c8 => ?_)
    · refine lv_iconst (v := (0 : Int32)) X.1 X.2.1 dX7_told_25 (by decide) ?_
      refine lv_iload_n X.1 X.2.1 dX7_told_26 rfl (lv_at hl 2 rfl) ?_
      refine m_callVI_p X K hw (k_X7_why l G S V (0 : Int32) a2) (g_cwV X hiX7_why q1058 q1060 q47 q74 q1061 ⟨(Nat.le_of_ble_eq_true rfl), (Nat.le_of_ble_eq_true rfl)⟩) rfl hl.1 rfl (Nat.le_of_ble_eq_true rfl) dX7_told_27 ⟨(Nat.le_of_ble_eq_true rfl), (Nat.le_of_ble_eq_true rfl)⟩ (fun z9 H locs ez9 hw => ?_)
      obtain rfl : z9 = (0 : Int32) := ez9.trans (why_0 _ _)
      refine lv_istore_n (lv' := [(3, .int (0 : Int32)), (0, .ref (mm_ad G 0)), (1, .int a1), (2, .int a2)]) X.1 X.2.1 dX7_told_30 rfl hl (by decide) rfl (fun ls hl => ?_)
      refine lv_iload_n X.1 X.2.1 dX7_told_31 rfl (lv_at hl 0 rfl) ?_
      refine lv_if_lt (tgt := 41) X.1 X.2.1 dX7_told_32 (by decide) (fun c10 => ?_) (fun c10 => ?_)
      · exact absurd c10 (by decide)
      · refine lv_aload_n X.1 X.2.1 dX7_told_35 rfl (lv_at hl 1 rfl) ?_
        refine lv_iload_n X.1 X.2.1 dX7_told_36 rfl (lv_at hl 0 rfl) ?_
        refine m_callVI_s X K hw (k_X7_finds l G S V (0 : Int32) (by unfold vp_in; decide)) (g_cwV X hiX7_finds q912 q914 q29 q74 q915 ⟨(Nat.le_of_ble_eq_true rfl), (Nat.le_of_ble_eq_true rfl)⟩) rfl hl.1 rfl (Nat.le_of_ble_eq_true rfl) dX7_told_37 ⟨(Nat.le_of_ble_eq_true rfl), (Nat.le_of_ble_eq_true rfl)⟩ (fun z11 S12 H locs ez11 eS12 hw => ?_)
        have hR : (z11, S12) = tgt := by
          rw [← hF]
          subst ez1 ez7 ez11 eS12
          simp only [f7_told, if_neg c2, if_pos c8]
        have hRR : z11 = tgt.1 := pr1 hR
        have hRS : S12 = tgt.2 := pr2 hR
        exact g_iret X hret hlk hw hRR (congrArg (fun z => (z, V)) hRS) dX7_told_40
    · refine lv_iconst (v := (1 : Int32)) X.1 X.2.1 dX7_told_21 (by decide) ?_
      refine lv_goto (tgt := 26) X.1 X.2.1 dX7_told_22 (by decide) ?_
      refine lv_iload_n X.1 X.2.1 dX7_told_26 rfl (lv_at hl 2 rfl) ?_
      refine m_callVI_p X K hw (k_X7_why l G S V (1 : Int32) a2) (g_cwV X hiX7_why q1058 q1060 q47 q74 q1061 ⟨(Nat.le_of_ble_eq_true rfl), (Nat.le_of_ble_eq_true rfl)⟩) rfl hl.1 rfl (Nat.le_of_ble_eq_true rfl) dX7_told_27 ⟨(Nat.le_of_ble_eq_true rfl), (Nat.le_of_ble_eq_true rfl)⟩ (fun z13 H locs ez13 hw => ?_)
      refine lv_istore_n (lv' := [(3, .int z13), (0, .ref (mm_ad G 0)), (1, .int a1), (2, .int a2)]) X.1 X.2.1 dX7_told_30 rfl hl (by decide) rfl (fun ls hl => ?_)
      refine lv_iload_n X.1 X.2.1 dX7_told_31 rfl (lv_at hl 0 rfl) ?_
      refine lv_if_lt (tgt := 41) X.1 X.2.1 dX7_told_32 (by decide) (fun c14 => ?_) (fun c14 => ?_)
      · refine lv_bipush (v := (12 : Int32)) X.1 X.2.1 dX7_told_41 (by decide) ?_
        refine lv_bipush (v := (7 : Int32)) X.1 X.2.1 dX7_told_43 (by decide) ?_
        refine lv_iload_n X.1 X.2.1 dX7_told_45 rfl (lv_at hl 2 rfl) ?_
        refine lv_imul X.1 X.2.1 dX7_told_46 ?_
        refine lv_iadd X.1 X.2.1 dX7_told_47 ?_
        refine lv_iconst (v := (0 : Int32)) X.1 X.2.1 dX7_told_48 (by decide) ?_
        refine lv_iadd X.1 X.2.1 dX7_told_49 ?_
        refine lv_topi (fun x15 ex15 => ?_)
        refine lv_istore (lv' := [(4, .int x15), (3, .int z13), (0, .ref (mm_ad G 0)), (1, .int a1), (2, .int a2)]) X.1 X.2.1 dX7_told_50 hl (by decide) rfl (fun ls hl => ?_)
        refine lv_aload_n X.1 X.2.1 dX7_told_52 rfl (lv_at hl 2 rfl) ?_
        refine lv_iload X.1 X.2.1 dX7_told_53 (lv_at hl 0 rfl) ?_
        refine lv_iconst (v := (0 : Int32)) X.1 X.2.1 dX7_told_55 (by decide) ?_
        refine lv_iload_n X.1 X.2.1 dX7_told_56 rfl (lv_at hl 4 rfl) ?_
        refine m_callVI_s X K hw (k_X7_comesWith l G S V x15 (0 : Int32) a2 hp0.1.2 (by rw [ex15]; exact mi_in (md_in hp0.1 ez1 c2) (by unfold vp_in; decide)) (by rw [ex15, mi_ix (md_in hp0.1 ez1 c2) (by unfold vp_in; decide)]; omega)) (g_cwV X hiX7_comesWith q1095 q1097 q52 q74 q1098 ⟨(Nat.le_of_ble_eq_true rfl), (Nat.le_of_ble_eq_true rfl)⟩) rfl hl.1 rfl (Nat.le_of_ble_eq_true rfl) dX7_told_57 ⟨(Nat.le_of_ble_eq_true rfl), (Nat.le_of_ble_eq_true rfl)⟩ (fun z16 S17 H locs ez16 eS17 hw => ?_)
        refine lv_aload_n X.1 X.2.1 dX7_told_60 rfl (lv_at hl 2 rfl) ?_
        refine lv_iload X.1 X.2.1 dX7_told_61 (lv_at hl 0 rfl) ?_
        refine lv_aload_n X.1 X.2.1 dX7_told_63 rfl (lv_at hl 2 rfl) ?_
        refine m_get X K hw 0 (by decide) q836 rfl dX7_told_64 ?_
        refine lv_iload X.1 X.2.1 dX7_told_67 (lv_at hl 0 rfl) ?_
        have hi18 : vp_in x15 132 := by rw [ex15]; exact mi_in (md_in hp0.1 ez1 c2) (by unfold vp_in; decide)
        refine g_iald X K hw (by decide) mm_e1 hi18 dX7_told_69 ?_
        refine lv_iload_n X.1 X.2.1 dX7_told_70 rfl (lv_at hl 4 rfl) ?_
        refine m_callVI_s X K hw (k_X7_comesWith l G S17 V x15 (S17 1 x15.toNatClampNeg) a2 (by rw [show S17 1 0 = S 1 0 from by rw [eS17]; exact cw_sz hp0.1.2 (by rw [ex15, mi_ix (md_in hp0.1 ez1 c2) (by unfold vp_in; decide)]; omega)]; exact hp0.1.2) (by rw [ex15]; exact mi_in (md_in hp0.1 ez1 c2) (by unfold vp_in; decide)) (by rw [ex15, mi_ix (md_in hp0.1 ez1 c2) (by unfold vp_in; decide)]; omega)) (g_cwV X hiX7_comesWith q1095 q1097 q52 q74 q1098 ⟨(Nat.le_of_ble_eq_true rfl), (Nat.le_of_ble_eq_true rfl)⟩) rfl hl.1 rfl (Nat.le_of_ble_eq_true rfl) dX7_told_71 ⟨(Nat.le_of_ble_eq_true rfl), (Nat.le_of_ble_eq_true rfl)⟩ (fun z19 S20 H locs ez19 eS20 hw => ?_)
        refine lv_isub X.1 X.2.1 dX7_told_74 ?_
        have hR : (z16 - z19, S20) = tgt := by
          rw [← hF]
          subst ez1 ez7 ez13 ex15 ez16 eS17 ez19 eS20
          simp only [f7_told, if_neg c2, if_neg c8, if_pos c14]
        have hRR : z16 - z19 = tgt.1 := pr1 hR
        have hRS : S20 = tgt.2 := pr2 hR
        exact g_iret X hret hlk hw hRR (congrArg (fun z => (z, V)) hRS) dX7_told_75
      · refine lv_aload_n X.1 X.2.1 dX7_told_35 rfl (lv_at hl 1 rfl) ?_
        refine lv_iload_n X.1 X.2.1 dX7_told_36 rfl (lv_at hl 0 rfl) ?_
        refine m_callVI_s X K hw (k_X7_finds l G S V z13 (why_in ez13 c14)) (g_cwV X hiX7_finds q912 q914 q29 q74 q915 ⟨(Nat.le_of_ble_eq_true rfl), (Nat.le_of_ble_eq_true rfl)⟩) rfl hl.1 rfl (Nat.le_of_ble_eq_true rfl) dX7_told_37 ⟨(Nat.le_of_ble_eq_true rfl), (Nat.le_of_ble_eq_true rfl)⟩ (fun z21 S22 H locs ez21 eS22 hw => ?_)
        have hR : (z21, S22) = tgt := by
          rw [← hF]
          subst ez1 ez7 ez13 ez21 eS22
          simp only [f7_told, if_neg c2, if_neg c8, if_neg c14]
        have hRR : z21 = tgt.1 := pr1 hR
        have hRS : S22 = tgt.2 := pr2 hR
        exact g_iret X hret hlk hw hRR (congrArg (fun z => (z, V)) hRS) dX7_told_40
set_option maxHeartbeats 4000000 in
set_option maxRecDepth 10000 in
theorem k_X7_strokes (l : Launch) (G : tt_G) (S : tt_St) (V : Int64) (hp0 : mi S) : m_MI l G yX7_strokes (g_code yX7_strokes cX7_strokes 4 (some FieldType.int)) 2 45 [.ref (mm_ad G 0)] S V ((f7_strokes S).1) ((f7_strokes S).2) V := by
  generalize hF : f7_strokes S = tgt
  refine g_begin rfl (Nat.le_of_ble_eq_true rfl) _ (fun p e s m below meth c ls X hret hlk hB hl => ?_)
  obtain ⟨hP0, K⟩ := hB
  have hw : m_W G S V s s.heap [] := ⟨hP0, va_S.rf⟩
  have X : CallFix p m c cX7_strokes 4 s ([.ref (mm_ad G 0)] : List Value).toArray tt_T "TrustTinModel" := X
  have hl : lv_has ls 4 [(0, .ref (mm_ad G 0))] := hl
  refine lv_iconst (v := (0 : Int32)) X.1 X.2.1 dX7_strokes_0 (by decide) ?_
  refine lv_istore_n (lv' := [(1, .int (0 : Int32)), (0, .ref (mm_ad G 0))]) X.1 X.2.1 dX7_strokes_1 rfl hl (by decide) rfl (fun ls hl => ?_)
  refine lv_aload_n X.1 X.2.1 dX7_strokes_2 rfl (lv_at hl 1 rfl) ?_
  refine lv_iconst (v := (5 : Int32)) X.1 X.2.1 dX7_strokes_3 (by decide) ?_
  refine m_callVI_p X K hw (k_X7_sumOf l G S V (5 : Int32) hp0.1.2 (by unfold vp_in; decide)) (g_cwV X hiX7_sumOf q968 q970 q34 q74 q971 ⟨(Nat.le_of_ble_eq_true rfl), (Nat.le_of_ble_eq_true rfl)⟩) rfl hl.1 rfl (Nat.le_of_ble_eq_true rfl) dX7_strokes_4 ⟨(Nat.le_of_ble_eq_true rfl), (Nat.le_of_ble_eq_true rfl)⟩ (fun z1 H locs ez1 hw => ?_)
  refine lv_istore_n (lv' := [(2, .int z1), (1, .int (0 : Int32)), (0, .ref (mm_ad G 0))]) X.1 X.2.1 dX7_strokes_7 rfl hl (by decide) rfl (fun ls hl => ?_)
  have j8 : ∀ (n : Nat) (S2 : tt_St) (y1_8 : Int32) (y2_8 : Int32) (H : Heap) (locs : List Loc) (ls : Array Slot), (True) → y2_8.toNatClampNeg < n → f7_strokes_L8 n S2 y1_8 y2_8 = tgt → m_W G S2 V s H locs → lv_has ls 4 [(0, .ref (mm_ad G 0)), (1, .int y1_8), (2, .int y2_8)] → W p l e (g_rm 2 45) s m ([.ref (mm_ad G 0)] : List Value).toArray below meth c H locs 0 0 (MQ below (va_Qi (fun r T => r = tgt.1 ∧ T = (tgt.2, V)) (g_Post G 10 (mm_ad G) (mm_cell G)) (g_in 10 (mm_ad G))) ([.ref (mm_ad G 0)] : List Value).toArray s 0 0 (g_in 10 (mm_ad G))) (F0 m 8 ls []) := by
    intro n
    induction n with
    | zero => intro S2 y1_8 y2_8 H locs ls hI hm; exact absurd hm (Nat.not_lt_zero _)
    | succ n ih =>
      intro S2 y1_8 y2_8 H locs ls hI hm hF hw hl
      refine lv_iload_n X.1 X.2.1 dX7_strokes_8 rfl (lv_at hl 2 rfl) ?_
      refine lv_if_le (tgt := 47) X.1 X.2.1 dX7_strokes_9 (by decide) (fun c3 => ?_) (fun c3 => ?_)
      · refine lv_iload_n X.1 X.2.1 dX7_strokes_47 rfl (lv_at hl 1 rfl) ?_
        have hR : (y1_8, S2) = tgt := by
          rw [← hF]
          simp only [f7_strokes_L8, if_pos c3]
        have hRR : y1_8 = tgt.1 := pr1 hR
        have hRS : S2 = tgt.2 := pr2 hR
        exact g_iret X hret hlk hw hRR (congrArg (fun z => (z, V)) hRS) dX7_strokes_48
      · refine lv_aload_n X.1 X.2.1 dX7_strokes_12 rfl (lv_at hl 0 rfl) ?_
        refine m_callVI_s X K hw (k_X7_drawn l G S2 V) (g_cwV X hiX7_drawn q997 q999 q40 q74 q1000 ⟨(Nat.le_of_ble_eq_true rfl), (Nat.le_of_ble_eq_true rfl)⟩) rfl hl.1 rfl (Nat.le_of_ble_eq_true rfl) dX7_strokes_13 ⟨(Nat.le_of_ble_eq_true rfl), (Nat.le_of_ble_eq_true rfl)⟩ (fun z4 S5 H locs ez4 eS5 hw => ?_)
        refine lv_bipush (v := (10 : Int32)) X.1 X.2.1 dX7_strokes_16 (by decide) ?_
        refine lv_irem X.1 X.2.1 dX7_strokes_18 (by decide) ?_
        refine lv_topi (fun x6 ex6 => ?_)
        refine lv_istore_n (lv' := [(3, .int x6), (0, .ref (mm_ad G 0)), (1, .int y1_8), (2, .int y2_8)]) X.1 X.2.1 dX7_strokes_19 rfl hl (by decide) rfl (fun ls hl => ?_)
        refine lv_iload_n X.1 X.2.1 dX7_strokes_20 rfl (lv_at hl 2 rfl) ?_
        refine lv_iload_n X.1 X.2.1 dX7_strokes_21 rfl (lv_at hl 0 rfl) ?_
        refine lv_if_ne (tgt := 29) X.1 X.2.1 dX7_strokes_22 (by decide) (fun c7 => ?_) (fun c7 => ?_)
        · refine lv_iload_n X.1 X.2.1 dX7_strokes_29 rfl (lv_at hl 0 rfl) ?_
          refine lv_iconst (v := (1 : Int32)) X.1 X.2.1 dX7_strokes_30 (by decide) ?_
          refine lv_icmp_ne (tgt := 38) X.1 X.2.1 dX7_strokes_31 (by decide) (fun c8 => ?_) (fun c8 => ?_)
          · refine lv_iconst (v := (1 : Int32)) X.1 X.2.1 dX7_strokes_38 (by decide) ?_
            refine lv_iadd X.1 X.2.1 dX7_strokes_39 ?_
            refine lv_topi (fun x9 ex9 => ?_)
            refine lv_istore_n (lv' := [(1, .int x9), (3, .int x6), (0, .ref (mm_ad G 0)), (2, .int y2_8)]) X.1 X.2.1 dX7_strokes_40 rfl hl (by decide) rfl (fun ls hl => ?_)
            obtain ⟨x10, ex10⟩ : ∃ y : Int32, y = y2_8 + (-1 : Int32) := ⟨_, rfl⟩
            refine lv_iinc (v := x10) (lv' := [(2, .int x10), (1, .int x9), (3, .int x6), (0, .ref (mm_ad G 0))]) X.1 X.2.1 dX7_strokes_41 hl (k := 3) rfl (by rw [ex10]; rfl) (by decide) rfl (fun ls hl => ?_)
            refine lv_goto (tgt := 8) X.1 X.2.1 dX7_strokes_44 (by decide) ?_
            have hF2 : f7_strokes_L8 n S5 x9 x10 = tgt := by
              rw [← hF]
              subst ez4 eS5 ex6 ex9 ex10
              simp only [f7_strokes_L8, if_neg c3, if_neg c7, if_neg c8]
            exact ih S5 x9 x10 _ _ ls (trivial) (by rw [ex10]; exact dn_mu c3 hm) hF2 hw (lv_sub hl [3, 1, 0] rfl)
          · refine lv_iconst (v := (2 : Int32)) X.1 X.2.1 dX7_strokes_34 (by decide) ?_
            refine lv_goto (tgt := 39) X.1 X.2.1 dX7_strokes_35 (by decide) ?_
            refine lv_iadd X.1 X.2.1 dX7_strokes_39 ?_
            refine lv_topi (fun x11 ex11 => ?_)
            refine lv_istore_n (lv' := [(1, .int x11), (3, .int x6), (0, .ref (mm_ad G 0)), (2, .int y2_8)]) X.1 X.2.1 dX7_strokes_40 rfl hl (by decide) rfl (fun ls hl => ?_)
            obtain ⟨x12, ex12⟩ : ∃ y : Int32, y = y2_8 + (-1 : Int32) := ⟨_, rfl⟩
            refine lv_iinc (v := x12) (lv' := [(2, .int x12), (1, .int x11), (3, .int x6), (0, .ref (mm_ad G 0))]) X.1 X.2.1 dX7_strokes_41 hl (k := 3) rfl (by rw [ex12]; rfl) (by decide) rfl (fun ls hl => ?_)
            refine lv_goto (tgt := 8) X.1 X.2.1 dX7_strokes_44 (by decide) ?_
            have hF2 : f7_strokes_L8 n S5 x11 x12 = tgt := by
              rw [← hF]
              subst ez4 eS5 ex6 ex11 ex12
              simp only [f7_strokes_L8, if_neg c3, if_neg c7, if_pos c8]
            exact ih S5 x11 x12 _ _ ls (trivial) (by rw [ex12]; exact dn_mu c3 hm) hF2 hw (lv_sub hl [3, 1, 0] rfl)
        · refine lv_iconst (v := (0 : Int32)) X.1 X.2.1 dX7_strokes_25 (by decide) ?_
          refine lv_goto (tgt := 39) X.1 X.2.1 dX7_strokes_26 (by decide) ?_
          refine lv_iadd X.1 X.2.1 dX7_strokes_39 ?_
          refine lv_topi (fun x13 ex13 => ?_)
          refine lv_istore_n (lv' := [(1, .int x13), (3, .int x6), (0, .ref (mm_ad G 0)), (2, .int y2_8)]) X.1 X.2.1 dX7_strokes_40 rfl hl (by decide) rfl (fun ls hl => ?_)
          obtain ⟨x14, ex14⟩ : ∃ y : Int32, y = y2_8 + (-1 : Int32) := ⟨_, rfl⟩
          refine lv_iinc (v := x14) (lv' := [(2, .int x14), (1, .int x13), (3, .int x6), (0, .ref (mm_ad G 0))]) X.1 X.2.1 dX7_strokes_41 hl (k := 3) rfl (by rw [ex14]; rfl) (by decide) rfl (fun ls hl => ?_)
          refine lv_goto (tgt := 8) X.1 X.2.1 dX7_strokes_44 (by decide) ?_
          have hF2 : f7_strokes_L8 n S5 x13 x14 = tgt := by
            rw [← hF]
            subst ez4 eS5 ex6 ex13 ex14
            simp only [f7_strokes_L8, if_neg c3, if_pos c7]
          exact ih S5 x13 x14 _ _ ls (trivial) (by rw [ex14]; exact dn_mu c3 hm) hF2 hw (lv_sub hl [3, 1, 0] rfl)
  have hF2 : f7_strokes_L8 (z1.toNatClampNeg + 1) S (0 : Int32) z1 = tgt := by
    rw [← hF]
    subst ez1
    simp only [f7_strokes]
  exact j8 (z1.toNatClampNeg + 1) S (0 : Int32) z1 _ _ ls (trivial) (Nat.lt_succ_self _) hF2 hw (lv_sub hl [2, 1, 0] rfl)
set_option maxHeartbeats 4000000 in
set_option maxRecDepth 10000 in
theorem k_X7_odds (l : Launch) (G : tt_G) (S : tt_St) (V : Int64) (a1 : Int32) (a2 : Int32) (hp0 : mi S) : m_MI l G yX7_odds (g_code yX7_odds cX7_odds 6 (some FieldType.int)) 7 155 [.ref (mm_ad G 0), .int a1, .int a2] S V ((f7_odds S a1 a2).1) ((f7_odds S a1 a2).2) V := by
  generalize hF : f7_odds S a1 a2 = tgt
  refine g_begin rfl (Nat.le_of_ble_eq_true rfl) _ (fun p e s m below meth c ls X hret hlk hB hl => ?_)
  obtain ⟨hP0, K⟩ := hB
  have hw : m_W G S V s s.heap [] := ⟨hP0, va_S.rf⟩
  have X : CallFix p m c cX7_odds 6 s ([.ref (mm_ad G 0), .int a1, .int a2] : List Value).toArray tt_T "TrustTinModel" := X
  have hl : lv_has ls 6 [(0, .ref (mm_ad G 0)), (1, .int a1), (2, .int a2)] := hl
  refine lv_iload_n X.1 X.2.1 dX7_odds_0 rfl (lv_at hl 1 rfl) ?_
  refine lv_i2l X.1 X.2.1 dX7_odds_1 rfl ?_
  refine lv_lconst (v := (1 : Int64)) X.1 X.2.1 dX7_odds_2 (by decide) ?_
  refine lv_ldc2 (v := (20 : Int64)) X.1 X.2.1 X.2.2.2.1 (X.2.2.2.2 _ q1090) dX7_odds_3 ?_
  refine m_callSI_p X K hw (k_X7_in l G S V a1.toInt64 (1 : Int64) (20 : Int64)) (g_cwS X hiX7_in q908 q909 q74 q910 ⟨(Nat.le_of_ble_eq_true rfl), (Nat.le_of_ble_eq_true rfl)⟩) rfl hl.1 rfl (Nat.le_of_ble_eq_true rfl) dX7_odds_6 ⟨(Nat.le_of_ble_eq_true rfl), (Nat.le_of_ble_eq_true rfl)⟩ (fun z1 H locs ez1 hw => ?_)
  refine lv_if_eq (tgt := 24) X.1 X.2.1 dX7_odds_9 (by decide) (fun c2 => ?_) (fun c2 => ?_)
  · refine lv_aload_n X.1 X.2.1 dX7_odds_24 rfl (lv_at hl 0 rfl) ?_
    refine lv_iconst (v := (0 : Int32)) X.1 X.2.1 dX7_odds_25 (by decide) ?_
    refine m_callVI_s X K hw (k_X7_finds l G S V (0 : Int32) (by unfold vp_in; decide)) (g_cwV X hiX7_finds q912 q914 q29 q74 q915 ⟨(Nat.le_of_ble_eq_true rfl), (Nat.le_of_ble_eq_true rfl)⟩) rfl hl.1 rfl (Nat.le_of_ble_eq_true rfl) dX7_odds_26 ⟨(Nat.le_of_ble_eq_true rfl), (Nat.le_of_ble_eq_true rfl)⟩ (fun z3 S4 H locs ez3 eS4 hw => ?_)
    have hR : (z3, S4) = tgt := by
      rw [← hF]
      subst ez1 ez3 eS4
      simp only [f7_odds, if_pos c2]
    have hRR : z3 = tgt.1 := pr1 hR
    have hRS : S4 = tgt.2 := pr2 hR
    exact g_iret X hret hlk hw hRR (congrArg (fun z => (z, V)) hRS) dX7_odds_29
  · refine lv_iload_n X.1 X.2.1 dX7_odds_12 rfl (lv_at hl 2 rfl) ?_
    refine lv_i2l X.1 X.2.1 dX7_odds_13 rfl ?_
    refine lv_lconst (v := (0 : Int64)) X.1 X.2.1 dX7_odds_14 (by decide) ?_
    refine lv_ldc2 (v := (9999 : Int64)) X.1 X.2.1 X.2.2.2.1 (X.2.2.2.2 _ q941) dX7_odds_15 ?_
    refine m_callSI_p X K hw (k_X7_in l G S V a2.toInt64 (0 : Int64) (9999 : Int64)) (g_cwS X hiX7_in q908 q909 q74 q910 ⟨(Nat.le_of_ble_eq_true rfl), (Nat.le_of_ble_eq_true rfl)⟩) rfl hl.1 rfl (Nat.le_of_ble_eq_true rfl) dX7_odds_18 ⟨(Nat.le_of_ble_eq_true rfl), (Nat.le_of_ble_eq_true rfl)⟩ (fun z5 H locs ez5 hw => ?_)
    refine lv_if_ne (tgt := 30) X.1 X.2.1 dX7_odds_21 (by decide) (fun c6 => ?_) (fun c6 => ?_)
    · refine lv_aload_n X.1 X.2.1 dX7_odds_30 rfl (lv_at hl 0 rfl) ?_
      refine m_get X K hw 0 (by decide) q836 rfl dX7_odds_31 ?_
      refine lv_bipush (v := (7 : Int32)) X.1 X.2.1 dX7_odds_34 (by decide) ?_
      have hi7 : vp_in (7 : Int32) 132 := by unfold vp_in; decide
      refine g_ialdL (j := 7) X K hw (by decide) mm_e1 hi7 rfl dX7_odds_36 ?_
      refine lv_sipush (v := (9994 : Int32)) X.1 X.2.1 dX7_odds_37 (by decide) ?_
      refine lv_icmp_le (tgt := 49) X.1 X.2.1 dX7_odds_40 (by decide) (fun c8 => ?_) (fun c8 => ?_)
      · refine lv_iconst (v := (0 : Int32)) X.1 X.2.1 dX7_odds_49 (by decide) ?_
        refine lv_istore_n (lv' := [(3, .int (0 : Int32)), (0, .ref (mm_ad G 0)), (1, .int a1), (2, .int a2)]) X.1 X.2.1 dX7_odds_50 rfl hl (by decide) rfl (fun ls hl => ?_)
        refine lv_iconst (v := (0 : Int32)) X.1 X.2.1 dX7_odds_51 (by decide) ?_
        refine lv_istore (lv' := [(4, .int (0 : Int32)), (3, .int (0 : Int32)), (0, .ref (mm_ad G 0)), (1, .int a1), (2, .int a2)]) X.1 X.2.1 dX7_odds_52 hl (by decide) rfl (fun ls hl => ?_)
        have j54 : ∀ (n : Nat) (S9 : tt_St) (y3_54 : Int32) (y4_54 : Int32) (H : Heap) (locs : List Loc) (ls : Array Slot), ((¬ y4_54 < 0) ∧ (S9 1 0).toInt ≤ 10) → lp_mu a1 y4_54 < n → f7_odds_L54 a1 a2 n S9 y3_54 y4_54 = tgt → m_W G S9 V s H locs → lv_has ls 6 [(0, .ref (mm_ad G 0)), (1, .int a1), (2, .int a2), (3, .int y3_54), (4, .int y4_54)] → W p l e (g_rm 7 155) s m ([.ref (mm_ad G 0), .int a1, .int a2] : List Value).toArray below meth c H locs 0 0 (MQ below (va_Qi (fun r T => r = tgt.1 ∧ T = (tgt.2, V)) (g_Post G 10 (mm_ad G) (mm_cell G)) (g_in 10 (mm_ad G))) ([.ref (mm_ad G 0), .int a1, .int a2] : List Value).toArray s 0 0 (g_in 10 (mm_ad G))) (F0 m 54 ls []) := by
          intro n
          induction n with
          | zero => intro S9 y3_54 y4_54 H locs ls hI hm; exact absurd hm (Nat.not_lt_zero _)
          | succ n ih =>
            intro S9 y3_54 y4_54 H locs ls hI hm hF hw hl
            refine lv_iload X.1 X.2.1 dX7_odds_54 (lv_at hl 4 rfl) ?_
            refine lv_iload_n X.1 X.2.1 dX7_odds_56 rfl (lv_at hl 1 rfl) ?_
            refine lv_icmp_ge (tgt := 109) X.1 X.2.1 dX7_odds_57 (by decide) (fun c10 => ?_) (fun c10 => ?_)
            · refine lv_iload_n X.1 X.2.1 dX7_odds_109 rfl (lv_at hl 3 rfl) ?_
              have hR : (y3_54, S9) = tgt := by
                rw [← hF]
                simp only [f7_odds_L54, if_pos c10]
              have hRR : y3_54 = tgt.1 := pr1 hR
              have hRS : S9 = tgt.2 := pr2 hR
              exact g_iret X hret hlk hw hRR (congrArg (fun z => (z, V)) hRS) dX7_odds_110
            · refine lv_aload_n X.1 X.2.1 dX7_odds_60 rfl (lv_at hl 0 rfl) ?_
              refine m_callVV_s X K hw (k_X7_begins l G S9 V) (g_cwV X hiX7_begins q1062 q1064 q48 q74 q1065 ⟨(Nat.le_of_ble_eq_true rfl), (Nat.le_of_ble_eq_true rfl)⟩) rfl hl.1 rfl (Nat.le_of_ble_eq_true rfl) dX7_odds_61 ⟨(Nat.le_of_ble_eq_true rfl), (Nat.le_of_ble_eq_true rfl)⟩ (fun S11 H locs eS11 hw => ?_)
              refine lv_iload_n X.1 X.2.1 dX7_odds_64 rfl (lv_at hl 3 rfl) ?_
              refine lv_aload_n X.1 X.2.1 dX7_odds_65 rfl (lv_at hl 0 rfl) ?_
              refine lv_iconst (v := (5 : Int32)) X.1 X.2.1 dX7_odds_66 (by decide) ?_
              refine m_callVI_s X K hw (k_X7_goesOn l G S11 V (5 : Int32) (by rw [show S11 1 0 = S9 1 0 from by subst eS11; exact bg_sz _]; exact hI.2)) (g_cwV X hiX7_goesOn q981 q983 q36 q74 q984 ⟨(Nat.le_of_ble_eq_true rfl), (Nat.le_of_ble_eq_true rfl)⟩) rfl hl.1 rfl (Nat.le_of_ble_eq_true rfl) dX7_odds_67 ⟨(Nat.le_of_ble_eq_true rfl), (Nat.le_of_ble_eq_true rfl)⟩ (fun z12 S13 H locs ez12 eS13 hw => ?_)
              refine lv_iload_n X.1 X.2.1 dX7_odds_70 rfl (lv_at hl 2 rfl) ?_
              refine lv_icmp_lt (tgt := 78) X.1 X.2.1 dX7_odds_71 (by decide) (fun c14 => ?_) (fun c14 => ?_)
              · refine lv_iconst (v := (0 : Int32)) X.1 X.2.1 dX7_odds_78 (by decide) ?_
                refine lv_iadd X.1 X.2.1 dX7_odds_79 ?_
                refine lv_topi (fun x15 ex15 => ?_)
                refine lv_istore_n (lv' := [(3, .int x15), (0, .ref (mm_ad G 0)), (1, .int a1), (2, .int a2), (4, .int y4_54)]) X.1 X.2.1 dX7_odds_80 rfl hl (by decide) rfl (fun ls hl => ?_)
                refine lv_aload_n X.1 X.2.1 dX7_odds_81 rfl (lv_at hl 1 rfl) ?_
                refine m_get X K hw 0 (by decide) q836 rfl dX7_odds_82 ?_
                refine lv_bipush (v := (10 : Int32)) X.1 X.2.1 dX7_odds_85 (by decide) ?_
                have hi16 : vp_in (10 : Int32) 132 := by unfold vp_in; decide
                refine g_ialdL (j := 10) X K hw (by decide) mm_e1 hi16 rfl dX7_odds_87 ?_
                refine lv_topi (fun x17 ex17 => ?_)
                refine lv_istore (lv' := [(5, .int x17), (3, .int x15), (0, .ref (mm_ad G 0)), (1, .int a1), (2, .int a2), (4, .int y4_54)]) X.1 X.2.1 dX7_odds_88 hl (by decide) rfl (fun ls hl => ?_)
                refine lv_aload_n X.1 X.2.1 dX7_odds_90 rfl (lv_at hl 2 rfl) ?_
                refine m_callVV_s X K hw (k_X7_ends l G S13 V) (g_cwV X hiX7_ends q1069 q1071 q49 q74 q1072 ⟨(Nat.le_of_ble_eq_true rfl), (Nat.le_of_ble_eq_true rfl)⟩) rfl hl.1 rfl (Nat.le_of_ble_eq_true rfl) dX7_odds_91 ⟨(Nat.le_of_ble_eq_true rfl), (Nat.le_of_ble_eq_true rfl)⟩ (fun S18 H locs eS18 hw => ?_)
                refine lv_aload_n X.1 X.2.1 dX7_odds_94 rfl (lv_at hl 2 rfl) ?_
                refine m_get X K hw 0 (by decide) q836 rfl dX7_odds_95 ?_
                refine lv_bipush (v := (10 : Int32)) X.1 X.2.1 dX7_odds_98 (by decide) ?_
                refine lv_iload X.1 X.2.1 dX7_odds_100 (lv_at hl 0 rfl) ?_
                have hi19 : vp_in (10 : Int32) 132 := by unfold vp_in; decide
                refine m_iastL (j := 10) X K hw (by decide) (by decide) (fun _ => mm_e1) hi19 rfl dX7_odds_102 (fun S20 H locs eS20 hw => ?_)
                obtain ⟨x21, ex21⟩ : ∃ y : Int32, y = y4_54 + (1 : Int32) := ⟨_, rfl⟩
                refine lv_iinc (v := x21) (lv' := [(4, .int x21), (5, .int x17), (3, .int x15), (0, .ref (mm_ad G 0)), (1, .int a1), (2, .int a2)]) X.1 X.2.1 dX7_odds_103 hl (k := 5) rfl (by rw [ex21]; rfl) (by decide) rfl (fun ls hl => ?_)
                refine lv_goto (tgt := 54) X.1 X.2.1 dX7_odds_106 (by decide) ?_
                have hF2 : f7_odds_L54 a1 a2 n S20 x15 x21 = tgt := by
                  rw [← hF]
                  subst eS11 ez12 eS13 ex15 ex17 eS18 eS20 ex21
                  simp only [f7_odds_L54, if_neg c10, if_pos c14]
                exact ih S20 x15 x21 _ _ ls (⟨by rw [ex21]; exact lp_nn hI.1 c10, by rw [show S20 1 0 = S9 1 0 from by subst eS11 ez12 eS13 ex15 ex17 eS18 eS20 ex21; exact (tt_up_ne (by omega)).trans (be_sz (on_2 hI.2))]; exact hI.2⟩) (by rw [ex21]; exact lp_dec' c10 hm) hF2 hw (lv_sub hl [3, 4, 5, 2, 0] rfl)
              · refine lv_iconst (v := (1 : Int32)) X.1 X.2.1 dX7_odds_74 (by decide) ?_
                refine lv_goto (tgt := 79) X.1 X.2.1 dX7_odds_75 (by decide) ?_
                refine lv_iadd X.1 X.2.1 dX7_odds_79 ?_
                refine lv_topi (fun x22 ex22 => ?_)
                refine lv_istore_n (lv' := [(3, .int x22), (0, .ref (mm_ad G 0)), (1, .int a1), (2, .int a2), (4, .int y4_54)]) X.1 X.2.1 dX7_odds_80 rfl hl (by decide) rfl (fun ls hl => ?_)
                refine lv_aload_n X.1 X.2.1 dX7_odds_81 rfl (lv_at hl 1 rfl) ?_
                refine m_get X K hw 0 (by decide) q836 rfl dX7_odds_82 ?_
                refine lv_bipush (v := (10 : Int32)) X.1 X.2.1 dX7_odds_85 (by decide) ?_
                have hi23 : vp_in (10 : Int32) 132 := by unfold vp_in; decide
                refine g_ialdL (j := 10) X K hw (by decide) mm_e1 hi23 rfl dX7_odds_87 ?_
                refine lv_topi (fun x24 ex24 => ?_)
                refine lv_istore (lv' := [(5, .int x24), (3, .int x22), (0, .ref (mm_ad G 0)), (1, .int a1), (2, .int a2), (4, .int y4_54)]) X.1 X.2.1 dX7_odds_88 hl (by decide) rfl (fun ls hl => ?_)
                refine lv_aload_n X.1 X.2.1 dX7_odds_90 rfl (lv_at hl 2 rfl) ?_
                refine m_callVV_s X K hw (k_X7_ends l G S13 V) (g_cwV X hiX7_ends q1069 q1071 q49 q74 q1072 ⟨(Nat.le_of_ble_eq_true rfl), (Nat.le_of_ble_eq_true rfl)⟩) rfl hl.1 rfl (Nat.le_of_ble_eq_true rfl) dX7_odds_91 ⟨(Nat.le_of_ble_eq_true rfl), (Nat.le_of_ble_eq_true rfl)⟩ (fun S25 H locs eS25 hw => ?_)
                refine lv_aload_n X.1 X.2.1 dX7_odds_94 rfl (lv_at hl 2 rfl) ?_
                refine m_get X K hw 0 (by decide) q836 rfl dX7_odds_95 ?_
                refine lv_bipush (v := (10 : Int32)) X.1 X.2.1 dX7_odds_98 (by decide) ?_
                refine lv_iload X.1 X.2.1 dX7_odds_100 (lv_at hl 0 rfl) ?_
                have hi26 : vp_in (10 : Int32) 132 := by unfold vp_in; decide
                refine m_iastL (j := 10) X K hw (by decide) (by decide) (fun _ => mm_e1) hi26 rfl dX7_odds_102 (fun S27 H locs eS27 hw => ?_)
                obtain ⟨x28, ex28⟩ : ∃ y : Int32, y = y4_54 + (1 : Int32) := ⟨_, rfl⟩
                refine lv_iinc (v := x28) (lv' := [(4, .int x28), (5, .int x24), (3, .int x22), (0, .ref (mm_ad G 0)), (1, .int a1), (2, .int a2)]) X.1 X.2.1 dX7_odds_103 hl (k := 5) rfl (by rw [ex28]; rfl) (by decide) rfl (fun ls hl => ?_)
                refine lv_goto (tgt := 54) X.1 X.2.1 dX7_odds_106 (by decide) ?_
                have hF2 : f7_odds_L54 a1 a2 n S27 x22 x28 = tgt := by
                  rw [← hF]
                  subst eS11 ez12 eS13 ex22 ex24 eS25 eS27 ex28
                  simp only [f7_odds_L54, if_neg c10, if_neg c14]
                exact ih S27 x22 x28 _ _ ls (⟨by rw [ex28]; exact lp_nn hI.1 c10, by rw [show S27 1 0 = S9 1 0 from by subst eS11 ez12 eS13 ex22 ex24 eS25 eS27 ex28; exact (tt_up_ne (by omega)).trans (be_sz (on_2 hI.2))]; exact hI.2⟩) (by rw [ex28]; exact lp_dec' c10 hm) hF2 hw (lv_sub hl [3, 4, 5, 2, 0] rfl)
        have hF2 : f7_odds_L54 a1 a2 (lp_mu a1 0 + 1) S (0 : Int32) (0 : Int32) = tgt := by
          rw [← hF]
          subst ez1 ez5
          simp only [f7_odds, if_neg c2, if_neg c6, if_pos c8]
        exact j54 (lp_mu a1 0 + 1) S (0 : Int32) (0 : Int32) _ _ ls (⟨by decide, hp0.1.2⟩) (Nat.lt_succ_self _) hF2 hw (lv_sub hl [2, 3, 4, 1, 0] rfl)
      · refine lv_aload_n X.1 X.2.1 dX7_odds_43 rfl (lv_at hl 0 rfl) ?_
        refine lv_iconst (v := (4 : Int32)) X.1 X.2.1 dX7_odds_44 (by decide) ?_
        refine m_callVI_s X K hw (k_X7_finds l G S V (4 : Int32) (by unfold vp_in; decide)) (g_cwV X hiX7_finds q912 q914 q29 q74 q915 ⟨(Nat.le_of_ble_eq_true rfl), (Nat.le_of_ble_eq_true rfl)⟩) rfl hl.1 rfl (Nat.le_of_ble_eq_true rfl) dX7_odds_45 ⟨(Nat.le_of_ble_eq_true rfl), (Nat.le_of_ble_eq_true rfl)⟩ (fun z29 S30 H locs ez29 eS30 hw => ?_)
        have hR : (z29, S30) = tgt := by
          rw [← hF]
          subst ez1 ez5 ez29 eS30
          simp only [f7_odds, if_neg c2, if_neg c6, if_neg c8]
        have hRR : z29 = tgt.1 := pr1 hR
        have hRS : S30 = tgt.2 := pr2 hR
        exact g_iret X hret hlk hw hRR (congrArg (fun z => (z, V)) hRS) dX7_odds_48
    · refine lv_aload_n X.1 X.2.1 dX7_odds_24 rfl (lv_at hl 0 rfl) ?_
      refine lv_iconst (v := (0 : Int32)) X.1 X.2.1 dX7_odds_25 (by decide) ?_
      refine m_callVI_s X K hw (k_X7_finds l G S V (0 : Int32) (by unfold vp_in; decide)) (g_cwV X hiX7_finds q912 q914 q29 q74 q915 ⟨(Nat.le_of_ble_eq_true rfl), (Nat.le_of_ble_eq_true rfl)⟩) rfl hl.1 rfl (Nat.le_of_ble_eq_true rfl) dX7_odds_26 ⟨(Nat.le_of_ble_eq_true rfl), (Nat.le_of_ble_eq_true rfl)⟩ (fun z31 S32 H locs ez31 eS32 hw => ?_)
      have hR : (z31, S32) = tgt := by
        rw [← hF]
        subst ez1 ez5 ez31 eS32
        simp only [f7_odds, if_neg c2, if_pos c6]
      have hRR : z31 = tgt.1 := pr1 hR
      have hRS : S32 = tgt.2 := pr2 hR
      exact g_iret X hret hlk hw hRR (congrArg (fun z => (z, V)) hRS) dX7_odds_29
set_option maxHeartbeats 4000000 in
set_option maxRecDepth 10000 in
theorem k_X7_feed (l : Launch) (G : tt_G) (S : tt_St) (V : Int64) (a1 : Int32) (a2 : Int32) (hp0 : mi S) : m_MI l G yX7_feed (g_code yX7_feed cX7_feed 4 (some FieldType.int)) 1 25 [.ref (mm_ad G 0), .int a1, .int a2] S V ((f7_feed S a1 a2).1) ((f7_feed S a1 a2).2) V := by
  generalize hF : f7_feed S a1 a2 = tgt
  refine g_begin rfl (Nat.le_of_ble_eq_true rfl) _ (fun p e s m below meth c ls X hret hlk hB hl => ?_)
  obtain ⟨hP0, K⟩ := hB
  have hw : m_W G S V s s.heap [] := ⟨hP0, va_S.rf⟩
  have X : CallFix p m c cX7_feed 4 s ([.ref (mm_ad G 0), .int a1, .int a2] : List Value).toArray tt_T "TrustTinModel" := X
  have hl : lv_has ls 4 [(0, .ref (mm_ad G 0)), (1, .int a1), (2, .int a2)] := hl
  refine lv_iload_n X.1 X.2.1 dX7_feed_0 rfl (lv_at hl 2 rfl) ?_
  refine lv_i2l X.1 X.2.1 dX7_feed_1 rfl ?_
  refine lv_lconst (v := (1 : Int64)) X.1 X.2.1 dX7_feed_2 (by decide) ?_
  refine lv_ldc2 (v := (4 : Int64)) X.1 X.2.1 X.2.2.2.1 (X.2.2.2.2 _ q1147) dX7_feed_3 ?_
  refine m_callSI_p X K hw (k_X7_in l G S V a2.toInt64 (1 : Int64) (4 : Int64)) (g_cwS X hiX7_in q908 q909 q74 q910 ⟨(Nat.le_of_ble_eq_true rfl), (Nat.le_of_ble_eq_true rfl)⟩) rfl hl.1 rfl (Nat.le_of_ble_eq_true rfl) dX7_feed_6 ⟨(Nat.le_of_ble_eq_true rfl), (Nat.le_of_ble_eq_true rfl)⟩ (fun z1 H locs ez1 hw => ?_)
  refine lv_if_ne (tgt := 18) X.1 X.2.1 dX7_feed_9 (by decide) (fun c2 => ?_) (fun c2 => ?_)
  · refine lv_aload_n X.1 X.2.1 dX7_feed_18 rfl (lv_at hl 0 rfl) ?_
    refine m_get X K hw 6 (by decide) q842 rfl dX7_feed_19 ?_
    refine lv_iload_n X.1 X.2.1 dX7_feed_22 rfl (lv_at hl 2 rfl) ?_
    refine lv_iadd X.1 X.2.1 dX7_feed_23 ?_
    refine lv_bipush (v := (120 : Int32)) X.1 X.2.1 dX7_feed_24 (by decide) ?_
    refine lv_icmp_le (tgt := 35) X.1 X.2.1 dX7_feed_26 (by decide) (fun c3 => ?_) (fun c3 => ?_)
    · refine lv_iload_n X.1 X.2.1 dX7_feed_35 rfl (lv_at hl 2 rfl) ?_
      refine lv_iconst (v := (1 : Int32)) X.1 X.2.1 dX7_feed_36 (by decide) ?_
      refine lv_isub X.1 X.2.1 dX7_feed_37 ?_
      refine lv_topi (fun x4 ex4 => ?_)
      refine lv_istore_n (lv' := [(3, .int x4), (0, .ref (mm_ad G 0)), (1, .int a1), (2, .int a2)]) X.1 X.2.1 dX7_feed_38 rfl hl (by decide) rfl (fun ls hl => ?_)
      have j39 : ∀ (n : Nat) (S5 : tt_St) (y3_39 : Int32) (H : Heap) (locs : List Loc) (ls : Array Slot), ((y3_39.toInt ≤ 3) ∧ 0 ≤ (S5 0 6).toInt ∧ (S5 0 6).toInt + y3_39.toInt < 120 ∧ -1 ≤ y3_39.toInt) → (y3_39.toInt + 1).toNat < n → f7_feed_L39 a1 a2 n S5 y3_39 = tgt → m_W G S5 V s H locs → lv_has ls 4 [(0, .ref (mm_ad G 0)), (1, .int a1), (3, .int y3_39)] → W p l e (g_rm 1 25) s m ([.ref (mm_ad G 0), .int a1, .int a2] : List Value).toArray below meth c H locs 0 0 (MQ below (va_Qi (fun r T => r = tgt.1 ∧ T = (tgt.2, V)) (g_Post G 10 (mm_ad G) (mm_cell G)) (g_in 10 (mm_ad G))) ([.ref (mm_ad G 0), .int a1, .int a2] : List Value).toArray s 0 0 (g_in 10 (mm_ad G))) (F0 m 39 ls []) := by
        intro n
        induction n with
        | zero => intro S5 y3_39 H locs ls hI hm; exact absurd hm (Nat.not_lt_zero _)
        | succ n ih =>
          intro S5 y3_39 H locs ls hI hm hF hw hl
          refine lv_iload_n X.1 X.2.1 dX7_feed_39 rfl (lv_at hl 2 rfl) ?_
          refine lv_if_lt (tgt := 75) X.1 X.2.1 dX7_feed_40 (by decide) (fun c6 => ?_) (fun c6 => ?_)
          · refine lv_aload_n X.1 X.2.1 dX7_feed_75 rfl (lv_at hl 0 rfl) ?_
            refine m_get X K hw 6 (by decide) q842 rfl dX7_feed_76 ?_
            have hR : (S5 0 6, S5) = tgt := by
              rw [← hF]
              simp only [f7_feed_L39, if_pos c6]
            have hRR : S5 0 6 = tgt.1 := pr1 hR
            have hRS : S5 = tgt.2 := pr2 hR
            exact g_iret X hret hlk hw hRR (congrArg (fun z => (z, V)) hRS) dX7_feed_79
          · refine lv_aload_n X.1 X.2.1 dX7_feed_43 rfl (lv_at hl 0 rfl) ?_
            refine m_get X K hw 5 (by decide) q841 rfl dX7_feed_44 ?_
            refine lv_aload_n X.1 X.2.1 dX7_feed_47 rfl (lv_at hl 0 rfl) ?_
            refine m_get X K hw 6 (by decide) q842 rfl dX7_feed_48 ?_
            refine lv_iload_n X.1 X.2.1 dX7_feed_51 rfl (lv_at hl 1 rfl) ?_
            refine lv_bipush (v := (8 : Int32)) X.1 X.2.1 dX7_feed_52 (by decide) ?_
            refine lv_iload_n X.1 X.2.1 dX7_feed_54 rfl (lv_at hl 2 rfl) ?_
            refine lv_imul X.1 X.2.1 dX7_feed_55 ?_
            refine lv_ishr X.1 X.2.1 dX7_feed_56 ?_
            refine lv_i2b X.1 X.2.1 dX7_feed_57 rfl ?_
            refine lv_topi (fun x7 ex7 => ?_)
            have hi8 : vp_in (S5 0 6) 120 := fe_in hI c6
            refine m_bast X K hw hi8 dX7_feed_58 (fun S9 H locs eS9 hw => ?_)
            refine lv_aload_n X.1 X.2.1 dX7_feed_59 rfl (lv_at hl 0 rfl) ?_
            refine lv_dup X.1 X.2.1 dX7_feed_60 rfl ?_
            refine m_get X K hw 6 (by decide) q842 rfl dX7_feed_61 ?_
            refine lv_iconst (v := (1 : Int32)) X.1 X.2.1 dX7_feed_64 (by decide) ?_
            refine lv_iadd X.1 X.2.1 dX7_feed_65 ?_
            refine lv_topi (fun x10 ex10 => ?_)
            refine m_put X K hw 6 (by decide) q842 rfl rfl rfl dX7_feed_66 (fun S11 H locs eS11 hw => ?_)
            obtain ⟨x12, ex12⟩ : ∃ y : Int32, y = y3_39 + (-1 : Int32) := ⟨_, rfl⟩
            refine lv_iinc (v := x12) (lv' := [(3, .int x12), (0, .ref (mm_ad G 0)), (1, .int a1)]) X.1 X.2.1 dX7_feed_69 hl (k := 2) rfl (by rw [ex12]; rfl) (by decide) rfl (fun ls hl => ?_)
            refine lv_goto (tgt := 39) X.1 X.2.1 dX7_feed_72 (by decide) ?_
            have hF2 : f7_feed_L39 a1 a2 n S11 x12 = tgt := by
              rw [← hF]
              subst ex7 eS9 ex10 eS11 ex12
              simp only [f7_feed_L39, if_neg c6]
            exact ih S11 x12 _ _ ls (by subst ex7 eS9 ex10 eS11 ex12; exact fe_step hI c6) (by rw [ex12]; exact fe_mu hI.1 c6 hm) hF2 hw (lv_sub hl [1, 2, 0] rfl)
      have hF2 : f7_feed_L39 a1 a2 (lp_k 5) S x4 = tgt := by
        rw [← hF]
        subst ez1 ex4
        simp only [f7_feed, if_neg c2, if_pos c3]
      exact j39 (lp_k 5) S x4 _ _ ls (fe_0 hp0 ez1 c2 c3 ex4) (by rw [lp_k_eq]; exact fe_m ez1 c2 ex4) hF2 hw (lv_sub hl [1, 2, 0] rfl)
    · refine lv_aload_n X.1 X.2.1 dX7_feed_29 rfl (lv_at hl 0 rfl) ?_
      refine lv_iconst (v := (1 : Int32)) X.1 X.2.1 dX7_feed_30 (by decide) ?_
      refine m_callVI_s X K hw (k_X7_finds l G S V (1 : Int32) (by unfold vp_in; decide)) (g_cwV X hiX7_finds q912 q914 q29 q74 q915 ⟨(Nat.le_of_ble_eq_true rfl), (Nat.le_of_ble_eq_true rfl)⟩) rfl hl.1 rfl (Nat.le_of_ble_eq_true rfl) dX7_feed_31 ⟨(Nat.le_of_ble_eq_true rfl), (Nat.le_of_ble_eq_true rfl)⟩ (fun z13 S14 H locs ez13 eS14 hw => ?_)
      have hR : (z13, S14) = tgt := by
        rw [← hF]
        subst ez1 ez13 eS14
        simp only [f7_feed, if_neg c2, if_neg c3]
      have hRR : z13 = tgt.1 := pr1 hR
      have hRS : S14 = tgt.2 := pr2 hR
      exact g_iret X hret hlk hw hRR (congrArg (fun z => (z, V)) hRS) dX7_feed_34
  · refine lv_aload_n X.1 X.2.1 dX7_feed_12 rfl (lv_at hl 0 rfl) ?_
    refine lv_iconst (v := (0 : Int32)) X.1 X.2.1 dX7_feed_13 (by decide) ?_
    refine m_callVI_s X K hw (k_X7_finds l G S V (0 : Int32) (by unfold vp_in; decide)) (g_cwV X hiX7_finds q912 q914 q29 q74 q915 ⟨(Nat.le_of_ble_eq_true rfl), (Nat.le_of_ble_eq_true rfl)⟩) rfl hl.1 rfl (Nat.le_of_ble_eq_true rfl) dX7_feed_14 ⟨(Nat.le_of_ble_eq_true rfl), (Nat.le_of_ble_eq_true rfl)⟩ (fun z15 S16 H locs ez15 eS16 hw => ?_)
    have hR : (z15, S16) = tgt := by
      rw [← hF]
      subst ez1 ez15 eS16
      simp only [f7_feed, if_pos c2]
    have hRR : z15 = tgt.1 := pr1 hR
    have hRS : S16 = tgt.2 := pr2 hR
    exact g_iret X hret hlk hw hRR (congrArg (fun z => (z, V)) hRS) dX7_feed_17
set_option maxHeartbeats 4000000 in
set_option maxRecDepth 10000 in
theorem k_X7_sheet (l : Launch) (G : tt_G) (S : tt_St) (V : Int64) (a1 : Int32) (a2 : Int32) (a3 : Int32) (hp0 : mi S) : m_MI l G yX7_sheet (g_code yX7_sheet cX7_sheet 5 (some FieldType.int)) 2 45 [.ref (mm_ad G 0), .int a1, .int a2, .int a3] S V ((f7_sheet S a1 a2 a3).1) ((f7_sheet S a1 a2 a3).2) V := by
  generalize hF : f7_sheet S a1 a2 a3 = tgt
  refine g_begin rfl (Nat.le_of_ble_eq_true rfl) _ (fun p e s m below meth c ls X hret hlk hB hl => ?_)
  obtain ⟨hP0, K⟩ := hB
  have hw : m_W G S V s s.heap [] := ⟨hP0, va_S.rf⟩
  have X : CallFix p m c cX7_sheet 5 s ([.ref (mm_ad G 0), .int a1, .int a2, .int a3] : List Value).toArray tt_T "TrustTinModel" := X
  have hl : lv_has ls 5 [(0, .ref (mm_ad G 0)), (1, .int a1), (2, .int a2), (3, .int a3)] := hl
  refine lv_iload_n X.1 X.2.1 dX7_sheet_0 rfl (lv_at hl 1 rfl) ?_
  refine m_callSI_p X K hw (k_X7_isSheet l G S V a1) (g_cwS X hiX7_isSheet q1250 q1251 q74 q1252 ⟨(Nat.le_of_ble_eq_true rfl), (Nat.le_of_ble_eq_true rfl)⟩) rfl hl.1 rfl (Nat.le_of_ble_eq_true rfl) dX7_sheet_1 ⟨(Nat.le_of_ble_eq_true rfl), (Nat.le_of_ble_eq_true rfl)⟩ (fun z1 H locs ez1 hw => ?_)
  refine lv_if_eq (tgt := 29) X.1 X.2.1 dX7_sheet_4 (by decide) (fun c2 => ?_) (fun c2 => ?_)
  · refine lv_aload_n X.1 X.2.1 dX7_sheet_29 rfl (lv_at hl 0 rfl) ?_
    refine lv_iconst (v := (0 : Int32)) X.1 X.2.1 dX7_sheet_30 (by decide) ?_
    refine m_callVI_s X K hw (k_X7_finds l G S V (0 : Int32) (by unfold vp_in; decide)) (g_cwV X hiX7_finds q912 q914 q29 q74 q915 ⟨(Nat.le_of_ble_eq_true rfl), (Nat.le_of_ble_eq_true rfl)⟩) rfl hl.1 rfl (Nat.le_of_ble_eq_true rfl) dX7_sheet_31 ⟨(Nat.le_of_ble_eq_true rfl), (Nat.le_of_ble_eq_true rfl)⟩ (fun z3 S4 H locs ez3 eS4 hw => ?_)
    have hR : (z3, S4) = tgt := by
      rw [← hF]
      subst ez1 ez3 eS4
      simp only [f7_sheet, if_pos c2]
    have hRR : z3 = tgt.1 := pr1 hR
    have hRS : S4 = tgt.2 := pr2 hR
    exact g_iret X hret hlk hw hRR (congrArg (fun z => (z, V)) hRS) dX7_sheet_34
  · refine lv_iload_n X.1 X.2.1 dX7_sheet_7 rfl (lv_at hl 2 rfl) ?_
    refine lv_if_eq (tgt := 35) X.1 X.2.1 dX7_sheet_8 (by decide) (fun c5 => ?_) (fun c5 => ?_)
    · refine lv_iload_n X.1 X.2.1 dX7_sheet_35 rfl (lv_at hl 3 rfl) ?_
      refine lv_if_ge (tgt := 46) X.1 X.2.1 dX7_sheet_36 (by decide) (fun c6 => ?_) (fun c6 => ?_)
      · refine lv_iload_n X.1 X.2.1 dX7_sheet_46 rfl (lv_at hl 3 rfl) ?_
        refine lv_bipush (v := (40 : Int32)) X.1 X.2.1 dX7_sheet_47 (by decide) ?_
        refine lv_icmp_le (tgt := 58) X.1 X.2.1 dX7_sheet_49 (by decide) (fun c7 => ?_) (fun c7 => ?_)
        · refine lv_aload_n X.1 X.2.1 dX7_sheet_58 rfl (lv_at hl 0 rfl) ?_
          refine m_get X K hw 18 (by decide) q854 rfl dX7_sheet_59 ?_
          refine lv_iload_n X.1 X.2.1 dX7_sheet_62 rfl (lv_at hl 1 rfl) ?_
          refine lv_iload_n X.1 X.2.1 dX7_sheet_63 rfl (lv_at hl 2 rfl) ?_
          have hi8 : vp_in a1 4 := sh_in ez1 c2
          refine m_iast X K hw (by decide) (by decide) (fun _ => mm_e6) hi8 dX7_sheet_64 (fun S9 H locs eS9 hw => ?_)
          refine lv_aload_n X.1 X.2.1 dX7_sheet_65 rfl (lv_at hl 0 rfl) ?_
          refine m_get X K hw 19 (by decide) q855 rfl dX7_sheet_66 ?_
          refine lv_iload_n X.1 X.2.1 dX7_sheet_69 rfl (lv_at hl 1 rfl) ?_
          refine lv_iload_n X.1 X.2.1 dX7_sheet_70 rfl (lv_at hl 2 rfl) ?_
          refine lv_if_ne (tgt := 78) X.1 X.2.1 dX7_sheet_71 (by decide) (fun c10 => ?_) (fun c10 => ?_)
          · exact absurd c5 c10
          · refine lv_iconst (v := (0 : Int32)) X.1 X.2.1 dX7_sheet_74 (by decide) ?_
            refine lv_goto (tgt := 79) X.1 X.2.1 dX7_sheet_75 (by decide) ?_
            have hi11 : vp_in a1 4 := sh_in ez1 c2
            refine m_iast X K hw (by decide) (by decide) (fun _ => mm_e7) hi11 dX7_sheet_79 (fun S12 H locs eS12 hw => ?_)
            refine lv_iconst (v := (0 : Int32)) X.1 X.2.1 dX7_sheet_80 (by decide) ?_
            refine lv_istore (lv' := [(4, .int (0 : Int32)), (0, .ref (mm_ad G 0)), (1, .int a1), (2, .int a2), (3, .int a3)]) X.1 X.2.1 dX7_sheet_81 hl (by decide) rfl (fun ls hl => ?_)
            have j83 : ∀ (n : Nat) (S13 : tt_St) (y4_83 : Int32) (H : Heap) (locs : List Loc) (ls : Array Slot), (¬ y4_83 < 0) → lp_mu (40 : Int32) y4_83 < n → f7_sheet_L83 a1 a2 a3 n S13 y4_83 = tgt → m_W G S13 V s H locs → lv_has ls 5 [(0, .ref (mm_ad G 0)), (1, .int a1), (4, .int y4_83)] → W p l e (g_rm 2 45) s m ([.ref (mm_ad G 0), .int a1, .int a2, .int a3] : List Value).toArray below meth c H locs 0 0 (MQ below (va_Qi (fun r T => r = tgt.1 ∧ T = (tgt.2, V)) (g_Post G 10 (mm_ad G) (mm_cell G)) (g_in 10 (mm_ad G))) ([.ref (mm_ad G 0), .int a1, .int a2, .int a3] : List Value).toArray s 0 0 (g_in 10 (mm_ad G))) (F0 m 83 ls []) := by
              intro n
              induction n with
              | zero => intro S13 y4_83 H locs ls hI hm; exact absurd hm (Nat.not_lt_zero _)
              | succ n ih =>
                intro S13 y4_83 H locs ls hI hm hF hw hl
                refine lv_iload X.1 X.2.1 dX7_sheet_83 (lv_at hl 2 rfl) ?_
                refine lv_bipush (v := (40 : Int32)) X.1 X.2.1 dX7_sheet_85 (by decide) ?_
                refine lv_icmp_ge (tgt := 109) X.1 X.2.1 dX7_sheet_87 (by decide) (fun c14 => ?_) (fun c14 => ?_)
                · refine lv_aload_n X.1 X.2.1 dX7_sheet_109 rfl (lv_at hl 0 rfl) ?_
                  refine m_get X K hw 19 (by decide) q855 rfl dX7_sheet_110 ?_
                  refine lv_iload_n X.1 X.2.1 dX7_sheet_113 rfl (lv_at hl 1 rfl) ?_
                  have hi15 : vp_in a1 4 := sh_in ez1 c2
                  refine g_iald X K hw (by decide) mm_e7 hi15 dX7_sheet_114 ?_
                  have hR : (S13 7 a1.toNatClampNeg, S13) = tgt := by
                    rw [← hF]
                    simp only [f7_sheet_L83, if_pos c14]
                  have hRR : S13 7 a1.toNatClampNeg = tgt.1 := pr1 hR
                  have hRS : S13 = tgt.2 := pr2 hR
                  exact g_iret X hret hlk hw hRR (congrArg (fun z => (z, V)) hRS) dX7_sheet_115
                · refine lv_aload_n X.1 X.2.1 dX7_sheet_90 rfl (lv_at hl 0 rfl) ?_
                  refine m_get X K hw 20 (by decide) q856 rfl dX7_sheet_91 ?_
                  refine lv_bipush (v := (40 : Int32)) X.1 X.2.1 dX7_sheet_94 (by decide) ?_
                  refine lv_iload_n X.1 X.2.1 dX7_sheet_96 rfl (lv_at hl 1 rfl) ?_
                  refine lv_imul X.1 X.2.1 dX7_sheet_97 ?_
                  refine lv_iload X.1 X.2.1 dX7_sheet_98 (lv_at hl 2 rfl) ?_
                  refine lv_iadd X.1 X.2.1 dX7_sheet_100 ?_
                  refine lv_iconst (v := (0 : Int32)) X.1 X.2.1 dX7_sheet_101 (by decide) ?_
                  have hi16 : vp_in (((40 : Int32) * a1) + y4_83) 160 := nm_in (sh_in ez1 c2) (lp_in hI c14 (by decide))
                  refine m_iast X K hw (by decide) (by decide) (fun _ => mm_e8) hi16 dX7_sheet_102 (fun S17 H locs eS17 hw => ?_)
                  obtain ⟨x18, ex18⟩ : ∃ y : Int32, y = y4_83 + (1 : Int32) := ⟨_, rfl⟩
                  refine lv_iinc (v := x18) (lv' := [(4, .int x18), (0, .ref (mm_ad G 0)), (1, .int a1)]) X.1 X.2.1 dX7_sheet_103 hl (k := 2) rfl (by rw [ex18]; rfl) (by decide) rfl (fun ls hl => ?_)
                  refine lv_goto (tgt := 83) X.1 X.2.1 dX7_sheet_106 (by decide) ?_
                  have hF2 : f7_sheet_L83 a1 a2 a3 n S17 x18 = tgt := by
                    rw [← hF]
                    subst eS17 ex18
                    simp only [f7_sheet_L83, if_neg c14]
                  exact ih S17 x18 _ _ ls (by rw [ex18]; exact lp_nn hI c14) (by rw [ex18]; exact lp_dec' c14 hm) hF2 hw (lv_sub hl [1, 2, 0] rfl)
            have hF2 : f7_sheet_L83 a1 a2 a3 (lp_mu (40 : Int32) 0 + 1) S12 (0 : Int32) = tgt := by
              rw [← hF]
              subst ez1 eS9 eS12
              simp only [f7_sheet, if_neg c2, if_pos c5, if_pos c6, if_pos c7]
            exact j83 (lp_mu (40 : Int32) 0 + 1) S12 (0 : Int32) _ _ ls (by decide) (Nat.lt_succ_self _) hF2 hw (lv_sub hl [1, 2, 0] rfl)
        · refine lv_aload_n X.1 X.2.1 dX7_sheet_52 rfl (lv_at hl 0 rfl) ?_
          refine lv_iconst (v := (0 : Int32)) X.1 X.2.1 dX7_sheet_53 (by decide) ?_
          refine m_callVI_s X K hw (k_X7_finds l G S V (0 : Int32) (by unfold vp_in; decide)) (g_cwV X hiX7_finds q912 q914 q29 q74 q915 ⟨(Nat.le_of_ble_eq_true rfl), (Nat.le_of_ble_eq_true rfl)⟩) rfl hl.1 rfl (Nat.le_of_ble_eq_true rfl) dX7_sheet_54 ⟨(Nat.le_of_ble_eq_true rfl), (Nat.le_of_ble_eq_true rfl)⟩ (fun z19 S20 H locs ez19 eS20 hw => ?_)
          have hR : (z19, S20) = tgt := by
            rw [← hF]
            subst ez1 ez19 eS20
            simp only [f7_sheet, if_neg c2, if_pos c5, if_pos c6, if_neg c7]
          have hRR : z19 = tgt.1 := pr1 hR
          have hRS : S20 = tgt.2 := pr2 hR
          exact g_iret X hret hlk hw hRR (congrArg (fun z => (z, V)) hRS) dX7_sheet_57
      · refine lv_aload_n X.1 X.2.1 dX7_sheet_39 rfl (lv_at hl 0 rfl) ?_
        refine lv_bipush (v := (6 : Int32)) X.1 X.2.1 dX7_sheet_40 (by decide) ?_
        refine m_callVI_s X K hw (k_X7_finds l G S V (6 : Int32) (by unfold vp_in; decide)) (g_cwV X hiX7_finds q912 q914 q29 q74 q915 ⟨(Nat.le_of_ble_eq_true rfl), (Nat.le_of_ble_eq_true rfl)⟩) rfl hl.1 rfl (Nat.le_of_ble_eq_true rfl) dX7_sheet_42 ⟨(Nat.le_of_ble_eq_true rfl), (Nat.le_of_ble_eq_true rfl)⟩ (fun z21 S22 H locs ez21 eS22 hw => ?_)
        have hR : (z21, S22) = tgt := by
          rw [← hF]
          subst ez1 ez21 eS22
          simp only [f7_sheet, if_neg c2, if_pos c5, if_neg c6]
        have hRR : z21 = tgt.1 := pr1 hR
        have hRS : S22 = tgt.2 := pr2 hR
        exact g_iret X hret hlk hw hRR (congrArg (fun z => (z, V)) hRS) dX7_sheet_45
    · refine lv_iload_n X.1 X.2.1 dX7_sheet_11 rfl (lv_at hl 2 rfl) ?_
      refine lv_bipush (v := (8 : Int32)) X.1 X.2.1 dX7_sheet_12 (by decide) ?_
      refine lv_icmp_eq (tgt := 35) X.1 X.2.1 dX7_sheet_14 (by decide) (fun c23 => ?_) (fun c23 => ?_)
      · refine lv_iload_n X.1 X.2.1 dX7_sheet_35 rfl (lv_at hl 3 rfl) ?_
        refine lv_if_ge (tgt := 46) X.1 X.2.1 dX7_sheet_36 (by decide) (fun c24 => ?_) (fun c24 => ?_)
        · refine lv_iload_n X.1 X.2.1 dX7_sheet_46 rfl (lv_at hl 3 rfl) ?_
          refine lv_bipush (v := (40 : Int32)) X.1 X.2.1 dX7_sheet_47 (by decide) ?_
          refine lv_icmp_le (tgt := 58) X.1 X.2.1 dX7_sheet_49 (by decide) (fun c25 => ?_) (fun c25 => ?_)
          · refine lv_aload_n X.1 X.2.1 dX7_sheet_58 rfl (lv_at hl 0 rfl) ?_
            refine m_get X K hw 18 (by decide) q854 rfl dX7_sheet_59 ?_
            refine lv_iload_n X.1 X.2.1 dX7_sheet_62 rfl (lv_at hl 1 rfl) ?_
            refine lv_iload_n X.1 X.2.1 dX7_sheet_63 rfl (lv_at hl 2 rfl) ?_
            have hi26 : vp_in a1 4 := sh_in ez1 c2
            refine m_iast X K hw (by decide) (by decide) (fun _ => mm_e6) hi26 dX7_sheet_64 (fun S27 H locs eS27 hw => ?_)
            refine lv_aload_n X.1 X.2.1 dX7_sheet_65 rfl (lv_at hl 0 rfl) ?_
            refine m_get X K hw 19 (by decide) q855 rfl dX7_sheet_66 ?_
            refine lv_iload_n X.1 X.2.1 dX7_sheet_69 rfl (lv_at hl 1 rfl) ?_
            refine lv_iload_n X.1 X.2.1 dX7_sheet_70 rfl (lv_at hl 2 rfl) ?_
            refine lv_if_ne (tgt := 78) X.1 X.2.1 dX7_sheet_71 (by decide) (fun c28 => ?_) (fun c28 => ?_)
            · refine lv_iload_n X.1 X.2.1 dX7_sheet_78 rfl (lv_at hl 3 rfl) ?_
              have hi29 : vp_in a1 4 := sh_in ez1 c2
              refine m_iast X K hw (by decide) (by decide) (fun _ => mm_e7) hi29 dX7_sheet_79 (fun S30 H locs eS30 hw => ?_)
              refine lv_iconst (v := (0 : Int32)) X.1 X.2.1 dX7_sheet_80 (by decide) ?_
              refine lv_istore (lv' := [(4, .int (0 : Int32)), (0, .ref (mm_ad G 0)), (1, .int a1), (2, .int a2), (3, .int a3)]) X.1 X.2.1 dX7_sheet_81 hl (by decide) rfl (fun ls hl => ?_)
              have j83 : ∀ (n : Nat) (S31 : tt_St) (y4_83 : Int32) (H : Heap) (locs : List Loc) (ls : Array Slot), (¬ y4_83 < 0) → lp_mu (40 : Int32) y4_83 < n → f7_sheet_L83 a1 a2 a3 n S31 y4_83 = tgt → m_W G S31 V s H locs → lv_has ls 5 [(0, .ref (mm_ad G 0)), (1, .int a1), (4, .int y4_83)] → W p l e (g_rm 2 45) s m ([.ref (mm_ad G 0), .int a1, .int a2, .int a3] : List Value).toArray below meth c H locs 0 0 (MQ below (va_Qi (fun r T => r = tgt.1 ∧ T = (tgt.2, V)) (g_Post G 10 (mm_ad G) (mm_cell G)) (g_in 10 (mm_ad G))) ([.ref (mm_ad G 0), .int a1, .int a2, .int a3] : List Value).toArray s 0 0 (g_in 10 (mm_ad G))) (F0 m 83 ls []) := by
                intro n
                induction n with
                | zero => intro S31 y4_83 H locs ls hI hm; exact absurd hm (Nat.not_lt_zero _)
                | succ n ih =>
                  intro S31 y4_83 H locs ls hI hm hF hw hl
                  refine lv_iload X.1 X.2.1 dX7_sheet_83 (lv_at hl 2 rfl) ?_
                  refine lv_bipush (v := (40 : Int32)) X.1 X.2.1 dX7_sheet_85 (by decide) ?_
                  refine lv_icmp_ge (tgt := 109) X.1 X.2.1 dX7_sheet_87 (by decide) (fun c32 => ?_) (fun c32 => ?_)
                  · refine lv_aload_n X.1 X.2.1 dX7_sheet_109 rfl (lv_at hl 0 rfl) ?_
                    refine m_get X K hw 19 (by decide) q855 rfl dX7_sheet_110 ?_
                    refine lv_iload_n X.1 X.2.1 dX7_sheet_113 rfl (lv_at hl 1 rfl) ?_
                    have hi33 : vp_in a1 4 := sh_in ez1 c2
                    refine g_iald X K hw (by decide) mm_e7 hi33 dX7_sheet_114 ?_
                    have hR : (S31 7 a1.toNatClampNeg, S31) = tgt := by
                      rw [← hF]
                      simp only [f7_sheet_L83, if_pos c32]
                    have hRR : S31 7 a1.toNatClampNeg = tgt.1 := pr1 hR
                    have hRS : S31 = tgt.2 := pr2 hR
                    exact g_iret X hret hlk hw hRR (congrArg (fun z => (z, V)) hRS) dX7_sheet_115
                  · refine lv_aload_n X.1 X.2.1 dX7_sheet_90 rfl (lv_at hl 0 rfl) ?_
                    refine m_get X K hw 20 (by decide) q856 rfl dX7_sheet_91 ?_
                    refine lv_bipush (v := (40 : Int32)) X.1 X.2.1 dX7_sheet_94 (by decide) ?_
                    refine lv_iload_n X.1 X.2.1 dX7_sheet_96 rfl (lv_at hl 1 rfl) ?_
                    refine lv_imul X.1 X.2.1 dX7_sheet_97 ?_
                    refine lv_iload X.1 X.2.1 dX7_sheet_98 (lv_at hl 2 rfl) ?_
                    refine lv_iadd X.1 X.2.1 dX7_sheet_100 ?_
                    refine lv_iconst (v := (0 : Int32)) X.1 X.2.1 dX7_sheet_101 (by decide) ?_
                    have hi34 : vp_in (((40 : Int32) * a1) + y4_83) 160 := nm_in (sh_in ez1 c2) (lp_in hI c32 (by decide))
                    refine m_iast X K hw (by decide) (by decide) (fun _ => mm_e8) hi34 dX7_sheet_102 (fun S35 H locs eS35 hw => ?_)
                    obtain ⟨x36, ex36⟩ : ∃ y : Int32, y = y4_83 + (1 : Int32) := ⟨_, rfl⟩
                    refine lv_iinc (v := x36) (lv' := [(4, .int x36), (0, .ref (mm_ad G 0)), (1, .int a1)]) X.1 X.2.1 dX7_sheet_103 hl (k := 2) rfl (by rw [ex36]; rfl) (by decide) rfl (fun ls hl => ?_)
                    refine lv_goto (tgt := 83) X.1 X.2.1 dX7_sheet_106 (by decide) ?_
                    have hF2 : f7_sheet_L83 a1 a2 a3 n S35 x36 = tgt := by
                      rw [← hF]
                      subst eS35 ex36
                      simp only [f7_sheet_L83, if_neg c32]
                    exact ih S35 x36 _ _ ls (by rw [ex36]; exact lp_nn hI c32) (by rw [ex36]; exact lp_dec' c32 hm) hF2 hw (lv_sub hl [1, 2, 0] rfl)
              have hF2 : f7_sheet_L83 a1 a2 a3 (lp_mu (40 : Int32) 0 + 1) S30 (0 : Int32) = tgt := by
                rw [← hF]
                subst ez1 eS27 eS30
                simp only [f7_sheet, if_neg c2, if_neg c5, if_pos c23, if_pos c24, if_pos c25]
              exact j83 (lp_mu (40 : Int32) 0 + 1) S30 (0 : Int32) _ _ ls (by decide) (Nat.lt_succ_self _) hF2 hw (lv_sub hl [1, 2, 0] rfl)
            · exact absurd c28 c5
          · refine lv_aload_n X.1 X.2.1 dX7_sheet_52 rfl (lv_at hl 0 rfl) ?_
            refine lv_iconst (v := (0 : Int32)) X.1 X.2.1 dX7_sheet_53 (by decide) ?_
            refine m_callVI_s X K hw (k_X7_finds l G S V (0 : Int32) (by unfold vp_in; decide)) (g_cwV X hiX7_finds q912 q914 q29 q74 q915 ⟨(Nat.le_of_ble_eq_true rfl), (Nat.le_of_ble_eq_true rfl)⟩) rfl hl.1 rfl (Nat.le_of_ble_eq_true rfl) dX7_sheet_54 ⟨(Nat.le_of_ble_eq_true rfl), (Nat.le_of_ble_eq_true rfl)⟩ (fun z37 S38 H locs ez37 eS38 hw => ?_)
            have hR : (z37, S38) = tgt := by
              rw [← hF]
              subst ez1 ez37 eS38
              simp only [f7_sheet, if_neg c2, if_neg c5, if_pos c23, if_pos c24, if_neg c25]
            have hRR : z37 = tgt.1 := pr1 hR
            have hRS : S38 = tgt.2 := pr2 hR
            exact g_iret X hret hlk hw hRR (congrArg (fun z => (z, V)) hRS) dX7_sheet_57
        · refine lv_aload_n X.1 X.2.1 dX7_sheet_39 rfl (lv_at hl 0 rfl) ?_
          refine lv_bipush (v := (6 : Int32)) X.1 X.2.1 dX7_sheet_40 (by decide) ?_
          refine m_callVI_s X K hw (k_X7_finds l G S V (6 : Int32) (by unfold vp_in; decide)) (g_cwV X hiX7_finds q912 q914 q29 q74 q915 ⟨(Nat.le_of_ble_eq_true rfl), (Nat.le_of_ble_eq_true rfl)⟩) rfl hl.1 rfl (Nat.le_of_ble_eq_true rfl) dX7_sheet_42 ⟨(Nat.le_of_ble_eq_true rfl), (Nat.le_of_ble_eq_true rfl)⟩ (fun z39 S40 H locs ez39 eS40 hw => ?_)
          have hR : (z39, S40) = tgt := by
            rw [← hF]
            subst ez1 ez39 eS40
            simp only [f7_sheet, if_neg c2, if_neg c5, if_pos c23, if_neg c24]
          have hRR : z39 = tgt.1 := pr1 hR
          have hRS : S40 = tgt.2 := pr2 hR
          exact g_iret X hret hlk hw hRR (congrArg (fun z => (z, V)) hRS) dX7_sheet_45
      · refine lv_iload_n X.1 X.2.1 dX7_sheet_17 rfl (lv_at hl 2 rfl) ?_
        refine lv_bipush (v := (16 : Int32)) X.1 X.2.1 dX7_sheet_18 (by decide) ?_
        refine lv_icmp_eq (tgt := 35) X.1 X.2.1 dX7_sheet_20 (by decide) (fun c41 => ?_) (fun c41 => ?_)
        · refine lv_iload_n X.1 X.2.1 dX7_sheet_35 rfl (lv_at hl 3 rfl) ?_
          refine lv_if_ge (tgt := 46) X.1 X.2.1 dX7_sheet_36 (by decide) (fun c42 => ?_) (fun c42 => ?_)
          · refine lv_iload_n X.1 X.2.1 dX7_sheet_46 rfl (lv_at hl 3 rfl) ?_
            refine lv_bipush (v := (40 : Int32)) X.1 X.2.1 dX7_sheet_47 (by decide) ?_
            refine lv_icmp_le (tgt := 58) X.1 X.2.1 dX7_sheet_49 (by decide) (fun c43 => ?_) (fun c43 => ?_)
            · refine lv_aload_n X.1 X.2.1 dX7_sheet_58 rfl (lv_at hl 0 rfl) ?_
              refine m_get X K hw 18 (by decide) q854 rfl dX7_sheet_59 ?_
              refine lv_iload_n X.1 X.2.1 dX7_sheet_62 rfl (lv_at hl 1 rfl) ?_
              refine lv_iload_n X.1 X.2.1 dX7_sheet_63 rfl (lv_at hl 2 rfl) ?_
              have hi44 : vp_in a1 4 := sh_in ez1 c2
              refine m_iast X K hw (by decide) (by decide) (fun _ => mm_e6) hi44 dX7_sheet_64 (fun S45 H locs eS45 hw => ?_)
              refine lv_aload_n X.1 X.2.1 dX7_sheet_65 rfl (lv_at hl 0 rfl) ?_
              refine m_get X K hw 19 (by decide) q855 rfl dX7_sheet_66 ?_
              refine lv_iload_n X.1 X.2.1 dX7_sheet_69 rfl (lv_at hl 1 rfl) ?_
              refine lv_iload_n X.1 X.2.1 dX7_sheet_70 rfl (lv_at hl 2 rfl) ?_
              refine lv_if_ne (tgt := 78) X.1 X.2.1 dX7_sheet_71 (by decide) (fun c46 => ?_) (fun c46 => ?_)
              · refine lv_iload_n X.1 X.2.1 dX7_sheet_78 rfl (lv_at hl 3 rfl) ?_
                have hi47 : vp_in a1 4 := sh_in ez1 c2
                refine m_iast X K hw (by decide) (by decide) (fun _ => mm_e7) hi47 dX7_sheet_79 (fun S48 H locs eS48 hw => ?_)
                refine lv_iconst (v := (0 : Int32)) X.1 X.2.1 dX7_sheet_80 (by decide) ?_
                refine lv_istore (lv' := [(4, .int (0 : Int32)), (0, .ref (mm_ad G 0)), (1, .int a1), (2, .int a2), (3, .int a3)]) X.1 X.2.1 dX7_sheet_81 hl (by decide) rfl (fun ls hl => ?_)
                have j83 : ∀ (n : Nat) (S49 : tt_St) (y4_83 : Int32) (H : Heap) (locs : List Loc) (ls : Array Slot), (¬ y4_83 < 0) → lp_mu (40 : Int32) y4_83 < n → f7_sheet_L83 a1 a2 a3 n S49 y4_83 = tgt → m_W G S49 V s H locs → lv_has ls 5 [(0, .ref (mm_ad G 0)), (1, .int a1), (4, .int y4_83)] → W p l e (g_rm 2 45) s m ([.ref (mm_ad G 0), .int a1, .int a2, .int a3] : List Value).toArray below meth c H locs 0 0 (MQ below (va_Qi (fun r T => r = tgt.1 ∧ T = (tgt.2, V)) (g_Post G 10 (mm_ad G) (mm_cell G)) (g_in 10 (mm_ad G))) ([.ref (mm_ad G 0), .int a1, .int a2, .int a3] : List Value).toArray s 0 0 (g_in 10 (mm_ad G))) (F0 m 83 ls []) := by
                  intro n
                  induction n with
                  | zero => intro S49 y4_83 H locs ls hI hm; exact absurd hm (Nat.not_lt_zero _)
                  | succ n ih =>
                    intro S49 y4_83 H locs ls hI hm hF hw hl
                    refine lv_iload X.1 X.2.1 dX7_sheet_83 (lv_at hl 2 rfl) ?_
                    refine lv_bipush (v := (40 : Int32)) X.1 X.2.1 dX7_sheet_85 (by decide) ?_
                    refine lv_icmp_ge (tgt := 109) X.1 X.2.1 dX7_sheet_87 (by decide) (fun c50 => ?_) (fun c50 => ?_)
                    · refine lv_aload_n X.1 X.2.1 dX7_sheet_109 rfl (lv_at hl 0 rfl) ?_
                      refine m_get X K hw 19 (by decide) q855 rfl dX7_sheet_110 ?_
                      refine lv_iload_n X.1 X.2.1 dX7_sheet_113 rfl (lv_at hl 1 rfl) ?_
                      have hi51 : vp_in a1 4 := sh_in ez1 c2
                      refine g_iald X K hw (by decide) mm_e7 hi51 dX7_sheet_114 ?_
                      have hR : (S49 7 a1.toNatClampNeg, S49) = tgt := by
                        rw [← hF]
                        simp only [f7_sheet_L83, if_pos c50]
                      have hRR : S49 7 a1.toNatClampNeg = tgt.1 := pr1 hR
                      have hRS : S49 = tgt.2 := pr2 hR
                      exact g_iret X hret hlk hw hRR (congrArg (fun z => (z, V)) hRS) dX7_sheet_115
                    · refine lv_aload_n X.1 X.2.1 dX7_sheet_90 rfl (lv_at hl 0 rfl) ?_
                      refine m_get X K hw 20 (by decide) q856 rfl dX7_sheet_91 ?_
                      refine lv_bipush (v := (40 : Int32)) X.1 X.2.1 dX7_sheet_94 (by decide) ?_
                      refine lv_iload_n X.1 X.2.1 dX7_sheet_96 rfl (lv_at hl 1 rfl) ?_
                      refine lv_imul X.1 X.2.1 dX7_sheet_97 ?_
                      refine lv_iload X.1 X.2.1 dX7_sheet_98 (lv_at hl 2 rfl) ?_
                      refine lv_iadd X.1 X.2.1 dX7_sheet_100 ?_
                      refine lv_iconst (v := (0 : Int32)) X.1 X.2.1 dX7_sheet_101 (by decide) ?_
                      have hi52 : vp_in (((40 : Int32) * a1) + y4_83) 160 := nm_in (sh_in ez1 c2) (lp_in hI c50 (by decide))
                      refine m_iast X K hw (by decide) (by decide) (fun _ => mm_e8) hi52 dX7_sheet_102 (fun S53 H locs eS53 hw => ?_)
                      obtain ⟨x54, ex54⟩ : ∃ y : Int32, y = y4_83 + (1 : Int32) := ⟨_, rfl⟩
                      refine lv_iinc (v := x54) (lv' := [(4, .int x54), (0, .ref (mm_ad G 0)), (1, .int a1)]) X.1 X.2.1 dX7_sheet_103 hl (k := 2) rfl (by rw [ex54]; rfl) (by decide) rfl (fun ls hl => ?_)
                      refine lv_goto (tgt := 83) X.1 X.2.1 dX7_sheet_106 (by decide) ?_
                      have hF2 : f7_sheet_L83 a1 a2 a3 n S53 x54 = tgt := by
                        rw [← hF]
                        subst eS53 ex54
                        simp only [f7_sheet_L83, if_neg c50]
                      exact ih S53 x54 _ _ ls (by rw [ex54]; exact lp_nn hI c50) (by rw [ex54]; exact lp_dec' c50 hm) hF2 hw (lv_sub hl [1, 2, 0] rfl)
                have hF2 : f7_sheet_L83 a1 a2 a3 (lp_mu (40 : Int32) 0 + 1) S48 (0 : Int32) = tgt := by
                  rw [← hF]
                  subst ez1 eS45 eS48
                  simp only [f7_sheet, if_neg c2, if_neg c5, if_neg c23, if_pos c41, if_pos c42, if_pos c43]
                exact j83 (lp_mu (40 : Int32) 0 + 1) S48 (0 : Int32) _ _ ls (by decide) (Nat.lt_succ_self _) hF2 hw (lv_sub hl [1, 2, 0] rfl)
              · exact absurd c46 c5
            · refine lv_aload_n X.1 X.2.1 dX7_sheet_52 rfl (lv_at hl 0 rfl) ?_
              refine lv_iconst (v := (0 : Int32)) X.1 X.2.1 dX7_sheet_53 (by decide) ?_
              refine m_callVI_s X K hw (k_X7_finds l G S V (0 : Int32) (by unfold vp_in; decide)) (g_cwV X hiX7_finds q912 q914 q29 q74 q915 ⟨(Nat.le_of_ble_eq_true rfl), (Nat.le_of_ble_eq_true rfl)⟩) rfl hl.1 rfl (Nat.le_of_ble_eq_true rfl) dX7_sheet_54 ⟨(Nat.le_of_ble_eq_true rfl), (Nat.le_of_ble_eq_true rfl)⟩ (fun z55 S56 H locs ez55 eS56 hw => ?_)
              have hR : (z55, S56) = tgt := by
                rw [← hF]
                subst ez1 ez55 eS56
                simp only [f7_sheet, if_neg c2, if_neg c5, if_neg c23, if_pos c41, if_pos c42, if_neg c43]
              have hRR : z55 = tgt.1 := pr1 hR
              have hRS : S56 = tgt.2 := pr2 hR
              exact g_iret X hret hlk hw hRR (congrArg (fun z => (z, V)) hRS) dX7_sheet_57
          · refine lv_aload_n X.1 X.2.1 dX7_sheet_39 rfl (lv_at hl 0 rfl) ?_
            refine lv_bipush (v := (6 : Int32)) X.1 X.2.1 dX7_sheet_40 (by decide) ?_
            refine m_callVI_s X K hw (k_X7_finds l G S V (6 : Int32) (by unfold vp_in; decide)) (g_cwV X hiX7_finds q912 q914 q29 q74 q915 ⟨(Nat.le_of_ble_eq_true rfl), (Nat.le_of_ble_eq_true rfl)⟩) rfl hl.1 rfl (Nat.le_of_ble_eq_true rfl) dX7_sheet_42 ⟨(Nat.le_of_ble_eq_true rfl), (Nat.le_of_ble_eq_true rfl)⟩ (fun z57 S58 H locs ez57 eS58 hw => ?_)
            have hR : (z57, S58) = tgt := by
              rw [← hF]
              subst ez1 ez57 eS58
              simp only [f7_sheet, if_neg c2, if_neg c5, if_neg c23, if_pos c41, if_neg c42]
            have hRR : z57 = tgt.1 := pr1 hR
            have hRS : S58 = tgt.2 := pr2 hR
            exact g_iret X hret hlk hw hRR (congrArg (fun z => (z, V)) hRS) dX7_sheet_45
        · refine lv_iload_n X.1 X.2.1 dX7_sheet_23 rfl (lv_at hl 2 rfl) ?_
          refine lv_bipush (v := (32 : Int32)) X.1 X.2.1 dX7_sheet_24 (by decide) ?_
          refine lv_icmp_eq (tgt := 35) X.1 X.2.1 dX7_sheet_26 (by decide) (fun c59 => ?_) (fun c59 => ?_)
          · refine lv_iload_n X.1 X.2.1 dX7_sheet_35 rfl (lv_at hl 3 rfl) ?_
            refine lv_if_ge (tgt := 46) X.1 X.2.1 dX7_sheet_36 (by decide) (fun c60 => ?_) (fun c60 => ?_)
            · refine lv_iload_n X.1 X.2.1 dX7_sheet_46 rfl (lv_at hl 3 rfl) ?_
              refine lv_bipush (v := (40 : Int32)) X.1 X.2.1 dX7_sheet_47 (by decide) ?_
              refine lv_icmp_le (tgt := 58) X.1 X.2.1 dX7_sheet_49 (by decide) (fun c61 => ?_) (fun c61 => ?_)
              · refine lv_aload_n X.1 X.2.1 dX7_sheet_58 rfl (lv_at hl 0 rfl) ?_
                refine m_get X K hw 18 (by decide) q854 rfl dX7_sheet_59 ?_
                refine lv_iload_n X.1 X.2.1 dX7_sheet_62 rfl (lv_at hl 1 rfl) ?_
                refine lv_iload_n X.1 X.2.1 dX7_sheet_63 rfl (lv_at hl 2 rfl) ?_
                have hi62 : vp_in a1 4 := sh_in ez1 c2
                refine m_iast X K hw (by decide) (by decide) (fun _ => mm_e6) hi62 dX7_sheet_64 (fun S63 H locs eS63 hw => ?_)
                refine lv_aload_n X.1 X.2.1 dX7_sheet_65 rfl (lv_at hl 0 rfl) ?_
                refine m_get X K hw 19 (by decide) q855 rfl dX7_sheet_66 ?_
                refine lv_iload_n X.1 X.2.1 dX7_sheet_69 rfl (lv_at hl 1 rfl) ?_
                refine lv_iload_n X.1 X.2.1 dX7_sheet_70 rfl (lv_at hl 2 rfl) ?_
                refine lv_if_ne (tgt := 78) X.1 X.2.1 dX7_sheet_71 (by decide) (fun c64 => ?_) (fun c64 => ?_)
                · refine lv_iload_n X.1 X.2.1 dX7_sheet_78 rfl (lv_at hl 3 rfl) ?_
                  have hi65 : vp_in a1 4 := sh_in ez1 c2
                  refine m_iast X K hw (by decide) (by decide) (fun _ => mm_e7) hi65 dX7_sheet_79 (fun S66 H locs eS66 hw => ?_)
                  refine lv_iconst (v := (0 : Int32)) X.1 X.2.1 dX7_sheet_80 (by decide) ?_
                  refine lv_istore (lv' := [(4, .int (0 : Int32)), (0, .ref (mm_ad G 0)), (1, .int a1), (2, .int a2), (3, .int a3)]) X.1 X.2.1 dX7_sheet_81 hl (by decide) rfl (fun ls hl => ?_)
                  have j83 : ∀ (n : Nat) (S67 : tt_St) (y4_83 : Int32) (H : Heap) (locs : List Loc) (ls : Array Slot), (¬ y4_83 < 0) → lp_mu (40 : Int32) y4_83 < n → f7_sheet_L83 a1 a2 a3 n S67 y4_83 = tgt → m_W G S67 V s H locs → lv_has ls 5 [(0, .ref (mm_ad G 0)), (1, .int a1), (4, .int y4_83)] → W p l e (g_rm 2 45) s m ([.ref (mm_ad G 0), .int a1, .int a2, .int a3] : List Value).toArray below meth c H locs 0 0 (MQ below (va_Qi (fun r T => r = tgt.1 ∧ T = (tgt.2, V)) (g_Post G 10 (mm_ad G) (mm_cell G)) (g_in 10 (mm_ad G))) ([.ref (mm_ad G 0), .int a1, .int a2, .int a3] : List Value).toArray s 0 0 (g_in 10 (mm_ad G))) (F0 m 83 ls []) := by
                    intro n
                    induction n with
                    | zero => intro S67 y4_83 H locs ls hI hm; exact absurd hm (Nat.not_lt_zero _)
                    | succ n ih =>
                      intro S67 y4_83 H locs ls hI hm hF hw hl
                      refine lv_iload X.1 X.2.1 dX7_sheet_83 (lv_at hl 2 rfl) ?_
                      refine lv_bipush (v := (40 : Int32)) X.1 X.2.1 dX7_sheet_85 (by decide) ?_
                      refine lv_icmp_ge (tgt := 109) X.1 X.2.1 dX7_sheet_87 (by decide) (fun c68 => ?_) (fun c68 => ?_)
                      · refine lv_aload_n X.1 X.2.1 dX7_sheet_109 rfl (lv_at hl 0 rfl) ?_
                        refine m_get X K hw 19 (by decide) q855 rfl dX7_sheet_110 ?_
                        refine lv_iload_n X.1 X.2.1 dX7_sheet_113 rfl (lv_at hl 1 rfl) ?_
                        have hi69 : vp_in a1 4 := sh_in ez1 c2
                        refine g_iald X K hw (by decide) mm_e7 hi69 dX7_sheet_114 ?_
                        have hR : (S67 7 a1.toNatClampNeg, S67) = tgt := by
                          rw [← hF]
                          simp only [f7_sheet_L83, if_pos c68]
                        have hRR : S67 7 a1.toNatClampNeg = tgt.1 := pr1 hR
                        have hRS : S67 = tgt.2 := pr2 hR
                        exact g_iret X hret hlk hw hRR (congrArg (fun z => (z, V)) hRS) dX7_sheet_115
                      · refine lv_aload_n X.1 X.2.1 dX7_sheet_90 rfl (lv_at hl 0 rfl) ?_
                        refine m_get X K hw 20 (by decide) q856 rfl dX7_sheet_91 ?_
                        refine lv_bipush (v := (40 : Int32)) X.1 X.2.1 dX7_sheet_94 (by decide) ?_
                        refine lv_iload_n X.1 X.2.1 dX7_sheet_96 rfl (lv_at hl 1 rfl) ?_
                        refine lv_imul X.1 X.2.1 dX7_sheet_97 ?_
                        refine lv_iload X.1 X.2.1 dX7_sheet_98 (lv_at hl 2 rfl) ?_
                        refine lv_iadd X.1 X.2.1 dX7_sheet_100 ?_
                        refine lv_iconst (v := (0 : Int32)) X.1 X.2.1 dX7_sheet_101 (by decide) ?_
                        have hi70 : vp_in (((40 : Int32) * a1) + y4_83) 160 := nm_in (sh_in ez1 c2) (lp_in hI c68 (by decide))
                        refine m_iast X K hw (by decide) (by decide) (fun _ => mm_e8) hi70 dX7_sheet_102 (fun S71 H locs eS71 hw => ?_)
                        obtain ⟨x72, ex72⟩ : ∃ y : Int32, y = y4_83 + (1 : Int32) := ⟨_, rfl⟩
                        refine lv_iinc (v := x72) (lv' := [(4, .int x72), (0, .ref (mm_ad G 0)), (1, .int a1)]) X.1 X.2.1 dX7_sheet_103 hl (k := 2) rfl (by rw [ex72]; rfl) (by decide) rfl (fun ls hl => ?_)
                        refine lv_goto (tgt := 83) X.1 X.2.1 dX7_sheet_106 (by decide) ?_
                        have hF2 : f7_sheet_L83 a1 a2 a3 n S71 x72 = tgt := by
                          rw [← hF]
                          subst eS71 ex72
                          simp only [f7_sheet_L83, if_neg c68]
                        exact ih S71 x72 _ _ ls (by rw [ex72]; exact lp_nn hI c68) (by rw [ex72]; exact lp_dec' c68 hm) hF2 hw (lv_sub hl [1, 2, 0] rfl)
                  have hF2 : f7_sheet_L83 a1 a2 a3 (lp_mu (40 : Int32) 0 + 1) S66 (0 : Int32) = tgt := by
                    rw [← hF]
                    subst ez1 eS63 eS66
                    simp only [f7_sheet, if_neg c2, if_neg c5, if_neg c23, if_neg c41, if_pos c59, if_pos c60, if_pos c61]
                  exact j83 (lp_mu (40 : Int32) 0 + 1) S66 (0 : Int32) _ _ ls (by decide) (Nat.lt_succ_self _) hF2 hw (lv_sub hl [1, 2, 0] rfl)
                · exact absurd c64 c5
              · refine lv_aload_n X.1 X.2.1 dX7_sheet_52 rfl (lv_at hl 0 rfl) ?_
                refine lv_iconst (v := (0 : Int32)) X.1 X.2.1 dX7_sheet_53 (by decide) ?_
                refine m_callVI_s X K hw (k_X7_finds l G S V (0 : Int32) (by unfold vp_in; decide)) (g_cwV X hiX7_finds q912 q914 q29 q74 q915 ⟨(Nat.le_of_ble_eq_true rfl), (Nat.le_of_ble_eq_true rfl)⟩) rfl hl.1 rfl (Nat.le_of_ble_eq_true rfl) dX7_sheet_54 ⟨(Nat.le_of_ble_eq_true rfl), (Nat.le_of_ble_eq_true rfl)⟩ (fun z73 S74 H locs ez73 eS74 hw => ?_)
                have hR : (z73, S74) = tgt := by
                  rw [← hF]
                  subst ez1 ez73 eS74
                  simp only [f7_sheet, if_neg c2, if_neg c5, if_neg c23, if_neg c41, if_pos c59, if_pos c60, if_neg c61]
                have hRR : z73 = tgt.1 := pr1 hR
                have hRS : S74 = tgt.2 := pr2 hR
                exact g_iret X hret hlk hw hRR (congrArg (fun z => (z, V)) hRS) dX7_sheet_57
            · refine lv_aload_n X.1 X.2.1 dX7_sheet_39 rfl (lv_at hl 0 rfl) ?_
              refine lv_bipush (v := (6 : Int32)) X.1 X.2.1 dX7_sheet_40 (by decide) ?_
              refine m_callVI_s X K hw (k_X7_finds l G S V (6 : Int32) (by unfold vp_in; decide)) (g_cwV X hiX7_finds q912 q914 q29 q74 q915 ⟨(Nat.le_of_ble_eq_true rfl), (Nat.le_of_ble_eq_true rfl)⟩) rfl hl.1 rfl (Nat.le_of_ble_eq_true rfl) dX7_sheet_42 ⟨(Nat.le_of_ble_eq_true rfl), (Nat.le_of_ble_eq_true rfl)⟩ (fun z75 S76 H locs ez75 eS76 hw => ?_)
              have hR : (z75, S76) = tgt := by
                rw [← hF]
                subst ez1 ez75 eS76
                simp only [f7_sheet, if_neg c2, if_neg c5, if_neg c23, if_neg c41, if_pos c59, if_neg c60]
              have hRR : z75 = tgt.1 := pr1 hR
              have hRS : S76 = tgt.2 := pr2 hR
              exact g_iret X hret hlk hw hRR (congrArg (fun z => (z, V)) hRS) dX7_sheet_45
          · refine lv_aload_n X.1 X.2.1 dX7_sheet_29 rfl (lv_at hl 0 rfl) ?_
            refine lv_iconst (v := (0 : Int32)) X.1 X.2.1 dX7_sheet_30 (by decide) ?_
            refine m_callVI_s X K hw (k_X7_finds l G S V (0 : Int32) (by unfold vp_in; decide)) (g_cwV X hiX7_finds q912 q914 q29 q74 q915 ⟨(Nat.le_of_ble_eq_true rfl), (Nat.le_of_ble_eq_true rfl)⟩) rfl hl.1 rfl (Nat.le_of_ble_eq_true rfl) dX7_sheet_31 ⟨(Nat.le_of_ble_eq_true rfl), (Nat.le_of_ble_eq_true rfl)⟩ (fun z77 S78 H locs ez77 eS78 hw => ?_)
            have hR : (z77, S78) = tgt := by
              rw [← hF]
              subst ez1 ez77 eS78
              simp only [f7_sheet, if_neg c2, if_neg c5, if_neg c23, if_neg c41, if_neg c59]
            have hRR : z77 = tgt.1 := pr1 hR
            have hRS : S78 = tgt.2 := pr2 hR
            exact g_iret X hret hlk hw hRR (congrArg (fun z => (z, V)) hRS) dX7_sheet_34
set_option maxHeartbeats 4000000 in
set_option maxRecDepth 10000 in
theorem k_X7_write (l : Launch) (G : tt_G) (S : tt_St) (V : Int64) (a1 : Int32) (a2 : Int32) (a3 : Int32) (hp0 : mi S) : m_MI l G yX7_write (g_code yX7_write cX7_write 4 (some FieldType.int)) 2 45 [.ref (mm_ad G 0), .int a1, .int a2, .int a3] S V ((f7_write S a1 a2 a3).1) ((f7_write S a1 a2 a3).2) V := by
  generalize hF : f7_write S a1 a2 a3 = tgt
  refine g_begin rfl (Nat.le_of_ble_eq_true rfl) _ (fun p e s m below meth c ls X hret hlk hB hl => ?_)
  obtain ⟨hP0, K⟩ := hB
  have hw : m_W G S V s s.heap [] := ⟨hP0, va_S.rf⟩
  have X : CallFix p m c cX7_write 4 s ([.ref (mm_ad G 0), .int a1, .int a2, .int a3] : List Value).toArray tt_T "TrustTinModel" := X
  have hl : lv_has ls 4 [(0, .ref (mm_ad G 0)), (1, .int a1), (2, .int a2), (3, .int a3)] := hl
  refine lv_iload_n X.1 X.2.1 dX7_write_0 rfl (lv_at hl 1 rfl) ?_
  refine m_callSI_p X K hw (k_X7_isSheet l G S V a1) (g_cwS X hiX7_isSheet q1250 q1251 q74 q1252 ⟨(Nat.le_of_ble_eq_true rfl), (Nat.le_of_ble_eq_true rfl)⟩) rfl hl.1 rfl (Nat.le_of_ble_eq_true rfl) dX7_write_1 ⟨(Nat.le_of_ble_eq_true rfl), (Nat.le_of_ble_eq_true rfl)⟩ (fun z1 H locs ez1 hw => ?_)
  refine lv_if_ne (tgt := 13) X.1 X.2.1 dX7_write_4 (by decide) (fun c2 => ?_) (fun c2 => ?_)
  · refine lv_aload_n X.1 X.2.1 dX7_write_13 rfl (lv_at hl 0 rfl) ?_
    refine m_get X K hw 18 (by decide) q854 rfl dX7_write_14 ?_
    refine lv_iload_n X.1 X.2.1 dX7_write_17 rfl (lv_at hl 1 rfl) ?_
    have hi3 : vp_in a1 4 := sh_in ez1 c2
    refine g_iald X K hw (by decide) mm_e6 hi3 dX7_write_18 ?_
    refine lv_if_ne (tgt := 28) X.1 X.2.1 dX7_write_19 (by decide) (fun c4 => ?_) (fun c4 => ?_)
    · refine lv_iload_n X.1 X.2.1 dX7_write_28 rfl (lv_at hl 2 rfl) ?_
      refine lv_i2l X.1 X.2.1 dX7_write_29 rfl ?_
      refine lv_lconst (v := (0 : Int64)) X.1 X.2.1 dX7_write_30 (by decide) ?_
      refine lv_aload_n X.1 X.2.1 dX7_write_31 rfl (lv_at hl 0 rfl) ?_
      refine m_get X K hw 19 (by decide) q855 rfl dX7_write_32 ?_
      refine lv_iload_n X.1 X.2.1 dX7_write_35 rfl (lv_at hl 1 rfl) ?_
      have hi5 : vp_in a1 4 := sh_in ez1 c2
      refine g_iald X K hw (by decide) mm_e7 hi5 dX7_write_36 ?_
      refine lv_iconst (v := (1 : Int32)) X.1 X.2.1 dX7_write_37 (by decide) ?_
      refine lv_isub X.1 X.2.1 dX7_write_38 ?_
      refine lv_i2l X.1 X.2.1 dX7_write_39 rfl ?_
      refine m_callSI_p X K hw (k_X7_in l G S V a2.toInt64 (0 : Int64) (((S 7 a1.toNatClampNeg) - (1 : Int32)).toInt64)) (g_cwS X hiX7_in q908 q909 q74 q910 ⟨(Nat.le_of_ble_eq_true rfl), (Nat.le_of_ble_eq_true rfl)⟩) rfl hl.1 rfl (Nat.le_of_ble_eq_true rfl) dX7_write_40 ⟨(Nat.le_of_ble_eq_true rfl), (Nat.le_of_ble_eq_true rfl)⟩ (fun z6 H locs ez6 hw => ?_)
      refine lv_if_ne (tgt := 52) X.1 X.2.1 dX7_write_43 (by decide) (fun c7 => ?_) (fun c7 => ?_)
      · refine lv_aload_n X.1 X.2.1 dX7_write_52 rfl (lv_at hl 0 rfl) ?_
        refine m_get X K hw 20 (by decide) q856 rfl dX7_write_53 ?_
        refine lv_bipush (v := (40 : Int32)) X.1 X.2.1 dX7_write_56 (by decide) ?_
        refine lv_iload_n X.1 X.2.1 dX7_write_58 rfl (lv_at hl 1 rfl) ?_
        refine lv_imul X.1 X.2.1 dX7_write_59 ?_
        refine lv_iload_n X.1 X.2.1 dX7_write_60 rfl (lv_at hl 2 rfl) ?_
        refine lv_iadd X.1 X.2.1 dX7_write_61 ?_
        refine lv_aload_n X.1 X.2.1 dX7_write_62 rfl (lv_at hl 0 rfl) ?_
        refine m_get X K hw 18 (by decide) q854 rfl dX7_write_63 ?_
        refine lv_iload_n X.1 X.2.1 dX7_write_66 rfl (lv_at hl 1 rfl) ?_
        have hi8 : vp_in a1 4 := sh_in ez1 c2
        refine g_iald X K hw (by decide) mm_e6 hi8 dX7_write_67 ?_
        refine lv_bipush (v := (8 : Int32)) X.1 X.2.1 dX7_write_68 (by decide) ?_
        refine lv_icmp_ne (tgt := 78) X.1 X.2.1 dX7_write_70 (by decide) (fun c9 => ?_) (fun c9 => ?_)
        · refine lv_aload_n X.1 X.2.1 dX7_write_78 rfl (lv_at hl 0 rfl) ?_
          refine m_get X K hw 18 (by decide) q854 rfl dX7_write_79 ?_
          refine lv_iload_n X.1 X.2.1 dX7_write_82 rfl (lv_at hl 1 rfl) ?_
          have hi10 : vp_in a1 4 := sh_in ez1 c2
          refine g_iald X K hw (by decide) mm_e6 hi10 dX7_write_83 ?_
          refine lv_bipush (v := (16 : Int32)) X.1 X.2.1 dX7_write_84 (by decide) ?_
          refine lv_icmp_ne (tgt := 94) X.1 X.2.1 dX7_write_86 (by decide) (fun c11 => ?_) (fun c11 => ?_)
          · refine lv_iload_n X.1 X.2.1 dX7_write_94 rfl (lv_at hl 3 rfl) ?_
            have hi12 : vp_in (((40 : Int32) * a1) + a2) 160 := nm_in (sh_in ez1 c2) (wr_in hp0 (sh_in ez1 c2) ez6 c7)
            refine m_iast X K hw (by decide) (by decide) (fun _ => mm_e8) hi12 dX7_write_95 (fun S13 H locs eS13 hw => ?_)
            refine lv_iconst (v := (1 : Int32)) X.1 X.2.1 dX7_write_96 (by decide) ?_
            have hR : ((1 : Int32), S13) = tgt := by
              rw [← hF]
              subst ez1 ez6 eS13
              simp only [f7_write, if_neg c2, if_neg c4, if_neg c7, if_neg c9, if_neg c11]
            have hRR : (1 : Int32) = tgt.1 := pr1 hR
            have hRS : S13 = tgt.2 := pr2 hR
            exact g_iret X hret hlk hw hRR (congrArg (fun z => (z, V)) hRS) dX7_write_97
          · refine lv_iload_n X.1 X.2.1 dX7_write_89 rfl (lv_at hl 3 rfl) ?_
            refine lv_i2s X.1 X.2.1 dX7_write_90 rfl ?_
            refine lv_goto (tgt := 95) X.1 X.2.1 dX7_write_91 (by decide) ?_
            refine lv_topi (fun x14 ex14 => ?_)
            have hi15 : vp_in (((40 : Int32) * a1) + a2) 160 := nm_in (sh_in ez1 c2) (wr_in hp0 (sh_in ez1 c2) ez6 c7)
            refine m_iast X K hw (by decide) (by decide) (fun _ => mm_e8) hi15 dX7_write_95 (fun S16 H locs eS16 hw => ?_)
            refine lv_iconst (v := (1 : Int32)) X.1 X.2.1 dX7_write_96 (by decide) ?_
            have hR : ((1 : Int32), S16) = tgt := by
              rw [← hF]
              subst ez1 ez6 ex14 eS16
              simp only [f7_write, if_neg c2, if_neg c4, if_neg c7, if_neg c9, if_pos c11]
            have hRR : (1 : Int32) = tgt.1 := pr1 hR
            have hRS : S16 = tgt.2 := pr2 hR
            exact g_iret X hret hlk hw hRR (congrArg (fun z => (z, V)) hRS) dX7_write_97
        · refine lv_iload_n X.1 X.2.1 dX7_write_73 rfl (lv_at hl 3 rfl) ?_
          refine lv_i2b X.1 X.2.1 dX7_write_74 rfl ?_
          refine lv_goto (tgt := 95) X.1 X.2.1 dX7_write_75 (by decide) ?_
          refine lv_topi (fun x17 ex17 => ?_)
          have hi18 : vp_in (((40 : Int32) * a1) + a2) 160 := nm_in (sh_in ez1 c2) (wr_in hp0 (sh_in ez1 c2) ez6 c7)
          refine m_iast X K hw (by decide) (by decide) (fun _ => mm_e8) hi18 dX7_write_95 (fun S19 H locs eS19 hw => ?_)
          refine lv_iconst (v := (1 : Int32)) X.1 X.2.1 dX7_write_96 (by decide) ?_
          have hR : ((1 : Int32), S19) = tgt := by
            rw [← hF]
            subst ez1 ez6 ex17 eS19
            simp only [f7_write, if_neg c2, if_neg c4, if_neg c7, if_pos c9]
          have hRR : (1 : Int32) = tgt.1 := pr1 hR
          have hRS : S19 = tgt.2 := pr2 hR
          exact g_iret X hret hlk hw hRR (congrArg (fun z => (z, V)) hRS) dX7_write_97
      · refine lv_aload_n X.1 X.2.1 dX7_write_46 rfl (lv_at hl 0 rfl) ?_
        refine lv_iconst (v := (0 : Int32)) X.1 X.2.1 dX7_write_47 (by decide) ?_
        refine m_callVI_s X K hw (k_X7_finds l G S V (0 : Int32) (by unfold vp_in; decide)) (g_cwV X hiX7_finds q912 q914 q29 q74 q915 ⟨(Nat.le_of_ble_eq_true rfl), (Nat.le_of_ble_eq_true rfl)⟩) rfl hl.1 rfl (Nat.le_of_ble_eq_true rfl) dX7_write_48 ⟨(Nat.le_of_ble_eq_true rfl), (Nat.le_of_ble_eq_true rfl)⟩ (fun z20 S21 H locs ez20 eS21 hw => ?_)
        have hR : (z20, S21) = tgt := by
          rw [← hF]
          subst ez1 ez6 ez20 eS21
          simp only [f7_write, if_neg c2, if_neg c4, if_pos c7]
        have hRR : z20 = tgt.1 := pr1 hR
        have hRS : S21 = tgt.2 := pr2 hR
        exact g_iret X hret hlk hw hRR (congrArg (fun z => (z, V)) hRS) dX7_write_51
    · refine lv_aload_n X.1 X.2.1 dX7_write_22 rfl (lv_at hl 0 rfl) ?_
      refine lv_iconst (v := (5 : Int32)) X.1 X.2.1 dX7_write_23 (by decide) ?_
      refine m_callVI_s X K hw (k_X7_finds l G S V (5 : Int32) (by unfold vp_in; decide)) (g_cwV X hiX7_finds q912 q914 q29 q74 q915 ⟨(Nat.le_of_ble_eq_true rfl), (Nat.le_of_ble_eq_true rfl)⟩) rfl hl.1 rfl (Nat.le_of_ble_eq_true rfl) dX7_write_24 ⟨(Nat.le_of_ble_eq_true rfl), (Nat.le_of_ble_eq_true rfl)⟩ (fun z22 S23 H locs ez22 eS23 hw => ?_)
      have hR : (z22, S23) = tgt := by
        rw [← hF]
        subst ez1 ez22 eS23
        simp only [f7_write, if_neg c2, if_pos c4]
      have hRR : z22 = tgt.1 := pr1 hR
      have hRS : S23 = tgt.2 := pr2 hR
      exact g_iret X hret hlk hw hRR (congrArg (fun z => (z, V)) hRS) dX7_write_27
  · refine lv_aload_n X.1 X.2.1 dX7_write_7 rfl (lv_at hl 0 rfl) ?_
    refine lv_iconst (v := (0 : Int32)) X.1 X.2.1 dX7_write_8 (by decide) ?_
    refine m_callVI_s X K hw (k_X7_finds l G S V (0 : Int32) (by unfold vp_in; decide)) (g_cwV X hiX7_finds q912 q914 q29 q74 q915 ⟨(Nat.le_of_ble_eq_true rfl), (Nat.le_of_ble_eq_true rfl)⟩) rfl hl.1 rfl (Nat.le_of_ble_eq_true rfl) dX7_write_9 ⟨(Nat.le_of_ble_eq_true rfl), (Nat.le_of_ble_eq_true rfl)⟩ (fun z24 S25 H locs ez24 eS25 hw => ?_)
    have hR : (z24, S25) = tgt := by
      rw [← hF]
      subst ez1 ez24 eS25
      simp only [f7_write, if_pos c2]
    have hRR : z24 = tgt.1 := pr1 hR
    have hRS : S25 = tgt.2 := pr2 hR
    exact g_iret X hret hlk hw hRR (congrArg (fun z => (z, V)) hRS) dX7_write_12
set_option maxHeartbeats 4000000 in
set_option maxRecDepth 10000 in
theorem k_X7_copy (l : Launch) (G : tt_G) (S : tt_St) (V : Int64) (a1 : Int32) (a2 : Int32) (a3 : Int32) (a4 : Int32) (a5 : Int32) (hp0 : mi S) : m_MI l G yX7_copy (g_code yX7_copy cX7_copy 7 (some FieldType.int)) 2 45 [.ref (mm_ad G 0), .int a1, .int a2, .int a3, .int a4, .int a5] S V ((f7_copy S a1 a2 a3 a4 a5).1) ((f7_copy S a1 a2 a3 a4 a5).2) V := by
  generalize hF : f7_copy S a1 a2 a3 a4 a5 = tgt
  refine g_begin rfl (Nat.le_of_ble_eq_true rfl) _ (fun p e s m below meth c ls X hret hlk hB hl => ?_)
  obtain ⟨hP0, K⟩ := hB
  have hw : m_W G S V s s.heap [] := ⟨hP0, va_S.rf⟩
  have X : CallFix p m c cX7_copy 7 s ([.ref (mm_ad G 0), .int a1, .int a2, .int a3, .int a4, .int a5] : List Value).toArray tt_T "TrustTinModel" := X
  have hl : lv_has ls 7 [(0, .ref (mm_ad G 0)), (1, .int a1), (2, .int a2), (3, .int a3), (4, .int a4), (5, .int a5)] := hl
  refine lv_iload_n X.1 X.2.1 dX7_copy_0 rfl (lv_at hl 1 rfl) ?_
  refine m_callSI_p X K hw (k_X7_isSheet l G S V a1) (g_cwS X hiX7_isSheet q1250 q1251 q74 q1252 ⟨(Nat.le_of_ble_eq_true rfl), (Nat.le_of_ble_eq_true rfl)⟩) rfl hl.1 rfl (Nat.le_of_ble_eq_true rfl) dX7_copy_1 ⟨(Nat.le_of_ble_eq_true rfl), (Nat.le_of_ble_eq_true rfl)⟩ (fun z1 H locs ez1 hw => ?_)
  refine lv_if_eq (tgt := 14) X.1 X.2.1 dX7_copy_4 (by decide) (fun c2 => ?_) (fun c2 => ?_)
  · refine lv_aload_n X.1 X.2.1 dX7_copy_14 rfl (lv_at hl 0 rfl) ?_
    refine lv_iconst (v := (0 : Int32)) X.1 X.2.1 dX7_copy_15 (by decide) ?_
    refine m_callVI_s X K hw (k_X7_finds l G S V (0 : Int32) (by unfold vp_in; decide)) (g_cwV X hiX7_finds q912 q914 q29 q74 q915 ⟨(Nat.le_of_ble_eq_true rfl), (Nat.le_of_ble_eq_true rfl)⟩) rfl hl.1 rfl (Nat.le_of_ble_eq_true rfl) dX7_copy_16 ⟨(Nat.le_of_ble_eq_true rfl), (Nat.le_of_ble_eq_true rfl)⟩ (fun z3 S4 H locs ez3 eS4 hw => ?_)
    have hR : (z3, S4) = tgt := by
      rw [← hF]
      subst ez1 ez3 eS4
      simp only [f7_copy, if_pos c2]
    have hRR : z3 = tgt.1 := pr1 hR
    have hRS : S4 = tgt.2 := pr2 hR
    exact g_iret X hret hlk hw hRR (congrArg (fun z => (z, V)) hRS) dX7_copy_19
  · refine lv_iload_n X.1 X.2.1 dX7_copy_7 rfl (lv_at hl 3 rfl) ?_
    refine m_callSI_p X K hw (k_X7_isSheet l G S V a3) (g_cwS X hiX7_isSheet q1250 q1251 q74 q1252 ⟨(Nat.le_of_ble_eq_true rfl), (Nat.le_of_ble_eq_true rfl)⟩) rfl hl.1 rfl (Nat.le_of_ble_eq_true rfl) dX7_copy_8 ⟨(Nat.le_of_ble_eq_true rfl), (Nat.le_of_ble_eq_true rfl)⟩ (fun z5 H locs ez5 hw => ?_)
    refine lv_if_ne (tgt := 20) X.1 X.2.1 dX7_copy_11 (by decide) (fun c6 => ?_) (fun c6 => ?_)
    · refine lv_aload_n X.1 X.2.1 dX7_copy_20 rfl (lv_at hl 0 rfl) ?_
      refine m_get X K hw 18 (by decide) q854 rfl dX7_copy_21 ?_
      refine lv_iload_n X.1 X.2.1 dX7_copy_24 rfl (lv_at hl 1 rfl) ?_
      have hi7 : vp_in a1 4 := sh_in ez1 c2
      refine g_iald X K hw (by decide) mm_e6 hi7 dX7_copy_25 ?_
      refine lv_if_eq (tgt := 38) X.1 X.2.1 dX7_copy_26 (by decide) (fun c8 => ?_) (fun c8 => ?_)
      · refine lv_aload_n X.1 X.2.1 dX7_copy_38 rfl (lv_at hl 0 rfl) ?_
        refine lv_iconst (v := (5 : Int32)) X.1 X.2.1 dX7_copy_39 (by decide) ?_
        refine m_callVI_s X K hw (k_X7_finds l G S V (5 : Int32) (by unfold vp_in; decide)) (g_cwV X hiX7_finds q912 q914 q29 q74 q915 ⟨(Nat.le_of_ble_eq_true rfl), (Nat.le_of_ble_eq_true rfl)⟩) rfl hl.1 rfl (Nat.le_of_ble_eq_true rfl) dX7_copy_40 ⟨(Nat.le_of_ble_eq_true rfl), (Nat.le_of_ble_eq_true rfl)⟩ (fun z9 S10 H locs ez9 eS10 hw => ?_)
        have hR : (z9, S10) = tgt := by
          rw [← hF]
          subst ez1 ez5 ez9 eS10
          simp only [f7_copy, if_neg c2, if_neg c6, if_pos c8]
        have hRR : z9 = tgt.1 := pr1 hR
        have hRS : S10 = tgt.2 := pr2 hR
        exact g_iret X hret hlk hw hRR (congrArg (fun z => (z, V)) hRS) dX7_copy_43
      · refine lv_aload_n X.1 X.2.1 dX7_copy_29 rfl (lv_at hl 0 rfl) ?_
        refine m_get X K hw 18 (by decide) q854 rfl dX7_copy_30 ?_
        refine lv_iload_n X.1 X.2.1 dX7_copy_33 rfl (lv_at hl 3 rfl) ?_
        have hi11 : vp_in a3 4 := sh_in ez5 c6
        refine g_iald X K hw (by decide) mm_e6 hi11 dX7_copy_34 ?_
        refine lv_if_ne (tgt := 44) X.1 X.2.1 dX7_copy_35 (by decide) (fun c12 => ?_) (fun c12 => ?_)
        · refine lv_aload_n X.1 X.2.1 dX7_copy_44 rfl (lv_at hl 0 rfl) ?_
          refine m_get X K hw 18 (by decide) q854 rfl dX7_copy_45 ?_
          refine lv_iload_n X.1 X.2.1 dX7_copy_48 rfl (lv_at hl 1 rfl) ?_
          have hi13 : vp_in a1 4 := sh_in ez1 c2
          refine g_iald X K hw (by decide) mm_e6 hi13 dX7_copy_49 ?_
          refine lv_aload_n X.1 X.2.1 dX7_copy_50 rfl (lv_at hl 0 rfl) ?_
          refine m_get X K hw 18 (by decide) q854 rfl dX7_copy_51 ?_
          refine lv_iload_n X.1 X.2.1 dX7_copy_54 rfl (lv_at hl 3 rfl) ?_
          have hi14 : vp_in a3 4 := sh_in ez5 c6
          refine g_iald X K hw (by decide) mm_e6 hi14 dX7_copy_55 ?_
          refine lv_icmp_eq (tgt := 65) X.1 X.2.1 dX7_copy_56 (by decide) (fun c15 => ?_) (fun c15 => ?_)
          · refine lv_iload_n X.1 X.2.1 dX7_copy_65 rfl (lv_at hl 2 rfl) ?_
            refine lv_if_lt (tgt := 114) X.1 X.2.1 dX7_copy_66 (by decide) (fun c16 => ?_) (fun c16 => ?_)
            · refine lv_aload_n X.1 X.2.1 dX7_copy_114 rfl (lv_at hl 0 rfl) ?_
              refine lv_iconst (v := (0 : Int32)) X.1 X.2.1 dX7_copy_115 (by decide) ?_
              refine m_callVI_s X K hw (k_X7_finds l G S V (0 : Int32) (by unfold vp_in; decide)) (g_cwV X hiX7_finds q912 q914 q29 q74 q915 ⟨(Nat.le_of_ble_eq_true rfl), (Nat.le_of_ble_eq_true rfl)⟩) rfl hl.1 rfl (Nat.le_of_ble_eq_true rfl) dX7_copy_116 ⟨(Nat.le_of_ble_eq_true rfl), (Nat.le_of_ble_eq_true rfl)⟩ (fun z17 S18 H locs ez17 eS18 hw => ?_)
              have hR : (z17, S18) = tgt := by
                rw [← hF]
                subst ez1 ez5 ez17 eS18
                simp only [f7_copy, if_neg c2, if_neg c6, if_neg c8, if_neg c12, if_pos c15, if_pos c16]
              have hRR : z17 = tgt.1 := pr1 hR
              have hRS : S18 = tgt.2 := pr2 hR
              exact g_iret X hret hlk hw hRR (congrArg (fun z => (z, V)) hRS) dX7_copy_119
            · refine lv_iload X.1 X.2.1 dX7_copy_69 (lv_at hl 4 rfl) ?_
              refine lv_if_lt (tgt := 114) X.1 X.2.1 dX7_copy_71 (by decide) (fun c19 => ?_) (fun c19 => ?_)
              · refine lv_aload_n X.1 X.2.1 dX7_copy_114 rfl (lv_at hl 0 rfl) ?_
                refine lv_iconst (v := (0 : Int32)) X.1 X.2.1 dX7_copy_115 (by decide) ?_
                refine m_callVI_s X K hw (k_X7_finds l G S V (0 : Int32) (by unfold vp_in; decide)) (g_cwV X hiX7_finds q912 q914 q29 q74 q915 ⟨(Nat.le_of_ble_eq_true rfl), (Nat.le_of_ble_eq_true rfl)⟩) rfl hl.1 rfl (Nat.le_of_ble_eq_true rfl) dX7_copy_116 ⟨(Nat.le_of_ble_eq_true rfl), (Nat.le_of_ble_eq_true rfl)⟩ (fun z20 S21 H locs ez20 eS21 hw => ?_)
                have hR : (z20, S21) = tgt := by
                  rw [← hF]
                  subst ez1 ez5 ez20 eS21
                  simp only [f7_copy, if_neg c2, if_neg c6, if_neg c8, if_neg c12, if_pos c15, if_neg c16, if_pos c19]
                have hRR : z20 = tgt.1 := pr1 hR
                have hRS : S21 = tgt.2 := pr2 hR
                exact g_iret X hret hlk hw hRR (congrArg (fun z => (z, V)) hRS) dX7_copy_119
              · refine lv_iload X.1 X.2.1 dX7_copy_74 (lv_at hl 5 rfl) ?_
                refine lv_if_lt (tgt := 114) X.1 X.2.1 dX7_copy_76 (by decide) (fun c22 => ?_) (fun c22 => ?_)
                · refine lv_aload_n X.1 X.2.1 dX7_copy_114 rfl (lv_at hl 0 rfl) ?_
                  refine lv_iconst (v := (0 : Int32)) X.1 X.2.1 dX7_copy_115 (by decide) ?_
                  refine m_callVI_s X K hw (k_X7_finds l G S V (0 : Int32) (by unfold vp_in; decide)) (g_cwV X hiX7_finds q912 q914 q29 q74 q915 ⟨(Nat.le_of_ble_eq_true rfl), (Nat.le_of_ble_eq_true rfl)⟩) rfl hl.1 rfl (Nat.le_of_ble_eq_true rfl) dX7_copy_116 ⟨(Nat.le_of_ble_eq_true rfl), (Nat.le_of_ble_eq_true rfl)⟩ (fun z23 S24 H locs ez23 eS24 hw => ?_)
                  have hR : (z23, S24) = tgt := by
                    rw [← hF]
                    subst ez1 ez5 ez23 eS24
                    simp only [f7_copy, if_neg c2, if_neg c6, if_neg c8, if_neg c12, if_pos c15, if_neg c16, if_neg c19, if_pos c22]
                  have hRR : z23 = tgt.1 := pr1 hR
                  have hRS : S24 = tgt.2 := pr2 hR
                  exact g_iret X hret hlk hw hRR (congrArg (fun z => (z, V)) hRS) dX7_copy_119
                · refine lv_iload_n X.1 X.2.1 dX7_copy_79 rfl (lv_at hl 2 rfl) ?_
                  refine lv_i2l X.1 X.2.1 dX7_copy_80 rfl ?_
                  refine lv_iload X.1 X.2.1 dX7_copy_81 (lv_at hl 5 rfl) ?_
                  refine lv_i2l X.1 X.2.1 dX7_copy_83 rfl ?_
                  refine lv_ladd X.1 X.2.1 dX7_copy_84 ?_
                  refine lv_aload_n X.1 X.2.1 dX7_copy_85 rfl (lv_at hl 0 rfl) ?_
                  refine m_get X K hw 19 (by decide) q855 rfl dX7_copy_86 ?_
                  refine lv_iload_n X.1 X.2.1 dX7_copy_89 rfl (lv_at hl 1 rfl) ?_
                  have hi25 : vp_in a1 4 := sh_in ez1 c2
                  refine g_iald X K hw (by decide) mm_e7 hi25 dX7_copy_90 ?_
                  refine lv_i2l X.1 X.2.1 dX7_copy_91 rfl ?_
                  refine W.lcmp X.1 X.2.1 dX7_copy_92 ?_
                  refine lv_if_gt (tgt := 114) X.1 X.2.1 dX7_copy_93 (by decide) (fun c26 => ?_) (fun c26 => ?_)
                  · refine lv_aload_n X.1 X.2.1 dX7_copy_114 rfl (lv_at hl 0 rfl) ?_
                    refine lv_iconst (v := (0 : Int32)) X.1 X.2.1 dX7_copy_115 (by decide) ?_
                    refine m_callVI_s X K hw (k_X7_finds l G S V (0 : Int32) (by unfold vp_in; decide)) (g_cwV X hiX7_finds q912 q914 q29 q74 q915 ⟨(Nat.le_of_ble_eq_true rfl), (Nat.le_of_ble_eq_true rfl)⟩) rfl hl.1 rfl (Nat.le_of_ble_eq_true rfl) dX7_copy_116 ⟨(Nat.le_of_ble_eq_true rfl), (Nat.le_of_ble_eq_true rfl)⟩ (fun z27 S28 H locs ez27 eS28 hw => ?_)
                    have hR : (z27, S28) = tgt := by
                      rw [← hF]
                      subst ez1 ez5 ez27 eS28
                      simp only [f7_copy, if_neg c2, if_neg c6, if_neg c8, if_neg c12, if_pos c15, if_neg c16, if_neg c19, if_neg c22, if_pos c26]
                    have hRR : z27 = tgt.1 := pr1 hR
                    have hRS : S28 = tgt.2 := pr2 hR
                    exact g_iret X hret hlk hw hRR (congrArg (fun z => (z, V)) hRS) dX7_copy_119
                  · refine lv_iload X.1 X.2.1 dX7_copy_96 (lv_at hl 4 rfl) ?_
                    refine lv_i2l X.1 X.2.1 dX7_copy_98 rfl ?_
                    refine lv_iload X.1 X.2.1 dX7_copy_99 (lv_at hl 5 rfl) ?_
                    refine lv_i2l X.1 X.2.1 dX7_copy_101 rfl ?_
                    refine lv_ladd X.1 X.2.1 dX7_copy_102 ?_
                    refine lv_aload_n X.1 X.2.1 dX7_copy_103 rfl (lv_at hl 0 rfl) ?_
                    refine m_get X K hw 19 (by decide) q855 rfl dX7_copy_104 ?_
                    refine lv_iload_n X.1 X.2.1 dX7_copy_107 rfl (lv_at hl 3 rfl) ?_
                    have hi29 : vp_in a3 4 := sh_in ez5 c6
                    refine g_iald X K hw (by decide) mm_e7 hi29 dX7_copy_108 ?_
                    refine lv_i2l X.1 X.2.1 dX7_copy_109 rfl ?_
                    refine W.lcmp X.1 X.2.1 dX7_copy_110 ?_
                    refine lv_if_le (tgt := 120) X.1 X.2.1 dX7_copy_111 (by decide) (fun c30 => ?_) (fun c30 => ?_)
                    · refine lv_iconst (v := (0 : Int32)) X.1 X.2.1 dX7_copy_120 (by decide) ?_
                      refine lv_istore (lv' := [(6, .int (0 : Int32)), (0, .ref (mm_ad G 0)), (1, .int a1), (2, .int a2), (3, .int a3), (4, .int a4), (5, .int a5)]) X.1 X.2.1 dX7_copy_121 hl (by decide) rfl (fun ls hl => ?_)
                      have j123 : ∀ (n : Nat) (S31 : tt_St) (y6_123 : Int32) (H : Heap) (locs : List Loc) (ls : Array Slot), (¬ y6_123 < 0) → lp_mu a5 y6_123 < n → f7_copy_L123 a1 a2 a3 a4 a5 n S31 y6_123 = tgt → m_W G S31 V s H locs → lv_has ls 7 [(0, .ref (mm_ad G 0)), (1, .int a1), (2, .int a2), (3, .int a3), (4, .int a4), (5, .int a5), (6, .int y6_123)] → W p l e (g_rm 2 45) s m ([.ref (mm_ad G 0), .int a1, .int a2, .int a3, .int a4, .int a5] : List Value).toArray below meth c H locs 0 0 (MQ below (va_Qi (fun r T => r = tgt.1 ∧ T = (tgt.2, V)) (g_Post G 10 (mm_ad G) (mm_cell G)) (g_in 10 (mm_ad G))) ([.ref (mm_ad G 0), .int a1, .int a2, .int a3, .int a4, .int a5] : List Value).toArray s 0 0 (g_in 10 (mm_ad G))) (F0 m 123 ls []) := by
                        intro n
                        induction n with
                        | zero => intro S31 y6_123 H locs ls hI hm; exact absurd hm (Nat.not_lt_zero _)
                        | succ n ih =>
                          intro S31 y6_123 H locs ls hI hm hF hw hl
                          refine lv_iload X.1 X.2.1 dX7_copy_123 (lv_at hl 6 rfl) ?_
                          refine lv_iload X.1 X.2.1 dX7_copy_125 (lv_at hl 5 rfl) ?_
                          refine lv_icmp_ge (tgt := 157) X.1 X.2.1 dX7_copy_127 (by decide) (fun c32 => ?_) (fun c32 => ?_)
                          · refine lv_iconst (v := (0 : Int32)) X.1 X.2.1 dX7_copy_157 (by decide) ?_
                            refine lv_istore (lv' := [(6, .int (0 : Int32)), (0, .ref (mm_ad G 0)), (1, .int a1), (2, .int a2), (3, .int a3), (4, .int a4), (5, .int a5)]) X.1 X.2.1 dX7_copy_158 hl (by decide) rfl (fun ls hl => ?_)
                            have j160 : ∀ (n : Nat) (S33 : tt_St) (y6_160 : Int32) (H : Heap) (locs : List Loc) (ls : Array Slot), (¬ y6_160 < 0) → lp_mu a5 y6_160 < n → f7_copy_L160 a1 a2 a3 a4 a5 n S33 y6_160 = tgt → m_W G S33 V s H locs → lv_has ls 7 [(0, .ref (mm_ad G 0)), (3, .int a3), (4, .int a4), (5, .int a5), (6, .int y6_160)] → W p l e (g_rm 2 45) s m ([.ref (mm_ad G 0), .int a1, .int a2, .int a3, .int a4, .int a5] : List Value).toArray below meth c H locs 0 0 (MQ below (va_Qi (fun r T => r = tgt.1 ∧ T = (tgt.2, V)) (g_Post G 10 (mm_ad G) (mm_cell G)) (g_in 10 (mm_ad G))) ([.ref (mm_ad G 0), .int a1, .int a2, .int a3, .int a4, .int a5] : List Value).toArray s 0 0 (g_in 10 (mm_ad G))) (F0 m 160 ls []) := by
                              intro n
                              induction n with
                              | zero => intro S33 y6_160 H locs ls hI hm; exact absurd hm (Nat.not_lt_zero _)
                              | succ n ih =>
                                intro S33 y6_160 H locs ls hI hm hF hw hl
                                refine lv_iload X.1 X.2.1 dX7_copy_160 (lv_at hl 4 rfl) ?_
                                refine lv_iload X.1 X.2.1 dX7_copy_162 (lv_at hl 3 rfl) ?_
                                refine lv_icmp_ge (tgt := 195) X.1 X.2.1 dX7_copy_164 (by decide) (fun c34 => ?_) (fun c34 => ?_)
                                · refine lv_iload X.1 X.2.1 dX7_copy_195 (lv_at hl 3 rfl) ?_
                                  have hR : (a5, S33) = tgt := by
                                    rw [← hF]
                                    simp only [f7_copy_L160, if_pos c34]
                                  have hRR : a5 = tgt.1 := pr1 hR
                                  have hRS : S33 = tgt.2 := pr2 hR
                                  exact g_iret X hret hlk hw hRR (congrArg (fun z => (z, V)) hRS) dX7_copy_197
                                · refine lv_aload_n X.1 X.2.1 dX7_copy_167 rfl (lv_at hl 0 rfl) ?_
                                  refine m_get X K hw 20 (by decide) q856 rfl dX7_copy_168 ?_
                                  refine lv_bipush (v := (40 : Int32)) X.1 X.2.1 dX7_copy_171 (by decide) ?_
                                  refine lv_iload_n X.1 X.2.1 dX7_copy_173 rfl (lv_at hl 1 rfl) ?_
                                  refine lv_imul X.1 X.2.1 dX7_copy_174 ?_
                                  refine lv_iload X.1 X.2.1 dX7_copy_175 (lv_at hl 2 rfl) ?_
                                  refine lv_iadd X.1 X.2.1 dX7_copy_177 ?_
                                  refine lv_iload X.1 X.2.1 dX7_copy_178 (lv_at hl 4 rfl) ?_
                                  refine lv_iadd X.1 X.2.1 dX7_copy_180 ?_
                                  refine lv_aload_n X.1 X.2.1 dX7_copy_181 rfl (lv_at hl 0 rfl) ?_
                                  refine m_get X K hw 21 (by decide) q857 rfl dX7_copy_182 ?_
                                  refine lv_iload X.1 X.2.1 dX7_copy_185 (lv_at hl 4 rfl) ?_
                                  have hi35 : vp_in y6_160 40 := cp_j (cp_b hp0 (sh_in ez5 c6) c19 c22 (cp_le c30)) hI c34
                                  refine g_iald X K hw (by decide) mm_e9 hi35 dX7_copy_187 ?_
                                  refine lv_topi (fun x36 ex36 => ?_)
                                  have hi37 : vp_in ((((40 : Int32) * a3) + a4) + y6_160) 160 := cp_i (sh_in ez5 c6) (cp_b hp0 (sh_in ez5 c6) c19 c22 (cp_le c30)) hI c34
                                  refine m_iast X K hw (by decide) (by decide) (fun _ => mm_e8) hi37 dX7_copy_188 (fun S38 H locs eS38 hw => ?_)
                                  obtain ⟨x39, ex39⟩ : ∃ y : Int32, y = y6_160 + (1 : Int32) := ⟨_, rfl⟩
                                  refine lv_iinc (v := x39) (lv' := [(6, .int x39), (0, .ref (mm_ad G 0)), (3, .int a3), (4, .int a4), (5, .int a5)]) X.1 X.2.1 dX7_copy_189 hl (k := 4) rfl (by rw [ex39]; rfl) (by decide) rfl (fun ls hl => ?_)
                                  refine lv_goto (tgt := 160) X.1 X.2.1 dX7_copy_192 (by decide) ?_
                                  have hF2 : f7_copy_L160 a1 a2 a3 a4 a5 n S38 x39 = tgt := by
                                    rw [← hF]
                                    subst ex36 eS38 ex39
                                    simp only [f7_copy_L160, if_neg c34]
                                  exact ih S38 x39 _ _ ls (by rw [ex39]; exact lp_nn hI c34) (by rw [ex39]; exact lp_dec' c34 hm) hF2 hw (lv_sub hl [1, 2, 3, 4, 0] rfl)
                            have hF2 : f7_copy_L160 a1 a2 a3 a4 a5 (lp_mu a5 0 + 1) S31 (0 : Int32) = tgt := by
                              rw [← hF]
                              simp only [f7_copy_L123, if_pos c32]
                            exact j160 (lp_mu a5 0 + 1) S31 (0 : Int32) _ _ ls (by decide) (Nat.lt_succ_self _) hF2 hw (lv_sub hl [1, 4, 5, 6, 0] rfl)
                          · refine lv_aload_n X.1 X.2.1 dX7_copy_130 rfl (lv_at hl 0 rfl) ?_
                            refine m_get X K hw 21 (by decide) q857 rfl dX7_copy_131 ?_
                            refine lv_iload X.1 X.2.1 dX7_copy_134 (lv_at hl 6 rfl) ?_
                            refine lv_aload_n X.1 X.2.1 dX7_copy_136 rfl (lv_at hl 0 rfl) ?_
                            refine m_get X K hw 20 (by decide) q856 rfl dX7_copy_137 ?_
                            refine lv_bipush (v := (40 : Int32)) X.1 X.2.1 dX7_copy_140 (by decide) ?_
                            refine lv_iload_n X.1 X.2.1 dX7_copy_142 rfl (lv_at hl 1 rfl) ?_
                            refine lv_imul X.1 X.2.1 dX7_copy_143 ?_
                            refine lv_iload_n X.1 X.2.1 dX7_copy_144 rfl (lv_at hl 2 rfl) ?_
                            refine lv_iadd X.1 X.2.1 dX7_copy_145 ?_
                            refine lv_iload X.1 X.2.1 dX7_copy_146 (lv_at hl 6 rfl) ?_
                            refine lv_iadd X.1 X.2.1 dX7_copy_148 ?_
                            have hi40 : vp_in ((((40 : Int32) * a1) + a2) + y6_123) 160 := cp_i (sh_in ez1 c2) (cp_b hp0 (sh_in ez1 c2) c16 c22 c26) hI c32
                            refine g_iald X K hw (by decide) mm_e8 hi40 dX7_copy_149 ?_
                            refine lv_topi (fun x41 ex41 => ?_)
                            have hi42 : vp_in y6_123 40 := cp_j (cp_b hp0 (sh_in ez1 c2) c16 c22 c26) hI c32
                            refine m_iast X K hw (by decide) (by decide) (fun _ => mm_e9) hi42 dX7_copy_150 (fun S43 H locs eS43 hw => ?_)
                            obtain ⟨x44, ex44⟩ : ∃ y : Int32, y = y6_123 + (1 : Int32) := ⟨_, rfl⟩
                            refine lv_iinc (v := x44) (lv' := [(6, .int x44), (0, .ref (mm_ad G 0)), (1, .int a1), (2, .int a2), (3, .int a3), (4, .int a4), (5, .int a5)]) X.1 X.2.1 dX7_copy_151 hl (k := 6) rfl (by rw [ex44]; rfl) (by decide) rfl (fun ls hl => ?_)
                            refine lv_goto (tgt := 123) X.1 X.2.1 dX7_copy_154 (by decide) ?_
                            have hF2 : f7_copy_L123 a1 a2 a3 a4 a5 n S43 x44 = tgt := by
                              rw [← hF]
                              subst ex41 eS43 ex44
                              simp only [f7_copy_L123, if_neg c32]
                            exact ih S43 x44 _ _ ls (by rw [ex44]; exact lp_nn hI c32) (by rw [ex44]; exact lp_dec' c32 hm) hF2 hw (lv_sub hl [1, 2, 3, 4, 5, 6, 0] rfl)
                      have hF2 : f7_copy_L123 a1 a2 a3 a4 a5 (lp_mu a5 0 + 1) S (0 : Int32) = tgt := by
                        rw [← hF]
                        subst ez1 ez5
                        simp only [f7_copy, if_neg c2, if_neg c6, if_neg c8, if_neg c12, if_pos c15, if_neg c16, if_neg c19, if_neg c22, if_neg c26, if_pos c30]
                      exact j123 (lp_mu a5 0 + 1) S (0 : Int32) _ _ ls (by decide) (Nat.lt_succ_self _) hF2 hw (lv_sub hl [1, 2, 3, 4, 5, 6, 0] rfl)
                    · refine lv_aload_n X.1 X.2.1 dX7_copy_114 rfl (lv_at hl 0 rfl) ?_
                      refine lv_iconst (v := (0 : Int32)) X.1 X.2.1 dX7_copy_115 (by decide) ?_
                      refine m_callVI_s X K hw (k_X7_finds l G S V (0 : Int32) (by unfold vp_in; decide)) (g_cwV X hiX7_finds q912 q914 q29 q74 q915 ⟨(Nat.le_of_ble_eq_true rfl), (Nat.le_of_ble_eq_true rfl)⟩) rfl hl.1 rfl (Nat.le_of_ble_eq_true rfl) dX7_copy_116 ⟨(Nat.le_of_ble_eq_true rfl), (Nat.le_of_ble_eq_true rfl)⟩ (fun z45 S46 H locs ez45 eS46 hw => ?_)
                      have hR : (z45, S46) = tgt := by
                        rw [← hF]
                        subst ez1 ez5 ez45 eS46
                        simp only [f7_copy, if_neg c2, if_neg c6, if_neg c8, if_neg c12, if_pos c15, if_neg c16, if_neg c19, if_neg c22, if_neg c26, if_neg c30]
                      have hRR : z45 = tgt.1 := pr1 hR
                      have hRS : S46 = tgt.2 := pr2 hR
                      exact g_iret X hret hlk hw hRR (congrArg (fun z => (z, V)) hRS) dX7_copy_119
          · refine lv_aload_n X.1 X.2.1 dX7_copy_59 rfl (lv_at hl 0 rfl) ?_
            refine lv_iconst (v := (2 : Int32)) X.1 X.2.1 dX7_copy_60 (by decide) ?_
            refine m_callVI_s X K hw (k_X7_finds l G S V (2 : Int32) (by unfold vp_in; decide)) (g_cwV X hiX7_finds q912 q914 q29 q74 q915 ⟨(Nat.le_of_ble_eq_true rfl), (Nat.le_of_ble_eq_true rfl)⟩) rfl hl.1 rfl (Nat.le_of_ble_eq_true rfl) dX7_copy_61 ⟨(Nat.le_of_ble_eq_true rfl), (Nat.le_of_ble_eq_true rfl)⟩ (fun z47 S48 H locs ez47 eS48 hw => ?_)
            have hR : (z47, S48) = tgt := by
              rw [← hF]
              subst ez1 ez5 ez47 eS48
              simp only [f7_copy, if_neg c2, if_neg c6, if_neg c8, if_neg c12, if_neg c15]
            have hRR : z47 = tgt.1 := pr1 hR
            have hRS : S48 = tgt.2 := pr2 hR
            exact g_iret X hret hlk hw hRR (congrArg (fun z => (z, V)) hRS) dX7_copy_64
        · refine lv_aload_n X.1 X.2.1 dX7_copy_38 rfl (lv_at hl 0 rfl) ?_
          refine lv_iconst (v := (5 : Int32)) X.1 X.2.1 dX7_copy_39 (by decide) ?_
          refine m_callVI_s X K hw (k_X7_finds l G S V (5 : Int32) (by unfold vp_in; decide)) (g_cwV X hiX7_finds q912 q914 q29 q74 q915 ⟨(Nat.le_of_ble_eq_true rfl), (Nat.le_of_ble_eq_true rfl)⟩) rfl hl.1 rfl (Nat.le_of_ble_eq_true rfl) dX7_copy_40 ⟨(Nat.le_of_ble_eq_true rfl), (Nat.le_of_ble_eq_true rfl)⟩ (fun z49 S50 H locs ez49 eS50 hw => ?_)
          have hR : (z49, S50) = tgt := by
            rw [← hF]
            subst ez1 ez5 ez49 eS50
            simp only [f7_copy, if_neg c2, if_neg c6, if_neg c8, if_pos c12]
          have hRR : z49 = tgt.1 := pr1 hR
          have hRS : S50 = tgt.2 := pr2 hR
          exact g_iret X hret hlk hw hRR (congrArg (fun z => (z, V)) hRS) dX7_copy_43
    · refine lv_aload_n X.1 X.2.1 dX7_copy_14 rfl (lv_at hl 0 rfl) ?_
      refine lv_iconst (v := (0 : Int32)) X.1 X.2.1 dX7_copy_15 (by decide) ?_
      refine m_callVI_s X K hw (k_X7_finds l G S V (0 : Int32) (by unfold vp_in; decide)) (g_cwV X hiX7_finds q912 q914 q29 q74 q915 ⟨(Nat.le_of_ble_eq_true rfl), (Nat.le_of_ble_eq_true rfl)⟩) rfl hl.1 rfl (Nat.le_of_ble_eq_true rfl) dX7_copy_16 ⟨(Nat.le_of_ble_eq_true rfl), (Nat.le_of_ble_eq_true rfl)⟩ (fun z51 S52 H locs ez51 eS52 hw => ?_)
      have hR : (z51, S52) = tgt := by
        rw [← hF]
        subst ez1 ez5 ez51 eS52
        simp only [f7_copy, if_neg c2, if_pos c6]
      have hRR : z51 = tgt.1 := pr1 hR
      have hRS : S52 = tgt.2 := pr2 hR
      exact g_iret X hret hlk hw hRR (congrArg (fun z => (z, V)) hRS) dX7_copy_19
set_option maxHeartbeats 4000000 in
set_option maxRecDepth 10000 in
theorem k_X7_whyNot (l : Launch) (G : tt_G) (S : tt_St) (V : Int64) (a1 : Int32) : m_MI l G yX7_whyNot (g_code yX7_whyNot cX7_whyNot 2 (some FieldType.int)) 2 45 [.ref (mm_ad G 0), .int a1] S V (f7_whyNot S a1) S V := by
  generalize hF : f7_whyNot S a1 = tgt
  refine g_begin rfl (Nat.le_of_ble_eq_true rfl) _ (fun p e s m below meth c ls X hret hlk hB hl => ?_)
  obtain ⟨hP0, K⟩ := hB
  have hw : m_W G S V s s.heap [] := ⟨hP0, va_S.rf⟩
  have X : CallFix p m c cX7_whyNot 2 s ([.ref (mm_ad G 0), .int a1] : List Value).toArray tt_T "TrustTinModel" := X
  have hl : lv_has ls 2 [(0, .ref (mm_ad G 0)), (1, .int a1)] := hl
  refine lv_iload_n X.1 X.2.1 dX7_whyNot_0 rfl (lv_at hl 1 rfl) ?_
  refine m_callSI_p X K hw (k_X7_isSheet l G S V a1) (g_cwS X hiX7_isSheet q1250 q1251 q74 q1252 ⟨(Nat.le_of_ble_eq_true rfl), (Nat.le_of_ble_eq_true rfl)⟩) rfl hl.1 rfl (Nat.le_of_ble_eq_true rfl) dX7_whyNot_1 ⟨(Nat.le_of_ble_eq_true rfl), (Nat.le_of_ble_eq_true rfl)⟩ (fun z1 H locs ez1 hw => ?_)
  refine lv_if_ne (tgt := 11) X.1 X.2.1 dX7_whyNot_4 (by decide) (fun c2 => ?_) (fun c2 => ?_)
  · refine lv_aload_n X.1 X.2.1 dX7_whyNot_11 rfl (lv_at hl 0 rfl) ?_
    refine m_get X K hw 18 (by decide) q854 rfl dX7_whyNot_12 ?_
    refine lv_iload_n X.1 X.2.1 dX7_whyNot_15 rfl (lv_at hl 1 rfl) ?_
    have hi3 : vp_in a1 4 := sh_in ez1 c2
    refine g_iald X K hw (by decide) mm_e6 hi3 dX7_whyNot_16 ?_
    refine lv_if_ne (tgt := 24) X.1 X.2.1 dX7_whyNot_17 (by decide) (fun c4 => ?_) (fun c4 => ?_)
    · refine lv_iconst (v := (-1 : Int32)) X.1 X.2.1 dX7_whyNot_24 (by decide) ?_
      have hR : (-1 : Int32) = tgt := by
        rw [← hF]
        subst ez1
        simp only [f7_whyNot, if_neg c2, if_neg c4]
      exact g_iret X hret hlk hw hR rfl dX7_whyNot_25
    · refine lv_iconst (v := (5 : Int32)) X.1 X.2.1 dX7_whyNot_20 (by decide) ?_
      refine lv_goto (tgt := 25) X.1 X.2.1 dX7_whyNot_21 (by decide) ?_
      have hR : (5 : Int32) = tgt := by
        rw [← hF]
        subst ez1
        simp only [f7_whyNot, if_neg c2, if_pos c4]
      exact g_iret X hret hlk hw hR rfl dX7_whyNot_25
  · refine lv_iconst (v := (0 : Int32)) X.1 X.2.1 dX7_whyNot_7 (by decide) ?_
    refine lv_goto (tgt := 25) X.1 X.2.1 dX7_whyNot_8 (by decide) ?_
    have hR : (0 : Int32) = tgt := by
      rw [← hF]
      subst ez1
      simp only [f7_whyNot, if_pos c2]
    exact g_iret X hret hlk hw hR rfl dX7_whyNot_25
set_option maxHeartbeats 4000000 in
set_option maxRecDepth 10000 in
theorem k_X7_load (l : Launch) (G : tt_G) (S : tt_St) (V : Int64) (a1 : Int32) (hp0 : mi S) : m_MI l G yX7_load (g_code yX7_load cX7_load 4 (some FieldType.int)) 3 66 [.ref (mm_ad G 0), .int a1] S V ((f7_load S a1).1) ((f7_load S a1).2) V := by
  generalize hF : f7_load S a1 = tgt
  refine g_begin rfl (Nat.le_of_ble_eq_true rfl) _ (fun p e s m below meth c ls X hret hlk hB hl => ?_)
  obtain ⟨hP0, K⟩ := hB
  have hw : m_W G S V s s.heap [] := ⟨hP0, va_S.rf⟩
  have X : CallFix p m c cX7_load 4 s ([.ref (mm_ad G 0), .int a1] : List Value).toArray tt_T "TrustTinModel" := X
  have hl : lv_has ls 4 [(0, .ref (mm_ad G 0)), (1, .int a1)] := hl
  refine lv_aload_n X.1 X.2.1 dX7_load_0 rfl (lv_at hl 0 rfl) ?_
  refine lv_iload_n X.1 X.2.1 dX7_load_1 rfl (lv_at hl 1 rfl) ?_
  refine m_callVI_p X K hw (k_X7_whyNot l G S V a1) (g_cwV X hiX7_whyNot q1266 q1268 q64 q74 q1269 ⟨(Nat.le_of_ble_eq_true rfl), (Nat.le_of_ble_eq_true rfl)⟩) rfl hl.1 rfl (Nat.le_of_ble_eq_true rfl) dX7_load_2 ⟨(Nat.le_of_ble_eq_true rfl), (Nat.le_of_ble_eq_true rfl)⟩ (fun z1 H locs ez1 hw => ?_)
  refine lv_istore_n (lv' := [(2, .int z1), (0, .ref (mm_ad G 0)), (1, .int a1)]) X.1 X.2.1 dX7_load_5 rfl hl (by decide) rfl (fun ls hl => ?_)
  refine lv_iload_n X.1 X.2.1 dX7_load_6 rfl (lv_at hl 0 rfl) ?_
  refine lv_if_lt (tgt := 16) X.1 X.2.1 dX7_load_7 (by decide) (fun c2 => ?_) (fun c2 => ?_)
  · refine lv_iconst (v := (0 : Int32)) X.1 X.2.1 dX7_load_16 (by decide) ?_
    refine lv_istore_n (lv' := [(3, .int (0 : Int32)), (2, .int z1), (0, .ref (mm_ad G 0)), (1, .int a1)]) X.1 X.2.1 dX7_load_17 rfl hl (by decide) rfl (fun ls hl => ?_)
    have j18 : ∀ (n : Nat) (S3 : tt_St) (y3_18 : Int32) (H : Heap) (locs : List Loc) (ls : Array Slot), ((¬ y3_18 < 0) ∧ (S3 1 0).toInt ≤ 10 ∧ S3 7 = S 7) → lp_mu (S3 7 a1.toNatClampNeg) y3_18 < n → f7_load_L18 a1 n S3 y3_18 = tgt → m_W G S3 V s H locs → lv_has ls 4 [(0, .ref (mm_ad G 0)), (1, .int a1), (3, .int y3_18)] → W p l e (g_rm 3 66) s m ([.ref (mm_ad G 0), .int a1] : List Value).toArray below meth c H locs 0 0 (MQ below (va_Qi (fun r T => r = tgt.1 ∧ T = (tgt.2, V)) (g_Post G 10 (mm_ad G) (mm_cell G)) (g_in 10 (mm_ad G))) ([.ref (mm_ad G 0), .int a1] : List Value).toArray s 0 0 (g_in 10 (mm_ad G))) (F0 m 18 ls []) := by
      intro n
      induction n with
      | zero => intro S3 y3_18 H locs ls hI hm; exact absurd hm (Nat.not_lt_zero _)
      | succ n ih =>
        intro S3 y3_18 H locs ls hI hm hF hw hl
        refine lv_iload_n X.1 X.2.1 dX7_load_18 rfl (lv_at hl 2 rfl) ?_
        refine lv_aload_n X.1 X.2.1 dX7_load_19 rfl (lv_at hl 0 rfl) ?_
        refine m_get X K hw 19 (by decide) q855 rfl dX7_load_20 ?_
        refine lv_iload_n X.1 X.2.1 dX7_load_23 rfl (lv_at hl 1 rfl) ?_
        have hi4 : vp_in a1 4 := whn_sh ez1 c2
        refine g_iald X K hw (by decide) mm_e7 hi4 dX7_load_24 ?_
        refine lv_icmp_ge (tgt := 83) X.1 X.2.1 dX7_load_25 (by decide) (fun c5 => ?_) (fun c5 => ?_)
        · refine lv_iload_n X.1 X.2.1 dX7_load_83 rfl (lv_at hl 2 rfl) ?_
          have hR : (y3_18, S3) = tgt := by
            rw [← hF]
            simp only [f7_load_L18, if_pos c5]
          have hRR : y3_18 = tgt.1 := pr1 hR
          have hRS : S3 = tgt.2 := pr2 hR
          exact g_iret X hret hlk hw hRR (congrArg (fun z => (z, V)) hRS) dX7_load_84
        · refine lv_iload_n X.1 X.2.1 dX7_load_28 rfl (lv_at hl 2 rfl) ?_
          refine lv_aload_n X.1 X.2.1 dX7_load_29 rfl (lv_at hl 0 rfl) ?_
          refine m_get X K hw 0 (by decide) q836 rfl dX7_load_30 ?_
          refine lv_iconst (v := (0 : Int32)) X.1 X.2.1 dX7_load_33 (by decide) ?_
          have hi6 : vp_in (0 : Int32) 132 := by unfold vp_in; decide
          refine g_ialdL (j := 0) X K hw (by decide) mm_e1 hi6 rfl dX7_load_34 ?_
          refine lv_icmp_ge (tgt := 83) X.1 X.2.1 dX7_load_35 (by decide) (fun c7 => ?_) (fun c7 => ?_)
          · refine lv_iload_n X.1 X.2.1 dX7_load_83 rfl (lv_at hl 2 rfl) ?_
            have hR : (y3_18, S3) = tgt := by
              rw [← hF]
              simp only [f7_load_L18, if_neg c5, if_pos c7]
            have hRR : y3_18 = tgt.1 := pr1 hR
            have hRS : S3 = tgt.2 := pr2 hR
            exact g_iret X hret hlk hw hRR (congrArg (fun z => (z, V)) hRS) dX7_load_84
          · refine lv_aload_n X.1 X.2.1 dX7_load_38 rfl (lv_at hl 0 rfl) ?_
            refine m_get X K hw 20 (by decide) q856 rfl dX7_load_39 ?_
            refine lv_bipush (v := (40 : Int32)) X.1 X.2.1 dX7_load_42 (by decide) ?_
            refine lv_iload_n X.1 X.2.1 dX7_load_44 rfl (lv_at hl 1 rfl) ?_
            refine lv_imul X.1 X.2.1 dX7_load_45 ?_
            refine lv_iload_n X.1 X.2.1 dX7_load_46 rfl (lv_at hl 2 rfl) ?_
            refine lv_iadd X.1 X.2.1 dX7_load_47 ?_
            have hi8 : vp_in (((40 : Int32) * a1) + y3_18) 160 := nm_in (whn_sh ez1 c2) (lp_in hI.1 c5 (by rw [hI.2.2]; exact (hp0.2.2.1 _ (lp_cl (whn_sh ez1 c2))).2))
            refine g_iald X K hw (by decide) mm_e8 hi8 dX7_load_48 ?_
            refine lv_i2l X.1 X.2.1 dX7_load_49 rfl ?_
            refine lv_lconst (v := (0 : Int64)) X.1 X.2.1 dX7_load_50 (by decide) ?_
            refine lv_ldc2 (v := (9999 : Int64)) X.1 X.2.1 X.2.2.2.1 (X.2.2.2.2 _ q941) dX7_load_51 ?_
            refine m_callSI_p X K hw (k_X7_in l G S3 V ((S3 8 (((40 : Int32) * a1) + y3_18).toNatClampNeg).toInt64) (0 : Int64) (9999 : Int64)) (g_cwS X hiX7_in q908 q909 q74 q910 ⟨(Nat.le_of_ble_eq_true rfl), (Nat.le_of_ble_eq_true rfl)⟩) rfl hl.1 rfl (Nat.le_of_ble_eq_true rfl) dX7_load_54 ⟨(Nat.le_of_ble_eq_true rfl), (Nat.le_of_ble_eq_true rfl)⟩ (fun z9 H locs ez9 hw => ?_)
            refine lv_if_eq (tgt := 83) X.1 X.2.1 dX7_load_57 (by decide) (fun c10 => ?_) (fun c10 => ?_)
            · refine lv_iload_n X.1 X.2.1 dX7_load_83 rfl (lv_at hl 2 rfl) ?_
              have hR : (y3_18, S3) = tgt := by
                rw [← hF]
                subst ez9
                simp only [f7_load_L18, if_neg c5, if_neg c7, if_pos c10]
              have hRR : y3_18 = tgt.1 := pr1 hR
              have hRS : S3 = tgt.2 := pr2 hR
              exact g_iret X hret hlk hw hRR (congrArg (fun z => (z, V)) hRS) dX7_load_84
            · refine lv_aload_n X.1 X.2.1 dX7_load_60 rfl (lv_at hl 0 rfl) ?_
              refine lv_iload_n X.1 X.2.1 dX7_load_61 rfl (lv_at hl 2 rfl) ?_
              refine lv_iconst (v := (2 : Int32)) X.1 X.2.1 dX7_load_62 (by decide) ?_
              refine lv_aload_n X.1 X.2.1 dX7_load_63 rfl (lv_at hl 0 rfl) ?_
              refine m_get X K hw 20 (by decide) q856 rfl dX7_load_64 ?_
              refine lv_bipush (v := (40 : Int32)) X.1 X.2.1 dX7_load_67 (by decide) ?_
              refine lv_iload_n X.1 X.2.1 dX7_load_69 rfl (lv_at hl 1 rfl) ?_
              refine lv_imul X.1 X.2.1 dX7_load_70 ?_
              refine lv_iload_n X.1 X.2.1 dX7_load_71 rfl (lv_at hl 2 rfl) ?_
              refine lv_iadd X.1 X.2.1 dX7_load_72 ?_
              have hi11 : vp_in (((40 : Int32) * a1) + y3_18) 160 := nm_in (whn_sh ez1 c2) (lp_in hI.1 c5 (by rw [hI.2.2]; exact (hp0.2.2.1 _ (lp_cl (whn_sh ez1 c2))).2))
              refine g_iald X K hw (by decide) mm_e8 hi11 dX7_load_73 ?_
              refine m_callVV_s X K hw (k_X7_becomes l G S3 V y3_18 (2 : Int32) (S3 8 (((40 : Int32) * a1) + y3_18).toNatClampNeg) (lp_in hI.1 c7 hI.2.1) (by unfold vp_in; decide)) (g_cwV X hiX7_becomes q921 q923 q31 q74 q924 ⟨(Nat.le_of_ble_eq_true rfl), (Nat.le_of_ble_eq_true rfl)⟩) rfl hl.1 rfl (Nat.le_of_ble_eq_true rfl) dX7_load_74 ⟨(Nat.le_of_ble_eq_true rfl), (Nat.le_of_ble_eq_true rfl)⟩ (fun S12 H locs eS12 hw => ?_)
              obtain ⟨x13, ex13⟩ : ∃ y : Int32, y = y3_18 + (1 : Int32) := ⟨_, rfl⟩
              refine lv_iinc (v := x13) (lv' := [(3, .int x13), (0, .ref (mm_ad G 0)), (1, .int a1)]) X.1 X.2.1 dX7_load_77 hl (k := 2) rfl (by rw [ex13]; rfl) (by decide) rfl (fun ls hl => ?_)
              refine lv_goto (tgt := 18) X.1 X.2.1 dX7_load_80 (by decide) ?_
              have hF2 : f7_load_L18 a1 n S12 x13 = tgt := by
                rw [← hF]
                subst ez9 eS12 ex13
                simp only [f7_load_L18, if_neg c5, if_neg c7, if_neg c10]
              exact ih S12 x13 _ _ ls (⟨by rw [ex13]; exact lp_nn hI.1 c5, by rw [show S12 1 0 = S3 1 0 from by subst ez9 eS12 ex13; exact (fm_becomes (lp_in hI.1 c7 hI.2.1) (by decide)).sz]; exact hI.2.1, by rw [← hI.2.2]; subst ez9 eS12 ex13; exact tt_up_row (by decide)⟩) (by rw [ex13, show S12 7 = S3 7 from by subst ez9 eS12 ex13; exact tt_up_row (by decide)]; exact lp_dec' c5 hm) hF2 hw (lv_sub hl [1, 2, 0] rfl)
    have hF2 : f7_load_L18 a1 (lp_mu (S 7 a1.toNatClampNeg) 0 + 1) S (0 : Int32) = tgt := by
      rw [← hF]
      subst ez1
      simp only [f7_load, if_pos c2]
    exact j18 (lp_mu (S 7 a1.toNatClampNeg) 0 + 1) S (0 : Int32) _ _ ls (⟨by decide, hp0.1.2, rfl⟩) (Nat.lt_succ_self _) hF2 hw (lv_sub hl [2, 3, 0] rfl)
  · refine lv_aload_n X.1 X.2.1 dX7_load_10 rfl (lv_at hl 1 rfl) ?_
    refine lv_iload_n X.1 X.2.1 dX7_load_11 rfl (lv_at hl 0 rfl) ?_
    refine m_callVI_s X K hw (k_X7_finds l G S V z1 (whn_in ez1 c2)) (g_cwV X hiX7_finds q912 q914 q29 q74 q915 ⟨(Nat.le_of_ble_eq_true rfl), (Nat.le_of_ble_eq_true rfl)⟩) rfl hl.1 rfl (Nat.le_of_ble_eq_true rfl) dX7_load_12 ⟨(Nat.le_of_ble_eq_true rfl), (Nat.le_of_ble_eq_true rfl)⟩ (fun z14 S15 H locs ez14 eS15 hw => ?_)
    have hR : (z14, S15) = tgt := by
      rw [← hF]
      subst ez1 ez14 eS15
      simp only [f7_load, if_neg c2]
    have hRR : z14 = tgt.1 := pr1 hR
    have hRS : S15 = tgt.2 := pr2 hR
    exact g_iret X hret hlk hw hRR (congrArg (fun z => (z, V)) hRS) dX7_load_15
set_option maxHeartbeats 4000000 in
set_option maxRecDepth 10000 in
theorem k_X7_judge (l : Launch) (G : tt_G) (S : tt_St) (V : Int64) (a1 : Int32) (hp0 : mi S) : m_MI l G yX7_judge (g_code yX7_judge cX7_judge 5 (some FieldType.int)) 7 155 [.ref (mm_ad G 0), .int a1] S V ((f7_judge S a1).1) ((f7_judge S a1).2) V := by
  generalize hF : f7_judge S a1 = tgt
  refine g_begin rfl (Nat.le_of_ble_eq_true rfl) _ (fun p e s m below meth c ls X hret hlk hB hl => ?_)
  obtain ⟨hP0, K⟩ := hB
  have hw : m_W G S V s s.heap [] := ⟨hP0, va_S.rf⟩
  have X : CallFix p m c cX7_judge 5 s ([.ref (mm_ad G 0), .int a1] : List Value).toArray tt_T "TrustTinModel" := X
  have hl : lv_has ls 5 [(0, .ref (mm_ad G 0)), (1, .int a1)] := hl
  refine lv_aload_n X.1 X.2.1 dX7_judge_0 rfl (lv_at hl 0 rfl) ?_
  refine lv_iload_n X.1 X.2.1 dX7_judge_1 rfl (lv_at hl 1 rfl) ?_
  refine m_callVI_p X K hw (k_X7_whyNot l G S V a1) (g_cwV X hiX7_whyNot q1266 q1268 q64 q74 q1269 ⟨(Nat.le_of_ble_eq_true rfl), (Nat.le_of_ble_eq_true rfl)⟩) rfl hl.1 rfl (Nat.le_of_ble_eq_true rfl) dX7_judge_2 ⟨(Nat.le_of_ble_eq_true rfl), (Nat.le_of_ble_eq_true rfl)⟩ (fun z1 H locs ez1 hw => ?_)
  refine lv_istore_n (lv' := [(2, .int z1), (0, .ref (mm_ad G 0)), (1, .int a1)]) X.1 X.2.1 dX7_judge_5 rfl hl (by decide) rfl (fun ls hl => ?_)
  refine lv_iload_n X.1 X.2.1 dX7_judge_6 rfl (lv_at hl 0 rfl) ?_
  refine lv_if_ge (tgt := 25) X.1 X.2.1 dX7_judge_7 (by decide) (fun c2 => ?_) (fun c2 => ?_)
  · refine lv_iload_n X.1 X.2.1 dX7_judge_25 rfl (lv_at hl 0 rfl) ?_
    refine lv_if_lt (tgt := 35) X.1 X.2.1 dX7_judge_26 (by decide) (fun c3 => ?_) (fun c3 => ?_)
    · refine lv_iconst (v := (0 : Int32)) X.1 X.2.1 dX7_judge_35 (by decide) ?_
      refine lv_istore_n (lv' := [(3, .int (0 : Int32)), (2, .int z1), (0, .ref (mm_ad G 0)), (1, .int a1)]) X.1 X.2.1 dX7_judge_36 rfl hl (by decide) rfl (fun ls hl => ?_)
      refine lv_aload_n X.1 X.2.1 dX7_judge_37 rfl (lv_at hl 2 rfl) ?_
      refine m_callVV_s X K hw (k_X7_begins l G S V) (g_cwV X hiX7_begins q1062 q1064 q48 q74 q1065 ⟨(Nat.le_of_ble_eq_true rfl), (Nat.le_of_ble_eq_true rfl)⟩) rfl hl.1 rfl (Nat.le_of_ble_eq_true rfl) dX7_judge_38 ⟨(Nat.le_of_ble_eq_true rfl), (Nat.le_of_ble_eq_true rfl)⟩ (fun S4 H locs eS4 hw => ?_)
      refine lv_iconst (v := (0 : Int32)) X.1 X.2.1 dX7_judge_41 (by decide) ?_
      refine lv_istore (lv' := [(4, .int (0 : Int32)), (3, .int (0 : Int32)), (2, .int z1), (0, .ref (mm_ad G 0)), (1, .int a1)]) X.1 X.2.1 dX7_judge_42 hl (by decide) rfl (fun ls hl => ?_)
      have j44 : ∀ (n : Nat) (S5 : tt_St) (y3_44 : Int32) (y4_44 : Int32) (H : Heap) (locs : List Loc) (ls : Array Slot), ((¬ y4_44 < 0) ∧ (S5 1 0).toInt ≤ 10 ∧ S5 7 = S 7) → lp_mu (S5 7 a1.toNatClampNeg) y4_44 < n → f7_judge_L44 a1 n S5 y3_44 y4_44 = tgt → m_W G S5 V s H locs → lv_has ls 5 [(0, .ref (mm_ad G 0)), (1, .int a1), (3, .int y3_44), (4, .int y4_44)] → W p l e (g_rm 7 155) s m ([.ref (mm_ad G 0), .int a1] : List Value).toArray below meth c H locs 0 0 (MQ below (va_Qi (fun r T => r = tgt.1 ∧ T = (tgt.2, V)) (g_Post G 10 (mm_ad G) (mm_cell G)) (g_in 10 (mm_ad G))) ([.ref (mm_ad G 0), .int a1] : List Value).toArray s 0 0 (g_in 10 (mm_ad G))) (F0 m 44 ls []) := by
        intro n
        induction n with
        | zero => intro S5 y3_44 y4_44 H locs ls hI hm; exact absurd hm (Nat.not_lt_zero _)
        | succ n ih =>
          intro S5 y3_44 y4_44 H locs ls hI hm hF hw hl
          refine lv_iload X.1 X.2.1 dX7_judge_44 (lv_at hl 3 rfl) ?_
          refine lv_aload_n X.1 X.2.1 dX7_judge_46 rfl (lv_at hl 0 rfl) ?_
          refine m_get X K hw 19 (by decide) q855 rfl dX7_judge_47 ?_
          refine lv_iload_n X.1 X.2.1 dX7_judge_50 rfl (lv_at hl 1 rfl) ?_
          have hi6 : vp_in a1 4 := whn_sh ez1 c3
          refine g_iald X K hw (by decide) mm_e7 hi6 dX7_judge_51 ?_
          refine lv_icmp_ge (tgt := 94) X.1 X.2.1 dX7_judge_52 (by decide) (fun c7 => ?_) (fun c7 => ?_)
          · refine lv_aload_n X.1 X.2.1 dX7_judge_94 rfl (lv_at hl 0 rfl) ?_
            refine m_callVV_s X K hw (k_X7_ends l G S5 V) (g_cwV X hiX7_ends q1069 q1071 q49 q74 q1072 ⟨(Nat.le_of_ble_eq_true rfl), (Nat.le_of_ble_eq_true rfl)⟩) rfl hl.1 rfl (Nat.le_of_ble_eq_true rfl) dX7_judge_95 ⟨(Nat.le_of_ble_eq_true rfl), (Nat.le_of_ble_eq_true rfl)⟩ (fun S8 H locs eS8 hw => ?_)
            refine lv_iload_n X.1 X.2.1 dX7_judge_98 rfl (lv_at hl 2 rfl) ?_
            have hR : (y3_44, S8) = tgt := by
              rw [← hF]
              subst eS8
              simp only [f7_judge_L44, if_pos c7]
            have hRR : y3_44 = tgt.1 := pr1 hR
            have hRS : S8 = tgt.2 := pr2 hR
            exact g_iret X hret hlk hw hRR (congrArg (fun z => (z, V)) hRS) dX7_judge_99
          · refine lv_iload_n X.1 X.2.1 dX7_judge_55 rfl (lv_at hl 2 rfl) ?_
            refine lv_if_ne (tgt := 94) X.1 X.2.1 dX7_judge_56 (by decide) (fun c9 => ?_) (fun c9 => ?_)
            · refine lv_aload_n X.1 X.2.1 dX7_judge_94 rfl (lv_at hl 0 rfl) ?_
              refine m_callVV_s X K hw (k_X7_ends l G S5 V) (g_cwV X hiX7_ends q1069 q1071 q49 q74 q1072 ⟨(Nat.le_of_ble_eq_true rfl), (Nat.le_of_ble_eq_true rfl)⟩) rfl hl.1 rfl (Nat.le_of_ble_eq_true rfl) dX7_judge_95 ⟨(Nat.le_of_ble_eq_true rfl), (Nat.le_of_ble_eq_true rfl)⟩ (fun S10 H locs eS10 hw => ?_)
              refine lv_iload_n X.1 X.2.1 dX7_judge_98 rfl (lv_at hl 2 rfl) ?_
              have hR : (y3_44, S10) = tgt := by
                rw [← hF]
                subst eS10
                simp only [f7_judge_L44, if_neg c7, if_neg c9]
              have hRR : y3_44 = tgt.1 := pr1 hR
              have hRS : S10 = tgt.2 := pr2 hR
              exact g_iret X hret hlk hw hRR (congrArg (fun z => (z, V)) hRS) dX7_judge_99
            · refine lv_aload_n X.1 X.2.1 dX7_judge_59 rfl (lv_at hl 0 rfl) ?_
              refine lv_iconst (v := (1 : Int32)) X.1 X.2.1 dX7_judge_60 (by decide) ?_
              refine m_callVI_s X K hw (k_X7_goesOn l G S5 V (1 : Int32) (hI.2.1)) (g_cwV X hiX7_goesOn q981 q983 q36 q74 q984 ⟨(Nat.le_of_ble_eq_true rfl), (Nat.le_of_ble_eq_true rfl)⟩) rfl hl.1 rfl (Nat.le_of_ble_eq_true rfl) dX7_judge_61 ⟨(Nat.le_of_ble_eq_true rfl), (Nat.le_of_ble_eq_true rfl)⟩ (fun z11 S12 H locs ez11 eS12 hw => ?_)
              refine lv_aload_n X.1 X.2.1 dX7_judge_64 rfl (lv_at hl 0 rfl) ?_
              refine m_get X K hw 20 (by decide) q856 rfl dX7_judge_65 ?_
              refine lv_bipush (v := (40 : Int32)) X.1 X.2.1 dX7_judge_68 (by decide) ?_
              refine lv_iload_n X.1 X.2.1 dX7_judge_70 rfl (lv_at hl 1 rfl) ?_
              refine lv_imul X.1 X.2.1 dX7_judge_71 ?_
              refine lv_iload X.1 X.2.1 dX7_judge_72 (lv_at hl 3 rfl) ?_
              refine lv_iadd X.1 X.2.1 dX7_judge_74 ?_
              have hi13 : vp_in (((40 : Int32) * a1) + y4_44) 160 := nm_in (whn_sh ez1 c3) (lp_in hI.1 c7 (by rw [hI.2.2]; exact (hp0.2.2.1 _ (lp_cl (whn_sh ez1 c3))).2))
              refine g_iald X K hw (by decide) mm_e8 hi13 dX7_judge_75 ?_
              refine lv_icmp_ne (tgt := 83) X.1 X.2.1 dX7_judge_76 (by decide) (fun c14 => ?_) (fun c14 => ?_)
              · refine lv_iconst (v := (1 : Int32)) X.1 X.2.1 dX7_judge_83 (by decide) ?_
                refine lv_iload X.1 X.2.1 dX7_judge_84 (lv_at hl 3 rfl) ?_
                refine lv_iadd X.1 X.2.1 dX7_judge_86 ?_
                refine lv_topi (fun x15 ex15 => ?_)
                refine lv_istore_n (lv' := [(3, .int x15), (0, .ref (mm_ad G 0)), (1, .int a1), (4, .int y4_44)]) X.1 X.2.1 dX7_judge_87 rfl hl (by decide) rfl (fun ls hl => ?_)
                obtain ⟨x16, ex16⟩ : ∃ y : Int32, y = y4_44 + (1 : Int32) := ⟨_, rfl⟩
                refine lv_iinc (v := x16) (lv' := [(4, .int x16), (3, .int x15), (0, .ref (mm_ad G 0)), (1, .int a1)]) X.1 X.2.1 dX7_judge_88 hl (k := 3) rfl (by rw [ex16]; rfl) (by decide) rfl (fun ls hl => ?_)
                refine lv_goto (tgt := 44) X.1 X.2.1 dX7_judge_91 (by decide) ?_
                have hF2 : f7_judge_L44 a1 n S12 x15 x16 = tgt := by
                  rw [← hF]
                  subst ez11 eS12 ex15 ex16
                  simp only [f7_judge_L44, if_neg c7, if_pos c9, if_neg c14]
                exact ih S12 x15 x16 _ _ ls (⟨by rw [ex16]; exact lp_nn hI.1 c7, by rw [show S12 1 0 = S5 1 0 from by subst ez11 eS12 ex15 ex16; exact (fm_goesOn _ hI.2.1).sz]; exact hI.2.1, by rw [← hI.2.2]; subst ez11 eS12 ex15 ex16; exact (fm_goesOn _ hI.2.1).row (by decide) (by decide)⟩) (by rw [ex16, show S12 7 = S5 7 from by subst ez11 eS12 ex15 ex16; exact (fm_goesOn _ hI.2.1).row (by decide) (by decide)]; exact lp_dec' c7 hm) hF2 hw (lv_sub hl [2, 3, 1, 0] rfl)
              · refine lv_iconst (v := (0 : Int32)) X.1 X.2.1 dX7_judge_79 (by decide) ?_
                refine lv_goto (tgt := 87) X.1 X.2.1 dX7_judge_80 (by decide) ?_
                refine lv_istore_n (lv' := [(3, .int (0 : Int32)), (0, .ref (mm_ad G 0)), (1, .int a1), (4, .int y4_44)]) X.1 X.2.1 dX7_judge_87 rfl hl (by decide) rfl (fun ls hl => ?_)
                obtain ⟨x17, ex17⟩ : ∃ y : Int32, y = y4_44 + (1 : Int32) := ⟨_, rfl⟩
                refine lv_iinc (v := x17) (lv' := [(4, .int x17), (3, .int (0 : Int32)), (0, .ref (mm_ad G 0)), (1, .int a1)]) X.1 X.2.1 dX7_judge_88 hl (k := 3) rfl (by rw [ex17]; rfl) (by decide) rfl (fun ls hl => ?_)
                refine lv_goto (tgt := 44) X.1 X.2.1 dX7_judge_91 (by decide) ?_
                have hF2 : f7_judge_L44 a1 n S12 (0 : Int32) x17 = tgt := by
                  rw [← hF]
                  subst ez11 eS12 ex17
                  simp only [f7_judge_L44, if_neg c7, if_pos c9, if_pos c14]
                exact ih S12 (0 : Int32) x17 _ _ ls (⟨by rw [ex17]; exact lp_nn hI.1 c7, by rw [show S12 1 0 = S5 1 0 from by subst ez11 eS12 ex17; exact (fm_goesOn _ hI.2.1).sz]; exact hI.2.1, by rw [← hI.2.2]; subst ez11 eS12 ex17; exact (fm_goesOn _ hI.2.1).row (by decide) (by decide)⟩) (by rw [ex17, show S12 7 = S5 7 from by subst ez11 eS12 ex17; exact (fm_goesOn _ hI.2.1).row (by decide) (by decide)]; exact lp_dec' c7 hm) hF2 hw (lv_sub hl [2, 3, 1, 0] rfl)
      have hF2 : f7_judge_L44 a1 (lp_mu (S4 7 a1.toNatClampNeg) 0 + 1) S4 (0 : Int32) (0 : Int32) = tgt := by
        rw [← hF]
        subst ez1 eS4
        simp only [f7_judge, if_pos c2, if_pos c3]
      exact j44 (lp_mu (S4 7 a1.toNatClampNeg) 0 + 1) S4 (0 : Int32) (0 : Int32) _ _ ls (⟨by decide, by subst ez1 eS4; rw [bg_sz]; exact hp0.1.2, by subst ez1 eS4; exact bg_row (by decide)⟩) (Nat.lt_succ_self _) hF2 hw (lv_sub hl [3, 4, 1, 0] rfl)
    · refine lv_aload_n X.1 X.2.1 dX7_judge_29 rfl (lv_at hl 1 rfl) ?_
      refine lv_iload_n X.1 X.2.1 dX7_judge_30 rfl (lv_at hl 0 rfl) ?_
      refine m_callVI_s X K hw (k_X7_finds l G S V z1 (whn_in ez1 c3)) (g_cwV X hiX7_finds q912 q914 q29 q74 q915 ⟨(Nat.le_of_ble_eq_true rfl), (Nat.le_of_ble_eq_true rfl)⟩) rfl hl.1 rfl (Nat.le_of_ble_eq_true rfl) dX7_judge_31 ⟨(Nat.le_of_ble_eq_true rfl), (Nat.le_of_ble_eq_true rfl)⟩ (fun z18 S19 H locs ez18 eS19 hw => ?_)
      have hR : (z18, S19) = tgt := by
        rw [← hF]
        subst ez1 ez18 eS19
        simp only [f7_judge, if_pos c2, if_neg c3]
      have hRR : z18 = tgt.1 := pr1 hR
      have hRS : S19 = tgt.2 := pr2 hR
      exact g_iret X hret hlk hw hRR (congrArg (fun z => (z, V)) hRS) dX7_judge_34
  · refine lv_aload_n X.1 X.2.1 dX7_judge_10 rfl (lv_at hl 1 rfl) ?_
    refine lv_aload_n X.1 X.2.1 dX7_judge_11 rfl (lv_at hl 1 rfl) ?_
    refine m_get X K hw 19 (by decide) q855 rfl dX7_judge_12 ?_
    refine lv_iload_n X.1 X.2.1 dX7_judge_15 rfl (lv_at hl 2 rfl) ?_
    have hi20 : vp_in a1 4 := whn_sh ez1 (by rw [lp_lt, lp_0]; have := c2; rw [lp_le, lp_0] at this; omega)
    refine g_iald X K hw (by decide) mm_e7 hi20 dX7_judge_16 ?_
    refine m_callVI_p X K hw (k_X7_isFar l G S V (S 7 a1.toNatClampNeg)) (g_cwV X hiX7_isFar q977 q979 q35 q74 q980 ⟨(Nat.le_of_ble_eq_true rfl), (Nat.le_of_ble_eq_true rfl)⟩) rfl hl.1 rfl (Nat.le_of_ble_eq_true rfl) dX7_judge_17 ⟨(Nat.le_of_ble_eq_true rfl), (Nat.le_of_ble_eq_true rfl)⟩ (fun z21 H locs ez21 hw => ?_)
    refine lv_if_eq (tgt := 25) X.1 X.2.1 dX7_judge_20 (by decide) (fun c22 => ?_) (fun c22 => ?_)
    · refine lv_iload_n X.1 X.2.1 dX7_judge_25 rfl (lv_at hl 0 rfl) ?_
      refine lv_if_lt (tgt := 35) X.1 X.2.1 dX7_judge_26 (by decide) (fun c23 => ?_) (fun c23 => ?_)
      · refine lv_iconst (v := (0 : Int32)) X.1 X.2.1 dX7_judge_35 (by decide) ?_
        refine lv_istore_n (lv' := [(3, .int (0 : Int32)), (2, .int z1), (0, .ref (mm_ad G 0)), (1, .int a1)]) X.1 X.2.1 dX7_judge_36 rfl hl (by decide) rfl (fun ls hl => ?_)
        refine lv_aload_n X.1 X.2.1 dX7_judge_37 rfl (lv_at hl 2 rfl) ?_
        refine m_callVV_s X K hw (k_X7_begins l G S V) (g_cwV X hiX7_begins q1062 q1064 q48 q74 q1065 ⟨(Nat.le_of_ble_eq_true rfl), (Nat.le_of_ble_eq_true rfl)⟩) rfl hl.1 rfl (Nat.le_of_ble_eq_true rfl) dX7_judge_38 ⟨(Nat.le_of_ble_eq_true rfl), (Nat.le_of_ble_eq_true rfl)⟩ (fun S24 H locs eS24 hw => ?_)
        refine lv_iconst (v := (0 : Int32)) X.1 X.2.1 dX7_judge_41 (by decide) ?_
        refine lv_istore (lv' := [(4, .int (0 : Int32)), (3, .int (0 : Int32)), (2, .int z1), (0, .ref (mm_ad G 0)), (1, .int a1)]) X.1 X.2.1 dX7_judge_42 hl (by decide) rfl (fun ls hl => ?_)
        have j44 : ∀ (n : Nat) (S25 : tt_St) (y3_44 : Int32) (y4_44 : Int32) (H : Heap) (locs : List Loc) (ls : Array Slot), ((¬ y4_44 < 0) ∧ (S25 1 0).toInt ≤ 10 ∧ S25 7 = S 7) → lp_mu (S25 7 a1.toNatClampNeg) y4_44 < n → f7_judge_L44 a1 n S25 y3_44 y4_44 = tgt → m_W G S25 V s H locs → lv_has ls 5 [(0, .ref (mm_ad G 0)), (1, .int a1), (3, .int y3_44), (4, .int y4_44)] → W p l e (g_rm 7 155) s m ([.ref (mm_ad G 0), .int a1] : List Value).toArray below meth c H locs 0 0 (MQ below (va_Qi (fun r T => r = tgt.1 ∧ T = (tgt.2, V)) (g_Post G 10 (mm_ad G) (mm_cell G)) (g_in 10 (mm_ad G))) ([.ref (mm_ad G 0), .int a1] : List Value).toArray s 0 0 (g_in 10 (mm_ad G))) (F0 m 44 ls []) := by
          intro n
          induction n with
          | zero => intro S25 y3_44 y4_44 H locs ls hI hm; exact absurd hm (Nat.not_lt_zero _)
          | succ n ih =>
            intro S25 y3_44 y4_44 H locs ls hI hm hF hw hl
            refine lv_iload X.1 X.2.1 dX7_judge_44 (lv_at hl 3 rfl) ?_
            refine lv_aload_n X.1 X.2.1 dX7_judge_46 rfl (lv_at hl 0 rfl) ?_
            refine m_get X K hw 19 (by decide) q855 rfl dX7_judge_47 ?_
            refine lv_iload_n X.1 X.2.1 dX7_judge_50 rfl (lv_at hl 1 rfl) ?_
            have hi26 : vp_in a1 4 := whn_sh ez1 c23
            refine g_iald X K hw (by decide) mm_e7 hi26 dX7_judge_51 ?_
            refine lv_icmp_ge (tgt := 94) X.1 X.2.1 dX7_judge_52 (by decide) (fun c27 => ?_) (fun c27 => ?_)
            · refine lv_aload_n X.1 X.2.1 dX7_judge_94 rfl (lv_at hl 0 rfl) ?_
              refine m_callVV_s X K hw (k_X7_ends l G S25 V) (g_cwV X hiX7_ends q1069 q1071 q49 q74 q1072 ⟨(Nat.le_of_ble_eq_true rfl), (Nat.le_of_ble_eq_true rfl)⟩) rfl hl.1 rfl (Nat.le_of_ble_eq_true rfl) dX7_judge_95 ⟨(Nat.le_of_ble_eq_true rfl), (Nat.le_of_ble_eq_true rfl)⟩ (fun S28 H locs eS28 hw => ?_)
              refine lv_iload_n X.1 X.2.1 dX7_judge_98 rfl (lv_at hl 2 rfl) ?_
              have hR : (y3_44, S28) = tgt := by
                rw [← hF]
                subst eS28
                simp only [f7_judge_L44, if_pos c27]
              have hRR : y3_44 = tgt.1 := pr1 hR
              have hRS : S28 = tgt.2 := pr2 hR
              exact g_iret X hret hlk hw hRR (congrArg (fun z => (z, V)) hRS) dX7_judge_99
            · refine lv_iload_n X.1 X.2.1 dX7_judge_55 rfl (lv_at hl 2 rfl) ?_
              refine lv_if_ne (tgt := 94) X.1 X.2.1 dX7_judge_56 (by decide) (fun c29 => ?_) (fun c29 => ?_)
              · refine lv_aload_n X.1 X.2.1 dX7_judge_94 rfl (lv_at hl 0 rfl) ?_
                refine m_callVV_s X K hw (k_X7_ends l G S25 V) (g_cwV X hiX7_ends q1069 q1071 q49 q74 q1072 ⟨(Nat.le_of_ble_eq_true rfl), (Nat.le_of_ble_eq_true rfl)⟩) rfl hl.1 rfl (Nat.le_of_ble_eq_true rfl) dX7_judge_95 ⟨(Nat.le_of_ble_eq_true rfl), (Nat.le_of_ble_eq_true rfl)⟩ (fun S30 H locs eS30 hw => ?_)
                refine lv_iload_n X.1 X.2.1 dX7_judge_98 rfl (lv_at hl 2 rfl) ?_
                have hR : (y3_44, S30) = tgt := by
                  rw [← hF]
                  subst eS30
                  simp only [f7_judge_L44, if_neg c27, if_neg c29]
                have hRR : y3_44 = tgt.1 := pr1 hR
                have hRS : S30 = tgt.2 := pr2 hR
                exact g_iret X hret hlk hw hRR (congrArg (fun z => (z, V)) hRS) dX7_judge_99
              · refine lv_aload_n X.1 X.2.1 dX7_judge_59 rfl (lv_at hl 0 rfl) ?_
                refine lv_iconst (v := (1 : Int32)) X.1 X.2.1 dX7_judge_60 (by decide) ?_
                refine m_callVI_s X K hw (k_X7_goesOn l G S25 V (1 : Int32) (hI.2.1)) (g_cwV X hiX7_goesOn q981 q983 q36 q74 q984 ⟨(Nat.le_of_ble_eq_true rfl), (Nat.le_of_ble_eq_true rfl)⟩) rfl hl.1 rfl (Nat.le_of_ble_eq_true rfl) dX7_judge_61 ⟨(Nat.le_of_ble_eq_true rfl), (Nat.le_of_ble_eq_true rfl)⟩ (fun z31 S32 H locs ez31 eS32 hw => ?_)
                refine lv_aload_n X.1 X.2.1 dX7_judge_64 rfl (lv_at hl 0 rfl) ?_
                refine m_get X K hw 20 (by decide) q856 rfl dX7_judge_65 ?_
                refine lv_bipush (v := (40 : Int32)) X.1 X.2.1 dX7_judge_68 (by decide) ?_
                refine lv_iload_n X.1 X.2.1 dX7_judge_70 rfl (lv_at hl 1 rfl) ?_
                refine lv_imul X.1 X.2.1 dX7_judge_71 ?_
                refine lv_iload X.1 X.2.1 dX7_judge_72 (lv_at hl 3 rfl) ?_
                refine lv_iadd X.1 X.2.1 dX7_judge_74 ?_
                have hi33 : vp_in (((40 : Int32) * a1) + y4_44) 160 := nm_in (whn_sh ez1 c23) (lp_in hI.1 c27 (by rw [hI.2.2]; exact (hp0.2.2.1 _ (lp_cl (whn_sh ez1 c23))).2))
                refine g_iald X K hw (by decide) mm_e8 hi33 dX7_judge_75 ?_
                refine lv_icmp_ne (tgt := 83) X.1 X.2.1 dX7_judge_76 (by decide) (fun c34 => ?_) (fun c34 => ?_)
                · refine lv_iconst (v := (1 : Int32)) X.1 X.2.1 dX7_judge_83 (by decide) ?_
                  refine lv_iload X.1 X.2.1 dX7_judge_84 (lv_at hl 3 rfl) ?_
                  refine lv_iadd X.1 X.2.1 dX7_judge_86 ?_
                  refine lv_topi (fun x35 ex35 => ?_)
                  refine lv_istore_n (lv' := [(3, .int x35), (0, .ref (mm_ad G 0)), (1, .int a1), (4, .int y4_44)]) X.1 X.2.1 dX7_judge_87 rfl hl (by decide) rfl (fun ls hl => ?_)
                  obtain ⟨x36, ex36⟩ : ∃ y : Int32, y = y4_44 + (1 : Int32) := ⟨_, rfl⟩
                  refine lv_iinc (v := x36) (lv' := [(4, .int x36), (3, .int x35), (0, .ref (mm_ad G 0)), (1, .int a1)]) X.1 X.2.1 dX7_judge_88 hl (k := 3) rfl (by rw [ex36]; rfl) (by decide) rfl (fun ls hl => ?_)
                  refine lv_goto (tgt := 44) X.1 X.2.1 dX7_judge_91 (by decide) ?_
                  have hF2 : f7_judge_L44 a1 n S32 x35 x36 = tgt := by
                    rw [← hF]
                    subst ez31 eS32 ex35 ex36
                    simp only [f7_judge_L44, if_neg c27, if_pos c29, if_neg c34]
                  exact ih S32 x35 x36 _ _ ls (⟨by rw [ex36]; exact lp_nn hI.1 c27, by rw [show S32 1 0 = S25 1 0 from by subst ez31 eS32 ex35 ex36; exact (fm_goesOn _ hI.2.1).sz]; exact hI.2.1, by rw [← hI.2.2]; subst ez31 eS32 ex35 ex36; exact (fm_goesOn _ hI.2.1).row (by decide) (by decide)⟩) (by rw [ex36, show S32 7 = S25 7 from by subst ez31 eS32 ex35 ex36; exact (fm_goesOn _ hI.2.1).row (by decide) (by decide)]; exact lp_dec' c27 hm) hF2 hw (lv_sub hl [2, 3, 1, 0] rfl)
                · refine lv_iconst (v := (0 : Int32)) X.1 X.2.1 dX7_judge_79 (by decide) ?_
                  refine lv_goto (tgt := 87) X.1 X.2.1 dX7_judge_80 (by decide) ?_
                  refine lv_istore_n (lv' := [(3, .int (0 : Int32)), (0, .ref (mm_ad G 0)), (1, .int a1), (4, .int y4_44)]) X.1 X.2.1 dX7_judge_87 rfl hl (by decide) rfl (fun ls hl => ?_)
                  obtain ⟨x37, ex37⟩ : ∃ y : Int32, y = y4_44 + (1 : Int32) := ⟨_, rfl⟩
                  refine lv_iinc (v := x37) (lv' := [(4, .int x37), (3, .int (0 : Int32)), (0, .ref (mm_ad G 0)), (1, .int a1)]) X.1 X.2.1 dX7_judge_88 hl (k := 3) rfl (by rw [ex37]; rfl) (by decide) rfl (fun ls hl => ?_)
                  refine lv_goto (tgt := 44) X.1 X.2.1 dX7_judge_91 (by decide) ?_
                  have hF2 : f7_judge_L44 a1 n S32 (0 : Int32) x37 = tgt := by
                    rw [← hF]
                    subst ez31 eS32 ex37
                    simp only [f7_judge_L44, if_neg c27, if_pos c29, if_pos c34]
                  exact ih S32 (0 : Int32) x37 _ _ ls (⟨by rw [ex37]; exact lp_nn hI.1 c27, by rw [show S32 1 0 = S25 1 0 from by subst ez31 eS32 ex37; exact (fm_goesOn _ hI.2.1).sz]; exact hI.2.1, by rw [← hI.2.2]; subst ez31 eS32 ex37; exact (fm_goesOn _ hI.2.1).row (by decide) (by decide)⟩) (by rw [ex37, show S32 7 = S25 7 from by subst ez31 eS32 ex37; exact (fm_goesOn _ hI.2.1).row (by decide) (by decide)]; exact lp_dec' c27 hm) hF2 hw (lv_sub hl [2, 3, 1, 0] rfl)
        have hF2 : f7_judge_L44 a1 (lp_mu (S24 7 a1.toNatClampNeg) 0 + 1) S24 (0 : Int32) (0 : Int32) = tgt := by
          rw [← hF]
          subst ez1 ez21 eS24
          simp only [f7_judge, if_neg c2, if_pos c22, if_pos c23]
        exact j44 (lp_mu (S24 7 a1.toNatClampNeg) 0 + 1) S24 (0 : Int32) (0 : Int32) _ _ ls (⟨by decide, by subst ez1 ez21 eS24; rw [bg_sz]; exact hp0.1.2, by subst ez1 ez21 eS24; exact bg_row (by decide)⟩) (Nat.lt_succ_self _) hF2 hw (lv_sub hl [3, 4, 1, 0] rfl)
      · refine lv_aload_n X.1 X.2.1 dX7_judge_29 rfl (lv_at hl 1 rfl) ?_
        refine lv_iload_n X.1 X.2.1 dX7_judge_30 rfl (lv_at hl 0 rfl) ?_
        refine m_callVI_s X K hw (k_X7_finds l G S V z1 (whn_in ez1 c23)) (g_cwV X hiX7_finds q912 q914 q29 q74 q915 ⟨(Nat.le_of_ble_eq_true rfl), (Nat.le_of_ble_eq_true rfl)⟩) rfl hl.1 rfl (Nat.le_of_ble_eq_true rfl) dX7_judge_31 ⟨(Nat.le_of_ble_eq_true rfl), (Nat.le_of_ble_eq_true rfl)⟩ (fun z38 S39 H locs ez38 eS39 hw => ?_)
        have hR : (z38, S39) = tgt := by
          rw [← hF]
          subst ez1 ez21 ez38 eS39
          simp only [f7_judge, if_neg c2, if_pos c22, if_neg c23]
        have hRR : z38 = tgt.1 := pr1 hR
        have hRS : S39 = tgt.2 := pr2 hR
        exact g_iret X hret hlk hw hRR (congrArg (fun z => (z, V)) hRS) dX7_judge_34
    · refine lv_iconst (v := (4 : Int32)) X.1 X.2.1 dX7_judge_23 (by decide) ?_
      refine lv_istore_n (lv' := [(2, .int (4 : Int32)), (0, .ref (mm_ad G 0)), (1, .int a1)]) X.1 X.2.1 dX7_judge_24 rfl hl (by decide) rfl (fun ls hl => ?_)
      refine lv_iload_n X.1 X.2.1 dX7_judge_25 rfl (lv_at hl 0 rfl) ?_
      refine lv_if_lt (tgt := 35) X.1 X.2.1 dX7_judge_26 (by decide) (fun c40 => ?_) (fun c40 => ?_)
      · exact absurd c40 (by decide)
      · refine lv_aload_n X.1 X.2.1 dX7_judge_29 rfl (lv_at hl 1 rfl) ?_
        refine lv_iload_n X.1 X.2.1 dX7_judge_30 rfl (lv_at hl 0 rfl) ?_
        refine m_callVI_s X K hw (k_X7_finds l G S V (4 : Int32) (by unfold vp_in; decide)) (g_cwV X hiX7_finds q912 q914 q29 q74 q915 ⟨(Nat.le_of_ble_eq_true rfl), (Nat.le_of_ble_eq_true rfl)⟩) rfl hl.1 rfl (Nat.le_of_ble_eq_true rfl) dX7_judge_31 ⟨(Nat.le_of_ble_eq_true rfl), (Nat.le_of_ble_eq_true rfl)⟩ (fun z41 S42 H locs ez41 eS42 hw => ?_)
        have hR : (z41, S42) = tgt := by
          rw [← hF]
          subst ez1 ez21 ez41 eS42
          simp only [f7_judge, if_neg c2, if_neg c22]
        have hRR : z41 = tgt.1 := pr1 hR
        have hRS : S42 = tgt.2 := pr2 hR
        exact g_iret X hret hlk hw hRR (congrArg (fun z => (z, V)) hRS) dX7_judge_34
set_option maxHeartbeats 4000000 in
set_option maxRecDepth 10000 in
theorem k_X7_held (l : Launch) (G : tt_G) (S : tt_St) (V : Int64) : m_MI l G yX7_held (g_code yX7_held cX7_held 3 (some FieldType.int)) 0 0 [.ref (mm_ad G 0)] S V (f7_held S) S V := by
  generalize hF : f7_held S = tgt
  refine g_begin rfl (Nat.le_of_ble_eq_true rfl) _ (fun p e s m below meth c ls X hret hlk hB hl => ?_)
  obtain ⟨hP0, K⟩ := hB
  have hw : m_W G S V s s.heap [] := ⟨hP0, va_S.rf⟩
  have X : CallFix p m c cX7_held 3 s ([.ref (mm_ad G 0)] : List Value).toArray tt_T "TrustTinModel" := X
  have hl : lv_has ls 3 [(0, .ref (mm_ad G 0))] := hl
  refine lv_iconst (v := (0 : Int32)) X.1 X.2.1 dX7_held_0 (by decide) ?_
  refine lv_istore_n (lv' := [(1, .int (0 : Int32)), (0, .ref (mm_ad G 0))]) X.1 X.2.1 dX7_held_1 rfl hl (by decide) rfl (fun ls hl => ?_)
  refine lv_iconst (v := (0 : Int32)) X.1 X.2.1 dX7_held_2 (by decide) ?_
  refine lv_istore_n (lv' := [(2, .int (0 : Int32)), (1, .int (0 : Int32)), (0, .ref (mm_ad G 0))]) X.1 X.2.1 dX7_held_3 rfl hl (by decide) rfl (fun ls hl => ?_)
  have j4 : ∀ (n : Nat) (y1_4 : Int32) (y2_4 : Int32) (H : Heap) (locs : List Loc) (ls : Array Slot), (¬ y2_4 < 0) → lp_mu (10 : Int32) y2_4 < n → f7_held_L4 S n y1_4 y2_4 = tgt → m_W G S V s H locs → lv_has ls 3 [(0, .ref (mm_ad G 0)), (1, .int y1_4), (2, .int y2_4)] → W p l e (g_rm 0 0) s m ([.ref (mm_ad G 0)] : List Value).toArray below meth c H locs 0 0 (MQ below (va_Qi (fun r T => r = tgt ∧ T = (S, V)) (g_Post G 10 (mm_ad G) (mm_cell G)) (g_in 10 (mm_ad G))) ([.ref (mm_ad G 0)] : List Value).toArray s 0 0 (g_in 10 (mm_ad G))) (F0 m 4 ls []) := by
    intro n
    induction n with
    | zero => intro y1_4 y2_4 H locs ls hI hm; exact absurd hm (Nat.not_lt_zero _)
    | succ n ih =>
      intro y1_4 y2_4 H locs ls hI hm hF hw hl
      refine lv_iload_n X.1 X.2.1 dX7_held_4 rfl (lv_at hl 2 rfl) ?_
      refine lv_bipush (v := (10 : Int32)) X.1 X.2.1 dX7_held_5 (by decide) ?_
      refine lv_icmp_ge (tgt := 36) X.1 X.2.1 dX7_held_7 (by decide) (fun c1 => ?_) (fun c1 => ?_)
      · refine lv_iload_n X.1 X.2.1 dX7_held_36 rfl (lv_at hl 1 rfl) ?_
        have hR : y1_4 = tgt := by
          rw [← hF]
          simp only [f7_held_L4, if_pos c1]
        exact g_iret X hret hlk hw hR rfl dX7_held_37
      · refine lv_iload_n X.1 X.2.1 dX7_held_10 rfl (lv_at hl 1 rfl) ?_
        refine lv_aload_n X.1 X.2.1 dX7_held_11 rfl (lv_at hl 0 rfl) ?_
        refine m_get X K hw 0 (by decide) q836 rfl dX7_held_12 ?_
        refine lv_bipush (v := (122 : Int32)) X.1 X.2.1 dX7_held_15 (by decide) ?_
        refine lv_iload_n X.1 X.2.1 dX7_held_17 rfl (lv_at hl 2 rfl) ?_
        refine lv_iadd X.1 X.2.1 dX7_held_18 ?_
        have hi2 : vp_in ((122 : Int32) + y2_4) 132 := sp_in (lp_in hI c1 (by decide))
        refine g_iald X K hw (by decide) mm_e1 hi2 dX7_held_19 ?_
        refine lv_if_lt (tgt := 27) X.1 X.2.1 dX7_held_20 (by decide) (fun c3 => ?_) (fun c3 => ?_)
        · refine lv_iconst (v := (0 : Int32)) X.1 X.2.1 dX7_held_27 (by decide) ?_
          refine lv_iadd X.1 X.2.1 dX7_held_28 ?_
          refine lv_topi (fun x4 ex4 => ?_)
          refine lv_istore_n (lv' := [(1, .int x4), (0, .ref (mm_ad G 0)), (2, .int y2_4)]) X.1 X.2.1 dX7_held_29 rfl hl (by decide) rfl (fun ls hl => ?_)
          obtain ⟨x5, ex5⟩ : ∃ y : Int32, y = y2_4 + (1 : Int32) := ⟨_, rfl⟩
          refine lv_iinc (v := x5) (lv' := [(2, .int x5), (1, .int x4), (0, .ref (mm_ad G 0))]) X.1 X.2.1 dX7_held_30 hl (k := 2) rfl (by rw [ex5]; rfl) (by decide) rfl (fun ls hl => ?_)
          refine lv_goto (tgt := 4) X.1 X.2.1 dX7_held_33 (by decide) ?_
          have hF2 : f7_held_L4 S n x4 x5 = tgt := by
            rw [← hF]
            subst ex4 ex5
            simp only [f7_held_L4, if_neg c1, if_pos c3]
          exact ih x4 x5 _ _ ls (by rw [ex5]; exact lp_nn hI c1) (by rw [ex5]; exact lp_dec' c1 hm) hF2 hw (lv_sub hl [2, 1, 0] rfl)
        · refine lv_iconst (v := (1 : Int32)) X.1 X.2.1 dX7_held_23 (by decide) ?_
          refine lv_goto (tgt := 28) X.1 X.2.1 dX7_held_24 (by decide) ?_
          refine lv_iadd X.1 X.2.1 dX7_held_28 ?_
          refine lv_topi (fun x6 ex6 => ?_)
          refine lv_istore_n (lv' := [(1, .int x6), (0, .ref (mm_ad G 0)), (2, .int y2_4)]) X.1 X.2.1 dX7_held_29 rfl hl (by decide) rfl (fun ls hl => ?_)
          obtain ⟨x7, ex7⟩ : ∃ y : Int32, y = y2_4 + (1 : Int32) := ⟨_, rfl⟩
          refine lv_iinc (v := x7) (lv' := [(2, .int x7), (1, .int x6), (0, .ref (mm_ad G 0))]) X.1 X.2.1 dX7_held_30 hl (k := 2) rfl (by rw [ex7]; rfl) (by decide) rfl (fun ls hl => ?_)
          refine lv_goto (tgt := 4) X.1 X.2.1 dX7_held_33 (by decide) ?_
          have hF2 : f7_held_L4 S n x6 x7 = tgt := by
            rw [← hF]
            subst ex6 ex7
            simp only [f7_held_L4, if_neg c1, if_neg c3]
          exact ih x6 x7 _ _ ls (by rw [ex7]; exact lp_nn hI c1) (by rw [ex7]; exact lp_dec' c1 hm) hF2 hw (lv_sub hl [2, 1, 0] rfl)
  have hF2 : f7_held_L4 S (lp_mu (10 : Int32) 0 + 1) (0 : Int32) (0 : Int32) = tgt := by
    rw [← hF]
    simp only [f7_held]
  exact j4 (lp_mu (10 : Int32) 0 + 1) (0 : Int32) (0 : Int32) _ _ ls (by decide) (Nat.lt_succ_self _) hF2 hw (lv_sub hl [2, 1, 0] rfl)
set_option maxHeartbeats 4000000 in
set_option maxRecDepth 10000 in
theorem k_X7_count (l : Launch) (G : tt_G) (S : tt_St) (V : Int64) (a1 : Int32) (hp0 : mi S) : m_MI l G yX7_count (g_code yX7_count cX7_count 2 (some FieldType.int)) 1 22 [.ref (mm_ad G 0), .int a1] S V ((f7_count S a1).1) ((f7_count S a1).2) V := by
  generalize hF : f7_count S a1 = tgt
  refine g_begin rfl (Nat.le_of_ble_eq_true rfl) _ (fun p e s m below meth c ls X hret hlk hB hl => ?_)
  obtain ⟨hP0, K⟩ := hB
  have hw : m_W G S V s s.heap [] := ⟨hP0, va_S.rf⟩
  have X : CallFix p m c cX7_count 2 s ([.ref (mm_ad G 0), .int a1] : List Value).toArray tt_T "TrustTinModel" := X
  have hl : lv_has ls 2 [(0, .ref (mm_ad G 0)), (1, .int a1)] := hl
  refine lv_iload_n X.1 X.2.1 dX7_count_0 rfl (lv_at hl 1 rfl) ?_
  by_cases c1 : a1 = (0 : Int32)
  · refine lv_tableIn (tgt := 48) X.1 X.2.1 dX7_count_1 (by rw [c1]; decide) (by rw [c1]; decide) (by rw [c1]; rfl) (by decide) ?_
    refine lv_aload_n X.1 X.2.1 dX7_count_48 rfl (lv_at hl 0 rfl) ?_
    refine m_get X K hw 0 (by decide) q836 rfl dX7_count_49 ?_
    refine lv_iconst (v := (0 : Int32)) X.1 X.2.1 dX7_count_52 (by decide) ?_
    have hi2 : vp_in (0 : Int32) 132 := by unfold vp_in; decide
    refine g_ialdL (j := 0) X K hw (by decide) mm_e1 hi2 rfl dX7_count_53 ?_
    have hR : (S 1 0, S) = tgt := by
      rw [← hF]
      simp only [f7_count, if_pos c1]
    have hRR : S 1 0 = tgt.1 := pr1 hR
    have hRS : S = tgt.2 := pr2 hR
    exact g_iret X hret hlk hw hRR (congrArg (fun z => (z, V)) hRS) dX7_count_54
  by_cases c3 : a1 = (1 : Int32)
  · refine lv_tableIn (tgt := 55) X.1 X.2.1 dX7_count_1 (by rw [c3]; decide) (by rw [c3]; decide) (by rw [c3]; rfl) (by decide) ?_
    refine lv_aload_n X.1 X.2.1 dX7_count_55 rfl (lv_at hl 0 rfl) ?_
    refine m_get X K hw 0 (by decide) q836 rfl dX7_count_56 ?_
    refine lv_bipush (v := (11 : Int32)) X.1 X.2.1 dX7_count_59 (by decide) ?_
    have hi4 : vp_in (11 : Int32) 132 := by unfold vp_in; decide
    refine g_ialdL (j := 11) X K hw (by decide) mm_e1 hi4 rfl dX7_count_61 ?_
    have hR : (S 1 11, S) = tgt := by
      rw [← hF]
      simp only [f7_count, if_neg c1, if_pos c3]
    have hRR : S 1 11 = tgt.1 := pr1 hR
    have hRS : S = tgt.2 := pr2 hR
    exact g_iret X hret hlk hw hRR (congrArg (fun z => (z, V)) hRS) dX7_count_62
  by_cases c5 : a1 = (2 : Int32)
  · refine lv_tableIn (tgt := 63) X.1 X.2.1 dX7_count_1 (by rw [c5]; decide) (by rw [c5]; decide) (by rw [c5]; rfl) (by decide) ?_
    refine lv_aload_n X.1 X.2.1 dX7_count_63 rfl (lv_at hl 0 rfl) ?_
    refine m_get X K hw 0 (by decide) q836 rfl dX7_count_64 ?_
    refine lv_iconst (v := (1 : Int32)) X.1 X.2.1 dX7_count_67 (by decide) ?_
    have hi6 : vp_in (1 : Int32) 132 := by unfold vp_in; decide
    refine g_ialdL (j := 1) X K hw (by decide) mm_e1 hi6 rfl dX7_count_68 ?_
    have hR : (S 1 1, S) = tgt := by
      rw [← hF]
      simp only [f7_count, if_neg c1, if_neg c3, if_pos c5]
    have hRR : S 1 1 = tgt.1 := pr1 hR
    have hRS : S = tgt.2 := pr2 hR
    exact g_iret X hret hlk hw hRR (congrArg (fun z => (z, V)) hRS) dX7_count_69
  by_cases c7 : a1 = (3 : Int32)
  · refine lv_tableIn (tgt := 70) X.1 X.2.1 dX7_count_1 (by rw [c7]; decide) (by rw [c7]; decide) (by rw [c7]; rfl) (by decide) ?_
    refine lv_aload_n X.1 X.2.1 dX7_count_70 rfl (lv_at hl 0 rfl) ?_
    refine m_get X K hw 0 (by decide) q836 rfl dX7_count_71 ?_
    refine lv_iconst (v := (2 : Int32)) X.1 X.2.1 dX7_count_74 (by decide) ?_
    have hi8 : vp_in (2 : Int32) 132 := by unfold vp_in; decide
    refine g_ialdL (j := 2) X K hw (by decide) mm_e1 hi8 rfl dX7_count_75 ?_
    have hR : (S 1 2, S) = tgt := by
      rw [← hF]
      simp only [f7_count, if_neg c1, if_neg c3, if_neg c5, if_pos c7]
    have hRR : S 1 2 = tgt.1 := pr1 hR
    have hRS : S = tgt.2 := pr2 hR
    exact g_iret X hret hlk hw hRR (congrArg (fun z => (z, V)) hRS) dX7_count_76
  by_cases c9 : a1 = (4 : Int32)
  · refine lv_tableIn (tgt := 77) X.1 X.2.1 dX7_count_1 (by rw [c9]; decide) (by rw [c9]; decide) (by rw [c9]; rfl) (by decide) ?_
    refine lv_aload_n X.1 X.2.1 dX7_count_77 rfl (lv_at hl 0 rfl) ?_
    refine m_get X K hw 0 (by decide) q836 rfl dX7_count_78 ?_
    refine lv_iconst (v := (5 : Int32)) X.1 X.2.1 dX7_count_81 (by decide) ?_
    have hi10 : vp_in (5 : Int32) 132 := by unfold vp_in; decide
    refine g_ialdL (j := 5) X K hw (by decide) mm_e1 hi10 rfl dX7_count_82 ?_
    have hR : (S 1 5, S) = tgt := by
      rw [← hF]
      simp only [f7_count, if_neg c1, if_neg c3, if_neg c5, if_neg c7, if_pos c9]
    have hRR : S 1 5 = tgt.1 := pr1 hR
    have hRS : S = tgt.2 := pr2 hR
    exact g_iret X hret hlk hw hRR (congrArg (fun z => (z, V)) hRS) dX7_count_83
  by_cases c11 : a1 = (5 : Int32)
  · refine lv_tableIn (tgt := 84) X.1 X.2.1 dX7_count_1 (by rw [c11]; decide) (by rw [c11]; decide) (by rw [c11]; rfl) (by decide) ?_
    refine lv_aload_n X.1 X.2.1 dX7_count_84 rfl (lv_at hl 0 rfl) ?_
    refine m_get X K hw 6 (by decide) q842 rfl dX7_count_85 ?_
    have hR : (S 0 6, S) = tgt := by
      rw [← hF]
      simp only [f7_count, if_neg c1, if_neg c3, if_neg c5, if_neg c7, if_neg c9, if_pos c11]
    have hRR : S 0 6 = tgt.1 := pr1 hR
    have hRS : S = tgt.2 := pr2 hR
    exact g_iret X hret hlk hw hRR (congrArg (fun z => (z, V)) hRS) dX7_count_88
  by_cases c12 : a1 = (6 : Int32)
  · refine lv_tableIn (tgt := 89) X.1 X.2.1 dX7_count_1 (by rw [c12]; decide) (by rw [c12]; decide) (by rw [c12]; rfl) (by decide) ?_
    refine lv_aload_n X.1 X.2.1 dX7_count_89 rfl (lv_at hl 0 rfl) ?_
    refine m_get X K hw 0 (by decide) q836 rfl dX7_count_90 ?_
    refine lv_bipush (v := (10 : Int32)) X.1 X.2.1 dX7_count_93 (by decide) ?_
    have hi13 : vp_in (10 : Int32) 132 := by unfold vp_in; decide
    refine g_ialdL (j := 10) X K hw (by decide) mm_e1 hi13 rfl dX7_count_95 ?_
    have hR : (S 1 10, S) = tgt := by
      rw [← hF]
      simp only [f7_count, if_neg c1, if_neg c3, if_neg c5, if_neg c7, if_neg c9, if_neg c11, if_pos c12]
    have hRR : S 1 10 = tgt.1 := pr1 hR
    have hRS : S = tgt.2 := pr2 hR
    exact g_iret X hret hlk hw hRR (congrArg (fun z => (z, V)) hRS) dX7_count_96
  by_cases c14 : a1 = (7 : Int32)
  · refine lv_tableIn (tgt := 97) X.1 X.2.1 dX7_count_1 (by rw [c14]; decide) (by rw [c14]; decide) (by rw [c14]; rfl) (by decide) ?_
    refine lv_aload_n X.1 X.2.1 dX7_count_97 rfl (lv_at hl 0 rfl) ?_
    refine m_callVI_p X K hw (k_X7_held l G S V) (g_cwV X hiX7_held q1290 q1292 q65 q74 q1293 ⟨(Nat.le_of_ble_eq_true rfl), (Nat.le_of_ble_eq_true rfl)⟩) rfl hl.1 rfl (Nat.le_of_ble_eq_true rfl) dX7_count_98 ⟨(Nat.le_of_ble_eq_true rfl), (Nat.le_of_ble_eq_true rfl)⟩ (fun z15 H locs ez15 hw => ?_)
    have hR : (z15, S) = tgt := by
      rw [← hF]
      subst ez15
      simp only [f7_count, if_neg c1, if_neg c3, if_neg c5, if_neg c7, if_neg c9, if_neg c11, if_neg c12, if_pos c14]
    have hRR : z15 = tgt.1 := pr1 hR
    have hRS : S = tgt.2 := pr2 hR
    exact g_iret X hret hlk hw hRR (congrArg (fun z => (z, V)) hRS) dX7_count_101
  refine lv_tableOut (tgt := 102) X.1 X.2.1 dX7_count_1 (by have := lv_neT (a := 0) c1 rfl; have := lv_neT (a := 1) c3 rfl; have := lv_neT (a := 2) c5 rfl; have := lv_neT (a := 3) c7 rfl; have := lv_neT (a := 4) c9 rfl; have := lv_neT (a := 5) c11 rfl; have := lv_neT (a := 6) c12 rfl; have := lv_neT (a := 7) c14 rfl; omega) (by decide) ?_
  refine lv_aload_n X.1 X.2.1 dX7_count_102 rfl (lv_at hl 0 rfl) ?_
  refine lv_iconst (v := (0 : Int32)) X.1 X.2.1 dX7_count_103 (by decide) ?_
  refine m_callVI_s X K hw (k_X7_finds l G S V (0 : Int32) (by unfold vp_in; decide)) (g_cwV X hiX7_finds q912 q914 q29 q74 q915 ⟨(Nat.le_of_ble_eq_true rfl), (Nat.le_of_ble_eq_true rfl)⟩) rfl hl.1 rfl (Nat.le_of_ble_eq_true rfl) dX7_count_104 ⟨(Nat.le_of_ble_eq_true rfl), (Nat.le_of_ble_eq_true rfl)⟩ (fun z16 S17 H locs ez16 eS17 hw => ?_)
  have hR : (z16, S17) = tgt := by
    rw [← hF]
    subst ez16 eS17
    simp only [f7_count, if_neg c1, if_neg c3, if_neg c5, if_neg c7, if_neg c9, if_neg c11, if_neg c12, if_neg c14]
  have hRR : z16 = tgt.1 := pr1 hR
  have hRS : S17 = tgt.2 := pr2 hR
  exact g_iret X hret hlk hw hRR (congrArg (fun z => (z, V)) hRS) dX7_count_107
set_option maxHeartbeats 4000000 in
set_option maxRecDepth 10000 in
theorem k_X7_status (l : Launch) (G : tt_G) (S : tt_St) (V : Int64) (a1 : Int32) (hp0 : mi S) : m_MI l G yX7_status (g_code yX7_status cX7_status 4 (some FieldType.int)) 1 25 [.ref (mm_ad G 0), .int a1] S V ((f7_status S a1).1) ((f7_status S a1).2) V := by
  generalize hF : f7_status S a1 = tgt
  refine g_begin rfl (Nat.le_of_ble_eq_true rfl) _ (fun p e s m below meth c ls X hret hlk hB hl => ?_)
  obtain ⟨hP0, K⟩ := hB
  have hw : m_W G S V s s.heap [] := ⟨hP0, va_S.rf⟩
  have X : CallFix p m c cX7_status 4 s ([.ref (mm_ad G 0), .int a1] : List Value).toArray tt_T "TrustTinModel" := X
  have hl : lv_has ls 4 [(0, .ref (mm_ad G 0)), (1, .int a1)] := hl
  refine lv_iload_n X.1 X.2.1 dX7_status_0 rfl (lv_at hl 1 rfl) ?_
  refine lv_i2l X.1 X.2.1 dX7_status_1 rfl ?_
  refine lv_ldc2 (v := (-1 : Int64)) X.1 X.2.1 X.2.2.2.1 (X.2.2.2.2 _ q1298) dX7_status_2 ?_
  refine lv_ldc2 (v := (6 : Int64)) X.1 X.2.1 X.2.2.2.1 (X.2.2.2.2 _ q907) dX7_status_5 ?_
  refine m_callSI_p X K hw (k_X7_in l G S V a1.toInt64 (-1 : Int64) (6 : Int64)) (g_cwS X hiX7_in q908 q909 q74 q910 ⟨(Nat.le_of_ble_eq_true rfl), (Nat.le_of_ble_eq_true rfl)⟩) rfl hl.1 rfl (Nat.le_of_ble_eq_true rfl) dX7_status_8 ⟨(Nat.le_of_ble_eq_true rfl), (Nat.le_of_ble_eq_true rfl)⟩ (fun z1 H locs ez1 hw => ?_)
  refine lv_if_ne (tgt := 20) X.1 X.2.1 dX7_status_11 (by decide) (fun c2 => ?_) (fun c2 => ?_)
  · refine lv_iconst (v := (0 : Int32)) X.1 X.2.1 dX7_status_20 (by decide) ?_
    refine lv_istore_n (lv' := [(2, .int (0 : Int32)), (0, .ref (mm_ad G 0)), (1, .int a1)]) X.1 X.2.1 dX7_status_21 rfl hl (by decide) rfl (fun ls hl => ?_)
    refine lv_iconst (v := (0 : Int32)) X.1 X.2.1 dX7_status_22 (by decide) ?_
    refine lv_istore_n (lv' := [(3, .int (0 : Int32)), (2, .int (0 : Int32)), (0, .ref (mm_ad G 0)), (1, .int a1)]) X.1 X.2.1 dX7_status_23 rfl hl (by decide) rfl (fun ls hl => ?_)
    have j24 : ∀ (n : Nat) (S3 : tt_St) (y2_24 : Int32) (y3_24 : Int32) (H : Heap) (locs : List Loc) (ls : Array Slot), ((¬ y3_24 < 0) ∧ S3 = S) → lp_mu (7 : Int32) y3_24 < n → f7_status_L24 a1 n S3 y2_24 y3_24 = tgt → m_W G S3 V s H locs → lv_has ls 4 [(0, .ref (mm_ad G 0)), (1, .int a1), (2, .int y2_24), (3, .int y3_24)] → W p l e (g_rm 1 25) s m ([.ref (mm_ad G 0), .int a1] : List Value).toArray below meth c H locs 0 0 (MQ below (va_Qi (fun r T => r = tgt.1 ∧ T = (tgt.2, V)) (g_Post G 10 (mm_ad G) (mm_cell G)) (g_in 10 (mm_ad G))) ([.ref (mm_ad G 0), .int a1] : List Value).toArray s 0 0 (g_in 10 (mm_ad G))) (F0 m 24 ls []) := by
      intro n
      induction n with
      | zero => intro S3 y2_24 y3_24 H locs ls hI hm; exact absurd hm (Nat.not_lt_zero _)
      | succ n ih =>
        intro S3 y2_24 y3_24 H locs ls hI hm hF hw hl
        refine lv_iload_n X.1 X.2.1 dX7_status_24 rfl (lv_at hl 3 rfl) ?_
        refine lv_bipush (v := (7 : Int32)) X.1 X.2.1 dX7_status_25 (by decide) ?_
        refine lv_icmp_ge (tgt := 45) X.1 X.2.1 dX7_status_27 (by decide) (fun c4 => ?_) (fun c4 => ?_)
        · refine lv_iload_n X.1 X.2.1 dX7_status_45 rfl (lv_at hl 1 rfl) ?_
          refine lv_if_ge (tgt := 53) X.1 X.2.1 dX7_status_46 (by decide) (fun c5 => ?_) (fun c5 => ?_)
          · refine lv_aload_n X.1 X.2.1 dX7_status_53 rfl (lv_at hl 0 rfl) ?_
            refine m_get X K hw 4 (by decide) q840 rfl dX7_status_54 ?_
            refine lv_iload_n X.1 X.2.1 dX7_status_57 rfl (lv_at hl 1 rfl) ?_
            have hi6 : vp_in a1 7 := st_in ez1 c2 c5
            refine g_iald X K hw (by decide) mm_e4 hi6 dX7_status_58 ?_
            have hR : (S3 4 a1.toNatClampNeg, S3) = tgt := by
              rw [← hF]
              simp only [f7_status_L24, if_pos c4, if_pos c5]
            have hRR : S3 4 a1.toNatClampNeg = tgt.1 := pr1 hR
            have hRS : S3 = tgt.2 := pr2 hR
            exact g_iret X hret hlk hw hRR (congrArg (fun z => (z, V)) hRS) dX7_status_59
          · refine lv_iload_n X.1 X.2.1 dX7_status_49 rfl (lv_at hl 2 rfl) ?_
            refine lv_goto (tgt := 59) X.1 X.2.1 dX7_status_50 (by decide) ?_
            have hR : (y2_24, S3) = tgt := by
              rw [← hF]
              simp only [f7_status_L24, if_pos c4, if_neg c5]
            have hRR : y2_24 = tgt.1 := pr1 hR
            have hRS : S3 = tgt.2 := pr2 hR
            exact g_iret X hret hlk hw hRR (congrArg (fun z => (z, V)) hRS) dX7_status_59
        · refine lv_iload_n X.1 X.2.1 dX7_status_30 rfl (lv_at hl 2 rfl) ?_
          refine lv_aload_n X.1 X.2.1 dX7_status_31 rfl (lv_at hl 0 rfl) ?_
          refine m_get X K hw 4 (by decide) q840 rfl dX7_status_32 ?_
          refine lv_iload_n X.1 X.2.1 dX7_status_35 rfl (lv_at hl 3 rfl) ?_
          have hi7 : vp_in y3_24 7 := lp_in hI.1 c4 (by decide)
          refine g_iald X K hw (by decide) mm_e4 hi7 dX7_status_36 ?_
          refine lv_iadd X.1 X.2.1 dX7_status_37 ?_
          refine lv_topi (fun x8 ex8 => ?_)
          refine lv_istore_n (lv' := [(2, .int x8), (0, .ref (mm_ad G 0)), (1, .int a1), (3, .int y3_24)]) X.1 X.2.1 dX7_status_38 rfl hl (by decide) rfl (fun ls hl => ?_)
          obtain ⟨x9, ex9⟩ : ∃ y : Int32, y = y3_24 + (1 : Int32) := ⟨_, rfl⟩
          refine lv_iinc (v := x9) (lv' := [(3, .int x9), (2, .int x8), (0, .ref (mm_ad G 0)), (1, .int a1)]) X.1 X.2.1 dX7_status_39 hl (k := 3) rfl (by rw [ex9]; rfl) (by decide) rfl (fun ls hl => ?_)
          refine lv_goto (tgt := 24) X.1 X.2.1 dX7_status_42 (by decide) ?_
          have hF2 : f7_status_L24 a1 n S3 x8 x9 = tgt := by
            rw [← hF]
            subst ex8 ex9
            simp only [f7_status_L24, if_neg c4]
          exact ih S3 x8 x9 _ _ ls (⟨by rw [ex9]; exact lp_nn hI.1 c4, hI.2⟩) (by rw [ex9]; exact lp_dec' c4 hm) hF2 hw (lv_sub hl [2, 3, 1, 0] rfl)
    have hF2 : f7_status_L24 a1 (lp_mu (7 : Int32) 0 + 1) S (0 : Int32) (0 : Int32) = tgt := by
      rw [← hF]
      subst ez1
      simp only [f7_status, if_neg c2]
    exact j24 (lp_mu (7 : Int32) 0 + 1) S (0 : Int32) (0 : Int32) _ _ ls (⟨by decide, rfl⟩) (Nat.lt_succ_self _) hF2 hw (lv_sub hl [2, 3, 1, 0] rfl)
  · refine lv_aload_n X.1 X.2.1 dX7_status_14 rfl (lv_at hl 0 rfl) ?_
    refine lv_iconst (v := (0 : Int32)) X.1 X.2.1 dX7_status_15 (by decide) ?_
    refine m_callVI_s X K hw (k_X7_finds l G S V (0 : Int32) (by unfold vp_in; decide)) (g_cwV X hiX7_finds q912 q914 q29 q74 q915 ⟨(Nat.le_of_ble_eq_true rfl), (Nat.le_of_ble_eq_true rfl)⟩) rfl hl.1 rfl (Nat.le_of_ble_eq_true rfl) dX7_status_16 ⟨(Nat.le_of_ble_eq_true rfl), (Nat.le_of_ble_eq_true rfl)⟩ (fun z10 S11 H locs ez10 eS11 hw => ?_)
    have hR : (z10, S11) = tgt := by
      rw [← hF]
      subst ez1 ez10 eS11
      simp only [f7_status, if_pos c2]
    have hRR : z10 = tgt.1 := pr1 hR
    have hRS : S11 = tgt.2 := pr2 hR
    exact g_iret X hret hlk hw hRR (congrArg (fun z => (z, V)) hRS) dX7_status_19
