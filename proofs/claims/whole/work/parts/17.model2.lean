set_option maxHeartbeats 4000000 in
set_option maxRecDepth 10000 in
theorem k_X7_drinker (l : Launch) (G : tt_G) (S : tt_St) (V : Int64) (a1 : Int32) (a2 : Int32) (hp0 : mi S) : m_MI l G yX7_drinker (g_code yX7_drinker cX7_drinker 3 (some FieldType.int)) 2 48 [.ref (mm_ad G 0), .int a1, .int a2] S V ((f7_drinker S a1 a2).1) ((f7_drinker S a1 a2).2) V := by
  generalize hF : f7_drinker S a1 a2 = tgt
  refine g_begin rfl (Nat.le_of_ble_eq_true rfl) _ (fun p e s m below meth c ls X hret hlk hB hl => ?_)
  obtain ⟨hP0, K⟩ := hB
  have hw : m_W G S V s s.heap [] := ⟨hP0, va_S.rf⟩
  have X : CallFix p m c cX7_drinker 3 s ([.ref (mm_ad G 0), .int a1, .int a2] : List Value).toArray tt_T "TrustTinModel" := X
  have hl : lv_has ls 3 [(0, .ref (mm_ad G 0)), (1, .int a1), (2, .int a2)] := hl
  refine lv_iload_n X.1 X.2.1 dX7_drinker_0 rfl (lv_at hl 1 rfl) ?_
  refine lv_i2l X.1 X.2.1 dX7_drinker_1 rfl ?_
  refine lv_lconst (v := (0 : Int64)) X.1 X.2.1 dX7_drinker_2 (by decide) ?_
  refine lv_ldc2 (v := (6 : Int64)) X.1 X.2.1 X.2.2.2.1 (X.2.2.2.2 _ q907) dX7_drinker_3 ?_
  refine m_callSI_p X K hw (k_X7_in l G S V a1.toInt64 (0 : Int64) (6 : Int64)) (g_cwS X hiX7_in q908 q909 q74 q910 ⟨(Nat.le_of_ble_eq_true rfl), (Nat.le_of_ble_eq_true rfl)⟩) rfl hl.1 rfl (Nat.le_of_ble_eq_true rfl) dX7_drinker_6 ⟨(Nat.le_of_ble_eq_true rfl), (Nat.le_of_ble_eq_true rfl)⟩ (fun z1 H locs ez1 hw => ?_)
  refine lv_if_eq (tgt := 24) X.1 X.2.1 dX7_drinker_9 (by decide) (fun c2 => ?_) (fun c2 => ?_)
  · refine lv_aload_n X.1 X.2.1 dX7_drinker_24 rfl (lv_at hl 0 rfl) ?_
    refine lv_iconst (v := (0 : Int32)) X.1 X.2.1 dX7_drinker_25 (by decide) ?_
    refine m_callVI_s X K hw (k_X7_finds l G S V (0 : Int32) (by unfold vp_in; decide)) (g_cwV X hiX7_finds q912 q914 q29 q74 q915 ⟨(Nat.le_of_ble_eq_true rfl), (Nat.le_of_ble_eq_true rfl)⟩) rfl hl.1 rfl (Nat.le_of_ble_eq_true rfl) dX7_drinker_26 ⟨(Nat.le_of_ble_eq_true rfl), (Nat.le_of_ble_eq_true rfl)⟩ (fun z3 S4 H locs ez3 eS4 hw => ?_)
    have hR : (z3, S4) = tgt := by
      rw [← hF]
      subst ez1 ez3 eS4
      simp only [f7_drinker, if_pos c2]
    have hRR : z3 = tgt.1 := pr1 hR
    have hRS : S4 = tgt.2 := pr2 hR
    exact g_iret X hret hlk hw hRR (congrArg (fun z => (z, V)) hRS) dX7_drinker_29
  · refine lv_iload_n X.1 X.2.1 dX7_drinker_12 rfl (lv_at hl 2 rfl) ?_
    refine lv_i2l X.1 X.2.1 dX7_drinker_13 rfl ?_
    refine lv_lconst (v := (1 : Int64)) X.1 X.2.1 dX7_drinker_14 (by decide) ?_
    refine lv_ldc2 (v := (9 : Int64)) X.1 X.2.1 X.2.2.2.1 (X.2.2.2.2 _ q911) dX7_drinker_15 ?_
    refine m_callSI_p X K hw (k_X7_in l G S V a2.toInt64 (1 : Int64) (9 : Int64)) (g_cwS X hiX7_in q908 q909 q74 q910 ⟨(Nat.le_of_ble_eq_true rfl), (Nat.le_of_ble_eq_true rfl)⟩) rfl hl.1 rfl (Nat.le_of_ble_eq_true rfl) dX7_drinker_18 ⟨(Nat.le_of_ble_eq_true rfl), (Nat.le_of_ble_eq_true rfl)⟩ (fun z5 H locs ez5 hw => ?_)
    refine lv_if_ne (tgt := 30) X.1 X.2.1 dX7_drinker_21 (by decide) (fun c6 => ?_) (fun c6 => ?_)
    · refine lv_aload_n X.1 X.2.1 dX7_drinker_30 rfl (lv_at hl 0 rfl) ?_
      refine m_get X K hw 0 (by decide) q836 rfl dX7_drinker_31 ?_
      refine lv_iconst (v := (0 : Int32)) X.1 X.2.1 dX7_drinker_34 (by decide) ?_
      have hi7 : vp_in (0 : Int32) 132 := by unfold vp_in; decide
      refine g_ialdL (j := 0) X K hw (by decide) mm_e1 hi7 rfl dX7_drinker_35 ?_
      refine lv_bipush (v := (10 : Int32)) X.1 X.2.1 dX7_drinker_36 (by decide) ?_
      refine lv_icmp_ne (tgt := 49) X.1 X.2.1 dX7_drinker_38 (by decide) (fun c8 => ?_) (fun c8 => ?_)
      · refine lv_aload_n X.1 X.2.1 dX7_drinker_49 rfl (lv_at hl 0 rfl) ?_
        refine lv_iload_n X.1 X.2.1 dX7_drinker_50 rfl (lv_at hl 1 rfl) ?_
        refine lv_iload_n X.1 X.2.1 dX7_drinker_51 rfl (lv_at hl 2 rfl) ?_
        refine lv_sipush (v := (200 : Int32)) X.1 X.2.1 dX7_drinker_52 (by decide) ?_
        refine lv_bipush (v := (20 : Int32)) X.1 X.2.1 dX7_drinker_55 (by decide) ?_
        refine m_callVI_s X K hw (k_X7_comes l G S V a1 a2 (200 : Int32) (20 : Int32) (dk_in hp0.1 c8)) (g_cwV X hiX7_comes q917 q919 q30 q74 q920 ⟨(Nat.le_of_ble_eq_true rfl), (Nat.le_of_ble_eq_true rfl)⟩) rfl hl.1 rfl (Nat.le_of_ble_eq_true rfl) dX7_drinker_57 ⟨(Nat.le_of_ble_eq_true rfl), (Nat.le_of_ble_eq_true rfl)⟩ (fun z9 S10 H locs ez9 eS10 hw => ?_)
        have hR : (z9, S10) = tgt := by
          rw [← hF]
          subst ez1 ez5 ez9 eS10
          simp only [f7_drinker, if_neg c2, if_neg c6, if_neg c8]
        have hRR : z9 = tgt.1 := pr1 hR
        have hRS : S10 = tgt.2 := pr2 hR
        exact g_iret X hret hlk hw hRR (congrArg (fun z => (z, V)) hRS) dX7_drinker_60
      · refine lv_aload_n X.1 X.2.1 dX7_drinker_41 rfl (lv_at hl 0 rfl) ?_
        refine lv_iconst (v := (1 : Int32)) X.1 X.2.1 dX7_drinker_42 (by decide) ?_
        refine m_callVI_s X K hw (k_X7_finds l G S V (1 : Int32) (by unfold vp_in; decide)) (g_cwV X hiX7_finds q912 q914 q29 q74 q915 ⟨(Nat.le_of_ble_eq_true rfl), (Nat.le_of_ble_eq_true rfl)⟩) rfl hl.1 rfl (Nat.le_of_ble_eq_true rfl) dX7_drinker_43 ⟨(Nat.le_of_ble_eq_true rfl), (Nat.le_of_ble_eq_true rfl)⟩ (fun z11 S12 H locs ez11 eS12 hw => ?_)
        refine lv_goto (tgt := 60) X.1 X.2.1 dX7_drinker_46 (by decide) ?_
        have hR : (z11, S12) = tgt := by
          rw [← hF]
          subst ez1 ez5 ez11 eS12
          simp only [f7_drinker, if_neg c2, if_neg c6, if_pos c8]
        have hRR : z11 = tgt.1 := pr1 hR
        have hRS : S12 = tgt.2 := pr2 hR
        exact g_iret X hret hlk hw hRR (congrArg (fun z => (z, V)) hRS) dX7_drinker_60
    · refine lv_aload_n X.1 X.2.1 dX7_drinker_24 rfl (lv_at hl 0 rfl) ?_
      refine lv_iconst (v := (0 : Int32)) X.1 X.2.1 dX7_drinker_25 (by decide) ?_
      refine m_callVI_s X K hw (k_X7_finds l G S V (0 : Int32) (by unfold vp_in; decide)) (g_cwV X hiX7_finds q912 q914 q29 q74 q915 ⟨(Nat.le_of_ble_eq_true rfl), (Nat.le_of_ble_eq_true rfl)⟩) rfl hl.1 rfl (Nat.le_of_ble_eq_true rfl) dX7_drinker_26 ⟨(Nat.le_of_ble_eq_true rfl), (Nat.le_of_ble_eq_true rfl)⟩ (fun z13 S14 H locs ez13 eS14 hw => ?_)
      have hR : (z13, S14) = tgt := by
        rw [← hF]
        subst ez1 ez5 ez13 eS14
        simp only [f7_drinker, if_neg c2, if_pos c6]
      have hRR : z13 = tgt.1 := pr1 hR
      have hRS : S14 = tgt.2 := pr2 hR
      exact g_iret X hret hlk hw hRR (congrArg (fun z => (z, V)) hRS) dX7_drinker_29
set_option maxHeartbeats 4000000 in
set_option maxRecDepth 10000 in
theorem k_X7_of (l : Launch) (G : tt_G) (S : tt_St) (V : Int64) (a1 : Int32) (a2 : Int32) (hp0 : mi S) : m_MI l G yX7_of (g_code yX7_of cX7_of 3 (some FieldType.int)) 2 46 [.ref (mm_ad G 0), .int a1, .int a2] S V ((f7_of S a1 a2).1) ((f7_of S a1 a2).2) V := by
  generalize hF : f7_of S a1 a2 = tgt
  refine g_begin rfl (Nat.le_of_ble_eq_true rfl) _ (fun p e s m below meth c ls X hret hlk hB hl => ?_)
  obtain ⟨hP0, K⟩ := hB
  have hw : m_W G S V s s.heap [] := ⟨hP0, va_S.rf⟩
  have X : CallFix p m c cX7_of 3 s ([.ref (mm_ad G 0), .int a1, .int a2] : List Value).toArray tt_T "TrustTinModel" := X
  have hl : lv_has ls 3 [(0, .ref (mm_ad G 0)), (1, .int a1), (2, .int a2)] := hl
  refine lv_aload_n X.1 X.2.1 dX7_of_0 rfl (lv_at hl 0 rfl) ?_
  refine lv_iload_n X.1 X.2.1 dX7_of_1 rfl (lv_at hl 1 rfl) ?_
  refine m_callVI_p X K hw (k_X7_isDrinker l G S V a1) (g_cwV X hiX7_isDrinker q929 q931 q32 q74 q932 ⟨(Nat.le_of_ble_eq_true rfl), (Nat.le_of_ble_eq_true rfl)⟩) rfl hl.1 rfl (Nat.le_of_ble_eq_true rfl) dX7_of_2 ⟨(Nat.le_of_ble_eq_true rfl), (Nat.le_of_ble_eq_true rfl)⟩ (fun z1 H locs ez1 hw => ?_)
  refine lv_if_eq (tgt := 29) X.1 X.2.1 dX7_of_5 (by decide) (fun c2 => ?_) (fun c2 => ?_)
  · refine lv_aload_n X.1 X.2.1 dX7_of_29 rfl (lv_at hl 0 rfl) ?_
    refine lv_iconst (v := (0 : Int32)) X.1 X.2.1 dX7_of_30 (by decide) ?_
    refine m_callVI_s X K hw (k_X7_finds l G S V (0 : Int32) (by unfold vp_in; decide)) (g_cwV X hiX7_finds q912 q914 q29 q74 q915 ⟨(Nat.le_of_ble_eq_true rfl), (Nat.le_of_ble_eq_true rfl)⟩) rfl hl.1 rfl (Nat.le_of_ble_eq_true rfl) dX7_of_31 ⟨(Nat.le_of_ble_eq_true rfl), (Nat.le_of_ble_eq_true rfl)⟩ (fun z3 S4 H locs ez3 eS4 hw => ?_)
    have hR : (z3, S4) = tgt := by
      rw [← hF]
      subst ez1 ez3 eS4
      simp only [f7_of, if_pos c2]
    have hRR : z3 = tgt.1 := pr1 hR
    have hRS : S4 = tgt.2 := pr2 hR
    exact g_iret X hret hlk hw hRR (congrArg (fun z => (z, V)) hRS) dX7_of_34
  · refine lv_iload_n X.1 X.2.1 dX7_of_8 rfl (lv_at hl 2 rfl) ?_
    refine lv_i2l X.1 X.2.1 dX7_of_9 rfl ?_
    refine lv_lconst (v := (0 : Int64)) X.1 X.2.1 dX7_of_10 (by decide) ?_
    refine lv_ldc2 (v := (6 : Int64)) X.1 X.2.1 X.2.2.2.1 (X.2.2.2.2 _ q907) dX7_of_11 ?_
    refine m_callSI_p X K hw (k_X7_in l G S V a2.toInt64 (0 : Int64) (6 : Int64)) (g_cwS X hiX7_in q908 q909 q74 q910 ⟨(Nat.le_of_ble_eq_true rfl), (Nat.le_of_ble_eq_true rfl)⟩) rfl hl.1 rfl (Nat.le_of_ble_eq_true rfl) dX7_of_14 ⟨(Nat.le_of_ble_eq_true rfl), (Nat.le_of_ble_eq_true rfl)⟩ (fun z5 H locs ez5 hw => ?_)
    refine lv_if_eq (tgt := 29) X.1 X.2.1 dX7_of_17 (by decide) (fun c6 => ?_) (fun c6 => ?_)
    · refine lv_aload_n X.1 X.2.1 dX7_of_29 rfl (lv_at hl 0 rfl) ?_
      refine lv_iconst (v := (0 : Int32)) X.1 X.2.1 dX7_of_30 (by decide) ?_
      refine m_callVI_s X K hw (k_X7_finds l G S V (0 : Int32) (by unfold vp_in; decide)) (g_cwV X hiX7_finds q912 q914 q29 q74 q915 ⟨(Nat.le_of_ble_eq_true rfl), (Nat.le_of_ble_eq_true rfl)⟩) rfl hl.1 rfl (Nat.le_of_ble_eq_true rfl) dX7_of_31 ⟨(Nat.le_of_ble_eq_true rfl), (Nat.le_of_ble_eq_true rfl)⟩ (fun z7 S8 H locs ez7 eS8 hw => ?_)
      have hR : (z7, S8) = tgt := by
        rw [← hF]
        subst ez1 ez5 ez7 eS8
        simp only [f7_of, if_neg c2, if_pos c6]
      have hRR : z7 = tgt.1 := pr1 hR
      have hRS : S8 = tgt.2 := pr2 hR
      exact g_iret X hret hlk hw hRR (congrArg (fun z => (z, V)) hRS) dX7_of_34
    · refine lv_aload_n X.1 X.2.1 dX7_of_20 rfl (lv_at hl 0 rfl) ?_
      refine lv_iload_n X.1 X.2.1 dX7_of_21 rfl (lv_at hl 1 rfl) ?_
      refine lv_iload_n X.1 X.2.1 dX7_of_22 rfl (lv_at hl 2 rfl) ?_
      refine m_callVI_p X K hw (k_X7_its l G S V a1 a2 (md_in hp0.1 ez1 c2) (in_of ez5 c6 (by decide) (by decide))) (g_cwV X hiX7_its q933 q935 q33 q74 q936 ⟨(Nat.le_of_ble_eq_true rfl), (Nat.le_of_ble_eq_true rfl)⟩) rfl hl.1 rfl (Nat.le_of_ble_eq_true rfl) dX7_of_23 ⟨(Nat.le_of_ble_eq_true rfl), (Nat.le_of_ble_eq_true rfl)⟩ (fun z9 H locs ez9 hw => ?_)
      refine lv_goto (tgt := 34) X.1 X.2.1 dX7_of_26 (by decide) ?_
      have hR : (z9, S) = tgt := by
        rw [← hF]
        subst ez1 ez5 ez9
        simp only [f7_of, if_neg c2, if_neg c6]
      have hRR : z9 = tgt.1 := pr1 hR
      have hRS : S = tgt.2 := pr2 hR
      exact g_iret X hret hlk hw hRR (congrArg (fun z => (z, V)) hRS) dX7_of_34
set_option maxHeartbeats 4000000 in
set_option maxRecDepth 10000 in
theorem k_X7_change (l : Launch) (G : tt_G) (S : tt_St) (V : Int64) (a1 : Int32) (a2 : Int32) (a3 : Int32) (hp0 : mi S) : m_MI l G yX7_change (g_code yX7_change cX7_change 6 (some FieldType.int)) 2 46 [.ref (mm_ad G 0), .int a1, .int a2, .int a3] S V ((f7_change S a1 a2 a3).1) ((f7_change S a1 a2 a3).2) V := by
  generalize hF : f7_change S a1 a2 a3 = tgt
  refine g_begin rfl (Nat.le_of_ble_eq_true rfl) _ (fun p e s m below meth c ls X hret hlk hB hl => ?_)
  obtain ⟨hP0, K⟩ := hB
  have hw : m_W G S V s s.heap [] := ⟨hP0, va_S.rf⟩
  have X : CallFix p m c cX7_change 6 s ([.ref (mm_ad G 0), .int a1, .int a2, .int a3] : List Value).toArray tt_T "TrustTinModel" := X
  have hl : lv_has ls 6 [(0, .ref (mm_ad G 0)), (1, .int a1), (2, .int a2), (3, .int a3)] := hl
  refine lv_iload_n X.1 X.2.1 dX7_change_0 rfl (lv_at hl 2 rfl) ?_
  refine lv_if_ne (tgt := 16) X.1 X.2.1 dX7_change_1 (by decide) (fun c1 => ?_) (fun c1 => ?_)
  · refine lv_iload_n X.1 X.2.1 dX7_change_16 rfl (lv_at hl 2 rfl) ?_
    refine lv_iconst (v := (1 : Int32)) X.1 X.2.1 dX7_change_17 (by decide) ?_
    refine lv_icmp_ne (tgt := 33) X.1 X.2.1 dX7_change_18 (by decide) (fun c2 => ?_) (fun c2 => ?_)
    · refine lv_iload_n X.1 X.2.1 dX7_change_33 rfl (lv_at hl 2 rfl) ?_
      refine lv_iconst (v := (2 : Int32)) X.1 X.2.1 dX7_change_34 (by decide) ?_
      refine lv_icmp_ne (tgt := 50) X.1 X.2.1 dX7_change_35 (by decide) (fun c3 => ?_) (fun c3 => ?_)
      · refine lv_iload_n X.1 X.2.1 dX7_change_50 rfl (lv_at hl 2 rfl) ?_
        refine lv_iconst (v := (3 : Int32)) X.1 X.2.1 dX7_change_51 (by decide) ?_
        refine lv_icmp_ne (tgt := 71) X.1 X.2.1 dX7_change_52 (by decide) (fun c4 => ?_) (fun c4 => ?_)
        · refine lv_iconst (v := (0 : Int32)) X.1 X.2.1 dX7_change_71 (by decide) ?_
          refine lv_istore (lv' := [(4, .int (0 : Int32)), (0, .ref (mm_ad G 0)), (1, .int a1), (2, .int a2), (3, .int a3)]) X.1 X.2.1 dX7_change_72 hl (by decide) rfl (fun ls hl => ?_)
          refine lv_aload_n X.1 X.2.1 dX7_change_74 rfl (lv_at hl 1 rfl) ?_
          refine lv_iload_n X.1 X.2.1 dX7_change_75 rfl (lv_at hl 2 rfl) ?_
          refine m_callVI_p X K hw (k_X7_isDrinker l G S V a1) (g_cwV X hiX7_isDrinker q929 q931 q32 q74 q932 ⟨(Nat.le_of_ble_eq_true rfl), (Nat.le_of_ble_eq_true rfl)⟩) rfl hl.1 rfl (Nat.le_of_ble_eq_true rfl) dX7_change_76 ⟨(Nat.le_of_ble_eq_true rfl), (Nat.le_of_ble_eq_true rfl)⟩ (fun z5 H locs ez5 hw => ?_)
          refine lv_if_eq (tgt := 87) X.1 X.2.1 dX7_change_79 (by decide) (fun c6 => ?_) (fun c6 => ?_)
          · refine lv_aload_n X.1 X.2.1 dX7_change_87 rfl (lv_at hl 1 rfl) ?_
            refine lv_iconst (v := (0 : Int32)) X.1 X.2.1 dX7_change_88 (by decide) ?_
            refine m_callVI_s X K hw (k_X7_finds l G S V (0 : Int32) (by unfold vp_in; decide)) (g_cwV X hiX7_finds q912 q914 q29 q74 q915 ⟨(Nat.le_of_ble_eq_true rfl), (Nat.le_of_ble_eq_true rfl)⟩) rfl hl.1 rfl (Nat.le_of_ble_eq_true rfl) dX7_change_89 ⟨(Nat.le_of_ble_eq_true rfl), (Nat.le_of_ble_eq_true rfl)⟩ (fun z7 S8 H locs ez7 eS8 hw => ?_)
            have hR : (z7, S8) = tgt := by
              rw [← hF]
              subst ez5 ez7 eS8
              simp only [f7_change, if_neg c1, if_neg c2, if_neg c3, if_neg c4, if_pos c6]
            have hRR : z7 = tgt.1 := pr1 hR
            have hRS : S8 = tgt.2 := pr2 hR
            exact g_iret X hret hlk hw hRR (congrArg (fun z => (z, V)) hRS) dX7_change_92
          · refine lv_iload X.1 X.2.1 dX7_change_82 (lv_at hl 0 rfl) ?_
            refine lv_if_ne (tgt := 93) X.1 X.2.1 dX7_change_84 (by decide) (fun c9 => ?_) (fun c9 => ?_)
            · exact absurd (by decide) c9
            · refine lv_aload_n X.1 X.2.1 dX7_change_87 rfl (lv_at hl 1 rfl) ?_
              refine lv_iconst (v := (0 : Int32)) X.1 X.2.1 dX7_change_88 (by decide) ?_
              refine m_callVI_s X K hw (k_X7_finds l G S V (0 : Int32) (by unfold vp_in; decide)) (g_cwV X hiX7_finds q912 q914 q29 q74 q915 ⟨(Nat.le_of_ble_eq_true rfl), (Nat.le_of_ble_eq_true rfl)⟩) rfl hl.1 rfl (Nat.le_of_ble_eq_true rfl) dX7_change_89 ⟨(Nat.le_of_ble_eq_true rfl), (Nat.le_of_ble_eq_true rfl)⟩ (fun z10 S11 H locs ez10 eS11 hw => ?_)
              have hR : (z10, S11) = tgt := by
                rw [← hF]
                subst ez5 ez10 eS11
                simp only [f7_change, if_neg c1, if_neg c2, if_neg c3, if_neg c4, if_neg c6]
              have hRR : z10 = tgt.1 := pr1 hR
              have hRS : S11 = tgt.2 := pr2 hR
              exact g_iret X hret hlk hw hRR (congrArg (fun z => (z, V)) hRS) dX7_change_92
        · refine lv_iload_n X.1 X.2.1 dX7_change_55 rfl (lv_at hl 3 rfl) ?_
          refine lv_i2l X.1 X.2.1 dX7_change_56 rfl ?_
          refine lv_lconst (v := (0 : Int64)) X.1 X.2.1 dX7_change_57 (by decide) ?_
          refine lv_ldc2 (v := (99 : Int64)) X.1 X.2.1 X.2.2.2.1 (X.2.2.2.2 _ q942) dX7_change_58 ?_
          refine m_callSI_p X K hw (k_X7_in l G S V a3.toInt64 (0 : Int64) (99 : Int64)) (g_cwS X hiX7_in q908 q909 q74 q910 ⟨(Nat.le_of_ble_eq_true rfl), (Nat.le_of_ble_eq_true rfl)⟩) rfl hl.1 rfl (Nat.le_of_ble_eq_true rfl) dX7_change_61 ⟨(Nat.le_of_ble_eq_true rfl), (Nat.le_of_ble_eq_true rfl)⟩ (fun z12 H locs ez12 hw => ?_)
          refine lv_if_eq (tgt := 71) X.1 X.2.1 dX7_change_64 (by decide) (fun c13 => ?_) (fun c13 => ?_)
          · refine lv_iconst (v := (0 : Int32)) X.1 X.2.1 dX7_change_71 (by decide) ?_
            refine lv_istore (lv' := [(4, .int (0 : Int32)), (0, .ref (mm_ad G 0)), (1, .int a1), (2, .int a2), (3, .int a3)]) X.1 X.2.1 dX7_change_72 hl (by decide) rfl (fun ls hl => ?_)
            refine lv_aload_n X.1 X.2.1 dX7_change_74 rfl (lv_at hl 1 rfl) ?_
            refine lv_iload_n X.1 X.2.1 dX7_change_75 rfl (lv_at hl 2 rfl) ?_
            refine m_callVI_p X K hw (k_X7_isDrinker l G S V a1) (g_cwV X hiX7_isDrinker q929 q931 q32 q74 q932 ⟨(Nat.le_of_ble_eq_true rfl), (Nat.le_of_ble_eq_true rfl)⟩) rfl hl.1 rfl (Nat.le_of_ble_eq_true rfl) dX7_change_76 ⟨(Nat.le_of_ble_eq_true rfl), (Nat.le_of_ble_eq_true rfl)⟩ (fun z14 H locs ez14 hw => ?_)
            refine lv_if_eq (tgt := 87) X.1 X.2.1 dX7_change_79 (by decide) (fun c15 => ?_) (fun c15 => ?_)
            · refine lv_aload_n X.1 X.2.1 dX7_change_87 rfl (lv_at hl 1 rfl) ?_
              refine lv_iconst (v := (0 : Int32)) X.1 X.2.1 dX7_change_88 (by decide) ?_
              refine m_callVI_s X K hw (k_X7_finds l G S V (0 : Int32) (by unfold vp_in; decide)) (g_cwV X hiX7_finds q912 q914 q29 q74 q915 ⟨(Nat.le_of_ble_eq_true rfl), (Nat.le_of_ble_eq_true rfl)⟩) rfl hl.1 rfl (Nat.le_of_ble_eq_true rfl) dX7_change_89 ⟨(Nat.le_of_ble_eq_true rfl), (Nat.le_of_ble_eq_true rfl)⟩ (fun z16 S17 H locs ez16 eS17 hw => ?_)
              have hR : (z16, S17) = tgt := by
                rw [← hF]
                subst ez12 ez14 ez16 eS17
                simp only [f7_change, if_neg c1, if_neg c2, if_neg c3, if_pos c4, if_pos c13, if_pos c15]
              have hRR : z16 = tgt.1 := pr1 hR
              have hRS : S17 = tgt.2 := pr2 hR
              exact g_iret X hret hlk hw hRR (congrArg (fun z => (z, V)) hRS) dX7_change_92
            · refine lv_iload X.1 X.2.1 dX7_change_82 (lv_at hl 0 rfl) ?_
              refine lv_if_ne (tgt := 93) X.1 X.2.1 dX7_change_84 (by decide) (fun c18 => ?_) (fun c18 => ?_)
              · exact absurd (by decide) c18
              · refine lv_aload_n X.1 X.2.1 dX7_change_87 rfl (lv_at hl 1 rfl) ?_
                refine lv_iconst (v := (0 : Int32)) X.1 X.2.1 dX7_change_88 (by decide) ?_
                refine m_callVI_s X K hw (k_X7_finds l G S V (0 : Int32) (by unfold vp_in; decide)) (g_cwV X hiX7_finds q912 q914 q29 q74 q915 ⟨(Nat.le_of_ble_eq_true rfl), (Nat.le_of_ble_eq_true rfl)⟩) rfl hl.1 rfl (Nat.le_of_ble_eq_true rfl) dX7_change_89 ⟨(Nat.le_of_ble_eq_true rfl), (Nat.le_of_ble_eq_true rfl)⟩ (fun z19 S20 H locs ez19 eS20 hw => ?_)
                have hR : (z19, S20) = tgt := by
                  rw [← hF]
                  subst ez12 ez14 ez19 eS20
                  simp only [f7_change, if_neg c1, if_neg c2, if_neg c3, if_pos c4, if_pos c13, if_neg c15]
                have hRR : z19 = tgt.1 := pr1 hR
                have hRS : S20 = tgt.2 := pr2 hR
                exact g_iret X hret hlk hw hRR (congrArg (fun z => (z, V)) hRS) dX7_change_92
          · refine lv_iconst (v := (1 : Int32)) X.1 X.2.1 dX7_change_67 (by decide) ?_
            refine lv_goto (tgt := 72) X.1 X.2.1 dX7_change_68 (by decide) ?_
            refine lv_istore (lv' := [(4, .int (1 : Int32)), (0, .ref (mm_ad G 0)), (1, .int a1), (2, .int a2), (3, .int a3)]) X.1 X.2.1 dX7_change_72 hl (by decide) rfl (fun ls hl => ?_)
            refine lv_aload_n X.1 X.2.1 dX7_change_74 rfl (lv_at hl 1 rfl) ?_
            refine lv_iload_n X.1 X.2.1 dX7_change_75 rfl (lv_at hl 2 rfl) ?_
            refine m_callVI_p X K hw (k_X7_isDrinker l G S V a1) (g_cwV X hiX7_isDrinker q929 q931 q32 q74 q932 ⟨(Nat.le_of_ble_eq_true rfl), (Nat.le_of_ble_eq_true rfl)⟩) rfl hl.1 rfl (Nat.le_of_ble_eq_true rfl) dX7_change_76 ⟨(Nat.le_of_ble_eq_true rfl), (Nat.le_of_ble_eq_true rfl)⟩ (fun z21 H locs ez21 hw => ?_)
            refine lv_if_eq (tgt := 87) X.1 X.2.1 dX7_change_79 (by decide) (fun c22 => ?_) (fun c22 => ?_)
            · refine lv_aload_n X.1 X.2.1 dX7_change_87 rfl (lv_at hl 1 rfl) ?_
              refine lv_iconst (v := (0 : Int32)) X.1 X.2.1 dX7_change_88 (by decide) ?_
              refine m_callVI_s X K hw (k_X7_finds l G S V (0 : Int32) (by unfold vp_in; decide)) (g_cwV X hiX7_finds q912 q914 q29 q74 q915 ⟨(Nat.le_of_ble_eq_true rfl), (Nat.le_of_ble_eq_true rfl)⟩) rfl hl.1 rfl (Nat.le_of_ble_eq_true rfl) dX7_change_89 ⟨(Nat.le_of_ble_eq_true rfl), (Nat.le_of_ble_eq_true rfl)⟩ (fun z23 S24 H locs ez23 eS24 hw => ?_)
              have hR : (z23, S24) = tgt := by
                rw [← hF]
                subst ez12 ez21 ez23 eS24
                simp only [f7_change, if_neg c1, if_neg c2, if_neg c3, if_pos c4, if_neg c13, if_pos c22]
              have hRR : z23 = tgt.1 := pr1 hR
              have hRS : S24 = tgt.2 := pr2 hR
              exact g_iret X hret hlk hw hRR (congrArg (fun z => (z, V)) hRS) dX7_change_92
            · refine lv_iload X.1 X.2.1 dX7_change_82 (lv_at hl 0 rfl) ?_
              refine lv_if_ne (tgt := 93) X.1 X.2.1 dX7_change_84 (by decide) (fun c25 => ?_) (fun c25 => ?_)
              · refine lv_aload_n X.1 X.2.1 dX7_change_93 rfl (lv_at hl 1 rfl) ?_
                refine lv_iload_n X.1 X.2.1 dX7_change_94 rfl (lv_at hl 2 rfl) ?_
                refine lv_iload_n X.1 X.2.1 dX7_change_95 rfl (lv_at hl 3 rfl) ?_
                refine m_callVI_p X K hw (k_X7_its l G S V a1 a2 (md_in hp0.1 ez21 c22) (by first | (rw [show a2 = 0 by assumption]; unfold vp_in; decide) | (rw [show a2 = (1 : Int32) by assumption]; unfold vp_in; decide) | (rw [show a2 = (2 : Int32) by assumption]; unfold vp_in; decide) | (rw [show a2 = (3 : Int32) by assumption]; unfold vp_in; decide))) (g_cwV X hiX7_its q933 q935 q33 q74 q936 ⟨(Nat.le_of_ble_eq_true rfl), (Nat.le_of_ble_eq_true rfl)⟩) rfl hl.1 rfl (Nat.le_of_ble_eq_true rfl) dX7_change_96 ⟨(Nat.le_of_ble_eq_true rfl), (Nat.le_of_ble_eq_true rfl)⟩ (fun z26 H locs ez26 hw => ?_)
                refine lv_istore (lv' := [(5, .int z26), (4, .int (1 : Int32)), (0, .ref (mm_ad G 0)), (1, .int a1), (2, .int a2), (3, .int a3)]) X.1 X.2.1 dX7_change_99 hl (by decide) rfl (fun ls hl => ?_)
                refine lv_aload_n X.1 X.2.1 dX7_change_101 rfl (lv_at hl 2 rfl) ?_
                refine lv_iload_n X.1 X.2.1 dX7_change_102 rfl (lv_at hl 3 rfl) ?_
                refine lv_iload_n X.1 X.2.1 dX7_change_103 rfl (lv_at hl 4 rfl) ?_
                refine lv_iload_n X.1 X.2.1 dX7_change_104 rfl (lv_at hl 5 rfl) ?_
                refine m_callVV_s X K hw (k_X7_becomes l G S V a1 a2 a3 (md_in hp0.1 ez21 c22) (by first | (rw [show a2 = 0 by assumption]; unfold vp_in; decide) | (rw [show a2 = (1 : Int32) by assumption]; unfold vp_in; decide) | (rw [show a2 = (2 : Int32) by assumption]; unfold vp_in; decide) | (rw [show a2 = (3 : Int32) by assumption]; unfold vp_in; decide))) (g_cwV X hiX7_becomes q921 q923 q31 q74 q924 ⟨(Nat.le_of_ble_eq_true rfl), (Nat.le_of_ble_eq_true rfl)⟩) rfl hl.1 rfl (Nat.le_of_ble_eq_true rfl) dX7_change_105 ⟨(Nat.le_of_ble_eq_true rfl), (Nat.le_of_ble_eq_true rfl)⟩ (fun S27 H locs eS27 hw => ?_)
                refine lv_iload X.1 X.2.1 dX7_change_108 (lv_at hl 0 rfl) ?_
                have hR : (z26, S27) = tgt := by
                  rw [← hF]
                  subst ez12 ez21 ez26 eS27
                  simp only [f7_change, if_neg c1, if_neg c2, if_neg c3, if_pos c4, if_neg c13, if_neg c22]
                have hRR : z26 = tgt.1 := pr1 hR
                have hRS : S27 = tgt.2 := pr2 hR
                exact g_iret X hret hlk hw hRR (congrArg (fun z => (z, V)) hRS) dX7_change_110
              · exact absurd c25 (by decide)
      · refine lv_iload_n X.1 X.2.1 dX7_change_38 rfl (lv_at hl 3 rfl) ?_
        refine lv_i2l X.1 X.2.1 dX7_change_39 rfl ?_
        refine lv_lconst (v := (0 : Int64)) X.1 X.2.1 dX7_change_40 (by decide) ?_
        refine lv_ldc2 (v := (9999 : Int64)) X.1 X.2.1 X.2.2.2.1 (X.2.2.2.2 _ q941) dX7_change_41 ?_
        refine m_callSI_p X K hw (k_X7_in l G S V a3.toInt64 (0 : Int64) (9999 : Int64)) (g_cwS X hiX7_in q908 q909 q74 q910 ⟨(Nat.le_of_ble_eq_true rfl), (Nat.le_of_ble_eq_true rfl)⟩) rfl hl.1 rfl (Nat.le_of_ble_eq_true rfl) dX7_change_44 ⟨(Nat.le_of_ble_eq_true rfl), (Nat.le_of_ble_eq_true rfl)⟩ (fun z28 H locs ez28 hw => ?_)
        refine lv_goto (tgt := 72) X.1 X.2.1 dX7_change_47 (by decide) ?_
        refine lv_istore (lv' := [(4, .int z28), (0, .ref (mm_ad G 0)), (1, .int a1), (2, .int a2), (3, .int a3)]) X.1 X.2.1 dX7_change_72 hl (by decide) rfl (fun ls hl => ?_)
        refine lv_aload_n X.1 X.2.1 dX7_change_74 rfl (lv_at hl 1 rfl) ?_
        refine lv_iload_n X.1 X.2.1 dX7_change_75 rfl (lv_at hl 2 rfl) ?_
        refine m_callVI_p X K hw (k_X7_isDrinker l G S V a1) (g_cwV X hiX7_isDrinker q929 q931 q32 q74 q932 ⟨(Nat.le_of_ble_eq_true rfl), (Nat.le_of_ble_eq_true rfl)⟩) rfl hl.1 rfl (Nat.le_of_ble_eq_true rfl) dX7_change_76 ⟨(Nat.le_of_ble_eq_true rfl), (Nat.le_of_ble_eq_true rfl)⟩ (fun z29 H locs ez29 hw => ?_)
        refine lv_if_eq (tgt := 87) X.1 X.2.1 dX7_change_79 (by decide) (fun c30 => ?_) (fun c30 => ?_)
        · refine lv_aload_n X.1 X.2.1 dX7_change_87 rfl (lv_at hl 1 rfl) ?_
          refine lv_iconst (v := (0 : Int32)) X.1 X.2.1 dX7_change_88 (by decide) ?_
          refine m_callVI_s X K hw (k_X7_finds l G S V (0 : Int32) (by unfold vp_in; decide)) (g_cwV X hiX7_finds q912 q914 q29 q74 q915 ⟨(Nat.le_of_ble_eq_true rfl), (Nat.le_of_ble_eq_true rfl)⟩) rfl hl.1 rfl (Nat.le_of_ble_eq_true rfl) dX7_change_89 ⟨(Nat.le_of_ble_eq_true rfl), (Nat.le_of_ble_eq_true rfl)⟩ (fun z31 S32 H locs ez31 eS32 hw => ?_)
          have hR : (z31, S32) = tgt := by
            rw [← hF]
            subst ez28 ez29 ez31 eS32
            simp only [f7_change, if_neg c1, if_neg c2, if_pos c3, if_pos c30]
          have hRR : z31 = tgt.1 := pr1 hR
          have hRS : S32 = tgt.2 := pr2 hR
          exact g_iret X hret hlk hw hRR (congrArg (fun z => (z, V)) hRS) dX7_change_92
        · refine lv_iload X.1 X.2.1 dX7_change_82 (lv_at hl 0 rfl) ?_
          refine lv_if_ne (tgt := 93) X.1 X.2.1 dX7_change_84 (by decide) (fun c33 => ?_) (fun c33 => ?_)
          · refine lv_aload_n X.1 X.2.1 dX7_change_93 rfl (lv_at hl 1 rfl) ?_
            refine lv_iload_n X.1 X.2.1 dX7_change_94 rfl (lv_at hl 2 rfl) ?_
            refine lv_iload_n X.1 X.2.1 dX7_change_95 rfl (lv_at hl 3 rfl) ?_
            refine m_callVI_p X K hw (k_X7_its l G S V a1 a2 (md_in hp0.1 ez29 c30) (by first | (rw [show a2 = 0 by assumption]; unfold vp_in; decide) | (rw [show a2 = (1 : Int32) by assumption]; unfold vp_in; decide) | (rw [show a2 = (2 : Int32) by assumption]; unfold vp_in; decide) | (rw [show a2 = (3 : Int32) by assumption]; unfold vp_in; decide))) (g_cwV X hiX7_its q933 q935 q33 q74 q936 ⟨(Nat.le_of_ble_eq_true rfl), (Nat.le_of_ble_eq_true rfl)⟩) rfl hl.1 rfl (Nat.le_of_ble_eq_true rfl) dX7_change_96 ⟨(Nat.le_of_ble_eq_true rfl), (Nat.le_of_ble_eq_true rfl)⟩ (fun z34 H locs ez34 hw => ?_)
            refine lv_istore (lv' := [(5, .int z34), (4, .int z28), (0, .ref (mm_ad G 0)), (1, .int a1), (2, .int a2), (3, .int a3)]) X.1 X.2.1 dX7_change_99 hl (by decide) rfl (fun ls hl => ?_)
            refine lv_aload_n X.1 X.2.1 dX7_change_101 rfl (lv_at hl 2 rfl) ?_
            refine lv_iload_n X.1 X.2.1 dX7_change_102 rfl (lv_at hl 3 rfl) ?_
            refine lv_iload_n X.1 X.2.1 dX7_change_103 rfl (lv_at hl 4 rfl) ?_
            refine lv_iload_n X.1 X.2.1 dX7_change_104 rfl (lv_at hl 5 rfl) ?_
            refine m_callVV_s X K hw (k_X7_becomes l G S V a1 a2 a3 (md_in hp0.1 ez29 c30) (by first | (rw [show a2 = 0 by assumption]; unfold vp_in; decide) | (rw [show a2 = (1 : Int32) by assumption]; unfold vp_in; decide) | (rw [show a2 = (2 : Int32) by assumption]; unfold vp_in; decide) | (rw [show a2 = (3 : Int32) by assumption]; unfold vp_in; decide))) (g_cwV X hiX7_becomes q921 q923 q31 q74 q924 ⟨(Nat.le_of_ble_eq_true rfl), (Nat.le_of_ble_eq_true rfl)⟩) rfl hl.1 rfl (Nat.le_of_ble_eq_true rfl) dX7_change_105 ⟨(Nat.le_of_ble_eq_true rfl), (Nat.le_of_ble_eq_true rfl)⟩ (fun S35 H locs eS35 hw => ?_)
            refine lv_iload X.1 X.2.1 dX7_change_108 (lv_at hl 0 rfl) ?_
            have hR : (z34, S35) = tgt := by
              rw [← hF]
              subst ez28 ez29 ez34 eS35
              simp only [f7_change, if_neg c1, if_neg c2, if_pos c3, if_neg c30, if_neg c33]
            have hRR : z34 = tgt.1 := pr1 hR
            have hRS : S35 = tgt.2 := pr2 hR
            exact g_iret X hret hlk hw hRR (congrArg (fun z => (z, V)) hRS) dX7_change_110
          · refine lv_aload_n X.1 X.2.1 dX7_change_87 rfl (lv_at hl 1 rfl) ?_
            refine lv_iconst (v := (0 : Int32)) X.1 X.2.1 dX7_change_88 (by decide) ?_
            refine m_callVI_s X K hw (k_X7_finds l G S V (0 : Int32) (by unfold vp_in; decide)) (g_cwV X hiX7_finds q912 q914 q29 q74 q915 ⟨(Nat.le_of_ble_eq_true rfl), (Nat.le_of_ble_eq_true rfl)⟩) rfl hl.1 rfl (Nat.le_of_ble_eq_true rfl) dX7_change_89 ⟨(Nat.le_of_ble_eq_true rfl), (Nat.le_of_ble_eq_true rfl)⟩ (fun z36 S37 H locs ez36 eS37 hw => ?_)
            have hR : (z36, S37) = tgt := by
              rw [← hF]
              subst ez28 ez29 ez36 eS37
              simp only [f7_change, if_neg c1, if_neg c2, if_pos c3, if_neg c30, if_pos c33]
            have hRR : z36 = tgt.1 := pr1 hR
            have hRS : S37 = tgt.2 := pr2 hR
            exact g_iret X hret hlk hw hRR (congrArg (fun z => (z, V)) hRS) dX7_change_92
    · refine lv_iload_n X.1 X.2.1 dX7_change_21 rfl (lv_at hl 3 rfl) ?_
      refine lv_i2l X.1 X.2.1 dX7_change_22 rfl ?_
      refine lv_lconst (v := (1 : Int64)) X.1 X.2.1 dX7_change_23 (by decide) ?_
      refine lv_ldc2 (v := (9 : Int64)) X.1 X.2.1 X.2.2.2.1 (X.2.2.2.2 _ q911) dX7_change_24 ?_
      refine m_callSI_p X K hw (k_X7_in l G S V a3.toInt64 (1 : Int64) (9 : Int64)) (g_cwS X hiX7_in q908 q909 q74 q910 ⟨(Nat.le_of_ble_eq_true rfl), (Nat.le_of_ble_eq_true rfl)⟩) rfl hl.1 rfl (Nat.le_of_ble_eq_true rfl) dX7_change_27 ⟨(Nat.le_of_ble_eq_true rfl), (Nat.le_of_ble_eq_true rfl)⟩ (fun z38 H locs ez38 hw => ?_)
      refine lv_goto (tgt := 72) X.1 X.2.1 dX7_change_30 (by decide) ?_
      refine lv_istore (lv' := [(4, .int z38), (0, .ref (mm_ad G 0)), (1, .int a1), (2, .int a2), (3, .int a3)]) X.1 X.2.1 dX7_change_72 hl (by decide) rfl (fun ls hl => ?_)
      refine lv_aload_n X.1 X.2.1 dX7_change_74 rfl (lv_at hl 1 rfl) ?_
      refine lv_iload_n X.1 X.2.1 dX7_change_75 rfl (lv_at hl 2 rfl) ?_
      refine m_callVI_p X K hw (k_X7_isDrinker l G S V a1) (g_cwV X hiX7_isDrinker q929 q931 q32 q74 q932 ⟨(Nat.le_of_ble_eq_true rfl), (Nat.le_of_ble_eq_true rfl)⟩) rfl hl.1 rfl (Nat.le_of_ble_eq_true rfl) dX7_change_76 ⟨(Nat.le_of_ble_eq_true rfl), (Nat.le_of_ble_eq_true rfl)⟩ (fun z39 H locs ez39 hw => ?_)
      refine lv_if_eq (tgt := 87) X.1 X.2.1 dX7_change_79 (by decide) (fun c40 => ?_) (fun c40 => ?_)
      · refine lv_aload_n X.1 X.2.1 dX7_change_87 rfl (lv_at hl 1 rfl) ?_
        refine lv_iconst (v := (0 : Int32)) X.1 X.2.1 dX7_change_88 (by decide) ?_
        refine m_callVI_s X K hw (k_X7_finds l G S V (0 : Int32) (by unfold vp_in; decide)) (g_cwV X hiX7_finds q912 q914 q29 q74 q915 ⟨(Nat.le_of_ble_eq_true rfl), (Nat.le_of_ble_eq_true rfl)⟩) rfl hl.1 rfl (Nat.le_of_ble_eq_true rfl) dX7_change_89 ⟨(Nat.le_of_ble_eq_true rfl), (Nat.le_of_ble_eq_true rfl)⟩ (fun z41 S42 H locs ez41 eS42 hw => ?_)
        have hR : (z41, S42) = tgt := by
          rw [← hF]
          subst ez38 ez39 ez41 eS42
          simp only [f7_change, if_neg c1, if_pos c2, if_pos c40]
        have hRR : z41 = tgt.1 := pr1 hR
        have hRS : S42 = tgt.2 := pr2 hR
        exact g_iret X hret hlk hw hRR (congrArg (fun z => (z, V)) hRS) dX7_change_92
      · refine lv_iload X.1 X.2.1 dX7_change_82 (lv_at hl 0 rfl) ?_
        refine lv_if_ne (tgt := 93) X.1 X.2.1 dX7_change_84 (by decide) (fun c43 => ?_) (fun c43 => ?_)
        · refine lv_aload_n X.1 X.2.1 dX7_change_93 rfl (lv_at hl 1 rfl) ?_
          refine lv_iload_n X.1 X.2.1 dX7_change_94 rfl (lv_at hl 2 rfl) ?_
          refine lv_iload_n X.1 X.2.1 dX7_change_95 rfl (lv_at hl 3 rfl) ?_
          refine m_callVI_p X K hw (k_X7_its l G S V a1 a2 (md_in hp0.1 ez39 c40) (by first | (rw [show a2 = 0 by assumption]; unfold vp_in; decide) | (rw [show a2 = (1 : Int32) by assumption]; unfold vp_in; decide) | (rw [show a2 = (2 : Int32) by assumption]; unfold vp_in; decide) | (rw [show a2 = (3 : Int32) by assumption]; unfold vp_in; decide))) (g_cwV X hiX7_its q933 q935 q33 q74 q936 ⟨(Nat.le_of_ble_eq_true rfl), (Nat.le_of_ble_eq_true rfl)⟩) rfl hl.1 rfl (Nat.le_of_ble_eq_true rfl) dX7_change_96 ⟨(Nat.le_of_ble_eq_true rfl), (Nat.le_of_ble_eq_true rfl)⟩ (fun z44 H locs ez44 hw => ?_)
          refine lv_istore (lv' := [(5, .int z44), (4, .int z38), (0, .ref (mm_ad G 0)), (1, .int a1), (2, .int a2), (3, .int a3)]) X.1 X.2.1 dX7_change_99 hl (by decide) rfl (fun ls hl => ?_)
          refine lv_aload_n X.1 X.2.1 dX7_change_101 rfl (lv_at hl 2 rfl) ?_
          refine lv_iload_n X.1 X.2.1 dX7_change_102 rfl (lv_at hl 3 rfl) ?_
          refine lv_iload_n X.1 X.2.1 dX7_change_103 rfl (lv_at hl 4 rfl) ?_
          refine lv_iload_n X.1 X.2.1 dX7_change_104 rfl (lv_at hl 5 rfl) ?_
          refine m_callVV_s X K hw (k_X7_becomes l G S V a1 a2 a3 (md_in hp0.1 ez39 c40) (by first | (rw [show a2 = 0 by assumption]; unfold vp_in; decide) | (rw [show a2 = (1 : Int32) by assumption]; unfold vp_in; decide) | (rw [show a2 = (2 : Int32) by assumption]; unfold vp_in; decide) | (rw [show a2 = (3 : Int32) by assumption]; unfold vp_in; decide))) (g_cwV X hiX7_becomes q921 q923 q31 q74 q924 ⟨(Nat.le_of_ble_eq_true rfl), (Nat.le_of_ble_eq_true rfl)⟩) rfl hl.1 rfl (Nat.le_of_ble_eq_true rfl) dX7_change_105 ⟨(Nat.le_of_ble_eq_true rfl), (Nat.le_of_ble_eq_true rfl)⟩ (fun S45 H locs eS45 hw => ?_)
          refine lv_iload X.1 X.2.1 dX7_change_108 (lv_at hl 0 rfl) ?_
          have hR : (z44, S45) = tgt := by
            rw [← hF]
            subst ez38 ez39 ez44 eS45
            simp only [f7_change, if_neg c1, if_pos c2, if_neg c40, if_neg c43]
          have hRR : z44 = tgt.1 := pr1 hR
          have hRS : S45 = tgt.2 := pr2 hR
          exact g_iret X hret hlk hw hRR (congrArg (fun z => (z, V)) hRS) dX7_change_110
        · refine lv_aload_n X.1 X.2.1 dX7_change_87 rfl (lv_at hl 1 rfl) ?_
          refine lv_iconst (v := (0 : Int32)) X.1 X.2.1 dX7_change_88 (by decide) ?_
          refine m_callVI_s X K hw (k_X7_finds l G S V (0 : Int32) (by unfold vp_in; decide)) (g_cwV X hiX7_finds q912 q914 q29 q74 q915 ⟨(Nat.le_of_ble_eq_true rfl), (Nat.le_of_ble_eq_true rfl)⟩) rfl hl.1 rfl (Nat.le_of_ble_eq_true rfl) dX7_change_89 ⟨(Nat.le_of_ble_eq_true rfl), (Nat.le_of_ble_eq_true rfl)⟩ (fun z46 S47 H locs ez46 eS47 hw => ?_)
          have hR : (z46, S47) = tgt := by
            rw [← hF]
            subst ez38 ez39 ez46 eS47
            simp only [f7_change, if_neg c1, if_pos c2, if_neg c40, if_pos c43]
          have hRR : z46 = tgt.1 := pr1 hR
          have hRS : S47 = tgt.2 := pr2 hR
          exact g_iret X hret hlk hw hRR (congrArg (fun z => (z, V)) hRS) dX7_change_92
  · refine lv_iload_n X.1 X.2.1 dX7_change_4 rfl (lv_at hl 3 rfl) ?_
    refine lv_i2l X.1 X.2.1 dX7_change_5 rfl ?_
    refine lv_lconst (v := (0 : Int64)) X.1 X.2.1 dX7_change_6 (by decide) ?_
    refine lv_ldc2 (v := (6 : Int64)) X.1 X.2.1 X.2.2.2.1 (X.2.2.2.2 _ q907) dX7_change_7 ?_
    refine m_callSI_p X K hw (k_X7_in l G S V a3.toInt64 (0 : Int64) (6 : Int64)) (g_cwS X hiX7_in q908 q909 q74 q910 ⟨(Nat.le_of_ble_eq_true rfl), (Nat.le_of_ble_eq_true rfl)⟩) rfl hl.1 rfl (Nat.le_of_ble_eq_true rfl) dX7_change_10 ⟨(Nat.le_of_ble_eq_true rfl), (Nat.le_of_ble_eq_true rfl)⟩ (fun z48 H locs ez48 hw => ?_)
    refine lv_goto (tgt := 72) X.1 X.2.1 dX7_change_13 (by decide) ?_
    refine lv_istore (lv' := [(4, .int z48), (0, .ref (mm_ad G 0)), (1, .int a1), (2, .int a2), (3, .int a3)]) X.1 X.2.1 dX7_change_72 hl (by decide) rfl (fun ls hl => ?_)
    refine lv_aload_n X.1 X.2.1 dX7_change_74 rfl (lv_at hl 1 rfl) ?_
    refine lv_iload_n X.1 X.2.1 dX7_change_75 rfl (lv_at hl 2 rfl) ?_
    refine m_callVI_p X K hw (k_X7_isDrinker l G S V a1) (g_cwV X hiX7_isDrinker q929 q931 q32 q74 q932 ⟨(Nat.le_of_ble_eq_true rfl), (Nat.le_of_ble_eq_true rfl)⟩) rfl hl.1 rfl (Nat.le_of_ble_eq_true rfl) dX7_change_76 ⟨(Nat.le_of_ble_eq_true rfl), (Nat.le_of_ble_eq_true rfl)⟩ (fun z49 H locs ez49 hw => ?_)
    refine lv_if_eq (tgt := 87) X.1 X.2.1 dX7_change_79 (by decide) (fun c50 => ?_) (fun c50 => ?_)
    · refine lv_aload_n X.1 X.2.1 dX7_change_87 rfl (lv_at hl 1 rfl) ?_
      refine lv_iconst (v := (0 : Int32)) X.1 X.2.1 dX7_change_88 (by decide) ?_
      refine m_callVI_s X K hw (k_X7_finds l G S V (0 : Int32) (by unfold vp_in; decide)) (g_cwV X hiX7_finds q912 q914 q29 q74 q915 ⟨(Nat.le_of_ble_eq_true rfl), (Nat.le_of_ble_eq_true rfl)⟩) rfl hl.1 rfl (Nat.le_of_ble_eq_true rfl) dX7_change_89 ⟨(Nat.le_of_ble_eq_true rfl), (Nat.le_of_ble_eq_true rfl)⟩ (fun z51 S52 H locs ez51 eS52 hw => ?_)
      have hR : (z51, S52) = tgt := by
        rw [← hF]
        subst ez48 ez49 ez51 eS52
        simp only [f7_change, if_pos c1, if_pos c50]
      have hRR : z51 = tgt.1 := pr1 hR
      have hRS : S52 = tgt.2 := pr2 hR
      exact g_iret X hret hlk hw hRR (congrArg (fun z => (z, V)) hRS) dX7_change_92
    · refine lv_iload X.1 X.2.1 dX7_change_82 (lv_at hl 0 rfl) ?_
      refine lv_if_ne (tgt := 93) X.1 X.2.1 dX7_change_84 (by decide) (fun c53 => ?_) (fun c53 => ?_)
      · refine lv_aload_n X.1 X.2.1 dX7_change_93 rfl (lv_at hl 1 rfl) ?_
        refine lv_iload_n X.1 X.2.1 dX7_change_94 rfl (lv_at hl 2 rfl) ?_
        refine lv_iload_n X.1 X.2.1 dX7_change_95 rfl (lv_at hl 3 rfl) ?_
        refine m_callVI_p X K hw (k_X7_its l G S V a1 a2 (md_in hp0.1 ez49 c50) (by first | (rw [show a2 = 0 by assumption]; unfold vp_in; decide) | (rw [show a2 = (1 : Int32) by assumption]; unfold vp_in; decide) | (rw [show a2 = (2 : Int32) by assumption]; unfold vp_in; decide) | (rw [show a2 = (3 : Int32) by assumption]; unfold vp_in; decide))) (g_cwV X hiX7_its q933 q935 q33 q74 q936 ⟨(Nat.le_of_ble_eq_true rfl), (Nat.le_of_ble_eq_true rfl)⟩) rfl hl.1 rfl (Nat.le_of_ble_eq_true rfl) dX7_change_96 ⟨(Nat.le_of_ble_eq_true rfl), (Nat.le_of_ble_eq_true rfl)⟩ (fun z54 H locs ez54 hw => ?_)
        refine lv_istore (lv' := [(5, .int z54), (4, .int z48), (0, .ref (mm_ad G 0)), (1, .int a1), (2, .int a2), (3, .int a3)]) X.1 X.2.1 dX7_change_99 hl (by decide) rfl (fun ls hl => ?_)
        refine lv_aload_n X.1 X.2.1 dX7_change_101 rfl (lv_at hl 2 rfl) ?_
        refine lv_iload_n X.1 X.2.1 dX7_change_102 rfl (lv_at hl 3 rfl) ?_
        refine lv_iload_n X.1 X.2.1 dX7_change_103 rfl (lv_at hl 4 rfl) ?_
        refine lv_iload_n X.1 X.2.1 dX7_change_104 rfl (lv_at hl 5 rfl) ?_
        refine m_callVV_s X K hw (k_X7_becomes l G S V a1 a2 a3 (md_in hp0.1 ez49 c50) (by first | (rw [show a2 = 0 by assumption]; unfold vp_in; decide) | (rw [show a2 = (1 : Int32) by assumption]; unfold vp_in; decide) | (rw [show a2 = (2 : Int32) by assumption]; unfold vp_in; decide) | (rw [show a2 = (3 : Int32) by assumption]; unfold vp_in; decide))) (g_cwV X hiX7_becomes q921 q923 q31 q74 q924 ⟨(Nat.le_of_ble_eq_true rfl), (Nat.le_of_ble_eq_true rfl)⟩) rfl hl.1 rfl (Nat.le_of_ble_eq_true rfl) dX7_change_105 ⟨(Nat.le_of_ble_eq_true rfl), (Nat.le_of_ble_eq_true rfl)⟩ (fun S55 H locs eS55 hw => ?_)
        refine lv_iload X.1 X.2.1 dX7_change_108 (lv_at hl 0 rfl) ?_
        have hR : (z54, S55) = tgt := by
          rw [← hF]
          subst ez48 ez49 ez54 eS55
          simp only [f7_change, if_pos c1, if_neg c50, if_neg c53]
        have hRR : z54 = tgt.1 := pr1 hR
        have hRS : S55 = tgt.2 := pr2 hR
        exact g_iret X hret hlk hw hRR (congrArg (fun z => (z, V)) hRS) dX7_change_110
      · refine lv_aload_n X.1 X.2.1 dX7_change_87 rfl (lv_at hl 1 rfl) ?_
        refine lv_iconst (v := (0 : Int32)) X.1 X.2.1 dX7_change_88 (by decide) ?_
        refine m_callVI_s X K hw (k_X7_finds l G S V (0 : Int32) (by unfold vp_in; decide)) (g_cwV X hiX7_finds q912 q914 q29 q74 q915 ⟨(Nat.le_of_ble_eq_true rfl), (Nat.le_of_ble_eq_true rfl)⟩) rfl hl.1 rfl (Nat.le_of_ble_eq_true rfl) dX7_change_89 ⟨(Nat.le_of_ble_eq_true rfl), (Nat.le_of_ble_eq_true rfl)⟩ (fun z56 S57 H locs ez56 eS57 hw => ?_)
        have hR : (z56, S57) = tgt := by
          rw [← hF]
          subst ez48 ez49 ez56 eS57
          simp only [f7_change, if_pos c1, if_neg c50, if_pos c53]
        have hRR : z56 = tgt.1 := pr1 hR
        have hRS : S57 = tgt.2 := pr2 hR
        exact g_iret X hret hlk hw hRR (congrArg (fun z => (z, V)) hRS) dX7_change_92
set_option maxHeartbeats 4000000 in
set_option maxRecDepth 10000 in
theorem k_X7_room (l : Launch) (G : tt_G) (S : tt_St) (V : Int64) (a1 : Int32) (a2 : Int32) (hp0 : mi S) : m_MI l G yX7_room (g_code yX7_room cX7_room 6 (some FieldType.int)) 1 25 [.ref (mm_ad G 0), .int a1, .int a2] S V ((f7_room S a1 a2).1) ((f7_room S a1 a2).2) V := by
  generalize hF : f7_room S a1 a2 = tgt
  refine g_begin rfl (Nat.le_of_ble_eq_true rfl) _ (fun p e s m below meth c ls X hret hlk hB hl => ?_)
  obtain ⟨hP0, K⟩ := hB
  have hw : m_W G S V s s.heap [] := ⟨hP0, va_S.rf⟩
  have X : CallFix p m c cX7_room 6 s ([.ref (mm_ad G 0), .int a1, .int a2] : List Value).toArray tt_T "TrustTinModel" := X
  have hl : lv_has ls 6 [(0, .ref (mm_ad G 0)), (1, .int a1), (2, .int a2)] := hl
  refine lv_iload_n X.1 X.2.1 dX7_room_0 rfl (lv_at hl 1 rfl) ?_
  refine lv_if_ne (tgt := 16) X.1 X.2.1 dX7_room_1 (by decide) (fun c1 => ?_) (fun c1 => ?_)
  · refine lv_iload_n X.1 X.2.1 dX7_room_16 rfl (lv_at hl 1 rfl) ?_
    refine lv_iconst (v := (1 : Int32)) X.1 X.2.1 dX7_room_17 (by decide) ?_
    refine lv_icmp_ne (tgt := 33) X.1 X.2.1 dX7_room_18 (by decide) (fun c2 => ?_) (fun c2 => ?_)
    · refine lv_iload_n X.1 X.2.1 dX7_room_33 rfl (lv_at hl 1 rfl) ?_
      refine lv_iconst (v := (2 : Int32)) X.1 X.2.1 dX7_room_34 (by decide) ?_
      refine lv_icmp_ne (tgt := 54) X.1 X.2.1 dX7_room_35 (by decide) (fun c3 => ?_) (fun c3 => ?_)
      · refine lv_iconst (v := (0 : Int32)) X.1 X.2.1 dX7_room_54 (by decide) ?_
        refine lv_istore_n (lv' := [(3, .int (0 : Int32)), (0, .ref (mm_ad G 0)), (1, .int a1), (2, .int a2)]) X.1 X.2.1 dX7_room_55 rfl hl (by decide) rfl (fun ls hl => ?_)
        refine lv_iload_n X.1 X.2.1 dX7_room_56 rfl (lv_at hl 0 rfl) ?_
        refine lv_if_ne (tgt := 66) X.1 X.2.1 dX7_room_57 (by decide) (fun c4 => ?_) (fun c4 => ?_)
        · exact absurd (by decide) c4
        · refine lv_aload_n X.1 X.2.1 dX7_room_60 rfl (lv_at hl 1 rfl) ?_
          refine lv_iconst (v := (0 : Int32)) X.1 X.2.1 dX7_room_61 (by decide) ?_
          refine m_callVI_s X K hw (k_X7_finds l G S V (0 : Int32) (by unfold vp_in; decide)) (g_cwV X hiX7_finds q912 q914 q29 q74 q915 ⟨(Nat.le_of_ble_eq_true rfl), (Nat.le_of_ble_eq_true rfl)⟩) rfl hl.1 rfl (Nat.le_of_ble_eq_true rfl) dX7_room_62 ⟨(Nat.le_of_ble_eq_true rfl), (Nat.le_of_ble_eq_true rfl)⟩ (fun z5 S6 H locs ez5 eS6 hw => ?_)
          have hR : (z5, S6) = tgt := by
            rw [← hF]
            subst ez5 eS6
            simp only [f7_room, if_neg c1, if_neg c2, if_neg c3]
          have hRR : z5 = tgt.1 := pr1 hR
          have hRS : S6 = tgt.2 := pr2 hR
          exact g_iret X hret hlk hw hRR (congrArg (fun z => (z, V)) hRS) dX7_room_65
      · refine lv_iload_n X.1 X.2.1 dX7_room_38 rfl (lv_at hl 2 rfl) ?_
        refine lv_i2l X.1 X.2.1 dX7_room_39 rfl ?_
        refine lv_lconst (v := (0 : Int64)) X.1 X.2.1 dX7_room_40 (by decide) ?_
        refine lv_ldc2 (v := (2 : Int64)) X.1 X.2.1 X.2.2.2.1 (X.2.2.2.2 _ q947) dX7_room_41 ?_
        refine m_callSI_p X K hw (k_X7_in l G S V a2.toInt64 (0 : Int64) (2 : Int64)) (g_cwS X hiX7_in q908 q909 q74 q910 ⟨(Nat.le_of_ble_eq_true rfl), (Nat.le_of_ble_eq_true rfl)⟩) rfl hl.1 rfl (Nat.le_of_ble_eq_true rfl) dX7_room_44 ⟨(Nat.le_of_ble_eq_true rfl), (Nat.le_of_ble_eq_true rfl)⟩ (fun z7 H locs ez7 hw => ?_)
        refine lv_if_eq (tgt := 54) X.1 X.2.1 dX7_room_47 (by decide) (fun c8 => ?_) (fun c8 => ?_)
        · refine lv_iconst (v := (0 : Int32)) X.1 X.2.1 dX7_room_54 (by decide) ?_
          refine lv_istore_n (lv' := [(3, .int (0 : Int32)), (0, .ref (mm_ad G 0)), (1, .int a1), (2, .int a2)]) X.1 X.2.1 dX7_room_55 rfl hl (by decide) rfl (fun ls hl => ?_)
          refine lv_iload_n X.1 X.2.1 dX7_room_56 rfl (lv_at hl 0 rfl) ?_
          refine lv_if_ne (tgt := 66) X.1 X.2.1 dX7_room_57 (by decide) (fun c9 => ?_) (fun c9 => ?_)
          · exact absurd (by decide) c9
          · refine lv_aload_n X.1 X.2.1 dX7_room_60 rfl (lv_at hl 1 rfl) ?_
            refine lv_iconst (v := (0 : Int32)) X.1 X.2.1 dX7_room_61 (by decide) ?_
            refine m_callVI_s X K hw (k_X7_finds l G S V (0 : Int32) (by unfold vp_in; decide)) (g_cwV X hiX7_finds q912 q914 q29 q74 q915 ⟨(Nat.le_of_ble_eq_true rfl), (Nat.le_of_ble_eq_true rfl)⟩) rfl hl.1 rfl (Nat.le_of_ble_eq_true rfl) dX7_room_62 ⟨(Nat.le_of_ble_eq_true rfl), (Nat.le_of_ble_eq_true rfl)⟩ (fun z10 S11 H locs ez10 eS11 hw => ?_)
            have hR : (z10, S11) = tgt := by
              rw [← hF]
              subst ez7 ez10 eS11
              simp only [f7_room, if_neg c1, if_neg c2, if_pos c3, if_pos c8]
            have hRR : z10 = tgt.1 := pr1 hR
            have hRS : S11 = tgt.2 := pr2 hR
            exact g_iret X hret hlk hw hRR (congrArg (fun z => (z, V)) hRS) dX7_room_65
        · refine lv_iconst (v := (1 : Int32)) X.1 X.2.1 dX7_room_50 (by decide) ?_
          refine lv_goto (tgt := 55) X.1 X.2.1 dX7_room_51 (by decide) ?_
          refine lv_istore_n (lv' := [(3, .int (1 : Int32)), (0, .ref (mm_ad G 0)), (1, .int a1), (2, .int a2)]) X.1 X.2.1 dX7_room_55 rfl hl (by decide) rfl (fun ls hl => ?_)
          refine lv_iload_n X.1 X.2.1 dX7_room_56 rfl (lv_at hl 0 rfl) ?_
          refine lv_if_ne (tgt := 66) X.1 X.2.1 dX7_room_57 (by decide) (fun c12 => ?_) (fun c12 => ?_)
          · refine lv_iload_n X.1 X.2.1 dX7_room_66 rfl (lv_at hl 2 rfl) ?_
            refine lv_if_ne (tgt := 74) X.1 X.2.1 dX7_room_67 (by decide) (fun c13 => ?_) (fun c13 => ?_)
            · refine lv_iload_n X.1 X.2.1 dX7_room_74 rfl (lv_at hl 2 rfl) ?_
              refine lv_iconst (v := (1 : Int32)) X.1 X.2.1 dX7_room_75 (by decide) ?_
              refine lv_icmp_ne (tgt := 83) X.1 X.2.1 dX7_room_76 (by decide) (fun c14 => ?_) (fun c14 => ?_)
              · refine lv_iconst (v := (5 : Int32)) X.1 X.2.1 dX7_room_83 (by decide) ?_
                refine lv_istore (lv' := [(4, .int (5 : Int32)), (3, .int (1 : Int32)), (0, .ref (mm_ad G 0)), (1, .int a1), (2, .int a2)]) X.1 X.2.1 dX7_room_84 hl (by decide) rfl (fun ls hl => ?_)
                refine lv_aload_n X.1 X.2.1 dX7_room_86 rfl (lv_at hl 2 rfl) ?_
                refine m_get X K hw 0 (by decide) q836 rfl dX7_room_87 ?_
                refine lv_iload X.1 X.2.1 dX7_room_90 (lv_at hl 0 rfl) ?_
                have hi15 : vp_in (5 : Int32) 132 := by unfold vp_in; decide
                refine g_ialdL (j := 5) X K hw (by decide) mm_e1 hi15 rfl dX7_room_92 ?_
                refine lv_topi (fun x16 ex16 => ?_)
                refine lv_istore (lv' := [(5, .int x16), (4, .int (5 : Int32)), (3, .int (1 : Int32)), (0, .ref (mm_ad G 0)), (1, .int a1), (2, .int a2)]) X.1 X.2.1 dX7_room_93 hl (by decide) rfl (fun ls hl => ?_)
                refine lv_aload_n X.1 X.2.1 dX7_room_95 rfl (lv_at hl 3 rfl) ?_
                refine m_get X K hw 0 (by decide) q836 rfl dX7_room_96 ?_
                refine lv_iload X.1 X.2.1 dX7_room_99 (lv_at hl 1 rfl) ?_
                refine lv_iload_n X.1 X.2.1 dX7_room_101 rfl (lv_at hl 5 rfl) ?_
                have hi17 : vp_in (5 : Int32) 132 := by unfold vp_in; decide
                refine m_iastL (j := 5) X K hw (by decide) (by decide) (fun _ => mm_e1) hi17 rfl dX7_room_102 (fun S18 H locs eS18 hw => ?_)
                refine lv_aload_n X.1 X.2.1 dX7_room_103 rfl (lv_at hl 3 rfl) ?_
                refine m_get X K hw 0 (by decide) q836 rfl dX7_room_104 ?_
                refine lv_iconst (v := (3 : Int32)) X.1 X.2.1 dX7_room_107 (by decide) ?_
                refine lv_iload_n X.1 X.2.1 dX7_room_108 rfl (lv_at hl 4 rfl) ?_
                refine lv_iconst (v := (1 : Int32)) X.1 X.2.1 dX7_room_109 (by decide) ?_
                refine lv_icmp_ne (tgt := 117) X.1 X.2.1 dX7_room_110 (by decide) (fun c19 => ?_) (fun c19 => ?_)
                · refine lv_aload_n X.1 X.2.1 dX7_room_117 rfl (lv_at hl 3 rfl) ?_
                  refine m_get X K hw 0 (by decide) q836 rfl dX7_room_118 ?_
                  refine lv_iconst (v := (3 : Int32)) X.1 X.2.1 dX7_room_121 (by decide) ?_
                  have hi20 : vp_in (3 : Int32) 132 := by unfold vp_in; decide
                  refine g_ialdL (j := 3) X K hw (by decide) mm_e1 hi20 rfl dX7_room_122 ?_
                  refine lv_topi (fun x21 ex21 => ?_)
                  have hi22 : vp_in (3 : Int32) 132 := by unfold vp_in; decide
                  refine m_iastL (j := 3) X K hw (by decide) (by decide) (fun _ => mm_e1) hi22 rfl dX7_room_123 (fun S23 H locs eS23 hw => ?_)
                  refine lv_iload X.1 X.2.1 dX7_room_124 (lv_at hl 0 rfl) ?_
                  have hR : (x16, S23) = tgt := by
                    rw [← hF]
                    subst ez7 ex16 eS18 ex21 eS23
                    simp only [f7_room, if_neg c1, if_neg c2, if_pos c3, if_neg c8]
                  have hRR : x16 = tgt.1 := pr1 hR
                  have hRS : S23 = tgt.2 := pr2 hR
                  exact g_iret X hret hlk hw hRR (congrArg (fun z => (z, V)) hRS) dX7_room_126
                · exact absurd c19 c2
              · exact absurd c14 c2
            · exact absurd c13 c1
          · exact absurd c12 (by decide)
    · refine lv_iload_n X.1 X.2.1 dX7_room_21 rfl (lv_at hl 2 rfl) ?_
      refine lv_i2l X.1 X.2.1 dX7_room_22 rfl ?_
      refine lv_lconst (v := (1 : Int64)) X.1 X.2.1 dX7_room_23 (by decide) ?_
      refine lv_ldc2 (v := (99 : Int64)) X.1 X.2.1 X.2.2.2.1 (X.2.2.2.2 _ q942) dX7_room_24 ?_
      refine m_callSI_p X K hw (k_X7_in l G S V a2.toInt64 (1 : Int64) (99 : Int64)) (g_cwS X hiX7_in q908 q909 q74 q910 ⟨(Nat.le_of_ble_eq_true rfl), (Nat.le_of_ble_eq_true rfl)⟩) rfl hl.1 rfl (Nat.le_of_ble_eq_true rfl) dX7_room_27 ⟨(Nat.le_of_ble_eq_true rfl), (Nat.le_of_ble_eq_true rfl)⟩ (fun z24 H locs ez24 hw => ?_)
      refine lv_goto (tgt := 55) X.1 X.2.1 dX7_room_30 (by decide) ?_
      refine lv_istore_n (lv' := [(3, .int z24), (0, .ref (mm_ad G 0)), (1, .int a1), (2, .int a2)]) X.1 X.2.1 dX7_room_55 rfl hl (by decide) rfl (fun ls hl => ?_)
      refine lv_iload_n X.1 X.2.1 dX7_room_56 rfl (lv_at hl 0 rfl) ?_
      refine lv_if_ne (tgt := 66) X.1 X.2.1 dX7_room_57 (by decide) (fun c25 => ?_) (fun c25 => ?_)
      · refine lv_iload_n X.1 X.2.1 dX7_room_66 rfl (lv_at hl 2 rfl) ?_
        refine lv_if_ne (tgt := 74) X.1 X.2.1 dX7_room_67 (by decide) (fun c26 => ?_) (fun c26 => ?_)
        · refine lv_iload_n X.1 X.2.1 dX7_room_74 rfl (lv_at hl 2 rfl) ?_
          refine lv_iconst (v := (1 : Int32)) X.1 X.2.1 dX7_room_75 (by decide) ?_
          refine lv_icmp_ne (tgt := 83) X.1 X.2.1 dX7_room_76 (by decide) (fun c27 => ?_) (fun c27 => ?_)
          · exact absurd c2 c27
          · refine lv_iconst (v := (2 : Int32)) X.1 X.2.1 dX7_room_79 (by decide) ?_
            refine lv_goto (tgt := 84) X.1 X.2.1 dX7_room_80 (by decide) ?_
            refine lv_istore (lv' := [(4, .int (2 : Int32)), (3, .int z24), (0, .ref (mm_ad G 0)), (1, .int a1), (2, .int a2)]) X.1 X.2.1 dX7_room_84 hl (by decide) rfl (fun ls hl => ?_)
            refine lv_aload_n X.1 X.2.1 dX7_room_86 rfl (lv_at hl 2 rfl) ?_
            refine m_get X K hw 0 (by decide) q836 rfl dX7_room_87 ?_
            refine lv_iload X.1 X.2.1 dX7_room_90 (lv_at hl 0 rfl) ?_
            have hi28 : vp_in (2 : Int32) 132 := by unfold vp_in; decide
            refine g_ialdL (j := 2) X K hw (by decide) mm_e1 hi28 rfl dX7_room_92 ?_
            refine lv_topi (fun x29 ex29 => ?_)
            refine lv_istore (lv' := [(5, .int x29), (4, .int (2 : Int32)), (3, .int z24), (0, .ref (mm_ad G 0)), (1, .int a1), (2, .int a2)]) X.1 X.2.1 dX7_room_93 hl (by decide) rfl (fun ls hl => ?_)
            refine lv_aload_n X.1 X.2.1 dX7_room_95 rfl (lv_at hl 3 rfl) ?_
            refine m_get X K hw 0 (by decide) q836 rfl dX7_room_96 ?_
            refine lv_iload X.1 X.2.1 dX7_room_99 (lv_at hl 1 rfl) ?_
            refine lv_iload_n X.1 X.2.1 dX7_room_101 rfl (lv_at hl 5 rfl) ?_
            have hi30 : vp_in (2 : Int32) 132 := by unfold vp_in; decide
            refine m_iastL (j := 2) X K hw (by decide) (by decide) (fun _ => mm_e1) hi30 rfl dX7_room_102 (fun S31 H locs eS31 hw => ?_)
            refine lv_aload_n X.1 X.2.1 dX7_room_103 rfl (lv_at hl 3 rfl) ?_
            refine m_get X K hw 0 (by decide) q836 rfl dX7_room_104 ?_
            refine lv_iconst (v := (3 : Int32)) X.1 X.2.1 dX7_room_107 (by decide) ?_
            refine lv_iload_n X.1 X.2.1 dX7_room_108 rfl (lv_at hl 4 rfl) ?_
            refine lv_iconst (v := (1 : Int32)) X.1 X.2.1 dX7_room_109 (by decide) ?_
            refine lv_icmp_ne (tgt := 117) X.1 X.2.1 dX7_room_110 (by decide) (fun c32 => ?_) (fun c32 => ?_)
            · exact absurd c2 c32
            · refine lv_iload_n X.1 X.2.1 dX7_room_113 rfl (lv_at hl 5 rfl) ?_
              refine lv_goto (tgt := 123) X.1 X.2.1 dX7_room_114 (by decide) ?_
              have hi33 : vp_in (3 : Int32) 132 := by unfold vp_in; decide
              refine m_iastL (j := 3) X K hw (by decide) (by decide) (fun _ => mm_e1) hi33 rfl dX7_room_123 (fun S34 H locs eS34 hw => ?_)
              refine lv_iload X.1 X.2.1 dX7_room_124 (lv_at hl 0 rfl) ?_
              have hR : (x29, S34) = tgt := by
                rw [← hF]
                subst ez24 ex29 eS31 eS34
                simp only [f7_room, if_neg c1, if_pos c2, if_neg c25]
              have hRR : x29 = tgt.1 := pr1 hR
              have hRS : S34 = tgt.2 := pr2 hR
              exact g_iret X hret hlk hw hRR (congrArg (fun z => (z, V)) hRS) dX7_room_126
        · exact absurd c26 c1
      · refine lv_aload_n X.1 X.2.1 dX7_room_60 rfl (lv_at hl 1 rfl) ?_
        refine lv_iconst (v := (0 : Int32)) X.1 X.2.1 dX7_room_61 (by decide) ?_
        refine m_callVI_s X K hw (k_X7_finds l G S V (0 : Int32) (by unfold vp_in; decide)) (g_cwV X hiX7_finds q912 q914 q29 q74 q915 ⟨(Nat.le_of_ble_eq_true rfl), (Nat.le_of_ble_eq_true rfl)⟩) rfl hl.1 rfl (Nat.le_of_ble_eq_true rfl) dX7_room_62 ⟨(Nat.le_of_ble_eq_true rfl), (Nat.le_of_ble_eq_true rfl)⟩ (fun z35 S36 H locs ez35 eS36 hw => ?_)
        have hR : (z35, S36) = tgt := by
          rw [← hF]
          subst ez24 ez35 eS36
          simp only [f7_room, if_neg c1, if_pos c2, if_pos c25]
        have hRR : z35 = tgt.1 := pr1 hR
        have hRS : S36 = tgt.2 := pr2 hR
        exact g_iret X hret hlk hw hRR (congrArg (fun z => (z, V)) hRS) dX7_room_65
  · refine lv_iload_n X.1 X.2.1 dX7_room_4 rfl (lv_at hl 2 rfl) ?_
    refine lv_i2l X.1 X.2.1 dX7_room_5 rfl ?_
    refine lv_lconst (v := (0 : Int64)) X.1 X.2.1 dX7_room_6 (by decide) ?_
    refine lv_ldc2 (v := (99 : Int64)) X.1 X.2.1 X.2.2.2.1 (X.2.2.2.2 _ q942) dX7_room_7 ?_
    refine m_callSI_p X K hw (k_X7_in l G S V a2.toInt64 (0 : Int64) (99 : Int64)) (g_cwS X hiX7_in q908 q909 q74 q910 ⟨(Nat.le_of_ble_eq_true rfl), (Nat.le_of_ble_eq_true rfl)⟩) rfl hl.1 rfl (Nat.le_of_ble_eq_true rfl) dX7_room_10 ⟨(Nat.le_of_ble_eq_true rfl), (Nat.le_of_ble_eq_true rfl)⟩ (fun z37 H locs ez37 hw => ?_)
    refine lv_goto (tgt := 55) X.1 X.2.1 dX7_room_13 (by decide) ?_
    refine lv_istore_n (lv' := [(3, .int z37), (0, .ref (mm_ad G 0)), (1, .int a1), (2, .int a2)]) X.1 X.2.1 dX7_room_55 rfl hl (by decide) rfl (fun ls hl => ?_)
    refine lv_iload_n X.1 X.2.1 dX7_room_56 rfl (lv_at hl 0 rfl) ?_
    refine lv_if_ne (tgt := 66) X.1 X.2.1 dX7_room_57 (by decide) (fun c38 => ?_) (fun c38 => ?_)
    · refine lv_iload_n X.1 X.2.1 dX7_room_66 rfl (lv_at hl 2 rfl) ?_
      refine lv_if_ne (tgt := 74) X.1 X.2.1 dX7_room_67 (by decide) (fun c39 => ?_) (fun c39 => ?_)
      · exact absurd c1 c39
      · refine lv_iconst (v := (1 : Int32)) X.1 X.2.1 dX7_room_70 (by decide) ?_
        refine lv_goto (tgt := 84) X.1 X.2.1 dX7_room_71 (by decide) ?_
        refine lv_istore (lv' := [(4, .int (1 : Int32)), (3, .int z37), (0, .ref (mm_ad G 0)), (1, .int a1), (2, .int a2)]) X.1 X.2.1 dX7_room_84 hl (by decide) rfl (fun ls hl => ?_)
        refine lv_aload_n X.1 X.2.1 dX7_room_86 rfl (lv_at hl 2 rfl) ?_
        refine m_get X K hw 0 (by decide) q836 rfl dX7_room_87 ?_
        refine lv_iload X.1 X.2.1 dX7_room_90 (lv_at hl 0 rfl) ?_
        have hi40 : vp_in (1 : Int32) 132 := by unfold vp_in; decide
        refine g_ialdL (j := 1) X K hw (by decide) mm_e1 hi40 rfl dX7_room_92 ?_
        refine lv_topi (fun x41 ex41 => ?_)
        refine lv_istore (lv' := [(5, .int x41), (4, .int (1 : Int32)), (3, .int z37), (0, .ref (mm_ad G 0)), (1, .int a1), (2, .int a2)]) X.1 X.2.1 dX7_room_93 hl (by decide) rfl (fun ls hl => ?_)
        refine lv_aload_n X.1 X.2.1 dX7_room_95 rfl (lv_at hl 3 rfl) ?_
        refine m_get X K hw 0 (by decide) q836 rfl dX7_room_96 ?_
        refine lv_iload X.1 X.2.1 dX7_room_99 (lv_at hl 1 rfl) ?_
        refine lv_iload_n X.1 X.2.1 dX7_room_101 rfl (lv_at hl 5 rfl) ?_
        have hi42 : vp_in (1 : Int32) 132 := by unfold vp_in; decide
        refine m_iastL (j := 1) X K hw (by decide) (by decide) (fun _ => mm_e1) hi42 rfl dX7_room_102 (fun S43 H locs eS43 hw => ?_)
        refine lv_aload_n X.1 X.2.1 dX7_room_103 rfl (lv_at hl 3 rfl) ?_
        refine m_get X K hw 0 (by decide) q836 rfl dX7_room_104 ?_
        refine lv_iconst (v := (3 : Int32)) X.1 X.2.1 dX7_room_107 (by decide) ?_
        refine lv_iload_n X.1 X.2.1 dX7_room_108 rfl (lv_at hl 4 rfl) ?_
        refine lv_iconst (v := (1 : Int32)) X.1 X.2.1 dX7_room_109 (by decide) ?_
        refine lv_icmp_ne (tgt := 117) X.1 X.2.1 dX7_room_110 (by decide) (fun c44 => ?_) (fun c44 => ?_)
        · refine lv_aload_n X.1 X.2.1 dX7_room_117 rfl (lv_at hl 3 rfl) ?_
          refine m_get X K hw 0 (by decide) q836 rfl dX7_room_118 ?_
          refine lv_iconst (v := (3 : Int32)) X.1 X.2.1 dX7_room_121 (by decide) ?_
          have hi45 : vp_in (3 : Int32) 132 := by unfold vp_in; decide
          refine g_ialdL (j := 3) X K hw (by decide) mm_e1 hi45 rfl dX7_room_122 ?_
          refine lv_topi (fun x46 ex46 => ?_)
          have hi47 : vp_in (3 : Int32) 132 := by unfold vp_in; decide
          refine m_iastL (j := 3) X K hw (by decide) (by decide) (fun _ => mm_e1) hi47 rfl dX7_room_123 (fun S48 H locs eS48 hw => ?_)
          refine lv_iload X.1 X.2.1 dX7_room_124 (lv_at hl 0 rfl) ?_
          have hR : (x41, S48) = tgt := by
            rw [← hF]
            subst ez37 ex41 eS43 ex46 eS48
            simp only [f7_room, if_pos c1, if_neg c38, if_neg c44]
          have hRR : x41 = tgt.1 := pr1 hR
          have hRS : S48 = tgt.2 := pr2 hR
          exact g_iret X hret hlk hw hRR (congrArg (fun z => (z, V)) hRS) dX7_room_126
        · refine lv_iload_n X.1 X.2.1 dX7_room_113 rfl (lv_at hl 5 rfl) ?_
          refine lv_goto (tgt := 123) X.1 X.2.1 dX7_room_114 (by decide) ?_
          have hi49 : vp_in (3 : Int32) 132 := by unfold vp_in; decide
          refine m_iastL (j := 3) X K hw (by decide) (by decide) (fun _ => mm_e1) hi49 rfl dX7_room_123 (fun S50 H locs eS50 hw => ?_)
          refine lv_iload X.1 X.2.1 dX7_room_124 (lv_at hl 0 rfl) ?_
          have hR : (x41, S50) = tgt := by
            rw [← hF]
            subst ez37 ex41 eS43 eS50
            simp only [f7_room, if_pos c1, if_neg c38, if_pos c44]
          have hRR : x41 = tgt.1 := pr1 hR
          have hRS : S50 = tgt.2 := pr2 hR
          exact g_iret X hret hlk hw hRR (congrArg (fun z => (z, V)) hRS) dX7_room_126
    · refine lv_aload_n X.1 X.2.1 dX7_room_60 rfl (lv_at hl 1 rfl) ?_
      refine lv_iconst (v := (0 : Int32)) X.1 X.2.1 dX7_room_61 (by decide) ?_
      refine m_callVI_s X K hw (k_X7_finds l G S V (0 : Int32) (by unfold vp_in; decide)) (g_cwV X hiX7_finds q912 q914 q29 q74 q915 ⟨(Nat.le_of_ble_eq_true rfl), (Nat.le_of_ble_eq_true rfl)⟩) rfl hl.1 rfl (Nat.le_of_ble_eq_true rfl) dX7_room_62 ⟨(Nat.le_of_ble_eq_true rfl), (Nat.le_of_ble_eq_true rfl)⟩ (fun z51 S52 H locs ez51 eS52 hw => ?_)
      have hR : (z51, S52) = tgt := by
        rw [← hF]
        subst ez37 ez51 eS52
        simp only [f7_room, if_pos c1, if_pos c38]
      have hRR : z51 = tgt.1 := pr1 hR
      have hRS : S52 = tgt.2 := pr2 hR
      exact g_iret X hret hlk hw hRR (congrArg (fun z => (z, V)) hRS) dX7_room_65
set_option maxHeartbeats 4000000 in
set_option maxRecDepth 10000 in
theorem k_X7_forgive (l : Launch) (G : tt_G) (S : tt_St) (V : Int64) (a1 : Int32) (hp0 : mi S) : m_MI l G yX7_forgive (g_code yX7_forgive cX7_forgive 3 (some FieldType.int)) 2 46 [.ref (mm_ad G 0), .int a1] S V ((f7_forgive S a1).1) ((f7_forgive S a1).2) V := by
  generalize hF : f7_forgive S a1 = tgt
  refine g_begin rfl (Nat.le_of_ble_eq_true rfl) _ (fun p e s m below meth c ls X hret hlk hB hl => ?_)
  obtain ⟨hP0, K⟩ := hB
  have hw : m_W G S V s s.heap [] := ⟨hP0, va_S.rf⟩
  have X : CallFix p m c cX7_forgive 3 s ([.ref (mm_ad G 0), .int a1] : List Value).toArray tt_T "TrustTinModel" := X
  have hl : lv_has ls 3 [(0, .ref (mm_ad G 0)), (1, .int a1)] := hl
  refine lv_aload_n X.1 X.2.1 dX7_forgive_0 rfl (lv_at hl 0 rfl) ?_
  refine lv_iload_n X.1 X.2.1 dX7_forgive_1 rfl (lv_at hl 1 rfl) ?_
  refine m_callVI_p X K hw (k_X7_isDrinker l G S V a1) (g_cwV X hiX7_isDrinker q929 q931 q32 q74 q932 ⟨(Nat.le_of_ble_eq_true rfl), (Nat.le_of_ble_eq_true rfl)⟩) rfl hl.1 rfl (Nat.le_of_ble_eq_true rfl) dX7_forgive_2 ⟨(Nat.le_of_ble_eq_true rfl), (Nat.le_of_ble_eq_true rfl)⟩ (fun z1 H locs ez1 hw => ?_)
  refine lv_if_ne (tgt := 14) X.1 X.2.1 dX7_forgive_5 (by decide) (fun c2 => ?_) (fun c2 => ?_)
  · refine lv_aload_n X.1 X.2.1 dX7_forgive_14 rfl (lv_at hl 0 rfl) ?_
    refine lv_iload_n X.1 X.2.1 dX7_forgive_15 rfl (lv_at hl 1 rfl) ?_
    refine lv_iconst (v := (4 : Int32)) X.1 X.2.1 dX7_forgive_16 (by decide) ?_
    refine m_callVI_p X K hw (k_X7_its l G S V a1 (4 : Int32) (md_in hp0.1 ez1 c2) (by unfold vp_in; decide)) (g_cwV X hiX7_its q933 q935 q33 q74 q936 ⟨(Nat.le_of_ble_eq_true rfl), (Nat.le_of_ble_eq_true rfl)⟩) rfl hl.1 rfl (Nat.le_of_ble_eq_true rfl) dX7_forgive_17 ⟨(Nat.le_of_ble_eq_true rfl), (Nat.le_of_ble_eq_true rfl)⟩ (fun z3 H locs ez3 hw => ?_)
    refine lv_istore_n (lv' := [(2, .int z3), (0, .ref (mm_ad G 0)), (1, .int a1)]) X.1 X.2.1 dX7_forgive_20 rfl hl (by decide) rfl (fun ls hl => ?_)
    refine lv_aload_n X.1 X.2.1 dX7_forgive_21 rfl (lv_at hl 1 rfl) ?_
    refine lv_iload_n X.1 X.2.1 dX7_forgive_22 rfl (lv_at hl 2 rfl) ?_
    refine lv_iconst (v := (4 : Int32)) X.1 X.2.1 dX7_forgive_23 (by decide) ?_
    refine lv_iconst (v := (0 : Int32)) X.1 X.2.1 dX7_forgive_24 (by decide) ?_
    refine m_callVV_s X K hw (k_X7_becomes l G S V a1 (4 : Int32) (0 : Int32) (md_in hp0.1 ez1 c2) (by unfold vp_in; decide)) (g_cwV X hiX7_becomes q921 q923 q31 q74 q924 ⟨(Nat.le_of_ble_eq_true rfl), (Nat.le_of_ble_eq_true rfl)⟩) rfl hl.1 rfl (Nat.le_of_ble_eq_true rfl) dX7_forgive_25 ⟨(Nat.le_of_ble_eq_true rfl), (Nat.le_of_ble_eq_true rfl)⟩ (fun S4 H locs eS4 hw => ?_)
    refine lv_iload_n X.1 X.2.1 dX7_forgive_28 rfl (lv_at hl 0 rfl) ?_
    have hR : (z3, S4) = tgt := by
      rw [← hF]
      subst ez1 ez3 eS4
      simp only [f7_forgive, if_neg c2]
    have hRR : z3 = tgt.1 := pr1 hR
    have hRS : S4 = tgt.2 := pr2 hR
    exact g_iret X hret hlk hw hRR (congrArg (fun z => (z, V)) hRS) dX7_forgive_29
  · refine lv_aload_n X.1 X.2.1 dX7_forgive_8 rfl (lv_at hl 0 rfl) ?_
    refine lv_iconst (v := (0 : Int32)) X.1 X.2.1 dX7_forgive_9 (by decide) ?_
    refine m_callVI_s X K hw (k_X7_finds l G S V (0 : Int32) (by unfold vp_in; decide)) (g_cwV X hiX7_finds q912 q914 q29 q74 q915 ⟨(Nat.le_of_ble_eq_true rfl), (Nat.le_of_ble_eq_true rfl)⟩) rfl hl.1 rfl (Nat.le_of_ble_eq_true rfl) dX7_forgive_10 ⟨(Nat.le_of_ble_eq_true rfl), (Nat.le_of_ble_eq_true rfl)⟩ (fun z5 S6 H locs ez5 eS6 hw => ?_)
    have hR : (z5, S6) = tgt := by
      rw [← hF]
      subst ez1 ez5 eS6
      simp only [f7_forgive, if_pos c2]
    have hRR : z5 = tgt.1 := pr1 hR
    have hRS : S6 = tgt.2 := pr2 hR
    exact g_iret X hret hlk hw hRR (congrArg (fun z => (z, V)) hRS) dX7_forgive_13
set_option maxHeartbeats 4000000 in
set_option maxRecDepth 10000 in
theorem k_X7_now (l : Launch) (G : tt_G) (S : tt_St) (V : Int64) (a1 : Int32) (hp0 : mi S) : m_MI l G yX7_now (g_code yX7_now cX7_now 2 (some FieldType.int)) 2 45 [.ref (mm_ad G 0), .int a1] S V ((f7_now S a1).1) ((f7_now S a1).2) V := by
  generalize hF : f7_now S a1 = tgt
  refine g_begin rfl (Nat.le_of_ble_eq_true rfl) _ (fun p e s m below meth c ls X hret hlk hB hl => ?_)
  obtain ⟨hP0, K⟩ := hB
  have hw : m_W G S V s s.heap [] := ⟨hP0, va_S.rf⟩
  have X : CallFix p m c cX7_now 2 s ([.ref (mm_ad G 0), .int a1] : List Value).toArray tt_T "TrustTinModel" := X
  have hl : lv_has ls 2 [(0, .ref (mm_ad G 0)), (1, .int a1)] := hl
  refine lv_iload_n X.1 X.2.1 dX7_now_0 rfl (lv_at hl 1 rfl) ?_
  by_cases c1 : a1 = (0 : Int32)
  · refine lv_tableIn (tgt := 56) X.1 X.2.1 dX7_now_1 (by rw [c1]; decide) (by rw [c1]; decide) (by rw [c1]; rfl) (by decide) ?_
    refine lv_aload_n X.1 X.2.1 dX7_now_56 rfl (lv_at hl 0 rfl) ?_
    refine m_get X K hw 0 (by decide) q836 rfl dX7_now_57 ?_
    refine lv_bipush (v := (7 : Int32)) X.1 X.2.1 dX7_now_60 (by decide) ?_
    have hi2 : vp_in (7 : Int32) 132 := by unfold vp_in; decide
    refine g_ialdL (j := 7) X K hw (by decide) mm_e1 hi2 rfl dX7_now_62 ?_
    have hR : (S 1 7, S) = tgt := by
      rw [← hF]
      simp only [f7_now, if_pos c1]
    have hRR : S 1 7 = tgt.1 := pr1 hR
    have hRS : S = tgt.2 := pr2 hR
    exact g_iret X hret hlk hw hRR (congrArg (fun z => (z, V)) hRS) dX7_now_63
  by_cases c3 : a1 = (1 : Int32)
  · refine lv_tableIn (tgt := 64) X.1 X.2.1 dX7_now_1 (by rw [c3]; decide) (by rw [c3]; decide) (by rw [c3]; rfl) (by decide) ?_
    refine lv_aload_n X.1 X.2.1 dX7_now_64 rfl (lv_at hl 0 rfl) ?_
    refine m_get X K hw 0 (by decide) q836 rfl dX7_now_65 ?_
    refine lv_iconst (v := (4 : Int32)) X.1 X.2.1 dX7_now_68 (by decide) ?_
    have hi4 : vp_in (4 : Int32) 132 := by unfold vp_in; decide
    refine g_ialdL (j := 4) X K hw (by decide) mm_e1 hi4 rfl dX7_now_69 ?_
    have hR : (S 1 4, S) = tgt := by
      rw [← hF]
      simp only [f7_now, if_neg c1, if_pos c3]
    have hRR : S 1 4 = tgt.1 := pr1 hR
    have hRS : S = tgt.2 := pr2 hR
    exact g_iret X hret hlk hw hRR (congrArg (fun z => (z, V)) hRS) dX7_now_70
  by_cases c5 : a1 = (2 : Int32)
  · refine lv_tableIn (tgt := 71) X.1 X.2.1 dX7_now_1 (by rw [c5]; decide) (by rw [c5]; decide) (by rw [c5]; rfl) (by decide) ?_
    refine lv_aload_n X.1 X.2.1 dX7_now_71 rfl (lv_at hl 0 rfl) ?_
    refine m_get X K hw 0 (by decide) q836 rfl dX7_now_72 ?_
    refine lv_iconst (v := (3 : Int32)) X.1 X.2.1 dX7_now_75 (by decide) ?_
    have hi6 : vp_in (3 : Int32) 132 := by unfold vp_in; decide
    refine g_ialdL (j := 3) X K hw (by decide) mm_e1 hi6 rfl dX7_now_76 ?_
    have hR : (S 1 3, S) = tgt := by
      rw [← hF]
      simp only [f7_now, if_neg c1, if_neg c3, if_pos c5]
    have hRR : S 1 3 = tgt.1 := pr1 hR
    have hRS : S = tgt.2 := pr2 hR
    exact g_iret X hret hlk hw hRR (congrArg (fun z => (z, V)) hRS) dX7_now_77
  by_cases c7 : a1 = (3 : Int32)
  · refine lv_tableIn (tgt := 78) X.1 X.2.1 dX7_now_1 (by rw [c7]; decide) (by rw [c7]; decide) (by rw [c7]; rfl) (by decide) ?_
    refine lv_aload_n X.1 X.2.1 dX7_now_78 rfl (lv_at hl 0 rfl) ?_
    refine m_get X K hw 0 (by decide) q836 rfl dX7_now_79 ?_
    refine lv_bipush (v := (6 : Int32)) X.1 X.2.1 dX7_now_82 (by decide) ?_
    have hi8 : vp_in (6 : Int32) 132 := by unfold vp_in; decide
    refine g_ialdL (j := 6) X K hw (by decide) mm_e1 hi8 rfl dX7_now_84 ?_
    have hR : (S 1 6, S) = tgt := by
      rw [← hF]
      simp only [f7_now, if_neg c1, if_neg c3, if_neg c5, if_pos c7]
    have hRR : S 1 6 = tgt.1 := pr1 hR
    have hRS : S = tgt.2 := pr2 hR
    exact g_iret X hret hlk hw hRR (congrArg (fun z => (z, V)) hRS) dX7_now_85
  by_cases c9 : a1 = (4 : Int32)
  · refine lv_tableIn (tgt := 86) X.1 X.2.1 dX7_now_1 (by rw [c9]; decide) (by rw [c9]; decide) (by rw [c9]; rfl) (by decide) ?_
    refine lv_aload_n X.1 X.2.1 dX7_now_86 rfl (lv_at hl 0 rfl) ?_
    refine m_get X K hw 0 (by decide) q836 rfl dX7_now_87 ?_
    refine lv_iconst (v := (1 : Int32)) X.1 X.2.1 dX7_now_90 (by decide) ?_
    have hi10 : vp_in (1 : Int32) 132 := by unfold vp_in; decide
    refine g_ialdL (j := 1) X K hw (by decide) mm_e1 hi10 rfl dX7_now_91 ?_
    refine lv_aload_n X.1 X.2.1 dX7_now_92 rfl (lv_at hl 0 rfl) ?_
    refine lv_iconst (v := (5 : Int32)) X.1 X.2.1 dX7_now_93 (by decide) ?_
    refine m_callVI_p X K hw (k_X7_sumOf l G S V (5 : Int32) hp0.1.2 (by unfold vp_in; decide)) (g_cwV X hiX7_sumOf q968 q970 q34 q74 q971 ⟨(Nat.le_of_ble_eq_true rfl), (Nat.le_of_ble_eq_true rfl)⟩) rfl hl.1 rfl (Nat.le_of_ble_eq_true rfl) dX7_now_94 ⟨(Nat.le_of_ble_eq_true rfl), (Nat.le_of_ble_eq_true rfl)⟩ (fun z11 H locs ez11 hw => ?_)
    refine lv_imul X.1 X.2.1 dX7_now_97 ?_
    have hR : ((S 1 1) * z11, S) = tgt := by
      rw [← hF]
      subst ez11
      simp only [f7_now, if_neg c1, if_neg c3, if_neg c5, if_neg c7, if_pos c9]
    have hRR : (S 1 1) * z11 = tgt.1 := pr1 hR
    have hRS : S = tgt.2 := pr2 hR
    exact g_iret X hret hlk hw hRR (congrArg (fun z => (z, V)) hRS) dX7_now_98
  by_cases c12 : a1 = (5 : Int32)
  · refine lv_tableIn (tgt := 99) X.1 X.2.1 dX7_now_1 (by rw [c12]; decide) (by rw [c12]; decide) (by rw [c12]; rfl) (by decide) ?_
    refine lv_aload_n X.1 X.2.1 dX7_now_99 rfl (lv_at hl 0 rfl) ?_
    refine m_get X K hw 0 (by decide) q836 rfl dX7_now_100 ?_
    refine lv_bipush (v := (8 : Int32)) X.1 X.2.1 dX7_now_103 (by decide) ?_
    have hi13 : vp_in (8 : Int32) 132 := by unfold vp_in; decide
    refine g_ialdL (j := 8) X K hw (by decide) mm_e1 hi13 rfl dX7_now_105 ?_
    have hR : (S 1 8, S) = tgt := by
      rw [← hF]
      simp only [f7_now, if_neg c1, if_neg c3, if_neg c5, if_neg c7, if_neg c9, if_pos c12]
    have hRR : S 1 8 = tgt.1 := pr1 hR
    have hRS : S = tgt.2 := pr2 hR
    exact g_iret X hret hlk hw hRR (congrArg (fun z => (z, V)) hRS) dX7_now_106
  by_cases c14 : a1 = (6 : Int32)
  · refine lv_tableIn (tgt := 107) X.1 X.2.1 dX7_now_1 (by rw [c14]; decide) (by rw [c14]; decide) (by rw [c14]; rfl) (by decide) ?_
    refine lv_aload_n X.1 X.2.1 dX7_now_107 rfl (lv_at hl 0 rfl) ?_
    refine lv_iconst (v := (4 : Int32)) X.1 X.2.1 dX7_now_108 (by decide) ?_
    refine m_callVI_p X K hw (k_X7_sumOf l G S V (4 : Int32) hp0.1.2 (by unfold vp_in; decide)) (g_cwV X hiX7_sumOf q968 q970 q34 q74 q971 ⟨(Nat.le_of_ble_eq_true rfl), (Nat.le_of_ble_eq_true rfl)⟩) rfl hl.1 rfl (Nat.le_of_ble_eq_true rfl) dX7_now_109 ⟨(Nat.le_of_ble_eq_true rfl), (Nat.le_of_ble_eq_true rfl)⟩ (fun z15 H locs ez15 hw => ?_)
    have hR : (z15, S) = tgt := by
      rw [← hF]
      subst ez15
      simp only [f7_now, if_neg c1, if_neg c3, if_neg c5, if_neg c7, if_neg c9, if_neg c12, if_pos c14]
    have hRR : z15 = tgt.1 := pr1 hR
    have hRS : S = tgt.2 := pr2 hR
    exact g_iret X hret hlk hw hRR (congrArg (fun z => (z, V)) hRS) dX7_now_112
  by_cases c16 : a1 = (7 : Int32)
  · refine lv_tableIn (tgt := 113) X.1 X.2.1 dX7_now_1 (by rw [c16]; decide) (by rw [c16]; decide) (by rw [c16]; rfl) (by decide) ?_
    refine lv_aload_n X.1 X.2.1 dX7_now_113 rfl (lv_at hl 0 rfl) ?_
    refine lv_iconst (v := (2 : Int32)) X.1 X.2.1 dX7_now_114 (by decide) ?_
    refine m_callVI_p X K hw (k_X7_sumOf l G S V (2 : Int32) hp0.1.2 (by unfold vp_in; decide)) (g_cwV X hiX7_sumOf q968 q970 q34 q74 q971 ⟨(Nat.le_of_ble_eq_true rfl), (Nat.le_of_ble_eq_true rfl)⟩) rfl hl.1 rfl (Nat.le_of_ble_eq_true rfl) dX7_now_115 ⟨(Nat.le_of_ble_eq_true rfl), (Nat.le_of_ble_eq_true rfl)⟩ (fun z17 H locs ez17 hw => ?_)
    have hR : (z17, S) = tgt := by
      rw [← hF]
      subst ez17
      simp only [f7_now, if_neg c1, if_neg c3, if_neg c5, if_neg c7, if_neg c9, if_neg c12, if_neg c14, if_pos c16]
    have hRR : z17 = tgt.1 := pr1 hR
    have hRS : S = tgt.2 := pr2 hR
    exact g_iret X hret hlk hw hRR (congrArg (fun z => (z, V)) hRS) dX7_now_118
  by_cases c18 : a1 = (8 : Int32)
  · refine lv_tableIn (tgt := 119) X.1 X.2.1 dX7_now_1 (by rw [c18]; decide) (by rw [c18]; decide) (by rw [c18]; rfl) (by decide) ?_
    refine lv_aload_n X.1 X.2.1 dX7_now_119 rfl (lv_at hl 0 rfl) ?_
    refine lv_iconst (v := (5 : Int32)) X.1 X.2.1 dX7_now_120 (by decide) ?_
    refine m_callVI_p X K hw (k_X7_sumOf l G S V (5 : Int32) hp0.1.2 (by unfold vp_in; decide)) (g_cwV X hiX7_sumOf q968 q970 q34 q74 q971 ⟨(Nat.le_of_ble_eq_true rfl), (Nat.le_of_ble_eq_true rfl)⟩) rfl hl.1 rfl (Nat.le_of_ble_eq_true rfl) dX7_now_121 ⟨(Nat.le_of_ble_eq_true rfl), (Nat.le_of_ble_eq_true rfl)⟩ (fun z19 H locs ez19 hw => ?_)
    have hR : (z19, S) = tgt := by
      rw [← hF]
      subst ez19
      simp only [f7_now, if_neg c1, if_neg c3, if_neg c5, if_neg c7, if_neg c9, if_neg c12, if_neg c14, if_neg c16, if_pos c18]
    have hRR : z19 = tgt.1 := pr1 hR
    have hRS : S = tgt.2 := pr2 hR
    exact g_iret X hret hlk hw hRR (congrArg (fun z => (z, V)) hRS) dX7_now_124
  by_cases c20 : a1 = (9 : Int32)
  · refine lv_tableIn (tgt := 125) X.1 X.2.1 dX7_now_1 (by rw [c20]; decide) (by rw [c20]; decide) (by rw [c20]; rfl) (by decide) ?_
    refine lv_aload_n X.1 X.2.1 dX7_now_125 rfl (lv_at hl 0 rfl) ?_
    refine lv_bipush (v := (6 : Int32)) X.1 X.2.1 dX7_now_126 (by decide) ?_
    refine m_callVI_p X K hw (k_X7_sumOf l G S V (6 : Int32) hp0.1.2 (by unfold vp_in; decide)) (g_cwV X hiX7_sumOf q968 q970 q34 q74 q971 ⟨(Nat.le_of_ble_eq_true rfl), (Nat.le_of_ble_eq_true rfl)⟩) rfl hl.1 rfl (Nat.le_of_ble_eq_true rfl) dX7_now_128 ⟨(Nat.le_of_ble_eq_true rfl), (Nat.le_of_ble_eq_true rfl)⟩ (fun z21 H locs ez21 hw => ?_)
    have hR : (z21, S) = tgt := by
      rw [← hF]
      subst ez21
      simp only [f7_now, if_neg c1, if_neg c3, if_neg c5, if_neg c7, if_neg c9, if_neg c12, if_neg c14, if_neg c16, if_neg c18, if_pos c20]
    have hRR : z21 = tgt.1 := pr1 hR
    have hRS : S = tgt.2 := pr2 hR
    exact g_iret X hret hlk hw hRR (congrArg (fun z => (z, V)) hRS) dX7_now_131
  refine lv_tableOut (tgt := 132) X.1 X.2.1 dX7_now_1 (by have := lv_neT (a := 0) c1 rfl; have := lv_neT (a := 1) c3 rfl; have := lv_neT (a := 2) c5 rfl; have := lv_neT (a := 3) c7 rfl; have := lv_neT (a := 4) c9 rfl; have := lv_neT (a := 5) c12 rfl; have := lv_neT (a := 6) c14 rfl; have := lv_neT (a := 7) c16 rfl; have := lv_neT (a := 8) c18 rfl; have := lv_neT (a := 9) c20 rfl; omega) (by decide) ?_
  refine lv_aload_n X.1 X.2.1 dX7_now_132 rfl (lv_at hl 0 rfl) ?_
  refine lv_iconst (v := (0 : Int32)) X.1 X.2.1 dX7_now_133 (by decide) ?_
  refine m_callVI_s X K hw (k_X7_finds l G S V (0 : Int32) (by unfold vp_in; decide)) (g_cwV X hiX7_finds q912 q914 q29 q74 q915 ⟨(Nat.le_of_ble_eq_true rfl), (Nat.le_of_ble_eq_true rfl)⟩) rfl hl.1 rfl (Nat.le_of_ble_eq_true rfl) dX7_now_134 ⟨(Nat.le_of_ble_eq_true rfl), (Nat.le_of_ble_eq_true rfl)⟩ (fun z22 S23 H locs ez22 eS23 hw => ?_)
  have hR : (z22, S23) = tgt := by
    rw [← hF]
    subst ez22 eS23
    simp only [f7_now, if_neg c1, if_neg c3, if_neg c5, if_neg c7, if_neg c9, if_neg c12, if_neg c14, if_neg c16, if_neg c18, if_neg c20]
  have hRR : z22 = tgt.1 := pr1 hR
  have hRS : S23 = tgt.2 := pr2 hR
  exact g_iret X hret hlk hw hRR (congrArg (fun z => (z, V)) hRS) dX7_now_137
set_option maxHeartbeats 4000000 in
set_option maxRecDepth 10000 in
theorem k_X7_days (l : Launch) (G : tt_G) (S : tt_St) (V : Int64) (a1 : Int32) (hp0 : mi S) : m_MI l G yX7_days (g_code yX7_days cX7_days 2 (some FieldType.int)) 7 155 [.ref (mm_ad G 0), .int a1] S V ((f7_days S a1).1) ((f7_days S a1).2) V := by
  generalize hF : f7_days S a1 = tgt
  refine g_begin rfl (Nat.le_of_ble_eq_true rfl) _ (fun p e s m below meth c ls X hret hlk hB hl => ?_)
  obtain ⟨hP0, K⟩ := hB
  have hw : m_W G S V s s.heap [] := ⟨hP0, va_S.rf⟩
  have X : CallFix p m c cX7_days 2 s ([.ref (mm_ad G 0), .int a1] : List Value).toArray tt_T "TrustTinModel" := X
  have hl : lv_has ls 2 [(0, .ref (mm_ad G 0)), (1, .int a1)] := hl
  refine lv_iload_n X.1 X.2.1 dX7_days_0 rfl (lv_at hl 1 rfl) ?_
  refine lv_i2l X.1 X.2.1 dX7_days_1 rfl ?_
  refine lv_lconst (v := (1 : Int64)) X.1 X.2.1 dX7_days_2 (by decide) ?_
  refine lv_ldc2 (v := (50 : Int64)) X.1 X.2.1 X.2.2.2.1 (X.2.2.2.2 _ q976) dX7_days_3 ?_
  refine m_callSI_p X K hw (k_X7_in l G S V a1.toInt64 (1 : Int64) (50 : Int64)) (g_cwS X hiX7_in q908 q909 q74 q910 ⟨(Nat.le_of_ble_eq_true rfl), (Nat.le_of_ble_eq_true rfl)⟩) rfl hl.1 rfl (Nat.le_of_ble_eq_true rfl) dX7_days_6 ⟨(Nat.le_of_ble_eq_true rfl), (Nat.le_of_ble_eq_true rfl)⟩ (fun z1 H locs ez1 hw => ?_)
  refine lv_if_ne (tgt := 18) X.1 X.2.1 dX7_days_9 (by decide) (fun c2 => ?_) (fun c2 => ?_)
  · refine lv_aload_n X.1 X.2.1 dX7_days_18 rfl (lv_at hl 0 rfl) ?_
    refine lv_iload_n X.1 X.2.1 dX7_days_19 rfl (lv_at hl 1 rfl) ?_
    refine m_callVI_p X K hw (k_X7_isFar l G S V a1) (g_cwV X hiX7_isFar q977 q979 q35 q74 q980 ⟨(Nat.le_of_ble_eq_true rfl), (Nat.le_of_ble_eq_true rfl)⟩) rfl hl.1 rfl (Nat.le_of_ble_eq_true rfl) dX7_days_20 ⟨(Nat.le_of_ble_eq_true rfl), (Nat.le_of_ble_eq_true rfl)⟩ (fun z3 H locs ez3 hw => ?_)
    refine lv_if_eq (tgt := 34) X.1 X.2.1 dX7_days_23 (by decide) (fun c4 => ?_) (fun c4 => ?_)
    · refine lv_aload_n X.1 X.2.1 dX7_days_34 rfl (lv_at hl 0 rfl) ?_
      refine lv_iload_n X.1 X.2.1 dX7_days_35 rfl (lv_at hl 1 rfl) ?_
      refine m_callVI_s X K hw (k_X7_goesOn l G S V a1 hp0.1.2) (g_cwV X hiX7_goesOn q981 q983 q36 q74 q984 ⟨(Nat.le_of_ble_eq_true rfl), (Nat.le_of_ble_eq_true rfl)⟩) rfl hl.1 rfl (Nat.le_of_ble_eq_true rfl) dX7_days_36 ⟨(Nat.le_of_ble_eq_true rfl), (Nat.le_of_ble_eq_true rfl)⟩ (fun z5 S6 H locs ez5 eS6 hw => ?_)
      have hR : (z5, S6) = tgt := by
        rw [← hF]
        subst ez1 ez3 ez5 eS6
        simp only [f7_days, if_neg c2, if_pos c4]
      have hRR : z5 = tgt.1 := pr1 hR
      have hRS : S6 = tgt.2 := pr2 hR
      exact g_iret X hret hlk hw hRR (congrArg (fun z => (z, V)) hRS) dX7_days_39
    · refine lv_aload_n X.1 X.2.1 dX7_days_26 rfl (lv_at hl 0 rfl) ?_
      refine lv_iconst (v := (4 : Int32)) X.1 X.2.1 dX7_days_27 (by decide) ?_
      refine m_callVI_s X K hw (k_X7_finds l G S V (4 : Int32) (by unfold vp_in; decide)) (g_cwV X hiX7_finds q912 q914 q29 q74 q915 ⟨(Nat.le_of_ble_eq_true rfl), (Nat.le_of_ble_eq_true rfl)⟩) rfl hl.1 rfl (Nat.le_of_ble_eq_true rfl) dX7_days_28 ⟨(Nat.le_of_ble_eq_true rfl), (Nat.le_of_ble_eq_true rfl)⟩ (fun z7 S8 H locs ez7 eS8 hw => ?_)
      refine lv_goto (tgt := 39) X.1 X.2.1 dX7_days_31 (by decide) ?_
      have hR : (z7, S8) = tgt := by
        rw [← hF]
        subst ez1 ez3 ez7 eS8
        simp only [f7_days, if_neg c2, if_neg c4]
      have hRR : z7 = tgt.1 := pr1 hR
      have hRS : S8 = tgt.2 := pr2 hR
      exact g_iret X hret hlk hw hRR (congrArg (fun z => (z, V)) hRS) dX7_days_39
  · refine lv_aload_n X.1 X.2.1 dX7_days_12 rfl (lv_at hl 0 rfl) ?_
    refine lv_iconst (v := (0 : Int32)) X.1 X.2.1 dX7_days_13 (by decide) ?_
    refine m_callVI_s X K hw (k_X7_finds l G S V (0 : Int32) (by unfold vp_in; decide)) (g_cwV X hiX7_finds q912 q914 q29 q74 q915 ⟨(Nat.le_of_ble_eq_true rfl), (Nat.le_of_ble_eq_true rfl)⟩) rfl hl.1 rfl (Nat.le_of_ble_eq_true rfl) dX7_days_14 ⟨(Nat.le_of_ble_eq_true rfl), (Nat.le_of_ble_eq_true rfl)⟩ (fun z9 S10 H locs ez9 eS10 hw => ?_)
    have hR : (z9, S10) = tgt := by
      rw [← hF]
      subst ez1 ez9 eS10
      simp only [f7_days, if_pos c2]
    have hRR : z9 = tgt.1 := pr1 hR
    have hRS : S10 = tgt.2 := pr2 hR
    exact g_iret X hret hlk hw hRR (congrArg (fun z => (z, V)) hRS) dX7_days_17
set_option maxHeartbeats 4000000 in
set_option maxRecDepth 10000 in
theorem k_X7_each (l : Launch) (G : tt_G) (S : tt_St) (V : Int64) (a1 : Int32) (hp0 : mi S) : m_MI l G yX7_each (g_code yX7_each cX7_each 5 (some FieldType.int)) 1 25 [.ref (mm_ad G 0), .int a1] S V ((f7_each S a1).1) ((f7_each S a1).2) V := by
  generalize hF : f7_each S a1 = tgt
  refine g_begin rfl (Nat.le_of_ble_eq_true rfl) _ (fun p e s m below meth c ls X hret hlk hB hl => ?_)
  obtain ⟨hP0, K⟩ := hB
  have hw : m_W G S V s s.heap [] := ⟨hP0, va_S.rf⟩
  have X : CallFix p m c cX7_each 5 s ([.ref (mm_ad G 0), .int a1] : List Value).toArray tt_T "TrustTinModel" := X
  have hl : lv_has ls 5 [(0, .ref (mm_ad G 0)), (1, .int a1)] := hl
  refine lv_iload_n X.1 X.2.1 dX7_each_0 rfl (lv_at hl 1 rfl) ?_
  refine lv_i2l X.1 X.2.1 dX7_each_1 rfl ?_
  refine lv_lconst (v := (0 : Int64)) X.1 X.2.1 dX7_each_2 (by decide) ?_
  refine lv_lconst (v := (1 : Int64)) X.1 X.2.1 dX7_each_3 (by decide) ?_
  refine m_callSI_p X K hw (k_X7_in l G S V a1.toInt64 (0 : Int64) (1 : Int64)) (g_cwS X hiX7_in q908 q909 q74 q910 ⟨(Nat.le_of_ble_eq_true rfl), (Nat.le_of_ble_eq_true rfl)⟩) rfl hl.1 rfl (Nat.le_of_ble_eq_true rfl) dX7_each_4 ⟨(Nat.le_of_ble_eq_true rfl), (Nat.le_of_ble_eq_true rfl)⟩ (fun z1 H locs ez1 hw => ?_)
  refine lv_if_ne (tgt := 16) X.1 X.2.1 dX7_each_7 (by decide) (fun c2 => ?_) (fun c2 => ?_)
  · refine lv_iconst (v := (0 : Int32)) X.1 X.2.1 dX7_each_16 (by decide) ?_
    refine lv_istore_n (lv' := [(2, .int (0 : Int32)), (0, .ref (mm_ad G 0)), (1, .int a1)]) X.1 X.2.1 dX7_each_17 rfl hl (by decide) rfl (fun ls hl => ?_)
    refine lv_iconst (v := (0 : Int32)) X.1 X.2.1 dX7_each_18 (by decide) ?_
    refine lv_istore_n (lv' := [(3, .int (0 : Int32)), (2, .int (0 : Int32)), (0, .ref (mm_ad G 0)), (1, .int a1)]) X.1 X.2.1 dX7_each_19 rfl hl (by decide) rfl (fun ls hl => ?_)
    refine lv_iconst (v := (0 : Int32)) X.1 X.2.1 dX7_each_20 (by decide) ?_
    refine lv_istore (lv' := [(4, .int (0 : Int32)), (3, .int (0 : Int32)), (2, .int (0 : Int32)), (0, .ref (mm_ad G 0)), (1, .int a1)]) X.1 X.2.1 dX7_each_21 hl (by decide) rfl (fun ls hl => ?_)
    have j23 : ∀ (n : Nat) (S3 : tt_St) (y2_23 : Int32) (y3_23 : Int32) (y4_23 : Int32) (H : Heap) (locs : List Loc) (ls : Array Slot), (((¬ y4_23 < 0) ∧ S3 = S) ∧ (0 ≤ y2_23.toInt ∧ y2_23.toInt ≤ 1000000 * y4_23.toInt) ∧ (0 ≤ y3_23.toInt ∧ y3_23.toInt ≤ 1000000 * y4_23.toInt)) → lp_mu (S3 1 11) y4_23 < n → f7_each_L23 a1 n S3 y2_23 y3_23 y4_23 = tgt → m_W G S3 V s H locs → lv_has ls 5 [(0, .ref (mm_ad G 0)), (1, .int a1), (2, .int y2_23), (3, .int y3_23), (4, .int y4_23)] → W p l e (g_rm 1 25) s m ([.ref (mm_ad G 0), .int a1] : List Value).toArray below meth c H locs 0 0 (MQ below (va_Qi (fun r T => r = tgt.1 ∧ T = (tgt.2, V)) (g_Post G 10 (mm_ad G) (mm_cell G)) (g_in 10 (mm_ad G))) ([.ref (mm_ad G 0), .int a1] : List Value).toArray s 0 0 (g_in 10 (mm_ad G))) (F0 m 23 ls []) := by
      intro n
      induction n with
      | zero => intro S3 y2_23 y3_23 y4_23 H locs ls hI hm; exact absurd hm (Nat.not_lt_zero _)
      | succ n ih =>
        intro S3 y2_23 y3_23 y4_23 H locs ls hI hm hF hw hl
        refine lv_iload X.1 X.2.1 dX7_each_23 (lv_at hl 4 rfl) ?_
        refine lv_aload_n X.1 X.2.1 dX7_each_25 rfl (lv_at hl 0 rfl) ?_
        refine m_get X K hw 0 (by decide) q836 rfl dX7_each_26 ?_
        refine lv_bipush (v := (11 : Int32)) X.1 X.2.1 dX7_each_29 (by decide) ?_
        have hi4 : vp_in (11 : Int32) 132 := by unfold vp_in; decide
        refine g_ialdL (j := 11) X K hw (by decide) mm_e1 hi4 rfl dX7_each_31 ?_
        refine lv_icmp_ge (tgt := 73) X.1 X.2.1 dX7_each_32 (by decide) (fun c5 => ?_) (fun c5 => ?_)
        · refine lv_iload_n X.1 X.2.1 dX7_each_73 rfl (lv_at hl 3 rfl) ?_
          refine lv_if_ne (tgt := 83) X.1 X.2.1 dX7_each_74 (by decide) (fun c6 => ?_) (fun c6 => ?_)
          · refine lv_iload_n X.1 X.2.1 dX7_each_83 rfl (lv_at hl 1 rfl) ?_
            refine lv_if_ne (tgt := 91) X.1 X.2.1 dX7_each_84 (by decide) (fun c7 => ?_) (fun c7 => ?_)
            · refine lv_iload_n X.1 X.2.1 dX7_each_91 rfl (lv_at hl 3 rfl) ?_
              refine lv_iload_n X.1 X.2.1 dX7_each_92 rfl (lv_at hl 2 rfl) ?_
              refine lv_iload_n X.1 X.2.1 dX7_each_93 rfl (lv_at hl 3 rfl) ?_
              refine m_callSI_p X K hw (k_X7_common l G S3 V y2_23 y3_23 (nn_int hI.2.1.1) (nn_int hI.2.2.1)) (g_cwS X hiX7_common q1027 q1028 q74 q1029 ⟨(Nat.le_of_ble_eq_true rfl), (Nat.le_of_ble_eq_true rfl)⟩) rfl hl.1 rfl (Nat.le_of_ble_eq_true rfl) dX7_each_94 ⟨(Nat.le_of_ble_eq_true rfl), (Nat.le_of_ble_eq_true rfl)⟩ (fun z8 H locs ez8 hw => ?_)
              refine lv_idiv X.1 X.2.1 dX7_each_97 (by subst ez8; exact gc_ne (nn_int hI.2.1.1) (nn_int hI.2.2.1) c6) ?_
              have hR : (y3_23 / z8, S3) = tgt := by
                rw [← hF]
                subst ez8
                simp only [f7_each_L23, if_pos c5, if_neg c6, if_neg c7]
              have hRR : y3_23 / z8 = tgt.1 := pr1 hR
              have hRS : S3 = tgt.2 := pr2 hR
              exact g_iret X hret hlk hw hRR (congrArg (fun z => (z, V)) hRS) dX7_each_98
            · refine lv_iload_n X.1 X.2.1 dX7_each_87 rfl (lv_at hl 2 rfl) ?_
              refine lv_goto (tgt := 92) X.1 X.2.1 dX7_each_88 (by decide) ?_
              refine lv_iload_n X.1 X.2.1 dX7_each_92 rfl (lv_at hl 2 rfl) ?_
              refine lv_iload_n X.1 X.2.1 dX7_each_93 rfl (lv_at hl 3 rfl) ?_
              refine m_callSI_p X K hw (k_X7_common l G S3 V y2_23 y3_23 (nn_int hI.2.1.1) (nn_int hI.2.2.1)) (g_cwS X hiX7_common q1027 q1028 q74 q1029 ⟨(Nat.le_of_ble_eq_true rfl), (Nat.le_of_ble_eq_true rfl)⟩) rfl hl.1 rfl (Nat.le_of_ble_eq_true rfl) dX7_each_94 ⟨(Nat.le_of_ble_eq_true rfl), (Nat.le_of_ble_eq_true rfl)⟩ (fun z9 H locs ez9 hw => ?_)
              refine lv_idiv X.1 X.2.1 dX7_each_97 (by subst ez9; exact gc_ne (nn_int hI.2.1.1) (nn_int hI.2.2.1) c6) ?_
              have hR : (y2_23 / z9, S3) = tgt := by
                rw [← hF]
                subst ez9
                simp only [f7_each_L23, if_pos c5, if_neg c6, if_pos c7]
              have hRR : y2_23 / z9 = tgt.1 := pr1 hR
              have hRS : S3 = tgt.2 := pr2 hR
              exact g_iret X hret hlk hw hRR (congrArg (fun z => (z, V)) hRS) dX7_each_98
          · refine lv_aload_n X.1 X.2.1 dX7_each_77 rfl (lv_at hl 0 rfl) ?_
            refine lv_iconst (v := (3 : Int32)) X.1 X.2.1 dX7_each_78 (by decide) ?_
            refine m_callVI_s X K hw (k_X7_finds l G S3 V (3 : Int32) (by unfold vp_in; decide)) (g_cwV X hiX7_finds q912 q914 q29 q74 q915 ⟨(Nat.le_of_ble_eq_true rfl), (Nat.le_of_ble_eq_true rfl)⟩) rfl hl.1 rfl (Nat.le_of_ble_eq_true rfl) dX7_each_79 ⟨(Nat.le_of_ble_eq_true rfl), (Nat.le_of_ble_eq_true rfl)⟩ (fun z10 S11 H locs ez10 eS11 hw => ?_)
            have hR : (z10, S11) = tgt := by
              rw [← hF]
              subst ez10 eS11
              simp only [f7_each_L23, if_pos c5, if_pos c6]
            have hRR : z10 = tgt.1 := pr1 hR
            have hRS : S11 = tgt.2 := pr2 hR
            exact g_iret X hret hlk hw hRR (congrArg (fun z => (z, V)) hRS) dX7_each_82
        · refine lv_iload_n X.1 X.2.1 dX7_each_35 rfl (lv_at hl 3 rfl) ?_
          refine lv_aload_n X.1 X.2.1 dX7_each_36 rfl (lv_at hl 0 rfl) ?_
          refine m_get X K hw 0 (by decide) q836 rfl dX7_each_37 ?_
          refine lv_bipush (v := (82 : Int32)) X.1 X.2.1 dX7_each_40 (by decide) ?_
          refine lv_iconst (v := (2 : Int32)) X.1 X.2.1 dX7_each_42 (by decide) ?_
          refine lv_iload X.1 X.2.1 dX7_each_43 (lv_at hl 4 rfl) ?_
          refine lv_imul X.1 X.2.1 dX7_each_45 ?_
          refine lv_iadd X.1 X.2.1 dX7_each_46 ?_
          have hi12 : vp_in ((82 : Int32) + ((2 : Int32) * y4_23)) 132 := (wk_i (int_nn hI.1.1) (ea_lt hp0 hI.1.2 c5)).1
          refine g_iald X K hw (by decide) mm_e1 hi12 dX7_each_47 ?_
          refine lv_iadd X.1 X.2.1 dX7_each_48 ?_
          refine lv_topi (fun x13 ex13 => ?_)
          refine lv_istore_n (lv' := [(3, .int x13), (0, .ref (mm_ad G 0)), (1, .int a1), (2, .int y2_23), (4, .int y4_23)]) X.1 X.2.1 dX7_each_49 rfl hl (by decide) rfl (fun ls hl => ?_)
          refine lv_iload_n X.1 X.2.1 dX7_each_50 rfl (lv_at hl 3 rfl) ?_
          refine lv_aload_n X.1 X.2.1 dX7_each_51 rfl (lv_at hl 1 rfl) ?_
          refine m_get X K hw 0 (by decide) q836 rfl dX7_each_52 ?_
          refine lv_bipush (v := (82 : Int32)) X.1 X.2.1 dX7_each_55 (by decide) ?_
          refine lv_iconst (v := (2 : Int32)) X.1 X.2.1 dX7_each_57 (by decide) ?_
          refine lv_iload X.1 X.2.1 dX7_each_58 (lv_at hl 4 rfl) ?_
          refine lv_imul X.1 X.2.1 dX7_each_60 ?_
          refine lv_iadd X.1 X.2.1 dX7_each_61 ?_
          refine lv_iconst (v := (1 : Int32)) X.1 X.2.1 dX7_each_62 (by decide) ?_
          refine lv_iadd X.1 X.2.1 dX7_each_63 ?_
          have hi14 : vp_in (((82 : Int32) + ((2 : Int32) * y4_23)) + (1 : Int32)) 132 := (wk_i (int_nn hI.1.1) (ea_lt hp0 hI.1.2 c5)).2.1
          refine g_iald X K hw (by decide) mm_e1 hi14 dX7_each_64 ?_
          refine lv_iadd X.1 X.2.1 dX7_each_65 ?_
          refine lv_topi (fun x15 ex15 => ?_)
          refine lv_istore_n (lv' := [(2, .int x15), (3, .int x13), (0, .ref (mm_ad G 0)), (1, .int a1), (4, .int y4_23)]) X.1 X.2.1 dX7_each_66 rfl hl (by decide) rfl (fun ls hl => ?_)
          obtain ⟨x16, ex16⟩ : ∃ y : Int32, y = y4_23 + (1 : Int32) := ⟨_, rfl⟩
          refine lv_iinc (v := x16) (lv' := [(4, .int x16), (2, .int x15), (3, .int x13), (0, .ref (mm_ad G 0)), (1, .int a1)]) X.1 X.2.1 dX7_each_67 hl (k := 4) rfl (by rw [ex16]; rfl) (by decide) rfl (fun ls hl => ?_)
          refine lv_goto (tgt := 23) X.1 X.2.1 dX7_each_70 (by decide) ?_
          have hF2 : f7_each_L23 a1 n S3 x15 x13 x16 = tgt := by
            rw [← hF]
            subst ex13 ex15 ex16
            simp only [f7_each_L23, if_neg c5]
          exact ih S3 x15 x13 x16 _ _ ls (by subst ex13 ex15 ex16; exact ea_step hp0 hI c5) (by rw [ex16]; exact lp_dec' c5 hm) hF2 hw (lv_sub hl [3, 4, 1, 2, 0] rfl)
    have hF2 : f7_each_L23 a1 (lp_mu (S 1 11) 0 + 1) S (0 : Int32) (0 : Int32) (0 : Int32) = tgt := by
      rw [← hF]
      subst ez1
      simp only [f7_each, if_neg c2]
    exact j23 (lp_mu (S 1 11) 0 + 1) S (0 : Int32) (0 : Int32) (0 : Int32) _ _ ls (⟨⟨by decide, rfl⟩, by decide, by decide⟩) (Nat.lt_succ_self _) hF2 hw (lv_sub hl [3, 4, 2, 1, 0] rfl)
  · refine lv_aload_n X.1 X.2.1 dX7_each_10 rfl (lv_at hl 0 rfl) ?_
    refine lv_iconst (v := (0 : Int32)) X.1 X.2.1 dX7_each_11 (by decide) ?_
    refine m_callVI_s X K hw (k_X7_finds l G S V (0 : Int32) (by unfold vp_in; decide)) (g_cwV X hiX7_finds q912 q914 q29 q74 q915 ⟨(Nat.le_of_ble_eq_true rfl), (Nat.le_of_ble_eq_true rfl)⟩) rfl hl.1 rfl (Nat.le_of_ble_eq_true rfl) dX7_each_12 ⟨(Nat.le_of_ble_eq_true rfl), (Nat.le_of_ble_eq_true rfl)⟩ (fun z17 S18 H locs ez17 eS18 hw => ?_)
    have hR : (z17, S18) = tgt := by
      rw [← hF]
      subst ez1 ez17 eS18
      simp only [f7_each, if_pos c2]
    have hRR : z17 = tgt.1 := pr1 hR
    have hRS : S18 = tgt.2 := pr2 hR
    exact g_iret X hret hlk hw hRR (congrArg (fun z => (z, V)) hRS) dX7_each_15
set_option maxHeartbeats 4000000 in
set_option maxRecDepth 10000 in
theorem k_X7_findSets (l : Launch) (G : tt_G) (S : tt_St) (V : Int64) (a1 : Int32) (hp0 : (S 1 0).toInt ≤ 10) : m_MV l G yX7_findSets (g_code yX7_findSets cX7_findSets 3 none) 2 46 [.ref (mm_ad G 0), .int a1] S V (f7_findSets S a1) V := by
  generalize hF : f7_findSets S a1 = tgt
  refine g_begin rfl (Nat.le_of_ble_eq_true rfl) _ (fun p e s m below meth c ls X hret hlk hB hl => ?_)
  obtain ⟨hP0, K⟩ := hB
  have hw : m_W G S V s s.heap [] := ⟨hP0, va_S.rf⟩
  have X : CallFix p m c cX7_findSets 3 s ([.ref (mm_ad G 0), .int a1] : List Value).toArray tt_T "TrustTinModel" := X
  have hl : lv_has ls 3 [(0, .ref (mm_ad G 0)), (1, .int a1)] := hl
  refine lv_aload_n X.1 X.2.1 dX7_findSets_0 rfl (lv_at hl 0 rfl) ?_
  refine lv_iconst (v := (0 : Int32)) X.1 X.2.1 dX7_findSets_1 (by decide) ?_
  refine m_put X K hw 9 (by decide) q845 rfl rfl rfl dX7_findSets_2 (fun S1 H locs eS1 hw => ?_)
  refine lv_aload_n X.1 X.2.1 dX7_findSets_5 rfl (lv_at hl 0 rfl) ?_
  refine lv_iconst (v := (-1 : Int32)) X.1 X.2.1 dX7_findSets_6 (by decide) ?_
  refine m_put X K hw 10 (by decide) q846 rfl rfl rfl dX7_findSets_7 (fun S2 H locs eS2 hw => ?_)
  refine lv_aload_n X.1 X.2.1 dX7_findSets_10 rfl (lv_at hl 0 rfl) ?_
  refine lv_iconst (v := (0 : Int32)) X.1 X.2.1 dX7_findSets_11 (by decide) ?_
  refine m_put X K hw 11 (by decide) q847 rfl rfl rfl dX7_findSets_12 (fun S3 H locs eS3 hw => ?_)
  refine lv_aload_n X.1 X.2.1 dX7_findSets_15 rfl (lv_at hl 0 rfl) ?_
  refine lv_iconst (v := (0 : Int32)) X.1 X.2.1 dX7_findSets_16 (by decide) ?_
  refine m_put X K hw 12 (by decide) q848 rfl rfl rfl dX7_findSets_17 (fun S4 H locs eS4 hw => ?_)
  refine lv_iconst (v := (1 : Int32)) X.1 X.2.1 dX7_findSets_20 (by decide) ?_
  refine lv_istore_n (lv' := [(2, .int (1 : Int32)), (0, .ref (mm_ad G 0)), (1, .int a1)]) X.1 X.2.1 dX7_findSets_21 rfl hl (by decide) rfl (fun ls hl => ?_)
  have j22 : ∀ (n : Nat) (S5 : tt_St) (y2_22 : Int32) (H : Heap) (locs : List Loc) (ls : Array Slot), ((¬ y2_22 < 0) ∧ S5 1 = S 1) → lp_mu ((1 : Int32) <<< ((S5 1 0) &&& 31)) y2_22 < n → f7_findSets_L22 a1 n S5 y2_22 = tgt → m_W G S5 V s H locs → lv_has ls 3 [(0, .ref (mm_ad G 0)), (1, .int a1), (2, .int y2_22)] → W p l e (g_rm 2 46) s m ([.ref (mm_ad G 0), .int a1] : List Value).toArray below meth c H locs 0 0 (MQ below (va_Qv (fun T => T = (tgt, V)) (g_Post G 10 (mm_ad G) (mm_cell G)) (g_in 10 (mm_ad G))) ([.ref (mm_ad G 0), .int a1] : List Value).toArray s 0 0 (g_in 10 (mm_ad G))) (F0 m 22 ls []) := by
    intro n
    induction n with
    | zero => intro S5 y2_22 H locs ls hI hm; exact absurd hm (Nat.not_lt_zero _)
    | succ n ih =>
      intro S5 y2_22 H locs ls hI hm hF hw hl
      refine lv_iload_n X.1 X.2.1 dX7_findSets_22 rfl (lv_at hl 2 rfl) ?_
      refine lv_iconst (v := (1 : Int32)) X.1 X.2.1 dX7_findSets_23 (by decide) ?_
      refine lv_aload_n X.1 X.2.1 dX7_findSets_24 rfl (lv_at hl 0 rfl) ?_
      refine m_get X K hw 0 (by decide) q836 rfl dX7_findSets_25 ?_
      refine lv_iconst (v := (0 : Int32)) X.1 X.2.1 dX7_findSets_28 (by decide) ?_
      have hi6 : vp_in (0 : Int32) 132 := by unfold vp_in; decide
      refine g_ialdL (j := 0) X K hw (by decide) mm_e1 hi6 rfl dX7_findSets_29 ?_
      refine lv_ishl X.1 X.2.1 dX7_findSets_30 ?_
      refine lv_icmp_ge (tgt := 112) X.1 X.2.1 dX7_findSets_31 (by decide) (fun c7 => ?_) (fun c7 => ?_)
      · have hR : S5 = tgt := by
          rw [← hF]
          simp only [f7_findSets_L22, if_pos c7]
        exact g_vret X hret hlk hw (congrArg (fun z => (z, V)) hR) dX7_findSets_112
      · refine lv_aload_n X.1 X.2.1 dX7_findSets_34 rfl (lv_at hl 0 rfl) ?_
        refine lv_iload_n X.1 X.2.1 dX7_findSets_35 rfl (lv_at hl 2 rfl) ?_
        refine lv_iload_n X.1 X.2.1 dX7_findSets_36 rfl (lv_at hl 1 rfl) ?_
        refine m_callVI_p X K hw (k_X7_isSum l G S5 V y2_22 a1 (by rw [hI.2]; exact hp0)) (g_cwV X hiX7_isSum q1038 q1040 q46 q74 q1041 ⟨(Nat.le_of_ble_eq_true rfl), (Nat.le_of_ble_eq_true rfl)⟩) rfl hl.1 rfl (Nat.le_of_ble_eq_true rfl) dX7_findSets_37 ⟨(Nat.le_of_ble_eq_true rfl), (Nat.le_of_ble_eq_true rfl)⟩ (fun z8 H locs ez8 hw => ?_)
        refine lv_if_eq (tgt := 106) X.1 X.2.1 dX7_findSets_40 (by decide) (fun c9 => ?_) (fun c9 => ?_)
        · obtain ⟨x10, ex10⟩ : ∃ y : Int32, y = y2_22 + (1 : Int32) := ⟨_, rfl⟩
          refine lv_iinc (v := x10) (lv' := [(2, .int x10), (0, .ref (mm_ad G 0)), (1, .int a1)]) X.1 X.2.1 dX7_findSets_106 hl (k := 2) rfl (by rw [ex10]; rfl) (by decide) rfl (fun ls hl => ?_)
          refine lv_goto (tgt := 22) X.1 X.2.1 dX7_findSets_109 (by decide) ?_
          have hF2 : f7_findSets_L22 a1 n S5 x10 = tgt := by
            rw [← hF]
            subst ez8 ex10
            simp only [f7_findSets_L22, if_neg c7, if_pos c9]
          exact ih S5 x10 _ _ ls (⟨by rw [ex10]; exact lp_nn hI.1 c7, by first | exact hI.2 | (rw [← hI.2]; subst ez8 ex10; rfl)⟩) (by rw [ex10, show S5 1 0 = S5 1 0 from by subst ez8 ex10; rfl]; exact lp_dec' c7 hm) hF2 hw (lv_sub hl [1, 2, 0] rfl)
        · refine lv_aload_n X.1 X.2.1 dX7_findSets_43 rfl (lv_at hl 0 rfl) ?_
          refine lv_dup X.1 X.2.1 dX7_findSets_44 rfl ?_
          refine m_get X K hw 9 (by decide) q845 rfl dX7_findSets_45 ?_
          refine lv_iconst (v := (1 : Int32)) X.1 X.2.1 dX7_findSets_48 (by decide) ?_
          refine lv_iadd X.1 X.2.1 dX7_findSets_49 ?_
          refine lv_topi (fun x11 ex11 => ?_)
          refine m_put X K hw 9 (by decide) q845 rfl rfl rfl dX7_findSets_50 (fun S12 H locs eS12 hw => ?_)
          refine lv_aload_n X.1 X.2.1 dX7_findSets_53 rfl (lv_at hl 0 rfl) ?_
          refine lv_dup X.1 X.2.1 dX7_findSets_54 rfl ?_
          refine m_get X K hw 10 (by decide) q846 rfl dX7_findSets_55 ?_
          refine lv_iload_n X.1 X.2.1 dX7_findSets_58 rfl (lv_at hl 2 rfl) ?_
          refine lv_iand X.1 X.2.1 dX7_findSets_59 ?_
          refine lv_topi (fun x13 ex13 => ?_)
          refine m_put X K hw 10 (by decide) q846 rfl rfl rfl dX7_findSets_60 (fun S14 H locs eS14 hw => ?_)
          refine lv_aload_n X.1 X.2.1 dX7_findSets_63 rfl (lv_at hl 0 rfl) ?_
          refine lv_dup X.1 X.2.1 dX7_findSets_64 rfl ?_
          refine m_get X K hw 11 (by decide) q847 rfl dX7_findSets_65 ?_
          refine lv_iload_n X.1 X.2.1 dX7_findSets_68 rfl (lv_at hl 2 rfl) ?_
          refine lv_ior X.1 X.2.1 dX7_findSets_69 ?_
          refine lv_topi (fun x15 ex15 => ?_)
          refine m_put X K hw 11 (by decide) q847 rfl rfl rfl dX7_findSets_70 (fun S16 H locs eS16 hw => ?_)
          refine lv_aload_n X.1 X.2.1 dX7_findSets_73 rfl (lv_at hl 0 rfl) ?_
          refine lv_aload_n X.1 X.2.1 dX7_findSets_74 rfl (lv_at hl 0 rfl) ?_
          refine m_get X K hw 12 (by decide) q848 rfl dX7_findSets_75 ?_
          refine lv_if_eq (tgt := 95) X.1 X.2.1 dX7_findSets_78 (by decide) (fun c17 => ?_) (fun c17 => ?_)
          · refine lv_iload_n X.1 X.2.1 dX7_findSets_95 rfl (lv_at hl 2 rfl) ?_
            refine lv_goto (tgt := 103) X.1 X.2.1 dX7_findSets_96 (by decide) ?_
            refine m_put X K hw 12 (by decide) q848 rfl rfl rfl dX7_findSets_103 (fun S18 H locs eS18 hw => ?_)
            obtain ⟨x19, ex19⟩ : ∃ y : Int32, y = y2_22 + (1 : Int32) := ⟨_, rfl⟩
            refine lv_iinc (v := x19) (lv' := [(2, .int x19), (0, .ref (mm_ad G 0)), (1, .int a1)]) X.1 X.2.1 dX7_findSets_106 hl (k := 2) rfl (by rw [ex19]; rfl) (by decide) rfl (fun ls hl => ?_)
            refine lv_goto (tgt := 22) X.1 X.2.1 dX7_findSets_109 (by decide) ?_
            have hF2 : f7_findSets_L22 a1 n S18 x19 = tgt := by
              rw [← hF]
              subst ez8 ex11 eS12 ex13 eS14 ex15 eS16 eS18 ex19
              simp only [f7_findSets_L22, if_neg c7, if_neg c9, if_pos c17]
            exact ih S18 x19 _ _ ls (⟨by rw [ex19]; exact lp_nn hI.1 c7, by first | exact hI.2 | (rw [← hI.2]; subst ez8 ex11 eS12 ex13 eS14 ex15 eS16 eS18 ex19; rfl)⟩) (by rw [ex19, show S18 1 0 = S5 1 0 from by subst ez8 ex11 eS12 ex13 eS14 ex15 eS16 eS18 ex19; rfl]; exact lp_dec' c7 hm) hF2 hw (lv_sub hl [1, 2, 0] rfl)
          · refine lv_iload_n X.1 X.2.1 dX7_findSets_81 rfl (lv_at hl 2 rfl) ?_
            refine m_callSI_p X K hw (k_X7_ones l G S16 V y2_22) (g_cwS X hiX7_ones q1042 q1043 q74 q1044 ⟨(Nat.le_of_ble_eq_true rfl), (Nat.le_of_ble_eq_true rfl)⟩) rfl hl.1 rfl (Nat.le_of_ble_eq_true rfl) dX7_findSets_82 ⟨(Nat.le_of_ble_eq_true rfl), (Nat.le_of_ble_eq_true rfl)⟩ (fun z20 H locs ez20 hw => ?_)
            refine lv_aload_n X.1 X.2.1 dX7_findSets_85 rfl (lv_at hl 0 rfl) ?_
            refine m_get X K hw 12 (by decide) q848 rfl dX7_findSets_86 ?_
            refine m_callSI_p X K hw (k_X7_ones l G S16 V (S16 0 12)) (g_cwS X hiX7_ones q1042 q1043 q74 q1044 ⟨(Nat.le_of_ble_eq_true rfl), (Nat.le_of_ble_eq_true rfl)⟩) rfl hl.1 rfl (Nat.le_of_ble_eq_true rfl) dX7_findSets_89 ⟨(Nat.le_of_ble_eq_true rfl), (Nat.le_of_ble_eq_true rfl)⟩ (fun z21 H locs ez21 hw => ?_)
            refine lv_icmp_ge (tgt := 99) X.1 X.2.1 dX7_findSets_92 (by decide) (fun c22 => ?_) (fun c22 => ?_)
            · refine lv_aload_n X.1 X.2.1 dX7_findSets_99 rfl (lv_at hl 0 rfl) ?_
              refine m_get X K hw 12 (by decide) q848 rfl dX7_findSets_100 ?_
              refine lv_topi (fun x23 ex23 => ?_)
              refine m_put X K hw 12 (by decide) q848 rfl rfl rfl dX7_findSets_103 (fun S24 H locs eS24 hw => ?_)
              obtain ⟨x25, ex25⟩ : ∃ y : Int32, y = y2_22 + (1 : Int32) := ⟨_, rfl⟩
              refine lv_iinc (v := x25) (lv' := [(2, .int x25), (0, .ref (mm_ad G 0)), (1, .int a1)]) X.1 X.2.1 dX7_findSets_106 hl (k := 2) rfl (by rw [ex25]; rfl) (by decide) rfl (fun ls hl => ?_)
              refine lv_goto (tgt := 22) X.1 X.2.1 dX7_findSets_109 (by decide) ?_
              have hF2 : f7_findSets_L22 a1 n S24 x25 = tgt := by
                rw [← hF]
                subst ez8 ex11 eS12 ex13 eS14 ex15 eS16 ez20 ez21 ex23 eS24 ex25
                simp only [f7_findSets_L22, if_neg c7, if_neg c9, if_neg c17, if_pos c22]
              exact ih S24 x25 _ _ ls (⟨by rw [ex25]; exact lp_nn hI.1 c7, by first | exact hI.2 | (rw [← hI.2]; subst ez8 ex11 eS12 ex13 eS14 ex15 eS16 ez20 ez21 ex23 eS24 ex25; rfl)⟩) (by rw [ex25, show S24 1 0 = S5 1 0 from by subst ez8 ex11 eS12 ex13 eS14 ex15 eS16 ez20 ez21 ex23 eS24 ex25; rfl]; exact lp_dec' c7 hm) hF2 hw (lv_sub hl [1, 2, 0] rfl)
            · refine lv_iload_n X.1 X.2.1 dX7_findSets_95 rfl (lv_at hl 2 rfl) ?_
              refine lv_goto (tgt := 103) X.1 X.2.1 dX7_findSets_96 (by decide) ?_
              refine m_put X K hw 12 (by decide) q848 rfl rfl rfl dX7_findSets_103 (fun S26 H locs eS26 hw => ?_)
              obtain ⟨x27, ex27⟩ : ∃ y : Int32, y = y2_22 + (1 : Int32) := ⟨_, rfl⟩
              refine lv_iinc (v := x27) (lv' := [(2, .int x27), (0, .ref (mm_ad G 0)), (1, .int a1)]) X.1 X.2.1 dX7_findSets_106 hl (k := 2) rfl (by rw [ex27]; rfl) (by decide) rfl (fun ls hl => ?_)
              refine lv_goto (tgt := 22) X.1 X.2.1 dX7_findSets_109 (by decide) ?_
              have hF2 : f7_findSets_L22 a1 n S26 x27 = tgt := by
                rw [← hF]
                subst ez8 ex11 eS12 ex13 eS14 ex15 eS16 ez20 ez21 eS26 ex27
                simp only [f7_findSets_L22, if_neg c7, if_neg c9, if_neg c17, if_neg c22]
              exact ih S26 x27 _ _ ls (⟨by rw [ex27]; exact lp_nn hI.1 c7, by first | exact hI.2 | (rw [← hI.2]; subst ez8 ex11 eS12 ex13 eS14 ex15 eS16 ez20 ez21 eS26 ex27; rfl)⟩) (by rw [ex27, show S26 1 0 = S5 1 0 from by subst ez8 ex11 eS12 ex13 eS14 ex15 eS16 ez20 ez21 eS26 ex27; rfl]; exact lp_dec' c7 hm) hF2 hw (lv_sub hl [1, 2, 0] rfl)
  have hF2 : f7_findSets_L22 a1 (lp_mu ((1 : Int32) <<< ((S4 1 0) &&& 31)) 1 + 1) S4 (1 : Int32) = tgt := by
    rw [← hF]
    subst eS1 eS2 eS3 eS4
    simp only [f7_findSets]
  exact j22 (lp_mu ((1 : Int32) <<< ((S4 1 0) &&& 31)) 1 + 1) S4 (1 : Int32) _ _ ls (⟨by decide, by subst eS1 eS2 eS3 eS4; rfl⟩) (Nat.lt_succ_self _) hF2 hw (lv_sub hl [1, 2, 0] rfl)
set_option maxHeartbeats 4000000 in
set_option maxRecDepth 10000 in
theorem k_X7_many (l : Launch) (G : tt_G) (S : tt_St) (V : Int64) (a1 : Int32) (hp0 : mi S) : m_MI l G yX7_many (g_code yX7_many cX7_many 2 (some FieldType.int)) 3 68 [.ref (mm_ad G 0), .int a1] S V ((f7_many S a1).1) ((f7_many S a1).2) V := by
  generalize hF : f7_many S a1 = tgt
  refine g_begin rfl (Nat.le_of_ble_eq_true rfl) _ (fun p e s m below meth c ls X hret hlk hB hl => ?_)
  obtain ⟨hP0, K⟩ := hB
  have hw : m_W G S V s s.heap [] := ⟨hP0, va_S.rf⟩
  have X : CallFix p m c cX7_many 2 s ([.ref (mm_ad G 0), .int a1] : List Value).toArray tt_T "TrustTinModel" := X
  have hl : lv_has ls 2 [(0, .ref (mm_ad G 0)), (1, .int a1)] := hl
  refine lv_iload_n X.1 X.2.1 dX7_many_0 rfl (lv_at hl 1 rfl) ?_
  refine lv_i2l X.1 X.2.1 dX7_many_1 rfl ?_
  refine lv_lconst (v := (0 : Int64)) X.1 X.2.1 dX7_many_2 (by decide) ?_
  refine lv_ldc2 (v := (9999 : Int64)) X.1 X.2.1 X.2.2.2.1 (X.2.2.2.2 _ q941) dX7_many_3 ?_
  refine m_callSI_p X K hw (k_X7_in l G S V a1.toInt64 (0 : Int64) (9999 : Int64)) (g_cwS X hiX7_in q908 q909 q74 q910 ⟨(Nat.le_of_ble_eq_true rfl), (Nat.le_of_ble_eq_true rfl)⟩) rfl hl.1 rfl (Nat.le_of_ble_eq_true rfl) dX7_many_6 ⟨(Nat.le_of_ble_eq_true rfl), (Nat.le_of_ble_eq_true rfl)⟩ (fun z1 H locs ez1 hw => ?_)
  refine lv_if_ne (tgt := 18) X.1 X.2.1 dX7_many_9 (by decide) (fun c2 => ?_) (fun c2 => ?_)
  · refine lv_aload_n X.1 X.2.1 dX7_many_18 rfl (lv_at hl 0 rfl) ?_
    refine lv_iload_n X.1 X.2.1 dX7_many_19 rfl (lv_at hl 1 rfl) ?_
    refine m_callVV_s X K hw (k_X7_findSets l G S V a1 hp0.1.2) (g_cwV X hiX7_findSets q1034 q1036 q45 q74 q1037 ⟨(Nat.le_of_ble_eq_true rfl), (Nat.le_of_ble_eq_true rfl)⟩) rfl hl.1 rfl (Nat.le_of_ble_eq_true rfl) dX7_many_20 ⟨(Nat.le_of_ble_eq_true rfl), (Nat.le_of_ble_eq_true rfl)⟩ (fun S3 H locs eS3 hw => ?_)
    refine lv_aload_n X.1 X.2.1 dX7_many_23 rfl (lv_at hl 0 rfl) ?_
    refine m_get X K hw 9 (by decide) q845 rfl dX7_many_24 ?_
    have hR : (S3 0 9, S3) = tgt := by
      rw [← hF]
      subst ez1 eS3
      simp only [f7_many, if_neg c2]
    have hRR : S3 0 9 = tgt.1 := pr1 hR
    have hRS : S3 = tgt.2 := pr2 hR
    exact g_iret X hret hlk hw hRR (congrArg (fun z => (z, V)) hRS) dX7_many_27
  · refine lv_aload_n X.1 X.2.1 dX7_many_12 rfl (lv_at hl 0 rfl) ?_
    refine lv_iconst (v := (0 : Int32)) X.1 X.2.1 dX7_many_13 (by decide) ?_
    refine m_callVI_s X K hw (k_X7_finds l G S V (0 : Int32) (by unfold vp_in; decide)) (g_cwV X hiX7_finds q912 q914 q29 q74 q915 ⟨(Nat.le_of_ble_eq_true rfl), (Nat.le_of_ble_eq_true rfl)⟩) rfl hl.1 rfl (Nat.le_of_ble_eq_true rfl) dX7_many_14 ⟨(Nat.le_of_ble_eq_true rfl), (Nat.le_of_ble_eq_true rfl)⟩ (fun z4 S5 H locs ez4 eS5 hw => ?_)
    have hR : (z4, S5) = tgt := by
      rw [← hF]
      subst ez1 ez4 eS5
      simp only [f7_many, if_pos c2]
    have hRR : z4 = tgt.1 := pr1 hR
    have hRS : S5 = tgt.2 := pr2 hR
    exact g_iret X hret hlk hw hRR (congrArg (fun z => (z, V)) hRS) dX7_many_17
set_option maxHeartbeats 4000000 in
set_option maxRecDepth 10000 in
theorem k_X7_who (l : Launch) (G : tt_G) (S : tt_St) (V : Int64) (a1 : Int32) (a2 : Int32) (hp0 : mi S) : m_MI l G yX7_who (g_code yX7_who cX7_who 3 (some FieldType.int)) 3 68 [.ref (mm_ad G 0), .int a1, .int a2] S V ((f7_who S a1 a2).1) ((f7_who S a1 a2).2) V := by
  generalize hF : f7_who S a1 a2 = tgt
  refine g_begin rfl (Nat.le_of_ble_eq_true rfl) _ (fun p e s m below meth c ls X hret hlk hB hl => ?_)
  obtain ⟨hP0, K⟩ := hB
  have hw : m_W G S V s s.heap [] := ⟨hP0, va_S.rf⟩
  have X : CallFix p m c cX7_who 3 s ([.ref (mm_ad G 0), .int a1, .int a2] : List Value).toArray tt_T "TrustTinModel" := X
  have hl : lv_has ls 3 [(0, .ref (mm_ad G 0)), (1, .int a1), (2, .int a2)] := hl
  refine lv_iload_n X.1 X.2.1 dX7_who_0 rfl (lv_at hl 1 rfl) ?_
  refine lv_i2l X.1 X.2.1 dX7_who_1 rfl ?_
  refine lv_lconst (v := (0 : Int64)) X.1 X.2.1 dX7_who_2 (by decide) ?_
  refine lv_ldc2 (v := (9999 : Int64)) X.1 X.2.1 X.2.2.2.1 (X.2.2.2.2 _ q941) dX7_who_3 ?_
  refine m_callSI_p X K hw (k_X7_in l G S V a1.toInt64 (0 : Int64) (9999 : Int64)) (g_cwS X hiX7_in q908 q909 q74 q910 ⟨(Nat.le_of_ble_eq_true rfl), (Nat.le_of_ble_eq_true rfl)⟩) rfl hl.1 rfl (Nat.le_of_ble_eq_true rfl) dX7_who_6 ⟨(Nat.le_of_ble_eq_true rfl), (Nat.le_of_ble_eq_true rfl)⟩ (fun z1 H locs ez1 hw => ?_)
  refine lv_if_eq (tgt := 22) X.1 X.2.1 dX7_who_9 (by decide) (fun c2 => ?_) (fun c2 => ?_)
  · refine lv_aload_n X.1 X.2.1 dX7_who_22 rfl (lv_at hl 0 rfl) ?_
    refine lv_iconst (v := (0 : Int32)) X.1 X.2.1 dX7_who_23 (by decide) ?_
    refine m_callVI_s X K hw (k_X7_finds l G S V (0 : Int32) (by unfold vp_in; decide)) (g_cwV X hiX7_finds q912 q914 q29 q74 q915 ⟨(Nat.le_of_ble_eq_true rfl), (Nat.le_of_ble_eq_true rfl)⟩) rfl hl.1 rfl (Nat.le_of_ble_eq_true rfl) dX7_who_24 ⟨(Nat.le_of_ble_eq_true rfl), (Nat.le_of_ble_eq_true rfl)⟩ (fun z3 S4 H locs ez3 eS4 hw => ?_)
    have hR : (z3, S4) = tgt := by
      rw [← hF]
      subst ez1 ez3 eS4
      simp only [f7_who, if_pos c2]
    have hRR : z3 = tgt.1 := pr1 hR
    have hRS : S4 = tgt.2 := pr2 hR
    exact g_iret X hret hlk hw hRR (congrArg (fun z => (z, V)) hRS) dX7_who_27
  · refine lv_iload_n X.1 X.2.1 dX7_who_12 rfl (lv_at hl 2 rfl) ?_
    refine lv_i2l X.1 X.2.1 dX7_who_13 rfl ?_
    refine lv_lconst (v := (0 : Int64)) X.1 X.2.1 dX7_who_14 (by decide) ?_
    refine lv_lconst (v := (1 : Int64)) X.1 X.2.1 dX7_who_15 (by decide) ?_
    refine m_callSI_p X K hw (k_X7_in l G S V a2.toInt64 (0 : Int64) (1 : Int64)) (g_cwS X hiX7_in q908 q909 q74 q910 ⟨(Nat.le_of_ble_eq_true rfl), (Nat.le_of_ble_eq_true rfl)⟩) rfl hl.1 rfl (Nat.le_of_ble_eq_true rfl) dX7_who_16 ⟨(Nat.le_of_ble_eq_true rfl), (Nat.le_of_ble_eq_true rfl)⟩ (fun z5 H locs ez5 hw => ?_)
    refine lv_if_ne (tgt := 28) X.1 X.2.1 dX7_who_19 (by decide) (fun c6 => ?_) (fun c6 => ?_)
    · refine lv_aload_n X.1 X.2.1 dX7_who_28 rfl (lv_at hl 0 rfl) ?_
      refine lv_iload_n X.1 X.2.1 dX7_who_29 rfl (lv_at hl 1 rfl) ?_
      refine m_callVV_s X K hw (k_X7_findSets l G S V a1 hp0.1.2) (g_cwV X hiX7_findSets q1034 q1036 q45 q74 q1037 ⟨(Nat.le_of_ble_eq_true rfl), (Nat.le_of_ble_eq_true rfl)⟩) rfl hl.1 rfl (Nat.le_of_ble_eq_true rfl) dX7_who_30 ⟨(Nat.le_of_ble_eq_true rfl), (Nat.le_of_ble_eq_true rfl)⟩ (fun S7 H locs eS7 hw => ?_)
      refine lv_aload_n X.1 X.2.1 dX7_who_33 rfl (lv_at hl 0 rfl) ?_
      refine m_get X K hw 9 (by decide) q845 rfl dX7_who_34 ?_
      refine lv_if_ne (tgt := 48) X.1 X.2.1 dX7_who_37 (by decide) (fun c8 => ?_) (fun c8 => ?_)
      · refine lv_iload_n X.1 X.2.1 dX7_who_48 rfl (lv_at hl 2 rfl) ?_
        refine lv_if_ne (tgt := 59) X.1 X.2.1 dX7_who_49 (by decide) (fun c9 => ?_) (fun c9 => ?_)
        · refine lv_aload_n X.1 X.2.1 dX7_who_59 rfl (lv_at hl 0 rfl) ?_
          refine m_get X K hw 11 (by decide) q847 rfl dX7_who_60 ?_
          have hR : (S7 0 11, S7) = tgt := by
            rw [← hF]
            subst ez1 ez5 eS7
            simp only [f7_who, if_neg c2, if_neg c6, if_neg c8, if_neg c9]
          have hRR : S7 0 11 = tgt.1 := pr1 hR
          have hRS : S7 = tgt.2 := pr2 hR
          exact g_iret X hret hlk hw hRR (congrArg (fun z => (z, V)) hRS) dX7_who_63
        · refine lv_aload_n X.1 X.2.1 dX7_who_52 rfl (lv_at hl 0 rfl) ?_
          refine m_get X K hw 10 (by decide) q846 rfl dX7_who_53 ?_
          refine lv_goto (tgt := 63) X.1 X.2.1 dX7_who_56 (by decide) ?_
          have hR : (S7 0 10, S7) = tgt := by
            rw [← hF]
            subst ez1 ez5 eS7
            simp only [f7_who, if_neg c2, if_neg c6, if_neg c8, if_pos c9]
          have hRR : S7 0 10 = tgt.1 := pr1 hR
          have hRS : S7 = tgt.2 := pr2 hR
          exact g_iret X hret hlk hw hRR (congrArg (fun z => (z, V)) hRS) dX7_who_63
      · refine lv_aload_n X.1 X.2.1 dX7_who_40 rfl (lv_at hl 0 rfl) ?_
        refine lv_iconst (v := (3 : Int32)) X.1 X.2.1 dX7_who_41 (by decide) ?_
        refine m_callVI_s X K hw (k_X7_finds l G S7 V (3 : Int32) (by unfold vp_in; decide)) (g_cwV X hiX7_finds q912 q914 q29 q74 q915 ⟨(Nat.le_of_ble_eq_true rfl), (Nat.le_of_ble_eq_true rfl)⟩) rfl hl.1 rfl (Nat.le_of_ble_eq_true rfl) dX7_who_42 ⟨(Nat.le_of_ble_eq_true rfl), (Nat.le_of_ble_eq_true rfl)⟩ (fun z10 S11 H locs ez10 eS11 hw => ?_)
        refine lv_goto (tgt := 63) X.1 X.2.1 dX7_who_45 (by decide) ?_
        have hR : (z10, S11) = tgt := by
          rw [← hF]
          subst ez1 ez5 eS7 ez10 eS11
          simp only [f7_who, if_neg c2, if_neg c6, if_pos c8]
        have hRR : z10 = tgt.1 := pr1 hR
        have hRS : S11 = tgt.2 := pr2 hR
        exact g_iret X hret hlk hw hRR (congrArg (fun z => (z, V)) hRS) dX7_who_63
    · refine lv_aload_n X.1 X.2.1 dX7_who_22 rfl (lv_at hl 0 rfl) ?_
      refine lv_iconst (v := (0 : Int32)) X.1 X.2.1 dX7_who_23 (by decide) ?_
      refine m_callVI_s X K hw (k_X7_finds l G S V (0 : Int32) (by unfold vp_in; decide)) (g_cwV X hiX7_finds q912 q914 q29 q74 q915 ⟨(Nat.le_of_ble_eq_true rfl), (Nat.le_of_ble_eq_true rfl)⟩) rfl hl.1 rfl (Nat.le_of_ble_eq_true rfl) dX7_who_24 ⟨(Nat.le_of_ble_eq_true rfl), (Nat.le_of_ble_eq_true rfl)⟩ (fun z12 S13 H locs ez12 eS13 hw => ?_)
      have hR : (z12, S13) = tgt := by
        rw [← hF]
        subst ez1 ez5 ez12 eS13
        simp only [f7_who, if_neg c2, if_pos c6]
      have hRR : z12 = tgt.1 := pr1 hR
      have hRS : S13 = tgt.2 := pr2 hR
      exact g_iret X hret hlk hw hRR (congrArg (fun z => (z, V)) hRS) dX7_who_27
set_option maxHeartbeats 4000000 in
set_option maxRecDepth 10000 in
theorem k_X7_fewest (l : Launch) (G : tt_G) (S : tt_St) (V : Int64) (a1 : Int32) (hp0 : mi S) : m_MI l G yX7_fewest (g_code yX7_fewest cX7_fewest 2 (some FieldType.int)) 3 68 [.ref (mm_ad G 0), .int a1] S V ((f7_fewest S a1).1) ((f7_fewest S a1).2) V := by
  generalize hF : f7_fewest S a1 = tgt
  refine g_begin rfl (Nat.le_of_ble_eq_true rfl) _ (fun p e s m below meth c ls X hret hlk hB hl => ?_)
  obtain ⟨hP0, K⟩ := hB
  have hw : m_W G S V s s.heap [] := ⟨hP0, va_S.rf⟩
  have X : CallFix p m c cX7_fewest 2 s ([.ref (mm_ad G 0), .int a1] : List Value).toArray tt_T "TrustTinModel" := X
  have hl : lv_has ls 2 [(0, .ref (mm_ad G 0)), (1, .int a1)] := hl
  refine lv_iload_n X.1 X.2.1 dX7_fewest_0 rfl (lv_at hl 1 rfl) ?_
  refine lv_i2l X.1 X.2.1 dX7_fewest_1 rfl ?_
  refine lv_lconst (v := (0 : Int64)) X.1 X.2.1 dX7_fewest_2 (by decide) ?_
  refine lv_ldc2 (v := (9999 : Int64)) X.1 X.2.1 X.2.2.2.1 (X.2.2.2.2 _ q941) dX7_fewest_3 ?_
  refine m_callSI_p X K hw (k_X7_in l G S V a1.toInt64 (0 : Int64) (9999 : Int64)) (g_cwS X hiX7_in q908 q909 q74 q910 ⟨(Nat.le_of_ble_eq_true rfl), (Nat.le_of_ble_eq_true rfl)⟩) rfl hl.1 rfl (Nat.le_of_ble_eq_true rfl) dX7_fewest_6 ⟨(Nat.le_of_ble_eq_true rfl), (Nat.le_of_ble_eq_true rfl)⟩ (fun z1 H locs ez1 hw => ?_)
  refine lv_if_ne (tgt := 18) X.1 X.2.1 dX7_fewest_9 (by decide) (fun c2 => ?_) (fun c2 => ?_)
  · refine lv_aload_n X.1 X.2.1 dX7_fewest_18 rfl (lv_at hl 0 rfl) ?_
    refine lv_iload_n X.1 X.2.1 dX7_fewest_19 rfl (lv_at hl 1 rfl) ?_
    refine m_callVV_s X K hw (k_X7_findSets l G S V a1 hp0.1.2) (g_cwV X hiX7_findSets q1034 q1036 q45 q74 q1037 ⟨(Nat.le_of_ble_eq_true rfl), (Nat.le_of_ble_eq_true rfl)⟩) rfl hl.1 rfl (Nat.le_of_ble_eq_true rfl) dX7_fewest_20 ⟨(Nat.le_of_ble_eq_true rfl), (Nat.le_of_ble_eq_true rfl)⟩ (fun S3 H locs eS3 hw => ?_)
    refine lv_aload_n X.1 X.2.1 dX7_fewest_23 rfl (lv_at hl 0 rfl) ?_
    refine m_get X K hw 9 (by decide) q845 rfl dX7_fewest_24 ?_
    refine lv_if_ne (tgt := 38) X.1 X.2.1 dX7_fewest_27 (by decide) (fun c4 => ?_) (fun c4 => ?_)
    · refine lv_aload_n X.1 X.2.1 dX7_fewest_38 rfl (lv_at hl 0 rfl) ?_
      refine m_get X K hw 12 (by decide) q848 rfl dX7_fewest_39 ?_
      have hR : (S3 0 12, S3) = tgt := by
        rw [← hF]
        subst ez1 eS3
        simp only [f7_fewest, if_neg c2, if_neg c4]
      have hRR : S3 0 12 = tgt.1 := pr1 hR
      have hRS : S3 = tgt.2 := pr2 hR
      exact g_iret X hret hlk hw hRR (congrArg (fun z => (z, V)) hRS) dX7_fewest_42
    · refine lv_aload_n X.1 X.2.1 dX7_fewest_30 rfl (lv_at hl 0 rfl) ?_
      refine lv_iconst (v := (3 : Int32)) X.1 X.2.1 dX7_fewest_31 (by decide) ?_
      refine m_callVI_s X K hw (k_X7_finds l G S3 V (3 : Int32) (by unfold vp_in; decide)) (g_cwV X hiX7_finds q912 q914 q29 q74 q915 ⟨(Nat.le_of_ble_eq_true rfl), (Nat.le_of_ble_eq_true rfl)⟩) rfl hl.1 rfl (Nat.le_of_ble_eq_true rfl) dX7_fewest_32 ⟨(Nat.le_of_ble_eq_true rfl), (Nat.le_of_ble_eq_true rfl)⟩ (fun z5 S6 H locs ez5 eS6 hw => ?_)
      refine lv_goto (tgt := 42) X.1 X.2.1 dX7_fewest_35 (by decide) ?_
      have hR : (z5, S6) = tgt := by
        rw [← hF]
        subst ez1 eS3 ez5 eS6
        simp only [f7_fewest, if_neg c2, if_pos c4]
      have hRR : z5 = tgt.1 := pr1 hR
      have hRS : S6 = tgt.2 := pr2 hR
      exact g_iret X hret hlk hw hRR (congrArg (fun z => (z, V)) hRS) dX7_fewest_42
  · refine lv_aload_n X.1 X.2.1 dX7_fewest_12 rfl (lv_at hl 0 rfl) ?_
    refine lv_iconst (v := (0 : Int32)) X.1 X.2.1 dX7_fewest_13 (by decide) ?_
    refine m_callVI_s X K hw (k_X7_finds l G S V (0 : Int32) (by unfold vp_in; decide)) (g_cwV X hiX7_finds q912 q914 q29 q74 q915 ⟨(Nat.le_of_ble_eq_true rfl), (Nat.le_of_ble_eq_true rfl)⟩) rfl hl.1 rfl (Nat.le_of_ble_eq_true rfl) dX7_fewest_14 ⟨(Nat.le_of_ble_eq_true rfl), (Nat.le_of_ble_eq_true rfl)⟩ (fun z7 S8 H locs ez7 eS8 hw => ?_)
    have hR : (z7, S8) = tgt := by
      rw [← hF]
      subst ez1 ez7 eS8
      simp only [f7_fewest, if_pos c2]
    have hRR : z7 = tgt.1 := pr1 hR
    have hRS : S8 = tgt.2 := pr2 hR
    exact g_iret X hret hlk hw hRR (congrArg (fun z => (z, V)) hRS) dX7_fewest_17
set_option maxHeartbeats 4000000 in
set_option maxRecDepth 10000 in
theorem k_X7_ahead (l : Launch) (G : tt_G) (S : tt_St) (V : Int64) (a1 : Int32) (a2 : Int32) (hp0 : mi S) : m_MI l G yX7_ahead (g_code yX7_ahead cX7_ahead 6 (some FieldType.int)) 7 155 [.ref (mm_ad G 0), .int a1, .int a2] S V ((f7_ahead S a1 a2).1) ((f7_ahead S a1 a2).2) V := by
  generalize hF : f7_ahead S a1 a2 = tgt
  refine g_begin rfl (Nat.le_of_ble_eq_true rfl) _ (fun p e s m below meth c ls X hret hlk hB hl => ?_)
  obtain ⟨hP0, K⟩ := hB
  have hw : m_W G S V s s.heap [] := ⟨hP0, va_S.rf⟩
  have X : CallFix p m c cX7_ahead 6 s ([.ref (mm_ad G 0), .int a1, .int a2] : List Value).toArray tt_T "TrustTinModel" := X
  have hl : lv_has ls 6 [(0, .ref (mm_ad G 0)), (1, .int a1), (2, .int a2)] := hl
  refine lv_aload_n X.1 X.2.1 dX7_ahead_0 rfl (lv_at hl 0 rfl) ?_
  refine lv_iload_n X.1 X.2.1 dX7_ahead_1 rfl (lv_at hl 1 rfl) ?_
  refine lv_i2l X.1 X.2.1 dX7_ahead_2 rfl ?_
  refine lv_lconst (v := (0 : Int64)) X.1 X.2.1 dX7_ahead_3 (by decide) ?_
  refine lv_ldc2 (v := (100 : Int64)) X.1 X.2.1 X.2.2.2.1 (X.2.2.2.2 _ q1018) dX7_ahead_4 ?_
  refine m_callSI_p X K hw (k_X7_in l G S V a1.toInt64 (0 : Int64) (100 : Int64)) (g_cwS X hiX7_in q908 q909 q74 q910 ⟨(Nat.le_of_ble_eq_true rfl), (Nat.le_of_ble_eq_true rfl)⟩) rfl hl.1 rfl (Nat.le_of_ble_eq_true rfl) dX7_ahead_7 ⟨(Nat.le_of_ble_eq_true rfl), (Nat.le_of_ble_eq_true rfl)⟩ (fun z1 H locs ez1 hw => ?_)
  refine lv_if_eq (tgt := 29) X.1 X.2.1 dX7_ahead_10 (by decide) (fun c2 => ?_) (fun c2 => ?_)
  · refine lv_iconst (v := (0 : Int32)) X.1 X.2.1 dX7_ahead_29 (by decide) ?_
    refine lv_iload_n X.1 X.2.1 dX7_ahead_30 rfl (lv_at hl 1 rfl) ?_
    refine m_callVI_p X K hw (k_X7_why l G S V (0 : Int32) a1) (g_cwV X hiX7_why q1058 q1060 q47 q74 q1061 ⟨(Nat.le_of_ble_eq_true rfl), (Nat.le_of_ble_eq_true rfl)⟩) rfl hl.1 rfl (Nat.le_of_ble_eq_true rfl) dX7_ahead_31 ⟨(Nat.le_of_ble_eq_true rfl), (Nat.le_of_ble_eq_true rfl)⟩ (fun z3 H locs ez3 hw => ?_)
    obtain rfl : z3 = (0 : Int32) := ez3.trans (why_0 _ _)
    refine lv_istore_n (lv' := [(3, .int (0 : Int32)), (0, .ref (mm_ad G 0)), (1, .int a1), (2, .int a2)]) X.1 X.2.1 dX7_ahead_34 rfl hl (by decide) rfl (fun ls hl => ?_)
    refine lv_iload_n X.1 X.2.1 dX7_ahead_35 rfl (lv_at hl 0 rfl) ?_
    refine lv_if_lt (tgt := 45) X.1 X.2.1 dX7_ahead_36 (by decide) (fun c4 => ?_) (fun c4 => ?_)
    · exact absurd c4 (by decide)
    · refine lv_aload_n X.1 X.2.1 dX7_ahead_39 rfl (lv_at hl 1 rfl) ?_
      refine lv_iload_n X.1 X.2.1 dX7_ahead_40 rfl (lv_at hl 0 rfl) ?_
      refine m_callVI_s X K hw (k_X7_finds l G S V (0 : Int32) (by unfold vp_in; decide)) (g_cwV X hiX7_finds q912 q914 q29 q74 q915 ⟨(Nat.le_of_ble_eq_true rfl), (Nat.le_of_ble_eq_true rfl)⟩) rfl hl.1 rfl (Nat.le_of_ble_eq_true rfl) dX7_ahead_41 ⟨(Nat.le_of_ble_eq_true rfl), (Nat.le_of_ble_eq_true rfl)⟩ (fun z5 S6 H locs ez5 eS6 hw => ?_)
      have hR : (z5, S6) = tgt := by
        rw [← hF]
        subst ez1 ez5 eS6
        simp only [f7_ahead, if_pos c2]
      have hRR : z5 = tgt.1 := pr1 hR
      have hRS : S6 = tgt.2 := pr2 hR
      exact g_iret X hret hlk hw hRR (congrArg (fun z => (z, V)) hRS) dX7_ahead_44
  · refine lv_iload_n X.1 X.2.1 dX7_ahead_13 rfl (lv_at hl 2 rfl) ?_
    refine lv_i2l X.1 X.2.1 dX7_ahead_14 rfl ?_
    refine lv_lconst (v := (0 : Int64)) X.1 X.2.1 dX7_ahead_15 (by decide) ?_
    refine lv_ldc2 (v := (5 : Int64)) X.1 X.2.1 X.2.2.2.1 (X.2.2.2.2 _ q1057) dX7_ahead_16 ?_
    refine m_callSI_p X K hw (k_X7_in l G S V a2.toInt64 (0 : Int64) (5 : Int64)) (g_cwS X hiX7_in q908 q909 q74 q910 ⟨(Nat.le_of_ble_eq_true rfl), (Nat.le_of_ble_eq_true rfl)⟩) rfl hl.1 rfl (Nat.le_of_ble_eq_true rfl) dX7_ahead_19 ⟨(Nat.le_of_ble_eq_true rfl), (Nat.le_of_ble_eq_true rfl)⟩ (fun z7 H locs ez7 hw => ?_)
    refine lv_if_eq (tgt := 29) X.1 X.2.1 dX7_ahead_22 (by decide) (fun c8 => ?_) (fun c8 => ?_)
    · refine lv_iconst (v := (0 : Int32)) X.1 X.2.1 dX7_ahead_29 (by decide) ?_
      refine lv_iload_n X.1 X.2.1 dX7_ahead_30 rfl (lv_at hl 1 rfl) ?_
      refine m_callVI_p X K hw (k_X7_why l G S V (0 : Int32) a1) (g_cwV X hiX7_why q1058 q1060 q47 q74 q1061 ⟨(Nat.le_of_ble_eq_true rfl), (Nat.le_of_ble_eq_true rfl)⟩) rfl hl.1 rfl (Nat.le_of_ble_eq_true rfl) dX7_ahead_31 ⟨(Nat.le_of_ble_eq_true rfl), (Nat.le_of_ble_eq_true rfl)⟩ (fun z9 H locs ez9 hw => ?_)
      obtain rfl : z9 = (0 : Int32) := ez9.trans (why_0 _ _)
      refine lv_istore_n (lv' := [(3, .int (0 : Int32)), (0, .ref (mm_ad G 0)), (1, .int a1), (2, .int a2)]) X.1 X.2.1 dX7_ahead_34 rfl hl (by decide) rfl (fun ls hl => ?_)
      refine lv_iload_n X.1 X.2.1 dX7_ahead_35 rfl (lv_at hl 0 rfl) ?_
      refine lv_if_lt (tgt := 45) X.1 X.2.1 dX7_ahead_36 (by decide) (fun c10 => ?_) (fun c10 => ?_)
      · exact absurd c10 (by decide)
      · refine lv_aload_n X.1 X.2.1 dX7_ahead_39 rfl (lv_at hl 1 rfl) ?_
        refine lv_iload_n X.1 X.2.1 dX7_ahead_40 rfl (lv_at hl 0 rfl) ?_
        refine m_callVI_s X K hw (k_X7_finds l G S V (0 : Int32) (by unfold vp_in; decide)) (g_cwV X hiX7_finds q912 q914 q29 q74 q915 ⟨(Nat.le_of_ble_eq_true rfl), (Nat.le_of_ble_eq_true rfl)⟩) rfl hl.1 rfl (Nat.le_of_ble_eq_true rfl) dX7_ahead_41 ⟨(Nat.le_of_ble_eq_true rfl), (Nat.le_of_ble_eq_true rfl)⟩ (fun z11 S12 H locs ez11 eS12 hw => ?_)
        have hR : (z11, S12) = tgt := by
          rw [← hF]
          subst ez1 ez7 ez11 eS12
          simp only [f7_ahead, if_neg c2, if_pos c8]
        have hRR : z11 = tgt.1 := pr1 hR
        have hRS : S12 = tgt.2 := pr2 hR
        exact g_iret X hret hlk hw hRR (congrArg (fun z => (z, V)) hRS) dX7_ahead_44
    · refine lv_iconst (v := (1 : Int32)) X.1 X.2.1 dX7_ahead_25 (by decide) ?_
      refine lv_goto (tgt := 30) X.1 X.2.1 dX7_ahead_26 (by decide) ?_
      refine lv_iload_n X.1 X.2.1 dX7_ahead_30 rfl (lv_at hl 1 rfl) ?_
      refine m_callVI_p X K hw (k_X7_why l G S V (1 : Int32) a1) (g_cwV X hiX7_why q1058 q1060 q47 q74 q1061 ⟨(Nat.le_of_ble_eq_true rfl), (Nat.le_of_ble_eq_true rfl)⟩) rfl hl.1 rfl (Nat.le_of_ble_eq_true rfl) dX7_ahead_31 ⟨(Nat.le_of_ble_eq_true rfl), (Nat.le_of_ble_eq_true rfl)⟩ (fun z13 H locs ez13 hw => ?_)
      refine lv_istore_n (lv' := [(3, .int z13), (0, .ref (mm_ad G 0)), (1, .int a1), (2, .int a2)]) X.1 X.2.1 dX7_ahead_34 rfl hl (by decide) rfl (fun ls hl => ?_)
      refine lv_iload_n X.1 X.2.1 dX7_ahead_35 rfl (lv_at hl 0 rfl) ?_
      refine lv_if_lt (tgt := 45) X.1 X.2.1 dX7_ahead_36 (by decide) (fun c14 => ?_) (fun c14 => ?_)
      · refine lv_aload_n X.1 X.2.1 dX7_ahead_45 rfl (lv_at hl 1 rfl) ?_
        refine m_callVV_s X K hw (k_X7_begins l G S V) (g_cwV X hiX7_begins q1062 q1064 q48 q74 q1065 ⟨(Nat.le_of_ble_eq_true rfl), (Nat.le_of_ble_eq_true rfl)⟩) rfl hl.1 rfl (Nat.le_of_ble_eq_true rfl) dX7_ahead_46 ⟨(Nat.le_of_ble_eq_true rfl), (Nat.le_of_ble_eq_true rfl)⟩ (fun S15 H locs eS15 hw => ?_)
        refine lv_aload_n X.1 X.2.1 dX7_ahead_49 rfl (lv_at hl 1 rfl) ?_
        refine lv_iload_n X.1 X.2.1 dX7_ahead_50 rfl (lv_at hl 2 rfl) ?_
        refine m_callVI_s X K hw (k_X7_goesOn l G S15 V a1 (by rw [show S15 1 0 = S 1 0 from by subst ez1 ez7 ez13 eS15; exact bg_sz S]; exact hp0.1.2)) (g_cwV X hiX7_goesOn q981 q983 q36 q74 q984 ⟨(Nat.le_of_ble_eq_true rfl), (Nat.le_of_ble_eq_true rfl)⟩) rfl hl.1 rfl (Nat.le_of_ble_eq_true rfl) dX7_ahead_51 ⟨(Nat.le_of_ble_eq_true rfl), (Nat.le_of_ble_eq_true rfl)⟩ (fun z16 S17 H locs ez16 eS17 hw => ?_)
        refine lv_istore (lv' := [(4, .int z16), (3, .int z13), (0, .ref (mm_ad G 0)), (1, .int a1), (2, .int a2)]) X.1 X.2.1 dX7_ahead_54 hl (by decide) rfl (fun ls hl => ?_)
        refine lv_iload_n X.1 X.2.1 dX7_ahead_56 rfl (lv_at hl 4 rfl) ?_
        refine lv_if_ne (tgt := 69) X.1 X.2.1 dX7_ahead_57 (by decide) (fun c18 => ?_) (fun c18 => ?_)
        · refine lv_iload_n X.1 X.2.1 dX7_ahead_69 rfl (lv_at hl 4 rfl) ?_
          refine lv_iconst (v := (1 : Int32)) X.1 X.2.1 dX7_ahead_70 (by decide) ?_
          refine lv_icmp_ne (tgt := 81) X.1 X.2.1 dX7_ahead_71 (by decide) (fun c19 => ?_) (fun c19 => ?_)
          · refine lv_iload_n X.1 X.2.1 dX7_ahead_81 rfl (lv_at hl 4 rfl) ?_
            refine lv_iconst (v := (2 : Int32)) X.1 X.2.1 dX7_ahead_82 (by decide) ?_
            refine lv_icmp_ne (tgt := 94) X.1 X.2.1 dX7_ahead_83 (by decide) (fun c20 => ?_) (fun c20 => ?_)
            · refine lv_iload_n X.1 X.2.1 dX7_ahead_94 rfl (lv_at hl 4 rfl) ?_
              refine lv_iconst (v := (3 : Int32)) X.1 X.2.1 dX7_ahead_95 (by decide) ?_
              refine lv_icmp_ne (tgt := 117) X.1 X.2.1 dX7_ahead_96 (by decide) (fun c21 => ?_) (fun c21 => ?_)
              · refine lv_iload_n X.1 X.2.1 dX7_ahead_117 rfl (lv_at hl 4 rfl) ?_
                refine lv_iconst (v := (4 : Int32)) X.1 X.2.1 dX7_ahead_118 (by decide) ?_
                refine lv_icmp_ne (tgt := 127) X.1 X.2.1 dX7_ahead_119 (by decide) (fun c22 => ?_) (fun c22 => ?_)
                · refine lv_aload_n X.1 X.2.1 dX7_ahead_127 rfl (lv_at hl 2 rfl) ?_
                  refine m_get X K hw 0 (by decide) q836 rfl dX7_ahead_128 ?_
                  refine lv_bipush (v := (6 : Int32)) X.1 X.2.1 dX7_ahead_131 (by decide) ?_
                  have hi23 : vp_in (6 : Int32) 132 := by unfold vp_in; decide
                  refine g_ialdL (j := 6) X K hw (by decide) mm_e1 hi23 rfl dX7_ahead_133 ?_
                  refine lv_topi (fun x24 ex24 => ?_)
                  refine lv_istore (lv' := [(5, .int x24), (4, .int z16), (3, .int z13), (0, .ref (mm_ad G 0)), (1, .int a1), (2, .int a2)]) X.1 X.2.1 dX7_ahead_134 hl (by decide) rfl (fun ls hl => ?_)
                  refine lv_aload_n X.1 X.2.1 dX7_ahead_136 rfl (lv_at hl 3 rfl) ?_
                  refine m_callVV_s X K hw (k_X7_ends l G S17 V) (g_cwV X hiX7_ends q1069 q1071 q49 q74 q1072 ⟨(Nat.le_of_ble_eq_true rfl), (Nat.le_of_ble_eq_true rfl)⟩) rfl hl.1 rfl (Nat.le_of_ble_eq_true rfl) dX7_ahead_137 ⟨(Nat.le_of_ble_eq_true rfl), (Nat.le_of_ble_eq_true rfl)⟩ (fun S25 H locs eS25 hw => ?_)
                  refine lv_iload X.1 X.2.1 dX7_ahead_140 (lv_at hl 0 rfl) ?_
                  have hR : (x24, S25) = tgt := by
                    rw [← hF]
                    subst ez1 ez7 ez13 eS15 ez16 eS17 ex24 eS25
                    simp only [f7_ahead, if_neg c2, if_neg c8, if_pos c14, if_neg c18, if_neg c19, if_neg c20, if_neg c21, if_neg c22]
                  have hRR : x24 = tgt.1 := pr1 hR
                  have hRS : S25 = tgt.2 := pr2 hR
                  exact g_iret X hret hlk hw hRR (congrArg (fun z => (z, V)) hRS) dX7_ahead_142
                · refine lv_iload X.1 X.2.1 dX7_ahead_122 (lv_at hl 0 rfl) ?_
                  refine lv_goto (tgt := 134) X.1 X.2.1 dX7_ahead_124 (by decide) ?_
                  refine lv_istore (lv' := [(5, .int z16), (4, .int z16), (3, .int z13), (0, .ref (mm_ad G 0)), (1, .int a1), (2, .int a2)]) X.1 X.2.1 dX7_ahead_134 hl (by decide) rfl (fun ls hl => ?_)
                  refine lv_aload_n X.1 X.2.1 dX7_ahead_136 rfl (lv_at hl 3 rfl) ?_
                  refine m_callVV_s X K hw (k_X7_ends l G S17 V) (g_cwV X hiX7_ends q1069 q1071 q49 q74 q1072 ⟨(Nat.le_of_ble_eq_true rfl), (Nat.le_of_ble_eq_true rfl)⟩) rfl hl.1 rfl (Nat.le_of_ble_eq_true rfl) dX7_ahead_137 ⟨(Nat.le_of_ble_eq_true rfl), (Nat.le_of_ble_eq_true rfl)⟩ (fun S26 H locs eS26 hw => ?_)
                  refine lv_iload X.1 X.2.1 dX7_ahead_140 (lv_at hl 0 rfl) ?_
                  have hR : (z16, S26) = tgt := by
                    rw [← hF]
                    subst ez1 ez7 ez13 eS15 ez16 eS17 eS26
                    simp only [f7_ahead, if_neg c2, if_neg c8, if_pos c14, if_neg c18, if_neg c19, if_neg c20, if_neg c21, if_pos c22]
                  have hRR : z16 = tgt.1 := pr1 hR
                  have hRS : S26 = tgt.2 := pr2 hR
                  exact g_iret X hret hlk hw hRR (congrArg (fun z => (z, V)) hRS) dX7_ahead_142
              · refine lv_aload_n X.1 X.2.1 dX7_ahead_99 rfl (lv_at hl 2 rfl) ?_
                refine m_get X K hw 0 (by decide) q836 rfl dX7_ahead_100 ?_
                refine lv_bipush (v := (8 : Int32)) X.1 X.2.1 dX7_ahead_103 (by decide) ?_
                have hi27 : vp_in (8 : Int32) 132 := by unfold vp_in; decide
                refine g_ialdL (j := 8) X K hw (by decide) mm_e1 hi27 rfl dX7_ahead_105 ?_
                refine lv_aload_n X.1 X.2.1 dX7_ahead_106 rfl (lv_at hl 2 rfl) ?_
                refine m_get X K hw 1 (by decide) q837 rfl dX7_ahead_107 ?_
                refine lv_bipush (v := (8 : Int32)) X.1 X.2.1 dX7_ahead_110 (by decide) ?_
                have hi28 : vp_in (8 : Int32) 132 := by unfold vp_in; decide
                refine g_ialdL (j := 8) X K hw (by decide) mm_e2 hi28 rfl dX7_ahead_112 ?_
                refine lv_isub X.1 X.2.1 dX7_ahead_113 ?_
                refine lv_goto (tgt := 134) X.1 X.2.1 dX7_ahead_114 (by decide) ?_
                refine lv_topi (fun x29 ex29 => ?_)
                refine lv_istore (lv' := [(5, .int x29), (4, .int z16), (3, .int z13), (0, .ref (mm_ad G 0)), (1, .int a1), (2, .int a2)]) X.1 X.2.1 dX7_ahead_134 hl (by decide) rfl (fun ls hl => ?_)
                refine lv_aload_n X.1 X.2.1 dX7_ahead_136 rfl (lv_at hl 3 rfl) ?_
                refine m_callVV_s X K hw (k_X7_ends l G S17 V) (g_cwV X hiX7_ends q1069 q1071 q49 q74 q1072 ⟨(Nat.le_of_ble_eq_true rfl), (Nat.le_of_ble_eq_true rfl)⟩) rfl hl.1 rfl (Nat.le_of_ble_eq_true rfl) dX7_ahead_137 ⟨(Nat.le_of_ble_eq_true rfl), (Nat.le_of_ble_eq_true rfl)⟩ (fun S30 H locs eS30 hw => ?_)
                refine lv_iload X.1 X.2.1 dX7_ahead_140 (lv_at hl 0 rfl) ?_
                have hR : (x29, S30) = tgt := by
                  rw [← hF]
                  subst ez1 ez7 ez13 eS15 ez16 eS17 ex29 eS30
                  simp only [f7_ahead, if_neg c2, if_neg c8, if_pos c14, if_neg c18, if_neg c19, if_neg c20, if_pos c21]
                have hRR : x29 = tgt.1 := pr1 hR
                have hRS : S30 = tgt.2 := pr2 hR
                exact g_iret X hret hlk hw hRR (congrArg (fun z => (z, V)) hRS) dX7_ahead_142
            · refine lv_aload_n X.1 X.2.1 dX7_ahead_86 rfl (lv_at hl 2 rfl) ?_
              refine lv_iconst (v := (4 : Int32)) X.1 X.2.1 dX7_ahead_87 (by decide) ?_
              refine m_callVI_p X K hw (k_X7_sumOf l G S17 V (4 : Int32) (by rw [show S17 1 0 = S 1 0 from by subst ez1 ez7 ez13 eS15 ez16 eS17; exact on_sz hp0.1.2]; exact hp0.1.2) (by unfold vp_in; decide)) (g_cwV X hiX7_sumOf q968 q970 q34 q74 q971 ⟨(Nat.le_of_ble_eq_true rfl), (Nat.le_of_ble_eq_true rfl)⟩) rfl hl.1 rfl (Nat.le_of_ble_eq_true rfl) dX7_ahead_88 ⟨(Nat.le_of_ble_eq_true rfl), (Nat.le_of_ble_eq_true rfl)⟩ (fun z31 H locs ez31 hw => ?_)
              refine lv_goto (tgt := 134) X.1 X.2.1 dX7_ahead_91 (by decide) ?_
              refine lv_istore (lv' := [(5, .int z31), (4, .int z16), (3, .int z13), (0, .ref (mm_ad G 0)), (1, .int a1), (2, .int a2)]) X.1 X.2.1 dX7_ahead_134 hl (by decide) rfl (fun ls hl => ?_)
              refine lv_aload_n X.1 X.2.1 dX7_ahead_136 rfl (lv_at hl 3 rfl) ?_
              refine m_callVV_s X K hw (k_X7_ends l G S17 V) (g_cwV X hiX7_ends q1069 q1071 q49 q74 q1072 ⟨(Nat.le_of_ble_eq_true rfl), (Nat.le_of_ble_eq_true rfl)⟩) rfl hl.1 rfl (Nat.le_of_ble_eq_true rfl) dX7_ahead_137 ⟨(Nat.le_of_ble_eq_true rfl), (Nat.le_of_ble_eq_true rfl)⟩ (fun S32 H locs eS32 hw => ?_)
              refine lv_iload X.1 X.2.1 dX7_ahead_140 (lv_at hl 0 rfl) ?_
              have hR : (z31, S32) = tgt := by
                rw [← hF]
                subst ez1 ez7 ez13 eS15 ez16 eS17 ez31 eS32
                simp only [f7_ahead, if_neg c2, if_neg c8, if_pos c14, if_neg c18, if_neg c19, if_pos c20]
              have hRR : z31 = tgt.1 := pr1 hR
              have hRS : S32 = tgt.2 := pr2 hR
              exact g_iret X hret hlk hw hRR (congrArg (fun z => (z, V)) hRS) dX7_ahead_142
          · refine lv_aload_n X.1 X.2.1 dX7_ahead_74 rfl (lv_at hl 2 rfl) ?_
            refine m_get X K hw 8 (by decide) q844 rfl dX7_ahead_75 ?_
            refine lv_goto (tgt := 134) X.1 X.2.1 dX7_ahead_78 (by decide) ?_
            refine lv_topi (fun x33 ex33 => ?_)
            refine lv_istore (lv' := [(5, .int x33), (4, .int z16), (3, .int z13), (0, .ref (mm_ad G 0)), (1, .int a1), (2, .int a2)]) X.1 X.2.1 dX7_ahead_134 hl (by decide) rfl (fun ls hl => ?_)
            refine lv_aload_n X.1 X.2.1 dX7_ahead_136 rfl (lv_at hl 3 rfl) ?_
            refine m_callVV_s X K hw (k_X7_ends l G S17 V) (g_cwV X hiX7_ends q1069 q1071 q49 q74 q1072 ⟨(Nat.le_of_ble_eq_true rfl), (Nat.le_of_ble_eq_true rfl)⟩) rfl hl.1 rfl (Nat.le_of_ble_eq_true rfl) dX7_ahead_137 ⟨(Nat.le_of_ble_eq_true rfl), (Nat.le_of_ble_eq_true rfl)⟩ (fun S34 H locs eS34 hw => ?_)
            refine lv_iload X.1 X.2.1 dX7_ahead_140 (lv_at hl 0 rfl) ?_
            have hR : (x33, S34) = tgt := by
              rw [← hF]
              subst ez1 ez7 ez13 eS15 ez16 eS17 ex33 eS34
              simp only [f7_ahead, if_neg c2, if_neg c8, if_pos c14, if_neg c18, if_pos c19]
            have hRR : x33 = tgt.1 := pr1 hR
            have hRS : S34 = tgt.2 := pr2 hR
            exact g_iret X hret hlk hw hRR (congrArg (fun z => (z, V)) hRS) dX7_ahead_142
        · refine lv_aload_n X.1 X.2.1 dX7_ahead_60 rfl (lv_at hl 2 rfl) ?_
          refine m_get X K hw 0 (by decide) q836 rfl dX7_ahead_61 ?_
          refine lv_iconst (v := (4 : Int32)) X.1 X.2.1 dX7_ahead_64 (by decide) ?_
          have hi35 : vp_in (4 : Int32) 132 := by unfold vp_in; decide
          refine g_ialdL (j := 4) X K hw (by decide) mm_e1 hi35 rfl dX7_ahead_65 ?_
          refine lv_goto (tgt := 134) X.1 X.2.1 dX7_ahead_66 (by decide) ?_
          refine lv_topi (fun x36 ex36 => ?_)
          refine lv_istore (lv' := [(5, .int x36), (4, .int z16), (3, .int z13), (0, .ref (mm_ad G 0)), (1, .int a1), (2, .int a2)]) X.1 X.2.1 dX7_ahead_134 hl (by decide) rfl (fun ls hl => ?_)
          refine lv_aload_n X.1 X.2.1 dX7_ahead_136 rfl (lv_at hl 3 rfl) ?_
          refine m_callVV_s X K hw (k_X7_ends l G S17 V) (g_cwV X hiX7_ends q1069 q1071 q49 q74 q1072 ⟨(Nat.le_of_ble_eq_true rfl), (Nat.le_of_ble_eq_true rfl)⟩) rfl hl.1 rfl (Nat.le_of_ble_eq_true rfl) dX7_ahead_137 ⟨(Nat.le_of_ble_eq_true rfl), (Nat.le_of_ble_eq_true rfl)⟩ (fun S37 H locs eS37 hw => ?_)
          refine lv_iload X.1 X.2.1 dX7_ahead_140 (lv_at hl 0 rfl) ?_
          have hR : (x36, S37) = tgt := by
            rw [← hF]
            subst ez1 ez7 ez13 eS15 ez16 eS17 ex36 eS37
            simp only [f7_ahead, if_neg c2, if_neg c8, if_pos c14, if_pos c18]
          have hRR : x36 = tgt.1 := pr1 hR
          have hRS : S37 = tgt.2 := pr2 hR
          exact g_iret X hret hlk hw hRR (congrArg (fun z => (z, V)) hRS) dX7_ahead_142
      · refine lv_aload_n X.1 X.2.1 dX7_ahead_39 rfl (lv_at hl 1 rfl) ?_
        refine lv_iload_n X.1 X.2.1 dX7_ahead_40 rfl (lv_at hl 0 rfl) ?_
        refine m_callVI_s X K hw (k_X7_finds l G S V z13 (why_in ez13 c14)) (g_cwV X hiX7_finds q912 q914 q29 q74 q915 ⟨(Nat.le_of_ble_eq_true rfl), (Nat.le_of_ble_eq_true rfl)⟩) rfl hl.1 rfl (Nat.le_of_ble_eq_true rfl) dX7_ahead_41 ⟨(Nat.le_of_ble_eq_true rfl), (Nat.le_of_ble_eq_true rfl)⟩ (fun z38 S39 H locs ez38 eS39 hw => ?_)
        have hR : (z38, S39) = tgt := by
          rw [← hF]
          subst ez1 ez7 ez13 ez38 eS39
          simp only [f7_ahead, if_neg c2, if_neg c8, if_neg c14]
        have hRR : z38 = tgt.1 := pr1 hR
        have hRS : S39 = tgt.2 := pr2 hR
        exact g_iret X hret hlk hw hRR (congrArg (fun z => (z, V)) hRS) dX7_ahead_44
set_option maxHeartbeats 4000000 in
set_option maxRecDepth 10000 in
theorem k_X7_comesWith (l : Launch) (G : tt_G) (S : tt_St) (V : Int64) (a1 : Int32) (a2 : Int32) (a3 : Int32) (hp0 : (S 1 0).toInt ≤ 10) (hp1 : vp_in a1 132) (hp2 : a1.toNatClampNeg ≠ 0) : m_MI l G yX7_comesWith (g_code yX7_comesWith cX7_comesWith 5 (some FieldType.int)) 7 155 [.ref (mm_ad G 0), .int a1, .int a2, .int a3] S V ((f7_comesWith S a1 a2 a3).1) ((f7_comesWith S a1 a2 a3).2) V := by
  generalize hF : f7_comesWith S a1 a2 a3 = tgt
  refine g_begin rfl (Nat.le_of_ble_eq_true rfl) _ (fun p e s m below meth c ls X hret hlk hB hl => ?_)
  obtain ⟨hP0, K⟩ := hB
  have hw : m_W G S V s s.heap [] := ⟨hP0, va_S.rf⟩
  have X : CallFix p m c cX7_comesWith 5 s ([.ref (mm_ad G 0), .int a1, .int a2, .int a3] : List Value).toArray tt_T "TrustTinModel" := X
  have hl : lv_has ls 5 [(0, .ref (mm_ad G 0)), (1, .int a1), (2, .int a2), (3, .int a3)] := hl
  refine lv_aload_n X.1 X.2.1 dX7_comesWith_0 rfl (lv_at hl 0 rfl) ?_
  refine m_callVV_s X K hw (k_X7_begins l G S V) (g_cwV X hiX7_begins q1062 q1064 q48 q74 q1065 ⟨(Nat.le_of_ble_eq_true rfl), (Nat.le_of_ble_eq_true rfl)⟩) rfl hl.1 rfl (Nat.le_of_ble_eq_true rfl) dX7_comesWith_1 ⟨(Nat.le_of_ble_eq_true rfl), (Nat.le_of_ble_eq_true rfl)⟩ (fun S1 H locs eS1 hw => ?_)
  refine lv_aload_n X.1 X.2.1 dX7_comesWith_4 rfl (lv_at hl 0 rfl) ?_
  refine m_get X K hw 0 (by decide) q836 rfl dX7_comesWith_5 ?_
  refine lv_iload_n X.1 X.2.1 dX7_comesWith_8 rfl (lv_at hl 1 rfl) ?_
  refine lv_iload_n X.1 X.2.1 dX7_comesWith_9 rfl (lv_at hl 2 rfl) ?_
  have hi2 : vp_in a1 132 := hp1
  refine m_iast X K hw (by decide) (by decide) (fun _ => mm_e1) hi2 dX7_comesWith_10 (fun S3 H locs eS3 hw => ?_)
  refine lv_aload_n X.1 X.2.1 dX7_comesWith_11 rfl (lv_at hl 0 rfl) ?_
  refine lv_iload_n X.1 X.2.1 dX7_comesWith_12 rfl (lv_at hl 3 rfl) ?_
  refine m_callVI_s X K hw (k_X7_goesOn l G S3 V a3 (by subst eS1 eS3; exact be_up (x := 0) hp0 hp2)) (g_cwV X hiX7_goesOn q981 q983 q36 q74 q984 ⟨(Nat.le_of_ble_eq_true rfl), (Nat.le_of_ble_eq_true rfl)⟩) rfl hl.1 rfl (Nat.le_of_ble_eq_true rfl) dX7_comesWith_13 ⟨(Nat.le_of_ble_eq_true rfl), (Nat.le_of_ble_eq_true rfl)⟩ (fun z4 S5 H locs ez4 eS5 hw => ?_)
  refine lv_istore (lv' := [(4, .int z4), (0, .ref (mm_ad G 0)), (1, .int a1), (2, .int a2), (3, .int a3)]) X.1 X.2.1 dX7_comesWith_16 hl (by decide) rfl (fun ls hl => ?_)
  refine lv_aload_n X.1 X.2.1 dX7_comesWith_18 rfl (lv_at hl 1 rfl) ?_
  refine m_callVV_s X K hw (k_X7_ends l G S5 V) (g_cwV X hiX7_ends q1069 q1071 q49 q74 q1072 ⟨(Nat.le_of_ble_eq_true rfl), (Nat.le_of_ble_eq_true rfl)⟩) rfl hl.1 rfl (Nat.le_of_ble_eq_true rfl) dX7_comesWith_19 ⟨(Nat.le_of_ble_eq_true rfl), (Nat.le_of_ble_eq_true rfl)⟩ (fun S6 H locs eS6 hw => ?_)
  refine lv_iload X.1 X.2.1 dX7_comesWith_22 (lv_at hl 0 rfl) ?_
  have hR : (z4, S6) = tgt := by
    rw [← hF]
    subst eS1 eS3 ez4 eS5 eS6
    simp only [f7_comesWith]
  have hRR : z4 = tgt.1 := pr1 hR
  have hRS : S6 = tgt.2 := pr2 hR
  exact g_iret X hret hlk hw hRR (congrArg (fun z => (z, V)) hRS) dX7_comesWith_24
set_option maxHeartbeats 4000000 in
set_option maxRecDepth 10000 in
theorem k_X7_bestOf (l : Launch) (G : tt_G) (S : tt_St) (V : Int64) (a1 : Int32) (a2 : Int32) (a3 : Int32) (hp0 : (S 1 0).toInt ≤ 10) (hp1 : vp_in a1 132) (hp2 : a1.toNatClampNeg ≠ 0) (hp3 : a2.toInt ≤ 1000) : m_MI l G yX7_bestOf (g_code yX7_bestOf cX7_bestOf 8 (some FieldType.int)) 8 179 [.ref (mm_ad G 0), .int a1, .int a2, .int a3] S V ((f7_bestOf S a1 a2 a3).1) ((f7_bestOf S a1 a2 a3).2) V := by
  generalize hF : f7_bestOf S a1 a2 a3 = tgt
  refine g_begin rfl (Nat.le_of_ble_eq_true rfl) _ (fun p e s m below meth c ls X hret hlk hB hl => ?_)
  obtain ⟨hP0, K⟩ := hB
  have hw : m_W G S V s s.heap [] := ⟨hP0, va_S.rf⟩
  have X : CallFix p m c cX7_bestOf 8 s ([.ref (mm_ad G 0), .int a1, .int a2, .int a3] : List Value).toArray tt_T "TrustTinModel" := X
  have hl : lv_has ls 8 [(0, .ref (mm_ad G 0)), (1, .int a1), (2, .int a2), (3, .int a3)] := hl
  refine lv_iconst (v := (-1 : Int32)) X.1 X.2.1 dX7_bestOf_0 (by decide) ?_
  refine lv_istore (lv' := [(4, .int (-1 : Int32)), (0, .ref (mm_ad G 0)), (1, .int a1), (2, .int a2), (3, .int a3)]) X.1 X.2.1 dX7_bestOf_1 hl (by decide) rfl (fun ls hl => ?_)
  refine lv_iconst (v := (0 : Int32)) X.1 X.2.1 dX7_bestOf_3 (by decide) ?_
  refine lv_istore (lv' := [(5, .int (0 : Int32)), (4, .int (-1 : Int32)), (0, .ref (mm_ad G 0)), (1, .int a1), (2, .int a2), (3, .int a3)]) X.1 X.2.1 dX7_bestOf_4 hl (by decide) rfl (fun ls hl => ?_)
  refine lv_iconst (v := (0 : Int32)) X.1 X.2.1 dX7_bestOf_6 (by decide) ?_
  refine lv_istore (lv' := [(6, .int (0 : Int32)), (5, .int (0 : Int32)), (4, .int (-1 : Int32)), (0, .ref (mm_ad G 0)), (1, .int a1), (2, .int a2), (3, .int a3)]) X.1 X.2.1 dX7_bestOf_7 hl (by decide) rfl (fun ls hl => ?_)
  have j9 : ∀ (n : Nat) (S1 : tt_St) (y4_9 : Int32) (y5_9 : Int32) (y6_9 : Int32) (H : Heap) (locs : List Loc) (ls : Array Slot), ((¬ y6_9 < 0) ∧ (S1 1 0).toInt ≤ 10) → lp_nu a2 y6_9 < n → f7_bestOf_L9 a1 a2 a3 n S1 y4_9 y5_9 y6_9 = tgt → m_W G S1 V s H locs → lv_has ls 8 [(0, .ref (mm_ad G 0)), (1, .int a1), (2, .int a2), (3, .int a3), (4, .int y4_9), (5, .int y5_9), (6, .int y6_9)] → W p l e (g_rm 8 179) s m ([.ref (mm_ad G 0), .int a1, .int a2, .int a3] : List Value).toArray below meth c H locs 0 0 (MQ below (va_Qi (fun r T => r = tgt.1 ∧ T = (tgt.2, V)) (g_Post G 10 (mm_ad G) (mm_cell G)) (g_in 10 (mm_ad G))) ([.ref (mm_ad G 0), .int a1, .int a2, .int a3] : List Value).toArray s 0 0 (g_in 10 (mm_ad G))) (F0 m 9 ls []) := by
    intro n
    induction n with
    | zero => intro S1 y4_9 y5_9 y6_9 H locs ls hI hm; exact absurd hm (Nat.not_lt_zero _)
    | succ n ih =>
      intro S1 y4_9 y5_9 y6_9 H locs ls hI hm hF hw hl
      refine lv_iload X.1 X.2.1 dX7_bestOf_9 (lv_at hl 6 rfl) ?_
      refine lv_iload_n X.1 X.2.1 dX7_bestOf_11 rfl (lv_at hl 2 rfl) ?_
      refine lv_icmp_gt (tgt := 51) X.1 X.2.1 dX7_bestOf_12 (by decide) (fun c2 => ?_) (fun c2 => ?_)
      · refine lv_iload X.1 X.2.1 dX7_bestOf_51 (lv_at hl 4 rfl) ?_
        have hR : (y4_9, S1) = tgt := by
          rw [← hF]
          simp only [f7_bestOf_L9, if_pos c2]
        have hRR : y4_9 = tgt.1 := pr1 hR
        have hRS : S1 = tgt.2 := pr2 hR
        exact g_iret X hret hlk hw hRR (congrArg (fun z => (z, V)) hRS) dX7_bestOf_53
      · refine lv_aload_n X.1 X.2.1 dX7_bestOf_15 rfl (lv_at hl 0 rfl) ?_
        refine lv_iload_n X.1 X.2.1 dX7_bestOf_16 rfl (lv_at hl 1 rfl) ?_
        refine lv_iload X.1 X.2.1 dX7_bestOf_17 (lv_at hl 6 rfl) ?_
        refine lv_iload_n X.1 X.2.1 dX7_bestOf_19 rfl (lv_at hl 3 rfl) ?_
        refine m_callVI_s X K hw (k_X7_comesWith l G S1 V a1 y6_9 a3 (hI.2) hp1 hp2) (g_cwV X hiX7_comesWith q1095 q1097 q52 q74 q1098 ⟨(Nat.le_of_ble_eq_true rfl), (Nat.le_of_ble_eq_true rfl)⟩) rfl hl.1 rfl (Nat.le_of_ble_eq_true rfl) dX7_bestOf_20 ⟨(Nat.le_of_ble_eq_true rfl), (Nat.le_of_ble_eq_true rfl)⟩ (fun z3 S4 H locs ez3 eS4 hw => ?_)
        refine lv_istore (lv' := [(7, .int z3), (0, .ref (mm_ad G 0)), (1, .int a1), (2, .int a2), (3, .int a3), (4, .int y4_9), (5, .int y5_9), (6, .int y6_9)]) X.1 X.2.1 dX7_bestOf_23 hl (by decide) rfl (fun ls hl => ?_)
        refine lv_iload X.1 X.2.1 dX7_bestOf_25 (lv_at hl 5 rfl) ?_
        refine lv_if_lt (tgt := 37) X.1 X.2.1 dX7_bestOf_27 (by decide) (fun c5 => ?_) (fun c5 => ?_)
        · refine lv_iload X.1 X.2.1 dX7_bestOf_37 (lv_at hl 7 rfl) ?_
          refine lv_istore (lv' := [(4, .int y6_9), (7, .int z3), (0, .ref (mm_ad G 0)), (1, .int a1), (2, .int a2), (3, .int a3), (5, .int y5_9), (6, .int y6_9)]) X.1 X.2.1 dX7_bestOf_39 hl (by decide) rfl (fun ls hl => ?_)
          refine lv_iload X.1 X.2.1 dX7_bestOf_41 (lv_at hl 1 rfl) ?_
          refine lv_istore (lv' := [(5, .int z3), (4, .int y6_9), (7, .int z3), (0, .ref (mm_ad G 0)), (1, .int a1), (2, .int a2), (3, .int a3), (6, .int y6_9)]) X.1 X.2.1 dX7_bestOf_43 hl (by decide) rfl (fun ls hl => ?_)
          obtain ⟨x6, ex6⟩ : ∃ y : Int32, y = y6_9 + (1 : Int32) := ⟨_, rfl⟩
          refine lv_iinc (v := x6) (lv' := [(6, .int x6), (5, .int z3), (4, .int y6_9), (7, .int z3), (0, .ref (mm_ad G 0)), (1, .int a1), (2, .int a2), (3, .int a3)]) X.1 X.2.1 dX7_bestOf_45 hl (k := 7) rfl (by rw [ex6]; rfl) (by decide) rfl (fun ls hl => ?_)
          refine lv_goto (tgt := 9) X.1 X.2.1 dX7_bestOf_48 (by decide) ?_
          have hF2 : f7_bestOf_L9 a1 a2 a3 n S4 y6_9 z3 x6 = tgt := by
            rw [← hF]
            subst ez3 eS4 ex6
            simp only [f7_bestOf_L9, if_neg c2, if_pos c5]
          exact ih S4 y6_9 z3 x6 _ _ ls (⟨by rw [ex6]; exact lp_nnn hp3 hI.1 c2, by rw [show S4 1 0 = S1 1 0 from by subst ez3 eS4 ex6; exact cw_sz hI.2 hp2]; exact hI.2⟩) (by rw [ex6]; exact lp_ndec hp3 c2 hm) hF2 hw (lv_sub hl [4, 5, 6, 7, 2, 1, 0] rfl)
        · refine lv_iload X.1 X.2.1 dX7_bestOf_30 (lv_at hl 0 rfl) ?_
          refine lv_iload X.1 X.2.1 dX7_bestOf_32 (lv_at hl 6 rfl) ?_
          refine lv_icmp_le (tgt := 45) X.1 X.2.1 dX7_bestOf_34 (by decide) (fun c7 => ?_) (fun c7 => ?_)
          · obtain ⟨x8, ex8⟩ : ∃ y : Int32, y = y6_9 + (1 : Int32) := ⟨_, rfl⟩
            refine lv_iinc (v := x8) (lv' := [(6, .int x8), (7, .int z3), (0, .ref (mm_ad G 0)), (1, .int a1), (2, .int a2), (3, .int a3), (4, .int y4_9), (5, .int y5_9)]) X.1 X.2.1 dX7_bestOf_45 hl (k := 7) rfl (by rw [ex8]; rfl) (by decide) rfl (fun ls hl => ?_)
            refine lv_goto (tgt := 9) X.1 X.2.1 dX7_bestOf_48 (by decide) ?_
            have hF2 : f7_bestOf_L9 a1 a2 a3 n S4 y4_9 y5_9 x8 = tgt := by
              rw [← hF]
              subst ez3 eS4 ex8
              simp only [f7_bestOf_L9, if_neg c2, if_neg c5, if_pos c7]
            exact ih S4 y4_9 y5_9 x8 _ _ ls (⟨by rw [ex8]; exact lp_nnn hp3 hI.1 c2, by rw [show S4 1 0 = S1 1 0 from by subst ez3 eS4 ex8; exact cw_sz hI.2 hp2]; exact hI.2⟩) (by rw [ex8]; exact lp_ndec hp3 c2 hm) hF2 hw (lv_sub hl [2, 3, 4, 5, 6, 7, 0] rfl)
          · refine lv_iload X.1 X.2.1 dX7_bestOf_37 (lv_at hl 7 rfl) ?_
            refine lv_istore (lv' := [(4, .int y6_9), (7, .int z3), (0, .ref (mm_ad G 0)), (1, .int a1), (2, .int a2), (3, .int a3), (5, .int y5_9), (6, .int y6_9)]) X.1 X.2.1 dX7_bestOf_39 hl (by decide) rfl (fun ls hl => ?_)
            refine lv_iload X.1 X.2.1 dX7_bestOf_41 (lv_at hl 1 rfl) ?_
            refine lv_istore (lv' := [(5, .int z3), (4, .int y6_9), (7, .int z3), (0, .ref (mm_ad G 0)), (1, .int a1), (2, .int a2), (3, .int a3), (6, .int y6_9)]) X.1 X.2.1 dX7_bestOf_43 hl (by decide) rfl (fun ls hl => ?_)
            obtain ⟨x9, ex9⟩ : ∃ y : Int32, y = y6_9 + (1 : Int32) := ⟨_, rfl⟩
            refine lv_iinc (v := x9) (lv' := [(6, .int x9), (5, .int z3), (4, .int y6_9), (7, .int z3), (0, .ref (mm_ad G 0)), (1, .int a1), (2, .int a2), (3, .int a3)]) X.1 X.2.1 dX7_bestOf_45 hl (k := 7) rfl (by rw [ex9]; rfl) (by decide) rfl (fun ls hl => ?_)
            refine lv_goto (tgt := 9) X.1 X.2.1 dX7_bestOf_48 (by decide) ?_
            have hF2 : f7_bestOf_L9 a1 a2 a3 n S4 y6_9 z3 x9 = tgt := by
              rw [← hF]
              subst ez3 eS4 ex9
              simp only [f7_bestOf_L9, if_neg c2, if_neg c5, if_neg c7]
            exact ih S4 y6_9 z3 x9 _ _ ls (⟨by rw [ex9]; exact lp_nnn hp3 hI.1 c2, by rw [show S4 1 0 = S1 1 0 from by subst ez3 eS4 ex9; exact cw_sz hI.2 hp2]; exact hI.2⟩) (by rw [ex9]; exact lp_ndec hp3 c2 hm) hF2 hw (lv_sub hl [4, 5, 6, 7, 2, 1, 0] rfl)
  have hF2 : f7_bestOf_L9 a1 a2 a3 (lp_nu a2 0 + 1) S (-1 : Int32) (0 : Int32) (0 : Int32) = tgt := by
    rw [← hF]
    simp only [f7_bestOf]
  exact j9 (lp_nu a2 0 + 1) S (-1 : Int32) (0 : Int32) (0 : Int32) _ _ ls (⟨by decide, hp0⟩) (Nat.lt_succ_self _) hF2 hw (lv_sub hl [3, 4, 5, 6, 2, 1, 0] rfl)
set_option maxHeartbeats 4000000 in
set_option maxRecDepth 10000 in
theorem k_X7_best (l : Launch) (G : tt_G) (S : tt_St) (V : Int64) (a1 : Int32) (hp0 : mi S) : m_MI l G yX7_best (g_code yX7_best cX7_best 3 (some FieldType.int)) 9 206 [.ref (mm_ad G 0), .int a1] S V ((f7_best S a1).1) ((f7_best S a1).2) V := by
  generalize hF : f7_best S a1 = tgt
  refine g_begin rfl (Nat.le_of_ble_eq_true rfl) _ (fun p e s m below meth c ls X hret hlk hB hl => ?_)
  obtain ⟨hP0, K⟩ := hB
  have hw : m_W G S V s s.heap [] := ⟨hP0, va_S.rf⟩
  have X : CallFix p m c cX7_best 3 s ([.ref (mm_ad G 0), .int a1] : List Value).toArray tt_T "TrustTinModel" := X
  have hl : lv_has ls 3 [(0, .ref (mm_ad G 0)), (1, .int a1)] := hl
  refine lv_aload_n X.1 X.2.1 dX7_best_0 rfl (lv_at hl 0 rfl) ?_
  refine lv_iload_n X.1 X.2.1 dX7_best_1 rfl (lv_at hl 1 rfl) ?_
  refine lv_i2l X.1 X.2.1 dX7_best_2 rfl ?_
  refine lv_lconst (v := (1 : Int64)) X.1 X.2.1 dX7_best_3 (by decide) ?_
  refine lv_ldc2 (v := (20 : Int64)) X.1 X.2.1 X.2.2.2.1 (X.2.2.2.2 _ q1090) dX7_best_4 ?_
  refine m_callSI_p X K hw (k_X7_in l G S V a1.toInt64 (1 : Int64) (20 : Int64)) (g_cwS X hiX7_in q908 q909 q74 q910 ⟨(Nat.le_of_ble_eq_true rfl), (Nat.le_of_ble_eq_true rfl)⟩) rfl hl.1 rfl (Nat.le_of_ble_eq_true rfl) dX7_best_7 ⟨(Nat.le_of_ble_eq_true rfl), (Nat.le_of_ble_eq_true rfl)⟩ (fun z1 H locs ez1 hw => ?_)
  refine lv_iload_n X.1 X.2.1 dX7_best_10 rfl (lv_at hl 1 rfl) ?_
  refine m_callVI_p X K hw (k_X7_why l G S V z1 a1) (g_cwV X hiX7_why q1058 q1060 q47 q74 q1061 ⟨(Nat.le_of_ble_eq_true rfl), (Nat.le_of_ble_eq_true rfl)⟩) rfl hl.1 rfl (Nat.le_of_ble_eq_true rfl) dX7_best_11 ⟨(Nat.le_of_ble_eq_true rfl), (Nat.le_of_ble_eq_true rfl)⟩ (fun z2 H locs ez2 hw => ?_)
  refine lv_istore_n (lv' := [(2, .int z2), (0, .ref (mm_ad G 0)), (1, .int a1)]) X.1 X.2.1 dX7_best_14 rfl hl (by decide) rfl (fun ls hl => ?_)
  refine lv_iload_n X.1 X.2.1 dX7_best_15 rfl (lv_at hl 0 rfl) ?_
  refine lv_if_lt (tgt := 27) X.1 X.2.1 dX7_best_16 (by decide) (fun c3 => ?_) (fun c3 => ?_)
  · refine lv_aload_n X.1 X.2.1 dX7_best_27 rfl (lv_at hl 1 rfl) ?_
    refine lv_iconst (v := (1 : Int32)) X.1 X.2.1 dX7_best_28 (by decide) ?_
    refine lv_bipush (v := (99 : Int32)) X.1 X.2.1 dX7_best_29 (by decide) ?_
    refine lv_iload_n X.1 X.2.1 dX7_best_31 rfl (lv_at hl 2 rfl) ?_
    refine m_callVI_s X K hw (k_X7_bestOf l G S V (1 : Int32) (99 : Int32) a1 hp0.1.2 (by unfold vp_in; decide) (by decide) (by decide)) (g_cwV X hiX7_bestOf q1091 q1093 q51 q74 q1094 ⟨(Nat.le_of_ble_eq_true rfl), (Nat.le_of_ble_eq_true rfl)⟩) rfl hl.1 rfl (Nat.le_of_ble_eq_true rfl) dX7_best_32 ⟨(Nat.le_of_ble_eq_true rfl), (Nat.le_of_ble_eq_true rfl)⟩ (fun z4 S5 H locs ez4 eS5 hw => ?_)
    have hR : (z4, S5) = tgt := by
      rw [← hF]
      subst ez1 ez2 ez4 eS5
      simp only [f7_best, if_pos c3]
    have hRR : z4 = tgt.1 := pr1 hR
    have hRS : S5 = tgt.2 := pr2 hR
    exact g_iret X hret hlk hw hRR (congrArg (fun z => (z, V)) hRS) dX7_best_35
  · refine lv_aload_n X.1 X.2.1 dX7_best_19 rfl (lv_at hl 1 rfl) ?_
    refine lv_iload_n X.1 X.2.1 dX7_best_20 rfl (lv_at hl 0 rfl) ?_
    refine m_callVI_s X K hw (k_X7_finds l G S V z2 (why_in ez2 c3)) (g_cwV X hiX7_finds q912 q914 q29 q74 q915 ⟨(Nat.le_of_ble_eq_true rfl), (Nat.le_of_ble_eq_true rfl)⟩) rfl hl.1 rfl (Nat.le_of_ble_eq_true rfl) dX7_best_21 ⟨(Nat.le_of_ble_eq_true rfl), (Nat.le_of_ble_eq_true rfl)⟩ (fun z6 S7 H locs ez6 eS7 hw => ?_)
    refine lv_goto (tgt := 35) X.1 X.2.1 dX7_best_24 (by decide) ?_
    have hR : (z6, S7) = tgt := by
      rw [← hF]
      subst ez1 ez2 ez6 eS7
      simp only [f7_best, if_neg c3]
    have hRR : z6 = tgt.1 := pr1 hR
    have hRS : S7 = tgt.2 := pr2 hR
    exact g_iret X hret hlk hw hRR (congrArg (fun z => (z, V)) hRS) dX7_best_35
set_option maxHeartbeats 4000000 in
set_option maxRecDepth 10000 in
theorem k_X7_sign (l : Launch) (G : tt_G) (S : tt_St) (V : Int64) (a1 : Int32) (hp0 : mi S) : m_MI l G yX7_sign (g_code yX7_sign cX7_sign 3 (some FieldType.int)) 9 206 [.ref (mm_ad G 0), .int a1] S V ((f7_sign S a1).1) ((f7_sign S a1).2) V := by
  generalize hF : f7_sign S a1 = tgt
  refine g_begin rfl (Nat.le_of_ble_eq_true rfl) _ (fun p e s m below meth c ls X hret hlk hB hl => ?_)
  obtain ⟨hP0, K⟩ := hB
  have hw : m_W G S V s s.heap [] := ⟨hP0, va_S.rf⟩
  have X : CallFix p m c cX7_sign 3 s ([.ref (mm_ad G 0), .int a1] : List Value).toArray tt_T "TrustTinModel" := X
  have hl : lv_has ls 3 [(0, .ref (mm_ad G 0)), (1, .int a1)] := hl
  refine lv_aload_n X.1 X.2.1 dX7_sign_0 rfl (lv_at hl 0 rfl) ?_
  refine lv_iload_n X.1 X.2.1 dX7_sign_1 rfl (lv_at hl 1 rfl) ?_
  refine lv_i2l X.1 X.2.1 dX7_sign_2 rfl ?_
  refine lv_lconst (v := (1 : Int64)) X.1 X.2.1 dX7_sign_3 (by decide) ?_
  refine lv_ldc2 (v := (50 : Int64)) X.1 X.2.1 X.2.2.2.1 (X.2.2.2.2 _ q976) dX7_sign_4 ?_
  refine m_callSI_p X K hw (k_X7_in l G S V a1.toInt64 (1 : Int64) (50 : Int64)) (g_cwS X hiX7_in q908 q909 q74 q910 ⟨(Nat.le_of_ble_eq_true rfl), (Nat.le_of_ble_eq_true rfl)⟩) rfl hl.1 rfl (Nat.le_of_ble_eq_true rfl) dX7_sign_7 ⟨(Nat.le_of_ble_eq_true rfl), (Nat.le_of_ble_eq_true rfl)⟩ (fun z1 H locs ez1 hw => ?_)
  refine lv_iload_n X.1 X.2.1 dX7_sign_10 rfl (lv_at hl 1 rfl) ?_
  refine m_callVI_p X K hw (k_X7_why l G S V z1 a1) (g_cwV X hiX7_why q1058 q1060 q47 q74 q1061 ⟨(Nat.le_of_ble_eq_true rfl), (Nat.le_of_ble_eq_true rfl)⟩) rfl hl.1 rfl (Nat.le_of_ble_eq_true rfl) dX7_sign_11 ⟨(Nat.le_of_ble_eq_true rfl), (Nat.le_of_ble_eq_true rfl)⟩ (fun z2 H locs ez2 hw => ?_)
  refine lv_istore_n (lv' := [(2, .int z2), (0, .ref (mm_ad G 0)), (1, .int a1)]) X.1 X.2.1 dX7_sign_14 rfl hl (by decide) rfl (fun ls hl => ?_)
  refine lv_iload_n X.1 X.2.1 dX7_sign_15 rfl (lv_at hl 0 rfl) ?_
  refine lv_if_lt (tgt := 27) X.1 X.2.1 dX7_sign_16 (by decide) (fun c3 => ?_) (fun c3 => ?_)
  · refine lv_aload_n X.1 X.2.1 dX7_sign_27 rfl (lv_at hl 1 rfl) ?_
    refine lv_iconst (v := (5 : Int32)) X.1 X.2.1 dX7_sign_28 (by decide) ?_
    refine lv_iconst (v := (2 : Int32)) X.1 X.2.1 dX7_sign_29 (by decide) ?_
    refine lv_iload_n X.1 X.2.1 dX7_sign_30 rfl (lv_at hl 2 rfl) ?_
    refine m_callVI_s X K hw (k_X7_bestOf l G S V (5 : Int32) (2 : Int32) a1 hp0.1.2 (by unfold vp_in; decide) (by decide) (by decide)) (g_cwV X hiX7_bestOf q1091 q1093 q51 q74 q1094 ⟨(Nat.le_of_ble_eq_true rfl), (Nat.le_of_ble_eq_true rfl)⟩) rfl hl.1 rfl (Nat.le_of_ble_eq_true rfl) dX7_sign_31 ⟨(Nat.le_of_ble_eq_true rfl), (Nat.le_of_ble_eq_true rfl)⟩ (fun z4 S5 H locs ez4 eS5 hw => ?_)
    have hR : (z4, S5) = tgt := by
      rw [← hF]
      subst ez1 ez2 ez4 eS5
      simp only [f7_sign, if_pos c3]
    have hRR : z4 = tgt.1 := pr1 hR
    have hRS : S5 = tgt.2 := pr2 hR
    exact g_iret X hret hlk hw hRR (congrArg (fun z => (z, V)) hRS) dX7_sign_34
  · refine lv_aload_n X.1 X.2.1 dX7_sign_19 rfl (lv_at hl 1 rfl) ?_
    refine lv_iload_n X.1 X.2.1 dX7_sign_20 rfl (lv_at hl 0 rfl) ?_
    refine m_callVI_s X K hw (k_X7_finds l G S V z2 (why_in ez2 c3)) (g_cwV X hiX7_finds q912 q914 q29 q74 q915 ⟨(Nat.le_of_ble_eq_true rfl), (Nat.le_of_ble_eq_true rfl)⟩) rfl hl.1 rfl (Nat.le_of_ble_eq_true rfl) dX7_sign_21 ⟨(Nat.le_of_ble_eq_true rfl), (Nat.le_of_ble_eq_true rfl)⟩ (fun z6 S7 H locs ez6 eS7 hw => ?_)
    refine lv_goto (tgt := 34) X.1 X.2.1 dX7_sign_24 (by decide) ?_
    have hR : (z6, S7) = tgt := by
      rw [← hF]
      subst ez1 ez2 ez6 eS7
      simp only [f7_sign, if_neg c3]
    have hRR : z6 = tgt.1 := pr1 hR
    have hRS : S7 = tgt.2 := pr2 hR
    exact g_iret X hret hlk hw hRR (congrArg (fun z => (z, V)) hRS) dX7_sign_34
set_option maxHeartbeats 4000000 in
set_option maxRecDepth 10000 in
theorem k_X7_uneven (l : Launch) (G : tt_G) (S : tt_St) (V : Int64) (a1 : Int32) (hp0 : mi S) : m_MI l G yX7_uneven (g_code yX7_uneven cX7_uneven 10 (some FieldType.int)) 2 45 [.ref (mm_ad G 0), .int a1] S V ((f7_uneven S a1).1) ((f7_uneven S a1).2) V := by
  generalize hF : f7_uneven S a1 = tgt
  refine g_begin rfl (Nat.le_of_ble_eq_true rfl) _ (fun p e s m below meth c ls X hret hlk hB hl => ?_)
  obtain ⟨hP0, K⟩ := hB
  have hw : m_W G S V s s.heap [] := ⟨hP0, va_S.rf⟩
  have X : CallFix p m c cX7_uneven 10 s ([.ref (mm_ad G 0), .int a1] : List Value).toArray tt_T "TrustTinModel" := X
  have hl : lv_has ls 10 [(0, .ref (mm_ad G 0)), (1, .int a1)] := hl
  refine lv_iload_n X.1 X.2.1 dX7_uneven_0 rfl (lv_at hl 1 rfl) ?_
  refine lv_i2l X.1 X.2.1 dX7_uneven_1 rfl ?_
  refine lv_lconst (v := (0 : Int64)) X.1 X.2.1 dX7_uneven_2 (by decide) ?_
  refine lv_ldc2 (v := (2 : Int64)) X.1 X.2.1 X.2.2.2.1 (X.2.2.2.2 _ q947) dX7_uneven_3 ?_
  refine m_callSI_p X K hw (k_X7_in l G S V a1.toInt64 (0 : Int64) (2 : Int64)) (g_cwS X hiX7_in q908 q909 q74 q910 ⟨(Nat.le_of_ble_eq_true rfl), (Nat.le_of_ble_eq_true rfl)⟩) rfl hl.1 rfl (Nat.le_of_ble_eq_true rfl) dX7_uneven_6 ⟨(Nat.le_of_ble_eq_true rfl), (Nat.le_of_ble_eq_true rfl)⟩ (fun z1 H locs ez1 hw => ?_)
  refine lv_if_ne (tgt := 18) X.1 X.2.1 dX7_uneven_9 (by decide) (fun c2 => ?_) (fun c2 => ?_)
  · refine lv_aload_n X.1 X.2.1 dX7_uneven_18 rfl (lv_at hl 0 rfl) ?_
    refine m_callVI_p X K hw (k_X7_drinking l G S V hp0.1.2) (g_cwV X hiX7_drinking q1119 q1121 q53 q74 q1122 ⟨(Nat.le_of_ble_eq_true rfl), (Nat.le_of_ble_eq_true rfl)⟩) rfl hl.1 rfl (Nat.le_of_ble_eq_true rfl) dX7_uneven_19 ⟨(Nat.le_of_ble_eq_true rfl), (Nat.le_of_ble_eq_true rfl)⟩ (fun z3 H locs ez3 hw => ?_)
    refine lv_istore_n (lv' := [(2, .int z3), (0, .ref (mm_ad G 0)), (1, .int a1)]) X.1 X.2.1 dX7_uneven_22 rfl hl (by decide) rfl (fun ls hl => ?_)
    refine lv_iload_n X.1 X.2.1 dX7_uneven_23 rfl (lv_at hl 0 rfl) ?_
    refine lv_if_ne (tgt := 33) X.1 X.2.1 dX7_uneven_24 (by decide) (fun c4 => ?_) (fun c4 => ?_)
    · refine lv_aload_n X.1 X.2.1 dX7_uneven_33 rfl (lv_at hl 1 rfl) ?_
      refine m_get X K hw 0 (by decide) q836 rfl dX7_uneven_34 ?_
      refine lv_iconst (v := (1 : Int32)) X.1 X.2.1 dX7_uneven_37 (by decide) ?_
      have hi5 : vp_in (1 : Int32) 132 := by unfold vp_in; decide
      refine g_ialdL (j := 1) X K hw (by decide) mm_e1 hi5 rfl dX7_uneven_38 ?_
      refine lv_aload_n X.1 X.2.1 dX7_uneven_39 rfl (lv_at hl 1 rfl) ?_
      refine lv_iconst (v := (5 : Int32)) X.1 X.2.1 dX7_uneven_40 (by decide) ?_
      refine m_callVI_p X K hw (k_X7_sumOf l G S V (5 : Int32) hp0.1.2 (by unfold vp_in; decide)) (g_cwV X hiX7_sumOf q968 q970 q34 q74 q971 ⟨(Nat.le_of_ble_eq_true rfl), (Nat.le_of_ble_eq_true rfl)⟩) rfl hl.1 rfl (Nat.le_of_ble_eq_true rfl) dX7_uneven_41 ⟨(Nat.le_of_ble_eq_true rfl), (Nat.le_of_ble_eq_true rfl)⟩ (fun z6 H locs ez6 hw => ?_)
      refine lv_imul X.1 X.2.1 dX7_uneven_44 ?_
      refine lv_iload_n X.1 X.2.1 dX7_uneven_45 rfl (lv_at hl 0 rfl) ?_
      refine lv_idiv X.1 X.2.1 dX7_uneven_46 (c4) ?_
      refine lv_topi (fun x7 ex7 => ?_)
      refine lv_istore_n (lv' := [(3, .int x7), (2, .int z3), (0, .ref (mm_ad G 0)), (1, .int a1)]) X.1 X.2.1 dX7_uneven_47 rfl hl (by decide) rfl (fun ls hl => ?_)
      refine lv_iconst (v := (-1 : Int32)) X.1 X.2.1 dX7_uneven_48 (by decide) ?_
      refine lv_istore (lv' := [(4, .int (-1 : Int32)), (3, .int x7), (2, .int z3), (0, .ref (mm_ad G 0)), (1, .int a1)]) X.1 X.2.1 dX7_uneven_49 hl (by decide) rfl (fun ls hl => ?_)
      refine lv_iconst (v := (-1 : Int32)) X.1 X.2.1 dX7_uneven_51 (by decide) ?_
      refine lv_istore (lv' := [(5, .int (-1 : Int32)), (4, .int (-1 : Int32)), (3, .int x7), (2, .int z3), (0, .ref (mm_ad G 0)), (1, .int a1)]) X.1 X.2.1 dX7_uneven_52 hl (by decide) rfl (fun ls hl => ?_)
      refine lv_iconst (v := (0 : Int32)) X.1 X.2.1 dX7_uneven_54 (by decide) ?_
      refine lv_istore (lv' := [(6, .int (0 : Int32)), (5, .int (-1 : Int32)), (4, .int (-1 : Int32)), (3, .int x7), (2, .int z3), (0, .ref (mm_ad G 0)), (1, .int a1)]) X.1 X.2.1 dX7_uneven_55 hl (by decide) rfl (fun ls hl => ?_)
      have j57 : ∀ (n : Nat) (S8 : tt_St) (y3_57 : Int32) (y4_57 : Int32) (y5_57 : Int32) (y6_57 : Int32) (H : Heap) (locs : List Loc) (ls : Array Slot), ((¬ y6_57 < 0) ∧ S8 = S) → lp_mu (S8 1 0) y6_57 < n → f7_uneven_L57 a1 n S8 y3_57 y4_57 y5_57 y6_57 = tgt → m_W G S8 V s H locs → lv_has ls 10 [(0, .ref (mm_ad G 0)), (1, .int a1), (3, .int y3_57), (4, .int y4_57), (5, .int y5_57), (6, .int y6_57)] → W p l e (g_rm 2 45) s m ([.ref (mm_ad G 0), .int a1] : List Value).toArray below meth c H locs 0 0 (MQ below (va_Qi (fun r T => r = tgt.1 ∧ T = (tgt.2, V)) (g_Post G 10 (mm_ad G) (mm_cell G)) (g_in 10 (mm_ad G))) ([.ref (mm_ad G 0), .int a1] : List Value).toArray s 0 0 (g_in 10 (mm_ad G))) (F0 m 57 ls []) := by
        intro n
        induction n with
        | zero => intro S8 y3_57 y4_57 y5_57 y6_57 H locs ls hI hm; exact absurd hm (Nat.not_lt_zero _)
        | succ n ih =>
          intro S8 y3_57 y4_57 y5_57 y6_57 H locs ls hI hm hF hw hl
          refine lv_iload X.1 X.2.1 dX7_uneven_57 (lv_at hl 5 rfl) ?_
          refine lv_aload_n X.1 X.2.1 dX7_uneven_59 rfl (lv_at hl 0 rfl) ?_
          refine m_get X K hw 0 (by decide) q836 rfl dX7_uneven_60 ?_
          refine lv_iconst (v := (0 : Int32)) X.1 X.2.1 dX7_uneven_63 (by decide) ?_
          have hi9 : vp_in (0 : Int32) 132 := by unfold vp_in; decide
          refine g_ialdL (j := 0) X K hw (by decide) mm_e1 hi9 rfl dX7_uneven_64 ?_
          refine lv_icmp_ge (tgt := 170) X.1 X.2.1 dX7_uneven_65 (by decide) (fun c10 => ?_) (fun c10 => ?_)
          · refine lv_iload X.1 X.2.1 dX7_uneven_170 (lv_at hl 3 rfl) ?_
            refine lv_iload X.1 X.2.1 dX7_uneven_172 (lv_at hl 4 rfl) ?_
            refine lv_isub X.1 X.2.1 dX7_uneven_174 ?_
            have hR : (y4_57 - y5_57, S8) = tgt := by
              rw [← hF]
              simp only [f7_uneven_L57, if_pos c10]
            have hRR : y4_57 - y5_57 = tgt.1 := pr1 hR
            have hRS : S8 = tgt.2 := pr2 hR
            exact g_iret X hret hlk hw hRR (congrArg (fun z => (z, V)) hRS) dX7_uneven_175
          · refine lv_aload_n X.1 X.2.1 dX7_uneven_68 rfl (lv_at hl 0 rfl) ?_
            refine lv_iload X.1 X.2.1 dX7_uneven_69 (lv_at hl 5 rfl) ?_
            refine lv_iconst (v := (5 : Int32)) X.1 X.2.1 dX7_uneven_71 (by decide) ?_
            refine m_callVI_p X K hw (k_X7_its l G S8 V y6_57 (5 : Int32) (lp_in hI.1 c10 (by rw [hI.2]; exact hp0.1.2)) (by unfold vp_in; decide)) (g_cwV X hiX7_its q933 q935 q33 q74 q936 ⟨(Nat.le_of_ble_eq_true rfl), (Nat.le_of_ble_eq_true rfl)⟩) rfl hl.1 rfl (Nat.le_of_ble_eq_true rfl) dX7_uneven_72 ⟨(Nat.le_of_ble_eq_true rfl), (Nat.le_of_ble_eq_true rfl)⟩ (fun z11 H locs ez11 hw => ?_)
            refine lv_istore (lv' := [(7, .int z11), (0, .ref (mm_ad G 0)), (1, .int a1), (3, .int y3_57), (4, .int y4_57), (5, .int y5_57), (6, .int y6_57)]) X.1 X.2.1 dX7_uneven_75 hl (by decide) rfl (fun ls hl => ?_)
            refine lv_iload X.1 X.2.1 dX7_uneven_77 (lv_at hl 0 rfl) ?_
            refine lv_if_le (tgt := 164) X.1 X.2.1 dX7_uneven_79 (by decide) (fun c12 => ?_) (fun c12 => ?_)
            · obtain ⟨x13, ex13⟩ : ∃ y : Int32, y = y6_57 + (1 : Int32) := ⟨_, rfl⟩
              refine lv_iinc (v := x13) (lv' := [(6, .int x13), (7, .int z11), (0, .ref (mm_ad G 0)), (1, .int a1), (3, .int y3_57), (4, .int y4_57), (5, .int y5_57)]) X.1 X.2.1 dX7_uneven_164 hl (k := 6) rfl (by rw [ex13]; rfl) (by decide) rfl (fun ls hl => ?_)
              refine lv_goto (tgt := 57) X.1 X.2.1 dX7_uneven_167 (by decide) ?_
              have hF2 : f7_uneven_L57 a1 n S8 y3_57 y4_57 y5_57 x13 = tgt := by
                rw [← hF]
                subst ez11 ex13
                simp only [f7_uneven_L57, if_neg c10, if_pos c12]
              exact ih S8 y3_57 y4_57 y5_57 x13 _ _ ls (⟨by rw [ex13]; exact lp_nn hI.1 c10, hI.2⟩) (by rw [ex13]; exact lp_dec' c10 hm) hF2 hw (lv_sub hl [2, 3, 4, 5, 6, 0] rfl)
            · refine lv_iload_n X.1 X.2.1 dX7_uneven_82 rfl (lv_at hl 2 rfl) ?_
              refine lv_if_ne (tgt := 97) X.1 X.2.1 dX7_uneven_83 (by decide) (fun c14 => ?_) (fun c14 => ?_)
              · refine lv_iload_n X.1 X.2.1 dX7_uneven_97 rfl (lv_at hl 2 rfl) ?_
                refine lv_iconst (v := (1 : Int32)) X.1 X.2.1 dX7_uneven_98 (by decide) ?_
                refine lv_icmp_ne (tgt := 114) X.1 X.2.1 dX7_uneven_99 (by decide) (fun c15 => ?_) (fun c15 => ?_)
                · refine lv_iload_n X.1 X.2.1 dX7_uneven_114 rfl (lv_at hl 3 rfl) ?_
                  refine lv_istore (lv' := [(8, .int y3_57), (7, .int z11), (0, .ref (mm_ad G 0)), (1, .int a1), (3, .int y3_57), (4, .int y4_57), (5, .int y5_57), (6, .int y6_57)]) X.1 X.2.1 dX7_uneven_115 hl (by decide) rfl (fun ls hl => ?_)
                  refine lv_iload X.1 X.2.1 dX7_uneven_117 (lv_at hl 0 rfl) ?_
                  refine lv_bipush (v := (100 : Int32)) X.1 X.2.1 dX7_uneven_119 (by decide) ?_
                  refine lv_imul X.1 X.2.1 dX7_uneven_121 ?_
                  refine lv_iload X.1 X.2.1 dX7_uneven_122 (lv_at hl 1 rfl) ?_
                  refine lv_idiv X.1 X.2.1 dX7_uneven_124 (fun h => c12 (by rw [h]; decide)) ?_
                  refine lv_topi (fun x16 ex16 => ?_)
                  refine lv_istore (lv' := [(9, .int x16), (8, .int y3_57), (7, .int z11), (0, .ref (mm_ad G 0)), (1, .int a1), (3, .int y3_57), (4, .int y4_57), (5, .int y5_57), (6, .int y6_57)]) X.1 X.2.1 dX7_uneven_125 hl (by decide) rfl (fun ls hl => ?_)
                  refine lv_iload X.1 X.2.1 dX7_uneven_127 (lv_at hl 0 rfl) ?_
                  refine lv_iload X.1 X.2.1 dX7_uneven_129 (lv_at hl 6 rfl) ?_
                  refine lv_icmp_le (tgt := 139) X.1 X.2.1 dX7_uneven_131 (by decide) (fun c17 => ?_) (fun c17 => ?_)
                  · refine lv_iload X.1 X.2.1 dX7_uneven_139 (lv_at hl 6 rfl) ?_
                    refine lv_istore (lv' := [(4, .int y4_57), (9, .int x16), (8, .int y3_57), (7, .int z11), (0, .ref (mm_ad G 0)), (1, .int a1), (3, .int y3_57), (5, .int y5_57), (6, .int y6_57)]) X.1 X.2.1 dX7_uneven_141 hl (by decide) rfl (fun ls hl => ?_)
                    refine lv_iload X.1 X.2.1 dX7_uneven_143 (lv_at hl 7 rfl) ?_
                    refine lv_if_lt (tgt := 155) X.1 X.2.1 dX7_uneven_145 (by decide) (fun c18 => ?_) (fun c18 => ?_)
                    · refine lv_iload X.1 X.2.1 dX7_uneven_155 (lv_at hl 1 rfl) ?_
                      refine lv_goto (tgt := 162) X.1 X.2.1 dX7_uneven_157 (by decide) ?_
                      refine lv_istore (lv' := [(5, .int x16), (4, .int y4_57), (9, .int x16), (8, .int y3_57), (7, .int z11), (0, .ref (mm_ad G 0)), (1, .int a1), (3, .int y3_57), (6, .int y6_57)]) X.1 X.2.1 dX7_uneven_162 hl (by decide) rfl (fun ls hl => ?_)
                      obtain ⟨x19, ex19⟩ : ∃ y : Int32, y = y6_57 + (1 : Int32) := ⟨_, rfl⟩
                      refine lv_iinc (v := x19) (lv' := [(6, .int x19), (5, .int x16), (4, .int y4_57), (9, .int x16), (8, .int y3_57), (7, .int z11), (0, .ref (mm_ad G 0)), (1, .int a1), (3, .int y3_57)]) X.1 X.2.1 dX7_uneven_164 hl (k := 8) rfl (by rw [ex19]; rfl) (by decide) rfl (fun ls hl => ?_)
                      refine lv_goto (tgt := 57) X.1 X.2.1 dX7_uneven_167 (by decide) ?_
                      have hF2 : f7_uneven_L57 a1 n S8 y3_57 y4_57 x16 x19 = tgt := by
                        rw [← hF]
                        subst ez11 ex16 ex19
                        simp only [f7_uneven_L57, if_neg c10, if_neg c12, if_neg c14, if_neg c15, if_pos c17, if_pos c18]
                      exact ih S8 y3_57 y4_57 x16 x19 _ _ ls (⟨by rw [ex19]; exact lp_nn hI.1 c10, hI.2⟩) (by rw [ex19]; exact lp_dec' c10 hm) hF2 hw (lv_sub hl [6, 7, 8, 2, 1, 0] rfl)
                    · refine lv_iload X.1 X.2.1 dX7_uneven_148 (lv_at hl 1 rfl) ?_
                      refine lv_iload X.1 X.2.1 dX7_uneven_150 (lv_at hl 7 rfl) ?_
                      refine lv_icmp_ge (tgt := 160) X.1 X.2.1 dX7_uneven_152 (by decide) (fun c20 => ?_) (fun c20 => ?_)
                      · refine lv_iload X.1 X.2.1 dX7_uneven_160 (lv_at hl 7 rfl) ?_
                        refine lv_istore (lv' := [(5, .int y5_57), (4, .int y4_57), (9, .int x16), (8, .int y3_57), (7, .int z11), (0, .ref (mm_ad G 0)), (1, .int a1), (3, .int y3_57), (6, .int y6_57)]) X.1 X.2.1 dX7_uneven_162 hl (by decide) rfl (fun ls hl => ?_)
                        obtain ⟨x21, ex21⟩ : ∃ y : Int32, y = y6_57 + (1 : Int32) := ⟨_, rfl⟩
                        refine lv_iinc (v := x21) (lv' := [(6, .int x21), (5, .int y5_57), (4, .int y4_57), (9, .int x16), (8, .int y3_57), (7, .int z11), (0, .ref (mm_ad G 0)), (1, .int a1), (3, .int y3_57)]) X.1 X.2.1 dX7_uneven_164 hl (k := 8) rfl (by rw [ex21]; rfl) (by decide) rfl (fun ls hl => ?_)
                        refine lv_goto (tgt := 57) X.1 X.2.1 dX7_uneven_167 (by decide) ?_
                        have hF2 : f7_uneven_L57 a1 n S8 y3_57 y4_57 y5_57 x21 = tgt := by
                          rw [← hF]
                          subst ez11 ex16 ex21
                          simp only [f7_uneven_L57, if_neg c10, if_neg c12, if_neg c14, if_neg c15, if_pos c17, if_neg c18, if_pos c20]
                        exact ih S8 y3_57 y4_57 y5_57 x21 _ _ ls (⟨by rw [ex21]; exact lp_nn hI.1 c10, hI.2⟩) (by rw [ex21]; exact lp_dec' c10 hm) hF2 hw (lv_sub hl [6, 7, 8, 2, 1, 0] rfl)
                      · refine lv_iload X.1 X.2.1 dX7_uneven_155 (lv_at hl 1 rfl) ?_
                        refine lv_goto (tgt := 162) X.1 X.2.1 dX7_uneven_157 (by decide) ?_
                        refine lv_istore (lv' := [(5, .int x16), (4, .int y4_57), (9, .int x16), (8, .int y3_57), (7, .int z11), (0, .ref (mm_ad G 0)), (1, .int a1), (3, .int y3_57), (6, .int y6_57)]) X.1 X.2.1 dX7_uneven_162 hl (by decide) rfl (fun ls hl => ?_)
                        obtain ⟨x22, ex22⟩ : ∃ y : Int32, y = y6_57 + (1 : Int32) := ⟨_, rfl⟩
                        refine lv_iinc (v := x22) (lv' := [(6, .int x22), (5, .int x16), (4, .int y4_57), (9, .int x16), (8, .int y3_57), (7, .int z11), (0, .ref (mm_ad G 0)), (1, .int a1), (3, .int y3_57)]) X.1 X.2.1 dX7_uneven_164 hl (k := 8) rfl (by rw [ex22]; rfl) (by decide) rfl (fun ls hl => ?_)
                        refine lv_goto (tgt := 57) X.1 X.2.1 dX7_uneven_167 (by decide) ?_
                        have hF2 : f7_uneven_L57 a1 n S8 y3_57 y4_57 x16 x22 = tgt := by
                          rw [← hF]
                          subst ez11 ex16 ex22
                          simp only [f7_uneven_L57, if_neg c10, if_neg c12, if_neg c14, if_neg c15, if_pos c17, if_neg c18, if_neg c20]
                        exact ih S8 y3_57 y4_57 x16 x22 _ _ ls (⟨by rw [ex22]; exact lp_nn hI.1 c10, hI.2⟩) (by rw [ex22]; exact lp_dec' c10 hm) hF2 hw (lv_sub hl [6, 7, 8, 2, 1, 0] rfl)
                  · refine lv_iload X.1 X.2.1 dX7_uneven_134 (lv_at hl 0 rfl) ?_
                    refine lv_goto (tgt := 141) X.1 X.2.1 dX7_uneven_136 (by decide) ?_
                    refine lv_istore (lv' := [(4, .int x16), (9, .int x16), (8, .int y3_57), (7, .int z11), (0, .ref (mm_ad G 0)), (1, .int a1), (3, .int y3_57), (5, .int y5_57), (6, .int y6_57)]) X.1 X.2.1 dX7_uneven_141 hl (by decide) rfl (fun ls hl => ?_)
                    refine lv_iload X.1 X.2.1 dX7_uneven_143 (lv_at hl 7 rfl) ?_
                    refine lv_if_lt (tgt := 155) X.1 X.2.1 dX7_uneven_145 (by decide) (fun c23 => ?_) (fun c23 => ?_)
                    · refine lv_iload X.1 X.2.1 dX7_uneven_155 (lv_at hl 1 rfl) ?_
                      refine lv_goto (tgt := 162) X.1 X.2.1 dX7_uneven_157 (by decide) ?_
                      refine lv_istore (lv' := [(5, .int x16), (4, .int x16), (9, .int x16), (8, .int y3_57), (7, .int z11), (0, .ref (mm_ad G 0)), (1, .int a1), (3, .int y3_57), (6, .int y6_57)]) X.1 X.2.1 dX7_uneven_162 hl (by decide) rfl (fun ls hl => ?_)
                      obtain ⟨x24, ex24⟩ : ∃ y : Int32, y = y6_57 + (1 : Int32) := ⟨_, rfl⟩
                      refine lv_iinc (v := x24) (lv' := [(6, .int x24), (5, .int x16), (4, .int x16), (9, .int x16), (8, .int y3_57), (7, .int z11), (0, .ref (mm_ad G 0)), (1, .int a1), (3, .int y3_57)]) X.1 X.2.1 dX7_uneven_164 hl (k := 8) rfl (by rw [ex24]; rfl) (by decide) rfl (fun ls hl => ?_)
                      refine lv_goto (tgt := 57) X.1 X.2.1 dX7_uneven_167 (by decide) ?_
                      have hF2 : f7_uneven_L57 a1 n S8 y3_57 x16 x16 x24 = tgt := by
                        rw [← hF]
                        subst ez11 ex16 ex24
                        simp only [f7_uneven_L57, if_neg c10, if_neg c12, if_neg c14, if_neg c15, if_neg c17, if_pos c23]
                      exact ih S8 y3_57 x16 x16 x24 _ _ ls (⟨by rw [ex24]; exact lp_nn hI.1 c10, hI.2⟩) (by rw [ex24]; exact lp_dec' c10 hm) hF2 hw (lv_sub hl [6, 7, 8, 2, 1, 0] rfl)
                    · refine lv_iload X.1 X.2.1 dX7_uneven_148 (lv_at hl 1 rfl) ?_
                      refine lv_iload X.1 X.2.1 dX7_uneven_150 (lv_at hl 7 rfl) ?_
                      refine lv_icmp_ge (tgt := 160) X.1 X.2.1 dX7_uneven_152 (by decide) (fun c25 => ?_) (fun c25 => ?_)
                      · refine lv_iload X.1 X.2.1 dX7_uneven_160 (lv_at hl 7 rfl) ?_
                        refine lv_istore (lv' := [(5, .int y5_57), (4, .int x16), (9, .int x16), (8, .int y3_57), (7, .int z11), (0, .ref (mm_ad G 0)), (1, .int a1), (3, .int y3_57), (6, .int y6_57)]) X.1 X.2.1 dX7_uneven_162 hl (by decide) rfl (fun ls hl => ?_)
                        obtain ⟨x26, ex26⟩ : ∃ y : Int32, y = y6_57 + (1 : Int32) := ⟨_, rfl⟩
                        refine lv_iinc (v := x26) (lv' := [(6, .int x26), (5, .int y5_57), (4, .int x16), (9, .int x16), (8, .int y3_57), (7, .int z11), (0, .ref (mm_ad G 0)), (1, .int a1), (3, .int y3_57)]) X.1 X.2.1 dX7_uneven_164 hl (k := 8) rfl (by rw [ex26]; rfl) (by decide) rfl (fun ls hl => ?_)
                        refine lv_goto (tgt := 57) X.1 X.2.1 dX7_uneven_167 (by decide) ?_
                        have hF2 : f7_uneven_L57 a1 n S8 y3_57 x16 y5_57 x26 = tgt := by
                          rw [← hF]
                          subst ez11 ex16 ex26
                          simp only [f7_uneven_L57, if_neg c10, if_neg c12, if_neg c14, if_neg c15, if_neg c17, if_neg c23, if_pos c25]
                        exact ih S8 y3_57 x16 y5_57 x26 _ _ ls (⟨by rw [ex26]; exact lp_nn hI.1 c10, hI.2⟩) (by rw [ex26]; exact lp_dec' c10 hm) hF2 hw (lv_sub hl [6, 7, 8, 2, 1, 0] rfl)
                      · refine lv_iload X.1 X.2.1 dX7_uneven_155 (lv_at hl 1 rfl) ?_
                        refine lv_goto (tgt := 162) X.1 X.2.1 dX7_uneven_157 (by decide) ?_
                        refine lv_istore (lv' := [(5, .int x16), (4, .int x16), (9, .int x16), (8, .int y3_57), (7, .int z11), (0, .ref (mm_ad G 0)), (1, .int a1), (3, .int y3_57), (6, .int y6_57)]) X.1 X.2.1 dX7_uneven_162 hl (by decide) rfl (fun ls hl => ?_)
                        obtain ⟨x27, ex27⟩ : ∃ y : Int32, y = y6_57 + (1 : Int32) := ⟨_, rfl⟩
                        refine lv_iinc (v := x27) (lv' := [(6, .int x27), (5, .int x16), (4, .int x16), (9, .int x16), (8, .int y3_57), (7, .int z11), (0, .ref (mm_ad G 0)), (1, .int a1), (3, .int y3_57)]) X.1 X.2.1 dX7_uneven_164 hl (k := 8) rfl (by rw [ex27]; rfl) (by decide) rfl (fun ls hl => ?_)
                        refine lv_goto (tgt := 57) X.1 X.2.1 dX7_uneven_167 (by decide) ?_
                        have hF2 : f7_uneven_L57 a1 n S8 y3_57 x16 x16 x27 = tgt := by
                          rw [← hF]
                          subst ez11 ex16 ex27
                          simp only [f7_uneven_L57, if_neg c10, if_neg c12, if_neg c14, if_neg c15, if_neg c17, if_neg c23, if_neg c25]
                        exact ih S8 y3_57 x16 x16 x27 _ _ ls (⟨by rw [ex27]; exact lp_nn hI.1 c10, hI.2⟩) (by rw [ex27]; exact lp_dec' c10 hm) hF2 hw (lv_sub hl [6, 7, 8, 2, 1, 0] rfl)
                · refine lv_aload_n X.1 X.2.1 dX7_uneven_102 rfl (lv_at hl 1 rfl) ?_
                  refine m_get X K hw 0 (by decide) q836 rfl dX7_uneven_103 ?_
                  refine lv_iconst (v := (1 : Int32)) X.1 X.2.1 dX7_uneven_106 (by decide) ?_
                  have hi28 : vp_in (1 : Int32) 132 := by unfold vp_in; decide
                  refine g_ialdL (j := 1) X K hw (by decide) mm_e1 hi28 rfl dX7_uneven_107 ?_
                  refine lv_iload X.1 X.2.1 dX7_uneven_108 (lv_at hl 0 rfl) ?_
                  refine lv_imul X.1 X.2.1 dX7_uneven_110 ?_
                  refine lv_goto (tgt := 115) X.1 X.2.1 dX7_uneven_111 (by decide) ?_
                  refine lv_topi (fun x29 ex29 => ?_)
                  refine lv_istore (lv' := [(8, .int x29), (7, .int z11), (0, .ref (mm_ad G 0)), (1, .int a1), (3, .int y3_57), (4, .int y4_57), (5, .int y5_57), (6, .int y6_57)]) X.1 X.2.1 dX7_uneven_115 hl (by decide) rfl (fun ls hl => ?_)
                  refine lv_iload X.1 X.2.1 dX7_uneven_117 (lv_at hl 0 rfl) ?_
                  refine lv_bipush (v := (100 : Int32)) X.1 X.2.1 dX7_uneven_119 (by decide) ?_
                  refine lv_imul X.1 X.2.1 dX7_uneven_121 ?_
                  refine lv_iload X.1 X.2.1 dX7_uneven_122 (lv_at hl 1 rfl) ?_
                  refine lv_idiv X.1 X.2.1 dX7_uneven_124 (fun h => c12 (by rw [h]; decide)) ?_
                  refine lv_topi (fun x30 ex30 => ?_)
                  refine lv_istore (lv' := [(9, .int x30), (8, .int x29), (7, .int z11), (0, .ref (mm_ad G 0)), (1, .int a1), (3, .int y3_57), (4, .int y4_57), (5, .int y5_57), (6, .int y6_57)]) X.1 X.2.1 dX7_uneven_125 hl (by decide) rfl (fun ls hl => ?_)
                  refine lv_iload X.1 X.2.1 dX7_uneven_127 (lv_at hl 0 rfl) ?_
                  refine lv_iload X.1 X.2.1 dX7_uneven_129 (lv_at hl 6 rfl) ?_
                  refine lv_icmp_le (tgt := 139) X.1 X.2.1 dX7_uneven_131 (by decide) (fun c31 => ?_) (fun c31 => ?_)
                  · refine lv_iload X.1 X.2.1 dX7_uneven_139 (lv_at hl 6 rfl) ?_
                    refine lv_istore (lv' := [(4, .int y4_57), (9, .int x30), (8, .int x29), (7, .int z11), (0, .ref (mm_ad G 0)), (1, .int a1), (3, .int y3_57), (5, .int y5_57), (6, .int y6_57)]) X.1 X.2.1 dX7_uneven_141 hl (by decide) rfl (fun ls hl => ?_)
                    refine lv_iload X.1 X.2.1 dX7_uneven_143 (lv_at hl 7 rfl) ?_
                    refine lv_if_lt (tgt := 155) X.1 X.2.1 dX7_uneven_145 (by decide) (fun c32 => ?_) (fun c32 => ?_)
                    · refine lv_iload X.1 X.2.1 dX7_uneven_155 (lv_at hl 1 rfl) ?_
                      refine lv_goto (tgt := 162) X.1 X.2.1 dX7_uneven_157 (by decide) ?_
                      refine lv_istore (lv' := [(5, .int x30), (4, .int y4_57), (9, .int x30), (8, .int x29), (7, .int z11), (0, .ref (mm_ad G 0)), (1, .int a1), (3, .int y3_57), (6, .int y6_57)]) X.1 X.2.1 dX7_uneven_162 hl (by decide) rfl (fun ls hl => ?_)
                      obtain ⟨x33, ex33⟩ : ∃ y : Int32, y = y6_57 + (1 : Int32) := ⟨_, rfl⟩
                      refine lv_iinc (v := x33) (lv' := [(6, .int x33), (5, .int x30), (4, .int y4_57), (9, .int x30), (8, .int x29), (7, .int z11), (0, .ref (mm_ad G 0)), (1, .int a1), (3, .int y3_57)]) X.1 X.2.1 dX7_uneven_164 hl (k := 8) rfl (by rw [ex33]; rfl) (by decide) rfl (fun ls hl => ?_)
                      refine lv_goto (tgt := 57) X.1 X.2.1 dX7_uneven_167 (by decide) ?_
                      have hF2 : f7_uneven_L57 a1 n S8 y3_57 y4_57 x30 x33 = tgt := by
                        rw [← hF]
                        subst ez11 ex29 ex30 ex33
                        simp only [f7_uneven_L57, if_neg c10, if_neg c12, if_neg c14, if_pos c15, if_pos c31, if_pos c32]
                      exact ih S8 y3_57 y4_57 x30 x33 _ _ ls (⟨by rw [ex33]; exact lp_nn hI.1 c10, hI.2⟩) (by rw [ex33]; exact lp_dec' c10 hm) hF2 hw (lv_sub hl [6, 7, 8, 2, 1, 0] rfl)
                    · refine lv_iload X.1 X.2.1 dX7_uneven_148 (lv_at hl 1 rfl) ?_
                      refine lv_iload X.1 X.2.1 dX7_uneven_150 (lv_at hl 7 rfl) ?_
                      refine lv_icmp_ge (tgt := 160) X.1 X.2.1 dX7_uneven_152 (by decide) (fun c34 => ?_) (fun c34 => ?_)
                      · refine lv_iload X.1 X.2.1 dX7_uneven_160 (lv_at hl 7 rfl) ?_
                        refine lv_istore (lv' := [(5, .int y5_57), (4, .int y4_57), (9, .int x30), (8, .int x29), (7, .int z11), (0, .ref (mm_ad G 0)), (1, .int a1), (3, .int y3_57), (6, .int y6_57)]) X.1 X.2.1 dX7_uneven_162 hl (by decide) rfl (fun ls hl => ?_)
                        obtain ⟨x35, ex35⟩ : ∃ y : Int32, y = y6_57 + (1 : Int32) := ⟨_, rfl⟩
                        refine lv_iinc (v := x35) (lv' := [(6, .int x35), (5, .int y5_57), (4, .int y4_57), (9, .int x30), (8, .int x29), (7, .int z11), (0, .ref (mm_ad G 0)), (1, .int a1), (3, .int y3_57)]) X.1 X.2.1 dX7_uneven_164 hl (k := 8) rfl (by rw [ex35]; rfl) (by decide) rfl (fun ls hl => ?_)
                        refine lv_goto (tgt := 57) X.1 X.2.1 dX7_uneven_167 (by decide) ?_
                        have hF2 : f7_uneven_L57 a1 n S8 y3_57 y4_57 y5_57 x35 = tgt := by
                          rw [← hF]
                          subst ez11 ex29 ex30 ex35
                          simp only [f7_uneven_L57, if_neg c10, if_neg c12, if_neg c14, if_pos c15, if_pos c31, if_neg c32, if_pos c34]
                        exact ih S8 y3_57 y4_57 y5_57 x35 _ _ ls (⟨by rw [ex35]; exact lp_nn hI.1 c10, hI.2⟩) (by rw [ex35]; exact lp_dec' c10 hm) hF2 hw (lv_sub hl [6, 7, 8, 2, 1, 0] rfl)
                      · refine lv_iload X.1 X.2.1 dX7_uneven_155 (lv_at hl 1 rfl) ?_
                        refine lv_goto (tgt := 162) X.1 X.2.1 dX7_uneven_157 (by decide) ?_
                        refine lv_istore (lv' := [(5, .int x30), (4, .int y4_57), (9, .int x30), (8, .int x29), (7, .int z11), (0, .ref (mm_ad G 0)), (1, .int a1), (3, .int y3_57), (6, .int y6_57)]) X.1 X.2.1 dX7_uneven_162 hl (by decide) rfl (fun ls hl => ?_)
                        obtain ⟨x36, ex36⟩ : ∃ y : Int32, y = y6_57 + (1 : Int32) := ⟨_, rfl⟩
                        refine lv_iinc (v := x36) (lv' := [(6, .int x36), (5, .int x30), (4, .int y4_57), (9, .int x30), (8, .int x29), (7, .int z11), (0, .ref (mm_ad G 0)), (1, .int a1), (3, .int y3_57)]) X.1 X.2.1 dX7_uneven_164 hl (k := 8) rfl (by rw [ex36]; rfl) (by decide) rfl (fun ls hl => ?_)
                        refine lv_goto (tgt := 57) X.1 X.2.1 dX7_uneven_167 (by decide) ?_
                        have hF2 : f7_uneven_L57 a1 n S8 y3_57 y4_57 x30 x36 = tgt := by
                          rw [← hF]
                          subst ez11 ex29 ex30 ex36
                          simp only [f7_uneven_L57, if_neg c10, if_neg c12, if_neg c14, if_pos c15, if_pos c31, if_neg c32, if_neg c34]
                        exact ih S8 y3_57 y4_57 x30 x36 _ _ ls (⟨by rw [ex36]; exact lp_nn hI.1 c10, hI.2⟩) (by rw [ex36]; exact lp_dec' c10 hm) hF2 hw (lv_sub hl [6, 7, 8, 2, 1, 0] rfl)
                  · refine lv_iload X.1 X.2.1 dX7_uneven_134 (lv_at hl 0 rfl) ?_
                    refine lv_goto (tgt := 141) X.1 X.2.1 dX7_uneven_136 (by decide) ?_
                    refine lv_istore (lv' := [(4, .int x30), (9, .int x30), (8, .int x29), (7, .int z11), (0, .ref (mm_ad G 0)), (1, .int a1), (3, .int y3_57), (5, .int y5_57), (6, .int y6_57)]) X.1 X.2.1 dX7_uneven_141 hl (by decide) rfl (fun ls hl => ?_)
                    refine lv_iload X.1 X.2.1 dX7_uneven_143 (lv_at hl 7 rfl) ?_
                    refine lv_if_lt (tgt := 155) X.1 X.2.1 dX7_uneven_145 (by decide) (fun c37 => ?_) (fun c37 => ?_)
                    · refine lv_iload X.1 X.2.1 dX7_uneven_155 (lv_at hl 1 rfl) ?_
                      refine lv_goto (tgt := 162) X.1 X.2.1 dX7_uneven_157 (by decide) ?_
                      refine lv_istore (lv' := [(5, .int x30), (4, .int x30), (9, .int x30), (8, .int x29), (7, .int z11), (0, .ref (mm_ad G 0)), (1, .int a1), (3, .int y3_57), (6, .int y6_57)]) X.1 X.2.1 dX7_uneven_162 hl (by decide) rfl (fun ls hl => ?_)
                      obtain ⟨x38, ex38⟩ : ∃ y : Int32, y = y6_57 + (1 : Int32) := ⟨_, rfl⟩
                      refine lv_iinc (v := x38) (lv' := [(6, .int x38), (5, .int x30), (4, .int x30), (9, .int x30), (8, .int x29), (7, .int z11), (0, .ref (mm_ad G 0)), (1, .int a1), (3, .int y3_57)]) X.1 X.2.1 dX7_uneven_164 hl (k := 8) rfl (by rw [ex38]; rfl) (by decide) rfl (fun ls hl => ?_)
                      refine lv_goto (tgt := 57) X.1 X.2.1 dX7_uneven_167 (by decide) ?_
                      have hF2 : f7_uneven_L57 a1 n S8 y3_57 x30 x30 x38 = tgt := by
                        rw [← hF]
                        subst ez11 ex29 ex30 ex38
                        simp only [f7_uneven_L57, if_neg c10, if_neg c12, if_neg c14, if_pos c15, if_neg c31, if_pos c37]
                      exact ih S8 y3_57 x30 x30 x38 _ _ ls (⟨by rw [ex38]; exact lp_nn hI.1 c10, hI.2⟩) (by rw [ex38]; exact lp_dec' c10 hm) hF2 hw (lv_sub hl [6, 7, 8, 2, 1, 0] rfl)
                    · refine lv_iload X.1 X.2.1 dX7_uneven_148 (lv_at hl 1 rfl) ?_
                      refine lv_iload X.1 X.2.1 dX7_uneven_150 (lv_at hl 7 rfl) ?_
                      refine lv_icmp_ge (tgt := 160) X.1 X.2.1 dX7_uneven_152 (by decide) (fun c39 => ?_) (fun c39 => ?_)
                      · refine lv_iload X.1 X.2.1 dX7_uneven_160 (lv_at hl 7 rfl) ?_
                        refine lv_istore (lv' := [(5, .int y5_57), (4, .int x30), (9, .int x30), (8, .int x29), (7, .int z11), (0, .ref (mm_ad G 0)), (1, .int a1), (3, .int y3_57), (6, .int y6_57)]) X.1 X.2.1 dX7_uneven_162 hl (by decide) rfl (fun ls hl => ?_)
                        obtain ⟨x40, ex40⟩ : ∃ y : Int32, y = y6_57 + (1 : Int32) := ⟨_, rfl⟩
                        refine lv_iinc (v := x40) (lv' := [(6, .int x40), (5, .int y5_57), (4, .int x30), (9, .int x30), (8, .int x29), (7, .int z11), (0, .ref (mm_ad G 0)), (1, .int a1), (3, .int y3_57)]) X.1 X.2.1 dX7_uneven_164 hl (k := 8) rfl (by rw [ex40]; rfl) (by decide) rfl (fun ls hl => ?_)
                        refine lv_goto (tgt := 57) X.1 X.2.1 dX7_uneven_167 (by decide) ?_
                        have hF2 : f7_uneven_L57 a1 n S8 y3_57 x30 y5_57 x40 = tgt := by
                          rw [← hF]
                          subst ez11 ex29 ex30 ex40
                          simp only [f7_uneven_L57, if_neg c10, if_neg c12, if_neg c14, if_pos c15, if_neg c31, if_neg c37, if_pos c39]
                        exact ih S8 y3_57 x30 y5_57 x40 _ _ ls (⟨by rw [ex40]; exact lp_nn hI.1 c10, hI.2⟩) (by rw [ex40]; exact lp_dec' c10 hm) hF2 hw (lv_sub hl [6, 7, 8, 2, 1, 0] rfl)
                      · refine lv_iload X.1 X.2.1 dX7_uneven_155 (lv_at hl 1 rfl) ?_
                        refine lv_goto (tgt := 162) X.1 X.2.1 dX7_uneven_157 (by decide) ?_
                        refine lv_istore (lv' := [(5, .int x30), (4, .int x30), (9, .int x30), (8, .int x29), (7, .int z11), (0, .ref (mm_ad G 0)), (1, .int a1), (3, .int y3_57), (6, .int y6_57)]) X.1 X.2.1 dX7_uneven_162 hl (by decide) rfl (fun ls hl => ?_)
                        obtain ⟨x41, ex41⟩ : ∃ y : Int32, y = y6_57 + (1 : Int32) := ⟨_, rfl⟩
                        refine lv_iinc (v := x41) (lv' := [(6, .int x41), (5, .int x30), (4, .int x30), (9, .int x30), (8, .int x29), (7, .int z11), (0, .ref (mm_ad G 0)), (1, .int a1), (3, .int y3_57)]) X.1 X.2.1 dX7_uneven_164 hl (k := 8) rfl (by rw [ex41]; rfl) (by decide) rfl (fun ls hl => ?_)
                        refine lv_goto (tgt := 57) X.1 X.2.1 dX7_uneven_167 (by decide) ?_
                        have hF2 : f7_uneven_L57 a1 n S8 y3_57 x30 x30 x41 = tgt := by
                          rw [← hF]
                          subst ez11 ex29 ex30 ex41
                          simp only [f7_uneven_L57, if_neg c10, if_neg c12, if_neg c14, if_pos c15, if_neg c31, if_neg c37, if_neg c39]
                        exact ih S8 y3_57 x30 x30 x41 _ _ ls (⟨by rw [ex41]; exact lp_nn hI.1 c10, hI.2⟩) (by rw [ex41]; exact lp_dec' c10 hm) hF2 hw (lv_sub hl [6, 7, 8, 2, 1, 0] rfl)
              · refine lv_aload_n X.1 X.2.1 dX7_uneven_86 rfl (lv_at hl 1 rfl) ?_
                refine lv_iload X.1 X.2.1 dX7_uneven_87 (lv_at hl 6 rfl) ?_
                refine lv_bipush (v := (6 : Int32)) X.1 X.2.1 dX7_uneven_89 (by decide) ?_
                refine m_callVI_p X K hw (k_X7_its l G S8 V y6_57 (6 : Int32) (lp_in hI.1 c10 (by rw [hI.2]; exact hp0.1.2)) (by unfold vp_in; decide)) (g_cwV X hiX7_its q933 q935 q33 q74 q936 ⟨(Nat.le_of_ble_eq_true rfl), (Nat.le_of_ble_eq_true rfl)⟩) rfl hl.1 rfl (Nat.le_of_ble_eq_true rfl) dX7_uneven_91 ⟨(Nat.le_of_ble_eq_true rfl), (Nat.le_of_ble_eq_true rfl)⟩ (fun z42 H locs ez42 hw => ?_)
                refine lv_goto (tgt := 115) X.1 X.2.1 dX7_uneven_94 (by decide) ?_
                refine lv_istore (lv' := [(8, .int z42), (7, .int z11), (0, .ref (mm_ad G 0)), (1, .int a1), (3, .int y3_57), (4, .int y4_57), (5, .int y5_57), (6, .int y6_57)]) X.1 X.2.1 dX7_uneven_115 hl (by decide) rfl (fun ls hl => ?_)
                refine lv_iload X.1 X.2.1 dX7_uneven_117 (lv_at hl 0 rfl) ?_
                refine lv_bipush (v := (100 : Int32)) X.1 X.2.1 dX7_uneven_119 (by decide) ?_
                refine lv_imul X.1 X.2.1 dX7_uneven_121 ?_
                refine lv_iload X.1 X.2.1 dX7_uneven_122 (lv_at hl 1 rfl) ?_
                refine lv_idiv X.1 X.2.1 dX7_uneven_124 (fun h => c12 (by rw [h]; decide)) ?_
                refine lv_topi (fun x43 ex43 => ?_)
                refine lv_istore (lv' := [(9, .int x43), (8, .int z42), (7, .int z11), (0, .ref (mm_ad G 0)), (1, .int a1), (3, .int y3_57), (4, .int y4_57), (5, .int y5_57), (6, .int y6_57)]) X.1 X.2.1 dX7_uneven_125 hl (by decide) rfl (fun ls hl => ?_)
                refine lv_iload X.1 X.2.1 dX7_uneven_127 (lv_at hl 0 rfl) ?_
                refine lv_iload X.1 X.2.1 dX7_uneven_129 (lv_at hl 6 rfl) ?_
                refine lv_icmp_le (tgt := 139) X.1 X.2.1 dX7_uneven_131 (by decide) (fun c44 => ?_) (fun c44 => ?_)
                · refine lv_iload X.1 X.2.1 dX7_uneven_139 (lv_at hl 6 rfl) ?_
                  refine lv_istore (lv' := [(4, .int y4_57), (9, .int x43), (8, .int z42), (7, .int z11), (0, .ref (mm_ad G 0)), (1, .int a1), (3, .int y3_57), (5, .int y5_57), (6, .int y6_57)]) X.1 X.2.1 dX7_uneven_141 hl (by decide) rfl (fun ls hl => ?_)
                  refine lv_iload X.1 X.2.1 dX7_uneven_143 (lv_at hl 7 rfl) ?_
                  refine lv_if_lt (tgt := 155) X.1 X.2.1 dX7_uneven_145 (by decide) (fun c45 => ?_) (fun c45 => ?_)
                  · refine lv_iload X.1 X.2.1 dX7_uneven_155 (lv_at hl 1 rfl) ?_
                    refine lv_goto (tgt := 162) X.1 X.2.1 dX7_uneven_157 (by decide) ?_
                    refine lv_istore (lv' := [(5, .int x43), (4, .int y4_57), (9, .int x43), (8, .int z42), (7, .int z11), (0, .ref (mm_ad G 0)), (1, .int a1), (3, .int y3_57), (6, .int y6_57)]) X.1 X.2.1 dX7_uneven_162 hl (by decide) rfl (fun ls hl => ?_)
                    obtain ⟨x46, ex46⟩ : ∃ y : Int32, y = y6_57 + (1 : Int32) := ⟨_, rfl⟩
                    refine lv_iinc (v := x46) (lv' := [(6, .int x46), (5, .int x43), (4, .int y4_57), (9, .int x43), (8, .int z42), (7, .int z11), (0, .ref (mm_ad G 0)), (1, .int a1), (3, .int y3_57)]) X.1 X.2.1 dX7_uneven_164 hl (k := 8) rfl (by rw [ex46]; rfl) (by decide) rfl (fun ls hl => ?_)
                    refine lv_goto (tgt := 57) X.1 X.2.1 dX7_uneven_167 (by decide) ?_
                    have hF2 : f7_uneven_L57 a1 n S8 y3_57 y4_57 x43 x46 = tgt := by
                      rw [← hF]
                      subst ez11 ez42 ex43 ex46
                      simp only [f7_uneven_L57, if_neg c10, if_neg c12, if_pos c14, if_pos c44, if_pos c45]
                    exact ih S8 y3_57 y4_57 x43 x46 _ _ ls (⟨by rw [ex46]; exact lp_nn hI.1 c10, hI.2⟩) (by rw [ex46]; exact lp_dec' c10 hm) hF2 hw (lv_sub hl [6, 7, 8, 2, 1, 0] rfl)
                  · refine lv_iload X.1 X.2.1 dX7_uneven_148 (lv_at hl 1 rfl) ?_
                    refine lv_iload X.1 X.2.1 dX7_uneven_150 (lv_at hl 7 rfl) ?_
                    refine lv_icmp_ge (tgt := 160) X.1 X.2.1 dX7_uneven_152 (by decide) (fun c47 => ?_) (fun c47 => ?_)
                    · refine lv_iload X.1 X.2.1 dX7_uneven_160 (lv_at hl 7 rfl) ?_
                      refine lv_istore (lv' := [(5, .int y5_57), (4, .int y4_57), (9, .int x43), (8, .int z42), (7, .int z11), (0, .ref (mm_ad G 0)), (1, .int a1), (3, .int y3_57), (6, .int y6_57)]) X.1 X.2.1 dX7_uneven_162 hl (by decide) rfl (fun ls hl => ?_)
                      obtain ⟨x48, ex48⟩ : ∃ y : Int32, y = y6_57 + (1 : Int32) := ⟨_, rfl⟩
                      refine lv_iinc (v := x48) (lv' := [(6, .int x48), (5, .int y5_57), (4, .int y4_57), (9, .int x43), (8, .int z42), (7, .int z11), (0, .ref (mm_ad G 0)), (1, .int a1), (3, .int y3_57)]) X.1 X.2.1 dX7_uneven_164 hl (k := 8) rfl (by rw [ex48]; rfl) (by decide) rfl (fun ls hl => ?_)
                      refine lv_goto (tgt := 57) X.1 X.2.1 dX7_uneven_167 (by decide) ?_
                      have hF2 : f7_uneven_L57 a1 n S8 y3_57 y4_57 y5_57 x48 = tgt := by
                        rw [← hF]
                        subst ez11 ez42 ex43 ex48
                        simp only [f7_uneven_L57, if_neg c10, if_neg c12, if_pos c14, if_pos c44, if_neg c45, if_pos c47]
                      exact ih S8 y3_57 y4_57 y5_57 x48 _ _ ls (⟨by rw [ex48]; exact lp_nn hI.1 c10, hI.2⟩) (by rw [ex48]; exact lp_dec' c10 hm) hF2 hw (lv_sub hl [6, 7, 8, 2, 1, 0] rfl)
                    · refine lv_iload X.1 X.2.1 dX7_uneven_155 (lv_at hl 1 rfl) ?_
                      refine lv_goto (tgt := 162) X.1 X.2.1 dX7_uneven_157 (by decide) ?_
                      refine lv_istore (lv' := [(5, .int x43), (4, .int y4_57), (9, .int x43), (8, .int z42), (7, .int z11), (0, .ref (mm_ad G 0)), (1, .int a1), (3, .int y3_57), (6, .int y6_57)]) X.1 X.2.1 dX7_uneven_162 hl (by decide) rfl (fun ls hl => ?_)
                      obtain ⟨x49, ex49⟩ : ∃ y : Int32, y = y6_57 + (1 : Int32) := ⟨_, rfl⟩
                      refine lv_iinc (v := x49) (lv' := [(6, .int x49), (5, .int x43), (4, .int y4_57), (9, .int x43), (8, .int z42), (7, .int z11), (0, .ref (mm_ad G 0)), (1, .int a1), (3, .int y3_57)]) X.1 X.2.1 dX7_uneven_164 hl (k := 8) rfl (by rw [ex49]; rfl) (by decide) rfl (fun ls hl => ?_)
                      refine lv_goto (tgt := 57) X.1 X.2.1 dX7_uneven_167 (by decide) ?_
                      have hF2 : f7_uneven_L57 a1 n S8 y3_57 y4_57 x43 x49 = tgt := by
                        rw [← hF]
                        subst ez11 ez42 ex43 ex49
                        simp only [f7_uneven_L57, if_neg c10, if_neg c12, if_pos c14, if_pos c44, if_neg c45, if_neg c47]
                      exact ih S8 y3_57 y4_57 x43 x49 _ _ ls (⟨by rw [ex49]; exact lp_nn hI.1 c10, hI.2⟩) (by rw [ex49]; exact lp_dec' c10 hm) hF2 hw (lv_sub hl [6, 7, 8, 2, 1, 0] rfl)
                · refine lv_iload X.1 X.2.1 dX7_uneven_134 (lv_at hl 0 rfl) ?_
                  refine lv_goto (tgt := 141) X.1 X.2.1 dX7_uneven_136 (by decide) ?_
                  refine lv_istore (lv' := [(4, .int x43), (9, .int x43), (8, .int z42), (7, .int z11), (0, .ref (mm_ad G 0)), (1, .int a1), (3, .int y3_57), (5, .int y5_57), (6, .int y6_57)]) X.1 X.2.1 dX7_uneven_141 hl (by decide) rfl (fun ls hl => ?_)
                  refine lv_iload X.1 X.2.1 dX7_uneven_143 (lv_at hl 7 rfl) ?_
                  refine lv_if_lt (tgt := 155) X.1 X.2.1 dX7_uneven_145 (by decide) (fun c50 => ?_) (fun c50 => ?_)
                  · refine lv_iload X.1 X.2.1 dX7_uneven_155 (lv_at hl 1 rfl) ?_
                    refine lv_goto (tgt := 162) X.1 X.2.1 dX7_uneven_157 (by decide) ?_
                    refine lv_istore (lv' := [(5, .int x43), (4, .int x43), (9, .int x43), (8, .int z42), (7, .int z11), (0, .ref (mm_ad G 0)), (1, .int a1), (3, .int y3_57), (6, .int y6_57)]) X.1 X.2.1 dX7_uneven_162 hl (by decide) rfl (fun ls hl => ?_)
                    obtain ⟨x51, ex51⟩ : ∃ y : Int32, y = y6_57 + (1 : Int32) := ⟨_, rfl⟩
                    refine lv_iinc (v := x51) (lv' := [(6, .int x51), (5, .int x43), (4, .int x43), (9, .int x43), (8, .int z42), (7, .int z11), (0, .ref (mm_ad G 0)), (1, .int a1), (3, .int y3_57)]) X.1 X.2.1 dX7_uneven_164 hl (k := 8) rfl (by rw [ex51]; rfl) (by decide) rfl (fun ls hl => ?_)
                    refine lv_goto (tgt := 57) X.1 X.2.1 dX7_uneven_167 (by decide) ?_
                    have hF2 : f7_uneven_L57 a1 n S8 y3_57 x43 x43 x51 = tgt := by
                      rw [← hF]
                      subst ez11 ez42 ex43 ex51
                      simp only [f7_uneven_L57, if_neg c10, if_neg c12, if_pos c14, if_neg c44, if_pos c50]
                    exact ih S8 y3_57 x43 x43 x51 _ _ ls (⟨by rw [ex51]; exact lp_nn hI.1 c10, hI.2⟩) (by rw [ex51]; exact lp_dec' c10 hm) hF2 hw (lv_sub hl [6, 7, 8, 2, 1, 0] rfl)
                  · refine lv_iload X.1 X.2.1 dX7_uneven_148 (lv_at hl 1 rfl) ?_
                    refine lv_iload X.1 X.2.1 dX7_uneven_150 (lv_at hl 7 rfl) ?_
                    refine lv_icmp_ge (tgt := 160) X.1 X.2.1 dX7_uneven_152 (by decide) (fun c52 => ?_) (fun c52 => ?_)
                    · refine lv_iload X.1 X.2.1 dX7_uneven_160 (lv_at hl 7 rfl) ?_
                      refine lv_istore (lv' := [(5, .int y5_57), (4, .int x43), (9, .int x43), (8, .int z42), (7, .int z11), (0, .ref (mm_ad G 0)), (1, .int a1), (3, .int y3_57), (6, .int y6_57)]) X.1 X.2.1 dX7_uneven_162 hl (by decide) rfl (fun ls hl => ?_)
                      obtain ⟨x53, ex53⟩ : ∃ y : Int32, y = y6_57 + (1 : Int32) := ⟨_, rfl⟩
                      refine lv_iinc (v := x53) (lv' := [(6, .int x53), (5, .int y5_57), (4, .int x43), (9, .int x43), (8, .int z42), (7, .int z11), (0, .ref (mm_ad G 0)), (1, .int a1), (3, .int y3_57)]) X.1 X.2.1 dX7_uneven_164 hl (k := 8) rfl (by rw [ex53]; rfl) (by decide) rfl (fun ls hl => ?_)
                      refine lv_goto (tgt := 57) X.1 X.2.1 dX7_uneven_167 (by decide) ?_
                      have hF2 : f7_uneven_L57 a1 n S8 y3_57 x43 y5_57 x53 = tgt := by
                        rw [← hF]
                        subst ez11 ez42 ex43 ex53
                        simp only [f7_uneven_L57, if_neg c10, if_neg c12, if_pos c14, if_neg c44, if_neg c50, if_pos c52]
                      exact ih S8 y3_57 x43 y5_57 x53 _ _ ls (⟨by rw [ex53]; exact lp_nn hI.1 c10, hI.2⟩) (by rw [ex53]; exact lp_dec' c10 hm) hF2 hw (lv_sub hl [6, 7, 8, 2, 1, 0] rfl)
                    · refine lv_iload X.1 X.2.1 dX7_uneven_155 (lv_at hl 1 rfl) ?_
                      refine lv_goto (tgt := 162) X.1 X.2.1 dX7_uneven_157 (by decide) ?_
                      refine lv_istore (lv' := [(5, .int x43), (4, .int x43), (9, .int x43), (8, .int z42), (7, .int z11), (0, .ref (mm_ad G 0)), (1, .int a1), (3, .int y3_57), (6, .int y6_57)]) X.1 X.2.1 dX7_uneven_162 hl (by decide) rfl (fun ls hl => ?_)
                      obtain ⟨x54, ex54⟩ : ∃ y : Int32, y = y6_57 + (1 : Int32) := ⟨_, rfl⟩
                      refine lv_iinc (v := x54) (lv' := [(6, .int x54), (5, .int x43), (4, .int x43), (9, .int x43), (8, .int z42), (7, .int z11), (0, .ref (mm_ad G 0)), (1, .int a1), (3, .int y3_57)]) X.1 X.2.1 dX7_uneven_164 hl (k := 8) rfl (by rw [ex54]; rfl) (by decide) rfl (fun ls hl => ?_)
                      refine lv_goto (tgt := 57) X.1 X.2.1 dX7_uneven_167 (by decide) ?_
                      have hF2 : f7_uneven_L57 a1 n S8 y3_57 x43 x43 x54 = tgt := by
                        rw [← hF]
                        subst ez11 ez42 ex43 ex54
                        simp only [f7_uneven_L57, if_neg c10, if_neg c12, if_pos c14, if_neg c44, if_neg c50, if_neg c52]
                      exact ih S8 y3_57 x43 x43 x54 _ _ ls (⟨by rw [ex54]; exact lp_nn hI.1 c10, hI.2⟩) (by rw [ex54]; exact lp_dec' c10 hm) hF2 hw (lv_sub hl [6, 7, 8, 2, 1, 0] rfl)
      have hF2 : f7_uneven_L57 a1 (lp_mu (S 1 0) 0 + 1) S x7 (-1 : Int32) (-1 : Int32) (0 : Int32) = tgt := by
        rw [← hF]
        subst ez1 ez3 ez6 ex7
        simp only [f7_uneven, if_neg c2, if_neg c4]
      exact j57 (lp_mu (S 1 0) 0 + 1) S x7 (-1 : Int32) (-1 : Int32) (0 : Int32) _ _ ls (⟨by decide, rfl⟩) (Nat.lt_succ_self _) hF2 hw (lv_sub hl [5, 6, 3, 2, 1, 0] rfl)
    · refine lv_aload_n X.1 X.2.1 dX7_uneven_27 rfl (lv_at hl 1 rfl) ?_
      refine lv_iconst (v := (3 : Int32)) X.1 X.2.1 dX7_uneven_28 (by decide) ?_
      refine m_callVI_s X K hw (k_X7_finds l G S V (3 : Int32) (by unfold vp_in; decide)) (g_cwV X hiX7_finds q912 q914 q29 q74 q915 ⟨(Nat.le_of_ble_eq_true rfl), (Nat.le_of_ble_eq_true rfl)⟩) rfl hl.1 rfl (Nat.le_of_ble_eq_true rfl) dX7_uneven_29 ⟨(Nat.le_of_ble_eq_true rfl), (Nat.le_of_ble_eq_true rfl)⟩ (fun z55 S56 H locs ez55 eS56 hw => ?_)
      have hR : (z55, S56) = tgt := by
        rw [← hF]
        subst ez1 ez3 ez55 eS56
        simp only [f7_uneven, if_neg c2, if_pos c4]
      have hRR : z55 = tgt.1 := pr1 hR
      have hRS : S56 = tgt.2 := pr2 hR
      exact g_iret X hret hlk hw hRR (congrArg (fun z => (z, V)) hRS) dX7_uneven_32
  · refine lv_aload_n X.1 X.2.1 dX7_uneven_12 rfl (lv_at hl 0 rfl) ?_
    refine lv_iconst (v := (0 : Int32)) X.1 X.2.1 dX7_uneven_13 (by decide) ?_
    refine m_callVI_s X K hw (k_X7_finds l G S V (0 : Int32) (by unfold vp_in; decide)) (g_cwV X hiX7_finds q912 q914 q29 q74 q915 ⟨(Nat.le_of_ble_eq_true rfl), (Nat.le_of_ble_eq_true rfl)⟩) rfl hl.1 rfl (Nat.le_of_ble_eq_true rfl) dX7_uneven_14 ⟨(Nat.le_of_ble_eq_true rfl), (Nat.le_of_ble_eq_true rfl)⟩ (fun z57 S58 H locs ez57 eS58 hw => ?_)
    have hR : (z57, S58) = tgt := by
      rw [← hF]
      subst ez1 ez57 eS58
      simp only [f7_uneven, if_pos c2]
    have hRR : z57 = tgt.1 := pr1 hR
    have hRS : S58 = tgt.2 := pr2 hR
    exact g_iret X hret hlk hw hRR (congrArg (fun z => (z, V)) hRS) dX7_uneven_17
set_option maxHeartbeats 4000000 in
set_option maxRecDepth 10000 in
theorem k_X7_lacks (l : Launch) (G : tt_G) (S : tt_St) (V : Int64) (hp0 : mi S) : m_MI l G yX7_lacks (g_code yX7_lacks cX7_lacks 1 (some FieldType.int)) 2 45 [.ref (mm_ad G 0)] S V (f7_lacks S) S V := by
  generalize hF : f7_lacks S = tgt
  refine g_begin rfl (Nat.le_of_ble_eq_true rfl) _ (fun p e s m below meth c ls X hret hlk hB hl => ?_)
  obtain ⟨hP0, K⟩ := hB
  have hw : m_W G S V s s.heap [] := ⟨hP0, va_S.rf⟩
  have X : CallFix p m c cX7_lacks 1 s ([.ref (mm_ad G 0)] : List Value).toArray tt_T "TrustTinModel" := X
  have hl : lv_has ls 1 [(0, .ref (mm_ad G 0))] := hl
  refine lv_aload_n X.1 X.2.1 dX7_lacks_0 rfl (lv_at hl 0 rfl) ?_
  refine m_get X K hw 0 (by decide) q836 rfl dX7_lacks_1 ?_
  refine lv_iconst (v := (1 : Int32)) X.1 X.2.1 dX7_lacks_4 (by decide) ?_
  have hi1 : vp_in (1 : Int32) 132 := by unfold vp_in; decide
  refine g_ialdL (j := 1) X K hw (by decide) mm_e1 hi1 rfl dX7_lacks_5 ?_
  refine lv_aload_n X.1 X.2.1 dX7_lacks_6 rfl (lv_at hl 0 rfl) ?_
  refine lv_iconst (v := (5 : Int32)) X.1 X.2.1 dX7_lacks_7 (by decide) ?_
  refine m_callVI_p X K hw (k_X7_sumOf l G S V (5 : Int32) hp0.1.2 (by unfold vp_in; decide)) (g_cwV X hiX7_sumOf q968 q970 q34 q74 q971 ⟨(Nat.le_of_ble_eq_true rfl), (Nat.le_of_ble_eq_true rfl)⟩) rfl hl.1 rfl (Nat.le_of_ble_eq_true rfl) dX7_lacks_8 ⟨(Nat.le_of_ble_eq_true rfl), (Nat.le_of_ble_eq_true rfl)⟩ (fun z2 H locs ez2 hw => ?_)
  refine lv_imul X.1 X.2.1 dX7_lacks_11 ?_
  refine lv_aload_n X.1 X.2.1 dX7_lacks_12 rfl (lv_at hl 0 rfl) ?_
  refine lv_bipush (v := (6 : Int32)) X.1 X.2.1 dX7_lacks_13 (by decide) ?_
  refine m_callVI_p X K hw (k_X7_sumOf l G S V (6 : Int32) hp0.1.2 (by unfold vp_in; decide)) (g_cwV X hiX7_sumOf q968 q970 q34 q74 q971 ⟨(Nat.le_of_ble_eq_true rfl), (Nat.le_of_ble_eq_true rfl)⟩) rfl hl.1 rfl (Nat.le_of_ble_eq_true rfl) dX7_lacks_15 ⟨(Nat.le_of_ble_eq_true rfl), (Nat.le_of_ble_eq_true rfl)⟩ (fun z3 H locs ez3 hw => ?_)
  refine lv_isub X.1 X.2.1 dX7_lacks_18 ?_
  refine lv_aload_n X.1 X.2.1 dX7_lacks_19 rfl (lv_at hl 0 rfl) ?_
  refine lv_iconst (v := (4 : Int32)) X.1 X.2.1 dX7_lacks_20 (by decide) ?_
  refine m_callVI_p X K hw (k_X7_sumOf l G S V (4 : Int32) hp0.1.2 (by unfold vp_in; decide)) (g_cwV X hiX7_sumOf q968 q970 q34 q74 q971 ⟨(Nat.le_of_ble_eq_true rfl), (Nat.le_of_ble_eq_true rfl)⟩) rfl hl.1 rfl (Nat.le_of_ble_eq_true rfl) dX7_lacks_21 ⟨(Nat.le_of_ble_eq_true rfl), (Nat.le_of_ble_eq_true rfl)⟩ (fun z4 H locs ez4 hw => ?_)
  refine lv_isub X.1 X.2.1 dX7_lacks_24 ?_
  have hR : (((S 1 1) * z2) - z3) - z4 = tgt := by
    rw [← hF]
    subst ez2 ez3 ez4
    simp only [f7_lacks]
  exact g_iret X hret hlk hw hR rfl dX7_lacks_25
set_option maxHeartbeats 4000000 in
set_option maxRecDepth 10000 in
theorem k_X7_owes (l : Launch) (G : tt_G) (S : tt_St) (V : Int64) (hp0 : mi S) : m_MI l G yX7_owes (g_code yX7_owes cX7_owes 5 (some FieldType.int)) 1 22 [.ref (mm_ad G 0)] S V ((f7_owes S).1) ((f7_owes S).2) V := by
  generalize hF : f7_owes S = tgt
  refine g_begin rfl (Nat.le_of_ble_eq_true rfl) _ (fun p e s m below meth c ls X hret hlk hB hl => ?_)
  obtain ⟨hP0, K⟩ := hB
  have hw : m_W G S V s s.heap [] := ⟨hP0, va_S.rf⟩
  have X : CallFix p m c cX7_owes 5 s ([.ref (mm_ad G 0)] : List Value).toArray tt_T "TrustTinModel" := X
  have hl : lv_has ls 5 [(0, .ref (mm_ad G 0))] := hl
  refine lv_iconst (v := (-1 : Int32)) X.1 X.2.1 dX7_owes_0 (by decide) ?_
  refine lv_istore_n (lv' := [(1, .int (-1 : Int32)), (0, .ref (mm_ad G 0))]) X.1 X.2.1 dX7_owes_1 rfl hl (by decide) rfl (fun ls hl => ?_)
  refine lv_iconst (v := (0 : Int32)) X.1 X.2.1 dX7_owes_2 (by decide) ?_
  refine lv_istore_n (lv' := [(2, .int (0 : Int32)), (1, .int (-1 : Int32)), (0, .ref (mm_ad G 0))]) X.1 X.2.1 dX7_owes_3 rfl hl (by decide) rfl (fun ls hl => ?_)
  refine lv_iconst (v := (0 : Int32)) X.1 X.2.1 dX7_owes_4 (by decide) ?_
  refine lv_istore_n (lv' := [(3, .int (0 : Int32)), (2, .int (0 : Int32)), (1, .int (-1 : Int32)), (0, .ref (mm_ad G 0))]) X.1 X.2.1 dX7_owes_5 rfl hl (by decide) rfl (fun ls hl => ?_)
  have j6 : ∀ (n : Nat) (S1 : tt_St) (y1_6 : Int32) (y2_6 : Int32) (y3_6 : Int32) (H : Heap) (locs : List Loc) (ls : Array Slot), ((¬ y3_6 < 0) ∧ S1 = S) → lp_mu (S1 1 0) y3_6 < n → f7_owes_L6 n S1 y1_6 y2_6 y3_6 = tgt → m_W G S1 V s H locs → lv_has ls 5 [(0, .ref (mm_ad G 0)), (1, .int y1_6), (2, .int y2_6), (3, .int y3_6)] → W p l e (g_rm 1 22) s m ([.ref (mm_ad G 0)] : List Value).toArray below meth c H locs 0 0 (MQ below (va_Qi (fun r T => r = tgt.1 ∧ T = (tgt.2, V)) (g_Post G 10 (mm_ad G) (mm_cell G)) (g_in 10 (mm_ad G))) ([.ref (mm_ad G 0)] : List Value).toArray s 0 0 (g_in 10 (mm_ad G))) (F0 m 6 ls []) := by
    intro n
    induction n with
    | zero => intro S1 y1_6 y2_6 y3_6 H locs ls hI hm; exact absurd hm (Nat.not_lt_zero _)
    | succ n ih =>
      intro S1 y1_6 y2_6 y3_6 H locs ls hI hm hF hw hl
      refine lv_iload_n X.1 X.2.1 dX7_owes_6 rfl (lv_at hl 3 rfl) ?_
      refine lv_aload_n X.1 X.2.1 dX7_owes_7 rfl (lv_at hl 0 rfl) ?_
      refine m_get X K hw 0 (by decide) q836 rfl dX7_owes_8 ?_
      refine lv_iconst (v := (0 : Int32)) X.1 X.2.1 dX7_owes_11 (by decide) ?_
      have hi2 : vp_in (0 : Int32) 132 := by unfold vp_in; decide
      refine g_ialdL (j := 0) X K hw (by decide) mm_e1 hi2 rfl dX7_owes_12 ?_
      refine lv_icmp_ge (tgt := 60) X.1 X.2.1 dX7_owes_13 (by decide) (fun c3 => ?_) (fun c3 => ?_)
      · refine lv_iload_n X.1 X.2.1 dX7_owes_60 rfl (lv_at hl 1 rfl) ?_
        refine lv_if_ge (tgt := 72) X.1 X.2.1 dX7_owes_61 (by decide) (fun c4 => ?_) (fun c4 => ?_)
        · refine lv_iload_n X.1 X.2.1 dX7_owes_72 rfl (lv_at hl 1 rfl) ?_
          have hR : (y1_6, S1) = tgt := by
            rw [← hF]
            simp only [f7_owes_L6, if_pos c3, if_pos c4]
          have hRR : y1_6 = tgt.1 := pr1 hR
          have hRS : S1 = tgt.2 := pr2 hR
          exact g_iret X hret hlk hw hRR (congrArg (fun z => (z, V)) hRS) dX7_owes_73
        · refine lv_aload_n X.1 X.2.1 dX7_owes_64 rfl (lv_at hl 0 rfl) ?_
          refine lv_iconst (v := (3 : Int32)) X.1 X.2.1 dX7_owes_65 (by decide) ?_
          refine m_callVI_s X K hw (k_X7_finds l G S1 V (3 : Int32) (by unfold vp_in; decide)) (g_cwV X hiX7_finds q912 q914 q29 q74 q915 ⟨(Nat.le_of_ble_eq_true rfl), (Nat.le_of_ble_eq_true rfl)⟩) rfl hl.1 rfl (Nat.le_of_ble_eq_true rfl) dX7_owes_66 ⟨(Nat.le_of_ble_eq_true rfl), (Nat.le_of_ble_eq_true rfl)⟩ (fun z5 S6 H locs ez5 eS6 hw => ?_)
          refine lv_goto (tgt := 73) X.1 X.2.1 dX7_owes_69 (by decide) ?_
          have hR : (z5, S6) = tgt := by
            rw [← hF]
            subst ez5 eS6
            simp only [f7_owes_L6, if_pos c3, if_neg c4]
          have hRR : z5 = tgt.1 := pr1 hR
          have hRS : S6 = tgt.2 := pr2 hR
          exact g_iret X hret hlk hw hRR (congrArg (fun z => (z, V)) hRS) dX7_owes_73
      · refine lv_aload_n X.1 X.2.1 dX7_owes_16 rfl (lv_at hl 0 rfl) ?_
        refine m_get X K hw 0 (by decide) q836 rfl dX7_owes_17 ?_
        refine lv_iconst (v := (1 : Int32)) X.1 X.2.1 dX7_owes_20 (by decide) ?_
        have hi7 : vp_in (1 : Int32) 132 := by unfold vp_in; decide
        refine g_ialdL (j := 1) X K hw (by decide) mm_e1 hi7 rfl dX7_owes_21 ?_
        refine lv_aload_n X.1 X.2.1 dX7_owes_22 rfl (lv_at hl 0 rfl) ?_
        refine lv_iload_n X.1 X.2.1 dX7_owes_23 rfl (lv_at hl 3 rfl) ?_
        refine lv_iconst (v := (5 : Int32)) X.1 X.2.1 dX7_owes_24 (by decide) ?_
        refine m_callVI_p X K hw (k_X7_its l G S1 V y3_6 (5 : Int32) (lp_in hI.1 c3 (by rw [hI.2]; exact hp0.1.2)) (by unfold vp_in; decide)) (g_cwV X hiX7_its q933 q935 q33 q74 q936 ⟨(Nat.le_of_ble_eq_true rfl), (Nat.le_of_ble_eq_true rfl)⟩) rfl hl.1 rfl (Nat.le_of_ble_eq_true rfl) dX7_owes_25 ⟨(Nat.le_of_ble_eq_true rfl), (Nat.le_of_ble_eq_true rfl)⟩ (fun z8 H locs ez8 hw => ?_)
        refine lv_imul X.1 X.2.1 dX7_owes_28 ?_
        refine lv_aload_n X.1 X.2.1 dX7_owes_29 rfl (lv_at hl 0 rfl) ?_
        refine lv_iload_n X.1 X.2.1 dX7_owes_30 rfl (lv_at hl 3 rfl) ?_
        refine lv_bipush (v := (6 : Int32)) X.1 X.2.1 dX7_owes_31 (by decide) ?_
        refine m_callVI_p X K hw (k_X7_its l G S1 V y3_6 (6 : Int32) (lp_in hI.1 c3 (by rw [hI.2]; exact hp0.1.2)) (by unfold vp_in; decide)) (g_cwV X hiX7_its q933 q935 q33 q74 q936 ⟨(Nat.le_of_ble_eq_true rfl), (Nat.le_of_ble_eq_true rfl)⟩) rfl hl.1 rfl (Nat.le_of_ble_eq_true rfl) dX7_owes_33 ⟨(Nat.le_of_ble_eq_true rfl), (Nat.le_of_ble_eq_true rfl)⟩ (fun z9 H locs ez9 hw => ?_)
        refine lv_isub X.1 X.2.1 dX7_owes_36 ?_
        refine lv_topi (fun x10 ex10 => ?_)
        refine lv_istore (lv' := [(4, .int x10), (0, .ref (mm_ad G 0)), (1, .int y1_6), (2, .int y2_6), (3, .int y3_6)]) X.1 X.2.1 dX7_owes_37 hl (by decide) rfl (fun ls hl => ?_)
        refine lv_iload_n X.1 X.2.1 dX7_owes_39 rfl (lv_at hl 2 rfl) ?_
        refine lv_if_lt (tgt := 49) X.1 X.2.1 dX7_owes_40 (by decide) (fun c11 => ?_) (fun c11 => ?_)
        · refine lv_iload_n X.1 X.2.1 dX7_owes_49 rfl (lv_at hl 4 rfl) ?_
          refine lv_istore_n (lv' := [(1, .int y3_6), (4, .int x10), (0, .ref (mm_ad G 0)), (2, .int y2_6), (3, .int y3_6)]) X.1 X.2.1 dX7_owes_50 rfl hl (by decide) rfl (fun ls hl => ?_)
          refine lv_iload X.1 X.2.1 dX7_owes_51 (lv_at hl 1 rfl) ?_
          refine lv_istore_n (lv' := [(2, .int x10), (1, .int y3_6), (4, .int x10), (0, .ref (mm_ad G 0)), (3, .int y3_6)]) X.1 X.2.1 dX7_owes_53 rfl hl (by decide) rfl (fun ls hl => ?_)
          obtain ⟨x12, ex12⟩ : ∃ y : Int32, y = y3_6 + (1 : Int32) := ⟨_, rfl⟩
          refine lv_iinc (v := x12) (lv' := [(3, .int x12), (2, .int x10), (1, .int y3_6), (4, .int x10), (0, .ref (mm_ad G 0))]) X.1 X.2.1 dX7_owes_54 hl (k := 4) rfl (by rw [ex12]; rfl) (by decide) rfl (fun ls hl => ?_)
          refine lv_goto (tgt := 6) X.1 X.2.1 dX7_owes_57 (by decide) ?_
          have hF2 : f7_owes_L6 n S1 y3_6 x10 x12 = tgt := by
            rw [← hF]
            subst ez8 ez9 ex10 ex12
            simp only [f7_owes_L6, if_neg c3, if_pos c11]
          exact ih S1 y3_6 x10 x12 _ _ ls (⟨by rw [ex12]; exact lp_nn hI.1 c3, hI.2⟩) (by rw [ex12]; exact lp_dec' c3 hm) hF2 hw (lv_sub hl [4, 2, 1, 0] rfl)
        · refine lv_iload X.1 X.2.1 dX7_owes_43 (lv_at hl 0 rfl) ?_
          refine lv_iload_n X.1 X.2.1 dX7_owes_45 rfl (lv_at hl 3 rfl) ?_
          refine lv_icmp_le (tgt := 54) X.1 X.2.1 dX7_owes_46 (by decide) (fun c13 => ?_) (fun c13 => ?_)
          · obtain ⟨x14, ex14⟩ : ∃ y : Int32, y = y3_6 + (1 : Int32) := ⟨_, rfl⟩
            refine lv_iinc (v := x14) (lv' := [(3, .int x14), (4, .int x10), (0, .ref (mm_ad G 0)), (1, .int y1_6), (2, .int y2_6)]) X.1 X.2.1 dX7_owes_54 hl (k := 4) rfl (by rw [ex14]; rfl) (by decide) rfl (fun ls hl => ?_)
            refine lv_goto (tgt := 6) X.1 X.2.1 dX7_owes_57 (by decide) ?_
            have hF2 : f7_owes_L6 n S1 y1_6 y2_6 x14 = tgt := by
              rw [← hF]
              subst ez8 ez9 ex10 ex14
              simp only [f7_owes_L6, if_neg c3, if_neg c11, if_pos c13]
            exact ih S1 y1_6 y2_6 x14 _ _ ls (⟨by rw [ex14]; exact lp_nn hI.1 c3, hI.2⟩) (by rw [ex14]; exact lp_dec' c3 hm) hF2 hw (lv_sub hl [2, 3, 4, 0] rfl)
          · refine lv_iload_n X.1 X.2.1 dX7_owes_49 rfl (lv_at hl 4 rfl) ?_
            refine lv_istore_n (lv' := [(1, .int y3_6), (4, .int x10), (0, .ref (mm_ad G 0)), (2, .int y2_6), (3, .int y3_6)]) X.1 X.2.1 dX7_owes_50 rfl hl (by decide) rfl (fun ls hl => ?_)
            refine lv_iload X.1 X.2.1 dX7_owes_51 (lv_at hl 1 rfl) ?_
            refine lv_istore_n (lv' := [(2, .int x10), (1, .int y3_6), (4, .int x10), (0, .ref (mm_ad G 0)), (3, .int y3_6)]) X.1 X.2.1 dX7_owes_53 rfl hl (by decide) rfl (fun ls hl => ?_)
            obtain ⟨x15, ex15⟩ : ∃ y : Int32, y = y3_6 + (1 : Int32) := ⟨_, rfl⟩
            refine lv_iinc (v := x15) (lv' := [(3, .int x15), (2, .int x10), (1, .int y3_6), (4, .int x10), (0, .ref (mm_ad G 0))]) X.1 X.2.1 dX7_owes_54 hl (k := 4) rfl (by rw [ex15]; rfl) (by decide) rfl (fun ls hl => ?_)
            refine lv_goto (tgt := 6) X.1 X.2.1 dX7_owes_57 (by decide) ?_
            have hF2 : f7_owes_L6 n S1 y3_6 x10 x15 = tgt := by
              rw [← hF]
              subst ez8 ez9 ex10 ex15
              simp only [f7_owes_L6, if_neg c3, if_neg c11, if_neg c13]
            exact ih S1 y3_6 x10 x15 _ _ ls (⟨by rw [ex15]; exact lp_nn hI.1 c3, hI.2⟩) (by rw [ex15]; exact lp_dec' c3 hm) hF2 hw (lv_sub hl [4, 2, 1, 0] rfl)
  have hF2 : f7_owes_L6 (lp_mu (S 1 0) 0 + 1) S (-1 : Int32) (0 : Int32) (0 : Int32) = tgt := by
    rw [← hF]
    simp only [f7_owes]
  exact j6 (lp_mu (S 1 0) 0 + 1) S (-1 : Int32) (0 : Int32) (0 : Int32) _ _ ls (⟨by decide, rfl⟩) (Nat.lt_succ_self _) hF2 hw (lv_sub hl [3, 2, 1, 0] rfl)
set_option maxHeartbeats 4000000 in
set_option maxRecDepth 10000 in
theorem k_X7_seed (l : Launch) (G : tt_G) (S : tt_St) (V : Int64) (a1 : Int32) (hp0 : mi S) : m_MI l G yX7_seed (g_code yX7_seed cX7_seed 3 (some FieldType.int)) 0 0 [.ref (mm_ad G 0), .int a1] S V ((f7_seed S a1).1) ((f7_seed S a1).2) V := by
  generalize hF : f7_seed S a1 = tgt
  refine g_begin rfl (Nat.le_of_ble_eq_true rfl) _ (fun p e s m below meth c ls X hret hlk hB hl => ?_)
  obtain ⟨hP0, K⟩ := hB
  have hw : m_W G S V s s.heap [] := ⟨hP0, va_S.rf⟩
  have X : CallFix p m c cX7_seed 3 s ([.ref (mm_ad G 0), .int a1] : List Value).toArray tt_T "TrustTinModel" := X
  have hl : lv_has ls 3 [(0, .ref (mm_ad G 0)), (1, .int a1)] := hl
  refine lv_aload_n X.1 X.2.1 dX7_seed_0 rfl (lv_at hl 0 rfl) ?_
  refine m_get X K hw 0 (by decide) q836 rfl dX7_seed_1 ?_
  refine lv_bipush (v := (10 : Int32)) X.1 X.2.1 dX7_seed_4 (by decide) ?_
  have hi1 : vp_in (10 : Int32) 132 := by unfold vp_in; decide
  refine g_ialdL (j := 10) X K hw (by decide) mm_e1 hi1 rfl dX7_seed_6 ?_
  refine lv_topi (fun x2 ex2 => ?_)
  refine lv_istore_n (lv' := [(2, .int x2), (0, .ref (mm_ad G 0)), (1, .int a1)]) X.1 X.2.1 dX7_seed_7 rfl hl (by decide) rfl (fun ls hl => ?_)
  refine lv_aload_n X.1 X.2.1 dX7_seed_8 rfl (lv_at hl 1 rfl) ?_
  refine m_get X K hw 0 (by decide) q836 rfl dX7_seed_9 ?_
  refine lv_bipush (v := (10 : Int32)) X.1 X.2.1 dX7_seed_12 (by decide) ?_
  refine lv_iload_n X.1 X.2.1 dX7_seed_14 rfl (lv_at hl 2 rfl) ?_
  have hi3 : vp_in (10 : Int32) 132 := by unfold vp_in; decide
  refine m_iastL (j := 10) X K hw (by decide) (by decide) (fun _ => mm_e1) hi3 rfl dX7_seed_15 (fun S4 H locs eS4 hw => ?_)
  refine lv_iload_n X.1 X.2.1 dX7_seed_16 rfl (lv_at hl 0 rfl) ?_
  have hR : (x2, S4) = tgt := by
    rw [← hF]
    subst ex2 eS4
    simp only [f7_seed]
  have hRR : x2 = tgt.1 := pr1 hR
  have hRS : S4 = tgt.2 := pr2 hR
  exact g_iret X hret hlk hw hRR (congrArg (fun z => (z, V)) hRS) dX7_seed_17
set_option maxHeartbeats 4000000 in
set_option maxRecDepth 10000 in
theorem k_X7_wipe (l : Launch) (G : tt_G) (S : tt_St) (V : Int64) (hp0 : mi S) : m_MI l G yX7_wipe (g_code yX7_wipe cX7_wipe 2 (some FieldType.int)) 0 0 [.ref (mm_ad G 0)] S V ((f7_wipe S).1) ((f7_wipe S).2) V := by
  generalize hF : f7_wipe S = tgt
  refine g_begin rfl (Nat.le_of_ble_eq_true rfl) _ (fun p e s m below meth c ls X hret hlk hB hl => ?_)
  obtain ⟨hP0, K⟩ := hB
  have hw : m_W G S V s s.heap [] := ⟨hP0, va_S.rf⟩
  have X : CallFix p m c cX7_wipe 2 s ([.ref (mm_ad G 0)] : List Value).toArray tt_T "TrustTinModel" := X
  have hl : lv_has ls 2 [(0, .ref (mm_ad G 0))] := hl
  refine lv_aload_n X.1 X.2.1 dX7_wipe_0 rfl (lv_at hl 0 rfl) ?_
  refine m_get X K hw 6 (by decide) q842 rfl dX7_wipe_1 ?_
  refine lv_topi (fun x1 ex1 => ?_)
  refine lv_istore_n (lv' := [(1, .int x1), (0, .ref (mm_ad G 0))]) X.1 X.2.1 dX7_wipe_4 rfl hl (by decide) rfl (fun ls hl => ?_)
  refine lv_aload_n X.1 X.2.1 dX7_wipe_5 rfl (lv_at hl 1 rfl) ?_
  refine lv_iconst (v := (0 : Int32)) X.1 X.2.1 dX7_wipe_6 (by decide) ?_
  refine m_put X K hw 6 (by decide) q842 rfl rfl rfl dX7_wipe_7 (fun S2 H locs eS2 hw => ?_)
  refine lv_iload_n X.1 X.2.1 dX7_wipe_10 rfl (lv_at hl 0 rfl) ?_
  have hR : (x1, S2) = tgt := by
    rw [← hF]
    subst ex1 eS2
    simp only [f7_wipe]
  have hRR : x1 = tgt.1 := pr1 hR
  have hRS : S2 = tgt.2 := pr2 hR
  exact g_iret X hret hlk hw hRR (congrArg (fun z => (z, V)) hRS) dX7_wipe_11
set_option maxHeartbeats 4000000 in
set_option maxRecDepth 10000 in
theorem k_X7_hold (l : Launch) (G : tt_G) (S : tt_St) (V : Int64) (a1 : Int32) (a2 : Int32) (hp0 : mi S) : m_MI l G yX7_hold (g_code yX7_hold cX7_hold 3 (some FieldType.int)) 2 46 [.ref (mm_ad G 0), .int a1, .int a2] S V ((f7_hold S a1 a2).1) ((f7_hold S a1 a2).2) V := by
  generalize hF : f7_hold S a1 a2 = tgt
  refine g_begin rfl (Nat.le_of_ble_eq_true rfl) _ (fun p e s m below meth c ls X hret hlk hB hl => ?_)
  obtain ⟨hP0, K⟩ := hB
  have hw : m_W G S V s s.heap [] := ⟨hP0, va_S.rf⟩
  have X : CallFix p m c cX7_hold 3 s ([.ref (mm_ad G 0), .int a1, .int a2] : List Value).toArray tt_T "TrustTinModel" := X
  have hl : lv_has ls 3 [(0, .ref (mm_ad G 0)), (1, .int a1), (2, .int a2)] := hl
  refine lv_iload_n X.1 X.2.1 dX7_hold_0 rfl (lv_at hl 1 rfl) ?_
  refine lv_i2l X.1 X.2.1 dX7_hold_1 rfl ?_
  refine lv_lconst (v := (0 : Int64)) X.1 X.2.1 dX7_hold_2 (by decide) ?_
  refine lv_ldc2 (v := (9 : Int64)) X.1 X.2.1 X.2.2.2.1 (X.2.2.2.2 _ q911) dX7_hold_3 ?_
  refine m_callSI_p X K hw (k_X7_in l G S V a1.toInt64 (0 : Int64) (9 : Int64)) (g_cwS X hiX7_in q908 q909 q74 q910 ⟨(Nat.le_of_ble_eq_true rfl), (Nat.le_of_ble_eq_true rfl)⟩) rfl hl.1 rfl (Nat.le_of_ble_eq_true rfl) dX7_hold_6 ⟨(Nat.le_of_ble_eq_true rfl), (Nat.le_of_ble_eq_true rfl)⟩ (fun z1 H locs ez1 hw => ?_)
  refine lv_if_eq (tgt := 25) X.1 X.2.1 dX7_hold_9 (by decide) (fun c2 => ?_) (fun c2 => ?_)
  · refine lv_aload_n X.1 X.2.1 dX7_hold_25 rfl (lv_at hl 0 rfl) ?_
    refine lv_iconst (v := (0 : Int32)) X.1 X.2.1 dX7_hold_26 (by decide) ?_
    refine m_callVI_s X K hw (k_X7_finds l G S V (0 : Int32) (by unfold vp_in; decide)) (g_cwV X hiX7_finds q912 q914 q29 q74 q915 ⟨(Nat.le_of_ble_eq_true rfl), (Nat.le_of_ble_eq_true rfl)⟩) rfl hl.1 rfl (Nat.le_of_ble_eq_true rfl) dX7_hold_27 ⟨(Nat.le_of_ble_eq_true rfl), (Nat.le_of_ble_eq_true rfl)⟩ (fun z3 S4 H locs ez3 eS4 hw => ?_)
    have hR : (z3, S4) = tgt := by
      rw [← hF]
      subst ez1 ez3 eS4
      simp only [f7_hold, if_pos c2]
    have hRR : z3 = tgt.1 := pr1 hR
    have hRS : S4 = tgt.2 := pr2 hR
    exact g_iret X hret hlk hw hRR (congrArg (fun z => (z, V)) hRS) dX7_hold_30
  · refine lv_iload_n X.1 X.2.1 dX7_hold_12 rfl (lv_at hl 2 rfl) ?_
    refine lv_iconst (v := (-1 : Int32)) X.1 X.2.1 dX7_hold_13 (by decide) ?_
    refine lv_icmp_eq (tgt := 31) X.1 X.2.1 dX7_hold_14 (by decide) (fun c5 => ?_) (fun c5 => ?_)
    · refine lv_aload_n X.1 X.2.1 dX7_hold_31 rfl (lv_at hl 0 rfl) ?_
      refine m_get X K hw 0 (by decide) q836 rfl dX7_hold_32 ?_
      refine lv_bipush (v := (122 : Int32)) X.1 X.2.1 dX7_hold_35 (by decide) ?_
      refine lv_iload_n X.1 X.2.1 dX7_hold_37 rfl (lv_at hl 1 rfl) ?_
      refine lv_iadd X.1 X.2.1 dX7_hold_38 ?_
      refine lv_iload_n X.1 X.2.1 dX7_hold_39 rfl (lv_at hl 2 rfl) ?_
      have hi6 : vp_in ((122 : Int32) + a1) 132 := sp_in (in_of ez1 c2 (by decide) (by decide))
      refine m_iast X K hw (by decide) (by decide) (fun _ => mm_e1) hi6 dX7_hold_40 (fun S7 H locs eS7 hw => ?_)
      refine lv_iconst (v := (1 : Int32)) X.1 X.2.1 dX7_hold_41 (by decide) ?_
      have hR : ((1 : Int32), S7) = tgt := by
        rw [← hF]
        subst ez1 eS7
        simp only [f7_hold, if_neg c2, if_pos c5]
      have hRR : (1 : Int32) = tgt.1 := pr1 hR
      have hRS : S7 = tgt.2 := pr2 hR
      exact g_iret X hret hlk hw hRR (congrArg (fun z => (z, V)) hRS) dX7_hold_42
    · refine lv_aload_n X.1 X.2.1 dX7_hold_17 rfl (lv_at hl 0 rfl) ?_
      refine lv_iload_n X.1 X.2.1 dX7_hold_18 rfl (lv_at hl 2 rfl) ?_
      refine m_callVI_p X K hw (k_X7_isDrinker l G S V a2) (g_cwV X hiX7_isDrinker q929 q931 q32 q74 q932 ⟨(Nat.le_of_ble_eq_true rfl), (Nat.le_of_ble_eq_true rfl)⟩) rfl hl.1 rfl (Nat.le_of_ble_eq_true rfl) dX7_hold_19 ⟨(Nat.le_of_ble_eq_true rfl), (Nat.le_of_ble_eq_true rfl)⟩ (fun z8 H locs ez8 hw => ?_)
      refine lv_if_ne (tgt := 31) X.1 X.2.1 dX7_hold_22 (by decide) (fun c9 => ?_) (fun c9 => ?_)
      · refine lv_aload_n X.1 X.2.1 dX7_hold_31 rfl (lv_at hl 0 rfl) ?_
        refine m_get X K hw 0 (by decide) q836 rfl dX7_hold_32 ?_
        refine lv_bipush (v := (122 : Int32)) X.1 X.2.1 dX7_hold_35 (by decide) ?_
        refine lv_iload_n X.1 X.2.1 dX7_hold_37 rfl (lv_at hl 1 rfl) ?_
        refine lv_iadd X.1 X.2.1 dX7_hold_38 ?_
        refine lv_iload_n X.1 X.2.1 dX7_hold_39 rfl (lv_at hl 2 rfl) ?_
        have hi10 : vp_in ((122 : Int32) + a1) 132 := sp_in (in_of ez1 c2 (by decide) (by decide))
        refine m_iast X K hw (by decide) (by decide) (fun _ => mm_e1) hi10 dX7_hold_40 (fun S11 H locs eS11 hw => ?_)
        refine lv_iconst (v := (1 : Int32)) X.1 X.2.1 dX7_hold_41 (by decide) ?_
        have hR : ((1 : Int32), S11) = tgt := by
          rw [← hF]
          subst ez1 ez8 eS11
          simp only [f7_hold, if_neg c2, if_neg c5, if_neg c9]
        have hRR : (1 : Int32) = tgt.1 := pr1 hR
        have hRS : S11 = tgt.2 := pr2 hR
        exact g_iret X hret hlk hw hRR (congrArg (fun z => (z, V)) hRS) dX7_hold_42
      · refine lv_aload_n X.1 X.2.1 dX7_hold_25 rfl (lv_at hl 0 rfl) ?_
        refine lv_iconst (v := (0 : Int32)) X.1 X.2.1 dX7_hold_26 (by decide) ?_
        refine m_callVI_s X K hw (k_X7_finds l G S V (0 : Int32) (by unfold vp_in; decide)) (g_cwV X hiX7_finds q912 q914 q29 q74 q915 ⟨(Nat.le_of_ble_eq_true rfl), (Nat.le_of_ble_eq_true rfl)⟩) rfl hl.1 rfl (Nat.le_of_ble_eq_true rfl) dX7_hold_27 ⟨(Nat.le_of_ble_eq_true rfl), (Nat.le_of_ble_eq_true rfl)⟩ (fun z12 S13 H locs ez12 eS13 hw => ?_)
        have hR : (z12, S13) = tgt := by
          rw [← hF]
          subst ez1 ez8 ez12 eS13
          simp only [f7_hold, if_neg c2, if_neg c5, if_pos c9]
        have hRR : z12 = tgt.1 := pr1 hR
        have hRS : S13 = tgt.2 := pr2 hR
        exact g_iret X hret hlk hw hRR (congrArg (fun z => (z, V)) hRS) dX7_hold_30
set_option maxHeartbeats 4000000 in
set_option maxRecDepth 10000 in
theorem k_X7_as (l : Launch) (G : tt_G) (S : tt_St) (V : Int64) (a1 : Int32) (a2 : Int32) (hp0 : mi S) : m_MI l G yX7_as (g_code yX7_as cX7_as 4 (some FieldType.int)) 1 25 [.ref (mm_ad G 0), .int a1, .int a2] S V ((f7_as S a1 a2).1) ((f7_as S a1 a2).2) V := by
  generalize hF : f7_as S a1 a2 = tgt
  refine g_begin rfl (Nat.le_of_ble_eq_true rfl) _ (fun p e s m below meth c ls X hret hlk hB hl => ?_)
  obtain ⟨hP0, K⟩ := hB
  have hw : m_W G S V s s.heap [] := ⟨hP0, va_S.rf⟩
  have X : CallFix p m c cX7_as 4 s ([.ref (mm_ad G 0), .int a1, .int a2] : List Value).toArray tt_T "TrustTinModel" := X
  have hl : lv_has ls 4 [(0, .ref (mm_ad G 0)), (1, .int a1), (2, .int a2)] := hl
  refine lv_iload_n X.1 X.2.1 dX7_as_0 rfl (lv_at hl 1 rfl) ?_
  refine lv_i2l X.1 X.2.1 dX7_as_1 rfl ?_
  refine lv_lconst (v := (0 : Int64)) X.1 X.2.1 dX7_as_2 (by decide) ?_
  refine lv_ldc2 (v := (9 : Int64)) X.1 X.2.1 X.2.2.2.1 (X.2.2.2.2 _ q911) dX7_as_3 ?_
  refine m_callSI_p X K hw (k_X7_in l G S V a1.toInt64 (0 : Int64) (9 : Int64)) (g_cwS X hiX7_in q908 q909 q74 q910 ⟨(Nat.le_of_ble_eq_true rfl), (Nat.le_of_ble_eq_true rfl)⟩) rfl hl.1 rfl (Nat.le_of_ble_eq_true rfl) dX7_as_6 ⟨(Nat.le_of_ble_eq_true rfl), (Nat.le_of_ble_eq_true rfl)⟩ (fun z1 H locs ez1 hw => ?_)
  refine lv_if_eq (tgt := 24) X.1 X.2.1 dX7_as_9 (by decide) (fun c2 => ?_) (fun c2 => ?_)
  · refine lv_aload_n X.1 X.2.1 dX7_as_24 rfl (lv_at hl 0 rfl) ?_
    refine lv_iconst (v := (0 : Int32)) X.1 X.2.1 dX7_as_25 (by decide) ?_
    refine m_callVI_s X K hw (k_X7_finds l G S V (0 : Int32) (by unfold vp_in; decide)) (g_cwV X hiX7_finds q912 q914 q29 q74 q915 ⟨(Nat.le_of_ble_eq_true rfl), (Nat.le_of_ble_eq_true rfl)⟩) rfl hl.1 rfl (Nat.le_of_ble_eq_true rfl) dX7_as_26 ⟨(Nat.le_of_ble_eq_true rfl), (Nat.le_of_ble_eq_true rfl)⟩ (fun z3 S4 H locs ez3 eS4 hw => ?_)
    have hR : (z3, S4) = tgt := by
      rw [← hF]
      subst ez1 ez3 eS4
      simp only [f7_as, if_pos c2]
    have hRR : z3 = tgt.1 := pr1 hR
    have hRS : S4 = tgt.2 := pr2 hR
    exact g_iret X hret hlk hw hRR (congrArg (fun z => (z, V)) hRS) dX7_as_29
  · refine lv_iload_n X.1 X.2.1 dX7_as_12 rfl (lv_at hl 2 rfl) ?_
    refine lv_i2l X.1 X.2.1 dX7_as_13 rfl ?_
    refine lv_lconst (v := (0 : Int64)) X.1 X.2.1 dX7_as_14 (by decide) ?_
    refine lv_ldc2 (v := (6 : Int64)) X.1 X.2.1 X.2.2.2.1 (X.2.2.2.2 _ q907) dX7_as_15 ?_
    refine m_callSI_p X K hw (k_X7_in l G S V a2.toInt64 (0 : Int64) (6 : Int64)) (g_cwS X hiX7_in q908 q909 q74 q910 ⟨(Nat.le_of_ble_eq_true rfl), (Nat.le_of_ble_eq_true rfl)⟩) rfl hl.1 rfl (Nat.le_of_ble_eq_true rfl) dX7_as_18 ⟨(Nat.le_of_ble_eq_true rfl), (Nat.le_of_ble_eq_true rfl)⟩ (fun z5 H locs ez5 hw => ?_)
    refine lv_if_ne (tgt := 30) X.1 X.2.1 dX7_as_21 (by decide) (fun c6 => ?_) (fun c6 => ?_)
    · refine lv_aload_n X.1 X.2.1 dX7_as_30 rfl (lv_at hl 0 rfl) ?_
      refine m_get X K hw 0 (by decide) q836 rfl dX7_as_31 ?_
      refine lv_bipush (v := (122 : Int32)) X.1 X.2.1 dX7_as_34 (by decide) ?_
      refine lv_iload_n X.1 X.2.1 dX7_as_36 rfl (lv_at hl 1 rfl) ?_
      refine lv_iadd X.1 X.2.1 dX7_as_37 ?_
      have hi7 : vp_in ((122 : Int32) + a1) 132 := sp_in (in_of ez1 c2 (by decide) (by decide))
      refine g_iald X K hw (by decide) mm_e1 hi7 dX7_as_38 ?_
      refine lv_topi (fun x8 ex8 => ?_)
      refine lv_istore_n (lv' := [(3, .int x8), (0, .ref (mm_ad G 0)), (1, .int a1), (2, .int a2)]) X.1 X.2.1 dX7_as_39 rfl hl (by decide) rfl (fun ls hl => ?_)
      refine lv_iload_n X.1 X.2.1 dX7_as_40 rfl (lv_at hl 0 rfl) ?_
      refine lv_if_ge (tgt := 50) X.1 X.2.1 dX7_as_41 (by decide) (fun c9 => ?_) (fun c9 => ?_)
      · refine lv_aload_n X.1 X.2.1 dX7_as_50 rfl (lv_at hl 1 rfl) ?_
        refine lv_iload_n X.1 X.2.1 dX7_as_51 rfl (lv_at hl 0 rfl) ?_
        refine lv_iconst (v := (0 : Int32)) X.1 X.2.1 dX7_as_52 (by decide) ?_
        refine m_callVI_p X K hw (k_X7_its l G S V x8 (0 : Int32) (as_in hp0 (in_of ez1 c2 (by decide) (by decide)) ex8 c9) (by unfold vp_in; decide)) (g_cwV X hiX7_its q933 q935 q33 q74 q936 ⟨(Nat.le_of_ble_eq_true rfl), (Nat.le_of_ble_eq_true rfl)⟩) rfl hl.1 rfl (Nat.le_of_ble_eq_true rfl) dX7_as_53 ⟨(Nat.le_of_ble_eq_true rfl), (Nat.le_of_ble_eq_true rfl)⟩ (fun z10 H locs ez10 hw => ?_)
        refine lv_iload_n X.1 X.2.1 dX7_as_56 rfl (lv_at hl 3 rfl) ?_
        refine m_callSI_p X K hw (k_X7_isOf l G S V z10 a2) (g_cwS X hiX7_isOf q1243 q1244 q74 q1245 ⟨(Nat.le_of_ble_eq_true rfl), (Nat.le_of_ble_eq_true rfl)⟩) rfl hl.1 rfl (Nat.le_of_ble_eq_true rfl) dX7_as_57 ⟨(Nat.le_of_ble_eq_true rfl), (Nat.le_of_ble_eq_true rfl)⟩ (fun z11 H locs ez11 hw => ?_)
        refine lv_if_eq (tgt := 67) X.1 X.2.1 dX7_as_60 (by decide) (fun c12 => ?_) (fun c12 => ?_)
        · refine lv_aload_n X.1 X.2.1 dX7_as_67 rfl (lv_at hl 1 rfl) ?_
          refine lv_iconst (v := (2 : Int32)) X.1 X.2.1 dX7_as_68 (by decide) ?_
          refine m_callVI_s X K hw (k_X7_finds l G S V (2 : Int32) (by unfold vp_in; decide)) (g_cwV X hiX7_finds q912 q914 q29 q74 q915 ⟨(Nat.le_of_ble_eq_true rfl), (Nat.le_of_ble_eq_true rfl)⟩) rfl hl.1 rfl (Nat.le_of_ble_eq_true rfl) dX7_as_69 ⟨(Nat.le_of_ble_eq_true rfl), (Nat.le_of_ble_eq_true rfl)⟩ (fun z13 S14 H locs ez13 eS14 hw => ?_)
          have hR : (z13, S14) = tgt := by
            rw [← hF]
            subst ez1 ez5 ex8 ez10 ez11 ez13 eS14
            simp only [f7_as, if_neg c2, if_neg c6, if_pos c9, if_pos c12]
          have hRR : z13 = tgt.1 := pr1 hR
          have hRS : S14 = tgt.2 := pr2 hR
          exact g_iret X hret hlk hw hRR (congrArg (fun z => (z, V)) hRS) dX7_as_72
        · refine lv_iload_n X.1 X.2.1 dX7_as_63 rfl (lv_at hl 0 rfl) ?_
          refine lv_goto (tgt := 72) X.1 X.2.1 dX7_as_64 (by decide) ?_
          have hR : (x8, S) = tgt := by
            rw [← hF]
            subst ez1 ez5 ex8 ez10 ez11
            simp only [f7_as, if_neg c2, if_neg c6, if_pos c9, if_neg c12]
          have hRR : x8 = tgt.1 := pr1 hR
          have hRS : S = tgt.2 := pr2 hR
          exact g_iret X hret hlk hw hRR (congrArg (fun z => (z, V)) hRS) dX7_as_72
      · refine lv_aload_n X.1 X.2.1 dX7_as_44 rfl (lv_at hl 1 rfl) ?_
        refine lv_iconst (v := (5 : Int32)) X.1 X.2.1 dX7_as_45 (by decide) ?_
        refine m_callVI_s X K hw (k_X7_finds l G S V (5 : Int32) (by unfold vp_in; decide)) (g_cwV X hiX7_finds q912 q914 q29 q74 q915 ⟨(Nat.le_of_ble_eq_true rfl), (Nat.le_of_ble_eq_true rfl)⟩) rfl hl.1 rfl (Nat.le_of_ble_eq_true rfl) dX7_as_46 ⟨(Nat.le_of_ble_eq_true rfl), (Nat.le_of_ble_eq_true rfl)⟩ (fun z15 S16 H locs ez15 eS16 hw => ?_)
        have hR : (z15, S16) = tgt := by
          rw [← hF]
          subst ez1 ez5 ex8 ez15 eS16
          simp only [f7_as, if_neg c2, if_neg c6, if_neg c9]
        have hRR : z15 = tgt.1 := pr1 hR
        have hRS : S16 = tgt.2 := pr2 hR
        exact g_iret X hret hlk hw hRR (congrArg (fun z => (z, V)) hRS) dX7_as_49
    · refine lv_aload_n X.1 X.2.1 dX7_as_24 rfl (lv_at hl 0 rfl) ?_
      refine lv_iconst (v := (0 : Int32)) X.1 X.2.1 dX7_as_25 (by decide) ?_
      refine m_callVI_s X K hw (k_X7_finds l G S V (0 : Int32) (by unfold vp_in; decide)) (g_cwV X hiX7_finds q912 q914 q29 q74 q915 ⟨(Nat.le_of_ble_eq_true rfl), (Nat.le_of_ble_eq_true rfl)⟩) rfl hl.1 rfl (Nat.le_of_ble_eq_true rfl) dX7_as_26 ⟨(Nat.le_of_ble_eq_true rfl), (Nat.le_of_ble_eq_true rfl)⟩ (fun z17 S18 H locs ez17 eS18 hw => ?_)
      have hR : (z17, S18) = tgt := by
        rw [← hF]
        subst ez1 ez5 ez17 eS18
        simp only [f7_as, if_neg c2, if_pos c6]
      have hRR : z17 = tgt.1 := pr1 hR
      have hRS : S18 = tgt.2 := pr2 hR
      exact g_iret X hret hlk hw hRR (congrArg (fun z => (z, V)) hRS) dX7_as_29
set_option maxHeartbeats 4000000 in
set_option maxRecDepth 10000 in
theorem k_X7_image (l : Launch) (G : tt_G) (S : tt_St) (V : Int64) (hp0 : mi S) : m_MI l G yX7_image (g_code yX7_image cX7_image 1 (some FieldType.int)) 1 22 [.ref (mm_ad G 0)] S V ((f7_image S).1) ((f7_image S).2) V := by
  generalize hF : f7_image S = tgt
  refine g_begin rfl (Nat.le_of_ble_eq_true rfl) _ (fun p e s m below meth c ls X hret hlk hB hl => ?_)
  obtain ⟨hP0, K⟩ := hB
  have hw : m_W G S V s s.heap [] := ⟨hP0, va_S.rf⟩
  have X : CallFix p m c cX7_image 1 s ([.ref (mm_ad G 0)] : List Value).toArray tt_T "TrustTinModel" := X
  have hl : lv_has ls 1 [(0, .ref (mm_ad G 0))] := hl
  refine lv_aload_n X.1 X.2.1 dX7_image_0 rfl (lv_at hl 0 rfl) ?_
  refine m_get X K hw 0 (by decide) q836 rfl dX7_image_1 ?_
  refine lv_aload_n X.1 X.2.1 dX7_image_4 rfl (lv_at hl 0 rfl) ?_
  refine m_get X K hw 2 (by decide) q838 rfl dX7_image_5 ?_
  refine m_callSV_s X K hw (k_X7_copies l G S V 1 3 (by decide) (by decide)) (g_cwS X hiX7_copies q1066 q1067 q74 q1068 ⟨(Nat.le_of_ble_eq_true rfl), (Nat.le_of_ble_eq_true rfl)⟩) rfl hl.1 rfl (Nat.le_of_ble_eq_true rfl) dX7_image_8 ⟨(Nat.le_of_ble_eq_true rfl), (Nat.le_of_ble_eq_true rfl)⟩ (fun S1 H locs eS1 hw => ?_)
  refine lv_aload_n X.1 X.2.1 dX7_image_11 rfl (lv_at hl 0 rfl) ?_
  refine lv_iconst (v := (1 : Int32)) X.1 X.2.1 dX7_image_12 (by decide) ?_
  refine m_put X K hw 3 (by decide) q839 rfl rfl rfl dX7_image_13 (fun S2 H locs eS2 hw => ?_)
  refine lv_iconst (v := (1 : Int32)) X.1 X.2.1 dX7_image_16 (by decide) ?_
  have hR : ((1 : Int32), S2) = tgt := by
    rw [← hF]
    subst eS1 eS2
    simp only [f7_image]
  have hRR : (1 : Int32) = tgt.1 := pr1 hR
  have hRS : S2 = tgt.2 := pr2 hR
  exact g_iret X hret hlk hw hRR (congrArg (fun z => (z, V)) hRS) dX7_image_17
set_option maxHeartbeats 4000000 in
set_option maxRecDepth 10000 in
theorem k_X7_undo (l : Launch) (G : tt_G) (S : tt_St) (V : Int64) (hp0 : mi S) : m_MI l G yX7_undo (g_code yX7_undo cX7_undo 1 (some FieldType.int)) 1 22 [.ref (mm_ad G 0)] S V ((f7_undo S).1) ((f7_undo S).2) V := by
  generalize hF : f7_undo S = tgt
  refine g_begin rfl (Nat.le_of_ble_eq_true rfl) _ (fun p e s m below meth c ls X hret hlk hB hl => ?_)
  obtain ⟨hP0, K⟩ := hB
  have hw : m_W G S V s s.heap [] := ⟨hP0, va_S.rf⟩
  have X : CallFix p m c cX7_undo 1 s ([.ref (mm_ad G 0)] : List Value).toArray tt_T "TrustTinModel" := X
  have hl : lv_has ls 1 [(0, .ref (mm_ad G 0))] := hl
  refine lv_aload_n X.1 X.2.1 dX7_undo_0 rfl (lv_at hl 0 rfl) ?_
  refine m_get X K hw 3 (by decide) q839 rfl dX7_undo_1 ?_
  refine lv_if_ne (tgt := 13) X.1 X.2.1 dX7_undo_4 (by decide) (fun c1 => ?_) (fun c1 => ?_)
  · refine lv_aload_n X.1 X.2.1 dX7_undo_13 rfl (lv_at hl 0 rfl) ?_
    refine m_get X K hw 2 (by decide) q838 rfl dX7_undo_14 ?_
    refine lv_aload_n X.1 X.2.1 dX7_undo_17 rfl (lv_at hl 0 rfl) ?_
    refine m_get X K hw 0 (by decide) q836 rfl dX7_undo_18 ?_
    refine m_callSV_s X K hw (k_X7_copies l G S V 3 1 (by decide) (by decide)) (g_cwS X hiX7_copies q1066 q1067 q74 q1068 ⟨(Nat.le_of_ble_eq_true rfl), (Nat.le_of_ble_eq_true rfl)⟩) rfl hl.1 rfl (Nat.le_of_ble_eq_true rfl) dX7_undo_21 ⟨(Nat.le_of_ble_eq_true rfl), (Nat.le_of_ble_eq_true rfl)⟩ (fun S2 H locs eS2 hw => ?_)
    refine lv_aload_n X.1 X.2.1 dX7_undo_24 rfl (lv_at hl 0 rfl) ?_
    refine m_get X K hw 0 (by decide) q836 rfl dX7_undo_25 ?_
    refine lv_bipush (v := (7 : Int32)) X.1 X.2.1 dX7_undo_28 (by decide) ?_
    have hi3 : vp_in (7 : Int32) 132 := by unfold vp_in; decide
    refine g_ialdL (j := 7) X K hw (by decide) mm_e1 hi3 rfl dX7_undo_30 ?_
    have hR : (S2 1 7, S2) = tgt := by
      rw [← hF]
      subst eS2
      simp only [f7_undo, if_neg c1]
    have hRR : S2 1 7 = tgt.1 := pr1 hR
    have hRS : S2 = tgt.2 := pr2 hR
    exact g_iret X hret hlk hw hRR (congrArg (fun z => (z, V)) hRS) dX7_undo_31
  · refine lv_aload_n X.1 X.2.1 dX7_undo_7 rfl (lv_at hl 0 rfl) ?_
    refine lv_iconst (v := (3 : Int32)) X.1 X.2.1 dX7_undo_8 (by decide) ?_
    refine m_callVI_s X K hw (k_X7_finds l G S V (3 : Int32) (by unfold vp_in; decide)) (g_cwV X hiX7_finds q912 q914 q29 q74 q915 ⟨(Nat.le_of_ble_eq_true rfl), (Nat.le_of_ble_eq_true rfl)⟩) rfl hl.1 rfl (Nat.le_of_ble_eq_true rfl) dX7_undo_9 ⟨(Nat.le_of_ble_eq_true rfl), (Nat.le_of_ble_eq_true rfl)⟩ (fun z4 S5 H locs ez4 eS5 hw => ?_)
    have hR : (z4, S5) = tgt := by
      rw [← hF]
      subst ez4 eS5
      simp only [f7_undo, if_pos c1]
    have hRR : z4 = tgt.1 := pr1 hR
    have hRS : S5 = tgt.2 := pr2 hR
    exact g_iret X hret hlk hw hRR (congrArg (fun z => (z, V)) hRS) dX7_undo_12
set_option maxHeartbeats 4000000 in
set_option maxRecDepth 10000 in
theorem k_X7_tear (l : Launch) (G : tt_G) (S : tt_St) (V : Int64) (hp0 : mi S) : m_MI l G yX7_tear (g_code yX7_tear cX7_tear 2 (some FieldType.int)) 0 0 [.ref (mm_ad G 0)] S V ((f7_tear S).1) ((f7_tear S).2) V := by
  generalize hF : f7_tear S = tgt
  refine g_begin rfl (Nat.le_of_ble_eq_true rfl) _ (fun p e s m below meth c ls X hret hlk hB hl => ?_)
  obtain ⟨hP0, K⟩ := hB
  have hw : m_W G S V s s.heap [] := ⟨hP0, va_S.rf⟩
  have X : CallFix p m c cX7_tear 2 s ([.ref (mm_ad G 0)] : List Value).toArray tt_T "TrustTinModel" := X
  have hl : lv_has ls 2 [(0, .ref (mm_ad G 0))] := hl
  refine lv_aload_n X.1 X.2.1 dX7_tear_0 rfl (lv_at hl 0 rfl) ?_
  refine m_get X K hw 3 (by decide) q839 rfl dX7_tear_1 ?_
  refine lv_if_eq (tgt := 11) X.1 X.2.1 dX7_tear_4 (by decide) (fun c1 => ?_) (fun c1 => ?_)
  · refine lv_iconst (v := (0 : Int32)) X.1 X.2.1 dX7_tear_11 (by decide) ?_
    refine lv_istore_n (lv' := [(1, .int (0 : Int32)), (0, .ref (mm_ad G 0))]) X.1 X.2.1 dX7_tear_12 rfl hl (by decide) rfl (fun ls hl => ?_)
    refine lv_aload_n X.1 X.2.1 dX7_tear_13 rfl (lv_at hl 1 rfl) ?_
    refine lv_iconst (v := (0 : Int32)) X.1 X.2.1 dX7_tear_14 (by decide) ?_
    refine m_put X K hw 3 (by decide) q839 rfl rfl rfl dX7_tear_15 (fun S2 H locs eS2 hw => ?_)
    refine lv_iload_n X.1 X.2.1 dX7_tear_18 rfl (lv_at hl 0 rfl) ?_
    have hR : ((0 : Int32), S2) = tgt := by
      rw [← hF]
      subst eS2
      simp only [f7_tear, if_pos c1]
    have hRR : (0 : Int32) = tgt.1 := pr1 hR
    have hRS : S2 = tgt.2 := pr2 hR
    exact g_iret X hret hlk hw hRR (congrArg (fun z => (z, V)) hRS) dX7_tear_19
  · refine lv_iconst (v := (1 : Int32)) X.1 X.2.1 dX7_tear_7 (by decide) ?_
    refine lv_goto (tgt := 12) X.1 X.2.1 dX7_tear_8 (by decide) ?_
    refine lv_istore_n (lv' := [(1, .int (1 : Int32)), (0, .ref (mm_ad G 0))]) X.1 X.2.1 dX7_tear_12 rfl hl (by decide) rfl (fun ls hl => ?_)
    refine lv_aload_n X.1 X.2.1 dX7_tear_13 rfl (lv_at hl 1 rfl) ?_
    refine lv_iconst (v := (0 : Int32)) X.1 X.2.1 dX7_tear_14 (by decide) ?_
    refine m_put X K hw 3 (by decide) q839 rfl rfl rfl dX7_tear_15 (fun S3 H locs eS3 hw => ?_)
    refine lv_iload_n X.1 X.2.1 dX7_tear_18 rfl (lv_at hl 0 rfl) ?_
    have hR : ((1 : Int32), S3) = tgt := by
      rw [← hF]
      subst eS3
      simp only [f7_tear, if_neg c1]
    have hRR : (1 : Int32) = tgt.1 := pr1 hR
    have hRS : S3 = tgt.2 := pr2 hR
    exact g_iret X hret hlk hw hRR (congrArg (fun z => (z, V)) hRS) dX7_tear_19
