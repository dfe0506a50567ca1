set_option maxHeartbeats 4000000 in
set_option maxRecDepth 10000 in
theorem k_X5_readDrinker (l : Launch) (G : tt_G) (S : tt_St) (r : Nat) (a2 : Int32) (hr : r < 3) (hp0 : tz r S) : c_MI l G yX5_readDrinker (g_code yX5_readDrinker cX5_readDrinker 4 (some FieldType.boolean)) 6 129 [.ref (G.2.2 58), .ref (G.2.2 (30 + r)), .int a2] S ((f5_readDrinker S r a2).1) ((f5_readDrinker S r a2).2) := by
  generalize hF : f5_readDrinker S r a2 = tgt
  refine g_begin rfl (Nat.le_of_ble_eq_true rfl) _ (fun p e s m below meth c ls X hret hlk hB hl => ?_)
  obtain ⟨hP0, K⟩ := hB
  have hw : c_W G S s s.heap [] := ⟨hP0, va_S.rf⟩
  have X : CallFix p m c cX5_readDrinker 4 s ([.ref (G.2.2 58), .ref (G.2.2 (30 + r)), .int a2] : List Value).toArray tt_T "TrustTin$TextReader" := X
  have hl : lv_has ls 4 [(0, .ref (G.2.2 58)), (1, .ref (G.2.2 (30 + r))), (2, .int a2)] := hl
  refine lv_aload_n X.1 X.2.1 dX5_readDrinker_0 rfl (lv_at hl 0 rfl) ?_
  refine c_callVV_s X K hw (k_X5_advance l G S (hp0.1)) (g_cwV X hiX5_advance q611 q613 q16 q72 q614 ⟨(Nat.le_of_ble_eq_true rfl), (Nat.le_of_ble_eq_true rfl)⟩) (by decide) tt_eRd rfl rfl hl.1 rfl (Nat.le_of_ble_eq_true rfl) dX5_readDrinker_1 ⟨(Nat.le_of_ble_eq_true rfl), (Nat.le_of_ble_eq_true rfl)⟩ (fun S1 H locs eS1 hw => ?_)
  have t : tz r S1 := by rw [eS1]; exact tz_adv hr hp0
  refine lv_aload_n X.1 X.2.1 dX5_readDrinker_4 rfl (lv_at hl 0 rfl) ?_
  refine lv_iconst (v := (1 : Int32)) X.1 X.2.1 dX5_readDrinker_5 (by decide) ?_
  refine lv_bipush (v := (9 : Int32)) X.1 X.2.1 dX5_readDrinker_6 (by decide) ?_
  refine c_callVI_s X K hw (k_X5_takeNumber l G S1 (1 : Int32) (9 : Int32) (t.1)) (g_cwV X hiX5_takeNumber q708 q710 q24 q72 q711 ⟨(Nat.le_of_ble_eq_true rfl), (Nat.le_of_ble_eq_true rfl)⟩) (by decide) tt_eRd rfl rfl hl.1 rfl (Nat.le_of_ble_eq_true rfl) dX5_readDrinker_8 ⟨(Nat.le_of_ble_eq_true rfl), (Nat.le_of_ble_eq_true rfl)⟩ (fun z2 S3 H locs ez2 eS3 hw => ?_)
  have t : tz r S3 := by rw [eS3]; exact tz_num hr t
  refine lv_if_ne (tgt := 16) X.1 X.2.1 dX5_readDrinker_11 (by decide) (fun c4 => ?_) (fun c4 => ?_)
  · refine lv_aload_n X.1 X.2.1 dX5_readDrinker_16 rfl (lv_at hl 1 rfl) ?_
    refine lv_iload_n X.1 X.2.1 dX5_readDrinker_17 rfl (lv_at hl 2 rfl) ?_
    refine lv_aload_n X.1 X.2.1 dX5_readDrinker_18 rfl (lv_at hl 0 rfl) ?_
    refine g_get (v := .int (S3 3 6)) X K hw (by decide) tt_eRd rfl iT5 5 (by decide) q246 rfl dX5_readDrinker_19 ?_
    refine c_callVR_s X K hw (k_X2_addDrinker l G S3 r a2 (S3 3 6) hr (t.2.1)) (g_cwV X hiX2_addDrinker q713 q318 q319 q68 q320 ⟨(Nat.le_of_ble_eq_true rfl), (Nat.le_of_ble_eq_true rfl)⟩) (by omega) (tt_eR (r := r) hr) rfl rfl hl.1 rfl (Nat.le_of_ble_eq_true rfl) dX5_readDrinker_22 ⟨(Nat.le_of_ble_eq_true rfl), (Nat.le_of_ble_eq_true rfl)⟩ (fun S5 H locs eS5 hw => ?_)
    have hdr := ad_dr (a := a2) (b := S3 3 6) t.2.1
    have t : tz r S5 := by rw [eS5]; exact tz_ad hr t
    have hd7 : (f2_addDrinker S3 r a2 (S3 3 6)).1 < 10 := hdr
    refine lv_astore_n (lv' := [(3, .ref (G.2.2 (10 * r + (f2_addDrinker S3 r a2 (S3 3 6)).1))), (0, .ref (G.2.2 58)), (1, .ref (G.2.2 (30 + r))), (2, .int a2)]) X.1 X.2.1 dX5_readDrinker_25 rfl hl (by decide) rfl (fun ls hl => ?_)
    refine lv_aload_n X.1 X.2.1 dX5_readDrinker_26 rfl (lv_at hl 1 rfl) ?_
    refine va_ldcS X.1 X.2.1 X.2.2.2.1 (K.2.2.2.1.2 10 (by decide)) dX5_readDrinker_27 ?_
    refine c_callVI_s X K hw (k_X5_takeWord l G S5 10 (by decide) (t.1)) (g_cwV X hiX5_takeWord q715 q717 q25 q72 q718 ⟨(Nat.le_of_ble_eq_true rfl), (Nat.le_of_ble_eq_true rfl)⟩) (by decide) tt_eRd rfl rfl hl.1 rfl (Nat.le_of_ble_eq_true rfl) dX5_readDrinker_29 ⟨(Nat.le_of_ble_eq_true rfl), (Nat.le_of_ble_eq_true rfl)⟩ (fun z8 S9 H locs ez8 eS9 hw => ?_)
    have t : tz r S9 := by rw [eS9]; exact tz_w hr t
    refine lv_if_eq (tgt := 56) X.1 X.2.1 dX5_readDrinker_32 (by decide) (fun c10 => ?_) (fun c10 => ?_)
    · refine lv_aload_n X.1 X.2.1 dX5_readDrinker_56 rfl (lv_at hl 1 rfl) ?_
      refine va_ldcS X.1 X.2.1 X.2.2.2.1 (K.2.2.2.1.2 11 (by decide)) dX5_readDrinker_57 ?_
      refine c_callVI_s X K hw (k_X5_takeWord l G S9 11 (by decide) (by first | exact t.1 | (rw [eS9]; exact (tz_14 hr t).1))) (g_cwV X hiX5_takeWord q715 q717 q25 q72 q718 ⟨(Nat.le_of_ble_eq_true rfl), (Nat.le_of_ble_eq_true rfl)⟩) (by decide) tt_eRd rfl rfl hl.1 rfl (Nat.le_of_ble_eq_true rfl) dX5_readDrinker_59 ⟨(Nat.le_of_ble_eq_true rfl), (Nat.le_of_ble_eq_true rfl)⟩ (fun z11 S12 H locs ez11 eS12 hw => ?_)
      have t : tz r S12 := by rw [eS12]; exact (by first | exact tz_w hr t | exact tz_w hr (by rw [eS9]; exact tz_14 hr t))
      refine lv_if_eq (tgt := 85) X.1 X.2.1 dX5_readDrinker_62 (by decide) (fun c13 => ?_) (fun c13 => ?_)
      · refine lv_iconst (v := (1 : Int32)) X.1 X.2.1 dX5_readDrinker_85 (by decide) ?_
        have hR : ((1 : Int32), S12) = tgt := by
          rw [← hF]
          simp only [f5_readDrinker, ← eS1, ← ez2, ← eS3, ← eS5, ← ez8, ← eS9, ← ez11, ← eS12, if_neg c4, if_pos c10, if_pos c13]
        have hRR : (1 : Int32) = tgt.1 := pr1 hR
        have hRS : S12 = tgt.2 := pr2 hR
        exact g_zret X hret hlk hw rfl hRR hRS dX5_readDrinker_86
      · refine lv_aload_n X.1 X.2.1 dX5_readDrinker_65 rfl (lv_at hl 1 rfl) ?_
        refine lv_iconst (v := (0 : Int32)) X.1 X.2.1 dX5_readDrinker_66 (by decide) ?_
        refine lv_bipush (v := (99 : Int32)) X.1 X.2.1 dX5_readDrinker_67 (by decide) ?_
        refine c_callVI_s X K hw (k_X5_takeNumber l G S12 (0 : Int32) (99 : Int32) (t.1)) (g_cwV X hiX5_takeNumber q708 q710 q24 q72 q711 ⟨(Nat.le_of_ble_eq_true rfl), (Nat.le_of_ble_eq_true rfl)⟩) (by decide) tt_eRd rfl rfl hl.1 rfl (Nat.le_of_ble_eq_true rfl) dX5_readDrinker_69 ⟨(Nat.le_of_ble_eq_true rfl), (Nat.le_of_ble_eq_true rfl)⟩ (fun z14 S15 H locs ez14 eS15 hw => ?_)
        have t : tz r S15 := by rw [eS15]; exact tz_num hr t
        refine lv_if_ne (tgt := 77) X.1 X.2.1 dX5_readDrinker_72 (by decide) (fun c16 => ?_) (fun c16 => ?_)
        · refine lv_aload_n X.1 X.2.1 dX5_readDrinker_77 rfl (lv_at hl 0 rfl) ?_
          refine lv_aload_n X.1 X.2.1 dX5_readDrinker_78 rfl (lv_at hl 1 rfl) ?_
          refine g_get (v := .int (S15 3 6)) X K hw (by decide) tt_eRd rfl iT5 5 (by decide) q246 rfl dX5_readDrinker_79 ?_
          refine lv_topi (fun x17 ex17 => ?_)
          refine g_put (S' := tt_up S15 r (15 + 7 * (f2_addDrinker S3 r a2 (S3 3 6)).1) x17) X K (c_ap K) hw (by have := hr; have := hd7; omega) (tt_eD (r := r) (d := (f2_addDrinker S3 r a2 (S3 3 6)).1) hr hd7) rfl iT1 tyX1_ok nmX1 3 (by decide) q133 rfl rfl rfl (Nat.le_of_ble_eq_true rfl) (tt_sD (r := r) (d := (f2_addDrinker S3 r a2 (S3 3 6)).1) (k := 3) hr hd7 (by decide)) dX5_readDrinker_82 (fun S18 H locs eS18 hw => ?_)
          refine lv_iconst (v := (1 : Int32)) X.1 X.2.1 dX5_readDrinker_85 (by decide) ?_
          have hR : ((1 : Int32), S18) = tgt := by
            rw [← hF]
            subst ex17
            simp only [f5_readDrinker, ← eS1, ← ez2, ← eS3, ← eS5, ← ez8, ← eS9, ← ez11, ← eS12, ← ez14, ← eS15, ← eS18, if_neg c4, if_pos c10, if_neg c13, if_neg c16]
          have hRR : (1 : Int32) = tgt.1 := pr1 hR
          have hRS : S18 = tgt.2 := pr2 hR
          exact g_zret X hret hlk hw rfl hRR hRS dX5_readDrinker_86
        · refine lv_iconst (v := (0 : Int32)) X.1 X.2.1 dX5_readDrinker_75 (by decide) ?_
          have hR : ((0 : Int32), S15) = tgt := by
            rw [← hF]
            simp only [f5_readDrinker, ← eS1, ← ez2, ← eS3, ← eS5, ← ez8, ← eS9, ← ez11, ← eS12, ← ez14, ← eS15, if_neg c4, if_pos c10, if_neg c13, if_pos c16]
          have hRR : (0 : Int32) = tgt.1 := pr1 hR
          have hRS : S15 = tgt.2 := pr2 hR
          exact g_zret X hret hlk hw rfl hRR hRS dX5_readDrinker_76
    · refine lv_aload_n X.1 X.2.1 dX5_readDrinker_35 rfl (lv_at hl 1 rfl) ?_
      refine lv_iconst (v := (0 : Int32)) X.1 X.2.1 dX5_readDrinker_36 (by decide) ?_
      refine lv_sipush (v := (9999 : Int32)) X.1 X.2.1 dX5_readDrinker_37 (by decide) ?_
      refine c_callVI_s X K hw (k_X5_takeNumber l G S9 (0 : Int32) (9999 : Int32) (t.1)) (g_cwV X hiX5_takeNumber q708 q710 q24 q72 q711 ⟨(Nat.le_of_ble_eq_true rfl), (Nat.le_of_ble_eq_true rfl)⟩) (by decide) tt_eRd rfl rfl hl.1 rfl (Nat.le_of_ble_eq_true rfl) dX5_readDrinker_40 ⟨(Nat.le_of_ble_eq_true rfl), (Nat.le_of_ble_eq_true rfl)⟩ (fun z19 S20 H locs ez19 eS20 hw => ?_)
      have t : tz r S20 := by rw [eS20]; exact tz_num hr t
      refine lv_if_ne (tgt := 48) X.1 X.2.1 dX5_readDrinker_43 (by decide) (fun c21 => ?_) (fun c21 => ?_)
      · refine lv_aload_n X.1 X.2.1 dX5_readDrinker_48 rfl (lv_at hl 0 rfl) ?_
        refine lv_aload_n X.1 X.2.1 dX5_readDrinker_49 rfl (lv_at hl 1 rfl) ?_
        refine g_get (v := .int (S20 3 6)) X K hw (by decide) tt_eRd rfl iT5 5 (by decide) q246 rfl dX5_readDrinker_50 ?_
        refine lv_topi (fun x22 ex22 => ?_)
        refine g_put (S' := tt_up S20 r (14 + 7 * (f2_addDrinker S3 r a2 (S3 3 6)).1) x22) X K (c_ap K) hw (by have := hr; have := hd7; omega) (tt_eD (r := r) (d := (f2_addDrinker S3 r a2 (S3 3 6)).1) hr hd7) rfl iT1 tyX1_ok nmX1 2 (by decide) q129 rfl rfl rfl (Nat.le_of_ble_eq_true rfl) (tt_sD (r := r) (d := (f2_addDrinker S3 r a2 (S3 3 6)).1) (k := 2) hr hd7 (by decide)) dX5_readDrinker_53 (fun S23 H locs eS23 hw => ?_)
        refine lv_aload_n X.1 X.2.1 dX5_readDrinker_56 rfl (lv_at hl 1 rfl) ?_
        refine va_ldcS X.1 X.2.1 X.2.2.2.1 (K.2.2.2.1.2 11 (by decide)) dX5_readDrinker_57 ?_
        refine c_callVI_s X K hw (k_X5_takeWord l G S23 11 (by decide) (by first | exact t.1 | (rw [eS23]; exact (tz_14 hr t).1))) (g_cwV X hiX5_takeWord q715 q717 q25 q72 q718 ⟨(Nat.le_of_ble_eq_true rfl), (Nat.le_of_ble_eq_true rfl)⟩) (by decide) tt_eRd rfl rfl hl.1 rfl (Nat.le_of_ble_eq_true rfl) dX5_readDrinker_59 ⟨(Nat.le_of_ble_eq_true rfl), (Nat.le_of_ble_eq_true rfl)⟩ (fun z24 S25 H locs ez24 eS25 hw => ?_)
        have t : tz r S25 := by rw [eS25]; exact (by first | exact tz_w hr t | exact tz_w hr (by rw [eS23]; exact tz_14 hr t))
        refine lv_if_eq (tgt := 85) X.1 X.2.1 dX5_readDrinker_62 (by decide) (fun c26 => ?_) (fun c26 => ?_)
        · refine lv_iconst (v := (1 : Int32)) X.1 X.2.1 dX5_readDrinker_85 (by decide) ?_
          have hR : ((1 : Int32), S25) = tgt := by
            rw [← hF]
            subst ex22
            simp only [f5_readDrinker, ← eS1, ← ez2, ← eS3, ← eS5, ← ez8, ← eS9, ← ez19, ← eS20, ← eS23, ← ez24, ← eS25, if_neg c4, if_neg c10, if_neg c21, if_pos c26]
          have hRR : (1 : Int32) = tgt.1 := pr1 hR
          have hRS : S25 = tgt.2 := pr2 hR
          exact g_zret X hret hlk hw rfl hRR hRS dX5_readDrinker_86
        · refine lv_aload_n X.1 X.2.1 dX5_readDrinker_65 rfl (lv_at hl 1 rfl) ?_
          refine lv_iconst (v := (0 : Int32)) X.1 X.2.1 dX5_readDrinker_66 (by decide) ?_
          refine lv_bipush (v := (99 : Int32)) X.1 X.2.1 dX5_readDrinker_67 (by decide) ?_
          refine c_callVI_s X K hw (k_X5_takeNumber l G S25 (0 : Int32) (99 : Int32) (t.1)) (g_cwV X hiX5_takeNumber q708 q710 q24 q72 q711 ⟨(Nat.le_of_ble_eq_true rfl), (Nat.le_of_ble_eq_true rfl)⟩) (by decide) tt_eRd rfl rfl hl.1 rfl (Nat.le_of_ble_eq_true rfl) dX5_readDrinker_69 ⟨(Nat.le_of_ble_eq_true rfl), (Nat.le_of_ble_eq_true rfl)⟩ (fun z27 S28 H locs ez27 eS28 hw => ?_)
          have t : tz r S28 := by rw [eS28]; exact tz_num hr t
          refine lv_if_ne (tgt := 77) X.1 X.2.1 dX5_readDrinker_72 (by decide) (fun c29 => ?_) (fun c29 => ?_)
          · refine lv_aload_n X.1 X.2.1 dX5_readDrinker_77 rfl (lv_at hl 0 rfl) ?_
            refine lv_aload_n X.1 X.2.1 dX5_readDrinker_78 rfl (lv_at hl 1 rfl) ?_
            refine g_get (v := .int (S28 3 6)) X K hw (by decide) tt_eRd rfl iT5 5 (by decide) q246 rfl dX5_readDrinker_79 ?_
            refine lv_topi (fun x30 ex30 => ?_)
            refine g_put (S' := tt_up S28 r (15 + 7 * (f2_addDrinker S3 r a2 (S3 3 6)).1) x30) X K (c_ap K) hw (by have := hr; have := hd7; omega) (tt_eD (r := r) (d := (f2_addDrinker S3 r a2 (S3 3 6)).1) hr hd7) rfl iT1 tyX1_ok nmX1 3 (by decide) q133 rfl rfl rfl (Nat.le_of_ble_eq_true rfl) (tt_sD (r := r) (d := (f2_addDrinker S3 r a2 (S3 3 6)).1) (k := 3) hr hd7 (by decide)) dX5_readDrinker_82 (fun S31 H locs eS31 hw => ?_)
            refine lv_iconst (v := (1 : Int32)) X.1 X.2.1 dX5_readDrinker_85 (by decide) ?_
            have hR : ((1 : Int32), S31) = tgt := by
              rw [← hF]
              subst ex22 ex30
              simp only [f5_readDrinker, ← eS1, ← ez2, ← eS3, ← eS5, ← ez8, ← eS9, ← ez19, ← eS20, ← eS23, ← ez24, ← eS25, ← ez27, ← eS28, ← eS31, if_neg c4, if_neg c10, if_neg c21, if_neg c26, if_neg c29]
            have hRR : (1 : Int32) = tgt.1 := pr1 hR
            have hRS : S31 = tgt.2 := pr2 hR
            exact g_zret X hret hlk hw rfl hRR hRS dX5_readDrinker_86
          · refine lv_iconst (v := (0 : Int32)) X.1 X.2.1 dX5_readDrinker_75 (by decide) ?_
            have hR : ((0 : Int32), S28) = tgt := by
              rw [← hF]
              subst ex22
              simp only [f5_readDrinker, ← eS1, ← ez2, ← eS3, ← eS5, ← ez8, ← eS9, ← ez19, ← eS20, ← eS23, ← ez24, ← eS25, ← ez27, ← eS28, if_neg c4, if_neg c10, if_neg c21, if_neg c26, if_pos c29]
            have hRR : (0 : Int32) = tgt.1 := pr1 hR
            have hRS : S28 = tgt.2 := pr2 hR
            exact g_zret X hret hlk hw rfl hRR hRS dX5_readDrinker_76
      · refine lv_iconst (v := (0 : Int32)) X.1 X.2.1 dX5_readDrinker_46 (by decide) ?_
        have hR : ((0 : Int32), S20) = tgt := by
          rw [← hF]
          simp only [f5_readDrinker, ← eS1, ← ez2, ← eS3, ← eS5, ← ez8, ← eS9, ← ez19, ← eS20, if_neg c4, if_neg c10, if_pos c21]
        have hRR : (0 : Int32) = tgt.1 := pr1 hR
        have hRS : S20 = tgt.2 := pr2 hR
        exact g_zret X hret hlk hw rfl hRR hRS dX5_readDrinker_47
  · refine lv_iconst (v := (0 : Int32)) X.1 X.2.1 dX5_readDrinker_14 (by decide) ?_
    have hR : ((0 : Int32), S3) = tgt := by
      rw [← hF]
      simp only [f5_readDrinker, ← eS1, ← ez2, ← eS3, if_pos c4]
    have hRR : (0 : Int32) = tgt.1 := pr1 hR
    have hRS : S3 = tgt.2 := pr2 hR
    exact g_zret X hret hlk hw rfl hRR hRS dX5_readDrinker_15
