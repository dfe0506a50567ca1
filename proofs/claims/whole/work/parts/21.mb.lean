set_option maxHeartbeats 4000000 in
set_option maxRecDepth 10000 in
theorem k_X7_drinkerHere (l : Launch) (G : tt_G) (S : tt_St) (V : Int64) (a1 : Int32) (hp0 : mt S) (hp1 : nb S) : m_MV l G yX7_drinkerHere (g_code yX7_drinkerHere cX7_drinkerHere 6 none) 3 65 [.ref (mm_ad G 0), .int a1] S V ((f7_drinkerHere S V a1).1) ((f7_drinkerHere S V a1).2) := by
  generalize hF : f7_drinkerHere S V a1 = tgt
  refine g_begin rfl (Nat.le_of_ble_eq_true rfl) _ (fun p e s m below meth c ls X hret hlk hB hl => ?_)
  obtain ⟨hP0, K⟩ := hB
  have hw : m_W G S V s s.heap [] := ⟨hP0, va_S.rf⟩
  have X : CallFix p m c cX7_drinkerHere 6 s ([.ref (mm_ad G 0), .int a1] : List Value).toArray tt_T "TrustTinModel" := X
  have hl : lv_has ls 6 [(0, .ref (mm_ad G 0)), (1, .int a1)] := hl
  refine lv_aload_n X.1 X.2.1 dX7_drinkerHere_0 rfl (lv_at hl 0 rfl) ?_
  refine m_get X K hw 0 (by decide) q836 rfl dX7_drinkerHere_1 ?_
  refine lv_iconst (v := (0 : Int32)) X.1 X.2.1 dX7_drinkerHere_4 (by decide) ?_
  have hi1 : vp_in (0 : Int32) 132 := by unfold vp_in; decide
  refine g_ialdL (j := 0) X K hw (by decide) mm_e1 hi1 rfl dX7_drinkerHere_5 ?_
  refine lv_bipush (v := (10 : Int32)) X.1 X.2.1 dX7_drinkerHere_6 (by decide) ?_
  refine lv_icmp_ne (tgt := 16) X.1 X.2.1 dX7_drinkerHere_8 (by decide) (fun c2 => ?_) (fun c2 => ?_)
  · refine lv_aload_n X.1 X.2.1 dX7_drinkerHere_16 rfl (lv_at hl 0 rfl) ?_
    refine m_callVV_sv X K hw (k_X7_next l G S V hp0) (g_cwV X hiX7_next q1160 q1162 q55 q74 q1163 ⟨(Nat.le_of_ble_eq_true rfl), (Nat.le_of_ble_eq_true rfl)⟩) rfl hl.1 rfl (Nat.le_of_ble_eq_true rfl) dX7_drinkerHere_17 ⟨(Nat.le_of_ble_eq_true rfl), (Nat.le_of_ble_eq_true rfl)⟩ (fun S3 V4 H locs eS3 eV4 hw => ?_)
    have t : tx S S := tx_rfl hp0 hp1
    have u : S 1 = S 1 := rfl
    have u : S3 1 = S 1 := (show S3 1 = S 1 from by rw [eS3]; exact n_next _ t.1).trans u
    have t : tx S S3 := tx_tr t (by rw [eS3]; exact tx_next _ t.1 t.2.1)
    refine lv_aload_n X.1 X.2.1 dX7_drinkerHere_20 rfl (lv_at hl 0 rfl) ?_
    refine lv_iconst (v := (1 : Int32)) X.1 X.2.1 dX7_drinkerHere_21 (by decide) ?_
    refine lv_bipush (v := (9 : Int32)) X.1 X.2.1 dX7_drinkerHere_22 (by decide) ?_
    refine m_callVI_sv X K hw (k_X7_number l G S3 V4 (1 : Int32) (9 : Int32) (t.1) (t.2.1)) (g_cwV X hiX7_number q1211 q1213 q62 q74 q1214 ⟨(Nat.le_of_ble_eq_true rfl), (Nat.le_of_ble_eq_true rfl)⟩) rfl hl.1 rfl (Nat.le_of_ble_eq_true rfl) dX7_drinkerHere_24 ⟨(Nat.le_of_ble_eq_true rfl), (Nat.le_of_ble_eq_true rfl)⟩ (fun z5 S6 V7 H locs ez5 eS6 eV7 hw => ?_)
    have u : S6 1 = S 1 := (show S6 1 = S3 1 from by rw [eS6]; exact n_number _ _ _ t.1).trans u
    have t : tx S S6 := tx_tr t (by rw [eS6]; exact tx_number _ _ _ t.1 t.2.1)
    refine lv_istore_n (lv' := [(2, .int z5), (0, .ref (mm_ad G 0)), (1, .int a1)]) X.1 X.2.1 dX7_drinkerHere_27 rfl hl (by decide) rfl (fun ls hl => ?_)
    refine lv_sipush (v := (200 : Int32)) X.1 X.2.1 dX7_drinkerHere_28 (by decide) ?_
    refine lv_istore_n (lv' := [(3, .int (200 : Int32)), (2, .int z5), (0, .ref (mm_ad G 0)), (1, .int a1)]) X.1 X.2.1 dX7_drinkerHere_31 rfl hl (by decide) rfl (fun ls hl => ?_)
    refine lv_bipush (v := (20 : Int32)) X.1 X.2.1 dX7_drinkerHere_32 (by decide) ?_
    refine lv_istore (lv' := [(4, .int (20 : Int32)), (3, .int (200 : Int32)), (2, .int z5), (0, .ref (mm_ad G 0)), (1, .int a1)]) X.1 X.2.1 dX7_drinkerHere_34 hl (by decide) rfl (fun ls hl => ?_)
    refine lv_aload_n X.1 X.2.1 dX7_drinkerHere_36 rfl (lv_at hl 3 rfl) ?_
    refine m_get X K hw 17 (by decide) q853 rfl dX7_drinkerHere_37 ?_
    refine lv_if_ge (tgt := 66) X.1 X.2.1 dX7_drinkerHere_40 (by decide) (fun c8 => ?_) (fun c8 => ?_)
    · refine lv_aload_n X.1 X.2.1 dX7_drinkerHere_66 rfl (lv_at hl 3 rfl) ?_
      refine m_get X K hw 17 (by decide) q853 rfl dX7_drinkerHere_67 ?_
      refine lv_if_ge (tgt := 96) X.1 X.2.1 dX7_drinkerHere_70 (by decide) (fun c9 => ?_) (fun c9 => ?_)
      · refine lv_aload_n X.1 X.2.1 dX7_drinkerHere_96 rfl (lv_at hl 3 rfl) ?_
        refine m_get X K hw 17 (by decide) q853 rfl dX7_drinkerHere_97 ?_
        refine lv_if_ge (tgt := 114) X.1 X.2.1 dX7_drinkerHere_100 (by decide) (fun c10 => ?_) (fun c10 => ?_)
        · have hR : (S6, V7) = tgt := by
            rw [← hF]
            simp only [f7_drinkerHere, ← eS3, ← eV4, ← ez5, ← eS6, ← eV7, if_neg c2, if_pos c8]
          have hRS : S6 = tgt.1 := pr1 hR
          have hRV : V7 = tgt.2 := pr2 hR
          exact g_vret X hret hlk hw (Prod.ext hRS hRV) dX7_drinkerHere_114
        · exact absurd c8 c10
      · exact absurd c8 c9
    · refine lv_aload_n X.1 X.2.1 dX7_drinkerHere_43 rfl (lv_at hl 3 rfl) ?_
      refine m_gets X K hw 7 (by decide) (x := (8930039 : Int64)) rfl q1215 dX7_drinkerHere_44 ?_
      refine m_callVI_p X K hw (k_X7_isWord l G S6 V7 (8930039 : Int64)) (g_cwV X hiX7_isWord q1187 q1189 q59 q74 q1190 ⟨(Nat.le_of_ble_eq_true rfl), (Nat.le_of_ble_eq_true rfl)⟩) rfl hl.1 rfl (Nat.le_of_ble_eq_true rfl) dX7_drinkerHere_47 ⟨(Nat.le_of_ble_eq_true rfl), (Nat.le_of_ble_eq_true rfl)⟩ (fun z11 H locs ez11 hw => ?_)
      refine lv_if_eq (tgt := 66) X.1 X.2.1 dX7_drinkerHere_50 (by decide) (fun c12 => ?_) (fun c12 => ?_)
      · refine lv_aload_n X.1 X.2.1 dX7_drinkerHere_66 rfl (lv_at hl 3 rfl) ?_
        refine m_get X K hw 17 (by decide) q853 rfl dX7_drinkerHere_67 ?_
        refine lv_if_ge (tgt := 96) X.1 X.2.1 dX7_drinkerHere_70 (by decide) (fun c13 => ?_) (fun c13 => ?_)
        · exact absurd c13 c8
        · refine lv_aload_n X.1 X.2.1 dX7_drinkerHere_73 rfl (lv_at hl 3 rfl) ?_
          refine m_gets X K hw 8 (by decide) (x := (6564179 : Int64)) rfl q1217 dX7_drinkerHere_74 ?_
          refine m_callVI_p X K hw (k_X7_isWord l G S6 V7 (6564179 : Int64)) (g_cwV X hiX7_isWord q1187 q1189 q59 q74 q1190 ⟨(Nat.le_of_ble_eq_true rfl), (Nat.le_of_ble_eq_true rfl)⟩) rfl hl.1 rfl (Nat.le_of_ble_eq_true rfl) dX7_drinkerHere_77 ⟨(Nat.le_of_ble_eq_true rfl), (Nat.le_of_ble_eq_true rfl)⟩ (fun z14 H locs ez14 hw => ?_)
          refine lv_if_eq (tgt := 96) X.1 X.2.1 dX7_drinkerHere_80 (by decide) (fun c15 => ?_) (fun c15 => ?_)
          · refine lv_aload_n X.1 X.2.1 dX7_drinkerHere_96 rfl (lv_at hl 3 rfl) ?_
            refine m_get X K hw 17 (by decide) q853 rfl dX7_drinkerHere_97 ?_
            refine lv_if_ge (tgt := 114) X.1 X.2.1 dX7_drinkerHere_100 (by decide) (fun c16 => ?_) (fun c16 => ?_)
            · exact absurd c16 c8
            · refine lv_aload_n X.1 X.2.1 dX7_drinkerHere_103 rfl (lv_at hl 3 rfl) ?_
              refine lv_iload_n X.1 X.2.1 dX7_drinkerHere_104 rfl (lv_at hl 4 rfl) ?_
              refine lv_iload_n X.1 X.2.1 dX7_drinkerHere_105 rfl (lv_at hl 2 rfl) ?_
              refine lv_iload_n X.1 X.2.1 dX7_drinkerHere_106 rfl (lv_at hl 1 rfl) ?_
              refine lv_iload X.1 X.2.1 dX7_drinkerHere_107 (lv_at hl 0 rfl) ?_
              refine m_callVI_s X K hw (k_X7_comes l G S6 V7 a1 z5 (200 : Int32) (20 : Int32) (by rw [u]; exact dk_in hp1 c2)) (g_cwV X hiX7_comes q917 q919 q30 q74 q920 ⟨(Nat.le_of_ble_eq_true rfl), (Nat.le_of_ble_eq_true rfl)⟩) rfl hl.1 rfl (Nat.le_of_ble_eq_true rfl) dX7_drinkerHere_109 ⟨(Nat.le_of_ble_eq_true rfl), (Nat.le_of_ble_eq_true rfl)⟩ (fun z17 S18 H locs ez17 eS18 hw => ?_)
              refine lv_istore (lv' := [(5, .int z17), (4, .int (20 : Int32)), (3, .int (200 : Int32)), (2, .int z5), (0, .ref (mm_ad G 0)), (1, .int a1)]) X.1 X.2.1 dX7_drinkerHere_112 hl (by decide) rfl (fun ls hl => ?_)
              have hR : (S18, V7) = tgt := by
                rw [← hF]
                simp only [f7_drinkerHere, ← eS3, ← eV4, ← ez5, ← eS6, ← eV7, ← ez11, ← ez14, ← ez17, ← eS18, if_neg c2, if_neg c8, if_pos c12, if_pos c15]
              have hRS : S18 = tgt.1 := pr1 hR
              have hRV : V7 = tgt.2 := pr2 hR
              exact g_vret X hret hlk hw (Prod.ext hRS hRV) dX7_drinkerHere_114
          · refine lv_aload_n X.1 X.2.1 dX7_drinkerHere_83 rfl (lv_at hl 3 rfl) ?_
            refine m_callVV_sv X K hw (k_X7_next l G S6 V7 (t.1)) (g_cwV X hiX7_next q1160 q1162 q55 q74 q1163 ⟨(Nat.le_of_ble_eq_true rfl), (Nat.le_of_ble_eq_true rfl)⟩) rfl hl.1 rfl (Nat.le_of_ble_eq_true rfl) dX7_drinkerHere_84 ⟨(Nat.le_of_ble_eq_true rfl), (Nat.le_of_ble_eq_true rfl)⟩ (fun S19 V20 H locs eS19 eV20 hw => ?_)
            have u : S19 1 = S 1 := (show S19 1 = S6 1 from by rw [eS19]; exact n_next _ t.1).trans u
            have t : tx S S19 := tx_tr t (by rw [eS19]; exact tx_next _ t.1 t.2.1)
            refine lv_aload_n X.1 X.2.1 dX7_drinkerHere_87 rfl (lv_at hl 3 rfl) ?_
            refine lv_iconst (v := (0 : Int32)) X.1 X.2.1 dX7_drinkerHere_88 (by decide) ?_
            refine lv_bipush (v := (99 : Int32)) X.1 X.2.1 dX7_drinkerHere_89 (by decide) ?_
            refine m_callVI_sv X K hw (k_X7_number l G S19 V20 (0 : Int32) (99 : Int32) (t.1) (t.2.1)) (g_cwV X hiX7_number q1211 q1213 q62 q74 q1214 ⟨(Nat.le_of_ble_eq_true rfl), (Nat.le_of_ble_eq_true rfl)⟩) rfl hl.1 rfl (Nat.le_of_ble_eq_true rfl) dX7_drinkerHere_91 ⟨(Nat.le_of_ble_eq_true rfl), (Nat.le_of_ble_eq_true rfl)⟩ (fun z21 S22 V23 H locs ez21 eS22 eV23 hw => ?_)
            have u : S22 1 = S 1 := (show S22 1 = S19 1 from by rw [eS22]; exact n_number _ _ _ t.1).trans u
            have t : tx S S22 := tx_tr t (by rw [eS22]; exact tx_number _ _ _ t.1 t.2.1)
            refine lv_istore (lv' := [(4, .int z21), (3, .int (200 : Int32)), (2, .int z5), (0, .ref (mm_ad G 0)), (1, .int a1)]) X.1 X.2.1 dX7_drinkerHere_94 hl (by decide) rfl (fun ls hl => ?_)
            refine lv_aload_n X.1 X.2.1 dX7_drinkerHere_96 rfl (lv_at hl 3 rfl) ?_
            refine m_get X K hw 17 (by decide) q853 rfl dX7_drinkerHere_97 ?_
            refine lv_if_ge (tgt := 114) X.1 X.2.1 dX7_drinkerHere_100 (by decide) (fun c24 => ?_) (fun c24 => ?_)
            · have hR : (S22, V23) = tgt := by
                rw [← hF]
                simp only [f7_drinkerHere, ← eS3, ← eV4, ← ez5, ← eS6, ← eV7, ← ez11, ← ez14, ← eS19, ← eV20, ← ez21, ← eS22, ← eV23, if_neg c2, if_neg c8, if_pos c12, if_neg c15, if_pos c24]
              have hRS : S22 = tgt.1 := pr1 hR
              have hRV : V23 = tgt.2 := pr2 hR
              exact g_vret X hret hlk hw (Prod.ext hRS hRV) dX7_drinkerHere_114
            · refine lv_aload_n X.1 X.2.1 dX7_drinkerHere_103 rfl (lv_at hl 3 rfl) ?_
              refine lv_iload_n X.1 X.2.1 dX7_drinkerHere_104 rfl (lv_at hl 4 rfl) ?_
              refine lv_iload_n X.1 X.2.1 dX7_drinkerHere_105 rfl (lv_at hl 2 rfl) ?_
              refine lv_iload_n X.1 X.2.1 dX7_drinkerHere_106 rfl (lv_at hl 1 rfl) ?_
              refine lv_iload X.1 X.2.1 dX7_drinkerHere_107 (lv_at hl 0 rfl) ?_
              refine m_callVI_s X K hw (k_X7_comes l G S22 V23 a1 z5 (200 : Int32) z21 (by rw [u]; exact dk_in hp1 c2)) (g_cwV X hiX7_comes q917 q919 q30 q74 q920 ⟨(Nat.le_of_ble_eq_true rfl), (Nat.le_of_ble_eq_true rfl)⟩) rfl hl.1 rfl (Nat.le_of_ble_eq_true rfl) dX7_drinkerHere_109 ⟨(Nat.le_of_ble_eq_true rfl), (Nat.le_of_ble_eq_true rfl)⟩ (fun z25 S26 H locs ez25 eS26 hw => ?_)
              refine lv_istore (lv' := [(5, .int z25), (4, .int z21), (3, .int (200 : Int32)), (2, .int z5), (0, .ref (mm_ad G 0)), (1, .int a1)]) X.1 X.2.1 dX7_drinkerHere_112 hl (by decide) rfl (fun ls hl => ?_)
              have hR : (S26, V23) = tgt := by
                rw [← hF]
                simp only [f7_drinkerHere, ← eS3, ← eV4, ← ez5, ← eS6, ← eV7, ← ez11, ← ez14, ← eS19, ← eV20, ← ez21, ← eS22, ← eV23, ← ez25, ← eS26, if_neg c2, if_neg c8, if_pos c12, if_neg c15, if_neg c24]
              have hRS : S26 = tgt.1 := pr1 hR
              have hRV : V23 = tgt.2 := pr2 hR
              exact g_vret X hret hlk hw (Prod.ext hRS hRV) dX7_drinkerHere_114
      · refine lv_aload_n X.1 X.2.1 dX7_drinkerHere_53 rfl (lv_at hl 3 rfl) ?_
        refine m_callVV_sv X K hw (k_X7_next l G S6 V7 (t.1)) (g_cwV X hiX7_next q1160 q1162 q55 q74 q1163 ⟨(Nat.le_of_ble_eq_true rfl), (Nat.le_of_ble_eq_true rfl)⟩) rfl hl.1 rfl (Nat.le_of_ble_eq_true rfl) dX7_drinkerHere_54 ⟨(Nat.le_of_ble_eq_true rfl), (Nat.le_of_ble_eq_true rfl)⟩ (fun S27 V28 H locs eS27 eV28 hw => ?_)
        have u : S27 1 = S 1 := (show S27 1 = S6 1 from by rw [eS27]; exact n_next _ t.1).trans u
        have t : tx S S27 := tx_tr t (by rw [eS27]; exact tx_next _ t.1 t.2.1)
        refine lv_aload_n X.1 X.2.1 dX7_drinkerHere_57 rfl (lv_at hl 3 rfl) ?_
        refine lv_iconst (v := (0 : Int32)) X.1 X.2.1 dX7_drinkerHere_58 (by decide) ?_
        refine lv_sipush (v := (9999 : Int32)) X.1 X.2.1 dX7_drinkerHere_59 (by decide) ?_
        refine m_callVI_sv X K hw (k_X7_number l G S27 V28 (0 : Int32) (9999 : Int32) (t.1) (t.2.1)) (g_cwV X hiX7_number q1211 q1213 q62 q74 q1214 ⟨(Nat.le_of_ble_eq_true rfl), (Nat.le_of_ble_eq_true rfl)⟩) rfl hl.1 rfl (Nat.le_of_ble_eq_true rfl) dX7_drinkerHere_62 ⟨(Nat.le_of_ble_eq_true rfl), (Nat.le_of_ble_eq_true rfl)⟩ (fun z29 S30 V31 H locs ez29 eS30 eV31 hw => ?_)
        have u : S30 1 = S 1 := (show S30 1 = S27 1 from by rw [eS30]; exact n_number _ _ _ t.1).trans u
        have t : tx S S30 := tx_tr t (by rw [eS30]; exact tx_number _ _ _ t.1 t.2.1)
        refine lv_istore_n (lv' := [(3, .int z29), (4, .int (20 : Int32)), (2, .int z5), (0, .ref (mm_ad G 0)), (1, .int a1)]) X.1 X.2.1 dX7_drinkerHere_65 rfl hl (by decide) rfl (fun ls hl => ?_)
        refine lv_aload_n X.1 X.2.1 dX7_drinkerHere_66 rfl (lv_at hl 3 rfl) ?_
        refine m_get X K hw 17 (by decide) q853 rfl dX7_drinkerHere_67 ?_
        refine lv_if_ge (tgt := 96) X.1 X.2.1 dX7_drinkerHere_70 (by decide) (fun c32 => ?_) (fun c32 => ?_)
        · refine lv_aload_n X.1 X.2.1 dX7_drinkerHere_96 rfl (lv_at hl 3 rfl) ?_
          refine m_get X K hw 17 (by decide) q853 rfl dX7_drinkerHere_97 ?_
          refine lv_if_ge (tgt := 114) X.1 X.2.1 dX7_drinkerHere_100 (by decide) (fun c33 => ?_) (fun c33 => ?_)
          · have hR : (S30, V31) = tgt := by
              rw [← hF]
              simp only [f7_drinkerHere, ← eS3, ← eV4, ← ez5, ← eS6, ← eV7, ← ez11, ← eS27, ← eV28, ← ez29, ← eS30, ← eV31, if_neg c2, if_neg c8, if_neg c12, if_pos c32]
            have hRS : S30 = tgt.1 := pr1 hR
            have hRV : V31 = tgt.2 := pr2 hR
            exact g_vret X hret hlk hw (Prod.ext hRS hRV) dX7_drinkerHere_114
          · exact absurd c32 c33
        · refine lv_aload_n X.1 X.2.1 dX7_drinkerHere_73 rfl (lv_at hl 3 rfl) ?_
          refine m_gets X K hw 8 (by decide) (x := (6564179 : Int64)) rfl q1217 dX7_drinkerHere_74 ?_
          refine m_callVI_p X K hw (k_X7_isWord l G S30 V31 (6564179 : Int64)) (g_cwV X hiX7_isWord q1187 q1189 q59 q74 q1190 ⟨(Nat.le_of_ble_eq_true rfl), (Nat.le_of_ble_eq_true rfl)⟩) rfl hl.1 rfl (Nat.le_of_ble_eq_true rfl) dX7_drinkerHere_77 ⟨(Nat.le_of_ble_eq_true rfl), (Nat.le_of_ble_eq_true rfl)⟩ (fun z34 H locs ez34 hw => ?_)
          refine lv_if_eq (tgt := 96) X.1 X.2.1 dX7_drinkerHere_80 (by decide) (fun c35 => ?_) (fun c35 => ?_)
          · refine lv_aload_n X.1 X.2.1 dX7_drinkerHere_96 rfl (lv_at hl 3 rfl) ?_
            refine m_get X K hw 17 (by decide) q853 rfl dX7_drinkerHere_97 ?_
            refine lv_if_ge (tgt := 114) X.1 X.2.1 dX7_drinkerHere_100 (by decide) (fun c36 => ?_) (fun c36 => ?_)
            · exact absurd c36 c32
            · refine lv_aload_n X.1 X.2.1 dX7_drinkerHere_103 rfl (lv_at hl 3 rfl) ?_
              refine lv_iload_n X.1 X.2.1 dX7_drinkerHere_104 rfl (lv_at hl 4 rfl) ?_
              refine lv_iload_n X.1 X.2.1 dX7_drinkerHere_105 rfl (lv_at hl 2 rfl) ?_
              refine lv_iload_n X.1 X.2.1 dX7_drinkerHere_106 rfl (lv_at hl 0 rfl) ?_
              refine lv_iload X.1 X.2.1 dX7_drinkerHere_107 (lv_at hl 1 rfl) ?_
              refine m_callVI_s X K hw (k_X7_comes l G S30 V31 a1 z5 z29 (20 : Int32) (by rw [u]; exact dk_in hp1 c2)) (g_cwV X hiX7_comes q917 q919 q30 q74 q920 ⟨(Nat.le_of_ble_eq_true rfl), (Nat.le_of_ble_eq_true rfl)⟩) rfl hl.1 rfl (Nat.le_of_ble_eq_true rfl) dX7_drinkerHere_109 ⟨(Nat.le_of_ble_eq_true rfl), (Nat.le_of_ble_eq_true rfl)⟩ (fun z37 S38 H locs ez37 eS38 hw => ?_)
              refine lv_istore (lv' := [(5, .int z37), (3, .int z29), (4, .int (20 : Int32)), (2, .int z5), (0, .ref (mm_ad G 0)), (1, .int a1)]) X.1 X.2.1 dX7_drinkerHere_112 hl (by decide) rfl (fun ls hl => ?_)
              have hR : (S38, V31) = tgt := by
                rw [← hF]
                simp only [f7_drinkerHere, ← eS3, ← eV4, ← ez5, ← eS6, ← eV7, ← ez11, ← eS27, ← eV28, ← ez29, ← eS30, ← eV31, ← ez34, ← ez37, ← eS38, if_neg c2, if_neg c8, if_neg c12, if_neg c32, if_pos c35]
              have hRS : S38 = tgt.1 := pr1 hR
              have hRV : V31 = tgt.2 := pr2 hR
              exact g_vret X hret hlk hw (Prod.ext hRS hRV) dX7_drinkerHere_114
          · refine lv_aload_n X.1 X.2.1 dX7_drinkerHere_83 rfl (lv_at hl 3 rfl) ?_
            refine m_callVV_sv X K hw (k_X7_next l G S30 V31 (t.1)) (g_cwV X hiX7_next q1160 q1162 q55 q74 q1163 ⟨(Nat.le_of_ble_eq_true rfl), (Nat.le_of_ble_eq_true rfl)⟩) rfl hl.1 rfl (Nat.le_of_ble_eq_true rfl) dX7_drinkerHere_84 ⟨(Nat.le_of_ble_eq_true rfl), (Nat.le_of_ble_eq_true rfl)⟩ (fun S39 V40 H locs eS39 eV40 hw => ?_)
            have u : S39 1 = S 1 := (show S39 1 = S30 1 from by rw [eS39]; exact n_next _ t.1).trans u
            have t : tx S S39 := tx_tr t (by rw [eS39]; exact tx_next _ t.1 t.2.1)
            refine lv_aload_n X.1 X.2.1 dX7_drinkerHere_87 rfl (lv_at hl 3 rfl) ?_
            refine lv_iconst (v := (0 : Int32)) X.1 X.2.1 dX7_drinkerHere_88 (by decide) ?_
            refine lv_bipush (v := (99 : Int32)) X.1 X.2.1 dX7_drinkerHere_89 (by decide) ?_
            refine m_callVI_sv X K hw (k_X7_number l G S39 V40 (0 : Int32) (99 : Int32) (t.1) (t.2.1)) (g_cwV X hiX7_number q1211 q1213 q62 q74 q1214 ⟨(Nat.le_of_ble_eq_true rfl), (Nat.le_of_ble_eq_true rfl)⟩) rfl hl.1 rfl (Nat.le_of_ble_eq_true rfl) dX7_drinkerHere_91 ⟨(Nat.le_of_ble_eq_true rfl), (Nat.le_of_ble_eq_true rfl)⟩ (fun z41 S42 V43 H locs ez41 eS42 eV43 hw => ?_)
            have u : S42 1 = S 1 := (show S42 1 = S39 1 from by rw [eS42]; exact n_number _ _ _ t.1).trans u
            have t : tx S S42 := tx_tr t (by rw [eS42]; exact tx_number _ _ _ t.1 t.2.1)
            refine lv_istore (lv' := [(4, .int z41), (3, .int z29), (2, .int z5), (0, .ref (mm_ad G 0)), (1, .int a1)]) X.1 X.2.1 dX7_drinkerHere_94 hl (by decide) rfl (fun ls hl => ?_)
            refine lv_aload_n X.1 X.2.1 dX7_drinkerHere_96 rfl (lv_at hl 3 rfl) ?_
            refine m_get X K hw 17 (by decide) q853 rfl dX7_drinkerHere_97 ?_
            refine lv_if_ge (tgt := 114) X.1 X.2.1 dX7_drinkerHere_100 (by decide) (fun c44 => ?_) (fun c44 => ?_)
            · have hR : (S42, V43) = tgt := by
                rw [← hF]
                simp only [f7_drinkerHere, ← eS3, ← eV4, ← ez5, ← eS6, ← eV7, ← ez11, ← eS27, ← eV28, ← ez29, ← eS30, ← eV31, ← ez34, ← eS39, ← eV40, ← ez41, ← eS42, ← eV43, if_neg c2, if_neg c8, if_neg c12, if_neg c32, if_neg c35, if_pos c44]
              have hRS : S42 = tgt.1 := pr1 hR
              have hRV : V43 = tgt.2 := pr2 hR
              exact g_vret X hret hlk hw (Prod.ext hRS hRV) dX7_drinkerHere_114
            · refine lv_aload_n X.1 X.2.1 dX7_drinkerHere_103 rfl (lv_at hl 3 rfl) ?_
              refine lv_iload_n X.1 X.2.1 dX7_drinkerHere_104 rfl (lv_at hl 4 rfl) ?_
              refine lv_iload_n X.1 X.2.1 dX7_drinkerHere_105 rfl (lv_at hl 2 rfl) ?_
              refine lv_iload_n X.1 X.2.1 dX7_drinkerHere_106 rfl (lv_at hl 1 rfl) ?_
              refine lv_iload X.1 X.2.1 dX7_drinkerHere_107 (lv_at hl 0 rfl) ?_
              refine m_callVI_s X K hw (k_X7_comes l G S42 V43 a1 z5 z29 z41 (by rw [u]; exact dk_in hp1 c2)) (g_cwV X hiX7_comes q917 q919 q30 q74 q920 ⟨(Nat.le_of_ble_eq_true rfl), (Nat.le_of_ble_eq_true rfl)⟩) rfl hl.1 rfl (Nat.le_of_ble_eq_true rfl) dX7_drinkerHere_109 ⟨(Nat.le_of_ble_eq_true rfl), (Nat.le_of_ble_eq_true rfl)⟩ (fun z45 S46 H locs ez45 eS46 hw => ?_)
              refine lv_istore (lv' := [(5, .int z45), (4, .int z41), (3, .int z29), (2, .int z5), (0, .ref (mm_ad G 0)), (1, .int a1)]) X.1 X.2.1 dX7_drinkerHere_112 hl (by decide) rfl (fun ls hl => ?_)
              have hR : (S46, V43) = tgt := by
                rw [← hF]
                simp only [f7_drinkerHere, ← eS3, ← eV4, ← ez5, ← eS6, ← eV7, ← ez11, ← eS27, ← eV28, ← ez29, ← eS30, ← eV31, ← ez34, ← eS39, ← eV40, ← ez41, ← eS42, ← eV43, ← ez45, ← eS46, if_neg c2, if_neg c8, if_neg c12, if_neg c32, if_neg c35, if_neg c44]
              have hRS : S46 = tgt.1 := pr1 hR
              have hRV : V43 = tgt.2 := pr2 hR
              exact g_vret X hret hlk hw (Prod.ext hRS hRV) dX7_drinkerHere_114
  · refine lv_aload_n X.1 X.2.1 dX7_drinkerHere_11 rfl (lv_at hl 0 rfl) ?_
    refine m_callVV_s X K hw (k_X7_wrongHere l G S V) (g_cwV X hiX7_wrongHere q1207 q1209 q61 q74 q1210 ⟨(Nat.le_of_ble_eq_true rfl), (Nat.le_of_ble_eq_true rfl)⟩) rfl hl.1 rfl (Nat.le_of_ble_eq_true rfl) dX7_drinkerHere_12 ⟨(Nat.le_of_ble_eq_true rfl), (Nat.le_of_ble_eq_true rfl)⟩ (fun S47 H locs eS47 hw => ?_)
    have hR : (S47, V) = tgt := by
      rw [← hF]
      simp only [f7_drinkerHere, ← eS47, if_pos c2]
    have hRS : S47 = tgt.1 := pr1 hR
    have hRV : V = tgt.2 := pr2 hR
    exact g_vret X hret hlk hw (Prod.ext hRS hRV) dX7_drinkerHere_15
