set_option maxHeartbeats 4000000 in
set_option maxRecDepth 10000 in
theorem k_X7_signHere (l : Launch) (G : tt_G) (S : tt_St) (V : Int64) (hp0 : mt S) (hp1 : nb S) : m_MV l G yX7_signHere (g_code yX7_signHere cX7_signHere 2 none) 2 42 [.ref (mm_ad G 0)] S V ((f7_signHere S V).1) ((f7_signHere S V).2) := by
  generalize hF : f7_signHere S V = tgt
  refine g_begin rfl (Nat.le_of_ble_eq_true rfl) _ (fun p e s m below meth c ls X hret hlk hB hl => ?_)
  obtain ⟨hP0, K⟩ := hB
  have hw : m_W G S V s s.heap [] := ⟨hP0, va_S.rf⟩
  have X : CallFix p m c cX7_signHere 2 s ([.ref (mm_ad G 0)] : List Value).toArray tt_T "TrustTinModel" := X
  have hl : lv_has ls 2 [(0, .ref (mm_ad G 0))] := hl
  refine lv_aload_n X.1 X.2.1 dX7_signHere_0 rfl (lv_at hl 0 rfl) ?_
  refine m_gets X K hw 12 (by decide) (x := (286880 : Int64)) rfl q1229 dX7_signHere_1 ?_
  refine m_callVI_p X K hw (k_X7_isWord l G S V (286880 : Int64)) (g_cwV X hiX7_isWord q1187 q1189 q59 q74 q1190 ⟨(Nat.le_of_ble_eq_true rfl), (Nat.le_of_ble_eq_true rfl)⟩) rfl hl.1 rfl (Nat.le_of_ble_eq_true rfl) dX7_signHere_4 ⟨(Nat.le_of_ble_eq_true rfl), (Nat.le_of_ble_eq_true rfl)⟩ (fun z1 H locs ez1 hw => ?_)
  refine lv_if_eq (tgt := 14) X.1 X.2.1 dX7_signHere_7 (by decide) (fun c2 => ?_) (fun c2 => ?_)
  · refine lv_aload_n X.1 X.2.1 dX7_signHere_14 rfl (lv_at hl 0 rfl) ?_
    refine m_gets X K hw 13 (by decide) (x := (2505138292 : Int64)) rfl q1231 dX7_signHere_15 ?_
    refine m_callVI_p X K hw (k_X7_isWord l G S V (2505138292 : Int64)) (g_cwV X hiX7_isWord q1187 q1189 q59 q74 q1190 ⟨(Nat.le_of_ble_eq_true rfl), (Nat.le_of_ble_eq_true rfl)⟩) rfl hl.1 rfl (Nat.le_of_ble_eq_true rfl) dX7_signHere_18 ⟨(Nat.le_of_ble_eq_true rfl), (Nat.le_of_ble_eq_true rfl)⟩ (fun z3 H locs ez3 hw => ?_)
    refine lv_if_eq (tgt := 28) X.1 X.2.1 dX7_signHere_21 (by decide) (fun c4 => ?_) (fun c4 => ?_)
    · refine lv_aload_n X.1 X.2.1 dX7_signHere_28 rfl (lv_at hl 0 rfl) ?_
      refine m_gets X K hw 14 (by decide) (x := (116794 : Int64)) rfl q1233 dX7_signHere_29 ?_
      refine m_callVI_p X K hw (k_X7_isWord l G S V (116794 : Int64)) (g_cwV X hiX7_isWord q1187 q1189 q59 q74 q1190 ⟨(Nat.le_of_ble_eq_true rfl), (Nat.le_of_ble_eq_true rfl)⟩) rfl hl.1 rfl (Nat.le_of_ble_eq_true rfl) dX7_signHere_32 ⟨(Nat.le_of_ble_eq_true rfl), (Nat.le_of_ble_eq_true rfl)⟩ (fun z5 H locs ez5 hw => ?_)
      refine lv_if_eq (tgt := 42) X.1 X.2.1 dX7_signHere_35 (by decide) (fun c6 => ?_) (fun c6 => ?_)
      · refine lv_iconst (v := (-1 : Int32)) X.1 X.2.1 dX7_signHere_42 (by decide) ?_
        refine lv_istore_n (lv' := [(1, .int (-1 : Int32)), (0, .ref (mm_ad G 0))]) X.1 X.2.1 dX7_signHere_43 rfl hl (by decide) rfl (fun ls hl => ?_)
        refine lv_iload_n X.1 X.2.1 dX7_signHere_44 rfl (lv_at hl 0 rfl) ?_
        refine lv_if_ge (tgt := 53) X.1 X.2.1 dX7_signHere_45 (by decide) (fun c7 => ?_) (fun c7 => ?_)
        · exact absurd c7 (by decide)
        · refine lv_aload_n X.1 X.2.1 dX7_signHere_48 rfl (lv_at hl 1 rfl) ?_
          refine m_callVV_s X K hw (k_X7_wrongHere l G S V) (g_cwV X hiX7_wrongHere q1207 q1209 q61 q74 q1210 ⟨(Nat.le_of_ble_eq_true rfl), (Nat.le_of_ble_eq_true rfl)⟩) rfl hl.1 rfl (Nat.le_of_ble_eq_true rfl) dX7_signHere_49 ⟨(Nat.le_of_ble_eq_true rfl), (Nat.le_of_ble_eq_true rfl)⟩ (fun S8 H locs eS8 hw => ?_)
          have hR : (S8, V) = tgt := by
            rw [← hF]
            subst ez1 ez3 ez5 eS8
            simp only [f7_signHere, if_pos c2, if_pos c4, if_pos c6]
          have hRS : S8 = tgt.1 := pr1 hR
          have hRV : V = tgt.2 := pr2 hR
          exact g_vret X hret hlk hw (Prod.ext hRS hRV) dX7_signHere_52
      · refine lv_iconst (v := (2 : Int32)) X.1 X.2.1 dX7_signHere_38 (by decide) ?_
        refine lv_goto (tgt := 43) X.1 X.2.1 dX7_signHere_39 (by decide) ?_
        refine lv_istore_n (lv' := [(1, .int (2 : Int32)), (0, .ref (mm_ad G 0))]) X.1 X.2.1 dX7_signHere_43 rfl hl (by decide) rfl (fun ls hl => ?_)
        refine lv_iload_n X.1 X.2.1 dX7_signHere_44 rfl (lv_at hl 0 rfl) ?_
        refine lv_if_ge (tgt := 53) X.1 X.2.1 dX7_signHere_45 (by decide) (fun c9 => ?_) (fun c9 => ?_)
        · refine lv_aload_n X.1 X.2.1 dX7_signHere_53 rfl (lv_at hl 1 rfl) ?_
          refine m_get X K hw 0 (by decide) q836 rfl dX7_signHere_54 ?_
          refine lv_iconst (v := (5 : Int32)) X.1 X.2.1 dX7_signHere_57 (by decide) ?_
          refine lv_iload_n X.1 X.2.1 dX7_signHere_58 rfl (lv_at hl 0 rfl) ?_
          have hi10 : vp_in (5 : Int32) 132 := by unfold vp_in; decide
          refine m_iastL (j := 5) X K hw (by decide) (by decide) (fun _ => mm_e1) hi10 rfl dX7_signHere_59 (fun S11 H locs eS11 hw => ?_)
          refine lv_aload_n X.1 X.2.1 dX7_signHere_60 rfl (lv_at hl 1 rfl) ?_
          refine m_callVV_sv X K hw (k_X7_next l G S11 V (by subst ez1 ez3 ez5 eS11; exact mt_row1 hp0)) (g_cwV X hiX7_next q1160 q1162 q55 q74 q1163 ⟨(Nat.le_of_ble_eq_true rfl), (Nat.le_of_ble_eq_true rfl)⟩) rfl hl.1 rfl (Nat.le_of_ble_eq_true rfl) dX7_signHere_61 ⟨(Nat.le_of_ble_eq_true rfl), (Nat.le_of_ble_eq_true rfl)⟩ (fun S12 V13 H locs eS12 eV13 hw => ?_)
          have hR : (S12, V13) = tgt := by
            rw [← hF]
            subst ez1 ez3 ez5 eS11 eS12 eV13
            simp only [f7_signHere, if_pos c2, if_pos c4, if_neg c6]
          have hRS : S12 = tgt.1 := pr1 hR
          have hRV : V13 = tgt.2 := pr2 hR
          exact g_vret X hret hlk hw (Prod.ext hRS hRV) dX7_signHere_64
        · exact absurd (by decide) c9
    · refine lv_iconst (v := (1 : Int32)) X.1 X.2.1 dX7_signHere_24 (by decide) ?_
      refine lv_goto (tgt := 43) X.1 X.2.1 dX7_signHere_25 (by decide) ?_
      refine lv_istore_n (lv' := [(1, .int (1 : Int32)), (0, .ref (mm_ad G 0))]) X.1 X.2.1 dX7_signHere_43 rfl hl (by decide) rfl (fun ls hl => ?_)
      refine lv_iload_n X.1 X.2.1 dX7_signHere_44 rfl (lv_at hl 0 rfl) ?_
      refine lv_if_ge (tgt := 53) X.1 X.2.1 dX7_signHere_45 (by decide) (fun c14 => ?_) (fun c14 => ?_)
      · refine lv_aload_n X.1 X.2.1 dX7_signHere_53 rfl (lv_at hl 1 rfl) ?_
        refine m_get X K hw 0 (by decide) q836 rfl dX7_signHere_54 ?_
        refine lv_iconst (v := (5 : Int32)) X.1 X.2.1 dX7_signHere_57 (by decide) ?_
        refine lv_iload_n X.1 X.2.1 dX7_signHere_58 rfl (lv_at hl 0 rfl) ?_
        have hi15 : vp_in (5 : Int32) 132 := by unfold vp_in; decide
        refine m_iastL (j := 5) X K hw (by decide) (by decide) (fun _ => mm_e1) hi15 rfl dX7_signHere_59 (fun S16 H locs eS16 hw => ?_)
        refine lv_aload_n X.1 X.2.1 dX7_signHere_60 rfl (lv_at hl 1 rfl) ?_
        refine m_callVV_sv X K hw (k_X7_next l G S16 V (by subst ez1 ez3 eS16; exact mt_row1 hp0)) (g_cwV X hiX7_next q1160 q1162 q55 q74 q1163 ⟨(Nat.le_of_ble_eq_true rfl), (Nat.le_of_ble_eq_true rfl)⟩) rfl hl.1 rfl (Nat.le_of_ble_eq_true rfl) dX7_signHere_61 ⟨(Nat.le_of_ble_eq_true rfl), (Nat.le_of_ble_eq_true rfl)⟩ (fun S17 V18 H locs eS17 eV18 hw => ?_)
        have hR : (S17, V18) = tgt := by
          rw [← hF]
          subst ez1 ez3 eS16 eS17 eV18
          simp only [f7_signHere, if_pos c2, if_neg c4]
        have hRS : S17 = tgt.1 := pr1 hR
        have hRV : V18 = tgt.2 := pr2 hR
        exact g_vret X hret hlk hw (Prod.ext hRS hRV) dX7_signHere_64
      · exact absurd (by decide) c14
  · refine lv_iconst (v := (0 : Int32)) X.1 X.2.1 dX7_signHere_10 (by decide) ?_
    refine lv_goto (tgt := 43) X.1 X.2.1 dX7_signHere_11 (by decide) ?_
    refine lv_istore_n (lv' := [(1, .int (0 : Int32)), (0, .ref (mm_ad G 0))]) X.1 X.2.1 dX7_signHere_43 rfl hl (by decide) rfl (fun ls hl => ?_)
    refine lv_iload_n X.1 X.2.1 dX7_signHere_44 rfl (lv_at hl 0 rfl) ?_
    refine lv_if_ge (tgt := 53) X.1 X.2.1 dX7_signHere_45 (by decide) (fun c19 => ?_) (fun c19 => ?_)
    · refine lv_aload_n X.1 X.2.1 dX7_signHere_53 rfl (lv_at hl 1 rfl) ?_
      refine m_get X K hw 0 (by decide) q836 rfl dX7_signHere_54 ?_
      refine lv_iconst (v := (5 : Int32)) X.1 X.2.1 dX7_signHere_57 (by decide) ?_
      refine lv_iload_n X.1 X.2.1 dX7_signHere_58 rfl (lv_at hl 0 rfl) ?_
      have hi20 : vp_in (5 : Int32) 132 := by unfold vp_in; decide
      refine m_iastL (j := 5) X K hw (by decide) (by decide) (fun _ => mm_e1) hi20 rfl dX7_signHere_59 (fun S21 H locs eS21 hw => ?_)
      refine lv_aload_n X.1 X.2.1 dX7_signHere_60 rfl (lv_at hl 1 rfl) ?_
      refine m_callVV_sv X K hw (k_X7_next l G S21 V (by subst ez1 eS21; exact mt_row1 hp0)) (g_cwV X hiX7_next q1160 q1162 q55 q74 q1163 ⟨(Nat.le_of_ble_eq_true rfl), (Nat.le_of_ble_eq_true rfl)⟩) rfl hl.1 rfl (Nat.le_of_ble_eq_true rfl) dX7_signHere_61 ⟨(Nat.le_of_ble_eq_true rfl), (Nat.le_of_ble_eq_true rfl)⟩ (fun S22 V23 H locs eS22 eV23 hw => ?_)
      have hR : (S22, V23) = tgt := by
        rw [← hF]
        subst ez1 eS21 eS22 eV23
        simp only [f7_signHere, if_neg c2]
      have hRS : S22 = tgt.1 := pr1 hR
      have hRV : V23 = tgt.2 := pr2 hR
      exact g_vret X hret hlk hw (Prod.ext hRS hRV) dX7_signHere_64
    · exact absurd (by decide) c19
set_option maxHeartbeats 4000000 in
set_option maxRecDepth 10000 in
theorem k_X7_item (l : Launch) (G : tt_G) (S : tt_St) (V : Int64) (hp0 : mt S) (hp1 : nb S) : m_MV l G yX7_item (g_code yX7_item cX7_item 2 none) 4 90 [.ref (mm_ad G 0)] S V ((f7_item S V).1) ((f7_item S V).2) := by
  generalize hF : f7_item S V = tgt
  refine g_begin rfl (Nat.le_of_ble_eq_true rfl) _ (fun p e s m below meth c ls X hret hlk hB hl => ?_)
  obtain ⟨hP0, K⟩ := hB
  have hw : m_W G S V s s.heap [] := ⟨hP0, va_S.rf⟩
  have X : CallFix p m c cX7_item 2 s ([.ref (mm_ad G 0)] : List Value).toArray tt_T "TrustTinModel" := X
  have hl : lv_has ls 2 [(0, .ref (mm_ad G 0))] := hl
  refine lv_aload_n X.1 X.2.1 dX7_item_0 rfl (lv_at hl 0 rfl) ?_
  refine m_callVI_p X K hw (k_X7_kindHere l G S V) (g_cwV X hiX7_kindHere q1181 q1183 q58 q74 q1184 ⟨(Nat.le_of_ble_eq_true rfl), (Nat.le_of_ble_eq_true rfl)⟩) rfl hl.1 rfl (Nat.le_of_ble_eq_true rfl) dX7_item_1 ⟨(Nat.le_of_ble_eq_true rfl), (Nat.le_of_ble_eq_true rfl)⟩ (fun z1 H locs ez1 hw => ?_)
  refine lv_istore_n (lv' := [(1, .int z1), (0, .ref (mm_ad G 0))]) X.1 X.2.1 dX7_item_4 rfl hl (by decide) rfl (fun ls hl => ?_)
  refine lv_iload_n X.1 X.2.1 dX7_item_5 rfl (lv_at hl 0 rfl) ?_
  refine lv_if_lt (tgt := 17) X.1 X.2.1 dX7_item_6 (by decide) (fun c2 => ?_) (fun c2 => ?_)
  · refine lv_aload_n X.1 X.2.1 dX7_item_17 rfl (lv_at hl 1 rfl) ?_
    refine m_gets X K hw 9 (by decide) (x := (8863997 : Int64)) rfl q1219 dX7_item_18 ?_
    refine m_callVI_p X K hw (k_X7_isWord l G S V (8863997 : Int64)) (g_cwV X hiX7_isWord q1187 q1189 q59 q74 q1190 ⟨(Nat.le_of_ble_eq_true rfl), (Nat.le_of_ble_eq_true rfl)⟩) rfl hl.1 rfl (Nat.le_of_ble_eq_true rfl) dX7_item_21 ⟨(Nat.le_of_ble_eq_true rfl), (Nat.le_of_ble_eq_true rfl)⟩ (fun z3 H locs ez3 hw => ?_)
    refine lv_if_eq (tgt := 47) X.1 X.2.1 dX7_item_24 (by decide) (fun c4 => ?_) (fun c4 => ?_)
    · refine lv_aload_n X.1 X.2.1 dX7_item_47 rfl (lv_at hl 1 rfl) ?_
      refine m_gets X K hw 10 (by decide) (x := (12089 : Int64)) rfl q1221 dX7_item_48 ?_
      refine m_callVI_p X K hw (k_X7_isWord l G S V (12089 : Int64)) (g_cwV X hiX7_isWord q1187 q1189 q59 q74 q1190 ⟨(Nat.le_of_ble_eq_true rfl), (Nat.le_of_ble_eq_true rfl)⟩) rfl hl.1 rfl (Nat.le_of_ble_eq_true rfl) dX7_item_51 ⟨(Nat.le_of_ble_eq_true rfl), (Nat.le_of_ble_eq_true rfl)⟩ (fun z5 H locs ez5 hw => ?_)
      refine lv_if_eq (tgt := 89) X.1 X.2.1 dX7_item_54 (by decide) (fun c6 => ?_) (fun c6 => ?_)
      · refine lv_aload_n X.1 X.2.1 dX7_item_89 rfl (lv_at hl 1 rfl) ?_
        refine m_gets X K hw 11 (by decide) (x := (380741 : Int64)) rfl q1223 dX7_item_90 ?_
        refine m_callVI_p X K hw (k_X7_isWord l G S V (380741 : Int64)) (g_cwV X hiX7_isWord q1187 q1189 q59 q74 q1190 ⟨(Nat.le_of_ble_eq_true rfl), (Nat.le_of_ble_eq_true rfl)⟩) rfl hl.1 rfl (Nat.le_of_ble_eq_true rfl) dX7_item_93 ⟨(Nat.le_of_ble_eq_true rfl), (Nat.le_of_ble_eq_true rfl)⟩ (fun z7 H locs ez7 hw => ?_)
        refine lv_if_eq (tgt := 110) X.1 X.2.1 dX7_item_96 (by decide) (fun c8 => ?_) (fun c8 => ?_)
        · refine lv_aload_n X.1 X.2.1 dX7_item_110 rfl (lv_at hl 1 rfl) ?_
          refine m_callVV_s X K hw (k_X7_wrongHere l G S V) (g_cwV X hiX7_wrongHere q1207 q1209 q61 q74 q1210 ⟨(Nat.le_of_ble_eq_true rfl), (Nat.le_of_ble_eq_true rfl)⟩) rfl hl.1 rfl (Nat.le_of_ble_eq_true rfl) dX7_item_111 ⟨(Nat.le_of_ble_eq_true rfl), (Nat.le_of_ble_eq_true rfl)⟩ (fun S9 H locs eS9 hw => ?_)
          have hR : (S9, V) = tgt := by
            rw [← hF]
            simp only [f7_item, ← ez1, ← ez3, ← ez5, ← ez7, ← eS9, if_pos c2, if_pos c4, if_pos c6, if_pos c8]
          have hRS : S9 = tgt.1 := pr1 hR
          have hRV : V = tgt.2 := pr2 hR
          exact g_vret X hret hlk hw (Prod.ext hRS hRV) dX7_item_114
        · refine lv_aload_n X.1 X.2.1 dX7_item_99 rfl (lv_at hl 1 rfl) ?_
          refine m_callVV_sv X K hw (k_X7_next l G S V hp0) (g_cwV X hiX7_next q1160 q1162 q55 q74 q1163 ⟨(Nat.le_of_ble_eq_true rfl), (Nat.le_of_ble_eq_true rfl)⟩) rfl hl.1 rfl (Nat.le_of_ble_eq_true rfl) dX7_item_100 ⟨(Nat.le_of_ble_eq_true rfl), (Nat.le_of_ble_eq_true rfl)⟩ (fun S10 V11 H locs eS10 eV11 hw => ?_)
          have t : tx S S := tx_rfl hp0 hp1
          have u : S 1 = S 1 := rfl
          have u : S10 1 = S 1 := (show S10 1 = S 1 from by rw [eS10]; exact n_next _ t.1).trans u
          have t : tx S S10 := tx_tr t (by rw [eS10]; exact tx_next _ t.1 t.2.1)
          refine lv_aload_n X.1 X.2.1 dX7_item_103 rfl (lv_at hl 1 rfl) ?_
          refine m_callVV_sv X K hw (k_X7_signHere l G S10 V11 (t.1) (t.2.1)) (g_cwV X hiX7_signHere q1225 q1227 q63 q74 q1228 ⟨(Nat.le_of_ble_eq_true rfl), (Nat.le_of_ble_eq_true rfl)⟩) rfl hl.1 rfl (Nat.le_of_ble_eq_true rfl) dX7_item_104 ⟨(Nat.le_of_ble_eq_true rfl), (Nat.le_of_ble_eq_true rfl)⟩ (fun S12 V13 H locs eS12 eV13 hw => ?_)
          refine lv_goto (tgt := 114) X.1 X.2.1 dX7_item_107 (by decide) ?_
          have hR : (S12, V13) = tgt := by
            rw [← hF]
            simp only [f7_item, ← ez1, ← ez3, ← ez5, ← ez7, ← eS10, ← eV11, ← eS12, ← eV13, if_pos c2, if_pos c4, if_pos c6, if_neg c8]
          have hRS : S12 = tgt.1 := pr1 hR
          have hRV : V13 = tgt.2 := pr2 hR
          exact g_vret X hret hlk hw (Prod.ext hRS hRV) dX7_item_114
      · refine lv_aload_n X.1 X.2.1 dX7_item_57 rfl (lv_at hl 1 rfl) ?_
        refine m_callVV_sv X K hw (k_X7_next l G S V hp0) (g_cwV X hiX7_next q1160 q1162 q55 q74 q1163 ⟨(Nat.le_of_ble_eq_true rfl), (Nat.le_of_ble_eq_true rfl)⟩) rfl hl.1 rfl (Nat.le_of_ble_eq_true rfl) dX7_item_58 ⟨(Nat.le_of_ble_eq_true rfl), (Nat.le_of_ble_eq_true rfl)⟩ (fun S14 V15 H locs eS14 eV15 hw => ?_)
        have t : tx S S := tx_rfl hp0 hp1
        have u : S 1 = S 1 := rfl
        have u : S14 1 = S 1 := (show S14 1 = S 1 from by rw [eS14]; exact n_next _ t.1).trans u
        have t : tx S S14 := tx_tr t (by rw [eS14]; exact tx_next _ t.1 t.2.1)
        refine lv_aload_n X.1 X.2.1 dX7_item_61 rfl (lv_at hl 1 rfl) ?_
        refine m_get X K hw 0 (by decide) q836 rfl dX7_item_62 ?_
        refine lv_iconst (v := (2 : Int32)) X.1 X.2.1 dX7_item_65 (by decide) ?_
        refine lv_aload_n X.1 X.2.1 dX7_item_66 rfl (lv_at hl 1 rfl) ?_
        refine lv_iconst (v := (1 : Int32)) X.1 X.2.1 dX7_item_67 (by decide) ?_
        refine lv_bipush (v := (99 : Int32)) X.1 X.2.1 dX7_item_68 (by decide) ?_
        refine m_callVI_sv X K hw (k_X7_number l G S14 V15 (1 : Int32) (99 : Int32) (t.1) (t.2.1)) (g_cwV X hiX7_number q1211 q1213 q62 q74 q1214 ⟨(Nat.le_of_ble_eq_true rfl), (Nat.le_of_ble_eq_true rfl)⟩) rfl hl.1 rfl (Nat.le_of_ble_eq_true rfl) dX7_item_70 ⟨(Nat.le_of_ble_eq_true rfl), (Nat.le_of_ble_eq_true rfl)⟩ (fun z16 S17 V18 H locs ez16 eS17 eV18 hw => ?_)
        have hi19 : vp_in (2 : Int32) 132 := by unfold vp_in; decide
        refine m_iastL (j := 2) X K hw (by decide) (by decide) (fun _ => mm_e1) hi19 rfl dX7_item_73 (fun S20 H locs eS20 hw => ?_)
        refine lv_aload_n X.1 X.2.1 dX7_item_74 rfl (lv_at hl 1 rfl) ?_
        refine m_get X K hw 0 (by decide) q836 rfl dX7_item_75 ?_
        refine lv_iconst (v := (3 : Int32)) X.1 X.2.1 dX7_item_78 (by decide) ?_
        refine lv_aload_n X.1 X.2.1 dX7_item_79 rfl (lv_at hl 1 rfl) ?_
        refine m_get X K hw 0 (by decide) q836 rfl dX7_item_80 ?_
        refine lv_iconst (v := (2 : Int32)) X.1 X.2.1 dX7_item_83 (by decide) ?_
        have hi21 : vp_in (2 : Int32) 132 := by unfold vp_in; decide
        refine g_ialdL (j := 2) X K hw (by decide) mm_e1 hi21 rfl dX7_item_84 ?_
        refine lv_topi (fun x22 ex22 => ?_)
        have hi23 : vp_in (3 : Int32) 132 := by unfold vp_in; decide
        refine m_iastL (j := 3) X K hw (by decide) (by decide) (fun _ => mm_e1) hi23 rfl dX7_item_85 (fun S24 H locs eS24 hw => ?_)
        refine lv_goto (tgt := 114) X.1 X.2.1 dX7_item_86 (by decide) ?_
        have hR : (S24, V18) = tgt := by
          rw [← hF]
          subst ex22
          simp only [f7_item, ← ez1, ← ez3, ← ez5, ← eS14, ← eV15, ← ez16, ← eS17, ← eV18, ← eS20, ← eS24, if_pos c2, if_pos c4, if_neg c6]
        have hRS : S24 = tgt.1 := pr1 hR
        have hRV : V18 = tgt.2 := pr2 hR
        exact g_vret X hret hlk hw (Prod.ext hRS hRV) dX7_item_114
    · refine lv_aload_n X.1 X.2.1 dX7_item_27 rfl (lv_at hl 1 rfl) ?_
      refine m_callVV_sv X K hw (k_X7_next l G S V hp0) (g_cwV X hiX7_next q1160 q1162 q55 q74 q1163 ⟨(Nat.le_of_ble_eq_true rfl), (Nat.le_of_ble_eq_true rfl)⟩) rfl hl.1 rfl (Nat.le_of_ble_eq_true rfl) dX7_item_28 ⟨(Nat.le_of_ble_eq_true rfl), (Nat.le_of_ble_eq_true rfl)⟩ (fun S25 V26 H locs eS25 eV26 hw => ?_)
      have t : tx S S := tx_rfl hp0 hp1
      have u : S 1 = S 1 := rfl
      have u : S25 1 = S 1 := (show S25 1 = S 1 from by rw [eS25]; exact n_next _ t.1).trans u
      have t : tx S S25 := tx_tr t (by rw [eS25]; exact tx_next _ t.1 t.2.1)
      refine lv_aload_n X.1 X.2.1 dX7_item_31 rfl (lv_at hl 1 rfl) ?_
      refine m_get X K hw 0 (by decide) q836 rfl dX7_item_32 ?_
      refine lv_iconst (v := (1 : Int32)) X.1 X.2.1 dX7_item_35 (by decide) ?_
      refine lv_aload_n X.1 X.2.1 dX7_item_36 rfl (lv_at hl 1 rfl) ?_
      refine lv_iconst (v := (0 : Int32)) X.1 X.2.1 dX7_item_37 (by decide) ?_
      refine lv_bipush (v := (99 : Int32)) X.1 X.2.1 dX7_item_38 (by decide) ?_
      refine m_callVI_sv X K hw (k_X7_number l G S25 V26 (0 : Int32) (99 : Int32) (t.1) (t.2.1)) (g_cwV X hiX7_number q1211 q1213 q62 q74 q1214 ⟨(Nat.le_of_ble_eq_true rfl), (Nat.le_of_ble_eq_true rfl)⟩) rfl hl.1 rfl (Nat.le_of_ble_eq_true rfl) dX7_item_40 ⟨(Nat.le_of_ble_eq_true rfl), (Nat.le_of_ble_eq_true rfl)⟩ (fun z27 S28 V29 H locs ez27 eS28 eV29 hw => ?_)
      have hi30 : vp_in (1 : Int32) 132 := by unfold vp_in; decide
      refine m_iastL (j := 1) X K hw (by decide) (by decide) (fun _ => mm_e1) hi30 rfl dX7_item_43 (fun S31 H locs eS31 hw => ?_)
      refine lv_goto (tgt := 114) X.1 X.2.1 dX7_item_44 (by decide) ?_
      have hR : (S31, V29) = tgt := by
        rw [← hF]
        simp only [f7_item, ← ez1, ← ez3, ← eS25, ← eV26, ← ez27, ← eS28, ← eV29, ← eS31, if_pos c2, if_neg c4]
      have hRS : S31 = tgt.1 := pr1 hR
      have hRV : V29 = tgt.2 := pr2 hR
      exact g_vret X hret hlk hw (Prod.ext hRS hRV) dX7_item_114
  · refine lv_aload_n X.1 X.2.1 dX7_item_9 rfl (lv_at hl 1 rfl) ?_
    refine lv_iload_n X.1 X.2.1 dX7_item_10 rfl (lv_at hl 0 rfl) ?_
    refine m_callVV_sv X K hw (k_X7_drinkerHere l G S V z1 hp0 hp1) (g_cwV X hiX7_drinkerHere q1203 q1205 q60 q74 q1206 ⟨(Nat.le_of_ble_eq_true rfl), (Nat.le_of_ble_eq_true rfl)⟩) rfl hl.1 rfl (Nat.le_of_ble_eq_true rfl) dX7_item_11 ⟨(Nat.le_of_ble_eq_true rfl), (Nat.le_of_ble_eq_true rfl)⟩ (fun S32 V33 H locs eS32 eV33 hw => ?_)
    refine lv_goto (tgt := 114) X.1 X.2.1 dX7_item_14 (by decide) ?_
    have hR : (S32, V33) = tgt := by
      rw [← hF]
      simp only [f7_item, ← ez1, ← eS32, ← eV33, if_neg c2]
    have hRS : S32 = tgt.1 := pr1 hR
    have hRV : V33 = tgt.2 := pr2 hR
    exact g_vret X hret hlk hw (Prod.ext hRS hRV) dX7_item_114
