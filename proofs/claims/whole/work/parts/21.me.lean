set_option maxHeartbeats 4000000 in
set_option maxRecDepth 10000 in
theorem k_X7_text (l : Launch) (G : tt_G) (S : tt_St) (V : Int64) (hp0 : mi S) (hp1 : 0 ≤ (S 0 15).toInt) : m_MI l G yX7_text (g_code yX7_text cX7_text 2 (some FieldType.int)) 6 132 [.ref (mm_ad G 0)] S V ((f7_text S V).1) ((f7_text S V).2.1) ((f7_text S V).2.2) := by
  generalize hF : f7_text S V = tgt
  refine g_begin rfl (Nat.le_of_ble_eq_true rfl) _ (fun p e s m below meth c ls X hret hlk hB hl => ?_)
  obtain ⟨hP0, K⟩ := hB
  have hw : m_W G S V s s.heap [] := ⟨hP0, va_S.rf⟩
  have X : CallFix p m c cX7_text 2 s ([.ref (mm_ad G 0)] : List Value).toArray tt_T "TrustTinModel" := X
  have hl : lv_has ls 2 [(0, .ref (mm_ad G 0))] := hl
  refine lv_aload_n X.1 X.2.1 dX7_text_0 rfl (lv_at hl 0 rfl) ?_
  refine m_callVV_s X K hw (k_X7_begins l G S V) (g_cwV X hiX7_begins q1062 q1064 q48 q74 q1065 ⟨(Nat.le_of_ble_eq_true rfl), (Nat.le_of_ble_eq_true rfl)⟩) rfl hl.1 rfl (Nat.le_of_ble_eq_true rfl) dX7_text_1 ⟨(Nat.le_of_ble_eq_true rfl), (Nat.le_of_ble_eq_true rfl)⟩ (fun S1 H locs eS1 hw => ?_)
  refine lv_aload_n X.1 X.2.1 dX7_text_4 rfl (lv_at hl 0 rfl) ?_
  refine m_callVI_sv X K hw (k_X7_items l G S1 V (by subst eS1; rw [bg_row (by decide)]; exact hp0.2.1.2) (by subst eS1; rw [bg_row (by decide)]; exact hp0.2.1.1) (by subst eS1; rw [bg_row (by decide)]; exact hp1) (by subst eS1; unfold nb; rw [bg_row (by decide)]; exact hp0.1)) (g_cwV X hiX7_items q1156 q1158 q54 q74 q1159 ⟨(Nat.le_of_ble_eq_true rfl), (Nat.le_of_ble_eq_true rfl)⟩) rfl hl.1 rfl (Nat.le_of_ble_eq_true rfl) dX7_text_5 ⟨(Nat.le_of_ble_eq_true rfl), (Nat.le_of_ble_eq_true rfl)⟩ (fun z2 S3 V4 H locs ez2 eS3 eV4 hw => ?_)
  refine lv_istore_n (lv' := [(1, .int z2), (0, .ref (mm_ad G 0))]) X.1 X.2.1 dX7_text_8 rfl hl (by decide) rfl (fun ls hl => ?_)
  refine lv_aload_n X.1 X.2.1 dX7_text_9 rfl (lv_at hl 1 rfl) ?_
  refine lv_iconst (v := (0 : Int32)) X.1 X.2.1 dX7_text_10 (by decide) ?_
  refine m_put X K hw 6 (by decide) q842 rfl rfl rfl dX7_text_11 (fun S5 H locs eS5 hw => ?_)
  refine lv_aload_n X.1 X.2.1 dX7_text_14 rfl (lv_at hl 1 rfl) ?_
  refine m_get X K hw 17 (by decide) q853 rfl dX7_text_15 ?_
  refine lv_if_lt (tgt := 32) X.1 X.2.1 dX7_text_18 (by decide) (fun c6 => ?_) (fun c6 => ?_)
  · refine lv_iload_n X.1 X.2.1 dX7_text_32 rfl (lv_at hl 0 rfl) ?_
    have hR : (z2, S5, V4) = tgt := by
      rw [← hF]
      simp only [f7_text, ← eS1, ← ez2, ← eS3, ← eV4, ← eS5, if_pos c6]
    have hRR : z2 = tgt.1 := pr31 hR
    have hRS : S5 = tgt.2.1 := pr32 hR
    have hRV : V4 = tgt.2.2 := pr33 hR
    exact g_iret X hret hlk hw hRR (Prod.ext hRS hRV) dX7_text_33
  · refine lv_aload_n X.1 X.2.1 dX7_text_21 rfl (lv_at hl 1 rfl) ?_
    refine m_callVV_s X K hw (k_X7_ends l G S5 V4) (g_cwV X hiX7_ends q1069 q1071 q49 q74 q1072 ⟨(Nat.le_of_ble_eq_true rfl), (Nat.le_of_ble_eq_true rfl)⟩) rfl hl.1 rfl (Nat.le_of_ble_eq_true rfl) dX7_text_22 ⟨(Nat.le_of_ble_eq_true rfl), (Nat.le_of_ble_eq_true rfl)⟩ (fun S7 H locs eS7 hw => ?_)
    refine lv_iconst (v := (-1 : Int32)) X.1 X.2.1 dX7_text_25 (by decide) ?_
    refine lv_aload_n X.1 X.2.1 dX7_text_26 rfl (lv_at hl 1 rfl) ?_
    refine m_get X K hw 17 (by decide) q853 rfl dX7_text_27 ?_
    refine lv_isub X.1 X.2.1 dX7_text_30 ?_
    have hR : ((-1 : Int32) - (S7 0 17), S7, V4) = tgt := by
      rw [← hF]
      simp only [f7_text, ← eS1, ← ez2, ← eS3, ← eV4, ← eS5, ← eS7, if_neg c6]
    have hRR : (-1 : Int32) - (S7 0 17) = tgt.1 := pr31 hR
    have hRS : S7 = tgt.2.1 := pr32 hR
    have hRV : V4 = tgt.2.2 := pr33 hR
    exact g_iret X hret hlk hw hRR (Prod.ext hRS hRV) dX7_text_31
