set_option maxHeartbeats 4000000 in
set_option maxRecDepth 10000 in
theorem k_X6_text (l : Launch) (G : tt_G) (S : tt_St) (hp0 : ci S) : c_MI l G yX6_text (g_code yX6_text cX6_text 2 (some FieldType.int)) 9 196 [.ref (G.2.2 61)] S ((f6_text S).1) ((f6_text S).2) := by
  generalize hF : f6_text S = tgt
  refine g_begin rfl (Nat.le_of_ble_eq_true rfl) _ (fun p e s m below meth c ls X hret hlk hB hl => ?_)
  obtain ⟨hP0, K⟩ := hB
  have hw : c_W G S s s.heap [] := ⟨hP0, va_S.rf⟩
  have X : CallFix p m c cX6_text 2 s ([.ref (G.2.2 61)] : List Value).toArray tt_T "TrustTin" := X
  have hl : lv_has ls 2 [(0, .ref (G.2.2 61))] := hl
  refine lv_aload_n X.1 X.2.1 dX6_text_0 rfl (lv_at hl 0 rfl) ?_
  refine g_get (v := .ref (G.2.2 32)) X K hw (by decide) tt_eT rfl iT6 2 (by decide) q282 rfl dX6_text_1 ?_
  refine lv_aload_n X.1 X.2.1 dX6_text_4 rfl (lv_at hl 0 rfl) ?_
  refine g_get (v := .ref (G.2.2 30)) X K hw (by decide) tt_eT rfl iT6 0 (by decide) q280 rfl dX6_text_5 ?_
  refine c_callVV_s X K hw (k_X2_takeRoom l G S 2 0 (by decide) (by decide) (hp0.1 0 (by decide)).2 (by decide)) (g_cwV X hiX2_takeRoom q510 q511 q512 q68 q513 ⟨(Nat.le_of_ble_eq_true rfl), (Nat.le_of_ble_eq_true rfl)⟩) (by decide) (tt_eR (r := 2) (by decide : 2 < 3)) rfl rfl hl.1 rfl (Nat.le_of_ble_eq_true rfl) dX6_text_8 ⟨(Nat.le_of_ble_eq_true rfl), (Nat.le_of_ble_eq_true rfl)⟩ (fun S1 H locs eS1 hw => ?_)
  have t : tz 2 S1 := by rw [eS1]; exact tz_take hp0
  refine lv_aload_n X.1 X.2.1 dX6_text_11 rfl (lv_at hl 0 rfl) ?_
  refine g_get (v := .ref (G.2.2 58)) X K hw (by decide) tt_eT rfl iT6 5 (by decide) q285 rfl dX6_text_12 ?_
  refine lv_aload_n X.1 X.2.1 dX6_text_15 rfl (lv_at hl 0 rfl) ?_
  refine g_get (v := .ref (G.2.2 32)) X K hw (by decide) tt_eT rfl iT6 2 (by decide) q282 rfl dX6_text_16 ?_
  refine c_callVI_s X K hw (k_X5_read l G S1 2 (by decide) (t)) (g_cwV X hiX5_read q607 q608 q609 q72 q610 ⟨(Nat.le_of_ble_eq_true rfl), (Nat.le_of_ble_eq_true rfl)⟩) (by decide) tt_eRd rfl rfl hl.1 rfl (Nat.le_of_ble_eq_true rfl) dX6_text_19 ⟨(Nat.le_of_ble_eq_true rfl), (Nat.le_of_ble_eq_true rfl)⟩ (fun z2 S3 H locs ez2 eS3 hw => ?_)
  have t : tz 2 S3 := by rw [eS3]; exact tz_read (by decide) t
  refine lv_istore_n (lv' := [(1, .int z2), (0, .ref (G.2.2 61))]) X.1 X.2.1 dX6_text_22 rfl hl (by decide) rfl (fun ls hl => ?_)
  refine lv_iload_n X.1 X.2.1 dX6_text_23 rfl (lv_at hl 0 rfl) ?_
  refine lv_if_lt (tgt := 38) X.1 X.2.1 dX6_text_24 (by decide) (fun c4 => ?_) (fun c4 => ?_)
  · refine lv_aload_n X.1 X.2.1 dX6_text_38 rfl (lv_at hl 1 rfl) ?_
    refine g_get (v := .ref (G.2.2 56)) X K hw (by decide) tt_eT rfl iT6 4 (by decide) q284 rfl dX6_text_39 ?_
    refine lv_iconst (v := (0 : Int32)) X.1 X.2.1 dX6_text_42 (by decide) ?_
    refine g_put (S' := tt_up S3 3 1 (0 : Int32)) X K (c_ap K) hw (by decide) tt_eTp rfl iT4 tyX4_ok nmX4 1 (by decide) q229 rfl rfl rfl (Nat.le_of_ble_eq_true rfl) tt_sTp dX6_text_43 (fun S5 H locs eS5 hw => ?_)
    refine lv_iload_n X.1 X.2.1 dX6_text_46 rfl (lv_at hl 0 rfl) ?_
    have hR : (z2, S5) = tgt := by
      rw [← hF]
      simp only [f6_text, ← eS1, ← ez2, ← eS3, ← eS5, if_pos c4]
    have hRR : z2 = tgt.1 := pr1 hR
    have hRS : S5 = tgt.2 := pr2 hR
    exact g_iret X hret hlk hw hRR hRS dX6_text_47
  · refine lv_aload_n X.1 X.2.1 dX6_text_27 rfl (lv_at hl 1 rfl) ?_
    refine g_get (v := .ref (G.2.2 30)) X K hw (by decide) tt_eT rfl iT6 0 (by decide) q280 rfl dX6_text_28 ?_
    refine lv_aload_n X.1 X.2.1 dX6_text_31 rfl (lv_at hl 1 rfl) ?_
    refine g_get (v := .ref (G.2.2 32)) X K hw (by decide) tt_eT rfl iT6 2 (by decide) q282 rfl dX6_text_32 ?_
    refine c_callVV_s X K hw (k_X2_takeRoom l G S3 0 2 (by decide) (by decide) (t.2.2) (by decide)) (g_cwV X hiX2_takeRoom q510 q511 q512 q68 q513 ⟨(Nat.le_of_ble_eq_true rfl), (Nat.le_of_ble_eq_true rfl)⟩) (by decide) (tt_eR (r := 0) (by decide : 0 < 3)) rfl rfl hl.1 rfl (Nat.le_of_ble_eq_true rfl) dX6_text_35 ⟨(Nat.le_of_ble_eq_true rfl), (Nat.le_of_ble_eq_true rfl)⟩ (fun S6 H locs eS6 hw => ?_)
    refine lv_aload_n X.1 X.2.1 dX6_text_38 rfl (lv_at hl 1 rfl) ?_
    refine g_get (v := .ref (G.2.2 56)) X K hw (by decide) tt_eT rfl iT6 4 (by decide) q284 rfl dX6_text_39 ?_
    refine lv_iconst (v := (0 : Int32)) X.1 X.2.1 dX6_text_42 (by decide) ?_
    refine g_put (S' := tt_up S6 3 1 (0 : Int32)) X K (c_ap K) hw (by decide) tt_eTp rfl iT4 tyX4_ok nmX4 1 (by decide) q229 rfl rfl rfl (Nat.le_of_ble_eq_true rfl) tt_sTp dX6_text_43 (fun S7 H locs eS7 hw => ?_)
    refine lv_iload_n X.1 X.2.1 dX6_text_46 rfl (lv_at hl 0 rfl) ?_
    have hR : (z2, S7) = tgt := by
      rw [← hF]
      simp only [f6_text, ← eS1, ← ez2, ← eS3, ← eS6, ← eS7, if_neg c4]
    have hRR : z2 = tgt.1 := pr1 hR
    have hRS : S7 = tgt.2 := pr2 hR
    exact g_iret X hret hlk hw hRR hRS dX6_text_47
