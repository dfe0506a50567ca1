set_option maxHeartbeats 4000000 in
set_option maxRecDepth 10000 in
theorem k_X6_tell (l : Launch) (G : tt_G) (S : tt_St) (a1 : Int32) (hp0 : vp_in a1 7) : c_MI l G yX6_tell (g_code yX6_tell cX6_tell 2 (some FieldType.int)) 0 0 [.ref (G.2.2 61), .int a1] S ((f6_tell S a1).1) ((f6_tell S a1).2) := by
  generalize hF : f6_tell S a1 = tgt
  refine g_begin rfl (Nat.le_of_ble_eq_true rfl) _ (fun p e s m below meth c ls X hret hlk hB hl => ?_)
  obtain ⟨hP0, K⟩ := hB
  have hw : c_W G S s s.heap [] := ⟨hP0, va_S.rf⟩
  have X : CallFix p m c cX6_tell 2 s ([.ref (G.2.2 61), .int a1] : List Value).toArray tt_T "TrustTin" := X
  have hl : lv_has ls 2 [(0, .ref (G.2.2 61)), (1, .int a1)] := hl
  refine lv_aload_n X.1 X.2.1 dX6_tell_0 rfl (lv_at hl 0 rfl) ?_
  refine g_get (v := .ref (G.2.2 60)) X K hw (by decide) tt_eT rfl iT6 7 (by decide) q287 rfl dX6_tell_1 ?_
  refine lv_iload_n X.1 X.2.1 dX6_tell_4 rfl (lv_at hl 1 rfl) ?_
  refine lv_dup2_11 X.1 X.2.1 dX6_tell_5 rfl rfl ?_
  have hi1 : vp_in a1 7 := hp0
  refine g_iald X K hw (by decide) tt_eF hi1 dX6_tell_6 ?_
  refine lv_iconst (v := (1 : Int32)) X.1 X.2.1 dX6_tell_7 (by decide) ?_
  refine lv_iadd X.1 X.2.1 dX6_tell_8 ?_
  refine lv_topi (fun x2 ex2 => ?_)
  have hi3 : vp_in a1 7 := hp0
  refine g_iast (S' := tt_up S 4 a1.toNatClampNeg x2) X K (c_ap K) hw (by decide) tt_eF hi3 tt_sF dX6_tell_9 (fun S4 H locs eS4 hw => ?_)
  refine lv_ldcw (v := (-1000001 : Int32)) X.1 X.2.1 X.2.2.2.1 (X.2.2.2.2 _ q316) dX6_tell_10 ?_
  refine lv_iload_n X.1 X.2.1 dX6_tell_13 rfl (lv_at hl 1 rfl) ?_
  refine lv_isub X.1 X.2.1 dX6_tell_14 ?_
  have hR : ((-1000001 : Int32) - a1, S4) = tgt := by
    rw [← hF]
    subst ex2 eS4
    simp only [f6_tell]
  have hRR : (-1000001 : Int32) - a1 = tgt.1 := pr1 hR
  have hRS : S4 = tgt.2 := pr2 hR
  exact g_iret X hret hlk hw hRR hRS dX6_tell_15
set_option maxHeartbeats 4000000 in
set_option maxRecDepth 10000 in
theorem k_X6_drinker (l : Launch) (G : tt_G) (S : tt_St) (a1 : Int32) (a2 : Int32) (hp0 : ci S) : c_MI l G yX6_drinker (g_code yX6_drinker cX6_drinker 3 (some FieldType.int)) 2 53 [.ref (G.2.2 61), .int a1, .int a2] S ((f6_drinker S a1 a2).1) ((f6_drinker S a1 a2).2) := by
  generalize hF : f6_drinker S a1 a2 = tgt
  refine g_begin rfl (Nat.le_of_ble_eq_true rfl) _ (fun p e s m below meth c ls X hret hlk hB hl => ?_)
  obtain ⟨hP0, K⟩ := hB
  have hw : c_W G S s s.heap [] := ⟨hP0, va_S.rf⟩
  have X : CallFix p m c cX6_drinker 3 s ([.ref (G.2.2 61), .int a1, .int a2] : List Value).toArray tt_T "TrustTin" := X
  have hl : lv_has ls 3 [(0, .ref (G.2.2 61)), (1, .int a1), (2, .int a2)] := hl
  refine lv_iload_n X.1 X.2.1 dX6_drinker_0 rfl (lv_at hl 1 rfl) ?_
  refine lv_iconst (v := (0 : Int32)) X.1 X.2.1 dX6_drinker_1 (by decide) ?_
  refine lv_bipush (v := (6 : Int32)) X.1 X.2.1 dX6_drinker_2 (by decide) ?_
  refine c_callSI_p X K hw (k_X6_within l G S a1 (0 : Int32) (6 : Int32)) (g_cwS X hiX6_within q309 q310 q67 q311 ⟨(Nat.le_of_ble_eq_true rfl), (Nat.le_of_ble_eq_true rfl)⟩) rfl hl.1 rfl (Nat.le_of_ble_eq_true rfl) dX6_drinker_4 ⟨(Nat.le_of_ble_eq_true rfl), (Nat.le_of_ble_eq_true rfl)⟩ (fun z1 H locs ez1 hw => ?_)
  refine lv_if_eq (tgt := 20) X.1 X.2.1 dX6_drinker_7 (by decide) (fun c2 => ?_) (fun c2 => ?_)
  · refine lv_aload_n X.1 X.2.1 dX6_drinker_20 rfl (lv_at hl 0 rfl) ?_
    refine lv_iconst (v := (0 : Int32)) X.1 X.2.1 dX6_drinker_21 (by decide) ?_
    refine c_callVI_s X K hw (k_X6_tell l G S (0 : Int32) (by unfold vp_in; decide)) (g_cwV X hiX6_tell q312 q314 q0 q67 q315 ⟨(Nat.le_of_ble_eq_true rfl), (Nat.le_of_ble_eq_true rfl)⟩) (by decide) tt_eT rfl rfl hl.1 rfl (Nat.le_of_ble_eq_true rfl) dX6_drinker_22 ⟨(Nat.le_of_ble_eq_true rfl), (Nat.le_of_ble_eq_true rfl)⟩ (fun z3 S4 H locs ez3 eS4 hw => ?_)
    have hR : (z3, S4) = tgt := by
      rw [← hF]
      subst ez1 ez3 eS4
      simp only [f6_drinker, if_pos c2]
    have hRR : z3 = tgt.1 := pr1 hR
    have hRS : S4 = tgt.2 := pr2 hR
    exact g_iret X hret hlk hw hRR hRS dX6_drinker_25
  · refine lv_iload_n X.1 X.2.1 dX6_drinker_10 rfl (lv_at hl 2 rfl) ?_
    refine lv_iconst (v := (1 : Int32)) X.1 X.2.1 dX6_drinker_11 (by decide) ?_
    refine lv_bipush (v := (9 : Int32)) X.1 X.2.1 dX6_drinker_12 (by decide) ?_
    refine c_callSI_p X K hw (k_X6_within l G S a2 (1 : Int32) (9 : Int32)) (g_cwS X hiX6_within q309 q310 q67 q311 ⟨(Nat.le_of_ble_eq_true rfl), (Nat.le_of_ble_eq_true rfl)⟩) rfl hl.1 rfl (Nat.le_of_ble_eq_true rfl) dX6_drinker_14 ⟨(Nat.le_of_ble_eq_true rfl), (Nat.le_of_ble_eq_true rfl)⟩ (fun z5 H locs ez5 hw => ?_)
    refine lv_if_ne (tgt := 26) X.1 X.2.1 dX6_drinker_17 (by decide) (fun c6 => ?_) (fun c6 => ?_)
    · refine lv_aload_n X.1 X.2.1 dX6_drinker_26 rfl (lv_at hl 0 rfl) ?_
      refine g_get (v := .ref (G.2.2 30)) X K hw (by decide) tt_eT rfl iT6 0 (by decide) q280 rfl dX6_drinker_27 ?_
      refine g_get (v := .int (S 0 0)) X K hw (by decide) (tt_eR (r := 0) (by decide : 0 < 3)) rfl iT2 1 (by decide) q162 rfl dX6_drinker_30 ?_
      refine lv_bipush (v := (10 : Int32)) X.1 X.2.1 dX6_drinker_33 (by decide) ?_
      refine lv_icmp_lt (tgt := 44) X.1 X.2.1 dX6_drinker_35 (by decide) (fun c7 => ?_) (fun c7 => ?_)
      · refine lv_aload_n X.1 X.2.1 dX6_drinker_44 rfl (lv_at hl 0 rfl) ?_
        refine g_get (v := .ref (G.2.2 30)) X K hw (by decide) tt_eT rfl iT6 0 (by decide) q280 rfl dX6_drinker_45 ?_
        refine lv_iload_n X.1 X.2.1 dX6_drinker_48 rfl (lv_at hl 1 rfl) ?_
        refine lv_iload_n X.1 X.2.1 dX6_drinker_49 rfl (lv_at hl 2 rfl) ?_
        refine c_callVR_s X K hw (k_X2_addDrinker l G S 0 a1 a2 (by decide) (hp0.1 0 (by decide)).1) (g_cwV X hiX2_addDrinker q317 q318 q319 q68 q320 ⟨(Nat.le_of_ble_eq_true rfl), (Nat.le_of_ble_eq_true rfl)⟩) (by decide) (tt_eR (r := 0) (by decide : 0 < 3)) rfl rfl hl.1 rfl (Nat.le_of_ble_eq_true rfl) dX6_drinker_50 ⟨(Nat.le_of_ble_eq_true rfl), (Nat.le_of_ble_eq_true rfl)⟩ (fun S8 H locs eS8 hw => ?_)
        have hd10 : (f2_addDrinker S 0 a1 a2).1 < 10 := ad_dr (hp0.1 0 (by decide)).1
        refine lv_pop X.1 X.2.1 dX6_drinker_53 rfl ?_
        refine lv_aload_n X.1 X.2.1 dX6_drinker_54 rfl (lv_at hl 0 rfl) ?_
        refine g_get (v := .ref (G.2.2 30)) X K hw (by decide) tt_eT rfl iT6 0 (by decide) q280 rfl dX6_drinker_55 ?_
        refine g_get (v := .int (S8 0 0)) X K hw (by decide) (tt_eR (r := 0) (by decide : 0 < 3)) rfl iT2 1 (by decide) q162 rfl dX6_drinker_58 ?_
        refine lv_iconst (v := (1 : Int32)) X.1 X.2.1 dX6_drinker_61 (by decide) ?_
        refine lv_isub X.1 X.2.1 dX6_drinker_62 ?_
        have hR : ((S8 0 0) - (1 : Int32), S8) = tgt := by
          rw [← hF]
          subst ez1 ez5 eS8
          simp only [f6_drinker, if_neg c2, if_neg c6, if_pos c7]
        have hRR : (S8 0 0) - (1 : Int32) = tgt.1 := pr1 hR
        have hRS : S8 = tgt.2 := pr2 hR
        exact g_iret X hret hlk hw hRR hRS dX6_drinker_63
      · refine lv_aload_n X.1 X.2.1 dX6_drinker_38 rfl (lv_at hl 0 rfl) ?_
        refine lv_iconst (v := (1 : Int32)) X.1 X.2.1 dX6_drinker_39 (by decide) ?_
        refine c_callVI_s X K hw (k_X6_tell l G S (1 : Int32) (by unfold vp_in; decide)) (g_cwV X hiX6_tell q312 q314 q0 q67 q315 ⟨(Nat.le_of_ble_eq_true rfl), (Nat.le_of_ble_eq_true rfl)⟩) (by decide) tt_eT rfl rfl hl.1 rfl (Nat.le_of_ble_eq_true rfl) dX6_drinker_40 ⟨(Nat.le_of_ble_eq_true rfl), (Nat.le_of_ble_eq_true rfl)⟩ (fun z11 S12 H locs ez11 eS12 hw => ?_)
        have hR : (z11, S12) = tgt := by
          rw [← hF]
          subst ez1 ez5 ez11 eS12
          simp only [f6_drinker, if_neg c2, if_neg c6, if_neg c7]
        have hRR : z11 = tgt.1 := pr1 hR
        have hRS : S12 = tgt.2 := pr2 hR
        exact g_iret X hret hlk hw hRR hRS dX6_drinker_43
    · refine lv_aload_n X.1 X.2.1 dX6_drinker_20 rfl (lv_at hl 0 rfl) ?_
      refine lv_iconst (v := (0 : Int32)) X.1 X.2.1 dX6_drinker_21 (by decide) ?_
      refine c_callVI_s X K hw (k_X6_tell l G S (0 : Int32) (by unfold vp_in; decide)) (g_cwV X hiX6_tell q312 q314 q0 q67 q315 ⟨(Nat.le_of_ble_eq_true rfl), (Nat.le_of_ble_eq_true rfl)⟩) (by decide) tt_eT rfl rfl hl.1 rfl (Nat.le_of_ble_eq_true rfl) dX6_drinker_22 ⟨(Nat.le_of_ble_eq_true rfl), (Nat.le_of_ble_eq_true rfl)⟩ (fun z13 S14 H locs ez13 eS14 hw => ?_)
      have hR : (z13, S14) = tgt := by
        rw [← hF]
        subst ez1 ez5 ez13 eS14
        simp only [f6_drinker, if_neg c2, if_pos c6]
      have hRR : z13 = tgt.1 := pr1 hR
      have hRS : S14 = tgt.2 := pr2 hR
      exact g_iret X hret hlk hw hRR hRS dX6_drinker_25
set_option maxHeartbeats 4000000 in
set_option maxRecDepth 10000 in
theorem k_X6_isDrinker (l : Launch) (G : tt_G) (S : tt_St) (a1 : Int32) : c_MI l G yX6_isDrinker (g_code yX6_isDrinker cX6_isDrinker 2 (some FieldType.boolean)) 1 22 [.ref (G.2.2 61), .int a1] S (f6_isDrinker S a1) S := by
  generalize hF : f6_isDrinker S a1 = tgt
  refine g_begin rfl (Nat.le_of_ble_eq_true rfl) _ (fun p e s m below meth c ls X hret hlk hB hl => ?_)
  obtain ⟨hP0, K⟩ := hB
  have hw : c_W G S s s.heap [] := ⟨hP0, va_S.rf⟩
  have X : CallFix p m c cX6_isDrinker 2 s ([.ref (G.2.2 61), .int a1] : List Value).toArray tt_T "TrustTin" := X
  have hl : lv_has ls 2 [(0, .ref (G.2.2 61)), (1, .int a1)] := hl
  refine lv_iload_n X.1 X.2.1 dX6_isDrinker_0 rfl (lv_at hl 1 rfl) ?_
  refine lv_iconst (v := (0 : Int32)) X.1 X.2.1 dX6_isDrinker_1 (by decide) ?_
  refine lv_aload_n X.1 X.2.1 dX6_isDrinker_2 rfl (lv_at hl 0 rfl) ?_
  refine g_get (v := .ref (G.2.2 30)) X K hw (by decide) tt_eT rfl iT6 0 (by decide) q280 rfl dX6_isDrinker_3 ?_
  refine g_get (v := .int (S 0 0)) X K hw (by decide) (tt_eR (r := 0) (by decide : 0 < 3)) rfl iT2 1 (by decide) q162 rfl dX6_isDrinker_6 ?_
  refine lv_iconst (v := (1 : Int32)) X.1 X.2.1 dX6_isDrinker_9 (by decide) ?_
  refine lv_isub X.1 X.2.1 dX6_isDrinker_10 ?_
  refine c_callSI_p X K hw (k_X6_within l G S a1 (0 : Int32) ((S 0 0) - (1 : Int32))) (g_cwS X hiX6_within q309 q310 q67 q311 ⟨(Nat.le_of_ble_eq_true rfl), (Nat.le_of_ble_eq_true rfl)⟩) rfl hl.1 rfl (Nat.le_of_ble_eq_true rfl) dX6_isDrinker_11 ⟨(Nat.le_of_ble_eq_true rfl), (Nat.le_of_ble_eq_true rfl)⟩ (fun z1 H locs ez1 hw => ?_)
  have hR : z1 = tgt := by
    rw [← hF]
    subst ez1
    simp only [f6_isDrinker]
  exact g_zret X hret hlk hw (bo_nr (bo_X6_within ez1)) hR rfl dX6_isDrinker_14
set_option maxHeartbeats 4000000 in
set_option maxRecDepth 10000 in
theorem k_X6_of (l : Launch) (G : tt_G) (S : tt_St) (a1 : Int32) (a2 : Int32) (hp0 : ci S) : c_MI l G yX6_of (g_code yX6_of cX6_of 3 (some FieldType.int)) 2 43 [.ref (G.2.2 61), .int a1, .int a2] S ((f6_of S a1 a2).1) ((f6_of S a1 a2).2) := by
  generalize hF : f6_of S a1 a2 = tgt
  refine g_begin rfl (Nat.le_of_ble_eq_true rfl) _ (fun p e s m below meth c ls X hret hlk hB hl => ?_)
  obtain ⟨hP0, K⟩ := hB
  have hw : c_W G S s s.heap [] := ⟨hP0, va_S.rf⟩
  have X : CallFix p m c cX6_of 3 s ([.ref (G.2.2 61), .int a1, .int a2] : List Value).toArray tt_T "TrustTin" := X
  have hl : lv_has ls 3 [(0, .ref (G.2.2 61)), (1, .int a1), (2, .int a2)] := hl
  refine lv_aload_n X.1 X.2.1 dX6_of_0 rfl (lv_at hl 0 rfl) ?_
  refine lv_iload_n X.1 X.2.1 dX6_of_1 rfl (lv_at hl 1 rfl) ?_
  refine c_callVI_p X K hw (k_X6_isDrinker l G S a1) (g_cwV X hiX6_isDrinker q332 q334 q1 q67 q335 ⟨(Nat.le_of_ble_eq_true rfl), (Nat.le_of_ble_eq_true rfl)⟩) (by decide) tt_eT rfl rfl hl.1 rfl (Nat.le_of_ble_eq_true rfl) dX6_of_2 ⟨(Nat.le_of_ble_eq_true rfl), (Nat.le_of_ble_eq_true rfl)⟩ (fun z1 H locs ez1 hw => ?_)
  refine lv_if_eq (tgt := 18) X.1 X.2.1 dX6_of_5 (by decide) (fun c2 => ?_) (fun c2 => ?_)
  · refine lv_aload_n X.1 X.2.1 dX6_of_18 rfl (lv_at hl 0 rfl) ?_
    refine lv_iconst (v := (0 : Int32)) X.1 X.2.1 dX6_of_19 (by decide) ?_
    refine c_callVI_s X K hw (k_X6_tell l G S (0 : Int32) (by unfold vp_in; decide)) (g_cwV X hiX6_tell q312 q314 q0 q67 q315 ⟨(Nat.le_of_ble_eq_true rfl), (Nat.le_of_ble_eq_true rfl)⟩) (by decide) tt_eT rfl rfl hl.1 rfl (Nat.le_of_ble_eq_true rfl) dX6_of_20 ⟨(Nat.le_of_ble_eq_true rfl), (Nat.le_of_ble_eq_true rfl)⟩ (fun z3 S4 H locs ez3 eS4 hw => ?_)
    have hR : (z3, S4) = tgt := by
      rw [← hF]
      subst ez1 ez3 eS4
      simp only [f6_of, if_pos c2]
    have hRR : z3 = tgt.1 := pr1 hR
    have hRS : S4 = tgt.2 := pr2 hR
    exact g_iret X hret hlk hw hRR hRS dX6_of_23
  · refine lv_iload_n X.1 X.2.1 dX6_of_8 rfl (lv_at hl 2 rfl) ?_
    refine lv_iconst (v := (0 : Int32)) X.1 X.2.1 dX6_of_9 (by decide) ?_
    refine lv_bipush (v := (6 : Int32)) X.1 X.2.1 dX6_of_10 (by decide) ?_
    refine c_callSI_p X K hw (k_X6_within l G S a2 (0 : Int32) (6 : Int32)) (g_cwS X hiX6_within q309 q310 q67 q311 ⟨(Nat.le_of_ble_eq_true rfl), (Nat.le_of_ble_eq_true rfl)⟩) rfl hl.1 rfl (Nat.le_of_ble_eq_true rfl) dX6_of_12 ⟨(Nat.le_of_ble_eq_true rfl), (Nat.le_of_ble_eq_true rfl)⟩ (fun z5 H locs ez5 hw => ?_)
    refine lv_if_ne (tgt := 24) X.1 X.2.1 dX6_of_15 (by decide) (fun c6 => ?_) (fun c6 => ?_)
    · refine lv_aload_n X.1 X.2.1 dX6_of_24 rfl (lv_at hl 0 rfl) ?_
      refine g_get (v := .ref (G.2.2 30)) X K hw (by decide) tt_eT rfl iT6 0 (by decide) q280 rfl dX6_of_25 ?_
      refine g_get (v := .ref (G.2.2 33)) X K hw (by decide) (tt_eR (r := 0) (by decide : 0 < 3)) rfl iT2 0 (by decide) q160 rfl dX6_of_28 ?_
      refine lv_iload_n X.1 X.2.1 dX6_of_31 rfl (lv_at hl 1 rfl) ?_
      have hi7 : vp_in a1 10 := dr_in hp0 ez1 c2
      have hd8 : a1.toNatClampNeg < 10 := lp_cl hi7
      refine g_aald X K hw (by decide) (tt_eA (r := 0) (by decide : 0 < 3)) 1 rfl hi7 rfl dX6_of_32 ?_
      refine lv_iload_n X.1 X.2.1 dX6_of_33 rfl (lv_at hl 2 rfl) ?_
      refine c_callVI_p X K hw (k_X1_get l G S 0 a1.toNatClampNeg a2 (by decide) hd8) (g_cwV X hiX1_get q336 q337 q338 q70 q339 ⟨(Nat.le_of_ble_eq_true rfl), (Nat.le_of_ble_eq_true rfl)⟩) (by have := (by decide : 0 < 3); have := hd8; omega) (tt_eD (r := 0) (d := a1.toNatClampNeg) (by decide : 0 < 3) hd8) rfl rfl hl.1 rfl (Nat.le_of_ble_eq_true rfl) dX6_of_34 ⟨(Nat.le_of_ble_eq_true rfl), (Nat.le_of_ble_eq_true rfl)⟩ (fun z9 H locs ez9 hw => ?_)
      have hR : (z9, S) = tgt := by
        rw [← hF]
        subst ez1 ez5 ez9
        simp only [f6_of, if_neg c2, if_neg c6]
      have hRR : z9 = tgt.1 := pr1 hR
      have hRS : S = tgt.2 := pr2 hR
      exact g_iret X hret hlk hw hRR hRS dX6_of_37
    · refine lv_aload_n X.1 X.2.1 dX6_of_18 rfl (lv_at hl 0 rfl) ?_
      refine lv_iconst (v := (0 : Int32)) X.1 X.2.1 dX6_of_19 (by decide) ?_
      refine c_callVI_s X K hw (k_X6_tell l G S (0 : Int32) (by unfold vp_in; decide)) (g_cwV X hiX6_tell q312 q314 q0 q67 q315 ⟨(Nat.le_of_ble_eq_true rfl), (Nat.le_of_ble_eq_true rfl)⟩) (by decide) tt_eT rfl rfl hl.1 rfl (Nat.le_of_ble_eq_true rfl) dX6_of_20 ⟨(Nat.le_of_ble_eq_true rfl), (Nat.le_of_ble_eq_true rfl)⟩ (fun z10 S11 H locs ez10 eS11 hw => ?_)
      have hR : (z10, S11) = tgt := by
        rw [← hF]
        subst ez1 ez5 ez10 eS11
        simp only [f6_of, if_neg c2, if_pos c6]
      have hRR : z10 = tgt.1 := pr1 hR
      have hRS : S11 = tgt.2 := pr2 hR
      exact g_iret X hret hlk hw hRR hRS dX6_of_23
set_option maxHeartbeats 4000000 in
set_option maxRecDepth 10000 in
theorem k_X6_canBecome (l : Launch) (G : tt_G) (S : tt_St) (a0 : Int32) (a1 : Int32) : c_MI l G yX6_canBecome (g_code yX6_canBecome cX6_canBecome 2 (some FieldType.boolean)) 1 22 [.int a0, .int a1] S (f6_canBecome a0 a1) S := by
  generalize hF : f6_canBecome a0 a1 = tgt
  refine g_begin rfl (Nat.le_of_ble_eq_true rfl) _ (fun p e s m below meth c ls X hret hlk hB hl => ?_)
  obtain ⟨hP0, K⟩ := hB
  have hw : c_W G S s s.heap [] := ⟨hP0, va_S.rf⟩
  have X : CallFix p m c cX6_canBecome 2 s ([.int a0, .int a1] : List Value).toArray tt_T "TrustTin" := X
  have hl : lv_has ls 2 [(0, .int a0), (1, .int a1)] := hl
  refine lv_iload_n X.1 X.2.1 dX6_canBecome_0 rfl (lv_at hl 0 rfl) ?_
  by_cases c1 : a0 = (0 : Int32)
  · refine lv_tableIn (tgt := 32) X.1 X.2.1 dX6_canBecome_1 (by rw [c1]; decide) (by rw [c1]; decide) (by rw [c1]; rfl) (by decide) ?_
    refine lv_iload_n X.1 X.2.1 dX6_canBecome_32 rfl (lv_at hl 1 rfl) ?_
    refine lv_iconst (v := (0 : Int32)) X.1 X.2.1 dX6_canBecome_33 (by decide) ?_
    refine lv_bipush (v := (6 : Int32)) X.1 X.2.1 dX6_canBecome_34 (by decide) ?_
    refine c_callSI_p X K hw (k_X6_within l G S a1 (0 : Int32) (6 : Int32)) (g_cwS X hiX6_within q309 q310 q67 q311 ⟨(Nat.le_of_ble_eq_true rfl), (Nat.le_of_ble_eq_true rfl)⟩) rfl hl.1 rfl (Nat.le_of_ble_eq_true rfl) dX6_canBecome_36 ⟨(Nat.le_of_ble_eq_true rfl), (Nat.le_of_ble_eq_true rfl)⟩ (fun z2 H locs ez2 hw => ?_)
    have hR : z2 = tgt := by
      rw [← hF]
      subst ez2
      simp only [f6_canBecome, if_pos c1]
    exact g_zret X hret hlk hw (bo_nr (bo_X6_within ez2)) hR rfl dX6_canBecome_39
  by_cases c3 : a0 = (1 : Int32)
  · refine lv_tableIn (tgt := 40) X.1 X.2.1 dX6_canBecome_1 (by rw [c3]; decide) (by rw [c3]; decide) (by rw [c3]; rfl) (by decide) ?_
    refine lv_iload_n X.1 X.2.1 dX6_canBecome_40 rfl (lv_at hl 1 rfl) ?_
    refine lv_iconst (v := (1 : Int32)) X.1 X.2.1 dX6_canBecome_41 (by decide) ?_
    refine lv_bipush (v := (9 : Int32)) X.1 X.2.1 dX6_canBecome_42 (by decide) ?_
    refine c_callSI_p X K hw (k_X6_within l G S a1 (1 : Int32) (9 : Int32)) (g_cwS X hiX6_within q309 q310 q67 q311 ⟨(Nat.le_of_ble_eq_true rfl), (Nat.le_of_ble_eq_true rfl)⟩) rfl hl.1 rfl (Nat.le_of_ble_eq_true rfl) dX6_canBecome_44 ⟨(Nat.le_of_ble_eq_true rfl), (Nat.le_of_ble_eq_true rfl)⟩ (fun z4 H locs ez4 hw => ?_)
    have hR : z4 = tgt := by
      rw [← hF]
      subst ez4
      simp only [f6_canBecome, if_neg c1, if_pos c3]
    exact g_zret X hret hlk hw (bo_nr (bo_X6_within ez4)) hR rfl dX6_canBecome_47
  by_cases c5 : a0 = (2 : Int32)
  · refine lv_tableIn (tgt := 48) X.1 X.2.1 dX6_canBecome_1 (by rw [c5]; decide) (by rw [c5]; decide) (by rw [c5]; rfl) (by decide) ?_
    refine lv_iload_n X.1 X.2.1 dX6_canBecome_48 rfl (lv_at hl 1 rfl) ?_
    refine lv_iconst (v := (0 : Int32)) X.1 X.2.1 dX6_canBecome_49 (by decide) ?_
    refine lv_sipush (v := (9999 : Int32)) X.1 X.2.1 dX6_canBecome_50 (by decide) ?_
    refine c_callSI_p X K hw (k_X6_within l G S a1 (0 : Int32) (9999 : Int32)) (g_cwS X hiX6_within q309 q310 q67 q311 ⟨(Nat.le_of_ble_eq_true rfl), (Nat.le_of_ble_eq_true rfl)⟩) rfl hl.1 rfl (Nat.le_of_ble_eq_true rfl) dX6_canBecome_53 ⟨(Nat.le_of_ble_eq_true rfl), (Nat.le_of_ble_eq_true rfl)⟩ (fun z6 H locs ez6 hw => ?_)
    have hR : z6 = tgt := by
      rw [← hF]
      subst ez6
      simp only [f6_canBecome, if_neg c1, if_neg c3, if_pos c5]
    exact g_zret X hret hlk hw (bo_nr (bo_X6_within ez6)) hR rfl dX6_canBecome_56
  by_cases c7 : a0 = (3 : Int32)
  · refine lv_tableIn (tgt := 57) X.1 X.2.1 dX6_canBecome_1 (by rw [c7]; decide) (by rw [c7]; decide) (by rw [c7]; rfl) (by decide) ?_
    refine lv_iload_n X.1 X.2.1 dX6_canBecome_57 rfl (lv_at hl 1 rfl) ?_
    refine lv_iconst (v := (0 : Int32)) X.1 X.2.1 dX6_canBecome_58 (by decide) ?_
    refine lv_bipush (v := (99 : Int32)) X.1 X.2.1 dX6_canBecome_59 (by decide) ?_
    refine c_callSI_p X K hw (k_X6_within l G S a1 (0 : Int32) (99 : Int32)) (g_cwS X hiX6_within q309 q310 q67 q311 ⟨(Nat.le_of_ble_eq_true rfl), (Nat.le_of_ble_eq_true rfl)⟩) rfl hl.1 rfl (Nat.le_of_ble_eq_true rfl) dX6_canBecome_61 ⟨(Nat.le_of_ble_eq_true rfl), (Nat.le_of_ble_eq_true rfl)⟩ (fun z8 H locs ez8 hw => ?_)
    have hR : z8 = tgt := by
      rw [← hF]
      subst ez8
      simp only [f6_canBecome, if_neg c1, if_neg c3, if_neg c5, if_pos c7]
    exact g_zret X hret hlk hw (bo_nr (bo_X6_within ez8)) hR rfl dX6_canBecome_64
  refine lv_tableOut (tgt := 65) X.1 X.2.1 dX6_canBecome_1 (by have := lv_neT (a := 0) c1 rfl; have := lv_neT (a := 1) c3 rfl; have := lv_neT (a := 2) c5 rfl; have := lv_neT (a := 3) c7 rfl; omega) (by decide) ?_
  refine lv_iconst (v := (0 : Int32)) X.1 X.2.1 dX6_canBecome_65 (by decide) ?_
  have hR : (0 : Int32) = tgt := by
    rw [← hF]
    simp only [f6_canBecome, if_neg c1, if_neg c3, if_neg c5, if_neg c7]
  exact g_zret X hret hlk hw rfl hR rfl dX6_canBecome_66
set_option maxHeartbeats 4000000 in
set_option maxRecDepth 10000 in
theorem k_X6_change (l : Launch) (G : tt_G) (S : tt_St) (a1 : Int32) (a2 : Int32) (a3 : Int32) (hp0 : ci S) : c_MI l G yX6_change (g_code yX6_change cX6_change 5 (some FieldType.int)) 2 43 [.ref (G.2.2 61), .int a1, .int a2, .int a3] S ((f6_change S a1 a2 a3).1) ((f6_change S a1 a2 a3).2) := by
  generalize hF : f6_change S a1 a2 a3 = tgt
  refine g_begin rfl (Nat.le_of_ble_eq_true rfl) _ (fun p e s m below meth c ls X hret hlk hB hl => ?_)
  obtain ⟨hP0, K⟩ := hB
  have hw : c_W G S s s.heap [] := ⟨hP0, va_S.rf⟩
  have X : CallFix p m c cX6_change 5 s ([.ref (G.2.2 61), .int a1, .int a2, .int a3] : List Value).toArray tt_T "TrustTin" := X
  have hl : lv_has ls 5 [(0, .ref (G.2.2 61)), (1, .int a1), (2, .int a2), (3, .int a3)] := hl
  refine lv_aload_n X.1 X.2.1 dX6_change_0 rfl (lv_at hl 0 rfl) ?_
  refine lv_iload_n X.1 X.2.1 dX6_change_1 rfl (lv_at hl 1 rfl) ?_
  refine c_callVI_p X K hw (k_X6_isDrinker l G S a1) (g_cwV X hiX6_isDrinker q332 q334 q1 q67 q335 ⟨(Nat.le_of_ble_eq_true rfl), (Nat.le_of_ble_eq_true rfl)⟩) (by decide) tt_eT rfl rfl hl.1 rfl (Nat.le_of_ble_eq_true rfl) dX6_change_2 ⟨(Nat.le_of_ble_eq_true rfl), (Nat.le_of_ble_eq_true rfl)⟩ (fun z1 H locs ez1 hw => ?_)
  refine lv_if_eq (tgt := 16) X.1 X.2.1 dX6_change_5 (by decide) (fun c2 => ?_) (fun c2 => ?_)
  · refine lv_aload_n X.1 X.2.1 dX6_change_16 rfl (lv_at hl 0 rfl) ?_
    refine lv_iconst (v := (0 : Int32)) X.1 X.2.1 dX6_change_17 (by decide) ?_
    refine c_callVI_s X K hw (k_X6_tell l G S (0 : Int32) (by unfold vp_in; decide)) (g_cwV X hiX6_tell q312 q314 q0 q67 q315 ⟨(Nat.le_of_ble_eq_true rfl), (Nat.le_of_ble_eq_true rfl)⟩) (by decide) tt_eT rfl rfl hl.1 rfl (Nat.le_of_ble_eq_true rfl) dX6_change_18 ⟨(Nat.le_of_ble_eq_true rfl), (Nat.le_of_ble_eq_true rfl)⟩ (fun z3 S4 H locs ez3 eS4 hw => ?_)
    have hR : (z3, S4) = tgt := by
      rw [← hF]
      subst ez1 ez3 eS4
      simp only [f6_change, if_pos c2]
    have hRR : z3 = tgt.1 := pr1 hR
    have hRS : S4 = tgt.2 := pr2 hR
    exact g_iret X hret hlk hw hRR hRS dX6_change_21
  · refine lv_iload_n X.1 X.2.1 dX6_change_8 rfl (lv_at hl 2 rfl) ?_
    refine lv_iload_n X.1 X.2.1 dX6_change_9 rfl (lv_at hl 3 rfl) ?_
    refine c_callSI_p X K hw (k_X6_canBecome l G S a2 a3) (g_cwS X hiX6_canBecome q344 q345 q67 q346 ⟨(Nat.le_of_ble_eq_true rfl), (Nat.le_of_ble_eq_true rfl)⟩) rfl hl.1 rfl (Nat.le_of_ble_eq_true rfl) dX6_change_10 ⟨(Nat.le_of_ble_eq_true rfl), (Nat.le_of_ble_eq_true rfl)⟩ (fun z5 H locs ez5 hw => ?_)
    refine lv_if_ne (tgt := 22) X.1 X.2.1 dX6_change_13 (by decide) (fun c6 => ?_) (fun c6 => ?_)
    · refine lv_aload_n X.1 X.2.1 dX6_change_22 rfl (lv_at hl 0 rfl) ?_
      refine g_get (v := .ref (G.2.2 30)) X K hw (by decide) tt_eT rfl iT6 0 (by decide) q280 rfl dX6_change_23 ?_
      refine g_get (v := .ref (G.2.2 33)) X K hw (by decide) (tt_eR (r := 0) (by decide : 0 < 3)) rfl iT2 0 (by decide) q160 rfl dX6_change_26 ?_
      refine lv_iload_n X.1 X.2.1 dX6_change_29 rfl (lv_at hl 1 rfl) ?_
      have hi7 : vp_in a1 10 := dr_in hp0 ez1 c2
      have hd8 : a1.toNatClampNeg < 10 := lp_cl hi7
      refine g_aald X K hw (by decide) (tt_eA (r := 0) (by decide : 0 < 3)) 1 rfl hi7 rfl dX6_change_30 ?_
      refine lv_iload_n X.1 X.2.1 dX6_change_31 rfl (lv_at hl 2 rfl) ?_
      refine c_callVI_p X K hw (k_X1_get l G S 0 a1.toNatClampNeg a2 (by decide) hd8) (g_cwV X hiX1_get q336 q337 q338 q70 q339 ⟨(Nat.le_of_ble_eq_true rfl), (Nat.le_of_ble_eq_true rfl)⟩) (by have := (by decide : 0 < 3); have := hd8; omega) (tt_eD (r := 0) (d := a1.toNatClampNeg) (by decide : 0 < 3) hd8) rfl rfl hl.1 rfl (Nat.le_of_ble_eq_true rfl) dX6_change_32 ⟨(Nat.le_of_ble_eq_true rfl), (Nat.le_of_ble_eq_true rfl)⟩ (fun z9 H locs ez9 hw => ?_)
      refine lv_istore (lv' := [(4, .int z9), (0, .ref (G.2.2 61)), (1, .int a1), (2, .int a2), (3, .int a3)]) X.1 X.2.1 dX6_change_35 hl (by decide) rfl (fun ls hl => ?_)
      refine lv_aload_n X.1 X.2.1 dX6_change_37 rfl (lv_at hl 1 rfl) ?_
      refine g_get (v := .ref (G.2.2 30)) X K hw (by decide) tt_eT rfl iT6 0 (by decide) q280 rfl dX6_change_38 ?_
      refine g_get (v := .ref (G.2.2 33)) X K hw (by decide) (tt_eR (r := 0) (by decide : 0 < 3)) rfl iT2 0 (by decide) q160 rfl dX6_change_41 ?_
      refine lv_iload_n X.1 X.2.1 dX6_change_44 rfl (lv_at hl 2 rfl) ?_
      have hi10 : vp_in a1 10 := dr_in hp0 ez1 c2
      refine g_aald X K hw (by decide) (tt_eA (r := 0) (by decide : 0 < 3)) 1 rfl hi10 rfl dX6_change_45 ?_
      refine lv_iload_n X.1 X.2.1 dX6_change_46 rfl (lv_at hl 3 rfl) ?_
      refine lv_iload_n X.1 X.2.1 dX6_change_47 rfl (lv_at hl 4 rfl) ?_
      refine c_callVV_s X K hw (k_X1_set l G S 0 a1.toNatClampNeg a2 a3 (by decide) hd8) (g_cwV X hiX1_set q347 q348 q349 q70 q350 ⟨(Nat.le_of_ble_eq_true rfl), (Nat.le_of_ble_eq_true rfl)⟩) (by have := (by decide : 0 < 3); have := hd8; omega) (tt_eD (r := 0) (d := a1.toNatClampNeg) (by decide : 0 < 3) hd8) rfl rfl hl.1 rfl (Nat.le_of_ble_eq_true rfl) dX6_change_48 ⟨(Nat.le_of_ble_eq_true rfl), (Nat.le_of_ble_eq_true rfl)⟩ (fun S11 H locs eS11 hw => ?_)
      refine lv_iload X.1 X.2.1 dX6_change_51 (lv_at hl 0 rfl) ?_
      have hR : (z9, S11) = tgt := by
        rw [← hF]
        subst ez1 ez5 ez9 eS11
        simp only [f6_change, if_neg c2, if_neg c6]
      have hRR : z9 = tgt.1 := pr1 hR
      have hRS : S11 = tgt.2 := pr2 hR
      exact g_iret X hret hlk hw hRR hRS dX6_change_53
    · refine lv_aload_n X.1 X.2.1 dX6_change_16 rfl (lv_at hl 0 rfl) ?_
      refine lv_iconst (v := (0 : Int32)) X.1 X.2.1 dX6_change_17 (by decide) ?_
      refine c_callVI_s X K hw (k_X6_tell l G S (0 : Int32) (by unfold vp_in; decide)) (g_cwV X hiX6_tell q312 q314 q0 q67 q315 ⟨(Nat.le_of_ble_eq_true rfl), (Nat.le_of_ble_eq_true rfl)⟩) (by decide) tt_eT rfl rfl hl.1 rfl (Nat.le_of_ble_eq_true rfl) dX6_change_18 ⟨(Nat.le_of_ble_eq_true rfl), (Nat.le_of_ble_eq_true rfl)⟩ (fun z12 S13 H locs ez12 eS13 hw => ?_)
      have hR : (z12, S13) = tgt := by
        rw [← hF]
        subst ez1 ez5 ez12 eS13
        simp only [f6_change, if_neg c2, if_pos c6]
      have hRR : z12 = tgt.1 := pr1 hR
      have hRS : S13 = tgt.2 := pr2 hR
      exact g_iret X hret hlk hw hRR hRS dX6_change_21
set_option maxHeartbeats 4000000 in
set_option maxRecDepth 10000 in
theorem k_X6_changePrice (l : Launch) (G : tt_G) (S : tt_St) (a1 : Int32) : c_MI l G yX6_changePrice (g_code yX6_changePrice cX6_changePrice 3 (some FieldType.int)) 1 22 [.ref (G.2.2 61), .int a1] S ((f6_changePrice S a1).1) ((f6_changePrice S a1).2) := by
  generalize hF : f6_changePrice S a1 = tgt
  refine g_begin rfl (Nat.le_of_ble_eq_true rfl) _ (fun p e s m below meth c ls X hret hlk hB hl => ?_)
  obtain ⟨hP0, K⟩ := hB
  have hw : c_W G S s s.heap [] := ⟨hP0, va_S.rf⟩
  have X : CallFix p m c cX6_changePrice 3 s ([.ref (G.2.2 61), .int a1] : List Value).toArray tt_T "TrustTin" := X
  have hl : lv_has ls 3 [(0, .ref (G.2.2 61)), (1, .int a1)] := hl
  refine lv_iload_n X.1 X.2.1 dX6_changePrice_0 rfl (lv_at hl 1 rfl) ?_
  refine lv_iconst (v := (0 : Int32)) X.1 X.2.1 dX6_changePrice_1 (by decide) ?_
  refine lv_bipush (v := (99 : Int32)) X.1 X.2.1 dX6_changePrice_2 (by decide) ?_
  refine c_callSI_p X K hw (k_X6_within l G S a1 (0 : Int32) (99 : Int32)) (g_cwS X hiX6_within q309 q310 q67 q311 ⟨(Nat.le_of_ble_eq_true rfl), (Nat.le_of_ble_eq_true rfl)⟩) rfl hl.1 rfl (Nat.le_of_ble_eq_true rfl) dX6_changePrice_4 ⟨(Nat.le_of_ble_eq_true rfl), (Nat.le_of_ble_eq_true rfl)⟩ (fun z1 H locs ez1 hw => ?_)
  refine lv_if_ne (tgt := 16) X.1 X.2.1 dX6_changePrice_7 (by decide) (fun c2 => ?_) (fun c2 => ?_)
  · refine lv_aload_n X.1 X.2.1 dX6_changePrice_16 rfl (lv_at hl 0 rfl) ?_
    refine g_get (v := .ref (G.2.2 30)) X K hw (by decide) tt_eT rfl iT6 0 (by decide) q280 rfl dX6_changePrice_17 ?_
    refine g_get (v := .int (S 0 1)) X K hw (by decide) (tt_eR (r := 0) (by decide : 0 < 3)) rfl iT2 2 (by decide) q166 rfl dX6_changePrice_20 ?_
    refine lv_topi (fun x3 ex3 => ?_)
    refine lv_istore_n (lv' := [(2, .int x3), (0, .ref (G.2.2 61)), (1, .int a1)]) X.1 X.2.1 dX6_changePrice_23 rfl hl (by decide) rfl (fun ls hl => ?_)
    refine lv_aload_n X.1 X.2.1 dX6_changePrice_24 rfl (lv_at hl 1 rfl) ?_
    refine g_get (v := .ref (G.2.2 30)) X K hw (by decide) tt_eT rfl iT6 0 (by decide) q280 rfl dX6_changePrice_25 ?_
    refine lv_iload_n X.1 X.2.1 dX6_changePrice_28 rfl (lv_at hl 2 rfl) ?_
    refine g_put (S' := tt_up S 0 1 a1) X K (c_ap K) hw (by decide) (tt_eR (r := 0) (by decide : 0 < 3)) rfl iT2 tyX2_ok nmX2 2 (by decide) q166 rfl rfl rfl (Nat.le_of_ble_eq_true rfl) (tt_sR (r := 0) (k := 1) (by decide : 0 < 3) (by decide)) dX6_changePrice_29 (fun S4 H locs eS4 hw => ?_)
    refine lv_iload_n X.1 X.2.1 dX6_changePrice_32 rfl (lv_at hl 0 rfl) ?_
    have hR : (x3, S4) = tgt := by
      rw [← hF]
      subst ez1 ex3 eS4
      simp only [f6_changePrice, if_neg c2]
    have hRR : x3 = tgt.1 := pr1 hR
    have hRS : S4 = tgt.2 := pr2 hR
    exact g_iret X hret hlk hw hRR hRS dX6_changePrice_33
  · refine lv_aload_n X.1 X.2.1 dX6_changePrice_10 rfl (lv_at hl 0 rfl) ?_
    refine lv_iconst (v := (0 : Int32)) X.1 X.2.1 dX6_changePrice_11 (by decide) ?_
    refine c_callVI_s X K hw (k_X6_tell l G S (0 : Int32) (by unfold vp_in; decide)) (g_cwV X hiX6_tell q312 q314 q0 q67 q315 ⟨(Nat.le_of_ble_eq_true rfl), (Nat.le_of_ble_eq_true rfl)⟩) (by decide) tt_eT rfl rfl hl.1 rfl (Nat.le_of_ble_eq_true rfl) dX6_changePrice_12 ⟨(Nat.le_of_ble_eq_true rfl), (Nat.le_of_ble_eq_true rfl)⟩ (fun z5 S6 H locs ez5 eS6 hw => ?_)
    have hR : (z5, S6) = tgt := by
      rw [← hF]
      subst ez1 ez5 eS6
      simp only [f6_changePrice, if_pos c2]
    have hRR : z5 = tgt.1 := pr1 hR
    have hRS : S6 = tgt.2 := pr2 hR
    exact g_iret X hret hlk hw hRR hRS dX6_changePrice_15
set_option maxHeartbeats 4000000 in
set_option maxRecDepth 10000 in
theorem k_X6_changePot (l : Launch) (G : tt_G) (S : tt_St) (a1 : Int32) : c_MI l G yX6_changePot (g_code yX6_changePot cX6_changePot 3 (some FieldType.int)) 1 22 [.ref (G.2.2 61), .int a1] S ((f6_changePot S a1).1) ((f6_changePot S a1).2) := by
  generalize hF : f6_changePot S a1 = tgt
  refine g_begin rfl (Nat.le_of_ble_eq_true rfl) _ (fun p e s m below meth c ls X hret hlk hB hl => ?_)
  obtain ⟨hP0, K⟩ := hB
  have hw : c_W G S s s.heap [] := ⟨hP0, va_S.rf⟩
  have X : CallFix p m c cX6_changePot 3 s ([.ref (G.2.2 61), .int a1] : List Value).toArray tt_T "TrustTin" := X
  have hl : lv_has ls 3 [(0, .ref (G.2.2 61)), (1, .int a1)] := hl
  refine lv_iload_n X.1 X.2.1 dX6_changePot_0 rfl (lv_at hl 1 rfl) ?_
  refine lv_iconst (v := (1 : Int32)) X.1 X.2.1 dX6_changePot_1 (by decide) ?_
  refine lv_bipush (v := (99 : Int32)) X.1 X.2.1 dX6_changePot_2 (by decide) ?_
  refine c_callSI_p X K hw (k_X6_within l G S a1 (1 : Int32) (99 : Int32)) (g_cwS X hiX6_within q309 q310 q67 q311 ⟨(Nat.le_of_ble_eq_true rfl), (Nat.le_of_ble_eq_true rfl)⟩) rfl hl.1 rfl (Nat.le_of_ble_eq_true rfl) dX6_changePot_4 ⟨(Nat.le_of_ble_eq_true rfl), (Nat.le_of_ble_eq_true rfl)⟩ (fun z1 H locs ez1 hw => ?_)
  refine lv_if_ne (tgt := 16) X.1 X.2.1 dX6_changePot_7 (by decide) (fun c2 => ?_) (fun c2 => ?_)
  · refine lv_aload_n X.1 X.2.1 dX6_changePot_16 rfl (lv_at hl 0 rfl) ?_
    refine g_get (v := .ref (G.2.2 30)) X K hw (by decide) tt_eT rfl iT6 0 (by decide) q280 rfl dX6_changePot_17 ?_
    refine g_get (v := .int (S 0 2)) X K hw (by decide) (tt_eR (r := 0) (by decide : 0 < 3)) rfl iT2 3 (by decide) q168 rfl dX6_changePot_20 ?_
    refine lv_topi (fun x3 ex3 => ?_)
    refine lv_istore_n (lv' := [(2, .int x3), (0, .ref (G.2.2 61)), (1, .int a1)]) X.1 X.2.1 dX6_changePot_23 rfl hl (by decide) rfl (fun ls hl => ?_)
    refine lv_aload_n X.1 X.2.1 dX6_changePot_24 rfl (lv_at hl 1 rfl) ?_
    refine g_get (v := .ref (G.2.2 30)) X K hw (by decide) tt_eT rfl iT6 0 (by decide) q280 rfl dX6_changePot_25 ?_
    refine lv_iload_n X.1 X.2.1 dX6_changePot_28 rfl (lv_at hl 2 rfl) ?_
    refine c_callVV_s X K hw (k_X2_setPot l G S 0 a1 (by decide)) (g_cwV X hiX2_setPot q363 q364 q365 q68 q366 ⟨(Nat.le_of_ble_eq_true rfl), (Nat.le_of_ble_eq_true rfl)⟩) (by decide) (tt_eR (r := 0) (by decide : 0 < 3)) rfl rfl hl.1 rfl (Nat.le_of_ble_eq_true rfl) dX6_changePot_29 ⟨(Nat.le_of_ble_eq_true rfl), (Nat.le_of_ble_eq_true rfl)⟩ (fun S4 H locs eS4 hw => ?_)
    refine lv_iload_n X.1 X.2.1 dX6_changePot_32 rfl (lv_at hl 0 rfl) ?_
    have hR : (x3, S4) = tgt := by
      rw [← hF]
      subst ez1 ex3 eS4
      simp only [f6_changePot, if_neg c2]
    have hRR : x3 = tgt.1 := pr1 hR
    have hRS : S4 = tgt.2 := pr2 hR
    exact g_iret X hret hlk hw hRR hRS dX6_changePot_33
  · refine lv_aload_n X.1 X.2.1 dX6_changePot_10 rfl (lv_at hl 0 rfl) ?_
    refine lv_iconst (v := (0 : Int32)) X.1 X.2.1 dX6_changePot_11 (by decide) ?_
    refine c_callVI_s X K hw (k_X6_tell l G S (0 : Int32) (by unfold vp_in; decide)) (g_cwV X hiX6_tell q312 q314 q0 q67 q315 ⟨(Nat.le_of_ble_eq_true rfl), (Nat.le_of_ble_eq_true rfl)⟩) (by decide) tt_eT rfl rfl hl.1 rfl (Nat.le_of_ble_eq_true rfl) dX6_changePot_12 ⟨(Nat.le_of_ble_eq_true rfl), (Nat.le_of_ble_eq_true rfl)⟩ (fun z5 S6 H locs ez5 eS6 hw => ?_)
    have hR : (z5, S6) = tgt := by
      rw [← hF]
      subst ez1 ez5 eS6
      simp only [f6_changePot, if_pos c2]
    have hRR : z5 = tgt.1 := pr1 hR
    have hRS : S6 = tgt.2 := pr2 hR
    exact g_iret X hret hlk hw hRR hRS dX6_changePot_15
set_option maxHeartbeats 4000000 in
set_option maxRecDepth 10000 in
theorem k_X6_changeSign (l : Launch) (G : tt_G) (S : tt_St) (a1 : Int32) : c_MI l G yX6_changeSign (g_code yX6_changeSign cX6_changeSign 3 (some FieldType.int)) 1 22 [.ref (G.2.2 61), .int a1] S ((f6_changeSign S a1).1) ((f6_changeSign S a1).2) := by
  generalize hF : f6_changeSign S a1 = tgt
  refine g_begin rfl (Nat.le_of_ble_eq_true rfl) _ (fun p e s m below meth c ls X hret hlk hB hl => ?_)
  obtain ⟨hP0, K⟩ := hB
  have hw : c_W G S s s.heap [] := ⟨hP0, va_S.rf⟩
  have X : CallFix p m c cX6_changeSign 3 s ([.ref (G.2.2 61), .int a1] : List Value).toArray tt_T "TrustTin" := X
  have hl : lv_has ls 3 [(0, .ref (G.2.2 61)), (1, .int a1)] := hl
  refine lv_iload_n X.1 X.2.1 dX6_changeSign_0 rfl (lv_at hl 1 rfl) ?_
  refine lv_iconst (v := (0 : Int32)) X.1 X.2.1 dX6_changeSign_1 (by decide) ?_
  refine lv_iconst (v := (2 : Int32)) X.1 X.2.1 dX6_changeSign_2 (by decide) ?_
  refine c_callSI_p X K hw (k_X6_within l G S a1 (0 : Int32) (2 : Int32)) (g_cwS X hiX6_within q309 q310 q67 q311 ⟨(Nat.le_of_ble_eq_true rfl), (Nat.le_of_ble_eq_true rfl)⟩) rfl hl.1 rfl (Nat.le_of_ble_eq_true rfl) dX6_changeSign_3 ⟨(Nat.le_of_ble_eq_true rfl), (Nat.le_of_ble_eq_true rfl)⟩ (fun z1 H locs ez1 hw => ?_)
  refine lv_if_ne (tgt := 15) X.1 X.2.1 dX6_changeSign_6 (by decide) (fun c2 => ?_) (fun c2 => ?_)
  · refine lv_aload_n X.1 X.2.1 dX6_changeSign_15 rfl (lv_at hl 0 rfl) ?_
    refine g_get (v := .ref (G.2.2 30)) X K hw (by decide) tt_eT rfl iT6 0 (by decide) q280 rfl dX6_changeSign_16 ?_
    refine g_get (v := .int (S 0 5)) X K hw (by decide) (tt_eR (r := 0) (by decide : 0 < 3)) rfl iT2 6 (by decide) q175 rfl dX6_changeSign_19 ?_
    refine lv_topi (fun x3 ex3 => ?_)
    refine lv_istore_n (lv' := [(2, .int x3), (0, .ref (G.2.2 61)), (1, .int a1)]) X.1 X.2.1 dX6_changeSign_22 rfl hl (by decide) rfl (fun ls hl => ?_)
    refine lv_aload_n X.1 X.2.1 dX6_changeSign_23 rfl (lv_at hl 1 rfl) ?_
    refine g_get (v := .ref (G.2.2 30)) X K hw (by decide) tt_eT rfl iT6 0 (by decide) q280 rfl dX6_changeSign_24 ?_
    refine lv_iload_n X.1 X.2.1 dX6_changeSign_27 rfl (lv_at hl 2 rfl) ?_
    refine g_put (S' := tt_up S 0 5 a1) X K (c_ap K) hw (by decide) (tt_eR (r := 0) (by decide : 0 < 3)) rfl iT2 tyX2_ok nmX2 6 (by decide) q175 rfl rfl rfl (Nat.le_of_ble_eq_true rfl) (tt_sR (r := 0) (k := 5) (by decide : 0 < 3) (by decide)) dX6_changeSign_28 (fun S4 H locs eS4 hw => ?_)
    refine lv_iload_n X.1 X.2.1 dX6_changeSign_31 rfl (lv_at hl 0 rfl) ?_
    have hR : (x3, S4) = tgt := by
      rw [← hF]
      subst ez1 ex3 eS4
      simp only [f6_changeSign, if_neg c2]
    have hRR : x3 = tgt.1 := pr1 hR
    have hRS : S4 = tgt.2 := pr2 hR
    exact g_iret X hret hlk hw hRR hRS dX6_changeSign_32
  · refine lv_aload_n X.1 X.2.1 dX6_changeSign_9 rfl (lv_at hl 0 rfl) ?_
    refine lv_iconst (v := (0 : Int32)) X.1 X.2.1 dX6_changeSign_10 (by decide) ?_
    refine c_callVI_s X K hw (k_X6_tell l G S (0 : Int32) (by unfold vp_in; decide)) (g_cwV X hiX6_tell q312 q314 q0 q67 q315 ⟨(Nat.le_of_ble_eq_true rfl), (Nat.le_of_ble_eq_true rfl)⟩) (by decide) tt_eT rfl rfl hl.1 rfl (Nat.le_of_ble_eq_true rfl) dX6_changeSign_11 ⟨(Nat.le_of_ble_eq_true rfl), (Nat.le_of_ble_eq_true rfl)⟩ (fun z5 S6 H locs ez5 eS6 hw => ?_)
    have hR : (z5, S6) = tgt := by
      rw [← hF]
      subst ez1 ez5 eS6
      simp only [f6_changeSign, if_pos c2]
    have hRR : z5 = tgt.1 := pr1 hR
    have hRS : S6 = tgt.2 := pr2 hR
    exact g_iret X hret hlk hw hRR hRS dX6_changeSign_14
set_option maxHeartbeats 4000000 in
set_option maxRecDepth 10000 in
theorem k_X6_room (l : Launch) (G : tt_G) (S : tt_St) (a1 : Int32) (a2 : Int32) (hp0 : ci S) : c_MI l G yX6_room (g_code yX6_room cX6_room 3 (some FieldType.int)) 2 44 [.ref (G.2.2 61), .int a1, .int a2] S ((f6_room S a1 a2).1) ((f6_room S a1 a2).2) := by
  generalize hF : f6_room S a1 a2 = tgt
  refine g_begin rfl (Nat.le_of_ble_eq_true rfl) _ (fun p e s m below meth c ls X hret hlk hB hl => ?_)
  obtain ⟨hP0, K⟩ := hB
  have hw : c_W G S s s.heap [] := ⟨hP0, va_S.rf⟩
  have X : CallFix p m c cX6_room 3 s ([.ref (G.2.2 61), .int a1, .int a2] : List Value).toArray tt_T "TrustTin" := X
  have hl : lv_has ls 3 [(0, .ref (G.2.2 61)), (1, .int a1), (2, .int a2)] := hl
  refine lv_iload_n X.1 X.2.1 dX6_room_0 rfl (lv_at hl 1 rfl) ?_
  by_cases c1 : a1 = (0 : Int32)
  · refine lv_tableIn (tgt := 28) X.1 X.2.1 dX6_room_1 (by rw [c1]; decide) (by rw [c1]; decide) (by rw [c1]; rfl) (by decide) ?_
    refine lv_aload_n X.1 X.2.1 dX6_room_28 rfl (lv_at hl 0 rfl) ?_
    refine lv_iload_n X.1 X.2.1 dX6_room_29 rfl (lv_at hl 2 rfl) ?_
    refine c_callVI_s X K hw (k_X6_changePrice l G S a2) (g_cwV X hiX6_changePrice q355 q357 q2 q67 q358 ⟨(Nat.le_of_ble_eq_true rfl), (Nat.le_of_ble_eq_true rfl)⟩) (by decide) tt_eT rfl rfl hl.1 rfl (Nat.le_of_ble_eq_true rfl) dX6_room_30 ⟨(Nat.le_of_ble_eq_true rfl), (Nat.le_of_ble_eq_true rfl)⟩ (fun z2 S3 H locs ez2 eS3 hw => ?_)
    have hR : (z2, S3) = tgt := by
      rw [← hF]
      subst ez2 eS3
      simp only [f6_room, if_pos c1]
    have hRR : z2 = tgt.1 := pr1 hR
    have hRS : S3 = tgt.2 := pr2 hR
    exact g_iret X hret hlk hw hRR hRS dX6_room_33
  by_cases c4 : a1 = (1 : Int32)
  · refine lv_tableIn (tgt := 34) X.1 X.2.1 dX6_room_1 (by rw [c4]; decide) (by rw [c4]; decide) (by rw [c4]; rfl) (by decide) ?_
    refine lv_aload_n X.1 X.2.1 dX6_room_34 rfl (lv_at hl 0 rfl) ?_
    refine lv_iload_n X.1 X.2.1 dX6_room_35 rfl (lv_at hl 2 rfl) ?_
    refine c_callVI_s X K hw (k_X6_changePot l G S a2) (g_cwV X hiX6_changePot q359 q361 q3 q67 q362 ⟨(Nat.le_of_ble_eq_true rfl), (Nat.le_of_ble_eq_true rfl)⟩) (by decide) tt_eT rfl rfl hl.1 rfl (Nat.le_of_ble_eq_true rfl) dX6_room_36 ⟨(Nat.le_of_ble_eq_true rfl), (Nat.le_of_ble_eq_true rfl)⟩ (fun z5 S6 H locs ez5 eS6 hw => ?_)
    have hR : (z5, S6) = tgt := by
      rw [← hF]
      subst ez5 eS6
      simp only [f6_room, if_neg c1, if_pos c4]
    have hRR : z5 = tgt.1 := pr1 hR
    have hRS : S6 = tgt.2 := pr2 hR
    exact g_iret X hret hlk hw hRR hRS dX6_room_39
  by_cases c7 : a1 = (2 : Int32)
  · refine lv_tableIn (tgt := 40) X.1 X.2.1 dX6_room_1 (by rw [c7]; decide) (by rw [c7]; decide) (by rw [c7]; rfl) (by decide) ?_
    refine lv_aload_n X.1 X.2.1 dX6_room_40 rfl (lv_at hl 0 rfl) ?_
    refine lv_iload_n X.1 X.2.1 dX6_room_41 rfl (lv_at hl 2 rfl) ?_
    refine c_callVI_s X K hw (k_X6_changeSign l G S a2) (g_cwV X hiX6_changeSign q367 q369 q4 q67 q370 ⟨(Nat.le_of_ble_eq_true rfl), (Nat.le_of_ble_eq_true rfl)⟩) (by decide) tt_eT rfl rfl hl.1 rfl (Nat.le_of_ble_eq_true rfl) dX6_room_42 ⟨(Nat.le_of_ble_eq_true rfl), (Nat.le_of_ble_eq_true rfl)⟩ (fun z8 S9 H locs ez8 eS9 hw => ?_)
    have hR : (z8, S9) = tgt := by
      rw [← hF]
      subst ez8 eS9
      simp only [f6_room, if_neg c1, if_neg c4, if_pos c7]
    have hRR : z8 = tgt.1 := pr1 hR
    have hRS : S9 = tgt.2 := pr2 hR
    exact g_iret X hret hlk hw hRR hRS dX6_room_45
  refine lv_tableOut (tgt := 46) X.1 X.2.1 dX6_room_1 (by have := lv_neT (a := 0) c1 rfl; have := lv_neT (a := 1) c4 rfl; have := lv_neT (a := 2) c7 rfl; omega) (by decide) ?_
  refine lv_aload_n X.1 X.2.1 dX6_room_46 rfl (lv_at hl 0 rfl) ?_
  refine lv_iconst (v := (0 : Int32)) X.1 X.2.1 dX6_room_47 (by decide) ?_
  refine c_callVI_s X K hw (k_X6_tell l G S (0 : Int32) (by unfold vp_in; decide)) (g_cwV X hiX6_tell q312 q314 q0 q67 q315 ⟨(Nat.le_of_ble_eq_true rfl), (Nat.le_of_ble_eq_true rfl)⟩) (by decide) tt_eT rfl rfl hl.1 rfl (Nat.le_of_ble_eq_true rfl) dX6_room_48 ⟨(Nat.le_of_ble_eq_true rfl), (Nat.le_of_ble_eq_true rfl)⟩ (fun z10 S11 H locs ez10 eS11 hw => ?_)
  have hR : (z10, S11) = tgt := by
    rw [← hF]
    subst ez10 eS11
    simp only [f6_room, if_neg c1, if_neg c4, if_neg c7]
  have hRR : z10 = tgt.1 := pr1 hR
  have hRS : S11 = tgt.2 := pr2 hR
  exact g_iret X hret hlk hw hRR hRS dX6_room_51
set_option maxHeartbeats 4000000 in
set_option maxRecDepth 10000 in
theorem k_X6_empty (l : Launch) (G : tt_G) (S : tt_St) (hp0 : ci S) : c_MI l G yX6_empty (g_code yX6_empty cX6_empty 2 (some FieldType.int)) 0 0 [.ref (G.2.2 61)] S ((f6_empty S).1) ((f6_empty S).2) := by
  generalize hF : f6_empty S = tgt
  refine g_begin rfl (Nat.le_of_ble_eq_true rfl) _ (fun p e s m below meth c ls X hret hlk hB hl => ?_)
  obtain ⟨hP0, K⟩ := hB
  have hw : c_W G S s s.heap [] := ⟨hP0, va_S.rf⟩
  have X : CallFix p m c cX6_empty 2 s ([.ref (G.2.2 61)] : List Value).toArray tt_T "TrustTin" := X
  have hl : lv_has ls 2 [(0, .ref (G.2.2 61))] := hl
  refine lv_aload_n X.1 X.2.1 dX6_empty_0 rfl (lv_at hl 0 rfl) ?_
  refine g_get (v := .ref (G.2.2 30)) X K hw (by decide) tt_eT rfl iT6 0 (by decide) q280 rfl dX6_empty_1 ?_
  refine g_get (v := .int (S 0 4)) X K hw (by decide) (tt_eR (r := 0) (by decide : 0 < 3)) rfl iT2 5 (by decide) q172 rfl dX6_empty_4 ?_
  refine lv_topi (fun x1 ex1 => ?_)
  refine lv_istore_n (lv' := [(1, .int x1), (0, .ref (G.2.2 61))]) X.1 X.2.1 dX6_empty_7 rfl hl (by decide) rfl (fun ls hl => ?_)
  refine lv_aload_n X.1 X.2.1 dX6_empty_8 rfl (lv_at hl 1 rfl) ?_
  refine g_get (v := .ref (G.2.2 30)) X K hw (by decide) tt_eT rfl iT6 0 (by decide) q280 rfl dX6_empty_9 ?_
  refine lv_iconst (v := (0 : Int32)) X.1 X.2.1 dX6_empty_12 (by decide) ?_
  refine g_put (S' := tt_up S 0 4 (0 : Int32)) X K (c_ap K) hw (by decide) (tt_eR (r := 0) (by decide : 0 < 3)) rfl iT2 tyX2_ok nmX2 5 (by decide) q172 rfl rfl rfl (Nat.le_of_ble_eq_true rfl) (tt_sR (r := 0) (k := 4) (by decide : 0 < 3) (by decide)) dX6_empty_13 (fun S2 H locs eS2 hw => ?_)
  refine lv_iload_n X.1 X.2.1 dX6_empty_16 rfl (lv_at hl 0 rfl) ?_
  have hR : (x1, S2) = tgt := by
    rw [← hF]
    subst ex1 eS2
    simp only [f6_empty]
  have hRR : x1 = tgt.1 := pr1 hR
  have hRS : S2 = tgt.2 := pr2 hR
  exact g_iret X hret hlk hw hRR hRS dX6_empty_17
set_option maxHeartbeats 4000000 in
set_option maxRecDepth 10000 in
theorem k_X6_taken (l : Launch) (G : tt_G) (S : tt_St) (a1 : Int32) (hp0 : ci S) : c_MI l G yX6_taken (g_code yX6_taken cX6_taken 3 (some FieldType.int)) 1 30 [.ref (G.2.2 61), .int a1] S ((f6_taken S a1).1) ((f6_taken S a1).2) := by
  generalize hF : f6_taken S a1 = tgt
  refine g_begin rfl (Nat.le_of_ble_eq_true rfl) _ (fun p e s m below meth c ls X hret hlk hB hl => ?_)
  obtain ⟨hP0, K⟩ := hB
  have hw : c_W G S s s.heap [] := ⟨hP0, va_S.rf⟩
  have X : CallFix p m c cX6_taken 3 s ([.ref (G.2.2 61), .int a1] : List Value).toArray tt_T "TrustTin" := X
  have hl : lv_has ls 3 [(0, .ref (G.2.2 61)), (1, .int a1)] := hl
  refine lv_iload_n X.1 X.2.1 dX6_taken_0 rfl (lv_at hl 1 rfl) ?_
  refine lv_iconst (v := (1 : Int32)) X.1 X.2.1 dX6_taken_1 (by decide) ?_
  refine lv_sipush (v := (999 : Int32)) X.1 X.2.1 dX6_taken_2 (by decide) ?_
  refine c_callSI_p X K hw (k_X6_within l G S a1 (1 : Int32) (999 : Int32)) (g_cwS X hiX6_within q309 q310 q67 q311 ⟨(Nat.le_of_ble_eq_true rfl), (Nat.le_of_ble_eq_true rfl)⟩) rfl hl.1 rfl (Nat.le_of_ble_eq_true rfl) dX6_taken_5 ⟨(Nat.le_of_ble_eq_true rfl), (Nat.le_of_ble_eq_true rfl)⟩ (fun z1 H locs ez1 hw => ?_)
  refine lv_if_ne (tgt := 17) X.1 X.2.1 dX6_taken_8 (by decide) (fun c2 => ?_) (fun c2 => ?_)
  · refine lv_iload_n X.1 X.2.1 dX6_taken_17 rfl (lv_at hl 1 rfl) ?_
    refine lv_aload_n X.1 X.2.1 dX6_taken_18 rfl (lv_at hl 0 rfl) ?_
    refine g_get (v := .ref (G.2.2 30)) X K hw (by decide) tt_eT rfl iT6 0 (by decide) q280 rfl dX6_taken_19 ?_
    refine g_get (v := .int (S 0 4)) X K hw (by decide) (tt_eR (r := 0) (by decide : 0 < 3)) rfl iT2 5 (by decide) q172 rfl dX6_taken_22 ?_
    refine va_mmin X.1 X.2.1 (X.2.2.1.trans hl.1.symm) X.2.2.2.1 (X.2.2.2.2 _ q379) (X.2.2.2.2 _ q322) (X.2.2.2.2 _ q75) (X.2.2.2.2 _ q323) (Nat.le_of_ble_eq_true rfl) (Nat.le_of_ble_eq_true rfl) (Nat.le_of_ble_eq_true rfl) (Nat.le_of_ble_eq_true rfl) dX6_taken_25 ?_
    refine lv_topi (fun x3 ex3 => ?_)
    refine lv_istore_n (lv' := [(2, .int x3), (0, .ref (G.2.2 61)), (1, .int a1)]) X.1 X.2.1 dX6_taken_28 rfl hl (by decide) rfl (fun ls hl => ?_)
    refine lv_aload_n X.1 X.2.1 dX6_taken_29 rfl (lv_at hl 1 rfl) ?_
    refine g_get (v := .ref (G.2.2 30)) X K hw (by decide) tt_eT rfl iT6 0 (by decide) q280 rfl dX6_taken_30 ?_
    refine lv_dup X.1 X.2.1 dX6_taken_33 rfl ?_
    refine g_get (v := .int (S 0 4)) X K hw (by decide) (tt_eR (r := 0) (by decide : 0 < 3)) rfl iT2 5 (by decide) q172 rfl dX6_taken_34 ?_
    refine lv_iload_n X.1 X.2.1 dX6_taken_37 rfl (lv_at hl 0 rfl) ?_
    refine lv_isub X.1 X.2.1 dX6_taken_38 ?_
    refine lv_topi (fun x4 ex4 => ?_)
    refine g_put (S' := tt_up S 0 4 x4) X K (c_ap K) hw (by decide) (tt_eR (r := 0) (by decide : 0 < 3)) rfl iT2 tyX2_ok nmX2 5 (by decide) q172 rfl rfl rfl (Nat.le_of_ble_eq_true rfl) (tt_sR (r := 0) (k := 4) (by decide : 0 < 3) (by decide)) dX6_taken_39 (fun S5 H locs eS5 hw => ?_)
    refine lv_iload_n X.1 X.2.1 dX6_taken_42 rfl (lv_at hl 0 rfl) ?_
    have hR : (x3, S5) = tgt := by
      rw [← hF]
      subst ez1 ex3 ex4 eS5
      simp only [f6_taken, if_neg c2]
    have hRR : x3 = tgt.1 := pr1 hR
    have hRS : S5 = tgt.2 := pr2 hR
    exact g_iret X hret hlk hw hRR hRS dX6_taken_43
  · refine lv_aload_n X.1 X.2.1 dX6_taken_11 rfl (lv_at hl 0 rfl) ?_
    refine lv_iconst (v := (0 : Int32)) X.1 X.2.1 dX6_taken_12 (by decide) ?_
    refine c_callVI_s X K hw (k_X6_tell l G S (0 : Int32) (by unfold vp_in; decide)) (g_cwV X hiX6_tell q312 q314 q0 q67 q315 ⟨(Nat.le_of_ble_eq_true rfl), (Nat.le_of_ble_eq_true rfl)⟩) (by decide) tt_eT rfl rfl hl.1 rfl (Nat.le_of_ble_eq_true rfl) dX6_taken_13 ⟨(Nat.le_of_ble_eq_true rfl), (Nat.le_of_ble_eq_true rfl)⟩ (fun z6 S7 H locs ez6 eS7 hw => ?_)
    have hR : (z6, S7) = tgt := by
      rw [← hF]
      subst ez1 ez6 eS7
      simp only [f6_taken, if_pos c2]
    have hRR : z6 = tgt.1 := pr1 hR
    have hRS : S7 = tgt.2 := pr2 hR
    exact g_iret X hret hlk hw hRR hRS dX6_taken_16
set_option maxHeartbeats 4000000 in
set_option maxRecDepth 10000 in
theorem k_X6_forgive (l : Launch) (G : tt_G) (S : tt_St) (a1 : Int32) (hp0 : ci S) : c_MI l G yX6_forgive (g_code yX6_forgive cX6_forgive 3 (some FieldType.int)) 2 43 [.ref (G.2.2 61), .int a1] S ((f6_forgive S a1).1) ((f6_forgive S a1).2) := by
  generalize hF : f6_forgive S a1 = tgt
  refine g_begin rfl (Nat.le_of_ble_eq_true rfl) _ (fun p e s m below meth c ls X hret hlk hB hl => ?_)
  obtain ⟨hP0, K⟩ := hB
  have hw : c_W G S s s.heap [] := ⟨hP0, va_S.rf⟩
  have X : CallFix p m c cX6_forgive 3 s ([.ref (G.2.2 61), .int a1] : List Value).toArray tt_T "TrustTin" := X
  have hl : lv_has ls 3 [(0, .ref (G.2.2 61)), (1, .int a1)] := hl
  refine lv_aload_n X.1 X.2.1 dX6_forgive_0 rfl (lv_at hl 0 rfl) ?_
  refine lv_iload_n X.1 X.2.1 dX6_forgive_1 rfl (lv_at hl 1 rfl) ?_
  refine c_callVI_p X K hw (k_X6_isDrinker l G S a1) (g_cwV X hiX6_isDrinker q332 q334 q1 q67 q335 ⟨(Nat.le_of_ble_eq_true rfl), (Nat.le_of_ble_eq_true rfl)⟩) (by decide) tt_eT rfl rfl hl.1 rfl (Nat.le_of_ble_eq_true rfl) dX6_forgive_2 ⟨(Nat.le_of_ble_eq_true rfl), (Nat.le_of_ble_eq_true rfl)⟩ (fun z1 H locs ez1 hw => ?_)
  refine lv_if_ne (tgt := 14) X.1 X.2.1 dX6_forgive_5 (by decide) (fun c2 => ?_) (fun c2 => ?_)
  · refine lv_aload_n X.1 X.2.1 dX6_forgive_14 rfl (lv_at hl 0 rfl) ?_
    refine g_get (v := .ref (G.2.2 30)) X K hw (by decide) tt_eT rfl iT6 0 (by decide) q280 rfl dX6_forgive_15 ?_
    refine g_get (v := .ref (G.2.2 33)) X K hw (by decide) (tt_eR (r := 0) (by decide : 0 < 3)) rfl iT2 0 (by decide) q160 rfl dX6_forgive_18 ?_
    refine lv_iload_n X.1 X.2.1 dX6_forgive_21 rfl (lv_at hl 1 rfl) ?_
    have hi3 : vp_in a1 10 := dr_in hp0 ez1 c2
    have hd4 : a1.toNatClampNeg < 10 := lp_cl hi3
    refine g_aald X K hw (by decide) (tt_eA (r := 0) (by decide : 0 < 3)) 1 rfl hi3 rfl dX6_forgive_22 ?_
    refine g_get (v := .int (S 0 (16 + 7 * a1.toNatClampNeg))) X K hw (by have := (by decide : 0 < 3); have := hd4; omega) (tt_eD (r := 0) (d := a1.toNatClampNeg) (by decide : 0 < 3) hd4) rfl iT1 4 (by decide) q136 rfl dX6_forgive_23 ?_
    refine lv_topi (fun x5 ex5 => ?_)
    refine lv_istore_n (lv' := [(2, .int x5), (0, .ref (G.2.2 61)), (1, .int a1)]) X.1 X.2.1 dX6_forgive_26 rfl hl (by decide) rfl (fun ls hl => ?_)
    refine lv_aload_n X.1 X.2.1 dX6_forgive_27 rfl (lv_at hl 1 rfl) ?_
    refine g_get (v := .ref (G.2.2 30)) X K hw (by decide) tt_eT rfl iT6 0 (by decide) q280 rfl dX6_forgive_28 ?_
    refine g_get (v := .ref (G.2.2 33)) X K hw (by decide) (tt_eR (r := 0) (by decide : 0 < 3)) rfl iT2 0 (by decide) q160 rfl dX6_forgive_31 ?_
    refine lv_iload_n X.1 X.2.1 dX6_forgive_34 rfl (lv_at hl 2 rfl) ?_
    have hi6 : vp_in a1 10 := dr_in hp0 ez1 c2
    refine g_aald X K hw (by decide) (tt_eA (r := 0) (by decide : 0 < 3)) 1 rfl hi6 rfl dX6_forgive_35 ?_
    refine lv_iconst (v := (0 : Int32)) X.1 X.2.1 dX6_forgive_36 (by decide) ?_
    refine g_put (S' := tt_up S 0 (16 + 7 * a1.toNatClampNeg) (0 : Int32)) X K (c_ap K) hw (by have := (by decide : 0 < 3); have := hd4; omega) (tt_eD (r := 0) (d := a1.toNatClampNeg) (by decide : 0 < 3) hd4) rfl iT1 tyX1_ok nmX1 4 (by decide) q136 rfl rfl rfl (Nat.le_of_ble_eq_true rfl) (tt_sD (r := 0) (d := a1.toNatClampNeg) (k := 4) (by decide : 0 < 3) hd4 (by decide)) dX6_forgive_37 (fun S7 H locs eS7 hw => ?_)
    refine lv_iload_n X.1 X.2.1 dX6_forgive_40 rfl (lv_at hl 0 rfl) ?_
    have hR : (x5, S7) = tgt := by
      rw [← hF]
      subst ez1 ex5 eS7
      simp only [f6_forgive, if_neg c2]
    have hRR : x5 = tgt.1 := pr1 hR
    have hRS : S7 = tgt.2 := pr2 hR
    exact g_iret X hret hlk hw hRR hRS dX6_forgive_41
  · refine lv_aload_n X.1 X.2.1 dX6_forgive_8 rfl (lv_at hl 0 rfl) ?_
    refine lv_iconst (v := (0 : Int32)) X.1 X.2.1 dX6_forgive_9 (by decide) ?_
    refine c_callVI_s X K hw (k_X6_tell l G S (0 : Int32) (by unfold vp_in; decide)) (g_cwV X hiX6_tell q312 q314 q0 q67 q315 ⟨(Nat.le_of_ble_eq_true rfl), (Nat.le_of_ble_eq_true rfl)⟩) (by decide) tt_eT rfl rfl hl.1 rfl (Nat.le_of_ble_eq_true rfl) dX6_forgive_10 ⟨(Nat.le_of_ble_eq_true rfl), (Nat.le_of_ble_eq_true rfl)⟩ (fun z8 S9 H locs ez8 eS9 hw => ?_)
    have hR : (z8, S9) = tgt := by
      rw [← hF]
      subst ez1 ez8 eS9
      simp only [f6_forgive, if_pos c2]
    have hRR : z8 = tgt.1 := pr1 hR
    have hRS : S9 = tgt.2 := pr2 hR
    exact g_iret X hret hlk hw hRR hRS dX6_forgive_13
set_option maxHeartbeats 4000000 in
set_option maxRecDepth 10000 in
theorem k_X6_now (l : Launch) (G : tt_G) (S : tt_St) (a1 : Int32) (hp0 : ci S) : c_MI l G yX6_now (g_code yX6_now cX6_now 2 (some FieldType.int)) 3 64 [.ref (G.2.2 61), .int a1] S ((f6_now S a1).1) ((f6_now S a1).2) := by
  generalize hF : f6_now S a1 = tgt
  refine g_begin rfl (Nat.le_of_ble_eq_true rfl) _ (fun p e s m below meth c ls X hret hlk hB hl => ?_)
  obtain ⟨hP0, K⟩ := hB
  have hw : c_W G S s s.heap [] := ⟨hP0, va_S.rf⟩
  have X : CallFix p m c cX6_now 2 s ([.ref (G.2.2 61), .int a1] : List Value).toArray tt_T "TrustTin" := X
  have hl : lv_has ls 2 [(0, .ref (G.2.2 61)), (1, .int a1)] := hl
  refine lv_iload_n X.1 X.2.1 dX6_now_0 rfl (lv_at hl 1 rfl) ?_
  by_cases c1 : a1 = (0 : Int32)
  · refine lv_tableIn (tgt := 56) X.1 X.2.1 dX6_now_1 (by rw [c1]; decide) (by rw [c1]; decide) (by rw [c1]; rfl) (by decide) ?_
    refine lv_aload_n X.1 X.2.1 dX6_now_56 rfl (lv_at hl 0 rfl) ?_
    refine g_get (v := .ref (G.2.2 30)) X K hw (by decide) tt_eT rfl iT6 0 (by decide) q280 rfl dX6_now_57 ?_
    refine g_get (v := .int (S 0 7)) X K hw (by decide) (tt_eR (r := 0) (by decide : 0 < 3)) rfl iT2 8 (by decide) q179 rfl dX6_now_60 ?_
    have hR : (S 0 7, S) = tgt := by
      rw [← hF]
      simp only [f6_now, if_pos c1]
    have hRR : S 0 7 = tgt.1 := pr1 hR
    have hRS : S = tgt.2 := pr2 hR
    exact g_iret X hret hlk hw hRR hRS dX6_now_63
  by_cases c2 : a1 = (1 : Int32)
  · refine lv_tableIn (tgt := 64) X.1 X.2.1 dX6_now_1 (by rw [c2]; decide) (by rw [c2]; decide) (by rw [c2]; rfl) (by decide) ?_
    refine lv_aload_n X.1 X.2.1 dX6_now_64 rfl (lv_at hl 0 rfl) ?_
    refine g_get (v := .ref (G.2.2 30)) X K hw (by decide) tt_eT rfl iT6 0 (by decide) q280 rfl dX6_now_65 ?_
    refine g_get (v := .int (S 0 4)) X K hw (by decide) (tt_eR (r := 0) (by decide : 0 < 3)) rfl iT2 5 (by decide) q172 rfl dX6_now_68 ?_
    have hR : (S 0 4, S) = tgt := by
      rw [← hF]
      simp only [f6_now, if_neg c1, if_pos c2]
    have hRR : S 0 4 = tgt.1 := pr1 hR
    have hRS : S = tgt.2 := pr2 hR
    exact g_iret X hret hlk hw hRR hRS dX6_now_71
  by_cases c3 : a1 = (2 : Int32)
  · refine lv_tableIn (tgt := 72) X.1 X.2.1 dX6_now_1 (by rw [c3]; decide) (by rw [c3]; decide) (by rw [c3]; rfl) (by decide) ?_
    refine lv_aload_n X.1 X.2.1 dX6_now_72 rfl (lv_at hl 0 rfl) ?_
    refine g_get (v := .ref (G.2.2 30)) X K hw (by decide) tt_eT rfl iT6 0 (by decide) q280 rfl dX6_now_73 ?_
    refine g_get (v := .int (S 0 3)) X K hw (by decide) (tt_eR (r := 0) (by decide : 0 < 3)) rfl iT2 4 (by decide) q170 rfl dX6_now_76 ?_
    have hR : (S 0 3, S) = tgt := by
      rw [← hF]
      simp only [f6_now, if_neg c1, if_neg c2, if_pos c3]
    have hRR : S 0 3 = tgt.1 := pr1 hR
    have hRS : S = tgt.2 := pr2 hR
    exact g_iret X hret hlk hw hRR hRS dX6_now_79
  by_cases c4 : a1 = (3 : Int32)
  · refine lv_tableIn (tgt := 80) X.1 X.2.1 dX6_now_1 (by rw [c4]; decide) (by rw [c4]; decide) (by rw [c4]; rfl) (by decide) ?_
    refine lv_aload_n X.1 X.2.1 dX6_now_80 rfl (lv_at hl 0 rfl) ?_
    refine g_get (v := .ref (G.2.2 30)) X K hw (by decide) tt_eT rfl iT6 0 (by decide) q280 rfl dX6_now_81 ?_
    refine g_get (v := .int (S 0 6)) X K hw (by decide) (tt_eR (r := 0) (by decide : 0 < 3)) rfl iT2 7 (by decide) q177 rfl dX6_now_84 ?_
    have hR : (S 0 6, S) = tgt := by
      rw [← hF]
      simp only [f6_now, if_neg c1, if_neg c2, if_neg c3, if_pos c4]
    have hRR : S 0 6 = tgt.1 := pr1 hR
    have hRS : S = tgt.2 := pr2 hR
    exact g_iret X hret hlk hw hRR hRS dX6_now_87
  by_cases c5 : a1 = (4 : Int32)
  · refine lv_tableIn (tgt := 88) X.1 X.2.1 dX6_now_1 (by rw [c5]; decide) (by rw [c5]; decide) (by rw [c5]; rfl) (by decide) ?_
    refine lv_aload_n X.1 X.2.1 dX6_now_88 rfl (lv_at hl 0 rfl) ?_
    refine g_get (v := .ref (G.2.2 30)) X K hw (by decide) tt_eT rfl iT6 0 (by decide) q280 rfl dX6_now_89 ?_
    refine c_callVI_p X K hw (k_X2_due l G S 0 (by decide) (hp0.1 0 (by decide)).2) (g_cwV X hiX2_due q388 q389 q390 q68 q391 ⟨(Nat.le_of_ble_eq_true rfl), (Nat.le_of_ble_eq_true rfl)⟩) (by decide) (tt_eR (r := 0) (by decide : 0 < 3)) rfl rfl hl.1 rfl (Nat.le_of_ble_eq_true rfl) dX6_now_92 ⟨(Nat.le_of_ble_eq_true rfl), (Nat.le_of_ble_eq_true rfl)⟩ (fun z6 H locs ez6 hw => ?_)
    have hR : (z6, S) = tgt := by
      rw [← hF]
      subst ez6
      simp only [f6_now, if_neg c1, if_neg c2, if_neg c3, if_neg c4, if_pos c5]
    have hRR : z6 = tgt.1 := pr1 hR
    have hRS : S = tgt.2 := pr2 hR
    exact g_iret X hret hlk hw hRR hRS dX6_now_95
  by_cases c7 : a1 = (5 : Int32)
  · refine lv_tableIn (tgt := 96) X.1 X.2.1 dX6_now_1 (by rw [c7]; decide) (by rw [c7]; decide) (by rw [c7]; rfl) (by decide) ?_
    refine lv_aload_n X.1 X.2.1 dX6_now_96 rfl (lv_at hl 0 rfl) ?_
    refine g_get (v := .ref (G.2.2 30)) X K hw (by decide) tt_eT rfl iT6 0 (by decide) q280 rfl dX6_now_97 ?_
    refine g_get (v := .int (S 0 8)) X K hw (by decide) (tt_eR (r := 0) (by decide : 0 < 3)) rfl iT2 9 (by decide) q181 rfl dX6_now_100 ?_
    have hR : (S 0 8, S) = tgt := by
      rw [← hF]
      simp only [f6_now, if_neg c1, if_neg c2, if_neg c3, if_neg c4, if_neg c5, if_pos c7]
    have hRR : S 0 8 = tgt.1 := pr1 hR
    have hRS : S = tgt.2 := pr2 hR
    exact g_iret X hret hlk hw hRR hRS dX6_now_103
  by_cases c8 : a1 = (6 : Int32)
  · refine lv_tableIn (tgt := 104) X.1 X.2.1 dX6_now_1 (by rw [c8]; decide) (by rw [c8]; decide) (by rw [c8]; rfl) (by decide) ?_
    refine lv_aload_n X.1 X.2.1 dX6_now_104 rfl (lv_at hl 0 rfl) ?_
    refine g_get (v := .ref (G.2.2 30)) X K hw (by decide) tt_eT rfl iT6 0 (by decide) q280 rfl dX6_now_105 ?_
    refine lv_iconst (v := (4 : Int32)) X.1 X.2.1 dX6_now_108 (by decide) ?_
    refine c_callVI_p X K hw (k_X2_sumOf l G S 0 (4 : Int32) (by decide) (hp0.1 0 (by decide)).2) (g_cwV X hiX2_sumOf q397 q393 q394 q68 q395 ⟨(Nat.le_of_ble_eq_true rfl), (Nat.le_of_ble_eq_true rfl)⟩) (by decide) (tt_eR (r := 0) (by decide : 0 < 3)) rfl rfl hl.1 rfl (Nat.le_of_ble_eq_true rfl) dX6_now_109 ⟨(Nat.le_of_ble_eq_true rfl), (Nat.le_of_ble_eq_true rfl)⟩ (fun z9 H locs ez9 hw => ?_)
    have hR : (z9, S) = tgt := by
      rw [← hF]
      subst ez9
      simp only [f6_now, if_neg c1, if_neg c2, if_neg c3, if_neg c4, if_neg c5, if_neg c7, if_pos c8]
    have hRR : z9 = tgt.1 := pr1 hR
    have hRS : S = tgt.2 := pr2 hR
    exact g_iret X hret hlk hw hRR hRS dX6_now_112
  by_cases c10 : a1 = (7 : Int32)
  · refine lv_tableIn (tgt := 113) X.1 X.2.1 dX6_now_1 (by rw [c10]; decide) (by rw [c10]; decide) (by rw [c10]; rfl) (by decide) ?_
    refine lv_aload_n X.1 X.2.1 dX6_now_113 rfl (lv_at hl 0 rfl) ?_
    refine g_get (v := .ref (G.2.2 30)) X K hw (by decide) tt_eT rfl iT6 0 (by decide) q280 rfl dX6_now_114 ?_
    refine lv_iconst (v := (2 : Int32)) X.1 X.2.1 dX6_now_117 (by decide) ?_
    refine c_callVI_p X K hw (k_X2_sumOf l G S 0 (2 : Int32) (by decide) (hp0.1 0 (by decide)).2) (g_cwV X hiX2_sumOf q397 q393 q394 q68 q395 ⟨(Nat.le_of_ble_eq_true rfl), (Nat.le_of_ble_eq_true rfl)⟩) (by decide) (tt_eR (r := 0) (by decide : 0 < 3)) rfl rfl hl.1 rfl (Nat.le_of_ble_eq_true rfl) dX6_now_118 ⟨(Nat.le_of_ble_eq_true rfl), (Nat.le_of_ble_eq_true rfl)⟩ (fun z11 H locs ez11 hw => ?_)
    have hR : (z11, S) = tgt := by
      rw [← hF]
      subst ez11
      simp only [f6_now, if_neg c1, if_neg c2, if_neg c3, if_neg c4, if_neg c5, if_neg c7, if_neg c8, if_pos c10]
    have hRR : z11 = tgt.1 := pr1 hR
    have hRS : S = tgt.2 := pr2 hR
    exact g_iret X hret hlk hw hRR hRS dX6_now_121
  by_cases c12 : a1 = (8 : Int32)
  · refine lv_tableIn (tgt := 122) X.1 X.2.1 dX6_now_1 (by rw [c12]; decide) (by rw [c12]; decide) (by rw [c12]; rfl) (by decide) ?_
    refine lv_aload_n X.1 X.2.1 dX6_now_122 rfl (lv_at hl 0 rfl) ?_
    refine g_get (v := .ref (G.2.2 30)) X K hw (by decide) tt_eT rfl iT6 0 (by decide) q280 rfl dX6_now_123 ?_
    refine lv_iconst (v := (5 : Int32)) X.1 X.2.1 dX6_now_126 (by decide) ?_
    refine c_callVI_p X K hw (k_X2_sumOf l G S 0 (5 : Int32) (by decide) (hp0.1 0 (by decide)).2) (g_cwV X hiX2_sumOf q397 q393 q394 q68 q395 ⟨(Nat.le_of_ble_eq_true rfl), (Nat.le_of_ble_eq_true rfl)⟩) (by decide) (tt_eR (r := 0) (by decide : 0 < 3)) rfl rfl hl.1 rfl (Nat.le_of_ble_eq_true rfl) dX6_now_127 ⟨(Nat.le_of_ble_eq_true rfl), (Nat.le_of_ble_eq_true rfl)⟩ (fun z13 H locs ez13 hw => ?_)
    have hR : (z13, S) = tgt := by
      rw [← hF]
      subst ez13
      simp only [f6_now, if_neg c1, if_neg c2, if_neg c3, if_neg c4, if_neg c5, if_neg c7, if_neg c8, if_neg c10, if_pos c12]
    have hRR : z13 = tgt.1 := pr1 hR
    have hRS : S = tgt.2 := pr2 hR
    exact g_iret X hret hlk hw hRR hRS dX6_now_130
  by_cases c14 : a1 = (9 : Int32)
  · refine lv_tableIn (tgt := 131) X.1 X.2.1 dX6_now_1 (by rw [c14]; decide) (by rw [c14]; decide) (by rw [c14]; rfl) (by decide) ?_
    refine lv_aload_n X.1 X.2.1 dX6_now_131 rfl (lv_at hl 0 rfl) ?_
    refine g_get (v := .ref (G.2.2 30)) X K hw (by decide) tt_eT rfl iT6 0 (by decide) q280 rfl dX6_now_132 ?_
    refine lv_bipush (v := (6 : Int32)) X.1 X.2.1 dX6_now_135 (by decide) ?_
    refine c_callVI_p X K hw (k_X2_sumOf l G S 0 (6 : Int32) (by decide) (hp0.1 0 (by decide)).2) (g_cwV X hiX2_sumOf q397 q393 q394 q68 q395 ⟨(Nat.le_of_ble_eq_true rfl), (Nat.le_of_ble_eq_true rfl)⟩) (by decide) (tt_eR (r := 0) (by decide : 0 < 3)) rfl rfl hl.1 rfl (Nat.le_of_ble_eq_true rfl) dX6_now_137 ⟨(Nat.le_of_ble_eq_true rfl), (Nat.le_of_ble_eq_true rfl)⟩ (fun z15 H locs ez15 hw => ?_)
    have hR : (z15, S) = tgt := by
      rw [← hF]
      subst ez15
      simp only [f6_now, if_neg c1, if_neg c2, if_neg c3, if_neg c4, if_neg c5, if_neg c7, if_neg c8, if_neg c10, if_neg c12, if_pos c14]
    have hRR : z15 = tgt.1 := pr1 hR
    have hRS : S = tgt.2 := pr2 hR
    exact g_iret X hret hlk hw hRR hRS dX6_now_140
  refine lv_tableOut (tgt := 141) X.1 X.2.1 dX6_now_1 (by have := lv_neT (a := 0) c1 rfl; have := lv_neT (a := 1) c2 rfl; have := lv_neT (a := 2) c3 rfl; have := lv_neT (a := 3) c4 rfl; have := lv_neT (a := 4) c5 rfl; have := lv_neT (a := 5) c7 rfl; have := lv_neT (a := 6) c8 rfl; have := lv_neT (a := 7) c10 rfl; have := lv_neT (a := 8) c12 rfl; have := lv_neT (a := 9) c14 rfl; omega) (by decide) ?_
  refine lv_aload_n X.1 X.2.1 dX6_now_141 rfl (lv_at hl 0 rfl) ?_
  refine lv_iconst (v := (0 : Int32)) X.1 X.2.1 dX6_now_142 (by decide) ?_
  refine c_callVI_s X K hw (k_X6_tell l G S (0 : Int32) (by unfold vp_in; decide)) (g_cwV X hiX6_tell q312 q314 q0 q67 q315 ⟨(Nat.le_of_ble_eq_true rfl), (Nat.le_of_ble_eq_true rfl)⟩) (by decide) tt_eT rfl rfl hl.1 rfl (Nat.le_of_ble_eq_true rfl) dX6_now_143 ⟨(Nat.le_of_ble_eq_true rfl), (Nat.le_of_ble_eq_true rfl)⟩ (fun z16 S17 H locs ez16 eS17 hw => ?_)
  have hR : (z16, S17) = tgt := by
    rw [← hF]
    subst ez16 eS17
    simp only [f6_now, if_neg c1, if_neg c2, if_neg c3, if_neg c4, if_neg c5, if_neg c7, if_neg c8, if_neg c10, if_neg c12, if_neg c14]
  have hRR : z16 = tgt.1 := pr1 hR
  have hRS : S17 = tgt.2 := pr2 hR
  exact g_iret X hret hlk hw hRR hRS dX6_now_146
set_option maxHeartbeats 4000000 in
set_option maxRecDepth 10000 in
theorem k_X6_isTooLate (l : Launch) (G : tt_G) (S : tt_St) (a1 : Int32) : c_MI l G yX6_isTooLate (g_code yX6_isTooLate cX6_isTooLate 2 (some FieldType.boolean)) 0 0 [.ref (G.2.2 61), .int a1] S (f6_isTooLate S a1) S := by
  generalize hF : f6_isTooLate S a1 = tgt
  refine g_begin rfl (Nat.le_of_ble_eq_true rfl) _ (fun p e s m below meth c ls X hret hlk hB hl => ?_)
  obtain ⟨hP0, K⟩ := hB
  have hw : c_W G S s s.heap [] := ⟨hP0, va_S.rf⟩
  have X : CallFix p m c cX6_isTooLate 2 s ([.ref (G.2.2 61), .int a1] : List Value).toArray tt_T "TrustTin" := X
  have hl : lv_has ls 2 [(0, .ref (G.2.2 61)), (1, .int a1)] := hl
  refine lv_aload_n X.1 X.2.1 dX6_isTooLate_0 rfl (lv_at hl 0 rfl) ?_
  refine g_get (v := .ref (G.2.2 30)) X K hw (by decide) tt_eT rfl iT6 0 (by decide) q280 rfl dX6_isTooLate_1 ?_
  refine g_get (v := .int (S 0 7)) X K hw (by decide) (tt_eR (r := 0) (by decide : 0 < 3)) rfl iT2 8 (by decide) q179 rfl dX6_isTooLate_4 ?_
  refine lv_iload_n X.1 X.2.1 dX6_isTooLate_7 rfl (lv_at hl 1 rfl) ?_
  refine lv_iadd X.1 X.2.1 dX6_isTooLate_8 ?_
  refine lv_sipush (v := (9999 : Int32)) X.1 X.2.1 dX6_isTooLate_9 (by decide) ?_
  refine lv_icmp_le (tgt := 19) X.1 X.2.1 dX6_isTooLate_12 (by decide) (fun c1 => ?_) (fun c1 => ?_)
  · refine lv_iconst (v := (0 : Int32)) X.1 X.2.1 dX6_isTooLate_19 (by decide) ?_
    have hR : (0 : Int32) = tgt := by
      rw [← hF]
      simp only [f6_isTooLate, if_pos c1]
    exact g_zret X hret hlk hw rfl hR rfl dX6_isTooLate_20
  · refine lv_iconst (v := (1 : Int32)) X.1 X.2.1 dX6_isTooLate_15 (by decide) ?_
    refine lv_goto (tgt := 20) X.1 X.2.1 dX6_isTooLate_16 (by decide) ?_
    have hR : (1 : Int32) = tgt := by
      rw [← hF]
      simp only [f6_isTooLate, if_neg c1]
    exact g_zret X hret hlk hw rfl hR rfl dX6_isTooLate_20
set_option maxHeartbeats 4000000 in
set_option maxRecDepth 10000 in
theorem k_X6_days (l : Launch) (G : tt_G) (S : tt_St) (a1 : Int32) (hp0 : ci S) : c_MI l G yX6_days (g_code yX6_days cX6_days 2 (some FieldType.int)) 6 148 [.ref (G.2.2 61), .int a1] S ((f6_days S a1).1) ((f6_days S a1).2) := by
  generalize hF : f6_days S a1 = tgt
  refine g_begin rfl (Nat.le_of_ble_eq_true rfl) _ (fun p e s m below meth c ls X hret hlk hB hl => ?_)
  obtain ⟨hP0, K⟩ := hB
  have hw : c_W G S s s.heap [] := ⟨hP0, va_S.rf⟩
  have X : CallFix p m c cX6_days 2 s ([.ref (G.2.2 61), .int a1] : List Value).toArray tt_T "TrustTin" := X
  have hl : lv_has ls 2 [(0, .ref (G.2.2 61)), (1, .int a1)] := hl
  refine lv_iload_n X.1 X.2.1 dX6_days_0 rfl (lv_at hl 1 rfl) ?_
  refine lv_iconst (v := (1 : Int32)) X.1 X.2.1 dX6_days_1 (by decide) ?_
  refine lv_bipush (v := (50 : Int32)) X.1 X.2.1 dX6_days_2 (by decide) ?_
  refine c_callSI_p X K hw (k_X6_within l G S a1 (1 : Int32) (50 : Int32)) (g_cwS X hiX6_within q309 q310 q67 q311 ⟨(Nat.le_of_ble_eq_true rfl), (Nat.le_of_ble_eq_true rfl)⟩) rfl hl.1 rfl (Nat.le_of_ble_eq_true rfl) dX6_days_4 ⟨(Nat.le_of_ble_eq_true rfl), (Nat.le_of_ble_eq_true rfl)⟩ (fun z1 H locs ez1 hw => ?_)
  refine lv_if_ne (tgt := 16) X.1 X.2.1 dX6_days_7 (by decide) (fun c2 => ?_) (fun c2 => ?_)
  · refine lv_aload_n X.1 X.2.1 dX6_days_16 rfl (lv_at hl 0 rfl) ?_
    refine lv_iload_n X.1 X.2.1 dX6_days_17 rfl (lv_at hl 1 rfl) ?_
    refine c_callVI_p X K hw (k_X6_isTooLate l G S a1) (g_cwV X hiX6_isTooLate q402 q404 q5 q67 q405 ⟨(Nat.le_of_ble_eq_true rfl), (Nat.le_of_ble_eq_true rfl)⟩) (by decide) tt_eT rfl rfl hl.1 rfl (Nat.le_of_ble_eq_true rfl) dX6_days_18 ⟨(Nat.le_of_ble_eq_true rfl), (Nat.le_of_ble_eq_true rfl)⟩ (fun z3 H locs ez3 hw => ?_)
    refine lv_if_eq (tgt := 30) X.1 X.2.1 dX6_days_21 (by decide) (fun c4 => ?_) (fun c4 => ?_)
    · refine lv_aload_n X.1 X.2.1 dX6_days_30 rfl (lv_at hl 0 rfl) ?_
      refine g_get (v := .ref (G.2.2 30)) X K hw (by decide) tt_eT rfl iT6 0 (by decide) q280 rfl dX6_days_31 ?_
      refine lv_iload_n X.1 X.2.1 dX6_days_34 rfl (lv_at hl 1 rfl) ?_
      refine c_callVI_s X K hw (k_X2_goDays l G S 0 a1 (by decide) (hp0.1 0 (by decide)).2) (g_cwV X hiX2_goDays q406 q407 q408 q68 q409 ⟨(Nat.le_of_ble_eq_true rfl), (Nat.le_of_ble_eq_true rfl)⟩) (by decide) (tt_eR (r := 0) (by decide : 0 < 3)) rfl rfl hl.1 rfl (Nat.le_of_ble_eq_true rfl) dX6_days_35 ⟨(Nat.le_of_ble_eq_true rfl), (Nat.le_of_ble_eq_true rfl)⟩ (fun z5 S6 H locs ez5 eS6 hw => ?_)
      have hR : (z5, S6) = tgt := by
        rw [← hF]
        subst ez1 ez3 ez5 eS6
        simp only [f6_days, if_neg c2, if_pos c4]
      have hRR : z5 = tgt.1 := pr1 hR
      have hRS : S6 = tgt.2 := pr2 hR
      exact g_iret X hret hlk hw hRR hRS dX6_days_38
    · refine lv_aload_n X.1 X.2.1 dX6_days_24 rfl (lv_at hl 0 rfl) ?_
      refine lv_iconst (v := (4 : Int32)) X.1 X.2.1 dX6_days_25 (by decide) ?_
      refine c_callVI_s X K hw (k_X6_tell l G S (4 : Int32) (by unfold vp_in; decide)) (g_cwV X hiX6_tell q312 q314 q0 q67 q315 ⟨(Nat.le_of_ble_eq_true rfl), (Nat.le_of_ble_eq_true rfl)⟩) (by decide) tt_eT rfl rfl hl.1 rfl (Nat.le_of_ble_eq_true rfl) dX6_days_26 ⟨(Nat.le_of_ble_eq_true rfl), (Nat.le_of_ble_eq_true rfl)⟩ (fun z7 S8 H locs ez7 eS8 hw => ?_)
      have hR : (z7, S8) = tgt := by
        rw [← hF]
        subst ez1 ez3 ez7 eS8
        simp only [f6_days, if_neg c2, if_neg c4]
      have hRR : z7 = tgt.1 := pr1 hR
      have hRS : S8 = tgt.2 := pr2 hR
      exact g_iret X hret hlk hw hRR hRS dX6_days_29
  · refine lv_aload_n X.1 X.2.1 dX6_days_10 rfl (lv_at hl 0 rfl) ?_
    refine lv_iconst (v := (0 : Int32)) X.1 X.2.1 dX6_days_11 (by decide) ?_
    refine c_callVI_s X K hw (k_X6_tell l G S (0 : Int32) (by unfold vp_in; decide)) (g_cwV X hiX6_tell q312 q314 q0 q67 q315 ⟨(Nat.le_of_ble_eq_true rfl), (Nat.le_of_ble_eq_true rfl)⟩) (by decide) tt_eT rfl rfl hl.1 rfl (Nat.le_of_ble_eq_true rfl) dX6_days_12 ⟨(Nat.le_of_ble_eq_true rfl), (Nat.le_of_ble_eq_true rfl)⟩ (fun z9 S10 H locs ez9 eS10 hw => ?_)
    have hR : (z9, S10) = tgt := by
      rw [← hF]
      subst ez1 ez9 eS10
      simp only [f6_days, if_pos c2]
    have hRR : z9 = tgt.1 := pr1 hR
    have hRS : S10 = tgt.2 := pr2 hR
    exact g_iret X hret hlk hw hRR hRS dX6_days_15
set_option maxHeartbeats 4000000 in
set_option maxRecDepth 10000 in
theorem k_X6_week (l : Launch) (G : tt_G) (S : tt_St) (a1 : Int32) (a2 : Int32) (hp0 : ci S) : c_MI l G yX6_week (g_code yX6_week cX6_week 3 (some FieldType.int)) 1 22 [.ref (G.2.2 61), .int a1, .int a2] S ((f6_week S a1 a2).1) ((f6_week S a1 a2).2) := by
  generalize hF : f6_week S a1 a2 = tgt
  refine g_begin rfl (Nat.le_of_ble_eq_true rfl) _ (fun p e s m below meth c ls X hret hlk hB hl => ?_)
  obtain ⟨hP0, K⟩ := hB
  have hw : c_W G S s s.heap [] := ⟨hP0, va_S.rf⟩
  have X : CallFix p m c cX6_week 3 s ([.ref (G.2.2 61), .int a1, .int a2] : List Value).toArray tt_T "TrustTin" := X
  have hl : lv_has ls 3 [(0, .ref (G.2.2 61)), (1, .int a1), (2, .int a2)] := hl
  refine lv_iload_n X.1 X.2.1 dX6_week_0 rfl (lv_at hl 1 rfl) ?_
  refine lv_if_lt (tgt := 13) X.1 X.2.1 dX6_week_1 (by decide) (fun c1 => ?_) (fun c1 => ?_)
  · refine lv_aload_n X.1 X.2.1 dX6_week_13 rfl (lv_at hl 0 rfl) ?_
    refine lv_iconst (v := (0 : Int32)) X.1 X.2.1 dX6_week_14 (by decide) ?_
    refine c_callVI_s X K hw (k_X6_tell l G S (0 : Int32) (by unfold vp_in; decide)) (g_cwV X hiX6_tell q312 q314 q0 q67 q315 ⟨(Nat.le_of_ble_eq_true rfl), (Nat.le_of_ble_eq_true rfl)⟩) (by decide) tt_eT rfl rfl hl.1 rfl (Nat.le_of_ble_eq_true rfl) dX6_week_15 ⟨(Nat.le_of_ble_eq_true rfl), (Nat.le_of_ble_eq_true rfl)⟩ (fun z2 S3 H locs ez2 eS3 hw => ?_)
    have hR : (z2, S3) = tgt := by
      rw [← hF]
      subst ez2 eS3
      simp only [f6_week, if_pos c1]
    have hRR : z2 = tgt.1 := pr1 hR
    have hRS : S3 = tgt.2 := pr2 hR
    exact g_iret X hret hlk hw hRR hRS dX6_week_18
  · refine lv_iload_n X.1 X.2.1 dX6_week_4 rfl (lv_at hl 2 rfl) ?_
    refine lv_iconst (v := (0 : Int32)) X.1 X.2.1 dX6_week_5 (by decide) ?_
    refine lv_iconst (v := (1 : Int32)) X.1 X.2.1 dX6_week_6 (by decide) ?_
    refine c_callSI_p X K hw (k_X6_within l G S a2 (0 : Int32) (1 : Int32)) (g_cwS X hiX6_within q309 q310 q67 q311 ⟨(Nat.le_of_ble_eq_true rfl), (Nat.le_of_ble_eq_true rfl)⟩) rfl hl.1 rfl (Nat.le_of_ble_eq_true rfl) dX6_week_7 ⟨(Nat.le_of_ble_eq_true rfl), (Nat.le_of_ble_eq_true rfl)⟩ (fun z4 H locs ez4 hw => ?_)
    refine lv_if_ne (tgt := 19) X.1 X.2.1 dX6_week_10 (by decide) (fun c5 => ?_) (fun c5 => ?_)
    · refine lv_iload_n X.1 X.2.1 dX6_week_19 rfl (lv_at hl 1 rfl) ?_
      refine lv_aload_n X.1 X.2.1 dX6_week_20 rfl (lv_at hl 0 rfl) ?_
      refine g_get (v := .ref (G.2.2 30)) X K hw (by decide) tt_eT rfl iT6 0 (by decide) q280 rfl dX6_week_21 ?_
      refine g_get (v := .ref (G.2.2 36)) X K hw (by decide) (tt_eR (r := 0) (by decide : 0 < 3)) rfl iT2 12 (by decide) q187 rfl dX6_week_24 ?_
      refine g_get (v := .int (S 0 11)) X K hw (by decide) (tt_eB (r := 0) (by decide : 0 < 3)) rfl iT0 2 (by decide) q109 rfl dX6_week_27 ?_
      refine lv_icmp_lt (tgt := 39) X.1 X.2.1 dX6_week_30 (by decide) (fun c6 => ?_) (fun c6 => ?_)
      · refine lv_iload_n X.1 X.2.1 dX6_week_39 rfl (lv_at hl 2 rfl) ?_
        refine lv_if_ne (tgt := 58) X.1 X.2.1 dX6_week_40 (by decide) (fun c7 => ?_) (fun c7 => ?_)
        · refine lv_aload_n X.1 X.2.1 dX6_week_58 rfl (lv_at hl 0 rfl) ?_
          refine g_get (v := .ref (G.2.2 30)) X K hw (by decide) tt_eT rfl iT6 0 (by decide) q280 rfl dX6_week_59 ?_
          refine g_get (v := .ref (G.2.2 36)) X K hw (by decide) (tt_eR (r := 0) (by decide : 0 < 3)) rfl iT2 12 (by decide) q187 rfl dX6_week_62 ?_
          refine g_get (v := .ref (G.2.2 42)) X K hw (by decide) (tt_eB (r := 0) (by decide : 0 < 3)) rfl iT0 1 (by decide) q107 rfl dX6_week_65 ?_
          refine lv_iload_n X.1 X.2.1 dX6_week_68 rfl (lv_at hl 1 rfl) ?_
          have hi8 : vp_in a1 20 := wk6_in hp0 c1 c6
          refine g_iald X K hw (by decide) (tt_eCo (r := 0) (by decide : 0 < 3)) hi8 dX6_week_69 ?_
          have hR : (S 9 a1.toNatClampNeg, S) = tgt := by
            rw [← hF]
            subst ez4
            simp only [f6_week, if_neg c1, if_neg c5, if_pos c6, if_neg c7]
          have hRR : S 9 a1.toNatClampNeg = tgt.1 := pr1 hR
          have hRS : S = tgt.2 := pr2 hR
          exact g_iret X hret hlk hw hRR hRS dX6_week_70
        · refine lv_aload_n X.1 X.2.1 dX6_week_43 rfl (lv_at hl 0 rfl) ?_
          refine g_get (v := .ref (G.2.2 30)) X K hw (by decide) tt_eT rfl iT6 0 (by decide) q280 rfl dX6_week_44 ?_
          refine g_get (v := .ref (G.2.2 36)) X K hw (by decide) (tt_eR (r := 0) (by decide : 0 < 3)) rfl iT2 12 (by decide) q187 rfl dX6_week_47 ?_
          refine g_get (v := .ref (G.2.2 39)) X K hw (by decide) (tt_eB (r := 0) (by decide : 0 < 3)) rfl iT0 0 (by decide) q105 rfl dX6_week_50 ?_
          refine lv_iload_n X.1 X.2.1 dX6_week_53 rfl (lv_at hl 1 rfl) ?_
          have hi9 : vp_in a1 20 := wk6_in hp0 c1 c6
          refine g_iald X K hw (by decide) (tt_eCu (r := 0) (by decide : 0 < 3)) hi9 dX6_week_54 ?_
          refine lv_goto (tgt := 70) X.1 X.2.1 dX6_week_55 (by decide) ?_
          have hR : (S 6 a1.toNatClampNeg, S) = tgt := by
            rw [← hF]
            subst ez4
            simp only [f6_week, if_neg c1, if_neg c5, if_pos c6, if_pos c7]
          have hRR : S 6 a1.toNatClampNeg = tgt.1 := pr1 hR
          have hRS : S = tgt.2 := pr2 hR
          exact g_iret X hret hlk hw hRR hRS dX6_week_70
      · refine lv_aload_n X.1 X.2.1 dX6_week_33 rfl (lv_at hl 0 rfl) ?_
        refine lv_iconst (v := (3 : Int32)) X.1 X.2.1 dX6_week_34 (by decide) ?_
        refine c_callVI_s X K hw (k_X6_tell l G S (3 : Int32) (by unfold vp_in; decide)) (g_cwV X hiX6_tell q312 q314 q0 q67 q315 ⟨(Nat.le_of_ble_eq_true rfl), (Nat.le_of_ble_eq_true rfl)⟩) (by decide) tt_eT rfl rfl hl.1 rfl (Nat.le_of_ble_eq_true rfl) dX6_week_35 ⟨(Nat.le_of_ble_eq_true rfl), (Nat.le_of_ble_eq_true rfl)⟩ (fun z10 S11 H locs ez10 eS11 hw => ?_)
        have hR : (z10, S11) = tgt := by
          rw [← hF]
          subst ez4 ez10 eS11
          simp only [f6_week, if_neg c1, if_neg c5, if_neg c6]
        have hRR : z10 = tgt.1 := pr1 hR
        have hRS : S11 = tgt.2 := pr2 hR
        exact g_iret X hret hlk hw hRR hRS dX6_week_38
    · refine lv_aload_n X.1 X.2.1 dX6_week_13 rfl (lv_at hl 0 rfl) ?_
      refine lv_iconst (v := (0 : Int32)) X.1 X.2.1 dX6_week_14 (by decide) ?_
      refine c_callVI_s X K hw (k_X6_tell l G S (0 : Int32) (by unfold vp_in; decide)) (g_cwV X hiX6_tell q312 q314 q0 q67 q315 ⟨(Nat.le_of_ble_eq_true rfl), (Nat.le_of_ble_eq_true rfl)⟩) (by decide) tt_eT rfl rfl hl.1 rfl (Nat.le_of_ble_eq_true rfl) dX6_week_15 ⟨(Nat.le_of_ble_eq_true rfl), (Nat.le_of_ble_eq_true rfl)⟩ (fun z12 S13 H locs ez12 eS13 hw => ?_)
      have hR : (z12, S13) = tgt := by
        rw [← hF]
        subst ez4 ez12 eS13
        simp only [f6_week, if_neg c1, if_pos c5]
      have hRR : z12 = tgt.1 := pr1 hR
      have hRS : S13 = tgt.2 := pr2 hR
      exact g_iret X hret hlk hw hRR hRS dX6_week_18
set_option maxHeartbeats 4000000 in
set_option maxRecDepth 10000 in
theorem k_X6_commonDivisor (l : Launch) (G : tt_G) (S : tt_St) (a0 : Int32) (a1 : Int32) : c_MI l G yX6_commonDivisor (g_code yX6_commonDivisor cX6_commonDivisor 6 (some FieldType.int)) 1 30 [.int a0, .int a1] S (f6_commonDivisor a0 a1) S := by
  generalize hF : f6_commonDivisor a0 a1 = tgt
  refine g_begin rfl (Nat.le_of_ble_eq_true rfl) _ (fun p e s m below meth c ls X hret hlk hB hl => ?_)
  obtain ⟨hP0, K⟩ := hB
  have hw : c_W G S s s.heap [] := ⟨hP0, va_S.rf⟩
  have X : CallFix p m c cX6_commonDivisor 6 s ([.int a0, .int a1] : List Value).toArray tt_T "TrustTin" := X
  have hl : lv_has ls 6 [(0, .int a0), (1, .int a1)] := hl
  refine lv_iload_n X.1 X.2.1 dX6_commonDivisor_0 rfl (lv_at hl 0 rfl) ?_
  refine va_mabs X.1 X.2.1 (X.2.2.1.trans hl.1.symm) X.2.2.2.1 (X.2.2.2.2 _ q478) (X.2.2.2.2 _ q479) (X.2.2.2.2 _ q75) (X.2.2.2.2 _ q480) (Nat.le_of_ble_eq_true rfl) (Nat.le_of_ble_eq_true rfl) (Nat.le_of_ble_eq_true rfl) (Nat.le_of_ble_eq_true rfl) dX6_commonDivisor_1 ?_
  refine lv_topi (fun x1 ex1 => ?_)
  refine lv_istore_n (lv' := [(2, .int x1), (0, .int a0), (1, .int a1)]) X.1 X.2.1 dX6_commonDivisor_4 rfl hl (by decide) rfl (fun ls hl => ?_)
  refine lv_iload_n X.1 X.2.1 dX6_commonDivisor_5 rfl (lv_at hl 2 rfl) ?_
  refine va_mabs X.1 X.2.1 (X.2.2.1.trans hl.1.symm) X.2.2.2.1 (X.2.2.2.2 _ q478) (X.2.2.2.2 _ q479) (X.2.2.2.2 _ q75) (X.2.2.2.2 _ q480) (Nat.le_of_ble_eq_true rfl) (Nat.le_of_ble_eq_true rfl) (Nat.le_of_ble_eq_true rfl) (Nat.le_of_ble_eq_true rfl) dX6_commonDivisor_6 ?_
  refine lv_topi (fun x2 ex2 => ?_)
  refine lv_istore_n (lv' := [(3, .int x2), (2, .int x1), (0, .int a0), (1, .int a1)]) X.1 X.2.1 dX6_commonDivisor_9 rfl hl (by decide) rfl (fun ls hl => ?_)
  refine lv_iconst (v := (0 : Int32)) X.1 X.2.1 dX6_commonDivisor_10 (by decide) ?_
  refine lv_istore (lv' := [(4, .int (0 : Int32)), (3, .int x2), (2, .int x1), (0, .int a0), (1, .int a1)]) X.1 X.2.1 dX6_commonDivisor_11 hl (by decide) rfl (fun ls hl => ?_)
  have j13 : ∀ (n : Nat) (y2_13 : Int32) (y3_13 : Int32) (y4_13 : Int32) (H : Heap) (locs : List Loc) (ls : Array Slot), (¬ y4_13 < 0) → lp_mu (100 : Int32) y4_13 < n → f6_commonDivisor_L13 a0 a1 n y2_13 y3_13 y4_13 = tgt → c_W G S s H locs → lv_has ls 6 [(2, .int y2_13), (3, .int y3_13), (4, .int y4_13)] → W p l e (g_rm 1 30) s m ([.int a0, .int a1] : List Value).toArray below meth c H locs 0 0 (MQ below (va_Qi (fun r T => r = tgt ∧ T = S) (g_Post G 62 G.2.2 (tt_cell G)) (g_in 62 G.2.2)) ([.int a0, .int a1] : List Value).toArray s 0 0 (g_in 62 G.2.2)) (F0 m 13 ls []) := by
    intro n
    induction n with
    | zero => intro y2_13 y3_13 y4_13 H locs ls hI hm; exact absurd hm (Nat.not_lt_zero _)
    | succ n ih =>
      intro y2_13 y3_13 y4_13 H locs ls hI hm hF hw hl
      refine lv_iload X.1 X.2.1 dX6_commonDivisor_13 (lv_at hl 2 rfl) ?_
      refine lv_bipush (v := (100 : Int32)) X.1 X.2.1 dX6_commonDivisor_15 (by decide) ?_
      refine lv_icmp_ge (tgt := 40) X.1 X.2.1 dX6_commonDivisor_17 (by decide) (fun c3 => ?_) (fun c3 => ?_)
      · refine lv_iload_n X.1 X.2.1 dX6_commonDivisor_40 rfl (lv_at hl 0 rfl) ?_
        refine lv_iconst (v := (1 : Int32)) X.1 X.2.1 dX6_commonDivisor_41 (by decide) ?_
        refine va_mmax X.1 X.2.1 (X.2.2.1.trans hl.1.symm) X.2.2.2.1 (X.2.2.2.2 _ q481) (X.2.2.2.2 _ q482) (X.2.2.2.2 _ q75) (X.2.2.2.2 _ q483) (Nat.le_of_ble_eq_true rfl) (Nat.le_of_ble_eq_true rfl) (Nat.le_of_ble_eq_true rfl) (Nat.le_of_ble_eq_true rfl) dX6_commonDivisor_42 ?_
        refine lv_topi (fun x4 ex4 => ?_)
        have hR : x4 = tgt := by
          rw [← hF]
          subst ex4
          simp only [f6_commonDivisor_L13, if_pos c3]
        exact g_iret X hret hlk hw hR rfl dX6_commonDivisor_45
      · refine lv_iload_n X.1 X.2.1 dX6_commonDivisor_20 rfl (lv_at hl 1 rfl) ?_
        refine lv_if_le (tgt := 40) X.1 X.2.1 dX6_commonDivisor_21 (by decide) (fun c5 => ?_) (fun c5 => ?_)
        · refine lv_iload_n X.1 X.2.1 dX6_commonDivisor_40 rfl (lv_at hl 0 rfl) ?_
          refine lv_iconst (v := (1 : Int32)) X.1 X.2.1 dX6_commonDivisor_41 (by decide) ?_
          refine va_mmax X.1 X.2.1 (X.2.2.1.trans hl.1.symm) X.2.2.2.1 (X.2.2.2.2 _ q481) (X.2.2.2.2 _ q482) (X.2.2.2.2 _ q75) (X.2.2.2.2 _ q483) (Nat.le_of_ble_eq_true rfl) (Nat.le_of_ble_eq_true rfl) (Nat.le_of_ble_eq_true rfl) (Nat.le_of_ble_eq_true rfl) dX6_commonDivisor_42 ?_
          refine lv_topi (fun x6 ex6 => ?_)
          have hR : x6 = tgt := by
            rw [← hF]
            subst ex6
            simp only [f6_commonDivisor_L13, if_neg c3, if_pos c5]
          exact g_iret X hret hlk hw hR rfl dX6_commonDivisor_45
        · refine lv_iload_n X.1 X.2.1 dX6_commonDivisor_24 rfl (lv_at hl 0 rfl) ?_
          refine lv_iload_n X.1 X.2.1 dX6_commonDivisor_25 rfl (lv_at hl 1 rfl) ?_
          refine lv_irem X.1 X.2.1 dX6_commonDivisor_26 (fun h => c5 (by rw [h]; decide)) ?_
          refine lv_topi (fun x7 ex7 => ?_)
          refine lv_istore (lv' := [(5, .int x7), (2, .int y2_13), (3, .int y3_13), (4, .int y4_13)]) X.1 X.2.1 dX6_commonDivisor_27 hl (by decide) rfl (fun ls hl => ?_)
          refine lv_iload_n X.1 X.2.1 dX6_commonDivisor_29 rfl (lv_at hl 2 rfl) ?_
          refine lv_istore_n (lv' := [(2, .int y3_13), (5, .int x7), (3, .int y3_13), (4, .int y4_13)]) X.1 X.2.1 dX6_commonDivisor_30 rfl hl (by decide) rfl (fun ls hl => ?_)
          refine lv_iload X.1 X.2.1 dX6_commonDivisor_31 (lv_at hl 1 rfl) ?_
          refine lv_istore_n (lv' := [(3, .int x7), (2, .int y3_13), (5, .int x7), (4, .int y4_13)]) X.1 X.2.1 dX6_commonDivisor_33 rfl hl (by decide) rfl (fun ls hl => ?_)
          obtain ⟨x8, ex8⟩ : ∃ y : Int32, y = y4_13 + (1 : Int32) := ⟨_, rfl⟩
          refine lv_iinc (v := x8) (lv' := [(4, .int x8), (3, .int x7), (2, .int y3_13), (5, .int x7)]) X.1 X.2.1 dX6_commonDivisor_34 hl (k := 3) rfl (by rw [ex8]; rfl) (by decide) rfl (fun ls hl => ?_)
          refine lv_goto (tgt := 13) X.1 X.2.1 dX6_commonDivisor_37 (by decide) ?_
          have hF2 : f6_commonDivisor_L13 a0 a1 n y3_13 x7 x8 = tgt := by
            rw [← hF]
            subst ex7 ex8
            simp only [f6_commonDivisor_L13, if_neg c3, if_neg c5]
          exact ih y3_13 x7 x8 _ _ ls (by rw [ex8]; exact lp_nn hI c3) (by rw [ex8]; exact lp_dec' c3 hm) hF2 hw (lv_sub hl [2, 1, 0] rfl)
  have hF2 : f6_commonDivisor_L13 a0 a1 (lp_mu (100 : Int32) 0 + 1) x1 x2 (0 : Int32) = tgt := by
    rw [← hF]
    subst ex1 ex2
    simp only [f6_commonDivisor]
  exact j13 (lp_mu (100 : Int32) 0 + 1) x1 x2 (0 : Int32) _ _ ls (by decide) (Nat.lt_succ_self _) hF2 hw (lv_sub hl [2, 1, 0] rfl)
set_option maxHeartbeats 4000000 in
set_option maxRecDepth 10000 in
theorem k_X6_each (l : Launch) (G : tt_G) (S : tt_St) (a1 : Int32) (hp0 : ci S) : c_MI l G yX6_each (g_code yX6_each cX6_each 5 (some FieldType.int)) 2 55 [.ref (G.2.2 61), .int a1] S ((f6_each S a1).1) ((f6_each S a1).2) := by
  generalize hF : f6_each S a1 = tgt
  refine g_begin rfl (Nat.le_of_ble_eq_true rfl) _ (fun p e s m below meth c ls X hret hlk hB hl => ?_)
  obtain ⟨hP0, K⟩ := hB
  have hw : c_W G S s s.heap [] := ⟨hP0, va_S.rf⟩
  have X : CallFix p m c cX6_each 5 s ([.ref (G.2.2 61), .int a1] : List Value).toArray tt_T "TrustTin" := X
  have hl : lv_has ls 5 [(0, .ref (G.2.2 61)), (1, .int a1)] := hl
  refine lv_iload_n X.1 X.2.1 dX6_each_0 rfl (lv_at hl 1 rfl) ?_
  refine lv_iconst (v := (0 : Int32)) X.1 X.2.1 dX6_each_1 (by decide) ?_
  refine lv_iconst (v := (1 : Int32)) X.1 X.2.1 dX6_each_2 (by decide) ?_
  refine c_callSI_p X K hw (k_X6_within l G S a1 (0 : Int32) (1 : Int32)) (g_cwS X hiX6_within q309 q310 q67 q311 ⟨(Nat.le_of_ble_eq_true rfl), (Nat.le_of_ble_eq_true rfl)⟩) rfl hl.1 rfl (Nat.le_of_ble_eq_true rfl) dX6_each_3 ⟨(Nat.le_of_ble_eq_true rfl), (Nat.le_of_ble_eq_true rfl)⟩ (fun z1 H locs ez1 hw => ?_)
  refine lv_if_ne (tgt := 15) X.1 X.2.1 dX6_each_6 (by decide) (fun c2 => ?_) (fun c2 => ?_)
  · refine lv_aload_n X.1 X.2.1 dX6_each_15 rfl (lv_at hl 0 rfl) ?_
    refine g_get (v := .ref (G.2.2 30)) X K hw (by decide) tt_eT rfl iT6 0 (by decide) q280 rfl dX6_each_16 ?_
    refine g_get (v := .ref (G.2.2 36)) X K hw (by decide) (tt_eR (r := 0) (by decide : 0 < 3)) rfl iT2 12 (by decide) q187 rfl dX6_each_19 ?_
    refine c_callVI_p X K hw (k_X0_allCups l G S 0 (by decide)) (g_cwV X hiX0_allCups q464 q465 q466 q69 q467 ⟨(Nat.le_of_ble_eq_true rfl), (Nat.le_of_ble_eq_true rfl)⟩) (by decide) (tt_eB (r := 0) (by decide : 0 < 3)) rfl rfl hl.1 rfl (Nat.le_of_ble_eq_true rfl) dX6_each_22 ⟨(Nat.le_of_ble_eq_true rfl), (Nat.le_of_ble_eq_true rfl)⟩ (fun z3 H locs ez3 hw => ?_)
    refine lv_istore_n (lv' := [(2, .int z3), (0, .ref (G.2.2 61)), (1, .int a1)]) X.1 X.2.1 dX6_each_25 rfl hl (by decide) rfl (fun ls hl => ?_)
    refine lv_iload_n X.1 X.2.1 dX6_each_26 rfl (lv_at hl 0 rfl) ?_
    refine lv_if_ne (tgt := 36) X.1 X.2.1 dX6_each_27 (by decide) (fun c4 => ?_) (fun c4 => ?_)
    · refine lv_aload_n X.1 X.2.1 dX6_each_36 rfl (lv_at hl 1 rfl) ?_
      refine g_get (v := .ref (G.2.2 30)) X K hw (by decide) tt_eT rfl iT6 0 (by decide) q280 rfl dX6_each_37 ?_
      refine g_get (v := .ref (G.2.2 36)) X K hw (by decide) (tt_eR (r := 0) (by decide : 0 < 3)) rfl iT2 12 (by decide) q187 rfl dX6_each_40 ?_
      refine c_callVI_p X K hw (k_X0_allCoins l G S 0 (by decide)) (g_cwV X hiX0_allCoins q471 q472 q473 q69 q474 ⟨(Nat.le_of_ble_eq_true rfl), (Nat.le_of_ble_eq_true rfl)⟩) (by decide) (tt_eB (r := 0) (by decide : 0 < 3)) rfl rfl hl.1 rfl (Nat.le_of_ble_eq_true rfl) dX6_each_43 ⟨(Nat.le_of_ble_eq_true rfl), (Nat.le_of_ble_eq_true rfl)⟩ (fun z5 H locs ez5 hw => ?_)
      refine lv_istore_n (lv' := [(3, .int z5), (2, .int z3), (0, .ref (G.2.2 61)), (1, .int a1)]) X.1 X.2.1 dX6_each_46 rfl hl (by decide) rfl (fun ls hl => ?_)
      refine lv_iload_n X.1 X.2.1 dX6_each_47 rfl (lv_at hl 0 rfl) ?_
      refine lv_iload_n X.1 X.2.1 dX6_each_48 rfl (lv_at hl 1 rfl) ?_
      refine c_callSI_p X K hw (k_X6_commonDivisor l G S z5 z3) (g_cwS X hiX6_commonDivisor q475 q476 q67 q477 ⟨(Nat.le_of_ble_eq_true rfl), (Nat.le_of_ble_eq_true rfl)⟩) rfl hl.1 rfl (Nat.le_of_ble_eq_true rfl) dX6_each_49 ⟨(Nat.le_of_ble_eq_true rfl), (Nat.le_of_ble_eq_true rfl)⟩ (fun z6 H locs ez6 hw => ?_)
      refine lv_istore (lv' := [(4, .int z6), (3, .int z5), (2, .int z3), (0, .ref (G.2.2 61)), (1, .int a1)]) X.1 X.2.1 dX6_each_52 hl (by decide) rfl (fun ls hl => ?_)
      refine lv_iload_n X.1 X.2.1 dX6_each_54 rfl (lv_at hl 4 rfl) ?_
      refine lv_if_ne (tgt := 62) X.1 X.2.1 dX6_each_55 (by decide) (fun c7 => ?_) (fun c7 => ?_)
      · refine lv_iload_n X.1 X.2.1 dX6_each_62 rfl (lv_at hl 2 rfl) ?_
        refine lv_iload X.1 X.2.1 dX6_each_63 (lv_at hl 0 rfl) ?_
        refine lv_idiv X.1 X.2.1 dX6_each_65 (cd_ne ez6) ?_
        have hR : (z3 / z6, S) = tgt := by
          rw [← hF]
          subst ez1 ez3 ez5 ez6
          simp only [f6_each, if_neg c2, if_neg c4, if_neg c7]
        have hRR : z3 / z6 = tgt.1 := pr1 hR
        have hRS : S = tgt.2 := pr2 hR
        exact g_iret X hret hlk hw hRR hRS dX6_each_66
      · refine lv_iload_n X.1 X.2.1 dX6_each_58 rfl (lv_at hl 1 rfl) ?_
        refine lv_goto (tgt := 63) X.1 X.2.1 dX6_each_59 (by decide) ?_
        refine lv_iload X.1 X.2.1 dX6_each_63 (lv_at hl 0 rfl) ?_
        refine lv_idiv X.1 X.2.1 dX6_each_65 (cd_ne ez6) ?_
        have hR : (z5 / z6, S) = tgt := by
          rw [← hF]
          subst ez1 ez3 ez5 ez6
          simp only [f6_each, if_neg c2, if_neg c4, if_pos c7]
        have hRR : z5 / z6 = tgt.1 := pr1 hR
        have hRS : S = tgt.2 := pr2 hR
        exact g_iret X hret hlk hw hRR hRS dX6_each_66
    · refine lv_aload_n X.1 X.2.1 dX6_each_30 rfl (lv_at hl 1 rfl) ?_
      refine lv_iconst (v := (3 : Int32)) X.1 X.2.1 dX6_each_31 (by decide) ?_
      refine c_callVI_s X K hw (k_X6_tell l G S (3 : Int32) (by unfold vp_in; decide)) (g_cwV X hiX6_tell q312 q314 q0 q67 q315 ⟨(Nat.le_of_ble_eq_true rfl), (Nat.le_of_ble_eq_true rfl)⟩) (by decide) tt_eT rfl rfl hl.1 rfl (Nat.le_of_ble_eq_true rfl) dX6_each_32 ⟨(Nat.le_of_ble_eq_true rfl), (Nat.le_of_ble_eq_true rfl)⟩ (fun z8 S9 H locs ez8 eS9 hw => ?_)
      have hR : (z8, S9) = tgt := by
        rw [← hF]
        subst ez1 ez3 ez8 eS9
        simp only [f6_each, if_neg c2, if_pos c4]
      have hRR : z8 = tgt.1 := pr1 hR
      have hRS : S9 = tgt.2 := pr2 hR
      exact g_iret X hret hlk hw hRR hRS dX6_each_35
  · refine lv_aload_n X.1 X.2.1 dX6_each_9 rfl (lv_at hl 0 rfl) ?_
    refine lv_iconst (v := (0 : Int32)) X.1 X.2.1 dX6_each_10 (by decide) ?_
    refine c_callVI_s X K hw (k_X6_tell l G S (0 : Int32) (by unfold vp_in; decide)) (g_cwV X hiX6_tell q312 q314 q0 q67 q315 ⟨(Nat.le_of_ble_eq_true rfl), (Nat.le_of_ble_eq_true rfl)⟩) (by decide) tt_eT rfl rfl hl.1 rfl (Nat.le_of_ble_eq_true rfl) dX6_each_11 ⟨(Nat.le_of_ble_eq_true rfl), (Nat.le_of_ble_eq_true rfl)⟩ (fun z10 S11 H locs ez10 eS11 hw => ?_)
    have hR : (z10, S11) = tgt := by
      rw [← hF]
      subst ez1 ez10 eS11
      simp only [f6_each, if_pos c2]
    have hRR : z10 = tgt.1 := pr1 hR
    have hRS : S11 = tgt.2 := pr2 hR
    exact g_iret X hret hlk hw hRR hRS dX6_each_14
set_option maxHeartbeats 4000000 in
set_option maxRecDepth 10000 in
theorem k_X6_many (l : Launch) (G : tt_G) (S : tt_St) (a1 : Int32) (hp0 : ci S) : c_MI l G yX6_many (g_code yX6_many cX6_many 4 (some FieldType.int)) 1 23 [.ref (G.2.2 61), .int a1] S ((f6_many S a1).1) ((f6_many S a1).2) := by
  generalize hF : f6_many S a1 = tgt
  refine g_begin rfl (Nat.le_of_ble_eq_true rfl) _ (fun p e s m below meth c ls X hret hlk hB hl => ?_)
  obtain ⟨hP0, K⟩ := hB
  have hw : c_W G S s s.heap [] := ⟨hP0, va_S.rf⟩
  have X : CallFix p m c cX6_many 4 s ([.ref (G.2.2 61), .int a1] : List Value).toArray tt_T "TrustTin" := X
  have hl : lv_has ls 4 [(0, .ref (G.2.2 61)), (1, .int a1)] := hl
  refine lv_iload_n X.1 X.2.1 dX6_many_0 rfl (lv_at hl 1 rfl) ?_
  refine lv_iconst (v := (0 : Int32)) X.1 X.2.1 dX6_many_1 (by decide) ?_
  refine lv_sipush (v := (9999 : Int32)) X.1 X.2.1 dX6_many_2 (by decide) ?_
  refine c_callSI_p X K hw (k_X6_within l G S a1 (0 : Int32) (9999 : Int32)) (g_cwS X hiX6_within q309 q310 q67 q311 ⟨(Nat.le_of_ble_eq_true rfl), (Nat.le_of_ble_eq_true rfl)⟩) rfl hl.1 rfl (Nat.le_of_ble_eq_true rfl) dX6_many_5 ⟨(Nat.le_of_ble_eq_true rfl), (Nat.le_of_ble_eq_true rfl)⟩ (fun z1 H locs ez1 hw => ?_)
  refine lv_if_ne (tgt := 17) X.1 X.2.1 dX6_many_8 (by decide) (fun c2 => ?_) (fun c2 => ?_)
  · refine lv_iconst (v := (0 : Int32)) X.1 X.2.1 dX6_many_17 (by decide) ?_
    refine lv_istore_n (lv' := [(2, .int (0 : Int32)), (0, .ref (G.2.2 61)), (1, .int a1)]) X.1 X.2.1 dX6_many_18 rfl hl (by decide) rfl (fun ls hl => ?_)
    refine lv_iconst (v := (1 : Int32)) X.1 X.2.1 dX6_many_19 (by decide) ?_
    refine lv_istore_n (lv' := [(3, .int (1 : Int32)), (2, .int (0 : Int32)), (0, .ref (G.2.2 61)), (1, .int a1)]) X.1 X.2.1 dX6_many_20 rfl hl (by decide) rfl (fun ls hl => ?_)
    have j21 : ∀ (n : Nat) (S3 : tt_St) (y2_21 : Int32) (y3_21 : Int32) (H : Heap) (locs : List Loc) (ls : Array Slot), ((¬ y3_21 < 0) ∧ S3 = S) → lp_mu ((1 : Int32) <<< ((S3 0 0) &&& 31)) y3_21 < n → f6_many_L21 a1 n S3 y2_21 y3_21 = tgt → c_W G S3 s H locs → lv_has ls 4 [(0, .ref (G.2.2 61)), (1, .int a1), (2, .int y2_21), (3, .int y3_21)] → W p l e (g_rm 1 23) s m ([.ref (G.2.2 61), .int a1] : List Value).toArray below meth c H locs 0 0 (MQ below (va_Qi (fun r T => r = tgt.1 ∧ T = tgt.2) (g_Post G 62 G.2.2 (tt_cell G)) (g_in 62 G.2.2)) ([.ref (G.2.2 61), .int a1] : List Value).toArray s 0 0 (g_in 62 G.2.2)) (F0 m 21 ls []) := by
      intro n
      induction n with
      | zero => intro S3 y2_21 y3_21 H locs ls hI hm; exact absurd hm (Nat.not_lt_zero _)
      | succ n ih =>
        intro S3 y2_21 y3_21 H locs ls hI hm hF hw hl
        refine lv_iload_n X.1 X.2.1 dX6_many_21 rfl (lv_at hl 3 rfl) ?_
        refine lv_iconst (v := (1 : Int32)) X.1 X.2.1 dX6_many_22 (by decide) ?_
        refine lv_aload_n X.1 X.2.1 dX6_many_23 rfl (lv_at hl 0 rfl) ?_
        refine g_get (v := .ref (G.2.2 30)) X K hw (by decide) tt_eT rfl iT6 0 (by decide) q280 rfl dX6_many_24 ?_
        refine g_get (v := .int (S3 0 0)) X K hw (by decide) (tt_eR (r := 0) (by decide : 0 < 3)) rfl iT2 1 (by decide) q162 rfl dX6_many_27 ?_
        refine lv_ishl X.1 X.2.1 dX6_many_30 ?_
        refine lv_icmp_ge (tgt := 55) X.1 X.2.1 dX6_many_31 (by decide) (fun c4 => ?_) (fun c4 => ?_)
        · refine lv_iload_n X.1 X.2.1 dX6_many_55 rfl (lv_at hl 2 rfl) ?_
          have hR : (y2_21, S3) = tgt := by
            rw [← hF]
            simp only [f6_many_L21, if_pos c4]
          have hRR : y2_21 = tgt.1 := pr1 hR
          have hRS : S3 = tgt.2 := pr2 hR
          exact g_iret X hret hlk hw hRR hRS dX6_many_56
        · refine lv_aload_n X.1 X.2.1 dX6_many_34 rfl (lv_at hl 0 rfl) ?_
          refine g_get (v := .ref (G.2.2 30)) X K hw (by decide) tt_eT rfl iT6 0 (by decide) q280 rfl dX6_many_35 ?_
          refine lv_iload_n X.1 X.2.1 dX6_many_38 rfl (lv_at hl 3 rfl) ?_
          refine c_callVI_p X K hw (k_X2_dueOf l G S3 0 y3_21 (by decide) (by rw [hI.2]; exact (hp0.1 0 (by decide)).2)) (g_cwV X hiX2_dueOf q488 q489 q490 q68 q491 ⟨(Nat.le_of_ble_eq_true rfl), (Nat.le_of_ble_eq_true rfl)⟩) (by decide) (tt_eR (r := 0) (by decide : 0 < 3)) rfl rfl hl.1 rfl (Nat.le_of_ble_eq_true rfl) dX6_many_39 ⟨(Nat.le_of_ble_eq_true rfl), (Nat.le_of_ble_eq_true rfl)⟩ (fun z5 H locs ez5 hw => ?_)
          refine lv_iload_n X.1 X.2.1 dX6_many_42 rfl (lv_at hl 1 rfl) ?_
          refine lv_icmp_ne (tgt := 49) X.1 X.2.1 dX6_many_43 (by decide) (fun c6 => ?_) (fun c6 => ?_)
          · obtain ⟨x7, ex7⟩ : ∃ y : Int32, y = y3_21 + (1 : Int32) := ⟨_, rfl⟩
            refine lv_iinc (v := x7) (lv' := [(3, .int x7), (0, .ref (G.2.2 61)), (1, .int a1), (2, .int y2_21)]) X.1 X.2.1 dX6_many_49 hl (k := 3) rfl (by rw [ex7]; rfl) (by decide) rfl (fun ls hl => ?_)
            refine lv_goto (tgt := 21) X.1 X.2.1 dX6_many_52 (by decide) ?_
            have hF2 : f6_many_L21 a1 n S3 y2_21 x7 = tgt := by
              rw [← hF]
              subst ez5 ex7
              simp only [f6_many_L21, if_neg c4, if_neg c6]
            exact ih S3 y2_21 x7 _ _ ls (⟨by rw [ex7]; exact lp_nn hI.1 c4, hI.2⟩) (by rw [ex7]; exact lp_dec' c4 hm) hF2 hw (lv_sub hl [1, 2, 3, 0] rfl)
          · obtain ⟨x8, ex8⟩ : ∃ y : Int32, y = y2_21 + (1 : Int32) := ⟨_, rfl⟩
            refine lv_iinc (v := x8) (lv' := [(2, .int x8), (0, .ref (G.2.2 61)), (1, .int a1), (3, .int y3_21)]) X.1 X.2.1 dX6_many_46 hl (k := 2) rfl (by rw [ex8]; rfl) (by decide) rfl (fun ls hl => ?_)
            obtain ⟨x9, ex9⟩ : ∃ y : Int32, y = y3_21 + (1 : Int32) := ⟨_, rfl⟩
            refine lv_iinc (v := x9) (lv' := [(3, .int x9), (2, .int x8), (0, .ref (G.2.2 61)), (1, .int a1)]) X.1 X.2.1 dX6_many_49 hl (k := 3) rfl (by rw [ex9]; rfl) (by decide) rfl (fun ls hl => ?_)
            refine lv_goto (tgt := 21) X.1 X.2.1 dX6_many_52 (by decide) ?_
            have hF2 : f6_many_L21 a1 n S3 x8 x9 = tgt := by
              rw [← hF]
              subst ez5 ex8 ex9
              simp only [f6_many_L21, if_neg c4, if_pos c6]
            exact ih S3 x8 x9 _ _ ls (⟨by rw [ex9]; exact lp_nn hI.1 c4, hI.2⟩) (by rw [ex9]; exact lp_dec' c4 hm) hF2 hw (lv_sub hl [2, 3, 1, 0] rfl)
    have hF2 : f6_many_L21 a1 (lp_mu ((1 : Int32) <<< ((S 0 0) &&& 31)) 1 + 1) S (0 : Int32) (1 : Int32) = tgt := by
      rw [← hF]
      subst ez1
      simp only [f6_many, if_neg c2]
    exact j21 (lp_mu ((1 : Int32) <<< ((S 0 0) &&& 31)) 1 + 1) S (0 : Int32) (1 : Int32) _ _ ls (⟨by decide, rfl⟩) (Nat.lt_succ_self _) hF2 hw (lv_sub hl [2, 3, 1, 0] rfl)
  · refine lv_aload_n X.1 X.2.1 dX6_many_11 rfl (lv_at hl 0 rfl) ?_
    refine lv_iconst (v := (0 : Int32)) X.1 X.2.1 dX6_many_12 (by decide) ?_
    refine c_callVI_s X K hw (k_X6_tell l G S (0 : Int32) (by unfold vp_in; decide)) (g_cwV X hiX6_tell q312 q314 q0 q67 q315 ⟨(Nat.le_of_ble_eq_true rfl), (Nat.le_of_ble_eq_true rfl)⟩) (by decide) tt_eT rfl rfl hl.1 rfl (Nat.le_of_ble_eq_true rfl) dX6_many_13 ⟨(Nat.le_of_ble_eq_true rfl), (Nat.le_of_ble_eq_true rfl)⟩ (fun z10 S11 H locs ez10 eS11 hw => ?_)
    have hR : (z10, S11) = tgt := by
      rw [← hF]
      subst ez1 ez10 eS11
      simp only [f6_many, if_pos c2]
    have hRR : z10 = tgt.1 := pr1 hR
    have hRS : S11 = tgt.2 := pr2 hR
    exact g_iret X hret hlk hw hRR hRS dX6_many_16
set_option maxHeartbeats 4000000 in
set_option maxRecDepth 10000 in
theorem k_X6_who (l : Launch) (G : tt_G) (S : tt_St) (a1 : Int32) (a2 : Int32) (hp0 : ci S) : c_MI l G yX6_who (g_code yX6_who cX6_who 6 (some FieldType.int)) 1 23 [.ref (G.2.2 61), .int a1, .int a2] S ((f6_who S a1 a2).1) ((f6_who S a1 a2).2) := by
  generalize hF : f6_who S a1 a2 = tgt
  refine g_begin rfl (Nat.le_of_ble_eq_true rfl) _ (fun p e s m below meth c ls X hret hlk hB hl => ?_)
  obtain ⟨hP0, K⟩ := hB
  have hw : c_W G S s s.heap [] := ⟨hP0, va_S.rf⟩
  have X : CallFix p m c cX6_who 6 s ([.ref (G.2.2 61), .int a1, .int a2] : List Value).toArray tt_T "TrustTin" := X
  have hl : lv_has ls 6 [(0, .ref (G.2.2 61)), (1, .int a1), (2, .int a2)] := hl
  refine lv_iload_n X.1 X.2.1 dX6_who_0 rfl (lv_at hl 1 rfl) ?_
  refine lv_iconst (v := (0 : Int32)) X.1 X.2.1 dX6_who_1 (by decide) ?_
  refine lv_sipush (v := (9999 : Int32)) X.1 X.2.1 dX6_who_2 (by decide) ?_
  refine c_callSI_p X K hw (k_X6_within l G S a1 (0 : Int32) (9999 : Int32)) (g_cwS X hiX6_within q309 q310 q67 q311 ⟨(Nat.le_of_ble_eq_true rfl), (Nat.le_of_ble_eq_true rfl)⟩) rfl hl.1 rfl (Nat.le_of_ble_eq_true rfl) dX6_who_5 ⟨(Nat.le_of_ble_eq_true rfl), (Nat.le_of_ble_eq_true rfl)⟩ (fun z1 H locs ez1 hw => ?_)
  refine lv_if_eq (tgt := 20) X.1 X.2.1 dX6_who_8 (by decide) (fun c2 => ?_) (fun c2 => ?_)
  · refine lv_aload_n X.1 X.2.1 dX6_who_20 rfl (lv_at hl 0 rfl) ?_
    refine lv_iconst (v := (0 : Int32)) X.1 X.2.1 dX6_who_21 (by decide) ?_
    refine c_callVI_s X K hw (k_X6_tell l G S (0 : Int32) (by unfold vp_in; decide)) (g_cwV X hiX6_tell q312 q314 q0 q67 q315 ⟨(Nat.le_of_ble_eq_true rfl), (Nat.le_of_ble_eq_true rfl)⟩) (by decide) tt_eT rfl rfl hl.1 rfl (Nat.le_of_ble_eq_true rfl) dX6_who_22 ⟨(Nat.le_of_ble_eq_true rfl), (Nat.le_of_ble_eq_true rfl)⟩ (fun z3 S4 H locs ez3 eS4 hw => ?_)
    have hR : (z3, S4) = tgt := by
      rw [← hF]
      subst ez1 ez3 eS4
      simp only [f6_who, if_pos c2]
    have hRR : z3 = tgt.1 := pr1 hR
    have hRS : S4 = tgt.2 := pr2 hR
    exact g_iret X hret hlk hw hRR hRS dX6_who_25
  · refine lv_iload_n X.1 X.2.1 dX6_who_11 rfl (lv_at hl 2 rfl) ?_
    refine lv_iconst (v := (0 : Int32)) X.1 X.2.1 dX6_who_12 (by decide) ?_
    refine lv_iconst (v := (1 : Int32)) X.1 X.2.1 dX6_who_13 (by decide) ?_
    refine c_callSI_p X K hw (k_X6_within l G S a2 (0 : Int32) (1 : Int32)) (g_cwS X hiX6_within q309 q310 q67 q311 ⟨(Nat.le_of_ble_eq_true rfl), (Nat.le_of_ble_eq_true rfl)⟩) rfl hl.1 rfl (Nat.le_of_ble_eq_true rfl) dX6_who_14 ⟨(Nat.le_of_ble_eq_true rfl), (Nat.le_of_ble_eq_true rfl)⟩ (fun z5 H locs ez5 hw => ?_)
    refine lv_if_ne (tgt := 26) X.1 X.2.1 dX6_who_17 (by decide) (fun c6 => ?_) (fun c6 => ?_)
    · refine lv_iconst (v := (-1 : Int32)) X.1 X.2.1 dX6_who_26 (by decide) ?_
      refine lv_istore_n (lv' := [(3, .int (-1 : Int32)), (0, .ref (G.2.2 61)), (1, .int a1), (2, .int a2)]) X.1 X.2.1 dX6_who_27 rfl hl (by decide) rfl (fun ls hl => ?_)
      refine lv_iconst (v := (0 : Int32)) X.1 X.2.1 dX6_who_28 (by decide) ?_
      refine lv_istore (lv' := [(4, .int (0 : Int32)), (3, .int (-1 : Int32)), (0, .ref (G.2.2 61)), (1, .int a1), (2, .int a2)]) X.1 X.2.1 dX6_who_29 hl (by decide) rfl (fun ls hl => ?_)
      refine lv_iconst (v := (1 : Int32)) X.1 X.2.1 dX6_who_31 (by decide) ?_
      refine lv_istore (lv' := [(5, .int (1 : Int32)), (4, .int (0 : Int32)), (3, .int (-1 : Int32)), (0, .ref (G.2.2 61)), (1, .int a1), (2, .int a2)]) X.1 X.2.1 dX6_who_32 hl (by decide) rfl (fun ls hl => ?_)
      have j34 : ∀ (n : Nat) (S7 : tt_St) (y3_34 : Int32) (y4_34 : Int32) (y5_34 : Int32) (H : Heap) (locs : List Loc) (ls : Array Slot), ((¬ y5_34 < 0) ∧ S7 = S) → lp_mu ((1 : Int32) <<< ((S7 0 0) &&& 31)) y5_34 < n → f6_who_L34 a1 a2 n S7 y3_34 y4_34 y5_34 = tgt → c_W G S7 s H locs → lv_has ls 6 [(0, .ref (G.2.2 61)), (1, .int a1), (2, .int a2), (3, .int y3_34), (4, .int y4_34), (5, .int y5_34)] → W p l e (g_rm 1 23) s m ([.ref (G.2.2 61), .int a1, .int a2] : List Value).toArray below meth c H locs 0 0 (MQ below (va_Qi (fun r T => r = tgt.1 ∧ T = tgt.2) (g_Post G 62 G.2.2 (tt_cell G)) (g_in 62 G.2.2)) ([.ref (G.2.2 61), .int a1, .int a2] : List Value).toArray s 0 0 (g_in 62 G.2.2)) (F0 m 34 ls []) := by
        intro n
        induction n with
        | zero => intro S7 y3_34 y4_34 y5_34 H locs ls hI hm; exact absurd hm (Nat.not_lt_zero _)
        | succ n ih =>
          intro S7 y3_34 y4_34 y5_34 H locs ls hI hm hF hw hl
          refine lv_iload X.1 X.2.1 dX6_who_34 (lv_at hl 5 rfl) ?_
          refine lv_iconst (v := (1 : Int32)) X.1 X.2.1 dX6_who_36 (by decide) ?_
          refine lv_aload_n X.1 X.2.1 dX6_who_37 rfl (lv_at hl 0 rfl) ?_
          refine g_get (v := .ref (G.2.2 30)) X K hw (by decide) tt_eT rfl iT6 0 (by decide) q280 rfl dX6_who_38 ?_
          refine g_get (v := .int (S7 0 0)) X K hw (by decide) (tt_eR (r := 0) (by decide : 0 < 3)) rfl iT2 1 (by decide) q162 rfl dX6_who_41 ?_
          refine lv_ishl X.1 X.2.1 dX6_who_44 ?_
          refine lv_icmp_ge (tgt := 79) X.1 X.2.1 dX6_who_45 (by decide) (fun c8 => ?_) (fun c8 => ?_)
          · refine lv_iload X.1 X.2.1 dX6_who_79 (lv_at hl 4 rfl) ?_
            refine lv_if_ne (tgt := 90) X.1 X.2.1 dX6_who_81 (by decide) (fun c9 => ?_) (fun c9 => ?_)
            · refine lv_iload_n X.1 X.2.1 dX6_who_90 rfl (lv_at hl 2 rfl) ?_
              refine lv_if_ne (tgt := 98) X.1 X.2.1 dX6_who_91 (by decide) (fun c10 => ?_) (fun c10 => ?_)
              · refine lv_iload X.1 X.2.1 dX6_who_98 (lv_at hl 4 rfl) ?_
                have hR : (y4_34, S7) = tgt := by
                  rw [← hF]
                  simp only [f6_who_L34, if_pos c8, if_neg c9, if_neg c10]
                have hRR : y4_34 = tgt.1 := pr1 hR
                have hRS : S7 = tgt.2 := pr2 hR
                exact g_iret X hret hlk hw hRR hRS dX6_who_100
              · refine lv_iload_n X.1 X.2.1 dX6_who_94 rfl (lv_at hl 3 rfl) ?_
                refine lv_goto (tgt := 100) X.1 X.2.1 dX6_who_95 (by decide) ?_
                have hR : (y3_34, S7) = tgt := by
                  rw [← hF]
                  simp only [f6_who_L34, if_pos c8, if_neg c9, if_pos c10]
                have hRR : y3_34 = tgt.1 := pr1 hR
                have hRS : S7 = tgt.2 := pr2 hR
                exact g_iret X hret hlk hw hRR hRS dX6_who_100
            · refine lv_aload_n X.1 X.2.1 dX6_who_84 rfl (lv_at hl 0 rfl) ?_
              refine lv_iconst (v := (3 : Int32)) X.1 X.2.1 dX6_who_85 (by decide) ?_
              refine c_callVI_s X K hw (k_X6_tell l G S7 (3 : Int32) (by unfold vp_in; decide)) (g_cwV X hiX6_tell q312 q314 q0 q67 q315 ⟨(Nat.le_of_ble_eq_true rfl), (Nat.le_of_ble_eq_true rfl)⟩) (by decide) tt_eT rfl rfl hl.1 rfl (Nat.le_of_ble_eq_true rfl) dX6_who_86 ⟨(Nat.le_of_ble_eq_true rfl), (Nat.le_of_ble_eq_true rfl)⟩ (fun z11 S12 H locs ez11 eS12 hw => ?_)
              have hR : (z11, S12) = tgt := by
                rw [← hF]
                subst ez11 eS12
                simp only [f6_who_L34, if_pos c8, if_pos c9]
              have hRR : z11 = tgt.1 := pr1 hR
              have hRS : S12 = tgt.2 := pr2 hR
              exact g_iret X hret hlk hw hRR hRS dX6_who_89
          · refine lv_aload_n X.1 X.2.1 dX6_who_48 rfl (lv_at hl 0 rfl) ?_
            refine g_get (v := .ref (G.2.2 30)) X K hw (by decide) tt_eT rfl iT6 0 (by decide) q280 rfl dX6_who_49 ?_
            refine lv_iload X.1 X.2.1 dX6_who_52 (lv_at hl 5 rfl) ?_
            refine c_callVI_p X K hw (k_X2_dueOf l G S7 0 y5_34 (by decide) (by rw [hI.2]; exact (hp0.1 0 (by decide)).2)) (g_cwV X hiX2_dueOf q488 q489 q490 q68 q491 ⟨(Nat.le_of_ble_eq_true rfl), (Nat.le_of_ble_eq_true rfl)⟩) (by decide) (tt_eR (r := 0) (by decide : 0 < 3)) rfl rfl hl.1 rfl (Nat.le_of_ble_eq_true rfl) dX6_who_54 ⟨(Nat.le_of_ble_eq_true rfl), (Nat.le_of_ble_eq_true rfl)⟩ (fun z13 H locs ez13 hw => ?_)
            refine lv_iload_n X.1 X.2.1 dX6_who_57 rfl (lv_at hl 1 rfl) ?_
            refine lv_icmp_ne (tgt := 73) X.1 X.2.1 dX6_who_58 (by decide) (fun c14 => ?_) (fun c14 => ?_)
            · obtain ⟨x15, ex15⟩ : ∃ y : Int32, y = y5_34 + (1 : Int32) := ⟨_, rfl⟩
              refine lv_iinc (v := x15) (lv' := [(5, .int x15), (0, .ref (G.2.2 61)), (1, .int a1), (2, .int a2), (3, .int y3_34), (4, .int y4_34)]) X.1 X.2.1 dX6_who_73 hl (k := 5) rfl (by rw [ex15]; rfl) (by decide) rfl (fun ls hl => ?_)
              refine lv_goto (tgt := 34) X.1 X.2.1 dX6_who_76 (by decide) ?_
              have hF2 : f6_who_L34 a1 a2 n S7 y3_34 y4_34 x15 = tgt := by
                rw [← hF]
                subst ez13 ex15
                simp only [f6_who_L34, if_neg c8, if_neg c14]
              exact ih S7 y3_34 y4_34 x15 _ _ ls (⟨by rw [ex15]; exact lp_nn hI.1 c8, hI.2⟩) (by rw [ex15]; exact lp_dec' c8 hm) hF2 hw (lv_sub hl [1, 2, 3, 4, 5, 0] rfl)
            · refine lv_iload_n X.1 X.2.1 dX6_who_61 rfl (lv_at hl 3 rfl) ?_
              refine lv_iload X.1 X.2.1 dX6_who_62 (lv_at hl 5 rfl) ?_
              refine lv_iand X.1 X.2.1 dX6_who_64 ?_
              refine lv_topi (fun x16 ex16 => ?_)
              refine lv_istore_n (lv' := [(3, .int x16), (0, .ref (G.2.2 61)), (1, .int a1), (2, .int a2), (4, .int y4_34), (5, .int y5_34)]) X.1 X.2.1 dX6_who_65 rfl hl (by decide) rfl (fun ls hl => ?_)
              refine lv_iload X.1 X.2.1 dX6_who_66 (lv_at hl 4 rfl) ?_
              refine lv_iload X.1 X.2.1 dX6_who_68 (lv_at hl 5 rfl) ?_
              refine lv_ior X.1 X.2.1 dX6_who_70 ?_
              refine lv_topi (fun x17 ex17 => ?_)
              refine lv_istore (lv' := [(4, .int x17), (3, .int x16), (0, .ref (G.2.2 61)), (1, .int a1), (2, .int a2), (5, .int y5_34)]) X.1 X.2.1 dX6_who_71 hl (by decide) rfl (fun ls hl => ?_)
              obtain ⟨x18, ex18⟩ : ∃ y : Int32, y = y5_34 + (1 : Int32) := ⟨_, rfl⟩
              refine lv_iinc (v := x18) (lv' := [(5, .int x18), (4, .int x17), (3, .int x16), (0, .ref (G.2.2 61)), (1, .int a1), (2, .int a2)]) X.1 X.2.1 dX6_who_73 hl (k := 5) rfl (by rw [ex18]; rfl) (by decide) rfl (fun ls hl => ?_)
              refine lv_goto (tgt := 34) X.1 X.2.1 dX6_who_76 (by decide) ?_
              have hF2 : f6_who_L34 a1 a2 n S7 x16 x17 x18 = tgt := by
                rw [← hF]
                subst ez13 ex16 ex17 ex18
                simp only [f6_who_L34, if_neg c8, if_pos c14]
              exact ih S7 x16 x17 x18 _ _ ls (⟨by rw [ex18]; exact lp_nn hI.1 c8, hI.2⟩) (by rw [ex18]; exact lp_dec' c8 hm) hF2 hw (lv_sub hl [3, 4, 5, 2, 1, 0] rfl)
      have hF2 : f6_who_L34 a1 a2 (lp_mu ((1 : Int32) <<< ((S 0 0) &&& 31)) 1 + 1) S (-1 : Int32) (0 : Int32) (1 : Int32) = tgt := by
        rw [← hF]
        subst ez1 ez5
        simp only [f6_who, if_neg c2, if_neg c6]
      exact j34 (lp_mu ((1 : Int32) <<< ((S 0 0) &&& 31)) 1 + 1) S (-1 : Int32) (0 : Int32) (1 : Int32) _ _ ls (⟨by decide, rfl⟩) (Nat.lt_succ_self _) hF2 hw (lv_sub hl [3, 4, 5, 2, 1, 0] rfl)
    · refine lv_aload_n X.1 X.2.1 dX6_who_20 rfl (lv_at hl 0 rfl) ?_
      refine lv_iconst (v := (0 : Int32)) X.1 X.2.1 dX6_who_21 (by decide) ?_
      refine c_callVI_s X K hw (k_X6_tell l G S (0 : Int32) (by unfold vp_in; decide)) (g_cwV X hiX6_tell q312 q314 q0 q67 q315 ⟨(Nat.le_of_ble_eq_true rfl), (Nat.le_of_ble_eq_true rfl)⟩) (by decide) tt_eT rfl rfl hl.1 rfl (Nat.le_of_ble_eq_true rfl) dX6_who_22 ⟨(Nat.le_of_ble_eq_true rfl), (Nat.le_of_ble_eq_true rfl)⟩ (fun z19 S20 H locs ez19 eS20 hw => ?_)
      have hR : (z19, S20) = tgt := by
        rw [← hF]
        subst ez1 ez5 ez19 eS20
        simp only [f6_who, if_neg c2, if_pos c6]
      have hRR : z19 = tgt.1 := pr1 hR
      have hRS : S20 = tgt.2 := pr2 hR
      exact g_iret X hret hlk hw hRR hRS dX6_who_25
set_option maxHeartbeats 4000000 in
set_option maxRecDepth 10000 in
theorem k_J6_bitCount_0f7a4 (l : Launch) (G : tt_G) (S : tt_St) (a0 : Int32) : c_MI l G yJ6_bitCount_0f7a4 (g_code yJ6_bitCount_0f7a4 cJ6_bitCount_0f7a4 1 (some FieldType.int)) 0 0 [.int a0] S (fJ6_bitCount_0f7a4 a0) S := by
  generalize hF : fJ6_bitCount_0f7a4 a0 = tgt
  refine g_begin rfl (Nat.le_of_ble_eq_true rfl) _ (fun p e s m below meth c ls X hret hlk hB hl => ?_)
  obtain ⟨hP0, K⟩ := hB
  have hw : c_W G S s s.heap [] := ⟨hP0, va_S.rf⟩
  have X : CallFix p m c cJ6_bitCount_0f7a4 1 s ([.int a0] : List Value).toArray tt_T "java/lang/Integer" := X
  have hl : lv_has ls 1 [(0, .int a0)] := hl
  refine lv_iload_n X.1 X.2.1 dJ6_bitCount_0f7a4_0 rfl (lv_at hl 0 rfl) ?_
  refine lv_iload_n X.1 X.2.1 dJ6_bitCount_0f7a4_1 rfl (lv_at hl 0 rfl) ?_
  refine lv_iconst (v := (1 : Int32)) X.1 X.2.1 dJ6_bitCount_0f7a4_2 (by decide) ?_
  refine lv_iushr X.1 X.2.1 dJ6_bitCount_0f7a4_3 rfl ?_
  refine lv_ldcw (v := (1431655765 : Int32)) X.1 X.2.1 X.2.2.2.1 (X.2.2.2.2 _ q503) dJ6_bitCount_0f7a4_4 ?_
  refine lv_iand X.1 X.2.1 dJ6_bitCount_0f7a4_7 ?_
  refine lv_isub X.1 X.2.1 dJ6_bitCount_0f7a4_8 ?_
  refine lv_topi (fun x1 ex1 => ?_)
  refine lv_istore_n (lv' := [(0, .int x1)]) X.1 X.2.1 dJ6_bitCount_0f7a4_9 rfl hl (by decide) rfl (fun ls hl => ?_)
  refine lv_iload_n X.1 X.2.1 dJ6_bitCount_0f7a4_10 rfl (lv_at hl 0 rfl) ?_
  refine lv_ldcw (v := (858993459 : Int32)) X.1 X.2.1 X.2.2.2.1 (X.2.2.2.2 _ q504) dJ6_bitCount_0f7a4_11 ?_
  refine lv_iand X.1 X.2.1 dJ6_bitCount_0f7a4_14 ?_
  refine lv_iload_n X.1 X.2.1 dJ6_bitCount_0f7a4_15 rfl (lv_at hl 0 rfl) ?_
  refine lv_iconst (v := (2 : Int32)) X.1 X.2.1 dJ6_bitCount_0f7a4_16 (by decide) ?_
  refine lv_iushr X.1 X.2.1 dJ6_bitCount_0f7a4_17 rfl ?_
  refine lv_ldcw (v := (858993459 : Int32)) X.1 X.2.1 X.2.2.2.1 (X.2.2.2.2 _ q504) dJ6_bitCount_0f7a4_18 ?_
  refine lv_iand X.1 X.2.1 dJ6_bitCount_0f7a4_21 ?_
  refine lv_iadd X.1 X.2.1 dJ6_bitCount_0f7a4_22 ?_
  refine lv_topi (fun x2 ex2 => ?_)
  refine lv_istore_n (lv' := [(0, .int x2)]) X.1 X.2.1 dJ6_bitCount_0f7a4_23 rfl hl (by decide) rfl (fun ls hl => ?_)
  refine lv_iload_n X.1 X.2.1 dJ6_bitCount_0f7a4_24 rfl (lv_at hl 0 rfl) ?_
  refine lv_iload_n X.1 X.2.1 dJ6_bitCount_0f7a4_25 rfl (lv_at hl 0 rfl) ?_
  refine lv_iconst (v := (4 : Int32)) X.1 X.2.1 dJ6_bitCount_0f7a4_26 (by decide) ?_
  refine lv_iushr X.1 X.2.1 dJ6_bitCount_0f7a4_27 rfl ?_
  refine lv_iadd X.1 X.2.1 dJ6_bitCount_0f7a4_28 ?_
  refine lv_ldcw (v := (252645135 : Int32)) X.1 X.2.1 X.2.2.2.1 (X.2.2.2.2 _ q505) dJ6_bitCount_0f7a4_29 ?_
  refine lv_iand X.1 X.2.1 dJ6_bitCount_0f7a4_32 ?_
  refine lv_topi (fun x3 ex3 => ?_)
  refine lv_istore_n (lv' := [(0, .int x3)]) X.1 X.2.1 dJ6_bitCount_0f7a4_33 rfl hl (by decide) rfl (fun ls hl => ?_)
  refine lv_iload_n X.1 X.2.1 dJ6_bitCount_0f7a4_34 rfl (lv_at hl 0 rfl) ?_
  refine lv_iload_n X.1 X.2.1 dJ6_bitCount_0f7a4_35 rfl (lv_at hl 0 rfl) ?_
  refine lv_bipush (v := (8 : Int32)) X.1 X.2.1 dJ6_bitCount_0f7a4_36 (by decide) ?_
  refine lv_iushr X.1 X.2.1 dJ6_bitCount_0f7a4_38 rfl ?_
  refine lv_iadd X.1 X.2.1 dJ6_bitCount_0f7a4_39 ?_
  refine lv_topi (fun x4 ex4 => ?_)
  refine lv_istore_n (lv' := [(0, .int x4)]) X.1 X.2.1 dJ6_bitCount_0f7a4_40 rfl hl (by decide) rfl (fun ls hl => ?_)
  refine lv_iload_n X.1 X.2.1 dJ6_bitCount_0f7a4_41 rfl (lv_at hl 0 rfl) ?_
  refine lv_iload_n X.1 X.2.1 dJ6_bitCount_0f7a4_42 rfl (lv_at hl 0 rfl) ?_
  refine lv_bipush (v := (16 : Int32)) X.1 X.2.1 dJ6_bitCount_0f7a4_43 (by decide) ?_
  refine lv_iushr X.1 X.2.1 dJ6_bitCount_0f7a4_45 rfl ?_
  refine lv_iadd X.1 X.2.1 dJ6_bitCount_0f7a4_46 ?_
  refine lv_topi (fun x5 ex5 => ?_)
  refine lv_istore_n (lv' := [(0, .int x5)]) X.1 X.2.1 dJ6_bitCount_0f7a4_47 rfl hl (by decide) rfl (fun ls hl => ?_)
  refine lv_iload_n X.1 X.2.1 dJ6_bitCount_0f7a4_48 rfl (lv_at hl 0 rfl) ?_
  refine lv_bipush (v := (63 : Int32)) X.1 X.2.1 dJ6_bitCount_0f7a4_49 (by decide) ?_
  refine lv_iand X.1 X.2.1 dJ6_bitCount_0f7a4_51 ?_
  have hR : x5 &&& (63 : Int32) = tgt := by
    rw [← hF]
    subst ex1 ex2 ex3 ex4 ex5
    simp only [fJ6_bitCount_0f7a4]
  exact g_iret X hret hlk hw hR rfl dJ6_bitCount_0f7a4_52
set_option maxHeartbeats 4000000 in
set_option maxRecDepth 10000 in
theorem k_X6_fewest (l : Launch) (G : tt_G) (S : tt_St) (a1 : Int32) (hp0 : ci S) : c_MI l G yX6_fewest (g_code yX6_fewest cX6_fewest 5 (some FieldType.int)) 1 23 [.ref (G.2.2 61), .int a1] S ((f6_fewest S a1).1) ((f6_fewest S a1).2) := by
  generalize hF : f6_fewest S a1 = tgt
  refine g_begin rfl (Nat.le_of_ble_eq_true rfl) _ (fun p e s m below meth c ls X hret hlk hB hl => ?_)
  obtain ⟨hP0, K⟩ := hB
  have hw : c_W G S s s.heap [] := ⟨hP0, va_S.rf⟩
  have X : CallFix p m c cX6_fewest 5 s ([.ref (G.2.2 61), .int a1] : List Value).toArray tt_T "TrustTin" := X
  have hl : lv_has ls 5 [(0, .ref (G.2.2 61)), (1, .int a1)] := hl
  refine lv_iload_n X.1 X.2.1 dX6_fewest_0 rfl (lv_at hl 1 rfl) ?_
  refine lv_iconst (v := (0 : Int32)) X.1 X.2.1 dX6_fewest_1 (by decide) ?_
  refine lv_sipush (v := (9999 : Int32)) X.1 X.2.1 dX6_fewest_2 (by decide) ?_
  refine c_callSI_p X K hw (k_X6_within l G S a1 (0 : Int32) (9999 : Int32)) (g_cwS X hiX6_within q309 q310 q67 q311 ⟨(Nat.le_of_ble_eq_true rfl), (Nat.le_of_ble_eq_true rfl)⟩) rfl hl.1 rfl (Nat.le_of_ble_eq_true rfl) dX6_fewest_5 ⟨(Nat.le_of_ble_eq_true rfl), (Nat.le_of_ble_eq_true rfl)⟩ (fun z1 H locs ez1 hw => ?_)
  refine lv_if_ne (tgt := 17) X.1 X.2.1 dX6_fewest_8 (by decide) (fun c2 => ?_) (fun c2 => ?_)
  · refine lv_iconst (v := (0 : Int32)) X.1 X.2.1 dX6_fewest_17 (by decide) ?_
    refine lv_istore_n (lv' := [(2, .int (0 : Int32)), (0, .ref (G.2.2 61)), (1, .int a1)]) X.1 X.2.1 dX6_fewest_18 rfl hl (by decide) rfl (fun ls hl => ?_)
    refine lv_iconst (v := (1 : Int32)) X.1 X.2.1 dX6_fewest_19 (by decide) ?_
    refine lv_istore_n (lv' := [(3, .int (1 : Int32)), (2, .int (0 : Int32)), (0, .ref (G.2.2 61)), (1, .int a1)]) X.1 X.2.1 dX6_fewest_20 rfl hl (by decide) rfl (fun ls hl => ?_)
    have j21 : ∀ (n : Nat) (S3 : tt_St) (y2_21 : Int32) (y3_21 : Int32) (H : Heap) (locs : List Loc) (ls : Array Slot), ((¬ y3_21 < 0) ∧ S3 = S) → lp_mu ((1 : Int32) <<< ((S3 0 0) &&& 31)) y3_21 < n → f6_fewest_L21 a1 n S3 y2_21 y3_21 = tgt → c_W G S3 s H locs → lv_has ls 5 [(0, .ref (G.2.2 61)), (1, .int a1), (2, .int y2_21), (3, .int y3_21)] → W p l e (g_rm 1 23) s m ([.ref (G.2.2 61), .int a1] : List Value).toArray below meth c H locs 0 0 (MQ below (va_Qi (fun r T => r = tgt.1 ∧ T = tgt.2) (g_Post G 62 G.2.2 (tt_cell G)) (g_in 62 G.2.2)) ([.ref (G.2.2 61), .int a1] : List Value).toArray s 0 0 (g_in 62 G.2.2)) (F0 m 21 ls []) := by
      intro n
      induction n with
      | zero => intro S3 y2_21 y3_21 H locs ls hI hm; exact absurd hm (Nat.not_lt_zero _)
      | succ n ih =>
        intro S3 y2_21 y3_21 H locs ls hI hm hF hw hl
        refine lv_iload_n X.1 X.2.1 dX6_fewest_21 rfl (lv_at hl 3 rfl) ?_
        refine lv_iconst (v := (1 : Int32)) X.1 X.2.1 dX6_fewest_22 (by decide) ?_
        refine lv_aload_n X.1 X.2.1 dX6_fewest_23 rfl (lv_at hl 0 rfl) ?_
        refine g_get (v := .ref (G.2.2 30)) X K hw (by decide) tt_eT rfl iT6 0 (by decide) q280 rfl dX6_fewest_24 ?_
        refine g_get (v := .int (S3 0 0)) X K hw (by decide) (tt_eR (r := 0) (by decide : 0 < 3)) rfl iT2 1 (by decide) q162 rfl dX6_fewest_27 ?_
        refine lv_ishl X.1 X.2.1 dX6_fewest_30 ?_
        refine lv_icmp_ge (tgt := 81) X.1 X.2.1 dX6_fewest_31 (by decide) (fun c4 => ?_) (fun c4 => ?_)
        · refine lv_iload_n X.1 X.2.1 dX6_fewest_81 rfl (lv_at hl 2 rfl) ?_
          refine lv_if_ne (tgt := 93) X.1 X.2.1 dX6_fewest_82 (by decide) (fun c5 => ?_) (fun c5 => ?_)
          · refine lv_iload_n X.1 X.2.1 dX6_fewest_93 rfl (lv_at hl 2 rfl) ?_
            have hR : (y2_21, S3) = tgt := by
              rw [← hF]
              simp only [f6_fewest_L21, if_pos c4, if_neg c5]
            have hRR : y2_21 = tgt.1 := pr1 hR
            have hRS : S3 = tgt.2 := pr2 hR
            exact g_iret X hret hlk hw hRR hRS dX6_fewest_94
          · refine lv_aload_n X.1 X.2.1 dX6_fewest_85 rfl (lv_at hl 0 rfl) ?_
            refine lv_iconst (v := (3 : Int32)) X.1 X.2.1 dX6_fewest_86 (by decide) ?_
            refine c_callVI_s X K hw (k_X6_tell l G S3 (3 : Int32) (by unfold vp_in; decide)) (g_cwV X hiX6_tell q312 q314 q0 q67 q315 ⟨(Nat.le_of_ble_eq_true rfl), (Nat.le_of_ble_eq_true rfl)⟩) (by decide) tt_eT rfl rfl hl.1 rfl (Nat.le_of_ble_eq_true rfl) dX6_fewest_87 ⟨(Nat.le_of_ble_eq_true rfl), (Nat.le_of_ble_eq_true rfl)⟩ (fun z6 S7 H locs ez6 eS7 hw => ?_)
            refine lv_goto (tgt := 94) X.1 X.2.1 dX6_fewest_90 (by decide) ?_
            have hR : (z6, S7) = tgt := by
              rw [← hF]
              subst ez6 eS7
              simp only [f6_fewest_L21, if_pos c4, if_pos c5]
            have hRR : z6 = tgt.1 := pr1 hR
            have hRS : S7 = tgt.2 := pr2 hR
            exact g_iret X hret hlk hw hRR hRS dX6_fewest_94
        · refine lv_iload_n X.1 X.2.1 dX6_fewest_34 rfl (lv_at hl 2 rfl) ?_
          refine lv_if_eq (tgt := 49) X.1 X.2.1 dX6_fewest_35 (by decide) (fun c8 => ?_) (fun c8 => ?_)
          · refine lv_iconst (v := (1 : Int32)) X.1 X.2.1 dX6_fewest_49 (by decide) ?_
            refine lv_goto (tgt := 54) X.1 X.2.1 dX6_fewest_50 (by decide) ?_
            refine lv_istore (lv' := [(4, .int (1 : Int32)), (0, .ref (G.2.2 61)), (1, .int a1), (2, .int y2_21), (3, .int y3_21)]) X.1 X.2.1 dX6_fewest_54 hl (by decide) rfl (fun ls hl => ?_)
            refine lv_iload X.1 X.2.1 dX6_fewest_56 (lv_at hl 0 rfl) ?_
            refine lv_if_eq (tgt := 75) X.1 X.2.1 dX6_fewest_58 (by decide) (fun c9 => ?_) (fun c9 => ?_)
            · exact absurd c9 (by decide)
            · refine lv_aload_n X.1 X.2.1 dX6_fewest_61 rfl (lv_at hl 1 rfl) ?_
              refine g_get (v := .ref (G.2.2 30)) X K hw (by decide) tt_eT rfl iT6 0 (by decide) q280 rfl dX6_fewest_62 ?_
              refine lv_iload_n X.1 X.2.1 dX6_fewest_65 rfl (lv_at hl 4 rfl) ?_
              refine c_callVI_p X K hw (k_X2_dueOf l G S3 0 y3_21 (by decide) (by rw [hI.2]; exact (hp0.1 0 (by decide)).2)) (g_cwV X hiX2_dueOf q488 q489 q490 q68 q491 ⟨(Nat.le_of_ble_eq_true rfl), (Nat.le_of_ble_eq_true rfl)⟩) (by decide) (tt_eR (r := 0) (by decide : 0 < 3)) rfl rfl hl.1 rfl (Nat.le_of_ble_eq_true rfl) dX6_fewest_66 ⟨(Nat.le_of_ble_eq_true rfl), (Nat.le_of_ble_eq_true rfl)⟩ (fun z10 H locs ez10 hw => ?_)
              refine lv_iload_n X.1 X.2.1 dX6_fewest_69 rfl (lv_at hl 2 rfl) ?_
              refine lv_icmp_ne (tgt := 75) X.1 X.2.1 dX6_fewest_70 (by decide) (fun c11 => ?_) (fun c11 => ?_)
              · obtain ⟨x12, ex12⟩ : ∃ y : Int32, y = y3_21 + (1 : Int32) := ⟨_, rfl⟩
                refine lv_iinc (v := x12) (lv' := [(3, .int x12), (4, .int (1 : Int32)), (0, .ref (G.2.2 61)), (1, .int a1), (2, .int y2_21)]) X.1 X.2.1 dX6_fewest_75 hl (k := 4) rfl (by rw [ex12]; rfl) (by decide) rfl (fun ls hl => ?_)
                refine lv_goto (tgt := 21) X.1 X.2.1 dX6_fewest_78 (by decide) ?_
                have hF2 : f6_fewest_L21 a1 n S3 y2_21 x12 = tgt := by
                  rw [← hF]
                  subst ez10 ex12
                  simp only [f6_fewest_L21, if_neg c4, if_pos c8, if_neg c11]
                exact ih S3 y2_21 x12 _ _ ls (⟨by rw [ex12]; exact lp_nn hI.1 c4, hI.2⟩) (by rw [ex12]; exact lp_dec' c4 hm) hF2 hw (lv_sub hl [2, 3, 4, 0] rfl)
              · refine lv_iload_n X.1 X.2.1 dX6_fewest_73 rfl (lv_at hl 4 rfl) ?_
                refine lv_istore_n (lv' := [(2, .int y3_21), (4, .int (1 : Int32)), (0, .ref (G.2.2 61)), (1, .int a1), (3, .int y3_21)]) X.1 X.2.1 dX6_fewest_74 rfl hl (by decide) rfl (fun ls hl => ?_)
                obtain ⟨x13, ex13⟩ : ∃ y : Int32, y = y3_21 + (1 : Int32) := ⟨_, rfl⟩
                refine lv_iinc (v := x13) (lv' := [(3, .int x13), (2, .int y3_21), (4, .int (1 : Int32)), (0, .ref (G.2.2 61)), (1, .int a1)]) X.1 X.2.1 dX6_fewest_75 hl (k := 4) rfl (by rw [ex13]; rfl) (by decide) rfl (fun ls hl => ?_)
                refine lv_goto (tgt := 21) X.1 X.2.1 dX6_fewest_78 (by decide) ?_
                have hF2 : f6_fewest_L21 a1 n S3 y3_21 x13 = tgt := by
                  rw [← hF]
                  subst ez10 ex13
                  simp only [f6_fewest_L21, if_neg c4, if_pos c8, if_pos c11]
                exact ih S3 y3_21 x13 _ _ ls (⟨by rw [ex13]; exact lp_nn hI.1 c4, hI.2⟩) (by rw [ex13]; exact lp_dec' c4 hm) hF2 hw (lv_sub hl [3, 4, 1, 0] rfl)
          · refine lv_iload_n X.1 X.2.1 dX6_fewest_38 rfl (lv_at hl 3 rfl) ?_
            refine c_callSI_p X K hw (k_J6_bitCount_0f7a4 l G S3 y3_21) (g_cwS X hiJ6_bitCount_0f7a4 q500 q501 q77 q502 ⟨(Nat.le_of_ble_eq_true rfl), (Nat.le_of_ble_eq_true rfl)⟩) rfl hl.1 rfl (Nat.le_of_ble_eq_true rfl) dX6_fewest_39 ⟨(Nat.le_of_ble_eq_true rfl), (Nat.le_of_ble_eq_true rfl)⟩ (fun z14 H locs ez14 hw => ?_)
            refine lv_iload_n X.1 X.2.1 dX6_fewest_42 rfl (lv_at hl 2 rfl) ?_
            refine c_callSI_p X K hw (k_J6_bitCount_0f7a4 l G S3 y2_21) (g_cwS X hiJ6_bitCount_0f7a4 q500 q501 q77 q502 ⟨(Nat.le_of_ble_eq_true rfl), (Nat.le_of_ble_eq_true rfl)⟩) rfl hl.1 rfl (Nat.le_of_ble_eq_true rfl) dX6_fewest_43 ⟨(Nat.le_of_ble_eq_true rfl), (Nat.le_of_ble_eq_true rfl)⟩ (fun z15 H locs ez15 hw => ?_)
            refine lv_icmp_ge (tgt := 53) X.1 X.2.1 dX6_fewest_46 (by decide) (fun c16 => ?_) (fun c16 => ?_)
            · refine lv_iconst (v := (0 : Int32)) X.1 X.2.1 dX6_fewest_53 (by decide) ?_
              refine lv_istore (lv' := [(4, .int (0 : Int32)), (0, .ref (G.2.2 61)), (1, .int a1), (2, .int y2_21), (3, .int y3_21)]) X.1 X.2.1 dX6_fewest_54 hl (by decide) rfl (fun ls hl => ?_)
              refine lv_iload X.1 X.2.1 dX6_fewest_56 (lv_at hl 0 rfl) ?_
              refine lv_if_eq (tgt := 75) X.1 X.2.1 dX6_fewest_58 (by decide) (fun c17 => ?_) (fun c17 => ?_)
              · obtain ⟨x18, ex18⟩ : ∃ y : Int32, y = y3_21 + (1 : Int32) := ⟨_, rfl⟩
                refine lv_iinc (v := x18) (lv' := [(3, .int x18), (4, .int (0 : Int32)), (0, .ref (G.2.2 61)), (1, .int a1), (2, .int y2_21)]) X.1 X.2.1 dX6_fewest_75 hl (k := 4) rfl (by rw [ex18]; rfl) (by decide) rfl (fun ls hl => ?_)
                refine lv_goto (tgt := 21) X.1 X.2.1 dX6_fewest_78 (by decide) ?_
                have hF2 : f6_fewest_L21 a1 n S3 y2_21 x18 = tgt := by
                  rw [← hF]
                  subst ez14 ez15 ex18
                  simp only [f6_fewest_L21, if_neg c4, if_neg c8, if_pos c16]
                exact ih S3 y2_21 x18 _ _ ls (⟨by rw [ex18]; exact lp_nn hI.1 c4, hI.2⟩) (by rw [ex18]; exact lp_dec' c4 hm) hF2 hw (lv_sub hl [2, 3, 4, 0] rfl)
              · exact absurd (by decide) c17
            · refine lv_iconst (v := (1 : Int32)) X.1 X.2.1 dX6_fewest_49 (by decide) ?_
              refine lv_goto (tgt := 54) X.1 X.2.1 dX6_fewest_50 (by decide) ?_
              refine lv_istore (lv' := [(4, .int (1 : Int32)), (0, .ref (G.2.2 61)), (1, .int a1), (2, .int y2_21), (3, .int y3_21)]) X.1 X.2.1 dX6_fewest_54 hl (by decide) rfl (fun ls hl => ?_)
              refine lv_iload X.1 X.2.1 dX6_fewest_56 (lv_at hl 0 rfl) ?_
              refine lv_if_eq (tgt := 75) X.1 X.2.1 dX6_fewest_58 (by decide) (fun c19 => ?_) (fun c19 => ?_)
              · exact absurd c19 (by decide)
              · refine lv_aload_n X.1 X.2.1 dX6_fewest_61 rfl (lv_at hl 1 rfl) ?_
                refine g_get (v := .ref (G.2.2 30)) X K hw (by decide) tt_eT rfl iT6 0 (by decide) q280 rfl dX6_fewest_62 ?_
                refine lv_iload_n X.1 X.2.1 dX6_fewest_65 rfl (lv_at hl 4 rfl) ?_
                refine c_callVI_p X K hw (k_X2_dueOf l G S3 0 y3_21 (by decide) (by rw [hI.2]; exact (hp0.1 0 (by decide)).2)) (g_cwV X hiX2_dueOf q488 q489 q490 q68 q491 ⟨(Nat.le_of_ble_eq_true rfl), (Nat.le_of_ble_eq_true rfl)⟩) (by decide) (tt_eR (r := 0) (by decide : 0 < 3)) rfl rfl hl.1 rfl (Nat.le_of_ble_eq_true rfl) dX6_fewest_66 ⟨(Nat.le_of_ble_eq_true rfl), (Nat.le_of_ble_eq_true rfl)⟩ (fun z20 H locs ez20 hw => ?_)
                refine lv_iload_n X.1 X.2.1 dX6_fewest_69 rfl (lv_at hl 2 rfl) ?_
                refine lv_icmp_ne (tgt := 75) X.1 X.2.1 dX6_fewest_70 (by decide) (fun c21 => ?_) (fun c21 => ?_)
                · obtain ⟨x22, ex22⟩ : ∃ y : Int32, y = y3_21 + (1 : Int32) := ⟨_, rfl⟩
                  refine lv_iinc (v := x22) (lv' := [(3, .int x22), (4, .int (1 : Int32)), (0, .ref (G.2.2 61)), (1, .int a1), (2, .int y2_21)]) X.1 X.2.1 dX6_fewest_75 hl (k := 4) rfl (by rw [ex22]; rfl) (by decide) rfl (fun ls hl => ?_)
                  refine lv_goto (tgt := 21) X.1 X.2.1 dX6_fewest_78 (by decide) ?_
                  have hF2 : f6_fewest_L21 a1 n S3 y2_21 x22 = tgt := by
                    rw [← hF]
                    subst ez14 ez15 ez20 ex22
                    simp only [f6_fewest_L21, if_neg c4, if_neg c8, if_neg c16, if_neg c21]
                  exact ih S3 y2_21 x22 _ _ ls (⟨by rw [ex22]; exact lp_nn hI.1 c4, hI.2⟩) (by rw [ex22]; exact lp_dec' c4 hm) hF2 hw (lv_sub hl [2, 3, 4, 0] rfl)
                · refine lv_iload_n X.1 X.2.1 dX6_fewest_73 rfl (lv_at hl 4 rfl) ?_
                  refine lv_istore_n (lv' := [(2, .int y3_21), (4, .int (1 : Int32)), (0, .ref (G.2.2 61)), (1, .int a1), (3, .int y3_21)]) X.1 X.2.1 dX6_fewest_74 rfl hl (by decide) rfl (fun ls hl => ?_)
                  obtain ⟨x23, ex23⟩ : ∃ y : Int32, y = y3_21 + (1 : Int32) := ⟨_, rfl⟩
                  refine lv_iinc (v := x23) (lv' := [(3, .int x23), (2, .int y3_21), (4, .int (1 : Int32)), (0, .ref (G.2.2 61)), (1, .int a1)]) X.1 X.2.1 dX6_fewest_75 hl (k := 4) rfl (by rw [ex23]; rfl) (by decide) rfl (fun ls hl => ?_)
                  refine lv_goto (tgt := 21) X.1 X.2.1 dX6_fewest_78 (by decide) ?_
                  have hF2 : f6_fewest_L21 a1 n S3 y3_21 x23 = tgt := by
                    rw [← hF]
                    subst ez14 ez15 ez20 ex23
                    simp only [f6_fewest_L21, if_neg c4, if_neg c8, if_neg c16, if_pos c21]
                  exact ih S3 y3_21 x23 _ _ ls (⟨by rw [ex23]; exact lp_nn hI.1 c4, hI.2⟩) (by rw [ex23]; exact lp_dec' c4 hm) hF2 hw (lv_sub hl [3, 4, 1, 0] rfl)
    have hF2 : f6_fewest_L21 a1 (lp_mu ((1 : Int32) <<< ((S 0 0) &&& 31)) 1 + 1) S (0 : Int32) (1 : Int32) = tgt := by
      rw [← hF]
      subst ez1
      simp only [f6_fewest, if_neg c2]
    exact j21 (lp_mu ((1 : Int32) <<< ((S 0 0) &&& 31)) 1 + 1) S (0 : Int32) (1 : Int32) _ _ ls (⟨by decide, rfl⟩) (Nat.lt_succ_self _) hF2 hw (lv_sub hl [2, 3, 1, 0] rfl)
  · refine lv_aload_n X.1 X.2.1 dX6_fewest_11 rfl (lv_at hl 0 rfl) ?_
    refine lv_iconst (v := (0 : Int32)) X.1 X.2.1 dX6_fewest_12 (by decide) ?_
    refine c_callVI_s X K hw (k_X6_tell l G S (0 : Int32) (by unfold vp_in; decide)) (g_cwV X hiX6_tell q312 q314 q0 q67 q315 ⟨(Nat.le_of_ble_eq_true rfl), (Nat.le_of_ble_eq_true rfl)⟩) (by decide) tt_eT rfl rfl hl.1 rfl (Nat.le_of_ble_eq_true rfl) dX6_fewest_13 ⟨(Nat.le_of_ble_eq_true rfl), (Nat.le_of_ble_eq_true rfl)⟩ (fun z24 S25 H locs ez24 eS25 hw => ?_)
    have hR : (z24, S25) = tgt := by
      rw [← hF]
      subst ez1 ez24 eS25
      simp only [f6_fewest, if_pos c2]
    have hRR : z24 = tgt.1 := pr1 hR
    have hRS : S25 = tgt.2 := pr2 hR
    exact g_iret X hret hlk hw hRR hRS dX6_fewest_16
