set_option maxHeartbeats 4000000 in
set_option maxRecDepth 10000 in
theorem k_X6_ahead (l : Launch) (G : tt_G) (S : tt_St) (a1 : Int32) (a2 : Int32) (hp0 : ci S) : c_MI l G yX6_ahead (g_code yX6_ahead cX6_ahead 4 (some FieldType.int)) 6 148 [.ref (G.2.2 61), .int a1, .int a2] S ((f6_ahead S a1 a2).1) ((f6_ahead S a1 a2).2) := by
  generalize hF : f6_ahead S a1 a2 = tgt
  refine g_begin rfl (Nat.le_of_ble_eq_true rfl) _ (fun p e s m below meth c ls X hret hlk hB hl => ?_)
  obtain ⟨hP0, K⟩ := hB
  have hw : c_W G S s s.heap [] := ⟨hP0, va_S.rf⟩
  have X : CallFix p m c cX6_ahead 4 s ([.ref (G.2.2 61), .int a1, .int a2] : List Value).toArray tt_T "TrustTin" := X
  have hl : lv_has ls 4 [(0, .ref (G.2.2 61)), (1, .int a1), (2, .int a2)] := hl
  refine lv_iload_n X.1 X.2.1 dX6_ahead_0 rfl (lv_at hl 1 rfl) ?_
  refine lv_iconst (v := (0 : Int32)) X.1 X.2.1 dX6_ahead_1 (by decide) ?_
  refine lv_bipush (v := (100 : Int32)) X.1 X.2.1 dX6_ahead_2 (by decide) ?_
  refine c_callSI_p X K hw (k_X6_within l G S a1 (0 : Int32) (100 : Int32)) (g_cwS X hiX6_within q309 q310 q67 q311 ⟨(Nat.le_of_ble_eq_true rfl), (Nat.le_of_ble_eq_true rfl)⟩) rfl hl.1 rfl (Nat.le_of_ble_eq_true rfl) dX6_ahead_4 ⟨(Nat.le_of_ble_eq_true rfl), (Nat.le_of_ble_eq_true rfl)⟩ (fun z1 H locs ez1 hw => ?_)
  refine lv_if_eq (tgt := 19) X.1 X.2.1 dX6_ahead_7 (by decide) (fun c2 => ?_) (fun c2 => ?_)
  · refine lv_aload_n X.1 X.2.1 dX6_ahead_19 rfl (lv_at hl 0 rfl) ?_
    refine lv_iconst (v := (0 : Int32)) X.1 X.2.1 dX6_ahead_20 (by decide) ?_
    refine c_callVI_s X K hw (k_X6_tell l G S (0 : Int32) (by unfold vp_in; decide)) (g_cwV X hiX6_tell q312 q314 q0 q67 q315 ⟨(Nat.le_of_ble_eq_true rfl), (Nat.le_of_ble_eq_true rfl)⟩) (by decide) tt_eT rfl rfl hl.1 rfl (Nat.le_of_ble_eq_true rfl) dX6_ahead_21 ⟨(Nat.le_of_ble_eq_true rfl), (Nat.le_of_ble_eq_true rfl)⟩ (fun z3 S4 H locs ez3 eS4 hw => ?_)
    have hR : (z3, S4) = tgt := by
      rw [← hF]
      subst ez1 ez3 eS4
      simp only [f6_ahead, if_pos c2]
    have hRR : z3 = tgt.1 := pr1 hR
    have hRS : S4 = tgt.2 := pr2 hR
    exact g_iret X hret hlk hw hRR hRS dX6_ahead_24
  · refine lv_iload_n X.1 X.2.1 dX6_ahead_10 rfl (lv_at hl 2 rfl) ?_
    refine lv_iconst (v := (0 : Int32)) X.1 X.2.1 dX6_ahead_11 (by decide) ?_
    refine lv_iconst (v := (5 : Int32)) X.1 X.2.1 dX6_ahead_12 (by decide) ?_
    refine c_callSI_p X K hw (k_X6_within l G S a2 (0 : Int32) (5 : Int32)) (g_cwS X hiX6_within q309 q310 q67 q311 ⟨(Nat.le_of_ble_eq_true rfl), (Nat.le_of_ble_eq_true rfl)⟩) rfl hl.1 rfl (Nat.le_of_ble_eq_true rfl) dX6_ahead_13 ⟨(Nat.le_of_ble_eq_true rfl), (Nat.le_of_ble_eq_true rfl)⟩ (fun z5 H locs ez5 hw => ?_)
    refine lv_if_ne (tgt := 25) X.1 X.2.1 dX6_ahead_16 (by decide) (fun c6 => ?_) (fun c6 => ?_)
    · refine lv_aload_n X.1 X.2.1 dX6_ahead_25 rfl (lv_at hl 0 rfl) ?_
      refine lv_iload_n X.1 X.2.1 dX6_ahead_26 rfl (lv_at hl 1 rfl) ?_
      refine c_callVI_p X K hw (k_X6_isTooLate l G S a1) (g_cwV X hiX6_isTooLate q402 q404 q5 q67 q405 ⟨(Nat.le_of_ble_eq_true rfl), (Nat.le_of_ble_eq_true rfl)⟩) (by decide) tt_eT rfl rfl hl.1 rfl (Nat.le_of_ble_eq_true rfl) dX6_ahead_27 ⟨(Nat.le_of_ble_eq_true rfl), (Nat.le_of_ble_eq_true rfl)⟩ (fun z7 H locs ez7 hw => ?_)
      refine lv_if_eq (tgt := 39) X.1 X.2.1 dX6_ahead_30 (by decide) (fun c8 => ?_) (fun c8 => ?_)
      · refine lv_aload_n X.1 X.2.1 dX6_ahead_39 rfl (lv_at hl 0 rfl) ?_
        refine g_get (v := .ref (G.2.2 32)) X K hw (by decide) tt_eT rfl iT6 2 (by decide) q282 rfl dX6_ahead_40 ?_
        refine lv_aload_n X.1 X.2.1 dX6_ahead_43 rfl (lv_at hl 0 rfl) ?_
        refine g_get (v := .ref (G.2.2 30)) X K hw (by decide) tt_eT rfl iT6 0 (by decide) q280 rfl dX6_ahead_44 ?_
        refine c_callVV_s X K hw (k_X2_takeRoom l G S 2 0 (by decide) (by decide) (hp0.1 0 (by decide)).2 (by decide)) (g_cwV X hiX2_takeRoom q510 q511 q512 q68 q513 ⟨(Nat.le_of_ble_eq_true rfl), (Nat.le_of_ble_eq_true rfl)⟩) (by decide) (tt_eR (r := 2) (by decide : 2 < 3)) rfl rfl hl.1 rfl (Nat.le_of_ble_eq_true rfl) dX6_ahead_47 ⟨(Nat.le_of_ble_eq_true rfl), (Nat.le_of_ble_eq_true rfl)⟩ (fun S9 H locs eS9 hw => ?_)
        refine lv_aload_n X.1 X.2.1 dX6_ahead_50 rfl (lv_at hl 0 rfl) ?_
        refine g_get (v := .ref (G.2.2 32)) X K hw (by decide) tt_eT rfl iT6 2 (by decide) q282 rfl dX6_ahead_51 ?_
        refine lv_iload_n X.1 X.2.1 dX6_ahead_54 rfl (lv_at hl 1 rfl) ?_
        refine c_callVI_s X K hw (k_X2_goDays l G S9 2 a1 (by decide) (by subst ez1 ez5 ez7 eS9; rw [tk_lo (by decide) (by decide)]; exact (hp0.1 0 (by decide)).2)) (g_cwV X hiX2_goDays q406 q407 q408 q68 q409 ⟨(Nat.le_of_ble_eq_true rfl), (Nat.le_of_ble_eq_true rfl)⟩) (by decide) (tt_eR (r := 2) (by decide : 2 < 3)) rfl rfl hl.1 rfl (Nat.le_of_ble_eq_true rfl) dX6_ahead_55 ⟨(Nat.le_of_ble_eq_true rfl), (Nat.le_of_ble_eq_true rfl)⟩ (fun z10 S11 H locs ez10 eS11 hw => ?_)
        refine lv_istore_n (lv' := [(3, .int z10), (0, .ref (G.2.2 61)), (1, .int a1), (2, .int a2)]) X.1 X.2.1 dX6_ahead_58 rfl hl (by decide) rfl (fun ls hl => ?_)
        refine lv_iload_n X.1 X.2.1 dX6_ahead_59 rfl (lv_at hl 3 rfl) ?_
        by_cases c12 : a2 = (0 : Int32)
        · refine lv_tableIn (tgt := 96) X.1 X.2.1 dX6_ahead_60 (by rw [c12]; decide) (by rw [c12]; decide) (by rw [c12]; rfl) (by decide) ?_
          refine lv_aload_n X.1 X.2.1 dX6_ahead_96 rfl (lv_at hl 1 rfl) ?_
          refine g_get (v := .ref (G.2.2 32)) X K hw (by decide) tt_eT rfl iT6 2 (by decide) q282 rfl dX6_ahead_97 ?_
          refine g_get (v := .int (S11 2 4)) X K hw (by decide) (tt_eR (r := 2) (by decide : 2 < 3)) rfl iT2 5 (by decide) q172 rfl dX6_ahead_100 ?_
          have hR : (S11 2 4, S11) = tgt := by
            rw [← hF]
            subst ez1 ez5 ez7 eS9 ez10 eS11
            simp only [f6_ahead, if_neg c2, if_neg c6, if_pos c8, if_pos c12]
          have hRR : S11 2 4 = tgt.1 := pr1 hR
          have hRS : S11 = tgt.2 := pr2 hR
          exact g_iret X hret hlk hw hRR hRS dX6_ahead_103
        by_cases c13 : a2 = (1 : Int32)
        · refine lv_tableIn (tgt := 104) X.1 X.2.1 dX6_ahead_60 (by rw [c13]; decide) (by rw [c13]; decide) (by rw [c13]; rfl) (by decide) ?_
          refine lv_aload_n X.1 X.2.1 dX6_ahead_104 rfl (lv_at hl 1 rfl) ?_
          refine g_get (v := .ref (G.2.2 32)) X K hw (by decide) tt_eT rfl iT6 2 (by decide) q282 rfl dX6_ahead_105 ?_
          refine g_get (v := .int (S11 2 9)) X K hw (by decide) (tt_eR (r := 2) (by decide : 2 < 3)) rfl iT2 10 (by decide) q183 rfl dX6_ahead_108 ?_
          refine lv_aload_n X.1 X.2.1 dX6_ahead_111 rfl (lv_at hl 1 rfl) ?_
          refine g_get (v := .ref (G.2.2 30)) X K hw (by decide) tt_eT rfl iT6 0 (by decide) q280 rfl dX6_ahead_112 ?_
          refine g_get (v := .int (S11 0 9)) X K hw (by decide) (tt_eR (r := 0) (by decide : 0 < 3)) rfl iT2 10 (by decide) q183 rfl dX6_ahead_115 ?_
          refine lv_isub X.1 X.2.1 dX6_ahead_118 ?_
          have hR : ((S11 2 9) - (S11 0 9), S11) = tgt := by
            rw [← hF]
            subst ez1 ez5 ez7 eS9 ez10 eS11
            simp only [f6_ahead, if_neg c2, if_neg c6, if_pos c8, if_neg c12, if_pos c13]
          have hRR : (S11 2 9) - (S11 0 9) = tgt.1 := pr1 hR
          have hRS : S11 = tgt.2 := pr2 hR
          exact g_iret X hret hlk hw hRR hRS dX6_ahead_119
        by_cases c14 : a2 = (2 : Int32)
        · refine lv_tableIn (tgt := 120) X.1 X.2.1 dX6_ahead_60 (by rw [c14]; decide) (by rw [c14]; decide) (by rw [c14]; rfl) (by decide) ?_
          refine lv_aload_n X.1 X.2.1 dX6_ahead_120 rfl (lv_at hl 1 rfl) ?_
          refine g_get (v := .ref (G.2.2 32)) X K hw (by decide) tt_eT rfl iT6 2 (by decide) q282 rfl dX6_ahead_121 ?_
          refine lv_iconst (v := (4 : Int32)) X.1 X.2.1 dX6_ahead_124 (by decide) ?_
          refine c_callVI_p X K hw (k_X2_sumOf l G S11 2 (4 : Int32) (by decide) (by subst ez1 ez5 ez7 eS9 ez10 eS11; rw [(fr_goDays _ _ _).sz, tk_lo (by decide) (by decide)]; exact (hp0.1 0 (by decide)).2)) (g_cwV X hiX2_sumOf q397 q393 q394 q68 q395 ⟨(Nat.le_of_ble_eq_true rfl), (Nat.le_of_ble_eq_true rfl)⟩) (by decide) (tt_eR (r := 2) (by decide : 2 < 3)) rfl rfl hl.1 rfl (Nat.le_of_ble_eq_true rfl) dX6_ahead_125 ⟨(Nat.le_of_ble_eq_true rfl), (Nat.le_of_ble_eq_true rfl)⟩ (fun z15 H locs ez15 hw => ?_)
          have hR : (z15, S11) = tgt := by
            rw [← hF]
            subst ez1 ez5 ez7 eS9 ez10 eS11 ez15
            simp only [f6_ahead, if_neg c2, if_neg c6, if_pos c8, if_neg c12, if_neg c13, if_pos c14]
          have hRR : z15 = tgt.1 := pr1 hR
          have hRS : S11 = tgt.2 := pr2 hR
          exact g_iret X hret hlk hw hRR hRS dX6_ahead_128
        by_cases c16 : a2 = (3 : Int32)
        · refine lv_tableIn (tgt := 129) X.1 X.2.1 dX6_ahead_60 (by rw [c16]; decide) (by rw [c16]; decide) (by rw [c16]; rfl) (by decide) ?_
          refine lv_aload_n X.1 X.2.1 dX6_ahead_129 rfl (lv_at hl 1 rfl) ?_
          refine g_get (v := .ref (G.2.2 32)) X K hw (by decide) tt_eT rfl iT6 2 (by decide) q282 rfl dX6_ahead_130 ?_
          refine g_get (v := .int (S11 2 8)) X K hw (by decide) (tt_eR (r := 2) (by decide : 2 < 3)) rfl iT2 9 (by decide) q181 rfl dX6_ahead_133 ?_
          refine lv_aload_n X.1 X.2.1 dX6_ahead_136 rfl (lv_at hl 1 rfl) ?_
          refine g_get (v := .ref (G.2.2 30)) X K hw (by decide) tt_eT rfl iT6 0 (by decide) q280 rfl dX6_ahead_137 ?_
          refine g_get (v := .int (S11 0 8)) X K hw (by decide) (tt_eR (r := 0) (by decide : 0 < 3)) rfl iT2 9 (by decide) q181 rfl dX6_ahead_140 ?_
          refine lv_isub X.1 X.2.1 dX6_ahead_143 ?_
          have hR : ((S11 2 8) - (S11 0 8), S11) = tgt := by
            rw [← hF]
            subst ez1 ez5 ez7 eS9 ez10 eS11
            simp only [f6_ahead, if_neg c2, if_neg c6, if_pos c8, if_neg c12, if_neg c13, if_neg c14, if_pos c16]
          have hRR : (S11 2 8) - (S11 0 8) = tgt.1 := pr1 hR
          have hRS : S11 = tgt.2 := pr2 hR
          exact g_iret X hret hlk hw hRR hRS dX6_ahead_144
        by_cases c17 : a2 = (4 : Int32)
        · refine lv_tableIn (tgt := 145) X.1 X.2.1 dX6_ahead_60 (by rw [c17]; decide) (by rw [c17]; decide) (by rw [c17]; rfl) (by decide) ?_
          refine lv_iload_n X.1 X.2.1 dX6_ahead_145 rfl (lv_at hl 0 rfl) ?_
          have hR : (z10, S11) = tgt := by
            rw [← hF]
            subst ez1 ez5 ez7 eS9 ez10 eS11
            simp only [f6_ahead, if_neg c2, if_neg c6, if_pos c8, if_neg c12, if_neg c13, if_neg c14, if_neg c16, if_pos c17]
          have hRR : z10 = tgt.1 := pr1 hR
          have hRS : S11 = tgt.2 := pr2 hR
          exact g_iret X hret hlk hw hRR hRS dX6_ahead_146
        refine lv_tableOut (tgt := 147) X.1 X.2.1 dX6_ahead_60 (by have := lv_neT (a := 0) c12 rfl; have := lv_neT (a := 1) c13 rfl; have := lv_neT (a := 2) c14 rfl; have := lv_neT (a := 3) c16 rfl; have := lv_neT (a := 4) c17 rfl; omega) (by decide) ?_
        refine lv_aload_n X.1 X.2.1 dX6_ahead_147 rfl (lv_at hl 1 rfl) ?_
        refine g_get (v := .ref (G.2.2 32)) X K hw (by decide) tt_eT rfl iT6 2 (by decide) q282 rfl dX6_ahead_148 ?_
        refine g_get (v := .int (S11 2 6)) X K hw (by decide) (tt_eR (r := 2) (by decide : 2 < 3)) rfl iT2 7 (by decide) q177 rfl dX6_ahead_151 ?_
        have hR : (S11 2 6, S11) = tgt := by
          rw [← hF]
          subst ez1 ez5 ez7 eS9 ez10 eS11
          simp only [f6_ahead, if_neg c2, if_neg c6, if_pos c8, if_neg c12, if_neg c13, if_neg c14, if_neg c16, if_neg c17]
        have hRR : S11 2 6 = tgt.1 := pr1 hR
        have hRS : S11 = tgt.2 := pr2 hR
        exact g_iret X hret hlk hw hRR hRS dX6_ahead_154
      · refine lv_aload_n X.1 X.2.1 dX6_ahead_33 rfl (lv_at hl 0 rfl) ?_
        refine lv_iconst (v := (4 : Int32)) X.1 X.2.1 dX6_ahead_34 (by decide) ?_
        refine c_callVI_s X K hw (k_X6_tell l G S (4 : Int32) (by unfold vp_in; decide)) (g_cwV X hiX6_tell q312 q314 q0 q67 q315 ⟨(Nat.le_of_ble_eq_true rfl), (Nat.le_of_ble_eq_true rfl)⟩) (by decide) tt_eT rfl rfl hl.1 rfl (Nat.le_of_ble_eq_true rfl) dX6_ahead_35 ⟨(Nat.le_of_ble_eq_true rfl), (Nat.le_of_ble_eq_true rfl)⟩ (fun z18 S19 H locs ez18 eS19 hw => ?_)
        have hR : (z18, S19) = tgt := by
          rw [← hF]
          subst ez1 ez5 ez7 ez18 eS19
          simp only [f6_ahead, if_neg c2, if_neg c6, if_neg c8]
        have hRR : z18 = tgt.1 := pr1 hR
        have hRS : S19 = tgt.2 := pr2 hR
        exact g_iret X hret hlk hw hRR hRS dX6_ahead_38
    · refine lv_aload_n X.1 X.2.1 dX6_ahead_19 rfl (lv_at hl 0 rfl) ?_
      refine lv_iconst (v := (0 : Int32)) X.1 X.2.1 dX6_ahead_20 (by decide) ?_
      refine c_callVI_s X K hw (k_X6_tell l G S (0 : Int32) (by unfold vp_in; decide)) (g_cwV X hiX6_tell q312 q314 q0 q67 q315 ⟨(Nat.le_of_ble_eq_true rfl), (Nat.le_of_ble_eq_true rfl)⟩) (by decide) tt_eT rfl rfl hl.1 rfl (Nat.le_of_ble_eq_true rfl) dX6_ahead_21 ⟨(Nat.le_of_ble_eq_true rfl), (Nat.le_of_ble_eq_true rfl)⟩ (fun z20 S21 H locs ez20 eS21 hw => ?_)
      have hR : (z20, S21) = tgt := by
        rw [← hF]
        subst ez1 ez5 ez20 eS21
        simp only [f6_ahead, if_neg c2, if_pos c6]
      have hRR : z20 = tgt.1 := pr1 hR
      have hRS : S21 = tgt.2 := pr2 hR
      exact g_iret X hret hlk hw hRR hRS dX6_ahead_24
set_option maxHeartbeats 4000000 in
set_option maxRecDepth 10000 in
theorem k_X6_lastBehindWeeks (l : Launch) (G : tt_G) (S : tt_St) (a1 : Int32) (a2 : Int32) (hp0 : ci S) : c_MI l G yX6_lastBehindWeeks (g_code yX6_lastBehindWeeks cX6_lastBehindWeeks 3 (some FieldType.int)) 6 148 [.ref (G.2.2 61), .int a1, .int a2] S ((f6_lastBehindWeeks S a1 a2).1) ((f6_lastBehindWeeks S a1 a2).2) := by
  generalize hF : f6_lastBehindWeeks S a1 a2 = tgt
  refine g_begin rfl (Nat.le_of_ble_eq_true rfl) _ (fun p e s m below meth c ls X hret hlk hB hl => ?_)
  obtain ⟨hP0, K⟩ := hB
  have hw : c_W G S s s.heap [] := ⟨hP0, va_S.rf⟩
  have X : CallFix p m c cX6_lastBehindWeeks 3 s ([.ref (G.2.2 61), .int a1, .int a2] : List Value).toArray tt_T "TrustTin" := X
  have hl : lv_has ls 3 [(0, .ref (G.2.2 61)), (1, .int a1), (2, .int a2)] := hl
  refine lv_aload_n X.1 X.2.1 dX6_lastBehindWeeks_0 rfl (lv_at hl 0 rfl) ?_
  refine g_get (v := .ref (G.2.2 32)) X K hw (by decide) tt_eT rfl iT6 2 (by decide) q282 rfl dX6_lastBehindWeeks_1 ?_
  refine lv_aload_n X.1 X.2.1 dX6_lastBehindWeeks_4 rfl (lv_at hl 0 rfl) ?_
  refine g_get (v := .ref (G.2.2 30)) X K hw (by decide) tt_eT rfl iT6 0 (by decide) q280 rfl dX6_lastBehindWeeks_5 ?_
  refine c_callVV_s X K hw (k_X2_takeRoom l G S 2 0 (by decide) (by decide) (hp0.1 0 (by decide)).2 (by decide)) (g_cwV X hiX2_takeRoom q510 q511 q512 q68 q513 ⟨(Nat.le_of_ble_eq_true rfl), (Nat.le_of_ble_eq_true rfl)⟩) (by decide) (tt_eR (r := 2) (by decide : 2 < 3)) rfl rfl hl.1 rfl (Nat.le_of_ble_eq_true rfl) dX6_lastBehindWeeks_8 ⟨(Nat.le_of_ble_eq_true rfl), (Nat.le_of_ble_eq_true rfl)⟩ (fun S1 H locs eS1 hw => ?_)
  refine lv_aload_n X.1 X.2.1 dX6_lastBehindWeeks_11 rfl (lv_at hl 0 rfl) ?_
  refine g_get (v := .ref (G.2.2 32)) X K hw (by decide) tt_eT rfl iT6 2 (by decide) q282 rfl dX6_lastBehindWeeks_12 ?_
  refine c_callVV_s X K hw (k_X2_beginMonday l G S1 2 (by decide) (by subst eS1; rw [tk_lo (by decide) (by decide)]; exact (hp0.1 0 (by decide)).2)) (g_cwV X hiX2_beginMonday q526 q527 q528 q68 q529 ⟨(Nat.le_of_ble_eq_true rfl), (Nat.le_of_ble_eq_true rfl)⟩) (by decide) (tt_eR (r := 2) (by decide : 2 < 3)) rfl rfl hl.1 rfl (Nat.le_of_ble_eq_true rfl) dX6_lastBehindWeeks_15 ⟨(Nat.le_of_ble_eq_true rfl), (Nat.le_of_ble_eq_true rfl)⟩ (fun S2 H locs eS2 hw => ?_)
  refine lv_aload_n X.1 X.2.1 dX6_lastBehindWeeks_18 rfl (lv_at hl 0 rfl) ?_
  refine g_get (v := .ref (G.2.2 32)) X K hw (by decide) tt_eT rfl iT6 2 (by decide) q282 rfl dX6_lastBehindWeeks_19 ?_
  refine lv_iload_n X.1 X.2.1 dX6_lastBehindWeeks_22 rfl (lv_at hl 1 rfl) ?_
  refine g_put (S' := tt_up S2 2 6 a1) X K (c_ap K) hw (by decide) (tt_eR (r := 2) (by decide : 2 < 3)) rfl iT2 tyX2_ok nmX2 7 (by decide) q177 rfl rfl rfl (Nat.le_of_ble_eq_true rfl) (tt_sR (r := 2) (k := 6) (by decide : 2 < 3) (by decide)) dX6_lastBehindWeeks_23 (fun S3 H locs eS3 hw => ?_)
  refine lv_aload_n X.1 X.2.1 dX6_lastBehindWeeks_26 rfl (lv_at hl 0 rfl) ?_
  refine g_get (v := .ref (G.2.2 32)) X K hw (by decide) tt_eT rfl iT6 2 (by decide) q282 rfl dX6_lastBehindWeeks_27 ?_
  refine lv_iload_n X.1 X.2.1 dX6_lastBehindWeeks_30 rfl (lv_at hl 2 rfl) ?_
  refine lv_iconst (v := (5 : Int32)) X.1 X.2.1 dX6_lastBehindWeeks_31 (by decide) ?_
  refine lv_imul X.1 X.2.1 dX6_lastBehindWeeks_32 ?_
  refine c_callVI_s X K hw (k_X2_goDays l G S3 2 (a2 * (5 : Int32)) (by decide) (by subst eS1 eS2 eS3; rw [tt_up_ne (by omega), (fr_beginMonday _ _).sz, tk_lo (by decide) (by decide)]; exact (hp0.1 0 (by decide)).2)) (g_cwV X hiX2_goDays q406 q407 q408 q68 q409 ⟨(Nat.le_of_ble_eq_true rfl), (Nat.le_of_ble_eq_true rfl)⟩) (by decide) (tt_eR (r := 2) (by decide : 2 < 3)) rfl rfl hl.1 rfl (Nat.le_of_ble_eq_true rfl) dX6_lastBehindWeeks_33 ⟨(Nat.le_of_ble_eq_true rfl), (Nat.le_of_ble_eq_true rfl)⟩ (fun z4 S5 H locs ez4 eS5 hw => ?_)
  refine lv_pop X.1 X.2.1 dX6_lastBehindWeeks_36 rfl ?_
  refine lv_aload_n X.1 X.2.1 dX6_lastBehindWeeks_37 rfl (lv_at hl 0 rfl) ?_
  refine g_get (v := .ref (G.2.2 32)) X K hw (by decide) tt_eT rfl iT6 2 (by decide) q282 rfl dX6_lastBehindWeeks_38 ?_
  refine g_get (v := .int (S5 2 6)) X K hw (by decide) (tt_eR (r := 2) (by decide : 2 < 3)) rfl iT2 7 (by decide) q177 rfl dX6_lastBehindWeeks_41 ?_
  have hR : (S5 2 6, S5) = tgt := by
    rw [← hF]
    subst eS1 eS2 eS3 ez4 eS5
    simp only [f6_lastBehindWeeks]
  have hRR : S5 2 6 = tgt.1 := pr1 hR
  have hRS : S5 = tgt.2 := pr2 hR
  exact g_iret X hret hlk hw hRR hRS dX6_lastBehindWeeks_44
set_option maxHeartbeats 4000000 in
set_option maxRecDepth 10000 in
theorem k_X6_rests (l : Launch) (G : tt_G) (S : tt_St) (hp0 : ci S) : c_MI l G yX6_rests (g_code yX6_rests cX6_rests 3 (some FieldType.int)) 7 170 [.ref (G.2.2 61)] S ((f6_rests S).1) ((f6_rests S).2) := by
  generalize hF : f6_rests S = tgt
  refine g_begin rfl (Nat.le_of_ble_eq_true rfl) _ (fun p e s m below meth c ls X hret hlk hB hl => ?_)
  obtain ⟨hP0, K⟩ := hB
  have hw : c_W G S s s.heap [] := ⟨hP0, va_S.rf⟩
  have X : CallFix p m c cX6_rests 3 s ([.ref (G.2.2 61)] : List Value).toArray tt_T "TrustTin" := X
  have hl : lv_has ls 3 [(0, .ref (G.2.2 61))] := hl
  refine lv_aload_n X.1 X.2.1 dX6_rests_0 rfl (lv_at hl 0 rfl) ?_
  refine g_get (v := .ref (G.2.2 30)) X K hw (by decide) tt_eT rfl iT6 0 (by decide) q280 rfl dX6_rests_1 ?_
  refine g_get (v := .int (S 0 7)) X K hw (by decide) (tt_eR (r := 0) (by decide : 0 < 3)) rfl iT2 8 (by decide) q179 rfl dX6_rests_4 ?_
  refine lv_sipush (v := (9990 : Int32)) X.1 X.2.1 dX6_rests_7 (by decide) ?_
  refine lv_icmp_le (tgt := 19) X.1 X.2.1 dX6_rests_10 (by decide) (fun c1 => ?_) (fun c1 => ?_)
  · refine lv_iconst (v := (0 : Int32)) X.1 X.2.1 dX6_rests_19 (by decide) ?_
    refine lv_istore_n (lv' := [(1, .int (0 : Int32)), (0, .ref (G.2.2 61))]) X.1 X.2.1 dX6_rests_20 rfl hl (by decide) rfl (fun ls hl => ?_)
    refine lv_iconst (v := (0 : Int32)) X.1 X.2.1 dX6_rests_21 (by decide) ?_
    refine lv_istore_n (lv' := [(2, .int (0 : Int32)), (1, .int (0 : Int32)), (0, .ref (G.2.2 61))]) X.1 X.2.1 dX6_rests_22 rfl hl (by decide) rfl (fun ls hl => ?_)
    have j23 : ∀ (n : Nat) (S2 : tt_St) (y1_23 : Int32) (y2_23 : Int32) (H : Heap) (locs : List Loc) (ls : Array Slot), (ci S2 ∧ ¬ y2_23 < 0) → lp_nu (10 : Int32) y2_23 < n → f6_rests_L23 n S2 y1_23 y2_23 = tgt → c_W G S2 s H locs → lv_has ls 3 [(0, .ref (G.2.2 61)), (1, .int y1_23), (2, .int y2_23)] → W p l e (g_rm 7 170) s m ([.ref (G.2.2 61)] : List Value).toArray below meth c H locs 0 0 (MQ below (va_Qi (fun r T => r = tgt.1 ∧ T = tgt.2) (g_Post G 62 G.2.2 (tt_cell G)) (g_in 62 G.2.2)) ([.ref (G.2.2 61)] : List Value).toArray s 0 0 (g_in 62 G.2.2)) (F0 m 23 ls []) := by
      intro n
      induction n with
      | zero => intro S2 y1_23 y2_23 H locs ls hI hm; exact absurd hm (Nat.not_lt_zero _)
      | succ n ih =>
        intro S2 y1_23 y2_23 H locs ls hI hm hF hw hl
        refine lv_iload_n X.1 X.2.1 dX6_rests_23 rfl (lv_at hl 2 rfl) ?_
        refine lv_bipush (v := (10 : Int32)) X.1 X.2.1 dX6_rests_24 (by decide) ?_
        refine lv_icmp_gt (tgt := 57) X.1 X.2.1 dX6_rests_26 (by decide) (fun c3 => ?_) (fun c3 => ?_)
        · refine lv_iload_n X.1 X.2.1 dX6_rests_57 rfl (lv_at hl 1 rfl) ?_
          have hR : (y1_23, S2) = tgt := by
            rw [← hF]
            simp only [f6_rests_L23, if_pos c3]
          have hRR : y1_23 = tgt.1 := pr1 hR
          have hRS : S2 = tgt.2 := pr2 hR
          exact g_iret X hret hlk hw hRR hRS dX6_rests_58
        · refine lv_aload_n X.1 X.2.1 dX6_rests_29 rfl (lv_at hl 0 rfl) ?_
          refine lv_bipush (v := (10 : Int32)) X.1 X.2.1 dX6_rests_30 (by decide) ?_
          refine lv_iload_n X.1 X.2.1 dX6_rests_32 rfl (lv_at hl 2 rfl) ?_
          refine lv_imul X.1 X.2.1 dX6_rests_33 ?_
          refine lv_iconst (v := (1 : Int32)) X.1 X.2.1 dX6_rests_34 (by decide) ?_
          refine c_callVI_s X K hw (k_X6_lastBehindWeeks l G S2 ((10 : Int32) * y2_23) (1 : Int32) (hI.1)) (g_cwV X hiX6_lastBehindWeeks q522 q524 q14 q67 q525 ⟨(Nat.le_of_ble_eq_true rfl), (Nat.le_of_ble_eq_true rfl)⟩) (by decide) tt_eT rfl rfl hl.1 rfl (Nat.le_of_ble_eq_true rfl) dX6_rests_35 ⟨(Nat.le_of_ble_eq_true rfl), (Nat.le_of_ble_eq_true rfl)⟩ (fun z4 S5 H locs ez4 eS5 hw => ?_)
          refine lv_bipush (v := (10 : Int32)) X.1 X.2.1 dX6_rests_38 (by decide) ?_
          refine lv_iload_n X.1 X.2.1 dX6_rests_40 rfl (lv_at hl 2 rfl) ?_
          refine lv_imul X.1 X.2.1 dX6_rests_41 ?_
          refine lv_icmp_ne (tgt := 51) X.1 X.2.1 dX6_rests_42 (by decide) (fun c6 => ?_) (fun c6 => ?_)
          · obtain ⟨x7, ex7⟩ : ∃ y : Int32, y = y2_23 + (1 : Int32) := ⟨_, rfl⟩
            refine lv_iinc (v := x7) (lv' := [(2, .int x7), (0, .ref (G.2.2 61)), (1, .int y1_23)]) X.1 X.2.1 dX6_rests_51 hl (k := 2) rfl (by rw [ex7]; rfl) (by decide) rfl (fun ls hl => ?_)
            refine lv_goto (tgt := 23) X.1 X.2.1 dX6_rests_54 (by decide) ?_
            have hF2 : f6_rests_L23 n S5 y1_23 x7 = tgt := by
              rw [← hF]
              subst ez4 eS5 ex7
              simp only [f6_rests_L23, if_neg c3, if_neg c6]
            exact ih S5 y1_23 x7 _ _ ls (⟨by subst ez4 eS5 ex7; exact ci_tf hI.1 (tf_last _ _ _), by rw [ex7]; exact lp_nnn (by decide) hI.2 c3⟩) (by rw [ex7]; exact lp_ndec (by decide) c3 hm) hF2 hw (lv_sub hl [1, 2, 0] rfl)
          · refine lv_iload_n X.1 X.2.1 dX6_rests_45 rfl (lv_at hl 1 rfl) ?_
            refine lv_iconst (v := (1 : Int32)) X.1 X.2.1 dX6_rests_46 (by decide) ?_
            refine lv_iload_n X.1 X.2.1 dX6_rests_47 rfl (lv_at hl 2 rfl) ?_
            refine lv_ishl X.1 X.2.1 dX6_rests_48 ?_
            refine lv_ior X.1 X.2.1 dX6_rests_49 ?_
            refine lv_topi (fun x8 ex8 => ?_)
            refine lv_istore_n (lv' := [(1, .int x8), (0, .ref (G.2.2 61)), (2, .int y2_23)]) X.1 X.2.1 dX6_rests_50 rfl hl (by decide) rfl (fun ls hl => ?_)
            obtain ⟨x9, ex9⟩ : ∃ y : Int32, y = y2_23 + (1 : Int32) := ⟨_, rfl⟩
            refine lv_iinc (v := x9) (lv' := [(2, .int x9), (1, .int x8), (0, .ref (G.2.2 61))]) X.1 X.2.1 dX6_rests_51 hl (k := 2) rfl (by rw [ex9]; rfl) (by decide) rfl (fun ls hl => ?_)
            refine lv_goto (tgt := 23) X.1 X.2.1 dX6_rests_54 (by decide) ?_
            have hF2 : f6_rests_L23 n S5 x8 x9 = tgt := by
              rw [← hF]
              subst ez4 eS5 ex8 ex9
              simp only [f6_rests_L23, if_neg c3, if_pos c6]
            exact ih S5 x8 x9 _ _ ls (⟨by subst ez4 eS5 ex8 ex9; exact ci_tf hI.1 (tf_last _ _ _), by rw [ex9]; exact lp_nnn (by decide) hI.2 c3⟩) (by rw [ex9]; exact lp_ndec (by decide) c3 hm) hF2 hw (lv_sub hl [2, 1, 0] rfl)
    have hF2 : f6_rests_L23 (lp_nu (10 : Int32) 0 + 1) S (0 : Int32) (0 : Int32) = tgt := by
      rw [← hF]
      simp only [f6_rests, if_pos c1]
    exact j23 (lp_nu (10 : Int32) 0 + 1) S (0 : Int32) (0 : Int32) _ _ ls (⟨hp0, by decide⟩) (Nat.lt_succ_self _) hF2 hw (lv_sub hl [2, 1, 0] rfl)
  · refine lv_aload_n X.1 X.2.1 dX6_rests_13 rfl (lv_at hl 0 rfl) ?_
    refine lv_iconst (v := (4 : Int32)) X.1 X.2.1 dX6_rests_14 (by decide) ?_
    refine c_callVI_s X K hw (k_X6_tell l G S (4 : Int32) (by unfold vp_in; decide)) (g_cwV X hiX6_tell q312 q314 q0 q67 q315 ⟨(Nat.le_of_ble_eq_true rfl), (Nat.le_of_ble_eq_true rfl)⟩) (by decide) tt_eT rfl rfl hl.1 rfl (Nat.le_of_ble_eq_true rfl) dX6_rests_15 ⟨(Nat.le_of_ble_eq_true rfl), (Nat.le_of_ble_eq_true rfl)⟩ (fun z10 S11 H locs ez10 eS11 hw => ?_)
    have hR : (z10, S11) = tgt := by
      rw [← hF]
      subst ez10 eS11
      simp only [f6_rests, if_neg c1]
    have hRR : z10 = tgt.1 := pr1 hR
    have hRS : S11 = tgt.2 := pr2 hR
    exact g_iret X hret hlk hw hRR hRS dX6_rests_18
set_option maxHeartbeats 4000000 in
set_option maxRecDepth 10000 in
theorem k_X6_tips (l : Launch) (G : tt_G) (S : tt_St) (a1 : Int32) (a2 : Int32) (hp0 : ci S) : c_MI l G yX6_tips (g_code yX6_tips cX6_tips 3 (some FieldType.int)) 7 170 [.ref (G.2.2 61), .int a1, .int a2] S ((f6_tips S a1 a2).1) ((f6_tips S a1 a2).2) := by
  generalize hF : f6_tips S a1 a2 = tgt
  refine g_begin rfl (Nat.le_of_ble_eq_true rfl) _ (fun p e s m below meth c ls X hret hlk hB hl => ?_)
  obtain ⟨hP0, K⟩ := hB
  have hw : c_W G S s s.heap [] := ⟨hP0, va_S.rf⟩
  have X : CallFix p m c cX6_tips 3 s ([.ref (G.2.2 61), .int a1, .int a2] : List Value).toArray tt_T "TrustTin" := X
  have hl : lv_has ls 3 [(0, .ref (G.2.2 61)), (1, .int a1), (2, .int a2)] := hl
  refine lv_iload_n X.1 X.2.1 dX6_tips_0 rfl (lv_at hl 1 rfl) ?_
  refine lv_iconst (v := (0 : Int32)) X.1 X.2.1 dX6_tips_1 (by decide) ?_
  refine lv_sipush (v := (999 : Int32)) X.1 X.2.1 dX6_tips_2 (by decide) ?_
  refine c_callSI_p X K hw (k_X6_within l G S a1 (0 : Int32) (999 : Int32)) (g_cwS X hiX6_within q309 q310 q67 q311 ⟨(Nat.le_of_ble_eq_true rfl), (Nat.le_of_ble_eq_true rfl)⟩) rfl hl.1 rfl (Nat.le_of_ble_eq_true rfl) dX6_tips_5 ⟨(Nat.le_of_ble_eq_true rfl), (Nat.le_of_ble_eq_true rfl)⟩ (fun z1 H locs ez1 hw => ?_)
  refine lv_if_eq (tgt := 21) X.1 X.2.1 dX6_tips_8 (by decide) (fun c2 => ?_) (fun c2 => ?_)
  · refine lv_aload_n X.1 X.2.1 dX6_tips_21 rfl (lv_at hl 0 rfl) ?_
    refine lv_iconst (v := (0 : Int32)) X.1 X.2.1 dX6_tips_22 (by decide) ?_
    refine c_callVI_s X K hw (k_X6_tell l G S (0 : Int32) (by unfold vp_in; decide)) (g_cwV X hiX6_tell q312 q314 q0 q67 q315 ⟨(Nat.le_of_ble_eq_true rfl), (Nat.le_of_ble_eq_true rfl)⟩) (by decide) tt_eT rfl rfl hl.1 rfl (Nat.le_of_ble_eq_true rfl) dX6_tips_23 ⟨(Nat.le_of_ble_eq_true rfl), (Nat.le_of_ble_eq_true rfl)⟩ (fun z3 S4 H locs ez3 eS4 hw => ?_)
    have hR : (z3, S4) = tgt := by
      rw [← hF]
      subst ez1 ez3 eS4
      simp only [f6_tips, if_pos c2]
    have hRR : z3 = tgt.1 := pr1 hR
    have hRS : S4 = tgt.2 := pr2 hR
    exact g_iret X hret hlk hw hRR hRS dX6_tips_26
  · refine lv_iload_n X.1 X.2.1 dX6_tips_11 rfl (lv_at hl 2 rfl) ?_
    refine lv_iconst (v := (1 : Int32)) X.1 X.2.1 dX6_tips_12 (by decide) ?_
    refine lv_bipush (v := (10 : Int32)) X.1 X.2.1 dX6_tips_13 (by decide) ?_
    refine c_callSI_p X K hw (k_X6_within l G S a2 (1 : Int32) (10 : Int32)) (g_cwS X hiX6_within q309 q310 q67 q311 ⟨(Nat.le_of_ble_eq_true rfl), (Nat.le_of_ble_eq_true rfl)⟩) rfl hl.1 rfl (Nat.le_of_ble_eq_true rfl) dX6_tips_15 ⟨(Nat.le_of_ble_eq_true rfl), (Nat.le_of_ble_eq_true rfl)⟩ (fun z5 H locs ez5 hw => ?_)
    refine lv_if_ne (tgt := 27) X.1 X.2.1 dX6_tips_18 (by decide) (fun c6 => ?_) (fun c6 => ?_)
    · refine lv_aload_n X.1 X.2.1 dX6_tips_27 rfl (lv_at hl 0 rfl) ?_
      refine g_get (v := .ref (G.2.2 30)) X K hw (by decide) tt_eT rfl iT6 0 (by decide) q280 rfl dX6_tips_28 ?_
      refine g_get (v := .int (S 0 7)) X K hw (by decide) (tt_eR (r := 0) (by decide : 0 < 3)) rfl iT2 8 (by decide) q179 rfl dX6_tips_31 ?_
      refine lv_sipush (v := (9940 : Int32)) X.1 X.2.1 dX6_tips_34 (by decide) ?_
      refine lv_icmp_le (tgt := 46) X.1 X.2.1 dX6_tips_37 (by decide) (fun c7 => ?_) (fun c7 => ?_)
      · refine lv_aload_n X.1 X.2.1 dX6_tips_46 rfl (lv_at hl 0 rfl) ?_
        refine lv_iload_n X.1 X.2.1 dX6_tips_47 rfl (lv_at hl 1 rfl) ?_
        refine lv_iload_n X.1 X.2.1 dX6_tips_48 rfl (lv_at hl 2 rfl) ?_
        refine c_callVI_s X K hw (k_X6_lastBehindWeeks l G S a1 a2 hp0) (g_cwV X hiX6_lastBehindWeeks q522 q524 q14 q67 q525 ⟨(Nat.le_of_ble_eq_true rfl), (Nat.le_of_ble_eq_true rfl)⟩) (by decide) tt_eT rfl rfl hl.1 rfl (Nat.le_of_ble_eq_true rfl) dX6_tips_49 ⟨(Nat.le_of_ble_eq_true rfl), (Nat.le_of_ble_eq_true rfl)⟩ (fun z8 S9 H locs ez8 eS9 hw => ?_)
        have hR : (z8, S9) = tgt := by
          rw [← hF]
          subst ez1 ez5 ez8 eS9
          simp only [f6_tips, if_neg c2, if_neg c6, if_pos c7]
        have hRR : z8 = tgt.1 := pr1 hR
        have hRS : S9 = tgt.2 := pr2 hR
        exact g_iret X hret hlk hw hRR hRS dX6_tips_52
      · refine lv_aload_n X.1 X.2.1 dX6_tips_40 rfl (lv_at hl 0 rfl) ?_
        refine lv_iconst (v := (4 : Int32)) X.1 X.2.1 dX6_tips_41 (by decide) ?_
        refine c_callVI_s X K hw (k_X6_tell l G S (4 : Int32) (by unfold vp_in; decide)) (g_cwV X hiX6_tell q312 q314 q0 q67 q315 ⟨(Nat.le_of_ble_eq_true rfl), (Nat.le_of_ble_eq_true rfl)⟩) (by decide) tt_eT rfl rfl hl.1 rfl (Nat.le_of_ble_eq_true rfl) dX6_tips_42 ⟨(Nat.le_of_ble_eq_true rfl), (Nat.le_of_ble_eq_true rfl)⟩ (fun z10 S11 H locs ez10 eS11 hw => ?_)
        have hR : (z10, S11) = tgt := by
          rw [← hF]
          subst ez1 ez5 ez10 eS11
          simp only [f6_tips, if_neg c2, if_neg c6, if_neg c7]
        have hRR : z10 = tgt.1 := pr1 hR
        have hRS : S11 = tgt.2 := pr2 hR
        exact g_iret X hret hlk hw hRR hRS dX6_tips_45
    · refine lv_aload_n X.1 X.2.1 dX6_tips_21 rfl (lv_at hl 0 rfl) ?_
      refine lv_iconst (v := (0 : Int32)) X.1 X.2.1 dX6_tips_22 (by decide) ?_
      refine c_callVI_s X K hw (k_X6_tell l G S (0 : Int32) (by unfold vp_in; decide)) (g_cwV X hiX6_tell q312 q314 q0 q67 q315 ⟨(Nat.le_of_ble_eq_true rfl), (Nat.le_of_ble_eq_true rfl)⟩) (by decide) tt_eT rfl rfl hl.1 rfl (Nat.le_of_ble_eq_true rfl) dX6_tips_23 ⟨(Nat.le_of_ble_eq_true rfl), (Nat.le_of_ble_eq_true rfl)⟩ (fun z12 S13 H locs ez12 eS13 hw => ?_)
      have hR : (z12, S13) = tgt := by
        rw [← hF]
        subst ez1 ez5 ez12 eS13
        simp only [f6_tips, if_neg c2, if_pos c6]
      have hRR : z12 = tgt.1 := pr1 hR
      have hRS : S13 = tgt.2 := pr2 hR
      exact g_iret X hret hlk hw hRR hRS dX6_tips_26
set_option maxHeartbeats 4000000 in
set_option maxRecDepth 10000 in
theorem k_X6_best (l : Launch) (G : tt_G) (S : tt_St) (a1 : Int32) (hp0 : ci S) : c_MI l G yX6_best (g_code yX6_best cX6_best 6 (some FieldType.int)) 6 148 [.ref (G.2.2 61), .int a1] S ((f6_best S a1).1) ((f6_best S a1).2) := by
  generalize hF : f6_best S a1 = tgt
  refine g_begin rfl (Nat.le_of_ble_eq_true rfl) _ (fun p e s m below meth c ls X hret hlk hB hl => ?_)
  obtain ⟨hP0, K⟩ := hB
  have hw : c_W G S s s.heap [] := ⟨hP0, va_S.rf⟩
  have X : CallFix p m c cX6_best 6 s ([.ref (G.2.2 61), .int a1] : List Value).toArray tt_T "TrustTin" := X
  have hl : lv_has ls 6 [(0, .ref (G.2.2 61)), (1, .int a1)] := hl
  refine lv_iload_n X.1 X.2.1 dX6_best_0 rfl (lv_at hl 1 rfl) ?_
  refine lv_iconst (v := (1 : Int32)) X.1 X.2.1 dX6_best_1 (by decide) ?_
  refine lv_bipush (v := (20 : Int32)) X.1 X.2.1 dX6_best_2 (by decide) ?_
  refine c_callSI_p X K hw (k_X6_within l G S a1 (1 : Int32) (20 : Int32)) (g_cwS X hiX6_within q309 q310 q67 q311 ⟨(Nat.le_of_ble_eq_true rfl), (Nat.le_of_ble_eq_true rfl)⟩) rfl hl.1 rfl (Nat.le_of_ble_eq_true rfl) dX6_best_4 ⟨(Nat.le_of_ble_eq_true rfl), (Nat.le_of_ble_eq_true rfl)⟩ (fun z1 H locs ez1 hw => ?_)
  refine lv_if_ne (tgt := 16) X.1 X.2.1 dX6_best_7 (by decide) (fun c2 => ?_) (fun c2 => ?_)
  · refine lv_aload_n X.1 X.2.1 dX6_best_16 rfl (lv_at hl 0 rfl) ?_
    refine lv_iload_n X.1 X.2.1 dX6_best_17 rfl (lv_at hl 1 rfl) ?_
    refine c_callVI_p X K hw (k_X6_isTooLate l G S a1) (g_cwV X hiX6_isTooLate q402 q404 q5 q67 q405 ⟨(Nat.le_of_ble_eq_true rfl), (Nat.le_of_ble_eq_true rfl)⟩) (by decide) tt_eT rfl rfl hl.1 rfl (Nat.le_of_ble_eq_true rfl) dX6_best_18 ⟨(Nat.le_of_ble_eq_true rfl), (Nat.le_of_ble_eq_true rfl)⟩ (fun z3 H locs ez3 hw => ?_)
    refine lv_if_eq (tgt := 30) X.1 X.2.1 dX6_best_21 (by decide) (fun c4 => ?_) (fun c4 => ?_)
    · refine lv_iconst (v := (0 : Int32)) X.1 X.2.1 dX6_best_30 (by decide) ?_
      refine lv_istore_n (lv' := [(2, .int (0 : Int32)), (0, .ref (G.2.2 61)), (1, .int a1)]) X.1 X.2.1 dX6_best_31 rfl hl (by decide) rfl (fun ls hl => ?_)
      refine lv_iconst (v := (-1 : Int32)) X.1 X.2.1 dX6_best_32 (by decide) ?_
      refine lv_istore_n (lv' := [(3, .int (-1 : Int32)), (2, .int (0 : Int32)), (0, .ref (G.2.2 61)), (1, .int a1)]) X.1 X.2.1 dX6_best_33 rfl hl (by decide) rfl (fun ls hl => ?_)
      refine lv_iconst (v := (0 : Int32)) X.1 X.2.1 dX6_best_34 (by decide) ?_
      refine lv_istore (lv' := [(4, .int (0 : Int32)), (3, .int (-1 : Int32)), (2, .int (0 : Int32)), (0, .ref (G.2.2 61)), (1, .int a1)]) X.1 X.2.1 dX6_best_35 hl (by decide) rfl (fun ls hl => ?_)
      have j37 : ∀ (n : Nat) (S5 : tt_St) (y2_37 : Int32) (y3_37 : Int32) (y4_37 : Int32) (H : Heap) (locs : List Loc) (ls : Array Slot), (ci S5 ∧ ¬ y4_37 < 0) → lp_nu (99 : Int32) y4_37 < n → f6_best_L37 a1 n S5 y2_37 y3_37 y4_37 = tgt → c_W G S5 s H locs → lv_has ls 6 [(0, .ref (G.2.2 61)), (1, .int a1), (2, .int y2_37), (3, .int y3_37), (4, .int y4_37)] → W p l e (g_rm 6 148) s m ([.ref (G.2.2 61), .int a1] : List Value).toArray below meth c H locs 0 0 (MQ below (va_Qi (fun r T => r = tgt.1 ∧ T = tgt.2) (g_Post G 62 G.2.2 (tt_cell G)) (g_in 62 G.2.2)) ([.ref (G.2.2 61), .int a1] : List Value).toArray s 0 0 (g_in 62 G.2.2)) (F0 m 37 ls []) := by
        intro n
        induction n with
        | zero => intro S5 y2_37 y3_37 y4_37 H locs ls hI hm; exact absurd hm (Nat.not_lt_zero _)
        | succ n ih =>
          intro S5 y2_37 y3_37 y4_37 H locs ls hI hm hF hw hl
          refine lv_iload X.1 X.2.1 dX6_best_37 (lv_at hl 4 rfl) ?_
          refine lv_bipush (v := (99 : Int32)) X.1 X.2.1 dX6_best_39 (by decide) ?_
          refine lv_icmp_gt (tgt := 92) X.1 X.2.1 dX6_best_41 (by decide) (fun c6 => ?_) (fun c6 => ?_)
          · refine lv_iload_n X.1 X.2.1 dX6_best_92 rfl (lv_at hl 2 rfl) ?_
            have hR : (y2_37, S5) = tgt := by
              rw [← hF]
              simp only [f6_best_L37, if_pos c6]
            have hRR : y2_37 = tgt.1 := pr1 hR
            have hRS : S5 = tgt.2 := pr2 hR
            exact g_iret X hret hlk hw hRR hRS dX6_best_93
          · refine lv_aload_n X.1 X.2.1 dX6_best_44 rfl (lv_at hl 0 rfl) ?_
            refine g_get (v := .ref (G.2.2 32)) X K hw (by decide) tt_eT rfl iT6 2 (by decide) q282 rfl dX6_best_45 ?_
            refine lv_aload_n X.1 X.2.1 dX6_best_48 rfl (lv_at hl 0 rfl) ?_
            refine g_get (v := .ref (G.2.2 30)) X K hw (by decide) tt_eT rfl iT6 0 (by decide) q280 rfl dX6_best_49 ?_
            refine c_callVV_s X K hw (k_X2_takeRoom l G S5 2 0 (by decide) (by decide) ((hI.1.1 0 (by decide)).2) (by decide)) (g_cwV X hiX2_takeRoom q510 q511 q512 q68 q513 ⟨(Nat.le_of_ble_eq_true rfl), (Nat.le_of_ble_eq_true rfl)⟩) (by decide) (tt_eR (r := 2) (by decide : 2 < 3)) rfl rfl hl.1 rfl (Nat.le_of_ble_eq_true rfl) dX6_best_52 ⟨(Nat.le_of_ble_eq_true rfl), (Nat.le_of_ble_eq_true rfl)⟩ (fun S7 H locs eS7 hw => ?_)
            refine lv_aload_n X.1 X.2.1 dX6_best_55 rfl (lv_at hl 0 rfl) ?_
            refine g_get (v := .ref (G.2.2 32)) X K hw (by decide) tt_eT rfl iT6 2 (by decide) q282 rfl dX6_best_56 ?_
            refine lv_iload X.1 X.2.1 dX6_best_59 (lv_at hl 4 rfl) ?_
            refine g_put (S' := tt_up S7 2 1 y4_37) X K (c_ap K) hw (by decide) (tt_eR (r := 2) (by decide : 2 < 3)) rfl iT2 tyX2_ok nmX2 2 (by decide) q166 rfl rfl rfl (Nat.le_of_ble_eq_true rfl) (tt_sR (r := 2) (k := 1) (by decide : 2 < 3) (by decide)) dX6_best_61 (fun S8 H locs eS8 hw => ?_)
            refine lv_aload_n X.1 X.2.1 dX6_best_64 rfl (lv_at hl 0 rfl) ?_
            refine g_get (v := .ref (G.2.2 32)) X K hw (by decide) tt_eT rfl iT6 2 (by decide) q282 rfl dX6_best_65 ?_
            refine lv_iload_n X.1 X.2.1 dX6_best_68 rfl (lv_at hl 1 rfl) ?_
            refine c_callVI_s X K hw (k_X2_goDays l G S8 2 a1 (by decide) (by subst eS7 eS8; rw [tt_up_ne (by omega), tk_lo (by decide) (by decide)]; exact (hI.1.1 0 (by decide)).2)) (g_cwV X hiX2_goDays q406 q407 q408 q68 q409 ⟨(Nat.le_of_ble_eq_true rfl), (Nat.le_of_ble_eq_true rfl)⟩) (by decide) (tt_eR (r := 2) (by decide : 2 < 3)) rfl rfl hl.1 rfl (Nat.le_of_ble_eq_true rfl) dX6_best_69 ⟨(Nat.le_of_ble_eq_true rfl), (Nat.le_of_ble_eq_true rfl)⟩ (fun z9 S10 H locs ez9 eS10 hw => ?_)
            refine lv_istore (lv' := [(5, .int z9), (0, .ref (G.2.2 61)), (1, .int a1), (2, .int y2_37), (3, .int y3_37), (4, .int y4_37)]) X.1 X.2.1 dX6_best_72 hl (by decide) rfl (fun ls hl => ?_)
            refine lv_iload X.1 X.2.1 dX6_best_74 (lv_at hl 0 rfl) ?_
            refine lv_iload_n X.1 X.2.1 dX6_best_76 rfl (lv_at hl 4 rfl) ?_
            refine lv_icmp_le (tgt := 86) X.1 X.2.1 dX6_best_77 (by decide) (fun c11 => ?_) (fun c11 => ?_)
            · obtain ⟨x12, ex12⟩ : ∃ y : Int32, y = y4_37 + (1 : Int32) := ⟨_, rfl⟩
              refine lv_iinc (v := x12) (lv' := [(4, .int x12), (5, .int z9), (0, .ref (G.2.2 61)), (1, .int a1), (2, .int y2_37), (3, .int y3_37)]) X.1 X.2.1 dX6_best_86 hl (k := 5) rfl (by rw [ex12]; rfl) (by decide) rfl (fun ls hl => ?_)
              refine lv_goto (tgt := 37) X.1 X.2.1 dX6_best_89 (by decide) ?_
              have hF2 : f6_best_L37 a1 n S10 y2_37 y3_37 x12 = tgt := by
                rw [← hF]
                subst eS7 eS8 ez9 eS10 ex12
                simp only [f6_best_L37, if_neg c6, if_pos c11]
              exact ih S10 y2_37 y3_37 x12 _ _ ls (⟨by subst eS7 eS8 ez9 eS10 ex12; exact ci_tf hI.1 (tf_tr (tf_tr (tf_take _ 0) (tf_up _ _)) (tf_go _ _)), by rw [ex12]; exact lp_nnn (by decide) hI.2 c6⟩) (by rw [ex12]; exact lp_ndec (by decide) c6 hm) hF2 hw (lv_sub hl [2, 3, 4, 5, 0] rfl)
            · refine lv_iload X.1 X.2.1 dX6_best_80 (lv_at hl 0 rfl) ?_
              refine lv_istore_n (lv' := [(3, .int z9), (5, .int z9), (0, .ref (G.2.2 61)), (1, .int a1), (2, .int y2_37), (4, .int y4_37)]) X.1 X.2.1 dX6_best_82 rfl hl (by decide) rfl (fun ls hl => ?_)
              refine lv_iload X.1 X.2.1 dX6_best_83 (lv_at hl 5 rfl) ?_
              refine lv_istore_n (lv' := [(2, .int y4_37), (3, .int z9), (5, .int z9), (0, .ref (G.2.2 61)), (1, .int a1), (4, .int y4_37)]) X.1 X.2.1 dX6_best_85 rfl hl (by decide) rfl (fun ls hl => ?_)
              obtain ⟨x13, ex13⟩ : ∃ y : Int32, y = y4_37 + (1 : Int32) := ⟨_, rfl⟩
              refine lv_iinc (v := x13) (lv' := [(4, .int x13), (2, .int y4_37), (3, .int z9), (5, .int z9), (0, .ref (G.2.2 61)), (1, .int a1)]) X.1 X.2.1 dX6_best_86 hl (k := 5) rfl (by rw [ex13]; rfl) (by decide) rfl (fun ls hl => ?_)
              refine lv_goto (tgt := 37) X.1 X.2.1 dX6_best_89 (by decide) ?_
              have hF2 : f6_best_L37 a1 n S10 y4_37 z9 x13 = tgt := by
                rw [← hF]
                subst eS7 eS8 ez9 eS10 ex13
                simp only [f6_best_L37, if_neg c6, if_neg c11]
              exact ih S10 y4_37 z9 x13 _ _ ls (⟨by subst eS7 eS8 ez9 eS10 ex13; exact ci_tf hI.1 (tf_tr (tf_tr (tf_take _ 0) (tf_up _ _)) (tf_go _ _)), by rw [ex13]; exact lp_nnn (by decide) hI.2 c6⟩) (by rw [ex13]; exact lp_ndec (by decide) c6 hm) hF2 hw (lv_sub hl [4, 5, 1, 2, 0] rfl)
      have hF2 : f6_best_L37 a1 (lp_nu (99 : Int32) 0 + 1) S (0 : Int32) (-1 : Int32) (0 : Int32) = tgt := by
        rw [← hF]
        subst ez1 ez3
        simp only [f6_best, if_neg c2, if_pos c4]
      exact j37 (lp_nu (99 : Int32) 0 + 1) S (0 : Int32) (-1 : Int32) (0 : Int32) _ _ ls (⟨hp0, by decide⟩) (Nat.lt_succ_self _) hF2 hw (lv_sub hl [3, 4, 2, 1, 0] rfl)
    · refine lv_aload_n X.1 X.2.1 dX6_best_24 rfl (lv_at hl 0 rfl) ?_
      refine lv_iconst (v := (4 : Int32)) X.1 X.2.1 dX6_best_25 (by decide) ?_
      refine c_callVI_s X K hw (k_X6_tell l G S (4 : Int32) (by unfold vp_in; decide)) (g_cwV X hiX6_tell q312 q314 q0 q67 q315 ⟨(Nat.le_of_ble_eq_true rfl), (Nat.le_of_ble_eq_true rfl)⟩) (by decide) tt_eT rfl rfl hl.1 rfl (Nat.le_of_ble_eq_true rfl) dX6_best_26 ⟨(Nat.le_of_ble_eq_true rfl), (Nat.le_of_ble_eq_true rfl)⟩ (fun z14 S15 H locs ez14 eS15 hw => ?_)
      have hR : (z14, S15) = tgt := by
        rw [← hF]
        subst ez1 ez3 ez14 eS15
        simp only [f6_best, if_neg c2, if_neg c4]
      have hRR : z14 = tgt.1 := pr1 hR
      have hRS : S15 = tgt.2 := pr2 hR
      exact g_iret X hret hlk hw hRR hRS dX6_best_29
  · refine lv_aload_n X.1 X.2.1 dX6_best_10 rfl (lv_at hl 0 rfl) ?_
    refine lv_iconst (v := (0 : Int32)) X.1 X.2.1 dX6_best_11 (by decide) ?_
    refine c_callVI_s X K hw (k_X6_tell l G S (0 : Int32) (by unfold vp_in; decide)) (g_cwV X hiX6_tell q312 q314 q0 q67 q315 ⟨(Nat.le_of_ble_eq_true rfl), (Nat.le_of_ble_eq_true rfl)⟩) (by decide) tt_eT rfl rfl hl.1 rfl (Nat.le_of_ble_eq_true rfl) dX6_best_12 ⟨(Nat.le_of_ble_eq_true rfl), (Nat.le_of_ble_eq_true rfl)⟩ (fun z16 S17 H locs ez16 eS17 hw => ?_)
    have hR : (z16, S17) = tgt := by
      rw [← hF]
      subst ez1 ez16 eS17
      simp only [f6_best, if_pos c2]
    have hRR : z16 = tgt.1 := pr1 hR
    have hRS : S17 = tgt.2 := pr2 hR
    exact g_iret X hret hlk hw hRR hRS dX6_best_15
