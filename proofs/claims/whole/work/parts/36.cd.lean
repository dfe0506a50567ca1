set_option maxHeartbeats 4000000 in
set_option maxRecDepth 10000 in
theorem k_X6_told (l : Launch) (G : tt_G) (S : tt_St) (a1 : Int32) (a2 : Int32) (hp0 : ci S) : c_MI l G yX6_told (g_code yX6_told cX6_told 4 (some FieldType.int)) 6 148 [.ref (G.2.2 61), .int a1, .int a2] S ((f6_told S a1 a2).1) ((f6_told S a1 a2).2) := by
  generalize hF : f6_told S a1 a2 = tgt
  refine g_begin rfl (Nat.le_of_ble_eq_true rfl) _ (fun p e s m below meth c ls X hret hlk hB hl => ?_)
  obtain ⟨hP0, K⟩ := hB
  have hw : c_W G S s s.heap [] := ⟨hP0, va_S.rf⟩
  have X : CallFix p m c cX6_told 4 s ([.ref (G.2.2 61), .int a1, .int a2] : List Value).toArray tt_T "TrustTin" := X
  have hl : lv_has ls 4 [(0, .ref (G.2.2 61)), (1, .int a1), (2, .int a2)] := hl
  refine lv_aload_n X.1 X.2.1 dX6_told_0 rfl (lv_at hl 0 rfl) ?_
  refine lv_iload_n X.1 X.2.1 dX6_told_1 rfl (lv_at hl 1 rfl) ?_
  refine c_callVI_p X K hw (k_X6_isDrinker l G S a1) (g_cwV X hiX6_isDrinker q332 q334 q1 q67 q335 ⟨(Nat.le_of_ble_eq_true rfl), (Nat.le_of_ble_eq_true rfl)⟩) (by decide) tt_eT rfl rfl hl.1 rfl (Nat.le_of_ble_eq_true rfl) dX6_told_2 ⟨(Nat.le_of_ble_eq_true rfl), (Nat.le_of_ble_eq_true rfl)⟩ (fun z1 H locs ez1 hw => ?_)
  refine lv_if_eq (tgt := 18) X.1 X.2.1 dX6_told_5 (by decide) (fun c2 => ?_) (fun c2 => ?_)
  · refine lv_aload_n X.1 X.2.1 dX6_told_18 rfl (lv_at hl 0 rfl) ?_
    refine lv_iconst (v := (0 : Int32)) X.1 X.2.1 dX6_told_19 (by decide) ?_
    refine c_callVI_s X K hw (k_X6_tell l G S (0 : Int32) (by unfold vp_in; decide)) (g_cwV X hiX6_tell q312 q314 q0 q67 q315 ⟨(Nat.le_of_ble_eq_true rfl), (Nat.le_of_ble_eq_true rfl)⟩) (by decide) tt_eT rfl rfl hl.1 rfl (Nat.le_of_ble_eq_true rfl) dX6_told_20 ⟨(Nat.le_of_ble_eq_true rfl), (Nat.le_of_ble_eq_true rfl)⟩ (fun z3 S4 H locs ez3 eS4 hw => ?_)
    have hR : (z3, S4) = tgt := by
      rw [← hF]
      subst ez1 ez3 eS4
      simp only [f6_told, if_pos c2]
    have hRR : z3 = tgt.1 := pr1 hR
    have hRS : S4 = tgt.2 := pr2 hR
    exact g_iret X hret hlk hw hRR hRS dX6_told_23
  · refine lv_iload_n X.1 X.2.1 dX6_told_8 rfl (lv_at hl 2 rfl) ?_
    refine lv_iconst (v := (1 : Int32)) X.1 X.2.1 dX6_told_9 (by decide) ?_
    refine lv_bipush (v := (50 : Int32)) X.1 X.2.1 dX6_told_10 (by decide) ?_
    refine c_callSI_p X K hw (k_X6_within l G S a2 (1 : Int32) (50 : Int32)) (g_cwS X hiX6_within q309 q310 q67 q311 ⟨(Nat.le_of_ble_eq_true rfl), (Nat.le_of_ble_eq_true rfl)⟩) rfl hl.1 rfl (Nat.le_of_ble_eq_true rfl) dX6_told_12 ⟨(Nat.le_of_ble_eq_true rfl), (Nat.le_of_ble_eq_true rfl)⟩ (fun z5 H locs ez5 hw => ?_)
    refine lv_if_ne (tgt := 24) X.1 X.2.1 dX6_told_15 (by decide) (fun c6 => ?_) (fun c6 => ?_)
    · refine lv_aload_n X.1 X.2.1 dX6_told_24 rfl (lv_at hl 0 rfl) ?_
      refine lv_iload_n X.1 X.2.1 dX6_told_25 rfl (lv_at hl 2 rfl) ?_
      refine c_callVI_p X K hw (k_X6_isTooLate l G S a2) (g_cwV X hiX6_isTooLate q402 q404 q5 q67 q405 ⟨(Nat.le_of_ble_eq_true rfl), (Nat.le_of_ble_eq_true rfl)⟩) (by decide) tt_eT rfl rfl hl.1 rfl (Nat.le_of_ble_eq_true rfl) dX6_told_26 ⟨(Nat.le_of_ble_eq_true rfl), (Nat.le_of_ble_eq_true rfl)⟩ (fun z7 H locs ez7 hw => ?_)
      refine lv_if_eq (tgt := 38) X.1 X.2.1 dX6_told_29 (by decide) (fun c8 => ?_) (fun c8 => ?_)
      · refine lv_aload_n X.1 X.2.1 dX6_told_38 rfl (lv_at hl 0 rfl) ?_
        refine g_get (v := .ref (G.2.2 32)) X K hw (by decide) tt_eT rfl iT6 2 (by decide) q282 rfl dX6_told_39 ?_
        refine lv_aload_n X.1 X.2.1 dX6_told_42 rfl (lv_at hl 0 rfl) ?_
        refine g_get (v := .ref (G.2.2 30)) X K hw (by decide) tt_eT rfl iT6 0 (by decide) q280 rfl dX6_told_43 ?_
        refine c_callVV_s X K hw (k_X2_takeRoom l G S 2 0 (by decide) (by decide) (hp0.1 0 (by decide)).2 (by decide)) (g_cwV X hiX2_takeRoom q510 q511 q512 q68 q513 ⟨(Nat.le_of_ble_eq_true rfl), (Nat.le_of_ble_eq_true rfl)⟩) (by decide) (tt_eR (r := 2) (by decide : 2 < 3)) rfl rfl hl.1 rfl (Nat.le_of_ble_eq_true rfl) dX6_told_46 ⟨(Nat.le_of_ble_eq_true rfl), (Nat.le_of_ble_eq_true rfl)⟩ (fun S9 H locs eS9 hw => ?_)
        refine lv_aload_n X.1 X.2.1 dX6_told_49 rfl (lv_at hl 0 rfl) ?_
        refine g_get (v := .ref (G.2.2 32)) X K hw (by decide) tt_eT rfl iT6 2 (by decide) q282 rfl dX6_told_50 ?_
        refine lv_iload_n X.1 X.2.1 dX6_told_53 rfl (lv_at hl 2 rfl) ?_
        refine c_callVI_s X K hw (k_X2_goDays l G S9 2 a2 (by decide) (by subst ez1 ez5 ez7 eS9; rw [tk_lo (by decide) (by decide)]; exact (hp0.1 0 (by decide)).2)) (g_cwV X hiX2_goDays q406 q407 q408 q68 q409 ⟨(Nat.le_of_ble_eq_true rfl), (Nat.le_of_ble_eq_true rfl)⟩) (by decide) (tt_eR (r := 2) (by decide : 2 < 3)) rfl rfl hl.1 rfl (Nat.le_of_ble_eq_true rfl) dX6_told_54 ⟨(Nat.le_of_ble_eq_true rfl), (Nat.le_of_ble_eq_true rfl)⟩ (fun z10 S11 H locs ez10 eS11 hw => ?_)
        refine lv_istore_n (lv' := [(3, .int z10), (0, .ref (G.2.2 61)), (1, .int a1), (2, .int a2)]) X.1 X.2.1 dX6_told_57 rfl hl (by decide) rfl (fun ls hl => ?_)
        refine lv_aload_n X.1 X.2.1 dX6_told_58 rfl (lv_at hl 1 rfl) ?_
        refine g_get (v := .ref (G.2.2 32)) X K hw (by decide) tt_eT rfl iT6 2 (by decide) q282 rfl dX6_told_59 ?_
        refine lv_aload_n X.1 X.2.1 dX6_told_62 rfl (lv_at hl 1 rfl) ?_
        refine g_get (v := .ref (G.2.2 30)) X K hw (by decide) tt_eT rfl iT6 0 (by decide) q280 rfl dX6_told_63 ?_
        refine c_callVV_s X K hw (k_X2_takeRoom l G S11 2 0 (by decide) (by decide) (by rw [show S11 0 = S 0 from by subst ez1 ez5 ez7 eS9 ez10 eS11; exact (tf_tr (tf_take _ 0) (tf_go _ _)) 0 (by decide) (by decide) (by decide)]; exact (hp0.1 0 (by decide)).2) (by decide)) (g_cwV X hiX2_takeRoom q510 q511 q512 q68 q513 ⟨(Nat.le_of_ble_eq_true rfl), (Nat.le_of_ble_eq_true rfl)⟩) (by decide) (tt_eR (r := 2) (by decide : 2 < 3)) rfl rfl hl.1 rfl (Nat.le_of_ble_eq_true rfl) dX6_told_66 ⟨(Nat.le_of_ble_eq_true rfl), (Nat.le_of_ble_eq_true rfl)⟩ (fun S12 H locs eS12 hw => ?_)
        refine lv_aload_n X.1 X.2.1 dX6_told_69 rfl (lv_at hl 1 rfl) ?_
        refine g_get (v := .ref (G.2.2 32)) X K hw (by decide) tt_eT rfl iT6 2 (by decide) q282 rfl dX6_told_70 ?_
        refine g_get (v := .ref (G.2.2 35)) X K hw (by decide) (tt_eR (r := 2) (by decide : 2 < 3)) rfl iT2 0 (by decide) q160 rfl dX6_told_73 ?_
        refine lv_iload_n X.1 X.2.1 dX6_told_76 rfl (lv_at hl 2 rfl) ?_
        have hi13 : vp_in a1 10 := dr_in hp0 ez1 c2
        have hd14 : a1.toNatClampNeg < 10 := lp_cl hi13
        refine g_aald X K hw (by decide) (tt_eA (r := 2) (by decide : 2 < 3)) 1 rfl hi13 rfl dX6_told_77 ?_
        refine lv_iconst (v := (0 : Int32)) X.1 X.2.1 dX6_told_78 (by decide) ?_
        refine g_put (S' := tt_up S12 2 (12 + 7 * a1.toNatClampNeg) (0 : Int32)) X K (c_ap K) hw (by have := (by decide : 2 < 3); have := hd14; omega) (tt_eD (r := 2) (d := a1.toNatClampNeg) (by decide : 2 < 3) hd14) rfl iT1 tyX1_ok nmX1 0 (by decide) q125 rfl rfl rfl (Nat.le_of_ble_eq_true rfl) (tt_sD (r := 2) (d := a1.toNatClampNeg) (k := 0) (by decide : 2 < 3) hd14 (by decide)) dX6_told_79 (fun S15 H locs eS15 hw => ?_)
        refine lv_aload_n X.1 X.2.1 dX6_told_82 rfl (lv_at hl 1 rfl) ?_
        refine g_get (v := .ref (G.2.2 32)) X K hw (by decide) tt_eT rfl iT6 2 (by decide) q282 rfl dX6_told_83 ?_
        refine lv_iload_n X.1 X.2.1 dX6_told_86 rfl (lv_at hl 3 rfl) ?_
        refine c_callVI_s X K hw (k_X2_goDays l G S15 2 a2 (by decide) (by subst ez1 ez5 ez7 eS9 ez10 eS11 eS12 eS15; rw [tt_up_ne (by omega), tk_lo (by decide) (by decide), show ∀ (T : tt_St) (v : Int32), (f2_goDays T 2 v).2 0 = T 0 from fun T v => tf_go T v 0 (by decide) (by decide) (by decide), show f2_takeRoom S 2 0 0 = S 0 from tk_row (by decide)]; exact (hp0.1 0 (by decide)).2)) (g_cwV X hiX2_goDays q406 q407 q408 q68 q409 ⟨(Nat.le_of_ble_eq_true rfl), (Nat.le_of_ble_eq_true rfl)⟩) (by decide) (tt_eR (r := 2) (by decide : 2 < 3)) rfl rfl hl.1 rfl (Nat.le_of_ble_eq_true rfl) dX6_told_87 ⟨(Nat.le_of_ble_eq_true rfl), (Nat.le_of_ble_eq_true rfl)⟩ (fun z16 S17 H locs ez16 eS17 hw => ?_)
        refine lv_iload_n X.1 X.2.1 dX6_told_90 rfl (lv_at hl 0 rfl) ?_
        refine lv_isub X.1 X.2.1 dX6_told_91 ?_
        have hR : (z16 - z10, S17) = tgt := by
          rw [← hF]
          subst ez1 ez5 ez7 eS9 ez10 eS11 eS12 eS15 ez16 eS17
          simp only [f6_told, if_neg c2, if_neg c6, if_pos c8]
        have hRR : z16 - z10 = tgt.1 := pr1 hR
        have hRS : S17 = tgt.2 := pr2 hR
        exact g_iret X hret hlk hw hRR hRS dX6_told_92
      · refine lv_aload_n X.1 X.2.1 dX6_told_32 rfl (lv_at hl 0 rfl) ?_
        refine lv_iconst (v := (4 : Int32)) X.1 X.2.1 dX6_told_33 (by decide) ?_
        refine c_callVI_s X K hw (k_X6_tell l G S (4 : Int32) (by unfold vp_in; decide)) (g_cwV X hiX6_tell q312 q314 q0 q67 q315 ⟨(Nat.le_of_ble_eq_true rfl), (Nat.le_of_ble_eq_true rfl)⟩) (by decide) tt_eT rfl rfl hl.1 rfl (Nat.le_of_ble_eq_true rfl) dX6_told_34 ⟨(Nat.le_of_ble_eq_true rfl), (Nat.le_of_ble_eq_true rfl)⟩ (fun z18 S19 H locs ez18 eS19 hw => ?_)
        have hR : (z18, S19) = tgt := by
          rw [← hF]
          subst ez1 ez5 ez7 ez18 eS19
          simp only [f6_told, if_neg c2, if_neg c6, if_neg c8]
        have hRR : z18 = tgt.1 := pr1 hR
        have hRS : S19 = tgt.2 := pr2 hR
        exact g_iret X hret hlk hw hRR hRS dX6_told_37
    · refine lv_aload_n X.1 X.2.1 dX6_told_18 rfl (lv_at hl 0 rfl) ?_
      refine lv_iconst (v := (0 : Int32)) X.1 X.2.1 dX6_told_19 (by decide) ?_
      refine c_callVI_s X K hw (k_X6_tell l G S (0 : Int32) (by unfold vp_in; decide)) (g_cwV X hiX6_tell q312 q314 q0 q67 q315 ⟨(Nat.le_of_ble_eq_true rfl), (Nat.le_of_ble_eq_true rfl)⟩) (by decide) tt_eT rfl rfl hl.1 rfl (Nat.le_of_ble_eq_true rfl) dX6_told_20 ⟨(Nat.le_of_ble_eq_true rfl), (Nat.le_of_ble_eq_true rfl)⟩ (fun z20 S21 H locs ez20 eS21 hw => ?_)
      have hR : (z20, S21) = tgt := by
        rw [← hF]
        subst ez1 ez5 ez20 eS21
        simp only [f6_told, if_neg c2, if_pos c6]
      have hRR : z20 = tgt.1 := pr1 hR
      have hRS : S21 = tgt.2 := pr2 hR
      exact g_iret X hret hlk hw hRR hRS dX6_told_23
