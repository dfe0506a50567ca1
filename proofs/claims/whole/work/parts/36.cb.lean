set_option maxHeartbeats 4000000 in
set_option maxRecDepth 10000 in
theorem k_X6_sign (l : Launch) (G : tt_G) (S : tt_St) (a1 : Int32) (hp0 : ci S) : c_MI l G yX6_sign (g_code yX6_sign cX6_sign 6 (some FieldType.int)) 6 148 [.ref (G.2.2 61), .int a1] S ((f6_sign S a1).1) ((f6_sign S a1).2) := by
  generalize hF : f6_sign S a1 = tgt
  refine g_begin rfl (Nat.le_of_ble_eq_true rfl) _ (fun p e s m below meth c ls X hret hlk hB hl => ?_)
  obtain ⟨hP0, K⟩ := hB
  have hw : c_W G S s s.heap [] := ⟨hP0, va_S.rf⟩
  have X : CallFix p m c cX6_sign 6 s ([.ref (G.2.2 61), .int a1] : List Value).toArray tt_T "TrustTin" := X
  have hl : lv_has ls 6 [(0, .ref (G.2.2 61)), (1, .int a1)] := hl
  refine lv_iload_n X.1 X.2.1 dX6_sign_0 rfl (lv_at hl 1 rfl) ?_
  refine lv_iconst (v := (1 : Int32)) X.1 X.2.1 dX6_sign_1 (by decide) ?_
  refine lv_bipush (v := (50 : Int32)) X.1 X.2.1 dX6_sign_2 (by decide) ?_
  refine c_callSI_p X K hw (k_X6_within l G S a1 (1 : Int32) (50 : Int32)) (g_cwS X hiX6_within q309 q310 q67 q311 ⟨(Nat.le_of_ble_eq_true rfl), (Nat.le_of_ble_eq_true rfl)⟩) rfl hl.1 rfl (Nat.le_of_ble_eq_true rfl) dX6_sign_4 ⟨(Nat.le_of_ble_eq_true rfl), (Nat.le_of_ble_eq_true rfl)⟩ (fun z1 H locs ez1 hw => ?_)
  refine lv_if_ne (tgt := 16) X.1 X.2.1 dX6_sign_7 (by decide) (fun c2 => ?_) (fun c2 => ?_)
  · refine lv_aload_n X.1 X.2.1 dX6_sign_16 rfl (lv_at hl 0 rfl) ?_
    refine lv_iload_n X.1 X.2.1 dX6_sign_17 rfl (lv_at hl 1 rfl) ?_
    refine c_callVI_p X K hw (k_X6_isTooLate l G S a1) (g_cwV X hiX6_isTooLate q402 q404 q5 q67 q405 ⟨(Nat.le_of_ble_eq_true rfl), (Nat.le_of_ble_eq_true rfl)⟩) (by decide) tt_eT rfl rfl hl.1 rfl (Nat.le_of_ble_eq_true rfl) dX6_sign_18 ⟨(Nat.le_of_ble_eq_true rfl), (Nat.le_of_ble_eq_true rfl)⟩ (fun z3 H locs ez3 hw => ?_)
    refine lv_if_eq (tgt := 30) X.1 X.2.1 dX6_sign_21 (by decide) (fun c4 => ?_) (fun c4 => ?_)
    · refine lv_iconst (v := (0 : Int32)) X.1 X.2.1 dX6_sign_30 (by decide) ?_
      refine lv_istore_n (lv' := [(2, .int (0 : Int32)), (0, .ref (G.2.2 61)), (1, .int a1)]) X.1 X.2.1 dX6_sign_31 rfl hl (by decide) rfl (fun ls hl => ?_)
      refine lv_iconst (v := (-1 : Int32)) X.1 X.2.1 dX6_sign_32 (by decide) ?_
      refine lv_istore_n (lv' := [(3, .int (-1 : Int32)), (2, .int (0 : Int32)), (0, .ref (G.2.2 61)), (1, .int a1)]) X.1 X.2.1 dX6_sign_33 rfl hl (by decide) rfl (fun ls hl => ?_)
      refine lv_iconst (v := (0 : Int32)) X.1 X.2.1 dX6_sign_34 (by decide) ?_
      refine lv_istore (lv' := [(4, .int (0 : Int32)), (3, .int (-1 : Int32)), (2, .int (0 : Int32)), (0, .ref (G.2.2 61)), (1, .int a1)]) X.1 X.2.1 dX6_sign_35 hl (by decide) rfl (fun ls hl => ?_)
      have j37 : ∀ (n : Nat) (S5 : tt_St) (y2_37 : Int32) (y3_37 : Int32) (y4_37 : Int32) (H : Heap) (locs : List Loc) (ls : Array Slot), (ci S5 ∧ ¬ y4_37 < 0) → lp_nu (2 : Int32) y4_37 < n → f6_sign_L37 a1 n S5 y2_37 y3_37 y4_37 = tgt → c_W G S5 s H locs → lv_has ls 6 [(0, .ref (G.2.2 61)), (1, .int a1), (2, .int y2_37), (3, .int y3_37), (4, .int y4_37)] → W p l e (g_rm 6 148) s m ([.ref (G.2.2 61), .int a1] : List Value).toArray below meth c H locs 0 0 (MQ below (va_Qi (fun r T => r = tgt.1 ∧ T = tgt.2) (g_Post G 62 G.2.2 (tt_cell G)) (g_in 62 G.2.2)) ([.ref (G.2.2 61), .int a1] : List Value).toArray s 0 0 (g_in 62 G.2.2)) (F0 m 37 ls []) := by
        intro n
        induction n with
        | zero => intro S5 y2_37 y3_37 y4_37 H locs ls hI hm; exact absurd hm (Nat.not_lt_zero _)
        | succ n ih =>
          intro S5 y2_37 y3_37 y4_37 H locs ls hI hm hF hw hl
          refine lv_iload X.1 X.2.1 dX6_sign_37 (lv_at hl 4 rfl) ?_
          refine lv_iconst (v := (2 : Int32)) X.1 X.2.1 dX6_sign_39 (by decide) ?_
          refine lv_icmp_gt (tgt := 91) X.1 X.2.1 dX6_sign_40 (by decide) (fun c6 => ?_) (fun c6 => ?_)
          · refine lv_iload_n X.1 X.2.1 dX6_sign_91 rfl (lv_at hl 2 rfl) ?_
            have hR : (y2_37, S5) = tgt := by
              rw [← hF]
              simp only [f6_sign_L37, if_pos c6]
            have hRR : y2_37 = tgt.1 := pr1 hR
            have hRS : S5 = tgt.2 := pr2 hR
            exact g_iret X hret hlk hw hRR hRS dX6_sign_92
          · refine lv_aload_n X.1 X.2.1 dX6_sign_43 rfl (lv_at hl 0 rfl) ?_
            refine g_get (v := .ref (G.2.2 32)) X K hw (by decide) tt_eT rfl iT6 2 (by decide) q282 rfl dX6_sign_44 ?_
            refine lv_aload_n X.1 X.2.1 dX6_sign_47 rfl (lv_at hl 0 rfl) ?_
            refine g_get (v := .ref (G.2.2 30)) X K hw (by decide) tt_eT rfl iT6 0 (by decide) q280 rfl dX6_sign_48 ?_
            refine c_callVV_s X K hw (k_X2_takeRoom l G S5 2 0 (by decide) (by decide) ((hI.1.1 0 (by decide)).2) (by decide)) (g_cwV X hiX2_takeRoom q510 q511 q512 q68 q513 ⟨(Nat.le_of_ble_eq_true rfl), (Nat.le_of_ble_eq_true rfl)⟩) (by decide) (tt_eR (r := 2) (by decide : 2 < 3)) rfl rfl hl.1 rfl (Nat.le_of_ble_eq_true rfl) dX6_sign_51 ⟨(Nat.le_of_ble_eq_true rfl), (Nat.le_of_ble_eq_true rfl)⟩ (fun S7 H locs eS7 hw => ?_)
            refine lv_aload_n X.1 X.2.1 dX6_sign_54 rfl (lv_at hl 0 rfl) ?_
            refine g_get (v := .ref (G.2.2 32)) X K hw (by decide) tt_eT rfl iT6 2 (by decide) q282 rfl dX6_sign_55 ?_
            refine lv_iload X.1 X.2.1 dX6_sign_58 (lv_at hl 4 rfl) ?_
            refine g_put (S' := tt_up S7 2 5 y4_37) X K (c_ap K) hw (by decide) (tt_eR (r := 2) (by decide : 2 < 3)) rfl iT2 tyX2_ok nmX2 6 (by decide) q175 rfl rfl rfl (Nat.le_of_ble_eq_true rfl) (tt_sR (r := 2) (k := 5) (by decide : 2 < 3) (by decide)) dX6_sign_60 (fun S8 H locs eS8 hw => ?_)
            refine lv_aload_n X.1 X.2.1 dX6_sign_63 rfl (lv_at hl 0 rfl) ?_
            refine g_get (v := .ref (G.2.2 32)) X K hw (by decide) tt_eT rfl iT6 2 (by decide) q282 rfl dX6_sign_64 ?_
            refine lv_iload_n X.1 X.2.1 dX6_sign_67 rfl (lv_at hl 1 rfl) ?_
            refine c_callVI_s X K hw (k_X2_goDays l G S8 2 a1 (by decide) (by subst eS7 eS8; rw [tt_up_ne (by omega), tk_lo (by decide) (by decide)]; exact (hI.1.1 0 (by decide)).2)) (g_cwV X hiX2_goDays q406 q407 q408 q68 q409 ⟨(Nat.le_of_ble_eq_true rfl), (Nat.le_of_ble_eq_true rfl)⟩) (by decide) (tt_eR (r := 2) (by decide : 2 < 3)) rfl rfl hl.1 rfl (Nat.le_of_ble_eq_true rfl) dX6_sign_68 ⟨(Nat.le_of_ble_eq_true rfl), (Nat.le_of_ble_eq_true rfl)⟩ (fun z9 S10 H locs ez9 eS10 hw => ?_)
            refine lv_istore (lv' := [(5, .int z9), (0, .ref (G.2.2 61)), (1, .int a1), (2, .int y2_37), (3, .int y3_37), (4, .int y4_37)]) X.1 X.2.1 dX6_sign_71 hl (by decide) rfl (fun ls hl => ?_)
            refine lv_iload X.1 X.2.1 dX6_sign_73 (lv_at hl 0 rfl) ?_
            refine lv_iload_n X.1 X.2.1 dX6_sign_75 rfl (lv_at hl 4 rfl) ?_
            refine lv_icmp_le (tgt := 85) X.1 X.2.1 dX6_sign_76 (by decide) (fun c11 => ?_) (fun c11 => ?_)
            · obtain ⟨x12, ex12⟩ : ∃ y : Int32, y = y4_37 + (1 : Int32) := ⟨_, rfl⟩
              refine lv_iinc (v := x12) (lv' := [(4, .int x12), (5, .int z9), (0, .ref (G.2.2 61)), (1, .int a1), (2, .int y2_37), (3, .int y3_37)]) X.1 X.2.1 dX6_sign_85 hl (k := 5) rfl (by rw [ex12]; rfl) (by decide) rfl (fun ls hl => ?_)
              refine lv_goto (tgt := 37) X.1 X.2.1 dX6_sign_88 (by decide) ?_
              have hF2 : f6_sign_L37 a1 n S10 y2_37 y3_37 x12 = tgt := by
                rw [← hF]
                subst eS7 eS8 ez9 eS10 ex12
                simp only [f6_sign_L37, if_neg c6, if_pos c11]
              exact ih S10 y2_37 y3_37 x12 _ _ ls (⟨by subst eS7 eS8 ez9 eS10 ex12; exact ci_tf hI.1 (tf_tr (tf_tr (tf_take _ 0) (tf_up _ _)) (tf_go _ _)), by rw [ex12]; exact lp_nnn (by decide) hI.2 c6⟩) (by rw [ex12]; exact lp_ndec (by decide) c6 hm) hF2 hw (lv_sub hl [2, 3, 4, 5, 0] rfl)
            · refine lv_iload X.1 X.2.1 dX6_sign_79 (lv_at hl 0 rfl) ?_
              refine lv_istore_n (lv' := [(3, .int z9), (5, .int z9), (0, .ref (G.2.2 61)), (1, .int a1), (2, .int y2_37), (4, .int y4_37)]) X.1 X.2.1 dX6_sign_81 rfl hl (by decide) rfl (fun ls hl => ?_)
              refine lv_iload X.1 X.2.1 dX6_sign_82 (lv_at hl 5 rfl) ?_
              refine lv_istore_n (lv' := [(2, .int y4_37), (3, .int z9), (5, .int z9), (0, .ref (G.2.2 61)), (1, .int a1), (4, .int y4_37)]) X.1 X.2.1 dX6_sign_84 rfl hl (by decide) rfl (fun ls hl => ?_)
              obtain ⟨x13, ex13⟩ : ∃ y : Int32, y = y4_37 + (1 : Int32) := ⟨_, rfl⟩
              refine lv_iinc (v := x13) (lv' := [(4, .int x13), (2, .int y4_37), (3, .int z9), (5, .int z9), (0, .ref (G.2.2 61)), (1, .int a1)]) X.1 X.2.1 dX6_sign_85 hl (k := 5) rfl (by rw [ex13]; rfl) (by decide) rfl (fun ls hl => ?_)
              refine lv_goto (tgt := 37) X.1 X.2.1 dX6_sign_88 (by decide) ?_
              have hF2 : f6_sign_L37 a1 n S10 y4_37 z9 x13 = tgt := by
                rw [← hF]
                subst eS7 eS8 ez9 eS10 ex13
                simp only [f6_sign_L37, if_neg c6, if_neg c11]
              exact ih S10 y4_37 z9 x13 _ _ ls (⟨by subst eS7 eS8 ez9 eS10 ex13; exact ci_tf hI.1 (tf_tr (tf_tr (tf_take _ 0) (tf_up _ _)) (tf_go _ _)), by rw [ex13]; exact lp_nnn (by decide) hI.2 c6⟩) (by rw [ex13]; exact lp_ndec (by decide) c6 hm) hF2 hw (lv_sub hl [4, 5, 1, 2, 0] rfl)
      have hF2 : f6_sign_L37 a1 (lp_nu (2 : Int32) 0 + 1) S (0 : Int32) (-1 : Int32) (0 : Int32) = tgt := by
        rw [← hF]
        subst ez1 ez3
        simp only [f6_sign, if_neg c2, if_pos c4]
      exact j37 (lp_nu (2 : Int32) 0 + 1) S (0 : Int32) (-1 : Int32) (0 : Int32) _ _ ls (⟨hp0, by decide⟩) (Nat.lt_succ_self _) hF2 hw (lv_sub hl [3, 4, 2, 1, 0] rfl)
    · refine lv_aload_n X.1 X.2.1 dX6_sign_24 rfl (lv_at hl 0 rfl) ?_
      refine lv_iconst (v := (4 : Int32)) X.1 X.2.1 dX6_sign_25 (by decide) ?_
      refine c_callVI_s X K hw (k_X6_tell l G S (4 : Int32) (by unfold vp_in; decide)) (g_cwV X hiX6_tell q312 q314 q0 q67 q315 ⟨(Nat.le_of_ble_eq_true rfl), (Nat.le_of_ble_eq_true rfl)⟩) (by decide) tt_eT rfl rfl hl.1 rfl (Nat.le_of_ble_eq_true rfl) dX6_sign_26 ⟨(Nat.le_of_ble_eq_true rfl), (Nat.le_of_ble_eq_true rfl)⟩ (fun z14 S15 H locs ez14 eS15 hw => ?_)
      have hR : (z14, S15) = tgt := by
        rw [← hF]
        subst ez1 ez3 ez14 eS15
        simp only [f6_sign, if_neg c2, if_neg c4]
      have hRR : z14 = tgt.1 := pr1 hR
      have hRS : S15 = tgt.2 := pr2 hR
      exact g_iret X hret hlk hw hRR hRS dX6_sign_29
  · refine lv_aload_n X.1 X.2.1 dX6_sign_10 rfl (lv_at hl 0 rfl) ?_
    refine lv_iconst (v := (0 : Int32)) X.1 X.2.1 dX6_sign_11 (by decide) ?_
    refine c_callVI_s X K hw (k_X6_tell l G S (0 : Int32) (by unfold vp_in; decide)) (g_cwV X hiX6_tell q312 q314 q0 q67 q315 ⟨(Nat.le_of_ble_eq_true rfl), (Nat.le_of_ble_eq_true rfl)⟩) (by decide) tt_eT rfl rfl hl.1 rfl (Nat.le_of_ble_eq_true rfl) dX6_sign_12 ⟨(Nat.le_of_ble_eq_true rfl), (Nat.le_of_ble_eq_true rfl)⟩ (fun z16 S17 H locs ez16 eS17 hw => ?_)
    have hR : (z16, S17) = tgt := by
      rw [← hF]
      subst ez1 ez16 eS17
      simp only [f6_sign, if_pos c2]
    have hRR : z16 = tgt.1 := pr1 hR
    have hRS : S17 = tgt.2 := pr2 hR
    exact g_iret X hret hlk hw hRR hRS dX6_sign_15
set_option maxHeartbeats 4000000 in
set_option maxRecDepth 10000 in
theorem k_X6_potFor (l : Launch) (G : tt_G) (S : tt_St) (a1 : Int32) (hp0 : ci S) : c_MI l G yX6_potFor (g_code yX6_potFor cX6_potFor 3 (some FieldType.int)) 6 148 [.ref (G.2.2 61), .int a1] S ((f6_potFor S a1).1) ((f6_potFor S a1).2) := by
  generalize hF : f6_potFor S a1 = tgt
  refine g_begin rfl (Nat.le_of_ble_eq_true rfl) _ (fun p e s m below meth c ls X hret hlk hB hl => ?_)
  obtain ⟨hP0, K⟩ := hB
  have hw : c_W G S s s.heap [] := ⟨hP0, va_S.rf⟩
  have X : CallFix p m c cX6_potFor 3 s ([.ref (G.2.2 61), .int a1] : List Value).toArray tt_T "TrustTin" := X
  have hl : lv_has ls 3 [(0, .ref (G.2.2 61)), (1, .int a1)] := hl
  refine lv_iload_n X.1 X.2.1 dX6_potFor_0 rfl (lv_at hl 1 rfl) ?_
  refine lv_iconst (v := (1 : Int32)) X.1 X.2.1 dX6_potFor_1 (by decide) ?_
  refine lv_bipush (v := (20 : Int32)) X.1 X.2.1 dX6_potFor_2 (by decide) ?_
  refine c_callSI_p X K hw (k_X6_within l G S a1 (1 : Int32) (20 : Int32)) (g_cwS X hiX6_within q309 q310 q67 q311 ⟨(Nat.le_of_ble_eq_true rfl), (Nat.le_of_ble_eq_true rfl)⟩) rfl hl.1 rfl (Nat.le_of_ble_eq_true rfl) dX6_potFor_4 ⟨(Nat.le_of_ble_eq_true rfl), (Nat.le_of_ble_eq_true rfl)⟩ (fun z1 H locs ez1 hw => ?_)
  refine lv_if_ne (tgt := 16) X.1 X.2.1 dX6_potFor_7 (by decide) (fun c2 => ?_) (fun c2 => ?_)
  · refine lv_aload_n X.1 X.2.1 dX6_potFor_16 rfl (lv_at hl 0 rfl) ?_
    refine lv_iload_n X.1 X.2.1 dX6_potFor_17 rfl (lv_at hl 1 rfl) ?_
    refine c_callVI_p X K hw (k_X6_isTooLate l G S a1) (g_cwV X hiX6_isTooLate q402 q404 q5 q67 q405 ⟨(Nat.le_of_ble_eq_true rfl), (Nat.le_of_ble_eq_true rfl)⟩) (by decide) tt_eT rfl rfl hl.1 rfl (Nat.le_of_ble_eq_true rfl) dX6_potFor_18 ⟨(Nat.le_of_ble_eq_true rfl), (Nat.le_of_ble_eq_true rfl)⟩ (fun z3 H locs ez3 hw => ?_)
    refine lv_if_eq (tgt := 30) X.1 X.2.1 dX6_potFor_21 (by decide) (fun c4 => ?_) (fun c4 => ?_)
    · refine lv_iconst (v := (1 : Int32)) X.1 X.2.1 dX6_potFor_30 (by decide) ?_
      refine lv_istore_n (lv' := [(2, .int (1 : Int32)), (0, .ref (G.2.2 61)), (1, .int a1)]) X.1 X.2.1 dX6_potFor_31 rfl hl (by decide) rfl (fun ls hl => ?_)
      have j32 : ∀ (n : Nat) (S5 : tt_St) (y2_32 : Int32) (H : Heap) (locs : List Loc) (ls : Array Slot), (ci S5 ∧ ¬ y2_32 < 0) → lp_nu (99 : Int32) y2_32 < n → f6_potFor_L32 a1 n S5 y2_32 = tgt → c_W G S5 s H locs → lv_has ls 3 [(0, .ref (G.2.2 61)), (1, .int a1), (2, .int y2_32)] → W p l e (g_rm 6 148) s m ([.ref (G.2.2 61), .int a1] : List Value).toArray below meth c H locs 0 0 (MQ below (va_Qi (fun r T => r = tgt.1 ∧ T = tgt.2) (g_Post G 62 G.2.2 (tt_cell G)) (g_in 62 G.2.2)) ([.ref (G.2.2 61), .int a1] : List Value).toArray s 0 0 (g_in 62 G.2.2)) (F0 m 32 ls []) := by
        intro n
        induction n with
        | zero => intro S5 y2_32 H locs ls hI hm; exact absurd hm (Nat.not_lt_zero _)
        | succ n ih =>
          intro S5 y2_32 H locs ls hI hm hF hw hl
          refine lv_iload_n X.1 X.2.1 dX6_potFor_32 rfl (lv_at hl 2 rfl) ?_
          refine lv_bipush (v := (99 : Int32)) X.1 X.2.1 dX6_potFor_33 (by decide) ?_
          refine lv_icmp_gt (tgt := 91) X.1 X.2.1 dX6_potFor_35 (by decide) (fun c6 => ?_) (fun c6 => ?_)
          · refine lv_aload_n X.1 X.2.1 dX6_potFor_91 rfl (lv_at hl 0 rfl) ?_
            refine lv_iconst (v := (3 : Int32)) X.1 X.2.1 dX6_potFor_92 (by decide) ?_
            refine c_callVI_s X K hw (k_X6_tell l G S5 (3 : Int32) (by unfold vp_in; decide)) (g_cwV X hiX6_tell q312 q314 q0 q67 q315 ⟨(Nat.le_of_ble_eq_true rfl), (Nat.le_of_ble_eq_true rfl)⟩) (by decide) tt_eT rfl rfl hl.1 rfl (Nat.le_of_ble_eq_true rfl) dX6_potFor_93 ⟨(Nat.le_of_ble_eq_true rfl), (Nat.le_of_ble_eq_true rfl)⟩ (fun z7 S8 H locs ez7 eS8 hw => ?_)
            have hR : (z7, S8) = tgt := by
              rw [← hF]
              subst ez7 eS8
              simp only [f6_potFor_L32, if_pos c6]
            have hRR : z7 = tgt.1 := pr1 hR
            have hRS : S8 = tgt.2 := pr2 hR
            exact g_iret X hret hlk hw hRR hRS dX6_potFor_96
          · refine lv_aload_n X.1 X.2.1 dX6_potFor_38 rfl (lv_at hl 0 rfl) ?_
            refine g_get (v := .ref (G.2.2 32)) X K hw (by decide) tt_eT rfl iT6 2 (by decide) q282 rfl dX6_potFor_39 ?_
            refine lv_aload_n X.1 X.2.1 dX6_potFor_42 rfl (lv_at hl 0 rfl) ?_
            refine g_get (v := .ref (G.2.2 30)) X K hw (by decide) tt_eT rfl iT6 0 (by decide) q280 rfl dX6_potFor_43 ?_
            refine c_callVV_s X K hw (k_X2_takeRoom l G S5 2 0 (by decide) (by decide) ((hI.1.1 0 (by decide)).2) (by decide)) (g_cwV X hiX2_takeRoom q510 q511 q512 q68 q513 ⟨(Nat.le_of_ble_eq_true rfl), (Nat.le_of_ble_eq_true rfl)⟩) (by decide) (tt_eR (r := 2) (by decide : 2 < 3)) rfl rfl hl.1 rfl (Nat.le_of_ble_eq_true rfl) dX6_potFor_46 ⟨(Nat.le_of_ble_eq_true rfl), (Nat.le_of_ble_eq_true rfl)⟩ (fun S9 H locs eS9 hw => ?_)
            refine lv_aload_n X.1 X.2.1 dX6_potFor_49 rfl (lv_at hl 0 rfl) ?_
            refine g_get (v := .ref (G.2.2 32)) X K hw (by decide) tt_eT rfl iT6 2 (by decide) q282 rfl dX6_potFor_50 ?_
            refine lv_iload_n X.1 X.2.1 dX6_potFor_53 rfl (lv_at hl 2 rfl) ?_
            refine c_callVV_s X K hw (k_X2_setPot l G S9 2 y2_32 (by decide)) (g_cwV X hiX2_setPot q363 q364 q365 q68 q366 ⟨(Nat.le_of_ble_eq_true rfl), (Nat.le_of_ble_eq_true rfl)⟩) (by decide) (tt_eR (r := 2) (by decide : 2 < 3)) rfl rfl hl.1 rfl (Nat.le_of_ble_eq_true rfl) dX6_potFor_54 ⟨(Nat.le_of_ble_eq_true rfl), (Nat.le_of_ble_eq_true rfl)⟩ (fun S10 H locs eS10 hw => ?_)
            refine lv_aload_n X.1 X.2.1 dX6_potFor_57 rfl (lv_at hl 0 rfl) ?_
            refine g_get (v := .ref (G.2.2 32)) X K hw (by decide) tt_eT rfl iT6 2 (by decide) q282 rfl dX6_potFor_58 ?_
            refine lv_iload_n X.1 X.2.1 dX6_potFor_61 rfl (lv_at hl 1 rfl) ?_
            refine c_callVI_s X K hw (k_X2_goDays l G S10 2 a1 (by decide) (by subst eS9 eS10; rw [show ∀ (T : tt_St) (v : Int32), f2_setPot T 2 v 2 0 = T 2 0 from fun T v => (tt_up_ne (by omega)).trans (tt_up_ne (by omega)), tk_lo (by decide) (by decide)]; exact (hI.1.1 0 (by decide)).2)) (g_cwV X hiX2_goDays q406 q407 q408 q68 q409 ⟨(Nat.le_of_ble_eq_true rfl), (Nat.le_of_ble_eq_true rfl)⟩) (by decide) (tt_eR (r := 2) (by decide : 2 < 3)) rfl rfl hl.1 rfl (Nat.le_of_ble_eq_true rfl) dX6_potFor_62 ⟨(Nat.le_of_ble_eq_true rfl), (Nat.le_of_ble_eq_true rfl)⟩ (fun z11 S12 H locs ez11 eS12 hw => ?_)
            refine lv_pop X.1 X.2.1 dX6_potFor_65 rfl ?_
            refine lv_aload_n X.1 X.2.1 dX6_potFor_66 rfl (lv_at hl 0 rfl) ?_
            refine g_get (v := .ref (G.2.2 32)) X K hw (by decide) tt_eT rfl iT6 2 (by decide) q282 rfl dX6_potFor_67 ?_
            refine g_get (v := .int (S12 2 8)) X K hw (by decide) (tt_eR (r := 2) (by decide : 2 < 3)) rfl iT2 9 (by decide) q181 rfl dX6_potFor_70 ?_
            refine lv_aload_n X.1 X.2.1 dX6_potFor_73 rfl (lv_at hl 0 rfl) ?_
            refine g_get (v := .ref (G.2.2 30)) X K hw (by decide) tt_eT rfl iT6 0 (by decide) q280 rfl dX6_potFor_74 ?_
            refine g_get (v := .int (S12 0 8)) X K hw (by decide) (tt_eR (r := 0) (by decide : 0 < 3)) rfl iT2 9 (by decide) q181 rfl dX6_potFor_77 ?_
            refine lv_icmp_ne (tgt := 85) X.1 X.2.1 dX6_potFor_80 (by decide) (fun c13 => ?_) (fun c13 => ?_)
            · obtain ⟨x14, ex14⟩ : ∃ y : Int32, y = y2_32 + (1 : Int32) := ⟨_, rfl⟩
              refine lv_iinc (v := x14) (lv' := [(2, .int x14), (0, .ref (G.2.2 61)), (1, .int a1)]) X.1 X.2.1 dX6_potFor_85 hl (k := 2) rfl (by rw [ex14]; rfl) (by decide) rfl (fun ls hl => ?_)
              refine lv_goto (tgt := 32) X.1 X.2.1 dX6_potFor_88 (by decide) ?_
              have hF2 : f6_potFor_L32 a1 n S12 x14 = tgt := by
                rw [← hF]
                subst eS9 eS10 ez11 eS12 ex14
                simp only [f6_potFor_L32, if_neg c6, if_neg c13]
              exact ih S12 x14 _ _ ls (⟨by subst eS9 eS10 ez11 eS12 ex14; exact ci_tf hI.1 (tf_tr (tf_tr (tf_take _ 0) (tf_pot _ _)) (tf_go _ _)), by rw [ex14]; exact lp_nnn (by decide) hI.2 c6⟩) (by rw [ex14]; exact lp_ndec (by decide) c6 hm) hF2 hw (lv_sub hl [1, 2, 0] rfl)
            · refine lv_iload_n X.1 X.2.1 dX6_potFor_83 rfl (lv_at hl 2 rfl) ?_
              have hR : (y2_32, S12) = tgt := by
                rw [← hF]
                subst eS9 eS10 ez11 eS12
                simp only [f6_potFor_L32, if_neg c6, if_pos c13]
              have hRR : y2_32 = tgt.1 := pr1 hR
              have hRS : S12 = tgt.2 := pr2 hR
              exact g_iret X hret hlk hw hRR hRS dX6_potFor_84
      have hF2 : f6_potFor_L32 a1 (lp_nu (99 : Int32) 1 + 1) S (1 : Int32) = tgt := by
        rw [← hF]
        subst ez1 ez3
        simp only [f6_potFor, if_neg c2, if_pos c4]
      exact j32 (lp_nu (99 : Int32) 1 + 1) S (1 : Int32) _ _ ls (⟨hp0, by decide⟩) (Nat.lt_succ_self _) hF2 hw (lv_sub hl [1, 2, 0] rfl)
    · refine lv_aload_n X.1 X.2.1 dX6_potFor_24 rfl (lv_at hl 0 rfl) ?_
      refine lv_iconst (v := (4 : Int32)) X.1 X.2.1 dX6_potFor_25 (by decide) ?_
      refine c_callVI_s X K hw (k_X6_tell l G S (4 : Int32) (by unfold vp_in; decide)) (g_cwV X hiX6_tell q312 q314 q0 q67 q315 ⟨(Nat.le_of_ble_eq_true rfl), (Nat.le_of_ble_eq_true rfl)⟩) (by decide) tt_eT rfl rfl hl.1 rfl (Nat.le_of_ble_eq_true rfl) dX6_potFor_26 ⟨(Nat.le_of_ble_eq_true rfl), (Nat.le_of_ble_eq_true rfl)⟩ (fun z15 S16 H locs ez15 eS16 hw => ?_)
      have hR : (z15, S16) = tgt := by
        rw [← hF]
        subst ez1 ez3 ez15 eS16
        simp only [f6_potFor, if_neg c2, if_neg c4]
      have hRR : z15 = tgt.1 := pr1 hR
      have hRS : S16 = tgt.2 := pr2 hR
      exact g_iret X hret hlk hw hRR hRS dX6_potFor_29
  · refine lv_aload_n X.1 X.2.1 dX6_potFor_10 rfl (lv_at hl 0 rfl) ?_
    refine lv_iconst (v := (0 : Int32)) X.1 X.2.1 dX6_potFor_11 (by decide) ?_
    refine c_callVI_s X K hw (k_X6_tell l G S (0 : Int32) (by unfold vp_in; decide)) (g_cwV X hiX6_tell q312 q314 q0 q67 q315 ⟨(Nat.le_of_ble_eq_true rfl), (Nat.le_of_ble_eq_true rfl)⟩) (by decide) tt_eT rfl rfl hl.1 rfl (Nat.le_of_ble_eq_true rfl) dX6_potFor_12 ⟨(Nat.le_of_ble_eq_true rfl), (Nat.le_of_ble_eq_true rfl)⟩ (fun z17 S18 H locs ez17 eS18 hw => ?_)
    have hR : (z17, S18) = tgt := by
      rw [← hF]
      subst ez1 ez17 eS18
      simp only [f6_potFor, if_pos c2]
    have hRR : z17 = tgt.1 := pr1 hR
    have hRS : S18 = tgt.2 := pr2 hR
    exact g_iret X hret hlk hw hRR hRS dX6_potFor_15
set_option maxHeartbeats 4000000 in
set_option maxRecDepth 10000 in
theorem k_X6_kindFor (l : Launch) (G : tt_G) (S : tt_St) (a1 : Int32) (a2 : Int32) (hp0 : ci S) : c_MI l G yX6_kindFor (g_code yX6_kindFor cX6_kindFor 8 (some FieldType.int)) 6 148 [.ref (G.2.2 61), .int a1, .int a2] S ((f6_kindFor S a1 a2).1) ((f6_kindFor S a1 a2).2) := by
  generalize hF : f6_kindFor S a1 a2 = tgt
  refine g_begin rfl (Nat.le_of_ble_eq_true rfl) _ (fun p e s m below meth c ls X hret hlk hB hl => ?_)
  obtain ⟨hP0, K⟩ := hB
  have hw : c_W G S s s.heap [] := ⟨hP0, va_S.rf⟩
  have X : CallFix p m c cX6_kindFor 8 s ([.ref (G.2.2 61), .int a1, .int a2] : List Value).toArray tt_T "TrustTin" := X
  have hl : lv_has ls 8 [(0, .ref (G.2.2 61)), (1, .int a1), (2, .int a2)] := hl
  refine lv_aload_n X.1 X.2.1 dX6_kindFor_0 rfl (lv_at hl 0 rfl) ?_
  refine lv_iload_n X.1 X.2.1 dX6_kindFor_1 rfl (lv_at hl 1 rfl) ?_
  refine c_callVI_p X K hw (k_X6_isDrinker l G S a1) (g_cwV X hiX6_isDrinker q332 q334 q1 q67 q335 ⟨(Nat.le_of_ble_eq_true rfl), (Nat.le_of_ble_eq_true rfl)⟩) (by decide) tt_eT rfl rfl hl.1 rfl (Nat.le_of_ble_eq_true rfl) dX6_kindFor_2 ⟨(Nat.le_of_ble_eq_true rfl), (Nat.le_of_ble_eq_true rfl)⟩ (fun z1 H locs ez1 hw => ?_)
  refine lv_if_eq (tgt := 18) X.1 X.2.1 dX6_kindFor_5 (by decide) (fun c2 => ?_) (fun c2 => ?_)
  · refine lv_aload_n X.1 X.2.1 dX6_kindFor_18 rfl (lv_at hl 0 rfl) ?_
    refine lv_iconst (v := (0 : Int32)) X.1 X.2.1 dX6_kindFor_19 (by decide) ?_
    refine c_callVI_s X K hw (k_X6_tell l G S (0 : Int32) (by unfold vp_in; decide)) (g_cwV X hiX6_tell q312 q314 q0 q67 q315 ⟨(Nat.le_of_ble_eq_true rfl), (Nat.le_of_ble_eq_true rfl)⟩) (by decide) tt_eT rfl rfl hl.1 rfl (Nat.le_of_ble_eq_true rfl) dX6_kindFor_20 ⟨(Nat.le_of_ble_eq_true rfl), (Nat.le_of_ble_eq_true rfl)⟩ (fun z3 S4 H locs ez3 eS4 hw => ?_)
    have hR : (z3, S4) = tgt := by
      rw [← hF]
      subst ez1 ez3 eS4
      simp only [f6_kindFor, if_pos c2]
    have hRR : z3 = tgt.1 := pr1 hR
    have hRS : S4 = tgt.2 := pr2 hR
    exact g_iret X hret hlk hw hRR hRS dX6_kindFor_23
  · refine lv_iload_n X.1 X.2.1 dX6_kindFor_8 rfl (lv_at hl 2 rfl) ?_
    refine lv_iconst (v := (1 : Int32)) X.1 X.2.1 dX6_kindFor_9 (by decide) ?_
    refine lv_bipush (v := (50 : Int32)) X.1 X.2.1 dX6_kindFor_10 (by decide) ?_
    refine c_callSI_p X K hw (k_X6_within l G S a2 (1 : Int32) (50 : Int32)) (g_cwS X hiX6_within q309 q310 q67 q311 ⟨(Nat.le_of_ble_eq_true rfl), (Nat.le_of_ble_eq_true rfl)⟩) rfl hl.1 rfl (Nat.le_of_ble_eq_true rfl) dX6_kindFor_12 ⟨(Nat.le_of_ble_eq_true rfl), (Nat.le_of_ble_eq_true rfl)⟩ (fun z5 H locs ez5 hw => ?_)
    refine lv_if_ne (tgt := 24) X.1 X.2.1 dX6_kindFor_15 (by decide) (fun c6 => ?_) (fun c6 => ?_)
    · refine lv_aload_n X.1 X.2.1 dX6_kindFor_24 rfl (lv_at hl 0 rfl) ?_
      refine lv_iload_n X.1 X.2.1 dX6_kindFor_25 rfl (lv_at hl 2 rfl) ?_
      refine c_callVI_p X K hw (k_X6_isTooLate l G S a2) (g_cwV X hiX6_isTooLate q402 q404 q5 q67 q405 ⟨(Nat.le_of_ble_eq_true rfl), (Nat.le_of_ble_eq_true rfl)⟩) (by decide) tt_eT rfl rfl hl.1 rfl (Nat.le_of_ble_eq_true rfl) dX6_kindFor_26 ⟨(Nat.le_of_ble_eq_true rfl), (Nat.le_of_ble_eq_true rfl)⟩ (fun z7 H locs ez7 hw => ?_)
      refine lv_if_eq (tgt := 38) X.1 X.2.1 dX6_kindFor_29 (by decide) (fun c8 => ?_) (fun c8 => ?_)
      · refine lv_iconst (v := (0 : Int32)) X.1 X.2.1 dX6_kindFor_38 (by decide) ?_
        refine lv_istore_n (lv' := [(3, .int (0 : Int32)), (0, .ref (G.2.2 61)), (1, .int a1), (2, .int a2)]) X.1 X.2.1 dX6_kindFor_39 rfl hl (by decide) rfl (fun ls hl => ?_)
        refine lv_iconst (v := (0 : Int32)) X.1 X.2.1 dX6_kindFor_40 (by decide) ?_
        refine lv_istore (lv' := [(4, .int (0 : Int32)), (3, .int (0 : Int32)), (0, .ref (G.2.2 61)), (1, .int a1), (2, .int a2)]) X.1 X.2.1 dX6_kindFor_41 hl (by decide) rfl (fun ls hl => ?_)
        refine lv_iconst (v := (0 : Int32)) X.1 X.2.1 dX6_kindFor_43 (by decide) ?_
        refine lv_istore (lv' := [(5, .int (0 : Int32)), (4, .int (0 : Int32)), (3, .int (0 : Int32)), (0, .ref (G.2.2 61)), (1, .int a1), (2, .int a2)]) X.1 X.2.1 dX6_kindFor_44 hl (by decide) rfl (fun ls hl => ?_)
        have j46 : ∀ (n : Nat) (S9 : tt_St) (y3_46 : Int32) (y4_46 : Int32) (y5_46 : Int32) (H : Heap) (locs : List Loc) (ls : Array Slot), (ci S9 ∧ ¬ y5_46 < 0) → lp_mu (7 : Int32) y5_46 < n → f6_kindFor_L46 a1 a2 n S9 y3_46 y4_46 y5_46 = tgt → c_W G S9 s H locs → lv_has ls 8 [(0, .ref (G.2.2 61)), (1, .int a1), (2, .int a2), (3, .int y3_46), (4, .int y4_46), (5, .int y5_46)] → W p l e (g_rm 6 148) s m ([.ref (G.2.2 61), .int a1, .int a2] : List Value).toArray below meth c H locs 0 0 (MQ below (va_Qi (fun r T => r = tgt.1 ∧ T = tgt.2) (g_Post G 62 G.2.2 (tt_cell G)) (g_in 62 G.2.2)) ([.ref (G.2.2 61), .int a1, .int a2] : List Value).toArray s 0 0 (g_in 62 G.2.2)) (F0 m 46 ls []) := by
          intro n
          induction n with
          | zero => intro S9 y3_46 y4_46 y5_46 H locs ls hI hm; exact absurd hm (Nat.not_lt_zero _)
          | succ n ih =>
            intro S9 y3_46 y4_46 y5_46 H locs ls hI hm hF hw hl
            refine lv_iload X.1 X.2.1 dX6_kindFor_46 (lv_at hl 5 rfl) ?_
            refine lv_bipush (v := (7 : Int32)) X.1 X.2.1 dX6_kindFor_48 (by decide) ?_
            refine lv_icmp_ge (tgt := 129) X.1 X.2.1 dX6_kindFor_50 (by decide) (fun c10 => ?_) (fun c10 => ?_)
            · refine lv_iload_n X.1 X.2.1 dX6_kindFor_129 rfl (lv_at hl 3 rfl) ?_
              have hR : (y3_46, S9) = tgt := by
                rw [← hF]
                simp only [f6_kindFor_L46, if_pos c10]
              have hRR : y3_46 = tgt.1 := pr1 hR
              have hRS : S9 = tgt.2 := pr2 hR
              exact g_iret X hret hlk hw hRR hRS dX6_kindFor_130
            · refine lv_aload_n X.1 X.2.1 dX6_kindFor_53 rfl (lv_at hl 0 rfl) ?_
              refine g_get (v := .ref (G.2.2 32)) X K hw (by decide) tt_eT rfl iT6 2 (by decide) q282 rfl dX6_kindFor_54 ?_
              refine lv_aload_n X.1 X.2.1 dX6_kindFor_57 rfl (lv_at hl 0 rfl) ?_
              refine g_get (v := .ref (G.2.2 30)) X K hw (by decide) tt_eT rfl iT6 0 (by decide) q280 rfl dX6_kindFor_58 ?_
              refine c_callVV_s X K hw (k_X2_takeRoom l G S9 2 0 (by decide) (by decide) ((hI.1.1 0 (by decide)).2) (by decide)) (g_cwV X hiX2_takeRoom q510 q511 q512 q68 q513 ⟨(Nat.le_of_ble_eq_true rfl), (Nat.le_of_ble_eq_true rfl)⟩) (by decide) (tt_eR (r := 2) (by decide : 2 < 3)) rfl rfl hl.1 rfl (Nat.le_of_ble_eq_true rfl) dX6_kindFor_61 ⟨(Nat.le_of_ble_eq_true rfl), (Nat.le_of_ble_eq_true rfl)⟩ (fun S11 H locs eS11 hw => ?_)
              refine lv_aload_n X.1 X.2.1 dX6_kindFor_64 rfl (lv_at hl 0 rfl) ?_
              refine g_get (v := .ref (G.2.2 32)) X K hw (by decide) tt_eT rfl iT6 2 (by decide) q282 rfl dX6_kindFor_65 ?_
              refine g_get (v := .ref (G.2.2 35)) X K hw (by decide) (tt_eR (r := 2) (by decide : 2 < 3)) rfl iT2 0 (by decide) q160 rfl dX6_kindFor_68 ?_
              refine lv_iload_n X.1 X.2.1 dX6_kindFor_71 rfl (lv_at hl 1 rfl) ?_
              have hi12 : vp_in a1 10 := dr_in hp0 ez1 c2
              have hd13 : a1.toNatClampNeg < 10 := lp_cl hi12
              refine g_aald X K hw (by decide) (tt_eA (r := 2) (by decide : 2 < 3)) 1 rfl hi12 rfl dX6_kindFor_72 ?_
              refine lv_astore (lv' := [(6, .ref (G.2.2 (10 * 2 + a1.toNatClampNeg))), (0, .ref (G.2.2 61)), (1, .int a1), (2, .int a2), (3, .int y3_46), (4, .int y4_46), (5, .int y5_46)]) X.1 X.2.1 dX6_kindFor_73 hl (by decide) rfl (fun ls hl => ?_)
              refine lv_aload X.1 X.2.1 dX6_kindFor_75 (lv_at hl 0 rfl) ?_
              refine lv_iload X.1 X.2.1 dX6_kindFor_77 (lv_at hl 6 rfl) ?_
              refine g_put (S' := tt_up S11 2 (12 + 7 * a1.toNatClampNeg) y5_46) X K (c_ap K) hw (by have := (by decide : 2 < 3); have := hd13; omega) (tt_eD (r := 2) (d := a1.toNatClampNeg) (by decide : 2 < 3) hd13) rfl iT1 tyX1_ok nmX1 0 (by decide) q125 rfl rfl rfl (Nat.le_of_ble_eq_true rfl) (tt_sD (r := 2) (d := a1.toNatClampNeg) (k := 0) (by decide : 2 < 3) hd13 (by decide)) dX6_kindFor_79 (fun S14 H locs eS14 hw => ?_)
              refine lv_aload_n X.1 X.2.1 dX6_kindFor_82 rfl (lv_at hl 1 rfl) ?_
              refine g_get (v := .ref (G.2.2 32)) X K hw (by decide) tt_eT rfl iT6 2 (by decide) q282 rfl dX6_kindFor_83 ?_
              refine lv_iload_n X.1 X.2.1 dX6_kindFor_86 rfl (lv_at hl 3 rfl) ?_
              refine c_callVI_s X K hw (k_X2_goDays l G S14 2 a2 (by decide) (by subst eS11 eS14; rw [tt_up_ne (by omega), tk_lo (by decide) (by decide)]; exact (hI.1.1 0 (by decide)).2)) (g_cwV X hiX2_goDays q406 q407 q408 q68 q409 ⟨(Nat.le_of_ble_eq_true rfl), (Nat.le_of_ble_eq_true rfl)⟩) (by decide) (tt_eR (r := 2) (by decide : 2 < 3)) rfl rfl hl.1 rfl (Nat.le_of_ble_eq_true rfl) dX6_kindFor_87 ⟨(Nat.le_of_ble_eq_true rfl), (Nat.le_of_ble_eq_true rfl)⟩ (fun z15 S16 H locs ez15 eS16 hw => ?_)
              refine lv_pop X.1 X.2.1 dX6_kindFor_90 rfl ?_
              refine lv_aload X.1 X.2.1 dX6_kindFor_91 (lv_at hl 0 rfl) ?_
              refine g_get (v := .int (S16 2 (14 + 7 * a1.toNatClampNeg))) X K hw (by have := (by decide : 2 < 3); have := hd13; omega) (tt_eD (r := 2) (d := a1.toNatClampNeg) (by decide : 2 < 3) hd13) rfl iT1 2 (by decide) q131 rfl dX6_kindFor_93 ?_
              refine lv_aload X.1 X.2.1 dX6_kindFor_96 (lv_at hl 0 rfl) ?_
              refine g_get (v := .int (S16 2 (16 + 7 * a1.toNatClampNeg))) X K hw (by have := (by decide : 2 < 3); have := hd13; omega) (tt_eD (r := 2) (d := a1.toNatClampNeg) (by decide : 2 < 3) hd13) rfl iT1 4 (by decide) q136 rfl dX6_kindFor_98 ?_
              refine lv_isub X.1 X.2.1 dX6_kindFor_101 ?_
              refine lv_topi (fun x17 ex17 => ?_)
              refine lv_istore (lv' := [(7, .int x17), (6, .ref (G.2.2 (10 * 2 + a1.toNatClampNeg))), (0, .ref (G.2.2 61)), (1, .int a1), (2, .int a2), (3, .int y3_46), (4, .int y4_46), (5, .int y5_46)]) X.1 X.2.1 dX6_kindFor_102 hl (by decide) rfl (fun ls hl => ?_)
              refine lv_iload X.1 X.2.1 dX6_kindFor_104 (lv_at hl 7 rfl) ?_
              refine lv_if_eq (tgt := 116) X.1 X.2.1 dX6_kindFor_106 (by decide) (fun c18 => ?_) (fun c18 => ?_)
              · refine lv_iload X.1 X.2.1 dX6_kindFor_116 (lv_at hl 0 rfl) ?_
                refine lv_istore (lv' := [(4, .int x17), (7, .int x17), (6, .ref (G.2.2 (10 * 2 + a1.toNatClampNeg))), (0, .ref (G.2.2 61)), (1, .int a1), (2, .int a2), (3, .int y3_46), (5, .int y5_46)]) X.1 X.2.1 dX6_kindFor_118 hl (by decide) rfl (fun ls hl => ?_)
                refine lv_iload X.1 X.2.1 dX6_kindFor_120 (lv_at hl 7 rfl) ?_
                refine lv_istore_n (lv' := [(3, .int y5_46), (4, .int x17), (7, .int x17), (6, .ref (G.2.2 (10 * 2 + a1.toNatClampNeg))), (0, .ref (G.2.2 61)), (1, .int a1), (2, .int a2), (5, .int y5_46)]) X.1 X.2.1 dX6_kindFor_122 rfl hl (by decide) rfl (fun ls hl => ?_)
                obtain ⟨x19, ex19⟩ : ∃ y : Int32, y = y5_46 + (1 : Int32) := ⟨_, rfl⟩
                refine lv_iinc (v := x19) (lv' := [(5, .int x19), (3, .int y5_46), (4, .int x17), (7, .int x17), (6, .ref (G.2.2 (10 * 2 + a1.toNatClampNeg))), (0, .ref (G.2.2 61)), (1, .int a1), (2, .int a2)]) X.1 X.2.1 dX6_kindFor_123 hl (k := 7) rfl (by rw [ex19]; rfl) (by decide) rfl (fun ls hl => ?_)
                refine lv_goto (tgt := 46) X.1 X.2.1 dX6_kindFor_126 (by decide) ?_
                have hF2 : f6_kindFor_L46 a1 a2 n S16 y5_46 x17 x19 = tgt := by
                  rw [← hF]
                  subst eS11 eS14 ez15 eS16 ex17 ex19
                  simp only [f6_kindFor_L46, if_neg c10, if_pos c18]
                exact ih S16 y5_46 x17 x19 _ _ ls (⟨by subst eS11 eS14 ez15 eS16 ex17 ex19; exact ci_tf hI.1 (tf_tr (tf_tr (tf_take _ 0) (tf_up _ _)) (tf_go _ _)), by rw [ex19]; exact lp_nn hI.2 c10⟩) (by rw [ex19]; exact lp_dec' c10 hm) hF2 hw (lv_sub hl [5, 6, 7, 1, 2, 0] rfl)
              · refine lv_iload X.1 X.2.1 dX6_kindFor_109 (lv_at hl 0 rfl) ?_
                refine lv_iload X.1 X.2.1 dX6_kindFor_111 (lv_at hl 6 rfl) ?_
                refine lv_icmp_le (tgt := 123) X.1 X.2.1 dX6_kindFor_113 (by decide) (fun c20 => ?_) (fun c20 => ?_)
                · obtain ⟨x21, ex21⟩ : ∃ y : Int32, y = y5_46 + (1 : Int32) := ⟨_, rfl⟩
                  refine lv_iinc (v := x21) (lv' := [(5, .int x21), (7, .int x17), (6, .ref (G.2.2 (10 * 2 + a1.toNatClampNeg))), (0, .ref (G.2.2 61)), (1, .int a1), (2, .int a2), (3, .int y3_46), (4, .int y4_46)]) X.1 X.2.1 dX6_kindFor_123 hl (k := 7) rfl (by rw [ex21]; rfl) (by decide) rfl (fun ls hl => ?_)
                  refine lv_goto (tgt := 46) X.1 X.2.1 dX6_kindFor_126 (by decide) ?_
                  have hF2 : f6_kindFor_L46 a1 a2 n S16 y3_46 y4_46 x21 = tgt := by
                    rw [← hF]
                    subst eS11 eS14 ez15 eS16 ex17 ex21
                    simp only [f6_kindFor_L46, if_neg c10, if_neg c18, if_pos c20]
                  exact ih S16 y3_46 y4_46 x21 _ _ ls (⟨by subst eS11 eS14 ez15 eS16 ex17 ex21; exact ci_tf hI.1 (tf_tr (tf_tr (tf_take _ 0) (tf_up _ _)) (tf_go _ _)), by rw [ex21]; exact lp_nn hI.2 c10⟩) (by rw [ex21]; exact lp_dec' c10 hm) hF2 hw (lv_sub hl [3, 4, 5, 6, 7, 0] rfl)
                · refine lv_iload X.1 X.2.1 dX6_kindFor_116 (lv_at hl 0 rfl) ?_
                  refine lv_istore (lv' := [(4, .int x17), (7, .int x17), (6, .ref (G.2.2 (10 * 2 + a1.toNatClampNeg))), (0, .ref (G.2.2 61)), (1, .int a1), (2, .int a2), (3, .int y3_46), (5, .int y5_46)]) X.1 X.2.1 dX6_kindFor_118 hl (by decide) rfl (fun ls hl => ?_)
                  refine lv_iload X.1 X.2.1 dX6_kindFor_120 (lv_at hl 7 rfl) ?_
                  refine lv_istore_n (lv' := [(3, .int y5_46), (4, .int x17), (7, .int x17), (6, .ref (G.2.2 (10 * 2 + a1.toNatClampNeg))), (0, .ref (G.2.2 61)), (1, .int a1), (2, .int a2), (5, .int y5_46)]) X.1 X.2.1 dX6_kindFor_122 rfl hl (by decide) rfl (fun ls hl => ?_)
                  obtain ⟨x22, ex22⟩ : ∃ y : Int32, y = y5_46 + (1 : Int32) := ⟨_, rfl⟩
                  refine lv_iinc (v := x22) (lv' := [(5, .int x22), (3, .int y5_46), (4, .int x17), (7, .int x17), (6, .ref (G.2.2 (10 * 2 + a1.toNatClampNeg))), (0, .ref (G.2.2 61)), (1, .int a1), (2, .int a2)]) X.1 X.2.1 dX6_kindFor_123 hl (k := 7) rfl (by rw [ex22]; rfl) (by decide) rfl (fun ls hl => ?_)
                  refine lv_goto (tgt := 46) X.1 X.2.1 dX6_kindFor_126 (by decide) ?_
                  have hF2 : f6_kindFor_L46 a1 a2 n S16 y5_46 x17 x22 = tgt := by
                    rw [← hF]
                    subst eS11 eS14 ez15 eS16 ex17 ex22
                    simp only [f6_kindFor_L46, if_neg c10, if_neg c18, if_neg c20]
                  exact ih S16 y5_46 x17 x22 _ _ ls (⟨by subst eS11 eS14 ez15 eS16 ex17 ex22; exact ci_tf hI.1 (tf_tr (tf_tr (tf_take _ 0) (tf_up _ _)) (tf_go _ _)), by rw [ex22]; exact lp_nn hI.2 c10⟩) (by rw [ex22]; exact lp_dec' c10 hm) hF2 hw (lv_sub hl [5, 6, 7, 1, 2, 0] rfl)
        have hF2 : f6_kindFor_L46 a1 a2 (lp_mu (7 : Int32) 0 + 1) S (0 : Int32) (0 : Int32) (0 : Int32) = tgt := by
          rw [← hF]
          subst ez1 ez5 ez7
          simp only [f6_kindFor, if_neg c2, if_neg c6, if_pos c8]
        exact j46 (lp_mu (7 : Int32) 0 + 1) S (0 : Int32) (0 : Int32) (0 : Int32) _ _ ls (⟨hp0, by decide⟩) (Nat.lt_succ_self _) hF2 hw (lv_sub hl [3, 4, 5, 2, 1, 0] rfl)
      · refine lv_aload_n X.1 X.2.1 dX6_kindFor_32 rfl (lv_at hl 0 rfl) ?_
        refine lv_iconst (v := (4 : Int32)) X.1 X.2.1 dX6_kindFor_33 (by decide) ?_
        refine c_callVI_s X K hw (k_X6_tell l G S (4 : Int32) (by unfold vp_in; decide)) (g_cwV X hiX6_tell q312 q314 q0 q67 q315 ⟨(Nat.le_of_ble_eq_true rfl), (Nat.le_of_ble_eq_true rfl)⟩) (by decide) tt_eT rfl rfl hl.1 rfl (Nat.le_of_ble_eq_true rfl) dX6_kindFor_34 ⟨(Nat.le_of_ble_eq_true rfl), (Nat.le_of_ble_eq_true rfl)⟩ (fun z23 S24 H locs ez23 eS24 hw => ?_)
        have hR : (z23, S24) = tgt := by
          rw [← hF]
          subst ez1 ez5 ez7 ez23 eS24
          simp only [f6_kindFor, if_neg c2, if_neg c6, if_neg c8]
        have hRR : z23 = tgt.1 := pr1 hR
        have hRS : S24 = tgt.2 := pr2 hR
        exact g_iret X hret hlk hw hRR hRS dX6_kindFor_37
    · refine lv_aload_n X.1 X.2.1 dX6_kindFor_18 rfl (lv_at hl 0 rfl) ?_
      refine lv_iconst (v := (0 : Int32)) X.1 X.2.1 dX6_kindFor_19 (by decide) ?_
      refine c_callVI_s X K hw (k_X6_tell l G S (0 : Int32) (by unfold vp_in; decide)) (g_cwV X hiX6_tell q312 q314 q0 q67 q315 ⟨(Nat.le_of_ble_eq_true rfl), (Nat.le_of_ble_eq_true rfl)⟩) (by decide) tt_eT rfl rfl hl.1 rfl (Nat.le_of_ble_eq_true rfl) dX6_kindFor_20 ⟨(Nat.le_of_ble_eq_true rfl), (Nat.le_of_ble_eq_true rfl)⟩ (fun z25 S26 H locs ez25 eS26 hw => ?_)
      have hR : (z25, S26) = tgt := by
        rw [← hF]
        subst ez1 ez5 ez25 eS26
        simp only [f6_kindFor, if_neg c2, if_pos c6]
      have hRR : z25 = tgt.1 := pr1 hR
      have hRS : S26 = tgt.2 := pr2 hR
      exact g_iret X hret hlk hw hRR hRS dX6_kindFor_23
set_option maxHeartbeats 4000000 in
set_option maxRecDepth 10000 in
theorem k_X6_coinsByWay (l : Launch) (G : tt_G) (S : tt_St) (d : Nat) (a2 : Int32) (a3 : Int32) (hd : d < 10) : c_MI l G yX6_coinsByWay (g_code yX6_coinsByWay cX6_coinsByWay 4 (some FieldType.int)) 0 0 [.ref (G.2.2 61), .ref (G.2.2 (10 * 0 + d)), .int a2, .int a3] S (f6_coinsByWay S d a2 a3) S := by
  generalize hF : f6_coinsByWay S d a2 a3 = tgt
  refine g_begin rfl (Nat.le_of_ble_eq_true rfl) _ (fun p e s m below meth c ls X hret hlk hB hl => ?_)
  obtain ⟨hP0, K⟩ := hB
  have hw : c_W G S s s.heap [] := ⟨hP0, va_S.rf⟩
  have X : CallFix p m c cX6_coinsByWay 4 s ([.ref (G.2.2 61), .ref (G.2.2 (10 * 0 + d)), .int a2, .int a3] : List Value).toArray tt_T "TrustTin" := X
  have hl : lv_has ls 4 [(0, .ref (G.2.2 61)), (1, .ref (G.2.2 (10 * 0 + d))), (2, .int a2), (3, .int a3)] := hl
  refine lv_iload_n X.1 X.2.1 dX6_coinsByWay_0 rfl (lv_at hl 2 rfl) ?_
  by_cases c1 : a2 = (0 : Int32)
  · refine lv_lookup (off := 27) (tgt := 28) X.1 X.2.1 dX6_coinsByWay_1 (by decide) (by rw [c1] <;> rfl) (by decide) ?_
    refine lv_aload_n X.1 X.2.1 dX6_coinsByWay_28 rfl (lv_at hl 1 rfl) ?_
    refine g_get (v := .int (S 0 (18 + 7 * d))) X K hw (by have := (by decide : 0 < 3); have := hd; omega) (tt_eD (r := 0) (d := d) (by decide : 0 < 3) hd) rfl iT1 6 (by decide) q143 rfl dX6_coinsByWay_29 ?_
    have hR : S 0 (18 + 7 * d) = tgt := by
      rw [← hF]
      simp only [f6_coinsByWay, if_pos c1]
    exact g_iret X hret hlk hw hR rfl dX6_coinsByWay_32
  by_cases c2 : a2 = (1 : Int32)
  · refine lv_lookup (off := 32) (tgt := 33) X.1 X.2.1 dX6_coinsByWay_1 (by decide) (by rw [c2] <;> rfl) (by decide) ?_
    refine lv_aload_n X.1 X.2.1 dX6_coinsByWay_33 rfl (lv_at hl 0 rfl) ?_
    refine g_get (v := .ref (G.2.2 30)) X K hw (by decide) tt_eT rfl iT6 0 (by decide) q280 rfl dX6_coinsByWay_34 ?_
    refine g_get (v := .int (S 0 1)) X K hw (by decide) (tt_eR (r := 0) (by decide : 0 < 3)) rfl iT2 2 (by decide) q166 rfl dX6_coinsByWay_37 ?_
    refine lv_aload_n X.1 X.2.1 dX6_coinsByWay_40 rfl (lv_at hl 1 rfl) ?_
    refine g_get (v := .int (S 0 (17 + 7 * d))) X K hw (by have := (by decide : 0 < 3); have := hd; omega) (tt_eD (r := 0) (d := d) (by decide : 0 < 3) hd) rfl iT1 5 (by decide) q140 rfl dX6_coinsByWay_41 ?_
    refine lv_imul X.1 X.2.1 dX6_coinsByWay_44 ?_
    have hR : (S 0 1) * (S 0 (17 + 7 * d)) = tgt := by
      rw [← hF]
      simp only [f6_coinsByWay, if_neg c1, if_pos c2]
    exact g_iret X hret hlk hw hR rfl dX6_coinsByWay_45
  refine lv_lookup (off := 45) (tgt := 46) X.1 X.2.1 dX6_coinsByWay_1 (by decide) (by show Op.lookupswitch.offset [(0, 27), (1, 32)] _ _ = _; rw [lv_osw (a := 0) c1 rfl, lv_osw (a := 1) c2 rfl] <;> rfl) (by decide) ?_
  refine lv_iload_n X.1 X.2.1 dX6_coinsByWay_46 rfl (lv_at hl 3 rfl) ?_
  have hR : a3 = tgt := by
    rw [← hF]
    simp only [f6_coinsByWay, if_neg c1, if_neg c2]
  exact g_iret X hret hlk hw hR rfl dX6_coinsByWay_47
set_option maxHeartbeats 4000000 in
set_option maxRecDepth 10000 in
theorem k_X6_lacks (l : Launch) (G : tt_G) (S : tt_St) (hp0 : ci S) : c_MI l G yX6_lacks (g_code yX6_lacks cX6_lacks 1 (some FieldType.int)) 3 64 [.ref (G.2.2 61)] S (f6_lacks S) S := by
  generalize hF : f6_lacks S = tgt
  refine g_begin rfl (Nat.le_of_ble_eq_true rfl) _ (fun p e s m below meth c ls X hret hlk hB hl => ?_)
  obtain ⟨hP0, K⟩ := hB
  have hw : c_W G S s s.heap [] := ⟨hP0, va_S.rf⟩
  have X : CallFix p m c cX6_lacks 1 s ([.ref (G.2.2 61)] : List Value).toArray tt_T "TrustTin" := X
  have hl : lv_has ls 1 [(0, .ref (G.2.2 61))] := hl
  refine lv_aload_n X.1 X.2.1 dX6_lacks_0 rfl (lv_at hl 0 rfl) ?_
  refine g_get (v := .ref (G.2.2 30)) X K hw (by decide) tt_eT rfl iT6 0 (by decide) q280 rfl dX6_lacks_1 ?_
  refine c_callVI_p X K hw (k_X2_due l G S 0 (by decide) (hp0.1 0 (by decide)).2) (g_cwV X hiX2_due q388 q389 q390 q68 q391 ⟨(Nat.le_of_ble_eq_true rfl), (Nat.le_of_ble_eq_true rfl)⟩) (by decide) (tt_eR (r := 0) (by decide : 0 < 3)) rfl rfl hl.1 rfl (Nat.le_of_ble_eq_true rfl) dX6_lacks_4 ⟨(Nat.le_of_ble_eq_true rfl), (Nat.le_of_ble_eq_true rfl)⟩ (fun z1 H locs ez1 hw => ?_)
  refine lv_aload_n X.1 X.2.1 dX6_lacks_7 rfl (lv_at hl 0 rfl) ?_
  refine g_get (v := .ref (G.2.2 30)) X K hw (by decide) tt_eT rfl iT6 0 (by decide) q280 rfl dX6_lacks_8 ?_
  refine lv_bipush (v := (6 : Int32)) X.1 X.2.1 dX6_lacks_11 (by decide) ?_
  refine c_callVI_p X K hw (k_X2_sumOf l G S 0 (6 : Int32) (by decide) (hp0.1 0 (by decide)).2) (g_cwV X hiX2_sumOf q397 q393 q394 q68 q395 ⟨(Nat.le_of_ble_eq_true rfl), (Nat.le_of_ble_eq_true rfl)⟩) (by decide) (tt_eR (r := 0) (by decide : 0 < 3)) rfl rfl hl.1 rfl (Nat.le_of_ble_eq_true rfl) dX6_lacks_13 ⟨(Nat.le_of_ble_eq_true rfl), (Nat.le_of_ble_eq_true rfl)⟩ (fun z2 H locs ez2 hw => ?_)
  refine lv_isub X.1 X.2.1 dX6_lacks_16 ?_
  refine lv_aload_n X.1 X.2.1 dX6_lacks_17 rfl (lv_at hl 0 rfl) ?_
  refine g_get (v := .ref (G.2.2 30)) X K hw (by decide) tt_eT rfl iT6 0 (by decide) q280 rfl dX6_lacks_18 ?_
  refine lv_iconst (v := (4 : Int32)) X.1 X.2.1 dX6_lacks_21 (by decide) ?_
  refine c_callVI_p X K hw (k_X2_sumOf l G S 0 (4 : Int32) (by decide) (hp0.1 0 (by decide)).2) (g_cwV X hiX2_sumOf q397 q393 q394 q68 q395 ⟨(Nat.le_of_ble_eq_true rfl), (Nat.le_of_ble_eq_true rfl)⟩) (by decide) (tt_eR (r := 0) (by decide : 0 < 3)) rfl rfl hl.1 rfl (Nat.le_of_ble_eq_true rfl) dX6_lacks_22 ⟨(Nat.le_of_ble_eq_true rfl), (Nat.le_of_ble_eq_true rfl)⟩ (fun z3 H locs ez3 hw => ?_)
  refine lv_isub X.1 X.2.1 dX6_lacks_25 ?_
  have hR : (z1 - z2) - z3 = tgt := by
    rw [← hF]
    subst ez1 ez2 ez3
    simp only [f6_lacks]
  exact g_iret X hret hlk hw hR rfl dX6_lacks_26
set_option maxHeartbeats 4000000 in
set_option maxRecDepth 10000 in
theorem k_X6_owes (l : Launch) (G : tt_G) (S : tt_St) (hp0 : ci S) : c_MI l G yX6_owes (g_code yX6_owes cX6_owes 5 (some FieldType.int)) 1 21 [.ref (G.2.2 61)] S ((f6_owes S).1) ((f6_owes S).2) := by
  generalize hF : f6_owes S = tgt
  refine g_begin rfl (Nat.le_of_ble_eq_true rfl) _ (fun p e s m below meth c ls X hret hlk hB hl => ?_)
  obtain ⟨hP0, K⟩ := hB
  have hw : c_W G S s s.heap [] := ⟨hP0, va_S.rf⟩
  have X : CallFix p m c cX6_owes 5 s ([.ref (G.2.2 61)] : List Value).toArray tt_T "TrustTin" := X
  have hl : lv_has ls 5 [(0, .ref (G.2.2 61))] := hl
  refine lv_aload_n X.1 X.2.1 dX6_owes_0 rfl (lv_at hl 0 rfl) ?_
  refine g_get (v := .ref (G.2.2 30)) X K hw (by decide) tt_eT rfl iT6 0 (by decide) q280 rfl dX6_owes_1 ?_
  refine g_get (v := .int (S 0 0)) X K hw (by decide) (tt_eR (r := 0) (by decide : 0 < 3)) rfl iT2 1 (by decide) q162 rfl dX6_owes_4 ?_
  refine lv_if_ne (tgt := 16) X.1 X.2.1 dX6_owes_7 (by decide) (fun c1 => ?_) (fun c1 => ?_)
  · refine lv_iconst (v := (0 : Int32)) X.1 X.2.1 dX6_owes_16 (by decide) ?_
    refine lv_istore_n (lv' := [(1, .int (0 : Int32)), (0, .ref (G.2.2 61))]) X.1 X.2.1 dX6_owes_17 rfl hl (by decide) rfl (fun ls hl => ?_)
    refine lv_aload_n X.1 X.2.1 dX6_owes_18 rfl (lv_at hl 1 rfl) ?_
    refine g_get (v := .ref (G.2.2 30)) X K hw (by decide) tt_eT rfl iT6 0 (by decide) q280 rfl dX6_owes_19 ?_
    refine lv_iconst (v := (0 : Int32)) X.1 X.2.1 dX6_owes_22 (by decide) ?_
    refine c_callVI_p X K hw (k_X2_owedBy l G S 0 (0 : Int32) (by decide) (by unfold vp_in; decide)) (g_cwV X hiX2_owedBy q579 q580 q581 q68 q582 ⟨(Nat.le_of_ble_eq_true rfl), (Nat.le_of_ble_eq_true rfl)⟩) (by decide) (tt_eR (r := 0) (by decide : 0 < 3)) rfl rfl hl.1 rfl (Nat.le_of_ble_eq_true rfl) dX6_owes_23 ⟨(Nat.le_of_ble_eq_true rfl), (Nat.le_of_ble_eq_true rfl)⟩ (fun z2 H locs ez2 hw => ?_)
    refine lv_istore_n (lv' := [(2, .int z2), (1, .int (0 : Int32)), (0, .ref (G.2.2 61))]) X.1 X.2.1 dX6_owes_26 rfl hl (by decide) rfl (fun ls hl => ?_)
    refine lv_iconst (v := (1 : Int32)) X.1 X.2.1 dX6_owes_27 (by decide) ?_
    refine lv_istore_n (lv' := [(3, .int (1 : Int32)), (2, .int z2), (1, .int (0 : Int32)), (0, .ref (G.2.2 61))]) X.1 X.2.1 dX6_owes_28 rfl hl (by decide) rfl (fun ls hl => ?_)
    have j29 : ∀ (n : Nat) (S3 : tt_St) (y1_29 : Int32) (y2_29 : Int32) (y3_29 : Int32) (H : Heap) (locs : List Loc) (ls : Array Slot), ((¬ y3_29 < 0) ∧ S3 = S) → lp_mu (S3 0 0) y3_29 < n → f6_owes_L29 n S3 y1_29 y2_29 y3_29 = tgt → c_W G S3 s H locs → lv_has ls 5 [(0, .ref (G.2.2 61)), (1, .int y1_29), (2, .int y2_29), (3, .int y3_29)] → W p l e (g_rm 1 21) s m ([.ref (G.2.2 61)] : List Value).toArray below meth c H locs 0 0 (MQ below (va_Qi (fun r T => r = tgt.1 ∧ T = tgt.2) (g_Post G 62 G.2.2 (tt_cell G)) (g_in 62 G.2.2)) ([.ref (G.2.2 61)] : List Value).toArray s 0 0 (g_in 62 G.2.2)) (F0 m 29 ls []) := by
      intro n
      induction n with
      | zero => intro S3 y1_29 y2_29 y3_29 H locs ls hI hm; exact absurd hm (Nat.not_lt_zero _)
      | succ n ih =>
        intro S3 y1_29 y2_29 y3_29 H locs ls hI hm hF hw hl
        refine lv_iload_n X.1 X.2.1 dX6_owes_29 rfl (lv_at hl 3 rfl) ?_
        refine lv_aload_n X.1 X.2.1 dX6_owes_30 rfl (lv_at hl 0 rfl) ?_
        refine g_get (v := .ref (G.2.2 30)) X K hw (by decide) tt_eT rfl iT6 0 (by decide) q280 rfl dX6_owes_31 ?_
        refine g_get (v := .int (S3 0 0)) X K hw (by decide) (tt_eR (r := 0) (by decide : 0 < 3)) rfl iT2 1 (by decide) q162 rfl dX6_owes_34 ?_
        refine lv_icmp_ge (tgt := 67) X.1 X.2.1 dX6_owes_37 (by decide) (fun c4 => ?_) (fun c4 => ?_)
        · refine lv_iload_n X.1 X.2.1 dX6_owes_67 rfl (lv_at hl 1 rfl) ?_
          have hR : (y1_29, S3) = tgt := by
            rw [← hF]
            simp only [f6_owes_L29, if_pos c4]
          have hRR : y1_29 = tgt.1 := pr1 hR
          have hRS : S3 = tgt.2 := pr2 hR
          exact g_iret X hret hlk hw hRR hRS dX6_owes_68
        · refine lv_aload_n X.1 X.2.1 dX6_owes_40 rfl (lv_at hl 0 rfl) ?_
          refine g_get (v := .ref (G.2.2 30)) X K hw (by decide) tt_eT rfl iT6 0 (by decide) q280 rfl dX6_owes_41 ?_
          refine lv_iload_n X.1 X.2.1 dX6_owes_44 rfl (lv_at hl 3 rfl) ?_
          refine c_callVI_p X K hw (k_X2_owedBy l G S3 0 y3_29 (by decide) (lp_in hI.1 c4 (by rw [hI.2]; exact (hp0.1 0 (by decide)).2))) (g_cwV X hiX2_owedBy q579 q580 q581 q68 q582 ⟨(Nat.le_of_ble_eq_true rfl), (Nat.le_of_ble_eq_true rfl)⟩) (by decide) (tt_eR (r := 0) (by decide : 0 < 3)) rfl rfl hl.1 rfl (Nat.le_of_ble_eq_true rfl) dX6_owes_45 ⟨(Nat.le_of_ble_eq_true rfl), (Nat.le_of_ble_eq_true rfl)⟩ (fun z5 H locs ez5 hw => ?_)
          refine lv_istore (lv' := [(4, .int z5), (0, .ref (G.2.2 61)), (1, .int y1_29), (2, .int y2_29), (3, .int y3_29)]) X.1 X.2.1 dX6_owes_48 hl (by decide) rfl (fun ls hl => ?_)
          refine lv_iload X.1 X.2.1 dX6_owes_50 (lv_at hl 0 rfl) ?_
          refine lv_iload_n X.1 X.2.1 dX6_owes_52 rfl (lv_at hl 3 rfl) ?_
          refine lv_icmp_le (tgt := 61) X.1 X.2.1 dX6_owes_53 (by decide) (fun c6 => ?_) (fun c6 => ?_)
          · obtain ⟨x7, ex7⟩ : ∃ y : Int32, y = y3_29 + (1 : Int32) := ⟨_, rfl⟩
            refine lv_iinc (v := x7) (lv' := [(3, .int x7), (4, .int z5), (0, .ref (G.2.2 61)), (1, .int y1_29), (2, .int y2_29)]) X.1 X.2.1 dX6_owes_61 hl (k := 4) rfl (by rw [ex7]; rfl) (by decide) rfl (fun ls hl => ?_)
            refine lv_goto (tgt := 29) X.1 X.2.1 dX6_owes_64 (by decide) ?_
            have hF2 : f6_owes_L29 n S3 y1_29 y2_29 x7 = tgt := by
              rw [← hF]
              subst ez5 ex7
              simp only [f6_owes_L29, if_neg c4, if_pos c6]
            exact ih S3 y1_29 y2_29 x7 _ _ ls (⟨by rw [ex7]; exact lp_nn hI.1 c4, hI.2⟩) (by rw [ex7]; exact lp_dec' c4 hm) hF2 hw (lv_sub hl [2, 3, 4, 0] rfl)
          · refine lv_iload X.1 X.2.1 dX6_owes_56 (lv_at hl 0 rfl) ?_
            refine lv_istore_n (lv' := [(2, .int z5), (4, .int z5), (0, .ref (G.2.2 61)), (1, .int y1_29), (3, .int y3_29)]) X.1 X.2.1 dX6_owes_58 rfl hl (by decide) rfl (fun ls hl => ?_)
            refine lv_iload_n X.1 X.2.1 dX6_owes_59 rfl (lv_at hl 4 rfl) ?_
            refine lv_istore_n (lv' := [(1, .int y3_29), (2, .int z5), (4, .int z5), (0, .ref (G.2.2 61)), (3, .int y3_29)]) X.1 X.2.1 dX6_owes_60 rfl hl (by decide) rfl (fun ls hl => ?_)
            obtain ⟨x8, ex8⟩ : ∃ y : Int32, y = y3_29 + (1 : Int32) := ⟨_, rfl⟩
            refine lv_iinc (v := x8) (lv' := [(3, .int x8), (1, .int y3_29), (2, .int z5), (4, .int z5), (0, .ref (G.2.2 61))]) X.1 X.2.1 dX6_owes_61 hl (k := 4) rfl (by rw [ex8]; rfl) (by decide) rfl (fun ls hl => ?_)
            refine lv_goto (tgt := 29) X.1 X.2.1 dX6_owes_64 (by decide) ?_
            have hF2 : f6_owes_L29 n S3 y3_29 z5 x8 = tgt := by
              rw [← hF]
              subst ez5 ex8
              simp only [f6_owes_L29, if_neg c4, if_neg c6]
            exact ih S3 y3_29 z5 x8 _ _ ls (⟨by rw [ex8]; exact lp_nn hI.1 c4, hI.2⟩) (by rw [ex8]; exact lp_dec' c4 hm) hF2 hw (lv_sub hl [4, 1, 2, 0] rfl)
    have hF2 : f6_owes_L29 (lp_mu (S 0 0) 1 + 1) S (0 : Int32) z2 (1 : Int32) = tgt := by
      rw [← hF]
      subst ez2
      simp only [f6_owes, if_neg c1]
    exact j29 (lp_mu (S 0 0) 1 + 1) S (0 : Int32) z2 (1 : Int32) _ _ ls (⟨by decide, rfl⟩) (Nat.lt_succ_self _) hF2 hw (lv_sub hl [3, 2, 1, 0] rfl)
  · refine lv_aload_n X.1 X.2.1 dX6_owes_10 rfl (lv_at hl 0 rfl) ?_
    refine lv_iconst (v := (3 : Int32)) X.1 X.2.1 dX6_owes_11 (by decide) ?_
    refine c_callVI_s X K hw (k_X6_tell l G S (3 : Int32) (by unfold vp_in; decide)) (g_cwV X hiX6_tell q312 q314 q0 q67 q315 ⟨(Nat.le_of_ble_eq_true rfl), (Nat.le_of_ble_eq_true rfl)⟩) (by decide) tt_eT rfl rfl hl.1 rfl (Nat.le_of_ble_eq_true rfl) dX6_owes_12 ⟨(Nat.le_of_ble_eq_true rfl), (Nat.le_of_ble_eq_true rfl)⟩ (fun z9 S10 H locs ez9 eS10 hw => ?_)
    have hR : (z9, S10) = tgt := by
      rw [← hF]
      subst ez9 eS10
      simp only [f6_owes, if_pos c1]
    have hRR : z9 = tgt.1 := pr1 hR
    have hRS : S10 = tgt.2 := pr2 hR
    exact g_iret X hret hlk hw hRR hRS dX6_owes_15
set_option maxHeartbeats 4000000 in
set_option maxRecDepth 10000 in
theorem k_X6_odds (l : Launch) (G : tt_G) (S : tt_St) (a1 : Int32) (a2 : Int32) (hp0 : ci S) : c_MI l G yX6_odds (g_code yX6_odds cX6_odds 5 (some FieldType.int)) 6 148 [.ref (G.2.2 61), .int a1, .int a2] S ((f6_odds S a1 a2).1) ((f6_odds S a1 a2).2) := by
  generalize hF : f6_odds S a1 a2 = tgt
  refine g_begin rfl (Nat.le_of_ble_eq_true rfl) _ (fun p e s m below meth c ls X hret hlk hB hl => ?_)
  obtain ⟨hP0, K⟩ := hB
  have hw : c_W G S s s.heap [] := ⟨hP0, va_S.rf⟩
  have X : CallFix p m c cX6_odds 5 s ([.ref (G.2.2 61), .int a1, .int a2] : List Value).toArray tt_T "TrustTin" := X
  have hl : lv_has ls 5 [(0, .ref (G.2.2 61)), (1, .int a1), (2, .int a2)] := hl
  refine lv_iload_n X.1 X.2.1 dX6_odds_0 rfl (lv_at hl 1 rfl) ?_
  refine lv_iconst (v := (1 : Int32)) X.1 X.2.1 dX6_odds_1 (by decide) ?_
  refine lv_bipush (v := (20 : Int32)) X.1 X.2.1 dX6_odds_2 (by decide) ?_
  refine c_callSI_p X K hw (k_X6_within l G S a1 (1 : Int32) (20 : Int32)) (g_cwS X hiX6_within q309 q310 q67 q311 ⟨(Nat.le_of_ble_eq_true rfl), (Nat.le_of_ble_eq_true rfl)⟩) rfl hl.1 rfl (Nat.le_of_ble_eq_true rfl) dX6_odds_4 ⟨(Nat.le_of_ble_eq_true rfl), (Nat.le_of_ble_eq_true rfl)⟩ (fun z1 H locs ez1 hw => ?_)
  refine lv_if_eq (tgt := 21) X.1 X.2.1 dX6_odds_7 (by decide) (fun c2 => ?_) (fun c2 => ?_)
  · refine lv_aload_n X.1 X.2.1 dX6_odds_21 rfl (lv_at hl 0 rfl) ?_
    refine lv_iconst (v := (0 : Int32)) X.1 X.2.1 dX6_odds_22 (by decide) ?_
    refine c_callVI_s X K hw (k_X6_tell l G S (0 : Int32) (by unfold vp_in; decide)) (g_cwV X hiX6_tell q312 q314 q0 q67 q315 ⟨(Nat.le_of_ble_eq_true rfl), (Nat.le_of_ble_eq_true rfl)⟩) (by decide) tt_eT rfl rfl hl.1 rfl (Nat.le_of_ble_eq_true rfl) dX6_odds_23 ⟨(Nat.le_of_ble_eq_true rfl), (Nat.le_of_ble_eq_true rfl)⟩ (fun z3 S4 H locs ez3 eS4 hw => ?_)
    have hR : (z3, S4) = tgt := by
      rw [← hF]
      subst ez1 ez3 eS4
      simp only [f6_odds, if_pos c2]
    have hRR : z3 = tgt.1 := pr1 hR
    have hRS : S4 = tgt.2 := pr2 hR
    exact g_iret X hret hlk hw hRR hRS dX6_odds_26
  · refine lv_iload_n X.1 X.2.1 dX6_odds_10 rfl (lv_at hl 2 rfl) ?_
    refine lv_iconst (v := (0 : Int32)) X.1 X.2.1 dX6_odds_11 (by decide) ?_
    refine lv_sipush (v := (9999 : Int32)) X.1 X.2.1 dX6_odds_12 (by decide) ?_
    refine c_callSI_p X K hw (k_X6_within l G S a2 (0 : Int32) (9999 : Int32)) (g_cwS X hiX6_within q309 q310 q67 q311 ⟨(Nat.le_of_ble_eq_true rfl), (Nat.le_of_ble_eq_true rfl)⟩) rfl hl.1 rfl (Nat.le_of_ble_eq_true rfl) dX6_odds_15 ⟨(Nat.le_of_ble_eq_true rfl), (Nat.le_of_ble_eq_true rfl)⟩ (fun z5 H locs ez5 hw => ?_)
    refine lv_if_ne (tgt := 27) X.1 X.2.1 dX6_odds_18 (by decide) (fun c6 => ?_) (fun c6 => ?_)
    · refine lv_aload_n X.1 X.2.1 dX6_odds_27 rfl (lv_at hl 0 rfl) ?_
      refine lv_iconst (v := (5 : Int32)) X.1 X.2.1 dX6_odds_28 (by decide) ?_
      refine c_callVI_p X K hw (k_X6_isTooLate l G S (5 : Int32)) (g_cwV X hiX6_isTooLate q402 q404 q5 q67 q405 ⟨(Nat.le_of_ble_eq_true rfl), (Nat.le_of_ble_eq_true rfl)⟩) (by decide) tt_eT rfl rfl hl.1 rfl (Nat.le_of_ble_eq_true rfl) dX6_odds_29 ⟨(Nat.le_of_ble_eq_true rfl), (Nat.le_of_ble_eq_true rfl)⟩ (fun z7 H locs ez7 hw => ?_)
      refine lv_if_eq (tgt := 41) X.1 X.2.1 dX6_odds_32 (by decide) (fun c8 => ?_) (fun c8 => ?_)
      · refine lv_iconst (v := (0 : Int32)) X.1 X.2.1 dX6_odds_41 (by decide) ?_
        refine lv_istore_n (lv' := [(3, .int (0 : Int32)), (0, .ref (G.2.2 61)), (1, .int a1), (2, .int a2)]) X.1 X.2.1 dX6_odds_42 rfl hl (by decide) rfl (fun ls hl => ?_)
        refine lv_iconst (v := (0 : Int32)) X.1 X.2.1 dX6_odds_43 (by decide) ?_
        refine lv_istore (lv' := [(4, .int (0 : Int32)), (3, .int (0 : Int32)), (0, .ref (G.2.2 61)), (1, .int a1), (2, .int a2)]) X.1 X.2.1 dX6_odds_44 hl (by decide) rfl (fun ls hl => ?_)
        have j46 : ∀ (n : Nat) (S9 : tt_St) (y3_46 : Int32) (y4_46 : Int32) (H : Heap) (locs : List Loc) (ls : Array Slot), (ci S9 ∧ ¬ y4_46 < 0) → lp_mu a1 y4_46 < n → f6_odds_L46 a1 a2 n S9 y3_46 y4_46 = tgt → c_W G S9 s H locs → lv_has ls 5 [(0, .ref (G.2.2 61)), (1, .int a1), (2, .int a2), (3, .int y3_46), (4, .int y4_46)] → W p l e (g_rm 6 148) s m ([.ref (G.2.2 61), .int a1, .int a2] : List Value).toArray below meth c H locs 0 0 (MQ below (va_Qi (fun r T => r = tgt.1 ∧ T = tgt.2) (g_Post G 62 G.2.2 (tt_cell G)) (g_in 62 G.2.2)) ([.ref (G.2.2 61), .int a1, .int a2] : List Value).toArray s 0 0 (g_in 62 G.2.2)) (F0 m 46 ls []) := by
          intro n
          induction n with
          | zero => intro S9 y3_46 y4_46 H locs ls hI hm; exact absurd hm (Nat.not_lt_zero _)
          | succ n ih =>
            intro S9 y3_46 y4_46 H locs ls hI hm hF hw hl
            refine lv_iload X.1 X.2.1 dX6_odds_46 (lv_at hl 4 rfl) ?_
            refine lv_iload_n X.1 X.2.1 dX6_odds_48 rfl (lv_at hl 1 rfl) ?_
            refine lv_icmp_ge (tgt := 98) X.1 X.2.1 dX6_odds_49 (by decide) (fun c10 => ?_) (fun c10 => ?_)
            · refine lv_iload_n X.1 X.2.1 dX6_odds_98 rfl (lv_at hl 3 rfl) ?_
              have hR : (y3_46, S9) = tgt := by
                rw [← hF]
                simp only [f6_odds_L46, if_pos c10]
              have hRR : y3_46 = tgt.1 := pr1 hR
              have hRS : S9 = tgt.2 := pr2 hR
              exact g_iret X hret hlk hw hRR hRS dX6_odds_99
            · refine lv_aload_n X.1 X.2.1 dX6_odds_52 rfl (lv_at hl 0 rfl) ?_
              refine g_get (v := .ref (G.2.2 32)) X K hw (by decide) tt_eT rfl iT6 2 (by decide) q282 rfl dX6_odds_53 ?_
              refine lv_aload_n X.1 X.2.1 dX6_odds_56 rfl (lv_at hl 0 rfl) ?_
              refine g_get (v := .ref (G.2.2 30)) X K hw (by decide) tt_eT rfl iT6 0 (by decide) q280 rfl dX6_odds_57 ?_
              refine c_callVV_s X K hw (k_X2_takeRoom l G S9 2 0 (by decide) (by decide) ((hI.1.1 0 (by decide)).2) (by decide)) (g_cwV X hiX2_takeRoom q510 q511 q512 q68 q513 ⟨(Nat.le_of_ble_eq_true rfl), (Nat.le_of_ble_eq_true rfl)⟩) (by decide) (tt_eR (r := 2) (by decide : 2 < 3)) rfl rfl hl.1 rfl (Nat.le_of_ble_eq_true rfl) dX6_odds_60 ⟨(Nat.le_of_ble_eq_true rfl), (Nat.le_of_ble_eq_true rfl)⟩ (fun S11 H locs eS11 hw => ?_)
              refine lv_aload_n X.1 X.2.1 dX6_odds_63 rfl (lv_at hl 0 rfl) ?_
              refine g_get (v := .ref (G.2.2 32)) X K hw (by decide) tt_eT rfl iT6 2 (by decide) q282 rfl dX6_odds_64 ?_
              refine lv_iconst (v := (5 : Int32)) X.1 X.2.1 dX6_odds_67 (by decide) ?_
              refine c_callVI_s X K hw (k_X2_goDays l G S11 2 (5 : Int32) (by decide) (by subst eS11; rw [tk_lo (by decide) (by decide)]; exact (hI.1.1 0 (by decide)).2)) (g_cwV X hiX2_goDays q406 q407 q408 q68 q409 ⟨(Nat.le_of_ble_eq_true rfl), (Nat.le_of_ble_eq_true rfl)⟩) (by decide) (tt_eR (r := 2) (by decide : 2 < 3)) rfl rfl hl.1 rfl (Nat.le_of_ble_eq_true rfl) dX6_odds_68 ⟨(Nat.le_of_ble_eq_true rfl), (Nat.le_of_ble_eq_true rfl)⟩ (fun z12 S13 H locs ez12 eS13 hw => ?_)
              refine lv_iload_n X.1 X.2.1 dX6_odds_71 rfl (lv_at hl 2 rfl) ?_
              refine lv_icmp_lt (tgt := 78) X.1 X.2.1 dX6_odds_72 (by decide) (fun c14 => ?_) (fun c14 => ?_)
              · refine lv_aload_n X.1 X.2.1 dX6_odds_78 rfl (lv_at hl 0 rfl) ?_
                refine g_get (v := .ref (G.2.2 30)) X K hw (by decide) tt_eT rfl iT6 0 (by decide) q280 rfl dX6_odds_79 ?_
                refine lv_aload_n X.1 X.2.1 dX6_odds_82 rfl (lv_at hl 0 rfl) ?_
                refine g_get (v := .ref (G.2.2 32)) X K hw (by decide) tt_eT rfl iT6 2 (by decide) q282 rfl dX6_odds_83 ?_
                refine g_get (v := .int (S13 2 10)) X K hw (by decide) (tt_eR (r := 2) (by decide : 2 < 3)) rfl iT2 11 (by decide) q185 rfl dX6_odds_86 ?_
                refine lv_topi (fun x15 ex15 => ?_)
                refine g_put (S' := tt_up S13 0 10 x15) X K (c_ap K) hw (by decide) (tt_eR (r := 0) (by decide : 0 < 3)) rfl iT2 tyX2_ok nmX2 11 (by decide) q185 rfl rfl rfl (Nat.le_of_ble_eq_true rfl) (tt_sR (r := 0) (k := 10) (by decide : 0 < 3) (by decide)) dX6_odds_89 (fun S16 H locs eS16 hw => ?_)
                obtain ⟨x17, ex17⟩ : ∃ y : Int32, y = y4_46 + (1 : Int32) := ⟨_, rfl⟩
                refine lv_iinc (v := x17) (lv' := [(4, .int x17), (0, .ref (G.2.2 61)), (1, .int a1), (2, .int a2), (3, .int y3_46)]) X.1 X.2.1 dX6_odds_92 hl (k := 4) rfl (by rw [ex17]; rfl) (by decide) rfl (fun ls hl => ?_)
                refine lv_goto (tgt := 46) X.1 X.2.1 dX6_odds_95 (by decide) ?_
                have hF2 : f6_odds_L46 a1 a2 n S16 y3_46 x17 = tgt := by
                  rw [← hF]
                  subst eS11 ez12 eS13 ex15 eS16 ex17
                  simp only [f6_odds_L46, if_neg c10, if_pos c14]
                exact ih S16 y3_46 x17 _ _ ls (⟨by subst eS11 ez12 eS13 ex15 eS16 ex17; exact ci_10 (ci_tf hI.1 (tf_tr (tf_take _ 0) (tf_go _ _))), by rw [ex17]; exact lp_nn hI.2 c10⟩) (by rw [ex17]; exact lp_dec' c10 hm) hF2 hw (lv_sub hl [1, 2, 3, 4, 0] rfl)
              · obtain ⟨x18, ex18⟩ : ∃ y : Int32, y = y3_46 + (1 : Int32) := ⟨_, rfl⟩
                refine lv_iinc (v := x18) (lv' := [(3, .int x18), (0, .ref (G.2.2 61)), (1, .int a1), (2, .int a2), (4, .int y4_46)]) X.1 X.2.1 dX6_odds_75 hl (k := 3) rfl (by rw [ex18]; rfl) (by decide) rfl (fun ls hl => ?_)
                refine lv_aload_n X.1 X.2.1 dX6_odds_78 rfl (lv_at hl 1 rfl) ?_
                refine g_get (v := .ref (G.2.2 30)) X K hw (by decide) tt_eT rfl iT6 0 (by decide) q280 rfl dX6_odds_79 ?_
                refine lv_aload_n X.1 X.2.1 dX6_odds_82 rfl (lv_at hl 1 rfl) ?_
                refine g_get (v := .ref (G.2.2 32)) X K hw (by decide) tt_eT rfl iT6 2 (by decide) q282 rfl dX6_odds_83 ?_
                refine g_get (v := .int (S13 2 10)) X K hw (by decide) (tt_eR (r := 2) (by decide : 2 < 3)) rfl iT2 11 (by decide) q185 rfl dX6_odds_86 ?_
                refine lv_topi (fun x19 ex19 => ?_)
                refine g_put (S' := tt_up S13 0 10 x19) X K (c_ap K) hw (by decide) (tt_eR (r := 0) (by decide : 0 < 3)) rfl iT2 tyX2_ok nmX2 11 (by decide) q185 rfl rfl rfl (Nat.le_of_ble_eq_true rfl) (tt_sR (r := 0) (k := 10) (by decide : 0 < 3) (by decide)) dX6_odds_89 (fun S20 H locs eS20 hw => ?_)
                obtain ⟨x21, ex21⟩ : ∃ y : Int32, y = y4_46 + (1 : Int32) := ⟨_, rfl⟩
                refine lv_iinc (v := x21) (lv' := [(4, .int x21), (3, .int x18), (0, .ref (G.2.2 61)), (1, .int a1), (2, .int a2)]) X.1 X.2.1 dX6_odds_92 hl (k := 4) rfl (by rw [ex21]; rfl) (by decide) rfl (fun ls hl => ?_)
                refine lv_goto (tgt := 46) X.1 X.2.1 dX6_odds_95 (by decide) ?_
                have hF2 : f6_odds_L46 a1 a2 n S20 x18 x21 = tgt := by
                  rw [← hF]
                  subst eS11 ez12 eS13 ex18 ex19 eS20 ex21
                  simp only [f6_odds_L46, if_neg c10, if_neg c14]
                exact ih S20 x18 x21 _ _ ls (⟨by subst eS11 ez12 eS13 ex18 ex19 eS20 ex21; exact ci_10 (ci_tf hI.1 (tf_tr (tf_take _ 0) (tf_go _ _))), by rw [ex21]; exact lp_nn hI.2 c10⟩) (by rw [ex21]; exact lp_dec' c10 hm) hF2 hw (lv_sub hl [2, 3, 4, 1, 0] rfl)
        have hF2 : f6_odds_L46 a1 a2 (lp_mu a1 0 + 1) S (0 : Int32) (0 : Int32) = tgt := by
          rw [← hF]
          subst ez1 ez5 ez7
          simp only [f6_odds, if_neg c2, if_neg c6, if_pos c8]
        exact j46 (lp_mu a1 0 + 1) S (0 : Int32) (0 : Int32) _ _ ls (⟨hp0, by decide⟩) (Nat.lt_succ_self _) hF2 hw (lv_sub hl [2, 3, 4, 1, 0] rfl)
      · refine lv_aload_n X.1 X.2.1 dX6_odds_35 rfl (lv_at hl 0 rfl) ?_
        refine lv_iconst (v := (4 : Int32)) X.1 X.2.1 dX6_odds_36 (by decide) ?_
        refine c_callVI_s X K hw (k_X6_tell l G S (4 : Int32) (by unfold vp_in; decide)) (g_cwV X hiX6_tell q312 q314 q0 q67 q315 ⟨(Nat.le_of_ble_eq_true rfl), (Nat.le_of_ble_eq_true rfl)⟩) (by decide) tt_eT rfl rfl hl.1 rfl (Nat.le_of_ble_eq_true rfl) dX6_odds_37 ⟨(Nat.le_of_ble_eq_true rfl), (Nat.le_of_ble_eq_true rfl)⟩ (fun z22 S23 H locs ez22 eS23 hw => ?_)
        have hR : (z22, S23) = tgt := by
          rw [← hF]
          subst ez1 ez5 ez7 ez22 eS23
          simp only [f6_odds, if_neg c2, if_neg c6, if_neg c8]
        have hRR : z22 = tgt.1 := pr1 hR
        have hRS : S23 = tgt.2 := pr2 hR
        exact g_iret X hret hlk hw hRR hRS dX6_odds_40
    · refine lv_aload_n X.1 X.2.1 dX6_odds_21 rfl (lv_at hl 0 rfl) ?_
      refine lv_iconst (v := (0 : Int32)) X.1 X.2.1 dX6_odds_22 (by decide) ?_
      refine c_callVI_s X K hw (k_X6_tell l G S (0 : Int32) (by unfold vp_in; decide)) (g_cwV X hiX6_tell q312 q314 q0 q67 q315 ⟨(Nat.le_of_ble_eq_true rfl), (Nat.le_of_ble_eq_true rfl)⟩) (by decide) tt_eT rfl rfl hl.1 rfl (Nat.le_of_ble_eq_true rfl) dX6_odds_23 ⟨(Nat.le_of_ble_eq_true rfl), (Nat.le_of_ble_eq_true rfl)⟩ (fun z24 S25 H locs ez24 eS25 hw => ?_)
      have hR : (z24, S25) = tgt := by
        rw [← hF]
        subst ez1 ez5 ez24 eS25
        simp only [f6_odds, if_neg c2, if_pos c6]
      have hRR : z24 = tgt.1 := pr1 hR
      have hRS : S25 = tgt.2 := pr2 hR
      exact g_iret X hret hlk hw hRR hRS dX6_odds_26
set_option maxHeartbeats 4000000 in
set_option maxRecDepth 10000 in
theorem k_X6_seed (l : Launch) (G : tt_G) (S : tt_St) (a1 : Int32) (hp0 : ci S) : c_MI l G yX6_seed (g_code yX6_seed cX6_seed 3 (some FieldType.int)) 0 0 [.ref (G.2.2 61), .int a1] S ((f6_seed S a1).1) ((f6_seed S a1).2) := by
  generalize hF : f6_seed S a1 = tgt
  refine g_begin rfl (Nat.le_of_ble_eq_true rfl) _ (fun p e s m below meth c ls X hret hlk hB hl => ?_)
  obtain ⟨hP0, K⟩ := hB
  have hw : c_W G S s s.heap [] := ⟨hP0, va_S.rf⟩
  have X : CallFix p m c cX6_seed 3 s ([.ref (G.2.2 61), .int a1] : List Value).toArray tt_T "TrustTin" := X
  have hl : lv_has ls 3 [(0, .ref (G.2.2 61)), (1, .int a1)] := hl
  refine lv_aload_n X.1 X.2.1 dX6_seed_0 rfl (lv_at hl 0 rfl) ?_
  refine g_get (v := .ref (G.2.2 30)) X K hw (by decide) tt_eT rfl iT6 0 (by decide) q280 rfl dX6_seed_1 ?_
  refine g_get (v := .int (S 0 10)) X K hw (by decide) (tt_eR (r := 0) (by decide : 0 < 3)) rfl iT2 11 (by decide) q185 rfl dX6_seed_4 ?_
  refine lv_topi (fun x1 ex1 => ?_)
  refine lv_istore_n (lv' := [(2, .int x1), (0, .ref (G.2.2 61)), (1, .int a1)]) X.1 X.2.1 dX6_seed_7 rfl hl (by decide) rfl (fun ls hl => ?_)
  refine lv_aload_n X.1 X.2.1 dX6_seed_8 rfl (lv_at hl 1 rfl) ?_
  refine g_get (v := .ref (G.2.2 30)) X K hw (by decide) tt_eT rfl iT6 0 (by decide) q280 rfl dX6_seed_9 ?_
  refine lv_iload_n X.1 X.2.1 dX6_seed_12 rfl (lv_at hl 2 rfl) ?_
  refine g_put (S' := tt_up S 0 10 a1) X K (c_ap K) hw (by decide) (tt_eR (r := 0) (by decide : 0 < 3)) rfl iT2 tyX2_ok nmX2 11 (by decide) q185 rfl rfl rfl (Nat.le_of_ble_eq_true rfl) (tt_sR (r := 0) (k := 10) (by decide : 0 < 3) (by decide)) dX6_seed_13 (fun S2 H locs eS2 hw => ?_)
  refine lv_iload_n X.1 X.2.1 dX6_seed_16 rfl (lv_at hl 0 rfl) ?_
  have hR : (x1, S2) = tgt := by
    rw [← hF]
    subst ex1 eS2
    simp only [f6_seed]
  have hRR : x1 = tgt.1 := pr1 hR
  have hRS : S2 = tgt.2 := pr2 hR
  exact g_iret X hret hlk hw hRR hRS dX6_seed_17
set_option maxHeartbeats 4000000 in
set_option maxRecDepth 10000 in
theorem k_X6_wipe (l : Launch) (G : tt_G) (S : tt_St) (hp0 : ci S) : c_MI l G yX6_wipe (g_code yX6_wipe cX6_wipe 2 (some FieldType.int)) 0 0 [.ref (G.2.2 61)] S ((f6_wipe S).1) ((f6_wipe S).2) := by
  generalize hF : f6_wipe S = tgt
  refine g_begin rfl (Nat.le_of_ble_eq_true rfl) _ (fun p e s m below meth c ls X hret hlk hB hl => ?_)
  obtain ⟨hP0, K⟩ := hB
  have hw : c_W G S s s.heap [] := ⟨hP0, va_S.rf⟩
  have X : CallFix p m c cX6_wipe 2 s ([.ref (G.2.2 61)] : List Value).toArray tt_T "TrustTin" := X
  have hl : lv_has ls 2 [(0, .ref (G.2.2 61))] := hl
  refine lv_aload_n X.1 X.2.1 dX6_wipe_0 rfl (lv_at hl 0 rfl) ?_
  refine g_get (v := .ref (G.2.2 56)) X K hw (by decide) tt_eT rfl iT6 4 (by decide) q284 rfl dX6_wipe_1 ?_
  refine g_get (v := .int (S 3 1)) X K hw (by decide) tt_eTp rfl iT4 1 (by decide) q229 rfl dX6_wipe_4 ?_
  refine lv_topi (fun x1 ex1 => ?_)
  refine lv_istore_n (lv' := [(1, .int x1), (0, .ref (G.2.2 61))]) X.1 X.2.1 dX6_wipe_7 rfl hl (by decide) rfl (fun ls hl => ?_)
  refine lv_aload_n X.1 X.2.1 dX6_wipe_8 rfl (lv_at hl 1 rfl) ?_
  refine g_get (v := .ref (G.2.2 56)) X K hw (by decide) tt_eT rfl iT6 4 (by decide) q284 rfl dX6_wipe_9 ?_
  refine lv_iconst (v := (0 : Int32)) X.1 X.2.1 dX6_wipe_12 (by decide) ?_
  refine g_put (S' := tt_up S 3 1 (0 : Int32)) X K (c_ap K) hw (by decide) tt_eTp rfl iT4 tyX4_ok nmX4 1 (by decide) q229 rfl rfl rfl (Nat.le_of_ble_eq_true rfl) tt_sTp dX6_wipe_13 (fun S2 H locs eS2 hw => ?_)
  refine lv_iload_n X.1 X.2.1 dX6_wipe_16 rfl (lv_at hl 0 rfl) ?_
  have hR : (x1, S2) = tgt := by
    rw [← hF]
    subst ex1 eS2
    simp only [f6_wipe]
  have hRR : x1 = tgt.1 := pr1 hR
  have hRS : S2 = tgt.2 := pr2 hR
  exact g_iret X hret hlk hw hRR hRS dX6_wipe_17
