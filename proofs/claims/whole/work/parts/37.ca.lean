set_option maxHeartbeats 4000000 in
set_option maxRecDepth 10000 in
theorem k_X6_hold (l : Launch) (G : tt_G) (S : tt_St) (a1 : Int32) (a2 : Int32) (hp0 : ci S) : c_MI l G yX6_hold (g_code yX6_hold cX6_hold 3 (some FieldType.int)) 2 43 [.ref (G.2.2 61), .int a1, .int a2] S ((f6_hold S a1 a2).1) ((f6_hold S a1 a2).2) := by
  generalize hF : f6_hold S a1 a2 = tgt
  refine g_begin rfl (Nat.le_of_ble_eq_true rfl) _ (fun p e s m below meth c ls X hret hlk hB hl => ?_)
  obtain ⟨hP0, K⟩ := hB
  have hw : c_W G S s s.heap [] := ⟨hP0, va_S.rf⟩
  have X : CallFix p m c cX6_hold 3 s ([.ref (G.2.2 61), .int a1, .int a2] : List Value).toArray tt_T "TrustTin" := X
  have hl : lv_has ls 3 [(0, .ref (G.2.2 61)), (1, .int a1), (2, .int a2)] := hl
  refine lv_iload_n X.1 X.2.1 dX6_hold_0 rfl (lv_at hl 1 rfl) ?_
  refine lv_iconst (v := (0 : Int32)) X.1 X.2.1 dX6_hold_1 (by decide) ?_
  refine lv_bipush (v := (9 : Int32)) X.1 X.2.1 dX6_hold_2 (by decide) ?_
  refine c_callSI_p X K hw (k_X6_within l G S a1 (0 : Int32) (9 : Int32)) (g_cwS X hiX6_within q309 q310 q67 q311 ⟨(Nat.le_of_ble_eq_true rfl), (Nat.le_of_ble_eq_true rfl)⟩) rfl hl.1 rfl (Nat.le_of_ble_eq_true rfl) dX6_hold_4 ⟨(Nat.le_of_ble_eq_true rfl), (Nat.le_of_ble_eq_true rfl)⟩ (fun z1 H locs ez1 hw => ?_)
  refine lv_if_eq (tgt := 23) X.1 X.2.1 dX6_hold_7 (by decide) (fun c2 => ?_) (fun c2 => ?_)
  · refine lv_aload_n X.1 X.2.1 dX6_hold_23 rfl (lv_at hl 0 rfl) ?_
    refine lv_iconst (v := (0 : Int32)) X.1 X.2.1 dX6_hold_24 (by decide) ?_
    refine c_callVI_s X K hw (k_X6_tell l G S (0 : Int32) (by unfold vp_in; decide)) (g_cwV X hiX6_tell q312 q314 q0 q67 q315 ⟨(Nat.le_of_ble_eq_true rfl), (Nat.le_of_ble_eq_true rfl)⟩) (by decide) tt_eT rfl rfl hl.1 rfl (Nat.le_of_ble_eq_true rfl) dX6_hold_25 ⟨(Nat.le_of_ble_eq_true rfl), (Nat.le_of_ble_eq_true rfl)⟩ (fun z3 S4 H locs ez3 eS4 hw => ?_)
    have hR : (z3, S4) = tgt := by
      rw [← hF]
      subst ez1 ez3 eS4
      simp only [f6_hold, if_pos c2]
    have hRR : z3 = tgt.1 := pr1 hR
    have hRS : S4 = tgt.2 := pr2 hR
    exact g_iret X hret hlk hw hRR hRS dX6_hold_28
  · refine lv_iload_n X.1 X.2.1 dX6_hold_10 rfl (lv_at hl 2 rfl) ?_
    refine lv_iconst (v := (-1 : Int32)) X.1 X.2.1 dX6_hold_11 (by decide) ?_
    refine lv_icmp_eq (tgt := 29) X.1 X.2.1 dX6_hold_12 (by decide) (fun c5 => ?_) (fun c5 => ?_)
    · refine lv_aload_n X.1 X.2.1 dX6_hold_29 rfl (lv_at hl 0 rfl) ?_
      refine g_get (v := .ref (G.2.2 30)) X K hw (by decide) tt_eT rfl iT6 0 (by decide) q280 rfl dX6_hold_30 ?_
      refine g_get (v := .ref (G.2.2 45)) X K hw (by decide) (tt_eR (r := 0) (by decide : 0 < 3)) rfl iT2 13 (by decide) q189 rfl dX6_hold_33 ?_
      refine lv_iload_n X.1 X.2.1 dX6_hold_36 rfl (lv_at hl 1 rfl) ?_
      refine lv_iload_n X.1 X.2.1 dX6_hold_37 rfl (lv_at hl 2 rfl) ?_
      have hi6 : vp_in a1 10 := wi_in ez1 c2 (by decide) (by decide)
      refine g_iast (S' := tt_up S 12 a1.toNatClampNeg a2) X K (c_ap K) hw (by decide) (tt_eSp (r := 0) (by decide : 0 < 3)) hi6 (tt_sSp (r := 0) (by decide : 0 < 3)) dX6_hold_38 (fun S7 H locs eS7 hw => ?_)
      refine lv_iconst (v := (1 : Int32)) X.1 X.2.1 dX6_hold_39 (by decide) ?_
      have hR : ((1 : Int32), S7) = tgt := by
        rw [← hF]
        subst ez1 eS7
        simp only [f6_hold, if_neg c2, if_pos c5]
      have hRR : (1 : Int32) = tgt.1 := pr1 hR
      have hRS : S7 = tgt.2 := pr2 hR
      exact g_iret X hret hlk hw hRR hRS dX6_hold_40
    · refine lv_aload_n X.1 X.2.1 dX6_hold_15 rfl (lv_at hl 0 rfl) ?_
      refine lv_iload_n X.1 X.2.1 dX6_hold_16 rfl (lv_at hl 2 rfl) ?_
      refine c_callVI_p X K hw (k_X6_isDrinker l G S a2) (g_cwV X hiX6_isDrinker q332 q334 q1 q67 q335 ⟨(Nat.le_of_ble_eq_true rfl), (Nat.le_of_ble_eq_true rfl)⟩) (by decide) tt_eT rfl rfl hl.1 rfl (Nat.le_of_ble_eq_true rfl) dX6_hold_17 ⟨(Nat.le_of_ble_eq_true rfl), (Nat.le_of_ble_eq_true rfl)⟩ (fun z8 H locs ez8 hw => ?_)
      refine lv_if_ne (tgt := 29) X.1 X.2.1 dX6_hold_20 (by decide) (fun c9 => ?_) (fun c9 => ?_)
      · refine lv_aload_n X.1 X.2.1 dX6_hold_29 rfl (lv_at hl 0 rfl) ?_
        refine g_get (v := .ref (G.2.2 30)) X K hw (by decide) tt_eT rfl iT6 0 (by decide) q280 rfl dX6_hold_30 ?_
        refine g_get (v := .ref (G.2.2 45)) X K hw (by decide) (tt_eR (r := 0) (by decide : 0 < 3)) rfl iT2 13 (by decide) q189 rfl dX6_hold_33 ?_
        refine lv_iload_n X.1 X.2.1 dX6_hold_36 rfl (lv_at hl 1 rfl) ?_
        refine lv_iload_n X.1 X.2.1 dX6_hold_37 rfl (lv_at hl 2 rfl) ?_
        have hi10 : vp_in a1 10 := wi_in ez1 c2 (by decide) (by decide)
        refine g_iast (S' := tt_up S 12 a1.toNatClampNeg a2) X K (c_ap K) hw (by decide) (tt_eSp (r := 0) (by decide : 0 < 3)) hi10 (tt_sSp (r := 0) (by decide : 0 < 3)) dX6_hold_38 (fun S11 H locs eS11 hw => ?_)
        refine lv_iconst (v := (1 : Int32)) X.1 X.2.1 dX6_hold_39 (by decide) ?_
        have hR : ((1 : Int32), S11) = tgt := by
          rw [← hF]
          subst ez1 ez8 eS11
          simp only [f6_hold, if_neg c2, if_neg c5, if_neg c9]
        have hRR : (1 : Int32) = tgt.1 := pr1 hR
        have hRS : S11 = tgt.2 := pr2 hR
        exact g_iret X hret hlk hw hRR hRS dX6_hold_40
      · refine lv_aload_n X.1 X.2.1 dX6_hold_23 rfl (lv_at hl 0 rfl) ?_
        refine lv_iconst (v := (0 : Int32)) X.1 X.2.1 dX6_hold_24 (by decide) ?_
        refine c_callVI_s X K hw (k_X6_tell l G S (0 : Int32) (by unfold vp_in; decide)) (g_cwV X hiX6_tell q312 q314 q0 q67 q315 ⟨(Nat.le_of_ble_eq_true rfl), (Nat.le_of_ble_eq_true rfl)⟩) (by decide) tt_eT rfl rfl hl.1 rfl (Nat.le_of_ble_eq_true rfl) dX6_hold_25 ⟨(Nat.le_of_ble_eq_true rfl), (Nat.le_of_ble_eq_true rfl)⟩ (fun z12 S13 H locs ez12 eS13 hw => ?_)
        have hR : (z12, S13) = tgt := by
          rw [← hF]
          subst ez1 ez8 ez12 eS13
          simp only [f6_hold, if_neg c2, if_neg c5, if_pos c9]
        have hRR : z12 = tgt.1 := pr1 hR
        have hRS : S13 = tgt.2 := pr2 hR
        exact g_iret X hret hlk hw hRR hRS dX6_hold_28
set_option maxHeartbeats 4000000 in
set_option maxRecDepth 10000 in
theorem k_X6_isUnder (l : Launch) (G : tt_G) (S : tt_St) (a0 : Int32) (a1 : Int32) : c_MI l G yX6_isUnder (g_code yX6_isUnder cX6_isUnder 4 (some FieldType.boolean)) 1 22 [.int a0, .int a1] S (f6_isUnder a0 a1) S := by
  generalize hF : f6_isUnder a0 a1 = tgt
  refine g_begin rfl (Nat.le_of_ble_eq_true rfl) _ (fun p e s m below meth c ls X hret hlk hB hl => ?_)
  obtain ⟨hP0, K⟩ := hB
  have hw : c_W G S s s.heap [] := ⟨hP0, va_S.rf⟩
  have X : CallFix p m c cX6_isUnder 4 s ([.int a0, .int a1] : List Value).toArray tt_T "TrustTin" := X
  have hl : lv_has ls 4 [(0, .int a0), (1, .int a1)] := hl
  refine lv_iload_n X.1 X.2.1 dX6_isUnder_0 rfl (lv_at hl 0 rfl) ?_
  refine lv_istore_n (lv' := [(2, .int a0), (0, .int a0), (1, .int a1)]) X.1 X.2.1 dX6_isUnder_1 rfl hl (by decide) rfl (fun ls hl => ?_)
  refine lv_iconst (v := (0 : Int32)) X.1 X.2.1 dX6_isUnder_2 (by decide) ?_
  refine lv_istore_n (lv' := [(3, .int (0 : Int32)), (2, .int a0), (0, .int a0), (1, .int a1)]) X.1 X.2.1 dX6_isUnder_3 rfl hl (by decide) rfl (fun ls hl => ?_)
  have j4 : ∀ (n : Nat) (y2_4 : Int32) (y3_4 : Int32) (H : Heap) (locs : List Loc) (ls : Array Slot), (¬ y3_4 < 0) → lp_mu (7 : Int32) y3_4 < n → f6_isUnder_L4 a0 a1 n y2_4 y3_4 = tgt → c_W G S s H locs → lv_has ls 4 [(1, .int a1), (2, .int y2_4), (3, .int y3_4)] → W p l e (g_rm 1 22) s m ([.int a0, .int a1] : List Value).toArray below meth c H locs 0 0 (MQ below (va_Qi (fun r T => r = tgt ∧ T = S) (g_Post G 62 G.2.2 (tt_cell G)) (g_in 62 G.2.2)) ([.int a0, .int a1] : List Value).toArray s 0 0 (g_in 62 G.2.2)) (F0 m 4 ls []) := by
    intro n
    induction n with
    | zero => intro y2_4 y3_4 H locs ls hI hm; exact absurd hm (Nat.not_lt_zero _)
    | succ n ih =>
      intro y2_4 y3_4 H locs ls hI hm hF hw hl
      refine lv_iload_n X.1 X.2.1 dX6_isUnder_4 rfl (lv_at hl 2 rfl) ?_
      refine lv_bipush (v := (7 : Int32)) X.1 X.2.1 dX6_isUnder_5 (by decide) ?_
      refine lv_icmp_ge (tgt := 39) X.1 X.2.1 dX6_isUnder_7 (by decide) (fun c1 => ?_) (fun c1 => ?_)
      · refine lv_iconst (v := (0 : Int32)) X.1 X.2.1 dX6_isUnder_39 (by decide) ?_
        have hR : (0 : Int32) = tgt := by
          rw [← hF]
          simp only [f6_isUnder_L4, if_pos c1]
        exact g_zret X hret hlk hw rfl hR rfl dX6_isUnder_40
      · refine lv_iload_n X.1 X.2.1 dX6_isUnder_10 rfl (lv_at hl 1 rfl) ?_
        refine lv_iconst (v := (0 : Int32)) X.1 X.2.1 dX6_isUnder_11 (by decide) ?_
        refine lv_bipush (v := (6 : Int32)) X.1 X.2.1 dX6_isUnder_12 (by decide) ?_
        refine c_callSI_p X K hw (k_X6_within l G S y2_4 (0 : Int32) (6 : Int32)) (g_cwS X hiX6_within q309 q310 q67 q311 ⟨(Nat.le_of_ble_eq_true rfl), (Nat.le_of_ble_eq_true rfl)⟩) rfl hl.1 rfl (Nat.le_of_ble_eq_true rfl) dX6_isUnder_14 ⟨(Nat.le_of_ble_eq_true rfl), (Nat.le_of_ble_eq_true rfl)⟩ (fun z2 H locs ez2 hw => ?_)
        refine lv_if_eq (tgt := 39) X.1 X.2.1 dX6_isUnder_17 (by decide) (fun c3 => ?_) (fun c3 => ?_)
        · refine lv_iconst (v := (0 : Int32)) X.1 X.2.1 dX6_isUnder_39 (by decide) ?_
          have hR : (0 : Int32) = tgt := by
            rw [← hF]
            subst ez2
            simp only [f6_isUnder_L4, if_neg c1, if_pos c3]
          exact g_zret X hret hlk hw rfl hR rfl dX6_isUnder_40
        · refine lv_iload_n X.1 X.2.1 dX6_isUnder_20 rfl (lv_at hl 1 rfl) ?_
          refine lv_iload_n X.1 X.2.1 dX6_isUnder_21 rfl (lv_at hl 0 rfl) ?_
          refine lv_icmp_ne (tgt := 27) X.1 X.2.1 dX6_isUnder_22 (by decide) (fun c4 => ?_) (fun c4 => ?_)
          · refine va_gets X.1 X.2.1 (K.2.2.1.1.narrow (c_A G)) hw.2 X.2.2.2.1 (X.2.2.2.2 _ q754) (fun _ h => h) dX6_isUnder_27 ?_
            refine lv_iload_n X.1 X.2.1 dX6_isUnder_30 rfl (lv_at hl 1 rfl) ?_
            have hi5 : vp_in y2_4 7 := wi_in ez2 c3 (by decide) (by decide)
            refine va_ti X.1 X.2.1 (K.2.2.1.2.narrow (c_A G)) hw.2 hi5 (v := .int (tt_above y2_4.toNatClampNeg)) rfl dX6_isUnder_31 ?_
            refine lv_topi (fun x6 ex6 => ?_)
            refine lv_istore_n (lv' := [(2, .int x6), (1, .int a1), (3, .int y3_4)]) X.1 X.2.1 dX6_isUnder_32 rfl hl (by decide) rfl (fun ls hl => ?_)
            obtain ⟨x7, ex7⟩ : ∃ y : Int32, y = y3_4 + (1 : Int32) := ⟨_, rfl⟩
            refine lv_iinc (v := x7) (lv' := [(3, .int x7), (2, .int x6), (1, .int a1)]) X.1 X.2.1 dX6_isUnder_33 hl (k := 2) rfl (by rw [ex7]; rfl) (by decide) rfl (fun ls hl => ?_)
            refine lv_goto (tgt := 4) X.1 X.2.1 dX6_isUnder_36 (by decide) ?_
            have hF2 : f6_isUnder_L4 a0 a1 n x6 x7 = tgt := by
              rw [← hF]
              subst ez2 ex6 ex7
              simp only [f6_isUnder_L4, if_neg c1, if_neg c3, if_neg c4]
            exact ih x6 x7 _ _ ls (by rw [ex7]; exact lp_nn hI c1) (by rw [ex7]; exact lp_dec' c1 hm) hF2 hw (lv_sub hl [2, 1, 0] rfl)
          · refine lv_iconst (v := (1 : Int32)) X.1 X.2.1 dX6_isUnder_25 (by decide) ?_
            have hR : (1 : Int32) = tgt := by
              rw [← hF]
              subst ez2
              simp only [f6_isUnder_L4, if_neg c1, if_neg c3, if_pos c4]
            exact g_zret X hret hlk hw rfl hR rfl dX6_isUnder_26
  have hF2 : f6_isUnder_L4 a0 a1 (lp_mu (7 : Int32) 0 + 1) a0 (0 : Int32) = tgt := by
    rw [← hF]
    simp only [f6_isUnder]
  exact j4 (lp_mu (7 : Int32) 0 + 1) a0 (0 : Int32) _ _ ls (by decide) (Nat.lt_succ_self _) hF2 hw (lv_sub hl [3, 1, 0] rfl)
set_option maxHeartbeats 4000000 in
set_option maxRecDepth 10000 in
theorem k_X6_as (l : Launch) (G : tt_G) (S : tt_St) (a1 : Int32) (a2 : Int32) (hp0 : ci S) : c_MI l G yX6_as (g_code yX6_as cX6_as 4 (some FieldType.int)) 2 45 [.ref (G.2.2 61), .int a1, .int a2] S ((f6_as S a1 a2).1) ((f6_as S a1 a2).2) := by
  generalize hF : f6_as S a1 a2 = tgt
  refine g_begin rfl (Nat.le_of_ble_eq_true rfl) _ (fun p e s m below meth c ls X hret hlk hB hl => ?_)
  obtain ⟨hP0, K⟩ := hB
  have hw : c_W G S s s.heap [] := ⟨hP0, va_S.rf⟩
  have X : CallFix p m c cX6_as 4 s ([.ref (G.2.2 61), .int a1, .int a2] : List Value).toArray tt_T "TrustTin" := X
  have hl : lv_has ls 4 [(0, .ref (G.2.2 61)), (1, .int a1), (2, .int a2)] := hl
  refine lv_iload_n X.1 X.2.1 dX6_as_0 rfl (lv_at hl 1 rfl) ?_
  refine lv_iconst (v := (0 : Int32)) X.1 X.2.1 dX6_as_1 (by decide) ?_
  refine lv_bipush (v := (9 : Int32)) X.1 X.2.1 dX6_as_2 (by decide) ?_
  refine c_callSI_p X K hw (k_X6_within l G S a1 (0 : Int32) (9 : Int32)) (g_cwS X hiX6_within q309 q310 q67 q311 ⟨(Nat.le_of_ble_eq_true rfl), (Nat.le_of_ble_eq_true rfl)⟩) rfl hl.1 rfl (Nat.le_of_ble_eq_true rfl) dX6_as_4 ⟨(Nat.le_of_ble_eq_true rfl), (Nat.le_of_ble_eq_true rfl)⟩ (fun z1 H locs ez1 hw => ?_)
  refine lv_if_eq (tgt := 20) X.1 X.2.1 dX6_as_7 (by decide) (fun c2 => ?_) (fun c2 => ?_)
  · refine lv_aload_n X.1 X.2.1 dX6_as_20 rfl (lv_at hl 0 rfl) ?_
    refine lv_iconst (v := (0 : Int32)) X.1 X.2.1 dX6_as_21 (by decide) ?_
    refine c_callVI_s X K hw (k_X6_tell l G S (0 : Int32) (by unfold vp_in; decide)) (g_cwV X hiX6_tell q312 q314 q0 q67 q315 ⟨(Nat.le_of_ble_eq_true rfl), (Nat.le_of_ble_eq_true rfl)⟩) (by decide) tt_eT rfl rfl hl.1 rfl (Nat.le_of_ble_eq_true rfl) dX6_as_22 ⟨(Nat.le_of_ble_eq_true rfl), (Nat.le_of_ble_eq_true rfl)⟩ (fun z3 S4 H locs ez3 eS4 hw => ?_)
    have hR : (z3, S4) = tgt := by
      rw [← hF]
      subst ez1 ez3 eS4
      simp only [f6_as, if_pos c2]
    have hRR : z3 = tgt.1 := pr1 hR
    have hRS : S4 = tgt.2 := pr2 hR
    exact g_iret X hret hlk hw hRR hRS dX6_as_25
  · refine lv_iload_n X.1 X.2.1 dX6_as_10 rfl (lv_at hl 2 rfl) ?_
    refine lv_iconst (v := (0 : Int32)) X.1 X.2.1 dX6_as_11 (by decide) ?_
    refine lv_bipush (v := (6 : Int32)) X.1 X.2.1 dX6_as_12 (by decide) ?_
    refine c_callSI_p X K hw (k_X6_within l G S a2 (0 : Int32) (6 : Int32)) (g_cwS X hiX6_within q309 q310 q67 q311 ⟨(Nat.le_of_ble_eq_true rfl), (Nat.le_of_ble_eq_true rfl)⟩) rfl hl.1 rfl (Nat.le_of_ble_eq_true rfl) dX6_as_14 ⟨(Nat.le_of_ble_eq_true rfl), (Nat.le_of_ble_eq_true rfl)⟩ (fun z5 H locs ez5 hw => ?_)
    refine lv_if_ne (tgt := 26) X.1 X.2.1 dX6_as_17 (by decide) (fun c6 => ?_) (fun c6 => ?_)
    · refine lv_aload_n X.1 X.2.1 dX6_as_26 rfl (lv_at hl 0 rfl) ?_
      refine g_get (v := .ref (G.2.2 30)) X K hw (by decide) tt_eT rfl iT6 0 (by decide) q280 rfl dX6_as_27 ?_
      refine g_get (v := .ref (G.2.2 45)) X K hw (by decide) (tt_eR (r := 0) (by decide : 0 < 3)) rfl iT2 13 (by decide) q189 rfl dX6_as_30 ?_
      refine lv_iload_n X.1 X.2.1 dX6_as_33 rfl (lv_at hl 1 rfl) ?_
      have hi7 : vp_in a1 10 := wi_in ez1 c2 (by decide) (by decide)
      refine g_iald X K hw (by decide) (tt_eSp (r := 0) (by decide : 0 < 3)) hi7 dX6_as_34 ?_
      refine lv_topi (fun x8 ex8 => ?_)
      refine lv_istore_n (lv' := [(3, .int x8), (0, .ref (G.2.2 61)), (1, .int a1), (2, .int a2)]) X.1 X.2.1 dX6_as_35 rfl hl (by decide) rfl (fun ls hl => ?_)
      refine lv_aload_n X.1 X.2.1 dX6_as_36 rfl (lv_at hl 1 rfl) ?_
      refine lv_iload_n X.1 X.2.1 dX6_as_37 rfl (lv_at hl 0 rfl) ?_
      refine c_callVI_p X K hw (k_X6_isDrinker l G S x8) (g_cwV X hiX6_isDrinker q332 q334 q1 q67 q335 ⟨(Nat.le_of_ble_eq_true rfl), (Nat.le_of_ble_eq_true rfl)⟩) (by decide) tt_eT rfl rfl hl.1 rfl (Nat.le_of_ble_eq_true rfl) dX6_as_38 ⟨(Nat.le_of_ble_eq_true rfl), (Nat.le_of_ble_eq_true rfl)⟩ (fun z9 H locs ez9 hw => ?_)
      refine lv_if_ne (tgt := 50) X.1 X.2.1 dX6_as_41 (by decide) (fun c10 => ?_) (fun c10 => ?_)
      · refine lv_aload_n X.1 X.2.1 dX6_as_50 rfl (lv_at hl 1 rfl) ?_
        refine g_get (v := .ref (G.2.2 30)) X K hw (by decide) tt_eT rfl iT6 0 (by decide) q280 rfl dX6_as_51 ?_
        refine g_get (v := .ref (G.2.2 33)) X K hw (by decide) (tt_eR (r := 0) (by decide : 0 < 3)) rfl iT2 0 (by decide) q160 rfl dX6_as_54 ?_
        refine lv_iload_n X.1 X.2.1 dX6_as_57 rfl (lv_at hl 0 rfl) ?_
        have hi11 : vp_in x8 10 := dr_in hp0 ez9 c10
        have hd12 : x8.toNatClampNeg < 10 := lp_cl hi11
        refine g_aald X K hw (by decide) (tt_eA (r := 0) (by decide : 0 < 3)) 1 rfl hi11 rfl dX6_as_58 ?_
        refine g_get (v := .int (S 0 (12 + 7 * x8.toNatClampNeg))) X K hw (by have := (by decide : 0 < 3); have := hd12; omega) (tt_eD (r := 0) (d := x8.toNatClampNeg) (by decide : 0 < 3) hd12) rfl iT1 0 (by decide) q125 rfl dX6_as_59 ?_
        refine lv_iload_n X.1 X.2.1 dX6_as_62 rfl (lv_at hl 3 rfl) ?_
        refine c_callSI_p X K hw (k_X6_isUnder l G S (S 0 (12 + 7 * x8.toNatClampNeg)) a2) (g_cwS X hiX6_isUnder q751 q752 q67 q753 ⟨(Nat.le_of_ble_eq_true rfl), (Nat.le_of_ble_eq_true rfl)⟩) rfl hl.1 rfl (Nat.le_of_ble_eq_true rfl) dX6_as_63 ⟨(Nat.le_of_ble_eq_true rfl), (Nat.le_of_ble_eq_true rfl)⟩ (fun z13 H locs ez13 hw => ?_)
        refine lv_if_eq (tgt := 73) X.1 X.2.1 dX6_as_66 (by decide) (fun c14 => ?_) (fun c14 => ?_)
        · refine lv_aload_n X.1 X.2.1 dX6_as_73 rfl (lv_at hl 1 rfl) ?_
          refine lv_iconst (v := (2 : Int32)) X.1 X.2.1 dX6_as_74 (by decide) ?_
          refine c_callVI_s X K hw (k_X6_tell l G S (2 : Int32) (by unfold vp_in; decide)) (g_cwV X hiX6_tell q312 q314 q0 q67 q315 ⟨(Nat.le_of_ble_eq_true rfl), (Nat.le_of_ble_eq_true rfl)⟩) (by decide) tt_eT rfl rfl hl.1 rfl (Nat.le_of_ble_eq_true rfl) dX6_as_75 ⟨(Nat.le_of_ble_eq_true rfl), (Nat.le_of_ble_eq_true rfl)⟩ (fun z15 S16 H locs ez15 eS16 hw => ?_)
          have hR : (z15, S16) = tgt := by
            rw [← hF]
            subst ez1 ez5 ex8 ez9 ez13 ez15 eS16
            simp only [f6_as, if_neg c2, if_neg c6, if_neg c10, if_pos c14]
          have hRR : z15 = tgt.1 := pr1 hR
          have hRS : S16 = tgt.2 := pr2 hR
          exact g_iret X hret hlk hw hRR hRS dX6_as_78
        · refine lv_iload_n X.1 X.2.1 dX6_as_69 rfl (lv_at hl 0 rfl) ?_
          refine lv_goto (tgt := 78) X.1 X.2.1 dX6_as_70 (by decide) ?_
          have hR : (x8, S) = tgt := by
            rw [← hF]
            subst ez1 ez5 ex8 ez9 ez13
            simp only [f6_as, if_neg c2, if_neg c6, if_neg c10, if_neg c14]
          have hRR : x8 = tgt.1 := pr1 hR
          have hRS : S = tgt.2 := pr2 hR
          exact g_iret X hret hlk hw hRR hRS dX6_as_78
      · refine lv_aload_n X.1 X.2.1 dX6_as_44 rfl (lv_at hl 1 rfl) ?_
        refine lv_iconst (v := (5 : Int32)) X.1 X.2.1 dX6_as_45 (by decide) ?_
        refine c_callVI_s X K hw (k_X6_tell l G S (5 : Int32) (by unfold vp_in; decide)) (g_cwV X hiX6_tell q312 q314 q0 q67 q315 ⟨(Nat.le_of_ble_eq_true rfl), (Nat.le_of_ble_eq_true rfl)⟩) (by decide) tt_eT rfl rfl hl.1 rfl (Nat.le_of_ble_eq_true rfl) dX6_as_46 ⟨(Nat.le_of_ble_eq_true rfl), (Nat.le_of_ble_eq_true rfl)⟩ (fun z17 S18 H locs ez17 eS18 hw => ?_)
        have hR : (z17, S18) = tgt := by
          rw [← hF]
          subst ez1 ez5 ex8 ez9 ez17 eS18
          simp only [f6_as, if_neg c2, if_neg c6, if_pos c10]
        have hRR : z17 = tgt.1 := pr1 hR
        have hRS : S18 = tgt.2 := pr2 hR
        exact g_iret X hret hlk hw hRR hRS dX6_as_49
    · refine lv_aload_n X.1 X.2.1 dX6_as_20 rfl (lv_at hl 0 rfl) ?_
      refine lv_iconst (v := (0 : Int32)) X.1 X.2.1 dX6_as_21 (by decide) ?_
      refine c_callVI_s X K hw (k_X6_tell l G S (0 : Int32) (by unfold vp_in; decide)) (g_cwV X hiX6_tell q312 q314 q0 q67 q315 ⟨(Nat.le_of_ble_eq_true rfl), (Nat.le_of_ble_eq_true rfl)⟩) (by decide) tt_eT rfl rfl hl.1 rfl (Nat.le_of_ble_eq_true rfl) dX6_as_22 ⟨(Nat.le_of_ble_eq_true rfl), (Nat.le_of_ble_eq_true rfl)⟩ (fun z19 S20 H locs ez19 eS20 hw => ?_)
      have hR : (z19, S20) = tgt := by
        rw [← hF]
        subst ez1 ez5 ez19 eS20
        simp only [f6_as, if_neg c2, if_pos c6]
      have hRR : z19 = tgt.1 := pr1 hR
      have hRS : S20 = tgt.2 := pr2 hR
      exact g_iret X hret hlk hw hRR hRS dX6_as_25
set_option maxHeartbeats 4000000 in
set_option maxRecDepth 10000 in
theorem k_X6_isSheet (l : Launch) (G : tt_G) (S : tt_St) (a0 : Int32) : c_MI l G yX6_isSheet (g_code yX6_isSheet cX6_isSheet 1 (some FieldType.boolean)) 1 22 [.int a0] S (f6_isSheet a0) S := by
  generalize hF : f6_isSheet a0 = tgt
  refine g_begin rfl (Nat.le_of_ble_eq_true rfl) _ (fun p e s m below meth c ls X hret hlk hB hl => ?_)
  obtain ⟨hP0, K⟩ := hB
  have hw : c_W G S s s.heap [] := ⟨hP0, va_S.rf⟩
  have X : CallFix p m c cX6_isSheet 1 s ([.int a0] : List Value).toArray tt_T "TrustTin" := X
  have hl : lv_has ls 1 [(0, .int a0)] := hl
  refine lv_iload_n X.1 X.2.1 dX6_isSheet_0 rfl (lv_at hl 0 rfl) ?_
  refine lv_iconst (v := (0 : Int32)) X.1 X.2.1 dX6_isSheet_1 (by decide) ?_
  refine lv_iconst (v := (3 : Int32)) X.1 X.2.1 dX6_isSheet_2 (by decide) ?_
  refine c_callSI_p X K hw (k_X6_within l G S a0 (0 : Int32) (3 : Int32)) (g_cwS X hiX6_within q309 q310 q67 q311 ⟨(Nat.le_of_ble_eq_true rfl), (Nat.le_of_ble_eq_true rfl)⟩) rfl hl.1 rfl (Nat.le_of_ble_eq_true rfl) dX6_isSheet_3 ⟨(Nat.le_of_ble_eq_true rfl), (Nat.le_of_ble_eq_true rfl)⟩ (fun z1 H locs ez1 hw => ?_)
  have hR : z1 = tgt := by
    rw [← hF]
    subst ez1
    simp only [f6_isSheet]
  exact g_zret X hret hlk hw (bo_nr (bo_X6_within ez1)) hR rfl dX6_isSheet_6
set_option maxHeartbeats 4000000 in
set_option maxRecDepth 10000 in
theorem k_X6_load (l : Launch) (G : tt_G) (S : tt_St) (a1 : Int32) (hp0 : ci S) : c_MI l G yX6_load (g_code yX6_load cX6_load 5 (some FieldType.int)) 2 42 [.ref (G.2.2 61), .int a1] S ((f6_load S a1).1) ((f6_load S a1).2) := by
  generalize hF : f6_load S a1 = tgt
  refine g_begin rfl (Nat.le_of_ble_eq_true rfl) _ (fun p e s m below meth c ls X hret hlk hB hl => ?_)
  obtain ⟨hP0, K⟩ := hB
  have hw : c_W G S s s.heap [] := ⟨hP0, va_S.rf⟩
  have X : CallFix p m c cX6_load 5 s ([.ref (G.2.2 61), .int a1] : List Value).toArray tt_T "TrustTin" := X
  have hl : lv_has ls 5 [(0, .ref (G.2.2 61)), (1, .int a1)] := hl
  refine lv_iload_n X.1 X.2.1 dX6_load_0 rfl (lv_at hl 1 rfl) ?_
  refine c_callSI_p X K hw (k_X6_isSheet l G S a1) (g_cwS X hiX6_isSheet q760 q761 q67 q762 ⟨(Nat.le_of_ble_eq_true rfl), (Nat.le_of_ble_eq_true rfl)⟩) rfl hl.1 rfl (Nat.le_of_ble_eq_true rfl) dX6_load_1 ⟨(Nat.le_of_ble_eq_true rfl), (Nat.le_of_ble_eq_true rfl)⟩ (fun z1 H locs ez1 hw => ?_)
  refine lv_if_ne (tgt := 13) X.1 X.2.1 dX6_load_4 (by decide) (fun c2 => ?_) (fun c2 => ?_)
  · refine lv_aload_n X.1 X.2.1 dX6_load_13 rfl (lv_at hl 0 rfl) ?_
    refine g_get (v := .ref (G.2.2 59)) X K hw (by decide) tt_eT rfl iT6 6 (by decide) q286 rfl dX6_load_14 ?_
    refine lv_iload_n X.1 X.2.1 dX6_load_17 rfl (lv_at hl 1 rfl) ?_
    have hi3 : vp_in a1 4 := iss_in ez1 c2
    have hd4 : a1.toNatClampNeg < 4 := lp_cl hi3
    refine g_aald X K hw (by decide) tt_eSh 2 rfl hi3 rfl dX6_load_18 ?_
    refine lv_astore_n (lv' := [(2, .ref (G.2.2 (48 + a1.toNatClampNeg))), (0, .ref (G.2.2 61)), (1, .int a1)]) X.1 X.2.1 dX6_load_19 rfl hl (by decide) rfl (fun ls hl => ?_)
    refine lv_aload_n X.1 X.2.1 dX6_load_20 rfl (lv_at hl 0 rfl) ?_
    refine c_callVI_p X K hw (k_X3_isMissing l G S a1.toNatClampNeg hd4) (g_cwV X hiX3_isMissing q771 q772 q773 q73 q774 ⟨(Nat.le_of_ble_eq_true rfl), (Nat.le_of_ble_eq_true rfl)⟩) (by have := hd4; omega) (tt_eS (k := a1.toNatClampNeg) hd4) rfl rfl hl.1 rfl (Nat.le_of_ble_eq_true rfl) dX6_load_21 ⟨(Nat.le_of_ble_eq_true rfl), (Nat.le_of_ble_eq_true rfl)⟩ (fun z5 H locs ez5 hw => ?_)
    refine lv_if_eq (tgt := 33) X.1 X.2.1 dX6_load_24 (by decide) (fun c6 => ?_) (fun c6 => ?_)
    · refine lv_aload_n X.1 X.2.1 dX6_load_33 rfl (lv_at hl 0 rfl) ?_
      refine g_get (v := .int (S 3 (20 + a1.toNatClampNeg))) X K hw (by have := hd4; omega) (tt_eS (k := a1.toNatClampNeg) hd4) rfl iT3 2 (by decide) q272 rfl dX6_load_34 ?_
      refine lv_aload_n X.1 X.2.1 dX6_load_37 rfl (lv_at hl 1 rfl) ?_
      refine g_get (v := .ref (G.2.2 30)) X K hw (by decide) tt_eT rfl iT6 0 (by decide) q280 rfl dX6_load_38 ?_
      refine g_get (v := .int (S 0 0)) X K hw (by decide) (tt_eR (r := 0) (by decide : 0 < 3)) rfl iT2 1 (by decide) q162 rfl dX6_load_41 ?_
      refine va_mmin X.1 X.2.1 (X.2.2.1.trans hl.1.symm) X.2.2.2.1 (X.2.2.2.2 _ q379) (X.2.2.2.2 _ q322) (X.2.2.2.2 _ q75) (X.2.2.2.2 _ q323) (Nat.le_of_ble_eq_true rfl) (Nat.le_of_ble_eq_true rfl) (Nat.le_of_ble_eq_true rfl) (Nat.le_of_ble_eq_true rfl) dX6_load_44 ?_
      refine lv_topi (fun x7 ex7 => ?_)
      refine lv_istore_n (lv' := [(3, .int x7), (2, .ref (G.2.2 (48 + a1.toNatClampNeg))), (0, .ref (G.2.2 61)), (1, .int a1)]) X.1 X.2.1 dX6_load_47 rfl hl (by decide) rfl (fun ls hl => ?_)
      refine lv_iconst (v := (0 : Int32)) X.1 X.2.1 dX6_load_48 (by decide) ?_
      refine lv_istore (lv' := [(4, .int (0 : Int32)), (3, .int x7), (2, .ref (G.2.2 (48 + a1.toNatClampNeg))), (0, .ref (G.2.2 61)), (1, .int a1)]) X.1 X.2.1 dX6_load_49 hl (by decide) rfl (fun ls hl => ?_)
      have j51 : ∀ (n : Nat) (S8 : tt_St) (y3_51 : Int32) (y4_51 : Int32) (H : Heap) (locs : List Loc) (ls : Array Slot), ((¬ y4_51 < 0) ∧ y3_51.toInt ≤ 10) → lp_mu y3_51 y4_51 < n → f6_load_L51 a1 n S8 y3_51 y4_51 = tgt → c_W G S8 s H locs → lv_has ls 5 [(0, .ref (G.2.2 61)), (2, .ref (G.2.2 (48 + a1.toNatClampNeg))), (3, .int y3_51), (4, .int y4_51)] → W p l e (g_rm 2 42) s m ([.ref (G.2.2 61), .int a1] : List Value).toArray below meth c H locs 0 0 (MQ below (va_Qi (fun r T => r = tgt.1 ∧ T = tgt.2) (g_Post G 62 G.2.2 (tt_cell G)) (g_in 62 G.2.2)) ([.ref (G.2.2 61), .int a1] : List Value).toArray s 0 0 (g_in 62 G.2.2)) (F0 m 51 ls []) := by
        intro n
        induction n with
        | zero => intro S8 y3_51 y4_51 H locs ls hI hm; exact absurd hm (Nat.not_lt_zero _)
        | succ n ih =>
          intro S8 y3_51 y4_51 H locs ls hI hm hF hw hl
          refine lv_iload X.1 X.2.1 dX6_load_51 (lv_at hl 3 rfl) ?_
          refine lv_iload_n X.1 X.2.1 dX6_load_53 rfl (lv_at hl 2 rfl) ?_
          refine lv_icmp_ge (tgt := 100) X.1 X.2.1 dX6_load_54 (by decide) (fun c9 => ?_) (fun c9 => ?_)
          · refine lv_iload X.1 X.2.1 dX6_load_100 (lv_at hl 3 rfl) ?_
            have hR : (y4_51, S8) = tgt := by
              rw [← hF]
              simp only [f6_load_L51, if_pos c9]
            have hRR : y4_51 = tgt.1 := pr1 hR
            have hRS : S8 = tgt.2 := pr2 hR
            exact g_iret X hret hlk hw hRR hRS dX6_load_102
          · refine lv_aload_n X.1 X.2.1 dX6_load_57 rfl (lv_at hl 1 rfl) ?_
            refine g_get (v := .ref (G.2.2 (52 + a1.toNatClampNeg))) X K hw (by have := hd4; omega) (tt_eS (k := a1.toNatClampNeg) hd4) rfl iT3 0 (by decide) q268 rfl dX6_load_58 ?_
            refine lv_iload X.1 X.2.1 dX6_load_61 (lv_at hl 3 rfl) ?_
            have hi10 : vp_in y4_51 40 := lp_in hI.1 c9 (Int.le_trans hI.2 (by decide))
            refine g_iald X K hw (by have := hd4; omega) (tt_eN (k := a1.toNatClampNeg) hd4) hi10 dX6_load_63 ?_
            refine lv_iconst (v := (0 : Int32)) X.1 X.2.1 dX6_load_64 (by decide) ?_
            refine lv_sipush (v := (9999 : Int32)) X.1 X.2.1 dX6_load_65 (by decide) ?_
            refine c_callSI_p X K hw (k_X6_within l G S8 (S8 (15 + a1.toNatClampNeg) y4_51.toNatClampNeg) (0 : Int32) (9999 : Int32)) (g_cwS X hiX6_within q309 q310 q67 q311 ⟨(Nat.le_of_ble_eq_true rfl), (Nat.le_of_ble_eq_true rfl)⟩) rfl hl.1 rfl (Nat.le_of_ble_eq_true rfl) dX6_load_68 ⟨(Nat.le_of_ble_eq_true rfl), (Nat.le_of_ble_eq_true rfl)⟩ (fun z11 H locs ez11 hw => ?_)
            refine lv_if_eq (tgt := 100) X.1 X.2.1 dX6_load_71 (by decide) (fun c12 => ?_) (fun c12 => ?_)
            · refine lv_iload X.1 X.2.1 dX6_load_100 (lv_at hl 3 rfl) ?_
              have hR : (y4_51, S8) = tgt := by
                rw [← hF]
                subst ez11
                simp only [f6_load_L51, if_neg c9, if_pos c12]
              have hRR : y4_51 = tgt.1 := pr1 hR
              have hRS : S8 = tgt.2 := pr2 hR
              exact g_iret X hret hlk hw hRR hRS dX6_load_102
            · refine lv_aload_n X.1 X.2.1 dX6_load_74 rfl (lv_at hl 0 rfl) ?_
              refine g_get (v := .ref (G.2.2 30)) X K hw (by decide) tt_eT rfl iT6 0 (by decide) q280 rfl dX6_load_75 ?_
              refine g_get (v := .ref (G.2.2 33)) X K hw (by decide) (tt_eR (r := 0) (by decide : 0 < 3)) rfl iT2 0 (by decide) q160 rfl dX6_load_78 ?_
              refine lv_iload X.1 X.2.1 dX6_load_81 (lv_at hl 3 rfl) ?_
              have hi13 : vp_in y4_51 10 := lp_in hI.1 c9 hI.2
              have hd14 : y4_51.toNatClampNeg < 10 := lp_cl hi13
              refine g_aald X K hw (by decide) (tt_eA (r := 0) (by decide : 0 < 3)) 1 rfl hi13 rfl dX6_load_83 ?_
              refine lv_aload_n X.1 X.2.1 dX6_load_84 rfl (lv_at hl 1 rfl) ?_
              refine g_get (v := .ref (G.2.2 (52 + a1.toNatClampNeg))) X K hw (by have := hd4; omega) (tt_eS (k := a1.toNatClampNeg) hd4) rfl iT3 0 (by decide) q268 rfl dX6_load_85 ?_
              refine lv_iload X.1 X.2.1 dX6_load_88 (lv_at hl 3 rfl) ?_
              have hi15 : vp_in y4_51 40 := lp_in hI.1 c9 (Int.le_trans hI.2 (by decide))
              refine g_iald X K hw (by have := hd4; omega) (tt_eN (k := a1.toNatClampNeg) hd4) hi15 dX6_load_90 ?_
              refine lv_topi (fun x16 ex16 => ?_)
              refine g_put (S' := tt_up S8 0 (14 + 7 * y4_51.toNatClampNeg) x16) X K (c_ap K) hw (by have := (by decide : 0 < 3); have := hd14; omega) (tt_eD (r := 0) (d := y4_51.toNatClampNeg) (by decide : 0 < 3) hd14) rfl iT1 tyX1_ok nmX1 2 (by decide) q131 rfl rfl rfl (Nat.le_of_ble_eq_true rfl) (tt_sD (r := 0) (d := y4_51.toNatClampNeg) (k := 2) (by decide : 0 < 3) hd14 (by decide)) dX6_load_91 (fun S17 H locs eS17 hw => ?_)
              obtain ⟨x18, ex18⟩ : ∃ y : Int32, y = y4_51 + (1 : Int32) := ⟨_, rfl⟩
              refine lv_iinc (v := x18) (lv' := [(4, .int x18), (0, .ref (G.2.2 61)), (2, .ref (G.2.2 (48 + a1.toNatClampNeg))), (3, .int y3_51)]) X.1 X.2.1 dX6_load_94 hl (k := 3) rfl (by rw [ex18]; rfl) (by decide) rfl (fun ls hl => ?_)
              refine lv_goto (tgt := 51) X.1 X.2.1 dX6_load_97 (by decide) ?_
              have hF2 : f6_load_L51 a1 n S17 y3_51 x18 = tgt := by
                rw [← hF]
                subst ez11 ex16 eS17 ex18
                simp only [f6_load_L51, if_neg c9, if_neg c12]
              exact ih S17 y3_51 x18 _ _ ls (⟨by rw [ex18]; exact lp_nn hI.1 c9, hI.2⟩) (by rw [ex18]; exact lp_dec' c9 hm) hF2 hw (lv_sub hl [1, 2, 3, 0] rfl)
      have hF2 : f6_load_L51 a1 (lp_mu x7 0 + 1) S x7 (0 : Int32) = tgt := by
        rw [← hF]
        subst ez1 ez5 ex7
        simp only [f6_load, if_neg c2, if_pos c6]
      exact j51 (lp_mu x7 0 + 1) S x7 (0 : Int32) _ _ ls (⟨by decide, by subst ez1 ez5 ex7; exact mn_le (hp0.1 0 (by decide)).2⟩) (Nat.lt_succ_self _) hF2 hw (lv_sub hl [3, 2, 1, 0] rfl)
    · refine lv_aload_n X.1 X.2.1 dX6_load_27 rfl (lv_at hl 1 rfl) ?_
      refine lv_iconst (v := (5 : Int32)) X.1 X.2.1 dX6_load_28 (by decide) ?_
      refine c_callVI_s X K hw (k_X6_tell l G S (5 : Int32) (by unfold vp_in; decide)) (g_cwV X hiX6_tell q312 q314 q0 q67 q315 ⟨(Nat.le_of_ble_eq_true rfl), (Nat.le_of_ble_eq_true rfl)⟩) (by decide) tt_eT rfl rfl hl.1 rfl (Nat.le_of_ble_eq_true rfl) dX6_load_29 ⟨(Nat.le_of_ble_eq_true rfl), (Nat.le_of_ble_eq_true rfl)⟩ (fun z19 S20 H locs ez19 eS20 hw => ?_)
      have hR : (z19, S20) = tgt := by
        rw [← hF]
        subst ez1 ez5 ez19 eS20
        simp only [f6_load, if_neg c2, if_neg c6]
      have hRR : z19 = tgt.1 := pr1 hR
      have hRS : S20 = tgt.2 := pr2 hR
      exact g_iret X hret hlk hw hRR hRS dX6_load_32
  · refine lv_aload_n X.1 X.2.1 dX6_load_7 rfl (lv_at hl 0 rfl) ?_
    refine lv_iconst (v := (0 : Int32)) X.1 X.2.1 dX6_load_8 (by decide) ?_
    refine c_callVI_s X K hw (k_X6_tell l G S (0 : Int32) (by unfold vp_in; decide)) (g_cwV X hiX6_tell q312 q314 q0 q67 q315 ⟨(Nat.le_of_ble_eq_true rfl), (Nat.le_of_ble_eq_true rfl)⟩) (by decide) tt_eT rfl rfl hl.1 rfl (Nat.le_of_ble_eq_true rfl) dX6_load_9 ⟨(Nat.le_of_ble_eq_true rfl), (Nat.le_of_ble_eq_true rfl)⟩ (fun z21 S22 H locs ez21 eS22 hw => ?_)
    have hR : (z21, S22) = tgt := by
      rw [← hF]
      subst ez1 ez21 eS22
      simp only [f6_load, if_pos c2]
    have hRR : z21 = tgt.1 := pr1 hR
    have hRS : S22 = tgt.2 := pr2 hR
    exact g_iret X hret hlk hw hRR hRS dX6_load_12
set_option maxHeartbeats 4000000 in
set_option maxRecDepth 10000 in
theorem k_X6_judge (l : Launch) (G : tt_G) (S : tt_St) (a1 : Int32) (hp0 : ci S) : c_MI l G yX6_judge (g_code yX6_judge cX6_judge 4 (some FieldType.int)) 6 148 [.ref (G.2.2 61), .int a1] S ((f6_judge S a1).1) ((f6_judge S a1).2) := by
  generalize hF : f6_judge S a1 = tgt
  refine g_begin rfl (Nat.le_of_ble_eq_true rfl) _ (fun p e s m below meth c ls X hret hlk hB hl => ?_)
  obtain ⟨hP0, K⟩ := hB
  have hw : c_W G S s s.heap [] := ⟨hP0, va_S.rf⟩
  have X : CallFix p m c cX6_judge 4 s ([.ref (G.2.2 61), .int a1] : List Value).toArray tt_T "TrustTin" := X
  have hl : lv_has ls 4 [(0, .ref (G.2.2 61)), (1, .int a1)] := hl
  refine lv_iload_n X.1 X.2.1 dX6_judge_0 rfl (lv_at hl 1 rfl) ?_
  refine c_callSI_p X K hw (k_X6_isSheet l G S a1) (g_cwS X hiX6_isSheet q760 q761 q67 q762 ⟨(Nat.le_of_ble_eq_true rfl), (Nat.le_of_ble_eq_true rfl)⟩) rfl hl.1 rfl (Nat.le_of_ble_eq_true rfl) dX6_judge_1 ⟨(Nat.le_of_ble_eq_true rfl), (Nat.le_of_ble_eq_true rfl)⟩ (fun z1 H locs ez1 hw => ?_)
  refine lv_if_ne (tgt := 13) X.1 X.2.1 dX6_judge_4 (by decide) (fun c2 => ?_) (fun c2 => ?_)
  · refine lv_aload_n X.1 X.2.1 dX6_judge_13 rfl (lv_at hl 0 rfl) ?_
    refine g_get (v := .ref (G.2.2 59)) X K hw (by decide) tt_eT rfl iT6 6 (by decide) q286 rfl dX6_judge_14 ?_
    refine lv_iload_n X.1 X.2.1 dX6_judge_17 rfl (lv_at hl 1 rfl) ?_
    have hi3 : vp_in a1 4 := iss_in ez1 c2
    have hd4 : a1.toNatClampNeg < 4 := lp_cl hi3
    refine g_aald X K hw (by decide) tt_eSh 2 rfl hi3 rfl dX6_judge_18 ?_
    refine lv_astore_n (lv' := [(2, .ref (G.2.2 (48 + a1.toNatClampNeg))), (0, .ref (G.2.2 61)), (1, .int a1)]) X.1 X.2.1 dX6_judge_19 rfl hl (by decide) rfl (fun ls hl => ?_)
    refine lv_aload_n X.1 X.2.1 dX6_judge_20 rfl (lv_at hl 0 rfl) ?_
    refine c_callVI_p X K hw (k_X3_isMissing l G S a1.toNatClampNeg hd4) (g_cwV X hiX3_isMissing q771 q772 q773 q73 q774 ⟨(Nat.le_of_ble_eq_true rfl), (Nat.le_of_ble_eq_true rfl)⟩) (by have := hd4; omega) (tt_eS (k := a1.toNatClampNeg) hd4) rfl rfl hl.1 rfl (Nat.le_of_ble_eq_true rfl) dX6_judge_21 ⟨(Nat.le_of_ble_eq_true rfl), (Nat.le_of_ble_eq_true rfl)⟩ (fun z5 H locs ez5 hw => ?_)
    refine lv_if_eq (tgt := 33) X.1 X.2.1 dX6_judge_24 (by decide) (fun c6 => ?_) (fun c6 => ?_)
    · refine lv_aload_n X.1 X.2.1 dX6_judge_33 rfl (lv_at hl 1 rfl) ?_
      refine lv_aload_n X.1 X.2.1 dX6_judge_34 rfl (lv_at hl 0 rfl) ?_
      refine g_get (v := .int (S 3 (20 + a1.toNatClampNeg))) X K hw (by have := hd4; omega) (tt_eS (k := a1.toNatClampNeg) hd4) rfl iT3 2 (by decide) q272 rfl dX6_judge_35 ?_
      refine c_callVI_p X K hw (k_X6_isTooLate l G S (S 3 (20 + a1.toNatClampNeg))) (g_cwV X hiX6_isTooLate q402 q404 q5 q67 q405 ⟨(Nat.le_of_ble_eq_true rfl), (Nat.le_of_ble_eq_true rfl)⟩) (by decide) tt_eT rfl rfl hl.1 rfl (Nat.le_of_ble_eq_true rfl) dX6_judge_38 ⟨(Nat.le_of_ble_eq_true rfl), (Nat.le_of_ble_eq_true rfl)⟩ (fun z7 H locs ez7 hw => ?_)
      refine lv_if_eq (tgt := 50) X.1 X.2.1 dX6_judge_41 (by decide) (fun c8 => ?_) (fun c8 => ?_)
      · refine lv_aload_n X.1 X.2.1 dX6_judge_50 rfl (lv_at hl 1 rfl) ?_
        refine g_get (v := .ref (G.2.2 32)) X K hw (by decide) tt_eT rfl iT6 2 (by decide) q282 rfl dX6_judge_51 ?_
        refine lv_aload_n X.1 X.2.1 dX6_judge_54 rfl (lv_at hl 1 rfl) ?_
        refine g_get (v := .ref (G.2.2 30)) X K hw (by decide) tt_eT rfl iT6 0 (by decide) q280 rfl dX6_judge_55 ?_
        refine c_callVV_s X K hw (k_X2_takeRoom l G S 2 0 (by decide) (by decide) (hp0.1 0 (by decide)).2 (by decide)) (g_cwV X hiX2_takeRoom q510 q511 q512 q68 q513 ⟨(Nat.le_of_ble_eq_true rfl), (Nat.le_of_ble_eq_true rfl)⟩) (by decide) (tt_eR (r := 2) (by decide : 2 < 3)) rfl rfl hl.1 rfl (Nat.le_of_ble_eq_true rfl) dX6_judge_58 ⟨(Nat.le_of_ble_eq_true rfl), (Nat.le_of_ble_eq_true rfl)⟩ (fun S9 H locs eS9 hw => ?_)
        refine lv_iconst (v := (0 : Int32)) X.1 X.2.1 dX6_judge_61 (by decide) ?_
        refine lv_istore_n (lv' := [(3, .int (0 : Int32)), (2, .ref (G.2.2 (48 + a1.toNatClampNeg))), (0, .ref (G.2.2 61)), (1, .int a1)]) X.1 X.2.1 dX6_judge_62 rfl hl (by decide) rfl (fun ls hl => ?_)
        have j63 : ∀ (n : Nat) (S10 : tt_St) (y3_63 : Int32) (H : Heap) (locs : List Loc) (ls : Array Slot), ((¬ y3_63 < 0) ∧ (S10 2 0).toInt ≤ 10 ∧ S10 3 = S 3) → lp_mu (S10 3 (20 + a1.toNatClampNeg)) y3_63 < n → f6_judge_L63 a1 n S10 y3_63 = tgt → c_W G S10 s H locs → lv_has ls 4 [(0, .ref (G.2.2 61)), (2, .ref (G.2.2 (48 + a1.toNatClampNeg))), (3, .int y3_63)] → W p l e (g_rm 6 148) s m ([.ref (G.2.2 61), .int a1] : List Value).toArray below meth c H locs 0 0 (MQ below (va_Qi (fun r T => r = tgt.1 ∧ T = tgt.2) (g_Post G 62 G.2.2 (tt_cell G)) (g_in 62 G.2.2)) ([.ref (G.2.2 61), .int a1] : List Value).toArray s 0 0 (g_in 62 G.2.2)) (F0 m 63 ls []) := by
          intro n
          induction n with
          | zero => intro S10 y3_63 H locs ls hI hm; exact absurd hm (Nat.not_lt_zero _)
          | succ n ih =>
            intro S10 y3_63 H locs ls hI hm hF hw hl
            refine lv_iload_n X.1 X.2.1 dX6_judge_63 rfl (lv_at hl 2 rfl) ?_
            refine lv_aload_n X.1 X.2.1 dX6_judge_64 rfl (lv_at hl 1 rfl) ?_
            refine g_get (v := .int (S10 3 (20 + a1.toNatClampNeg))) X K hw (by have := hd4; omega) (tt_eS (k := a1.toNatClampNeg) hd4) rfl iT3 2 (by decide) q272 rfl dX6_judge_65 ?_
            refine lv_icmp_ge (tgt := 98) X.1 X.2.1 dX6_judge_68 (by decide) (fun c11 => ?_) (fun c11 => ?_)
            · refine lv_iconst (v := (0 : Int32)) X.1 X.2.1 dX6_judge_98 (by decide) ?_
              have hR : ((0 : Int32), S10) = tgt := by
                rw [← hF]
                simp only [f6_judge_L63, if_pos c11]
              have hRR : (0 : Int32) = tgt.1 := pr1 hR
              have hRS : S10 = tgt.2 := pr2 hR
              exact g_iret X hret hlk hw hRR hRS dX6_judge_99
            · refine lv_aload_n X.1 X.2.1 dX6_judge_71 rfl (lv_at hl 0 rfl) ?_
              refine g_get (v := .ref (G.2.2 32)) X K hw (by decide) tt_eT rfl iT6 2 (by decide) q282 rfl dX6_judge_72 ?_
              refine lv_iconst (v := (1 : Int32)) X.1 X.2.1 dX6_judge_75 (by decide) ?_
              refine c_callVI_s X K hw (k_X2_goDays l G S10 2 (1 : Int32) (by decide) (hI.2.1)) (g_cwV X hiX2_goDays q406 q407 q408 q68 q409 ⟨(Nat.le_of_ble_eq_true rfl), (Nat.le_of_ble_eq_true rfl)⟩) (by decide) (tt_eR (r := 2) (by decide : 2 < 3)) rfl rfl hl.1 rfl (Nat.le_of_ble_eq_true rfl) dX6_judge_76 ⟨(Nat.le_of_ble_eq_true rfl), (Nat.le_of_ble_eq_true rfl)⟩ (fun z12 S13 H locs ez12 eS13 hw => ?_)
              refine lv_aload_n X.1 X.2.1 dX6_judge_79 rfl (lv_at hl 1 rfl) ?_
              refine g_get (v := .ref (G.2.2 (52 + a1.toNatClampNeg))) X K hw (by have := hd4; omega) (tt_eS (k := a1.toNatClampNeg) hd4) rfl iT3 0 (by decide) q268 rfl dX6_judge_80 ?_
              refine lv_iload_n X.1 X.2.1 dX6_judge_83 rfl (lv_at hl 2 rfl) ?_
              have hi14 : vp_in y3_63 40 := lp_in hI.1 c11 (by rw [hI.2.2]; exact (hp0.2.2.1 _ (lp_cl (iss_in ez1 c2))).2)
              refine g_iald X K hw (by have := hd4; omega) (tt_eN (k := a1.toNatClampNeg) hd4) hi14 dX6_judge_84 ?_
              refine lv_icmp_eq (tgt := 92) X.1 X.2.1 dX6_judge_85 (by decide) (fun c15 => ?_) (fun c15 => ?_)
              · obtain ⟨x16, ex16⟩ : ∃ y : Int32, y = y3_63 + (1 : Int32) := ⟨_, rfl⟩
                refine lv_iinc (v := x16) (lv' := [(3, .int x16), (0, .ref (G.2.2 61)), (2, .ref (G.2.2 (48 + a1.toNatClampNeg)))]) X.1 X.2.1 dX6_judge_92 hl (k := 2) rfl (by rw [ex16]; rfl) (by decide) rfl (fun ls hl => ?_)
                refine lv_goto (tgt := 63) X.1 X.2.1 dX6_judge_95 (by decide) ?_
                have hF2 : f6_judge_L63 a1 n S13 x16 = tgt := by
                  rw [← hF]
                  subst ez12 eS13 ex16
                  simp only [f6_judge_L63, if_neg c11, if_pos c15]
                exact ih S13 x16 _ _ ls (⟨by rw [ex16]; exact lp_nn hI.1 c11, by rw [show S13 2 0 = S10 2 0 from by subst ez12 eS13 ex16; exact (fr_goDays _ _ _).sz]; exact hI.2.1, by rw [← hI.2.2]; subst ez12 eS13 ex16; exact tf_go _ _ 3 (by decide) (by decide) (by decide)⟩) (by rw [ex16, show S13 3 = S10 3 from by subst ez12 eS13 ex16; exact tf_go _ _ 3 (by decide) (by decide) (by decide)]; exact lp_dec' c11 hm) hF2 hw (lv_sub hl [1, 2, 0] rfl)
              · refine lv_iconst (v := (1 : Int32)) X.1 X.2.1 dX6_judge_88 (by decide) ?_
                refine lv_iload_n X.1 X.2.1 dX6_judge_89 rfl (lv_at hl 2 rfl) ?_
                refine lv_iadd X.1 X.2.1 dX6_judge_90 ?_
                have hR : ((1 : Int32) + y3_63, S13) = tgt := by
                  rw [← hF]
                  subst ez12 eS13
                  simp only [f6_judge_L63, if_neg c11, if_neg c15]
                have hRR : (1 : Int32) + y3_63 = tgt.1 := pr1 hR
                have hRS : S13 = tgt.2 := pr2 hR
                exact g_iret X hret hlk hw hRR hRS dX6_judge_91
        have hF2 : f6_judge_L63 a1 (lp_mu (S9 3 (20 + a1.toNatClampNeg)) 0 + 1) S9 (0 : Int32) = tgt := by
          rw [← hF]
          subst ez1 ez5 ez7 eS9
          simp only [f6_judge, if_neg c2, if_pos c6, if_pos c8]
        exact j63 (lp_mu (S9 3 (20 + a1.toNatClampNeg)) 0 + 1) S9 (0 : Int32) _ _ ls (⟨by decide, by subst ez1 ez5 ez7 eS9; rw [tk_lo (by decide) (by decide)]; exact (hp0.1 0 (by decide)).2, by subst ez1 ez5 ez7 eS9; exact tk_row (by decide)⟩) (Nat.lt_succ_self _) hF2 hw (lv_sub hl [2, 1, 0] rfl)
      · refine lv_aload_n X.1 X.2.1 dX6_judge_44 rfl (lv_at hl 1 rfl) ?_
        refine lv_iconst (v := (4 : Int32)) X.1 X.2.1 dX6_judge_45 (by decide) ?_
        refine c_callVI_s X K hw (k_X6_tell l G S (4 : Int32) (by unfold vp_in; decide)) (g_cwV X hiX6_tell q312 q314 q0 q67 q315 ⟨(Nat.le_of_ble_eq_true rfl), (Nat.le_of_ble_eq_true rfl)⟩) (by decide) tt_eT rfl rfl hl.1 rfl (Nat.le_of_ble_eq_true rfl) dX6_judge_46 ⟨(Nat.le_of_ble_eq_true rfl), (Nat.le_of_ble_eq_true rfl)⟩ (fun z17 S18 H locs ez17 eS18 hw => ?_)
        have hR : (z17, S18) = tgt := by
          rw [← hF]
          subst ez1 ez5 ez7 ez17 eS18
          simp only [f6_judge, if_neg c2, if_pos c6, if_neg c8]
        have hRR : z17 = tgt.1 := pr1 hR
        have hRS : S18 = tgt.2 := pr2 hR
        exact g_iret X hret hlk hw hRR hRS dX6_judge_49
    · refine lv_aload_n X.1 X.2.1 dX6_judge_27 rfl (lv_at hl 1 rfl) ?_
      refine lv_iconst (v := (5 : Int32)) X.1 X.2.1 dX6_judge_28 (by decide) ?_
      refine c_callVI_s X K hw (k_X6_tell l G S (5 : Int32) (by unfold vp_in; decide)) (g_cwV X hiX6_tell q312 q314 q0 q67 q315 ⟨(Nat.le_of_ble_eq_true rfl), (Nat.le_of_ble_eq_true rfl)⟩) (by decide) tt_eT rfl rfl hl.1 rfl (Nat.le_of_ble_eq_true rfl) dX6_judge_29 ⟨(Nat.le_of_ble_eq_true rfl), (Nat.le_of_ble_eq_true rfl)⟩ (fun z19 S20 H locs ez19 eS20 hw => ?_)
      have hR : (z19, S20) = tgt := by
        rw [← hF]
        subst ez1 ez5 ez19 eS20
        simp only [f6_judge, if_neg c2, if_neg c6]
      have hRR : z19 = tgt.1 := pr1 hR
      have hRS : S20 = tgt.2 := pr2 hR
      exact g_iret X hret hlk hw hRR hRS dX6_judge_32
  · refine lv_aload_n X.1 X.2.1 dX6_judge_7 rfl (lv_at hl 0 rfl) ?_
    refine lv_iconst (v := (0 : Int32)) X.1 X.2.1 dX6_judge_8 (by decide) ?_
    refine c_callVI_s X K hw (k_X6_tell l G S (0 : Int32) (by unfold vp_in; decide)) (g_cwV X hiX6_tell q312 q314 q0 q67 q315 ⟨(Nat.le_of_ble_eq_true rfl), (Nat.le_of_ble_eq_true rfl)⟩) (by decide) tt_eT rfl rfl hl.1 rfl (Nat.le_of_ble_eq_true rfl) dX6_judge_9 ⟨(Nat.le_of_ble_eq_true rfl), (Nat.le_of_ble_eq_true rfl)⟩ (fun z21 S22 H locs ez21 eS22 hw => ?_)
    have hR : (z21, S22) = tgt := by
      rw [← hF]
      subst ez1 ez21 eS22
      simp only [f6_judge, if_pos c2]
    have hRR : z21 = tgt.1 := pr1 hR
    have hRS : S22 = tgt.2 := pr2 hR
    exact g_iret X hret hlk hw hRR hRS dX6_judge_12
set_option maxHeartbeats 4000000 in
set_option maxRecDepth 10000 in
theorem k_X6_image (l : Launch) (G : tt_G) (S : tt_St) (hp0 : ci S) : c_MI l G yX6_image (g_code yX6_image cX6_image 1 (some FieldType.int)) 3 102 [.ref (G.2.2 61)] S ((f6_image S).1) ((f6_image S).2) := by
  generalize hF : f6_image S = tgt
  refine g_begin rfl (Nat.le_of_ble_eq_true rfl) _ (fun p e s m below meth c ls X hret hlk hB hl => ?_)
  obtain ⟨hP0, K⟩ := hB
  have hw : c_W G S s s.heap [] := ⟨hP0, va_S.rf⟩
  have X : CallFix p m c cX6_image 1 s ([.ref (G.2.2 61)] : List Value).toArray tt_T "TrustTin" := X
  have hl : lv_has ls 1 [(0, .ref (G.2.2 61))] := hl
  refine lv_aload_n X.1 X.2.1 dX6_image_0 rfl (lv_at hl 0 rfl) ?_
  refine g_get (v := .ref (G.2.2 31)) X K hw (by decide) tt_eT rfl iT6 1 (by decide) q281 rfl dX6_image_1 ?_
  refine lv_aload_n X.1 X.2.1 dX6_image_4 rfl (lv_at hl 0 rfl) ?_
  refine g_get (v := .ref (G.2.2 30)) X K hw (by decide) tt_eT rfl iT6 0 (by decide) q280 rfl dX6_image_5 ?_
  refine c_callVV_s X K hw (k_X2_takeAll l G S 1 0 (by decide) (by decide) (hp0.1 0 (by decide)).2 (by decide)) (g_cwV X hiX2_takeAll q800 q801 q802 q68 q803 ⟨(Nat.le_of_ble_eq_true rfl), (Nat.le_of_ble_eq_true rfl)⟩) (by decide) (tt_eR (r := 1) (by decide : 1 < 3)) rfl rfl hl.1 rfl (Nat.le_of_ble_eq_true rfl) dX6_image_8 ⟨(Nat.le_of_ble_eq_true rfl), (Nat.le_of_ble_eq_true rfl)⟩ (fun S1 H locs eS1 hw => ?_)
  refine lv_aload_n X.1 X.2.1 dX6_image_11 rfl (lv_at hl 0 rfl) ?_
  refine lv_iconst (v := (1 : Int32)) X.1 X.2.1 dX6_image_12 (by decide) ?_
  refine g_put (S' := tt_up S1 3 0 (1 : Int32)) X K (c_ap K) hw (by decide) tt_eT rfl iT6 tyX6_ok nmX6 3 (by decide) q283 rfl rfl rfl (Nat.le_of_ble_eq_true rfl) tt_sT dX6_image_13 (fun S2 H locs eS2 hw => ?_)
  refine lv_iconst (v := (1 : Int32)) X.1 X.2.1 dX6_image_16 (by decide) ?_
  have hR : ((1 : Int32), S2) = tgt := by
    rw [← hF]
    subst eS1 eS2
    simp only [f6_image]
  have hRR : (1 : Int32) = tgt.1 := pr1 hR
  have hRS : S2 = tgt.2 := pr2 hR
  exact g_iret X hret hlk hw hRR hRS dX6_image_17
set_option maxHeartbeats 4000000 in
set_option maxRecDepth 10000 in
theorem k_X6_undo (l : Launch) (G : tt_G) (S : tt_St) (hp0 : ci S) : c_MI l G yX6_undo (g_code yX6_undo cX6_undo 1 (some FieldType.int)) 3 102 [.ref (G.2.2 61)] S ((f6_undo S).1) ((f6_undo S).2) := by
  generalize hF : f6_undo S = tgt
  refine g_begin rfl (Nat.le_of_ble_eq_true rfl) _ (fun p e s m below meth c ls X hret hlk hB hl => ?_)
  obtain ⟨hP0, K⟩ := hB
  have hw : c_W G S s s.heap [] := ⟨hP0, va_S.rf⟩
  have X : CallFix p m c cX6_undo 1 s ([.ref (G.2.2 61)] : List Value).toArray tt_T "TrustTin" := X
  have hl : lv_has ls 1 [(0, .ref (G.2.2 61))] := hl
  refine lv_aload_n X.1 X.2.1 dX6_undo_0 rfl (lv_at hl 0 rfl) ?_
  refine g_get (v := .int (S 3 0)) X K hw (by decide) tt_eT rfl iT6 3 (by decide) q283 rfl dX6_undo_1 ?_
  refine lv_if_ne (tgt := 13) X.1 X.2.1 dX6_undo_4 (by decide) (fun c1 => ?_) (fun c1 => ?_)
  · refine lv_aload_n X.1 X.2.1 dX6_undo_13 rfl (lv_at hl 0 rfl) ?_
    refine g_get (v := .ref (G.2.2 30)) X K hw (by decide) tt_eT rfl iT6 0 (by decide) q280 rfl dX6_undo_14 ?_
    refine lv_aload_n X.1 X.2.1 dX6_undo_17 rfl (lv_at hl 0 rfl) ?_
    refine g_get (v := .ref (G.2.2 31)) X K hw (by decide) tt_eT rfl iT6 1 (by decide) q281 rfl dX6_undo_18 ?_
    refine c_callVV_s X K hw (k_X2_takeAll l G S 0 1 (by decide) (by decide) (hp0.1 1 (by decide)).2 (by decide)) (g_cwV X hiX2_takeAll q800 q801 q802 q68 q803 ⟨(Nat.le_of_ble_eq_true rfl), (Nat.le_of_ble_eq_true rfl)⟩) (by decide) (tt_eR (r := 0) (by decide : 0 < 3)) rfl rfl hl.1 rfl (Nat.le_of_ble_eq_true rfl) dX6_undo_21 ⟨(Nat.le_of_ble_eq_true rfl), (Nat.le_of_ble_eq_true rfl)⟩ (fun S2 H locs eS2 hw => ?_)
    refine lv_aload_n X.1 X.2.1 dX6_undo_24 rfl (lv_at hl 0 rfl) ?_
    refine g_get (v := .ref (G.2.2 30)) X K hw (by decide) tt_eT rfl iT6 0 (by decide) q280 rfl dX6_undo_25 ?_
    refine g_get (v := .int (S2 0 7)) X K hw (by decide) (tt_eR (r := 0) (by decide : 0 < 3)) rfl iT2 8 (by decide) q179 rfl dX6_undo_28 ?_
    have hR : (S2 0 7, S2) = tgt := by
      rw [← hF]
      subst eS2
      simp only [f6_undo, if_neg c1]
    have hRR : S2 0 7 = tgt.1 := pr1 hR
    have hRS : S2 = tgt.2 := pr2 hR
    exact g_iret X hret hlk hw hRR hRS dX6_undo_31
  · refine lv_aload_n X.1 X.2.1 dX6_undo_7 rfl (lv_at hl 0 rfl) ?_
    refine lv_iconst (v := (3 : Int32)) X.1 X.2.1 dX6_undo_8 (by decide) ?_
    refine c_callVI_s X K hw (k_X6_tell l G S (3 : Int32) (by unfold vp_in; decide)) (g_cwV X hiX6_tell q312 q314 q0 q67 q315 ⟨(Nat.le_of_ble_eq_true rfl), (Nat.le_of_ble_eq_true rfl)⟩) (by decide) tt_eT rfl rfl hl.1 rfl (Nat.le_of_ble_eq_true rfl) dX6_undo_9 ⟨(Nat.le_of_ble_eq_true rfl), (Nat.le_of_ble_eq_true rfl)⟩ (fun z3 S4 H locs ez3 eS4 hw => ?_)
    have hR : (z3, S4) = tgt := by
      rw [← hF]
      subst ez3 eS4
      simp only [f6_undo, if_pos c1]
    have hRR : z3 = tgt.1 := pr1 hR
    have hRS : S4 = tgt.2 := pr2 hR
    exact g_iret X hret hlk hw hRR hRS dX6_undo_12
set_option maxHeartbeats 4000000 in
set_option maxRecDepth 10000 in
theorem k_X6_tear (l : Launch) (G : tt_G) (S : tt_St) (hp0 : ci S) : c_MI l G yX6_tear (g_code yX6_tear cX6_tear 2 (some FieldType.int)) 0 0 [.ref (G.2.2 61)] S ((f6_tear S).1) ((f6_tear S).2) := by
  generalize hF : f6_tear S = tgt
  refine g_begin rfl (Nat.le_of_ble_eq_true rfl) _ (fun p e s m below meth c ls X hret hlk hB hl => ?_)
  obtain ⟨hP0, K⟩ := hB
  have hw : c_W G S s s.heap [] := ⟨hP0, va_S.rf⟩
  have X : CallFix p m c cX6_tear 2 s ([.ref (G.2.2 61)] : List Value).toArray tt_T "TrustTin" := X
  have hl : lv_has ls 2 [(0, .ref (G.2.2 61))] := hl
  refine lv_aload_n X.1 X.2.1 dX6_tear_0 rfl (lv_at hl 0 rfl) ?_
  refine g_get (v := .int (S 3 0)) X K hw (by decide) tt_eT rfl iT6 3 (by decide) q283 rfl dX6_tear_1 ?_
  refine lv_if_eq (tgt := 11) X.1 X.2.1 dX6_tear_4 (by decide) (fun c1 => ?_) (fun c1 => ?_)
  · refine lv_iconst (v := (0 : Int32)) X.1 X.2.1 dX6_tear_11 (by decide) ?_
    refine lv_istore_n (lv' := [(1, .int (0 : Int32)), (0, .ref (G.2.2 61))]) X.1 X.2.1 dX6_tear_12 rfl hl (by decide) rfl (fun ls hl => ?_)
    refine lv_aload_n X.1 X.2.1 dX6_tear_13 rfl (lv_at hl 1 rfl) ?_
    refine lv_iconst (v := (0 : Int32)) X.1 X.2.1 dX6_tear_14 (by decide) ?_
    refine g_put (S' := tt_up S 3 0 (0 : Int32)) X K (c_ap K) hw (by decide) tt_eT rfl iT6 tyX6_ok nmX6 3 (by decide) q283 rfl rfl rfl (Nat.le_of_ble_eq_true rfl) tt_sT dX6_tear_15 (fun S2 H locs eS2 hw => ?_)
    refine lv_iload_n X.1 X.2.1 dX6_tear_18 rfl (lv_at hl 0 rfl) ?_
    have hR : ((0 : Int32), S2) = tgt := by
      rw [← hF]
      subst eS2
      simp only [f6_tear, if_pos c1]
    have hRR : (0 : Int32) = tgt.1 := pr1 hR
    have hRS : S2 = tgt.2 := pr2 hR
    exact g_iret X hret hlk hw hRR hRS dX6_tear_19
  · refine lv_iconst (v := (1 : Int32)) X.1 X.2.1 dX6_tear_7 (by decide) ?_
    refine lv_goto (tgt := 12) X.1 X.2.1 dX6_tear_8 (by decide) ?_
    refine lv_istore_n (lv' := [(1, .int (1 : Int32)), (0, .ref (G.2.2 61))]) X.1 X.2.1 dX6_tear_12 rfl hl (by decide) rfl (fun ls hl => ?_)
    refine lv_aload_n X.1 X.2.1 dX6_tear_13 rfl (lv_at hl 1 rfl) ?_
    refine lv_iconst (v := (0 : Int32)) X.1 X.2.1 dX6_tear_14 (by decide) ?_
    refine g_put (S' := tt_up S 3 0 (0 : Int32)) X K (c_ap K) hw (by decide) tt_eT rfl iT6 tyX6_ok nmX6 3 (by decide) q283 rfl rfl rfl (Nat.le_of_ble_eq_true rfl) tt_sT dX6_tear_15 (fun S3 H locs eS3 hw => ?_)
    refine lv_iload_n X.1 X.2.1 dX6_tear_18 rfl (lv_at hl 0 rfl) ?_
    have hR : ((1 : Int32), S3) = tgt := by
      rw [← hF]
      subst eS3
      simp only [f6_tear, if_neg c1]
    have hRR : (1 : Int32) = tgt.1 := pr1 hR
    have hRS : S3 = tgt.2 := pr2 hR
    exact g_iret X hret hlk hw hRR hRS dX6_tear_19
set_option maxHeartbeats 4000000 in
set_option maxRecDepth 10000 in
theorem k_X6_count (l : Launch) (G : tt_G) (S : tt_St) (a1 : Int32) (hp0 : ci S) : c_MI l G yX6_count (g_code yX6_count cX6_count 2 (some FieldType.int)) 1 22 [.ref (G.2.2 61), .int a1] S ((f6_count S a1).1) ((f6_count S a1).2) := by
  generalize hF : f6_count S a1 = tgt
  refine g_begin rfl (Nat.le_of_ble_eq_true rfl) _ (fun p e s m below meth c ls X hret hlk hB hl => ?_)
  obtain ⟨hP0, K⟩ := hB
  have hw : c_W G S s s.heap [] := ⟨hP0, va_S.rf⟩
  have X : CallFix p m c cX6_count 2 s ([.ref (G.2.2 61), .int a1] : List Value).toArray tt_T "TrustTin" := X
  have hl : lv_has ls 2 [(0, .ref (G.2.2 61)), (1, .int a1)] := hl
  refine lv_iload_n X.1 X.2.1 dX6_count_0 rfl (lv_at hl 1 rfl) ?_
  by_cases c1 : a1 = (0 : Int32)
  · refine lv_tableIn (tgt := 48) X.1 X.2.1 dX6_count_1 (by rw [c1]; decide) (by rw [c1]; decide) (by rw [c1]; rfl) (by decide) ?_
    refine lv_aload_n X.1 X.2.1 dX6_count_48 rfl (lv_at hl 0 rfl) ?_
    refine g_get (v := .ref (G.2.2 30)) X K hw (by decide) tt_eT rfl iT6 0 (by decide) q280 rfl dX6_count_49 ?_
    refine g_get (v := .int (S 0 0)) X K hw (by decide) (tt_eR (r := 0) (by decide : 0 < 3)) rfl iT2 1 (by decide) q162 rfl dX6_count_52 ?_
    have hR : (S 0 0, S) = tgt := by
      rw [← hF]
      simp only [f6_count, if_pos c1]
    have hRR : S 0 0 = tgt.1 := pr1 hR
    have hRS : S = tgt.2 := pr2 hR
    exact g_iret X hret hlk hw hRR hRS dX6_count_55
  by_cases c2 : a1 = (1 : Int32)
  · refine lv_tableIn (tgt := 56) X.1 X.2.1 dX6_count_1 (by rw [c2]; decide) (by rw [c2]; decide) (by rw [c2]; rfl) (by decide) ?_
    refine lv_aload_n X.1 X.2.1 dX6_count_56 rfl (lv_at hl 0 rfl) ?_
    refine g_get (v := .ref (G.2.2 30)) X K hw (by decide) tt_eT rfl iT6 0 (by decide) q280 rfl dX6_count_57 ?_
    refine g_get (v := .ref (G.2.2 36)) X K hw (by decide) (tt_eR (r := 0) (by decide : 0 < 3)) rfl iT2 12 (by decide) q187 rfl dX6_count_60 ?_
    refine g_get (v := .int (S 0 11)) X K hw (by decide) (tt_eB (r := 0) (by decide : 0 < 3)) rfl iT0 2 (by decide) q109 rfl dX6_count_63 ?_
    have hR : (S 0 11, S) = tgt := by
      rw [← hF]
      simp only [f6_count, if_neg c1, if_pos c2]
    have hRR : S 0 11 = tgt.1 := pr1 hR
    have hRS : S = tgt.2 := pr2 hR
    exact g_iret X hret hlk hw hRR hRS dX6_count_66
  by_cases c3 : a1 = (2 : Int32)
  · refine lv_tableIn (tgt := 67) X.1 X.2.1 dX6_count_1 (by rw [c3]; decide) (by rw [c3]; decide) (by rw [c3]; rfl) (by decide) ?_
    refine lv_aload_n X.1 X.2.1 dX6_count_67 rfl (lv_at hl 0 rfl) ?_
    refine g_get (v := .ref (G.2.2 30)) X K hw (by decide) tt_eT rfl iT6 0 (by decide) q280 rfl dX6_count_68 ?_
    refine g_get (v := .int (S 0 1)) X K hw (by decide) (tt_eR (r := 0) (by decide : 0 < 3)) rfl iT2 2 (by decide) q166 rfl dX6_count_71 ?_
    have hR : (S 0 1, S) = tgt := by
      rw [← hF]
      simp only [f6_count, if_neg c1, if_neg c2, if_pos c3]
    have hRR : S 0 1 = tgt.1 := pr1 hR
    have hRS : S = tgt.2 := pr2 hR
    exact g_iret X hret hlk hw hRR hRS dX6_count_74
  by_cases c4 : a1 = (3 : Int32)
  · refine lv_tableIn (tgt := 75) X.1 X.2.1 dX6_count_1 (by rw [c4]; decide) (by rw [c4]; decide) (by rw [c4]; rfl) (by decide) ?_
    refine lv_aload_n X.1 X.2.1 dX6_count_75 rfl (lv_at hl 0 rfl) ?_
    refine g_get (v := .ref (G.2.2 30)) X K hw (by decide) tt_eT rfl iT6 0 (by decide) q280 rfl dX6_count_76 ?_
    refine g_get (v := .int (S 0 2)) X K hw (by decide) (tt_eR (r := 0) (by decide : 0 < 3)) rfl iT2 3 (by decide) q168 rfl dX6_count_79 ?_
    have hR : (S 0 2, S) = tgt := by
      rw [← hF]
      simp only [f6_count, if_neg c1, if_neg c2, if_neg c3, if_pos c4]
    have hRR : S 0 2 = tgt.1 := pr1 hR
    have hRS : S = tgt.2 := pr2 hR
    exact g_iret X hret hlk hw hRR hRS dX6_count_82
  by_cases c5 : a1 = (4 : Int32)
  · refine lv_tableIn (tgt := 83) X.1 X.2.1 dX6_count_1 (by rw [c5]; decide) (by rw [c5]; decide) (by rw [c5]; rfl) (by decide) ?_
    refine lv_aload_n X.1 X.2.1 dX6_count_83 rfl (lv_at hl 0 rfl) ?_
    refine g_get (v := .ref (G.2.2 30)) X K hw (by decide) tt_eT rfl iT6 0 (by decide) q280 rfl dX6_count_84 ?_
    refine g_get (v := .int (S 0 5)) X K hw (by decide) (tt_eR (r := 0) (by decide : 0 < 3)) rfl iT2 6 (by decide) q175 rfl dX6_count_87 ?_
    have hR : (S 0 5, S) = tgt := by
      rw [← hF]
      simp only [f6_count, if_neg c1, if_neg c2, if_neg c3, if_neg c4, if_pos c5]
    have hRR : S 0 5 = tgt.1 := pr1 hR
    have hRS : S = tgt.2 := pr2 hR
    exact g_iret X hret hlk hw hRR hRS dX6_count_90
  by_cases c6 : a1 = (5 : Int32)
  · refine lv_tableIn (tgt := 91) X.1 X.2.1 dX6_count_1 (by rw [c6]; decide) (by rw [c6]; decide) (by rw [c6]; rfl) (by decide) ?_
    refine lv_aload_n X.1 X.2.1 dX6_count_91 rfl (lv_at hl 0 rfl) ?_
    refine g_get (v := .ref (G.2.2 56)) X K hw (by decide) tt_eT rfl iT6 4 (by decide) q284 rfl dX6_count_92 ?_
    refine g_get (v := .int (S 3 1)) X K hw (by decide) tt_eTp rfl iT4 1 (by decide) q229 rfl dX6_count_95 ?_
    have hR : (S 3 1, S) = tgt := by
      rw [← hF]
      simp only [f6_count, if_neg c1, if_neg c2, if_neg c3, if_neg c4, if_neg c5, if_pos c6]
    have hRR : S 3 1 = tgt.1 := pr1 hR
    have hRS : S = tgt.2 := pr2 hR
    exact g_iret X hret hlk hw hRR hRS dX6_count_98
  by_cases c7 : a1 = (6 : Int32)
  · refine lv_tableIn (tgt := 99) X.1 X.2.1 dX6_count_1 (by rw [c7]; decide) (by rw [c7]; decide) (by rw [c7]; rfl) (by decide) ?_
    refine lv_aload_n X.1 X.2.1 dX6_count_99 rfl (lv_at hl 0 rfl) ?_
    refine g_get (v := .ref (G.2.2 30)) X K hw (by decide) tt_eT rfl iT6 0 (by decide) q280 rfl dX6_count_100 ?_
    refine g_get (v := .int (S 0 10)) X K hw (by decide) (tt_eR (r := 0) (by decide : 0 < 3)) rfl iT2 11 (by decide) q185 rfl dX6_count_103 ?_
    have hR : (S 0 10, S) = tgt := by
      rw [← hF]
      simp only [f6_count, if_neg c1, if_neg c2, if_neg c3, if_neg c4, if_neg c5, if_neg c6, if_pos c7]
    have hRR : S 0 10 = tgt.1 := pr1 hR
    have hRS : S = tgt.2 := pr2 hR
    exact g_iret X hret hlk hw hRR hRS dX6_count_106
  by_cases c8 : a1 = (7 : Int32)
  · refine lv_tableIn (tgt := 107) X.1 X.2.1 dX6_count_1 (by rw [c8]; decide) (by rw [c8]; decide) (by rw [c8]; rfl) (by decide) ?_
    refine lv_aload_n X.1 X.2.1 dX6_count_107 rfl (lv_at hl 0 rfl) ?_
    refine g_get (v := .ref (G.2.2 30)) X K hw (by decide) tt_eT rfl iT6 0 (by decide) q280 rfl dX6_count_108 ?_
    refine c_callVI_p X K hw (k_X2_heldSpots l G S 0 (by decide)) (g_cwV X hiX2_heldSpots q822 q823 q824 q68 q825 ⟨(Nat.le_of_ble_eq_true rfl), (Nat.le_of_ble_eq_true rfl)⟩) (by decide) (tt_eR (r := 0) (by decide : 0 < 3)) rfl rfl hl.1 rfl (Nat.le_of_ble_eq_true rfl) dX6_count_111 ⟨(Nat.le_of_ble_eq_true rfl), (Nat.le_of_ble_eq_true rfl)⟩ (fun z9 H locs ez9 hw => ?_)
    have hR : (z9, S) = tgt := by
      rw [← hF]
      subst ez9
      simp only [f6_count, if_neg c1, if_neg c2, if_neg c3, if_neg c4, if_neg c5, if_neg c6, if_neg c7, if_pos c8]
    have hRR : z9 = tgt.1 := pr1 hR
    have hRS : S = tgt.2 := pr2 hR
    exact g_iret X hret hlk hw hRR hRS dX6_count_114
  refine lv_tableOut (tgt := 115) X.1 X.2.1 dX6_count_1 (by have := lv_neT (a := 0) c1 rfl; have := lv_neT (a := 1) c2 rfl; have := lv_neT (a := 2) c3 rfl; have := lv_neT (a := 3) c4 rfl; have := lv_neT (a := 4) c5 rfl; have := lv_neT (a := 5) c6 rfl; have := lv_neT (a := 6) c7 rfl; have := lv_neT (a := 7) c8 rfl; omega) (by decide) ?_
  refine lv_aload_n X.1 X.2.1 dX6_count_115 rfl (lv_at hl 0 rfl) ?_
  refine lv_iconst (v := (0 : Int32)) X.1 X.2.1 dX6_count_116 (by decide) ?_
  refine c_callVI_s X K hw (k_X6_tell l G S (0 : Int32) (by unfold vp_in; decide)) (g_cwV X hiX6_tell q312 q314 q0 q67 q315 ⟨(Nat.le_of_ble_eq_true rfl), (Nat.le_of_ble_eq_true rfl)⟩) (by decide) tt_eT rfl rfl hl.1 rfl (Nat.le_of_ble_eq_true rfl) dX6_count_117 ⟨(Nat.le_of_ble_eq_true rfl), (Nat.le_of_ble_eq_true rfl)⟩ (fun z10 S11 H locs ez10 eS11 hw => ?_)
  have hR : (z10, S11) = tgt := by
    rw [← hF]
    subst ez10 eS11
    simp only [f6_count, if_neg c1, if_neg c2, if_neg c3, if_neg c4, if_neg c5, if_neg c6, if_neg c7, if_neg c8]
  have hRR : z10 = tgt.1 := pr1 hR
  have hRS : S11 = tgt.2 := pr2 hR
  exact g_iret X hret hlk hw hRR hRS dX6_count_120
set_option maxHeartbeats 4000000 in
set_option maxRecDepth 10000 in
theorem k_X6_status (l : Launch) (G : tt_G) (S : tt_St) (a1 : Int32) (hp0 : ci S) : c_MI l G yX6_status (g_code yX6_status cX6_status 4 (some FieldType.int)) 1 22 [.ref (G.2.2 61), .int a1] S ((f6_status S a1).1) ((f6_status S a1).2) := by
  generalize hF : f6_status S a1 = tgt
  refine g_begin rfl (Nat.le_of_ble_eq_true rfl) _ (fun p e s m below meth c ls X hret hlk hB hl => ?_)
  obtain ⟨hP0, K⟩ := hB
  have hw : c_W G S s s.heap [] := ⟨hP0, va_S.rf⟩
  have X : CallFix p m c cX6_status 4 s ([.ref (G.2.2 61), .int a1] : List Value).toArray tt_T "TrustTin" := X
  have hl : lv_has ls 4 [(0, .ref (G.2.2 61)), (1, .int a1)] := hl
  refine lv_iload_n X.1 X.2.1 dX6_status_0 rfl (lv_at hl 1 rfl) ?_
  refine lv_iconst (v := (-1 : Int32)) X.1 X.2.1 dX6_status_1 (by decide) ?_
  refine lv_bipush (v := (6 : Int32)) X.1 X.2.1 dX6_status_2 (by decide) ?_
  refine c_callSI_p X K hw (k_X6_within l G S a1 (-1 : Int32) (6 : Int32)) (g_cwS X hiX6_within q309 q310 q67 q311 ⟨(Nat.le_of_ble_eq_true rfl), (Nat.le_of_ble_eq_true rfl)⟩) rfl hl.1 rfl (Nat.le_of_ble_eq_true rfl) dX6_status_4 ⟨(Nat.le_of_ble_eq_true rfl), (Nat.le_of_ble_eq_true rfl)⟩ (fun z1 H locs ez1 hw => ?_)
  refine lv_if_ne (tgt := 16) X.1 X.2.1 dX6_status_7 (by decide) (fun c2 => ?_) (fun c2 => ?_)
  · refine lv_iload_n X.1 X.2.1 dX6_status_16 rfl (lv_at hl 1 rfl) ?_
    refine lv_if_lt (tgt := 27) X.1 X.2.1 dX6_status_17 (by decide) (fun c3 => ?_) (fun c3 => ?_)
    · refine lv_iconst (v := (0 : Int32)) X.1 X.2.1 dX6_status_27 (by decide) ?_
      refine lv_istore_n (lv' := [(2, .int (0 : Int32)), (0, .ref (G.2.2 61)), (1, .int a1)]) X.1 X.2.1 dX6_status_28 rfl hl (by decide) rfl (fun ls hl => ?_)
      refine lv_iconst (v := (0 : Int32)) X.1 X.2.1 dX6_status_29 (by decide) ?_
      refine lv_istore_n (lv' := [(3, .int (0 : Int32)), (2, .int (0 : Int32)), (0, .ref (G.2.2 61)), (1, .int a1)]) X.1 X.2.1 dX6_status_30 rfl hl (by decide) rfl (fun ls hl => ?_)
      have j31 : ∀ (n : Nat) (S4 : tt_St) (y2_31 : Int32) (y3_31 : Int32) (H : Heap) (locs : List Loc) (ls : Array Slot), (¬ y3_31 < 0) → lp_mu (7 : Int32) y3_31 < n → f6_status_L31 a1 n S4 y2_31 y3_31 = tgt → c_W G S4 s H locs → lv_has ls 4 [(0, .ref (G.2.2 61)), (2, .int y2_31), (3, .int y3_31)] → W p l e (g_rm 1 22) s m ([.ref (G.2.2 61), .int a1] : List Value).toArray below meth c H locs 0 0 (MQ below (va_Qi (fun r T => r = tgt.1 ∧ T = tgt.2) (g_Post G 62 G.2.2 (tt_cell G)) (g_in 62 G.2.2)) ([.ref (G.2.2 61), .int a1] : List Value).toArray s 0 0 (g_in 62 G.2.2)) (F0 m 31 ls []) := by
        intro n
        induction n with
        | zero => intro S4 y2_31 y3_31 H locs ls hI hm; exact absurd hm (Nat.not_lt_zero _)
        | succ n ih =>
          intro S4 y2_31 y3_31 H locs ls hI hm hF hw hl
          refine lv_iload_n X.1 X.2.1 dX6_status_31 rfl (lv_at hl 2 rfl) ?_
          refine lv_bipush (v := (7 : Int32)) X.1 X.2.1 dX6_status_32 (by decide) ?_
          refine lv_icmp_ge (tgt := 52) X.1 X.2.1 dX6_status_34 (by decide) (fun c5 => ?_) (fun c5 => ?_)
          · refine lv_iload_n X.1 X.2.1 dX6_status_52 rfl (lv_at hl 1 rfl) ?_
            have hR : (y2_31, S4) = tgt := by
              rw [← hF]
              simp only [f6_status_L31, if_pos c5]
            have hRR : y2_31 = tgt.1 := pr1 hR
            have hRS : S4 = tgt.2 := pr2 hR
            exact g_iret X hret hlk hw hRR hRS dX6_status_53
          · refine lv_iload_n X.1 X.2.1 dX6_status_37 rfl (lv_at hl 1 rfl) ?_
            refine lv_aload_n X.1 X.2.1 dX6_status_38 rfl (lv_at hl 0 rfl) ?_
            refine g_get (v := .ref (G.2.2 60)) X K hw (by decide) tt_eT rfl iT6 7 (by decide) q287 rfl dX6_status_39 ?_
            refine lv_iload_n X.1 X.2.1 dX6_status_42 rfl (lv_at hl 2 rfl) ?_
            have hi6 : vp_in y3_31 7 := lp_in hI c5 (by decide)
            refine g_iald X K hw (by decide) tt_eF hi6 dX6_status_43 ?_
            refine lv_iadd X.1 X.2.1 dX6_status_44 ?_
            refine lv_topi (fun x7 ex7 => ?_)
            refine lv_istore_n (lv' := [(2, .int x7), (0, .ref (G.2.2 61)), (3, .int y3_31)]) X.1 X.2.1 dX6_status_45 rfl hl (by decide) rfl (fun ls hl => ?_)
            obtain ⟨x8, ex8⟩ : ∃ y : Int32, y = y3_31 + (1 : Int32) := ⟨_, rfl⟩
            refine lv_iinc (v := x8) (lv' := [(3, .int x8), (2, .int x7), (0, .ref (G.2.2 61))]) X.1 X.2.1 dX6_status_46 hl (k := 2) rfl (by rw [ex8]; rfl) (by decide) rfl (fun ls hl => ?_)
            refine lv_goto (tgt := 31) X.1 X.2.1 dX6_status_49 (by decide) ?_
            have hF2 : f6_status_L31 a1 n S4 x7 x8 = tgt := by
              rw [← hF]
              subst ex7 ex8
              simp only [f6_status_L31, if_neg c5]
            exact ih S4 x7 x8 _ _ ls (by rw [ex8]; exact lp_nn hI c5) (by rw [ex8]; exact lp_dec' c5 hm) hF2 hw (lv_sub hl [2, 1, 0] rfl)
      have hF2 : f6_status_L31 a1 (lp_mu (7 : Int32) 0 + 1) S (0 : Int32) (0 : Int32) = tgt := by
        rw [← hF]
        subst ez1
        simp only [f6_status, if_neg c2, if_pos c3]
      exact j31 (lp_mu (7 : Int32) 0 + 1) S (0 : Int32) (0 : Int32) _ _ ls (by decide) (Nat.lt_succ_self _) hF2 hw (lv_sub hl [2, 1, 0] rfl)
    · refine lv_aload_n X.1 X.2.1 dX6_status_20 rfl (lv_at hl 0 rfl) ?_
      refine g_get (v := .ref (G.2.2 60)) X K hw (by decide) tt_eT rfl iT6 7 (by decide) q287 rfl dX6_status_21 ?_
      refine lv_iload_n X.1 X.2.1 dX6_status_24 rfl (lv_at hl 1 rfl) ?_
      have hi9 : vp_in a1 7 := st6_in ez1 c2 c3
      refine g_iald X K hw (by decide) tt_eF hi9 dX6_status_25 ?_
      have hR : (S 4 a1.toNatClampNeg, S) = tgt := by
        rw [← hF]
        subst ez1
        simp only [f6_status, if_neg c2, if_neg c3]
      have hRR : S 4 a1.toNatClampNeg = tgt.1 := pr1 hR
      have hRS : S = tgt.2 := pr2 hR
      exact g_iret X hret hlk hw hRR hRS dX6_status_26
  · refine lv_aload_n X.1 X.2.1 dX6_status_10 rfl (lv_at hl 0 rfl) ?_
    refine lv_iconst (v := (0 : Int32)) X.1 X.2.1 dX6_status_11 (by decide) ?_
    refine c_callVI_s X K hw (k_X6_tell l G S (0 : Int32) (by unfold vp_in; decide)) (g_cwV X hiX6_tell q312 q314 q0 q67 q315 ⟨(Nat.le_of_ble_eq_true rfl), (Nat.le_of_ble_eq_true rfl)⟩) (by decide) tt_eT rfl rfl hl.1 rfl (Nat.le_of_ble_eq_true rfl) dX6_status_12 ⟨(Nat.le_of_ble_eq_true rfl), (Nat.le_of_ble_eq_true rfl)⟩ (fun z10 S11 H locs ez10 eS11 hw => ?_)
    have hR : (z10, S11) = tgt := by
      rw [← hF]
      subst ez1 ez10 eS11
      simp only [f6_status, if_pos c2]
    have hRR : z10 = tgt.1 := pr1 hR
    have hRS : S11 = tgt.2 := pr2 hR
    exact g_iret X hret hlk hw hRR hRS dX6_status_15
