set_option maxHeartbeats 4000000 in
set_option maxRecDepth 10000 in
theorem k_X6_strokes (l : Launch) (G : tt_G) (S : tt_St) (hp0 : ci S) : c_MI l G yX6_strokes (g_code yX6_strokes cX6_strokes 5 (some FieldType.int)) 2 44 [.ref (G.2.2 61)] S ((f6_strokes S).1) ((f6_strokes S).2) := by
  generalize hF : f6_strokes S = tgt
  refine g_begin rfl (Nat.le_of_ble_eq_true rfl) _ (fun p e s m below meth c ls X hret hlk hB hl => ?_)
  obtain ⟨hP0, K⟩ := hB
  have hw : c_W G S s s.heap [] := ⟨hP0, va_S.rf⟩
  have X : CallFix p m c cX6_strokes 5 s ([.ref (G.2.2 61)] : List Value).toArray tt_T "TrustTin" := X
  have hl : lv_has ls 5 [(0, .ref (G.2.2 61))] := hl
  refine lv_aload_n X.1 X.2.1 dX6_strokes_0 rfl (lv_at hl 0 rfl) ?_
  refine g_get (v := .ref (G.2.2 30)) X K hw (by decide) tt_eT rfl iT6 0 (by decide) q280 rfl dX6_strokes_1 ?_
  refine lv_iconst (v := (5 : Int32)) X.1 X.2.1 dX6_strokes_4 (by decide) ?_
  refine c_callVI_p X K hw (k_X2_sumOf l G S 0 (5 : Int32) (by decide) (hp0.1 0 (by decide)).2) (g_cwV X hiX2_sumOf q397 q393 q394 q68 q395 ⟨(Nat.le_of_ble_eq_true rfl), (Nat.le_of_ble_eq_true rfl)⟩) (by decide) (tt_eR (r := 0) (by decide : 0 < 3)) rfl rfl hl.1 rfl (Nat.le_of_ble_eq_true rfl) dX6_strokes_5 ⟨(Nat.le_of_ble_eq_true rfl), (Nat.le_of_ble_eq_true rfl)⟩ (fun z1 H locs ez1 hw => ?_)
  refine lv_istore_n (lv' := [(1, .int z1), (0, .ref (G.2.2 61))]) X.1 X.2.1 dX6_strokes_8 rfl hl (by decide) rfl (fun ls hl => ?_)
  refine lv_iconst (v := (0 : Int32)) X.1 X.2.1 dX6_strokes_9 (by decide) ?_
  refine lv_istore_n (lv' := [(2, .int (0 : Int32)), (1, .int z1), (0, .ref (G.2.2 61))]) X.1 X.2.1 dX6_strokes_10 rfl hl (by decide) rfl (fun ls hl => ?_)
  refine lv_iconst (v := (0 : Int32)) X.1 X.2.1 dX6_strokes_11 (by decide) ?_
  refine lv_istore_n (lv' := [(3, .int (0 : Int32)), (2, .int (0 : Int32)), (1, .int z1), (0, .ref (G.2.2 61))]) X.1 X.2.1 dX6_strokes_12 rfl hl (by decide) rfl (fun ls hl => ?_)
  have j13 : ∀ (n : Nat) (S2 : tt_St) (y1_13 : Int32) (y2_13 : Int32) (y3_13 : Int32) (H : Heap) (locs : List Loc) (ls : Array Slot), (¬ y3_13 < 0) → lp_mu y1_13 y3_13 < n → f6_strokes_L13 n S2 y1_13 y2_13 y3_13 = tgt → c_W G S2 s H locs → lv_has ls 5 [(0, .ref (G.2.2 61)), (1, .int y1_13), (2, .int y2_13), (3, .int y3_13)] → W p l e (g_rm 2 44) s m ([.ref (G.2.2 61)] : List Value).toArray below meth c H locs 0 0 (MQ below (va_Qi (fun r T => r = tgt.1 ∧ T = tgt.2) (g_Post G 62 G.2.2 (tt_cell G)) (g_in 62 G.2.2)) ([.ref (G.2.2 61)] : List Value).toArray s 0 0 (g_in 62 G.2.2)) (F0 m 13 ls []) := by
    intro n
    induction n with
    | zero => intro S2 y1_13 y2_13 y3_13 H locs ls hI hm; exact absurd hm (Nat.not_lt_zero _)
    | succ n ih =>
      intro S2 y1_13 y2_13 y3_13 H locs ls hI hm hF hw hl
      refine lv_iload_n X.1 X.2.1 dX6_strokes_13 rfl (lv_at hl 3 rfl) ?_
      refine lv_iload_n X.1 X.2.1 dX6_strokes_14 rfl (lv_at hl 1 rfl) ?_
      refine lv_icmp_ge (tgt := 55) X.1 X.2.1 dX6_strokes_15 (by decide) (fun c3 => ?_) (fun c3 => ?_)
      · refine lv_iload_n X.1 X.2.1 dX6_strokes_55 rfl (lv_at hl 2 rfl) ?_
        have hR : (y2_13, S2) = tgt := by
          rw [← hF]
          simp only [f6_strokes_L13, if_pos c3]
        have hRR : y2_13 = tgt.1 := pr1 hR
        have hRS : S2 = tgt.2 := pr2 hR
        exact g_iret X hret hlk hw hRR hRS dX6_strokes_56
      · refine lv_aload_n X.1 X.2.1 dX6_strokes_18 rfl (lv_at hl 0 rfl) ?_
        refine g_get (v := .ref (G.2.2 30)) X K hw (by decide) tt_eT rfl iT6 0 (by decide) q280 rfl dX6_strokes_19 ?_
        refine c_callVI_s X K hw (k_X2_draw l G S2 0 (by decide)) (g_cwV X hiX2_draw q570 q423 q424 q68 q425 ⟨(Nat.le_of_ble_eq_true rfl), (Nat.le_of_ble_eq_true rfl)⟩) (by decide) (tt_eR (r := 0) (by decide : 0 < 3)) rfl rfl hl.1 rfl (Nat.le_of_ble_eq_true rfl) dX6_strokes_22 ⟨(Nat.le_of_ble_eq_true rfl), (Nat.le_of_ble_eq_true rfl)⟩ (fun z4 S5 H locs ez4 eS5 hw => ?_)
        refine lv_bipush (v := (10 : Int32)) X.1 X.2.1 dX6_strokes_25 (by decide) ?_
        refine lv_irem X.1 X.2.1 dX6_strokes_27 (by decide) ?_
        refine lv_topi (fun x6 ex6 => ?_)
        refine lv_istore (lv' := [(4, .int x6), (0, .ref (G.2.2 61)), (1, .int y1_13), (2, .int y2_13), (3, .int y3_13)]) X.1 X.2.1 dX6_strokes_28 hl (by decide) rfl (fun ls hl => ?_)
        refine lv_iload X.1 X.2.1 dX6_strokes_30 (lv_at hl 0 rfl) ?_
        refine lv_if_eq (tgt := 49) X.1 X.2.1 dX6_strokes_32 (by decide) (fun c7 => ?_) (fun c7 => ?_)
        · obtain ⟨x8, ex8⟩ : ∃ y : Int32, y = y3_13 + (1 : Int32) := ⟨_, rfl⟩
          refine lv_iinc (v := x8) (lv' := [(3, .int x8), (4, .int x6), (0, .ref (G.2.2 61)), (1, .int y1_13), (2, .int y2_13)]) X.1 X.2.1 dX6_strokes_49 hl (k := 4) rfl (by rw [ex8]; rfl) (by decide) rfl (fun ls hl => ?_)
          refine lv_goto (tgt := 13) X.1 X.2.1 dX6_strokes_52 (by decide) ?_
          have hF2 : f6_strokes_L13 n S5 y1_13 y2_13 x8 = tgt := by
            rw [← hF]
            subst ez4 eS5 ex6 ex8
            simp only [f6_strokes_L13, if_neg c3, if_pos c7]
          exact ih S5 y1_13 y2_13 x8 _ _ ls (by rw [ex8]; exact lp_nn hI c3) (by rw [ex8]; exact lp_dec' c3 hm) hF2 hw (lv_sub hl [2, 3, 4, 0] rfl)
        · refine lv_iload_n X.1 X.2.1 dX6_strokes_35 rfl (lv_at hl 3 rfl) ?_
          refine lv_iload X.1 X.2.1 dX6_strokes_36 (lv_at hl 0 rfl) ?_
          refine lv_iconst (v := (1 : Int32)) X.1 X.2.1 dX6_strokes_38 (by decide) ?_
          refine lv_icmp_ne (tgt := 46) X.1 X.2.1 dX6_strokes_39 (by decide) (fun c9 => ?_) (fun c9 => ?_)
          · refine lv_iconst (v := (1 : Int32)) X.1 X.2.1 dX6_strokes_46 (by decide) ?_
            refine lv_iadd X.1 X.2.1 dX6_strokes_47 ?_
            refine lv_topi (fun x10 ex10 => ?_)
            refine lv_istore_n (lv' := [(2, .int x10), (4, .int x6), (0, .ref (G.2.2 61)), (1, .int y1_13), (3, .int y3_13)]) X.1 X.2.1 dX6_strokes_48 rfl hl (by decide) rfl (fun ls hl => ?_)
            obtain ⟨x11, ex11⟩ : ∃ y : Int32, y = y3_13 + (1 : Int32) := ⟨_, rfl⟩
            refine lv_iinc (v := x11) (lv' := [(3, .int x11), (2, .int x10), (4, .int x6), (0, .ref (G.2.2 61)), (1, .int y1_13)]) X.1 X.2.1 dX6_strokes_49 hl (k := 4) rfl (by rw [ex11]; rfl) (by decide) rfl (fun ls hl => ?_)
            refine lv_goto (tgt := 13) X.1 X.2.1 dX6_strokes_52 (by decide) ?_
            have hF2 : f6_strokes_L13 n S5 y1_13 x10 x11 = tgt := by
              rw [← hF]
              subst ez4 eS5 ex6 ex10 ex11
              simp only [f6_strokes_L13, if_neg c3, if_neg c7, if_neg c9]
            exact ih S5 y1_13 x10 x11 _ _ ls (by rw [ex11]; exact lp_nn hI c3) (by rw [ex11]; exact lp_dec' c3 hm) hF2 hw (lv_sub hl [3, 4, 1, 0] rfl)
          · refine lv_iconst (v := (2 : Int32)) X.1 X.2.1 dX6_strokes_42 (by decide) ?_
            refine lv_goto (tgt := 47) X.1 X.2.1 dX6_strokes_43 (by decide) ?_
            refine lv_iadd X.1 X.2.1 dX6_strokes_47 ?_
            refine lv_topi (fun x12 ex12 => ?_)
            refine lv_istore_n (lv' := [(2, .int x12), (4, .int x6), (0, .ref (G.2.2 61)), (1, .int y1_13), (3, .int y3_13)]) X.1 X.2.1 dX6_strokes_48 rfl hl (by decide) rfl (fun ls hl => ?_)
            obtain ⟨x13, ex13⟩ : ∃ y : Int32, y = y3_13 + (1 : Int32) := ⟨_, rfl⟩
            refine lv_iinc (v := x13) (lv' := [(3, .int x13), (2, .int x12), (4, .int x6), (0, .ref (G.2.2 61)), (1, .int y1_13)]) X.1 X.2.1 dX6_strokes_49 hl (k := 4) rfl (by rw [ex13]; rfl) (by decide) rfl (fun ls hl => ?_)
            refine lv_goto (tgt := 13) X.1 X.2.1 dX6_strokes_52 (by decide) ?_
            have hF2 : f6_strokes_L13 n S5 y1_13 x12 x13 = tgt := by
              rw [← hF]
              subst ez4 eS5 ex6 ex12 ex13
              simp only [f6_strokes_L13, if_neg c3, if_neg c7, if_pos c9]
            exact ih S5 y1_13 x12 x13 _ _ ls (by rw [ex13]; exact lp_nn hI c3) (by rw [ex13]; exact lp_dec' c3 hm) hF2 hw (lv_sub hl [3, 4, 1, 0] rfl)
  have hF2 : f6_strokes_L13 (lp_mu z1 0 + 1) S z1 (0 : Int32) (0 : Int32) = tgt := by
    rw [← hF]
    subst ez1
    simp only [f6_strokes]
  exact j13 (lp_mu z1 0 + 1) S z1 (0 : Int32) (0 : Int32) _ _ ls (by decide) (Nat.lt_succ_self _) hF2 hw (lv_sub hl [3, 2, 1, 0] rfl)
set_option maxHeartbeats 4000000 in
set_option maxRecDepth 10000 in
theorem k_X6_feed (l : Launch) (G : tt_G) (S : tt_St) (a1 : Int32) (a2 : Int32) (hp0 : ci S) : c_MI l G yX6_feed (g_code yX6_feed cX6_feed 4 (some FieldType.int)) 1 22 [.ref (G.2.2 61), .int a1, .int a2] S ((f6_feed S a1 a2).1) ((f6_feed S a1 a2).2) := by
  generalize hF : f6_feed S a1 a2 = tgt
  refine g_begin rfl (Nat.le_of_ble_eq_true rfl) _ (fun p e s m below meth c ls X hret hlk hB hl => ?_)
  obtain ⟨hP0, K⟩ := hB
  have hw : c_W G S s s.heap [] := ⟨hP0, va_S.rf⟩
  have X : CallFix p m c cX6_feed 4 s ([.ref (G.2.2 61), .int a1, .int a2] : List Value).toArray tt_T "TrustTin" := X
  have hl : lv_has ls 4 [(0, .ref (G.2.2 61)), (1, .int a1), (2, .int a2)] := hl
  refine lv_iload_n X.1 X.2.1 dX6_feed_0 rfl (lv_at hl 2 rfl) ?_
  refine lv_iconst (v := (1 : Int32)) X.1 X.2.1 dX6_feed_1 (by decide) ?_
  refine lv_iconst (v := (4 : Int32)) X.1 X.2.1 dX6_feed_2 (by decide) ?_
  refine c_callSI_p X K hw (k_X6_within l G S a2 (1 : Int32) (4 : Int32)) (g_cwS X hiX6_within q309 q310 q67 q311 ⟨(Nat.le_of_ble_eq_true rfl), (Nat.le_of_ble_eq_true rfl)⟩) rfl hl.1 rfl (Nat.le_of_ble_eq_true rfl) dX6_feed_3 ⟨(Nat.le_of_ble_eq_true rfl), (Nat.le_of_ble_eq_true rfl)⟩ (fun z1 H locs ez1 hw => ?_)
  refine lv_if_ne (tgt := 15) X.1 X.2.1 dX6_feed_6 (by decide) (fun c2 => ?_) (fun c2 => ?_)
  · refine lv_aload_n X.1 X.2.1 dX6_feed_15 rfl (lv_at hl 0 rfl) ?_
    refine g_get (v := .ref (G.2.2 56)) X K hw (by decide) tt_eT rfl iT6 4 (by decide) q284 rfl dX6_feed_16 ?_
    refine g_get (v := .int (S 3 1)) X K hw (by decide) tt_eTp rfl iT4 1 (by decide) q229 rfl dX6_feed_19 ?_
    refine lv_iload_n X.1 X.2.1 dX6_feed_22 rfl (lv_at hl 2 rfl) ?_
    refine lv_iadd X.1 X.2.1 dX6_feed_23 ?_
    refine lv_bipush (v := (120 : Int32)) X.1 X.2.1 dX6_feed_24 (by decide) ?_
    refine lv_icmp_le (tgt := 35) X.1 X.2.1 dX6_feed_26 (by decide) (fun c3 => ?_) (fun c3 => ?_)
    · refine lv_iload_n X.1 X.2.1 dX6_feed_35 rfl (lv_at hl 2 rfl) ?_
      refine lv_iconst (v := (1 : Int32)) X.1 X.2.1 dX6_feed_36 (by decide) ?_
      refine lv_isub X.1 X.2.1 dX6_feed_37 ?_
      refine lv_topi (fun x4 ex4 => ?_)
      refine lv_istore_n (lv' := [(3, .int x4), (0, .ref (G.2.2 61)), (1, .int a1), (2, .int a2)]) X.1 X.2.1 dX6_feed_38 rfl hl (by decide) rfl (fun ls hl => ?_)
      have j39 : ∀ (n : Nat) (S5 : tt_St) (y3_39 : Int32) (H : Heap) (locs : List Loc) (ls : Array Slot), (¬ S5 3 1 < 0) → (y3_39.toInt + 1).toNat < n → f6_feed_L39 a1 a2 n S5 y3_39 = tgt → c_W G S5 s H locs → lv_has ls 4 [(0, .ref (G.2.2 61)), (1, .int a1), (3, .int y3_39)] → W p l e (g_rm 1 22) s m ([.ref (G.2.2 61), .int a1, .int a2] : List Value).toArray below meth c H locs 0 0 (MQ below (va_Qi (fun r T => r = tgt.1 ∧ T = tgt.2) (g_Post G 62 G.2.2 (tt_cell G)) (g_in 62 G.2.2)) ([.ref (G.2.2 61), .int a1, .int a2] : List Value).toArray s 0 0 (g_in 62 G.2.2)) (F0 m 39 ls []) := by
        intro n
        induction n with
        | zero => intro S5 y3_39 H locs ls hI hm; exact absurd hm (Nat.not_lt_zero _)
        | succ n ih =>
          intro S5 y3_39 H locs ls hI hm hF hw hl
          refine lv_iload_n X.1 X.2.1 dX6_feed_39 rfl (lv_at hl 2 rfl) ?_
          refine lv_if_lt (tgt := 66) X.1 X.2.1 dX6_feed_40 (by decide) (fun c6 => ?_) (fun c6 => ?_)
          · refine lv_aload_n X.1 X.2.1 dX6_feed_66 rfl (lv_at hl 0 rfl) ?_
            refine g_get (v := .ref (G.2.2 56)) X K hw (by decide) tt_eT rfl iT6 4 (by decide) q284 rfl dX6_feed_67 ?_
            refine g_get (v := .int (S5 3 1)) X K hw (by decide) tt_eTp rfl iT4 1 (by decide) q229 rfl dX6_feed_70 ?_
            have hR : (S5 3 1, S5) = tgt := by
              rw [← hF]
              simp only [f6_feed_L39, if_pos c6]
            have hRR : S5 3 1 = tgt.1 := pr1 hR
            have hRS : S5 = tgt.2 := pr2 hR
            exact g_iret X hret hlk hw hRR hRS dX6_feed_73
          · refine lv_aload_n X.1 X.2.1 dX6_feed_43 rfl (lv_at hl 0 rfl) ?_
            refine g_get (v := .ref (G.2.2 56)) X K hw (by decide) tt_eT rfl iT6 4 (by decide) q284 rfl dX6_feed_44 ?_
            refine lv_iload_n X.1 X.2.1 dX6_feed_47 rfl (lv_at hl 1 rfl) ?_
            refine lv_bipush (v := (8 : Int32)) X.1 X.2.1 dX6_feed_48 (by decide) ?_
            refine lv_iload_n X.1 X.2.1 dX6_feed_50 rfl (lv_at hl 2 rfl) ?_
            refine lv_imul X.1 X.2.1 dX6_feed_51 ?_
            refine lv_iushr X.1 X.2.1 dX6_feed_52 rfl ?_
            refine lv_sipush (v := (255 : Int32)) X.1 X.2.1 dX6_feed_53 (by decide) ?_
            refine lv_iand X.1 X.2.1 dX6_feed_56 ?_
            refine c_callVV_s X K hw (k_X4_put l G S5 (((a1.toUInt32 >>> (((8 : Int32) * y3_39).toUInt32 &&& Int32.toUInt32 31)).toInt32) &&& (255 : Int32)) (hI)) (g_cwV X hiX4_put q595 q596 q597 q71 q598 ⟨(Nat.le_of_ble_eq_true rfl), (Nat.le_of_ble_eq_true rfl)⟩) (by decide) tt_eTp rfl rfl hl.1 rfl (Nat.le_of_ble_eq_true rfl) dX6_feed_57 ⟨(Nat.le_of_ble_eq_true rfl), (Nat.le_of_ble_eq_true rfl)⟩ (fun S7 H locs eS7 hw => ?_)
            obtain ⟨x8, ex8⟩ : ∃ y : Int32, y = y3_39 + (-1 : Int32) := ⟨_, rfl⟩
            refine lv_iinc (v := x8) (lv' := [(3, .int x8), (0, .ref (G.2.2 61)), (1, .int a1)]) X.1 X.2.1 dX6_feed_60 hl (k := 2) rfl (by rw [ex8]; rfl) (by decide) rfl (fun ls hl => ?_)
            refine lv_goto (tgt := 39) X.1 X.2.1 dX6_feed_63 (by decide) ?_
            have hF2 : f6_feed_L39 a1 a2 n S7 x8 = tgt := by
              rw [← hF]
              subst eS7 ex8
              simp only [f6_feed_L39, if_neg c6]
            exact ih S7 x8 _ _ ls (by subst eS7 ex8; exact tp_put hI) (by rw [ex8]; exact fd_mu c6 hm) hF2 hw (lv_sub hl [1, 2, 0] rfl)
      have hF2 : f6_feed_L39 a1 a2 (((x4).toInt + 1).toNat + 1) S x4 = tgt := by
        rw [← hF]
        subst ez1 ex4
        simp only [f6_feed, if_neg c2, if_pos c3]
      exact j39 (((x4).toInt + 1).toNat + 1) S x4 _ _ ls (hp0.2.1.1) (Nat.lt_succ_self _) hF2 hw (lv_sub hl [1, 2, 0] rfl)
    · refine lv_aload_n X.1 X.2.1 dX6_feed_29 rfl (lv_at hl 0 rfl) ?_
      refine lv_iconst (v := (1 : Int32)) X.1 X.2.1 dX6_feed_30 (by decide) ?_
      refine c_callVI_s X K hw (k_X6_tell l G S (1 : Int32) (by unfold vp_in; decide)) (g_cwV X hiX6_tell q312 q314 q0 q67 q315 ⟨(Nat.le_of_ble_eq_true rfl), (Nat.le_of_ble_eq_true rfl)⟩) (by decide) tt_eT rfl rfl hl.1 rfl (Nat.le_of_ble_eq_true rfl) dX6_feed_31 ⟨(Nat.le_of_ble_eq_true rfl), (Nat.le_of_ble_eq_true rfl)⟩ (fun z9 S10 H locs ez9 eS10 hw => ?_)
      have hR : (z9, S10) = tgt := by
        rw [← hF]
        subst ez1 ez9 eS10
        simp only [f6_feed, if_neg c2, if_neg c3]
      have hRR : z9 = tgt.1 := pr1 hR
      have hRS : S10 = tgt.2 := pr2 hR
      exact g_iret X hret hlk hw hRR hRS dX6_feed_34
  · refine lv_aload_n X.1 X.2.1 dX6_feed_9 rfl (lv_at hl 0 rfl) ?_
    refine lv_iconst (v := (0 : Int32)) X.1 X.2.1 dX6_feed_10 (by decide) ?_
    refine c_callVI_s X K hw (k_X6_tell l G S (0 : Int32) (by unfold vp_in; decide)) (g_cwV X hiX6_tell q312 q314 q0 q67 q315 ⟨(Nat.le_of_ble_eq_true rfl), (Nat.le_of_ble_eq_true rfl)⟩) (by decide) tt_eT rfl rfl hl.1 rfl (Nat.le_of_ble_eq_true rfl) dX6_feed_11 ⟨(Nat.le_of_ble_eq_true rfl), (Nat.le_of_ble_eq_true rfl)⟩ (fun z11 S12 H locs ez11 eS12 hw => ?_)
    have hR : (z11, S12) = tgt := by
      rw [← hF]
      subst ez1 ez11 eS12
      simp only [f6_feed, if_pos c2]
    have hRR : z11 = tgt.1 := pr1 hR
    have hRS : S12 = tgt.2 := pr2 hR
    exact g_iret X hret hlk hw hRR hRS dX6_feed_14
