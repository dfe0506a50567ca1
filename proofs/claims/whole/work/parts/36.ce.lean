set_option maxHeartbeats 4000000 in
set_option maxRecDepth 10000 in
theorem k_X6_uneven (l : Launch) (G : tt_G) (S : tt_St) (a1 : Int32) (hp0 : ci S) : c_MI l G yX6_uneven (g_code yX6_uneven cX6_uneven 9 (some FieldType.int)) 3 64 [.ref (G.2.2 61), .int a1] S ((f6_uneven S a1).1) ((f6_uneven S a1).2) := by
  generalize hF : f6_uneven S a1 = tgt
  refine g_begin rfl (Nat.le_of_ble_eq_true rfl) _ (fun p e s m below meth c ls X hret hlk hB hl => ?_)
  obtain ⟨hP0, K⟩ := hB
  have hw : c_W G S s s.heap [] := ⟨hP0, va_S.rf⟩
  have X : CallFix p m c cX6_uneven 9 s ([.ref (G.2.2 61), .int a1] : List Value).toArray tt_T "TrustTin" := X
  have hl : lv_has ls 9 [(0, .ref (G.2.2 61)), (1, .int a1)] := hl
  refine lv_iload_n X.1 X.2.1 dX6_uneven_0 rfl (lv_at hl 1 rfl) ?_
  refine lv_iconst (v := (0 : Int32)) X.1 X.2.1 dX6_uneven_1 (by decide) ?_
  refine lv_iconst (v := (2 : Int32)) X.1 X.2.1 dX6_uneven_2 (by decide) ?_
  refine c_callSI_p X K hw (k_X6_within l G S a1 (0 : Int32) (2 : Int32)) (g_cwS X hiX6_within q309 q310 q67 q311 ⟨(Nat.le_of_ble_eq_true rfl), (Nat.le_of_ble_eq_true rfl)⟩) rfl hl.1 rfl (Nat.le_of_ble_eq_true rfl) dX6_uneven_3 ⟨(Nat.le_of_ble_eq_true rfl), (Nat.le_of_ble_eq_true rfl)⟩ (fun z1 H locs ez1 hw => ?_)
  refine lv_if_ne (tgt := 15) X.1 X.2.1 dX6_uneven_6 (by decide) (fun c2 => ?_) (fun c2 => ?_)
  · refine lv_aload_n X.1 X.2.1 dX6_uneven_15 rfl (lv_at hl 0 rfl) ?_
    refine g_get (v := .ref (G.2.2 30)) X K hw (by decide) tt_eT rfl iT6 0 (by decide) q280 rfl dX6_uneven_16 ?_
    refine c_callVI_p X K hw (k_X2_drinkersWhoDrank l G S 0 (by decide) (hp0.1 0 (by decide)).2) (g_cwV X hiX2_drinkersWhoDrank q558 q559 q560 q68 q561 ⟨(Nat.le_of_ble_eq_true rfl), (Nat.le_of_ble_eq_true rfl)⟩) (by decide) (tt_eR (r := 0) (by decide : 0 < 3)) rfl rfl hl.1 rfl (Nat.le_of_ble_eq_true rfl) dX6_uneven_19 ⟨(Nat.le_of_ble_eq_true rfl), (Nat.le_of_ble_eq_true rfl)⟩ (fun z3 H locs ez3 hw => ?_)
    refine lv_istore_n (lv' := [(2, .int z3), (0, .ref (G.2.2 61)), (1, .int a1)]) X.1 X.2.1 dX6_uneven_22 rfl hl (by decide) rfl (fun ls hl => ?_)
    refine lv_iload_n X.1 X.2.1 dX6_uneven_23 rfl (lv_at hl 0 rfl) ?_
    refine lv_if_ne (tgt := 33) X.1 X.2.1 dX6_uneven_24 (by decide) (fun c4 => ?_) (fun c4 => ?_)
    · refine lv_aload_n X.1 X.2.1 dX6_uneven_33 rfl (lv_at hl 1 rfl) ?_
      refine g_get (v := .ref (G.2.2 30)) X K hw (by decide) tt_eT rfl iT6 0 (by decide) q280 rfl dX6_uneven_34 ?_
      refine c_callVI_p X K hw (k_X2_due l G S 0 (by decide) (hp0.1 0 (by decide)).2) (g_cwV X hiX2_due q388 q389 q390 q68 q391 ⟨(Nat.le_of_ble_eq_true rfl), (Nat.le_of_ble_eq_true rfl)⟩) (by decide) (tt_eR (r := 0) (by decide : 0 < 3)) rfl rfl hl.1 rfl (Nat.le_of_ble_eq_true rfl) dX6_uneven_37 ⟨(Nat.le_of_ble_eq_true rfl), (Nat.le_of_ble_eq_true rfl)⟩ (fun z5 H locs ez5 hw => ?_)
      refine lv_iload_n X.1 X.2.1 dX6_uneven_40 rfl (lv_at hl 0 rfl) ?_
      refine lv_idiv X.1 X.2.1 dX6_uneven_41 (c4) ?_
      refine lv_topi (fun x6 ex6 => ?_)
      refine lv_istore_n (lv' := [(3, .int x6), (2, .int z3), (0, .ref (G.2.2 61)), (1, .int a1)]) X.1 X.2.1 dX6_uneven_42 rfl hl (by decide) rfl (fun ls hl => ?_)
      refine lv_iconst (v := (-1 : Int32)) X.1 X.2.1 dX6_uneven_43 (by decide) ?_
      refine lv_istore (lv' := [(4, .int (-1 : Int32)), (3, .int x6), (2, .int z3), (0, .ref (G.2.2 61)), (1, .int a1)]) X.1 X.2.1 dX6_uneven_44 hl (by decide) rfl (fun ls hl => ?_)
      refine lv_iconst (v := (-1 : Int32)) X.1 X.2.1 dX6_uneven_46 (by decide) ?_
      refine lv_istore (lv' := [(5, .int (-1 : Int32)), (4, .int (-1 : Int32)), (3, .int x6), (2, .int z3), (0, .ref (G.2.2 61)), (1, .int a1)]) X.1 X.2.1 dX6_uneven_47 hl (by decide) rfl (fun ls hl => ?_)
      refine lv_iconst (v := (0 : Int32)) X.1 X.2.1 dX6_uneven_49 (by decide) ?_
      refine lv_istore (lv' := [(6, .int (0 : Int32)), (5, .int (-1 : Int32)), (4, .int (-1 : Int32)), (3, .int x6), (2, .int z3), (0, .ref (G.2.2 61)), (1, .int a1)]) X.1 X.2.1 dX6_uneven_50 hl (by decide) rfl (fun ls hl => ?_)
      have j52 : ∀ (n : Nat) (S7 : tt_St) (y3_52 : Int32) (y4_52 : Int32) (y5_52 : Int32) (y6_52 : Int32) (H : Heap) (locs : List Loc) (ls : Array Slot), ((¬ y6_52 < 0) ∧ S7 = S) → lp_mu (S7 0 0) y6_52 < n → f6_uneven_L52 a1 n S7 y3_52 y4_52 y5_52 y6_52 = tgt → c_W G S7 s H locs → lv_has ls 9 [(0, .ref (G.2.2 61)), (1, .int a1), (3, .int y3_52), (4, .int y4_52), (5, .int y5_52), (6, .int y6_52)] → W p l e (g_rm 3 64) s m ([.ref (G.2.2 61), .int a1] : List Value).toArray below meth c H locs 0 0 (MQ below (va_Qi (fun r T => r = tgt.1 ∧ T = tgt.2) (g_Post G 62 G.2.2 (tt_cell G)) (g_in 62 G.2.2)) ([.ref (G.2.2 61), .int a1] : List Value).toArray s 0 0 (g_in 62 G.2.2)) (F0 m 52 ls []) := by
        intro n
        induction n with
        | zero => intro S7 y3_52 y4_52 y5_52 y6_52 H locs ls hI hm; exact absurd hm (Nat.not_lt_zero _)
        | succ n ih =>
          intro S7 y3_52 y4_52 y5_52 y6_52 H locs ls hI hm hF hw hl
          refine lv_iload X.1 X.2.1 dX6_uneven_52 (lv_at hl 5 rfl) ?_
          refine lv_aload_n X.1 X.2.1 dX6_uneven_54 rfl (lv_at hl 0 rfl) ?_
          refine g_get (v := .ref (G.2.2 30)) X K hw (by decide) tt_eT rfl iT6 0 (by decide) q280 rfl dX6_uneven_55 ?_
          refine g_get (v := .int (S7 0 0)) X K hw (by decide) (tt_eR (r := 0) (by decide : 0 < 3)) rfl iT2 1 (by decide) q162 rfl dX6_uneven_58 ?_
          refine lv_icmp_ge (tgt := 137) X.1 X.2.1 dX6_uneven_61 (by decide) (fun c8 => ?_) (fun c8 => ?_)
          · refine lv_iload X.1 X.2.1 dX6_uneven_137 (lv_at hl 3 rfl) ?_
            refine lv_iload X.1 X.2.1 dX6_uneven_139 (lv_at hl 4 rfl) ?_
            refine lv_isub X.1 X.2.1 dX6_uneven_141 ?_
            have hR : (y4_52 - y5_52, S7) = tgt := by
              rw [← hF]
              simp only [f6_uneven_L52, if_pos c8]
            have hRR : y4_52 - y5_52 = tgt.1 := pr1 hR
            have hRS : S7 = tgt.2 := pr2 hR
            exact g_iret X hret hlk hw hRR hRS dX6_uneven_142
          · refine lv_aload_n X.1 X.2.1 dX6_uneven_64 rfl (lv_at hl 0 rfl) ?_
            refine g_get (v := .ref (G.2.2 30)) X K hw (by decide) tt_eT rfl iT6 0 (by decide) q280 rfl dX6_uneven_65 ?_
            refine g_get (v := .ref (G.2.2 33)) X K hw (by decide) (tt_eR (r := 0) (by decide : 0 < 3)) rfl iT2 0 (by decide) q160 rfl dX6_uneven_68 ?_
            refine lv_iload X.1 X.2.1 dX6_uneven_71 (lv_at hl 5 rfl) ?_
            have hi9 : vp_in y6_52 10 := lp_in hI.1 c8 (by rw [hI.2]; exact (hp0.1 0 (by decide)).2)
            have hd10 : y6_52.toNatClampNeg < 10 := lp_cl hi9
            refine g_aald X K hw (by decide) (tt_eA (r := 0) (by decide : 0 < 3)) 1 rfl hi9 rfl dX6_uneven_73 ?_
            refine lv_astore (lv' := [(7, .ref (G.2.2 (10 * 0 + y6_52.toNatClampNeg))), (0, .ref (G.2.2 61)), (1, .int a1), (3, .int y3_52), (4, .int y4_52), (5, .int y5_52), (6, .int y6_52)]) X.1 X.2.1 dX6_uneven_74 hl (by decide) rfl (fun ls hl => ?_)
            refine lv_aload X.1 X.2.1 dX6_uneven_76 (lv_at hl 0 rfl) ?_
            refine g_get (v := .int (S7 0 (17 + 7 * y6_52.toNatClampNeg))) X K hw (by have := (by decide : 0 < 3); have := hd10; omega) (tt_eD (r := 0) (d := y6_52.toNatClampNeg) (by decide : 0 < 3) hd10) rfl iT1 5 (by decide) q140 rfl dX6_uneven_78 ?_
            refine lv_if_le (tgt := 131) X.1 X.2.1 dX6_uneven_81 (by decide) (fun c11 => ?_) (fun c11 => ?_)
            · obtain ⟨x12, ex12⟩ : ∃ y : Int32, y = y6_52 + (1 : Int32) := ⟨_, rfl⟩
              refine lv_iinc (v := x12) (lv' := [(6, .int x12), (7, .ref (G.2.2 (10 * 0 + y6_52.toNatClampNeg))), (0, .ref (G.2.2 61)), (1, .int a1), (3, .int y3_52), (4, .int y4_52), (5, .int y5_52)]) X.1 X.2.1 dX6_uneven_131 hl (k := 6) rfl (by rw [ex12]; rfl) (by decide) rfl (fun ls hl => ?_)
              refine lv_goto (tgt := 52) X.1 X.2.1 dX6_uneven_134 (by decide) ?_
              have hF2 : f6_uneven_L52 a1 n S7 y3_52 y4_52 y5_52 x12 = tgt := by
                rw [← hF]
                subst ex12
                simp only [f6_uneven_L52, if_neg c8, if_pos c11]
              exact ih S7 y3_52 y4_52 y5_52 x12 _ _ ls (⟨by rw [ex12]; exact lp_nn hI.1 c8, hI.2⟩) (by rw [ex12]; exact lp_dec' c8 hm) hF2 hw (lv_sub hl [2, 3, 4, 5, 6, 0] rfl)
            · refine lv_aload_n X.1 X.2.1 dX6_uneven_84 rfl (lv_at hl 1 rfl) ?_
              refine lv_aload X.1 X.2.1 dX6_uneven_85 (lv_at hl 0 rfl) ?_
              refine lv_iload_n X.1 X.2.1 dX6_uneven_87 rfl (lv_at hl 2 rfl) ?_
              refine lv_iload_n X.1 X.2.1 dX6_uneven_88 rfl (lv_at hl 3 rfl) ?_
              refine c_callVI_p X K hw (k_X6_coinsByWay l G S7 y6_52.toNatClampNeg a1 y3_52 hd10) (g_cwV X hiX6_coinsByWay q562 q564 q15 q67 q565 ⟨(Nat.le_of_ble_eq_true rfl), (Nat.le_of_ble_eq_true rfl)⟩) (by decide) tt_eT rfl rfl hl.1 rfl (Nat.le_of_ble_eq_true rfl) dX6_uneven_89 ⟨(Nat.le_of_ble_eq_true rfl), (Nat.le_of_ble_eq_true rfl)⟩ (fun z13 H locs ez13 hw => ?_)
              refine lv_bipush (v := (100 : Int32)) X.1 X.2.1 dX6_uneven_92 (by decide) ?_
              refine lv_imul X.1 X.2.1 dX6_uneven_94 ?_
              refine lv_aload X.1 X.2.1 dX6_uneven_95 (lv_at hl 0 rfl) ?_
              refine g_get (v := .int (S7 0 (17 + 7 * y6_52.toNatClampNeg))) X K hw (by have := (by decide : 0 < 3); have := hd10; omega) (tt_eD (r := 0) (d := y6_52.toNatClampNeg) (by decide : 0 < 3) hd10) rfl iT1 5 (by decide) q140 rfl dX6_uneven_97 ?_
              refine lv_idiv X.1 X.2.1 dX6_uneven_100 (fun h => c11 (by rw [h]; decide)) ?_
              refine lv_topi (fun x14 ex14 => ?_)
              refine lv_istore (lv' := [(8, .int x14), (7, .ref (G.2.2 (10 * 0 + y6_52.toNatClampNeg))), (0, .ref (G.2.2 61)), (1, .int a1), (3, .int y3_52), (4, .int y4_52), (5, .int y5_52), (6, .int y6_52)]) X.1 X.2.1 dX6_uneven_101 hl (by decide) rfl (fun ls hl => ?_)
              refine lv_iload X.1 X.2.1 dX6_uneven_103 (lv_at hl 5 rfl) ?_
              refine lv_iload X.1 X.2.1 dX6_uneven_105 (lv_at hl 0 rfl) ?_
              refine va_mmax X.1 X.2.1 (X.2.2.1.trans hl.1.symm) X.2.2.2.1 (X.2.2.2.2 _ q481) (X.2.2.2.2 _ q482) (X.2.2.2.2 _ q75) (X.2.2.2.2 _ q483) (Nat.le_of_ble_eq_true rfl) (Nat.le_of_ble_eq_true rfl) (Nat.le_of_ble_eq_true rfl) (Nat.le_of_ble_eq_true rfl) dX6_uneven_107 ?_
              refine lv_topi (fun x15 ex15 => ?_)
              refine lv_istore (lv' := [(4, .int x15), (8, .int x14), (7, .ref (G.2.2 (10 * 0 + y6_52.toNatClampNeg))), (0, .ref (G.2.2 61)), (1, .int a1), (3, .int y3_52), (5, .int y5_52), (6, .int y6_52)]) X.1 X.2.1 dX6_uneven_110 hl (by decide) rfl (fun ls hl => ?_)
              refine lv_iload X.1 X.2.1 dX6_uneven_112 (lv_at hl 6 rfl) ?_
              refine lv_if_ge (tgt := 122) X.1 X.2.1 dX6_uneven_114 (by decide) (fun c16 => ?_) (fun c16 => ?_)
              · refine lv_iload X.1 X.2.1 dX6_uneven_122 (lv_at hl 6 rfl) ?_
                refine lv_iload X.1 X.2.1 dX6_uneven_124 (lv_at hl 1 rfl) ?_
                refine va_mmin X.1 X.2.1 (X.2.2.1.trans hl.1.symm) X.2.2.2.1 (X.2.2.2.2 _ q379) (X.2.2.2.2 _ q322) (X.2.2.2.2 _ q75) (X.2.2.2.2 _ q323) (Nat.le_of_ble_eq_true rfl) (Nat.le_of_ble_eq_true rfl) (Nat.le_of_ble_eq_true rfl) (Nat.le_of_ble_eq_true rfl) dX6_uneven_126 ?_
                refine lv_topi (fun x17 ex17 => ?_)
                refine lv_istore (lv' := [(5, .int x17), (4, .int x15), (8, .int x14), (7, .ref (G.2.2 (10 * 0 + y6_52.toNatClampNeg))), (0, .ref (G.2.2 61)), (1, .int a1), (3, .int y3_52), (6, .int y6_52)]) X.1 X.2.1 dX6_uneven_129 hl (by decide) rfl (fun ls hl => ?_)
                obtain ⟨x18, ex18⟩ : ∃ y : Int32, y = y6_52 + (1 : Int32) := ⟨_, rfl⟩
                refine lv_iinc (v := x18) (lv' := [(6, .int x18), (5, .int x17), (4, .int x15), (8, .int x14), (7, .ref (G.2.2 (10 * 0 + y6_52.toNatClampNeg))), (0, .ref (G.2.2 61)), (1, .int a1), (3, .int y3_52)]) X.1 X.2.1 dX6_uneven_131 hl (k := 7) rfl (by rw [ex18]; rfl) (by decide) rfl (fun ls hl => ?_)
                refine lv_goto (tgt := 52) X.1 X.2.1 dX6_uneven_134 (by decide) ?_
                have hF2 : f6_uneven_L52 a1 n S7 y3_52 x15 x17 x18 = tgt := by
                  rw [← hF]
                  subst ez13 ex14 ex15 ex17 ex18
                  simp only [f6_uneven_L52, if_neg c8, if_neg c11, if_pos c16]
                exact ih S7 y3_52 x15 x17 x18 _ _ ls (⟨by rw [ex18]; exact lp_nn hI.1 c8, hI.2⟩) (by rw [ex18]; exact lp_dec' c8 hm) hF2 hw (lv_sub hl [5, 6, 7, 2, 1, 0] rfl)
              · refine lv_iload X.1 X.2.1 dX6_uneven_117 (lv_at hl 1 rfl) ?_
                refine lv_goto (tgt := 129) X.1 X.2.1 dX6_uneven_119 (by decide) ?_
                refine lv_istore (lv' := [(5, .int x14), (4, .int x15), (8, .int x14), (7, .ref (G.2.2 (10 * 0 + y6_52.toNatClampNeg))), (0, .ref (G.2.2 61)), (1, .int a1), (3, .int y3_52), (6, .int y6_52)]) X.1 X.2.1 dX6_uneven_129 hl (by decide) rfl (fun ls hl => ?_)
                obtain ⟨x19, ex19⟩ : ∃ y : Int32, y = y6_52 + (1 : Int32) := ⟨_, rfl⟩
                refine lv_iinc (v := x19) (lv' := [(6, .int x19), (5, .int x14), (4, .int x15), (8, .int x14), (7, .ref (G.2.2 (10 * 0 + y6_52.toNatClampNeg))), (0, .ref (G.2.2 61)), (1, .int a1), (3, .int y3_52)]) X.1 X.2.1 dX6_uneven_131 hl (k := 7) rfl (by rw [ex19]; rfl) (by decide) rfl (fun ls hl => ?_)
                refine lv_goto (tgt := 52) X.1 X.2.1 dX6_uneven_134 (by decide) ?_
                have hF2 : f6_uneven_L52 a1 n S7 y3_52 x15 x14 x19 = tgt := by
                  rw [← hF]
                  subst ez13 ex14 ex15 ex19
                  simp only [f6_uneven_L52, if_neg c8, if_neg c11, if_neg c16]
                exact ih S7 y3_52 x15 x14 x19 _ _ ls (⟨by rw [ex19]; exact lp_nn hI.1 c8, hI.2⟩) (by rw [ex19]; exact lp_dec' c8 hm) hF2 hw (lv_sub hl [5, 6, 7, 2, 1, 0] rfl)
      have hF2 : f6_uneven_L52 a1 (lp_mu (S 0 0) 0 + 1) S x6 (-1 : Int32) (-1 : Int32) (0 : Int32) = tgt := by
        rw [← hF]
        subst ez1 ez3 ez5 ex6
        simp only [f6_uneven, if_neg c2, if_neg c4]
      exact j52 (lp_mu (S 0 0) 0 + 1) S x6 (-1 : Int32) (-1 : Int32) (0 : Int32) _ _ ls (⟨by decide, rfl⟩) (Nat.lt_succ_self _) hF2 hw (lv_sub hl [5, 6, 3, 2, 1, 0] rfl)
    · refine lv_aload_n X.1 X.2.1 dX6_uneven_27 rfl (lv_at hl 1 rfl) ?_
      refine lv_iconst (v := (3 : Int32)) X.1 X.2.1 dX6_uneven_28 (by decide) ?_
      refine c_callVI_s X K hw (k_X6_tell l G S (3 : Int32) (by unfold vp_in; decide)) (g_cwV X hiX6_tell q312 q314 q0 q67 q315 ⟨(Nat.le_of_ble_eq_true rfl), (Nat.le_of_ble_eq_true rfl)⟩) (by decide) tt_eT rfl rfl hl.1 rfl (Nat.le_of_ble_eq_true rfl) dX6_uneven_29 ⟨(Nat.le_of_ble_eq_true rfl), (Nat.le_of_ble_eq_true rfl)⟩ (fun z20 S21 H locs ez20 eS21 hw => ?_)
      have hR : (z20, S21) = tgt := by
        rw [← hF]
        subst ez1 ez3 ez20 eS21
        simp only [f6_uneven, if_neg c2, if_pos c4]
      have hRR : z20 = tgt.1 := pr1 hR
      have hRS : S21 = tgt.2 := pr2 hR
      exact g_iret X hret hlk hw hRR hRS dX6_uneven_32
  · refine lv_aload_n X.1 X.2.1 dX6_uneven_9 rfl (lv_at hl 0 rfl) ?_
    refine lv_iconst (v := (0 : Int32)) X.1 X.2.1 dX6_uneven_10 (by decide) ?_
    refine c_callVI_s X K hw (k_X6_tell l G S (0 : Int32) (by unfold vp_in; decide)) (g_cwV X hiX6_tell q312 q314 q0 q67 q315 ⟨(Nat.le_of_ble_eq_true rfl), (Nat.le_of_ble_eq_true rfl)⟩) (by decide) tt_eT rfl rfl hl.1 rfl (Nat.le_of_ble_eq_true rfl) dX6_uneven_11 ⟨(Nat.le_of_ble_eq_true rfl), (Nat.le_of_ble_eq_true rfl)⟩ (fun z22 S23 H locs ez22 eS23 hw => ?_)
    have hR : (z22, S23) = tgt := by
      rw [← hF]
      subst ez1 ez22 eS23
      simp only [f6_uneven, if_pos c2]
    have hRR : z22 = tgt.1 := pr1 hR
    have hRS : S23 = tgt.2 := pr2 hR
    exact g_iret X hret hlk hw hRR hRS dX6_uneven_14
