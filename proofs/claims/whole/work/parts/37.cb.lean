set_option maxHeartbeats 4000000 in
set_option maxRecDepth 10000 in
theorem k_X6_sheet (l : Launch) (G : tt_G) (S : tt_St) (a1 : Int32) (a2 : Int32) (a3 : Int32) (hp0 : ci S) : c_MI l G yX6_sheet (g_code yX6_sheet cX6_sheet 4 (some FieldType.int)) 2 42 [.ref (G.2.2 61), .int a1, .int a2, .int a3] S ((f6_sheet S a1 a2 a3).1) ((f6_sheet S a1 a2 a3).2) := by
  generalize hF : f6_sheet S a1 a2 a3 = tgt
  refine g_begin rfl (Nat.le_of_ble_eq_true rfl) _ (fun p e s m below meth c ls X hret hlk hB hl => ?_)
  obtain ⟨hP0, K⟩ := hB
  have hw : c_W G S s s.heap [] := ⟨hP0, va_S.rf⟩
  have X : CallFix p m c cX6_sheet 4 s ([.ref (G.2.2 61), .int a1, .int a2, .int a3] : List Value).toArray tt_T "TrustTin" := X
  have hl : lv_has ls 4 [(0, .ref (G.2.2 61)), (1, .int a1), (2, .int a2), (3, .int a3)] := hl
  refine lv_iload_n X.1 X.2.1 dX6_sheet_0 rfl (lv_at hl 1 rfl) ?_
  refine c_callSI_p X K hw (k_X6_isSheet l G S a1) (g_cwS X hiX6_isSheet q760 q761 q67 q762 ⟨(Nat.le_of_ble_eq_true rfl), (Nat.le_of_ble_eq_true rfl)⟩) rfl hl.1 rfl (Nat.le_of_ble_eq_true rfl) dX6_sheet_1 ⟨(Nat.le_of_ble_eq_true rfl), (Nat.le_of_ble_eq_true rfl)⟩ (fun z1 H locs ez1 hw => ?_)
  refine lv_if_eq (tgt := 29) X.1 X.2.1 dX6_sheet_4 (by decide) (fun c2 => ?_) (fun c2 => ?_)
  · refine lv_aload_n X.1 X.2.1 dX6_sheet_29 rfl (lv_at hl 0 rfl) ?_
    refine lv_iconst (v := (0 : Int32)) X.1 X.2.1 dX6_sheet_30 (by decide) ?_
    refine c_callVI_s X K hw (k_X6_tell l G S (0 : Int32) (by unfold vp_in; decide)) (g_cwV X hiX6_tell q312 q314 q0 q67 q315 ⟨(Nat.le_of_ble_eq_true rfl), (Nat.le_of_ble_eq_true rfl)⟩) (by decide) tt_eT rfl rfl hl.1 rfl (Nat.le_of_ble_eq_true rfl) dX6_sheet_31 ⟨(Nat.le_of_ble_eq_true rfl), (Nat.le_of_ble_eq_true rfl)⟩ (fun z3 S4 H locs ez3 eS4 hw => ?_)
    have hR : (z3, S4) = tgt := by
      rw [← hF]
      subst ez1 ez3 eS4
      simp only [f6_sheet, if_pos c2]
    have hRR : z3 = tgt.1 := pr1 hR
    have hRS : S4 = tgt.2 := pr2 hR
    exact g_iret X hret hlk hw hRR hRS dX6_sheet_34
  · refine lv_iload_n X.1 X.2.1 dX6_sheet_7 rfl (lv_at hl 2 rfl) ?_
    refine lv_if_eq (tgt := 35) X.1 X.2.1 dX6_sheet_8 (by decide) (fun c5 => ?_) (fun c5 => ?_)
    · refine lv_iload_n X.1 X.2.1 dX6_sheet_35 rfl (lv_at hl 3 rfl) ?_
      refine lv_if_ge (tgt := 46) X.1 X.2.1 dX6_sheet_36 (by decide) (fun c6 => ?_) (fun c6 => ?_)
      · refine lv_iload_n X.1 X.2.1 dX6_sheet_46 rfl (lv_at hl 3 rfl) ?_
        refine lv_bipush (v := (40 : Int32)) X.1 X.2.1 dX6_sheet_47 (by decide) ?_
        refine lv_icmp_le (tgt := 58) X.1 X.2.1 dX6_sheet_49 (by decide) (fun c7 => ?_) (fun c7 => ?_)
        · refine lv_aload_n X.1 X.2.1 dX6_sheet_58 rfl (lv_at hl 0 rfl) ?_
          refine g_get (v := .ref (G.2.2 59)) X K hw (by decide) tt_eT rfl iT6 6 (by decide) q286 rfl dX6_sheet_59 ?_
          refine lv_iload_n X.1 X.2.1 dX6_sheet_62 rfl (lv_at hl 1 rfl) ?_
          have hi8 : vp_in a1 4 := iss_in ez1 c2
          have hd9 : a1.toNatClampNeg < 4 := lp_cl hi8
          refine g_aald X K hw (by decide) tt_eSh 2 rfl hi8 rfl dX6_sheet_63 ?_
          refine lv_iload_n X.1 X.2.1 dX6_sheet_64 rfl (lv_at hl 2 rfl) ?_
          refine lv_iload_n X.1 X.2.1 dX6_sheet_65 rfl (lv_at hl 2 rfl) ?_
          refine lv_if_ne (tgt := 73) X.1 X.2.1 dX6_sheet_66 (by decide) (fun c10 => ?_) (fun c10 => ?_)
          · exact absurd c5 c10
          · refine lv_iconst (v := (0 : Int32)) X.1 X.2.1 dX6_sheet_69 (by decide) ?_
            refine lv_goto (tgt := 74) X.1 X.2.1 dX6_sheet_70 (by decide) ?_
            refine c_callVV_s X K hw (k_X3_begin l G S a1.toNatClampNeg a2 (0 : Int32) hd9) (g_cwV X hiX3_begin q763 q764 q765 q73 q766 ⟨(Nat.le_of_ble_eq_true rfl), (Nat.le_of_ble_eq_true rfl)⟩) (by have := hd9; omega) (tt_eS (k := a1.toNatClampNeg) hd9) rfl rfl hl.1 rfl (Nat.le_of_ble_eq_true rfl) dX6_sheet_74 ⟨(Nat.le_of_ble_eq_true rfl), (Nat.le_of_ble_eq_true rfl)⟩ (fun S11 H locs eS11 hw => ?_)
            refine lv_aload_n X.1 X.2.1 dX6_sheet_77 rfl (lv_at hl 0 rfl) ?_
            refine g_get (v := .ref (G.2.2 59)) X K hw (by decide) tt_eT rfl iT6 6 (by decide) q286 rfl dX6_sheet_78 ?_
            refine lv_iload_n X.1 X.2.1 dX6_sheet_81 rfl (lv_at hl 1 rfl) ?_
            have hi12 : vp_in a1 4 := iss_in ez1 c2
            refine g_aald X K hw (by decide) tt_eSh 2 rfl hi12 rfl dX6_sheet_82 ?_
            refine g_get (v := .int (S11 3 (20 + a1.toNatClampNeg))) X K hw (by have := hd9; omega) (tt_eS (k := a1.toNatClampNeg) hd9) rfl iT3 2 (by decide) q272 rfl dX6_sheet_83 ?_
            have hR : (S11 3 (20 + a1.toNatClampNeg), S11) = tgt := by
              rw [← hF]
              subst ez1 eS11
              simp only [f6_sheet, if_neg c2, if_pos c5, if_pos c6, if_pos c7]
            have hRR : S11 3 (20 + a1.toNatClampNeg) = tgt.1 := pr1 hR
            have hRS : S11 = tgt.2 := pr2 hR
            exact g_iret X hret hlk hw hRR hRS dX6_sheet_86
        · refine lv_aload_n X.1 X.2.1 dX6_sheet_52 rfl (lv_at hl 0 rfl) ?_
          refine lv_iconst (v := (0 : Int32)) X.1 X.2.1 dX6_sheet_53 (by decide) ?_
          refine c_callVI_s X K hw (k_X6_tell l G S (0 : Int32) (by unfold vp_in; decide)) (g_cwV X hiX6_tell q312 q314 q0 q67 q315 ⟨(Nat.le_of_ble_eq_true rfl), (Nat.le_of_ble_eq_true rfl)⟩) (by decide) tt_eT rfl rfl hl.1 rfl (Nat.le_of_ble_eq_true rfl) dX6_sheet_54 ⟨(Nat.le_of_ble_eq_true rfl), (Nat.le_of_ble_eq_true rfl)⟩ (fun z13 S14 H locs ez13 eS14 hw => ?_)
          have hR : (z13, S14) = tgt := by
            rw [← hF]
            subst ez1 ez13 eS14
            simp only [f6_sheet, if_neg c2, if_pos c5, if_pos c6, if_neg c7]
          have hRR : z13 = tgt.1 := pr1 hR
          have hRS : S14 = tgt.2 := pr2 hR
          exact g_iret X hret hlk hw hRR hRS dX6_sheet_57
      · refine lv_aload_n X.1 X.2.1 dX6_sheet_39 rfl (lv_at hl 0 rfl) ?_
        refine lv_bipush (v := (6 : Int32)) X.1 X.2.1 dX6_sheet_40 (by decide) ?_
        refine c_callVI_s X K hw (k_X6_tell l G S (6 : Int32) (by unfold vp_in; decide)) (g_cwV X hiX6_tell q312 q314 q0 q67 q315 ⟨(Nat.le_of_ble_eq_true rfl), (Nat.le_of_ble_eq_true rfl)⟩) (by decide) tt_eT rfl rfl hl.1 rfl (Nat.le_of_ble_eq_true rfl) dX6_sheet_42 ⟨(Nat.le_of_ble_eq_true rfl), (Nat.le_of_ble_eq_true rfl)⟩ (fun z15 S16 H locs ez15 eS16 hw => ?_)
        have hR : (z15, S16) = tgt := by
          rw [← hF]
          subst ez1 ez15 eS16
          simp only [f6_sheet, if_neg c2, if_pos c5, if_neg c6]
        have hRR : z15 = tgt.1 := pr1 hR
        have hRS : S16 = tgt.2 := pr2 hR
        exact g_iret X hret hlk hw hRR hRS dX6_sheet_45
    · refine lv_iload_n X.1 X.2.1 dX6_sheet_11 rfl (lv_at hl 2 rfl) ?_
      refine lv_bipush (v := (8 : Int32)) X.1 X.2.1 dX6_sheet_12 (by decide) ?_
      refine lv_icmp_eq (tgt := 35) X.1 X.2.1 dX6_sheet_14 (by decide) (fun c17 => ?_) (fun c17 => ?_)
      · refine lv_iload_n X.1 X.2.1 dX6_sheet_35 rfl (lv_at hl 3 rfl) ?_
        refine lv_if_ge (tgt := 46) X.1 X.2.1 dX6_sheet_36 (by decide) (fun c18 => ?_) (fun c18 => ?_)
        · refine lv_iload_n X.1 X.2.1 dX6_sheet_46 rfl (lv_at hl 3 rfl) ?_
          refine lv_bipush (v := (40 : Int32)) X.1 X.2.1 dX6_sheet_47 (by decide) ?_
          refine lv_icmp_le (tgt := 58) X.1 X.2.1 dX6_sheet_49 (by decide) (fun c19 => ?_) (fun c19 => ?_)
          · refine lv_aload_n X.1 X.2.1 dX6_sheet_58 rfl (lv_at hl 0 rfl) ?_
            refine g_get (v := .ref (G.2.2 59)) X K hw (by decide) tt_eT rfl iT6 6 (by decide) q286 rfl dX6_sheet_59 ?_
            refine lv_iload_n X.1 X.2.1 dX6_sheet_62 rfl (lv_at hl 1 rfl) ?_
            have hi20 : vp_in a1 4 := iss_in ez1 c2
            have hd21 : a1.toNatClampNeg < 4 := lp_cl hi20
            refine g_aald X K hw (by decide) tt_eSh 2 rfl hi20 rfl dX6_sheet_63 ?_
            refine lv_iload_n X.1 X.2.1 dX6_sheet_64 rfl (lv_at hl 2 rfl) ?_
            refine lv_iload_n X.1 X.2.1 dX6_sheet_65 rfl (lv_at hl 2 rfl) ?_
            refine lv_if_ne (tgt := 73) X.1 X.2.1 dX6_sheet_66 (by decide) (fun c22 => ?_) (fun c22 => ?_)
            · refine lv_iload_n X.1 X.2.1 dX6_sheet_73 rfl (lv_at hl 3 rfl) ?_
              refine c_callVV_s X K hw (k_X3_begin l G S a1.toNatClampNeg a2 a3 hd21) (g_cwV X hiX3_begin q763 q764 q765 q73 q766 ⟨(Nat.le_of_ble_eq_true rfl), (Nat.le_of_ble_eq_true rfl)⟩) (by have := hd21; omega) (tt_eS (k := a1.toNatClampNeg) hd21) rfl rfl hl.1 rfl (Nat.le_of_ble_eq_true rfl) dX6_sheet_74 ⟨(Nat.le_of_ble_eq_true rfl), (Nat.le_of_ble_eq_true rfl)⟩ (fun S23 H locs eS23 hw => ?_)
              refine lv_aload_n X.1 X.2.1 dX6_sheet_77 rfl (lv_at hl 0 rfl) ?_
              refine g_get (v := .ref (G.2.2 59)) X K hw (by decide) tt_eT rfl iT6 6 (by decide) q286 rfl dX6_sheet_78 ?_
              refine lv_iload_n X.1 X.2.1 dX6_sheet_81 rfl (lv_at hl 1 rfl) ?_
              have hi24 : vp_in a1 4 := iss_in ez1 c2
              refine g_aald X K hw (by decide) tt_eSh 2 rfl hi24 rfl dX6_sheet_82 ?_
              refine g_get (v := .int (S23 3 (20 + a1.toNatClampNeg))) X K hw (by have := hd21; omega) (tt_eS (k := a1.toNatClampNeg) hd21) rfl iT3 2 (by decide) q272 rfl dX6_sheet_83 ?_
              have hR : (S23 3 (20 + a1.toNatClampNeg), S23) = tgt := by
                rw [← hF]
                subst ez1 eS23
                simp only [f6_sheet, if_neg c2, if_neg c5, if_pos c17, if_pos c18, if_pos c19]
              have hRR : S23 3 (20 + a1.toNatClampNeg) = tgt.1 := pr1 hR
              have hRS : S23 = tgt.2 := pr2 hR
              exact g_iret X hret hlk hw hRR hRS dX6_sheet_86
            · exact absurd c22 c5
          · refine lv_aload_n X.1 X.2.1 dX6_sheet_52 rfl (lv_at hl 0 rfl) ?_
            refine lv_iconst (v := (0 : Int32)) X.1 X.2.1 dX6_sheet_53 (by decide) ?_
            refine c_callVI_s X K hw (k_X6_tell l G S (0 : Int32) (by unfold vp_in; decide)) (g_cwV X hiX6_tell q312 q314 q0 q67 q315 ⟨(Nat.le_of_ble_eq_true rfl), (Nat.le_of_ble_eq_true rfl)⟩) (by decide) tt_eT rfl rfl hl.1 rfl (Nat.le_of_ble_eq_true rfl) dX6_sheet_54 ⟨(Nat.le_of_ble_eq_true rfl), (Nat.le_of_ble_eq_true rfl)⟩ (fun z25 S26 H locs ez25 eS26 hw => ?_)
            have hR : (z25, S26) = tgt := by
              rw [← hF]
              subst ez1 ez25 eS26
              simp only [f6_sheet, if_neg c2, if_neg c5, if_pos c17, if_pos c18, if_neg c19]
            have hRR : z25 = tgt.1 := pr1 hR
            have hRS : S26 = tgt.2 := pr2 hR
            exact g_iret X hret hlk hw hRR hRS dX6_sheet_57
        · refine lv_aload_n X.1 X.2.1 dX6_sheet_39 rfl (lv_at hl 0 rfl) ?_
          refine lv_bipush (v := (6 : Int32)) X.1 X.2.1 dX6_sheet_40 (by decide) ?_
          refine c_callVI_s X K hw (k_X6_tell l G S (6 : Int32) (by unfold vp_in; decide)) (g_cwV X hiX6_tell q312 q314 q0 q67 q315 ⟨(Nat.le_of_ble_eq_true rfl), (Nat.le_of_ble_eq_true rfl)⟩) (by decide) tt_eT rfl rfl hl.1 rfl (Nat.le_of_ble_eq_true rfl) dX6_sheet_42 ⟨(Nat.le_of_ble_eq_true rfl), (Nat.le_of_ble_eq_true rfl)⟩ (fun z27 S28 H locs ez27 eS28 hw => ?_)
          have hR : (z27, S28) = tgt := by
            rw [← hF]
            subst ez1 ez27 eS28
            simp only [f6_sheet, if_neg c2, if_neg c5, if_pos c17, if_neg c18]
          have hRR : z27 = tgt.1 := pr1 hR
          have hRS : S28 = tgt.2 := pr2 hR
          exact g_iret X hret hlk hw hRR hRS dX6_sheet_45
      · refine lv_iload_n X.1 X.2.1 dX6_sheet_17 rfl (lv_at hl 2 rfl) ?_
        refine lv_bipush (v := (16 : Int32)) X.1 X.2.1 dX6_sheet_18 (by decide) ?_
        refine lv_icmp_eq (tgt := 35) X.1 X.2.1 dX6_sheet_20 (by decide) (fun c29 => ?_) (fun c29 => ?_)
        · refine lv_iload_n X.1 X.2.1 dX6_sheet_35 rfl (lv_at hl 3 rfl) ?_
          refine lv_if_ge (tgt := 46) X.1 X.2.1 dX6_sheet_36 (by decide) (fun c30 => ?_) (fun c30 => ?_)
          · refine lv_iload_n X.1 X.2.1 dX6_sheet_46 rfl (lv_at hl 3 rfl) ?_
            refine lv_bipush (v := (40 : Int32)) X.1 X.2.1 dX6_sheet_47 (by decide) ?_
            refine lv_icmp_le (tgt := 58) X.1 X.2.1 dX6_sheet_49 (by decide) (fun c31 => ?_) (fun c31 => ?_)
            · refine lv_aload_n X.1 X.2.1 dX6_sheet_58 rfl (lv_at hl 0 rfl) ?_
              refine g_get (v := .ref (G.2.2 59)) X K hw (by decide) tt_eT rfl iT6 6 (by decide) q286 rfl dX6_sheet_59 ?_
              refine lv_iload_n X.1 X.2.1 dX6_sheet_62 rfl (lv_at hl 1 rfl) ?_
              have hi32 : vp_in a1 4 := iss_in ez1 c2
              have hd33 : a1.toNatClampNeg < 4 := lp_cl hi32
              refine g_aald X K hw (by decide) tt_eSh 2 rfl hi32 rfl dX6_sheet_63 ?_
              refine lv_iload_n X.1 X.2.1 dX6_sheet_64 rfl (lv_at hl 2 rfl) ?_
              refine lv_iload_n X.1 X.2.1 dX6_sheet_65 rfl (lv_at hl 2 rfl) ?_
              refine lv_if_ne (tgt := 73) X.1 X.2.1 dX6_sheet_66 (by decide) (fun c34 => ?_) (fun c34 => ?_)
              · refine lv_iload_n X.1 X.2.1 dX6_sheet_73 rfl (lv_at hl 3 rfl) ?_
                refine c_callVV_s X K hw (k_X3_begin l G S a1.toNatClampNeg a2 a3 hd33) (g_cwV X hiX3_begin q763 q764 q765 q73 q766 ⟨(Nat.le_of_ble_eq_true rfl), (Nat.le_of_ble_eq_true rfl)⟩) (by have := hd33; omega) (tt_eS (k := a1.toNatClampNeg) hd33) rfl rfl hl.1 rfl (Nat.le_of_ble_eq_true rfl) dX6_sheet_74 ⟨(Nat.le_of_ble_eq_true rfl), (Nat.le_of_ble_eq_true rfl)⟩ (fun S35 H locs eS35 hw => ?_)
                refine lv_aload_n X.1 X.2.1 dX6_sheet_77 rfl (lv_at hl 0 rfl) ?_
                refine g_get (v := .ref (G.2.2 59)) X K hw (by decide) tt_eT rfl iT6 6 (by decide) q286 rfl dX6_sheet_78 ?_
                refine lv_iload_n X.1 X.2.1 dX6_sheet_81 rfl (lv_at hl 1 rfl) ?_
                have hi36 : vp_in a1 4 := iss_in ez1 c2
                refine g_aald X K hw (by decide) tt_eSh 2 rfl hi36 rfl dX6_sheet_82 ?_
                refine g_get (v := .int (S35 3 (20 + a1.toNatClampNeg))) X K hw (by have := hd33; omega) (tt_eS (k := a1.toNatClampNeg) hd33) rfl iT3 2 (by decide) q272 rfl dX6_sheet_83 ?_
                have hR : (S35 3 (20 + a1.toNatClampNeg), S35) = tgt := by
                  rw [← hF]
                  subst ez1 eS35
                  simp only [f6_sheet, if_neg c2, if_neg c5, if_neg c17, if_pos c29, if_pos c30, if_pos c31]
                have hRR : S35 3 (20 + a1.toNatClampNeg) = tgt.1 := pr1 hR
                have hRS : S35 = tgt.2 := pr2 hR
                exact g_iret X hret hlk hw hRR hRS dX6_sheet_86
              · exact absurd c34 c5
            · refine lv_aload_n X.1 X.2.1 dX6_sheet_52 rfl (lv_at hl 0 rfl) ?_
              refine lv_iconst (v := (0 : Int32)) X.1 X.2.1 dX6_sheet_53 (by decide) ?_
              refine c_callVI_s X K hw (k_X6_tell l G S (0 : Int32) (by unfold vp_in; decide)) (g_cwV X hiX6_tell q312 q314 q0 q67 q315 ⟨(Nat.le_of_ble_eq_true rfl), (Nat.le_of_ble_eq_true rfl)⟩) (by decide) tt_eT rfl rfl hl.1 rfl (Nat.le_of_ble_eq_true rfl) dX6_sheet_54 ⟨(Nat.le_of_ble_eq_true rfl), (Nat.le_of_ble_eq_true rfl)⟩ (fun z37 S38 H locs ez37 eS38 hw => ?_)
              have hR : (z37, S38) = tgt := by
                rw [← hF]
                subst ez1 ez37 eS38
                simp only [f6_sheet, if_neg c2, if_neg c5, if_neg c17, if_pos c29, if_pos c30, if_neg c31]
              have hRR : z37 = tgt.1 := pr1 hR
              have hRS : S38 = tgt.2 := pr2 hR
              exact g_iret X hret hlk hw hRR hRS dX6_sheet_57
          · refine lv_aload_n X.1 X.2.1 dX6_sheet_39 rfl (lv_at hl 0 rfl) ?_
            refine lv_bipush (v := (6 : Int32)) X.1 X.2.1 dX6_sheet_40 (by decide) ?_
            refine c_callVI_s X K hw (k_X6_tell l G S (6 : Int32) (by unfold vp_in; decide)) (g_cwV X hiX6_tell q312 q314 q0 q67 q315 ⟨(Nat.le_of_ble_eq_true rfl), (Nat.le_of_ble_eq_true rfl)⟩) (by decide) tt_eT rfl rfl hl.1 rfl (Nat.le_of_ble_eq_true rfl) dX6_sheet_42 ⟨(Nat.le_of_ble_eq_true rfl), (Nat.le_of_ble_eq_true rfl)⟩ (fun z39 S40 H locs ez39 eS40 hw => ?_)
            have hR : (z39, S40) = tgt := by
              rw [← hF]
              subst ez1 ez39 eS40
              simp only [f6_sheet, if_neg c2, if_neg c5, if_neg c17, if_pos c29, if_neg c30]
            have hRR : z39 = tgt.1 := pr1 hR
            have hRS : S40 = tgt.2 := pr2 hR
            exact g_iret X hret hlk hw hRR hRS dX6_sheet_45
        · refine lv_iload_n X.1 X.2.1 dX6_sheet_23 rfl (lv_at hl 2 rfl) ?_
          refine lv_bipush (v := (32 : Int32)) X.1 X.2.1 dX6_sheet_24 (by decide) ?_
          refine lv_icmp_eq (tgt := 35) X.1 X.2.1 dX6_sheet_26 (by decide) (fun c41 => ?_) (fun c41 => ?_)
          · refine lv_iload_n X.1 X.2.1 dX6_sheet_35 rfl (lv_at hl 3 rfl) ?_
            refine lv_if_ge (tgt := 46) X.1 X.2.1 dX6_sheet_36 (by decide) (fun c42 => ?_) (fun c42 => ?_)
            · refine lv_iload_n X.1 X.2.1 dX6_sheet_46 rfl (lv_at hl 3 rfl) ?_
              refine lv_bipush (v := (40 : Int32)) X.1 X.2.1 dX6_sheet_47 (by decide) ?_
              refine lv_icmp_le (tgt := 58) X.1 X.2.1 dX6_sheet_49 (by decide) (fun c43 => ?_) (fun c43 => ?_)
              · refine lv_aload_n X.1 X.2.1 dX6_sheet_58 rfl (lv_at hl 0 rfl) ?_
                refine g_get (v := .ref (G.2.2 59)) X K hw (by decide) tt_eT rfl iT6 6 (by decide) q286 rfl dX6_sheet_59 ?_
                refine lv_iload_n X.1 X.2.1 dX6_sheet_62 rfl (lv_at hl 1 rfl) ?_
                have hi44 : vp_in a1 4 := iss_in ez1 c2
                have hd45 : a1.toNatClampNeg < 4 := lp_cl hi44
                refine g_aald X K hw (by decide) tt_eSh 2 rfl hi44 rfl dX6_sheet_63 ?_
                refine lv_iload_n X.1 X.2.1 dX6_sheet_64 rfl (lv_at hl 2 rfl) ?_
                refine lv_iload_n X.1 X.2.1 dX6_sheet_65 rfl (lv_at hl 2 rfl) ?_
                refine lv_if_ne (tgt := 73) X.1 X.2.1 dX6_sheet_66 (by decide) (fun c46 => ?_) (fun c46 => ?_)
                · refine lv_iload_n X.1 X.2.1 dX6_sheet_73 rfl (lv_at hl 3 rfl) ?_
                  refine c_callVV_s X K hw (k_X3_begin l G S a1.toNatClampNeg a2 a3 hd45) (g_cwV X hiX3_begin q763 q764 q765 q73 q766 ⟨(Nat.le_of_ble_eq_true rfl), (Nat.le_of_ble_eq_true rfl)⟩) (by have := hd45; omega) (tt_eS (k := a1.toNatClampNeg) hd45) rfl rfl hl.1 rfl (Nat.le_of_ble_eq_true rfl) dX6_sheet_74 ⟨(Nat.le_of_ble_eq_true rfl), (Nat.le_of_ble_eq_true rfl)⟩ (fun S47 H locs eS47 hw => ?_)
                  refine lv_aload_n X.1 X.2.1 dX6_sheet_77 rfl (lv_at hl 0 rfl) ?_
                  refine g_get (v := .ref (G.2.2 59)) X K hw (by decide) tt_eT rfl iT6 6 (by decide) q286 rfl dX6_sheet_78 ?_
                  refine lv_iload_n X.1 X.2.1 dX6_sheet_81 rfl (lv_at hl 1 rfl) ?_
                  have hi48 : vp_in a1 4 := iss_in ez1 c2
                  refine g_aald X K hw (by decide) tt_eSh 2 rfl hi48 rfl dX6_sheet_82 ?_
                  refine g_get (v := .int (S47 3 (20 + a1.toNatClampNeg))) X K hw (by have := hd45; omega) (tt_eS (k := a1.toNatClampNeg) hd45) rfl iT3 2 (by decide) q272 rfl dX6_sheet_83 ?_
                  have hR : (S47 3 (20 + a1.toNatClampNeg), S47) = tgt := by
                    rw [← hF]
                    subst ez1 eS47
                    simp only [f6_sheet, if_neg c2, if_neg c5, if_neg c17, if_neg c29, if_pos c41, if_pos c42, if_pos c43]
                  have hRR : S47 3 (20 + a1.toNatClampNeg) = tgt.1 := pr1 hR
                  have hRS : S47 = tgt.2 := pr2 hR
                  exact g_iret X hret hlk hw hRR hRS dX6_sheet_86
                · exact absurd c46 c5
              · refine lv_aload_n X.1 X.2.1 dX6_sheet_52 rfl (lv_at hl 0 rfl) ?_
                refine lv_iconst (v := (0 : Int32)) X.1 X.2.1 dX6_sheet_53 (by decide) ?_
                refine c_callVI_s X K hw (k_X6_tell l G S (0 : Int32) (by unfold vp_in; decide)) (g_cwV X hiX6_tell q312 q314 q0 q67 q315 ⟨(Nat.le_of_ble_eq_true rfl), (Nat.le_of_ble_eq_true rfl)⟩) (by decide) tt_eT rfl rfl hl.1 rfl (Nat.le_of_ble_eq_true rfl) dX6_sheet_54 ⟨(Nat.le_of_ble_eq_true rfl), (Nat.le_of_ble_eq_true rfl)⟩ (fun z49 S50 H locs ez49 eS50 hw => ?_)
                have hR : (z49, S50) = tgt := by
                  rw [← hF]
                  subst ez1 ez49 eS50
                  simp only [f6_sheet, if_neg c2, if_neg c5, if_neg c17, if_neg c29, if_pos c41, if_pos c42, if_neg c43]
                have hRR : z49 = tgt.1 := pr1 hR
                have hRS : S50 = tgt.2 := pr2 hR
                exact g_iret X hret hlk hw hRR hRS dX6_sheet_57
            · refine lv_aload_n X.1 X.2.1 dX6_sheet_39 rfl (lv_at hl 0 rfl) ?_
              refine lv_bipush (v := (6 : Int32)) X.1 X.2.1 dX6_sheet_40 (by decide) ?_
              refine c_callVI_s X K hw (k_X6_tell l G S (6 : Int32) (by unfold vp_in; decide)) (g_cwV X hiX6_tell q312 q314 q0 q67 q315 ⟨(Nat.le_of_ble_eq_true rfl), (Nat.le_of_ble_eq_true rfl)⟩) (by decide) tt_eT rfl rfl hl.1 rfl (Nat.le_of_ble_eq_true rfl) dX6_sheet_42 ⟨(Nat.le_of_ble_eq_true rfl), (Nat.le_of_ble_eq_true rfl)⟩ (fun z51 S52 H locs ez51 eS52 hw => ?_)
              have hR : (z51, S52) = tgt := by
                rw [← hF]
                subst ez1 ez51 eS52
                simp only [f6_sheet, if_neg c2, if_neg c5, if_neg c17, if_neg c29, if_pos c41, if_neg c42]
              have hRR : z51 = tgt.1 := pr1 hR
              have hRS : S52 = tgt.2 := pr2 hR
              exact g_iret X hret hlk hw hRR hRS dX6_sheet_45
          · refine lv_aload_n X.1 X.2.1 dX6_sheet_29 rfl (lv_at hl 0 rfl) ?_
            refine lv_iconst (v := (0 : Int32)) X.1 X.2.1 dX6_sheet_30 (by decide) ?_
            refine c_callVI_s X K hw (k_X6_tell l G S (0 : Int32) (by unfold vp_in; decide)) (g_cwV X hiX6_tell q312 q314 q0 q67 q315 ⟨(Nat.le_of_ble_eq_true rfl), (Nat.le_of_ble_eq_true rfl)⟩) (by decide) tt_eT rfl rfl hl.1 rfl (Nat.le_of_ble_eq_true rfl) dX6_sheet_31 ⟨(Nat.le_of_ble_eq_true rfl), (Nat.le_of_ble_eq_true rfl)⟩ (fun z53 S54 H locs ez53 eS54 hw => ?_)
            have hR : (z53, S54) = tgt := by
              rw [← hF]
              subst ez1 ez53 eS54
              simp only [f6_sheet, if_neg c2, if_neg c5, if_neg c17, if_neg c29, if_neg c41]
            have hRR : z53 = tgt.1 := pr1 hR
            have hRS : S54 = tgt.2 := pr2 hR
            exact g_iret X hret hlk hw hRR hRS dX6_sheet_34
set_option maxHeartbeats 4000000 in
set_option maxRecDepth 10000 in
theorem k_X6_write (l : Launch) (G : tt_G) (S : tt_St) (a1 : Int32) (a2 : Int32) (a3 : Int32) (hp0 : ci S) : c_MI l G yX6_write (g_code yX6_write cX6_write 4 (some FieldType.int)) 2 42 [.ref (G.2.2 61), .int a1, .int a2, .int a3] S ((f6_write S a1 a2 a3).1) ((f6_write S a1 a2 a3).2) := by
  generalize hF : f6_write S a1 a2 a3 = tgt
  refine g_begin rfl (Nat.le_of_ble_eq_true rfl) _ (fun p e s m below meth c ls X hret hlk hB hl => ?_)
  obtain ⟨hP0, K⟩ := hB
  have hw : c_W G S s s.heap [] := ⟨hP0, va_S.rf⟩
  have X : CallFix p m c cX6_write 4 s ([.ref (G.2.2 61), .int a1, .int a2, .int a3] : List Value).toArray tt_T "TrustTin" := X
  have hl : lv_has ls 4 [(0, .ref (G.2.2 61)), (1, .int a1), (2, .int a2), (3, .int a3)] := hl
  refine lv_iload_n X.1 X.2.1 dX6_write_0 rfl (lv_at hl 1 rfl) ?_
  refine c_callSI_p X K hw (k_X6_isSheet l G S a1) (g_cwS X hiX6_isSheet q760 q761 q67 q762 ⟨(Nat.le_of_ble_eq_true rfl), (Nat.le_of_ble_eq_true rfl)⟩) rfl hl.1 rfl (Nat.le_of_ble_eq_true rfl) dX6_write_1 ⟨(Nat.le_of_ble_eq_true rfl), (Nat.le_of_ble_eq_true rfl)⟩ (fun z1 H locs ez1 hw => ?_)
  refine lv_if_ne (tgt := 13) X.1 X.2.1 dX6_write_4 (by decide) (fun c2 => ?_) (fun c2 => ?_)
  · refine lv_aload_n X.1 X.2.1 dX6_write_13 rfl (lv_at hl 0 rfl) ?_
    refine g_get (v := .ref (G.2.2 59)) X K hw (by decide) tt_eT rfl iT6 6 (by decide) q286 rfl dX6_write_14 ?_
    refine lv_iload_n X.1 X.2.1 dX6_write_17 rfl (lv_at hl 1 rfl) ?_
    have hi3 : vp_in a1 4 := iss_in ez1 c2
    have hd4 : a1.toNatClampNeg < 4 := lp_cl hi3
    refine g_aald X K hw (by decide) tt_eSh 2 rfl hi3 rfl dX6_write_18 ?_
    refine c_callVI_p X K hw (k_X3_isMissing l G S a1.toNatClampNeg hd4) (g_cwV X hiX3_isMissing q771 q772 q773 q73 q774 ⟨(Nat.le_of_ble_eq_true rfl), (Nat.le_of_ble_eq_true rfl)⟩) (by have := hd4; omega) (tt_eS (k := a1.toNatClampNeg) hd4) rfl rfl hl.1 rfl (Nat.le_of_ble_eq_true rfl) dX6_write_19 ⟨(Nat.le_of_ble_eq_true rfl), (Nat.le_of_ble_eq_true rfl)⟩ (fun z5 H locs ez5 hw => ?_)
    refine lv_if_eq (tgt := 31) X.1 X.2.1 dX6_write_22 (by decide) (fun c6 => ?_) (fun c6 => ?_)
    · refine lv_iload_n X.1 X.2.1 dX6_write_31 rfl (lv_at hl 2 rfl) ?_
      refine lv_iconst (v := (0 : Int32)) X.1 X.2.1 dX6_write_32 (by decide) ?_
      refine lv_aload_n X.1 X.2.1 dX6_write_33 rfl (lv_at hl 0 rfl) ?_
      refine g_get (v := .ref (G.2.2 59)) X K hw (by decide) tt_eT rfl iT6 6 (by decide) q286 rfl dX6_write_34 ?_
      refine lv_iload_n X.1 X.2.1 dX6_write_37 rfl (lv_at hl 1 rfl) ?_
      have hi7 : vp_in a1 4 := iss_in ez1 c2
      refine g_aald X K hw (by decide) tt_eSh 2 rfl hi7 rfl dX6_write_38 ?_
      refine g_get (v := .int (S 3 (20 + a1.toNatClampNeg))) X K hw (by have := hd4; omega) (tt_eS (k := a1.toNatClampNeg) hd4) rfl iT3 2 (by decide) q272 rfl dX6_write_39 ?_
      refine lv_iconst (v := (1 : Int32)) X.1 X.2.1 dX6_write_42 (by decide) ?_
      refine lv_isub X.1 X.2.1 dX6_write_43 ?_
      refine c_callSI_p X K hw (k_X6_within l G S a2 (0 : Int32) ((S 3 (20 + a1.toNatClampNeg)) - (1 : Int32))) (g_cwS X hiX6_within q309 q310 q67 q311 ⟨(Nat.le_of_ble_eq_true rfl), (Nat.le_of_ble_eq_true rfl)⟩) rfl hl.1 rfl (Nat.le_of_ble_eq_true rfl) dX6_write_44 ⟨(Nat.le_of_ble_eq_true rfl), (Nat.le_of_ble_eq_true rfl)⟩ (fun z8 H locs ez8 hw => ?_)
      refine lv_if_ne (tgt := 56) X.1 X.2.1 dX6_write_47 (by decide) (fun c9 => ?_) (fun c9 => ?_)
      · refine lv_aload_n X.1 X.2.1 dX6_write_56 rfl (lv_at hl 0 rfl) ?_
        refine g_get (v := .ref (G.2.2 59)) X K hw (by decide) tt_eT rfl iT6 6 (by decide) q286 rfl dX6_write_57 ?_
        refine lv_iload_n X.1 X.2.1 dX6_write_60 rfl (lv_at hl 1 rfl) ?_
        have hi10 : vp_in a1 4 := iss_in ez1 c2
        refine g_aald X K hw (by decide) tt_eSh 2 rfl hi10 rfl dX6_write_61 ?_
        refine lv_iload_n X.1 X.2.1 dX6_write_62 rfl (lv_at hl 2 rfl) ?_
        refine lv_iload_n X.1 X.2.1 dX6_write_63 rfl (lv_at hl 3 rfl) ?_
        refine c_callVV_s X K hw (k_X3_put l G S a1.toNatClampNeg a2 a3 hd4 (wr6_in hp0 (iss_in ez1 c2) ez8 c9)) (g_cwV X hiX3_put q775 q776 q777 q73 q778 ⟨(Nat.le_of_ble_eq_true rfl), (Nat.le_of_ble_eq_true rfl)⟩) (by have := hd4; omega) (tt_eS (k := a1.toNatClampNeg) hd4) rfl rfl hl.1 rfl (Nat.le_of_ble_eq_true rfl) dX6_write_64 ⟨(Nat.le_of_ble_eq_true rfl), (Nat.le_of_ble_eq_true rfl)⟩ (fun S11 H locs eS11 hw => ?_)
        refine lv_iconst (v := (1 : Int32)) X.1 X.2.1 dX6_write_67 (by decide) ?_
        have hR : ((1 : Int32), S11) = tgt := by
          rw [← hF]
          subst ez1 ez5 ez8 eS11
          simp only [f6_write, if_neg c2, if_pos c6, if_neg c9]
        have hRR : (1 : Int32) = tgt.1 := pr1 hR
        have hRS : S11 = tgt.2 := pr2 hR
        exact g_iret X hret hlk hw hRR hRS dX6_write_68
      · refine lv_aload_n X.1 X.2.1 dX6_write_50 rfl (lv_at hl 0 rfl) ?_
        refine lv_iconst (v := (0 : Int32)) X.1 X.2.1 dX6_write_51 (by decide) ?_
        refine c_callVI_s X K hw (k_X6_tell l G S (0 : Int32) (by unfold vp_in; decide)) (g_cwV X hiX6_tell q312 q314 q0 q67 q315 ⟨(Nat.le_of_ble_eq_true rfl), (Nat.le_of_ble_eq_true rfl)⟩) (by decide) tt_eT rfl rfl hl.1 rfl (Nat.le_of_ble_eq_true rfl) dX6_write_52 ⟨(Nat.le_of_ble_eq_true rfl), (Nat.le_of_ble_eq_true rfl)⟩ (fun z12 S13 H locs ez12 eS13 hw => ?_)
        have hR : (z12, S13) = tgt := by
          rw [← hF]
          subst ez1 ez5 ez8 ez12 eS13
          simp only [f6_write, if_neg c2, if_pos c6, if_pos c9]
        have hRR : z12 = tgt.1 := pr1 hR
        have hRS : S13 = tgt.2 := pr2 hR
        exact g_iret X hret hlk hw hRR hRS dX6_write_55
    · refine lv_aload_n X.1 X.2.1 dX6_write_25 rfl (lv_at hl 0 rfl) ?_
      refine lv_iconst (v := (5 : Int32)) X.1 X.2.1 dX6_write_26 (by decide) ?_
      refine c_callVI_s X K hw (k_X6_tell l G S (5 : Int32) (by unfold vp_in; decide)) (g_cwV X hiX6_tell q312 q314 q0 q67 q315 ⟨(Nat.le_of_ble_eq_true rfl), (Nat.le_of_ble_eq_true rfl)⟩) (by decide) tt_eT rfl rfl hl.1 rfl (Nat.le_of_ble_eq_true rfl) dX6_write_27 ⟨(Nat.le_of_ble_eq_true rfl), (Nat.le_of_ble_eq_true rfl)⟩ (fun z14 S15 H locs ez14 eS15 hw => ?_)
      have hR : (z14, S15) = tgt := by
        rw [← hF]
        subst ez1 ez5 ez14 eS15
        simp only [f6_write, if_neg c2, if_neg c6]
      have hRR : z14 = tgt.1 := pr1 hR
      have hRS : S15 = tgt.2 := pr2 hR
      exact g_iret X hret hlk hw hRR hRS dX6_write_30
  · refine lv_aload_n X.1 X.2.1 dX6_write_7 rfl (lv_at hl 0 rfl) ?_
    refine lv_iconst (v := (0 : Int32)) X.1 X.2.1 dX6_write_8 (by decide) ?_
    refine c_callVI_s X K hw (k_X6_tell l G S (0 : Int32) (by unfold vp_in; decide)) (g_cwV X hiX6_tell q312 q314 q0 q67 q315 ⟨(Nat.le_of_ble_eq_true rfl), (Nat.le_of_ble_eq_true rfl)⟩) (by decide) tt_eT rfl rfl hl.1 rfl (Nat.le_of_ble_eq_true rfl) dX6_write_9 ⟨(Nat.le_of_ble_eq_true rfl), (Nat.le_of_ble_eq_true rfl)⟩ (fun z16 S17 H locs ez16 eS17 hw => ?_)
    have hR : (z16, S17) = tgt := by
      rw [← hF]
      subst ez1 ez16 eS17
      simp only [f6_write, if_pos c2]
    have hRR : z16 = tgt.1 := pr1 hR
    have hRS : S17 = tgt.2 := pr2 hR
    exact g_iret X hret hlk hw hRR hRS dX6_write_12
set_option maxHeartbeats 4000000 in
set_option maxRecDepth 10000 in
theorem k_X6_copy (l : Launch) (G : tt_G) (S : tt_St) (a1 : Int32) (a2 : Int32) (a3 : Int32) (a4 : Int32) (a5 : Int32) (hp0 : ci S) : c_MI l G yX6_copy (g_code yX6_copy cX6_copy 8 (some FieldType.int)) 2 60 [.ref (G.2.2 61), .int a1, .int a2, .int a3, .int a4, .int a5] S ((f6_copy S a1 a2 a3 a4 a5).1) ((f6_copy S a1 a2 a3 a4 a5).2) := by
  generalize hF : f6_copy S a1 a2 a3 a4 a5 = tgt
  refine g_begin rfl (Nat.le_of_ble_eq_true rfl) _ (fun p e s m below meth c ls X hret hlk hB hl => ?_)
  obtain ⟨hP0, K⟩ := hB
  have hw : c_W G S s s.heap [] := ⟨hP0, va_S.rf⟩
  have X : CallFix p m c cX6_copy 8 s ([.ref (G.2.2 61), .int a1, .int a2, .int a3, .int a4, .int a5] : List Value).toArray tt_T "TrustTin" := X
  have hl : lv_has ls 8 [(0, .ref (G.2.2 61)), (1, .int a1), (2, .int a2), (3, .int a3), (4, .int a4), (5, .int a5)] := hl
  refine lv_iload_n X.1 X.2.1 dX6_copy_0 rfl (lv_at hl 1 rfl) ?_
  refine c_callSI_p X K hw (k_X6_isSheet l G S a1) (g_cwS X hiX6_isSheet q760 q761 q67 q762 ⟨(Nat.le_of_ble_eq_true rfl), (Nat.le_of_ble_eq_true rfl)⟩) rfl hl.1 rfl (Nat.le_of_ble_eq_true rfl) dX6_copy_1 ⟨(Nat.le_of_ble_eq_true rfl), (Nat.le_of_ble_eq_true rfl)⟩ (fun z1 H locs ez1 hw => ?_)
  refine lv_if_eq (tgt := 14) X.1 X.2.1 dX6_copy_4 (by decide) (fun c2 => ?_) (fun c2 => ?_)
  · refine lv_aload_n X.1 X.2.1 dX6_copy_14 rfl (lv_at hl 0 rfl) ?_
    refine lv_iconst (v := (0 : Int32)) X.1 X.2.1 dX6_copy_15 (by decide) ?_
    refine c_callVI_s X K hw (k_X6_tell l G S (0 : Int32) (by unfold vp_in; decide)) (g_cwV X hiX6_tell q312 q314 q0 q67 q315 ⟨(Nat.le_of_ble_eq_true rfl), (Nat.le_of_ble_eq_true rfl)⟩) (by decide) tt_eT rfl rfl hl.1 rfl (Nat.le_of_ble_eq_true rfl) dX6_copy_16 ⟨(Nat.le_of_ble_eq_true rfl), (Nat.le_of_ble_eq_true rfl)⟩ (fun z3 S4 H locs ez3 eS4 hw => ?_)
    have hR : (z3, S4) = tgt := by
      rw [← hF]
      subst ez1 ez3 eS4
      simp only [f6_copy, if_pos c2]
    have hRR : z3 = tgt.1 := pr1 hR
    have hRS : S4 = tgt.2 := pr2 hR
    exact g_iret X hret hlk hw hRR hRS dX6_copy_19
  · refine lv_iload_n X.1 X.2.1 dX6_copy_7 rfl (lv_at hl 3 rfl) ?_
    refine c_callSI_p X K hw (k_X6_isSheet l G S a3) (g_cwS X hiX6_isSheet q760 q761 q67 q762 ⟨(Nat.le_of_ble_eq_true rfl), (Nat.le_of_ble_eq_true rfl)⟩) rfl hl.1 rfl (Nat.le_of_ble_eq_true rfl) dX6_copy_8 ⟨(Nat.le_of_ble_eq_true rfl), (Nat.le_of_ble_eq_true rfl)⟩ (fun z5 H locs ez5 hw => ?_)
    refine lv_if_ne (tgt := 20) X.1 X.2.1 dX6_copy_11 (by decide) (fun c6 => ?_) (fun c6 => ?_)
    · refine lv_aload_n X.1 X.2.1 dX6_copy_20 rfl (lv_at hl 0 rfl) ?_
      refine g_get (v := .ref (G.2.2 59)) X K hw (by decide) tt_eT rfl iT6 6 (by decide) q286 rfl dX6_copy_21 ?_
      refine lv_iload_n X.1 X.2.1 dX6_copy_24 rfl (lv_at hl 1 rfl) ?_
      have hi7 : vp_in a1 4 := iss_in ez1 c2
      have hd8 : a1.toNatClampNeg < 4 := lp_cl hi7
      refine g_aald X K hw (by decide) tt_eSh 2 rfl hi7 rfl dX6_copy_25 ?_
      refine lv_astore (lv' := [(6, .ref (G.2.2 (48 + a1.toNatClampNeg))), (0, .ref (G.2.2 61)), (1, .int a1), (2, .int a2), (3, .int a3), (4, .int a4), (5, .int a5)]) X.1 X.2.1 dX6_copy_26 hl (by decide) rfl (fun ls hl => ?_)
      refine lv_aload_n X.1 X.2.1 dX6_copy_28 rfl (lv_at hl 1 rfl) ?_
      refine g_get (v := .ref (G.2.2 59)) X K hw (by decide) tt_eT rfl iT6 6 (by decide) q286 rfl dX6_copy_29 ?_
      refine lv_iload_n X.1 X.2.1 dX6_copy_32 rfl (lv_at hl 4 rfl) ?_
      have hi9 : vp_in a3 4 := iss_in ez5 c6
      have hd10 : a3.toNatClampNeg < 4 := lp_cl hi9
      refine g_aald X K hw (by decide) tt_eSh 2 rfl hi9 rfl dX6_copy_33 ?_
      refine lv_astore (lv' := [(7, .ref (G.2.2 (48 + a3.toNatClampNeg))), (6, .ref (G.2.2 (48 + a1.toNatClampNeg))), (0, .ref (G.2.2 61)), (1, .int a1), (2, .int a2), (3, .int a3), (4, .int a4), (5, .int a5)]) X.1 X.2.1 dX6_copy_34 hl (by decide) rfl (fun ls hl => ?_)
      refine lv_aload X.1 X.2.1 dX6_copy_36 (lv_at hl 1 rfl) ?_
      refine c_callVI_p X K hw (k_X3_isMissing l G S a1.toNatClampNeg hd8) (g_cwV X hiX3_isMissing q771 q772 q773 q73 q774 ⟨(Nat.le_of_ble_eq_true rfl), (Nat.le_of_ble_eq_true rfl)⟩) (by have := hd8; omega) (tt_eS (k := a1.toNatClampNeg) hd8) rfl rfl hl.1 rfl (Nat.le_of_ble_eq_true rfl) dX6_copy_38 ⟨(Nat.le_of_ble_eq_true rfl), (Nat.le_of_ble_eq_true rfl)⟩ (fun z11 H locs ez11 hw => ?_)
      refine lv_if_ne (tgt := 52) X.1 X.2.1 dX6_copy_41 (by decide) (fun c12 => ?_) (fun c12 => ?_)
      · refine lv_aload_n X.1 X.2.1 dX6_copy_52 rfl (lv_at hl 2 rfl) ?_
        refine lv_iconst (v := (5 : Int32)) X.1 X.2.1 dX6_copy_53 (by decide) ?_
        refine c_callVI_s X K hw (k_X6_tell l G S (5 : Int32) (by unfold vp_in; decide)) (g_cwV X hiX6_tell q312 q314 q0 q67 q315 ⟨(Nat.le_of_ble_eq_true rfl), (Nat.le_of_ble_eq_true rfl)⟩) (by decide) tt_eT rfl rfl hl.1 rfl (Nat.le_of_ble_eq_true rfl) dX6_copy_54 ⟨(Nat.le_of_ble_eq_true rfl), (Nat.le_of_ble_eq_true rfl)⟩ (fun z13 S14 H locs ez13 eS14 hw => ?_)
        have hR : (z13, S14) = tgt := by
          rw [← hF]
          subst ez1 ez5 ez11 ez13 eS14
          simp only [f6_copy, if_neg c2, if_neg c6, if_neg c12]
        have hRR : z13 = tgt.1 := pr1 hR
        have hRS : S14 = tgt.2 := pr2 hR
        exact g_iret X hret hlk hw hRR hRS dX6_copy_57
      · refine lv_aload X.1 X.2.1 dX6_copy_44 (lv_at hl 0 rfl) ?_
        refine c_callVI_p X K hw (k_X3_isMissing l G S a3.toNatClampNeg hd10) (g_cwV X hiX3_isMissing q771 q772 q773 q73 q774 ⟨(Nat.le_of_ble_eq_true rfl), (Nat.le_of_ble_eq_true rfl)⟩) (by have := hd10; omega) (tt_eS (k := a3.toNatClampNeg) hd10) rfl rfl hl.1 rfl (Nat.le_of_ble_eq_true rfl) dX6_copy_46 ⟨(Nat.le_of_ble_eq_true rfl), (Nat.le_of_ble_eq_true rfl)⟩ (fun z15 H locs ez15 hw => ?_)
        refine lv_if_eq (tgt := 58) X.1 X.2.1 dX6_copy_49 (by decide) (fun c16 => ?_) (fun c16 => ?_)
        · refine lv_aload X.1 X.2.1 dX6_copy_58 (lv_at hl 1 rfl) ?_
          refine g_get (v := .int (S 3 (10 + a1.toNatClampNeg))) X K hw (by have := hd8; omega) (tt_eS (k := a1.toNatClampNeg) hd8) rfl iT3 1 (by decide) q270 rfl dX6_copy_60 ?_
          refine lv_aload X.1 X.2.1 dX6_copy_63 (lv_at hl 0 rfl) ?_
          refine g_get (v := .int (S 3 (10 + a3.toNatClampNeg))) X K hw (by have := hd10; omega) (tt_eS (k := a3.toNatClampNeg) hd10) rfl iT3 1 (by decide) q270 rfl dX6_copy_65 ?_
          refine lv_icmp_eq (tgt := 77) X.1 X.2.1 dX6_copy_68 (by decide) (fun c17 => ?_) (fun c17 => ?_)
          · refine lv_aload X.1 X.2.1 dX6_copy_77 (lv_at hl 1 rfl) ?_
            refine lv_iload_n X.1 X.2.1 dX6_copy_79 rfl (lv_at hl 4 rfl) ?_
            refine lv_iload X.1 X.2.1 dX6_copy_80 (lv_at hl 7 rfl) ?_
            refine c_callVI_p X K hw (k_X3_has l G S a1.toNatClampNeg a2 a5 hd8) (g_cwV X hiX3_has q783 q784 q785 q73 q786 ⟨(Nat.le_of_ble_eq_true rfl), (Nat.le_of_ble_eq_true rfl)⟩) (by have := hd8; omega) (tt_eS (k := a1.toNatClampNeg) hd8) rfl rfl hl.1 rfl (Nat.le_of_ble_eq_true rfl) dX6_copy_82 ⟨(Nat.le_of_ble_eq_true rfl), (Nat.le_of_ble_eq_true rfl)⟩ (fun z18 H locs ez18 hw => ?_)
            refine lv_if_eq (tgt := 100) X.1 X.2.1 dX6_copy_85 (by decide) (fun c19 => ?_) (fun c19 => ?_)
            · refine lv_aload_n X.1 X.2.1 dX6_copy_100 rfl (lv_at hl 2 rfl) ?_
              refine lv_iconst (v := (0 : Int32)) X.1 X.2.1 dX6_copy_101 (by decide) ?_
              refine c_callVI_s X K hw (k_X6_tell l G S (0 : Int32) (by unfold vp_in; decide)) (g_cwV X hiX6_tell q312 q314 q0 q67 q315 ⟨(Nat.le_of_ble_eq_true rfl), (Nat.le_of_ble_eq_true rfl)⟩) (by decide) tt_eT rfl rfl hl.1 rfl (Nat.le_of_ble_eq_true rfl) dX6_copy_102 ⟨(Nat.le_of_ble_eq_true rfl), (Nat.le_of_ble_eq_true rfl)⟩ (fun z20 S21 H locs ez20 eS21 hw => ?_)
              have hR : (z20, S21) = tgt := by
                rw [← hF]
                subst ez1 ez5 ez11 ez15 ez18 ez20 eS21
                simp only [f6_copy, if_neg c2, if_neg c6, if_pos c12, if_pos c16, if_pos c17, if_pos c19]
              have hRR : z20 = tgt.1 := pr1 hR
              have hRS : S21 = tgt.2 := pr2 hR
              exact g_iret X hret hlk hw hRR hRS dX6_copy_105
            · refine lv_aload X.1 X.2.1 dX6_copy_88 (lv_at hl 0 rfl) ?_
              refine lv_iload X.1 X.2.1 dX6_copy_90 (lv_at hl 6 rfl) ?_
              refine lv_iload X.1 X.2.1 dX6_copy_92 (lv_at hl 7 rfl) ?_
              refine c_callVI_p X K hw (k_X3_has l G S a3.toNatClampNeg a4 a5 hd10) (g_cwV X hiX3_has q783 q784 q785 q73 q786 ⟨(Nat.le_of_ble_eq_true rfl), (Nat.le_of_ble_eq_true rfl)⟩) (by have := hd10; omega) (tt_eS (k := a3.toNatClampNeg) hd10) rfl rfl hl.1 rfl (Nat.le_of_ble_eq_true rfl) dX6_copy_94 ⟨(Nat.le_of_ble_eq_true rfl), (Nat.le_of_ble_eq_true rfl)⟩ (fun z22 H locs ez22 hw => ?_)
              refine lv_if_ne (tgt := 106) X.1 X.2.1 dX6_copy_97 (by decide) (fun c23 => ?_) (fun c23 => ?_)
              · refine lv_aload X.1 X.2.1 dX6_copy_106 (lv_at hl 1 rfl) ?_
                refine g_get (v := .ref (G.2.2 (52 + a1.toNatClampNeg))) X K hw (by have := hd8; omega) (tt_eS (k := a1.toNatClampNeg) hd8) rfl iT3 0 (by decide) q268 rfl dX6_copy_108 ?_
                refine lv_iload_n X.1 X.2.1 dX6_copy_111 rfl (lv_at hl 4 rfl) ?_
                refine lv_aload X.1 X.2.1 dX6_copy_112 (lv_at hl 0 rfl) ?_
                refine g_get (v := .ref (G.2.2 (52 + a3.toNatClampNeg))) X K hw (by have := hd10; omega) (tt_eS (k := a3.toNatClampNeg) hd10) rfl iT3 0 (by decide) q268 rfl dX6_copy_114 ?_
                refine lv_iload X.1 X.2.1 dX6_copy_117 (lv_at hl 6 rfl) ?_
                refine lv_iload X.1 X.2.1 dX6_copy_119 (lv_at hl 7 rfl) ?_
                refine g_copyi (S' := tt_upR S (15 + a3.toNatClampNeg) (va_cpy (S (15 + a1.toNatClampNeg)) (S (15 + a3.toNatClampNeg)) a2.toNatClampNeg a4.toNatClampNeg a5.toNatClampNeg)) X K (c_ap K) hw hl.1 q787 q449 q448 q76 (by have := hd8; omega) (by have := hd10; omega) (tt_eN (k := a1.toNatClampNeg) hd8) (tt_eN (k := a3.toNatClampNeg) hd10) (has_ok hp0 (iss_in ez1 c2) ez18 c19).1 (has_ok hp0 (iss_in ez5 c6) ez22 c23).1 (has_ok hp0 (iss_in ez1 c2) ez18 c19).2.1 (has_ok hp0 (iss_in ez1 c2) ez18 c19).2.2 (has_ok hp0 (iss_in ez5 c6) ez22 c23).2.2 (tt_sN (k := a3.toNatClampNeg) hd10) (Nat.le_of_ble_eq_true rfl) (by decide) dX6_copy_121 (fun S24 H locs eS24 hw => ?_)
                refine lv_iload X.1 X.2.1 dX6_copy_124 (lv_at hl 7 rfl) ?_
                have hR : (a5, S24) = tgt := by
                  rw [← hF]
                  subst ez1 ez5 ez11 ez15 ez18 ez22 eS24
                  simp only [f6_copy, if_neg c2, if_neg c6, if_pos c12, if_pos c16, if_pos c17, if_neg c19, if_neg c23]
                have hRR : a5 = tgt.1 := pr1 hR
                have hRS : S24 = tgt.2 := pr2 hR
                exact g_iret X hret hlk hw hRR hRS dX6_copy_126
              · refine lv_aload_n X.1 X.2.1 dX6_copy_100 rfl (lv_at hl 2 rfl) ?_
                refine lv_iconst (v := (0 : Int32)) X.1 X.2.1 dX6_copy_101 (by decide) ?_
                refine c_callVI_s X K hw (k_X6_tell l G S (0 : Int32) (by unfold vp_in; decide)) (g_cwV X hiX6_tell q312 q314 q0 q67 q315 ⟨(Nat.le_of_ble_eq_true rfl), (Nat.le_of_ble_eq_true rfl)⟩) (by decide) tt_eT rfl rfl hl.1 rfl (Nat.le_of_ble_eq_true rfl) dX6_copy_102 ⟨(Nat.le_of_ble_eq_true rfl), (Nat.le_of_ble_eq_true rfl)⟩ (fun z25 S26 H locs ez25 eS26 hw => ?_)
                have hR : (z25, S26) = tgt := by
                  rw [← hF]
                  subst ez1 ez5 ez11 ez15 ez18 ez22 ez25 eS26
                  simp only [f6_copy, if_neg c2, if_neg c6, if_pos c12, if_pos c16, if_pos c17, if_neg c19, if_pos c23]
                have hRR : z25 = tgt.1 := pr1 hR
                have hRS : S26 = tgt.2 := pr2 hR
                exact g_iret X hret hlk hw hRR hRS dX6_copy_105
          · refine lv_aload_n X.1 X.2.1 dX6_copy_71 rfl (lv_at hl 2 rfl) ?_
            refine lv_iconst (v := (2 : Int32)) X.1 X.2.1 dX6_copy_72 (by decide) ?_
            refine c_callVI_s X K hw (k_X6_tell l G S (2 : Int32) (by unfold vp_in; decide)) (g_cwV X hiX6_tell q312 q314 q0 q67 q315 ⟨(Nat.le_of_ble_eq_true rfl), (Nat.le_of_ble_eq_true rfl)⟩) (by decide) tt_eT rfl rfl hl.1 rfl (Nat.le_of_ble_eq_true rfl) dX6_copy_73 ⟨(Nat.le_of_ble_eq_true rfl), (Nat.le_of_ble_eq_true rfl)⟩ (fun z27 S28 H locs ez27 eS28 hw => ?_)
            have hR : (z27, S28) = tgt := by
              rw [← hF]
              subst ez1 ez5 ez11 ez15 ez27 eS28
              simp only [f6_copy, if_neg c2, if_neg c6, if_pos c12, if_pos c16, if_neg c17]
            have hRR : z27 = tgt.1 := pr1 hR
            have hRS : S28 = tgt.2 := pr2 hR
            exact g_iret X hret hlk hw hRR hRS dX6_copy_76
        · refine lv_aload_n X.1 X.2.1 dX6_copy_52 rfl (lv_at hl 2 rfl) ?_
          refine lv_iconst (v := (5 : Int32)) X.1 X.2.1 dX6_copy_53 (by decide) ?_
          refine c_callVI_s X K hw (k_X6_tell l G S (5 : Int32) (by unfold vp_in; decide)) (g_cwV X hiX6_tell q312 q314 q0 q67 q315 ⟨(Nat.le_of_ble_eq_true rfl), (Nat.le_of_ble_eq_true rfl)⟩) (by decide) tt_eT rfl rfl hl.1 rfl (Nat.le_of_ble_eq_true rfl) dX6_copy_54 ⟨(Nat.le_of_ble_eq_true rfl), (Nat.le_of_ble_eq_true rfl)⟩ (fun z29 S30 H locs ez29 eS30 hw => ?_)
          have hR : (z29, S30) = tgt := by
            rw [← hF]
            subst ez1 ez5 ez11 ez15 ez29 eS30
            simp only [f6_copy, if_neg c2, if_neg c6, if_pos c12, if_neg c16]
          have hRR : z29 = tgt.1 := pr1 hR
          have hRS : S30 = tgt.2 := pr2 hR
          exact g_iret X hret hlk hw hRR hRS dX6_copy_57
    · refine lv_aload_n X.1 X.2.1 dX6_copy_14 rfl (lv_at hl 0 rfl) ?_
      refine lv_iconst (v := (0 : Int32)) X.1 X.2.1 dX6_copy_15 (by decide) ?_
      refine c_callVI_s X K hw (k_X6_tell l G S (0 : Int32) (by unfold vp_in; decide)) (g_cwV X hiX6_tell q312 q314 q0 q67 q315 ⟨(Nat.le_of_ble_eq_true rfl), (Nat.le_of_ble_eq_true rfl)⟩) (by decide) tt_eT rfl rfl hl.1 rfl (Nat.le_of_ble_eq_true rfl) dX6_copy_16 ⟨(Nat.le_of_ble_eq_true rfl), (Nat.le_of_ble_eq_true rfl)⟩ (fun z31 S32 H locs ez31 eS32 hw => ?_)
      have hR : (z31, S32) = tgt := by
        rw [← hF]
        subst ez1 ez5 ez31 eS32
        simp only [f6_copy, if_neg c2, if_pos c6]
      have hRR : z31 = tgt.1 := pr1 hR
      have hRS : S32 = tgt.2 := pr2 hR
      exact g_iret X hret hlk hw hRR hRS dX6_copy_19
