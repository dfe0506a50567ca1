set_option maxHeartbeats 4000000 in
set_option maxRecDepth 10000 in
theorem k_X5_readPrice (l : Launch) (G : tt_G) (S : tt_St) (r : Nat) (hr : r < 3) (hp0 : tz r S) : c_MI l G yX5_readPrice (g_code yX5_readPrice cX5_readPrice 2 (some FieldType.boolean)) 4 93 [.ref (G.2.2 58), .ref (G.2.2 (30 + r))] S ((f5_readPrice S r).1) ((f5_readPrice S r).2) := by
  generalize hF : f5_readPrice S r = tgt
  refine g_begin rfl (Nat.le_of_ble_eq_true rfl) _ (fun p e s m below meth c ls X hret hlk hB hl => ?_)
  obtain ⟨hP0, K⟩ := hB
  have hw : c_W G S s s.heap [] := ⟨hP0, va_S.rf⟩
  have X : CallFix p m c cX5_readPrice 2 s ([.ref (G.2.2 58), .ref (G.2.2 (30 + r))] : List Value).toArray tt_T "TrustTin$TextReader" := X
  have hl : lv_has ls 2 [(0, .ref (G.2.2 58)), (1, .ref (G.2.2 (30 + r)))] := hl
  refine lv_aload_n X.1 X.2.1 dX5_readPrice_0 rfl (lv_at hl 0 rfl) ?_
  refine lv_iconst (v := (0 : Int32)) X.1 X.2.1 dX5_readPrice_1 (by decide) ?_
  refine lv_bipush (v := (99 : Int32)) X.1 X.2.1 dX5_readPrice_2 (by decide) ?_
  refine c_callVI_s X K hw (k_X5_takeNumber l G S (0 : Int32) (99 : Int32) (hp0.1)) (g_cwV X hiX5_takeNumber q708 q710 q24 q72 q711 ⟨(Nat.le_of_ble_eq_true rfl), (Nat.le_of_ble_eq_true rfl)⟩) (by decide) tt_eRd rfl rfl hl.1 rfl (Nat.le_of_ble_eq_true rfl) dX5_readPrice_4 ⟨(Nat.le_of_ble_eq_true rfl), (Nat.le_of_ble_eq_true rfl)⟩ (fun z1 S2 H locs ez1 eS2 hw => ?_)
  refine lv_if_ne (tgt := 12) X.1 X.2.1 dX5_readPrice_7 (by decide) (fun c3 => ?_) (fun c3 => ?_)
  · refine lv_aload_n X.1 X.2.1 dX5_readPrice_12 rfl (lv_at hl 1 rfl) ?_
    refine lv_aload_n X.1 X.2.1 dX5_readPrice_13 rfl (lv_at hl 0 rfl) ?_
    refine g_get (v := .int (S2 3 6)) X K hw (by decide) tt_eRd rfl iT5 5 (by decide) q246 rfl dX5_readPrice_14 ?_
    refine lv_topi (fun x4 ex4 => ?_)
    refine g_put (S' := tt_up S2 r 1 x4) X K (c_ap K) hw (by omega) (tt_eR (r := r) hr) rfl iT2 tyX2_ok nmX2 2 (by decide) q165 rfl rfl rfl (Nat.le_of_ble_eq_true rfl) (tt_sR (r := r) (k := 1) hr (by decide)) dX5_readPrice_17 (fun S5 H locs eS5 hw => ?_)
    refine lv_iconst (v := (1 : Int32)) X.1 X.2.1 dX5_readPrice_20 (by decide) ?_
    have hR : ((1 : Int32), S5) = tgt := by
      rw [← hF]
      subst ez1 eS2 ex4 eS5
      simp only [f5_readPrice, if_neg c3]
    have hRR : (1 : Int32) = tgt.1 := pr1 hR
    have hRS : S5 = tgt.2 := pr2 hR
    exact g_zret X hret hlk hw rfl hRR hRS dX5_readPrice_21
  · refine lv_iconst (v := (0 : Int32)) X.1 X.2.1 dX5_readPrice_10 (by decide) ?_
    have hR : ((0 : Int32), S2) = tgt := by
      rw [← hF]
      subst ez1 eS2
      simp only [f5_readPrice, if_pos c3]
    have hRR : (0 : Int32) = tgt.1 := pr1 hR
    have hRS : S2 = tgt.2 := pr2 hR
    exact g_zret X hret hlk hw rfl hRR hRS dX5_readPrice_11
set_option maxHeartbeats 4000000 in
set_option maxRecDepth 10000 in
theorem k_X5_readPot (l : Launch) (G : tt_G) (S : tt_St) (r : Nat) (hr : r < 3) (hp0 : tz r S) : c_MI l G yX5_readPot (g_code yX5_readPot cX5_readPot 2 (some FieldType.boolean)) 4 93 [.ref (G.2.2 58), .ref (G.2.2 (30 + r))] S ((f5_readPot S r).1) ((f5_readPot S r).2) := by
  generalize hF : f5_readPot S r = tgt
  refine g_begin rfl (Nat.le_of_ble_eq_true rfl) _ (fun p e s m below meth c ls X hret hlk hB hl => ?_)
  obtain ⟨hP0, K⟩ := hB
  have hw : c_W G S s s.heap [] := ⟨hP0, va_S.rf⟩
  have X : CallFix p m c cX5_readPot 2 s ([.ref (G.2.2 58), .ref (G.2.2 (30 + r))] : List Value).toArray tt_T "TrustTin$TextReader" := X
  have hl : lv_has ls 2 [(0, .ref (G.2.2 58)), (1, .ref (G.2.2 (30 + r)))] := hl
  refine lv_aload_n X.1 X.2.1 dX5_readPot_0 rfl (lv_at hl 0 rfl) ?_
  refine lv_iconst (v := (1 : Int32)) X.1 X.2.1 dX5_readPot_1 (by decide) ?_
  refine lv_bipush (v := (99 : Int32)) X.1 X.2.1 dX5_readPot_2 (by decide) ?_
  refine c_callVI_s X K hw (k_X5_takeNumber l G S (1 : Int32) (99 : Int32) (hp0.1)) (g_cwV X hiX5_takeNumber q708 q710 q24 q72 q711 ⟨(Nat.le_of_ble_eq_true rfl), (Nat.le_of_ble_eq_true rfl)⟩) (by decide) tt_eRd rfl rfl hl.1 rfl (Nat.le_of_ble_eq_true rfl) dX5_readPot_4 ⟨(Nat.le_of_ble_eq_true rfl), (Nat.le_of_ble_eq_true rfl)⟩ (fun z1 S2 H locs ez1 eS2 hw => ?_)
  refine lv_if_ne (tgt := 12) X.1 X.2.1 dX5_readPot_7 (by decide) (fun c3 => ?_) (fun c3 => ?_)
  · refine lv_aload_n X.1 X.2.1 dX5_readPot_12 rfl (lv_at hl 1 rfl) ?_
    refine lv_aload_n X.1 X.2.1 dX5_readPot_13 rfl (lv_at hl 0 rfl) ?_
    refine g_get (v := .int (S2 3 6)) X K hw (by decide) tt_eRd rfl iT5 5 (by decide) q246 rfl dX5_readPot_14 ?_
    refine c_callVV_s X K hw (k_X2_setPot l G S2 r (S2 3 6) hr) (g_cwV X hiX2_setPot q730 q364 q365 q68 q366 ⟨(Nat.le_of_ble_eq_true rfl), (Nat.le_of_ble_eq_true rfl)⟩) (by omega) (tt_eR (r := r) hr) rfl rfl hl.1 rfl (Nat.le_of_ble_eq_true rfl) dX5_readPot_17 ⟨(Nat.le_of_ble_eq_true rfl), (Nat.le_of_ble_eq_true rfl)⟩ (fun S4 H locs eS4 hw => ?_)
    refine lv_iconst (v := (1 : Int32)) X.1 X.2.1 dX5_readPot_20 (by decide) ?_
    have hR : ((1 : Int32), S4) = tgt := by
      rw [← hF]
      subst ez1 eS2 eS4
      simp only [f5_readPot, if_neg c3]
    have hRR : (1 : Int32) = tgt.1 := pr1 hR
    have hRS : S4 = tgt.2 := pr2 hR
    exact g_zret X hret hlk hw rfl hRR hRS dX5_readPot_21
  · refine lv_iconst (v := (0 : Int32)) X.1 X.2.1 dX5_readPot_10 (by decide) ?_
    have hR : ((0 : Int32), S2) = tgt := by
      rw [← hF]
      subst ez1 eS2
      simp only [f5_readPot, if_pos c3]
    have hRR : (0 : Int32) = tgt.1 := pr1 hR
    have hRS : S2 = tgt.2 := pr2 hR
    exact g_zret X hret hlk hw rfl hRR hRS dX5_readPot_11
set_option maxHeartbeats 4000000 in
set_option maxRecDepth 10000 in
theorem k_X5_wordOfSign (l : Launch) (G : tt_G) (S : tt_St) (a0 : Int32) : c_MR l G yX5_wordOfSign (g_code yX5_wordOfSign cX5_wordOfSign 1 (some (FieldType.object "java/lang/String"))) 0 0 [.int a0] S (G.2.2 (110 + f5_wordOfSign a0)) S := by
  generalize hF : f5_wordOfSign a0 = tgt
  refine g_begin rfl (Nat.le_of_ble_eq_true rfl) _ (fun p e s m below meth c ls X hret hlk hB hl => ?_)
  obtain ⟨hP0, K⟩ := hB
  have hw : c_W G S s s.heap [] := ⟨hP0, va_S.rf⟩
  have X : CallFix p m c cX5_wordOfSign 1 s ([.int a0] : List Value).toArray tt_T "TrustTin$TextReader" := X
  have hl : lv_has ls 1 [(0, .int a0)] := hl
  refine lv_iload_n X.1 X.2.1 dX5_wordOfSign_0 rfl (lv_at hl 0 rfl) ?_
  by_cases c1 : a0 = (0 : Int32)
  · refine lv_lookup (off := 27) (tgt := 28) X.1 X.2.1 dX5_wordOfSign_1 (by decide) (by rw [c1] <;> rfl) (by decide) ?_
    refine va_ldcS X.1 X.2.1 X.2.2.2.1 (K.2.2.2.1.2 12 (by decide)) dX5_wordOfSign_28 ?_
    have hR : 12 = tgt := by
      rw [← hF]
      simp only [f5_wordOfSign, if_pos c1]
    exact g_aret X hret hlk hw (congrArg (fun z => G.2.2 (110 + z)) hR) rfl dX5_wordOfSign_30
  by_cases c2 : a0 = (1 : Int32)
  · refine lv_lookup (off := 30) (tgt := 31) X.1 X.2.1 dX5_wordOfSign_1 (by decide) (by rw [c2] <;> rfl) (by decide) ?_
    refine va_ldcS X.1 X.2.1 X.2.2.2.1 (K.2.2.2.1.2 13 (by decide)) dX5_wordOfSign_31 ?_
    have hR : 13 = tgt := by
      rw [← hF]
      simp only [f5_wordOfSign, if_neg c1, if_pos c2]
    exact g_aret X hret hlk hw (congrArg (fun z => G.2.2 (110 + z)) hR) rfl dX5_wordOfSign_33
  refine lv_lookup (off := 33) (tgt := 34) X.1 X.2.1 dX5_wordOfSign_1 (by decide) (by show Op.lookupswitch.offset [(0, 27), (1, 30)] _ _ = _; rw [lv_osw (a := 0) c1 rfl, lv_osw (a := 1) c2 rfl] <;> rfl) (by decide) ?_
  refine va_ldcS X.1 X.2.1 X.2.2.2.1 (K.2.2.2.1.2 14 (by decide)) dX5_wordOfSign_34 ?_
  have hR : 14 = tgt := by
    rw [← hF]
    simp only [f5_wordOfSign, if_neg c1, if_neg c2]
  exact g_aret X hret hlk hw (congrArg (fun z => G.2.2 (110 + z)) hR) rfl dX5_wordOfSign_36
set_option maxHeartbeats 4000000 in
set_option maxRecDepth 10000 in
theorem k_X5_readSign (l : Launch) (G : tt_G) (S : tt_St) (r : Nat) (hr : r < 3) (hp0 : tz r S) : c_MI l G yX5_readSign (g_code yX5_readSign cX5_readSign 3 (some FieldType.boolean)) 6 129 [.ref (G.2.2 58), .ref (G.2.2 (30 + r))] S ((f5_readSign S r).1) ((f5_readSign S r).2) := by
  generalize hF : f5_readSign S r = tgt
  refine g_begin rfl (Nat.le_of_ble_eq_true rfl) _ (fun p e s m below meth c ls X hret hlk hB hl => ?_)
  obtain ⟨hP0, K⟩ := hB
  have hw : c_W G S s s.heap [] := ⟨hP0, va_S.rf⟩
  have X : CallFix p m c cX5_readSign 3 s ([.ref (G.2.2 58), .ref (G.2.2 (30 + r))] : List Value).toArray tt_T "TrustTin$TextReader" := X
  have hl : lv_has ls 3 [(0, .ref (G.2.2 58)), (1, .ref (G.2.2 (30 + r)))] := hl
  refine lv_iconst (v := (0 : Int32)) X.1 X.2.1 dX5_readSign_0 (by decide) ?_
  refine lv_istore_n (lv' := [(2, .int (0 : Int32)), (0, .ref (G.2.2 58)), (1, .ref (G.2.2 (30 + r)))]) X.1 X.2.1 dX5_readSign_1 rfl hl (by decide) rfl (fun ls hl => ?_)
  have j2 : ∀ (n : Nat) (S1 : tt_St) (y2_2 : Int32) (H : Heap) (locs : List Loc) (ls : Array Slot), (tz r S1 ∧ ¬ y2_2 < 0) → lp_nu (2 : Int32) y2_2 < n → f5_readSign_L2 r n S1 y2_2 = tgt → c_W G S1 s H locs → lv_has ls 3 [(0, .ref (G.2.2 58)), (1, .ref (G.2.2 (30 + r))), (2, .int y2_2)] → W p l e (g_rm 6 129) s m ([.ref (G.2.2 58), .ref (G.2.2 (30 + r))] : List Value).toArray below meth c H locs 0 0 (MQ below (va_Qi (fun r T => r = tgt.1 ∧ T = tgt.2) (g_Post G 62 G.2.2 (tt_cell G)) (g_in 62 G.2.2)) ([.ref (G.2.2 58), .ref (G.2.2 (30 + r))] : List Value).toArray s 0 0 (g_in 62 G.2.2)) (F0 m 2 ls []) := by
    intro n
    induction n with
    | zero => intro S1 y2_2 H locs ls hI hm; exact absurd hm (Nat.not_lt_zero _)
    | succ n ih =>
      intro S1 y2_2 H locs ls hI hm hF hw hl
      refine lv_iload_n X.1 X.2.1 dX5_readSign_2 rfl (lv_at hl 2 rfl) ?_
      refine lv_iconst (v := (2 : Int32)) X.1 X.2.1 dX5_readSign_3 (by decide) ?_
      refine lv_icmp_gt (tgt := 31) X.1 X.2.1 dX5_readSign_4 (by decide) (fun c2 => ?_) (fun c2 => ?_)
      · refine lv_iconst (v := (0 : Int32)) X.1 X.2.1 dX5_readSign_31 (by decide) ?_
        have hR : ((0 : Int32), S1) = tgt := by
          rw [← hF]
          simp only [f5_readSign_L2, if_pos c2]
        have hRR : (0 : Int32) = tgt.1 := pr1 hR
        have hRS : S1 = tgt.2 := pr2 hR
        exact g_zret X hret hlk hw rfl hRR hRS dX5_readSign_32
      · refine lv_aload_n X.1 X.2.1 dX5_readSign_7 rfl (lv_at hl 0 rfl) ?_
        refine lv_iload_n X.1 X.2.1 dX5_readSign_8 rfl (lv_at hl 2 rfl) ?_
        refine c_callSR_p X K hw (k_X5_wordOfSign l G S1 y2_2) (g_cwS X hiX5_wordOfSign q736 q737 q72 q738 ⟨(Nat.le_of_ble_eq_true rfl), (Nat.le_of_ble_eq_true rfl)⟩) rfl hl.1 rfl (Nat.le_of_ble_eq_true rfl) dX5_readSign_9 ⟨(Nat.le_of_ble_eq_true rfl), (Nat.le_of_ble_eq_true rfl)⟩ (fun H locs hw => ?_)
        have hd3 : f5_wordOfSign y2_2 < 15 := ws15 _
        refine c_callVI_s X K hw (k_X5_takeWord l G S1 (f5_wordOfSign y2_2) hd3 (hI.1.1)) (g_cwV X hiX5_takeWord q715 q717 q25 q72 q718 ⟨(Nat.le_of_ble_eq_true rfl), (Nat.le_of_ble_eq_true rfl)⟩) (by decide) tt_eRd rfl rfl hl.1 rfl (Nat.le_of_ble_eq_true rfl) dX5_readSign_12 ⟨(Nat.le_of_ble_eq_true rfl), (Nat.le_of_ble_eq_true rfl)⟩ (fun z4 S5 H locs ez4 eS5 hw => ?_)
        refine lv_if_eq (tgt := 25) X.1 X.2.1 dX5_readSign_15 (by decide) (fun c6 => ?_) (fun c6 => ?_)
        · obtain ⟨x7, ex7⟩ : ∃ y : Int32, y = y2_2 + (1 : Int32) := ⟨_, rfl⟩
          refine lv_iinc (v := x7) (lv' := [(2, .int x7), (0, .ref (G.2.2 58)), (1, .ref (G.2.2 (30 + r)))]) X.1 X.2.1 dX5_readSign_25 hl (k := 2) rfl (by rw [ex7]; rfl) (by decide) rfl (fun ls hl => ?_)
          refine lv_goto (tgt := 2) X.1 X.2.1 dX5_readSign_28 (by decide) ?_
          have hF2 : f5_readSign_L2 r n S5 x7 = tgt := by
            rw [← hF]
            subst ez4 eS5 ex7
            simp only [f5_readSign_L2, if_neg c2, if_pos c6]
          exact ih S5 x7 _ _ ls (⟨by subst ez4 eS5 ex7; exact tz_w hr hI.1, by rw [ex7]; exact lp_nnn (by decide) hI.2 c2⟩) (by rw [ex7]; exact lp_ndec (by decide) c2 hm) hF2 hw (lv_sub hl [1, 2, 0] rfl)
        · refine lv_aload_n X.1 X.2.1 dX5_readSign_18 rfl (lv_at hl 1 rfl) ?_
          refine lv_iload_n X.1 X.2.1 dX5_readSign_19 rfl (lv_at hl 2 rfl) ?_
          refine g_put (S' := tt_up S5 r 5 y2_2) X K (c_ap K) hw (by omega) (tt_eR (r := r) hr) rfl iT2 tyX2_ok nmX2 6 (by decide) q174 rfl rfl rfl (Nat.le_of_ble_eq_true rfl) (tt_sR (r := r) (k := 5) hr (by decide)) dX5_readSign_20 (fun S8 H locs eS8 hw => ?_)
          refine lv_iconst (v := (1 : Int32)) X.1 X.2.1 dX5_readSign_23 (by decide) ?_
          have hR : ((1 : Int32), S8) = tgt := by
            rw [← hF]
            subst ez4 eS5 eS8
            simp only [f5_readSign_L2, if_neg c2, if_neg c6]
          have hRR : (1 : Int32) = tgt.1 := pr1 hR
          have hRS : S8 = tgt.2 := pr2 hR
          exact g_zret X hret hlk hw rfl hRR hRS dX5_readSign_24
  have hF2 : f5_readSign_L2 r (lp_nu (2 : Int32) 0 + 1) S (0 : Int32) = tgt := by
    rw [← hF]
    simp only [f5_readSign]
  exact j2 (lp_nu (2 : Int32) 0 + 1) S (0 : Int32) _ _ ls (⟨hp0, by decide⟩) (Nat.lt_succ_self _) hF2 hw (lv_sub hl [1, 2, 0] rfl)
set_option maxHeartbeats 4000000 in
set_option maxRecDepth 10000 in
theorem k_X5_readItem (l : Launch) (G : tt_G) (S : tt_St) (r : Nat) (hr : r < 3) (hp0 : tz r S) : c_MI l G yX5_readItem (g_code yX5_readItem cX5_readItem 3 (some FieldType.boolean)) 7 152 [.ref (G.2.2 58), .ref (G.2.2 (30 + r))] S ((f5_readItem S r).1) ((f5_readItem S r).2) := by
  generalize hF : f5_readItem S r = tgt
  refine g_begin rfl (Nat.le_of_ble_eq_true rfl) _ (fun p e s m below meth c ls X hret hlk hB hl => ?_)
  obtain ⟨hP0, K⟩ := hB
  have hw : c_W G S s s.heap [] := ⟨hP0, va_S.rf⟩
  have X : CallFix p m c cX5_readItem 3 s ([.ref (G.2.2 58), .ref (G.2.2 (30 + r))] : List Value).toArray tt_T "TrustTin$TextReader" := X
  have hl : lv_has ls 3 [(0, .ref (G.2.2 58)), (1, .ref (G.2.2 (30 + r)))] := hl
  refine lv_aload_n X.1 X.2.1 dX5_readItem_0 rfl (lv_at hl 0 rfl) ?_
  refine c_callVI_p X K hw (k_X5_kindOfWord l G S (hp0.1)) (g_cwV X hiX5_kindOfWord q638 q640 q21 q72 q641 ⟨(Nat.le_of_ble_eq_true rfl), (Nat.le_of_ble_eq_true rfl)⟩) (by decide) tt_eRd rfl rfl hl.1 rfl (Nat.le_of_ble_eq_true rfl) dX5_readItem_1 ⟨(Nat.le_of_ble_eq_true rfl), (Nat.le_of_ble_eq_true rfl)⟩ (fun z1 H locs ez1 hw => ?_)
  refine lv_istore_n (lv' := [(2, .int z1), (0, .ref (G.2.2 58)), (1, .ref (G.2.2 (30 + r)))]) X.1 X.2.1 dX5_readItem_4 rfl hl (by decide) rfl (fun ls hl => ?_)
  refine lv_iload_n X.1 X.2.1 dX5_readItem_5 rfl (lv_at hl 0 rfl) ?_
  refine lv_if_lt (tgt := 33) X.1 X.2.1 dX5_readItem_6 (by decide) (fun c2 => ?_) (fun c2 => ?_)
  · refine lv_aload_n X.1 X.2.1 dX5_readItem_33 rfl (lv_at hl 1 rfl) ?_
    refine va_ldcS X.1 X.2.1 X.2.2.2.1 (K.2.2.2.1.2 7 (by decide)) dX5_readItem_34 ?_
    refine c_callVI_s X K hw (k_X5_takeWord l G S 7 (by decide) (hp0.1)) (g_cwV X hiX5_takeWord q715 q717 q25 q72 q718 ⟨(Nat.le_of_ble_eq_true rfl), (Nat.le_of_ble_eq_true rfl)⟩) (by decide) tt_eRd rfl rfl hl.1 rfl (Nat.le_of_ble_eq_true rfl) dX5_readItem_36 ⟨(Nat.le_of_ble_eq_true rfl), (Nat.le_of_ble_eq_true rfl)⟩ (fun z3 S4 H locs ez3 eS4 hw => ?_)
    have t : tz r S4 := by rw [eS4]; exact tz_w hr hp0
    refine lv_if_eq (tgt := 48) X.1 X.2.1 dX5_readItem_39 (by decide) (fun c5 => ?_) (fun c5 => ?_)
    · refine lv_aload_n X.1 X.2.1 dX5_readItem_48 rfl (lv_at hl 1 rfl) ?_
      refine va_ldcS X.1 X.2.1 X.2.2.2.1 (K.2.2.2.1.2 8 (by decide)) dX5_readItem_49 ?_
      refine c_callVI_s X K hw (k_X5_takeWord l G S4 8 (by decide) (t.1)) (g_cwV X hiX5_takeWord q715 q717 q25 q72 q718 ⟨(Nat.le_of_ble_eq_true rfl), (Nat.le_of_ble_eq_true rfl)⟩) (by decide) tt_eRd rfl rfl hl.1 rfl (Nat.le_of_ble_eq_true rfl) dX5_readItem_51 ⟨(Nat.le_of_ble_eq_true rfl), (Nat.le_of_ble_eq_true rfl)⟩ (fun z6 S7 H locs ez6 eS7 hw => ?_)
      have t : tz r S7 := by rw [eS7]; exact tz_w hr t
      refine lv_if_eq (tgt := 63) X.1 X.2.1 dX5_readItem_54 (by decide) (fun c8 => ?_) (fun c8 => ?_)
      · refine lv_aload_n X.1 X.2.1 dX5_readItem_63 rfl (lv_at hl 1 rfl) ?_
        refine va_ldcS X.1 X.2.1 X.2.2.2.1 (K.2.2.2.1.2 9 (by decide)) dX5_readItem_64 ?_
        refine c_callVI_s X K hw (k_X5_takeWord l G S7 9 (by decide) (t.1)) (g_cwV X hiX5_takeWord q715 q717 q25 q72 q718 ⟨(Nat.le_of_ble_eq_true rfl), (Nat.le_of_ble_eq_true rfl)⟩) (by decide) tt_eRd rfl rfl hl.1 rfl (Nat.le_of_ble_eq_true rfl) dX5_readItem_66 ⟨(Nat.le_of_ble_eq_true rfl), (Nat.le_of_ble_eq_true rfl)⟩ (fun z9 S10 H locs ez9 eS10 hw => ?_)
        have t : tz r S10 := by rw [eS10]; exact tz_w hr t
        refine lv_if_eq (tgt := 84) X.1 X.2.1 dX5_readItem_69 (by decide) (fun c11 => ?_) (fun c11 => ?_)
        · refine lv_iconst (v := (0 : Int32)) X.1 X.2.1 dX5_readItem_84 (by decide) ?_
          have hR : ((0 : Int32), S10) = tgt := by
            rw [← hF]
            simp only [f5_readItem, ← ez1, ← ez3, ← eS4, ← ez6, ← eS7, ← ez9, ← eS10, if_pos c2, if_pos c5, if_pos c8, if_pos c11]
          have hRR : (0 : Int32) = tgt.1 := pr1 hR
          have hRS : S10 = tgt.2 := pr2 hR
          exact g_zret X hret hlk hw rfl hRR hRS dX5_readItem_85
        · refine lv_aload_n X.1 X.2.1 dX5_readItem_72 rfl (lv_at hl 1 rfl) ?_
          refine lv_aload_n X.1 X.2.1 dX5_readItem_73 rfl (lv_at hl 2 rfl) ?_
          refine c_callVI_s X K hw (k_X5_readSign l G S10 r hr (t)) (g_cwV X hiX5_readSign q732 q734 q28 q72 q735 ⟨(Nat.le_of_ble_eq_true rfl), (Nat.le_of_ble_eq_true rfl)⟩) (by decide) tt_eRd rfl rfl hl.1 rfl (Nat.le_of_ble_eq_true rfl) dX5_readItem_74 ⟨(Nat.le_of_ble_eq_true rfl), (Nat.le_of_ble_eq_true rfl)⟩ (fun z12 S13 H locs ez12 eS13 hw => ?_)
          refine lv_if_eq (tgt := 84) X.1 X.2.1 dX5_readItem_77 (by decide) (fun c14 => ?_) (fun c14 => ?_)
          · refine lv_iconst (v := (0 : Int32)) X.1 X.2.1 dX5_readItem_84 (by decide) ?_
            have hR : ((0 : Int32), S13) = tgt := by
              rw [← hF]
              simp only [f5_readItem, ← ez1, ← ez3, ← eS4, ← ez6, ← eS7, ← ez9, ← eS10, ← ez12, ← eS13, if_pos c2, if_pos c5, if_pos c8, if_neg c11, if_pos c14]
            have hRR : (0 : Int32) = tgt.1 := pr1 hR
            have hRS : S13 = tgt.2 := pr2 hR
            exact g_zret X hret hlk hw rfl hRR hRS dX5_readItem_85
          · refine lv_iconst (v := (1 : Int32)) X.1 X.2.1 dX5_readItem_80 (by decide) ?_
            refine lv_goto (tgt := 85) X.1 X.2.1 dX5_readItem_81 (by decide) ?_
            have hR : ((1 : Int32), S13) = tgt := by
              rw [← hF]
              simp only [f5_readItem, ← ez1, ← ez3, ← eS4, ← ez6, ← eS7, ← ez9, ← eS10, ← ez12, ← eS13, if_pos c2, if_pos c5, if_pos c8, if_neg c11, if_neg c14]
            have hRR : (1 : Int32) = tgt.1 := pr1 hR
            have hRS : S13 = tgt.2 := pr2 hR
            exact g_zret X hret hlk hw rfl hRR hRS dX5_readItem_85
      · refine lv_aload_n X.1 X.2.1 dX5_readItem_57 rfl (lv_at hl 1 rfl) ?_
        refine lv_aload_n X.1 X.2.1 dX5_readItem_58 rfl (lv_at hl 2 rfl) ?_
        refine c_callVI_s X K hw (k_X5_readPot l G S7 r hr (t)) (g_cwV X hiX5_readPot q726 q728 q27 q72 q729 ⟨(Nat.le_of_ble_eq_true rfl), (Nat.le_of_ble_eq_true rfl)⟩) (by decide) tt_eRd rfl rfl hl.1 rfl (Nat.le_of_ble_eq_true rfl) dX5_readItem_59 ⟨(Nat.le_of_ble_eq_true rfl), (Nat.le_of_ble_eq_true rfl)⟩ (fun z15 S16 H locs ez15 eS16 hw => ?_)
        have hR : (z15, S16) = tgt := by
          rw [← hF]
          simp only [f5_readItem, ← ez1, ← ez3, ← eS4, ← ez6, ← eS7, ← ez15, ← eS16, if_pos c2, if_pos c5, if_neg c8]
        have hRR : z15 = tgt.1 := pr1 hR
        have hRS : S16 = tgt.2 := pr2 hR
        exact g_zret X hret hlk hw (bo_nr (bo_X5_readPot ez15)) hRR hRS dX5_readItem_62
    · refine lv_aload_n X.1 X.2.1 dX5_readItem_42 rfl (lv_at hl 1 rfl) ?_
      refine lv_aload_n X.1 X.2.1 dX5_readItem_43 rfl (lv_at hl 2 rfl) ?_
      refine c_callVI_s X K hw (k_X5_readPrice l G S4 r hr (t)) (g_cwV X hiX5_readPrice q721 q723 q26 q72 q724 ⟨(Nat.le_of_ble_eq_true rfl), (Nat.le_of_ble_eq_true rfl)⟩) (by decide) tt_eRd rfl rfl hl.1 rfl (Nat.le_of_ble_eq_true rfl) dX5_readItem_44 ⟨(Nat.le_of_ble_eq_true rfl), (Nat.le_of_ble_eq_true rfl)⟩ (fun z17 S18 H locs ez17 eS18 hw => ?_)
      have hR : (z17, S18) = tgt := by
        rw [← hF]
        simp only [f5_readItem, ← ez1, ← ez3, ← eS4, ← ez17, ← eS18, if_pos c2, if_neg c5]
      have hRR : z17 = tgt.1 := pr1 hR
      have hRS : S18 = tgt.2 := pr2 hR
      exact g_zret X hret hlk hw (bo_nr (bo_X5_readPrice ez17)) hRR hRS dX5_readItem_47
  · refine lv_aload_n X.1 X.2.1 dX5_readItem_9 rfl (lv_at hl 2 rfl) ?_
    refine g_get (v := .int (S r 0)) X K hw (by omega) (tt_eR (r := r) hr) rfl iT2 1 (by decide) q163 rfl dX5_readItem_10 ?_
    refine lv_bipush (v := (10 : Int32)) X.1 X.2.1 dX5_readItem_13 (by decide) ?_
    refine lv_icmp_ge (tgt := 31) X.1 X.2.1 dX5_readItem_15 (by decide) (fun c19 => ?_) (fun c19 => ?_)
    · refine lv_iconst (v := (0 : Int32)) X.1 X.2.1 dX5_readItem_31 (by decide) ?_
      have hR : ((0 : Int32), S) = tgt := by
        rw [← hF]
        simp only [f5_readItem, ← ez1, if_neg c2, if_pos c19]
      have hRR : (0 : Int32) = tgt.1 := pr1 hR
      have hRS : S = tgt.2 := pr2 hR
      exact g_zret X hret hlk hw rfl hRR hRS dX5_readItem_32
    · refine lv_aload_n X.1 X.2.1 dX5_readItem_18 rfl (lv_at hl 1 rfl) ?_
      refine lv_aload_n X.1 X.2.1 dX5_readItem_19 rfl (lv_at hl 2 rfl) ?_
      refine lv_iload_n X.1 X.2.1 dX5_readItem_20 rfl (lv_at hl 0 rfl) ?_
      refine c_callVI_s X K hw (k_X5_readDrinker l G S r z1 hr (hp0)) (g_cwV X hiX5_readDrinker q704 q706 q23 q72 q707 ⟨(Nat.le_of_ble_eq_true rfl), (Nat.le_of_ble_eq_true rfl)⟩) (by decide) tt_eRd rfl rfl hl.1 rfl (Nat.le_of_ble_eq_true rfl) dX5_readItem_21 ⟨(Nat.le_of_ble_eq_true rfl), (Nat.le_of_ble_eq_true rfl)⟩ (fun z20 S21 H locs ez20 eS21 hw => ?_)
      refine lv_if_eq (tgt := 31) X.1 X.2.1 dX5_readItem_24 (by decide) (fun c22 => ?_) (fun c22 => ?_)
      · refine lv_iconst (v := (0 : Int32)) X.1 X.2.1 dX5_readItem_31 (by decide) ?_
        have hR : ((0 : Int32), S21) = tgt := by
          rw [← hF]
          simp only [f5_readItem, ← ez1, ← ez20, ← eS21, if_neg c2, if_neg c19, if_pos c22]
        have hRR : (0 : Int32) = tgt.1 := pr1 hR
        have hRS : S21 = tgt.2 := pr2 hR
        exact g_zret X hret hlk hw rfl hRR hRS dX5_readItem_32
      · refine lv_iconst (v := (1 : Int32)) X.1 X.2.1 dX5_readItem_27 (by decide) ?_
        refine lv_goto (tgt := 32) X.1 X.2.1 dX5_readItem_28 (by decide) ?_
        have hR : ((1 : Int32), S21) = tgt := by
          rw [← hF]
          simp only [f5_readItem, ← ez1, ← ez20, ← eS21, if_neg c2, if_neg c19, if_neg c22]
        have hRR : (1 : Int32) = tgt.1 := pr1 hR
        have hRS : S21 = tgt.2 := pr2 hR
        exact g_zret X hret hlk hw rfl hRR hRS dX5_readItem_32
set_option maxHeartbeats 4000000 in
set_option maxRecDepth 10000 in
theorem k_X5_read (l : Launch) (G : tt_G) (S : tt_St) (r : Nat) (hr : r < 3) (hp0 : tz r S) : c_MI l G yX5_read (g_code yX5_read cX5_read 3 (some FieldType.int)) 8 174 [.ref (G.2.2 58), .ref (G.2.2 (30 + r))] S ((f5_read S r).1) ((f5_read S r).2) := by
  generalize hF : f5_read S r = tgt
  refine g_begin rfl (Nat.le_of_ble_eq_true rfl) _ (fun p e s m below meth c ls X hret hlk hB hl => ?_)
  obtain ⟨hP0, K⟩ := hB
  have hw : c_W G S s s.heap [] := ⟨hP0, va_S.rf⟩
  have X : CallFix p m c cX5_read 3 s ([.ref (G.2.2 58), .ref (G.2.2 (30 + r))] : List Value).toArray tt_T "TrustTin$TextReader" := X
  have hl : lv_has ls 3 [(0, .ref (G.2.2 58)), (1, .ref (G.2.2 (30 + r)))] := hl
  refine lv_aload_n X.1 X.2.1 dX5_read_0 rfl (lv_at hl 0 rfl) ?_
  refine lv_iconst (v := (0 : Int32)) X.1 X.2.1 dX5_read_1 (by decide) ?_
  refine g_put (S' := tt_up S 3 4 (0 : Int32)) X K (c_ap K) hw (by decide) tt_eRd rfl iT5 tyX5_ok nmX5 3 (by decide) q244 rfl rfl rfl (Nat.le_of_ble_eq_true rfl) (tt_sRd (k := 2) (by decide)) dX5_read_2 (fun S1 H locs eS1 hw => ?_)
  refine lv_iconst (v := (1 : Int32)) X.1 X.2.1 dX5_read_5 (by decide) ?_
  refine lv_istore_n (lv' := [(2, .int (1 : Int32)), (0, .ref (G.2.2 58)), (1, .ref (G.2.2 (30 + r)))]) X.1 X.2.1 dX5_read_6 rfl hl (by decide) rfl (fun ls hl => ?_)
  have j7 : ∀ (n : Nat) (S2 : tt_St) (y2_7 : Int32) (H : Heap) (locs : List Loc) (ls : Array Slot), (tz r S2 ∧ ¬ y2_7 < 0) → lp_nu (120 : Int32) y2_7 < n → f5_read_L7 r n S2 y2_7 = tgt → c_W G S2 s H locs → lv_has ls 3 [(0, .ref (G.2.2 58)), (1, .ref (G.2.2 (30 + r))), (2, .int y2_7)] → W p l e (g_rm 8 174) s m ([.ref (G.2.2 58), .ref (G.2.2 (30 + r))] : List Value).toArray below meth c H locs 0 0 (MQ below (va_Qi (fun r T => r = tgt.1 ∧ T = tgt.2) (g_Post G 62 G.2.2 (tt_cell G)) (g_in 62 G.2.2)) ([.ref (G.2.2 58), .ref (G.2.2 (30 + r))] : List Value).toArray s 0 0 (g_in 62 G.2.2)) (F0 m 7 ls []) := by
    intro n
    induction n with
    | zero => intro S2 y2_7 H locs ls hI hm; exact absurd hm (Nat.not_lt_zero _)
    | succ n ih =>
      intro S2 y2_7 H locs ls hI hm hF hw hl
      refine lv_iload_n X.1 X.2.1 dX5_read_7 rfl (lv_at hl 2 rfl) ?_
      refine lv_bipush (v := (120 : Int32)) X.1 X.2.1 dX5_read_8 (by decide) ?_
      refine lv_icmp_gt (tgt := 62) X.1 X.2.1 dX5_read_10 (by decide) (fun c3 => ?_) (fun c3 => ?_)
      · refine lv_iconst (v := (-1 : Int32)) X.1 X.2.1 dX5_read_62 (by decide) ?_
        refine lv_aload_n X.1 X.2.1 dX5_read_63 rfl (lv_at hl 0 rfl) ?_
        refine g_get (v := .int (S2 3 3)) X K hw (by decide) tt_eRd rfl iT5 2 (by decide) q243 rfl dX5_read_64 ?_
        refine lv_isub X.1 X.2.1 dX5_read_67 ?_
        have hR : ((-1 : Int32) - (S2 3 3), S2) = tgt := by
          rw [← hF]
          simp only [f5_read_L7, if_pos c3]
        have hRR : (-1 : Int32) - (S2 3 3) = tgt.1 := pr1 hR
        have hRS : S2 = tgt.2 := pr2 hR
        exact g_iret X hret hlk hw hRR hRS dX5_read_68
      · refine lv_aload_n X.1 X.2.1 dX5_read_13 rfl (lv_at hl 0 rfl) ?_
        refine c_callVV_s X K hw (k_X5_advance l G S2 (hI.1.1)) (g_cwV X hiX5_advance q611 q613 q16 q72 q614 ⟨(Nat.le_of_ble_eq_true rfl), (Nat.le_of_ble_eq_true rfl)⟩) (by decide) tt_eRd rfl rfl hl.1 rfl (Nat.le_of_ble_eq_true rfl) dX5_read_14 ⟨(Nat.le_of_ble_eq_true rfl), (Nat.le_of_ble_eq_true rfl)⟩ (fun S4 H locs eS4 hw => ?_)
        refine lv_aload_n X.1 X.2.1 dX5_read_17 rfl (lv_at hl 0 rfl) ?_
        refine lv_aload_n X.1 X.2.1 dX5_read_18 rfl (lv_at hl 1 rfl) ?_
        refine c_callVI_s X K hw (k_X5_readItem l G S4 r hr (by subst eS4; exact tz_adv hr hI.1)) (g_cwV X hiX5_readItem q634 q636 q20 q72 q637 ⟨(Nat.le_of_ble_eq_true rfl), (Nat.le_of_ble_eq_true rfl)⟩) (by decide) tt_eRd rfl rfl hl.1 rfl (Nat.le_of_ble_eq_true rfl) dX5_read_19 ⟨(Nat.le_of_ble_eq_true rfl), (Nat.le_of_ble_eq_true rfl)⟩ (fun z5 S6 H locs ez5 eS6 hw => ?_)
        refine lv_if_ne (tgt := 32) X.1 X.2.1 dX5_read_22 (by decide) (fun c7 => ?_) (fun c7 => ?_)
        · refine lv_aload_n X.1 X.2.1 dX5_read_32 rfl (lv_at hl 0 rfl) ?_
          refine g_get (v := .int (S6 3 2)) X K hw (by decide) tt_eRd rfl iT5 1 (by decide) q242 rfl dX5_read_33 ?_
          refine lv_if_ne (tgt := 41) X.1 X.2.1 dX5_read_36 (by decide) (fun c8 => ?_) (fun c8 => ?_)
          · refine lv_aload_n X.1 X.2.1 dX5_read_41 rfl (lv_at hl 0 rfl) ?_
            refine g_get (v := .int (S6 3 2)) X K hw (by decide) tt_eRd rfl iT5 1 (by decide) q242 rfl dX5_read_42 ?_
            refine lv_iconst (v := (3 : Int32)) X.1 X.2.1 dX5_read_45 (by decide) ?_
            refine lv_icmp_eq (tgt := 56) X.1 X.2.1 dX5_read_46 (by decide) (fun c9 => ?_) (fun c9 => ?_)
            · obtain ⟨x10, ex10⟩ : ∃ y : Int32, y = y2_7 + (1 : Int32) := ⟨_, rfl⟩
              refine lv_iinc (v := x10) (lv' := [(2, .int x10), (0, .ref (G.2.2 58)), (1, .ref (G.2.2 (30 + r)))]) X.1 X.2.1 dX5_read_56 hl (k := 2) rfl (by rw [ex10]; rfl) (by decide) rfl (fun ls hl => ?_)
              refine lv_goto (tgt := 7) X.1 X.2.1 dX5_read_59 (by decide) ?_
              have hF2 : f5_read_L7 r n S6 x10 = tgt := by
                rw [← hF]
                subst eS4 ez5 eS6 ex10
                simp only [f5_read_L7, if_neg c3, if_neg c7, if_neg c8, if_pos c9]
              exact ih S6 x10 _ _ ls (⟨by subst eS4 ez5 eS6 ex10; exact tz_item hr (tz_adv hr hI.1), by rw [ex10]; exact lp_nnn (by decide) hI.2 c3⟩) (by rw [ex10]; exact lp_ndec (by decide) c3 hm) hF2 hw (lv_sub hl [1, 2, 0] rfl)
            · refine lv_iconst (v := (-1 : Int32)) X.1 X.2.1 dX5_read_49 (by decide) ?_
              refine lv_aload_n X.1 X.2.1 dX5_read_50 rfl (lv_at hl 0 rfl) ?_
              refine g_get (v := .int (S6 3 3)) X K hw (by decide) tt_eRd rfl iT5 2 (by decide) q243 rfl dX5_read_51 ?_
              refine lv_isub X.1 X.2.1 dX5_read_54 ?_
              have hR : ((-1 : Int32) - (S6 3 3), S6) = tgt := by
                rw [← hF]
                subst eS4 ez5 eS6
                simp only [f5_read_L7, if_neg c3, if_neg c7, if_neg c8, if_neg c9]
              have hRR : (-1 : Int32) - (S6 3 3) = tgt.1 := pr1 hR
              have hRS : S6 = tgt.2 := pr2 hR
              exact g_iret X hret hlk hw hRR hRS dX5_read_55
          · refine lv_iload_n X.1 X.2.1 dX5_read_39 rfl (lv_at hl 2 rfl) ?_
            have hR : (y2_7, S6) = tgt := by
              rw [← hF]
              subst eS4 ez5 eS6
              simp only [f5_read_L7, if_neg c3, if_neg c7, if_pos c8]
            have hRR : y2_7 = tgt.1 := pr1 hR
            have hRS : S6 = tgt.2 := pr2 hR
            exact g_iret X hret hlk hw hRR hRS dX5_read_40
        · refine lv_iconst (v := (-1 : Int32)) X.1 X.2.1 dX5_read_25 (by decide) ?_
          refine lv_aload_n X.1 X.2.1 dX5_read_26 rfl (lv_at hl 0 rfl) ?_
          refine g_get (v := .int (S6 3 3)) X K hw (by decide) tt_eRd rfl iT5 2 (by decide) q243 rfl dX5_read_27 ?_
          refine lv_isub X.1 X.2.1 dX5_read_30 ?_
          have hR : ((-1 : Int32) - (S6 3 3), S6) = tgt := by
            rw [← hF]
            subst eS4 ez5 eS6
            simp only [f5_read_L7, if_neg c3, if_pos c7]
          have hRR : (-1 : Int32) - (S6 3 3) = tgt.1 := pr1 hR
          have hRS : S6 = tgt.2 := pr2 hR
          exact g_iret X hret hlk hw hRR hRS dX5_read_31
  have hF2 : f5_read_L7 r (lp_nu (120 : Int32) 1 + 1) S1 (1 : Int32) = tgt := by
    rw [← hF]
    subst eS1
    simp only [f5_read]
  exact j7 (lp_nu (120 : Int32) 1 + 1) S1 (1 : Int32) _ _ ls (⟨by subst eS1; exact tz_34 hr hp0, by decide⟩) (Nat.lt_succ_self _) hF2 hw (lv_sub hl [1, 2, 0] rfl)
