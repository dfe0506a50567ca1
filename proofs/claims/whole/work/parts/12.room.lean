set_option maxHeartbeats 4000000 in
set_option maxRecDepth 10000 in
theorem k_X0_put (l : Launch) (G : tt_G) (S : tt_St) (r : Nat) (a1 : Int32) (a2 : Int32) (hr : r < 3) : c_MV l G yX0_put (g_code yX0_put cX0_put 3 none) 1 60 [.ref (G.2.2 (36 + r)), .int a1, .int a2] S (f0_put S r a1 a2) := by
  generalize hF : f0_put S r a1 a2 = tgt
  refine g_begin rfl (Nat.le_of_ble_eq_true rfl) _ (fun p e s m below meth c ls X hret hlk hB hl => ?_)
  obtain ⟨hP0, K⟩ := hB
  have hw : c_W G S s s.heap [] := ⟨hP0, va_S.rf⟩
  have X : CallFix p m c cX0_put 3 s ([.ref (G.2.2 (36 + r)), .int a1, .int a2] : List Value).toArray tt_T "TrustTin$Books" := X
  have hl : lv_has ls 3 [(0, .ref (G.2.2 (36 + r))), (1, .int a1), (2, .int a2)] := hl
  refine lv_aload_n X.1 X.2.1 dX0_put_0 rfl (lv_at hl 0 rfl) ?_
  refine g_get (v := .ref (G.2.2 (39 + r))) X K hw (by omega) (tt_eB (r := r) hr) rfl iT0 0 (by decide) q104 rfl dX0_put_1 ?_
  refine lv_iconst (v := (0 : Int32)) X.1 X.2.1 dX0_put_4 (by decide) ?_
  refine lv_aload_n X.1 X.2.1 dX0_put_5 rfl (lv_at hl 0 rfl) ?_
  refine g_get (v := .ref (G.2.2 (39 + r))) X K hw (by omega) (tt_eB (r := r) hr) rfl iT0 0 (by decide) q104 rfl dX0_put_6 ?_
  refine lv_iconst (v := (1 : Int32)) X.1 X.2.1 dX0_put_9 (by decide) ?_
  refine lv_bipush (v := (19 : Int32)) X.1 X.2.1 dX0_put_10 (by decide) ?_
  refine g_copyi (S' := tt_upR S (6 + r) (va_cpy (S (6 + r)) (S (6 + r)) 0 1 19)) X K (c_ap K) hw hl.1 q447 q449 q448 q76 (by omega) (by omega) (tt_eCu (r := r) hr) (tt_eCu (r := r) hr) (by decide) (by decide) (by decide) (by decide) (by decide) (tt_sCu (r := r) hr) (Nat.le_of_ble_eq_true rfl) (by decide) dX0_put_12 (fun S1 H locs eS1 hw => ?_)
  refine lv_aload_n X.1 X.2.1 dX0_put_15 rfl (lv_at hl 0 rfl) ?_
  refine g_get (v := .ref (G.2.2 (42 + r))) X K hw (by omega) (tt_eB (r := r) hr) rfl iT0 1 (by decide) q106 rfl dX0_put_16 ?_
  refine lv_iconst (v := (0 : Int32)) X.1 X.2.1 dX0_put_19 (by decide) ?_
  refine lv_aload_n X.1 X.2.1 dX0_put_20 rfl (lv_at hl 0 rfl) ?_
  refine g_get (v := .ref (G.2.2 (42 + r))) X K hw (by omega) (tt_eB (r := r) hr) rfl iT0 1 (by decide) q106 rfl dX0_put_21 ?_
  refine lv_iconst (v := (1 : Int32)) X.1 X.2.1 dX0_put_24 (by decide) ?_
  refine lv_bipush (v := (19 : Int32)) X.1 X.2.1 dX0_put_25 (by decide) ?_
  refine g_copyi (S' := tt_upR S1 (9 + r) (va_cpy (S1 (9 + r)) (S1 (9 + r)) 0 1 19)) X K (c_ap K) hw hl.1 q447 q449 q448 q76 (by omega) (by omega) (tt_eCo (r := r) hr) (tt_eCo (r := r) hr) (by decide) (by decide) (by decide) (by decide) (by decide) (tt_sCo (r := r) hr) (Nat.le_of_ble_eq_true rfl) (by decide) dX0_put_27 (fun S2 H locs eS2 hw => ?_)
  refine lv_aload_n X.1 X.2.1 dX0_put_30 rfl (lv_at hl 0 rfl) ?_
  refine g_get (v := .ref (G.2.2 (39 + r))) X K hw (by omega) (tt_eB (r := r) hr) rfl iT0 0 (by decide) q104 rfl dX0_put_31 ?_
  refine lv_iconst (v := (0 : Int32)) X.1 X.2.1 dX0_put_34 (by decide) ?_
  refine lv_iload_n X.1 X.2.1 dX0_put_35 rfl (lv_at hl 1 rfl) ?_
  have hi3 : vp_in (0 : Int32) 20 := by unfold vp_in; decide
  refine g_iast (S' := tt_up S2 (6 + r) 0 a1) X K (c_ap K) hw (by omega) (tt_eCu (r := r) hr) hi3 (tt_sCu (r := r) hr) dX0_put_36 (fun S4 H locs eS4 hw => ?_)
  refine lv_aload_n X.1 X.2.1 dX0_put_37 rfl (lv_at hl 0 rfl) ?_
  refine g_get (v := .ref (G.2.2 (42 + r))) X K hw (by omega) (tt_eB (r := r) hr) rfl iT0 1 (by decide) q106 rfl dX0_put_38 ?_
  refine lv_iconst (v := (0 : Int32)) X.1 X.2.1 dX0_put_41 (by decide) ?_
  refine lv_iload_n X.1 X.2.1 dX0_put_42 rfl (lv_at hl 2 rfl) ?_
  have hi5 : vp_in (0 : Int32) 20 := by unfold vp_in; decide
  refine g_iast (S' := tt_up S4 (9 + r) 0 a2) X K (c_ap K) hw (by omega) (tt_eCo (r := r) hr) hi5 (tt_sCo (r := r) hr) dX0_put_43 (fun S6 H locs eS6 hw => ?_)
  refine lv_aload_n X.1 X.2.1 dX0_put_44 rfl (lv_at hl 0 rfl) ?_
  refine lv_aload_n X.1 X.2.1 dX0_put_45 rfl (lv_at hl 0 rfl) ?_
  refine g_get (v := .int (S6 r 11)) X K hw (by omega) (tt_eB (r := r) hr) rfl iT0 2 (by decide) q108 rfl dX0_put_46 ?_
  refine lv_iconst (v := (1 : Int32)) X.1 X.2.1 dX0_put_49 (by decide) ?_
  refine lv_iadd X.1 X.2.1 dX0_put_50 ?_
  refine lv_bipush (v := (20 : Int32)) X.1 X.2.1 dX0_put_51 (by decide) ?_
  refine va_mmin X.1 X.2.1 (X.2.2.1.trans hl.1.symm) X.2.2.2.1 (X.2.2.2.2 _ q450) (X.2.2.2.2 _ q322) (X.2.2.2.2 _ q75) (X.2.2.2.2 _ q323) (Nat.le_of_ble_eq_true rfl) (Nat.le_of_ble_eq_true rfl) (Nat.le_of_ble_eq_true rfl) (Nat.le_of_ble_eq_true rfl) dX0_put_53 ?_
  refine lv_topi (fun x7 ex7 => ?_)
  refine g_put (S' := tt_up S6 r 11 x7) X K (c_ap K) hw (by omega) (tt_eB (r := r) hr) rfl iT0 tyX0_ok nmX0 2 (by decide) q108 rfl rfl rfl (Nat.le_of_ble_eq_true rfl) (tt_sB (r := r) hr) dX0_put_56 (fun S8 H locs eS8 hw => ?_)
  have hR : S8 = tgt := by
    rw [← hF]
    subst eS1 eS2 eS4 eS6 ex7 eS8
    simp only [f0_put]
  exact g_vret X hret hlk hw hR dX0_put_59
set_option maxHeartbeats 4000000 in
set_option maxRecDepth 10000 in
theorem k_X0_take (l : Launch) (G : tt_G) (S : tt_St) (r : Nat) (r2 : Nat) (hr : r < 3) (hr2 : r2 < 3) : c_MV l G yX0_take (g_code yX0_take cX0_take 2 none) 1 60 [.ref (G.2.2 (36 + r)), .ref (G.2.2 (36 + r2))] S (f0_take S r r2) := by
  generalize hF : f0_take S r r2 = tgt
  refine g_begin rfl (Nat.le_of_ble_eq_true rfl) _ (fun p e s m below meth c ls X hret hlk hB hl => ?_)
  obtain ⟨hP0, K⟩ := hB
  have hw : c_W G S s s.heap [] := ⟨hP0, va_S.rf⟩
  have X : CallFix p m c cX0_take 2 s ([.ref (G.2.2 (36 + r)), .ref (G.2.2 (36 + r2))] : List Value).toArray tt_T "TrustTin$Books" := X
  have hl : lv_has ls 2 [(0, .ref (G.2.2 (36 + r))), (1, .ref (G.2.2 (36 + r2)))] := hl
  refine lv_aload_n X.1 X.2.1 dX0_take_0 rfl (lv_at hl 1 rfl) ?_
  refine g_get (v := .ref (G.2.2 (39 + r2))) X K hw (by omega) (tt_eB (r := r2) hr2) rfl iT0 0 (by decide) q104 rfl dX0_take_1 ?_
  refine lv_iconst (v := (0 : Int32)) X.1 X.2.1 dX0_take_4 (by decide) ?_
  refine lv_aload_n X.1 X.2.1 dX0_take_5 rfl (lv_at hl 0 rfl) ?_
  refine g_get (v := .ref (G.2.2 (39 + r))) X K hw (by omega) (tt_eB (r := r) hr) rfl iT0 0 (by decide) q104 rfl dX0_take_6 ?_
  refine lv_iconst (v := (0 : Int32)) X.1 X.2.1 dX0_take_9 (by decide) ?_
  refine lv_bipush (v := (20 : Int32)) X.1 X.2.1 dX0_take_10 (by decide) ?_
  refine g_copyi (S' := tt_upR S (6 + r) (va_cpy (S (6 + r2)) (S (6 + r)) 0 0 20)) X K (c_ap K) hw hl.1 q447 q449 q448 q76 (by omega) (by omega) (tt_eCu (r := r2) hr2) (tt_eCu (r := r) hr) (by decide) (by decide) (by decide) (by decide) (by decide) (tt_sCu (r := r) hr) (Nat.le_of_ble_eq_true rfl) (by decide) dX0_take_12 (fun S1 H locs eS1 hw => ?_)
  refine lv_aload_n X.1 X.2.1 dX0_take_15 rfl (lv_at hl 1 rfl) ?_
  refine g_get (v := .ref (G.2.2 (42 + r2))) X K hw (by omega) (tt_eB (r := r2) hr2) rfl iT0 1 (by decide) q106 rfl dX0_take_16 ?_
  refine lv_iconst (v := (0 : Int32)) X.1 X.2.1 dX0_take_19 (by decide) ?_
  refine lv_aload_n X.1 X.2.1 dX0_take_20 rfl (lv_at hl 0 rfl) ?_
  refine g_get (v := .ref (G.2.2 (42 + r))) X K hw (by omega) (tt_eB (r := r) hr) rfl iT0 1 (by decide) q106 rfl dX0_take_21 ?_
  refine lv_iconst (v := (0 : Int32)) X.1 X.2.1 dX0_take_24 (by decide) ?_
  refine lv_bipush (v := (20 : Int32)) X.1 X.2.1 dX0_take_25 (by decide) ?_
  refine g_copyi (S' := tt_upR S1 (9 + r) (va_cpy (S1 (9 + r2)) (S1 (9 + r)) 0 0 20)) X K (c_ap K) hw hl.1 q447 q449 q448 q76 (by omega) (by omega) (tt_eCo (r := r2) hr2) (tt_eCo (r := r) hr) (by decide) (by decide) (by decide) (by decide) (by decide) (tt_sCo (r := r) hr) (Nat.le_of_ble_eq_true rfl) (by decide) dX0_take_27 (fun S2 H locs eS2 hw => ?_)
  refine lv_aload_n X.1 X.2.1 dX0_take_30 rfl (lv_at hl 0 rfl) ?_
  refine lv_aload_n X.1 X.2.1 dX0_take_31 rfl (lv_at hl 1 rfl) ?_
  refine g_get (v := .int (S2 r2 11)) X K hw (by omega) (tt_eB (r := r2) hr2) rfl iT0 2 (by decide) q108 rfl dX0_take_32 ?_
  refine lv_topi (fun x3 ex3 => ?_)
  refine g_put (S' := tt_up S2 r 11 x3) X K (c_ap K) hw (by omega) (tt_eB (r := r) hr) rfl iT0 tyX0_ok nmX0 2 (by decide) q108 rfl rfl rfl (Nat.le_of_ble_eq_true rfl) (tt_sB (r := r) hr) dX0_take_35 (fun S4 H locs eS4 hw => ?_)
  have hR : S4 = tgt := by
    rw [← hF]
    subst eS1 eS2 ex3 eS4
    simp only [f0_take]
  exact g_vret X hret hlk hw hR dX0_take_38
set_option maxHeartbeats 4000000 in
set_option maxRecDepth 10000 in
theorem k_X0_sumOfFirst (l : Launch) (G : tt_G) (S : tt_St) (q : Nat) (w : Nat) (a1 : Int32) (hltq : q < 62) (heq : ∀ S : tt_St, tt_cell G S q = .inl (G.2.1 0, 20, .inl (S w))) : c_MI l G yX0_sumOfFirst (g_code yX0_sumOfFirst cX0_sumOfFirst 4 (some FieldType.int)) 0 0 [.ref (G.2.2 q), .int a1] S (f0_sumOfFirst S q w a1) S := by
  generalize hF : f0_sumOfFirst S q w a1 = tgt
  refine g_begin rfl (Nat.le_of_ble_eq_true rfl) _ (fun p e s m below meth c ls X hret hlk hB hl => ?_)
  obtain ⟨hP0, K⟩ := hB
  have hw : c_W G S s s.heap [] := ⟨hP0, va_S.rf⟩
  have X : CallFix p m c cX0_sumOfFirst 4 s ([.ref (G.2.2 q), .int a1] : List Value).toArray tt_T "TrustTin$Books" := X
  have hl : lv_has ls 4 [(0, .ref (G.2.2 q)), (1, .int a1)] := hl
  refine lv_iconst (v := (0 : Int32)) X.1 X.2.1 dX0_sumOfFirst_0 (by decide) ?_
  refine lv_istore_n (lv' := [(2, .int (0 : Int32)), (0, .ref (G.2.2 q)), (1, .int a1)]) X.1 X.2.1 dX0_sumOfFirst_1 rfl hl (by decide) rfl (fun ls hl => ?_)
  refine lv_iconst (v := (0 : Int32)) X.1 X.2.1 dX0_sumOfFirst_2 (by decide) ?_
  refine lv_istore_n (lv' := [(3, .int (0 : Int32)), (2, .int (0 : Int32)), (0, .ref (G.2.2 q)), (1, .int a1)]) X.1 X.2.1 dX0_sumOfFirst_3 rfl hl (by decide) rfl (fun ls hl => ?_)
  have j4 : ∀ (n : Nat) (y2_4 : Int32) (y3_4 : Int32) (H : Heap) (locs : List Loc) (ls : Array Slot), (¬ y3_4 < 0) → lp_mu a1 y3_4 < n → f0_sumOfFirst_L4 S q w a1 n y2_4 y3_4 = tgt → c_W G S s H locs → lv_has ls 4 [(0, .ref (G.2.2 q)), (1, .int a1), (2, .int y2_4), (3, .int y3_4)] → W p l e (g_rm 0 0) s m ([.ref (G.2.2 q), .int a1] : List Value).toArray below meth c H locs 0 0 (MQ below (va_Qi (fun r T => r = tgt ∧ T = S) (g_Post G 62 G.2.2 (tt_cell G)) (g_in 62 G.2.2)) ([.ref (G.2.2 q), .int a1] : List Value).toArray s 0 0 (g_in 62 G.2.2)) (F0 m 4 ls []) := by
    intro n
    induction n with
    | zero => intro y2_4 y3_4 H locs ls hI hm; exact absurd hm (Nat.not_lt_zero _)
    | succ n ih =>
      intro y2_4 y3_4 H locs ls hI hm hF hw hl
      refine lv_iload_n X.1 X.2.1 dX0_sumOfFirst_4 rfl (lv_at hl 3 rfl) ?_
      refine lv_iload_n X.1 X.2.1 dX0_sumOfFirst_5 rfl (lv_at hl 1 rfl) ?_
      refine lv_icmp_ge (tgt := 27) X.1 X.2.1 dX0_sumOfFirst_6 (by decide) (fun c1 => ?_) (fun c1 => ?_)
      · refine lv_iload_n X.1 X.2.1 dX0_sumOfFirst_27 rfl (lv_at hl 2 rfl) ?_
        have hR : y2_4 = tgt := by
          rw [← hF]
          simp only [f0_sumOfFirst_L4, if_pos c1]
        exact g_iret X hret hlk hw hR rfl dX0_sumOfFirst_28
      · refine lv_iload_n X.1 X.2.1 dX0_sumOfFirst_9 rfl (lv_at hl 3 rfl) ?_
        refine lv_aload_n X.1 X.2.1 dX0_sumOfFirst_10 rfl (lv_at hl 0 rfl) ?_
        refine g_alen (v := (20 : Int32)) X K hw hltq (heq _) (by decide) dX0_sumOfFirst_11 ?_
        refine lv_icmp_ge (tgt := 27) X.1 X.2.1 dX0_sumOfFirst_12 (by decide) (fun c2 => ?_) (fun c2 => ?_)
        · refine lv_iload_n X.1 X.2.1 dX0_sumOfFirst_27 rfl (lv_at hl 2 rfl) ?_
          have hR : y2_4 = tgt := by
            rw [← hF]
            simp only [f0_sumOfFirst_L4, if_neg c1, if_pos c2]
          exact g_iret X hret hlk hw hR rfl dX0_sumOfFirst_28
        · refine lv_iload_n X.1 X.2.1 dX0_sumOfFirst_15 rfl (lv_at hl 2 rfl) ?_
          refine lv_aload_n X.1 X.2.1 dX0_sumOfFirst_16 rfl (lv_at hl 0 rfl) ?_
          refine lv_iload_n X.1 X.2.1 dX0_sumOfFirst_17 rfl (lv_at hl 3 rfl) ?_
          have hi3 : vp_in y3_4 20 := lp_in hI c2 (by decide)
          refine g_iald X K hw hltq (heq _) hi3 dX0_sumOfFirst_18 ?_
          refine lv_iadd X.1 X.2.1 dX0_sumOfFirst_19 ?_
          refine lv_topi (fun x4 ex4 => ?_)
          refine lv_istore_n (lv' := [(2, .int x4), (0, .ref (G.2.2 q)), (1, .int a1), (3, .int y3_4)]) X.1 X.2.1 dX0_sumOfFirst_20 rfl hl (by decide) rfl (fun ls hl => ?_)
          obtain ⟨x5, ex5⟩ : ∃ y : Int32, y = y3_4 + (1 : Int32) := ⟨_, rfl⟩
          refine lv_iinc (v := x5) (lv' := [(3, .int x5), (2, .int x4), (0, .ref (G.2.2 q)), (1, .int a1)]) X.1 X.2.1 dX0_sumOfFirst_21 hl (k := 3) rfl (by rw [ex5]; rfl) (by decide) rfl (fun ls hl => ?_)
          refine lv_goto (tgt := 4) X.1 X.2.1 dX0_sumOfFirst_24 (by decide) ?_
          have hF2 : f0_sumOfFirst_L4 S q w a1 n x4 x5 = tgt := by
            rw [← hF]
            subst ex4 ex5
            simp only [f0_sumOfFirst_L4, if_neg c1, if_neg c2]
          exact ih x4 x5 _ _ ls (by rw [ex5]; exact lp_nn hI c1) (by rw [ex5]; exact lp_dec' c1 hm) hF2 hw (lv_sub hl [2, 3, 1, 0] rfl)
  have hF2 : f0_sumOfFirst_L4 S q w a1 (lp_mu a1 0 + 1) (0 : Int32) (0 : Int32) = tgt := by
    rw [← hF]
    simp only [f0_sumOfFirst]
  exact j4 (lp_mu a1 0 + 1) (0 : Int32) (0 : Int32) _ _ ls (by decide) (Nat.lt_succ_self _) hF2 hw (lv_sub hl [2, 3, 1, 0] rfl)
set_option maxHeartbeats 4000000 in
set_option maxRecDepth 10000 in
theorem k_X0_allCups (l : Launch) (G : tt_G) (S : tt_St) (r : Nat) (hr : r < 3) : c_MI l G yX0_allCups (g_code yX0_allCups cX0_allCups 1 (some FieldType.int)) 1 23 [.ref (G.2.2 (36 + r))] S (f0_allCups S r) S := by
  generalize hF : f0_allCups S r = tgt
  refine g_begin rfl (Nat.le_of_ble_eq_true rfl) _ (fun p e s m below meth c ls X hret hlk hB hl => ?_)
  obtain ⟨hP0, K⟩ := hB
  have hw : c_W G S s s.heap [] := ⟨hP0, va_S.rf⟩
  have X : CallFix p m c cX0_allCups 1 s ([.ref (G.2.2 (36 + r))] : List Value).toArray tt_T "TrustTin$Books" := X
  have hl : lv_has ls 1 [(0, .ref (G.2.2 (36 + r)))] := hl
  refine lv_aload_n X.1 X.2.1 dX0_allCups_0 rfl (lv_at hl 0 rfl) ?_
  refine g_get (v := .ref (G.2.2 (39 + r))) X K hw (by omega) (tt_eB (r := r) hr) rfl iT0 0 (by decide) q104 rfl dX0_allCups_1 ?_
  refine lv_aload_n X.1 X.2.1 dX0_allCups_4 rfl (lv_at hl 0 rfl) ?_
  refine g_get (v := .int (S r 11)) X K hw (by omega) (tt_eB (r := r) hr) rfl iT0 2 (by decide) q108 rfl dX0_allCups_5 ?_
  refine c_callSI_p X K hw (k_X0_sumOfFirst l G S (39 + r) (6 + r) (S r 11) (by omega) (fun S => (tt_eCu (r := r) hr))) (g_cwS X hiX0_sumOfFirst q468 q469 q69 q470 ⟨(Nat.le_of_ble_eq_true rfl), (Nat.le_of_ble_eq_true rfl)⟩) rfl hl.1 rfl (Nat.le_of_ble_eq_true rfl) dX0_allCups_8 ⟨(Nat.le_of_ble_eq_true rfl), (Nat.le_of_ble_eq_true rfl)⟩ (fun z1 H locs ez1 hw => ?_)
  have hR : z1 = tgt := by
    rw [← hF]
    subst ez1
    simp only [f0_allCups]
  exact g_iret X hret hlk hw hR rfl dX0_allCups_11
set_option maxHeartbeats 4000000 in
set_option maxRecDepth 10000 in
theorem k_X0_allCoins (l : Launch) (G : tt_G) (S : tt_St) (r : Nat) (hr : r < 3) : c_MI l G yX0_allCoins (g_code yX0_allCoins cX0_allCoins 1 (some FieldType.int)) 1 23 [.ref (G.2.2 (36 + r))] S (f0_allCoins S r) S := by
  generalize hF : f0_allCoins S r = tgt
  refine g_begin rfl (Nat.le_of_ble_eq_true rfl) _ (fun p e s m below meth c ls X hret hlk hB hl => ?_)
  obtain ⟨hP0, K⟩ := hB
  have hw : c_W G S s s.heap [] := ⟨hP0, va_S.rf⟩
  have X : CallFix p m c cX0_allCoins 1 s ([.ref (G.2.2 (36 + r))] : List Value).toArray tt_T "TrustTin$Books" := X
  have hl : lv_has ls 1 [(0, .ref (G.2.2 (36 + r)))] := hl
  refine lv_aload_n X.1 X.2.1 dX0_allCoins_0 rfl (lv_at hl 0 rfl) ?_
  refine g_get (v := .ref (G.2.2 (42 + r))) X K hw (by omega) (tt_eB (r := r) hr) rfl iT0 1 (by decide) q106 rfl dX0_allCoins_1 ?_
  refine lv_aload_n X.1 X.2.1 dX0_allCoins_4 rfl (lv_at hl 0 rfl) ?_
  refine g_get (v := .int (S r 11)) X K hw (by omega) (tt_eB (r := r) hr) rfl iT0 2 (by decide) q108 rfl dX0_allCoins_5 ?_
  refine c_callSI_p X K hw (k_X0_sumOfFirst l G S (42 + r) (9 + r) (S r 11) (by omega) (fun S => (tt_eCo (r := r) hr))) (g_cwS X hiX0_sumOfFirst q468 q469 q69 q470 ⟨(Nat.le_of_ble_eq_true rfl), (Nat.le_of_ble_eq_true rfl)⟩) rfl hl.1 rfl (Nat.le_of_ble_eq_true rfl) dX0_allCoins_8 ⟨(Nat.le_of_ble_eq_true rfl), (Nat.le_of_ble_eq_true rfl)⟩ (fun z1 H locs ez1 hw => ?_)
  have hR : z1 = tgt := by
    rw [← hF]
    subst ez1
    simp only [f0_allCoins]
  exact g_iret X hret hlk hw hR rfl dX0_allCoins_11
set_option maxHeartbeats 4000000 in
set_option maxRecDepth 10000 in
theorem k_X1_begin (l : Launch) (G : tt_G) (S : tt_St) (r : Nat) (d : Nat) (a1 : Int32) (a2 : Int32) (hr : r < 3) (hd : d < 10) : c_MV l G yX1_begin (g_code yX1_begin cX1_begin 3 none) 0 0 [.ref (G.2.2 (10 * r + d)), .int a1, .int a2] S (f1_begin S r d a1 a2) := by
  generalize hF : f1_begin S r d a1 a2 = tgt
  refine g_begin rfl (Nat.le_of_ble_eq_true rfl) _ (fun p e s m below meth c ls X hret hlk hB hl => ?_)
  obtain ⟨hP0, K⟩ := hB
  have hw : c_W G S s s.heap [] := ⟨hP0, va_S.rf⟩
  have X : CallFix p m c cX1_begin 3 s ([.ref (G.2.2 (10 * r + d)), .int a1, .int a2] : List Value).toArray tt_T "TrustTin$Drinker" := X
  have hl : lv_has ls 3 [(0, .ref (G.2.2 (10 * r + d))), (1, .int a1), (2, .int a2)] := hl
  refine lv_aload_n X.1 X.2.1 dX1_begin_0 rfl (lv_at hl 0 rfl) ?_
  refine lv_iload_n X.1 X.2.1 dX1_begin_1 rfl (lv_at hl 1 rfl) ?_
  refine g_put (S' := tt_up S r (12 + 7 * d) a1) X K (c_ap K) hw (by have := hr; have := hd; omega) (tt_eD (r := r) (d := d) hr hd) rfl iT1 tyX1_ok nmX1 0 (by decide) q123 rfl rfl rfl (Nat.le_of_ble_eq_true rfl) (tt_sD (r := r) (d := d) (k := 0) hr hd (by decide)) dX1_begin_2 (fun S1 H locs eS1 hw => ?_)
  refine lv_aload_n X.1 X.2.1 dX1_begin_5 rfl (lv_at hl 0 rfl) ?_
  refine lv_iload_n X.1 X.2.1 dX1_begin_6 rfl (lv_at hl 2 rfl) ?_
  refine g_put (S' := tt_up S1 r (13 + 7 * d) a2) X K (c_ap K) hw (by have := hr; have := hd; omega) (tt_eD (r := r) (d := d) hr hd) rfl iT1 tyX1_ok nmX1 1 (by decide) q126 rfl rfl rfl (Nat.le_of_ble_eq_true rfl) (tt_sD (r := r) (d := d) (k := 1) hr hd (by decide)) dX1_begin_7 (fun S2 H locs eS2 hw => ?_)
  refine lv_aload_n X.1 X.2.1 dX1_begin_10 rfl (lv_at hl 0 rfl) ?_
  refine lv_sipush (v := (200 : Int32)) X.1 X.2.1 dX1_begin_11 (by decide) ?_
  refine g_put (S' := tt_up S2 r (14 + 7 * d) (200 : Int32)) X K (c_ap K) hw (by have := hr; have := hd; omega) (tt_eD (r := r) (d := d) hr hd) rfl iT1 tyX1_ok nmX1 2 (by decide) q128 rfl rfl rfl (Nat.le_of_ble_eq_true rfl) (tt_sD (r := r) (d := d) (k := 2) hr hd (by decide)) dX1_begin_14 (fun S3 H locs eS3 hw => ?_)
  refine lv_aload_n X.1 X.2.1 dX1_begin_17 rfl (lv_at hl 0 rfl) ?_
  refine lv_bipush (v := (20 : Int32)) X.1 X.2.1 dX1_begin_18 (by decide) ?_
  refine g_put (S' := tt_up S3 r (15 + 7 * d) (20 : Int32)) X K (c_ap K) hw (by have := hr; have := hd; omega) (tt_eD (r := r) (d := d) hr hd) rfl iT1 tyX1_ok nmX1 3 (by decide) q132 rfl rfl rfl (Nat.le_of_ble_eq_true rfl) (tt_sD (r := r) (d := d) (k := 3) hr hd (by decide)) dX1_begin_20 (fun S4 H locs eS4 hw => ?_)
  refine lv_aload_n X.1 X.2.1 dX1_begin_23 rfl (lv_at hl 0 rfl) ?_
  refine lv_iconst (v := (0 : Int32)) X.1 X.2.1 dX1_begin_24 (by decide) ?_
  refine g_put (S' := tt_up S4 r (16 + 7 * d) (0 : Int32)) X K (c_ap K) hw (by have := hr; have := hd; omega) (tt_eD (r := r) (d := d) hr hd) rfl iT1 tyX1_ok nmX1 4 (by decide) q135 rfl rfl rfl (Nat.le_of_ble_eq_true rfl) (tt_sD (r := r) (d := d) (k := 4) hr hd (by decide)) dX1_begin_25 (fun S5 H locs eS5 hw => ?_)
  refine lv_aload_n X.1 X.2.1 dX1_begin_28 rfl (lv_at hl 0 rfl) ?_
  refine lv_iconst (v := (0 : Int32)) X.1 X.2.1 dX1_begin_29 (by decide) ?_
  refine g_put (S' := tt_up S5 r (17 + 7 * d) (0 : Int32)) X K (c_ap K) hw (by have := hr; have := hd; omega) (tt_eD (r := r) (d := d) hr hd) rfl iT1 tyX1_ok nmX1 5 (by decide) q138 rfl rfl rfl (Nat.le_of_ble_eq_true rfl) (tt_sD (r := r) (d := d) (k := 5) hr hd (by decide)) dX1_begin_30 (fun S6 H locs eS6 hw => ?_)
  refine lv_aload_n X.1 X.2.1 dX1_begin_33 rfl (lv_at hl 0 rfl) ?_
  refine lv_iconst (v := (0 : Int32)) X.1 X.2.1 dX1_begin_34 (by decide) ?_
  refine g_put (S' := tt_up S6 r (18 + 7 * d) (0 : Int32)) X K (c_ap K) hw (by have := hr; have := hd; omega) (tt_eD (r := r) (d := d) hr hd) rfl iT1 tyX1_ok nmX1 6 (by decide) q141 rfl rfl rfl (Nat.le_of_ble_eq_true rfl) (tt_sD (r := r) (d := d) (k := 6) hr hd (by decide)) dX1_begin_35 (fun S7 H locs eS7 hw => ?_)
  have hR : S7 = tgt := by
    rw [← hF]
    subst eS1 eS2 eS3 eS4 eS5 eS6 eS7
    simp only [f1_begin]
  exact g_vret X hret hlk hw hR dX1_begin_38
set_option maxHeartbeats 4000000 in
set_option maxRecDepth 10000 in
theorem k_X1_take (l : Launch) (G : tt_G) (S : tt_St) (r : Nat) (d : Nat) (r2 : Nat) (d2 : Nat) (hr : r < 3) (hd : d < 10) (hr2 : r2 < 3) (hd2 : d2 < 10) : c_MV l G yX1_take (g_code yX1_take cX1_take 2 none) 0 0 [.ref (G.2.2 (10 * r + d)), .ref (G.2.2 (10 * r2 + d2))] S (f1_take S r d r2 d2) := by
  generalize hF : f1_take S r d r2 d2 = tgt
  refine g_begin rfl (Nat.le_of_ble_eq_true rfl) _ (fun p e s m below meth c ls X hret hlk hB hl => ?_)
  obtain ⟨hP0, K⟩ := hB
  have hw : c_W G S s s.heap [] := ⟨hP0, va_S.rf⟩
  have X : CallFix p m c cX1_take 2 s ([.ref (G.2.2 (10 * r + d)), .ref (G.2.2 (10 * r2 + d2))] : List Value).toArray tt_T "TrustTin$Drinker" := X
  have hl : lv_has ls 2 [(0, .ref (G.2.2 (10 * r + d))), (1, .ref (G.2.2 (10 * r2 + d2)))] := hl
  refine lv_aload_n X.1 X.2.1 dX1_take_0 rfl (lv_at hl 0 rfl) ?_
  refine lv_aload_n X.1 X.2.1 dX1_take_1 rfl (lv_at hl 1 rfl) ?_
  refine g_get (v := .int (S r2 (12 + 7 * d2))) X K hw (by have := hr2; have := hd2; omega) (tt_eD (r := r2) (d := d2) hr2 hd2) rfl iT1 0 (by decide) q123 rfl dX1_take_2 ?_
  refine lv_topi (fun x1 ex1 => ?_)
  refine g_put (S' := tt_up S r (12 + 7 * d) x1) X K (c_ap K) hw (by have := hr; have := hd; omega) (tt_eD (r := r) (d := d) hr hd) rfl iT1 tyX1_ok nmX1 0 (by decide) q123 rfl rfl rfl (Nat.le_of_ble_eq_true rfl) (tt_sD (r := r) (d := d) (k := 0) hr hd (by decide)) dX1_take_5 (fun S2 H locs eS2 hw => ?_)
  refine lv_aload_n X.1 X.2.1 dX1_take_8 rfl (lv_at hl 0 rfl) ?_
  refine lv_aload_n X.1 X.2.1 dX1_take_9 rfl (lv_at hl 1 rfl) ?_
  refine g_get (v := .int (S2 r2 (13 + 7 * d2))) X K hw (by have := hr2; have := hd2; omega) (tt_eD (r := r2) (d := d2) hr2 hd2) rfl iT1 1 (by decide) q126 rfl dX1_take_10 ?_
  refine lv_topi (fun x3 ex3 => ?_)
  refine g_put (S' := tt_up S2 r (13 + 7 * d) x3) X K (c_ap K) hw (by have := hr; have := hd; omega) (tt_eD (r := r) (d := d) hr hd) rfl iT1 tyX1_ok nmX1 1 (by decide) q126 rfl rfl rfl (Nat.le_of_ble_eq_true rfl) (tt_sD (r := r) (d := d) (k := 1) hr hd (by decide)) dX1_take_13 (fun S4 H locs eS4 hw => ?_)
  refine lv_aload_n X.1 X.2.1 dX1_take_16 rfl (lv_at hl 0 rfl) ?_
  refine lv_aload_n X.1 X.2.1 dX1_take_17 rfl (lv_at hl 1 rfl) ?_
  refine g_get (v := .int (S4 r2 (14 + 7 * d2))) X K hw (by have := hr2; have := hd2; omega) (tt_eD (r := r2) (d := d2) hr2 hd2) rfl iT1 2 (by decide) q128 rfl dX1_take_18 ?_
  refine lv_topi (fun x5 ex5 => ?_)
  refine g_put (S' := tt_up S4 r (14 + 7 * d) x5) X K (c_ap K) hw (by have := hr; have := hd; omega) (tt_eD (r := r) (d := d) hr hd) rfl iT1 tyX1_ok nmX1 2 (by decide) q128 rfl rfl rfl (Nat.le_of_ble_eq_true rfl) (tt_sD (r := r) (d := d) (k := 2) hr hd (by decide)) dX1_take_21 (fun S6 H locs eS6 hw => ?_)
  refine lv_aload_n X.1 X.2.1 dX1_take_24 rfl (lv_at hl 0 rfl) ?_
  refine lv_aload_n X.1 X.2.1 dX1_take_25 rfl (lv_at hl 1 rfl) ?_
  refine g_get (v := .int (S6 r2 (15 + 7 * d2))) X K hw (by have := hr2; have := hd2; omega) (tt_eD (r := r2) (d := d2) hr2 hd2) rfl iT1 3 (by decide) q132 rfl dX1_take_26 ?_
  refine lv_topi (fun x7 ex7 => ?_)
  refine g_put (S' := tt_up S6 r (15 + 7 * d) x7) X K (c_ap K) hw (by have := hr; have := hd; omega) (tt_eD (r := r) (d := d) hr hd) rfl iT1 tyX1_ok nmX1 3 (by decide) q132 rfl rfl rfl (Nat.le_of_ble_eq_true rfl) (tt_sD (r := r) (d := d) (k := 3) hr hd (by decide)) dX1_take_29 (fun S8 H locs eS8 hw => ?_)
  refine lv_aload_n X.1 X.2.1 dX1_take_32 rfl (lv_at hl 0 rfl) ?_
  refine lv_aload_n X.1 X.2.1 dX1_take_33 rfl (lv_at hl 1 rfl) ?_
  refine g_get (v := .int (S8 r2 (16 + 7 * d2))) X K hw (by have := hr2; have := hd2; omega) (tt_eD (r := r2) (d := d2) hr2 hd2) rfl iT1 4 (by decide) q135 rfl dX1_take_34 ?_
  refine lv_topi (fun x9 ex9 => ?_)
  refine g_put (S' := tt_up S8 r (16 + 7 * d) x9) X K (c_ap K) hw (by have := hr; have := hd; omega) (tt_eD (r := r) (d := d) hr hd) rfl iT1 tyX1_ok nmX1 4 (by decide) q135 rfl rfl rfl (Nat.le_of_ble_eq_true rfl) (tt_sD (r := r) (d := d) (k := 4) hr hd (by decide)) dX1_take_37 (fun S10 H locs eS10 hw => ?_)
  refine lv_aload_n X.1 X.2.1 dX1_take_40 rfl (lv_at hl 0 rfl) ?_
  refine lv_aload_n X.1 X.2.1 dX1_take_41 rfl (lv_at hl 1 rfl) ?_
  refine g_get (v := .int (S10 r2 (17 + 7 * d2))) X K hw (by have := hr2; have := hd2; omega) (tt_eD (r := r2) (d := d2) hr2 hd2) rfl iT1 5 (by decide) q138 rfl dX1_take_42 ?_
  refine lv_topi (fun x11 ex11 => ?_)
  refine g_put (S' := tt_up S10 r (17 + 7 * d) x11) X K (c_ap K) hw (by have := hr; have := hd; omega) (tt_eD (r := r) (d := d) hr hd) rfl iT1 tyX1_ok nmX1 5 (by decide) q138 rfl rfl rfl (Nat.le_of_ble_eq_true rfl) (tt_sD (r := r) (d := d) (k := 5) hr hd (by decide)) dX1_take_45 (fun S12 H locs eS12 hw => ?_)
  refine lv_aload_n X.1 X.2.1 dX1_take_48 rfl (lv_at hl 0 rfl) ?_
  refine lv_aload_n X.1 X.2.1 dX1_take_49 rfl (lv_at hl 1 rfl) ?_
  refine g_get (v := .int (S12 r2 (18 + 7 * d2))) X K hw (by have := hr2; have := hd2; omega) (tt_eD (r := r2) (d := d2) hr2 hd2) rfl iT1 6 (by decide) q141 rfl dX1_take_50 ?_
  refine lv_topi (fun x13 ex13 => ?_)
  refine g_put (S' := tt_up S12 r (18 + 7 * d) x13) X K (c_ap K) hw (by have := hr; have := hd; omega) (tt_eD (r := r) (d := d) hr hd) rfl iT1 tyX1_ok nmX1 6 (by decide) q141 rfl rfl rfl (Nat.le_of_ble_eq_true rfl) (tt_sD (r := r) (d := d) (k := 6) hr hd (by decide)) dX1_take_53 (fun S14 H locs eS14 hw => ?_)
  have hR : S14 = tgt := by
    rw [← hF]
    subst ex1 eS2 ex3 eS4 ex5 eS6 ex7 eS8 ex9 eS10 ex11 eS12 ex13 eS14
    simp only [f1_take]
  exact g_vret X hret hlk hw hR dX1_take_56
set_option maxHeartbeats 4000000 in
set_option maxRecDepth 10000 in
theorem k_X1_get (l : Launch) (G : tt_G) (S : tt_St) (r : Nat) (d : Nat) (a1 : Int32) (hr : r < 3) (hd : d < 10) : c_MI l G yX1_get (g_code yX1_get cX1_get 2 (some FieldType.int)) 0 0 [.ref (G.2.2 (10 * r + d)), .int a1] S (f1_get S r d a1) S := by
  generalize hF : f1_get S r d a1 = tgt
  refine g_begin rfl (Nat.le_of_ble_eq_true rfl) _ (fun p e s m below meth c ls X hret hlk hB hl => ?_)
  obtain ⟨hP0, K⟩ := hB
  have hw : c_W G S s s.heap [] := ⟨hP0, va_S.rf⟩
  have X : CallFix p m c cX1_get 2 s ([.ref (G.2.2 (10 * r + d)), .int a1] : List Value).toArray tt_T "TrustTin$Drinker" := X
  have hl : lv_has ls 2 [(0, .ref (G.2.2 (10 * r + d))), (1, .int a1)] := hl
  refine lv_iload_n X.1 X.2.1 dX1_get_0 rfl (lv_at hl 1 rfl) ?_
  by_cases c1 : a1 = (0 : Int32)
  · refine lv_tableIn (tgt := 40) X.1 X.2.1 dX1_get_1 (by rw [c1]; decide) (by rw [c1]; decide) (by rw [c1]; rfl) (by decide) ?_
    refine lv_aload_n X.1 X.2.1 dX1_get_40 rfl (lv_at hl 0 rfl) ?_
    refine g_get (v := .int (S r (12 + 7 * d))) X K hw (by have := hr; have := hd; omega) (tt_eD (r := r) (d := d) hr hd) rfl iT1 0 (by decide) q123 rfl dX1_get_41 ?_
    have hR : S r (12 + 7 * d) = tgt := by
      rw [← hF]
      simp only [f1_get, if_pos c1]
    exact g_iret X hret hlk hw hR rfl dX1_get_44
  by_cases c2 : a1 = (1 : Int32)
  · refine lv_tableIn (tgt := 45) X.1 X.2.1 dX1_get_1 (by rw [c2]; decide) (by rw [c2]; decide) (by rw [c2]; rfl) (by decide) ?_
    refine lv_aload_n X.1 X.2.1 dX1_get_45 rfl (lv_at hl 0 rfl) ?_
    refine g_get (v := .int (S r (13 + 7 * d))) X K hw (by have := hr; have := hd; omega) (tt_eD (r := r) (d := d) hr hd) rfl iT1 1 (by decide) q126 rfl dX1_get_46 ?_
    have hR : S r (13 + 7 * d) = tgt := by
      rw [← hF]
      simp only [f1_get, if_neg c1, if_pos c2]
    exact g_iret X hret hlk hw hR rfl dX1_get_49
  by_cases c3 : a1 = (2 : Int32)
  · refine lv_tableIn (tgt := 50) X.1 X.2.1 dX1_get_1 (by rw [c3]; decide) (by rw [c3]; decide) (by rw [c3]; rfl) (by decide) ?_
    refine lv_aload_n X.1 X.2.1 dX1_get_50 rfl (lv_at hl 0 rfl) ?_
    refine g_get (v := .int (S r (14 + 7 * d))) X K hw (by have := hr; have := hd; omega) (tt_eD (r := r) (d := d) hr hd) rfl iT1 2 (by decide) q128 rfl dX1_get_51 ?_
    have hR : S r (14 + 7 * d) = tgt := by
      rw [← hF]
      simp only [f1_get, if_neg c1, if_neg c2, if_pos c3]
    exact g_iret X hret hlk hw hR rfl dX1_get_54
  by_cases c4 : a1 = (3 : Int32)
  · refine lv_tableIn (tgt := 55) X.1 X.2.1 dX1_get_1 (by rw [c4]; decide) (by rw [c4]; decide) (by rw [c4]; rfl) (by decide) ?_
    refine lv_aload_n X.1 X.2.1 dX1_get_55 rfl (lv_at hl 0 rfl) ?_
    refine g_get (v := .int (S r (15 + 7 * d))) X K hw (by have := hr; have := hd; omega) (tt_eD (r := r) (d := d) hr hd) rfl iT1 3 (by decide) q132 rfl dX1_get_56 ?_
    have hR : S r (15 + 7 * d) = tgt := by
      rw [← hF]
      simp only [f1_get, if_neg c1, if_neg c2, if_neg c3, if_pos c4]
    exact g_iret X hret hlk hw hR rfl dX1_get_59
  by_cases c5 : a1 = (4 : Int32)
  · refine lv_tableIn (tgt := 60) X.1 X.2.1 dX1_get_1 (by rw [c5]; decide) (by rw [c5]; decide) (by rw [c5]; rfl) (by decide) ?_
    refine lv_aload_n X.1 X.2.1 dX1_get_60 rfl (lv_at hl 0 rfl) ?_
    refine g_get (v := .int (S r (16 + 7 * d))) X K hw (by have := hr; have := hd; omega) (tt_eD (r := r) (d := d) hr hd) rfl iT1 4 (by decide) q135 rfl dX1_get_61 ?_
    have hR : S r (16 + 7 * d) = tgt := by
      rw [← hF]
      simp only [f1_get, if_neg c1, if_neg c2, if_neg c3, if_neg c4, if_pos c5]
    exact g_iret X hret hlk hw hR rfl dX1_get_64
  by_cases c6 : a1 = (5 : Int32)
  · refine lv_tableIn (tgt := 65) X.1 X.2.1 dX1_get_1 (by rw [c6]; decide) (by rw [c6]; decide) (by rw [c6]; rfl) (by decide) ?_
    refine lv_aload_n X.1 X.2.1 dX1_get_65 rfl (lv_at hl 0 rfl) ?_
    refine g_get (v := .int (S r (17 + 7 * d))) X K hw (by have := hr; have := hd; omega) (tt_eD (r := r) (d := d) hr hd) rfl iT1 5 (by decide) q138 rfl dX1_get_66 ?_
    have hR : S r (17 + 7 * d) = tgt := by
      rw [← hF]
      simp only [f1_get, if_neg c1, if_neg c2, if_neg c3, if_neg c4, if_neg c5, if_pos c6]
    exact g_iret X hret hlk hw hR rfl dX1_get_69
  refine lv_tableOut (tgt := 70) X.1 X.2.1 dX1_get_1 (by have := lv_neT (a := 0) c1 rfl; have := lv_neT (a := 1) c2 rfl; have := lv_neT (a := 2) c3 rfl; have := lv_neT (a := 3) c4 rfl; have := lv_neT (a := 4) c5 rfl; have := lv_neT (a := 5) c6 rfl; omega) (by decide) ?_
  refine lv_aload_n X.1 X.2.1 dX1_get_70 rfl (lv_at hl 0 rfl) ?_
  refine g_get (v := .int (S r (18 + 7 * d))) X K hw (by have := hr; have := hd; omega) (tt_eD (r := r) (d := d) hr hd) rfl iT1 6 (by decide) q141 rfl dX1_get_71 ?_
  have hR : S r (18 + 7 * d) = tgt := by
    rw [← hF]
    simp only [f1_get, if_neg c1, if_neg c2, if_neg c3, if_neg c4, if_neg c5, if_neg c6]
  exact g_iret X hret hlk hw hR rfl dX1_get_74
set_option maxHeartbeats 4000000 in
set_option maxRecDepth 10000 in
theorem k_X1_set (l : Launch) (G : tt_G) (S : tt_St) (r : Nat) (d : Nat) (a1 : Int32) (a2 : Int32) (hr : r < 3) (hd : d < 10) : c_MV l G yX1_set (g_code yX1_set cX1_set 3 none) 0 0 [.ref (G.2.2 (10 * r + d)), .int a1, .int a2] S (f1_set S r d a1 a2) := by
  generalize hF : f1_set S r d a1 a2 = tgt
  refine g_begin rfl (Nat.le_of_ble_eq_true rfl) _ (fun p e s m below meth c ls X hret hlk hB hl => ?_)
  obtain ⟨hP0, K⟩ := hB
  have hw : c_W G S s s.heap [] := ⟨hP0, va_S.rf⟩
  have X : CallFix p m c cX1_set 3 s ([.ref (G.2.2 (10 * r + d)), .int a1, .int a2] : List Value).toArray tt_T "TrustTin$Drinker" := X
  have hl : lv_has ls 3 [(0, .ref (G.2.2 (10 * r + d))), (1, .int a1), (2, .int a2)] := hl
  refine lv_iload_n X.1 X.2.1 dX1_set_0 rfl (lv_at hl 1 rfl) ?_
  by_cases c1 : a1 = (0 : Int32)
  · refine lv_tableIn (tgt := 28) X.1 X.2.1 dX1_set_1 (by rw [c1]; decide) (by rw [c1]; decide) (by rw [c1]; rfl) (by decide) ?_
    refine lv_aload_n X.1 X.2.1 dX1_set_28 rfl (lv_at hl 0 rfl) ?_
    refine lv_iload_n X.1 X.2.1 dX1_set_29 rfl (lv_at hl 2 rfl) ?_
    refine g_put (S' := tt_up S r (12 + 7 * d) a2) X K (c_ap K) hw (by have := hr; have := hd; omega) (tt_eD (r := r) (d := d) hr hd) rfl iT1 tyX1_ok nmX1 0 (by decide) q123 rfl rfl rfl (Nat.le_of_ble_eq_true rfl) (tt_sD (r := r) (d := d) (k := 0) hr hd (by decide)) dX1_set_30 (fun S2 H locs eS2 hw => ?_)
    refine lv_goto (tgt := 57) X.1 X.2.1 dX1_set_33 (by decide) ?_
    have hR : S2 = tgt := by
      rw [← hF]
      subst eS2
      simp only [f1_set, if_pos c1]
    exact g_vret X hret hlk hw hR dX1_set_57
  by_cases c3 : a1 = (1 : Int32)
  · refine lv_tableIn (tgt := 36) X.1 X.2.1 dX1_set_1 (by rw [c3]; decide) (by rw [c3]; decide) (by rw [c3]; rfl) (by decide) ?_
    refine lv_aload_n X.1 X.2.1 dX1_set_36 rfl (lv_at hl 0 rfl) ?_
    refine lv_iload_n X.1 X.2.1 dX1_set_37 rfl (lv_at hl 2 rfl) ?_
    refine g_put (S' := tt_up S r (13 + 7 * d) a2) X K (c_ap K) hw (by have := hr; have := hd; omega) (tt_eD (r := r) (d := d) hr hd) rfl iT1 tyX1_ok nmX1 1 (by decide) q126 rfl rfl rfl (Nat.le_of_ble_eq_true rfl) (tt_sD (r := r) (d := d) (k := 1) hr hd (by decide)) dX1_set_38 (fun S4 H locs eS4 hw => ?_)
    refine lv_goto (tgt := 57) X.1 X.2.1 dX1_set_41 (by decide) ?_
    have hR : S4 = tgt := by
      rw [← hF]
      subst eS4
      simp only [f1_set, if_neg c1, if_pos c3]
    exact g_vret X hret hlk hw hR dX1_set_57
  by_cases c5 : a1 = (2 : Int32)
  · refine lv_tableIn (tgt := 44) X.1 X.2.1 dX1_set_1 (by rw [c5]; decide) (by rw [c5]; decide) (by rw [c5]; rfl) (by decide) ?_
    refine lv_aload_n X.1 X.2.1 dX1_set_44 rfl (lv_at hl 0 rfl) ?_
    refine lv_iload_n X.1 X.2.1 dX1_set_45 rfl (lv_at hl 2 rfl) ?_
    refine g_put (S' := tt_up S r (14 + 7 * d) a2) X K (c_ap K) hw (by have := hr; have := hd; omega) (tt_eD (r := r) (d := d) hr hd) rfl iT1 tyX1_ok nmX1 2 (by decide) q128 rfl rfl rfl (Nat.le_of_ble_eq_true rfl) (tt_sD (r := r) (d := d) (k := 2) hr hd (by decide)) dX1_set_46 (fun S6 H locs eS6 hw => ?_)
    refine lv_goto (tgt := 57) X.1 X.2.1 dX1_set_49 (by decide) ?_
    have hR : S6 = tgt := by
      rw [← hF]
      subst eS6
      simp only [f1_set, if_neg c1, if_neg c3, if_pos c5]
    exact g_vret X hret hlk hw hR dX1_set_57
  refine lv_tableOut (tgt := 52) X.1 X.2.1 dX1_set_1 (by have := lv_neT (a := 0) c1 rfl; have := lv_neT (a := 1) c3 rfl; have := lv_neT (a := 2) c5 rfl; omega) (by decide) ?_
  refine lv_aload_n X.1 X.2.1 dX1_set_52 rfl (lv_at hl 0 rfl) ?_
  refine lv_iload_n X.1 X.2.1 dX1_set_53 rfl (lv_at hl 2 rfl) ?_
  refine g_put (S' := tt_up S r (15 + 7 * d) a2) X K (c_ap K) hw (by have := hr; have := hd; omega) (tt_eD (r := r) (d := d) hr hd) rfl iT1 tyX1_ok nmX1 3 (by decide) q132 rfl rfl rfl (Nat.le_of_ble_eq_true rfl) (tt_sD (r := r) (d := d) (k := 3) hr hd (by decide)) dX1_set_54 (fun S7 H locs eS7 hw => ?_)
  have hR : S7 = tgt := by
    rw [← hF]
    subst eS7
    simp only [f1_set, if_neg c1, if_neg c3, if_neg c5]
  exact g_vret X hret hlk hw hR dX1_set_57
set_option maxHeartbeats 4000000 in
set_option maxRecDepth 10000 in
theorem k_X2_takeRoom (l : Launch) (G : tt_G) (S : tt_St) (r : Nat) (r2 : Nat) (hr : r < 3) (hr2 : r2 < 3) (hp0 : (S r2 0).toInt ≤ 10) (hp1 : r ≠ r2) : c_MV l G yX2_takeRoom (g_code yX2_takeRoom cX2_takeRoom 3 none) 1 21 [.ref (G.2.2 (30 + r)), .ref (G.2.2 (30 + r2))] S (f2_takeRoom S r r2) := by
  generalize hF : f2_takeRoom S r r2 = tgt
  refine g_begin rfl (Nat.le_of_ble_eq_true rfl) _ (fun p e s m below meth c ls X hret hlk hB hl => ?_)
  obtain ⟨hP0, K⟩ := hB
  have hw : c_W G S s s.heap [] := ⟨hP0, va_S.rf⟩
  have X : CallFix p m c cX2_takeRoom 3 s ([.ref (G.2.2 (30 + r)), .ref (G.2.2 (30 + r2))] : List Value).toArray tt_T "TrustTin$Room" := X
  have hl : lv_has ls 3 [(0, .ref (G.2.2 (30 + r))), (1, .ref (G.2.2 (30 + r2)))] := hl
  refine lv_iconst (v := (0 : Int32)) X.1 X.2.1 dX2_takeRoom_0 (by decide) ?_
  refine lv_istore_n (lv' := [(2, .int (0 : Int32)), (0, .ref (G.2.2 (30 + r))), (1, .ref (G.2.2 (30 + r2)))]) X.1 X.2.1 dX2_takeRoom_1 rfl hl (by decide) rfl (fun ls hl => ?_)
  have j2 : ∀ (n : Nat) (S1 : tt_St) (y2_2 : Int32) (H : Heap) (locs : List Loc) (ls : Array Slot), ((¬ y2_2 < 0) ∧ (S1 r2 0).toInt ≤ 10) → lp_mu (S1 r2 0) y2_2 < n → f2_takeRoom_L2 r r2 n S1 y2_2 = tgt → c_W G S1 s H locs → lv_has ls 3 [(0, .ref (G.2.2 (30 + r))), (1, .ref (G.2.2 (30 + r2))), (2, .int y2_2)] → W p l e (g_rm 1 21) s m ([.ref (G.2.2 (30 + r)), .ref (G.2.2 (30 + r2))] : List Value).toArray below meth c H locs 0 0 (MQ below (va_Qv (fun T => T = tgt) (g_Post G 62 G.2.2 (tt_cell G)) (g_in 62 G.2.2)) ([.ref (G.2.2 (30 + r)), .ref (G.2.2 (30 + r2))] : List Value).toArray s 0 0 (g_in 62 G.2.2)) (F0 m 2 ls []) := by
    intro n
    induction n with
    | zero => intro S1 y2_2 H locs ls hI hm; exact absurd hm (Nat.not_lt_zero _)
    | succ n ih =>
      intro S1 y2_2 H locs ls hI hm hF hw hl
      refine lv_iload_n X.1 X.2.1 dX2_takeRoom_2 rfl (lv_at hl 2 rfl) ?_
      refine lv_aload_n X.1 X.2.1 dX2_takeRoom_3 rfl (lv_at hl 1 rfl) ?_
      refine g_get (v := .int (S1 r2 0)) X K hw (by omega) (tt_eR (r := r2) hr2) rfl iT2 1 (by decide) q161 rfl dX2_takeRoom_4 ?_
      refine lv_icmp_ge (tgt := 31) X.1 X.2.1 dX2_takeRoom_7 (by decide) (fun c2 => ?_) (fun c2 => ?_)
      · refine lv_aload_n X.1 X.2.1 dX2_takeRoom_31 rfl (lv_at hl 0 rfl) ?_
        refine lv_aload_n X.1 X.2.1 dX2_takeRoom_32 rfl (lv_at hl 1 rfl) ?_
        refine g_get (v := .int (S1 r2 0)) X K hw (by omega) (tt_eR (r := r2) hr2) rfl iT2 1 (by decide) q161 rfl dX2_takeRoom_33 ?_
        refine lv_topi (fun x3 ex3 => ?_)
        refine g_put (S' := tt_up S1 r 0 x3) X K (c_ap K) hw (by omega) (tt_eR (r := r) hr) rfl iT2 tyX2_ok nmX2 1 (by decide) q161 rfl rfl rfl (Nat.le_of_ble_eq_true rfl) (tt_sR (r := r) (k := 0) hr (by decide)) dX2_takeRoom_36 (fun S4 H locs eS4 hw => ?_)
        refine lv_aload_n X.1 X.2.1 dX2_takeRoom_39 rfl (lv_at hl 0 rfl) ?_
        refine lv_aload_n X.1 X.2.1 dX2_takeRoom_40 rfl (lv_at hl 1 rfl) ?_
        refine g_get (v := .int (S4 r2 1)) X K hw (by omega) (tt_eR (r := r2) hr2) rfl iT2 2 (by decide) q164 rfl dX2_takeRoom_41 ?_
        refine lv_topi (fun x5 ex5 => ?_)
        refine g_put (S' := tt_up S4 r 1 x5) X K (c_ap K) hw (by omega) (tt_eR (r := r) hr) rfl iT2 tyX2_ok nmX2 2 (by decide) q164 rfl rfl rfl (Nat.le_of_ble_eq_true rfl) (tt_sR (r := r) (k := 1) hr (by decide)) dX2_takeRoom_44 (fun S6 H locs eS6 hw => ?_)
        refine lv_aload_n X.1 X.2.1 dX2_takeRoom_47 rfl (lv_at hl 0 rfl) ?_
        refine lv_aload_n X.1 X.2.1 dX2_takeRoom_48 rfl (lv_at hl 1 rfl) ?_
        refine g_get (v := .int (S6 r2 2)) X K hw (by omega) (tt_eR (r := r2) hr2) rfl iT2 3 (by decide) q167 rfl dX2_takeRoom_49 ?_
        refine lv_topi (fun x7 ex7 => ?_)
        refine g_put (S' := tt_up S6 r 2 x7) X K (c_ap K) hw (by omega) (tt_eR (r := r) hr) rfl iT2 tyX2_ok nmX2 3 (by decide) q167 rfl rfl rfl (Nat.le_of_ble_eq_true rfl) (tt_sR (r := r) (k := 2) hr (by decide)) dX2_takeRoom_52 (fun S8 H locs eS8 hw => ?_)
        refine lv_aload_n X.1 X.2.1 dX2_takeRoom_55 rfl (lv_at hl 0 rfl) ?_
        refine lv_aload_n X.1 X.2.1 dX2_takeRoom_56 rfl (lv_at hl 1 rfl) ?_
        refine g_get (v := .int (S8 r2 3)) X K hw (by omega) (tt_eR (r := r2) hr2) rfl iT2 4 (by decide) q169 rfl dX2_takeRoom_57 ?_
        refine lv_topi (fun x9 ex9 => ?_)
        refine g_put (S' := tt_up S8 r 3 x9) X K (c_ap K) hw (by omega) (tt_eR (r := r) hr) rfl iT2 tyX2_ok nmX2 4 (by decide) q169 rfl rfl rfl (Nat.le_of_ble_eq_true rfl) (tt_sR (r := r) (k := 3) hr (by decide)) dX2_takeRoom_60 (fun S10 H locs eS10 hw => ?_)
        refine lv_aload_n X.1 X.2.1 dX2_takeRoom_63 rfl (lv_at hl 0 rfl) ?_
        refine lv_aload_n X.1 X.2.1 dX2_takeRoom_64 rfl (lv_at hl 1 rfl) ?_
        refine g_get (v := .int (S10 r2 4)) X K hw (by omega) (tt_eR (r := r2) hr2) rfl iT2 5 (by decide) q171 rfl dX2_takeRoom_65 ?_
        refine lv_topi (fun x11 ex11 => ?_)
        refine g_put (S' := tt_up S10 r 4 x11) X K (c_ap K) hw (by omega) (tt_eR (r := r) hr) rfl iT2 tyX2_ok nmX2 5 (by decide) q171 rfl rfl rfl (Nat.le_of_ble_eq_true rfl) (tt_sR (r := r) (k := 4) hr (by decide)) dX2_takeRoom_68 (fun S12 H locs eS12 hw => ?_)
        refine lv_aload_n X.1 X.2.1 dX2_takeRoom_71 rfl (lv_at hl 0 rfl) ?_
        refine lv_aload_n X.1 X.2.1 dX2_takeRoom_72 rfl (lv_at hl 1 rfl) ?_
        refine g_get (v := .int (S12 r2 5)) X K hw (by omega) (tt_eR (r := r2) hr2) rfl iT2 6 (by decide) q173 rfl dX2_takeRoom_73 ?_
        refine lv_topi (fun x13 ex13 => ?_)
        refine g_put (S' := tt_up S12 r 5 x13) X K (c_ap K) hw (by omega) (tt_eR (r := r) hr) rfl iT2 tyX2_ok nmX2 6 (by decide) q173 rfl rfl rfl (Nat.le_of_ble_eq_true rfl) (tt_sR (r := r) (k := 5) hr (by decide)) dX2_takeRoom_76 (fun S14 H locs eS14 hw => ?_)
        refine lv_aload_n X.1 X.2.1 dX2_takeRoom_79 rfl (lv_at hl 0 rfl) ?_
        refine lv_aload_n X.1 X.2.1 dX2_takeRoom_80 rfl (lv_at hl 1 rfl) ?_
        refine g_get (v := .int (S14 r2 6)) X K hw (by omega) (tt_eR (r := r2) hr2) rfl iT2 7 (by decide) q176 rfl dX2_takeRoom_81 ?_
        refine lv_topi (fun x15 ex15 => ?_)
        refine g_put (S' := tt_up S14 r 6 x15) X K (c_ap K) hw (by omega) (tt_eR (r := r) hr) rfl iT2 tyX2_ok nmX2 7 (by decide) q176 rfl rfl rfl (Nat.le_of_ble_eq_true rfl) (tt_sR (r := r) (k := 6) hr (by decide)) dX2_takeRoom_84 (fun S16 H locs eS16 hw => ?_)
        refine lv_aload_n X.1 X.2.1 dX2_takeRoom_87 rfl (lv_at hl 0 rfl) ?_
        refine lv_aload_n X.1 X.2.1 dX2_takeRoom_88 rfl (lv_at hl 1 rfl) ?_
        refine g_get (v := .int (S16 r2 7)) X K hw (by omega) (tt_eR (r := r2) hr2) rfl iT2 8 (by decide) q178 rfl dX2_takeRoom_89 ?_
        refine lv_topi (fun x17 ex17 => ?_)
        refine g_put (S' := tt_up S16 r 7 x17) X K (c_ap K) hw (by omega) (tt_eR (r := r) hr) rfl iT2 tyX2_ok nmX2 8 (by decide) q178 rfl rfl rfl (Nat.le_of_ble_eq_true rfl) (tt_sR (r := r) (k := 7) hr (by decide)) dX2_takeRoom_92 (fun S18 H locs eS18 hw => ?_)
        refine lv_aload_n X.1 X.2.1 dX2_takeRoom_95 rfl (lv_at hl 0 rfl) ?_
        refine lv_aload_n X.1 X.2.1 dX2_takeRoom_96 rfl (lv_at hl 1 rfl) ?_
        refine g_get (v := .int (S18 r2 8)) X K hw (by omega) (tt_eR (r := r2) hr2) rfl iT2 9 (by decide) q180 rfl dX2_takeRoom_97 ?_
        refine lv_topi (fun x19 ex19 => ?_)
        refine g_put (S' := tt_up S18 r 8 x19) X K (c_ap K) hw (by omega) (tt_eR (r := r) hr) rfl iT2 tyX2_ok nmX2 9 (by decide) q180 rfl rfl rfl (Nat.le_of_ble_eq_true rfl) (tt_sR (r := r) (k := 8) hr (by decide)) dX2_takeRoom_100 (fun S20 H locs eS20 hw => ?_)
        refine lv_aload_n X.1 X.2.1 dX2_takeRoom_103 rfl (lv_at hl 0 rfl) ?_
        refine lv_aload_n X.1 X.2.1 dX2_takeRoom_104 rfl (lv_at hl 1 rfl) ?_
        refine g_get (v := .int (S20 r2 9)) X K hw (by omega) (tt_eR (r := r2) hr2) rfl iT2 10 (by decide) q182 rfl dX2_takeRoom_105 ?_
        refine lv_topi (fun x21 ex21 => ?_)
        refine g_put (S' := tt_up S20 r 9 x21) X K (c_ap K) hw (by omega) (tt_eR (r := r) hr) rfl iT2 tyX2_ok nmX2 10 (by decide) q182 rfl rfl rfl (Nat.le_of_ble_eq_true rfl) (tt_sR (r := r) (k := 9) hr (by decide)) dX2_takeRoom_108 (fun S22 H locs eS22 hw => ?_)
        refine lv_aload_n X.1 X.2.1 dX2_takeRoom_111 rfl (lv_at hl 0 rfl) ?_
        refine lv_aload_n X.1 X.2.1 dX2_takeRoom_112 rfl (lv_at hl 1 rfl) ?_
        refine g_get (v := .int (S22 r2 10)) X K hw (by omega) (tt_eR (r := r2) hr2) rfl iT2 11 (by decide) q184 rfl dX2_takeRoom_113 ?_
        refine lv_topi (fun x23 ex23 => ?_)
        refine g_put (S' := tt_up S22 r 10 x23) X K (c_ap K) hw (by omega) (tt_eR (r := r) hr) rfl iT2 tyX2_ok nmX2 11 (by decide) q184 rfl rfl rfl (Nat.le_of_ble_eq_true rfl) (tt_sR (r := r) (k := 10) hr (by decide)) dX2_takeRoom_116 (fun S24 H locs eS24 hw => ?_)
        have hR : S24 = tgt := by
          rw [← hF]
          subst ex3 eS4 ex5 eS6 ex7 eS8 ex9 eS10 ex11 eS12 ex13 eS14 ex15 eS16 ex17 eS18 ex19 eS20 ex21 eS22 ex23 eS24
          simp only [f2_takeRoom_L2, if_pos c2]
        exact g_vret X hret hlk hw hR dX2_takeRoom_119
      · refine lv_aload_n X.1 X.2.1 dX2_takeRoom_10 rfl (lv_at hl 0 rfl) ?_
        refine g_get (v := .ref (G.2.2 (33 + r))) X K hw (by omega) (tt_eR (r := r) hr) rfl iT2 0 (by decide) q159 rfl dX2_takeRoom_11 ?_
        refine lv_iload_n X.1 X.2.1 dX2_takeRoom_14 rfl (lv_at hl 2 rfl) ?_
        have hi25 : vp_in y2_2 10 := lp_in hI.1 c2 hI.2
        have hd26 : y2_2.toNatClampNeg < 10 := lp_cl hi25
        refine g_aald X K hw (by omega) (tt_eA (r := r) hr) 1 rfl hi25 rfl dX2_takeRoom_15 ?_
        refine lv_aload_n X.1 X.2.1 dX2_takeRoom_16 rfl (lv_at hl 1 rfl) ?_
        refine g_get (v := .ref (G.2.2 (33 + r2))) X K hw (by omega) (tt_eR (r := r2) hr2) rfl iT2 0 (by decide) q159 rfl dX2_takeRoom_17 ?_
        refine lv_iload_n X.1 X.2.1 dX2_takeRoom_20 rfl (lv_at hl 2 rfl) ?_
        have hi27 : vp_in y2_2 10 := lp_in hI.1 c2 hI.2
        refine g_aald X K hw (by omega) (tt_eA (r := r2) hr2) 1 rfl hi27 rfl dX2_takeRoom_21 ?_
        refine c_callVV_s X K hw (k_X1_take l G S1 r y2_2.toNatClampNeg r2 y2_2.toNatClampNeg hr hd26 hr2 hd26) (g_cwV X hiX1_take q514 q515 q516 q70 q517 ⟨(Nat.le_of_ble_eq_true rfl), (Nat.le_of_ble_eq_true rfl)⟩) (by have := hr; have := hd26; omega) (tt_eD (r := r) (d := y2_2.toNatClampNeg) hr hd26) rfl rfl hl.1 rfl (Nat.le_of_ble_eq_true rfl) dX2_takeRoom_22 ⟨(Nat.le_of_ble_eq_true rfl), (Nat.le_of_ble_eq_true rfl)⟩ (fun S28 H locs eS28 hw => ?_)
        obtain ⟨x29, ex29⟩ : ∃ y : Int32, y = y2_2 + (1 : Int32) := ⟨_, rfl⟩
        refine lv_iinc (v := x29) (lv' := [(2, .int x29), (0, .ref (G.2.2 (30 + r))), (1, .ref (G.2.2 (30 + r2)))]) X.1 X.2.1 dX2_takeRoom_25 hl (k := 2) rfl (by rw [ex29]; rfl) (by decide) rfl (fun ls hl => ?_)
        refine lv_goto (tgt := 2) X.1 X.2.1 dX2_takeRoom_28 (by decide) ?_
        have hF2 : f2_takeRoom_L2 r r2 n S28 x29 = tgt := by
          rw [← hF]
          subst eS28 ex29
          simp only [f2_takeRoom_L2, if_neg c2]
        exact ih S28 x29 _ _ ls (⟨by rw [ex29]; exact lp_nn hI.1 c2, by rw [show S28 r2 0 = S1 r2 0 from by subst eS28 ex29; exact congrFun (tk1_row (Ne.symm hp1)) 0]; exact hI.2⟩) (by rw [ex29, show S28 r2 0 = S1 r2 0 from by subst eS28 ex29; exact congrFun (tk1_row (Ne.symm hp1)) 0]; exact lp_dec' c2 hm) hF2 hw (lv_sub hl [1, 2, 0] rfl)
  have hF2 : f2_takeRoom_L2 r r2 (lp_mu (S r2 0) 0 + 1) S (0 : Int32) = tgt := by
    rw [← hF]
    simp only [f2_takeRoom]
  exact j2 (lp_mu (S r2 0) 0 + 1) S (0 : Int32) _ _ ls (⟨by decide, hp0⟩) (Nat.lt_succ_self _) hF2 hw (lv_sub hl [1, 2, 0] rfl)
set_option maxHeartbeats 4000000 in
set_option maxRecDepth 10000 in
theorem k_X2_takeAll (l : Launch) (G : tt_G) (S : tt_St) (r : Nat) (r2 : Nat) (hr : r < 3) (hr2 : r2 < 3) (hp0 : (S r2 0).toInt ≤ 10) (hp1 : r ≠ r2) : c_MV l G yX2_takeAll (g_code yX2_takeAll cX2_takeAll 2 none) 2 81 [.ref (G.2.2 (30 + r)), .ref (G.2.2 (30 + r2))] S (f2_takeAll S r r2) := by
  generalize hF : f2_takeAll S r r2 = tgt
  refine g_begin rfl (Nat.le_of_ble_eq_true rfl) _ (fun p e s m below meth c ls X hret hlk hB hl => ?_)
  obtain ⟨hP0, K⟩ := hB
  have hw : c_W G S s s.heap [] := ⟨hP0, va_S.rf⟩
  have X : CallFix p m c cX2_takeAll 2 s ([.ref (G.2.2 (30 + r)), .ref (G.2.2 (30 + r2))] : List Value).toArray tt_T "TrustTin$Room" := X
  have hl : lv_has ls 2 [(0, .ref (G.2.2 (30 + r))), (1, .ref (G.2.2 (30 + r2)))] := hl
  refine lv_aload_n X.1 X.2.1 dX2_takeAll_0 rfl (lv_at hl 0 rfl) ?_
  refine lv_aload_n X.1 X.2.1 dX2_takeAll_1 rfl (lv_at hl 1 rfl) ?_
  refine c_callVV_s X K hw (k_X2_takeRoom l G S r r2 hr hr2 hp0 hp1) (g_cwV X hiX2_takeRoom q804 q511 q512 q68 q513 ⟨(Nat.le_of_ble_eq_true rfl), (Nat.le_of_ble_eq_true rfl)⟩) (by omega) (tt_eR (r := r) hr) rfl rfl hl.1 rfl (Nat.le_of_ble_eq_true rfl) dX2_takeAll_2 ⟨(Nat.le_of_ble_eq_true rfl), (Nat.le_of_ble_eq_true rfl)⟩ (fun S1 H locs eS1 hw => ?_)
  refine lv_aload_n X.1 X.2.1 dX2_takeAll_5 rfl (lv_at hl 0 rfl) ?_
  refine g_get (v := .ref (G.2.2 (36 + r))) X K hw (by omega) (tt_eR (r := r) hr) rfl iT2 12 (by decide) q186 rfl dX2_takeAll_6 ?_
  refine lv_aload_n X.1 X.2.1 dX2_takeAll_9 rfl (lv_at hl 1 rfl) ?_
  refine g_get (v := .ref (G.2.2 (36 + r2))) X K hw (by omega) (tt_eR (r := r2) hr2) rfl iT2 12 (by decide) q186 rfl dX2_takeAll_10 ?_
  refine c_callVV_s X K hw (k_X0_take l G S1 r r2 hr hr2) (g_cwV X hiX0_take q805 q806 q807 q69 q808 ⟨(Nat.le_of_ble_eq_true rfl), (Nat.le_of_ble_eq_true rfl)⟩) (by omega) (tt_eB (r := r) hr) rfl rfl hl.1 rfl (Nat.le_of_ble_eq_true rfl) dX2_takeAll_13 ⟨(Nat.le_of_ble_eq_true rfl), (Nat.le_of_ble_eq_true rfl)⟩ (fun S2 H locs eS2 hw => ?_)
  refine lv_aload_n X.1 X.2.1 dX2_takeAll_16 rfl (lv_at hl 1 rfl) ?_
  refine g_get (v := .ref (G.2.2 (45 + r2))) X K hw (by omega) (tt_eR (r := r2) hr2) rfl iT2 13 (by decide) q188 rfl dX2_takeAll_17 ?_
  refine lv_iconst (v := (0 : Int32)) X.1 X.2.1 dX2_takeAll_20 (by decide) ?_
  refine lv_aload_n X.1 X.2.1 dX2_takeAll_21 rfl (lv_at hl 0 rfl) ?_
  refine g_get (v := .ref (G.2.2 (45 + r))) X K hw (by omega) (tt_eR (r := r) hr) rfl iT2 13 (by decide) q188 rfl dX2_takeAll_22 ?_
  refine lv_iconst (v := (0 : Int32)) X.1 X.2.1 dX2_takeAll_25 (by decide) ?_
  refine lv_bipush (v := (10 : Int32)) X.1 X.2.1 dX2_takeAll_26 (by decide) ?_
  refine g_copyi (S' := tt_upR S2 (12 + r) (va_cpy (S2 (12 + r2)) (S2 (12 + r)) 0 0 10)) X K (c_ap K) hw hl.1 q809 q449 q448 q76 (by omega) (by omega) (tt_eSp (r := r2) hr2) (tt_eSp (r := r) hr) (by decide) (by decide) (by decide) (by decide) (by decide) (tt_sSp (r := r) hr) (Nat.le_of_ble_eq_true rfl) (by decide) dX2_takeAll_28 (fun S3 H locs eS3 hw => ?_)
  have hR : S3 = tgt := by
    rw [← hF]
    subst eS1 eS2 eS3
    simp only [f2_takeAll]
  exact g_vret X hret hlk hw hR dX2_takeAll_31
set_option maxHeartbeats 4000000 in
set_option maxRecDepth 10000 in
theorem k_X2_addDrinker (l : Launch) (G : tt_G) (S : tt_St) (r : Nat) (a1 : Int32) (a2 : Int32) (hr : r < 3) (hp0 : ¬ S r 0 < 0) : c_MR l G yX2_addDrinker (g_code yX2_addDrinker cX2_addDrinker 4 (some (FieldType.object "TrustTin$Drinker"))) 1 30 [.ref (G.2.2 (30 + r)), .int a1, .int a2] S (G.2.2 (10 * r + (f2_addDrinker S r a1 a2).1)) ((f2_addDrinker S r a1 a2).2) := by
  generalize hF : f2_addDrinker S r a1 a2 = tgt
  refine g_begin rfl (Nat.le_of_ble_eq_true rfl) _ (fun p e s m below meth c ls X hret hlk hB hl => ?_)
  obtain ⟨hP0, K⟩ := hB
  have hw : c_W G S s s.heap [] := ⟨hP0, va_S.rf⟩
  have X : CallFix p m c cX2_addDrinker 4 s ([.ref (G.2.2 (30 + r)), .int a1, .int a2] : List Value).toArray tt_T "TrustTin$Room" := X
  have hl : lv_has ls 4 [(0, .ref (G.2.2 (30 + r))), (1, .int a1), (2, .int a2)] := hl
  refine lv_aload_n X.1 X.2.1 dX2_addDrinker_0 rfl (lv_at hl 0 rfl) ?_
  refine g_get (v := .ref (G.2.2 (33 + r))) X K hw (by omega) (tt_eR (r := r) hr) rfl iT2 0 (by decide) q159 rfl dX2_addDrinker_1 ?_
  refine lv_aload_n X.1 X.2.1 dX2_addDrinker_4 rfl (lv_at hl 0 rfl) ?_
  refine g_get (v := .int (S r 0)) X K hw (by omega) (tt_eR (r := r) hr) rfl iT2 1 (by decide) q161 rfl dX2_addDrinker_5 ?_
  refine lv_bipush (v := (9 : Int32)) X.1 X.2.1 dX2_addDrinker_8 (by decide) ?_
  refine va_mmin X.1 X.2.1 (X.2.2.1.trans hl.1.symm) X.2.2.2.1 (X.2.2.2.2 _ q321) (X.2.2.2.2 _ q322) (X.2.2.2.2 _ q75) (X.2.2.2.2 _ q323) (Nat.le_of_ble_eq_true rfl) (Nat.le_of_ble_eq_true rfl) (Nat.le_of_ble_eq_true rfl) (Nat.le_of_ble_eq_true rfl) dX2_addDrinker_10 ?_
  refine lv_topi (fun x1 ex1 => ?_)
  have hi2 : vp_in x1 10 := by rw [ex1]; exact ad_in hp0
  have hd3 : x1.toNatClampNeg < 10 := lp_cl hi2
  refine g_aald X K hw (by omega) (tt_eA (r := r) hr) 1 rfl hi2 rfl dX2_addDrinker_13 ?_
  refine lv_astore_n (lv' := [(3, .ref (G.2.2 (10 * r + x1.toNatClampNeg))), (0, .ref (G.2.2 (30 + r))), (1, .int a1), (2, .int a2)]) X.1 X.2.1 dX2_addDrinker_14 rfl hl (by decide) rfl (fun ls hl => ?_)
  refine lv_aload_n X.1 X.2.1 dX2_addDrinker_15 rfl (lv_at hl 0 rfl) ?_
  refine lv_iload_n X.1 X.2.1 dX2_addDrinker_16 rfl (lv_at hl 2 rfl) ?_
  refine lv_iload_n X.1 X.2.1 dX2_addDrinker_17 rfl (lv_at hl 3 rfl) ?_
  refine c_callVV_s X K hw (k_X1_begin l G S r x1.toNatClampNeg a1 a2 hr hd3) (g_cwV X hiX1_begin q324 q325 q326 q70 q327 ⟨(Nat.le_of_ble_eq_true rfl), (Nat.le_of_ble_eq_true rfl)⟩) (by have := hr; have := hd3; omega) (tt_eD (r := r) (d := x1.toNatClampNeg) hr hd3) rfl rfl hl.1 rfl (Nat.le_of_ble_eq_true rfl) dX2_addDrinker_18 ⟨(Nat.le_of_ble_eq_true rfl), (Nat.le_of_ble_eq_true rfl)⟩ (fun S4 H locs eS4 hw => ?_)
  refine lv_aload_n X.1 X.2.1 dX2_addDrinker_21 rfl (lv_at hl 1 rfl) ?_
  refine lv_aload_n X.1 X.2.1 dX2_addDrinker_22 rfl (lv_at hl 1 rfl) ?_
  refine g_get (v := .int (S4 r 0)) X K hw (by omega) (tt_eR (r := r) hr) rfl iT2 1 (by decide) q161 rfl dX2_addDrinker_23 ?_
  refine lv_iconst (v := (1 : Int32)) X.1 X.2.1 dX2_addDrinker_26 (by decide) ?_
  refine lv_iadd X.1 X.2.1 dX2_addDrinker_27 ?_
  refine lv_bipush (v := (10 : Int32)) X.1 X.2.1 dX2_addDrinker_28 (by decide) ?_
  refine va_mmin X.1 X.2.1 (X.2.2.1.trans hl.1.symm) X.2.2.2.1 (X.2.2.2.2 _ q321) (X.2.2.2.2 _ q322) (X.2.2.2.2 _ q75) (X.2.2.2.2 _ q323) (Nat.le_of_ble_eq_true rfl) (Nat.le_of_ble_eq_true rfl) (Nat.le_of_ble_eq_true rfl) (Nat.le_of_ble_eq_true rfl) dX2_addDrinker_30 ?_
  refine lv_topi (fun x5 ex5 => ?_)
  refine g_put (S' := tt_up S4 r 0 x5) X K (c_ap K) hw (by omega) (tt_eR (r := r) hr) rfl iT2 tyX2_ok nmX2 1 (by decide) q161 rfl rfl rfl (Nat.le_of_ble_eq_true rfl) (tt_sR (r := r) (k := 0) hr (by decide)) dX2_addDrinker_33 (fun S6 H locs eS6 hw => ?_)
  refine lv_aload_n X.1 X.2.1 dX2_addDrinker_36 rfl (lv_at hl 0 rfl) ?_
  have hR : (x1.toNatClampNeg, S6) = tgt := by
    rw [← hF]
    subst ex1 eS4 ex5 eS6
    simp only [f2_addDrinker]
  have hRR : x1.toNatClampNeg = tgt.1 := pr1 hR
  have hRS : S6 = tgt.2 := pr2 hR
  exact g_aret X hret hlk hw (congrArg (fun z => G.2.2 (10 * r + z)) hRR) hRS dX2_addDrinker_37
set_option maxHeartbeats 4000000 in
set_option maxRecDepth 10000 in
theorem k_X2_setPot (l : Launch) (G : tt_G) (S : tt_St) (r : Nat) (a1 : Int32) (hr : r < 3) : c_MV l G yX2_setPot (g_code yX2_setPot cX2_setPot 2 none) 0 0 [.ref (G.2.2 (30 + r)), .int a1] S (f2_setPot S r a1) := by
  generalize hF : f2_setPot S r a1 = tgt
  refine g_begin rfl (Nat.le_of_ble_eq_true rfl) _ (fun p e s m below meth c ls X hret hlk hB hl => ?_)
  obtain ⟨hP0, K⟩ := hB
  have hw : c_W G S s s.heap [] := ⟨hP0, va_S.rf⟩
  have X : CallFix p m c cX2_setPot 2 s ([.ref (G.2.2 (30 + r)), .int a1] : List Value).toArray tt_T "TrustTin$Room" := X
  have hl : lv_has ls 2 [(0, .ref (G.2.2 (30 + r))), (1, .int a1)] := hl
  refine lv_aload_n X.1 X.2.1 dX2_setPot_0 rfl (lv_at hl 0 rfl) ?_
  refine lv_iload_n X.1 X.2.1 dX2_setPot_1 rfl (lv_at hl 1 rfl) ?_
  refine g_put (S' := tt_up S r 2 a1) X K (c_ap K) hw (by omega) (tt_eR (r := r) hr) rfl iT2 tyX2_ok nmX2 3 (by decide) q167 rfl rfl rfl (Nat.le_of_ble_eq_true rfl) (tt_sR (r := r) (k := 2) hr (by decide)) dX2_setPot_2 (fun S1 H locs eS1 hw => ?_)
  refine lv_aload_n X.1 X.2.1 dX2_setPot_5 rfl (lv_at hl 0 rfl) ?_
  refine lv_iload_n X.1 X.2.1 dX2_setPot_6 rfl (lv_at hl 1 rfl) ?_
  refine g_put (S' := tt_up S1 r 3 a1) X K (c_ap K) hw (by omega) (tt_eR (r := r) hr) rfl iT2 tyX2_ok nmX2 4 (by decide) q169 rfl rfl rfl (Nat.le_of_ble_eq_true rfl) (tt_sR (r := r) (k := 3) hr (by decide)) dX2_setPot_7 (fun S2 H locs eS2 hw => ?_)
  have hR : S2 = tgt := by
    rw [← hF]
    subst eS1 eS2
    simp only [f2_setPot]
  exact g_vret X hret hlk hw hR dX2_setPot_10
set_option maxHeartbeats 4000000 in
set_option maxRecDepth 10000 in
theorem k_X2_beginWeek (l : Launch) (G : tt_G) (S : tt_St) (r : Nat) (hr : r < 3) (hp0 : (S r 0).toInt ≤ 10) : c_MV l G yX2_beginWeek (g_code yX2_beginWeek cX2_beginWeek 2 none) 0 0 [.ref (G.2.2 (30 + r))] S (f2_beginWeek S r) := by
  generalize hF : f2_beginWeek S r = tgt
  refine g_begin rfl (Nat.le_of_ble_eq_true rfl) _ (fun p e s m below meth c ls X hret hlk hB hl => ?_)
  obtain ⟨hP0, K⟩ := hB
  have hw : c_W G S s s.heap [] := ⟨hP0, va_S.rf⟩
  have X : CallFix p m c cX2_beginWeek 2 s ([.ref (G.2.2 (30 + r))] : List Value).toArray tt_T "TrustTin$Room" := X
  have hl : lv_has ls 2 [(0, .ref (G.2.2 (30 + r)))] := hl
  refine lv_iconst (v := (0 : Int32)) X.1 X.2.1 dX2_beginWeek_0 (by decide) ?_
  refine lv_istore_n (lv' := [(1, .int (0 : Int32)), (0, .ref (G.2.2 (30 + r)))]) X.1 X.2.1 dX2_beginWeek_1 rfl hl (by decide) rfl (fun ls hl => ?_)
  have j2 : ∀ (n : Nat) (S1 : tt_St) (y1_2 : Int32) (H : Heap) (locs : List Loc) (ls : Array Slot), ((¬ y1_2 < 0) ∧ (S1 r 0).toInt ≤ 10) → lp_mu (S1 r 0) y1_2 < n → f2_beginWeek_L2 r n S1 y1_2 = tgt → c_W G S1 s H locs → lv_has ls 2 [(0, .ref (G.2.2 (30 + r))), (1, .int y1_2)] → W p l e (g_rm 0 0) s m ([.ref (G.2.2 (30 + r))] : List Value).toArray below meth c H locs 0 0 (MQ below (va_Qv (fun T => T = tgt) (g_Post G 62 G.2.2 (tt_cell G)) (g_in 62 G.2.2)) ([.ref (G.2.2 (30 + r))] : List Value).toArray s 0 0 (g_in 62 G.2.2)) (F0 m 2 ls []) := by
    intro n
    induction n with
    | zero => intro S1 y1_2 H locs ls hI hm; exact absurd hm (Nat.not_lt_zero _)
    | succ n ih =>
      intro S1 y1_2 H locs ls hI hm hF hw hl
      refine lv_iload_n X.1 X.2.1 dX2_beginWeek_2 rfl (lv_at hl 1 rfl) ?_
      refine lv_aload_n X.1 X.2.1 dX2_beginWeek_3 rfl (lv_at hl 0 rfl) ?_
      refine g_get (v := .int (S1 r 0)) X K hw (by omega) (tt_eR (r := r) hr) rfl iT2 1 (by decide) q161 rfl dX2_beginWeek_4 ?_
      refine lv_icmp_ge (tgt := 36) X.1 X.2.1 dX2_beginWeek_7 (by decide) (fun c2 => ?_) (fun c2 => ?_)
      · have hR : S1 = tgt := by
          rw [← hF]
          simp only [f2_beginWeek_L2, if_pos c2]
        exact g_vret X hret hlk hw hR dX2_beginWeek_36
      · refine lv_aload_n X.1 X.2.1 dX2_beginWeek_10 rfl (lv_at hl 0 rfl) ?_
        refine g_get (v := .ref (G.2.2 (33 + r))) X K hw (by omega) (tt_eR (r := r) hr) rfl iT2 0 (by decide) q159 rfl dX2_beginWeek_11 ?_
        refine lv_iload_n X.1 X.2.1 dX2_beginWeek_14 rfl (lv_at hl 1 rfl) ?_
        have hi3 : vp_in y1_2 10 := lp_in hI.1 c2 hI.2
        have hd4 : y1_2.toNatClampNeg < 10 := lp_cl hi3
        refine g_aald X K hw (by omega) (tt_eA (r := r) hr) 1 rfl hi3 rfl dX2_beginWeek_15 ?_
        refine lv_iconst (v := (0 : Int32)) X.1 X.2.1 dX2_beginWeek_16 (by decide) ?_
        refine g_put (S' := tt_up S1 r (17 + 7 * y1_2.toNatClampNeg) (0 : Int32)) X K (c_ap K) hw (by have := hr; have := hd4; omega) (tt_eD (r := r) (d := y1_2.toNatClampNeg) hr hd4) rfl iT1 tyX1_ok nmX1 5 (by decide) q139 rfl rfl rfl (Nat.le_of_ble_eq_true rfl) (tt_sD (r := r) (d := y1_2.toNatClampNeg) (k := 5) hr hd4 (by decide)) dX2_beginWeek_17 (fun S5 H locs eS5 hw => ?_)
        refine lv_aload_n X.1 X.2.1 dX2_beginWeek_20 rfl (lv_at hl 0 rfl) ?_
        refine g_get (v := .ref (G.2.2 (33 + r))) X K hw (by omega) (tt_eR (r := r) hr) rfl iT2 0 (by decide) q159 rfl dX2_beginWeek_21 ?_
        refine lv_iload_n X.1 X.2.1 dX2_beginWeek_24 rfl (lv_at hl 1 rfl) ?_
        have hi6 : vp_in y1_2 10 := lp_in hI.1 c2 hI.2
        refine g_aald X K hw (by omega) (tt_eA (r := r) hr) 1 rfl hi6 rfl dX2_beginWeek_25 ?_
        refine lv_iconst (v := (0 : Int32)) X.1 X.2.1 dX2_beginWeek_26 (by decide) ?_
        refine g_put (S' := tt_up S5 r (18 + 7 * y1_2.toNatClampNeg) (0 : Int32)) X K (c_ap K) hw (by have := hr; have := hd4; omega) (tt_eD (r := r) (d := y1_2.toNatClampNeg) hr hd4) rfl iT1 tyX1_ok nmX1 6 (by decide) q142 rfl rfl rfl (Nat.le_of_ble_eq_true rfl) (tt_sD (r := r) (d := y1_2.toNatClampNeg) (k := 6) hr hd4 (by decide)) dX2_beginWeek_27 (fun S7 H locs eS7 hw => ?_)
        obtain ⟨x8, ex8⟩ : ∃ y : Int32, y = y1_2 + (1 : Int32) := ⟨_, rfl⟩
        refine lv_iinc (v := x8) (lv' := [(1, .int x8), (0, .ref (G.2.2 (30 + r)))]) X.1 X.2.1 dX2_beginWeek_30 hl (k := 1) rfl (by rw [ex8]; rfl) (by decide) rfl (fun ls hl => ?_)
        refine lv_goto (tgt := 2) X.1 X.2.1 dX2_beginWeek_33 (by decide) ?_
        have hF2 : f2_beginWeek_L2 r n S7 x8 = tgt := by
          rw [← hF]
          subst eS5 eS7 ex8
          simp only [f2_beginWeek_L2, if_neg c2]
        exact ih S7 x8 _ _ ls (⟨by rw [ex8]; exact lp_nn hI.1 c2, by rw [show S7 r 0 = S1 r 0 from by subst eS5 eS7 ex8; exact (fr_tr (fr_up _ _ (al_d (by omega))) (fr_up _ _ (al_d (by omega)))).sz]; exact hI.2⟩) (by rw [ex8, show S7 r 0 = S1 r 0 from by subst eS5 eS7 ex8; exact (fr_tr (fr_up _ _ (al_d (by omega))) (fr_up _ _ (al_d (by omega)))).sz]; exact lp_dec' c2 hm) hF2 hw (lv_sub hl [1, 0] rfl)
  have hF2 : f2_beginWeek_L2 r (lp_mu (S r 0) 0 + 1) S (0 : Int32) = tgt := by
    rw [← hF]
    simp only [f2_beginWeek]
  exact j2 (lp_mu (S r 0) 0 + 1) S (0 : Int32) _ _ ls (⟨by decide, hp0⟩) (Nat.lt_succ_self _) hF2 hw (lv_sub hl [1, 0] rfl)
set_option maxHeartbeats 4000000 in
set_option maxRecDepth 10000 in
theorem k_X2_beginMonday (l : Launch) (G : tt_G) (S : tt_St) (r : Nat) (hr : r < 3) (hp0 : (S r 0).toInt ≤ 10) : c_MV l G yX2_beginMonday (g_code yX2_beginMonday cX2_beginMonday 1 none) 1 21 [.ref (G.2.2 (30 + r))] S (f2_beginMonday S r) := by
  generalize hF : f2_beginMonday S r = tgt
  refine g_begin rfl (Nat.le_of_ble_eq_true rfl) _ (fun p e s m below meth c ls X hret hlk hB hl => ?_)
  obtain ⟨hP0, K⟩ := hB
  have hw : c_W G S s s.heap [] := ⟨hP0, va_S.rf⟩
  have X : CallFix p m c cX2_beginMonday 1 s ([.ref (G.2.2 (30 + r))] : List Value).toArray tt_T "TrustTin$Room" := X
  have hl : lv_has ls 1 [(0, .ref (G.2.2 (30 + r)))] := hl
  refine lv_aload_n X.1 X.2.1 dX2_beginMonday_0 rfl (lv_at hl 0 rfl) ?_
  refine lv_iconst (v := (0 : Int32)) X.1 X.2.1 dX2_beginMonday_1 (by decide) ?_
  refine g_put (S' := tt_up S r 7 (0 : Int32)) X K (c_ap K) hw (by omega) (tt_eR (r := r) hr) rfl iT2 tyX2_ok nmX2 8 (by decide) q178 rfl rfl rfl (Nat.le_of_ble_eq_true rfl) (tt_sR (r := r) (k := 7) hr (by decide)) dX2_beginMonday_2 (fun S1 H locs eS1 hw => ?_)
  refine lv_aload_n X.1 X.2.1 dX2_beginMonday_5 rfl (lv_at hl 0 rfl) ?_
  refine c_callVV_s X K hw (k_X2_beginWeek l G S1 r hr (by rw [show S1 r 0 = S r 0 from by subst eS1; exact (fr_up _ _ (al_c (by omega))).sz]; exact hp0)) (g_cwV X hiX2_beginWeek q452 q454 q13 q68 q455 ⟨(Nat.le_of_ble_eq_true rfl), (Nat.le_of_ble_eq_true rfl)⟩) (by omega) (tt_eR (r := r) hr) rfl rfl hl.1 rfl (Nat.le_of_ble_eq_true rfl) dX2_beginMonday_6 ⟨(Nat.le_of_ble_eq_true rfl), (Nat.le_of_ble_eq_true rfl)⟩ (fun S2 H locs eS2 hw => ?_)
  have hR : S2 = tgt := by
    rw [← hF]
    subst eS1 eS2
    simp only [f2_beginMonday]
  exact g_vret X hret hlk hw hR dX2_beginMonday_9
set_option maxHeartbeats 4000000 in
set_option maxRecDepth 10000 in
theorem k_X2_draw (l : Launch) (G : tt_G) (S : tt_St) (r : Nat) (hr : r < 3) : c_MI l G yX2_draw (g_code yX2_draw cX2_draw 1 (some FieldType.int)) 0 0 [.ref (G.2.2 (30 + r))] S ((f2_draw S r).1) ((f2_draw S r).2) := by
  generalize hF : f2_draw S r = tgt
  refine g_begin rfl (Nat.le_of_ble_eq_true rfl) _ (fun p e s m below meth c ls X hret hlk hB hl => ?_)
  obtain ⟨hP0, K⟩ := hB
  have hw : c_W G S s s.heap [] := ⟨hP0, va_S.rf⟩
  have X : CallFix p m c cX2_draw 1 s ([.ref (G.2.2 (30 + r))] : List Value).toArray tt_T "TrustTin$Room" := X
  have hl : lv_has ls 1 [(0, .ref (G.2.2 (30 + r)))] := hl
  refine lv_aload_n X.1 X.2.1 dX2_draw_0 rfl (lv_at hl 0 rfl) ?_
  refine lv_aload_n X.1 X.2.1 dX2_draw_1 rfl (lv_at hl 0 rfl) ?_
  refine g_get (v := .int (S r 10)) X K hw (by omega) (tt_eR (r := r) hr) rfl iT2 11 (by decide) q184 rfl dX2_draw_2 ?_
  refine lv_ldc (v := (1103515245 : Int32)) X.1 X.2.1 X.2.2.2.1 (X.2.2.2.2 _ q426) dX2_draw_5 ?_
  refine lv_imul X.1 X.2.1 dX2_draw_7 ?_
  refine lv_sipush (v := (12345 : Int32)) X.1 X.2.1 dX2_draw_8 (by decide) ?_
  refine lv_iadd X.1 X.2.1 dX2_draw_11 ?_
  refine lv_topi (fun x1 ex1 => ?_)
  refine g_put (S' := tt_up S r 10 x1) X K (c_ap K) hw (by omega) (tt_eR (r := r) hr) rfl iT2 tyX2_ok nmX2 11 (by decide) q184 rfl rfl rfl (Nat.le_of_ble_eq_true rfl) (tt_sR (r := r) (k := 10) hr (by decide)) dX2_draw_12 (fun S2 H locs eS2 hw => ?_)
  refine lv_aload_n X.1 X.2.1 dX2_draw_15 rfl (lv_at hl 0 rfl) ?_
  refine g_get (v := .int (S2 r 10)) X K hw (by omega) (tt_eR (r := r) hr) rfl iT2 11 (by decide) q184 rfl dX2_draw_16 ?_
  refine lv_bipush (v := (8 : Int32)) X.1 X.2.1 dX2_draw_19 (by decide) ?_
  refine lv_iushr X.1 X.2.1 dX2_draw_21 rfl ?_
  have hR : (((S2 r 10).toUInt32 >>> ((8 : Int32).toUInt32 &&& Int32.toUInt32 31)).toInt32, S2) = tgt := by
    rw [← hF]
    subst ex1 eS2
    simp only [f2_draw]
  have hRR : ((S2 r 10).toUInt32 >>> ((8 : Int32).toUInt32 &&& Int32.toUInt32 31)).toInt32 = tgt.1 := pr1 hR
  have hRS : S2 = tgt.2 := pr2 hR
  exact g_iret X hret hlk hw hRR hRS dX2_draw_22
set_option maxHeartbeats 4000000 in
set_option maxRecDepth 10000 in
theorem k_X2_sumOf (l : Launch) (G : tt_G) (S : tt_St) (r : Nat) (a1 : Int32) (hr : r < 3) (hp0 : (S r 0).toInt ≤ 10) : c_MI l G yX2_sumOf (g_code yX2_sumOf cX2_sumOf 4 (some FieldType.int)) 1 21 [.ref (G.2.2 (30 + r)), .int a1] S (f2_sumOf S r a1) S := by
  generalize hF : f2_sumOf S r a1 = tgt
  refine g_begin rfl (Nat.le_of_ble_eq_true rfl) _ (fun p e s m below meth c ls X hret hlk hB hl => ?_)
  obtain ⟨hP0, K⟩ := hB
  have hw : c_W G S s s.heap [] := ⟨hP0, va_S.rf⟩
  have X : CallFix p m c cX2_sumOf 4 s ([.ref (G.2.2 (30 + r)), .int a1] : List Value).toArray tt_T "TrustTin$Room" := X
  have hl : lv_has ls 4 [(0, .ref (G.2.2 (30 + r))), (1, .int a1)] := hl
  refine lv_iconst (v := (0 : Int32)) X.1 X.2.1 dX2_sumOf_0 (by decide) ?_
  refine lv_istore_n (lv' := [(2, .int (0 : Int32)), (0, .ref (G.2.2 (30 + r))), (1, .int a1)]) X.1 X.2.1 dX2_sumOf_1 rfl hl (by decide) rfl (fun ls hl => ?_)
  refine lv_iconst (v := (0 : Int32)) X.1 X.2.1 dX2_sumOf_2 (by decide) ?_
  refine lv_istore_n (lv' := [(3, .int (0 : Int32)), (2, .int (0 : Int32)), (0, .ref (G.2.2 (30 + r))), (1, .int a1)]) X.1 X.2.1 dX2_sumOf_3 rfl hl (by decide) rfl (fun ls hl => ?_)
  have j4 : ∀ (n : Nat) (y2_4 : Int32) (y3_4 : Int32) (H : Heap) (locs : List Loc) (ls : Array Slot), (¬ y3_4 < 0) → lp_mu (S r 0) y3_4 < n → f2_sumOf_L4 S r a1 n y2_4 y3_4 = tgt → c_W G S s H locs → lv_has ls 4 [(0, .ref (G.2.2 (30 + r))), (1, .int a1), (2, .int y2_4), (3, .int y3_4)] → W p l e (g_rm 1 21) s m ([.ref (G.2.2 (30 + r)), .int a1] : List Value).toArray below meth c H locs 0 0 (MQ below (va_Qi (fun r T => r = tgt ∧ T = S) (g_Post G 62 G.2.2 (tt_cell G)) (g_in 62 G.2.2)) ([.ref (G.2.2 (30 + r)), .int a1] : List Value).toArray s 0 0 (g_in 62 G.2.2)) (F0 m 4 ls []) := by
    intro n
    induction n with
    | zero => intro y2_4 y3_4 H locs ls hI hm; exact absurd hm (Nat.not_lt_zero _)
    | succ n ih =>
      intro y2_4 y3_4 H locs ls hI hm hF hw hl
      refine lv_iload_n X.1 X.2.1 dX2_sumOf_4 rfl (lv_at hl 3 rfl) ?_
      refine lv_aload_n X.1 X.2.1 dX2_sumOf_5 rfl (lv_at hl 0 rfl) ?_
      refine g_get (v := .int (S r 0)) X K hw (by omega) (tt_eR (r := r) hr) rfl iT2 1 (by decide) q161 rfl dX2_sumOf_6 ?_
      refine lv_icmp_ge (tgt := 31) X.1 X.2.1 dX2_sumOf_9 (by decide) (fun c1 => ?_) (fun c1 => ?_)
      · refine lv_iload_n X.1 X.2.1 dX2_sumOf_31 rfl (lv_at hl 2 rfl) ?_
        have hR : y2_4 = tgt := by
          rw [← hF]
          simp only [f2_sumOf_L4, if_pos c1]
        exact g_iret X hret hlk hw hR rfl dX2_sumOf_32
      · refine lv_iload_n X.1 X.2.1 dX2_sumOf_12 rfl (lv_at hl 2 rfl) ?_
        refine lv_aload_n X.1 X.2.1 dX2_sumOf_13 rfl (lv_at hl 0 rfl) ?_
        refine g_get (v := .ref (G.2.2 (33 + r))) X K hw (by omega) (tt_eR (r := r) hr) rfl iT2 0 (by decide) q159 rfl dX2_sumOf_14 ?_
        refine lv_iload_n X.1 X.2.1 dX2_sumOf_17 rfl (lv_at hl 3 rfl) ?_
        have hi2 : vp_in y3_4 10 := lp_in hI c1 hp0
        have hd3 : y3_4.toNatClampNeg < 10 := lp_cl hi2
        refine g_aald X K hw (by omega) (tt_eA (r := r) hr) 1 rfl hi2 rfl dX2_sumOf_18 ?_
        refine lv_iload_n X.1 X.2.1 dX2_sumOf_19 rfl (lv_at hl 1 rfl) ?_
        refine c_callVI_p X K hw (k_X1_get l G S r y3_4.toNatClampNeg a1 hr hd3) (g_cwV X hiX1_get q396 q337 q338 q70 q339 ⟨(Nat.le_of_ble_eq_true rfl), (Nat.le_of_ble_eq_true rfl)⟩) (by have := hr; have := hd3; omega) (tt_eD (r := r) (d := y3_4.toNatClampNeg) hr hd3) rfl rfl hl.1 rfl (Nat.le_of_ble_eq_true rfl) dX2_sumOf_20 ⟨(Nat.le_of_ble_eq_true rfl), (Nat.le_of_ble_eq_true rfl)⟩ (fun z4 H locs ez4 hw => ?_)
        refine lv_iadd X.1 X.2.1 dX2_sumOf_23 ?_
        refine lv_topi (fun x5 ex5 => ?_)
        refine lv_istore_n (lv' := [(2, .int x5), (0, .ref (G.2.2 (30 + r))), (1, .int a1), (3, .int y3_4)]) X.1 X.2.1 dX2_sumOf_24 rfl hl (by decide) rfl (fun ls hl => ?_)
        obtain ⟨x6, ex6⟩ : ∃ y : Int32, y = y3_4 + (1 : Int32) := ⟨_, rfl⟩
        refine lv_iinc (v := x6) (lv' := [(3, .int x6), (2, .int x5), (0, .ref (G.2.2 (30 + r))), (1, .int a1)]) X.1 X.2.1 dX2_sumOf_25 hl (k := 3) rfl (by rw [ex6]; rfl) (by decide) rfl (fun ls hl => ?_)
        refine lv_goto (tgt := 4) X.1 X.2.1 dX2_sumOf_28 (by decide) ?_
        have hF2 : f2_sumOf_L4 S r a1 n x5 x6 = tgt := by
          rw [← hF]
          subst ez4 ex5 ex6
          simp only [f2_sumOf_L4, if_neg c1]
        exact ih x5 x6 _ _ ls (by rw [ex6]; exact lp_nn hI c1) (by rw [ex6]; exact lp_dec' c1 hm) hF2 hw (lv_sub hl [2, 3, 1, 0] rfl)
  have hF2 : f2_sumOf_L4 S r a1 (lp_mu (S r 0) 0 + 1) (0 : Int32) (0 : Int32) = tgt := by
    rw [← hF]
    simp only [f2_sumOf]
  exact j4 (lp_mu (S r 0) 0 + 1) (0 : Int32) (0 : Int32) _ _ ls (by decide) (Nat.lt_succ_self _) hF2 hw (lv_sub hl [2, 3, 1, 0] rfl)
set_option maxHeartbeats 4000000 in
set_option maxRecDepth 10000 in
theorem k_X2_due (l : Launch) (G : tt_G) (S : tt_St) (r : Nat) (hr : r < 3) (hp0 : (S r 0).toInt ≤ 10) : c_MI l G yX2_due (g_code yX2_due cX2_due 1 (some FieldType.int)) 2 44 [.ref (G.2.2 (30 + r))] S (f2_due S r) S := by
  generalize hF : f2_due S r = tgt
  refine g_begin rfl (Nat.le_of_ble_eq_true rfl) _ (fun p e s m below meth c ls X hret hlk hB hl => ?_)
  obtain ⟨hP0, K⟩ := hB
  have hw : c_W G S s s.heap [] := ⟨hP0, va_S.rf⟩
  have X : CallFix p m c cX2_due 1 s ([.ref (G.2.2 (30 + r))] : List Value).toArray tt_T "TrustTin$Room" := X
  have hl : lv_has ls 1 [(0, .ref (G.2.2 (30 + r)))] := hl
  refine lv_aload_n X.1 X.2.1 dX2_due_0 rfl (lv_at hl 0 rfl) ?_
  refine g_get (v := .int (S r 1)) X K hw (by omega) (tt_eR (r := r) hr) rfl iT2 2 (by decide) q164 rfl dX2_due_1 ?_
  refine lv_aload_n X.1 X.2.1 dX2_due_4 rfl (lv_at hl 0 rfl) ?_
  refine lv_iconst (v := (5 : Int32)) X.1 X.2.1 dX2_due_5 (by decide) ?_
  refine c_callVI_p X K hw (k_X2_sumOf l G S r (5 : Int32) hr hp0) (g_cwV X hiX2_sumOf q392 q393 q394 q68 q395 ⟨(Nat.le_of_ble_eq_true rfl), (Nat.le_of_ble_eq_true rfl)⟩) (by omega) (tt_eR (r := r) hr) rfl rfl hl.1 rfl (Nat.le_of_ble_eq_true rfl) dX2_due_6 ⟨(Nat.le_of_ble_eq_true rfl), (Nat.le_of_ble_eq_true rfl)⟩ (fun z1 H locs ez1 hw => ?_)
  refine lv_imul X.1 X.2.1 dX2_due_9 ?_
  have hR : (S r 1) * z1 = tgt := by
    rw [← hF]
    subst ez1
    simp only [f2_due]
  exact g_iret X hret hlk hw hR rfl dX2_due_10
set_option maxHeartbeats 4000000 in
set_option maxRecDepth 10000 in
theorem k_X2_dueOf (l : Launch) (G : tt_G) (S : tt_St) (r : Nat) (a1 : Int32) (hr : r < 3) (hp0 : (S r 0).toInt ≤ 10) : c_MI l G yX2_dueOf (g_code yX2_dueOf cX2_dueOf 4 (some FieldType.int)) 0 0 [.ref (G.2.2 (30 + r)), .int a1] S (f2_dueOf S r a1) S := by
  generalize hF : f2_dueOf S r a1 = tgt
  refine g_begin rfl (Nat.le_of_ble_eq_true rfl) _ (fun p e s m below meth c ls X hret hlk hB hl => ?_)
  obtain ⟨hP0, K⟩ := hB
  have hw : c_W G S s s.heap [] := ⟨hP0, va_S.rf⟩
  have X : CallFix p m c cX2_dueOf 4 s ([.ref (G.2.2 (30 + r)), .int a1] : List Value).toArray tt_T "TrustTin$Room" := X
  have hl : lv_has ls 4 [(0, .ref (G.2.2 (30 + r))), (1, .int a1)] := hl
  refine lv_iconst (v := (0 : Int32)) X.1 X.2.1 dX2_dueOf_0 (by decide) ?_
  refine lv_istore_n (lv' := [(2, .int (0 : Int32)), (0, .ref (G.2.2 (30 + r))), (1, .int a1)]) X.1 X.2.1 dX2_dueOf_1 rfl hl (by decide) rfl (fun ls hl => ?_)
  refine lv_iconst (v := (0 : Int32)) X.1 X.2.1 dX2_dueOf_2 (by decide) ?_
  refine lv_istore_n (lv' := [(3, .int (0 : Int32)), (2, .int (0 : Int32)), (0, .ref (G.2.2 (30 + r))), (1, .int a1)]) X.1 X.2.1 dX2_dueOf_3 rfl hl (by decide) rfl (fun ls hl => ?_)
  have j4 : ∀ (n : Nat) (y2_4 : Int32) (y3_4 : Int32) (H : Heap) (locs : List Loc) (ls : Array Slot), (¬ y3_4 < 0) → lp_mu (S r 0) y3_4 < n → f2_dueOf_L4 S r a1 n y2_4 y3_4 = tgt → c_W G S s H locs → lv_has ls 4 [(0, .ref (G.2.2 (30 + r))), (1, .int a1), (2, .int y2_4), (3, .int y3_4)] → W p l e (g_rm 0 0) s m ([.ref (G.2.2 (30 + r)), .int a1] : List Value).toArray below meth c H locs 0 0 (MQ below (va_Qi (fun r T => r = tgt ∧ T = S) (g_Post G 62 G.2.2 (tt_cell G)) (g_in 62 G.2.2)) ([.ref (G.2.2 (30 + r)), .int a1] : List Value).toArray s 0 0 (g_in 62 G.2.2)) (F0 m 4 ls []) := by
    intro n
    induction n with
    | zero => intro y2_4 y3_4 H locs ls hI hm; exact absurd hm (Nat.not_lt_zero _)
    | succ n ih =>
      intro y2_4 y3_4 H locs ls hI hm hF hw hl
      refine lv_iload_n X.1 X.2.1 dX2_dueOf_4 rfl (lv_at hl 3 rfl) ?_
      refine lv_aload_n X.1 X.2.1 dX2_dueOf_5 rfl (lv_at hl 0 rfl) ?_
      refine g_get (v := .int (S r 0)) X K hw (by omega) (tt_eR (r := r) hr) rfl iT2 1 (by decide) q161 rfl dX2_dueOf_6 ?_
      refine lv_icmp_ge (tgt := 39) X.1 X.2.1 dX2_dueOf_9 (by decide) (fun c1 => ?_) (fun c1 => ?_)
      · refine lv_aload_n X.1 X.2.1 dX2_dueOf_39 rfl (lv_at hl 0 rfl) ?_
        refine g_get (v := .int (S r 1)) X K hw (by omega) (tt_eR (r := r) hr) rfl iT2 2 (by decide) q164 rfl dX2_dueOf_40 ?_
        refine lv_iload_n X.1 X.2.1 dX2_dueOf_43 rfl (lv_at hl 2 rfl) ?_
        refine lv_imul X.1 X.2.1 dX2_dueOf_44 ?_
        have hR : (S r 1) * y2_4 = tgt := by
          rw [← hF]
          simp only [f2_dueOf_L4, if_pos c1]
        exact g_iret X hret hlk hw hR rfl dX2_dueOf_45
      · refine lv_iload_n X.1 X.2.1 dX2_dueOf_12 rfl (lv_at hl 1 rfl) ?_
        refine lv_iload_n X.1 X.2.1 dX2_dueOf_13 rfl (lv_at hl 3 rfl) ?_
        refine lv_ishr X.1 X.2.1 dX2_dueOf_14 ?_
        refine lv_iconst (v := (1 : Int32)) X.1 X.2.1 dX2_dueOf_15 (by decide) ?_
        refine lv_iand X.1 X.2.1 dX2_dueOf_16 ?_
        refine lv_iconst (v := (1 : Int32)) X.1 X.2.1 dX2_dueOf_17 (by decide) ?_
        refine lv_icmp_ne (tgt := 33) X.1 X.2.1 dX2_dueOf_18 (by decide) (fun c2 => ?_) (fun c2 => ?_)
        · obtain ⟨x3, ex3⟩ : ∃ y : Int32, y = y3_4 + (1 : Int32) := ⟨_, rfl⟩
          refine lv_iinc (v := x3) (lv' := [(3, .int x3), (0, .ref (G.2.2 (30 + r))), (1, .int a1), (2, .int y2_4)]) X.1 X.2.1 dX2_dueOf_33 hl (k := 3) rfl (by rw [ex3]; rfl) (by decide) rfl (fun ls hl => ?_)
          refine lv_goto (tgt := 4) X.1 X.2.1 dX2_dueOf_36 (by decide) ?_
          have hF2 : f2_dueOf_L4 S r a1 n y2_4 x3 = tgt := by
            rw [← hF]
            subst ex3
            simp only [f2_dueOf_L4, if_neg c1, if_neg c2]
          exact ih y2_4 x3 _ _ ls (by rw [ex3]; exact lp_nn hI c1) (by rw [ex3]; exact lp_dec' c1 hm) hF2 hw (lv_sub hl [1, 2, 3, 0] rfl)
        · refine lv_iload_n X.1 X.2.1 dX2_dueOf_21 rfl (lv_at hl 2 rfl) ?_
          refine lv_aload_n X.1 X.2.1 dX2_dueOf_22 rfl (lv_at hl 0 rfl) ?_
          refine g_get (v := .ref (G.2.2 (33 + r))) X K hw (by omega) (tt_eR (r := r) hr) rfl iT2 0 (by decide) q159 rfl dX2_dueOf_23 ?_
          refine lv_iload_n X.1 X.2.1 dX2_dueOf_26 rfl (lv_at hl 3 rfl) ?_
          have hi4 : vp_in y3_4 10 := lp_in hI c1 hp0
          have hd5 : y3_4.toNatClampNeg < 10 := lp_cl hi4
          refine g_aald X K hw (by omega) (tt_eA (r := r) hr) 1 rfl hi4 rfl dX2_dueOf_27 ?_
          refine g_get (v := .int (S r (17 + 7 * y3_4.toNatClampNeg))) X K hw (by have := hr; have := hd5; omega) (tt_eD (r := r) (d := y3_4.toNatClampNeg) hr hd5) rfl iT1 5 (by decide) q139 rfl dX2_dueOf_28 ?_
          refine lv_iadd X.1 X.2.1 dX2_dueOf_31 ?_
          refine lv_topi (fun x6 ex6 => ?_)
          refine lv_istore_n (lv' := [(2, .int x6), (0, .ref (G.2.2 (30 + r))), (1, .int a1), (3, .int y3_4)]) X.1 X.2.1 dX2_dueOf_32 rfl hl (by decide) rfl (fun ls hl => ?_)
          obtain ⟨x7, ex7⟩ : ∃ y : Int32, y = y3_4 + (1 : Int32) := ⟨_, rfl⟩
          refine lv_iinc (v := x7) (lv' := [(3, .int x7), (2, .int x6), (0, .ref (G.2.2 (30 + r))), (1, .int a1)]) X.1 X.2.1 dX2_dueOf_33 hl (k := 3) rfl (by rw [ex7]; rfl) (by decide) rfl (fun ls hl => ?_)
          refine lv_goto (tgt := 4) X.1 X.2.1 dX2_dueOf_36 (by decide) ?_
          have hF2 : f2_dueOf_L4 S r a1 n x6 x7 = tgt := by
            rw [← hF]
            subst ex6 ex7
            simp only [f2_dueOf_L4, if_neg c1, if_pos c2]
          exact ih x6 x7 _ _ ls (by rw [ex7]; exact lp_nn hI c1) (by rw [ex7]; exact lp_dec' c1 hm) hF2 hw (lv_sub hl [2, 3, 1, 0] rfl)
  have hF2 : f2_dueOf_L4 S r a1 (lp_mu (S r 0) 0 + 1) (0 : Int32) (0 : Int32) = tgt := by
    rw [← hF]
    simp only [f2_dueOf]
  exact j4 (lp_mu (S r 0) 0 + 1) (0 : Int32) (0 : Int32) _ _ ls (by decide) (Nat.lt_succ_self _) hF2 hw (lv_sub hl [2, 3, 1, 0] rfl)
set_option maxHeartbeats 4000000 in
set_option maxRecDepth 10000 in
theorem k_X2_owedBy (l : Launch) (G : tt_G) (S : tt_St) (r : Nat) (a1 : Int32) (hr : r < 3) (hp0 : vp_in a1 10) : c_MI l G yX2_owedBy (g_code yX2_owedBy cX2_owedBy 2 (some FieldType.int)) 0 0 [.ref (G.2.2 (30 + r)), .int a1] S (f2_owedBy S r a1) S := by
  generalize hF : f2_owedBy S r a1 = tgt
  refine g_begin rfl (Nat.le_of_ble_eq_true rfl) _ (fun p e s m below meth c ls X hret hlk hB hl => ?_)
  obtain ⟨hP0, K⟩ := hB
  have hw : c_W G S s s.heap [] := ⟨hP0, va_S.rf⟩
  have X : CallFix p m c cX2_owedBy 2 s ([.ref (G.2.2 (30 + r)), .int a1] : List Value).toArray tt_T "TrustTin$Room" := X
  have hl : lv_has ls 2 [(0, .ref (G.2.2 (30 + r))), (1, .int a1)] := hl
  refine lv_aload_n X.1 X.2.1 dX2_owedBy_0 rfl (lv_at hl 0 rfl) ?_
  refine g_get (v := .int (S r 1)) X K hw (by omega) (tt_eR (r := r) hr) rfl iT2 2 (by decide) q164 rfl dX2_owedBy_1 ?_
  refine lv_aload_n X.1 X.2.1 dX2_owedBy_4 rfl (lv_at hl 0 rfl) ?_
  refine g_get (v := .ref (G.2.2 (33 + r))) X K hw (by omega) (tt_eR (r := r) hr) rfl iT2 0 (by decide) q159 rfl dX2_owedBy_5 ?_
  refine lv_iload_n X.1 X.2.1 dX2_owedBy_8 rfl (lv_at hl 1 rfl) ?_
  have hi1 : vp_in a1 10 := hp0
  have hd2 : a1.toNatClampNeg < 10 := lp_cl hi1
  refine g_aald X K hw (by omega) (tt_eA (r := r) hr) 1 rfl hi1 rfl dX2_owedBy_9 ?_
  refine g_get (v := .int (S r (17 + 7 * a1.toNatClampNeg))) X K hw (by have := hr; have := hd2; omega) (tt_eD (r := r) (d := a1.toNatClampNeg) hr hd2) rfl iT1 5 (by decide) q139 rfl dX2_owedBy_10 ?_
  refine lv_imul X.1 X.2.1 dX2_owedBy_13 ?_
  refine lv_aload_n X.1 X.2.1 dX2_owedBy_14 rfl (lv_at hl 0 rfl) ?_
  refine g_get (v := .ref (G.2.2 (33 + r))) X K hw (by omega) (tt_eR (r := r) hr) rfl iT2 0 (by decide) q159 rfl dX2_owedBy_15 ?_
  refine lv_iload_n X.1 X.2.1 dX2_owedBy_18 rfl (lv_at hl 1 rfl) ?_
  have hi3 : vp_in a1 10 := hp0
  refine g_aald X K hw (by omega) (tt_eA (r := r) hr) 1 rfl hi3 rfl dX2_owedBy_19 ?_
  refine g_get (v := .int (S r (18 + 7 * a1.toNatClampNeg))) X K hw (by have := hr; have := hd2; omega) (tt_eD (r := r) (d := a1.toNatClampNeg) hr hd2) rfl iT1 6 (by decide) q142 rfl dX2_owedBy_20 ?_
  refine lv_isub X.1 X.2.1 dX2_owedBy_23 ?_
  have hR : ((S r 1) * (S r (17 + 7 * a1.toNatClampNeg))) - (S r (18 + 7 * a1.toNatClampNeg)) = tgt := by
    rw [← hF]
    simp only [f2_owedBy]
  exact g_iret X hret hlk hw hR rfl dX2_owedBy_24
set_option maxHeartbeats 4000000 in
set_option maxRecDepth 10000 in
theorem k_X2_drinkersWhoDrank (l : Launch) (G : tt_G) (S : tt_St) (r : Nat) (hr : r < 3) (hp0 : (S r 0).toInt ≤ 10) : c_MI l G yX2_drinkersWhoDrank (g_code yX2_drinkersWhoDrank cX2_drinkersWhoDrank 3 (some FieldType.int)) 0 0 [.ref (G.2.2 (30 + r))] S (f2_drinkersWhoDrank S r) S := by
  generalize hF : f2_drinkersWhoDrank S r = tgt
  refine g_begin rfl (Nat.le_of_ble_eq_true rfl) _ (fun p e s m below meth c ls X hret hlk hB hl => ?_)
  obtain ⟨hP0, K⟩ := hB
  have hw : c_W G S s s.heap [] := ⟨hP0, va_S.rf⟩
  have X : CallFix p m c cX2_drinkersWhoDrank 3 s ([.ref (G.2.2 (30 + r))] : List Value).toArray tt_T "TrustTin$Room" := X
  have hl : lv_has ls 3 [(0, .ref (G.2.2 (30 + r)))] := hl
  refine lv_iconst (v := (0 : Int32)) X.1 X.2.1 dX2_drinkersWhoDrank_0 (by decide) ?_
  refine lv_istore_n (lv' := [(1, .int (0 : Int32)), (0, .ref (G.2.2 (30 + r)))]) X.1 X.2.1 dX2_drinkersWhoDrank_1 rfl hl (by decide) rfl (fun ls hl => ?_)
  refine lv_iconst (v := (0 : Int32)) X.1 X.2.1 dX2_drinkersWhoDrank_2 (by decide) ?_
  refine lv_istore_n (lv' := [(2, .int (0 : Int32)), (1, .int (0 : Int32)), (0, .ref (G.2.2 (30 + r)))]) X.1 X.2.1 dX2_drinkersWhoDrank_3 rfl hl (by decide) rfl (fun ls hl => ?_)
  have j4 : ∀ (n : Nat) (y1_4 : Int32) (y2_4 : Int32) (H : Heap) (locs : List Loc) (ls : Array Slot), (¬ y2_4 < 0) → lp_mu (S r 0) y2_4 < n → f2_drinkersWhoDrank_L4 S r n y1_4 y2_4 = tgt → c_W G S s H locs → lv_has ls 3 [(0, .ref (G.2.2 (30 + r))), (1, .int y1_4), (2, .int y2_4)] → W p l e (g_rm 0 0) s m ([.ref (G.2.2 (30 + r))] : List Value).toArray below meth c H locs 0 0 (MQ below (va_Qi (fun r T => r = tgt ∧ T = S) (g_Post G 62 G.2.2 (tt_cell G)) (g_in 62 G.2.2)) ([.ref (G.2.2 (30 + r))] : List Value).toArray s 0 0 (g_in 62 G.2.2)) (F0 m 4 ls []) := by
    intro n
    induction n with
    | zero => intro y1_4 y2_4 H locs ls hI hm; exact absurd hm (Nat.not_lt_zero _)
    | succ n ih =>
      intro y1_4 y2_4 H locs ls hI hm hF hw hl
      refine lv_iload_n X.1 X.2.1 dX2_drinkersWhoDrank_4 rfl (lv_at hl 2 rfl) ?_
      refine lv_aload_n X.1 X.2.1 dX2_drinkersWhoDrank_5 rfl (lv_at hl 0 rfl) ?_
      refine g_get (v := .int (S r 0)) X K hw (by omega) (tt_eR (r := r) hr) rfl iT2 1 (by decide) q161 rfl dX2_drinkersWhoDrank_6 ?_
      refine lv_icmp_ge (tgt := 33) X.1 X.2.1 dX2_drinkersWhoDrank_9 (by decide) (fun c1 => ?_) (fun c1 => ?_)
      · refine lv_iload_n X.1 X.2.1 dX2_drinkersWhoDrank_33 rfl (lv_at hl 1 rfl) ?_
        have hR : y1_4 = tgt := by
          rw [← hF]
          simp only [f2_drinkersWhoDrank_L4, if_pos c1]
        exact g_iret X hret hlk hw hR rfl dX2_drinkersWhoDrank_34
      · refine lv_aload_n X.1 X.2.1 dX2_drinkersWhoDrank_12 rfl (lv_at hl 0 rfl) ?_
        refine g_get (v := .ref (G.2.2 (33 + r))) X K hw (by omega) (tt_eR (r := r) hr) rfl iT2 0 (by decide) q159 rfl dX2_drinkersWhoDrank_13 ?_
        refine lv_iload_n X.1 X.2.1 dX2_drinkersWhoDrank_16 rfl (lv_at hl 2 rfl) ?_
        have hi2 : vp_in y2_4 10 := lp_in hI c1 hp0
        have hd3 : y2_4.toNatClampNeg < 10 := lp_cl hi2
        refine g_aald X K hw (by omega) (tt_eA (r := r) hr) 1 rfl hi2 rfl dX2_drinkersWhoDrank_17 ?_
        refine g_get (v := .int (S r (17 + 7 * y2_4.toNatClampNeg))) X K hw (by have := hr; have := hd3; omega) (tt_eD (r := r) (d := y2_4.toNatClampNeg) hr hd3) rfl iT1 5 (by decide) q139 rfl dX2_drinkersWhoDrank_18 ?_
        refine lv_if_le (tgt := 27) X.1 X.2.1 dX2_drinkersWhoDrank_21 (by decide) (fun c4 => ?_) (fun c4 => ?_)
        · obtain ⟨x5, ex5⟩ : ∃ y : Int32, y = y2_4 + (1 : Int32) := ⟨_, rfl⟩
          refine lv_iinc (v := x5) (lv' := [(2, .int x5), (0, .ref (G.2.2 (30 + r))), (1, .int y1_4)]) X.1 X.2.1 dX2_drinkersWhoDrank_27 hl (k := 2) rfl (by rw [ex5]; rfl) (by decide) rfl (fun ls hl => ?_)
          refine lv_goto (tgt := 4) X.1 X.2.1 dX2_drinkersWhoDrank_30 (by decide) ?_
          have hF2 : f2_drinkersWhoDrank_L4 S r n y1_4 x5 = tgt := by
            rw [← hF]
            subst ex5
            simp only [f2_drinkersWhoDrank_L4, if_neg c1, if_pos c4]
          exact ih y1_4 x5 _ _ ls (by rw [ex5]; exact lp_nn hI c1) (by rw [ex5]; exact lp_dec' c1 hm) hF2 hw (lv_sub hl [1, 2, 0] rfl)
        · obtain ⟨x6, ex6⟩ : ∃ y : Int32, y = y1_4 + (1 : Int32) := ⟨_, rfl⟩
          refine lv_iinc (v := x6) (lv' := [(1, .int x6), (0, .ref (G.2.2 (30 + r))), (2, .int y2_4)]) X.1 X.2.1 dX2_drinkersWhoDrank_24 hl (k := 1) rfl (by rw [ex6]; rfl) (by decide) rfl (fun ls hl => ?_)
          obtain ⟨x7, ex7⟩ : ∃ y : Int32, y = y2_4 + (1 : Int32) := ⟨_, rfl⟩
          refine lv_iinc (v := x7) (lv' := [(2, .int x7), (1, .int x6), (0, .ref (G.2.2 (30 + r)))]) X.1 X.2.1 dX2_drinkersWhoDrank_27 hl (k := 2) rfl (by rw [ex7]; rfl) (by decide) rfl (fun ls hl => ?_)
          refine lv_goto (tgt := 4) X.1 X.2.1 dX2_drinkersWhoDrank_30 (by decide) ?_
          have hF2 : f2_drinkersWhoDrank_L4 S r n x6 x7 = tgt := by
            rw [← hF]
            subst ex6 ex7
            simp only [f2_drinkersWhoDrank_L4, if_neg c1, if_neg c4]
          exact ih x6 x7 _ _ ls (by rw [ex7]; exact lp_nn hI c1) (by rw [ex7]; exact lp_dec' c1 hm) hF2 hw (lv_sub hl [2, 1, 0] rfl)
  have hF2 : f2_drinkersWhoDrank_L4 S r (lp_mu (S r 0) 0 + 1) (0 : Int32) (0 : Int32) = tgt := by
    rw [← hF]
    simp only [f2_drinkersWhoDrank]
  exact j4 (lp_mu (S r 0) 0 + 1) (0 : Int32) (0 : Int32) _ _ ls (by decide) (Nat.lt_succ_self _) hF2 hw (lv_sub hl [2, 1, 0] rfl)
set_option maxHeartbeats 4000000 in
set_option maxRecDepth 10000 in
theorem k_X2_heldSpots (l : Launch) (G : tt_G) (S : tt_St) (r : Nat) (hr : r < 3) : c_MI l G yX2_heldSpots (g_code yX2_heldSpots cX2_heldSpots 3 (some FieldType.int)) 0 0 [.ref (G.2.2 (30 + r))] S (f2_heldSpots S r) S := by
  generalize hF : f2_heldSpots S r = tgt
  refine g_begin rfl (Nat.le_of_ble_eq_true rfl) _ (fun p e s m below meth c ls X hret hlk hB hl => ?_)
  obtain ⟨hP0, K⟩ := hB
  have hw : c_W G S s s.heap [] := ⟨hP0, va_S.rf⟩
  have X : CallFix p m c cX2_heldSpots 3 s ([.ref (G.2.2 (30 + r))] : List Value).toArray tt_T "TrustTin$Room" := X
  have hl : lv_has ls 3 [(0, .ref (G.2.2 (30 + r)))] := hl
  refine lv_iconst (v := (0 : Int32)) X.1 X.2.1 dX2_heldSpots_0 (by decide) ?_
  refine lv_istore_n (lv' := [(1, .int (0 : Int32)), (0, .ref (G.2.2 (30 + r)))]) X.1 X.2.1 dX2_heldSpots_1 rfl hl (by decide) rfl (fun ls hl => ?_)
  refine lv_iconst (v := (0 : Int32)) X.1 X.2.1 dX2_heldSpots_2 (by decide) ?_
  refine lv_istore_n (lv' := [(2, .int (0 : Int32)), (1, .int (0 : Int32)), (0, .ref (G.2.2 (30 + r)))]) X.1 X.2.1 dX2_heldSpots_3 rfl hl (by decide) rfl (fun ls hl => ?_)
  have j4 : ∀ (n : Nat) (y1_4 : Int32) (y2_4 : Int32) (H : Heap) (locs : List Loc) (ls : Array Slot), (¬ y2_4 < 0) → lp_mu (10 : Int32) y2_4 < n → f2_heldSpots_L4 S r n y1_4 y2_4 = tgt → c_W G S s H locs → lv_has ls 3 [(0, .ref (G.2.2 (30 + r))), (1, .int y1_4), (2, .int y2_4)] → W p l e (g_rm 0 0) s m ([.ref (G.2.2 (30 + r))] : List Value).toArray below meth c H locs 0 0 (MQ below (va_Qi (fun r T => r = tgt ∧ T = S) (g_Post G 62 G.2.2 (tt_cell G)) (g_in 62 G.2.2)) ([.ref (G.2.2 (30 + r))] : List Value).toArray s 0 0 (g_in 62 G.2.2)) (F0 m 4 ls []) := by
    intro n
    induction n with
    | zero => intro y1_4 y2_4 H locs ls hI hm; exact absurd hm (Nat.not_lt_zero _)
    | succ n ih =>
      intro y1_4 y2_4 H locs ls hI hm hF hw hl
      refine lv_iload_n X.1 X.2.1 dX2_heldSpots_4 rfl (lv_at hl 2 rfl) ?_
      refine lv_bipush (v := (10 : Int32)) X.1 X.2.1 dX2_heldSpots_5 (by decide) ?_
      refine lv_icmp_ge (tgt := 29) X.1 X.2.1 dX2_heldSpots_7 (by decide) (fun c1 => ?_) (fun c1 => ?_)
      · refine lv_iload_n X.1 X.2.1 dX2_heldSpots_29 rfl (lv_at hl 1 rfl) ?_
        have hR : y1_4 = tgt := by
          rw [← hF]
          simp only [f2_heldSpots_L4, if_pos c1]
        exact g_iret X hret hlk hw hR rfl dX2_heldSpots_30
      · refine lv_aload_n X.1 X.2.1 dX2_heldSpots_10 rfl (lv_at hl 0 rfl) ?_
        refine g_get (v := .ref (G.2.2 (45 + r))) X K hw (by omega) (tt_eR (r := r) hr) rfl iT2 13 (by decide) q188 rfl dX2_heldSpots_11 ?_
        refine lv_iload_n X.1 X.2.1 dX2_heldSpots_14 rfl (lv_at hl 2 rfl) ?_
        have hi2 : vp_in y2_4 10 := lp_in hI c1 (by decide)
        refine g_iald X K hw (by omega) (tt_eSp (r := r) hr) hi2 dX2_heldSpots_15 ?_
        refine lv_iconst (v := (-1 : Int32)) X.1 X.2.1 dX2_heldSpots_16 (by decide) ?_
        refine lv_icmp_eq (tgt := 23) X.1 X.2.1 dX2_heldSpots_17 (by decide) (fun c3 => ?_) (fun c3 => ?_)
        · obtain ⟨x4, ex4⟩ : ∃ y : Int32, y = y2_4 + (1 : Int32) := ⟨_, rfl⟩
          refine lv_iinc (v := x4) (lv' := [(2, .int x4), (0, .ref (G.2.2 (30 + r))), (1, .int y1_4)]) X.1 X.2.1 dX2_heldSpots_23 hl (k := 2) rfl (by rw [ex4]; rfl) (by decide) rfl (fun ls hl => ?_)
          refine lv_goto (tgt := 4) X.1 X.2.1 dX2_heldSpots_26 (by decide) ?_
          have hF2 : f2_heldSpots_L4 S r n y1_4 x4 = tgt := by
            rw [← hF]
            subst ex4
            simp only [f2_heldSpots_L4, if_neg c1, if_pos c3]
          exact ih y1_4 x4 _ _ ls (by rw [ex4]; exact lp_nn hI c1) (by rw [ex4]; exact lp_dec' c1 hm) hF2 hw (lv_sub hl [1, 2, 0] rfl)
        · obtain ⟨x5, ex5⟩ : ∃ y : Int32, y = y1_4 + (1 : Int32) := ⟨_, rfl⟩
          refine lv_iinc (v := x5) (lv' := [(1, .int x5), (0, .ref (G.2.2 (30 + r))), (2, .int y2_4)]) X.1 X.2.1 dX2_heldSpots_20 hl (k := 1) rfl (by rw [ex5]; rfl) (by decide) rfl (fun ls hl => ?_)
          obtain ⟨x6, ex6⟩ : ∃ y : Int32, y = y2_4 + (1 : Int32) := ⟨_, rfl⟩
          refine lv_iinc (v := x6) (lv' := [(2, .int x6), (1, .int x5), (0, .ref (G.2.2 (30 + r)))]) X.1 X.2.1 dX2_heldSpots_23 hl (k := 2) rfl (by rw [ex6]; rfl) (by decide) rfl (fun ls hl => ?_)
          refine lv_goto (tgt := 4) X.1 X.2.1 dX2_heldSpots_26 (by decide) ?_
          have hF2 : f2_heldSpots_L4 S r n x5 x6 = tgt := by
            rw [← hF]
            subst ex5 ex6
            simp only [f2_heldSpots_L4, if_neg c1, if_neg c3]
          exact ih x5 x6 _ _ ls (by rw [ex6]; exact lp_nn hI c1) (by rw [ex6]; exact lp_dec' c1 hm) hF2 hw (lv_sub hl [2, 1, 0] rfl)
  have hF2 : f2_heldSpots_L4 S r (lp_mu (10 : Int32) 0 + 1) (0 : Int32) (0 : Int32) = tgt := by
    rw [← hF]
    simp only [f2_heldSpots]
  exact j4 (lp_mu (10 : Int32) 0 + 1) (0 : Int32) (0 : Int32) _ _ ls (by decide) (Nat.lt_succ_self _) hF2 hw (lv_sub hl [2, 1, 0] rfl)
set_option maxHeartbeats 4000000 in
set_option maxRecDepth 10000 in
theorem k_X2_isPotMade (l : Launch) (G : tt_G) (S : tt_St) (r : Nat) (d : Nat) (hr : r < 3) (hd : d < 10) : c_MI l G yX2_isPotMade (g_code yX2_isPotMade cX2_isPotMade 2 (some FieldType.boolean)) 1 20 [.ref (G.2.2 (30 + r)), .ref (G.2.2 (10 * r + d))] S ((f2_isPotMade S r d).1) ((f2_isPotMade S r d).2) := by
  generalize hF : f2_isPotMade S r d = tgt
  refine g_begin rfl (Nat.le_of_ble_eq_true rfl) _ (fun p e s m below meth c ls X hret hlk hB hl => ?_)
  obtain ⟨hP0, K⟩ := hB
  have hw : c_W G S s s.heap [] := ⟨hP0, va_S.rf⟩
  have X : CallFix p m c cX2_isPotMade 2 s ([.ref (G.2.2 (30 + r)), .ref (G.2.2 (10 * r + d))] : List Value).toArray tt_T "TrustTin$Room" := X
  have hl : lv_has ls 2 [(0, .ref (G.2.2 (30 + r))), (1, .ref (G.2.2 (10 * r + d)))] := hl
  refine lv_aload_n X.1 X.2.1 dX2_isPotMade_0 rfl (lv_at hl 1 rfl) ?_
  refine g_get (v := .int (S r (12 + 7 * d))) X K hw (by have := hr; have := hd; omega) (tt_eD (r := r) (d := d) hr hd) rfl iT1 0 (by decide) q124 rfl dX2_isPotMade_1 ?_
  refine lv_bipush (v := (6 : Int32)) X.1 X.2.1 dX2_isPotMade_4 (by decide) ?_
  refine lv_icmp_eq (tgt := 22) X.1 X.2.1 dX2_isPotMade_6 (by decide) (fun c1 => ?_) (fun c1 => ?_)
  · refine lv_aload_n X.1 X.2.1 dX2_isPotMade_22 rfl (lv_at hl 0 rfl) ?_
    refine lv_aload_n X.1 X.2.1 dX2_isPotMade_23 rfl (lv_at hl 0 rfl) ?_
    refine g_get (v := .int (S r 2)) X K hw (by omega) (tt_eR (r := r) hr) rfl iT2 3 (by decide) q167 rfl dX2_isPotMade_24 ?_
    refine lv_topi (fun x2 ex2 => ?_)
    refine g_put (S' := tt_up S r 3 x2) X K (c_ap K) hw (by omega) (tt_eR (r := r) hr) rfl iT2 tyX2_ok nmX2 4 (by decide) q169 rfl rfl rfl (Nat.le_of_ble_eq_true rfl) (tt_sR (r := r) (k := 3) hr (by decide)) dX2_isPotMade_27 (fun S3 H locs eS3 hw => ?_)
    refine lv_iconst (v := (1 : Int32)) X.1 X.2.1 dX2_isPotMade_30 (by decide) ?_
    have hR : ((1 : Int32), S3) = tgt := by
      rw [← hF]
      subst ex2 eS3
      simp only [f2_isPotMade, if_pos c1]
    have hRR : (1 : Int32) = tgt.1 := pr1 hR
    have hRS : S3 = tgt.2 := pr2 hR
    exact g_zret X hret hlk hw rfl hRR hRS dX2_isPotMade_31
  · refine lv_aload_n X.1 X.2.1 dX2_isPotMade_9 rfl (lv_at hl 0 rfl) ?_
    refine c_callVI_s X K hw (k_X2_draw l G S r hr) (g_cwV X hiX2_draw q422 q423 q424 q68 q425 ⟨(Nat.le_of_ble_eq_true rfl), (Nat.le_of_ble_eq_true rfl)⟩) (by omega) (tt_eR (r := r) hr) rfl rfl hl.1 rfl (Nat.le_of_ble_eq_true rfl) dX2_isPotMade_10 ⟨(Nat.le_of_ble_eq_true rfl), (Nat.le_of_ble_eq_true rfl)⟩ (fun z4 S5 H locs ez4 eS5 hw => ?_)
    refine lv_bipush (v := (10 : Int32)) X.1 X.2.1 dX2_isPotMade_13 (by decide) ?_
    refine lv_irem X.1 X.2.1 dX2_isPotMade_15 (by decide) ?_
    refine lv_iconst (v := (3 : Int32)) X.1 X.2.1 dX2_isPotMade_16 (by decide) ?_
    refine lv_icmp_lt (tgt := 22) X.1 X.2.1 dX2_isPotMade_17 (by decide) (fun c6 => ?_) (fun c6 => ?_)
    · refine lv_aload_n X.1 X.2.1 dX2_isPotMade_22 rfl (lv_at hl 0 rfl) ?_
      refine lv_aload_n X.1 X.2.1 dX2_isPotMade_23 rfl (lv_at hl 0 rfl) ?_
      refine g_get (v := .int (S5 r 2)) X K hw (by omega) (tt_eR (r := r) hr) rfl iT2 3 (by decide) q167 rfl dX2_isPotMade_24 ?_
      refine lv_topi (fun x7 ex7 => ?_)
      refine g_put (S' := tt_up S5 r 3 x7) X K (c_ap K) hw (by omega) (tt_eR (r := r) hr) rfl iT2 tyX2_ok nmX2 4 (by decide) q169 rfl rfl rfl (Nat.le_of_ble_eq_true rfl) (tt_sR (r := r) (k := 3) hr (by decide)) dX2_isPotMade_27 (fun S8 H locs eS8 hw => ?_)
      refine lv_iconst (v := (1 : Int32)) X.1 X.2.1 dX2_isPotMade_30 (by decide) ?_
      have hR : ((1 : Int32), S8) = tgt := by
        rw [← hF]
        subst ez4 eS5 ex7 eS8
        simp only [f2_isPotMade, if_neg c1, if_pos c6]
      have hRR : (1 : Int32) = tgt.1 := pr1 hR
      have hRS : S8 = tgt.2 := pr2 hR
      exact g_zret X hret hlk hw rfl hRR hRS dX2_isPotMade_31
    · refine lv_iconst (v := (0 : Int32)) X.1 X.2.1 dX2_isPotMade_20 (by decide) ?_
      have hR : ((0 : Int32), S5) = tgt := by
        rw [← hF]
        subst ez4 eS5
        simp only [f2_isPotMade, if_neg c1, if_neg c6]
      have hRR : (0 : Int32) = tgt.1 := pr1 hR
      have hRS : S5 = tgt.2 := pr2 hR
      exact g_zret X hret hlk hw rfl hRR hRS dX2_isPotMade_21
set_option maxHeartbeats 4000000 in
set_option maxRecDepth 10000 in
theorem k_X2_isForgotten (l : Launch) (G : tt_G) (S : tt_St) (r : Nat) (hr : r < 3) : c_MI l G yX2_isForgotten (g_code yX2_isForgotten cX2_isForgotten 1 (some FieldType.boolean)) 1 20 [.ref (G.2.2 (30 + r))] S ((f2_isForgotten S r).1) ((f2_isForgotten S r).2) := by
  generalize hF : f2_isForgotten S r = tgt
  refine g_begin rfl (Nat.le_of_ble_eq_true rfl) _ (fun p e s m below meth c ls X hret hlk hB hl => ?_)
  obtain ⟨hP0, K⟩ := hB
  have hw : c_W G S s s.heap [] := ⟨hP0, va_S.rf⟩
  have X : CallFix p m c cX2_isForgotten 1 s ([.ref (G.2.2 (30 + r))] : List Value).toArray tt_T "TrustTin$Room" := X
  have hl : lv_has ls 1 [(0, .ref (G.2.2 (30 + r)))] := hl
  refine lv_aload_n X.1 X.2.1 dX2_isForgotten_0 rfl (lv_at hl 0 rfl) ?_
  refine c_callVI_s X K hw (k_X2_draw l G S r hr) (g_cwV X hiX2_draw q422 q423 q424 q68 q425 ⟨(Nat.le_of_ble_eq_true rfl), (Nat.le_of_ble_eq_true rfl)⟩) (by omega) (tt_eR (r := r) hr) rfl rfl hl.1 rfl (Nat.le_of_ble_eq_true rfl) dX2_isForgotten_1 ⟨(Nat.le_of_ble_eq_true rfl), (Nat.le_of_ble_eq_true rfl)⟩ (fun z1 S2 H locs ez1 eS2 hw => ?_)
  refine lv_bipush (v := (10 : Int32)) X.1 X.2.1 dX2_isForgotten_4 (by decide) ?_
  refine lv_irem X.1 X.2.1 dX2_isForgotten_6 (by decide) ?_
  refine lv_iconst (v := (4 : Int32)) X.1 X.2.1 dX2_isForgotten_7 (by decide) ?_
  refine lv_iconst (v := (2 : Int32)) X.1 X.2.1 dX2_isForgotten_8 (by decide) ?_
  refine lv_aload_n X.1 X.2.1 dX2_isForgotten_9 rfl (lv_at hl 0 rfl) ?_
  refine g_get (v := .int (S2 r 5)) X K hw (by omega) (tt_eR (r := r) hr) rfl iT2 6 (by decide) q173 rfl dX2_isForgotten_10 ?_
  refine lv_imul X.1 X.2.1 dX2_isForgotten_13 ?_
  refine lv_isub X.1 X.2.1 dX2_isForgotten_14 ?_
  refine lv_icmp_ge (tgt := 22) X.1 X.2.1 dX2_isForgotten_15 (by decide) (fun c3 => ?_) (fun c3 => ?_)
  · refine lv_iconst (v := (0 : Int32)) X.1 X.2.1 dX2_isForgotten_22 (by decide) ?_
    have hR : ((0 : Int32), S2) = tgt := by
      rw [← hF]
      subst ez1 eS2
      simp only [f2_isForgotten, if_pos c3]
    have hRR : (0 : Int32) = tgt.1 := pr1 hR
    have hRS : S2 = tgt.2 := pr2 hR
    exact g_zret X hret hlk hw rfl hRR hRS dX2_isForgotten_23
  · refine lv_iconst (v := (1 : Int32)) X.1 X.2.1 dX2_isForgotten_18 (by decide) ?_
    refine lv_goto (tgt := 23) X.1 X.2.1 dX2_isForgotten_19 (by decide) ?_
    have hR : ((1 : Int32), S2) = tgt := by
      rw [← hF]
      subst ez1 eS2
      simp only [f2_isForgotten, if_neg c3]
    have hRR : (1 : Int32) = tgt.1 := pr1 hR
    have hRS : S2 = tgt.2 := pr2 hR
    exact g_zret X hret hlk hw rfl hRR hRS dX2_isForgotten_23
set_option maxHeartbeats 4000000 in
set_option maxRecDepth 10000 in
theorem k_X2_pay (l : Launch) (G : tt_G) (S : tt_St) (r : Nat) (d : Nat) (a2 : Int32) (hr : r < 3) (hd : d < 10) : c_MI l G yX2_pay (g_code yX2_pay cX2_pay 4 (some FieldType.int)) 1 30 [.ref (G.2.2 (30 + r)), .ref (G.2.2 (10 * r + d)), .int a2] S ((f2_pay S r d a2).1) ((f2_pay S r d a2).2) := by
  generalize hF : f2_pay S r d a2 = tgt
  refine g_begin rfl (Nat.le_of_ble_eq_true rfl) _ (fun p e s m below meth c ls X hret hlk hB hl => ?_)
  obtain ⟨hP0, K⟩ := hB
  have hw : c_W G S s s.heap [] := ⟨hP0, va_S.rf⟩
  have X : CallFix p m c cX2_pay 4 s ([.ref (G.2.2 (30 + r)), .ref (G.2.2 (10 * r + d)), .int a2] : List Value).toArray tt_T "TrustTin$Room" := X
  have hl : lv_has ls 4 [(0, .ref (G.2.2 (30 + r))), (1, .ref (G.2.2 (10 * r + d))), (2, .int a2)] := hl
  refine lv_iload_n X.1 X.2.1 dX2_pay_0 rfl (lv_at hl 2 rfl) ?_
  refine lv_aload_n X.1 X.2.1 dX2_pay_1 rfl (lv_at hl 1 rfl) ?_
  refine g_get (v := .int (S r (14 + 7 * d))) X K hw (by have := hr; have := hd; omega) (tt_eD (r := r) (d := d) hr hd) rfl iT1 2 (by decide) q130 rfl dX2_pay_2 ?_
  refine va_mmin X.1 X.2.1 (X.2.2.1.trans hl.1.symm) X.2.2.2.1 (X.2.2.2.2 _ q321) (X.2.2.2.2 _ q322) (X.2.2.2.2 _ q75) (X.2.2.2.2 _ q323) (Nat.le_of_ble_eq_true rfl) (Nat.le_of_ble_eq_true rfl) (Nat.le_of_ble_eq_true rfl) (Nat.le_of_ble_eq_true rfl) dX2_pay_5 ?_
  refine lv_topi (fun x1 ex1 => ?_)
  refine lv_istore_n (lv' := [(3, .int x1), (0, .ref (G.2.2 (30 + r))), (1, .ref (G.2.2 (10 * r + d))), (2, .int a2)]) X.1 X.2.1 dX2_pay_8 rfl hl (by decide) rfl (fun ls hl => ?_)
  refine lv_aload_n X.1 X.2.1 dX2_pay_9 rfl (lv_at hl 2 rfl) ?_
  refine lv_dup X.1 X.2.1 dX2_pay_10 rfl ?_
  refine g_get (v := .int (S r (14 + 7 * d))) X K hw (by have := hr; have := hd; omega) (tt_eD (r := r) (d := d) hr hd) rfl iT1 2 (by decide) q130 rfl dX2_pay_11 ?_
  refine lv_iload_n X.1 X.2.1 dX2_pay_14 rfl (lv_at hl 0 rfl) ?_
  refine lv_isub X.1 X.2.1 dX2_pay_15 ?_
  refine lv_topi (fun x2 ex2 => ?_)
  refine g_put (S' := tt_up S r (14 + 7 * d) x2) X K (c_ap K) hw (by have := hr; have := hd; omega) (tt_eD (r := r) (d := d) hr hd) rfl iT1 tyX1_ok nmX1 2 (by decide) q130 rfl rfl rfl (Nat.le_of_ble_eq_true rfl) (tt_sD (r := r) (d := d) (k := 2) hr hd (by decide)) dX2_pay_16 (fun S3 H locs eS3 hw => ?_)
  refine lv_aload_n X.1 X.2.1 dX2_pay_19 rfl (lv_at hl 2 rfl) ?_
  refine lv_dup X.1 X.2.1 dX2_pay_20 rfl ?_
  refine g_get (v := .int (S3 r (18 + 7 * d))) X K hw (by have := hr; have := hd; omega) (tt_eD (r := r) (d := d) hr hd) rfl iT1 6 (by decide) q142 rfl dX2_pay_21 ?_
  refine lv_iload_n X.1 X.2.1 dX2_pay_24 rfl (lv_at hl 0 rfl) ?_
  refine lv_iadd X.1 X.2.1 dX2_pay_25 ?_
  refine lv_topi (fun x4 ex4 => ?_)
  refine g_put (S' := tt_up S3 r (18 + 7 * d) x4) X K (c_ap K) hw (by have := hr; have := hd; omega) (tt_eD (r := r) (d := d) hr hd) rfl iT1 tyX1_ok nmX1 6 (by decide) q142 rfl rfl rfl (Nat.le_of_ble_eq_true rfl) (tt_sD (r := r) (d := d) (k := 6) hr hd (by decide)) dX2_pay_26 (fun S5 H locs eS5 hw => ?_)
  refine lv_aload_n X.1 X.2.1 dX2_pay_29 rfl (lv_at hl 1 rfl) ?_
  refine lv_dup X.1 X.2.1 dX2_pay_30 rfl ?_
  refine g_get (v := .int (S5 r 4)) X K hw (by omega) (tt_eR (r := r) hr) rfl iT2 5 (by decide) q171 rfl dX2_pay_31 ?_
  refine lv_iload_n X.1 X.2.1 dX2_pay_34 rfl (lv_at hl 0 rfl) ?_
  refine lv_iadd X.1 X.2.1 dX2_pay_35 ?_
  refine lv_topi (fun x6 ex6 => ?_)
  refine g_put (S' := tt_up S5 r 4 x6) X K (c_ap K) hw (by omega) (tt_eR (r := r) hr) rfl iT2 tyX2_ok nmX2 5 (by decide) q171 rfl rfl rfl (Nat.le_of_ble_eq_true rfl) (tt_sR (r := r) (k := 4) hr (by decide)) dX2_pay_36 (fun S7 H locs eS7 hw => ?_)
  refine lv_iload_n X.1 X.2.1 dX2_pay_39 rfl (lv_at hl 0 rfl) ?_
  have hR : (x1, S7) = tgt := by
    rw [← hF]
    subst ex1 ex2 eS3 ex4 eS5 ex6 eS7
    simp only [f2_pay]
  have hRR : x1 = tgt.1 := pr1 hR
  have hRS : S7 = tgt.2 := pr2 hR
  exact g_iret X hret hlk hw hRR hRS dX2_pay_40
set_option maxHeartbeats 4000000 in
set_option maxRecDepth 10000 in
theorem k_X2_payCup (l : Launch) (G : tt_G) (S : tt_St) (r : Nat) (d : Nat) (a2 : Int32) (hr : r < 3) (hd : d < 10) : c_MV l G yX2_payCup (g_code yX2_payCup cX2_payCup 4 none) 2 53 [.ref (G.2.2 (30 + r)), .ref (G.2.2 (10 * r + d)), .int a2] S (f2_payCup S r d a2) := by
  generalize hF : f2_payCup S r d a2 = tgt
  refine g_begin rfl (Nat.le_of_ble_eq_true rfl) _ (fun p e s m below meth c ls X hret hlk hB hl => ?_)
  obtain ⟨hP0, K⟩ := hB
  have hw : c_W G S s s.heap [] := ⟨hP0, va_S.rf⟩
  have X : CallFix p m c cX2_payCup 4 s ([.ref (G.2.2 (30 + r)), .ref (G.2.2 (10 * r + d)), .int a2] : List Value).toArray tt_T "TrustTin$Room" := X
  have hl : lv_has ls 4 [(0, .ref (G.2.2 (30 + r))), (1, .ref (G.2.2 (10 * r + d))), (2, .int a2)] := hl
  refine lv_aload_n X.1 X.2.1 dX2_payCup_0 rfl (lv_at hl 0 rfl) ?_
  refine g_get (v := .int (S r 1)) X K hw (by omega) (tt_eR (r := r) hr) rfl iT2 2 (by decide) q164 rfl dX2_payCup_1 ?_
  refine lv_topi (fun x1 ex1 => ?_)
  refine lv_istore_n (lv' := [(3, .int x1), (0, .ref (G.2.2 (30 + r))), (1, .ref (G.2.2 (10 * r + d))), (2, .int a2)]) X.1 X.2.1 dX2_payCup_4 rfl hl (by decide) rfl (fun ls hl => ?_)
  refine lv_aload_n X.1 X.2.1 dX2_payCup_5 rfl (lv_at hl 2 rfl) ?_
  refine g_get (v := .int (S r (12 + 7 * d))) X K hw (by have := hr; have := hd; omega) (tt_eD (r := r) (d := d) hr hd) rfl iT1 0 (by decide) q124 rfl dX2_payCup_6 ?_
  by_cases c2 : (S r (12 + 7 * d)) = (1 : Int32)
  · refine lv_tableIn (tgt := 48) X.1 X.2.1 dX2_payCup_9 (by rw [c2]; decide) (by rw [c2]; decide) (by rw [c2]; rfl) (by decide) ?_
    refine lv_aload_n X.1 X.2.1 dX2_payCup_48 rfl (lv_at hl 2 rfl) ?_
    refine lv_dup X.1 X.2.1 dX2_payCup_49 rfl ?_
    refine g_get (v := .int (S r (16 + 7 * d))) X K hw (by have := hr; have := hd; omega) (tt_eD (r := r) (d := d) hr hd) rfl iT1 4 (by decide) q137 rfl dX2_payCup_50 ?_
    refine lv_aload_n X.1 X.2.1 dX2_payCup_53 rfl (lv_at hl 1 rfl) ?_
    refine g_get (v := .int (S r 1)) X K hw (by omega) (tt_eR (r := r) hr) rfl iT2 2 (by decide) q164 rfl dX2_payCup_54 ?_
    refine lv_iadd X.1 X.2.1 dX2_payCup_57 ?_
    refine lv_topi (fun x3 ex3 => ?_)
    refine g_put (S' := tt_up S r (16 + 7 * d) x3) X K (c_ap K) hw (by have := hr; have := hd; omega) (tt_eD (r := r) (d := d) hr hd) rfl iT1 tyX1_ok nmX1 4 (by decide) q137 rfl rfl rfl (Nat.le_of_ble_eq_true rfl) (tt_sD (r := r) (d := d) (k := 4) hr hd (by decide)) dX2_payCup_58 (fun S4 H locs eS4 hw => ?_)
    refine lv_iconst (v := (0 : Int32)) X.1 X.2.1 dX2_payCup_61 (by decide) ?_
    refine lv_istore_n (lv' := [(3, .int (0 : Int32)), (0, .ref (G.2.2 (30 + r))), (1, .ref (G.2.2 (10 * r + d))), (2, .int a2)]) X.1 X.2.1 dX2_payCup_62 rfl hl (by decide) rfl (fun ls hl => ?_)
    refine lv_goto (tgt := 167) X.1 X.2.1 dX2_payCup_63 (by decide) ?_
    refine lv_aload_n X.1 X.2.1 dX2_payCup_167 rfl (lv_at hl 1 rfl) ?_
    refine lv_aload_n X.1 X.2.1 dX2_payCup_168 rfl (lv_at hl 2 rfl) ?_
    refine lv_iload_n X.1 X.2.1 dX2_payCup_169 rfl (lv_at hl 0 rfl) ?_
    refine c_callVI_s X K hw (k_X2_pay l G S4 r d (0 : Int32) hr hd) (g_cwV X hiX2_pay q435 q437 q11 q68 q438 ⟨(Nat.le_of_ble_eq_true rfl), (Nat.le_of_ble_eq_true rfl)⟩) (by omega) (tt_eR (r := r) hr) rfl rfl hl.1 rfl (Nat.le_of_ble_eq_true rfl) dX2_payCup_170 ⟨(Nat.le_of_ble_eq_true rfl), (Nat.le_of_ble_eq_true rfl)⟩ (fun z5 S6 H locs ez5 eS6 hw => ?_)
    refine lv_pop X.1 X.2.1 dX2_payCup_173 rfl ?_
    have hR : S6 = tgt := by
      rw [← hF]
      subst ex1 ex3 eS4 ez5 eS6
      simp only [f2_payCup, if_pos c2]
    exact g_vret X hret hlk hw hR dX2_payCup_174
  by_cases c7 : (S r (12 + 7 * d)) = (2 : Int32)
  · refine lv_tableIn (tgt := 110) X.1 X.2.1 dX2_payCup_9 (by rw [c7]; decide) (by rw [c7]; decide) (by rw [c7]; rfl) (by decide) ?_
    refine lv_aload_n X.1 X.2.1 dX2_payCup_110 rfl (lv_at hl 1 rfl) ?_
    refine c_callVI_s X K hw (k_X2_isForgotten l G S r hr) (g_cwV X hiX2_isForgotten q431 q433 q10 q68 q434 ⟨(Nat.le_of_ble_eq_true rfl), (Nat.le_of_ble_eq_true rfl)⟩) (by omega) (tt_eR (r := r) hr) rfl rfl hl.1 rfl (Nat.le_of_ble_eq_true rfl) dX2_payCup_111 ⟨(Nat.le_of_ble_eq_true rfl), (Nat.le_of_ble_eq_true rfl)⟩ (fun z8 S9 H locs ez8 eS9 hw => ?_)
    refine lv_if_eq (tgt := 121) X.1 X.2.1 dX2_payCup_114 (by decide) (fun c10 => ?_) (fun c10 => ?_)
    · refine lv_aload_n X.1 X.2.1 dX2_payCup_121 rfl (lv_at hl 1 rfl) ?_
      refine g_get (v := .int (S9 r 1)) X K hw (by omega) (tt_eR (r := r) hr) rfl iT2 2 (by decide) q164 rfl dX2_payCup_122 ?_
      refine lv_topi (fun x11 ex11 => ?_)
      refine lv_istore_n (lv' := [(3, .int x11), (0, .ref (G.2.2 (30 + r))), (1, .ref (G.2.2 (10 * r + d))), (2, .int a2)]) X.1 X.2.1 dX2_payCup_125 rfl hl (by decide) rfl (fun ls hl => ?_)
      refine lv_goto (tgt := 167) X.1 X.2.1 dX2_payCup_126 (by decide) ?_
      refine lv_aload_n X.1 X.2.1 dX2_payCup_167 rfl (lv_at hl 1 rfl) ?_
      refine lv_aload_n X.1 X.2.1 dX2_payCup_168 rfl (lv_at hl 2 rfl) ?_
      refine lv_iload_n X.1 X.2.1 dX2_payCup_169 rfl (lv_at hl 0 rfl) ?_
      refine c_callVI_s X K hw (k_X2_pay l G S9 r d x11 hr hd) (g_cwV X hiX2_pay q435 q437 q11 q68 q438 ⟨(Nat.le_of_ble_eq_true rfl), (Nat.le_of_ble_eq_true rfl)⟩) (by omega) (tt_eR (r := r) hr) rfl rfl hl.1 rfl (Nat.le_of_ble_eq_true rfl) dX2_payCup_170 ⟨(Nat.le_of_ble_eq_true rfl), (Nat.le_of_ble_eq_true rfl)⟩ (fun z12 S13 H locs ez12 eS13 hw => ?_)
      refine lv_pop X.1 X.2.1 dX2_payCup_173 rfl ?_
      have hR : S13 = tgt := by
        rw [← hF]
        subst ex1 ez8 eS9 ex11 ez12 eS13
        simp only [f2_payCup, if_neg c2, if_pos c7, if_pos c10]
      exact g_vret X hret hlk hw hR dX2_payCup_174
    · refine lv_iconst (v := (0 : Int32)) X.1 X.2.1 dX2_payCup_117 (by decide) ?_
      refine lv_goto (tgt := 125) X.1 X.2.1 dX2_payCup_118 (by decide) ?_
      refine lv_istore_n (lv' := [(3, .int (0 : Int32)), (0, .ref (G.2.2 (30 + r))), (1, .ref (G.2.2 (10 * r + d))), (2, .int a2)]) X.1 X.2.1 dX2_payCup_125 rfl hl (by decide) rfl (fun ls hl => ?_)
      refine lv_goto (tgt := 167) X.1 X.2.1 dX2_payCup_126 (by decide) ?_
      refine lv_aload_n X.1 X.2.1 dX2_payCup_167 rfl (lv_at hl 1 rfl) ?_
      refine lv_aload_n X.1 X.2.1 dX2_payCup_168 rfl (lv_at hl 2 rfl) ?_
      refine lv_iload_n X.1 X.2.1 dX2_payCup_169 rfl (lv_at hl 0 rfl) ?_
      refine c_callVI_s X K hw (k_X2_pay l G S9 r d (0 : Int32) hr hd) (g_cwV X hiX2_pay q435 q437 q11 q68 q438 ⟨(Nat.le_of_ble_eq_true rfl), (Nat.le_of_ble_eq_true rfl)⟩) (by omega) (tt_eR (r := r) hr) rfl rfl hl.1 rfl (Nat.le_of_ble_eq_true rfl) dX2_payCup_170 ⟨(Nat.le_of_ble_eq_true rfl), (Nat.le_of_ble_eq_true rfl)⟩ (fun z14 S15 H locs ez14 eS15 hw => ?_)
      refine lv_pop X.1 X.2.1 dX2_payCup_173 rfl ?_
      have hR : S15 = tgt := by
        rw [← hF]
        subst ex1 ez8 eS9 ez14 eS15
        simp only [f2_payCup, if_neg c2, if_pos c7, if_neg c10]
      exact g_vret X hret hlk hw hR dX2_payCup_174
  by_cases c16 : (S r (12 + 7 * d)) = (3 : Int32)
  · refine lv_tableIn (tgt := 86) X.1 X.2.1 dX2_payCup_9 (by rw [c16]; decide) (by rw [c16]; decide) (by rw [c16]; rfl) (by decide) ?_
    refine lv_aload_n X.1 X.2.1 dX2_payCup_86 rfl (lv_at hl 1 rfl) ?_
    refine g_get (v := .int (S r 5)) X K hw (by omega) (tt_eR (r := r) hr) rfl iT2 6 (by decide) q173 rfl dX2_payCup_87 ?_
    refine lv_iconst (v := (2 : Int32)) X.1 X.2.1 dX2_payCup_90 (by decide) ?_
    refine lv_icmp_ne (tgt := 105) X.1 X.2.1 dX2_payCup_91 (by decide) (fun c17 => ?_) (fun c17 => ?_)
    · refine lv_iconst (v := (0 : Int32)) X.1 X.2.1 dX2_payCup_105 (by decide) ?_
      refine lv_istore_n (lv' := [(3, .int (0 : Int32)), (0, .ref (G.2.2 (30 + r))), (1, .ref (G.2.2 (10 * r + d))), (2, .int a2)]) X.1 X.2.1 dX2_payCup_106 rfl hl (by decide) rfl (fun ls hl => ?_)
      refine lv_goto (tgt := 167) X.1 X.2.1 dX2_payCup_107 (by decide) ?_
      refine lv_aload_n X.1 X.2.1 dX2_payCup_167 rfl (lv_at hl 1 rfl) ?_
      refine lv_aload_n X.1 X.2.1 dX2_payCup_168 rfl (lv_at hl 2 rfl) ?_
      refine lv_iload_n X.1 X.2.1 dX2_payCup_169 rfl (lv_at hl 0 rfl) ?_
      refine c_callVI_s X K hw (k_X2_pay l G S r d (0 : Int32) hr hd) (g_cwV X hiX2_pay q435 q437 q11 q68 q438 ⟨(Nat.le_of_ble_eq_true rfl), (Nat.le_of_ble_eq_true rfl)⟩) (by omega) (tt_eR (r := r) hr) rfl rfl hl.1 rfl (Nat.le_of_ble_eq_true rfl) dX2_payCup_170 ⟨(Nat.le_of_ble_eq_true rfl), (Nat.le_of_ble_eq_true rfl)⟩ (fun z18 S19 H locs ez18 eS19 hw => ?_)
      refine lv_pop X.1 X.2.1 dX2_payCup_173 rfl ?_
      have hR : S19 = tgt := by
        rw [← hF]
        subst ex1 ez18 eS19
        simp only [f2_payCup, if_neg c2, if_neg c7, if_pos c16, if_neg c17]
      exact g_vret X hret hlk hw hR dX2_payCup_174
    · refine lv_iload_n X.1 X.2.1 dX2_payCup_94 rfl (lv_at hl 3 rfl) ?_
      refine lv_if_ne (tgt := 105) X.1 X.2.1 dX2_payCup_95 (by decide) (fun c20 => ?_) (fun c20 => ?_)
      · refine lv_iconst (v := (0 : Int32)) X.1 X.2.1 dX2_payCup_105 (by decide) ?_
        refine lv_istore_n (lv' := [(3, .int (0 : Int32)), (0, .ref (G.2.2 (30 + r))), (1, .ref (G.2.2 (10 * r + d))), (2, .int a2)]) X.1 X.2.1 dX2_payCup_106 rfl hl (by decide) rfl (fun ls hl => ?_)
        refine lv_goto (tgt := 167) X.1 X.2.1 dX2_payCup_107 (by decide) ?_
        refine lv_aload_n X.1 X.2.1 dX2_payCup_167 rfl (lv_at hl 1 rfl) ?_
        refine lv_aload_n X.1 X.2.1 dX2_payCup_168 rfl (lv_at hl 2 rfl) ?_
        refine lv_iload_n X.1 X.2.1 dX2_payCup_169 rfl (lv_at hl 0 rfl) ?_
        refine c_callVI_s X K hw (k_X2_pay l G S r d (0 : Int32) hr hd) (g_cwV X hiX2_pay q435 q437 q11 q68 q438 ⟨(Nat.le_of_ble_eq_true rfl), (Nat.le_of_ble_eq_true rfl)⟩) (by omega) (tt_eR (r := r) hr) rfl rfl hl.1 rfl (Nat.le_of_ble_eq_true rfl) dX2_payCup_170 ⟨(Nat.le_of_ble_eq_true rfl), (Nat.le_of_ble_eq_true rfl)⟩ (fun z21 S22 H locs ez21 eS22 hw => ?_)
        refine lv_pop X.1 X.2.1 dX2_payCup_173 rfl ?_
        have hR : S22 = tgt := by
          rw [← hF]
          subst ex1 ez21 eS22
          simp only [f2_payCup, if_neg c2, if_neg c7, if_pos c16, if_pos c17, if_neg c20]
        exact g_vret X hret hlk hw hR dX2_payCup_174
      · refine lv_aload_n X.1 X.2.1 dX2_payCup_98 rfl (lv_at hl 1 rfl) ?_
        refine g_get (v := .int (S r 1)) X K hw (by omega) (tt_eR (r := r) hr) rfl iT2 2 (by decide) q164 rfl dX2_payCup_99 ?_
        refine lv_goto (tgt := 106) X.1 X.2.1 dX2_payCup_102 (by decide) ?_
        refine lv_topi (fun x23 ex23 => ?_)
        refine lv_istore_n (lv' := [(3, .int x23), (0, .ref (G.2.2 (30 + r))), (1, .ref (G.2.2 (10 * r + d))), (2, .int a2)]) X.1 X.2.1 dX2_payCup_106 rfl hl (by decide) rfl (fun ls hl => ?_)
        refine lv_goto (tgt := 167) X.1 X.2.1 dX2_payCup_107 (by decide) ?_
        refine lv_aload_n X.1 X.2.1 dX2_payCup_167 rfl (lv_at hl 1 rfl) ?_
        refine lv_aload_n X.1 X.2.1 dX2_payCup_168 rfl (lv_at hl 2 rfl) ?_
        refine lv_iload_n X.1 X.2.1 dX2_payCup_169 rfl (lv_at hl 0 rfl) ?_
        refine c_callVI_s X K hw (k_X2_pay l G S r d x23 hr hd) (g_cwV X hiX2_pay q435 q437 q11 q68 q438 ⟨(Nat.le_of_ble_eq_true rfl), (Nat.le_of_ble_eq_true rfl)⟩) (by omega) (tt_eR (r := r) hr) rfl rfl hl.1 rfl (Nat.le_of_ble_eq_true rfl) dX2_payCup_170 ⟨(Nat.le_of_ble_eq_true rfl), (Nat.le_of_ble_eq_true rfl)⟩ (fun z24 S25 H locs ez24 eS25 hw => ?_)
        refine lv_pop X.1 X.2.1 dX2_payCup_173 rfl ?_
        have hR : S25 = tgt := by
          rw [← hF]
          subst ex1 ex23 ez24 eS25
          simp only [f2_payCup, if_neg c2, if_neg c7, if_pos c16, if_pos c17, if_pos c20]
        exact g_vret X hret hlk hw hR dX2_payCup_174
  by_cases c26 : (S r (12 + 7 * d)) = (4 : Int32)
  · refine lv_tableIn (tgt := 129) X.1 X.2.1 dX2_payCup_9 (by rw [c26]; decide) (by rw [c26]; decide) (by rw [c26]; rfl) (by decide) ?_
    refine lv_aload_n X.1 X.2.1 dX2_payCup_129 rfl (lv_at hl 1 rfl) ?_
    refine g_get (v := .int (S r 6)) X K hw (by omega) (tt_eR (r := r) hr) rfl iT2 7 (by decide) q176 rfl dX2_payCup_130 ?_
    refine lv_bipush (v := (50 : Int32)) X.1 X.2.1 dX2_payCup_133 (by decide) ?_
    refine lv_icmp_lt (tgt := 145) X.1 X.2.1 dX2_payCup_135 (by decide) (fun c27 => ?_) (fun c27 => ?_)
    · refine lv_iconst (v := (0 : Int32)) X.1 X.2.1 dX2_payCup_145 (by decide) ?_
      refine lv_goto (tgt := 153) X.1 X.2.1 dX2_payCup_146 (by decide) ?_
      refine lv_istore_n (lv' := [(3, .int (0 : Int32)), (0, .ref (G.2.2 (30 + r))), (1, .ref (G.2.2 (10 * r + d))), (2, .int a2)]) X.1 X.2.1 dX2_payCup_153 rfl hl (by decide) rfl (fun ls hl => ?_)
      refine lv_goto (tgt := 167) X.1 X.2.1 dX2_payCup_154 (by decide) ?_
      refine lv_aload_n X.1 X.2.1 dX2_payCup_167 rfl (lv_at hl 1 rfl) ?_
      refine lv_aload_n X.1 X.2.1 dX2_payCup_168 rfl (lv_at hl 2 rfl) ?_
      refine lv_iload_n X.1 X.2.1 dX2_payCup_169 rfl (lv_at hl 0 rfl) ?_
      refine c_callVI_s X K hw (k_X2_pay l G S r d (0 : Int32) hr hd) (g_cwV X hiX2_pay q435 q437 q11 q68 q438 ⟨(Nat.le_of_ble_eq_true rfl), (Nat.le_of_ble_eq_true rfl)⟩) (by omega) (tt_eR (r := r) hr) rfl rfl hl.1 rfl (Nat.le_of_ble_eq_true rfl) dX2_payCup_170 ⟨(Nat.le_of_ble_eq_true rfl), (Nat.le_of_ble_eq_true rfl)⟩ (fun z28 S29 H locs ez28 eS29 hw => ?_)
      refine lv_pop X.1 X.2.1 dX2_payCup_173 rfl ?_
      have hR : S29 = tgt := by
        rw [← hF]
        subst ex1 ez28 eS29
        simp only [f2_payCup, if_neg c2, if_neg c7, if_neg c16, if_pos c26, if_pos c27]
      exact g_vret X hret hlk hw hR dX2_payCup_174
    · refine lv_aload_n X.1 X.2.1 dX2_payCup_138 rfl (lv_at hl 1 rfl) ?_
      refine c_callVI_s X K hw (k_X2_isForgotten l G S r hr) (g_cwV X hiX2_isForgotten q431 q433 q10 q68 q434 ⟨(Nat.le_of_ble_eq_true rfl), (Nat.le_of_ble_eq_true rfl)⟩) (by omega) (tt_eR (r := r) hr) rfl rfl hl.1 rfl (Nat.le_of_ble_eq_true rfl) dX2_payCup_139 ⟨(Nat.le_of_ble_eq_true rfl), (Nat.le_of_ble_eq_true rfl)⟩ (fun z30 S31 H locs ez30 eS31 hw => ?_)
      refine lv_if_eq (tgt := 149) X.1 X.2.1 dX2_payCup_142 (by decide) (fun c32 => ?_) (fun c32 => ?_)
      · refine lv_aload_n X.1 X.2.1 dX2_payCup_149 rfl (lv_at hl 1 rfl) ?_
        refine g_get (v := .int (S31 r 1)) X K hw (by omega) (tt_eR (r := r) hr) rfl iT2 2 (by decide) q164 rfl dX2_payCup_150 ?_
        refine lv_topi (fun x33 ex33 => ?_)
        refine lv_istore_n (lv' := [(3, .int x33), (0, .ref (G.2.2 (30 + r))), (1, .ref (G.2.2 (10 * r + d))), (2, .int a2)]) X.1 X.2.1 dX2_payCup_153 rfl hl (by decide) rfl (fun ls hl => ?_)
        refine lv_goto (tgt := 167) X.1 X.2.1 dX2_payCup_154 (by decide) ?_
        refine lv_aload_n X.1 X.2.1 dX2_payCup_167 rfl (lv_at hl 1 rfl) ?_
        refine lv_aload_n X.1 X.2.1 dX2_payCup_168 rfl (lv_at hl 2 rfl) ?_
        refine lv_iload_n X.1 X.2.1 dX2_payCup_169 rfl (lv_at hl 0 rfl) ?_
        refine c_callVI_s X K hw (k_X2_pay l G S31 r d x33 hr hd) (g_cwV X hiX2_pay q435 q437 q11 q68 q438 ⟨(Nat.le_of_ble_eq_true rfl), (Nat.le_of_ble_eq_true rfl)⟩) (by omega) (tt_eR (r := r) hr) rfl rfl hl.1 rfl (Nat.le_of_ble_eq_true rfl) dX2_payCup_170 ⟨(Nat.le_of_ble_eq_true rfl), (Nat.le_of_ble_eq_true rfl)⟩ (fun z34 S35 H locs ez34 eS35 hw => ?_)
        refine lv_pop X.1 X.2.1 dX2_payCup_173 rfl ?_
        have hR : S35 = tgt := by
          rw [← hF]
          subst ex1 ez30 eS31 ex33 ez34 eS35
          simp only [f2_payCup, if_neg c2, if_neg c7, if_neg c16, if_pos c26, if_neg c27, if_pos c32]
        exact g_vret X hret hlk hw hR dX2_payCup_174
      · refine lv_iconst (v := (0 : Int32)) X.1 X.2.1 dX2_payCup_145 (by decide) ?_
        refine lv_goto (tgt := 153) X.1 X.2.1 dX2_payCup_146 (by decide) ?_
        refine lv_istore_n (lv' := [(3, .int (0 : Int32)), (0, .ref (G.2.2 (30 + r))), (1, .ref (G.2.2 (10 * r + d))), (2, .int a2)]) X.1 X.2.1 dX2_payCup_153 rfl hl (by decide) rfl (fun ls hl => ?_)
        refine lv_goto (tgt := 167) X.1 X.2.1 dX2_payCup_154 (by decide) ?_
        refine lv_aload_n X.1 X.2.1 dX2_payCup_167 rfl (lv_at hl 1 rfl) ?_
        refine lv_aload_n X.1 X.2.1 dX2_payCup_168 rfl (lv_at hl 2 rfl) ?_
        refine lv_iload_n X.1 X.2.1 dX2_payCup_169 rfl (lv_at hl 0 rfl) ?_
        refine c_callVI_s X K hw (k_X2_pay l G S31 r d (0 : Int32) hr hd) (g_cwV X hiX2_pay q435 q437 q11 q68 q438 ⟨(Nat.le_of_ble_eq_true rfl), (Nat.le_of_ble_eq_true rfl)⟩) (by omega) (tt_eR (r := r) hr) rfl rfl hl.1 rfl (Nat.le_of_ble_eq_true rfl) dX2_payCup_170 ⟨(Nat.le_of_ble_eq_true rfl), (Nat.le_of_ble_eq_true rfl)⟩ (fun z36 S37 H locs ez36 eS37 hw => ?_)
        refine lv_pop X.1 X.2.1 dX2_payCup_173 rfl ?_
        have hR : S37 = tgt := by
          rw [← hF]
          subst ex1 ez30 eS31 ez36 eS37
          simp only [f2_payCup, if_neg c2, if_neg c7, if_neg c16, if_pos c26, if_neg c27, if_neg c32]
        exact g_vret X hret hlk hw hR dX2_payCup_174
  by_cases c38 : (S r (12 + 7 * d)) = (5 : Int32)
  · refine lv_tableIn (tgt := 157) X.1 X.2.1 dX2_payCup_9 (by rw [c38]; decide) (by rw [c38]; decide) (by rw [c38]; rfl) (by decide) ?_
    refine lv_iconst (v := (2 : Int32)) X.1 X.2.1 dX2_payCup_157 (by decide) ?_
    refine lv_aload_n X.1 X.2.1 dX2_payCup_158 rfl (lv_at hl 1 rfl) ?_
    refine g_get (v := .int (S r 1)) X K hw (by omega) (tt_eR (r := r) hr) rfl iT2 2 (by decide) q164 rfl dX2_payCup_159 ?_
    refine lv_imul X.1 X.2.1 dX2_payCup_162 ?_
    refine lv_topi (fun x39 ex39 => ?_)
    refine lv_istore_n (lv' := [(3, .int x39), (0, .ref (G.2.2 (30 + r))), (1, .ref (G.2.2 (10 * r + d))), (2, .int a2)]) X.1 X.2.1 dX2_payCup_163 rfl hl (by decide) rfl (fun ls hl => ?_)
    refine lv_goto (tgt := 167) X.1 X.2.1 dX2_payCup_164 (by decide) ?_
    refine lv_aload_n X.1 X.2.1 dX2_payCup_167 rfl (lv_at hl 1 rfl) ?_
    refine lv_aload_n X.1 X.2.1 dX2_payCup_168 rfl (lv_at hl 2 rfl) ?_
    refine lv_iload_n X.1 X.2.1 dX2_payCup_169 rfl (lv_at hl 0 rfl) ?_
    refine c_callVI_s X K hw (k_X2_pay l G S r d x39 hr hd) (g_cwV X hiX2_pay q435 q437 q11 q68 q438 ⟨(Nat.le_of_ble_eq_true rfl), (Nat.le_of_ble_eq_true rfl)⟩) (by omega) (tt_eR (r := r) hr) rfl rfl hl.1 rfl (Nat.le_of_ble_eq_true rfl) dX2_payCup_170 ⟨(Nat.le_of_ble_eq_true rfl), (Nat.le_of_ble_eq_true rfl)⟩ (fun z40 S41 H locs ez40 eS41 hw => ?_)
    refine lv_pop X.1 X.2.1 dX2_payCup_173 rfl ?_
    have hR : S41 = tgt := by
      rw [← hF]
      subst ex1 ex39 ez40 eS41
      simp only [f2_payCup, if_neg c2, if_neg c7, if_neg c16, if_neg c26, if_pos c38]
    exact g_vret X hret hlk hw hR dX2_payCup_174
  by_cases c42 : (S r (12 + 7 * d)) = (6 : Int32)
  · refine lv_tableIn (tgt := 66) X.1 X.2.1 dX2_payCup_9 (by rw [c42]; decide) (by rw [c42]; decide) (by rw [c42]; rfl) (by decide) ?_
    refine lv_aload_n X.1 X.2.1 dX2_payCup_66 rfl (lv_at hl 2 rfl) ?_
    refine lv_dup X.1 X.2.1 dX2_payCup_67 rfl ?_
    refine g_get (v := .int (S r (16 + 7 * d))) X K hw (by have := hr; have := hd; omega) (tt_eD (r := r) (d := d) hr hd) rfl iT1 4 (by decide) q137 rfl dX2_payCup_68 ?_
    refine lv_aload_n X.1 X.2.1 dX2_payCup_71 rfl (lv_at hl 1 rfl) ?_
    refine g_get (v := .int (S r 1)) X K hw (by omega) (tt_eR (r := r) hr) rfl iT2 2 (by decide) q164 rfl dX2_payCup_72 ?_
    refine lv_iconst (v := (2 : Int32)) X.1 X.2.1 dX2_payCup_75 (by decide) ?_
    refine lv_idiv X.1 X.2.1 dX2_payCup_76 (by decide) ?_
    refine lv_iadd X.1 X.2.1 dX2_payCup_77 ?_
    refine lv_topi (fun x43 ex43 => ?_)
    refine g_put (S' := tt_up S r (16 + 7 * d) x43) X K (c_ap K) hw (by have := hr; have := hd; omega) (tt_eD (r := r) (d := d) hr hd) rfl iT1 tyX1_ok nmX1 4 (by decide) q137 rfl rfl rfl (Nat.le_of_ble_eq_true rfl) (tt_sD (r := r) (d := d) (k := 4) hr hd (by decide)) dX2_payCup_78 (fun S44 H locs eS44 hw => ?_)
    refine lv_iconst (v := (0 : Int32)) X.1 X.2.1 dX2_payCup_81 (by decide) ?_
    refine lv_istore_n (lv' := [(3, .int (0 : Int32)), (0, .ref (G.2.2 (30 + r))), (1, .ref (G.2.2 (10 * r + d))), (2, .int a2)]) X.1 X.2.1 dX2_payCup_82 rfl hl (by decide) rfl (fun ls hl => ?_)
    refine lv_goto (tgt := 167) X.1 X.2.1 dX2_payCup_83 (by decide) ?_
    refine lv_aload_n X.1 X.2.1 dX2_payCup_167 rfl (lv_at hl 1 rfl) ?_
    refine lv_aload_n X.1 X.2.1 dX2_payCup_168 rfl (lv_at hl 2 rfl) ?_
    refine lv_iload_n X.1 X.2.1 dX2_payCup_169 rfl (lv_at hl 0 rfl) ?_
    refine c_callVI_s X K hw (k_X2_pay l G S44 r d (0 : Int32) hr hd) (g_cwV X hiX2_pay q435 q437 q11 q68 q438 ⟨(Nat.le_of_ble_eq_true rfl), (Nat.le_of_ble_eq_true rfl)⟩) (by omega) (tt_eR (r := r) hr) rfl rfl hl.1 rfl (Nat.le_of_ble_eq_true rfl) dX2_payCup_170 ⟨(Nat.le_of_ble_eq_true rfl), (Nat.le_of_ble_eq_true rfl)⟩ (fun z45 S46 H locs ez45 eS46 hw => ?_)
    refine lv_pop X.1 X.2.1 dX2_payCup_173 rfl ?_
    have hR : S46 = tgt := by
      rw [← hF]
      subst ex1 ex43 eS44 ez45 eS46
      simp only [f2_payCup, if_neg c2, if_neg c7, if_neg c16, if_neg c26, if_neg c38, if_pos c42]
    exact g_vret X hret hlk hw hR dX2_payCup_174
  refine lv_tableOut (tgt := 167) X.1 X.2.1 dX2_payCup_9 (by have := lv_neT (a := 1) c2 rfl; have := lv_neT (a := 2) c7 rfl; have := lv_neT (a := 3) c16 rfl; have := lv_neT (a := 4) c26 rfl; have := lv_neT (a := 5) c38 rfl; have := lv_neT (a := 6) c42 rfl; omega) (by decide) ?_
  refine lv_aload_n X.1 X.2.1 dX2_payCup_167 rfl (lv_at hl 1 rfl) ?_
  refine lv_aload_n X.1 X.2.1 dX2_payCup_168 rfl (lv_at hl 2 rfl) ?_
  refine lv_iload_n X.1 X.2.1 dX2_payCup_169 rfl (lv_at hl 0 rfl) ?_
  refine c_callVI_s X K hw (k_X2_pay l G S r d x1 hr hd) (g_cwV X hiX2_pay q435 q437 q11 q68 q438 ⟨(Nat.le_of_ble_eq_true rfl), (Nat.le_of_ble_eq_true rfl)⟩) (by omega) (tt_eR (r := r) hr) rfl rfl hl.1 rfl (Nat.le_of_ble_eq_true rfl) dX2_payCup_170 ⟨(Nat.le_of_ble_eq_true rfl), (Nat.le_of_ble_eq_true rfl)⟩ (fun z47 S48 H locs ez47 eS48 hw => ?_)
  refine lv_pop X.1 X.2.1 dX2_payCup_173 rfl ?_
  have hR : S48 = tgt := by
    rw [← hF]
    subst ex1 ez47 eS48
    simp only [f2_payCup, if_neg c2, if_neg c7, if_neg c16, if_neg c26, if_neg c38, if_neg c42]
  exact g_vret X hret hlk hw hR dX2_payCup_174
set_option maxHeartbeats 4000000 in
set_option maxRecDepth 10000 in
theorem k_X2_serve (l : Launch) (G : tt_G) (S : tt_St) (r : Nat) (d : Nat) (hr : r < 3) (hd : d < 10) : c_MV l G yX2_serve (g_code yX2_serve cX2_serve 3 none) 3 76 [.ref (G.2.2 (30 + r)), .ref (G.2.2 (10 * r + d))] S (f2_serve S r d) := by
  generalize hF : f2_serve S r d = tgt
  refine g_begin rfl (Nat.le_of_ble_eq_true rfl) _ (fun p e s m below meth c ls X hret hlk hB hl => ?_)
  obtain ⟨hP0, K⟩ := hB
  have hw : c_W G S s s.heap [] := ⟨hP0, va_S.rf⟩
  have X : CallFix p m c cX2_serve 3 s ([.ref (G.2.2 (30 + r)), .ref (G.2.2 (10 * r + d))] : List Value).toArray tt_T "TrustTin$Room" := X
  have hl : lv_has ls 3 [(0, .ref (G.2.2 (30 + r))), (1, .ref (G.2.2 (10 * r + d)))] := hl
  refine lv_iconst (v := (0 : Int32)) X.1 X.2.1 dX2_serve_0 (by decide) ?_
  refine lv_istore_n (lv' := [(2, .int (0 : Int32)), (0, .ref (G.2.2 (30 + r))), (1, .ref (G.2.2 (10 * r + d)))]) X.1 X.2.1 dX2_serve_1 rfl hl (by decide) rfl (fun ls hl => ?_)
  have j2 : ∀ (n : Nat) (S1 : tt_St) (y2_2 : Int32) (H : Heap) (locs : List Loc) (ls : Array Slot), (¬ y2_2 < 0) → lp_mu (S1 r (13 + 7 * d)) y2_2 < n → f2_serve_L2 r d n S1 y2_2 = tgt → c_W G S1 s H locs → lv_has ls 3 [(0, .ref (G.2.2 (30 + r))), (1, .ref (G.2.2 (10 * r + d))), (2, .int y2_2)] → W p l e (g_rm 3 76) s m ([.ref (G.2.2 (30 + r)), .ref (G.2.2 (10 * r + d))] : List Value).toArray below meth c H locs 0 0 (MQ below (va_Qv (fun T => T = tgt) (g_Post G 62 G.2.2 (tt_cell G)) (g_in 62 G.2.2)) ([.ref (G.2.2 (30 + r)), .ref (G.2.2 (10 * r + d))] : List Value).toArray s 0 0 (g_in 62 G.2.2)) (F0 m 2 ls []) := by
    intro n
    induction n with
    | zero => intro S1 y2_2 H locs ls hI hm; exact absurd hm (Nat.not_lt_zero _)
    | succ n ih =>
      intro S1 y2_2 H locs ls hI hm hF hw hl
      refine lv_iload_n X.1 X.2.1 dX2_serve_2 rfl (lv_at hl 2 rfl) ?_
      refine lv_aload_n X.1 X.2.1 dX2_serve_3 rfl (lv_at hl 1 rfl) ?_
      refine g_get (v := .int (S1 r (13 + 7 * d))) X K hw (by have := hr; have := hd; omega) (tt_eD (r := r) (d := d) hr hd) rfl iT1 1 (by decide) q127 rfl dX2_serve_4 ?_
      refine lv_icmp_ge (tgt := 78) X.1 X.2.1 dX2_serve_7 (by decide) (fun c2 => ?_) (fun c2 => ?_)
      · have hR : S1 = tgt := by
          rw [← hF]
          simp only [f2_serve_L2, if_pos c2]
        exact g_vret X hret hlk hw hR dX2_serve_78
      · refine lv_aload_n X.1 X.2.1 dX2_serve_10 rfl (lv_at hl 0 rfl) ?_
        refine g_get (v := .int (S1 r 3)) X K hw (by omega) (tt_eR (r := r) hr) rfl iT2 4 (by decide) q169 rfl dX2_serve_11 ?_
        refine lv_if_ne (tgt := 36) X.1 X.2.1 dX2_serve_14 (by decide) (fun c3 => ?_) (fun c3 => ?_)
        · refine lv_aload_n X.1 X.2.1 dX2_serve_36 rfl (lv_at hl 0 rfl) ?_
          refine lv_dup X.1 X.2.1 dX2_serve_37 rfl ?_
          refine g_get (v := .int (S1 r 3)) X K hw (by omega) (tt_eR (r := r) hr) rfl iT2 4 (by decide) q169 rfl dX2_serve_38 ?_
          refine lv_iconst (v := (1 : Int32)) X.1 X.2.1 dX2_serve_41 (by decide) ?_
          refine lv_isub X.1 X.2.1 dX2_serve_42 ?_
          refine lv_topi (fun x4 ex4 => ?_)
          refine g_put (S' := tt_up S1 r 3 x4) X K (c_ap K) hw (by omega) (tt_eR (r := r) hr) rfl iT2 tyX2_ok nmX2 4 (by decide) q169 rfl rfl rfl (Nat.le_of_ble_eq_true rfl) (tt_sR (r := r) (k := 3) hr (by decide)) dX2_serve_43 (fun S5 H locs eS5 hw => ?_)
          refine lv_aload_n X.1 X.2.1 dX2_serve_46 rfl (lv_at hl 0 rfl) ?_
          refine lv_dup X.1 X.2.1 dX2_serve_47 rfl ?_
          refine g_get (v := .int (S5 r 9)) X K hw (by omega) (tt_eR (r := r) hr) rfl iT2 10 (by decide) q182 rfl dX2_serve_48 ?_
          refine lv_iconst (v := (1 : Int32)) X.1 X.2.1 dX2_serve_51 (by decide) ?_
          refine lv_iadd X.1 X.2.1 dX2_serve_52 ?_
          refine lv_topi (fun x6 ex6 => ?_)
          refine g_put (S' := tt_up S5 r 9 x6) X K (c_ap K) hw (by omega) (tt_eR (r := r) hr) rfl iT2 tyX2_ok nmX2 10 (by decide) q182 rfl rfl rfl (Nat.le_of_ble_eq_true rfl) (tt_sR (r := r) (k := 9) hr (by decide)) dX2_serve_53 (fun S7 H locs eS7 hw => ?_)
          refine lv_aload_n X.1 X.2.1 dX2_serve_56 rfl (lv_at hl 1 rfl) ?_
          refine lv_dup X.1 X.2.1 dX2_serve_57 rfl ?_
          refine g_get (v := .int (S7 r (17 + 7 * d))) X K hw (by have := hr; have := hd; omega) (tt_eD (r := r) (d := d) hr hd) rfl iT1 5 (by decide) q139 rfl dX2_serve_58 ?_
          refine lv_iconst (v := (1 : Int32)) X.1 X.2.1 dX2_serve_61 (by decide) ?_
          refine lv_iadd X.1 X.2.1 dX2_serve_62 ?_
          refine lv_topi (fun x8 ex8 => ?_)
          refine g_put (S' := tt_up S7 r (17 + 7 * d) x8) X K (c_ap K) hw (by have := hr; have := hd; omega) (tt_eD (r := r) (d := d) hr hd) rfl iT1 tyX1_ok nmX1 5 (by decide) q139 rfl rfl rfl (Nat.le_of_ble_eq_true rfl) (tt_sD (r := r) (d := d) (k := 5) hr hd (by decide)) dX2_serve_63 (fun S9 H locs eS9 hw => ?_)
          refine lv_aload_n X.1 X.2.1 dX2_serve_66 rfl (lv_at hl 0 rfl) ?_
          refine lv_aload_n X.1 X.2.1 dX2_serve_67 rfl (lv_at hl 1 rfl) ?_
          refine lv_iload_n X.1 X.2.1 dX2_serve_68 rfl (lv_at hl 2 rfl) ?_
          refine c_callVV_s X K hw (k_X2_payCup l G S9 r d y2_2 hr hd) (g_cwV X hiX2_payCup q427 q429 q9 q68 q430 ⟨(Nat.le_of_ble_eq_true rfl), (Nat.le_of_ble_eq_true rfl)⟩) (by omega) (tt_eR (r := r) hr) rfl rfl hl.1 rfl (Nat.le_of_ble_eq_true rfl) dX2_serve_69 ⟨(Nat.le_of_ble_eq_true rfl), (Nat.le_of_ble_eq_true rfl)⟩ (fun S10 H locs eS10 hw => ?_)
          obtain ⟨x11, ex11⟩ : ∃ y : Int32, y = y2_2 + (1 : Int32) := ⟨_, rfl⟩
          refine lv_iinc (v := x11) (lv' := [(2, .int x11), (0, .ref (G.2.2 (30 + r))), (1, .ref (G.2.2 (10 * r + d)))]) X.1 X.2.1 dX2_serve_72 hl (k := 2) rfl (by rw [ex11]; rfl) (by decide) rfl (fun ls hl => ?_)
          refine lv_goto (tgt := 2) X.1 X.2.1 dX2_serve_75 (by decide) ?_
          have hF2 : f2_serve_L2 r d n S10 x11 = tgt := by
            rw [← hF]
            subst ex4 eS5 ex6 eS7 ex8 eS9 eS10 ex11
            simp only [f2_serve_L2, if_neg c2, if_neg c3]
          exact ih S10 x11 _ _ ls (by rw [ex11]; exact lp_nn hI c2) (by rw [ex11, show S10 r (13 + 7 * d) = S1 r (13 + 7 * d) from by subst ex4 eS5 ex6 eS7 ex8 eS9 eS10 ex11; with_reducible first | exact fr_cup1 (fr_rfl _ _) | exact fr_cup1 (fr_isPotMade _ _ _)]; exact lp_dec' c2 hm) hF2 hw (lv_sub hl [1, 2, 0] rfl)
        · refine lv_aload_n X.1 X.2.1 dX2_serve_17 rfl (lv_at hl 0 rfl) ?_
          refine lv_aload_n X.1 X.2.1 dX2_serve_18 rfl (lv_at hl 1 rfl) ?_
          refine c_callVI_s X K hw (k_X2_isPotMade l G S1 r d hr hd) (g_cwV X hiX2_isPotMade q418 q420 q8 q68 q421 ⟨(Nat.le_of_ble_eq_true rfl), (Nat.le_of_ble_eq_true rfl)⟩) (by omega) (tt_eR (r := r) hr) rfl rfl hl.1 rfl (Nat.le_of_ble_eq_true rfl) dX2_serve_19 ⟨(Nat.le_of_ble_eq_true rfl), (Nat.le_of_ble_eq_true rfl)⟩ (fun z12 S13 H locs ez12 eS13 hw => ?_)
          refine lv_if_ne (tgt := 36) X.1 X.2.1 dX2_serve_22 (by decide) (fun c14 => ?_) (fun c14 => ?_)
          · refine lv_aload_n X.1 X.2.1 dX2_serve_36 rfl (lv_at hl 0 rfl) ?_
            refine lv_dup X.1 X.2.1 dX2_serve_37 rfl ?_
            refine g_get (v := .int (S13 r 3)) X K hw (by omega) (tt_eR (r := r) hr) rfl iT2 4 (by decide) q169 rfl dX2_serve_38 ?_
            refine lv_iconst (v := (1 : Int32)) X.1 X.2.1 dX2_serve_41 (by decide) ?_
            refine lv_isub X.1 X.2.1 dX2_serve_42 ?_
            refine lv_topi (fun x15 ex15 => ?_)
            refine g_put (S' := tt_up S13 r 3 x15) X K (c_ap K) hw (by omega) (tt_eR (r := r) hr) rfl iT2 tyX2_ok nmX2 4 (by decide) q169 rfl rfl rfl (Nat.le_of_ble_eq_true rfl) (tt_sR (r := r) (k := 3) hr (by decide)) dX2_serve_43 (fun S16 H locs eS16 hw => ?_)
            refine lv_aload_n X.1 X.2.1 dX2_serve_46 rfl (lv_at hl 0 rfl) ?_
            refine lv_dup X.1 X.2.1 dX2_serve_47 rfl ?_
            refine g_get (v := .int (S16 r 9)) X K hw (by omega) (tt_eR (r := r) hr) rfl iT2 10 (by decide) q182 rfl dX2_serve_48 ?_
            refine lv_iconst (v := (1 : Int32)) X.1 X.2.1 dX2_serve_51 (by decide) ?_
            refine lv_iadd X.1 X.2.1 dX2_serve_52 ?_
            refine lv_topi (fun x17 ex17 => ?_)
            refine g_put (S' := tt_up S16 r 9 x17) X K (c_ap K) hw (by omega) (tt_eR (r := r) hr) rfl iT2 tyX2_ok nmX2 10 (by decide) q182 rfl rfl rfl (Nat.le_of_ble_eq_true rfl) (tt_sR (r := r) (k := 9) hr (by decide)) dX2_serve_53 (fun S18 H locs eS18 hw => ?_)
            refine lv_aload_n X.1 X.2.1 dX2_serve_56 rfl (lv_at hl 1 rfl) ?_
            refine lv_dup X.1 X.2.1 dX2_serve_57 rfl ?_
            refine g_get (v := .int (S18 r (17 + 7 * d))) X K hw (by have := hr; have := hd; omega) (tt_eD (r := r) (d := d) hr hd) rfl iT1 5 (by decide) q139 rfl dX2_serve_58 ?_
            refine lv_iconst (v := (1 : Int32)) X.1 X.2.1 dX2_serve_61 (by decide) ?_
            refine lv_iadd X.1 X.2.1 dX2_serve_62 ?_
            refine lv_topi (fun x19 ex19 => ?_)
            refine g_put (S' := tt_up S18 r (17 + 7 * d) x19) X K (c_ap K) hw (by have := hr; have := hd; omega) (tt_eD (r := r) (d := d) hr hd) rfl iT1 tyX1_ok nmX1 5 (by decide) q139 rfl rfl rfl (Nat.le_of_ble_eq_true rfl) (tt_sD (r := r) (d := d) (k := 5) hr hd (by decide)) dX2_serve_63 (fun S20 H locs eS20 hw => ?_)
            refine lv_aload_n X.1 X.2.1 dX2_serve_66 rfl (lv_at hl 0 rfl) ?_
            refine lv_aload_n X.1 X.2.1 dX2_serve_67 rfl (lv_at hl 1 rfl) ?_
            refine lv_iload_n X.1 X.2.1 dX2_serve_68 rfl (lv_at hl 2 rfl) ?_
            refine c_callVV_s X K hw (k_X2_payCup l G S20 r d y2_2 hr hd) (g_cwV X hiX2_payCup q427 q429 q9 q68 q430 ⟨(Nat.le_of_ble_eq_true rfl), (Nat.le_of_ble_eq_true rfl)⟩) (by omega) (tt_eR (r := r) hr) rfl rfl hl.1 rfl (Nat.le_of_ble_eq_true rfl) dX2_serve_69 ⟨(Nat.le_of_ble_eq_true rfl), (Nat.le_of_ble_eq_true rfl)⟩ (fun S21 H locs eS21 hw => ?_)
            obtain ⟨x22, ex22⟩ : ∃ y : Int32, y = y2_2 + (1 : Int32) := ⟨_, rfl⟩
            refine lv_iinc (v := x22) (lv' := [(2, .int x22), (0, .ref (G.2.2 (30 + r))), (1, .ref (G.2.2 (10 * r + d)))]) X.1 X.2.1 dX2_serve_72 hl (k := 2) rfl (by rw [ex22]; rfl) (by decide) rfl (fun ls hl => ?_)
            refine lv_goto (tgt := 2) X.1 X.2.1 dX2_serve_75 (by decide) ?_
            have hF2 : f2_serve_L2 r d n S21 x22 = tgt := by
              rw [← hF]
              subst ez12 eS13 ex15 eS16 ex17 eS18 ex19 eS20 eS21 ex22
              simp only [f2_serve_L2, if_neg c2, if_pos c3, if_neg c14]
            exact ih S21 x22 _ _ ls (by rw [ex22]; exact lp_nn hI c2) (by rw [ex22, show S21 r (13 + 7 * d) = S1 r (13 + 7 * d) from by subst ez12 eS13 ex15 eS16 ex17 eS18 ex19 eS20 eS21 ex22; with_reducible first | exact fr_cup1 (fr_rfl _ _) | exact fr_cup1 (fr_isPotMade _ _ _)]; exact lp_dec' c2 hm) hF2 hw (lv_sub hl [1, 2, 0] rfl)
          · refine lv_aload_n X.1 X.2.1 dX2_serve_25 rfl (lv_at hl 0 rfl) ?_
            refine lv_dup X.1 X.2.1 dX2_serve_26 rfl ?_
            refine g_get (v := .int (S13 r 8)) X K hw (by omega) (tt_eR (r := r) hr) rfl iT2 9 (by decide) q180 rfl dX2_serve_27 ?_
            refine lv_iconst (v := (1 : Int32)) X.1 X.2.1 dX2_serve_30 (by decide) ?_
            refine lv_iadd X.1 X.2.1 dX2_serve_31 ?_
            refine lv_topi (fun x23 ex23 => ?_)
            refine g_put (S' := tt_up S13 r 8 x23) X K (c_ap K) hw (by omega) (tt_eR (r := r) hr) rfl iT2 tyX2_ok nmX2 9 (by decide) q180 rfl rfl rfl (Nat.le_of_ble_eq_true rfl) (tt_sR (r := r) (k := 8) hr (by decide)) dX2_serve_32 (fun S24 H locs eS24 hw => ?_)
            have hR : S24 = tgt := by
              rw [← hF]
              subst ez12 eS13 ex23 eS24
              simp only [f2_serve_L2, if_neg c2, if_pos c3, if_pos c14]
            exact g_vret X hret hlk hw hR dX2_serve_35
  have hF2 : f2_serve_L2 r d (lp_mu (S r (13 + 7 * d)) 0 + 1) S (0 : Int32) = tgt := by
    rw [← hF]
    simp only [f2_serve]
  exact j2 (lp_mu (S r (13 + 7 * d)) 0 + 1) S (0 : Int32) _ _ ls (by decide) (Nat.lt_succ_self _) hF2 hw (lv_sub hl [1, 2, 0] rfl)
set_option maxHeartbeats 4000000 in
set_option maxRecDepth 10000 in
theorem k_X2_endWeek (l : Launch) (G : tt_G) (S : tt_St) (r : Nat) (hr : r < 3) (hp0 : (S r 0).toInt ≤ 10) : c_MV l G yX2_endWeek (g_code yX2_endWeek cX2_endWeek 3 none) 3 82 [.ref (G.2.2 (30 + r))] S (f2_endWeek S r) := by
  generalize hF : f2_endWeek S r = tgt
  refine g_begin rfl (Nat.le_of_ble_eq_true rfl) _ (fun p e s m below meth c ls X hret hlk hB hl => ?_)
  obtain ⟨hP0, K⟩ := hB
  have hw : c_W G S s s.heap [] := ⟨hP0, va_S.rf⟩
  have X : CallFix p m c cX2_endWeek 3 s ([.ref (G.2.2 (30 + r))] : List Value).toArray tt_T "TrustTin$Room" := X
  have hl : lv_has ls 3 [(0, .ref (G.2.2 (30 + r)))] := hl
  refine lv_iconst (v := (0 : Int32)) X.1 X.2.1 dX2_endWeek_0 (by decide) ?_
  refine lv_istore_n (lv' := [(1, .int (0 : Int32)), (0, .ref (G.2.2 (30 + r)))]) X.1 X.2.1 dX2_endWeek_1 rfl hl (by decide) rfl (fun ls hl => ?_)
  have j2 : ∀ (n : Nat) (S1 : tt_St) (y1_2 : Int32) (H : Heap) (locs : List Loc) (ls : Array Slot), ((¬ y1_2 < 0) ∧ (S1 r 0).toInt ≤ 10) → lp_mu (S1 r 0) y1_2 < n → f2_endWeek_L2 r n S1 y1_2 = tgt → c_W G S1 s H locs → lv_has ls 3 [(0, .ref (G.2.2 (30 + r))), (1, .int y1_2)] → W p l e (g_rm 3 82) s m ([.ref (G.2.2 (30 + r))] : List Value).toArray below meth c H locs 0 0 (MQ below (va_Qv (fun T => T = tgt) (g_Post G 62 G.2.2 (tt_cell G)) (g_in 62 G.2.2)) ([.ref (G.2.2 (30 + r))] : List Value).toArray s 0 0 (g_in 62 G.2.2)) (F0 m 2 ls []) := by
    intro n
    induction n with
    | zero => intro S1 y1_2 H locs ls hI hm; exact absurd hm (Nat.not_lt_zero _)
    | succ n ih =>
      intro S1 y1_2 H locs ls hI hm hF hw hl
      refine lv_iload_n X.1 X.2.1 dX2_endWeek_2 rfl (lv_at hl 1 rfl) ?_
      refine lv_aload_n X.1 X.2.1 dX2_endWeek_3 rfl (lv_at hl 0 rfl) ?_
      refine g_get (v := .int (S1 r 0)) X K hw (by omega) (tt_eR (r := r) hr) rfl iT2 1 (by decide) q161 rfl dX2_endWeek_4 ?_
      refine lv_icmp_ge (tgt := 58) X.1 X.2.1 dX2_endWeek_7 (by decide) (fun c2 => ?_) (fun c2 => ?_)
      · refine lv_aload_n X.1 X.2.1 dX2_endWeek_58 rfl (lv_at hl 0 rfl) ?_
        refine lv_bipush (v := (6 : Int32)) X.1 X.2.1 dX2_endWeek_59 (by decide) ?_
        refine c_callVI_p X K hw (k_X2_sumOf l G S1 r (6 : Int32) hr (hI.2)) (g_cwV X hiX2_sumOf q392 q393 q394 q68 q395 ⟨(Nat.le_of_ble_eq_true rfl), (Nat.le_of_ble_eq_true rfl)⟩) (by omega) (tt_eR (r := r) hr) rfl rfl hl.1 rfl (Nat.le_of_ble_eq_true rfl) dX2_endWeek_61 ⟨(Nat.le_of_ble_eq_true rfl), (Nat.le_of_ble_eq_true rfl)⟩ (fun z3 H locs ez3 hw => ?_)
        refine lv_istore_n (lv' := [(1, .int z3), (0, .ref (G.2.2 (30 + r)))]) X.1 X.2.1 dX2_endWeek_64 rfl hl (by decide) rfl (fun ls hl => ?_)
        refine lv_aload_n X.1 X.2.1 dX2_endWeek_65 rfl (lv_at hl 1 rfl) ?_
        refine g_get (v := .ref (G.2.2 (36 + r))) X K hw (by omega) (tt_eR (r := r) hr) rfl iT2 12 (by decide) q186 rfl dX2_endWeek_66 ?_
        refine lv_aload_n X.1 X.2.1 dX2_endWeek_69 rfl (lv_at hl 1 rfl) ?_
        refine lv_iconst (v := (5 : Int32)) X.1 X.2.1 dX2_endWeek_70 (by decide) ?_
        refine c_callVI_p X K hw (k_X2_sumOf l G S1 r (5 : Int32) hr (hI.2)) (g_cwV X hiX2_sumOf q392 q393 q394 q68 q395 ⟨(Nat.le_of_ble_eq_true rfl), (Nat.le_of_ble_eq_true rfl)⟩) (by omega) (tt_eR (r := r) hr) rfl rfl hl.1 rfl (Nat.le_of_ble_eq_true rfl) dX2_endWeek_71 ⟨(Nat.le_of_ble_eq_true rfl), (Nat.le_of_ble_eq_true rfl)⟩ (fun z4 H locs ez4 hw => ?_)
        refine lv_iload_n X.1 X.2.1 dX2_endWeek_74 rfl (lv_at hl 0 rfl) ?_
        refine c_callVV_s X K hw (k_X0_put l G S1 r z4 z3 hr) (g_cwV X hiX0_put q443 q444 q445 q69 q446 ⟨(Nat.le_of_ble_eq_true rfl), (Nat.le_of_ble_eq_true rfl)⟩) (by omega) (tt_eB (r := r) hr) rfl rfl hl.1 rfl (Nat.le_of_ble_eq_true rfl) dX2_endWeek_75 ⟨(Nat.le_of_ble_eq_true rfl), (Nat.le_of_ble_eq_true rfl)⟩ (fun S5 H locs eS5 hw => ?_)
        refine lv_aload_n X.1 X.2.1 dX2_endWeek_78 rfl (lv_at hl 1 rfl) ?_
        refine c_callVI_p X K hw (k_X2_due l G S5 r hr (by rw [show S5 r 0 = S1 r 0 from by subst ez3 ez4 eS5; exact (fr_bput _ _ _ _).sz]; exact hI.2)) (g_cwV X hiX2_due q451 q389 q390 q68 q391 ⟨(Nat.le_of_ble_eq_true rfl), (Nat.le_of_ble_eq_true rfl)⟩) (by omega) (tt_eR (r := r) hr) rfl rfl hl.1 rfl (Nat.le_of_ble_eq_true rfl) dX2_endWeek_79 ⟨(Nat.le_of_ble_eq_true rfl), (Nat.le_of_ble_eq_true rfl)⟩ (fun z6 H locs ez6 hw => ?_)
        refine lv_istore_n (lv' := [(2, .int z6), (1, .int z3), (0, .ref (G.2.2 (30 + r)))]) X.1 X.2.1 dX2_endWeek_82 rfl hl (by decide) rfl (fun ls hl => ?_)
        refine lv_aload_n X.1 X.2.1 dX2_endWeek_83 rfl (lv_at hl 2 rfl) ?_
        refine lv_iload_n X.1 X.2.1 dX2_endWeek_84 rfl (lv_at hl 0 rfl) ?_
        refine lv_if_le (tgt := 103) X.1 X.2.1 dX2_endWeek_85 (by decide) (fun c7 => ?_) (fun c7 => ?_)
        · refine lv_bipush (v := (100 : Int32)) X.1 X.2.1 dX2_endWeek_103 (by decide) ?_
          refine g_put (S' := tt_up S5 r 6 (100 : Int32)) X K (c_ap K) hw (by omega) (tt_eR (r := r) hr) rfl iT2 tyX2_ok nmX2 7 (by decide) q176 rfl rfl rfl (Nat.le_of_ble_eq_true rfl) (tt_sR (r := r) (k := 6) hr (by decide)) dX2_endWeek_105 (fun S8 H locs eS8 hw => ?_)
          refine lv_aload_n X.1 X.2.1 dX2_endWeek_108 rfl (lv_at hl 2 rfl) ?_
          refine c_callVV_s X K hw (k_X2_beginWeek l G S8 r hr (by rw [show S8 r 0 = S1 r 0 from by subst ez3 ez4 eS5 ez6 eS8; exact (fr_tr (fr_bput _ _ _ _) (fr_up _ _ (al_c (by omega)))).sz]; exact hI.2)) (g_cwV X hiX2_beginWeek q452 q454 q13 q68 q455 ⟨(Nat.le_of_ble_eq_true rfl), (Nat.le_of_ble_eq_true rfl)⟩) (by omega) (tt_eR (r := r) hr) rfl rfl hl.1 rfl (Nat.le_of_ble_eq_true rfl) dX2_endWeek_109 ⟨(Nat.le_of_ble_eq_true rfl), (Nat.le_of_ble_eq_true rfl)⟩ (fun S9 H locs eS9 hw => ?_)
          have hR : S9 = tgt := by
            rw [← hF]
            subst ez3 ez4 eS5 ez6 eS8 eS9
            simp only [f2_endWeek_L2, if_pos c2, if_pos c7]
          exact g_vret X hret hlk hw hR dX2_endWeek_112
        · refine lv_iload_n X.1 X.2.1 dX2_endWeek_88 rfl (lv_at hl 1 rfl) ?_
          refine lv_bipush (v := (100 : Int32)) X.1 X.2.1 dX2_endWeek_89 (by decide) ?_
          refine lv_imul X.1 X.2.1 dX2_endWeek_91 ?_
          refine lv_iload_n X.1 X.2.1 dX2_endWeek_92 rfl (lv_at hl 0 rfl) ?_
          refine lv_idiv X.1 X.2.1 dX2_endWeek_93 (fun h => c7 (by rw [h]; decide)) ?_
          refine lv_sipush (v := (999 : Int32)) X.1 X.2.1 dX2_endWeek_94 (by decide) ?_
          refine va_mmin X.1 X.2.1 (X.2.2.1.trans hl.1.symm) X.2.2.2.1 (X.2.2.2.2 _ q321) (X.2.2.2.2 _ q322) (X.2.2.2.2 _ q75) (X.2.2.2.2 _ q323) (Nat.le_of_ble_eq_true rfl) (Nat.le_of_ble_eq_true rfl) (Nat.le_of_ble_eq_true rfl) (Nat.le_of_ble_eq_true rfl) dX2_endWeek_97 ?_
          refine lv_topi (fun x10 ex10 => ?_)
          refine lv_goto (tgt := 105) X.1 X.2.1 dX2_endWeek_100 (by decide) ?_
          refine g_put (S' := tt_up S5 r 6 x10) X K (c_ap K) hw (by omega) (tt_eR (r := r) hr) rfl iT2 tyX2_ok nmX2 7 (by decide) q176 rfl rfl rfl (Nat.le_of_ble_eq_true rfl) (tt_sR (r := r) (k := 6) hr (by decide)) dX2_endWeek_105 (fun S11 H locs eS11 hw => ?_)
          refine lv_aload_n X.1 X.2.1 dX2_endWeek_108 rfl (lv_at hl 2 rfl) ?_
          refine c_callVV_s X K hw (k_X2_beginWeek l G S11 r hr (by rw [show S11 r 0 = S1 r 0 from by subst ez3 ez4 eS5 ez6 ex10 eS11; exact (fr_tr (fr_bput _ _ _ _) (fr_up _ _ (al_c (by omega)))).sz]; exact hI.2)) (g_cwV X hiX2_beginWeek q452 q454 q13 q68 q455 ⟨(Nat.le_of_ble_eq_true rfl), (Nat.le_of_ble_eq_true rfl)⟩) (by omega) (tt_eR (r := r) hr) rfl rfl hl.1 rfl (Nat.le_of_ble_eq_true rfl) dX2_endWeek_109 ⟨(Nat.le_of_ble_eq_true rfl), (Nat.le_of_ble_eq_true rfl)⟩ (fun S12 H locs eS12 hw => ?_)
          have hR : S12 = tgt := by
            rw [← hF]
            subst ez3 ez4 eS5 ez6 ex10 eS11 eS12
            simp only [f2_endWeek_L2, if_pos c2, if_neg c7]
          exact g_vret X hret hlk hw hR dX2_endWeek_112
      · refine lv_aload_n X.1 X.2.1 dX2_endWeek_10 rfl (lv_at hl 0 rfl) ?_
        refine g_get (v := .ref (G.2.2 (33 + r))) X K hw (by omega) (tt_eR (r := r) hr) rfl iT2 0 (by decide) q159 rfl dX2_endWeek_11 ?_
        refine lv_iload_n X.1 X.2.1 dX2_endWeek_14 rfl (lv_at hl 1 rfl) ?_
        have hi13 : vp_in y1_2 10 := lp_in hI.1 c2 hI.2
        have hd14 : y1_2.toNatClampNeg < 10 := lp_cl hi13
        refine g_aald X K hw (by omega) (tt_eA (r := r) hr) 1 rfl hi13 rfl dX2_endWeek_15 ?_
        refine lv_astore_n (lv' := [(2, .ref (G.2.2 (10 * r + y1_2.toNatClampNeg))), (0, .ref (G.2.2 (30 + r))), (1, .int y1_2)]) X.1 X.2.1 dX2_endWeek_16 rfl hl (by decide) rfl (fun ls hl => ?_)
        refine lv_aload_n X.1 X.2.1 dX2_endWeek_17 rfl (lv_at hl 0 rfl) ?_
        refine g_get (v := .int (S1 r (12 + 7 * y1_2.toNatClampNeg))) X K hw (by have := hr; have := hd14; omega) (tt_eD (r := r) (d := y1_2.toNatClampNeg) hr hd14) rfl iT1 0 (by decide) q124 rfl dX2_endWeek_18 ?_
        refine lv_iconst (v := (1 : Int32)) X.1 X.2.1 dX2_endWeek_21 (by decide) ?_
        refine lv_icmp_eq (tgt := 34) X.1 X.2.1 dX2_endWeek_22 (by decide) (fun c15 => ?_) (fun c15 => ?_)
        · refine lv_aload_n X.1 X.2.1 dX2_endWeek_34 rfl (lv_at hl 0 rfl) ?_
          refine lv_dup X.1 X.2.1 dX2_endWeek_35 rfl ?_
          refine g_get (v := .int (S1 r (16 + 7 * y1_2.toNatClampNeg))) X K hw (by have := hr; have := hd14; omega) (tt_eD (r := r) (d := y1_2.toNatClampNeg) hr hd14) rfl iT1 4 (by decide) q137 rfl dX2_endWeek_36 ?_
          refine lv_aload_n X.1 X.2.1 dX2_endWeek_39 rfl (lv_at hl 1 rfl) ?_
          refine lv_aload_n X.1 X.2.1 dX2_endWeek_40 rfl (lv_at hl 0 rfl) ?_
          refine lv_aload_n X.1 X.2.1 dX2_endWeek_41 rfl (lv_at hl 0 rfl) ?_
          refine g_get (v := .int (S1 r (16 + 7 * y1_2.toNatClampNeg))) X K hw (by have := hr; have := hd14; omega) (tt_eD (r := r) (d := y1_2.toNatClampNeg) hr hd14) rfl iT1 4 (by decide) q137 rfl dX2_endWeek_42 ?_
          refine c_callVI_s X K hw (k_X2_pay l G S1 r y1_2.toNatClampNeg (S1 r (16 + 7 * y1_2.toNatClampNeg)) hr hd14) (g_cwV X hiX2_pay q435 q437 q11 q68 q438 ⟨(Nat.le_of_ble_eq_true rfl), (Nat.le_of_ble_eq_true rfl)⟩) (by omega) (tt_eR (r := r) hr) rfl rfl hl.1 rfl (Nat.le_of_ble_eq_true rfl) dX2_endWeek_45 ⟨(Nat.le_of_ble_eq_true rfl), (Nat.le_of_ble_eq_true rfl)⟩ (fun z16 S17 H locs ez16 eS17 hw => ?_)
          refine lv_isub X.1 X.2.1 dX2_endWeek_48 ?_
          refine lv_topi (fun x18 ex18 => ?_)
          refine g_put (S' := tt_up S17 r (16 + 7 * y1_2.toNatClampNeg) x18) X K (c_ap K) hw (by have := hr; have := hd14; omega) (tt_eD (r := r) (d := y1_2.toNatClampNeg) hr hd14) rfl iT1 tyX1_ok nmX1 4 (by decide) q137 rfl rfl rfl (Nat.le_of_ble_eq_true rfl) (tt_sD (r := r) (d := y1_2.toNatClampNeg) (k := 4) hr hd14 (by decide)) dX2_endWeek_49 (fun S19 H locs eS19 hw => ?_)
          obtain ⟨x20, ex20⟩ : ∃ y : Int32, y = y1_2 + (1 : Int32) := ⟨_, rfl⟩
          refine lv_iinc (v := x20) (lv' := [(1, .int x20), (2, .ref (G.2.2 (10 * r + y1_2.toNatClampNeg))), (0, .ref (G.2.2 (30 + r)))]) X.1 X.2.1 dX2_endWeek_52 hl (k := 2) rfl (by rw [ex20]; rfl) (by decide) rfl (fun ls hl => ?_)
          refine lv_goto (tgt := 2) X.1 X.2.1 dX2_endWeek_55 (by decide) ?_
          have hF2 : f2_endWeek_L2 r n S19 x20 = tgt := by
            rw [← hF]
            subst ez16 eS17 ex18 eS19 ex20
            simp only [f2_endWeek_L2, if_neg c2, if_pos c15]
          exact ih S19 x20 _ _ ls (⟨by rw [ex20]; exact lp_nn hI.1 c2, by rw [show S19 r 0 = S1 r 0 from by subst ez16 eS17 ex18 eS19 ex20; exact (by first | rfl | exact (fr_tr (fr_pay _ _ _ _) (fr_up _ _ (al_d (by omega)))).sz)]; exact hI.2⟩) (by rw [ex20, show S19 r 0 = S1 r 0 from by subst ez16 eS17 ex18 eS19 ex20; exact (by first | rfl | exact (fr_tr (fr_pay _ _ _ _) (fr_up _ _ (al_d (by omega)))).sz)]; exact lp_dec' c2 hm) hF2 hw (lv_sub hl [2, 0] rfl)
        · refine lv_aload_n X.1 X.2.1 dX2_endWeek_25 rfl (lv_at hl 0 rfl) ?_
          refine g_get (v := .int (S1 r (12 + 7 * y1_2.toNatClampNeg))) X K hw (by have := hr; have := hd14; omega) (tt_eD (r := r) (d := y1_2.toNatClampNeg) hr hd14) rfl iT1 0 (by decide) q124 rfl dX2_endWeek_26 ?_
          refine lv_bipush (v := (6 : Int32)) X.1 X.2.1 dX2_endWeek_29 (by decide) ?_
          refine lv_icmp_ne (tgt := 52) X.1 X.2.1 dX2_endWeek_31 (by decide) (fun c21 => ?_) (fun c21 => ?_)
          · obtain ⟨x22, ex22⟩ : ∃ y : Int32, y = y1_2 + (1 : Int32) := ⟨_, rfl⟩
            refine lv_iinc (v := x22) (lv' := [(1, .int x22), (2, .ref (G.2.2 (10 * r + y1_2.toNatClampNeg))), (0, .ref (G.2.2 (30 + r)))]) X.1 X.2.1 dX2_endWeek_52 hl (k := 2) rfl (by rw [ex22]; rfl) (by decide) rfl (fun ls hl => ?_)
            refine lv_goto (tgt := 2) X.1 X.2.1 dX2_endWeek_55 (by decide) ?_
            have hF2 : f2_endWeek_L2 r n S1 x22 = tgt := by
              rw [← hF]
              subst ex22
              simp only [f2_endWeek_L2, if_neg c2, if_neg c15, if_neg c21]
            exact ih S1 x22 _ _ ls (⟨by rw [ex22]; exact lp_nn hI.1 c2, by rw [show S1 r 0 = S1 r 0 from by subst ex22; exact (by first | rfl | exact (fr_tr (fr_pay _ _ _ _) (fr_up _ _ (al_d (by omega)))).sz)]; exact hI.2⟩) (by rw [ex22, show S1 r 0 = S1 r 0 from by subst ex22; exact (by first | rfl | exact (fr_tr (fr_pay _ _ _ _) (fr_up _ _ (al_d (by omega)))).sz)]; exact lp_dec' c2 hm) hF2 hw (lv_sub hl [2, 0] rfl)
          · refine lv_aload_n X.1 X.2.1 dX2_endWeek_34 rfl (lv_at hl 0 rfl) ?_
            refine lv_dup X.1 X.2.1 dX2_endWeek_35 rfl ?_
            refine g_get (v := .int (S1 r (16 + 7 * y1_2.toNatClampNeg))) X K hw (by have := hr; have := hd14; omega) (tt_eD (r := r) (d := y1_2.toNatClampNeg) hr hd14) rfl iT1 4 (by decide) q137 rfl dX2_endWeek_36 ?_
            refine lv_aload_n X.1 X.2.1 dX2_endWeek_39 rfl (lv_at hl 1 rfl) ?_
            refine lv_aload_n X.1 X.2.1 dX2_endWeek_40 rfl (lv_at hl 0 rfl) ?_
            refine lv_aload_n X.1 X.2.1 dX2_endWeek_41 rfl (lv_at hl 0 rfl) ?_
            refine g_get (v := .int (S1 r (16 + 7 * y1_2.toNatClampNeg))) X K hw (by have := hr; have := hd14; omega) (tt_eD (r := r) (d := y1_2.toNatClampNeg) hr hd14) rfl iT1 4 (by decide) q137 rfl dX2_endWeek_42 ?_
            refine c_callVI_s X K hw (k_X2_pay l G S1 r y1_2.toNatClampNeg (S1 r (16 + 7 * y1_2.toNatClampNeg)) hr hd14) (g_cwV X hiX2_pay q435 q437 q11 q68 q438 ⟨(Nat.le_of_ble_eq_true rfl), (Nat.le_of_ble_eq_true rfl)⟩) (by omega) (tt_eR (r := r) hr) rfl rfl hl.1 rfl (Nat.le_of_ble_eq_true rfl) dX2_endWeek_45 ⟨(Nat.le_of_ble_eq_true rfl), (Nat.le_of_ble_eq_true rfl)⟩ (fun z23 S24 H locs ez23 eS24 hw => ?_)
            refine lv_isub X.1 X.2.1 dX2_endWeek_48 ?_
            refine lv_topi (fun x25 ex25 => ?_)
            refine g_put (S' := tt_up S24 r (16 + 7 * y1_2.toNatClampNeg) x25) X K (c_ap K) hw (by have := hr; have := hd14; omega) (tt_eD (r := r) (d := y1_2.toNatClampNeg) hr hd14) rfl iT1 tyX1_ok nmX1 4 (by decide) q137 rfl rfl rfl (Nat.le_of_ble_eq_true rfl) (tt_sD (r := r) (d := y1_2.toNatClampNeg) (k := 4) hr hd14 (by decide)) dX2_endWeek_49 (fun S26 H locs eS26 hw => ?_)
            obtain ⟨x27, ex27⟩ : ∃ y : Int32, y = y1_2 + (1 : Int32) := ⟨_, rfl⟩
            refine lv_iinc (v := x27) (lv' := [(1, .int x27), (2, .ref (G.2.2 (10 * r + y1_2.toNatClampNeg))), (0, .ref (G.2.2 (30 + r)))]) X.1 X.2.1 dX2_endWeek_52 hl (k := 2) rfl (by rw [ex27]; rfl) (by decide) rfl (fun ls hl => ?_)
            refine lv_goto (tgt := 2) X.1 X.2.1 dX2_endWeek_55 (by decide) ?_
            have hF2 : f2_endWeek_L2 r n S26 x27 = tgt := by
              rw [← hF]
              subst ez23 eS24 ex25 eS26 ex27
              simp only [f2_endWeek_L2, if_neg c2, if_neg c15, if_pos c21]
            exact ih S26 x27 _ _ ls (⟨by rw [ex27]; exact lp_nn hI.1 c2, by rw [show S26 r 0 = S1 r 0 from by subst ez23 eS24 ex25 eS26 ex27; exact (by first | rfl | exact (fr_tr (fr_pay _ _ _ _) (fr_up _ _ (al_d (by omega)))).sz)]; exact hI.2⟩) (by rw [ex27, show S26 r 0 = S1 r 0 from by subst ez23 eS24 ex25 eS26 ex27; exact (by first | rfl | exact (fr_tr (fr_pay _ _ _ _) (fr_up _ _ (al_d (by omega)))).sz)]; exact lp_dec' c2 hm) hF2 hw (lv_sub hl [2, 0] rfl)
  have hF2 : f2_endWeek_L2 r (lp_mu (S r 0) 0 + 1) S (0 : Int32) = tgt := by
    rw [← hF]
    simp only [f2_endWeek]
  exact j2 (lp_mu (S r 0) 0 + 1) S (0 : Int32) _ _ ls (⟨by decide, hp0⟩) (Nat.lt_succ_self _) hF2 hw (lv_sub hl [1, 0] rfl)
set_option maxHeartbeats 4000000 in
set_option maxRecDepth 10000 in
theorem k_X2_goDay (l : Launch) (G : tt_G) (S : tt_St) (r : Nat) (hr : r < 3) (hp0 : (S r 0).toInt ≤ 10) : c_MV l G yX2_goDay (g_code yX2_goDay cX2_goDay 2 none) 4 104 [.ref (G.2.2 (30 + r))] S (f2_goDay S r) := by
  generalize hF : f2_goDay S r = tgt
  refine g_begin rfl (Nat.le_of_ble_eq_true rfl) _ (fun p e s m below meth c ls X hret hlk hB hl => ?_)
  obtain ⟨hP0, K⟩ := hB
  have hw : c_W G S s s.heap [] := ⟨hP0, va_S.rf⟩
  have X : CallFix p m c cX2_goDay 2 s ([.ref (G.2.2 (30 + r))] : List Value).toArray tt_T "TrustTin$Room" := X
  have hl : lv_has ls 2 [(0, .ref (G.2.2 (30 + r)))] := hl
  refine lv_iconst (v := (0 : Int32)) X.1 X.2.1 dX2_goDay_0 (by decide) ?_
  refine lv_istore_n (lv' := [(1, .int (0 : Int32)), (0, .ref (G.2.2 (30 + r)))]) X.1 X.2.1 dX2_goDay_1 rfl hl (by decide) rfl (fun ls hl => ?_)
  have j2 : ∀ (n : Nat) (S1 : tt_St) (y1_2 : Int32) (H : Heap) (locs : List Loc) (ls : Array Slot), ((¬ y1_2 < 0) ∧ (S1 r 0).toInt ≤ 10) → lp_mu (S1 r 0) y1_2 < n → f2_goDay_L2 r n S1 y1_2 = tgt → c_W G S1 s H locs → lv_has ls 2 [(0, .ref (G.2.2 (30 + r))), (1, .int y1_2)] → W p l e (g_rm 4 104) s m ([.ref (G.2.2 (30 + r))] : List Value).toArray below meth c H locs 0 0 (MQ below (va_Qv (fun T => T = tgt) (g_Post G 62 G.2.2 (tt_cell G)) (g_in 62 G.2.2)) ([.ref (G.2.2 (30 + r))] : List Value).toArray s 0 0 (g_in 62 G.2.2)) (F0 m 2 ls []) := by
    intro n
    induction n with
    | zero => intro S1 y1_2 H locs ls hI hm; exact absurd hm (Nat.not_lt_zero _)
    | succ n ih =>
      intro S1 y1_2 H locs ls hI hm hF hw hl
      refine lv_iload_n X.1 X.2.1 dX2_goDay_2 rfl (lv_at hl 1 rfl) ?_
      refine lv_aload_n X.1 X.2.1 dX2_goDay_3 rfl (lv_at hl 0 rfl) ?_
      refine g_get (v := .int (S1 r 0)) X K hw (by omega) (tt_eR (r := r) hr) rfl iT2 1 (by decide) q161 rfl dX2_goDay_4 ?_
      refine lv_icmp_ge (tgt := 42) X.1 X.2.1 dX2_goDay_7 (by decide) (fun c2 => ?_) (fun c2 => ?_)
      · refine lv_aload_n X.1 X.2.1 dX2_goDay_42 rfl (lv_at hl 0 rfl) ?_
        refine lv_aload_n X.1 X.2.1 dX2_goDay_43 rfl (lv_at hl 0 rfl) ?_
        refine g_get (v := .int (S1 r 2)) X K hw (by omega) (tt_eR (r := r) hr) rfl iT2 3 (by decide) q167 rfl dX2_goDay_44 ?_
        refine lv_topi (fun x3 ex3 => ?_)
        refine g_put (S' := tt_up S1 r 3 x3) X K (c_ap K) hw (by omega) (tt_eR (r := r) hr) rfl iT2 tyX2_ok nmX2 4 (by decide) q169 rfl rfl rfl (Nat.le_of_ble_eq_true rfl) (tt_sR (r := r) (k := 3) hr (by decide)) dX2_goDay_47 (fun S4 H locs eS4 hw => ?_)
        refine lv_aload_n X.1 X.2.1 dX2_goDay_50 rfl (lv_at hl 0 rfl) ?_
        refine g_get (v := .int (S4 r 7)) X K hw (by omega) (tt_eR (r := r) hr) rfl iT2 8 (by decide) q178 rfl dX2_goDay_51 ?_
        refine lv_iconst (v := (5 : Int32)) X.1 X.2.1 dX2_goDay_54 (by decide) ?_
        refine lv_irem X.1 X.2.1 dX2_goDay_55 (by decide) ?_
        refine lv_iconst (v := (4 : Int32)) X.1 X.2.1 dX2_goDay_56 (by decide) ?_
        refine lv_icmp_ne (tgt := 64) X.1 X.2.1 dX2_goDay_57 (by decide) (fun c5 => ?_) (fun c5 => ?_)
        · refine lv_aload_n X.1 X.2.1 dX2_goDay_64 rfl (lv_at hl 0 rfl) ?_
          refine lv_dup X.1 X.2.1 dX2_goDay_65 rfl ?_
          refine g_get (v := .int (S4 r 7)) X K hw (by omega) (tt_eR (r := r) hr) rfl iT2 8 (by decide) q178 rfl dX2_goDay_66 ?_
          refine lv_iconst (v := (1 : Int32)) X.1 X.2.1 dX2_goDay_69 (by decide) ?_
          refine lv_iadd X.1 X.2.1 dX2_goDay_70 ?_
          refine lv_topi (fun x6 ex6 => ?_)
          refine g_put (S' := tt_up S4 r 7 x6) X K (c_ap K) hw (by omega) (tt_eR (r := r) hr) rfl iT2 tyX2_ok nmX2 8 (by decide) q178 rfl rfl rfl (Nat.le_of_ble_eq_true rfl) (tt_sR (r := r) (k := 7) hr (by decide)) dX2_goDay_71 (fun S7 H locs eS7 hw => ?_)
          have hR : S7 = tgt := by
            rw [← hF]
            subst ex3 eS4 ex6 eS7
            simp only [f2_goDay_L2, if_pos c2, if_neg c5]
          exact g_vret X hret hlk hw hR dX2_goDay_74
        · refine lv_aload_n X.1 X.2.1 dX2_goDay_60 rfl (lv_at hl 0 rfl) ?_
          refine c_callVV_s X K hw (k_X2_endWeek l G S4 r hr (by rw [show S4 r 0 = S1 r 0 from by subst ex3 eS4; exact (fr_up _ _ (al_c (by omega))).sz]; exact hI.2)) (g_cwV X hiX2_endWeek q439 q441 q12 q68 q442 ⟨(Nat.le_of_ble_eq_true rfl), (Nat.le_of_ble_eq_true rfl)⟩) (by omega) (tt_eR (r := r) hr) rfl rfl hl.1 rfl (Nat.le_of_ble_eq_true rfl) dX2_goDay_61 ⟨(Nat.le_of_ble_eq_true rfl), (Nat.le_of_ble_eq_true rfl)⟩ (fun S8 H locs eS8 hw => ?_)
          refine lv_aload_n X.1 X.2.1 dX2_goDay_64 rfl (lv_at hl 0 rfl) ?_
          refine lv_dup X.1 X.2.1 dX2_goDay_65 rfl ?_
          refine g_get (v := .int (S8 r 7)) X K hw (by omega) (tt_eR (r := r) hr) rfl iT2 8 (by decide) q178 rfl dX2_goDay_66 ?_
          refine lv_iconst (v := (1 : Int32)) X.1 X.2.1 dX2_goDay_69 (by decide) ?_
          refine lv_iadd X.1 X.2.1 dX2_goDay_70 ?_
          refine lv_topi (fun x9 ex9 => ?_)
          refine g_put (S' := tt_up S8 r 7 x9) X K (c_ap K) hw (by omega) (tt_eR (r := r) hr) rfl iT2 tyX2_ok nmX2 8 (by decide) q178 rfl rfl rfl (Nat.le_of_ble_eq_true rfl) (tt_sR (r := r) (k := 7) hr (by decide)) dX2_goDay_71 (fun S10 H locs eS10 hw => ?_)
          have hR : S10 = tgt := by
            rw [← hF]
            subst ex3 eS4 eS8 ex9 eS10
            simp only [f2_goDay_L2, if_pos c2, if_pos c5]
          exact g_vret X hret hlk hw hR dX2_goDay_74
      · refine lv_aload_n X.1 X.2.1 dX2_goDay_10 rfl (lv_at hl 0 rfl) ?_
        refine g_get (v := .ref (G.2.2 (33 + r))) X K hw (by omega) (tt_eR (r := r) hr) rfl iT2 0 (by decide) q159 rfl dX2_goDay_11 ?_
        refine lv_iload_n X.1 X.2.1 dX2_goDay_14 rfl (lv_at hl 1 rfl) ?_
        have hi11 : vp_in y1_2 10 := lp_in hI.1 c2 hI.2
        have hd12 : y1_2.toNatClampNeg < 10 := lp_cl hi11
        refine g_aald X K hw (by omega) (tt_eA (r := r) hr) 1 rfl hi11 rfl dX2_goDay_15 ?_
        refine g_get (v := .int (S1 r (15 + 7 * y1_2.toNatClampNeg))) X K hw (by have := hr; have := hd12; omega) (tt_eD (r := r) (d := y1_2.toNatClampNeg) hr hd12) rfl iT1 3 (by decide) q134 rfl dX2_goDay_16 ?_
        refine lv_aload_n X.1 X.2.1 dX2_goDay_19 rfl (lv_at hl 0 rfl) ?_
        refine g_get (v := .int (S1 r 1)) X K hw (by omega) (tt_eR (r := r) hr) rfl iT2 2 (by decide) q164 rfl dX2_goDay_20 ?_
        refine lv_icmp_lt (tgt := 36) X.1 X.2.1 dX2_goDay_23 (by decide) (fun c13 => ?_) (fun c13 => ?_)
        · obtain ⟨x14, ex14⟩ : ∃ y : Int32, y = y1_2 + (1 : Int32) := ⟨_, rfl⟩
          refine lv_iinc (v := x14) (lv' := [(1, .int x14), (0, .ref (G.2.2 (30 + r)))]) X.1 X.2.1 dX2_goDay_36 hl (k := 1) rfl (by rw [ex14]; rfl) (by decide) rfl (fun ls hl => ?_)
          refine lv_goto (tgt := 2) X.1 X.2.1 dX2_goDay_39 (by decide) ?_
          have hF2 : f2_goDay_L2 r n S1 x14 = tgt := by
            rw [← hF]
            subst ex14
            simp only [f2_goDay_L2, if_neg c2, if_pos c13]
          exact ih S1 x14 _ _ ls (⟨by rw [ex14]; exact lp_nn hI.1 c2, by rw [show S1 r 0 = S1 r 0 from by subst ex14; exact (by first | rfl | exact (fr_serve _ _ _).sz)]; exact hI.2⟩) (by rw [ex14, show S1 r 0 = S1 r 0 from by subst ex14; exact (by first | rfl | exact (fr_serve _ _ _).sz)]; exact lp_dec' c2 hm) hF2 hw (lv_sub hl [1, 0] rfl)
        · refine lv_aload_n X.1 X.2.1 dX2_goDay_26 rfl (lv_at hl 0 rfl) ?_
          refine lv_aload_n X.1 X.2.1 dX2_goDay_27 rfl (lv_at hl 0 rfl) ?_
          refine g_get (v := .ref (G.2.2 (33 + r))) X K hw (by omega) (tt_eR (r := r) hr) rfl iT2 0 (by decide) q159 rfl dX2_goDay_28 ?_
          refine lv_iload_n X.1 X.2.1 dX2_goDay_31 rfl (lv_at hl 1 rfl) ?_
          have hi15 : vp_in y1_2 10 := lp_in hI.1 c2 hI.2
          refine g_aald X K hw (by omega) (tt_eA (r := r) hr) 1 rfl hi15 rfl dX2_goDay_32 ?_
          refine c_callVV_s X K hw (k_X2_serve l G S1 r y1_2.toNatClampNeg hr hd12) (g_cwV X hiX2_serve q414 q416 q7 q68 q417 ⟨(Nat.le_of_ble_eq_true rfl), (Nat.le_of_ble_eq_true rfl)⟩) (by omega) (tt_eR (r := r) hr) rfl rfl hl.1 rfl (Nat.le_of_ble_eq_true rfl) dX2_goDay_33 ⟨(Nat.le_of_ble_eq_true rfl), (Nat.le_of_ble_eq_true rfl)⟩ (fun S16 H locs eS16 hw => ?_)
          obtain ⟨x17, ex17⟩ : ∃ y : Int32, y = y1_2 + (1 : Int32) := ⟨_, rfl⟩
          refine lv_iinc (v := x17) (lv' := [(1, .int x17), (0, .ref (G.2.2 (30 + r)))]) X.1 X.2.1 dX2_goDay_36 hl (k := 1) rfl (by rw [ex17]; rfl) (by decide) rfl (fun ls hl => ?_)
          refine lv_goto (tgt := 2) X.1 X.2.1 dX2_goDay_39 (by decide) ?_
          have hF2 : f2_goDay_L2 r n S16 x17 = tgt := by
            rw [← hF]
            subst eS16 ex17
            simp only [f2_goDay_L2, if_neg c2, if_neg c13]
          exact ih S16 x17 _ _ ls (⟨by rw [ex17]; exact lp_nn hI.1 c2, by rw [show S16 r 0 = S1 r 0 from by subst eS16 ex17; exact (by first | rfl | exact (fr_serve _ _ _).sz)]; exact hI.2⟩) (by rw [ex17, show S16 r 0 = S1 r 0 from by subst eS16 ex17; exact (by first | rfl | exact (fr_serve _ _ _).sz)]; exact lp_dec' c2 hm) hF2 hw (lv_sub hl [1, 0] rfl)
  have hF2 : f2_goDay_L2 r (lp_mu (S r 0) 0 + 1) S (0 : Int32) = tgt := by
    rw [← hF]
    simp only [f2_goDay]
  exact j2 (lp_mu (S r 0) 0 + 1) S (0 : Int32) _ _ ls (⟨by decide, hp0⟩) (Nat.lt_succ_self _) hF2 hw (lv_sub hl [1, 0] rfl)
set_option maxHeartbeats 4000000 in
set_option maxRecDepth 10000 in
theorem k_X2_goDays (l : Launch) (G : tt_G) (S : tt_St) (r : Nat) (a1 : Int32) (hr : r < 3) (hp0 : (S r 0).toInt ≤ 10) : c_MI l G yX2_goDays (g_code yX2_goDays cX2_goDays 4 (some FieldType.int)) 5 125 [.ref (G.2.2 (30 + r)), .int a1] S ((f2_goDays S r a1).1) ((f2_goDays S r a1).2) := by
  generalize hF : f2_goDays S r a1 = tgt
  refine g_begin rfl (Nat.le_of_ble_eq_true rfl) _ (fun p e s m below meth c ls X hret hlk hB hl => ?_)
  obtain ⟨hP0, K⟩ := hB
  have hw : c_W G S s s.heap [] := ⟨hP0, va_S.rf⟩
  have X : CallFix p m c cX2_goDays 4 s ([.ref (G.2.2 (30 + r)), .int a1] : List Value).toArray tt_T "TrustTin$Room" := X
  have hl : lv_has ls 4 [(0, .ref (G.2.2 (30 + r))), (1, .int a1)] := hl
  refine lv_aload_n X.1 X.2.1 dX2_goDays_0 rfl (lv_at hl 0 rfl) ?_
  refine g_get (v := .int (S r 4)) X K hw (by omega) (tt_eR (r := r) hr) rfl iT2 5 (by decide) q171 rfl dX2_goDays_1 ?_
  refine lv_topi (fun x1 ex1 => ?_)
  refine lv_istore_n (lv' := [(2, .int x1), (0, .ref (G.2.2 (30 + r))), (1, .int a1)]) X.1 X.2.1 dX2_goDays_4 rfl hl (by decide) rfl (fun ls hl => ?_)
  refine lv_iconst (v := (0 : Int32)) X.1 X.2.1 dX2_goDays_5 (by decide) ?_
  refine lv_istore_n (lv' := [(3, .int (0 : Int32)), (2, .int x1), (0, .ref (G.2.2 (30 + r))), (1, .int a1)]) X.1 X.2.1 dX2_goDays_6 rfl hl (by decide) rfl (fun ls hl => ?_)
  have j7 : ∀ (n : Nat) (S2 : tt_St) (y2_7 : Int32) (y3_7 : Int32) (H : Heap) (locs : List Loc) (ls : Array Slot), ((¬ y3_7 < 0) ∧ (S2 r 0).toInt ≤ 10) → lp_mu a1 y3_7 < n → f2_goDays_L7 r a1 n S2 y2_7 y3_7 = tgt → c_W G S2 s H locs → lv_has ls 4 [(0, .ref (G.2.2 (30 + r))), (1, .int a1), (2, .int y2_7), (3, .int y3_7)] → W p l e (g_rm 5 125) s m ([.ref (G.2.2 (30 + r)), .int a1] : List Value).toArray below meth c H locs 0 0 (MQ below (va_Qi (fun r T => r = tgt.1 ∧ T = tgt.2) (g_Post G 62 G.2.2 (tt_cell G)) (g_in 62 G.2.2)) ([.ref (G.2.2 (30 + r)), .int a1] : List Value).toArray s 0 0 (g_in 62 G.2.2)) (F0 m 7 ls []) := by
    intro n
    induction n with
    | zero => intro S2 y2_7 y3_7 H locs ls hI hm; exact absurd hm (Nat.not_lt_zero _)
    | succ n ih =>
      intro S2 y2_7 y3_7 H locs ls hI hm hF hw hl
      refine lv_iload_n X.1 X.2.1 dX2_goDays_7 rfl (lv_at hl 3 rfl) ?_
      refine lv_iload_n X.1 X.2.1 dX2_goDays_8 rfl (lv_at hl 1 rfl) ?_
      refine lv_icmp_ge (tgt := 22) X.1 X.2.1 dX2_goDays_9 (by decide) (fun c3 => ?_) (fun c3 => ?_)
      · refine lv_aload_n X.1 X.2.1 dX2_goDays_22 rfl (lv_at hl 0 rfl) ?_
        refine g_get (v := .int (S2 r 4)) X K hw (by omega) (tt_eR (r := r) hr) rfl iT2 5 (by decide) q171 rfl dX2_goDays_23 ?_
        refine lv_iload_n X.1 X.2.1 dX2_goDays_26 rfl (lv_at hl 2 rfl) ?_
        refine lv_isub X.1 X.2.1 dX2_goDays_27 ?_
        have hR : ((S2 r 4) - y2_7, S2) = tgt := by
          rw [← hF]
          simp only [f2_goDays_L7, if_pos c3]
        have hRR : (S2 r 4) - y2_7 = tgt.1 := pr1 hR
        have hRS : S2 = tgt.2 := pr2 hR
        exact g_iret X hret hlk hw hRR hRS dX2_goDays_28
      · refine lv_aload_n X.1 X.2.1 dX2_goDays_12 rfl (lv_at hl 0 rfl) ?_
        refine c_callVV_s X K hw (k_X2_goDay l G S2 r hr (hI.2)) (g_cwV X hiX2_goDay q410 q412 q6 q68 q413 ⟨(Nat.le_of_ble_eq_true rfl), (Nat.le_of_ble_eq_true rfl)⟩) (by omega) (tt_eR (r := r) hr) rfl rfl hl.1 rfl (Nat.le_of_ble_eq_true rfl) dX2_goDays_13 ⟨(Nat.le_of_ble_eq_true rfl), (Nat.le_of_ble_eq_true rfl)⟩ (fun S4 H locs eS4 hw => ?_)
        obtain ⟨x5, ex5⟩ : ∃ y : Int32, y = y3_7 + (1 : Int32) := ⟨_, rfl⟩
        refine lv_iinc (v := x5) (lv' := [(3, .int x5), (0, .ref (G.2.2 (30 + r))), (1, .int a1), (2, .int y2_7)]) X.1 X.2.1 dX2_goDays_16 hl (k := 3) rfl (by rw [ex5]; rfl) (by decide) rfl (fun ls hl => ?_)
        refine lv_goto (tgt := 7) X.1 X.2.1 dX2_goDays_19 (by decide) ?_
        have hF2 : f2_goDays_L7 r a1 n S4 y2_7 x5 = tgt := by
          rw [← hF]
          subst eS4 ex5
          simp only [f2_goDays_L7, if_neg c3]
        exact ih S4 y2_7 x5 _ _ ls (⟨by rw [ex5]; exact lp_nn hI.1 c3, by rw [show S4 r 0 = S2 r 0 from by subst eS4 ex5; exact (fr_goDay _ _).sz]; exact hI.2⟩) (by rw [ex5]; exact lp_dec' c3 hm) hF2 hw (lv_sub hl [1, 2, 3, 0] rfl)
  have hF2 : f2_goDays_L7 r a1 (lp_mu a1 0 + 1) S x1 (0 : Int32) = tgt := by
    rw [← hF]
    subst ex1
    simp only [f2_goDays]
  exact j7 (lp_mu a1 0 + 1) S x1 (0 : Int32) _ _ ls (⟨by decide, hp0⟩) (Nat.lt_succ_self _) hF2 hw (lv_sub hl [2, 3, 1, 0] rfl)
set_option maxHeartbeats 4000000 in
set_option maxRecDepth 10000 in
theorem k_X3_isMissing (l : Launch) (G : tt_G) (S : tt_St) (k : Nat) (hk : k < 4) : c_MI l G yX3_isMissing (g_code yX3_isMissing cX3_isMissing 1 (some FieldType.boolean)) 0 0 [.ref (G.2.2 (48 + k))] S (f3_isMissing S k) S := by
  generalize hF : f3_isMissing S k = tgt
  refine g_begin rfl (Nat.le_of_ble_eq_true rfl) _ (fun p e s m below meth c ls X hret hlk hB hl => ?_)
  obtain ⟨hP0, K⟩ := hB
  have hw : c_W G S s s.heap [] := ⟨hP0, va_S.rf⟩
  have X : CallFix p m c cX3_isMissing 1 s ([.ref (G.2.2 (48 + k))] : List Value).toArray tt_T "TrustTin$Sheet" := X
  have hl : lv_has ls 1 [(0, .ref (G.2.2 (48 + k)))] := hl
  refine lv_aload_n X.1 X.2.1 dX3_isMissing_0 rfl (lv_at hl 0 rfl) ?_
  refine g_get (v := .int (S 3 (10 + k))) X K hw (by have := hk; omega) (tt_eS (k := k) hk) rfl iT3 1 (by decide) q269 rfl dX3_isMissing_1 ?_
  refine lv_if_ne (tgt := 11) X.1 X.2.1 dX3_isMissing_4 (by decide) (fun c1 => ?_) (fun c1 => ?_)
  · refine lv_iconst (v := (0 : Int32)) X.1 X.2.1 dX3_isMissing_11 (by decide) ?_
    have hR : (0 : Int32) = tgt := by
      rw [← hF]
      simp only [f3_isMissing, if_neg c1]
    exact g_zret X hret hlk hw rfl hR rfl dX3_isMissing_12
  · refine lv_iconst (v := (1 : Int32)) X.1 X.2.1 dX3_isMissing_7 (by decide) ?_
    refine lv_goto (tgt := 12) X.1 X.2.1 dX3_isMissing_8 (by decide) ?_
    have hR : (1 : Int32) = tgt := by
      rw [← hF]
      simp only [f3_isMissing, if_pos c1]
    exact g_zret X hret hlk hw rfl hR rfl dX3_isMissing_12
set_option maxHeartbeats 4000000 in
set_option maxRecDepth 10000 in
theorem k_X3_begin (l : Launch) (G : tt_G) (S : tt_St) (k : Nat) (a1 : Int32) (a2 : Int32) (hk : k < 4) : c_MV l G yX3_begin (g_code yX3_begin cX3_begin 4 none) 0 0 [.ref (G.2.2 (48 + k)), .int a1, .int a2] S (f3_begin S k a1 a2) := by
  generalize hF : f3_begin S k a1 a2 = tgt
  refine g_begin rfl (Nat.le_of_ble_eq_true rfl) _ (fun p e s m below meth c ls X hret hlk hB hl => ?_)
  obtain ⟨hP0, K⟩ := hB
  have hw : c_W G S s s.heap [] := ⟨hP0, va_S.rf⟩
  have X : CallFix p m c cX3_begin 4 s ([.ref (G.2.2 (48 + k)), .int a1, .int a2] : List Value).toArray tt_T "TrustTin$Sheet" := X
  have hl : lv_has ls 4 [(0, .ref (G.2.2 (48 + k))), (1, .int a1), (2, .int a2)] := hl
  refine lv_aload_n X.1 X.2.1 dX3_begin_0 rfl (lv_at hl 0 rfl) ?_
  refine lv_iload_n X.1 X.2.1 dX3_begin_1 rfl (lv_at hl 1 rfl) ?_
  refine g_put (S' := tt_up S 3 (10 + k) a1) X K (c_ap K) hw (by have := hk; omega) (tt_eS (k := k) hk) rfl iT3 tyX3_ok nmX3 1 (by decide) q269 rfl rfl rfl (Nat.le_of_ble_eq_true rfl) (tt_sSb (k := k) hk) dX3_begin_2 (fun S1 H locs eS1 hw => ?_)
  refine lv_aload_n X.1 X.2.1 dX3_begin_5 rfl (lv_at hl 0 rfl) ?_
  refine lv_iload_n X.1 X.2.1 dX3_begin_6 rfl (lv_at hl 2 rfl) ?_
  refine g_put (S' := tt_up S1 3 (20 + k) a2) X K (c_ap K) hw (by have := hk; omega) (tt_eS (k := k) hk) rfl iT3 tyX3_ok nmX3 2 (by decide) q271 rfl rfl rfl (Nat.le_of_ble_eq_true rfl) (tt_sSz (k := k) hk) dX3_begin_7 (fun S2 H locs eS2 hw => ?_)
  refine lv_iconst (v := (0 : Int32)) X.1 X.2.1 dX3_begin_10 (by decide) ?_
  refine lv_istore_n (lv' := [(3, .int (0 : Int32)), (0, .ref (G.2.2 (48 + k))), (1, .int a1), (2, .int a2)]) X.1 X.2.1 dX3_begin_11 rfl hl (by decide) rfl (fun ls hl => ?_)
  have j12 : ∀ (n : Nat) (S3 : tt_St) (y3_12 : Int32) (H : Heap) (locs : List Loc) (ls : Array Slot), (¬ y3_12 < 0) → lp_mu (40 : Int32) y3_12 < n → f3_begin_L12 k a1 a2 n S3 y3_12 = tgt → c_W G S3 s H locs → lv_has ls 4 [(0, .ref (G.2.2 (48 + k))), (3, .int y3_12)] → W p l e (g_rm 0 0) s m ([.ref (G.2.2 (48 + k)), .int a1, .int a2] : List Value).toArray below meth c H locs 0 0 (MQ below (va_Qv (fun T => T = tgt) (g_Post G 62 G.2.2 (tt_cell G)) (g_in 62 G.2.2)) ([.ref (G.2.2 (48 + k)), .int a1, .int a2] : List Value).toArray s 0 0 (g_in 62 G.2.2)) (F0 m 12 ls []) := by
    intro n
    induction n with
    | zero => intro S3 y3_12 H locs ls hI hm; exact absurd hm (Nat.not_lt_zero _)
    | succ n ih =>
      intro S3 y3_12 H locs ls hI hm hF hw hl
      refine lv_iload_n X.1 X.2.1 dX3_begin_12 rfl (lv_at hl 1 rfl) ?_
      refine lv_bipush (v := (40 : Int32)) X.1 X.2.1 dX3_begin_13 (by decide) ?_
      refine lv_icmp_ge (tgt := 31) X.1 X.2.1 dX3_begin_15 (by decide) (fun c4 => ?_) (fun c4 => ?_)
      · have hR : S3 = tgt := by
          rw [← hF]
          simp only [f3_begin_L12, if_pos c4]
        exact g_vret X hret hlk hw hR dX3_begin_31
      · refine lv_aload_n X.1 X.2.1 dX3_begin_18 rfl (lv_at hl 0 rfl) ?_
        refine g_get (v := .ref (G.2.2 (52 + k))) X K hw (by have := hk; omega) (tt_eS (k := k) hk) rfl iT3 0 (by decide) q267 rfl dX3_begin_19 ?_
        refine lv_iload_n X.1 X.2.1 dX3_begin_22 rfl (lv_at hl 1 rfl) ?_
        refine lv_iconst (v := (0 : Int32)) X.1 X.2.1 dX3_begin_23 (by decide) ?_
        have hi5 : vp_in y3_12 40 := lp_in hI c4 (by decide)
        refine g_iast (S' := tt_up S3 (15 + k) y3_12.toNatClampNeg (0 : Int32)) X K (c_ap K) hw (by have := hk; omega) (tt_eN (k := k) hk) hi5 (tt_sN (k := k) hk) dX3_begin_24 (fun S6 H locs eS6 hw => ?_)
        obtain ⟨x7, ex7⟩ : ∃ y : Int32, y = y3_12 + (1 : Int32) := ⟨_, rfl⟩
        refine lv_iinc (v := x7) (lv' := [(3, .int x7), (0, .ref (G.2.2 (48 + k)))]) X.1 X.2.1 dX3_begin_25 hl (k := 1) rfl (by rw [ex7]; rfl) (by decide) rfl (fun ls hl => ?_)
        refine lv_goto (tgt := 12) X.1 X.2.1 dX3_begin_28 (by decide) ?_
        have hF2 : f3_begin_L12 k a1 a2 n S6 x7 = tgt := by
          rw [← hF]
          subst eS6 ex7
          simp only [f3_begin_L12, if_neg c4]
        exact ih S6 x7 _ _ ls (by rw [ex7]; exact lp_nn hI c4) (by rw [ex7]; exact lp_dec' c4 hm) hF2 hw (lv_sub hl [1, 0] rfl)
  have hF2 : f3_begin_L12 k a1 a2 (lp_mu (40 : Int32) 0 + 1) S2 (0 : Int32) = tgt := by
    rw [← hF]
    subst eS1 eS2
    simp only [f3_begin]
  exact j12 (lp_mu (40 : Int32) 0 + 1) S2 (0 : Int32) _ _ ls (by decide) (Nat.lt_succ_self _) hF2 hw (lv_sub hl [1, 0] rfl)
set_option maxHeartbeats 4000000 in
set_option maxRecDepth 10000 in
theorem k_X3_put (l : Launch) (G : tt_G) (S : tt_St) (k : Nat) (a1 : Int32) (a2 : Int32) (hk : k < 4) (hp0 : vp_in a1 40) : c_MV l G yX3_put (g_code yX3_put cX3_put 4 none) 0 0 [.ref (G.2.2 (48 + k)), .int a1, .int a2] S (f3_put S k a1 a2) := by
  generalize hF : f3_put S k a1 a2 = tgt
  refine g_begin rfl (Nat.le_of_ble_eq_true rfl) _ (fun p e s m below meth c ls X hret hlk hB hl => ?_)
  obtain ⟨hP0, K⟩ := hB
  have hw : c_W G S s s.heap [] := ⟨hP0, va_S.rf⟩
  have X : CallFix p m c cX3_put 4 s ([.ref (G.2.2 (48 + k)), .int a1, .int a2] : List Value).toArray tt_T "TrustTin$Sheet" := X
  have hl : lv_has ls 4 [(0, .ref (G.2.2 (48 + k))), (1, .int a1), (2, .int a2)] := hl
  refine lv_bipush (v := (32 : Int32)) X.1 X.2.1 dX3_put_0 (by decide) ?_
  refine lv_aload_n X.1 X.2.1 dX3_put_2 rfl (lv_at hl 0 rfl) ?_
  refine g_get (v := .int (S 3 (10 + k))) X K hw (by have := hk; omega) (tt_eS (k := k) hk) rfl iT3 1 (by decide) q269 rfl dX3_put_3 ?_
  refine lv_isub X.1 X.2.1 dX3_put_6 ?_
  refine lv_topi (fun x1 ex1 => ?_)
  refine lv_istore_n (lv' := [(3, .int x1), (0, .ref (G.2.2 (48 + k))), (1, .int a1), (2, .int a2)]) X.1 X.2.1 dX3_put_7 rfl hl (by decide) rfl (fun ls hl => ?_)
  refine lv_aload_n X.1 X.2.1 dX3_put_8 rfl (lv_at hl 1 rfl) ?_
  refine g_get (v := .ref (G.2.2 (52 + k))) X K hw (by have := hk; omega) (tt_eS (k := k) hk) rfl iT3 0 (by decide) q267 rfl dX3_put_9 ?_
  refine lv_iload_n X.1 X.2.1 dX3_put_12 rfl (lv_at hl 2 rfl) ?_
  refine lv_iload_n X.1 X.2.1 dX3_put_13 rfl (lv_at hl 3 rfl) ?_
  refine lv_iload_n X.1 X.2.1 dX3_put_14 rfl (lv_at hl 0 rfl) ?_
  refine lv_ishl X.1 X.2.1 dX3_put_15 ?_
  refine lv_iload_n X.1 X.2.1 dX3_put_16 rfl (lv_at hl 0 rfl) ?_
  refine lv_ishr X.1 X.2.1 dX3_put_17 ?_
  refine lv_topi (fun x2 ex2 => ?_)
  have hi3 : vp_in a1 40 := hp0
  refine g_iast (S' := tt_up S (15 + k) a1.toNatClampNeg x2) X K (c_ap K) hw (by have := hk; omega) (tt_eN (k := k) hk) hi3 (tt_sN (k := k) hk) dX3_put_18 (fun S4 H locs eS4 hw => ?_)
  have hR : S4 = tgt := by
    rw [← hF]
    subst ex1 ex2 eS4
    simp only [f3_put]
  exact g_vret X hret hlk hw hR dX3_put_19
set_option maxHeartbeats 4000000 in
set_option maxRecDepth 10000 in
theorem k_X3_has (l : Launch) (G : tt_G) (S : tt_St) (k : Nat) (a1 : Int32) (a2 : Int32) (hk : k < 4) : c_MI l G yX3_has (g_code yX3_has cX3_has 3 (some FieldType.boolean)) 0 0 [.ref (G.2.2 (48 + k)), .int a1, .int a2] S (f3_has S k a1 a2) S := by
  generalize hF : f3_has S k a1 a2 = tgt
  refine g_begin rfl (Nat.le_of_ble_eq_true rfl) _ (fun p e s m below meth c ls X hret hlk hB hl => ?_)
  obtain ⟨hP0, K⟩ := hB
  have hw : c_W G S s s.heap [] := ⟨hP0, va_S.rf⟩
  have X : CallFix p m c cX3_has 3 s ([.ref (G.2.2 (48 + k)), .int a1, .int a2] : List Value).toArray tt_T "TrustTin$Sheet" := X
  have hl : lv_has ls 3 [(0, .ref (G.2.2 (48 + k))), (1, .int a1), (2, .int a2)] := hl
  refine lv_iload_n X.1 X.2.1 dX3_has_0 rfl (lv_at hl 1 rfl) ?_
  refine lv_if_lt (tgt := 30) X.1 X.2.1 dX3_has_1 (by decide) (fun c1 => ?_) (fun c1 => ?_)
  · refine lv_iconst (v := (0 : Int32)) X.1 X.2.1 dX3_has_30 (by decide) ?_
    have hR : (0 : Int32) = tgt := by
      rw [← hF]
      simp only [f3_has, if_pos c1]
    exact g_zret X hret hlk hw rfl hR rfl dX3_has_31
  · refine lv_iload_n X.1 X.2.1 dX3_has_4 rfl (lv_at hl 2 rfl) ?_
    refine lv_if_lt (tgt := 30) X.1 X.2.1 dX3_has_5 (by decide) (fun c2 => ?_) (fun c2 => ?_)
    · refine lv_iconst (v := (0 : Int32)) X.1 X.2.1 dX3_has_30 (by decide) ?_
      have hR : (0 : Int32) = tgt := by
        rw [← hF]
        simp only [f3_has, if_neg c1, if_pos c2]
      exact g_zret X hret hlk hw rfl hR rfl dX3_has_31
    · refine lv_iload_n X.1 X.2.1 dX3_has_8 rfl (lv_at hl 1 rfl) ?_
      refine lv_aload_n X.1 X.2.1 dX3_has_9 rfl (lv_at hl 0 rfl) ?_
      refine g_get (v := .int (S 3 (20 + k))) X K hw (by have := hk; omega) (tt_eS (k := k) hk) rfl iT3 2 (by decide) q271 rfl dX3_has_10 ?_
      refine lv_icmp_gt (tgt := 30) X.1 X.2.1 dX3_has_13 (by decide) (fun c3 => ?_) (fun c3 => ?_)
      · refine lv_iconst (v := (0 : Int32)) X.1 X.2.1 dX3_has_30 (by decide) ?_
        have hR : (0 : Int32) = tgt := by
          rw [← hF]
          simp only [f3_has, if_neg c1, if_neg c2, if_pos c3]
        exact g_zret X hret hlk hw rfl hR rfl dX3_has_31
      · refine lv_iload_n X.1 X.2.1 dX3_has_16 rfl (lv_at hl 2 rfl) ?_
        refine lv_aload_n X.1 X.2.1 dX3_has_17 rfl (lv_at hl 0 rfl) ?_
        refine g_get (v := .int (S 3 (20 + k))) X K hw (by have := hk; omega) (tt_eS (k := k) hk) rfl iT3 2 (by decide) q271 rfl dX3_has_18 ?_
        refine lv_iload_n X.1 X.2.1 dX3_has_21 rfl (lv_at hl 1 rfl) ?_
        refine lv_isub X.1 X.2.1 dX3_has_22 ?_
        refine lv_icmp_gt (tgt := 30) X.1 X.2.1 dX3_has_23 (by decide) (fun c4 => ?_) (fun c4 => ?_)
        · refine lv_iconst (v := (0 : Int32)) X.1 X.2.1 dX3_has_30 (by decide) ?_
          have hR : (0 : Int32) = tgt := by
            rw [← hF]
            simp only [f3_has, if_neg c1, if_neg c2, if_neg c3, if_pos c4]
          exact g_zret X hret hlk hw rfl hR rfl dX3_has_31
        · refine lv_iconst (v := (1 : Int32)) X.1 X.2.1 dX3_has_26 (by decide) ?_
          refine lv_goto (tgt := 31) X.1 X.2.1 dX3_has_27 (by decide) ?_
          have hR : (1 : Int32) = tgt := by
            rw [← hF]
            simp only [f3_has, if_neg c1, if_neg c2, if_neg c3, if_neg c4]
          exact g_zret X hret hlk hw rfl hR rfl dX3_has_31
set_option maxHeartbeats 4000000 in
set_option maxRecDepth 10000 in
theorem k_X4_put (l : Launch) (G : tt_G) (S : tt_St) (a1 : Int32) (hp0 : ¬ S 3 1 < 0) : c_MV l G yX4_put (g_code yX4_put cX4_put 2 none) 0 0 [.ref (G.2.2 56), .int a1] S (f4_put S a1) := by
  generalize hF : f4_put S a1 = tgt
  refine g_begin rfl (Nat.le_of_ble_eq_true rfl) _ (fun p e s m below meth c ls X hret hlk hB hl => ?_)
  obtain ⟨hP0, K⟩ := hB
  have hw : c_W G S s s.heap [] := ⟨hP0, va_S.rf⟩
  have X : CallFix p m c cX4_put 2 s ([.ref (G.2.2 56), .int a1] : List Value).toArray tt_T "TrustTin$Tape" := X
  have hl : lv_has ls 2 [(0, .ref (G.2.2 56)), (1, .int a1)] := hl
  refine lv_aload_n X.1 X.2.1 dX4_put_0 rfl (lv_at hl 0 rfl) ?_
  refine g_get (v := .int (S 3 1)) X K hw (by decide) tt_eTp rfl iT4 1 (by decide) q227 rfl dX4_put_1 ?_
  refine lv_bipush (v := (120 : Int32)) X.1 X.2.1 dX4_put_4 (by decide) ?_
  refine lv_icmp_ge (tgt := 29) X.1 X.2.1 dX4_put_6 (by decide) (fun c1 => ?_) (fun c1 => ?_)
  · have hR : S = tgt := by
      rw [← hF]
      simp only [f4_put, if_pos c1]
    exact g_vret X hret hlk hw hR dX4_put_29
  · refine lv_aload_n X.1 X.2.1 dX4_put_9 rfl (lv_at hl 0 rfl) ?_
    refine g_get (v := .ref (G.2.2 57)) X K hw (by decide) tt_eTp rfl iT4 0 (by decide) q225 rfl dX4_put_10 ?_
    refine lv_aload_n X.1 X.2.1 dX4_put_13 rfl (lv_at hl 0 rfl) ?_
    refine g_get (v := .int (S 3 1)) X K hw (by decide) tt_eTp rfl iT4 1 (by decide) q227 rfl dX4_put_14 ?_
    refine lv_iload_n X.1 X.2.1 dX4_put_17 rfl (lv_at hl 1 rfl) ?_
    have hi2 : vp_in (S 3 1) 120 := lp_in hp0 c1 (by decide)
    refine g_iast (S' := tt_up S 5 (S 3 1).toNatClampNeg a1) X K (c_ap K) hw (by decide) tt_eBy hi2 tt_sBy dX4_put_18 (fun S3 H locs eS3 hw => ?_)
    refine lv_aload_n X.1 X.2.1 dX4_put_19 rfl (lv_at hl 0 rfl) ?_
    refine lv_dup X.1 X.2.1 dX4_put_20 rfl ?_
    refine g_get (v := .int (S3 3 1)) X K hw (by decide) tt_eTp rfl iT4 1 (by decide) q227 rfl dX4_put_21 ?_
    refine lv_iconst (v := (1 : Int32)) X.1 X.2.1 dX4_put_24 (by decide) ?_
    refine lv_iadd X.1 X.2.1 dX4_put_25 ?_
    refine lv_topi (fun x4 ex4 => ?_)
    refine g_put (S' := tt_up S3 3 1 x4) X K (c_ap K) hw (by decide) tt_eTp rfl iT4 tyX4_ok nmX4 1 (by decide) q227 rfl rfl rfl (Nat.le_of_ble_eq_true rfl) tt_sTp dX4_put_26 (fun S5 H locs eS5 hw => ?_)
    have hR : S5 = tgt := by
      rw [← hF]
      subst eS3 ex4 eS5
      simp only [f4_put, if_neg c1]
    exact g_vret X hret hlk hw hR dX4_put_29
