set_option maxHeartbeats 4000000 in
set_option maxRecDepth 10000 in
theorem k_X7_items (l : Launch) (G : tt_G) (S : tt_St) (V : Int64) (hp0 : (S 0 6).toInt ≤ 120) (hp1 : ¬ S 0 6 < 0) (hp2 : 0 ≤ (S 0 15).toInt) (hp3 : nb S) : m_MI l G yX7_items (g_code yX7_items cX7_items 2 (some FieldType.int)) 5 111 [.ref (mm_ad G 0)] S V ((f7_items S V).1) ((f7_items S V).2.1) ((f7_items S V).2.2) := by
  generalize hF : f7_items S V = tgt
  refine g_begin rfl (Nat.le_of_ble_eq_true rfl) _ (fun p e s m below meth c ls X hret hlk hB hl => ?_)
  obtain ⟨hP0, K⟩ := hB
  have hw : m_W G S V s s.heap [] := ⟨hP0, va_S.rf⟩
  have X : CallFix p m c cX7_items 2 s ([.ref (mm_ad G 0)] : List Value).toArray tt_T "TrustTinModel" := X
  have hl : lv_has ls 2 [(0, .ref (mm_ad G 0))] := hl
  refine lv_aload_n X.1 X.2.1 dX7_items_0 rfl (lv_at hl 0 rfl) ?_
  refine lv_iconst (v := (0 : Int32)) X.1 X.2.1 dX7_items_1 (by decide) ?_
  refine m_put X K hw 13 (by decide) q849 rfl rfl rfl dX7_items_2 (fun S1 H locs eS1 hw => ?_)
  refine lv_aload_n X.1 X.2.1 dX7_items_5 rfl (lv_at hl 0 rfl) ?_
  refine lv_iconst (v := (-1 : Int32)) X.1 X.2.1 dX7_items_6 (by decide) ?_
  refine m_put X K hw 17 (by decide) q853 rfl rfl rfl dX7_items_7 (fun S2 H locs eS2 hw => ?_)
  refine lv_aload_n X.1 X.2.1 dX7_items_10 rfl (lv_at hl 0 rfl) ?_
  refine m_callVV_sv X K hw (k_X7_next l G S2 V (by subst eS1 eS2; exact (is_0 hp0 hp1 hp2 hp3).1)) (g_cwV X hiX7_next q1160 q1162 q55 q74 q1163 ⟨(Nat.le_of_ble_eq_true rfl), (Nat.le_of_ble_eq_true rfl)⟩) rfl hl.1 rfl (Nat.le_of_ble_eq_true rfl) dX7_items_11 ⟨(Nat.le_of_ble_eq_true rfl), (Nat.le_of_ble_eq_true rfl)⟩ (fun S3 V4 H locs eS3 eV4 hw => ?_)
  have t : mt S3 ∧ nb S3 := by rw [eS3]; have q : mt S2 ∧ nb S2 := (by subst eS1 eS2 eS3 eV4; exact is_0 hp0 hp1 hp2 hp3); exact ⟨(tx_next V q.1 q.2).1, (tx_next V q.1 q.2).2.1⟩
  refine lv_aload_n X.1 X.2.1 dX7_items_14 rfl (lv_at hl 0 rfl) ?_
  refine m_callVV_sv X K hw (k_X7_item l G S3 V4 (t.1) (t.2)) (g_cwV X hiX7_item q1177 q1179 q57 q74 q1180 ⟨(Nat.le_of_ble_eq_true rfl), (Nat.le_of_ble_eq_true rfl)⟩) rfl hl.1 rfl (Nat.le_of_ble_eq_true rfl) dX7_items_15 ⟨(Nat.le_of_ble_eq_true rfl), (Nat.le_of_ble_eq_true rfl)⟩ (fun S5 V6 H locs eS5 eV6 hw => ?_)
  have t : mt S5 ∧ nb S5 := by rw [eS5]; exact ⟨(tx_item _ t.1 t.2).1, (tx_item _ t.1 t.2).2.1⟩
  refine lv_iconst (v := (1 : Int32)) X.1 X.2.1 dX7_items_18 (by decide) ?_
  refine lv_istore_n (lv' := [(1, .int (1 : Int32)), (0, .ref (mm_ad G 0))]) X.1 X.2.1 dX7_items_19 rfl hl (by decide) rfl (fun ls hl => ?_)
  have j20 : ∀ (n : Nat) (S7 : tt_St) (V8 : Int64) (y1_20 : Int32) (H : Heap) (locs : List Loc) (ls : Array Slot), (mt S7 ∧ nb S7) → it_m S7 < n → f7_items_L20 n S7 V8 y1_20 = tgt → m_W G S7 V8 s H locs → lv_has ls 2 [(0, .ref (mm_ad G 0)), (1, .int y1_20)] → W p l e (g_rm 5 111) s m ([.ref (mm_ad G 0)] : List Value).toArray below meth c H locs 0 0 (MQ below (va_Qi (fun r T => r = tgt.1 ∧ T = (tgt.2.1, tgt.2.2)) (g_Post G 10 (mm_ad G) (mm_cell G)) (g_in 10 (mm_ad G))) ([.ref (mm_ad G 0)] : List Value).toArray s 0 0 (g_in 10 (mm_ad G))) (F0 m 20 ls []) := by
    intro n
    induction n with
    | zero => intro S7 V8 y1_20 H locs ls hI hm; exact absurd hm (Nat.not_lt_zero _)
    | succ n ih =>
      intro S7 V8 y1_20 H locs ls hI hm hF hw hl
      refine lv_aload_n X.1 X.2.1 dX7_items_20 rfl (lv_at hl 0 rfl) ?_
      refine m_get X K hw 17 (by decide) q853 rfl dX7_items_21 ?_
      refine lv_if_ge (tgt := 49) X.1 X.2.1 dX7_items_24 (by decide) (fun c9 => ?_) (fun c9 => ?_)
      · refine lv_aload_n X.1 X.2.1 dX7_items_49 rfl (lv_at hl 0 rfl) ?_
        refine m_get X K hw 17 (by decide) q853 rfl dX7_items_50 ?_
        refine lv_if_ge (tgt := 67) X.1 X.2.1 dX7_items_53 (by decide) (fun c10 => ?_) (fun c10 => ?_)
        · refine lv_iload_n X.1 X.2.1 dX7_items_67 rfl (lv_at hl 1 rfl) ?_
          have hR : (y1_20, S7, V8) = tgt := by
            rw [← hF]
            simp only [f7_items_L20, if_pos c9]
          have hRR : y1_20 = tgt.1 := pr31 hR
          have hRS : S7 = tgt.2.1 := pr32 hR
          have hRV : V8 = tgt.2.2 := pr33 hR
          exact g_iret X hret hlk hw hRR (Prod.ext hRS hRV) dX7_items_68
        · exact absurd c9 c10
      · refine lv_aload_n X.1 X.2.1 dX7_items_27 rfl (lv_at hl 0 rfl) ?_
        refine m_get X K hw 14 (by decide) q850 rfl dX7_items_28 ?_
        refine lv_iconst (v := (3 : Int32)) X.1 X.2.1 dX7_items_31 (by decide) ?_
        refine lv_icmp_ne (tgt := 49) X.1 X.2.1 dX7_items_32 (by decide) (fun c11 => ?_) (fun c11 => ?_)
        · refine lv_aload_n X.1 X.2.1 dX7_items_49 rfl (lv_at hl 0 rfl) ?_
          refine m_get X K hw 17 (by decide) q853 rfl dX7_items_50 ?_
          refine lv_if_ge (tgt := 67) X.1 X.2.1 dX7_items_53 (by decide) (fun c12 => ?_) (fun c12 => ?_)
          · exact absurd c12 c9
          · refine lv_aload_n X.1 X.2.1 dX7_items_56 rfl (lv_at hl 0 rfl) ?_
            refine m_get X K hw 14 (by decide) q850 rfl dX7_items_57 ?_
            refine lv_if_eq (tgt := 67) X.1 X.2.1 dX7_items_60 (by decide) (fun c13 => ?_) (fun c13 => ?_)
            · refine lv_iload_n X.1 X.2.1 dX7_items_67 rfl (lv_at hl 1 rfl) ?_
              have hR : (y1_20, S7, V8) = tgt := by
                rw [← hF]
                simp only [f7_items_L20, if_neg c9, if_neg c11, if_pos c13]
              have hRR : y1_20 = tgt.1 := pr31 hR
              have hRS : S7 = tgt.2.1 := pr32 hR
              have hRV : V8 = tgt.2.2 := pr33 hR
              exact g_iret X hret hlk hw hRR (Prod.ext hRS hRV) dX7_items_68
            · refine lv_aload_n X.1 X.2.1 dX7_items_63 rfl (lv_at hl 0 rfl) ?_
              refine m_callVV_s X K hw (k_X7_wrongHere l G S7 V8) (g_cwV X hiX7_wrongHere q1207 q1209 q61 q74 q1210 ⟨(Nat.le_of_ble_eq_true rfl), (Nat.le_of_ble_eq_true rfl)⟩) rfl hl.1 rfl (Nat.le_of_ble_eq_true rfl) dX7_items_64 ⟨(Nat.le_of_ble_eq_true rfl), (Nat.le_of_ble_eq_true rfl)⟩ (fun S14 H locs eS14 hw => ?_)
              refine lv_iload_n X.1 X.2.1 dX7_items_67 rfl (lv_at hl 1 rfl) ?_
              have hR : (y1_20, S14, V8) = tgt := by
                rw [← hF]
                simp only [f7_items_L20, ← eS14, if_neg c9, if_neg c11, if_neg c13]
              have hRR : y1_20 = tgt.1 := pr31 hR
              have hRS : S14 = tgt.2.1 := pr32 hR
              have hRV : V8 = tgt.2.2 := pr33 hR
              exact g_iret X hret hlk hw hRR (Prod.ext hRS hRV) dX7_items_68
        · refine lv_aload_n X.1 X.2.1 dX7_items_35 rfl (lv_at hl 0 rfl) ?_
          refine m_callVV_sv X K hw (k_X7_next l G S7 V8 (hI.1)) (g_cwV X hiX7_next q1160 q1162 q55 q74 q1163 ⟨(Nat.le_of_ble_eq_true rfl), (Nat.le_of_ble_eq_true rfl)⟩) rfl hl.1 rfl (Nat.le_of_ble_eq_true rfl) dX7_items_36 ⟨(Nat.le_of_ble_eq_true rfl), (Nat.le_of_ble_eq_true rfl)⟩ (fun S15 V16 H locs eS15 eV16 hw => ?_)
          have t : mt S15 ∧ nb S15 := by rw [eS15]; exact ⟨(tx_next _ hI.1 hI.2).1, (tx_next _ hI.1 hI.2).2.1⟩
          refine lv_aload_n X.1 X.2.1 dX7_items_39 rfl (lv_at hl 0 rfl) ?_
          refine m_callVV_sv X K hw (k_X7_item l G S15 V16 (t.1) (t.2)) (g_cwV X hiX7_item q1177 q1179 q57 q74 q1180 ⟨(Nat.le_of_ble_eq_true rfl), (Nat.le_of_ble_eq_true rfl)⟩) rfl hl.1 rfl (Nat.le_of_ble_eq_true rfl) dX7_items_40 ⟨(Nat.le_of_ble_eq_true rfl), (Nat.le_of_ble_eq_true rfl)⟩ (fun S17 V18 H locs eS17 eV18 hw => ?_)
          have t : mt S17 ∧ nb S17 := by rw [eS17]; exact ⟨(tx_item _ t.1 t.2).1, (tx_item _ t.1 t.2).2.1⟩
          obtain ⟨x19, ex19⟩ : ∃ y : Int32, y = y1_20 + (1 : Int32) := ⟨_, rfl⟩
          refine lv_iinc (v := x19) (lv' := [(1, .int x19), (0, .ref (mm_ad G 0))]) X.1 X.2.1 dX7_items_43 hl (k := 1) rfl (by rw [ex19]; rfl) (by decide) rfl (fun ls hl => ?_)
          refine lv_goto (tgt := 20) X.1 X.2.1 dX7_items_46 (by decide) ?_
          have hF2 : f7_items_L20 n S17 V18 x19 = tgt := by
            rw [← hF]
            subst ex19
            simp only [f7_items_L20, ← eS15, ← eV16, ← eS17, ← eV18, if_neg c9, if_pos c11]
          exact ih S17 V18 x19 _ _ ls (t) (by subst eS15 eV16 eS17 eV18 ex19; exact it_dec hI.1 hI.2 c9 c11 hm) hF2 hw (lv_sub hl [1, 0] rfl)
  have hF2 : f7_items_L20 (it_m S5 + 1) S5 V6 (1 : Int32) = tgt := by
    rw [← hF]
    simp only [f7_items, ← eS1, ← eS2, ← eS3, ← eV4, ← eS5, ← eV6]
  exact j20 (it_m S5 + 1) S5 V6 (1 : Int32) _ _ ls (t) (Nat.lt_succ_self _) hF2 hw (lv_sub hl [1, 0] rfl)
