/-! the constructor of TrustTin: its contract -/
theorem k_X6_init (l : Launch) (D : va_G) (cl : Nat → ClassId) (q : Nat) : n_M l D cl yX6_init (g_code yX6_init cX6_init 2 none) 3 61 752 53 [.ref q] [(q, .inr (6, [.null, .null, .null, .int 0, .null, .null, .null, .null]))] (n_B6 cl q) := by
  refine n_begin rfl (Nat.le_of_ble_eq_true rfl) rfl (fun p e s m below meth c ls A X hr hlk hin K hO hP hD hA hAe hl => ?_)
  have hS : va_S A s.heap s.heap [] := va_S.rf
  have X : CallFix p m c cX6_init 2 s ([.ref q] : List Value).toArray tt_T "TrustTin" := X
  have hl : lv_has ls 2 [(0, .ref q)] := hl
  refine lv_aload_n X.1 X.2.1 dX6_init_0 rfl (lv_at hl 0 rfl) ?_
  refine n_obj X q87 hl.1 (Nat.le_of_ble_eq_true rfl) (Nat.le_of_ble_eq_true rfl) dX6_init_1 ?_
  refine lv_aload_n X.1 X.2.1 dX6_init_4 rfl (lv_at hl 0 rfl) ?_
  refine n_make X K hO hA hP hD hS rfl iT2 tyX2_ok (by decide) q90 q91 q68 (k_X2_init l D cl) rfl rfl (by decide +kernel) (Or.inl q92) q93 q94 ⟨Nat.le_of_ble_eq_true rfl, Nat.le_of_ble_eq_true rfl⟩ hl.1 (Nat.le_of_ble_eq_true rfl) dX6_init_5 dX6_init_8 dX6_init_9 (Nat.le_of_ble_eq_true rfl) (Nat.le_of_ble_eq_true rfl) (fun v1 u1 H locs hP hD hS => ?_)
  have hP : va_P D vwCl ((q, .inr (6, [.null, .null, .null, .int 0, .null, .null, .null, .null])) :: n_B2 cl v1 u1) H := hP
  have hD : va_D A ((q, .inr (6, [.null, .null, .null, .int 0, .null, .null, .null, .null])) :: n_B2 cl v1 u1) := hD
  refine n_putF X K hin hP hD hS rfl iT6 tyX6_ok nmX6 0 (by decide) q280 rfl rfl rfl rfl (Nat.le_of_ble_eq_true rfl) rfl dX6_init_12 (fun H locs hP hD hS => ?_)
  refine lv_aload_n X.1 X.2.1 dX6_init_15 rfl (lv_at hl 0 rfl) ?_
  refine n_make X K hO hA hP hD hS rfl iT2 tyX2_ok (by decide) q90 q91 q68 (k_X2_init l D cl) rfl rfl (by decide +kernel) (Or.inl q92) q93 q94 ⟨Nat.le_of_ble_eq_true rfl, Nat.le_of_ble_eq_true rfl⟩ hl.1 (Nat.le_of_ble_eq_true rfl) dX6_init_16 dX6_init_19 dX6_init_20 (Nat.le_of_ble_eq_true rfl) (Nat.le_of_ble_eq_true rfl) (fun v2 u2 H locs hP hD hS => ?_)
  have hP : va_P D vwCl ((q, .inr (6, [.ref v1, .null, .null, .int 0, .null, .null, .null, .null])) :: (n_B2 cl v1 u1 ++ n_B2 cl v2 u2)) H := hP
  have hD : va_D A ((q, .inr (6, [.ref v1, .null, .null, .int 0, .null, .null, .null, .null])) :: (n_B2 cl v1 u1 ++ n_B2 cl v2 u2)) := hD
  refine n_putF X K hin hP hD hS rfl iT6 tyX6_ok nmX6 1 (by decide) q281 rfl rfl rfl rfl (Nat.le_of_ble_eq_true rfl) rfl dX6_init_23 (fun H locs hP hD hS => ?_)
  refine lv_aload_n X.1 X.2.1 dX6_init_26 rfl (lv_at hl 0 rfl) ?_
  refine n_make X K hO hA hP hD hS rfl iT2 tyX2_ok (by decide) q90 q91 q68 (k_X2_init l D cl) rfl rfl (by decide +kernel) (Or.inl q92) q93 q94 ⟨Nat.le_of_ble_eq_true rfl, Nat.le_of_ble_eq_true rfl⟩ hl.1 (Nat.le_of_ble_eq_true rfl) dX6_init_27 dX6_init_30 dX6_init_31 (Nat.le_of_ble_eq_true rfl) (Nat.le_of_ble_eq_true rfl) (fun v3 u3 H locs hP hD hS => ?_)
  have hP : va_P D vwCl ((q, .inr (6, [.ref v1, .ref v2, .null, .int 0, .null, .null, .null, .null])) :: ((n_B2 cl v1 u1 ++ n_B2 cl v2 u2) ++ n_B2 cl v3 u3)) H := hP
  have hD : va_D A ((q, .inr (6, [.ref v1, .ref v2, .null, .int 0, .null, .null, .null, .null])) :: ((n_B2 cl v1 u1 ++ n_B2 cl v2 u2) ++ n_B2 cl v3 u3)) := hD
  refine n_putF X K hin hP hD hS rfl iT6 tyX6_ok nmX6 2 (by decide) q282 rfl rfl rfl rfl (Nat.le_of_ble_eq_true rfl) rfl dX6_init_34 (fun H locs hP hD hS => ?_)
  refine lv_aload_n X.1 X.2.1 dX6_init_37 rfl (lv_at hl 0 rfl) ?_
  refine lv_iconst (v := (0 : Int32)) X.1 X.2.1 dX6_init_38 (by decide) ?_
  refine n_put X K hP hD hS rfl iT6 tyX6_ok nmX6 3 (by decide) q283 rfl rfl rfl (Nat.le_of_ble_eq_true rfl) rfl dX6_init_39 (fun H locs hP hD hS => ?_)
  refine lv_aload_n X.1 X.2.1 dX6_init_42 rfl (lv_at hl 0 rfl) ?_
  refine n_make X K hO hA hP hD hS rfl iT4 tyX4_ok (by decide) q219 q220 q71 (k_X4_init l D cl) rfl rfl (by decide +kernel) (Or.inr hO.2.2.2.2.1) q222 q223 ⟨Nat.le_of_ble_eq_true rfl, Nat.le_of_ble_eq_true rfl⟩ hl.1 (Nat.le_of_ble_eq_true rfl) dX6_init_43 dX6_init_46 dX6_init_47 (Nat.le_of_ble_eq_true rfl) (Nat.le_of_ble_eq_true rfl) (fun v4 u4 H locs hP hD hS => ?_)
  have hP : va_P D vwCl ((q, .inr (6, [.ref v1, .ref v2, .ref v3, .int 0, .null, .null, .null, .null])) :: (((n_B2 cl v1 u1 ++ n_B2 cl v2 u2) ++ n_B2 cl v3 u3) ++ n_B4 cl v4 u4)) H := hP
  have hD : va_D A ((q, .inr (6, [.ref v1, .ref v2, .ref v3, .int 0, .null, .null, .null, .null])) :: (((n_B2 cl v1 u1 ++ n_B2 cl v2 u2) ++ n_B2 cl v3 u3) ++ n_B4 cl v4 u4)) := hD
  refine n_putF X K hin hP hD hS rfl iT6 tyX6_ok nmX6 4 (by decide) q284 rfl rfl rfl rfl (Nat.le_of_ble_eq_true rfl) rfl dX6_init_50 (fun H locs hP hD hS => ?_)
  refine lv_aload_n X.1 X.2.1 dX6_init_53 rfl (lv_at hl 0 rfl) ?_
  refine va_new (ci := 5) (fs := [.null, .int 0, .int 0, .int 0, .int 0, .int 0]) (C := RX5) (T := TX5) (N := 6) X.1 X.2.1 X.2.2.2.2 iT5 tyX5 tyX5_ok X.2.2.2.1 (X.2.2.2.2 _ q235) (X.2.2.2.2 _ q236) (X.2.2.2.2 _ q72) K hP hD hS hA rfl (by decide) (Nat.le_of_ble_eq_true rfl) (Nat.le_of_ble_eq_true rfl) dX6_init_54 (fun v5 H hP hD hS => ?_)
  refine lv_dup X.1 X.2.1 dX6_init_57 rfl ?_
  refine lv_aload_n X.1 X.2.1 dX6_init_58 rfl (lv_at hl 0 rfl) ?_
  refine n_get X K hP rfl iT6 4 (by decide) q284 rfl dX6_init_59 ?_
  refine n_call (As := [.ref v4]) (x := (v5, .inr (5, [.null, .int 0, .int 0, .int 0, .int 0, .int 0]))) (rest := [.ref v5, .ref q]) X K hO hA hP hD hS (k_X5_init l D cl v5 v4) rfl (na := 1) (by decide +kernel) (Or.inl q237) q238 q72 q239 ⟨Nat.le_of_ble_eq_true rfl, Nat.le_of_ble_eq_true rfl⟩ rfl hl.1 rfl (Nat.le_of_ble_eq_true rfl) dX6_init_62 ⟨Nat.le_of_ble_eq_true rfl, Nat.le_of_ble_eq_true rfl⟩ (fun u5 H locs hP hD hS => ?_)
  have hP : va_P D vwCl ((q, .inr (6, [.ref v1, .ref v2, .ref v3, .int 0, .ref v4, .null, .null, .null])) :: ((((n_B2 cl v1 u1 ++ n_B2 cl v2 u2) ++ n_B2 cl v3 u3) ++ n_B4 cl v4 u4) ++ n_B5 v4 v5 u5)) H := hP
  have hD : va_D A ((q, .inr (6, [.ref v1, .ref v2, .ref v3, .int 0, .ref v4, .null, .null, .null])) :: ((((n_B2 cl v1 u1 ++ n_B2 cl v2 u2) ++ n_B2 cl v3 u3) ++ n_B4 cl v4 u4) ++ n_B5 v4 v5 u5)) := hD
  refine n_putF X K hin hP hD hS rfl iT6 tyX6_ok nmX6 5 (by decide) q285 rfl rfl rfl rfl (Nat.le_of_ble_eq_true rfl) rfl dX6_init_65 (fun H locs hP hD hS => ?_)
  refine lv_aload_n X.1 X.2.1 dX6_init_68 rfl (lv_at hl 0 rfl) ?_
  refine lv_iconst (v := (4 : Int32)) X.1 X.2.1 dX6_init_69 (by decide) ?_
  refine n_newS (N' := 4) X K hO hA hP hD hS q260 (by decide) rfl (Nat.le_of_ble_eq_true rfl) (Nat.le_of_ble_eq_true rfl) (Nat.le_of_ble_eq_true rfl) dX6_init_70 (fun v6 H hP hD hS => ?_)
  have hP : va_P D vwCl ((q, .inr (6, [.ref v1, .ref v2, .ref v3, .int 0, .ref v4, .ref v5, .null, .null])) :: (((((n_B2 cl v1 u1 ++ n_B2 cl v2 u2) ++ n_B2 cl v3 u3) ++ n_B4 cl v4 u4) ++ n_B5 v4 v5 u5) ++ [(v6, .inl (cl 2, 4, .inr (.inr (.inr (.inr (fun _ => none))))))])) H := hP
  have hD : va_D A ((q, .inr (6, [.ref v1, .ref v2, .ref v3, .int 0, .ref v4, .ref v5, .null, .null])) :: (((((n_B2 cl v1 u1 ++ n_B2 cl v2 u2) ++ n_B2 cl v3 u3) ++ n_B4 cl v4 u4) ++ n_B5 v4 v5 u5) ++ [(v6, .inl (cl 2, 4, .inr (.inr (.inr (.inr (fun _ => none))))))])) := hD
  refine n_putF X K hin hP hD hS rfl iT6 tyX6_ok nmX6 6 (by decide) q286 rfl rfl rfl rfl (Nat.le_of_ble_eq_true rfl) rfl dX6_init_73 (fun H locs hP hD hS => ?_)
  refine lv_aload_n X.1 X.2.1 dX6_init_76 rfl (lv_at hl 0 rfl) ?_
  refine lv_bipush (v := (7 : Int32)) X.1 X.2.1 dX6_init_77 (by decide) ?_
  refine n_newi (N' := 7) X K hA hP hD hS (by decide) rfl (Nat.le_of_ble_eq_true rfl) (Nat.le_of_ble_eq_true rfl) (Nat.le_of_ble_eq_true rfl) dX6_init_79 (fun v7 H hP hD hS => ?_)
  have hP : va_P D vwCl ((q, .inr (6, [.ref v1, .ref v2, .ref v3, .int 0, .ref v4, .ref v5, .ref v6, .null])) :: (((((n_B2 cl v1 u1 ++ n_B2 cl v2 u2) ++ n_B2 cl v3 u3) ++ n_B4 cl v4 u4) ++ n_B5 v4 v5 u5) ++ [(v6, .inl (cl 2, 4, .inr (.inr (.inr (.inr (fun _ => none)))))), (v7, .inl (cl 0, 7, .inl (fun _ => 0)))])) H := hP
  have hD : va_D A ((q, .inr (6, [.ref v1, .ref v2, .ref v3, .int 0, .ref v4, .ref v5, .ref v6, .null])) :: (((((n_B2 cl v1 u1 ++ n_B2 cl v2 u2) ++ n_B2 cl v3 u3) ++ n_B4 cl v4 u4) ++ n_B5 v4 v5 u5) ++ [(v6, .inl (cl 2, 4, .inr (.inr (.inr (.inr (fun _ => none)))))), (v7, .inl (cl 0, 7, .inl (fun _ => 0)))])) := hD
  refine n_putF X K hin hP hD hS rfl iT6 tyX6_ok nmX6 7 (by decide) q287 rfl rfl rfl rfl (Nat.le_of_ble_eq_true rfl) rfl dX6_init_81 (fun H locs hP hD hS => ?_)
  have hP2 : va_P D vwCl ((q, .inr (6, [.ref v1, .ref v2, .ref v3, .int 0, .ref v4, .ref v5, .ref v6, .ref v7])) :: (v6, .inl (cl 2, 4, .inr (.inr (.inr (.inr (fun _ => none)))))) :: (((((n_B2 cl v1 u1 ++ n_B2 cl v2 u2) ++ n_B2 cl v3 u3) ++ n_B4 cl v4 u4) ++ n_B5 v4 v5 u5) ++ [(v7, .inl (cl 0, 7, .inl (fun _ => 0)))])) H := n_memP hP (fun x hx => by
    simp only [List.mem_cons, List.mem_append, List.not_mem_nil, or_false] at hx ⊢
    rcases hx with z | z | z | z
    · exact Or.inl z
    · exact Or.inr (Or.inr (Or.inl z))
    · exact Or.inr (Or.inl z)
    · exact Or.inr (Or.inr (Or.inr z)))
  have hD2 : va_D A ((q, .inr (6, [.ref v1, .ref v2, .ref v3, .int 0, .ref v4, .ref v5, .ref v6, .ref v7])) :: (v6, .inl (cl 2, 4, .inr (.inr (.inr (.inr (fun _ => none)))))) :: (((((n_B2 cl v1 u1 ++ n_B2 cl v2 u2) ++ n_B2 cl v3 u3) ++ n_B4 cl v4 u4) ++ n_B5 v4 v5 u5) ++ [(v7, .inl (cl 0, 7, .inl (fun _ => 0)))])) := n_permD hD (List.Perm.cons _ List.perm_middle)
  refine lv_iconst (v := (0 : Int32)) X.1 X.2.1 dX6_init_84 (by decide) ?_
  refine lv_istore_n (lv' := [(1, .int (0 : Int32)), (0, .ref q)]) X.1 X.2.1 dX6_init_85 rfl hl (by decide) rfl (fun ls hl => ?_)
  refine tin_L1 (q := q) (da := v6) (fs := [.ref v1, .ref v2, .ref v3, .int 0, .ref v4, .ref v5, .ref v6, .ref v7]) (c0 := 53) (s0 := 580) (ws0 := (((((n_B2 cl v1 u1 ++ n_B2 cl v2 u2) ++ n_B2 cl v3 u3) ++ n_B4 cl v4 u4) ++ n_B5 v4 v5 u5) ++ [(v7, .inl (cl 0, 7, .inl (fun _ => 0)))])) X K hO hA rfl ⟨Nat.le_of_ble_eq_true rfl, Nat.le_of_ble_eq_true rfl⟩ (Nat.le_of_ble_eq_true rfl) (Nat.le_of_ble_eq_true rfl) (fun sa sn H locs ls hP hD hS => ?_) 4 0 rfl (fun _ => 0) (fun _ => 0) H locs ls hl (by rw [List.range_zero, List.flatMap_nil, List.append_nil]; exact hP2) (by rw [List.range_zero, List.flatMap_nil, List.append_nil]; exact hD2) hS
  have hD3 : va_D A (n_B6 cl q (u1, u2, u3, sa, sn, v1, v2, v3, v4, u4, v5, v6, v7)) := n_Dadr (by rfl) hD
  obtain ⟨a1, hP⟩ := n_Pcons.mp hP
  obtain ⟨a2, hP⟩ := n_Pcons.mp hP
  have a2 := n_extq (g := fun i => some (sa i)) a2 (fun k hk => by unfold n_ar; rw [if_pos hk])
  exact n_end X hr hlk hAe (u1, u2, u3, sa, sn, v1, v2, v3, v4, u4, v5, v6, v7) (n_Pcons.mpr ⟨a1, n_Pcons.mpr ⟨a2, hP⟩⟩) hD3 hS dX6_init_110
