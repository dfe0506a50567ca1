/-! constructors: Books, Drinker, Sheet, Tape, TextReader -/
def n_B0 (cl : Nat → ClassId) (q : Nat) (u : Nat × Nat) : va_W := [(q, .inr (0, [.ref u.1, .ref u.2, .int 0])), (u.1, .inl (cl 0, 20, .inl (fun _ => 0))), (u.2, .inl (cl 0, 20, .inl (fun _ => 0)))]
def n_dr : va_E := .inr (1, [.int 0, .int 0, .int 0, .int 0, .int 0, .int 0, .int 0])
def n_B1 (_ : Nat → ClassId) (q : Nat) (_ : Unit) : va_W := [(q, n_dr)]
def n_B3 (cl : Nat → ClassId) (q : Nat) (u : Nat) : va_W := [(q, .inr (3, [.ref u, .int 0, .int 0])), (u, .inl (cl 0, 40, .inl (fun _ => 0)))]
def n_B4 (cl : Nat → ClassId) (q : Nat) (u : Nat) : va_W := [(q, .inr (4, [.ref u, .int 0])), (u, .inl (cl 0, 120, .inl (fun _ => 0)))]
def n_B5 (a1 : Nat) (q : Nat) (_ : Unit) : va_W := [(q, .inr (5, [.ref a1, .int 0, .int 0, .int 0, .int 0, .int 0]))]
theorem k_X0_init (l : Launch) (D : va_G) (cl : Nat → ClassId) (q : Nat) : n_M l D cl yX0_init (g_code yX0_init cX0_init 1 none) 1 2 40 12 [.ref q] [(q, .inr (0, [.null, .null, .int 0]))] (n_B0 cl q) := by
  refine n_begin rfl (Nat.le_of_ble_eq_true rfl) rfl (fun p e s m below meth c ls A X hr hlk hin K hO hP hD hA hAe hl => ?_)
  have hS : va_S A s.heap s.heap [] := va_S.rf
  have X : CallFix p m c cX0_init 1 s ([.ref q] : List Value).toArray tt_T "TrustTin$Books" := X
  have hl : lv_has ls 1 [(0, .ref q)] := hl
  refine lv_aload_n X.1 X.2.1 dX0_init_0 rfl (lv_at hl 0 rfl) ?_
  refine n_obj X q103 hl.1 (Nat.le_of_ble_eq_true rfl) (Nat.le_of_ble_eq_true rfl) dX0_init_1 ?_
  refine lv_aload_n X.1 X.2.1 dX0_init_4 rfl (lv_at hl 0 rfl) ?_
  refine lv_bipush (v := (20 : Int32)) X.1 X.2.1 dX0_init_5 (by decide) ?_
  refine n_newi (N' := 20) X K hA hP hD hS (by decide) rfl (Nat.le_of_ble_eq_true rfl) (Nat.le_of_ble_eq_true rfl) (Nat.le_of_ble_eq_true rfl) dX0_init_7 (fun v1 H hP hD hS => ?_)
  have hP : va_P D vwCl [(q, .inr (0, [.null, .null, .int 0])), (v1, .inl (cl 0, 20, .inl (fun _ => 0)))] H := hP
  have hD : va_D A [(q, .inr (0, [.null, .null, .int 0])), (v1, .inl (cl 0, 20, .inl (fun _ => 0)))] := hD
  refine n_putF X K hin hP hD hS rfl iT0 tyX0_ok nmX0 0 (by decide) q104 rfl rfl rfl rfl (Nat.le_of_ble_eq_true rfl) rfl dX0_init_9 (fun H locs hP hD hS => ?_)
  refine lv_aload_n X.1 X.2.1 dX0_init_12 rfl (lv_at hl 0 rfl) ?_
  refine lv_bipush (v := (20 : Int32)) X.1 X.2.1 dX0_init_13 (by decide) ?_
  refine n_newi (N' := 20) X K hA hP hD hS (by decide) rfl (Nat.le_of_ble_eq_true rfl) (Nat.le_of_ble_eq_true rfl) (Nat.le_of_ble_eq_true rfl) dX0_init_15 (fun v2 H hP hD hS => ?_)
  have hP : va_P D vwCl [(q, .inr (0, [.ref v1, .null, .int 0])), (v1, .inl (cl 0, 20, .inl (fun _ => 0))), (v2, .inl (cl 0, 20, .inl (fun _ => 0)))] H := hP
  have hD : va_D A [(q, .inr (0, [.ref v1, .null, .int 0])), (v1, .inl (cl 0, 20, .inl (fun _ => 0))), (v2, .inl (cl 0, 20, .inl (fun _ => 0)))] := hD
  refine n_putF X K hin hP hD hS rfl iT0 tyX0_ok nmX0 1 (by decide) q106 rfl rfl rfl rfl (Nat.le_of_ble_eq_true rfl) rfl dX0_init_17 (fun H locs hP hD hS => ?_)
  refine lv_aload_n X.1 X.2.1 dX0_init_20 rfl (lv_at hl 0 rfl) ?_
  refine lv_iconst (v := (0 : Int32)) X.1 X.2.1 dX0_init_21 (by decide) ?_
  refine n_put X K hP hD hS rfl iT0 tyX0_ok nmX0 2 (by decide) q108 rfl rfl rfl (Nat.le_of_ble_eq_true rfl) rfl dX0_init_22 (fun H locs hP hD hS => ?_)
  exact n_end X hr hlk hAe (v1, v2) hP hD hS dX0_init_25
theorem k_X1_init (l : Launch) (D : va_G) (cl : Nat → ClassId) (q : Nat) : n_M l D cl yX1_init (g_code yX1_init cX1_init 1 none) 1 0 0 12 [.ref q] [(q, .inr (1, [.int 0, .int 0, .int 0, .int 0, .int 0, .int 0, .int 0]))] (n_B1 cl q) := by
  refine n_begin rfl (Nat.le_of_ble_eq_true rfl) rfl (fun p e s m below meth c ls A X hr hlk hin K hO hP hD hA hAe hl => ?_)
  have hS : va_S A s.heap s.heap [] := va_S.rf
  have X : CallFix p m c cX1_init 1 s ([.ref q] : List Value).toArray tt_T "TrustTin$Drinker" := X
  have hl : lv_has ls 1 [(0, .ref q)] := hl
  refine lv_aload_n X.1 X.2.1 dX1_init_0 rfl (lv_at hl 0 rfl) ?_
  refine n_obj X q122 hl.1 (Nat.le_of_ble_eq_true rfl) (Nat.le_of_ble_eq_true rfl) dX1_init_1 ?_
  exact n_end X hr hlk hAe () hP hD hS dX1_init_4
theorem k_X3_init (l : Launch) (D : va_G) (cl : Nat → ClassId) (q : Nat) : n_M l D cl yX3_init (g_code yX3_init cX3_init 1 none) 1 1 40 12 [.ref q] [(q, .inr (3, [.null, .int 0, .int 0]))] (n_B3 cl q) := by
  refine n_begin rfl (Nat.le_of_ble_eq_true rfl) rfl (fun p e s m below meth c ls A X hr hlk hin K hO hP hD hA hAe hl => ?_)
  have hS : va_S A s.heap s.heap [] := va_S.rf
  have X : CallFix p m c cX3_init 1 s ([.ref q] : List Value).toArray tt_T "TrustTin$Sheet" := X
  have hl : lv_has ls 1 [(0, .ref q)] := hl
  refine lv_aload_n X.1 X.2.1 dX3_init_0 rfl (lv_at hl 0 rfl) ?_
  refine n_obj X q266 hl.1 (Nat.le_of_ble_eq_true rfl) (Nat.le_of_ble_eq_true rfl) dX3_init_1 ?_
  refine lv_aload_n X.1 X.2.1 dX3_init_4 rfl (lv_at hl 0 rfl) ?_
  refine lv_bipush (v := (40 : Int32)) X.1 X.2.1 dX3_init_5 (by decide) ?_
  refine n_newi (N' := 40) X K hA hP hD hS (by decide) rfl (Nat.le_of_ble_eq_true rfl) (Nat.le_of_ble_eq_true rfl) (Nat.le_of_ble_eq_true rfl) dX3_init_7 (fun v1 H hP hD hS => ?_)
  have hP : va_P D vwCl [(q, .inr (3, [.null, .int 0, .int 0])), (v1, .inl (cl 0, 40, .inl (fun _ => 0)))] H := hP
  have hD : va_D A [(q, .inr (3, [.null, .int 0, .int 0])), (v1, .inl (cl 0, 40, .inl (fun _ => 0)))] := hD
  refine n_putF X K hin hP hD hS rfl iT3 tyX3_ok nmX3 0 (by decide) q267 rfl rfl rfl rfl (Nat.le_of_ble_eq_true rfl) rfl dX3_init_9 (fun H locs hP hD hS => ?_)
  refine lv_aload_n X.1 X.2.1 dX3_init_12 rfl (lv_at hl 0 rfl) ?_
  refine lv_iconst (v := (0 : Int32)) X.1 X.2.1 dX3_init_13 (by decide) ?_
  refine n_put X K hP hD hS rfl iT3 tyX3_ok nmX3 1 (by decide) q269 rfl rfl rfl (Nat.le_of_ble_eq_true rfl) rfl dX3_init_14 (fun H locs hP hD hS => ?_)
  refine lv_aload_n X.1 X.2.1 dX3_init_17 rfl (lv_at hl 0 rfl) ?_
  refine lv_iconst (v := (0 : Int32)) X.1 X.2.1 dX3_init_18 (by decide) ?_
  refine n_put X K hP hD hS rfl iT3 tyX3_ok nmX3 2 (by decide) q271 rfl rfl rfl (Nat.le_of_ble_eq_true rfl) rfl dX3_init_19 (fun H locs hP hD hS => ?_)
  exact n_end X hr hlk hAe v1 hP hD hS dX3_init_22
theorem k_X4_init (l : Launch) (D : va_G) (cl : Nat → ClassId) (q : Nat) : n_M l D cl yX4_init (g_code yX4_init cX4_init 1 none) 1 1 120 12 [.ref q] [(q, .inr (4, [.null, .int 0]))] (n_B4 cl q) := by
  refine n_begin rfl (Nat.le_of_ble_eq_true rfl) rfl (fun p e s m below meth c ls A X hr hlk hin K hO hP hD hA hAe hl => ?_)
  have hS : va_S A s.heap s.heap [] := va_S.rf
  have X : CallFix p m c cX4_init 1 s ([.ref q] : List Value).toArray tt_T "TrustTin$Tape" := X
  have hl : lv_has ls 1 [(0, .ref q)] := hl
  refine lv_aload_n X.1 X.2.1 dX4_init_0 rfl (lv_at hl 0 rfl) ?_
  refine n_obj X q224 hl.1 (Nat.le_of_ble_eq_true rfl) (Nat.le_of_ble_eq_true rfl) dX4_init_1 ?_
  refine lv_aload_n X.1 X.2.1 dX4_init_4 rfl (lv_at hl 0 rfl) ?_
  refine lv_bipush (v := (120 : Int32)) X.1 X.2.1 dX4_init_5 (by decide) ?_
  refine n_newi (N' := 120) X K hA hP hD hS (by decide) rfl (Nat.le_of_ble_eq_true rfl) (Nat.le_of_ble_eq_true rfl) (Nat.le_of_ble_eq_true rfl) dX4_init_7 (fun v1 H hP hD hS => ?_)
  have hP : va_P D vwCl [(q, .inr (4, [.null, .int 0])), (v1, .inl (cl 0, 120, .inl (fun _ => 0)))] H := hP
  have hD : va_D A [(q, .inr (4, [.null, .int 0])), (v1, .inl (cl 0, 120, .inl (fun _ => 0)))] := hD
  refine n_putF X K hin hP hD hS rfl iT4 tyX4_ok nmX4 0 (by decide) q225 rfl rfl rfl rfl (Nat.le_of_ble_eq_true rfl) rfl dX4_init_9 (fun H locs hP hD hS => ?_)
  refine lv_aload_n X.1 X.2.1 dX4_init_12 rfl (lv_at hl 0 rfl) ?_
  refine lv_iconst (v := (0 : Int32)) X.1 X.2.1 dX4_init_13 (by decide) ?_
  refine n_put X K hP hD hS rfl iT4 tyX4_ok nmX4 1 (by decide) q227 rfl rfl rfl (Nat.le_of_ble_eq_true rfl) rfl dX4_init_14 (fun H locs hP hD hS => ?_)
  exact n_end X hr hlk hAe v1 hP hD hS dX4_init_17
theorem k_X5_init (l : Launch) (D : va_G) (cl : Nat → ClassId) (q : Nat) (a1 : Nat) : n_M l D cl yX5_init (g_code yX5_init cX5_init 2 none) 1 0 0 12 [.ref q, .ref a1] [(q, .inr (5, [.null, .int 0, .int 0, .int 0, .int 0, .int 0]))] (n_B5 a1 q) := by
  refine n_begin rfl (Nat.le_of_ble_eq_true rfl) rfl (fun p e s m below meth c ls A X hr hlk hin K hO hP hD hA hAe hl => ?_)
  have hS : va_S A s.heap s.heap [] := va_S.rf
  have X : CallFix p m c cX5_init 2 s ([.ref q, .ref a1] : List Value).toArray tt_T "TrustTin$TextReader" := X
  have hl : lv_has ls 2 [(0, .ref q), (1, .ref a1)] := hl
  refine lv_aload_n X.1 X.2.1 dX5_init_0 rfl (lv_at hl 0 rfl) ?_
  refine n_obj X q240 hl.1 (Nat.le_of_ble_eq_true rfl) (Nat.le_of_ble_eq_true rfl) dX5_init_1 ?_
  refine lv_aload_n X.1 X.2.1 dX5_init_4 rfl (lv_at hl 0 rfl) ?_
  refine lv_iconst (v := (0 : Int32)) X.1 X.2.1 dX5_init_5 (by decide) ?_
  refine n_put X K hP hD hS rfl iT5 tyX5_ok nmX5 1 (by decide) q242 rfl rfl rfl (Nat.le_of_ble_eq_true rfl) rfl dX5_init_6 (fun H locs hP hD hS => ?_)
  refine lv_aload_n X.1 X.2.1 dX5_init_9 rfl (lv_at hl 0 rfl) ?_
  refine lv_iconst (v := (0 : Int32)) X.1 X.2.1 dX5_init_10 (by decide) ?_
  refine n_put X K hP hD hS rfl iT5 tyX5_ok nmX5 2 (by decide) q243 rfl rfl rfl (Nat.le_of_ble_eq_true rfl) rfl dX5_init_11 (fun H locs hP hD hS => ?_)
  refine lv_aload_n X.1 X.2.1 dX5_init_14 rfl (lv_at hl 0 rfl) ?_
  refine lv_iconst (v := (0 : Int32)) X.1 X.2.1 dX5_init_15 (by decide) ?_
  refine n_put X K hP hD hS rfl iT5 tyX5_ok nmX5 3 (by decide) q244 rfl rfl rfl (Nat.le_of_ble_eq_true rfl) rfl dX5_init_16 (fun H locs hP hD hS => ?_)
  refine lv_aload_n X.1 X.2.1 dX5_init_19 rfl (lv_at hl 0 rfl) ?_
  refine lv_iconst (v := (0 : Int32)) X.1 X.2.1 dX5_init_20 (by decide) ?_
  refine n_put X K hP hD hS rfl iT5 tyX5_ok nmX5 4 (by decide) q245 rfl rfl rfl (Nat.le_of_ble_eq_true rfl) rfl dX5_init_21 (fun H locs hP hD hS => ?_)
  refine lv_aload_n X.1 X.2.1 dX5_init_24 rfl (lv_at hl 0 rfl) ?_
  refine lv_iconst (v := (0 : Int32)) X.1 X.2.1 dX5_init_25 (by decide) ?_
  refine n_put X K hP hD hS rfl iT5 tyX5_ok nmX5 5 (by decide) q246 rfl rfl rfl (Nat.le_of_ble_eq_true rfl) rfl dX5_init_26 (fun H locs hP hD hS => ?_)
  refine lv_aload_n X.1 X.2.1 dX5_init_29 rfl (lv_at hl 0 rfl) ?_
  refine lv_aload_n X.1 X.2.1 dX5_init_30 rfl (lv_at hl 1 rfl) ?_
  refine n_putF X K hin hP hD hS rfl iT5 tyX5_ok nmX5 0 (by decide) q241 rfl rfl rfl rfl (Nat.le_of_ble_eq_true rfl) rfl dX5_init_31 (fun H locs hP hD hS => ?_)
  exact n_end X hr hlk hAe () hP hD hS dX5_init_34
