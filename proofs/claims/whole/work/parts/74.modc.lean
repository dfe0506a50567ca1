/-! the constructor of TrustTinModel -/
/-- the row of numbers at the start -/
def mm_d0 (k : Nat) : Int32 := if k = 1 then 5 else if k = 2 then 12 else if k = 3 then 12 else if k = 6 then 100 else if k = 10 then 1 else if 122 ≤ k then (-1 : Int32) else 0
def mm_f0 : Nat → Int32 := upd (upd (upd (upd (upd (fun _ => 0) (1 : Int32).toNatClampNeg 5) (2 : Int32).toNatClampNeg 12) (3 : Int32).toNatClampNeg 12) (6 : Int32).toNatClampNeg 100) (10 : Int32).toNatClampNeg 1
theorem mm_f0_eq {k : Nat} (h : k < 122) : mm_f0 k = mm_d0 k := by
  unfold mm_f0 mm_d0 upd
  rw [show (1 : Int32).toNatClampNeg = 1 from rfl, show (2 : Int32).toNatClampNeg = 2 from rfl, show (3 : Int32).toNatClampNeg = 3 from rfl, show (6 : Int32).toNatClampNeg = 6 from rfl, show (10 : Int32).toNatClampNeg = 10 from rfl]
  by_cases c1 : k = 1
  · subst c1; rfl
  by_cases c2 : k = 2
  · subst c2; rfl
  by_cases c3 : k = 3
  · subst c3; rfl
  by_cases c6 : k = 6
  · subst c6; rfl
  by_cases c10 : k = 10
  · subst c10; rfl
  rw [if_neg c10, if_neg c6, if_neg c3, if_neg c2, if_neg c1, if_neg c1, if_neg c2, if_neg c3, if_neg c6, if_neg c10, if_neg (by omega)]
def n_B7 (cl : Nat → ClassId) (q : Nat) (u : Nat → Nat) : va_W := [(q, .inr (7, [.ref (u 1), .ref (u 2), .ref (u 3), .int 0, .ref (u 4), .ref (u 5), .int 0, .int 0, .int 0, .int 0, .int 0, .int 0, .int 0, .int 0, .int 0, .int 0, .long 0, .int 0, .ref (u 6), .ref (u 7), .ref (u 8), .ref (u 9)])), (u 1, .inl (cl 0, 132, .inl mm_d0)), (u 2, .inl (cl 0, 132, .inl (fun _ => 0))), (u 3, .inl (cl 0, 132, .inl (fun _ => 0))), (u 4, .inl (cl 0, 7, .inl (fun _ => 0))), (u 5, .inl (cl 3, 120, .inl (fun _ => 0))), (u 6, .inl (cl 0, 4, .inl (fun _ => 0))), (u 7, .inl (cl 0, 4, .inl (fun _ => 0))), (u 8, .inl (cl 0, 160, .inl (fun _ => 0))), (u 9, .inl (cl 0, 40, .inl (fun _ => 0)))]
section NU
variable {p : Program} {l : Launch} {e : Env} {R : Room} {s : State} {m : MethodId} {args : Array Value} {below : List Frame} {meth : Method} {c : Code} {Q : State → Prop} {D : va_G} {cl : Nat → ClassId} {A : Nat → Prop} {ws : va_W} {q da c0 s0 : Nat} {fs : List Value}
/-- ten spots -/
theorem mod_L1 (X : CallFix p m c cX7_init 2 s args tt_T "TrustTinModel") (K : va_K D vwCl (n_tys cl) s) (hf : fs[0]? = some (.ref da))
    (kk : ∀ (f : Nat → Int32) (H : Heap) (locs : List Loc) (ls : Array Slot), (∀ k : Nat, k < 132 → f k = mm_d0 k) → va_P D vwCl ((q, .inr (7, fs)) :: (da, .inl (cl 0, 132, .inl f)) :: ws) H → va_D A ((q, .inr (7, fs)) :: (da, .inl (cl 0, 132, .inl f)) :: ws) → va_S A s.heap H locs → W p l e R s m args below meth c H locs c0 s0 Q (F0 m 142 ls [])) :
    ∀ (n k : Nat), k + n = 10 → ∀ (f : Nat → Int32) (H : Heap) (locs : List Loc) (ls : Array Slot), (∀ i : Nat, i < 122 + k → f i = mm_d0 i) → lv_has ls 2 [(1, .int (nI k)), (0, .ref q)] → va_P D vwCl ((q, .inr (7, fs)) :: (da, .inl (cl 0, 132, .inl f)) :: ws) H → va_D A ((q, .inr (7, fs)) :: (da, .inl (cl 0, 132, .inl f)) :: ws) → va_S A s.heap H locs → W p l e R s m args below meth c H locs c0 s0 Q (F0 m 120 ls []) := by
  intro n
  induction n with
  | zero =>
    intro k hk f H locs ls hfk hl hP hD hS
    obtain rfl : k = 10 := by omega
    refine lv_iload_n X.1 X.2.1 dX7_init_120 rfl (lv_at hl 0 rfl) ?_
    refine lv_bipush (v := (10 : Int32)) X.1 X.2.1 dX7_init_121 (by decide) ?_
    refine lv_icmp_ge (tgt := 142) X.1 X.2.1 dX7_init_123 (by decide) (fun _ => ?_) (fun z => absurd z (by decide))
    exact kk f H locs ls hfk hP hD hS
  | succ n ih =>
    intro k hk f H locs ls hfk hl hP hD hS
    have e10 : (10 : Int32).toInt = 10 := rfl
    have e122 : (122 : Int32).toInt = 122 := rfl
    have ek : (nI k).toInt = k := nI_toInt (by omega)
    have es : ((122 : Int32) + nI k).toInt = 122 + k := by rw [lp_add (by omega) (by omega), ek, e122]
    have hcl : ((122 : Int32) + nI k).toNatClampNeg = 122 + k := cl_eq (by rw [es]; rfl)
    refine lv_iload_n X.1 X.2.1 dX7_init_120 rfl (lv_at hl 0 rfl) ?_
    refine lv_bipush (v := (10 : Int32)) X.1 X.2.1 dX7_init_121 (by decide) ?_
    refine lv_icmp_ge (tgt := 142) X.1 X.2.1 dX7_init_123 (by decide) (fun z => absurd z (by rw [lp_le]; omega)) (fun _ => ?_)
    refine lv_aload_n X.1 X.2.1 dX7_init_126 rfl (lv_at hl 1 rfl) ?_
    refine n_get X K hP rfl iT7 0 (by decide) q836 hf dX7_init_127 ?_
    refine lv_bipush (v := (122 : Int32)) X.1 X.2.1 dX7_init_130 (by decide) ?_
    refine lv_iload_n X.1 X.2.1 dX7_init_132 rfl (lv_at hl 0 rfl) ?_
    refine lv_iadd X.1 X.2.1 dX7_init_133 ?_
    refine lv_iconst (v := (-1 : Int32)) X.1 X.2.1 dX7_init_134 (by decide) ?_
    refine va_iast X.1 X.2.1 K hP hD hS 1 0 rfl rfl (by rw [vp_in_iff]; omega) dX7_init_135 (fun H locs hP hD hS => ?_)
    refine lv_iinc (v := nI (k + 1)) (lv' := [(1, .int (nI (k + 1))), (0, .ref q)]) X.1 X.2.1 dX7_init_136 hl (k := 0) rfl (nI_1 k) (by decide) rfl (fun ls hl => ?_)
    refine lv_goto (tgt := 120) X.1 X.2.1 dX7_init_139 (by decide) ?_
    refine ih (k + 1) (by omega) (upd f ((122 : Int32) + nI k).toNatClampNeg (-1 : Int32)) H locs ls (fun i hi => ?_) hl hP hD hS
    rw [hcl]
    by_cases c1 : i = 122 + k
    · subst c1
      rw [upd_eq]
      unfold mm_d0
      rw [if_neg (by omega), if_neg (by omega), if_neg (by omega), if_neg (by omega), if_neg (by omega), if_pos (by omega)]
    · rw [upd_ne c1]; exact hfk i (by omega)
/-- the numbers that aren't 0, and the spots -/
theorem mod_L0 (X : CallFix p m c cX7_init 2 s args tt_T "TrustTinModel") (K : va_K D vwCl (n_tys cl) s) (hf : fs[0]? = some (.ref da))
    (kk : ∀ (f : Nat → Int32) (H : Heap) (locs : List Loc) (ls : Array Slot), (∀ k : Nat, k < 132 → f k = mm_d0 k) → va_P D vwCl ((q, .inr (7, fs)) :: (da, .inl (cl 0, 132, .inl f)) :: ws) H → va_D A ((q, .inr (7, fs)) :: (da, .inl (cl 0, 132, .inl f)) :: ws) → va_S A s.heap H locs → W p l e R s m args below meth c H locs c0 s0 Q (F0 m 142 ls []))
    (H : Heap) (locs : List Loc) (ls : Array Slot) (hl : lv_has ls 2 [(0, .ref q)]) (hP : va_P D vwCl ((q, .inr (7, fs)) :: (da, .inl (cl 0, 132, .inl (fun _ => 0))) :: ws) H) (hD : va_D A ((q, .inr (7, fs)) :: (da, .inl (cl 0, 132, .inl (fun _ => 0))) :: ws)) (hS : va_S A s.heap H locs) : W p l e R s m args below meth c H locs c0 s0 Q (F0 m 78 ls []) := by
  refine lv_aload_n X.1 X.2.1 dX7_init_78 rfl (lv_at hl 0 rfl) ?_
  refine n_get X K hP rfl iT7 0 (by decide) q836 hf dX7_init_79 ?_
  refine lv_iconst (v := (1 : Int32)) X.1 X.2.1 dX7_init_82 (by decide) ?_
  refine lv_iconst (v := (5 : Int32)) X.1 X.2.1 dX7_init_83 (by decide) ?_
  refine va_iast X.1 X.2.1 K hP hD hS 1 0 rfl rfl (by rw [vp_in_iff]; decide) dX7_init_84 (fun H locs hP hD hS => ?_)
  refine lv_aload_n X.1 X.2.1 dX7_init_85 rfl (lv_at hl 0 rfl) ?_
  refine n_get X K hP rfl iT7 0 (by decide) q836 hf dX7_init_86 ?_
  refine lv_iconst (v := (2 : Int32)) X.1 X.2.1 dX7_init_89 (by decide) ?_
  refine lv_bipush (v := (12 : Int32)) X.1 X.2.1 dX7_init_90 (by decide) ?_
  refine va_iast X.1 X.2.1 K hP hD hS 1 0 rfl rfl (by rw [vp_in_iff]; decide) dX7_init_92 (fun H locs hP hD hS => ?_)
  refine lv_aload_n X.1 X.2.1 dX7_init_93 rfl (lv_at hl 0 rfl) ?_
  refine n_get X K hP rfl iT7 0 (by decide) q836 hf dX7_init_94 ?_
  refine lv_iconst (v := (3 : Int32)) X.1 X.2.1 dX7_init_97 (by decide) ?_
  refine lv_bipush (v := (12 : Int32)) X.1 X.2.1 dX7_init_98 (by decide) ?_
  refine va_iast X.1 X.2.1 K hP hD hS 1 0 rfl rfl (by rw [vp_in_iff]; decide) dX7_init_100 (fun H locs hP hD hS => ?_)
  refine lv_aload_n X.1 X.2.1 dX7_init_101 rfl (lv_at hl 0 rfl) ?_
  refine n_get X K hP rfl iT7 0 (by decide) q836 hf dX7_init_102 ?_
  refine lv_bipush (v := (6 : Int32)) X.1 X.2.1 dX7_init_105 (by decide) ?_
  refine lv_bipush (v := (100 : Int32)) X.1 X.2.1 dX7_init_107 (by decide) ?_
  refine va_iast X.1 X.2.1 K hP hD hS 1 0 rfl rfl (by rw [vp_in_iff]; decide) dX7_init_109 (fun H locs hP hD hS => ?_)
  refine lv_aload_n X.1 X.2.1 dX7_init_110 rfl (lv_at hl 0 rfl) ?_
  refine n_get X K hP rfl iT7 0 (by decide) q836 hf dX7_init_111 ?_
  refine lv_bipush (v := (10 : Int32)) X.1 X.2.1 dX7_init_114 (by decide) ?_
  refine lv_iconst (v := (1 : Int32)) X.1 X.2.1 dX7_init_116 (by decide) ?_
  refine va_iast X.1 X.2.1 K hP hD hS 1 0 rfl rfl (by rw [vp_in_iff]; decide) dX7_init_117 (fun H locs hP hD hS => ?_)
  refine lv_iconst (v := (0 : Int32)) X.1 X.2.1 dX7_init_118 (by decide) ?_
  refine lv_istore_n (lv' := [(1, .int (0 : Int32)), (0, .ref q)]) X.1 X.2.1 dX7_init_119 rfl hl (by decide) rfl (fun ls hl => ?_)
  exact mod_L1 X K hf kk 10 0 rfl mm_f0 H locs ls (fun i hi => mm_f0_eq (by omega)) hl hP hD hS
end NU
theorem k_X7_init (l : Launch) (D : va_G) (cl : Nat → ClassId) (q : Nat) : n_M l D cl yX7_init (g_code yX7_init cX7_init 2 none) 1 9 731 12 [.ref q] [(q, .inr (7, [.null, .null, .null, .int 0, .null, .null, .int 0, .int 0, .int 0, .int 0, .int 0, .int 0, .int 0, .int 0, .int 0, .int 0, .long 0, .int 0, .null, .null, .null, .null]))] (n_B7 cl q) := by
  refine n_begin rfl (Nat.le_of_ble_eq_true rfl) rfl (fun p e s m below meth c ls A X hr hlk hin K hO hP hD hA hAe hl => ?_)
  have hS : va_S A s.heap s.heap [] := va_S.rf
  have X : CallFix p m c cX7_init 2 s ([.ref q] : List Value).toArray tt_T "TrustTinModel" := X
  have hl : lv_has ls 2 [(0, .ref q)] := hl
  refine lv_aload_n X.1 X.2.1 dX7_init_0 rfl (lv_at hl 0 rfl) ?_
  refine n_obj X q835 hl.1 (Nat.le_of_ble_eq_true rfl) (Nat.le_of_ble_eq_true rfl) dX7_init_1 ?_
  refine lv_aload_n X.1 X.2.1 dX7_init_4 rfl (lv_at hl 0 rfl) ?_
  refine lv_sipush (v := (132 : Int32)) X.1 X.2.1 dX7_init_5 (by decide) ?_
  refine n_newi (N' := 132) X K hA hP hD hS (by decide) rfl (Nat.le_of_ble_eq_true rfl) (Nat.le_of_ble_eq_true rfl) (Nat.le_of_ble_eq_true rfl) dX7_init_8 (fun v1 H hP hD hS => ?_)
  have hP : va_P D vwCl [(q, .inr (7, [.null, .null, .null, .int 0, .null, .null, .int 0, .int 0, .int 0, .int 0, .int 0, .int 0, .int 0, .int 0, .int 0, .int 0, .long 0, .int 0, .null, .null, .null, .null])), (v1, .inl (cl 0, 132, .inl (fun _ => 0)))] H := hP
  have hD : va_D A [(q, .inr (7, [.null, .null, .null, .int 0, .null, .null, .int 0, .int 0, .int 0, .int 0, .int 0, .int 0, .int 0, .int 0, .int 0, .int 0, .long 0, .int 0, .null, .null, .null, .null])), (v1, .inl (cl 0, 132, .inl (fun _ => 0)))] := hD
  refine n_putF X K hin hP hD hS rfl iT7 tyX7_ok nmX7 0 (by decide) q836 rfl rfl rfl rfl (Nat.le_of_ble_eq_true rfl) rfl dX7_init_10 (fun H locs hP hD hS => ?_)
  refine lv_aload_n X.1 X.2.1 dX7_init_13 rfl (lv_at hl 0 rfl) ?_
  refine lv_sipush (v := (132 : Int32)) X.1 X.2.1 dX7_init_14 (by decide) ?_
  refine n_newi (N' := 132) X K hA hP hD hS (by decide) rfl (Nat.le_of_ble_eq_true rfl) (Nat.le_of_ble_eq_true rfl) (Nat.le_of_ble_eq_true rfl) dX7_init_17 (fun v2 H hP hD hS => ?_)
  have hP : va_P D vwCl [(q, .inr (7, [.ref v1, .null, .null, .int 0, .null, .null, .int 0, .int 0, .int 0, .int 0, .int 0, .int 0, .int 0, .int 0, .int 0, .int 0, .long 0, .int 0, .null, .null, .null, .null])), (v1, .inl (cl 0, 132, .inl (fun _ => 0))), (v2, .inl (cl 0, 132, .inl (fun _ => 0)))] H := hP
  have hD : va_D A [(q, .inr (7, [.ref v1, .null, .null, .int 0, .null, .null, .int 0, .int 0, .int 0, .int 0, .int 0, .int 0, .int 0, .int 0, .int 0, .int 0, .long 0, .int 0, .null, .null, .null, .null])), (v1, .inl (cl 0, 132, .inl (fun _ => 0))), (v2, .inl (cl 0, 132, .inl (fun _ => 0)))] := hD
  refine n_putF X K hin hP hD hS rfl iT7 tyX7_ok nmX7 1 (by decide) q837 rfl rfl rfl rfl (Nat.le_of_ble_eq_true rfl) rfl dX7_init_19 (fun H locs hP hD hS => ?_)
  refine lv_aload_n X.1 X.2.1 dX7_init_22 rfl (lv_at hl 0 rfl) ?_
  refine lv_sipush (v := (132 : Int32)) X.1 X.2.1 dX7_init_23 (by decide) ?_
  refine n_newi (N' := 132) X K hA hP hD hS (by decide) rfl (Nat.le_of_ble_eq_true rfl) (Nat.le_of_ble_eq_true rfl) (Nat.le_of_ble_eq_true rfl) dX7_init_26 (fun v3 H hP hD hS => ?_)
  have hP : va_P D vwCl [(q, .inr (7, [.ref v1, .ref v2, .null, .int 0, .null, .null, .int 0, .int 0, .int 0, .int 0, .int 0, .int 0, .int 0, .int 0, .int 0, .int 0, .long 0, .int 0, .null, .null, .null, .null])), (v1, .inl (cl 0, 132, .inl (fun _ => 0))), (v2, .inl (cl 0, 132, .inl (fun _ => 0))), (v3, .inl (cl 0, 132, .inl (fun _ => 0)))] H := hP
  have hD : va_D A [(q, .inr (7, [.ref v1, .ref v2, .null, .int 0, .null, .null, .int 0, .int 0, .int 0, .int 0, .int 0, .int 0, .int 0, .int 0, .int 0, .int 0, .long 0, .int 0, .null, .null, .null, .null])), (v1, .inl (cl 0, 132, .inl (fun _ => 0))), (v2, .inl (cl 0, 132, .inl (fun _ => 0))), (v3, .inl (cl 0, 132, .inl (fun _ => 0)))] := hD
  refine n_putF X K hin hP hD hS rfl iT7 tyX7_ok nmX7 2 (by decide) q838 rfl rfl rfl rfl (Nat.le_of_ble_eq_true rfl) rfl dX7_init_28 (fun H locs hP hD hS => ?_)
  refine lv_aload_n X.1 X.2.1 dX7_init_31 rfl (lv_at hl 0 rfl) ?_
  refine lv_bipush (v := (7 : Int32)) X.1 X.2.1 dX7_init_32 (by decide) ?_
  refine n_newi (N' := 7) X K hA hP hD hS (by decide) rfl (Nat.le_of_ble_eq_true rfl) (Nat.le_of_ble_eq_true rfl) (Nat.le_of_ble_eq_true rfl) dX7_init_34 (fun v4 H hP hD hS => ?_)
  have hP : va_P D vwCl [(q, .inr (7, [.ref v1, .ref v2, .ref v3, .int 0, .null, .null, .int 0, .int 0, .int 0, .int 0, .int 0, .int 0, .int 0, .int 0, .int 0, .int 0, .long 0, .int 0, .null, .null, .null, .null])), (v1, .inl (cl 0, 132, .inl (fun _ => 0))), (v2, .inl (cl 0, 132, .inl (fun _ => 0))), (v3, .inl (cl 0, 132, .inl (fun _ => 0))), (v4, .inl (cl 0, 7, .inl (fun _ => 0)))] H := hP
  have hD : va_D A [(q, .inr (7, [.ref v1, .ref v2, .ref v3, .int 0, .null, .null, .int 0, .int 0, .int 0, .int 0, .int 0, .int 0, .int 0, .int 0, .int 0, .int 0, .long 0, .int 0, .null, .null, .null, .null])), (v1, .inl (cl 0, 132, .inl (fun _ => 0))), (v2, .inl (cl 0, 132, .inl (fun _ => 0))), (v3, .inl (cl 0, 132, .inl (fun _ => 0))), (v4, .inl (cl 0, 7, .inl (fun _ => 0)))] := hD
  refine n_putF X K hin hP hD hS rfl iT7 tyX7_ok nmX7 4 (by decide) q840 rfl rfl rfl rfl (Nat.le_of_ble_eq_true rfl) rfl dX7_init_36 (fun H locs hP hD hS => ?_)
  refine lv_aload_n X.1 X.2.1 dX7_init_39 rfl (lv_at hl 0 rfl) ?_
  refine lv_bipush (v := (120 : Int32)) X.1 X.2.1 dX7_init_40 (by decide) ?_
  refine n_newb (N' := 120) X K hA hP hD hS (by decide) rfl (Nat.le_of_ble_eq_true rfl) (Nat.le_of_ble_eq_true rfl) (Nat.le_of_ble_eq_true rfl) dX7_init_42 (fun v5 H hP hD hS => ?_)
  have hP : va_P D vwCl [(q, .inr (7, [.ref v1, .ref v2, .ref v3, .int 0, .ref v4, .null, .int 0, .int 0, .int 0, .int 0, .int 0, .int 0, .int 0, .int 0, .int 0, .int 0, .long 0, .int 0, .null, .null, .null, .null])), (v1, .inl (cl 0, 132, .inl (fun _ => 0))), (v2, .inl (cl 0, 132, .inl (fun _ => 0))), (v3, .inl (cl 0, 132, .inl (fun _ => 0))), (v4, .inl (cl 0, 7, .inl (fun _ => 0))), (v5, .inl (cl 3, 120, .inl (fun _ => 0)))] H := hP
  have hD : va_D A [(q, .inr (7, [.ref v1, .ref v2, .ref v3, .int 0, .ref v4, .null, .int 0, .int 0, .int 0, .int 0, .int 0, .int 0, .int 0, .int 0, .int 0, .int 0, .long 0, .int 0, .null, .null, .null, .null])), (v1, .inl (cl 0, 132, .inl (fun _ => 0))), (v2, .inl (cl 0, 132, .inl (fun _ => 0))), (v3, .inl (cl 0, 132, .inl (fun _ => 0))), (v4, .inl (cl 0, 7, .inl (fun _ => 0))), (v5, .inl (cl 3, 120, .inl (fun _ => 0)))] := hD
  refine n_putF X K hin hP hD hS rfl iT7 tyX7_ok nmX7 5 (by decide) q841 rfl rfl rfl rfl (Nat.le_of_ble_eq_true rfl) rfl dX7_init_44 (fun H locs hP hD hS => ?_)
  refine lv_aload_n X.1 X.2.1 dX7_init_47 rfl (lv_at hl 0 rfl) ?_
  refine lv_iconst (v := (4 : Int32)) X.1 X.2.1 dX7_init_48 (by decide) ?_
  refine n_newi (N' := 4) X K hA hP hD hS (by decide) rfl (Nat.le_of_ble_eq_true rfl) (Nat.le_of_ble_eq_true rfl) (Nat.le_of_ble_eq_true rfl) dX7_init_49 (fun v6 H hP hD hS => ?_)
  have hP : va_P D vwCl [(q, .inr (7, [.ref v1, .ref v2, .ref v3, .int 0, .ref v4, .ref v5, .int 0, .int 0, .int 0, .int 0, .int 0, .int 0, .int 0, .int 0, .int 0, .int 0, .long 0, .int 0, .null, .null, .null, .null])), (v1, .inl (cl 0, 132, .inl (fun _ => 0))), (v2, .inl (cl 0, 132, .inl (fun _ => 0))), (v3, .inl (cl 0, 132, .inl (fun _ => 0))), (v4, .inl (cl 0, 7, .inl (fun _ => 0))), (v5, .inl (cl 3, 120, .inl (fun _ => 0))), (v6, .inl (cl 0, 4, .inl (fun _ => 0)))] H := hP
  have hD : va_D A [(q, .inr (7, [.ref v1, .ref v2, .ref v3, .int 0, .ref v4, .ref v5, .int 0, .int 0, .int 0, .int 0, .int 0, .int 0, .int 0, .int 0, .int 0, .int 0, .long 0, .int 0, .null, .null, .null, .null])), (v1, .inl (cl 0, 132, .inl (fun _ => 0))), (v2, .inl (cl 0, 132, .inl (fun _ => 0))), (v3, .inl (cl 0, 132, .inl (fun _ => 0))), (v4, .inl (cl 0, 7, .inl (fun _ => 0))), (v5, .inl (cl 3, 120, .inl (fun _ => 0))), (v6, .inl (cl 0, 4, .inl (fun _ => 0)))] := hD
  refine n_putF X K hin hP hD hS rfl iT7 tyX7_ok nmX7 18 (by decide) q854 rfl rfl rfl rfl (Nat.le_of_ble_eq_true rfl) rfl dX7_init_51 (fun H locs hP hD hS => ?_)
  refine lv_aload_n X.1 X.2.1 dX7_init_54 rfl (lv_at hl 0 rfl) ?_
  refine lv_iconst (v := (4 : Int32)) X.1 X.2.1 dX7_init_55 (by decide) ?_
  refine n_newi (N' := 4) X K hA hP hD hS (by decide) rfl (Nat.le_of_ble_eq_true rfl) (Nat.le_of_ble_eq_true rfl) (Nat.le_of_ble_eq_true rfl) dX7_init_56 (fun v7 H hP hD hS => ?_)
  have hP : va_P D vwCl [(q, .inr (7, [.ref v1, .ref v2, .ref v3, .int 0, .ref v4, .ref v5, .int 0, .int 0, .int 0, .int 0, .int 0, .int 0, .int 0, .int 0, .int 0, .int 0, .long 0, .int 0, .ref v6, .null, .null, .null])), (v1, .inl (cl 0, 132, .inl (fun _ => 0))), (v2, .inl (cl 0, 132, .inl (fun _ => 0))), (v3, .inl (cl 0, 132, .inl (fun _ => 0))), (v4, .inl (cl 0, 7, .inl (fun _ => 0))), (v5, .inl (cl 3, 120, .inl (fun _ => 0))), (v6, .inl (cl 0, 4, .inl (fun _ => 0))), (v7, .inl (cl 0, 4, .inl (fun _ => 0)))] H := hP
  have hD : va_D A [(q, .inr (7, [.ref v1, .ref v2, .ref v3, .int 0, .ref v4, .ref v5, .int 0, .int 0, .int 0, .int 0, .int 0, .int 0, .int 0, .int 0, .int 0, .int 0, .long 0, .int 0, .ref v6, .null, .null, .null])), (v1, .inl (cl 0, 132, .inl (fun _ => 0))), (v2, .inl (cl 0, 132, .inl (fun _ => 0))), (v3, .inl (cl 0, 132, .inl (fun _ => 0))), (v4, .inl (cl 0, 7, .inl (fun _ => 0))), (v5, .inl (cl 3, 120, .inl (fun _ => 0))), (v6, .inl (cl 0, 4, .inl (fun _ => 0))), (v7, .inl (cl 0, 4, .inl (fun _ => 0)))] := hD
  refine n_putF X K hin hP hD hS rfl iT7 tyX7_ok nmX7 19 (by decide) q855 rfl rfl rfl rfl (Nat.le_of_ble_eq_true rfl) rfl dX7_init_58 (fun H locs hP hD hS => ?_)
  refine lv_aload_n X.1 X.2.1 dX7_init_61 rfl (lv_at hl 0 rfl) ?_
  refine lv_sipush (v := (160 : Int32)) X.1 X.2.1 dX7_init_62 (by decide) ?_
  refine n_newi (N' := 160) X K hA hP hD hS (by decide) rfl (Nat.le_of_ble_eq_true rfl) (Nat.le_of_ble_eq_true rfl) (Nat.le_of_ble_eq_true rfl) dX7_init_65 (fun v8 H hP hD hS => ?_)
  have hP : va_P D vwCl [(q, .inr (7, [.ref v1, .ref v2, .ref v3, .int 0, .ref v4, .ref v5, .int 0, .int 0, .int 0, .int 0, .int 0, .int 0, .int 0, .int 0, .int 0, .int 0, .long 0, .int 0, .ref v6, .ref v7, .null, .null])), (v1, .inl (cl 0, 132, .inl (fun _ => 0))), (v2, .inl (cl 0, 132, .inl (fun _ => 0))), (v3, .inl (cl 0, 132, .inl (fun _ => 0))), (v4, .inl (cl 0, 7, .inl (fun _ => 0))), (v5, .inl (cl 3, 120, .inl (fun _ => 0))), (v6, .inl (cl 0, 4, .inl (fun _ => 0))), (v7, .inl (cl 0, 4, .inl (fun _ => 0))), (v8, .inl (cl 0, 160, .inl (fun _ => 0)))] H := hP
  have hD : va_D A [(q, .inr (7, [.ref v1, .ref v2, .ref v3, .int 0, .ref v4, .ref v5, .int 0, .int 0, .int 0, .int 0, .int 0, .int 0, .int 0, .int 0, .int 0, .int 0, .long 0, .int 0, .ref v6, .ref v7, .null, .null])), (v1, .inl (cl 0, 132, .inl (fun _ => 0))), (v2, .inl (cl 0, 132, .inl (fun _ => 0))), (v3, .inl (cl 0, 132, .inl (fun _ => 0))), (v4, .inl (cl 0, 7, .inl (fun _ => 0))), (v5, .inl (cl 3, 120, .inl (fun _ => 0))), (v6, .inl (cl 0, 4, .inl (fun _ => 0))), (v7, .inl (cl 0, 4, .inl (fun _ => 0))), (v8, .inl (cl 0, 160, .inl (fun _ => 0)))] := hD
  refine n_putF X K hin hP hD hS rfl iT7 tyX7_ok nmX7 20 (by decide) q856 rfl rfl rfl rfl (Nat.le_of_ble_eq_true rfl) rfl dX7_init_67 (fun H locs hP hD hS => ?_)
  refine lv_aload_n X.1 X.2.1 dX7_init_70 rfl (lv_at hl 0 rfl) ?_
  refine lv_bipush (v := (40 : Int32)) X.1 X.2.1 dX7_init_71 (by decide) ?_
  refine n_newi (N' := 40) X K hA hP hD hS (by decide) rfl (Nat.le_of_ble_eq_true rfl) (Nat.le_of_ble_eq_true rfl) (Nat.le_of_ble_eq_true rfl) dX7_init_73 (fun v9 H hP hD hS => ?_)
  have hP : va_P D vwCl [(q, .inr (7, [.ref v1, .ref v2, .ref v3, .int 0, .ref v4, .ref v5, .int 0, .int 0, .int 0, .int 0, .int 0, .int 0, .int 0, .int 0, .int 0, .int 0, .long 0, .int 0, .ref v6, .ref v7, .ref v8, .null])), (v1, .inl (cl 0, 132, .inl (fun _ => 0))), (v2, .inl (cl 0, 132, .inl (fun _ => 0))), (v3, .inl (cl 0, 132, .inl (fun _ => 0))), (v4, .inl (cl 0, 7, .inl (fun _ => 0))), (v5, .inl (cl 3, 120, .inl (fun _ => 0))), (v6, .inl (cl 0, 4, .inl (fun _ => 0))), (v7, .inl (cl 0, 4, .inl (fun _ => 0))), (v8, .inl (cl 0, 160, .inl (fun _ => 0))), (v9, .inl (cl 0, 40, .inl (fun _ => 0)))] H := hP
  have hD : va_D A [(q, .inr (7, [.ref v1, .ref v2, .ref v3, .int 0, .ref v4, .ref v5, .int 0, .int 0, .int 0, .int 0, .int 0, .int 0, .int 0, .int 0, .int 0, .int 0, .long 0, .int 0, .ref v6, .ref v7, .ref v8, .null])), (v1, .inl (cl 0, 132, .inl (fun _ => 0))), (v2, .inl (cl 0, 132, .inl (fun _ => 0))), (v3, .inl (cl 0, 132, .inl (fun _ => 0))), (v4, .inl (cl 0, 7, .inl (fun _ => 0))), (v5, .inl (cl 3, 120, .inl (fun _ => 0))), (v6, .inl (cl 0, 4, .inl (fun _ => 0))), (v7, .inl (cl 0, 4, .inl (fun _ => 0))), (v8, .inl (cl 0, 160, .inl (fun _ => 0))), (v9, .inl (cl 0, 40, .inl (fun _ => 0)))] := hD
  refine n_putF X K hin hP hD hS rfl iT7 tyX7_ok nmX7 21 (by decide) q857 rfl rfl rfl rfl (Nat.le_of_ble_eq_true rfl) rfl dX7_init_75 (fun H locs hP hD hS => ?_)
  refine mod_L0 (q := q) (da := v1) (fs := [.ref v1, .ref v2, .ref v3, .int 0, .ref v4, .ref v5, .int 0, .int 0, .int 0, .int 0, .int 0, .int 0, .int 0, .int 0, .int 0, .int 0, .long 0, .int 0, .ref v6, .ref v7, .ref v8, .ref v9]) (c0 := 9) (s0 := 731) (ws := [(v2, .inl (cl 0, 132, .inl (fun _ => 0))), (v3, .inl (cl 0, 132, .inl (fun _ => 0))), (v4, .inl (cl 0, 7, .inl (fun _ => 0))), (v5, .inl (cl 3, 120, .inl (fun _ => 0))), (v6, .inl (cl 0, 4, .inl (fun _ => 0))), (v7, .inl (cl 0, 4, .inl (fun _ => 0))), (v8, .inl (cl 0, 160, .inl (fun _ => 0))), (v9, .inl (cl 0, 40, .inl (fun _ => 0)))]) X K rfl (fun f H locs ls hf hP hD hS => ?_) H locs ls hl hP hD hS
  have hD3 : va_D A (n_B7 cl q (fun i => ([0, v1, v2, v3, v4, v5, v6, v7, v8, v9] : List Nat).getD i 0)) := n_Dadr (by rfl) hD
  obtain ⟨a1, hP⟩ := n_Pcons.mp hP
  obtain ⟨a2, hP⟩ := n_Pcons.mp hP
  have a2 := n_exti (g := mm_d0) a2 hf
  exact n_end X hr hlk hAe (fun i => ([0, v1, v2, v3, v4, v5, v6, v7, v8, v9] : List Nat).getD i 0) (n_Pcons.mpr ⟨a1, n_Pcons.mpr ⟨a2, hP⟩⟩) hD3 hS dX7_init_142
