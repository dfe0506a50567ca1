/-! the constructor of Room -/
theorem n_Pcons {D : va_G} {x : Nat × va_E} {ws : va_W} {H : Heap} : va_P D vwCl (x :: ws) H ↔ va_at D vwCl x H ∧ va_P D vwCl ws H := by
  constructor
  · intro h
    exact ⟨h 0 x rfl, fun k q hk => h (k + 1) q hk⟩
  · rintro ⟨h1, h2⟩ k q hk
    rcases k with _ | k
    · have hk : some x = some q := hk
      rw [← Option.some.inj hk]
      exact h1
    · exact h2 k q hk
/-- only the addresses count -/
theorem n_Dadr {A : Nat → Prop} {ws ws' : va_W} (e : ws.map (·.1) = ws'.map (·.1)) (h : va_D A ws) : va_D A ws' := by
  have k1 : ∀ (k : Nat) (q : Nat × va_E), ws'[k]? = some q → ∃ q2 : Nat × va_E, ws[k]? = some q2 ∧ q2.1 = q.1 := fun k q hk => by
    have h1 : (ws'.map (·.1))[k]? = some q.1 := by rw [List.getElem?_map, hk]; rfl
    rw [← e, List.getElem?_map] at h1
    cases h2 : ws[k]? with
    | none => rw [h2] at h1; cases h1
    | some q2 => rw [h2] at h1; exact ⟨q2, rfl, Option.some.inj h1⟩
  refine ⟨fun i j p q h1 h2 he => ?_, fun k q hk => ?_⟩
  · obtain ⟨p2, a1, a2⟩ := k1 i p h1
    obtain ⟨q2, b1, b2⟩ := k1 j q h2
    exact h.1 i j p2 q2 a1 b1 (by rw [a2, b2]; exact he)
  · obtain ⟨q2, a1, a2⟩ := k1 k q hk
    rw [← a2]
    exact h.2 k q2 a1
theorem n_map {k : Nat} {f g : Nat → Nat × va_E} (h : ∀ i : Nat, i < k → f i = g i) : (List.range k).map f = (List.range k).map g := List.map_congr_left (fun i hi => h i (List.mem_range.mp hi))
def n_B2 (cl : Nat → ClassId) (q : Nat) (u : Nat → Nat) : va_W := (q, .inr (2, [.ref (u 10), .int 0, .int 5, .int 12, .int 12, .int 0, .int 0, .int 100, .int 0, .int 0, .int 0, .int 1, .ref (u 11), .ref (u 14)])) :: (u 10, .inl (cl 1, 10, .inr (.inr (.inr (.inr (fun i => some (u i))))))) :: (u 11, .inr (0, [.ref (u 12), .ref (u 13), .int 0])) :: (u 12, .inl (cl 0, 20, .inl (fun _ => 0))) :: (u 13, .inl (cl 0, 20, .inl (fun _ => 0))) :: (u 14, .inl (cl 0, 10, .inl (fun _ => (-1 : Int32)))) :: (List.range 10).map (fun i => (u i, n_dr))
def n_ar (ad : Nat → Nat) (k : Nat) : Nat → Option Nat := fun i => if i < k then some (ad i) else none
section NR
variable {p : Program} {l : Launch} {e : Env} {R : Room} {s : State} {m : MethodId} {args : Array Value} {below : List Frame} {meth : Method} {c : Code} {Q : State → Prop} {D : va_G} {cl : Nat → ClassId} {A : Nat → Prop} {ws0 : va_W} {q da c0 s0 : Nat} {fs : List Value}
/-- ten drinkers -/
theorem room_L1 (X : CallFix p m c cX2_init 2 s args tt_T "TrustTin$Room") (K : va_K D vwCl (n_tys cl) s) (hO : n_AO s) (hA : ∀ q, s.heap.size ≤ q → A q) (hf0 : fs[0]? = some (.ref da)) (hR : 2 ≤ R.frames ∧ 32 ≤ R.locals) (hc : c0 + 10 ≤ R.cells) (hs : s0 + 70 ≤ R.slots)
    (kk : ∀ (ad : Nat → Nat) (H : Heap) (locs : List Loc) (ls : Array Slot), lv_has ls 2 [(1, .int (10 : Int32)), (0, .ref q)] → va_P D vwCl ((q, .inr (2, fs)) :: (da, .inl (cl 1, 10, .inr (.inr (.inr (.inr (n_ar ad 10)))))) :: (ws0 ++ (List.range 10).map (fun i => (ad i, n_dr)))) H → va_D A ((q, .inr (2, fs)) :: (da, .inl (cl 1, 10, .inr (.inr (.inr (.inr (n_ar ad 10)))))) :: (ws0 ++ (List.range 10).map (fun i => (ad i, n_dr)))) → va_S A s.heap H locs → W p l e R s m args below meth c H locs (c0 + 10) (s0 + 70) Q (F0 m 117 ls [])) :
    ∀ (n k : Nat), k + n = 10 → ∀ (ad : Nat → Nat) (H : Heap) (locs : List Loc) (ls : Array Slot), lv_has ls 2 [(1, .int (nI k)), (0, .ref q)] → va_P D vwCl ((q, .inr (2, fs)) :: (da, .inl (cl 1, 10, .inr (.inr (.inr (.inr (n_ar ad k)))))) :: (ws0 ++ (List.range k).map (fun i => (ad i, n_dr)))) H → va_D A ((q, .inr (2, fs)) :: (da, .inl (cl 1, 10, .inr (.inr (.inr (.inr (n_ar ad k)))))) :: (ws0 ++ (List.range k).map (fun i => (ad i, n_dr)))) → va_S A s.heap H locs → W p l e R s m args below meth c H locs (c0 + k) (s0 + 7 * k) Q (F0 m 92 ls []) := by
  intro n
  induction n with
  | zero =>
    intro k hk ad H locs ls hl hP hD hS
    obtain rfl : k = 10 := by omega
    refine lv_iload_n X.1 X.2.1 dX2_init_92 rfl (lv_at hl 0 rfl) ?_
    refine lv_bipush (v := (10 : Int32)) X.1 X.2.1 dX2_init_93 (by decide) ?_
    refine lv_icmp_ge (tgt := 117) X.1 X.2.1 dX2_init_95 (by decide) (fun _ => ?_) (fun z => absurd z (by decide))
    exact kk ad H locs ls hl hP hD hS
  | succ n ih =>
    intro k hk ad H locs ls hl hP hD hS
    have e10 : (10 : Int32).toInt = 10 := rfl
    have ek : (nI k).toInt = k := nI_toInt (by omega)
    refine lv_iload_n X.1 X.2.1 dX2_init_92 rfl (lv_at hl 0 rfl) ?_
    refine lv_bipush (v := (10 : Int32)) X.1 X.2.1 dX2_init_93 (by decide) ?_
    refine lv_icmp_ge (tgt := 117) X.1 X.2.1 dX2_init_95 (by decide) (fun z => absurd z (by rw [lp_le]; omega)) (fun _ => ?_)
    refine lv_aload_n X.1 X.2.1 dX2_init_98 rfl (lv_at hl 1 rfl) ?_
    refine n_get X K hP rfl iT2 0 (by decide) q159 hf0 dX2_init_99 ?_
    refine lv_iload_n X.1 X.2.1 dX2_init_102 rfl (lv_at hl 0 rfl) ?_
    refine n_make X K hO hA hP hD hS rfl iT1 tyX1_ok (by decide) q96 q118 q70 (k_X1_init l D cl) rfl rfl (by decide +kernel) (Or.inr hO.2.2.2.1) q120 q121 ⟨hR.1, by have := hR.2; omega⟩ hl.1 (Nat.le_of_ble_eq_true rfl) dX2_init_103 dX2_init_106 dX2_init_107 (by omega) (by omega) (fun v u H locs hP hD hS => ?_)
    have hP : va_P D vwCl ((q, .inr (2, fs)) :: (da, .inl (cl 1, 10, .inr (.inr (.inr (.inr (n_ar ad k)))))) :: ((ws0 ++ (List.range k).map (fun i => (ad i, n_dr))) ++ [(v, n_dr)])) H := hP
    have hD : va_D A ((q, .inr (2, fs)) :: (da, .inl (cl 1, 10, .inr (.inr (.inr (.inr (n_ar ad k)))))) :: ((ws0 ++ (List.range k).map (fun i => (ad i, n_dr))) ++ [(v, n_dr)])) := hD
    have hv : ((q, .inr (2, fs)) :: (da, .inl (cl 1, 10, .inr (.inr (.inr (.inr (n_ar ad k)))))) :: ((ws0 ++ (List.range k).map (fun i => (ad i, n_dr))) ++ [(v, n_dr)]) : va_W)[(ws0 ++ (List.range k).map (fun i => (ad i, n_dr))).length + 1 + 1]? = some (v, n_dr) := by
      rw [List.getElem?_cons_succ, List.getElem?_cons_succ]
      simp
    have hcl : (nI k).toNatClampNeg = k := cl_eq ek
    refine va_astq (ci := 1) X.1 X.2.1 K hP hD hS 1 1 _ (r := (RX1, TX1, 7)) rfl rfl hv rfl (by rw [vp_in_iff]; omega) dX2_init_110 (fun H locs hP hD hS => ?_)
    have ea : va_up (n_ar ad k) (nI k).toNatClampNeg (some v) = n_ar (fun i => if i = k then v else ad i) (k + 1) := by
      funext i
      rw [hcl]
      unfold va_up n_ar
      by_cases c1 : i = k
      · dsimp only
        rw [if_pos c1, if_pos (by omega), if_pos c1]
      · rw [if_neg c1]
        by_cases c2 : i < k
        · dsimp only
          rw [if_pos c2, if_pos (by omega), if_neg c1]
        · rw [if_neg c2, if_neg (by omega)]
    have el : ((ws0 ++ (List.range k).map (fun i => (ad i, n_dr))) ++ [(v, n_dr)] : va_W) = ws0 ++ (List.range (k + 1)).map (fun i => ((if i = k then v else ad i), n_dr)) := by
      rw [List.range_succ, List.map_append, ← List.append_assoc]
      congr 1
      · congr 1
        exact n_map (fun i hi => by rw [if_neg (by omega)])
      · simp
    rw [ea] at hP hD
    have hP : va_P D vwCl ((q, .inr (2, fs)) :: (da, .inl (cl 1, 10, .inr (.inr (.inr (.inr (n_ar (fun i => if i = k then v else ad i) (k + 1))))))) :: ((ws0 ++ (List.range k).map (fun i => (ad i, n_dr))) ++ [(v, n_dr)])) H := hP
    have hD : va_D A ((q, .inr (2, fs)) :: (da, .inl (cl 1, 10, .inr (.inr (.inr (.inr (n_ar (fun i => if i = k then v else ad i) (k + 1))))))) :: ((ws0 ++ (List.range k).map (fun i => (ad i, n_dr))) ++ [(v, n_dr)])) := hD
    rw [el] at hP hD
    refine lv_iinc (v := nI (k + 1)) (lv' := [(1, .int (nI (k + 1))), (0, .ref q)]) X.1 X.2.1 dX2_init_111 hl (k := 0) rfl (nI_1 k) (by decide) rfl (fun ls hl => ?_)
    refine lv_goto (tgt := 92) X.1 X.2.1 dX2_init_114 (by decide) ?_
    refine W.widen (k := c0 + (k + 1)) (n := s0 + 7 * (k + 1)) (by omega) (by omega) ?_
    exact ih (k + 1) (by omega) (fun i => if i = k then v else ad i) H locs ls hl hP hD hS
/-- ten spots -/
theorem room_L2 {x1 x2 x3 x4 : Nat × va_E} {sp cells slots : Nat} {ws : va_W} (X : CallFix p m c cX2_init 2 s args tt_T "TrustTin$Room") (K : va_K D vwCl (n_tys cl) s) (hf : fs[13]? = some (.ref sp))
    (kk : ∀ (f : Nat → Int32) (H : Heap) (locs : List Loc) (ls : Array Slot), (∀ i : Nat, i < 10 → f i = (-1 : Int32)) → va_P D vwCl ((q, .inr (2, fs)) :: x1 :: x2 :: x3 :: x4 :: (sp, .inl (cl 0, 10, .inl f)) :: ws) H → va_D A ((q, .inr (2, fs)) :: x1 :: x2 :: x3 :: x4 :: (sp, .inl (cl 0, 10, .inl f)) :: ws) → va_S A s.heap H locs → W p l e R s m args below meth c H locs cells slots Q (F0 m 138 ls [])) :
    ∀ (n k : Nat), k + n = 10 → ∀ (f : Nat → Int32) (H : Heap) (locs : List Loc) (ls : Array Slot), (∀ i : Nat, i < k → f i = (-1 : Int32)) → lv_has ls 2 [(1, .int (nI k)), (0, .ref q)] → va_P D vwCl ((q, .inr (2, fs)) :: x1 :: x2 :: x3 :: x4 :: (sp, .inl (cl 0, 10, .inl f)) :: ws) H → va_D A ((q, .inr (2, fs)) :: x1 :: x2 :: x3 :: x4 :: (sp, .inl (cl 0, 10, .inl f)) :: ws) → va_S A s.heap H locs → W p l e R s m args below meth c H locs cells slots Q (F0 m 119 ls []) := by
  intro n
  induction n with
  | zero =>
    intro k hk f H locs ls hfk hl hP hD hS
    obtain rfl : k = 10 := by omega
    refine lv_iload_n X.1 X.2.1 dX2_init_119 rfl (lv_at hl 0 rfl) ?_
    refine lv_bipush (v := (10 : Int32)) X.1 X.2.1 dX2_init_120 (by decide) ?_
    refine lv_icmp_ge (tgt := 138) X.1 X.2.1 dX2_init_122 (by decide) (fun _ => ?_) (fun z => absurd z (by decide))
    exact kk f H locs ls hfk hP hD hS
  | succ n ih =>
    intro k hk f H locs ls hfk hl hP hD hS
    have e10 : (10 : Int32).toInt = 10 := rfl
    have ek : (nI k).toInt = k := nI_toInt (by omega)
    have hcl : (nI k).toNatClampNeg = k := cl_eq ek
    refine lv_iload_n X.1 X.2.1 dX2_init_119 rfl (lv_at hl 0 rfl) ?_
    refine lv_bipush (v := (10 : Int32)) X.1 X.2.1 dX2_init_120 (by decide) ?_
    refine lv_icmp_ge (tgt := 138) X.1 X.2.1 dX2_init_122 (by decide) (fun z => absurd z (by rw [lp_le]; omega)) (fun _ => ?_)
    refine lv_aload_n X.1 X.2.1 dX2_init_125 rfl (lv_at hl 1 rfl) ?_
    refine n_get X K hP rfl iT2 13 (by decide) q188 hf dX2_init_126 ?_
    refine lv_iload_n X.1 X.2.1 dX2_init_129 rfl (lv_at hl 0 rfl) ?_
    refine lv_iconst (v := (-1 : Int32)) X.1 X.2.1 dX2_init_130 (by decide) ?_
    refine va_iast X.1 X.2.1 K hP hD hS 5 0 rfl rfl (by rw [vp_in_iff]; omega) dX2_init_131 (fun H locs hP hD hS => ?_)
    refine lv_iinc (v := nI (k + 1)) (lv' := [(1, .int (nI (k + 1))), (0, .ref q)]) X.1 X.2.1 dX2_init_132 hl (k := 0) rfl (nI_1 k) (by decide) rfl (fun ls hl => ?_)
    refine lv_goto (tgt := 119) X.1 X.2.1 dX2_init_135 (by decide) ?_
    refine ih (k + 1) (by omega) (upd f (nI k).toNatClampNeg (-1 : Int32)) H locs ls (fun i hi => ?_) hl hP hD hS
    rw [hcl]
    by_cases c1 : i = k
    · subst c1; exact upd_eq _ _ _
    · rw [upd_ne c1]; exact hfk i (by omega)
end NR
theorem k_X2_init (l : Launch) (D : va_G) (cl : Nat → ClassId) (q : Nat) : n_M l D cl yX2_init (g_code yX2_init cX2_init 2 none) 2 15 133 32 [.ref q] [(q, .inr (2, [.null, .int 0, .int 0, .int 0, .int 0, .int 0, .int 0, .int 0, .int 0, .int 0, .int 0, .int 0, .null, .null]))] (n_B2 cl q) := by
  refine n_begin rfl (Nat.le_of_ble_eq_true rfl) rfl (fun p e s m below meth c ls A X hr hlk hin K hO hP hD hA hAe hl => ?_)
  have hS : va_S A s.heap s.heap [] := va_S.rf
  have X : CallFix p m c cX2_init 2 s ([.ref q] : List Value).toArray tt_T "TrustTin$Room" := X
  have hl : lv_has ls 2 [(0, .ref q)] := hl
  refine lv_aload_n X.1 X.2.1 dX2_init_0 rfl (lv_at hl 0 rfl) ?_
  refine n_obj X q95 hl.1 (Nat.le_of_ble_eq_true rfl) (Nat.le_of_ble_eq_true rfl) dX2_init_1 ?_
  refine lv_aload_n X.1 X.2.1 dX2_init_4 rfl (lv_at hl 0 rfl) ?_
  refine lv_bipush (v := (10 : Int32)) X.1 X.2.1 dX2_init_5 (by decide) ?_
  refine n_newD (N' := 10) X K hO hA hP hD hS q96 (by decide) rfl (Nat.le_of_ble_eq_true rfl) (Nat.le_of_ble_eq_true rfl) (Nat.le_of_ble_eq_true rfl) dX2_init_7 (fun v1 H hP hD hS => ?_)
  have hP : va_P D vwCl [(q, .inr (2, [.null, .int 0, .int 0, .int 0, .int 0, .int 0, .int 0, .int 0, .int 0, .int 0, .int 0, .int 0, .null, .null])), (v1, .inl (cl 1, 10, .inr (.inr (.inr (.inr (fun _ => none))))))] H := hP
  have hD : va_D A [(q, .inr (2, [.null, .int 0, .int 0, .int 0, .int 0, .int 0, .int 0, .int 0, .int 0, .int 0, .int 0, .int 0, .null, .null])), (v1, .inl (cl 1, 10, .inr (.inr (.inr (.inr (fun _ => none))))))] := hD
  refine n_putF X K hin hP hD hS rfl iT2 tyX2_ok nmX2 0 (by decide) q159 rfl rfl rfl rfl (Nat.le_of_ble_eq_true rfl) rfl dX2_init_10 (fun H locs hP hD hS => ?_)
  refine lv_aload_n X.1 X.2.1 dX2_init_13 rfl (lv_at hl 0 rfl) ?_
  refine lv_iconst (v := (0 : Int32)) X.1 X.2.1 dX2_init_14 (by decide) ?_
  refine n_put X K hP hD hS rfl iT2 tyX2_ok nmX2 1 (by decide) q161 rfl rfl rfl (Nat.le_of_ble_eq_true rfl) rfl dX2_init_15 (fun H locs hP hD hS => ?_)
  refine lv_aload_n X.1 X.2.1 dX2_init_18 rfl (lv_at hl 0 rfl) ?_
  refine lv_iconst (v := (5 : Int32)) X.1 X.2.1 dX2_init_19 (by decide) ?_
  refine n_put X K hP hD hS rfl iT2 tyX2_ok nmX2 2 (by decide) q164 rfl rfl rfl (Nat.le_of_ble_eq_true rfl) rfl dX2_init_20 (fun H locs hP hD hS => ?_)
  refine lv_aload_n X.1 X.2.1 dX2_init_23 rfl (lv_at hl 0 rfl) ?_
  refine lv_bipush (v := (12 : Int32)) X.1 X.2.1 dX2_init_24 (by decide) ?_
  refine n_put X K hP hD hS rfl iT2 tyX2_ok nmX2 3 (by decide) q167 rfl rfl rfl (Nat.le_of_ble_eq_true rfl) rfl dX2_init_26 (fun H locs hP hD hS => ?_)
  refine lv_aload_n X.1 X.2.1 dX2_init_29 rfl (lv_at hl 0 rfl) ?_
  refine lv_bipush (v := (12 : Int32)) X.1 X.2.1 dX2_init_30 (by decide) ?_
  refine n_put X K hP hD hS rfl iT2 tyX2_ok nmX2 4 (by decide) q169 rfl rfl rfl (Nat.le_of_ble_eq_true rfl) rfl dX2_init_32 (fun H locs hP hD hS => ?_)
  refine lv_aload_n X.1 X.2.1 dX2_init_35 rfl (lv_at hl 0 rfl) ?_
  refine lv_iconst (v := (0 : Int32)) X.1 X.2.1 dX2_init_36 (by decide) ?_
  refine n_put X K hP hD hS rfl iT2 tyX2_ok nmX2 5 (by decide) q171 rfl rfl rfl (Nat.le_of_ble_eq_true rfl) rfl dX2_init_37 (fun H locs hP hD hS => ?_)
  refine lv_aload_n X.1 X.2.1 dX2_init_40 rfl (lv_at hl 0 rfl) ?_
  refine lv_iconst (v := (0 : Int32)) X.1 X.2.1 dX2_init_41 (by decide) ?_
  refine n_put X K hP hD hS rfl iT2 tyX2_ok nmX2 6 (by decide) q173 rfl rfl rfl (Nat.le_of_ble_eq_true rfl) rfl dX2_init_42 (fun H locs hP hD hS => ?_)
  refine lv_aload_n X.1 X.2.1 dX2_init_45 rfl (lv_at hl 0 rfl) ?_
  refine lv_bipush (v := (100 : Int32)) X.1 X.2.1 dX2_init_46 (by decide) ?_
  refine n_put X K hP hD hS rfl iT2 tyX2_ok nmX2 7 (by decide) q176 rfl rfl rfl (Nat.le_of_ble_eq_true rfl) rfl dX2_init_48 (fun H locs hP hD hS => ?_)
  refine lv_aload_n X.1 X.2.1 dX2_init_51 rfl (lv_at hl 0 rfl) ?_
  refine lv_iconst (v := (0 : Int32)) X.1 X.2.1 dX2_init_52 (by decide) ?_
  refine n_put X K hP hD hS rfl iT2 tyX2_ok nmX2 8 (by decide) q178 rfl rfl rfl (Nat.le_of_ble_eq_true rfl) rfl dX2_init_53 (fun H locs hP hD hS => ?_)
  refine lv_aload_n X.1 X.2.1 dX2_init_56 rfl (lv_at hl 0 rfl) ?_
  refine lv_iconst (v := (0 : Int32)) X.1 X.2.1 dX2_init_57 (by decide) ?_
  refine n_put X K hP hD hS rfl iT2 tyX2_ok nmX2 9 (by decide) q180 rfl rfl rfl (Nat.le_of_ble_eq_true rfl) rfl dX2_init_58 (fun H locs hP hD hS => ?_)
  refine lv_aload_n X.1 X.2.1 dX2_init_61 rfl (lv_at hl 0 rfl) ?_
  refine lv_iconst (v := (0 : Int32)) X.1 X.2.1 dX2_init_62 (by decide) ?_
  refine n_put X K hP hD hS rfl iT2 tyX2_ok nmX2 10 (by decide) q182 rfl rfl rfl (Nat.le_of_ble_eq_true rfl) rfl dX2_init_63 (fun H locs hP hD hS => ?_)
  refine lv_aload_n X.1 X.2.1 dX2_init_66 rfl (lv_at hl 0 rfl) ?_
  refine lv_iconst (v := (1 : Int32)) X.1 X.2.1 dX2_init_67 (by decide) ?_
  refine n_put X K hP hD hS rfl iT2 tyX2_ok nmX2 11 (by decide) q184 rfl rfl rfl (Nat.le_of_ble_eq_true rfl) rfl dX2_init_68 (fun H locs hP hD hS => ?_)
  refine lv_aload_n X.1 X.2.1 dX2_init_71 rfl (lv_at hl 0 rfl) ?_
  refine n_make X K hO hA hP hD hS rfl iT0 tyX0_ok (by decide) q98 q99 q69 (k_X0_init l D cl) rfl rfl (by decide +kernel) (Or.inr hO.2.2.1) q101 q102 ⟨Nat.le_of_ble_eq_true rfl, Nat.le_of_ble_eq_true rfl⟩ hl.1 (Nat.le_of_ble_eq_true rfl) dX2_init_72 dX2_init_75 dX2_init_76 (Nat.le_of_ble_eq_true rfl) (Nat.le_of_ble_eq_true rfl) (fun v2 u2 H locs hP hD hS => ?_)
  have hP : va_P D vwCl ((q, .inr (2, [.ref v1, .int 0, .int 5, .int 12, .int 12, .int 0, .int 0, .int 100, .int 0, .int 0, .int 0, .int 1, .null, .null])) :: ([(v1, .inl (cl 1, 10, .inr (.inr (.inr (.inr (fun _ => none))))))] ++ n_B0 cl v2 u2)) H := hP
  have hD : va_D A ((q, .inr (2, [.ref v1, .int 0, .int 5, .int 12, .int 12, .int 0, .int 0, .int 100, .int 0, .int 0, .int 0, .int 1, .null, .null])) :: ([(v1, .inl (cl 1, 10, .inr (.inr (.inr (.inr (fun _ => none))))))] ++ n_B0 cl v2 u2)) := hD
  refine n_putF X K hin hP hD hS rfl iT2 tyX2_ok nmX2 12 (by decide) q186 rfl rfl rfl rfl (Nat.le_of_ble_eq_true rfl) rfl dX2_init_79 (fun H locs hP hD hS => ?_)
  refine lv_aload_n X.1 X.2.1 dX2_init_82 rfl (lv_at hl 0 rfl) ?_
  refine lv_bipush (v := (10 : Int32)) X.1 X.2.1 dX2_init_83 (by decide) ?_
  refine n_newi (N' := 10) X K hA hP hD hS (by decide) rfl (Nat.le_of_ble_eq_true rfl) (Nat.le_of_ble_eq_true rfl) (Nat.le_of_ble_eq_true rfl) dX2_init_85 (fun v3 H hP hD hS => ?_)
  have hP : va_P D vwCl ((q, .inr (2, [.ref v1, .int 0, .int 5, .int 12, .int 12, .int 0, .int 0, .int 100, .int 0, .int 0, .int 0, .int 1, .ref v2, .null])) :: (([(v1, .inl (cl 1, 10, .inr (.inr (.inr (.inr (fun _ => none))))))] ++ n_B0 cl v2 u2) ++ [(v3, .inl (cl 0, 10, .inl (fun _ => 0)))])) H := hP
  have hD : va_D A ((q, .inr (2, [.ref v1, .int 0, .int 5, .int 12, .int 12, .int 0, .int 0, .int 100, .int 0, .int 0, .int 0, .int 1, .ref v2, .null])) :: (([(v1, .inl (cl 1, 10, .inr (.inr (.inr (.inr (fun _ => none))))))] ++ n_B0 cl v2 u2) ++ [(v3, .inl (cl 0, 10, .inl (fun _ => 0)))])) := hD
  refine n_putF X K hin hP hD hS rfl iT2 tyX2_ok nmX2 13 (by decide) q188 rfl rfl rfl rfl (Nat.le_of_ble_eq_true rfl) rfl dX2_init_87 (fun H locs hP hD hS => ?_)
  refine lv_iconst (v := (0 : Int32)) X.1 X.2.1 dX2_init_90 (by decide) ?_
  refine lv_istore_n (lv' := [(1, .int (0 : Int32)), (0, .ref q)]) X.1 X.2.1 dX2_init_91 rfl hl (by decide) rfl (fun ls hl => ?_)
  refine room_L1 (q := q) (da := v1) (fs := [.ref v1, .int 0, .int 5, .int 12, .int 12, .int 0, .int 0, .int 100, .int 0, .int 0, .int 0, .int 1, .ref v2, .ref v3]) (c0 := 5) (s0 := 63) (ws0 := [(v2, .inr (0, [.ref u2.1, .ref u2.2, .int 0])), (u2.1, .inl (cl 0, 20, .inl (fun _ => 0))), (u2.2, .inl (cl 0, 20, .inl (fun _ => 0))), (v3, .inl (cl 0, 10, .inl (fun _ => 0)))]) X K hO hA rfl ⟨Nat.le_of_ble_eq_true rfl, Nat.le_of_ble_eq_true rfl⟩ (Nat.le_of_ble_eq_true rfl) (Nat.le_of_ble_eq_true rfl) (fun ad H locs ls hl hP hD hS => ?_) 10 0 rfl (fun _ => 0) H locs ls hl hP hD hS
  refine lv_iconst (v := (0 : Int32)) X.1 X.2.1 dX2_init_117 (by decide) ?_
  refine lv_istore_n (lv' := [(1, .int (0 : Int32)), (0, .ref q)]) X.1 X.2.1 dX2_init_118 rfl hl (by decide) rfl (fun ls hl => ?_)
  refine room_L2 (q := q) (sp := v3) (fs := [.ref v1, .int 0, .int 5, .int 12, .int 12, .int 0, .int 0, .int 100, .int 0, .int 0, .int 0, .int 1, .ref v2, .ref v3]) (ws := (List.range 10).map (fun i => (ad i, n_dr))) X K rfl (fun f H locs ls hf hP hD hS => ?_) 10 0 rfl (fun _ => 0) H locs ls (fun i hi => absurd hi (Nat.not_lt_zero _)) hl hP hD hS
  have eu : (List.range 10).map (fun i => (ad i, n_dr)) = (List.range 10).map (fun i => ((if i < 10 then ad i else if i = 10 then v1 else if i = 11 then v2 else if i = 12 then u2.1 else if i = 13 then u2.2 else v3), n_dr)) := n_map (fun i hi => by rw [if_pos hi])
  rw [eu] at hP hD
  obtain ⟨a1, hP⟩ := n_Pcons.mp hP
  obtain ⟨a2, hP⟩ := n_Pcons.mp hP
  obtain ⟨a3, hP⟩ := n_Pcons.mp hP
  obtain ⟨a4, hP⟩ := n_Pcons.mp hP
  obtain ⟨a5, hP⟩ := n_Pcons.mp hP
  obtain ⟨a6, hP⟩ := n_Pcons.mp hP
  have a2 := n_extq (g := fun i => some (if i < 10 then ad i else if i = 10 then v1 else if i = 11 then v2 else if i = 12 then u2.1 else if i = 13 then u2.2 else v3)) a2 (fun k hk => by unfold n_ar; rw [if_pos hk, if_pos hk])
  have a6 := n_exti (g := fun _ => (-1 : Int32)) a6 (fun k hk => hf k hk)
  have hD2 : va_D A (n_B2 cl q (fun i => if i < 10 then ad i else if i = 10 then v1 else if i = 11 then v2 else if i = 12 then u2.1 else if i = 13 then u2.2 else v3)) := n_Dadr (by rfl) hD
  exact n_end X hr hlk hAe (fun i => if i < 10 then ad i else if i = 10 then v1 else if i = 11 then v2 else if i = 12 then u2.1 else if i = 13 then u2.2 else v3) (n_Pcons.mpr ⟨a1, n_Pcons.mpr ⟨a2, n_Pcons.mpr ⟨a3, n_Pcons.mpr ⟨a4, n_Pcons.mpr ⟨a5, n_Pcons.mpr ⟨a6, hP⟩⟩⟩⟩⟩⟩) hD2 hS dX2_init_138
