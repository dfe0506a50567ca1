/-! the constructor of TrustTin -/
abbrev n_U : Type := (Nat → Nat) × (Nat → Nat) × (Nat → Nat) × (Nat → Nat) × (Nat → Nat) × Nat × Nat × Nat × Nat × Nat × Nat × Nat × Nat
def n_B6 (cl : Nat → ClassId) (q : Nat) (u : n_U) : va_W := match u with
  | (r0, r1, r2, sa, sn, a0, a1, a2, t, b, rd, ar, fi) => (q, .inr (6, [.ref a0, .ref a1, .ref a2, .int 0, .ref t, .ref rd, .ref ar, .ref fi])) :: (ar, .inl (cl 2, 4, .inr (.inr (.inr (.inr (fun i => some (sa i))))))) :: ((((((n_B2 cl a0 r0 ++ n_B2 cl a1 r1) ++ n_B2 cl a2 r2) ++ n_B4 cl t b) ++ n_B5 t rd ()) ++ [(fi, .inl (cl 0, 7, .inl (fun _ => 0)))]) ++ (List.range 4).flatMap (fun i => n_B3 cl (sa i) (sn i)))
theorem n_memP {D : va_G} {ws ws' : va_W} {H : Heap} (h : va_P D vwCl ws H) (hm : ∀ x : Nat × va_E, x ∈ ws' → x ∈ ws) : va_P D vwCl ws' H := fun k q hk => by
  obtain ⟨i, hi⟩ := List.getElem?_of_mem (hm q (List.mem_of_getElem? hk))
  exact h i q hi
theorem n_Dnd {A : Nat → Prop} {ws : va_W} : va_D A ws ↔ (ws.map (·.1)).Nodup ∧ ∀ x ∈ ws, A x.1 := by
  constructor
  · intro h
    refine ⟨List.nodup_iff_pairwise_ne.mpr (List.pairwise_iff_getElem.mpr (fun i j hi hj hij he => ?_)), fun x hx => ?_⟩
    · have hi2 : i < ws.length := by rw [List.length_map] at hi; exact hi
      have hj2 : j < ws.length := by rw [List.length_map] at hj; exact hj
      rw [List.getElem_map, List.getElem_map] at he
      have := h.1 i j _ _ (List.getElem?_eq_getElem hi2) (List.getElem?_eq_getElem hj2) he
      omega
    · obtain ⟨i, hi⟩ := List.getElem?_of_mem hx
      exact h.2 i x hi
  · rintro ⟨h1, h2⟩
    refine ⟨fun i j p q hp hq he => ?_, fun k q hk => h2 q (List.mem_of_getElem? hk)⟩
    have hi := (List.getElem?_eq_some_iff.mp hp).1
    have hj := (List.getElem?_eq_some_iff.mp hq).1
    have ne : ∀ a b : Nat, a < b → b < ws.length → ∀ x y : Nat × va_E, ws[a]? = some x → ws[b]? = some y → x.1 ≠ y.1 := fun a b hab hb x y hx hy e => by
      have z := List.pairwise_iff_getElem.mp (List.nodup_iff_pairwise_ne.mp h1) a b (by rw [List.length_map]; omega) (by rw [List.length_map]; exact hb) hab
      rw [List.getElem_map, List.getElem_map, (List.getElem?_eq_some_iff.mp hx).2, (List.getElem?_eq_some_iff.mp hy).2] at z
      exact z e
    rcases Nat.lt_trichotomy i j with c | c | c
    · exact absurd he (ne i j c hj p q hp hq)
    · exact c
    · exact absurd he.symm (ne j i c hi q p hq hp)
theorem n_permD {A : Nat → Prop} {ws ws' : va_W} (h : va_D A ws) (hp : ws.Perm ws') : va_D A ws' := by
  obtain ⟨h1, h2⟩ := n_Dnd.mp h
  exact n_Dnd.mpr ⟨(hp.map (·.1)).nodup_iff.mp h1, fun x hx => h2 x (hp.mem_iff.mpr hx)⟩
theorem n_flat {k : Nat} {f g : Nat → va_W} (h : ∀ i : Nat, i < k → f i = g i) : (List.range k).flatMap f = (List.range k).flatMap g := by
  rw [List.flatMap_def, List.flatMap_def, List.map_congr_left (fun i hi => h i (List.mem_range.mp hi))]
section NT
variable {p : Program} {l : Launch} {e : Env} {R : Room} {s : State} {m : MethodId} {args : Array Value} {below : List Frame} {meth : Method} {c : Code} {Q : State → Prop} {D : va_G} {cl : Nat → ClassId} {A : Nat → Prop} {ws0 : va_W} {q da c0 s0 : Nat} {fs : List Value}
/-- four sheets -/
theorem tin_L1 (X : CallFix p m c cX6_init 2 s args tt_T "TrustTin") (K : va_K D vwCl (n_tys cl) s) (hO : n_AO s) (hA : ∀ q, s.heap.size ≤ q → A q) (hf0 : fs[6]? = some (.ref da)) (hR : 2 ≤ R.frames ∧ 32 ≤ R.locals) (hc : c0 + 8 ≤ R.cells) (hs : s0 + 172 ≤ R.slots)
    (kk : ∀ (sa sn : Nat → Nat) (H : Heap) (locs : List Loc) (ls : Array Slot), va_P D vwCl ((q, .inr (6, fs)) :: (da, .inl (cl 2, 4, .inr (.inr (.inr (.inr (n_ar sa 4)))))) :: (ws0 ++ (List.range 4).flatMap (fun i => n_B3 cl (sa i) (sn i)))) H → va_D A ((q, .inr (6, fs)) :: (da, .inl (cl 2, 4, .inr (.inr (.inr (.inr (n_ar sa 4)))))) :: (ws0 ++ (List.range 4).flatMap (fun i => n_B3 cl (sa i) (sn i)))) → va_S A s.heap H locs → W p l e R s m args below meth c H locs (c0 + 8) (s0 + 172) Q (F0 m 110 ls [])) :
    ∀ (n k : Nat), k + n = 4 → ∀ (sa sn : Nat → Nat) (H : Heap) (locs : List Loc) (ls : Array Slot), lv_has ls 2 [(1, .int (nI k)), (0, .ref q)] → va_P D vwCl ((q, .inr (6, fs)) :: (da, .inl (cl 2, 4, .inr (.inr (.inr (.inr (n_ar sa k)))))) :: (ws0 ++ (List.range k).flatMap (fun i => n_B3 cl (sa i) (sn i)))) H → va_D A ((q, .inr (6, fs)) :: (da, .inl (cl 2, 4, .inr (.inr (.inr (.inr (n_ar sa k)))))) :: (ws0 ++ (List.range k).flatMap (fun i => n_B3 cl (sa i) (sn i)))) → va_S A s.heap H locs → W p l e R s m args below meth c H locs (c0 + 2 * k) (s0 + 43 * k) Q (F0 m 86 ls []) := by
  intro n
  induction n with
  | zero =>
    intro k hk sa sn H locs ls hl hP hD hS
    obtain rfl : k = 4 := by omega
    refine lv_iload_n X.1 X.2.1 dX6_init_86 rfl (lv_at hl 0 rfl) ?_
    refine lv_iconst (v := (4 : Int32)) X.1 X.2.1 dX6_init_87 (by decide) ?_
    refine lv_icmp_ge (tgt := 110) X.1 X.2.1 dX6_init_88 (by decide) (fun _ => ?_) (fun z => absurd z (by decide))
    exact kk sa sn H locs ls hP hD hS
  | succ n ih =>
    intro k hk sa sn H locs ls hl hP hD hS
    have e4 : (4 : Int32).toInt = 4 := rfl
    have ek : (nI k).toInt = k := nI_toInt (by omega)
    have hcl : (nI k).toNatClampNeg = k := cl_eq ek
    refine lv_iload_n X.1 X.2.1 dX6_init_86 rfl (lv_at hl 0 rfl) ?_
    refine lv_iconst (v := (4 : Int32)) X.1 X.2.1 dX6_init_87 (by decide) ?_
    refine lv_icmp_ge (tgt := 110) X.1 X.2.1 dX6_init_88 (by decide) (fun z => absurd z (by rw [lp_le]; omega)) (fun _ => ?_)
    refine lv_aload_n X.1 X.2.1 dX6_init_91 rfl (lv_at hl 1 rfl) ?_
    refine n_get X K hP rfl iT6 6 (by decide) q286 hf0 dX6_init_92 ?_
    refine lv_iload_n X.1 X.2.1 dX6_init_95 rfl (lv_at hl 0 rfl) ?_
    refine n_make X K hO hA hP hD hS rfl iT3 tyX3_ok (by decide) q260 q262 q73 (k_X3_init l D cl) rfl rfl (by decide +kernel) (Or.inr hO.2.2.2.2.2) q264 q265 ⟨hR.1, by have := hR.2; omega⟩ hl.1 (Nat.le_of_ble_eq_true rfl) dX6_init_96 dX6_init_99 dX6_init_100 (by omega) (by omega) (fun v u H locs hP hD hS => ?_)
    have hP : va_P D vwCl ((q, .inr (6, fs)) :: (da, .inl (cl 2, 4, .inr (.inr (.inr (.inr (n_ar sa k)))))) :: ((ws0 ++ (List.range k).flatMap (fun i => n_B3 cl (sa i) (sn i))) ++ n_B3 cl v u)) H := hP
    have hD : va_D A ((q, .inr (6, fs)) :: (da, .inl (cl 2, 4, .inr (.inr (.inr (.inr (n_ar sa k)))))) :: ((ws0 ++ (List.range k).flatMap (fun i => n_B3 cl (sa i) (sn i))) ++ n_B3 cl v u)) := hD
    have hv : ((q, .inr (6, fs)) :: (da, .inl (cl 2, 4, .inr (.inr (.inr (.inr (n_ar sa k)))))) :: ((ws0 ++ (List.range k).flatMap (fun i => n_B3 cl (sa i) (sn i))) ++ n_B3 cl v u) : va_W)[(ws0 ++ (List.range k).flatMap (fun i => n_B3 cl (sa i) (sn i))).length + 1 + 1]? = some (v, .inr (3, [.ref u, .int 0, .int 0])) := by
      rw [List.getElem?_cons_succ, List.getElem?_cons_succ, List.getElem?_append_right (Nat.le_refl _), Nat.sub_self]
      rfl
    refine va_astq (ci := 3) X.1 X.2.1 K hP hD hS 1 2 _ (r := (RX3, TX3, 3)) rfl rfl hv rfl (by rw [vp_in_iff]; omega) dX6_init_103 (fun H locs hP hD hS => ?_)
    have ea : va_up (n_ar sa k) (nI k).toNatClampNeg (some v) = n_ar (fun i => if i = k then v else sa i) (k + 1) := by
      funext i
      rw [hcl]
      unfold va_up n_ar
      by_cases c1 : i = k
      · dsimp only
        rw [if_pos c1, if_pos (by omega), if_pos c1]
      · rw [if_neg c1]
        by_cases c2 : i < k
        · dsimp only
          rw [if_pos c2, if_pos (by omega), if_neg c1]
        · rw [if_neg c2, if_neg (by omega)]
    have el : ((ws0 ++ (List.range k).flatMap (fun i => n_B3 cl (sa i) (sn i))) ++ n_B3 cl v u : va_W) = ws0 ++ (List.range (k + 1)).flatMap (fun i => n_B3 cl (if i = k then v else sa i) (if i = k then u else sn i)) := by
      rw [List.range_succ, List.flatMap_append, ← List.append_assoc]
      congr 1
      · congr 1
        exact n_flat (fun i hi => by rw [if_neg (by omega), if_neg (by omega)])
      · simp
    rw [ea] at hP hD
    have hP : va_P D vwCl ((q, .inr (6, fs)) :: (da, .inl (cl 2, 4, .inr (.inr (.inr (.inr (n_ar (fun i => if i = k then v else sa i) (k + 1))))))) :: ((ws0 ++ (List.range k).flatMap (fun i => n_B3 cl (sa i) (sn i))) ++ n_B3 cl v u)) H := hP
    have hD : va_D A ((q, .inr (6, fs)) :: (da, .inl (cl 2, 4, .inr (.inr (.inr (.inr (n_ar (fun i => if i = k then v else sa i) (k + 1))))))) :: ((ws0 ++ (List.range k).flatMap (fun i => n_B3 cl (sa i) (sn i))) ++ n_B3 cl v u)) := hD
    rw [el] at hP hD
    refine lv_iinc (v := nI (k + 1)) (lv' := [(1, .int (nI (k + 1))), (0, .ref q)]) X.1 X.2.1 dX6_init_104 hl (k := 0) rfl (nI_1 k) (by decide) rfl (fun ls hl => ?_)
    refine lv_goto (tgt := 86) X.1 X.2.1 dX6_init_107 (by decide) ?_
    refine W.widen (k := c0 + 2 * (k + 1)) (n := s0 + 43 * (k + 1)) (by omega) (by omega) ?_
    exact ih (k + 1) (by omega) (fun i => if i = k then v else sa i) (fun i => if i = k then u else sn i) H locs ls hl hP hD hS
end NT
