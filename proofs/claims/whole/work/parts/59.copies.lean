/-! sheets copied and loaded; the room's image -/
theorem i40b {a f y : Int32} (ha : vp_in a 4) (hf : 0 ≤ f.toInt) (h0 : 0 ≤ y.toInt) (hy : f.toInt + y.toInt < 40) : ((((40 : Int32) * a) + f) + y).toNatClampNeg = 40 * a.toNatClampNeg + f.toNatClampNeg + y.toNatClampNeg := by
  rw [vp_in_iff] at ha
  have e4 : (40 : Int32).toInt = 40 := rfl
  have em : ((40 : Int32) * a).toInt = 40 * a.toInt := by rw [lp_mul (by rw [e4]; omega) (by rw [e4]; omega), e4]
  have ea : (((40 : Int32) * a) + f).toInt = 40 * a.toInt + f.toInt := by rw [lp_add (by omega) (by omega), em]
  have eb : ((((40 : Int32) * a) + f) + y).toInt = 40 * a.toInt + f.toInt + y.toInt := by rw [lp_add (by omega) (by omega), ea]
  have := cl_int (x := a) ha.1
  have := cl_int (x := f) hf
  have := cl_int (x := y) h0
  exact cl_eq (by omega)
theorem cpA {a1 a2 a3 a4 a5 : Int32} (hk : vp_in a1 4) (h2 : 0 ≤ a2.toInt) (h25 : a2.toInt + a5.toInt ≤ 40) : ∀ (m : Nat) (M : tt_St) (y : Int32), ¬ y < 0 → lp_mu a5 y < m → ∃ M' : tt_St, f7_copy_L123 a1 a2 a3 a4 a5 m M y = f7_copy_L160 a1 a2 a3 a4 a5 (lp_mu a5 0 + 1) M' (0 : Int32) ∧ (∀ n : Nat, n ≠ 9 → M' n = M n) ∧ ∀ j : Nat, M' 9 j = if y.toNatClampNeg ≤ j ∧ j < a5.toNatClampNeg then M 8 (40 * a1.toNatClampNeg + a2.toNatClampNeg + j) else M 9 j := by
  intro m
  induction m with
  | zero => intro M y _ hm; exact absurd hm (Nat.not_lt_zero _)
  | succ m ih =>
    intro M y hy hm
    rw [f7_copy_L123]
    dsimp only
    have h0 := int_nn hy
    have q := cl_int h0
    by_cases c : a5 ≤ y
    · rw [if_pos c]
      refine ⟨M, rfl, fun _ _ => rfl, fun j => ?_⟩
      rw [lp_le] at c
      by_cases d : 0 ≤ a5.toInt
      · have := cl_int d
        rw [if_neg (by omega)]
      · have : a5.toNatClampNeg = 0 := by
          have : a5.toNatClampNeg = a5.toInt.toNat := rfl
          omega
        rw [if_neg (by omega)]
    · rw [if_neg c]
      have hc := lp_cl1 hy c
      have c2 := c
      rw [lp_le] at c2
      have q5 := cl_int (x := a5) (by omega)
      rw [i40b hk h2 h0 (by omega)]
      obtain ⟨M', g1, g2, g3⟩ := ih (tt_up M 9 y.toNatClampNeg (M 8 (40 * a1.toNatClampNeg + a2.toNatClampNeg + y.toNatClampNeg))) (y + (1 : Int32)) (lp_nn hy c) (lp_dec' c hm)
      refine ⟨M', g1, fun n hn => by rw [g2 n hn, tt_up_row hn], fun j => ?_⟩
      rw [g3, hc.1, tt_up_row (by decide)]
      by_cases e : j = y.toNatClampNeg
      · subst e
        rw [if_neg (by omega), tt_up_self, if_pos (by omega)]
      · by_cases d : y.toNatClampNeg ≤ j ∧ j < a5.toNatClampNeg
        · rw [if_pos d, if_pos (by omega)]
        · rw [if_neg d, if_neg (by omega), tt_up_ne (by omega)]
theorem cpB {a1 a2 a3 a4 a5 : Int32} (hk : vp_in a3 4) (h4 : 0 ≤ a4.toInt) (h45 : a4.toInt + a5.toInt ≤ 40) : ∀ (m : Nat) (M : tt_St) (y : Int32), ¬ y < 0 → lp_mu a5 y < m → (f7_copy_L160 a1 a2 a3 a4 a5 m M y).1 = a5 ∧ (∀ n : Nat, n ≠ 8 → (f7_copy_L160 a1 a2 a3 a4 a5 m M y).2 n = M n) ∧ ∀ j : Nat, (f7_copy_L160 a1 a2 a3 a4 a5 m M y).2 8 j = if 40 * a3.toNatClampNeg + a4.toNatClampNeg + y.toNatClampNeg ≤ j ∧ j < 40 * a3.toNatClampNeg + a4.toNatClampNeg + a5.toNatClampNeg then M 9 (j - 40 * a3.toNatClampNeg - a4.toNatClampNeg) else M 8 j := by
  intro m
  induction m with
  | zero => intro M y _ hm; exact absurd hm (Nat.not_lt_zero _)
  | succ m ih =>
    intro M y hy hm
    rw [f7_copy_L160]
    dsimp only
    have h0 := int_nn hy
    have q := cl_int h0
    by_cases c : a5 ≤ y
    · rw [if_pos c]
      refine ⟨rfl, fun _ _ => rfl, fun j => ?_⟩
      rw [lp_le] at c
      by_cases d : 0 ≤ a5.toInt
      · have := cl_int d
        rw [if_neg (by omega)]
      · have : a5.toNatClampNeg = 0 := by
          have : a5.toNatClampNeg = a5.toInt.toNat := rfl
          omega
        rw [if_neg (by omega)]
    · rw [if_neg c]
      have hc := lp_cl1 hy c
      have c2 := c
      rw [lp_le] at c2
      have q5 := cl_int (x := a5) (by omega)
      rw [i40b hk h4 h0 (by omega)]
      obtain ⟨g1, g2, g3⟩ := ih (tt_up M 8 (40 * a3.toNatClampNeg + a4.toNatClampNeg + y.toNatClampNeg) (M 9 y.toNatClampNeg)) (y + (1 : Int32)) (lp_nn hy c) (lp_dec' c hm)
      refine ⟨g1, fun n hn => by rw [g2 n hn, tt_up_row hn], fun j => ?_⟩
      rw [g3, hc.1, tt_up_row (by decide)]
      by_cases e : j = 40 * a3.toNatClampNeg + a4.toNatClampNeg + y.toNatClampNeg
      · subst e
        rw [if_neg (by omega), tt_up_self, if_pos (by omega), show 40 * a3.toNatClampNeg + a4.toNatClampNeg + y.toNatClampNeg - 40 * a3.toNatClampNeg - a4.toNatClampNeg = y.toNatClampNeg by omega]
      · by_cases d : 40 * a3.toNatClampNeg + a4.toNatClampNeg + y.toNatClampNeg ≤ j ∧ j < 40 * a3.toNatClampNeg + a4.toNatClampNeg + a5.toNatClampNeg
        · rw [if_pos d, if_pos (by omega)]
        · rw [if_neg d, if_neg (by omega), tt_up_ne (by omega)]
theorem gt_l {f n z : Int32} : 0 < lg_cmp (f.toInt64 + n.toInt64) z.toInt64 ↔ z.toInt < f.toInt + n.toInt := by
  have r1 := lp_rng f
  have r2 := lp_rng n
  rw [in_gt, Int32.toInt_toInt64, Int64.toInt_add, Int32.toInt_toInt64, Int32.toInt_toInt64, Int.bmod_eq_of_le (by omega) (by omega)]
theorem gt_l2 {f n z : Int32} : lg_cmp (f.toInt64 + n.toInt64) z.toInt64 ≤ 0 ↔ ¬ z.toInt < f.toInt + n.toInt := by
  rw [← gt_l, lp_le, lp_lt]
  omega
theorem p_copy {S M : tt_St} (a1 a2 a3 a4 a5 : Int32) (h : RR S M) : PS (f6_copy S a1 a2 a3 a4 a5) (f7_copy M a1 a2 a3 a4 a5) := by
  have t0 := tell_sim h (k := (0 : Int32)) (by unfold vp_in; decide)
  have t5 := tell_sim h (k := (5 : Int32)) (by unfold vp_in; decide)
  unfold f6_copy f7_copy
  dsimp only
  by_cases c : f6_isSheet a1 = 0
  · rw [if_pos c, if_pos (iss7.mp c)]; exact t0
  have hk := iss_in rfl c
  rw [if_neg c, if_neg (fun z => c (iss7.mpr z))]
  by_cases c2 : f6_isSheet a3 = 0
  · rw [if_pos c2, if_pos (iss7.mp c2)]; exact t0
  have hk3 := iss_in rfl c2
  rw [if_neg c2, if_neg (fun z => c2 (iss7.mpr z))]
  have l1 := lp_cl hk
  have l3 := lp_cl hk3
  obtain ⟨s1, s2, s3, s4, s5⟩ := h.2.2.2.2.1 _ l1
  obtain ⟨r1, r2, r3, r4, r5⟩ := h.2.2.2.2.1 _ l3
  have n1 : ¬ S 3 (20 + a1.toNatClampNeg) < 0 := by rw [s2]; exact nn_int s4.1
  have n3 : ¬ S 3 (20 + a3.toNatClampNeg) < 0 := by rw [r2]; exact nn_int r4.1
  have i1 := has_iff (a := a2) (n := a5) n1
  have i3 := has_iff (a := a4) (n := a5) n3
  rw [s2] at i1
  rw [r2] at i3
  unfold f3_isMissing
  rw [s1, r1]
  by_cases m1 : M 6 a1.toNatClampNeg = 0
  · rw [if_pos m1, if_neg (show ¬ (1 : Int32) = 0 from by decide), if_pos m1]; exact t5
  rw [if_neg m1, if_pos (show (0 : Int32) = 0 from rfl), if_neg m1]
  by_cases m3 : M 6 a3.toNatClampNeg = 0
  · rw [if_pos m3, if_neg (show ¬ (1 : Int32) = 0 from by decide), if_pos m3]; exact t5
  rw [if_neg m3, if_pos (show (0 : Int32) = 0 from rfl), if_neg m3]
  by_cases w : M 6 a1.toNatClampNeg = M 6 a3.toNatClampNeg
  · rw [if_pos w, if_pos w]
    by_cases z2 : a2 < 0
    · rw [if_pos z2]
      have : f3_has S a1.toNatClampNeg a2 a5 = 0 := Classical.byContradiction fun z => by
        have := i1.mp z
        rw [lp_lt, lp_0] at z2
        omega
      rw [if_pos this]; exact t0
    rw [if_neg z2]
    by_cases z4 : a4 < 0
    · rw [if_pos z4]
      have : f3_has S a3.toNatClampNeg a4 a5 = 0 := Classical.byContradiction fun z => by
        have := i3.mp z
        rw [lp_lt, lp_0] at z4
        omega
      rw [if_pos this]
      by_cases q : f3_has S a1.toNatClampNeg a2 a5 = 0
      · rw [if_pos q]; exact t0
      · rw [if_neg q]; exact t0
    rw [if_neg z4]
    by_cases z5 : a5 < 0
    · rw [if_pos z5]
      have : f3_has S a1.toNatClampNeg a2 a5 = 0 := Classical.byContradiction fun z => by
        have := i1.mp z
        rw [lp_lt, lp_0] at z5
        omega
      rw [if_pos this]; exact t0
    rw [if_neg z5]
    have y2 := int_nn z2
    have y4 := int_nn z4
    have y5 := int_nn z5
    by_cases k1 : (M 7 a1.toNatClampNeg).toInt < a2.toInt + a5.toInt
    · have : f3_has S a1.toNatClampNeg a2 a5 = 0 := Classical.byContradiction fun z => by
        have := i1.mp z
        omega
      rw [if_pos this, if_pos (gt_l.mpr k1)]; exact t0
    rw [if_neg (i1.mpr ⟨y2, y5, by omega⟩), if_neg (fun z => k1 (gt_l.mp z))]
    by_cases k3 : (M 7 a3.toNatClampNeg).toInt < a4.toInt + a5.toInt
    · have : f3_has S a3.toNatClampNeg a4 a5 = 0 := Classical.byContradiction fun z => by
        have := i3.mp z
        omega
      rw [if_pos this, if_neg (fun z => gt_l2.mp z k3)]; exact t0
    rw [if_neg (i3.mpr ⟨y4, y5, by omega⟩), if_pos (gt_l2.mpr k3)]
    obtain ⟨M', g1, g2, g3⟩ := cpA (a3 := a3) (a4 := a4) (a5 := a5) hk y2 (by omega) (lp_mu a5 0 + 1) M (0 : Int32) (by decide) (Nat.lt_succ_self _)
    obtain ⟨b1, b2, b3⟩ := cpB (a1 := a1) (a2 := a2) (a5 := a5) hk3 y4 (by omega) (lp_mu a5 0 + 1) M' (0 : Int32) (by decide) (Nat.lt_succ_self _)
    rw [show (0 : Int32).toNatClampNeg = 0 from rfl] at g3 b3
    have q2 := cl_int y2
    have q4 := cl_int y4
    have q5 := cl_int y5
    rw [g1]
    refine ⟨b1.symm, RR_sheet h (fun m a b => ?_) (fun j hj => ?_) (fun m a b c d => ?_) (fun k hk => ?_)⟩
    · dsimp only; rw [tt_upR_row (by omega)]
    · dsimp only; rw [tt_upR_row (by omega)]
    · rw [b2 m c, g2 m d]
    · have old := h.2.2.2.2.1 k hk
      dsimp only
      rw [tt_upR_row (by omega), b2 6 (by decide), b2 7 (by decide), g2 6 (by decide), g2 7 (by decide)]
      refine ⟨old.1, old.2.1, old.2.2.1, old.2.2.2.1, fun i hi => ?_⟩
      rw [b3]
      by_cases e : k = a3.toNatClampNeg
      · subst e
        rw [tt_upR_self, va_cpy]
        by_cases d : a4.toNatClampNeg ≤ i ∧ i < a4.toNatClampNeg + a5.toNatClampNeg
        · rw [if_pos d, if_pos (by omega), g3, if_pos (by omega), s5 _ (by omega)]
          congr 1
          omega
        · rw [if_neg d, if_neg (by omega), g2 8 (by decide)]
          exact old.2.2.2.2 i hi
      · rw [tt_upR_row (by omega), if_neg (by omega), g2 8 (by decide)]
        exact old.2.2.2.2 i hi
  · rw [if_neg w, if_neg w]; exact tell_sim h (by unfold vp_in; decide)
theorem loadL {a1 : Int32} (hk : vp_in a1 4) : ∀ (m m' : Nat) (S M : tt_St) (x y : Int32), RR S M → x = (if M 1 0 < M 7 a1.toNatClampNeg then M 1 0 else M 7 a1.toNatClampNeg) → ¬ y < 0 → lp_mu x y < m → lp_mu (M 7 a1.toNatClampNeg) y < m' → PS (f6_load_L51 a1 m S x y) (f7_load_L18 a1 m' M y) := by
  have hk4 := lp_cl hk
  intro m
  induction m with
  | zero => intro m' S M x y _ _ _ hm; exact absurd hm (Nat.not_lt_zero _)
  | succ m ih =>
    intro m' S M x y h hx hy hm hm'
    rcases m' with _ | m'
    · exact absurd hm' (Nat.not_lt_zero _)
    rw [f6_load_L51, f7_load_L18]
    dsimp only
    obtain ⟨s1, s2, s3, s4, s5⟩ := h.2.2.2.2.1 _ hk4
    have h0 := int_nn hy
    have q := cl_int h0
    have ex : x ≤ y ↔ M 7 a1.toNatClampNeg ≤ y ∨ M 1 0 ≤ y := by
      rw [hx]
      by_cases d : M 1 0 < M 7 a1.toNatClampNeg
      · simp only [if_pos d, lp_le]
        rw [lp_lt] at d
        omega
      · simp only [if_neg d, lp_le]
        rw [lp_lt] at d
        omega
    by_cases c7 : M 7 a1.toNatClampNeg ≤ y
    · rw [if_pos c7, if_pos (ex.mpr (Or.inl c7))]; exact PS_mk rfl h
    rw [if_neg c7]
    by_cases c1 : M 1 0 ≤ y
    · rw [if_pos c1, if_pos (ex.mpr (Or.inr c1))]; exact PS_mk rfl h
    have cx : ¬ x ≤ y := fun z => by
      rcases ex.mp z with e | e
      · exact c7 e
      · exact c1 e
    rw [if_neg c1, if_neg cx]
    have c8 := c7
    rw [lp_le] at c8
    have hn := okR_n h.1.2.2.2
    have hy10 := lp_in (n := 10) hy c1 hn.2.2.2
    have hc := lp_cl1 hy c1
    have e8 : S (15 + a1.toNatClampNeg) y.toNatClampNeg = M 8 (((40 : Int32) * a1) + y).toNatClampNeg := by
      rw [i40 hk h0 (by omega)]
      exact s5 _ (by omega)
    rw [e8]
    have v := @wi_in7 (M 8 (((40 : Int32) * a1) + y).toNatClampNeg) (0 : Int32) (9999 : Int32) (0 : Int64) (9999 : Int64) rfl rfl
    by_cases d : f6_within (M 8 (((40 : Int32) * a1) + y).toNatClampNeg) (0 : Int32) (9999 : Int32) = 0
    · rw [if_pos d, if_pos (v.mp d)]; exact PS_mk rfl h
    rw [if_neg d, if_neg (fun z => d (v.mpr z)), bec_2 hy10]
    have hv := wi_iff.mp d
    refine ih m' _ _ x (y + (1 : Int32)) (RR_up h (by omega) (by omega) (by omega) (dN_set (j := 2) (okR_dN h.1.2.2.2) hc.2 (by omega) (fun z => absurd z (by decide)) (fun z => absurd z (by decide)) (fun _ => hv) (fun z => absurd z (by decide)))) ?_ (lp_nn hy c7) (lp_dec' cx hm) ?_
    · rw [tt_up_ne (by omega), tt_up_ne (by omega)]; exact hx
    · rw [tt_up_ne (by omega)]; exact lp_dec' c7 hm'
theorem p_load {S M : tt_St} (a : Int32) (h : RR S M) : PS (f6_load S a) (f7_load M a) := by
  unfold f6_load f7_load f7_whyNot
  dsimp only
  by_cases c : f6_isSheet a = 0
  · rw [if_pos c, if_pos (iss7.mp c), if_neg (show ¬ (0 : Int32) < 0 from by decide)]; exact tell_sim h (by unfold vp_in; decide)
  have hk := iss_in rfl c
  obtain ⟨s1, s2, s3, s4, s5⟩ := h.2.2.2.2.1 _ (lp_cl hk)
  rw [if_neg c, if_neg (fun z => c (iss7.mpr z))]
  unfold f3_isMissing
  rw [s1]
  by_cases c2 : M 6 a.toNatClampNeg = 0
  · rw [if_pos c2, if_neg (show ¬ (1 : Int32) = 0 from by decide), if_pos c2, if_neg (show ¬ (5 : Int32) < 0 from by decide)]; exact tell_sim h (by unfold vp_in; decide)
  rw [if_neg c2, if_pos (show (0 : Int32) = 0 from rfl), if_neg c2, if_pos (show (-1 : Int32) < 0 from by decide), s2, h.1.1 0 (by omega)]
  exact loadL hk _ _ _ _ _ _ h rfl (by decide) (Nat.lt_succ_self _) (Nat.lt_succ_self _)
