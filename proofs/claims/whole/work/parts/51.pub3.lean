/-! weeks told, who owes, counts, spots, images, the tape -/
theorem ti_tn (x : Int32) : ((x.toInt = (x.toBitVec.toNat : Int) ∧ x.toBitVec.toNat < 2147483648) ∨ (x.toInt = (x.toBitVec.toNat : Int) - 4294967296 ∧ 2147483648 ≤ x.toBitVec.toNat)) ∧ x.toBitVec.toNat < 4294967296 := by
  have h := BitVec.toInt_eq_toNat_cond x.toBitVec
  have h2 : x.toBitVec.toNat < 4294967296 := x.toBitVec.isLt
  have h3 : x.toInt = x.toBitVec.toInt := rfl
  rw [h3]
  refine ⟨?_, h2⟩
  by_cases c : 2 * x.toBitVec.toNat < 2 ^ 32
  · rw [if_pos c] at h
    exact Or.inl ⟨h, by omega⟩
  · rw [if_neg c] at h
    exact Or.inr ⟨h, by omega⟩
theorem p_week {S M : tt_St} (a b : Int32) (h : RR S M) : PS (f6_week S a b) (f7_week M a b) := by
  have hR := h.1
  have hr := dN_room (okR_dN hR.2.2.2)
  have v := @wi_in7 b (0 : Int32) (1 : Int32) (0 : Int64) (1 : Int64) rfl rfl
  unfold f6_week f7_week
  dsimp only
  by_cases c : a < 0
  · rw [if_pos c, if_pos c]; exact tell_sim h (by unfold vp_in; decide)
  rw [if_neg c, if_neg c]
  by_cases c2 : f6_within b (0 : Int32) (1 : Int32) = 0
  · rw [if_pos c2, if_pos (v.mp c2)]; exact tell_sim h (by unfold vp_in; decide)
  rw [if_neg c2, if_neg (fun z => c2 (v.mpr z)), hR.2.1.1]
  have hb := wi_iff.mp c2
  rw [lp_0, lp_1] at hb
  by_cases c3 : a < M 1 11
  · rw [if_pos c3, if_pos c3]
    have ha := int_nn c
    have c4 := c3
    rw [lp_lt] at c4
    have h11 := hr.2.2.2.2.2.2.1
    obtain ⟨w1, w2, w3, w4⟩ := wk_i ha (by omega)
    have cl := cl_int ha
    have bk := hR.2.1.2 a.toNatClampNeg (by omega)
    by_cases cb : b = 0
    · rw [if_pos cb, cb, Int32.add_zero, w3]
      exact PS_mk bk.1 h
    · rw [if_neg cb, show b = (1 : Int32) from Int32.toInt_inj.mp (by
        rw [lp_1]
        have : ¬ b.toInt = 0 := fun z => cb (Int32.toInt_inj.mp (by rw [z]; rfl))
        omega), w4]
      exact PS_mk bk.2 h
  · rw [if_neg c3, if_neg c3]; exact tell_sim h (by unfold vp_in; decide)
theorem heldL {S M : tt_St} (hs : spt 0 S 1 M) (h0 : ∀ i : Nat, i < 10 → -1 ≤ (M 1 (122 + i)).toInt) : ∀ (m : Nat) (acc y : Int32), ¬ y < 0 → f2_heldSpots_L4 S 0 m acc y = f7_held_L4 M m acc y := by
  intro m
  induction m with
  | zero => intro acc y _; rfl
  | succ m ih =>
    intro acc y hy
    rw [f2_heldSpots_L4, f7_held_L4]
    dsimp only
    by_cases c : (10 : Int32) ≤ y
    · rw [if_pos c, if_pos c]
    rw [if_neg c, if_neg c]
    have hk := lp_in (n := 10) hy c (by decide)
    have hc := lp_cl hk
    have e := hs y.toNatClampNeg hc
    rw [(sp_ix hk).2, e, Int32.add_zero]
    have hb := h0 _ hc
    have e1 : (-1 : Int32).toInt = -1 := rfl
    by_cases c2 : M 1 (122 + y.toNatClampNeg) = (-1 : Int32)
    · rw [if_pos c2, if_pos (by rw [c2]; decide)]
      exact ih _ _ (lp_nn hy c)
    · rw [if_neg c2, if_neg]
      · exact ih _ _ (lp_nn hy c)
      · rw [lp_lt, lp_0]
        intro z
        exact c2 (Int32.toInt_inj.mp (by rw [e1]; omega))
theorem p_count {S M : tt_St} (a : Int32) (h : RR S M) : PS (f6_count S a) (f7_count M a) := by
  have hR := h.1
  have t := tell_sim h (k := (0 : Int32)) (by unfold vp_in; decide)
  have eh : f2_heldSpots S 0 = f7_held M := heldL hR.2.2.1 (fun i hi => (hR.2.2.2.2.2 i hi).1) _ _ _ (by decide)
  unfold f6_count f7_count
  dsimp only
  rw [eh, hR.1 0 (by omega), hR.2.1.1, hR.1 1 (by omega), hR.1 2 (by omega), hR.1 5 (by omega), h.2.2.1.1, hR.1 10 (by omega)]
  repeat' split
  all_goals first | exact t | exact ⟨rfl, h⟩
theorem statL {S M : tt_St} (hf : FD S M) (h : RR S M) {a : Int32} (ha : a < 0) : ∀ (m : Nat) (acc y : Int32), ¬ y < 0 → PS (f6_status_L31 a m S acc y) (f7_status_L24 a m M acc y) := by
  intro m
  induction m with
  | zero => intro acc y _; exact ⟨rfl, h⟩
  | succ m ih =>
    intro acc y hy
    rw [f6_status_L31, f7_status_L24]
    dsimp only
    by_cases c : (7 : Int32) ≤ y
    · rw [if_pos c, if_pos c, if_neg (by rw [lp_le, lp_0]; rw [lp_lt, lp_0] at ha; omega)]
      exact ⟨rfl, h⟩
    rw [if_neg c, if_neg c, hf _ (lp_cl (lp_in (n := 7) hy c (by decide)))]
    exact ih _ _ (lp_nn hy c)
theorem statL2 {M : tt_St} {a : Int32} (ha : 0 ≤ a) : ∀ (m : Nat) (acc y : Int32), lp_mu (7 : Int32) y < m → f7_status_L24 a m M acc y = (M 4 a.toNatClampNeg, M) := by
  intro m
  induction m with
  | zero => intro acc y hm; exact absurd hm (Nat.not_lt_zero _)
  | succ m ih =>
    intro acc y hm
    rw [f7_status_L24]
    dsimp only
    by_cases c : (7 : Int32) ≤ y
    · rw [if_pos c, if_pos ha]
    · rw [if_neg c]
      exact ih _ _ (lp_dec' c hm)
theorem p_status {S M : tt_St} (a : Int32) (h : RR S M) : PS (f6_status S a) (f7_status M a) := by
  have v := @wi_in7 a (-1 : Int32) (6 : Int32) (-1 : Int64) (6 : Int64) rfl rfl
  unfold f6_status f7_status
  dsimp only
  by_cases c : f6_within a (-1 : Int32) (6 : Int32) = 0
  · rw [if_pos c, if_pos (v.mp c)]; exact tell_sim h (by unfold vp_in; decide)
  rw [if_neg c, if_neg (fun z => c (v.mpr z))]
  by_cases c2 : a < 0
  · rw [if_pos c2]
    exact statL h.2.2.2.1 h c2 _ _ _ (by decide)
  · rw [if_neg c2, statL2 (by rw [lp_le, lp_0]; exact int_nn c2) _ _ _ (Nat.lt_succ_self _)]
    exact PS_mk (h.2.2.2.1 _ (lp_cl (st6_in rfl c c2))) h
theorem owesL {S M : tt_St} (h : RR S M) : ∀ (m m' : Nat) (b x y : Int32), ¬ y < 0 → ¬ b < 0 → lp_mu (M 1 0) y < m → lp_mu (M 1 0) y < m' → PS (f6_owes_L29 m S b x y) (f7_owes_L6 m' M b x y) := by
  have hR := h.1
  have hn := okR_n hR.2.2.2
  have e0 := hR.1 0 (by omega)
  have e1 := hR.1 1 (by omega)
  intro m
  induction m with
  | zero => intro m' b x y _ _ hm; exact absurd hm (Nat.not_lt_zero _)
  | succ m ih =>
    intro m' b x y hy hb hm hm'
    rcases m' with _ | m'
    · exact absurd hm' (Nat.not_lt_zero _)
    rw [f6_owes_L29, f7_owes_L6]
    dsimp only
    rw [e0]
    by_cases c : M 1 0 ≤ y
    · rw [if_pos c, if_pos c, if_pos (by rw [lp_le, lp_0]; exact int_nn hb)]
      exact ⟨rfl, h⟩
    rw [if_neg c, if_neg c, if_neg hb]
    have hk := lp_in (n := 10) hy c (by omega)
    have hc := lp_cl1 hy c
    have ev : f2_owedBy S 0 y = M 1 1 * f7_its M y (5 : Int32) - f7_its M y (6 : Int32) := by
      unfold f2_owedBy
      rw [its_5 hk, its_6 hk, e1, hR.1 _ (by omega), hR.1 _ (by omega)]
    rw [ev]
    split
    · exact ih _ _ _ _ (lp_nn hy c) hb (lp_dec' c hm) (lp_dec' c hm')
    · exact ih _ _ _ _ (lp_nn hy c) hy (lp_dec' c hm) (lp_dec' c hm')
theorem p_owes {S M : tt_St} (h : RR S M) : PS (f6_owes S) (f7_owes M) := by
  have hR := h.1
  have hn := okR_n hR.2.2.2
  have e0 := hR.1 0 (by omega)
  have e1 := hR.1 1 (by omega)
  unfold f6_owes f7_owes
  dsimp only
  rw [e0]
  by_cases c : M 1 0 = 0
  · rw [if_pos c, f7_owes_L6]
    dsimp only
    rw [if_pos (by rw [c]; decide), if_neg (by decide)]
    exact tell_sim h (by unfold vp_in; decide)
  · have c2 : ¬ M 1 0 ≤ (0 : Int32) := fun z => c (Int32.toInt_inj.mp (by rw [lp_le, lp_0] at z; rw [lp_0]; omega))
    have hk : vp_in (0 : Int32) 10 := by unfold vp_in; decide
    have z0 : (0 : Int32).toNatClampNeg = 0 := by decide
    have c3 := c2
    rw [lp_le, lp_0] at c3
    rw [if_neg c, f7_owes_L6]
    dsimp only
    rw [if_neg c2, if_pos (by decide)]
    have ev : f2_owedBy S 0 (0 : Int32) = M 1 1 * f7_its M 0 (5 : Int32) - f7_its M 0 (6 : Int32) := by
      unfold f2_owedBy
      rw [its_5 hk, its_6 hk, e1, hR.1 _ (by omega), hR.1 _ (by omega)]
    rw [ev]
    have hd := lp_dec c2
    have e01 : (0 : Int32) + (1 : Int32) = (1 : Int32) := by decide
    rw [e01] at hd ⊢
    exact owesL h _ _ (0 : Int32) _ (1 : Int32) (by decide) (by decide) (Nat.lt_succ_self _) hd
theorem sp_ix0 {a : Int32} (ha : vp_in a 10) : ((122 : Int32) + a).toNatClampNeg = 122 + a.toNatClampNeg := (sp_ix ha).2
theorem RR_spot {S M : tt_St} {i : Nat} {v : Int32} (h : RR S M) (hi : i < 10) (hv : -1 ≤ v.toInt ∧ v.toInt < (M 1 0).toInt) : RR (tt_up S 12 i v) (tt_up M 1 (122 + i) v) := by
  have hR := h.1
  have hD := okR_dN hR.2.2.2
  have e : ∀ k : Nat, k ≠ 122 + i → tt_up M 1 (122 + i) v 1 k = M 1 k := fun k hk => tt_up_ne (by omega)
  have hn := okR_n hR.2.2.2
  refine RR_room h ⟨fun k hk => ?_, ⟨by rw [tt_up_ne (by omega), e 11 (by omega)]; exact hR.2.1.1, fun j hj => ?_⟩, fun j hj => ?_, ?_⟩ (fun n a1 a2 a3 a4 _ _ _ => tt_up_row a4) (fun n a1 a2 => tt_up_row (by omega)) (tt_up_ne (by omega)) (tt_up_ne (by omega)) (tt_up_ne (by omega))
  · rw [e 0 (by omega)] at hk
    rw [tt_up_ne (by omega), e k (by omega)]
    exact hR.1 k hk
  · rw [tt_up_row (n' := 6 + 0) (by omega), tt_up_row (n' := 9 + 0) (by omega), e _ (by omega), e _ (by omega)]
    exact hR.2.1.2 j hj
  · show tt_up S 12 i v 12 j = _
    by_cases c : j = i
    · subst c; rw [tt_up_self, tt_up_self]
    · rw [tt_up_ne (by omega), e _ (by omega)]
      exact hR.2.2.1 j hj
  · refine okR_of (n := (M 1 0).toNatClampNeg) ?_ (by rw [e 7 (by omega)]; exact hR.2.2.2.2.1) (fun j hj => ?_)
    · rw [e 7 (by omega)]
      have hr := dN_room hD
      refine dN_intro ⟨by rw [e 0 (by omega)]; exact hr.1, by rw [e 1 (by omega)]; exact hr.2.1, by rw [e 2 (by omega)]; exact hr.2.2.1, by rw [e 3 (by omega)]; exact hr.2.2.2.1, by rw [e 5 (by omega)]; exact hr.2.2.2.2.1, by rw [e 7 (by omega)]; exact hr.2.2.2.2.2.1, bkb_cong hr.2.2.2.2.2.2 (fun k hk => e k (by omega))⟩ (fun d hd => ?_) ?_
      · rw [e 7 (by omega)]
        exact dk_cong (dN_dk hD hd) (fun j' hj' _ => e _ (by omega))
      · rw [e 9 (by omega), dN_came hD]
        exact (gs_ext (fun d hd => e _ (by omega))).symm
    · rw [e 0 (by omega)]
      by_cases c : j = i
      · subst c; rw [tt_up_self]; exact hv
      · rw [e _ (by omega)]; exact hR.2.2.2.2.2 j hj
theorem p_hold {S M : tt_St} (a b : Int32) (h : RR S M) : PS (f6_hold S a b) (f7_hold M a b) := by
  have hn := okR_n h.1.2.2.2
  have v := @wi_in7 a (0 : Int32) (9 : Int32) (0 : Int64) (9 : Int64) rfl rfl
  obtain ⟨w, w2⟩ := dr_iff7 h (a := b)
  unfold f6_hold f7_hold
  dsimp only
  by_cases c : f6_within a (0 : Int32) (9 : Int32) = 0
  · rw [if_pos c, if_pos (v.mp c)]; exact tell_sim h (by unfold vp_in; decide)
  have hk : vp_in a 10 := wi_in (n := 10) rfl c (by decide) (by decide)
  rw [if_neg c, if_neg (fun z => c (v.mpr z)), sp_ix0 hk]
  by_cases c2 : b = (-1 : Int32)
  · rw [if_pos c2, if_pos c2, c2]
    exact PS_mk rfl (RR_spot h (lp_cl hk) ⟨by decide, by
      rw [show (-1 : Int32).toInt = -1 from rfl]
      omega⟩)
  rw [if_neg c2, if_neg c2]
  by_cases c3 : f6_isDrinker S b = 0
  · rw [if_pos c3, if_pos (w.mp c3)]; exact tell_sim h (by unfold vp_in; decide)
  · have c4 : ¬ f7_isDrinker M b = 0 := fun z => c3 (w.mpr z)
    obtain ⟨q1, q2⟩ := w2 c4
    rw [if_neg c3, if_neg c4]
    rw [vp_in_iff] at q1
    have := cl_int q1.1
    exact PS_mk rfl (RR_spot h (lp_cl hk) ⟨by omega, by omega⟩)
theorem under_all : ∀ i : Nat, i < 7 → ∀ j : Nat, j < 7 → f6_isUnder_L4 (nI i) (nI j) 8 (nI i) 0 = f7_isOf (nI i) (nI j) := by decide +kernel
theorem under_of {a b : Int32} (ha : 0 ≤ a.toInt ∧ a.toInt ≤ 6) (hb : vp_in b 7) : f6_isUnder a b = f7_isOf a b := by
  obtain ⟨i, hi, rfl⟩ := nI_of (x := a) (nn_int ha.1)
  rw [vp_in_iff] at hb
  obtain ⟨j, hj, rfl⟩ := nI_of (x := b) (nn_int hb.1)
  rw [nI_toInt hi] at ha
  rw [nI_toInt hj] at hb
  have e : lp_mu (7 : Int32) 0 = 7 := by rw [lp_mu_eq]; decide
  unfold f6_isUnder
  rw [e]
  exact under_all i (by omega) j (by omega)
theorem p_as {S M : tt_St} (a b : Int32) (h : RR S M) : PS (f6_as S a b) (f7_as M a b) := by
  have hR := h.1
  have hn := okR_n hR.2.2.2
  have hD := okR_dN hR.2.2.2
  have v := @wi_in7 a (0 : Int32) (9 : Int32) (0 : Int64) (9 : Int64) rfl rfl
  have v2 := @wi_in7 b (0 : Int32) (6 : Int32) (0 : Int64) (6 : Int64) rfl rfl
  unfold f6_as f7_as
  dsimp only
  by_cases c : f6_within a (0 : Int32) (9 : Int32) = 0
  · rw [if_pos c, if_pos (v.mp c)]; exact tell_sim h (by unfold vp_in; decide)
  have hk : vp_in a 10 := wi_in (n := 10) rfl c (by decide) (by decide)
  rw [if_neg c, if_neg (fun z => c (v.mpr z)), sp_ix0 hk]
  by_cases c2 : f6_within b (0 : Int32) (6 : Int32) = 0
  · rw [if_pos c2, if_pos (v2.mp c2)]; exact tell_sim h (by unfold vp_in; decide)
  have hk2 : vp_in b 7 := wi_in (n := 7) rfl c2 (by decide) (by decide)
  have es : S 12 a.toNatClampNeg = M 1 (122 + a.toNatClampNeg) := hR.2.2.1 _ (lp_cl hk)
  have hs := hR.2.2.2.2.2 _ (lp_cl hk)
  rw [if_neg c2, if_neg (fun z => c2 (v2.mpr z)), es]
  generalize M 1 (122 + a.toNatClampNeg) = x at *
  obtain ⟨w, w2⟩ := dr_iff7 h (a := x)
  have di := dr_iff (S := S) (a := x) (by rw [hR.1 0 (by omega)]; exact nn_int hn.2.2.1)
  rw [hR.1 0 (by omega)] at di
  by_cases c3 : 0 ≤ x
  · have c5 := c3
    rw [lp_le, lp_0] at c5
    have c4 : ¬ f6_isDrinker S x = 0 := di.mpr ⟨c5, hs.2⟩
    obtain ⟨q1, q2⟩ := w2 (fun z => c4 (w.mpr z))
    have hd := dN_dk hD q2
    have e12 := hR.1 (12 + 7 * x.toNatClampNeg) (by omega)
    rw [if_neg c4, if_pos c3, its_0 q1, e12, under_of hd.1 hk2]
    by_cases c6 : f7_isOf (M 1 (12 + 7 * x.toNatClampNeg)) b = 0
    · rw [if_pos c6, if_pos c6]; exact tell_sim h (by unfold vp_in; decide)
    · rw [if_neg c6, if_neg c6]; exact ⟨rfl, h⟩
  · have c4 : f6_isDrinker S x = 0 := Classical.byContradiction fun z => c3 (by
      have := di.mp z
      rw [lp_le, lp_0]
      exact this.1)
    rw [if_pos c4, if_neg c3]; exact tell_sim h (by unfold vp_in; decide)
theorem strL : ∀ (m m' : Nat) (S M : tt_St) (n w y x : Int32), RR S M → y.toInt ≤ n.toInt → x.toInt = n.toInt - y.toInt → lp_mu n y < m → x.toNatClampNeg < m' → PS (f6_strokes_L13 m S n w y) (f7_strokes_L8 m' M w x) := by
  intro m
  induction m with
  | zero => intro m' S M n w y x _ _ _ hm; exact absurd hm (Nat.not_lt_zero _)
  | succ m ih =>
    intro m' S M n w y x h hy hx hm hm'
    rcases m' with _ | m'
    · exact absurd hm' (Nat.not_lt_zero _)
    rw [f6_strokes_L13, f7_strokes_L8]
    dsimp only
    by_cases c : n ≤ y
    · rw [if_pos c]
      rw [lp_le] at c
      rw [if_pos (by rw [lp_le, lp_0]; omega)]
      exact ⟨rfl, h⟩
    · have c2 : ¬ x ≤ 0 := by rw [lp_le, lp_0]; rw [lp_le] at c; omega
      rw [if_neg c, if_neg c2]
      have e10 := h.1.1 10 (by omega)
      have g : (f2_draw S 0).1 = (f7_drawn M).1 ∧ RR (f2_draw S 0).2 (f7_drawn M).2 := by
        unfold f2_draw f7_drawn
        dsimp only
        rw [e10, tt_up_self, tt_up_self]
        exact ⟨rfl, RR_free h (by omega)⟩
      have ey := lp_inc c
      have hm2 := dn_mu c2 hm'
      rw [lp_le] at c
      have ex := lp_m1 (y := x) (by omega)
      obtain ⟨g1, g2⟩ := g
      generalize f2_draw S 0 = dS at *
      generalize f7_drawn M = dM at *
      rw [g1, Int32.add_zero]
      have c' : ¬ n ≤ y := by rw [lp_le]; omega
      have fin := fun w2 : Int32 => ih m' dS.2 dM.2 n w2 (y + (1 : Int32)) (x + (-1 : Int32)) g2 (by rw [show (y + (1 : Int32)).toInt = y.toInt + 1 from ey]; omega) (by rw [show (y + (1 : Int32)).toInt = y.toInt + 1 from ey, ex]; omega) (lp_dec' c' hm) hm2
      repeat' split
      all_goals exact fin _
theorem p_strokes {S M : tt_St} (h : RR S M) : PS (f6_strokes S) (f7_strokes M) := by
  have hR := h.1
  have hn := okR_n hR.2.2.2
  have hD := okR_dN hR.2.2.2
  have e5 := sr_sum hR.1 hn.2.2.2 hn.2.1 (j := (5 : Int32)) (by unfold vp_in; decide)
  have hz : (f7_sumOf M (5 : Int32)).toInt = gs (M 1) 17 (M 1 0).toNatClampNeg := sum_gs hn.1 hn.2.1 (fun k hk => its_5 hk) (fun d hd => by have q := dN_dk hD hd; unfold dk at q; dsimp only at q; omega)
  have hb := gs_bd (f := M 1) (b := 17) (lo := 0) (hi := 1000000) (n := (M 1 0).toNatClampNeg) (fun d hd => by have q := dN_dk hD hd; unfold dk at q; dsimp only at q; omega)
  unfold f6_strokes f7_strokes
  dsimp only
  rw [e5]
  exact strL _ _ _ _ _ _ _ _ h (by rw [lp_0]; omega) (by rw [lp_0]; omega) (Nat.lt_succ_self _) (Nat.lt_succ_self _)
