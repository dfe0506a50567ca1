/-! kindFor, told, odds, judge -/
/-- the kind best so far, on both sides -/
def ks (y p q p' q' : Int32) : Prop := (y = 0 ∧ p' = (-1 : Int32)) ∨ (p = p' ∧ q = q' ∧ 0 ≤ p.toInt ∧ 0 < y.toInt)
theorem com_k {S M : tt_St} {a a1 v : Int32} (h : RR S M) (hk : vp_in a1 10) (hd : a1.toNatClampNeg < (M 1 0).toNatClampNeg) (hv : 0 ≤ v.toInt ∧ v.toInt ≤ 6) (ha : 0 ≤ a.toInt) (hf : (M 1 7).toInt + a.toInt ≤ 9999) : (f2_goDays (tt_up (f2_takeRoom S 2 0) 2 (12 + 7 * a1.toNatClampNeg) v) 2 a).1 = (f7_goesOn (tt_up (f7_begins M) 1 (12 + 7 * a1.toNatClampNeg) v) a).1 ∧ RR (f2_goDays (tt_up (f2_takeRoom S 2 0) 2 (12 + 7 * a1.toNatClampNeg) v) 2 a).2 (f7_ends (f7_goesOn (tt_up (f7_begins M) 1 (12 + 7 * a1.toNatClampNeg) v) a).2) ∧ mf M (f7_ends (f7_goesOn (tt_up (f7_begins M) 1 (12 + 7 * a1.toNatClampNeg) v) a).2) ∧ tf S (f2_goDays (tt_up (f2_takeRoom S 2 0) 2 (12 + 7 * a1.toNatClampNeg) v) 2 a).2 ∧ ((f2_goDays (tt_up (f2_takeRoom S 2 0) 2 (12 + 7 * a1.toNatClampNeg) v) 2 a).2 2 (14 + 7 * a1.toNatClampNeg)) - ((f2_goDays (tt_up (f2_takeRoom S 2 0) 2 (12 + 7 * a1.toNatClampNeg) v) 2 a).2 2 (16 + 7 * a1.toNatClampNeg)) = f7_its (f7_goesOn (tt_up (f7_begins M) 1 (12 + 7 * a1.toNatClampNeg) v) a).2 a1 (2 : Int32) - f7_its (f7_goesOn (tt_up (f7_begins M) 1 (12 + 7 * a1.toNatClampNeg) v) a).2 a1 (4 : Int32) := by
  obtain ⟨t0, e1, e9⟩ := TR_0 h
  have hn := okR_n h.1.2.2.2
  obtain ⟨g1, g2, g3, g4, g5⟩ := go_sim h (TR_kind t0 hd hv) (by rw [tt_up_ne (by omega), e1]) ha hf
  have hr := dN_room g4.2.2.2
  have hc := cl_eq hr.1.1
  refine ⟨g1, g2, g3, g4.1, ?_⟩
  rw [its_2 hk, its_4 hk, g4.2.2.1 _ (by omega), g4.2.2.1 _ (by omega)]
theorem kindL {a1 a : Int32} (ha : 0 ≤ a.toInt) (hk : vp_in a1 10) : ∀ (m : Nat) (S M : tt_St) (p q p' q' y : Int32), RR S M → (M 1 7).toInt + a.toInt ≤ 9999 → a1.toNatClampNeg < (M 1 0).toNatClampNeg → ¬ y < 0 → lp_mu (7 : Int32) y < m → ks y p q p' q' → PS (f6_kindFor_L46 a1 a m S p q y) (f7_kindFor_L50 a1 a m M p' q' y) := by
  intro m
  induction m with
  | zero => intro S M p q p' q' y _ _ _ _ hm; exact absurd hm (Nat.not_lt_zero _)
  | succ m ih =>
    intro S M p q p' q' y h hf hd hy hm hs
    rw [f6_kindFor_L46, f7_kindFor_L50]
    dsimp only
    by_cases c : (7 : Int32) ≤ y
    · rw [if_pos c, if_pos c]
      rcases hs with ⟨rfl, -⟩ | ⟨rfl, -⟩
      · exact absurd c (by decide)
      · exact PS_mk rfl h
    rw [if_neg c, if_neg c]
    have c2 := c
    rw [lp_le, show (7 : Int32).toInt = 7 from rfl] at c2
    have y2 := int_nn hy
    have y1 : (y + (1 : Int32)).toInt = y.toInt + 1 := by rw [lp_add (by rw [lp_1]; omega) (by rw [lp_1]; omega), lp_1]
    have y4 := lp_nn hy c
    obtain ⟨g1, g2, g3, g4, g5⟩ := com_k (v := y) (a := a) h hk hd (by omega) ha hf
    rw [bec_0 hk, g5]
    have fin : ∀ p q p' q' : Int32, ks (y + (1 : Int32)) p q p' q' → PS (f6_kindFor_L46 a1 a m (f2_goDays (tt_up (f2_takeRoom S 2 0) 2 (12 + 7 * a1.toNatClampNeg) y) 2 a).2 p q (y + (1 : Int32))) (f7_kindFor_L50 a1 a m (f7_ends (f7_goesOn (tt_up (f7_begins M) 1 (12 + 7 * a1.toNatClampNeg) y) a).2) p' q' (y + (1 : Int32))) :=
      fun p q p' q' hs => ih _ _ p q p' q' _ g2 (by rw [g3.1 7 (by omega)]; exact hf) (by rw [g3.1 0 (by omega)]; exact hd) y4 (lp_dec' c hm) hs
    rcases hs with ⟨e0, rfl⟩ | ⟨rfl, rfl, s3, s4⟩
    · rw [if_pos e0, if_pos (show (-1 : Int32) < 0 from by decide)]
      exact fin _ _ _ _ (Or.inr ⟨rfl, rfl, y2, by omega⟩)
    · rw [if_neg (show ¬ p < 0 from nn_int s3), if_neg (ne0_int s4)]
      generalize f7_its (f7_goesOn (tt_up (f7_begins M) 1 (12 + 7 * a1.toNatClampNeg) y) a).2 a1 (2 : Int32) - f7_its (f7_goesOn (tt_up (f7_begins M) 1 (12 + 7 * a1.toNatClampNeg) y) a).2 a1 (4 : Int32) = w at *
      by_cases d : w ≤ q
      · rw [if_pos d, if_pos d]; exact fin _ _ _ _ (Or.inr ⟨rfl, rfl, s3, by omega⟩)
      · rw [if_neg d, if_neg d]; exact fin _ _ _ _ (Or.inr ⟨rfl, rfl, y2, by omega⟩)
theorem p_kindFor {S M : tt_St} (a b : Int32) (h : RR S M) : PS (f6_kindFor S a b) (f7_kindFor M a b) := by
  obtain ⟨w, w2⟩ := dr_iff7 h (a := a)
  have v := @wi_in7 b (1 : Int32) (50 : Int32) (1 : Int64) (50 : Int64) rfl rfl
  unfold f6_kindFor f7_kindFor
  dsimp only
  by_cases c : f6_isDrinker S a = 0
  · rw [if_pos c, if_pos (w.mp c)]; exact tell_sim h (by unfold vp_in; decide)
  obtain ⟨hk, hd⟩ := w2 (fun z => c (w.mpr z))
  rw [if_neg c, if_neg (fun z => c (w.mpr z))]
  by_cases c2 : f6_within b (1 : Int32) (50 : Int32) = 0
  · rw [if_pos c2, if_pos (v.mp c2)]; exact tell_sim h (by unfold vp_in; decide)
  rw [if_neg c2, if_neg (fun z => c2 (v.mpr z)), far7 h, why_1 (show ¬ (1 : Int32) = 0 from by decide)]
  by_cases c3 : f7_isFar M b = 0
  · have ha := wi_iff.mp c2
    rw [lp_1, show (50 : Int32).toInt = 50 from rfl] at ha
    rw [if_pos c3, if_pos c3, if_pos (show (-1 : Int32) < 0 from by decide)]
    exact kindL (by omega) hk _ _ _ _ _ _ _ _ h (far_le (day_b h) (by omega) c3) hd (by decide) (Nat.lt_succ_self _) (Or.inl ⟨rfl, rfl⟩)
  · rw [if_neg c3, if_neg c3, if_neg (show ¬ (4 : Int32) < 0 from by decide)]; exact tell_sim h (by unfold vp_in; decide)
theorem x15_n {a : Int32} (hk : vp_in a 10) : (((12 : Int32) + ((7 : Int32) * a)) + (0 : Int32)).toNatClampNeg = 12 + 7 * a.toNatClampNeg := by
  rw [vp_in_iff] at hk
  have e7 : (7 : Int32).toInt = 7 := rfl
  have e12 : (12 : Int32).toInt = 12 := rfl
  have em : ((7 : Int32) * a).toInt = 7 * a.toInt := by rw [lp_mul (by rw [e7]; omega) (by rw [e7]; omega), e7]
  have ea : ((12 : Int32) + ((7 : Int32) * a)).toInt = 12 + 7 * a.toInt := by rw [lp_add (by rw [e12]; omega) (by rw [e12]; omega), e12, em]
  have := cl_int (x := a) hk.1
  rw [Int32.add_zero]
  exact cl_eq (by omega)
theorem p_told {S M : tt_St} (a b : Int32) (h : RR S M) : PS (f6_told S a b) (f7_told M a b) := by
  obtain ⟨w, w2⟩ := dr_iff7 h (a := a)
  have v := @wi_in7 b (1 : Int32) (50 : Int32) (1 : Int64) (50 : Int64) rfl rfl
  unfold f6_told f7_told
  dsimp only
  by_cases c : f6_isDrinker S a = 0
  · rw [if_pos c, if_pos (w.mp c)]; exact tell_sim h (by unfold vp_in; decide)
  obtain ⟨hk, hd⟩ := w2 (fun z => c (w.mpr z))
  rw [if_neg c, if_neg (fun z => c (w.mpr z))]
  by_cases c2 : f6_within b (1 : Int32) (50 : Int32) = 0
  · rw [if_pos c2, if_pos (v.mp c2)]; exact tell_sim h (by unfold vp_in; decide)
  rw [if_neg c2, if_neg (fun z => c2 (v.mpr z)), far7 h, why_1 (show ¬ (1 : Int32) = 0 from by decide)]
  by_cases c3 : f7_isFar M b = 0
  · have ha := wi_iff.mp c2
    rw [lp_1, show (50 : Int32).toInt = 50 from rfl] at ha
    have hf := far_le (day_b h) (by omega) c3
    rw [if_pos c3, if_pos c3, if_pos (show (-1 : Int32) < 0 from by decide)]
    unfold f7_comesWith
    dsimp only
    rw [x15_n hk]
    obtain ⟨t0, e1, e9⟩ := TR_0 h
    obtain ⟨g1, g2, g3, g4, g5⟩ := go_sim (a := b) h t0 (by rw [e1]) (by omega) hf
    have hA : RR (f2_goDays (f2_takeRoom S 2 0) 2 b).2 M := RR_keep h g4.1 (mf_rfl M)
    obtain ⟨k1, k2, k3, k4, -⟩ := com_k (v := (0 : Int32)) hA hk hd (by decide) (by omega) hf
    rw [k1]
    generalize hX : f7_ends (f7_goesOn (tt_up (f7_begins M) 1 (12 + 7 * a.toNatClampNeg) (0 : Int32)) b).2 = X at *
    have hB : RR S X := RR_keep h (tf_rfl S) k3
    obtain ⟨t1, e2, e8⟩ := TR_0 hB
    obtain ⟨l1, l2, l3, l4, l5⟩ := go_sim (a := b) hB t1 (by rw [e2]) (by omega) (by rw [k3.1 7 (by omega)]; exact hf)
    rw [l1]
    have ei : tt_up (f7_begins X) 1 (12 + 7 * a.toNatClampNeg) (X 1 (12 + 7 * a.toNatClampNeg)) = f7_begins X := by
      have e3 : X 1 (12 + 7 * a.toNatClampNeg) = f7_begins X 1 (12 + 7 * a.toNatClampNeg) := (congrFun e2 _).symm
      rw [e3]
      exact tt_up_id _ _ _
    rw [ei]
    exact PS_mk rfl (RR_keep h (tf_tr g4.1 k4) (mf_tr k3 l3))
  · rw [if_neg c3, if_neg c3, if_neg (show ¬ (4 : Int32) < 0 from by decide)]; exact tell_sim h (by unfold vp_in; decide)
theorem oddL {a b : Int32} : ∀ (m : Nat) (S M : tt_St) (x y : Int32), RR S M → (M 1 7).toInt + 5 ≤ 9999 → PS (f6_odds_L46 a b m S x y) (f7_odds_L54 a b m M x y) := by
  intro m
  induction m with
  | zero => intro S M x y h _; exact PS_mk rfl h
  | succ m ih =>
    intro S M x y h hf
    rw [f6_odds_L46, f7_odds_L54]
    dsimp only
    by_cases c : a ≤ y
    · rw [if_pos c, if_pos c]; exact PS_mk rfl h
    rw [if_neg c, if_neg c]
    obtain ⟨t0, e1, e9⟩ := TR_0 h
    obtain ⟨g1, g2, g3, g4, g5⟩ := go_sim (a := (5 : Int32)) h t0 (by rw [e1]) (by decide) hf
    rw [g1, Int32.add_zero, g4.2.2.1 10 (by omega)]
    have fin := fun x2 : Int32 => ih _ _ x2 (y + (1 : Int32)) (RR_free (k := 10) (v := (f7_goesOn (f7_begins M) (5 : Int32)).2 1 10) g2 (by omega)) (by rw [tt_up_ne (by omega), g3.1 7 (by omega)]; exact hf)
    by_cases d : (f7_goesOn (f7_begins M) (5 : Int32)).1 < b
    · rw [if_pos d, if_pos d]; exact fin _
    · rw [if_neg d, if_neg d]; exact fin _
theorem p_odds {S M : tt_St} (a b : Int32) (h : RR S M) : PS (f6_odds S a b) (f7_odds M a b) := by
  have v := @wi_in7 a (1 : Int32) (20 : Int32) (1 : Int64) (20 : Int64) rfl rfl
  have v2 := @wi_in7 b (0 : Int32) (9999 : Int32) (0 : Int64) (9999 : Int64) rfl rfl
  have h7 := day_b h
  unfold f6_odds f7_odds
  dsimp only
  by_cases c : f6_within a (1 : Int32) (20 : Int32) = 0
  · rw [if_pos c, if_pos (v.mp c)]; exact tell_sim h (by unfold vp_in; decide)
  rw [if_neg c, if_neg (fun z => c (v.mpr z))]
  by_cases c2 : f6_within b (0 : Int32) (9999 : Int32) = 0
  · rw [if_pos c2, if_pos (v2.mp c2)]; exact tell_sim h (by unfold vp_in; decide)
  rw [if_neg c2, if_neg (fun z => c2 (v2.mpr z)), far7 h]
  have e5 : (5 : Int32).toInt = 5 := rfl
  have e4 : (9994 : Int32).toInt = 9994 := rfl
  have e9 : (9999 : Int32).toInt = 9999 := rfl
  have es : (M 1 7 + (5 : Int32)).toInt = (M 1 7).toInt + 5 := by rw [lp_add (by omega) (by omega), e5]
  unfold f7_isFar
  by_cases c3 : M 1 7 ≤ (9994 : Int32)
  · have c4 : M 1 7 + (5 : Int32) ≤ (9999 : Int32) := by rw [lp_le] at c3 ⊢; omega
    rw [if_pos c3, if_pos c4, if_pos (show (0 : Int32) = 0 from rfl)]
    have c5 := c3
    rw [lp_le] at c5
    exact oddL _ _ _ _ _ h (by omega)
  · have c4 : ¬ M 1 7 + (5 : Int32) ≤ (9999 : Int32) := by rw [lp_le] at c3 ⊢; omega
    rw [if_neg c3, if_neg c4, if_neg (show ¬ (1 : Int32) = 0 from by decide)]
    exact tell_sim h (by unfold vp_in; decide)
theorem i40 {a y : Int32} (ha : vp_in a 4) (h0 : 0 ≤ y.toInt) (hy : y.toInt < 40) : (((40 : Int32) * a) + y).toNatClampNeg = 40 * a.toNatClampNeg + y.toNatClampNeg := by
  rw [vp_in_iff] at ha
  have e4 : (40 : Int32).toInt = 40 := rfl
  have em : ((40 : Int32) * a).toInt = 40 * a.toInt := by rw [lp_mul (by rw [e4]; omega) (by rw [e4]; omega), e4]
  have ea : (((40 : Int32) * a) + y).toInt = 40 * a.toInt + y.toInt := by rw [lp_add (by omega) (by omega), em]
  have := cl_int (x := a) ha.1
  have := cl_int (x := y) h0
  exact cl_eq (by omega)
theorem judgeL {S M : tt_St} {a1 : Int32} (h : RR S M) (hk : vp_in a1 4) : ∀ (m m' : Nat) (T X : tt_St) (y : Int32) (B : Int), TR (M 1 0).toNatClampNeg B S M T X → 0 ≤ y.toInt → (X 1 7).toInt + ((M 7 a1.toNatClampNeg).toInt - y.toInt) ≤ 9999 → B + 891 * ((M 7 a1.toNatClampNeg).toInt - y.toInt) ≤ 800000000 → 0 ≤ (X 1 7).toInt → lp_mu (M 7 a1.toNatClampNeg) y < m → lp_mu (M 7 a1.toNatClampNeg) y < m' → PS (f6_judge_L63 a1 m T y) (f7_judge_L44 a1 m' X 0 y) := by
  have hk4 := lp_cl hk
  obtain ⟨s1, s2, s3, s4, s5⟩ := h.2.2.2.2.1 _ hk4
  intro m
  induction m with
  | zero => intro m' T X y B _ _ _ _ _ hm; exact absurd hm (Nat.not_lt_zero _)
  | succ m ih =>
    intro m' T X y B t h0 hf hB h7 hm hm'
    rcases m' with _ | m'
    · exact absurd hm' (Nat.not_lt_zero _)
    have e1 : T 3 (20 + a1.toNatClampNeg) = M 7 a1.toNatClampNeg := by rw [t.1 3 (by decide) (by decide) (by decide)]; exact s2
    have e2 : X 7 a1.toNatClampNeg = M 7 a1.toNatClampNeg := by rw [t.2.1.2.1 7 (by decide)]
    rw [f6_judge_L63, f7_judge_L44]
    dsimp only
    rw [e1, e2]
    by_cases c : M 7 a1.toNatClampNeg ≤ y
    · rw [if_pos c, if_pos c]; exact PS_mk rfl (TR_end h t)
    rw [if_neg c, if_neg c, if_pos (show (0 : Int32) = 0 from rfl)]
    have c2 := c
    rw [lp_le] at c2
    obtain ⟨g1, g2, g3, g4, g5⟩ := TR_go (a := (1 : Int32)) t (by decide) (by rw [lp_1]; omega) (by rw [lp_1]; omega)
    rw [lp_1] at g2 g4
    have ec : (f2_goDays T 2 (1 : Int32)).2 (15 + a1.toNatClampNeg) y.toNatClampNeg = (f7_goesOn X (1 : Int32)).2 8 (((40 : Int32) * a1) + y).toNatClampNeg := by
      have := cl_int (x := y) h0
      rw [g2.1 (15 + a1.toNatClampNeg) (by omega) (by omega) (by omega), g2.2.1.2.1 8 (by decide), i40 hk h0 (by omega)]
      exact s5 _ (by omega)
    rw [g1, ec]
    have y1 : (y + (1 : Int32)).toInt = y.toInt + 1 := by rw [lp_add (by rw [lp_1]; omega) (by rw [lp_1]; omega), lp_1]
    by_cases d : (f7_goesOn X (1 : Int32)).1 = (f7_goesOn X (1 : Int32)).2 8 (((40 : Int32) * a1) + y).toNatClampNeg
    · rw [if_pos d, if_pos d]
      exact ih m' _ _ _ _ g2 (by omega) (by omega) (by omega) (by omega) (lp_dec' c hm) (lp_dec' c hm')
    · rw [if_neg d, if_neg d]
      have hd := lp_dec' c hm'
      rcases m' with _ | m'
      · exact absurd hd (Nat.not_lt_zero _)
      rw [f7_judge_L44]
      dsimp only
      have n0 : ¬ (1 : Int32) + y = 0 := ne0_int (by rw [Int32.add_comm]; omega)
      by_cases c4 : (f7_goesOn X (1 : Int32)).2 7 a1.toNatClampNeg ≤ y + (1 : Int32)
      · rw [if_pos c4]; exact PS_mk rfl (TR_end h g2)
      · rw [if_neg c4, if_neg n0]; exact PS_mk rfl (TR_end h g2)
theorem p_judge {S M : tt_St} (a : Int32) (h : RR S M) : PS (f6_judge S a) (f7_judge M a) := by
  unfold f6_judge f7_judge f7_whyNot
  dsimp only
  by_cases c : f6_isSheet a = 0
  · rw [if_pos c, if_pos (iss7.mp c), if_pos (show (0 : Int32) ≤ 0 from by decide), if_neg (show ¬ (0 : Int32) < 0 from by decide)]; exact tell_sim h (by unfold vp_in; decide)
  have hk := iss_in rfl c
  obtain ⟨s1, s2, s3, s4, s5⟩ := h.2.2.2.2.1 _ (lp_cl hk)
  rw [if_neg c, if_neg (fun z => c (iss7.mpr z))]
  unfold f3_isMissing
  rw [s1]
  by_cases c2 : M 6 a.toNatClampNeg = 0
  · rw [if_pos c2, if_neg (show ¬ (1 : Int32) = 0 from by decide), if_pos c2, if_pos (show (0 : Int32) ≤ 5 from by decide), if_neg (show ¬ (5 : Int32) < 0 from by decide)]; exact tell_sim h (by unfold vp_in; decide)
  rw [if_neg c2, if_pos (show (0 : Int32) = 0 from rfl), if_neg c2, if_neg (show ¬ (0 : Int32) ≤ (-1 : Int32) from by decide), s2, far7 h]
  by_cases c3 : f7_isFar M (M 7 a.toNatClampNeg) = 0
  · have hf := far_le (day_b h) (by omega) c3
    have h7 := day_b h
    rw [if_pos c3, if_pos c3, if_pos (show (-1 : Int32) < 0 from by decide)]
    obtain ⟨t0, e1, e9⟩ := TR_0 h
    have q1 : f2_takeRoom S 2 0 3 (20 + a.toNatClampNeg) = M 7 a.toNatClampNeg := by rw [t0.1 3 (by decide) (by decide) (by decide)]; exact s2
    have q2 : f7_begins M 7 a.toNatClampNeg = M 7 a.toNatClampNeg := by rw [t0.2.1.2.1 7 (by decide)]
    rw [q1, q2]
    exact judgeL h hk _ _ _ _ _ _ t0 (by decide) (by rw [e1, lp_0]; omega) (by rw [lp_0]; omega) (by rw [e1]; omega) (Nat.lt_succ_self _) (Nat.lt_succ_self _)
  · rw [if_neg c3, if_neg c3]; exact tell_sim h (by unfold vp_in; decide)
