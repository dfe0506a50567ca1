/-! trials: best, sign, potFor, kindFor, told, odds, judge -/
theorem go_sim {S M T X : tt_St} {a : Int32} (h : RR S M) (t : TR (M 1 0).toNatClampNeg (891 * (M 1 7).toInt) S M T X) (e7 : X 1 7 = M 1 7) (ha : 0 ≤ a.toInt) (hf : (M 1 7).toInt + a.toInt ≤ 9999) : (f2_goDays T 2 a).1 = (f7_goesOn X a).1 ∧ RR (f2_goDays T 2 a).2 (f7_ends (f7_goesOn X a).2) ∧ mf M (f7_ends (f7_goesOn X a).2) ∧ TR (M 1 0).toNatClampNeg (891 * (M 1 7).toInt + 891 * a.toInt) S M (f2_goDays T 2 a).2 (f7_goesOn X a).2 ∧ 0 ≤ (f7_goesOn X a).1.toInt := by
  have h7 := day_b h
  obtain ⟨g1, g2, g3, g4, g5⟩ := TR_go (a := a) t ha (by rw [e7]; omega) (by omega)
  exact ⟨g1, TR_end h g2, bx_mf g2.2.1, g2, g5.1⟩
theorem TR_price {n : Nat} {B : Int} {S M T X : tt_St} {v : Int32} (t : TR n B S M T X) (hv : 0 ≤ v.toInt ∧ v.toInt ≤ 99) : TR n B S M (tt_up T 2 1 v) (tt_up X 1 1 v) := by
  have hr := dN_room t.2.2.2
  refine TR_up t (by omega) (dN_rm t.2.2.2 (fun j _ _ _ _ _ _ _ _ _ => tt_up_ne (by omega)) ?_ ?_ ?_ ?_)
  · rw [tt_up_self]; exact hv
  · rw [tt_up_ne (by omega)]; exact hr.2.2.1
  · rw [tt_up_ne (by omega)]; exact hr.2.2.2.1
  · rw [tt_up_ne (by omega)]; exact hr.2.2.2.2.1
theorem TR_sign {n : Nat} {B : Int} {S M T X : tt_St} {v : Int32} (t : TR n B S M T X) (hv : 0 ≤ v.toInt ∧ v.toInt ≤ 2) : TR n B S M (tt_up T 2 5 v) (tt_up X 1 5 v) := by
  have hr := dN_room t.2.2.2
  refine TR_up t (by omega) (dN_rm t.2.2.2 (fun j _ _ _ _ _ _ _ _ _ => tt_up_ne (by omega)) ?_ ?_ ?_ ?_)
  · rw [tt_up_ne (by omega)]; exact hr.2.1
  · rw [tt_up_ne (by omega)]; exact hr.2.2.1
  · rw [tt_up_ne (by omega)]; exact hr.2.2.2.1
  · rw [tt_up_self]; exact hv
theorem TR_pot {n : Nat} {B : Int} {S M T X : tt_St} {v : Int32} (t : TR n B S M T X) (hv : 1 ≤ v.toInt ∧ v.toInt ≤ 99) : TR n B S M (f2_setPot T 2 v) (tt_up (tt_up X 1 2 v) 1 3 v) := by
  have hr := dN_room t.2.2.2
  have t1 : TR n B S M (tt_up T 2 2 v) (tt_up X 1 2 v) := by
    refine TR_up t (by omega) (dN_rm t.2.2.2 (fun j _ _ _ _ _ _ _ _ _ => tt_up_ne (by omega)) ?_ ?_ ?_ ?_)
    · rw [tt_up_ne (by omega)]; exact hr.2.1
    · rw [tt_up_self]; exact hv
    · rw [tt_up_ne (by omega)]; exact hr.2.2.2.1
    · rw [tt_up_ne (by omega)]; exact hr.2.2.2.2.1
  have hr1 := dN_room t1.2.2.2
  show TR n B S M (tt_up (tt_up T 2 2 v) 2 3 v) (tt_up (tt_up X 1 2 v) 1 3 v)
  refine TR_up t1 (by omega) (dN_rm t1.2.2.2 (fun j _ _ _ _ _ _ _ _ _ => tt_up_ne (by omega)) ?_ ?_ ?_ ?_)
  · rw [tt_up_ne (by omega)]; exact hr1.2.1
  · rw [tt_up_ne (by omega)]; exact hr1.2.2.1
  · rw [tt_up_self]; omega
  · rw [tt_up_ne (by omega)]; exact hr1.2.2.2.2.1
theorem TR_kind {n d : Nat} {B : Int} {S M T X : tt_St} {v : Int32} (t : TR n B S M T X) (hd : d < n) (hv : 0 ≤ v.toInt ∧ v.toInt ≤ 6) : TR n B S M (tt_up T 2 (12 + 7 * d) v) (tt_up X 1 (12 + 7 * d) v) :=
  TR_up t (by omega) (dN_set (j := 0) t.2.2.2 hd (by omega) (fun _ => hv) (fun z => absurd z (by decide)) (fun z => absurd z (by decide)) (fun z => absurd z (by decide)))
/-- a trial at a price, or a sign -/
theorem com_1 {S M : tt_St} {a v : Int32} (h : RR S M) (hv : 0 ≤ v.toInt ∧ v.toInt ≤ 99) (ha : 0 ≤ a.toInt) (hf : (M 1 7).toInt + a.toInt ≤ 9999) : (f2_goDays (tt_up (f2_takeRoom S 2 0) 2 1 v) 2 a).1 = (f7_comesWith M (1 : Int32) v a).1 ∧ RR (f2_goDays (tt_up (f2_takeRoom S 2 0) 2 1 v) 2 a).2 (f7_comesWith M (1 : Int32) v a).2 ∧ mf M (f7_comesWith M (1 : Int32) v a).2 ∧ 0 ≤ (f7_comesWith M (1 : Int32) v a).1.toInt := by
  obtain ⟨t0, e1, e9⟩ := TR_0 h
  obtain ⟨g1, g2, g3, -, g5⟩ := go_sim h (TR_price t0 hv) (by rw [tt_up_ne (by omega), e1]) ha hf
  exact ⟨g1, g2, g3, g5⟩
theorem com_5 {S M : tt_St} {a v : Int32} (h : RR S M) (hv : 0 ≤ v.toInt ∧ v.toInt ≤ 2) (ha : 0 ≤ a.toInt) (hf : (M 1 7).toInt + a.toInt ≤ 9999) : (f2_goDays (tt_up (f2_takeRoom S 2 0) 2 5 v) 2 a).1 = (f7_comesWith M (5 : Int32) v a).1 ∧ RR (f2_goDays (tt_up (f2_takeRoom S 2 0) 2 5 v) 2 a).2 (f7_comesWith M (5 : Int32) v a).2 ∧ mf M (f7_comesWith M (5 : Int32) v a).2 ∧ 0 ≤ (f7_comesWith M (5 : Int32) v a).1.toInt := by
  obtain ⟨t0, e1, e9⟩ := TR_0 h
  obtain ⟨g1, g2, g3, -, g5⟩ := go_sim h (TR_sign t0 hv) (by rw [tt_up_ne (by omega), e1]) ha hf
  exact ⟨g1, g2, g3, g5⟩
theorem why_z {M : tt_St} {a : Int32} : f7_why M 0 a = 0 := rfl
/-- the best so far, on both sides -/
def bs (y p q p' q' : Int32) : Prop := (y = 0 ∧ p = 0 ∧ q = (-1 : Int32) ∧ p' = (-1 : Int32)) ∨ (p = p' ∧ q = q' ∧ 0 ≤ p.toInt ∧ 0 < y.toInt)
theorem y_1 {y b : Int32} (hy : ¬ y < 0) (c : ¬ b < y) (hb : b.toInt ≤ 1000) : (y + (1 : Int32)).toInt = y.toInt + 1 ∧ 0 ≤ y.toInt ∧ y.toInt ≤ b.toInt ∧ ¬ y + (1 : Int32) < 0 := by
  have h0 := int_nn hy
  rw [lp_lt] at c
  have e : (y + (1 : Int32)).toInt = y.toInt + 1 := by rw [lp_add (by rw [lp_1]; omega) (by rw [lp_1]; omega), lp_1]
  exact ⟨e, h0, by omega, nn_int (by omega)⟩
theorem bestL1 {a : Int32} (ha : 0 ≤ a.toInt) : ∀ (m m' : Nat) (S M : tt_St) (p q p' q' y : Int32), RR S M → (M 1 7).toInt + a.toInt ≤ 9999 → ¬ y < 0 → lp_nu (99 : Int32) y < m → lp_nu (99 : Int32) y < m' → bs y p q p' q' → PS (f6_best_L37 a m S p q y) (f7_bestOf_L9 (1 : Int32) (99 : Int32) a m' M p' q' y) := by
  intro m
  induction m with
  | zero => intro m' S M p q p' q' y _ _ _ hm; exact absurd hm (Nat.not_lt_zero _)
  | succ m ih =>
    intro m' S M p q p' q' y h hf hy hm hm' hs
    rcases m' with _ | m'
    · exact absurd hm' (Nat.not_lt_zero _)
    rw [f6_best_L37, f7_bestOf_L9]
    dsimp only
    by_cases c : (99 : Int32) < y
    · rw [if_pos c, if_pos c]
      rcases hs with ⟨rfl, -⟩ | ⟨rfl, -⟩
      · exact absurd c (by decide)
      · exact PS_mk rfl h
    rw [if_neg c, if_neg c]
    obtain ⟨y1, y2, y3, y4⟩ := y_1 hy c (by decide)
    obtain ⟨g1, g2, g3, g4⟩ := com_1 (v := y) (a := a) h ⟨y2, y3⟩ ha hf
    have fin : ∀ p q p' q' : Int32, bs (y + (1 : Int32)) p q p' q' → PS (f6_best_L37 a m (f2_goDays (tt_up (f2_takeRoom S 2 0) 2 1 y) 2 a).2 p q (y + (1 : Int32))) (f7_bestOf_L9 (1 : Int32) (99 : Int32) a m' (f7_comesWith M (1 : Int32) y a).2 p' q' (y + (1 : Int32))) :=
      fun p q p' q' hs => ih m' _ _ p q p' q' _ g2 (by rw [g3.1 7 (by omega)]; exact hf) y4 (lp_ndec (by decide) c hm) (lp_ndec (by decide) c hm') hs
    rw [g1]
    rcases hs with ⟨e0, rfl, rfl, rfl⟩ | ⟨rfl, rfl, s3, s4⟩
    · rw [if_neg (show ¬ (f7_comesWith M (1 : Int32) y a).1 ≤ (-1 : Int32) by rw [lp_le, show (-1 : Int32).toInt = -1 from rfl]; omega), if_pos (show (-1 : Int32) < 0 from by decide)]
      exact fin _ _ _ _ (Or.inr ⟨rfl, rfl, y2, by omega⟩)
    · rw [if_neg (show ¬ p < 0 from nn_int s3)]
      by_cases d : (f7_comesWith M (1 : Int32) y a).1 ≤ q
      · rw [if_pos d, if_pos d]; exact fin _ _ _ _ (Or.inr ⟨rfl, rfl, s3, by omega⟩)
      · rw [if_neg d, if_neg d]; exact fin _ _ _ _ (Or.inr ⟨rfl, rfl, y2, by omega⟩)
theorem bestL5 {a : Int32} (ha : 0 ≤ a.toInt) : ∀ (m m' : Nat) (S M : tt_St) (p q p' q' y : Int32), RR S M → (M 1 7).toInt + a.toInt ≤ 9999 → ¬ y < 0 → lp_nu (2 : Int32) y < m → lp_nu (2 : Int32) y < m' → bs y p q p' q' → PS (f6_sign_L37 a m S p q y) (f7_bestOf_L9 (5 : Int32) (2 : Int32) a m' M p' q' y) := by
  intro m
  induction m with
  | zero => intro m' S M p q p' q' y _ _ _ hm; exact absurd hm (Nat.not_lt_zero _)
  | succ m ih =>
    intro m' S M p q p' q' y h hf hy hm hm' hs
    rcases m' with _ | m'
    · exact absurd hm' (Nat.not_lt_zero _)
    rw [f6_sign_L37, f7_bestOf_L9]
    dsimp only
    by_cases c : (2 : Int32) < y
    · rw [if_pos c, if_pos c]
      rcases hs with ⟨rfl, -⟩ | ⟨rfl, -⟩
      · exact absurd c (by decide)
      · exact PS_mk rfl h
    rw [if_neg c, if_neg c]
    obtain ⟨y1, y2, y3, y4⟩ := y_1 hy c (by decide)
    obtain ⟨g1, g2, g3, g4⟩ := com_5 (v := y) (a := a) h ⟨y2, y3⟩ ha hf
    have fin : ∀ p q p' q' : Int32, bs (y + (1 : Int32)) p q p' q' → PS (f6_sign_L37 a m (f2_goDays (tt_up (f2_takeRoom S 2 0) 2 5 y) 2 a).2 p q (y + (1 : Int32))) (f7_bestOf_L9 (5 : Int32) (2 : Int32) a m' (f7_comesWith M (5 : Int32) y a).2 p' q' (y + (1 : Int32))) :=
      fun p q p' q' hs => ih m' _ _ p q p' q' _ g2 (by rw [g3.1 7 (by omega)]; exact hf) y4 (lp_ndec (by decide) c hm) (lp_ndec (by decide) c hm') hs
    rw [g1]
    rcases hs with ⟨e0, rfl, rfl, rfl⟩ | ⟨rfl, rfl, s3, s4⟩
    · rw [if_neg (show ¬ (f7_comesWith M (5 : Int32) y a).1 ≤ (-1 : Int32) by rw [lp_le, show (-1 : Int32).toInt = -1 from rfl]; omega), if_pos (show (-1 : Int32) < 0 from by decide)]
      exact fin _ _ _ _ (Or.inr ⟨rfl, rfl, y2, by omega⟩)
    · rw [if_neg (show ¬ p < 0 from nn_int s3)]
      by_cases d : (f7_comesWith M (5 : Int32) y a).1 ≤ q
      · rw [if_pos d, if_pos d]; exact fin _ _ _ _ (Or.inr ⟨rfl, rfl, s3, by omega⟩)
      · rw [if_neg d, if_neg d]; exact fin _ _ _ _ (Or.inr ⟨rfl, rfl, y2, by omega⟩)
theorem p_best {S M : tt_St} (a : Int32) (h : RR S M) : PS (f6_best S a) (f7_best M a) := by
  have v := @wi_in7 a (1 : Int32) (20 : Int32) (1 : Int64) (20 : Int64) rfl rfl
  unfold f6_best f7_best
  dsimp only
  by_cases c : f6_within a (1 : Int32) (20 : Int32) = 0
  · rw [if_pos c, v.mp c, why_z, if_neg (show ¬ (0 : Int32) < 0 from by decide)]; exact tell_sim h (by unfold vp_in; decide)
  rw [if_neg c, far7 h, why_1 (fun z => c (v.mpr z))]
  by_cases c3 : f7_isFar M a = 0
  · have ha := wi_iff.mp c
    rw [lp_1, show (20 : Int32).toInt = 20 from rfl] at ha
    rw [if_pos c3, if_pos c3, if_pos (show (-1 : Int32) < 0 from by decide)]
    exact bestL1 (by omega) _ _ _ _ _ _ _ _ _ h (far_le (day_b h) (by omega) c3) (by decide) (Nat.lt_succ_self _) (Nat.lt_succ_self _) (Or.inl ⟨rfl, rfl, rfl, rfl⟩)
  · rw [if_neg c3, if_neg c3, if_neg (show ¬ (4 : Int32) < 0 from by decide)]; exact tell_sim h (by unfold vp_in; decide)
theorem p_sign {S M : tt_St} (a : Int32) (h : RR S M) : PS (f6_sign S a) (f7_sign M a) := by
  have v := @wi_in7 a (1 : Int32) (50 : Int32) (1 : Int64) (50 : Int64) rfl rfl
  unfold f6_sign f7_sign
  dsimp only
  by_cases c : f6_within a (1 : Int32) (50 : Int32) = 0
  · rw [if_pos c, v.mp c, why_z, if_neg (show ¬ (0 : Int32) < 0 from by decide)]; exact tell_sim h (by unfold vp_in; decide)
  rw [if_neg c, far7 h, why_1 (fun z => c (v.mpr z))]
  by_cases c3 : f7_isFar M a = 0
  · have ha := wi_iff.mp c
    rw [lp_1, show (50 : Int32).toInt = 50 from rfl] at ha
    rw [if_pos c3, if_pos c3, if_pos (show (-1 : Int32) < 0 from by decide)]
    exact bestL5 (by omega) _ _ _ _ _ _ _ _ _ h (far_le (day_b h) (by omega) c3) (by decide) (Nat.lt_succ_self _) (Nat.lt_succ_self _) (Or.inl ⟨rfl, rfl, rfl, rfl⟩)
  · rw [if_neg c3, if_neg c3, if_neg (show ¬ (4 : Int32) < 0 from by decide)]; exact tell_sim h (by unfold vp_in; decide)
theorem potL {a : Int32} (ha : 0 ≤ a.toInt) : ∀ (m m' : Nat) (S M : tt_St) (y : Int32), RR S M → (M 1 7).toInt + a.toInt ≤ 9999 → 1 ≤ y.toInt → lp_nu (99 : Int32) y < m → lp_mu (100 : Int32) y < m' → PS (f6_potFor_L32 a m S y) (f7_potFor_L27 a m' M y) := by
  intro m
  induction m with
  | zero => intro m' S M y _ _ _ hm; exact absurd hm (Nat.not_lt_zero _)
  | succ m ih =>
    intro m' S M y h hf hy hm hm'
    rcases m' with _ | m'
    · exact absurd hm' (Nat.not_lt_zero _)
    rw [f6_potFor_L32, f7_potFor_L27]
    dsimp only
    by_cases c : (99 : Int32) < y
    · rw [if_pos c, if_pos (show (100 : Int32) ≤ y by rw [lp_lt, show (99 : Int32).toInt = 99 from rfl] at c; rw [lp_le, show (100 : Int32).toInt = 100 from rfl]; omega)]
      exact tell_sim h (by unfold vp_in; decide)
    have c2 : ¬ (100 : Int32) ≤ y := by rw [lp_lt, show (99 : Int32).toInt = 99 from rfl] at c; rw [lp_le, show (100 : Int32).toInt = 100 from rfl]; omega
    rw [if_neg c, if_neg c2]
    obtain ⟨y1, y2, y3, y4⟩ := y_1 (nn_int (by omega)) c (by decide)
    rw [show (99 : Int32).toInt = 99 from rfl] at y3
    obtain ⟨t0, e1, e9⟩ := TR_0 h
    obtain ⟨g1, g2, g3, g4, g5⟩ := go_sim h (TR_pot t0 (v := y) (by omega)) (by rw [tt_up_ne (by omega), tt_up_ne (by omega), e1]) ha hf
    have ec : (f2_goDays (f2_setPot (f2_takeRoom S 2 0) 2 y) 2 a).2 2 8 = (f7_goesOn (tt_up (tt_up (f7_begins M) 1 2 y) 1 3 y) a).2 1 8 := g4.2.2.1 8 (by omega)
    have ed : (f2_goDays (f2_setPot (f2_takeRoom S 2 0) 2 y) 2 a).2 0 8 = (f7_goesOn (tt_up (tt_up (f7_begins M) 1 2 y) 1 3 y) a).2 2 8 := by
      rw [g4.1 0 (by decide) (by decide) (by decide), g4.2.1.1 8 (by omega)]
      exact h.1.1 8 (by omega)
    rw [ec, ed]
    by_cases d : (f7_goesOn (tt_up (tt_up (f7_begins M) 1 2 y) 1 3 y) a).2 1 8 = (f7_goesOn (tt_up (tt_up (f7_begins M) 1 2 y) 1 3 y) a).2 2 8
    · rw [if_pos d, if_pos d]; exact PS_mk rfl g2
    · rw [if_neg d, if_neg d]
      exact ih m' _ _ _ g2 (by rw [g3.1 7 (by omega)]; exact hf) (by omega) (lp_ndec (by decide) c hm) (lp_dec' c2 hm')
theorem p_potFor {S M : tt_St} (a : Int32) (h : RR S M) : PS (f6_potFor S a) (f7_potFor M a) := by
  have v := @wi_in7 a (1 : Int32) (20 : Int32) (1 : Int64) (20 : Int64) rfl rfl
  unfold f6_potFor f7_potFor
  dsimp only
  by_cases c : f6_within a (1 : Int32) (20 : Int32) = 0
  · rw [if_pos c, v.mp c, why_z, if_neg (show ¬ (0 : Int32) < 0 from by decide)]; exact tell_sim h (by unfold vp_in; decide)
  rw [if_neg c, far7 h, why_1 (fun z => c (v.mpr z))]
  by_cases c3 : f7_isFar M a = 0
  · have ha := wi_iff.mp c
    rw [lp_1, show (20 : Int32).toInt = 20 from rfl] at ha
    rw [if_pos c3, if_pos c3, if_pos (show (-1 : Int32) < 0 from by decide)]
    exact potL (by omega) _ _ _ _ _ h (far_le (day_b h) (by omega) c3) (by decide) (Nat.lt_succ_self _) (Nat.lt_succ_self _)
  · rw [if_neg c3, if_neg c3, if_neg (show ¬ (4 : Int32) < 0 from by decide)]; exact tell_sim h (by unfold vp_in; decide)
