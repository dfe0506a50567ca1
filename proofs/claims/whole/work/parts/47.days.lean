/-! days: both sides -/
def dM (n : Nat) (B : Int) (M : tt_St) : Prop := bM n (fun _ => B) (fun _ => 9 * ((M 1 7).toInt % 5)) (fun _ => 1782 * ((M 1 7).toInt % 5)) M ∧ 0 ≤ (M 1 7).toInt ∧ bkb M
def stf (a c : Int) (y : Nat) : Nat → Int := fun i => if i < y then a + c else a
theorem stf_lt {a c : Int} {y i : Nat} (h : i < y) : stf a c y i = a + c := if_pos h
theorem stf_ge {a c : Int} {y i : Nat} (h : ¬ i < y) : stf a c y i = a := if_neg h
theorem stf_up {a c x : Int} {y : Nat} (hx : x = a + c) (hc : 0 ≤ c) (i : Nat) : updI (stf a c y) y x i ≤ stf a c (y + 1) i := by
  by_cases e : i = y
  · subst e
    rw [updI_eq, stf_lt (by omega)]
    omega
  · rw [updI_ne e]
    by_cases l : i < y
    · rw [stf_lt l, stf_lt (by omega)]
      exact Int.le_refl _
    · rw [stf_ge l, stf_ge (by omega)]
      exact Int.le_refl _
theorem stf_0 (a c : Int) (i : Nat) : stf a c 0 i = a := stf_ge (by omega)
theorem day_L {r n : Nat} {b : Prop} {u v d0 : Int32} {B : Int} (hr : r < 3) (hB : B ≤ 800000000) (hd0 : 0 ≤ d0.toInt ∧ d0.toInt ≤ 20000) : ∀ (m : Nat) (S M : tt_St) (y : Int32), ¬ y < 0 → lp_mu (M 1 0) y < m → SR r b u v S M → bM n (stf B 891 y.toNatClampNeg) (stf (9 * (d0.toInt % 5)) 9 y.toNatClampNeg) (stf (1782 * (d0.toInt % 5)) 1782 y.toNatClampNeg) M → M 1 7 = d0 → bkb M →
    SR r b u v (f2_goDay_L2 r m S y) (f7_goesBy_L2 m M y) ∧ dM n (B + 891) (f7_goesBy_L2 m M y) ∧ (f7_goesBy_L2 m M y 1 7).toInt = d0.toInt + 1 := by
  intro m
  induction m with
  | zero => intro S M y _ hm; exact absurd hm (Nat.not_lt_zero _)
  | succ m ih =>
    intro S M y h0 hm hS h h7 hb
    have hn := bM_n h
    have h10 := h.1.2
    have hsz := h.1.1
    have e0 := hS.1 0 (by omega)
    rw [f2_goDay_L2, f7_goesBy_L2]
    dsimp only
    rw [e0]
    by_cases c : M 1 0 ≤ y
    · rw [if_pos c, if_pos c]
      have hc := lp_cl2 c
      have e2 := hS.1 2 (by omega)
      have hS4 : SR r b u v (tt_up S r 3 (S r 2)) (tt_up M 1 3 (M 1 2)) := by
        rw [e2]
        exact sr_up hS (by omega) (by omega) (by omega)
      have hpot := h.2.2.1
      have h4 := bM_left (v := M 1 2) h (by omega)
      have h4c : bM n (fun _ => B + 891) (fun _ => 9 * (d0.toInt % 5) + 9) (fun _ => 1782 * (d0.toInt % 5) + 1782) (tt_up M 1 3 (M 1 2)) := bM_le h4 (fun d hd => by
        rw [stf_lt (by omega), stf_lt (by omega), stf_lt (by omega)]
        exact ⟨Int.le_refl _, Int.le_refl _, Int.le_refl _⟩)
      have hb4 : bkb (tt_up M 1 3 (M 1 2)) := bkb_df hb (df_up (by omega))
      have m7 : tt_up M 1 3 (M 1 2) 1 7 = d0 := by rw [tt_up_ne (by omega)]; exact h7
      have s7 : tt_up S r 3 (S r 2) r 7 = d0 := by rw [hS4.1 7 (by omega)]; exact m7
      have hm0 : tt_up M 1 3 (M 1 2) 1 0 = M 1 0 := tt_up_ne (by omega)
      generalize tt_up S r 3 (S r 2) = S4 at *
      generalize tt_up M 1 3 (M 1 2) = M4 at *
      have r5 := rem5_int (x := d0) hd0.1
      have i1 : (d0 + (1 : Int32)).toInt = d0.toInt + 1 := by rw [lp_add (by rw [lp_1]; omega) (by rw [lp_1]; omega), lp_1]
      rw [s7, m7]
      by_cases c4 : d0 - d0 / (5 : Int32) * (5 : Int32) = (4 : Int32)
      · rw [if_pos c4, if_pos c4]
        rw [c4, show (4 : Int32).toInt = 4 from rfl] at r5
        have q1 := wk_pay (r := r) (n := n) (b := b) (u := u) (v := v) (E := fun _ => B + 891) (D := fun _ => 9 * (d0.toInt % 5) + 9) (q := 1782 * (d0.toInt % 5) + 1782) (by omega) (fun _ _ => by omega) (lp_mu (M4 1 0) 0 + 1) S4 M4 (0 : Int32) hS4 (bM_le h4c (fun d hd => ⟨Int.le_refl _, Int.le_refl _, by
          try dsimp only
          rw [show (0 : Int32).toNatClampNeg = 0 from by decide, if_neg (by omega)]
          exact Int.le_refl _⟩)) (by decide) (Nat.lt_succ_self _)
        obtain ⟨S', M', a1, a2, a3, a4, a5⟩ := q1
        have hb' : bkb M' := ⟨by rw [a3 11 (by omega)]; exact hb4.1, fun k hk => by rw [a3 (82 + k) (by omega)]; exact hb4.2 k hk⟩
        obtain ⟨w1, w2, w3, w4⟩ := wk_end hr a1 a2 (by omega) (by omega) hb'
        have eS : f2_endWeek S4 r = ENDC r S' := by
          unfold f2_endWeek
          rw [hS4.1 0 (by omega)]
          exact a4
        have eM : f7_settles M4 = f7_settles_L84 (lp_k 20) M' (f7_sumOf M' (5 : Int32)) (19 : Int32) := a5
        rw [eS, eM]
        have m7' : f7_settles_L84 (lp_k 20) M' (f7_sumOf M' (5 : Int32)) (19 : Int32) 1 7 = d0 := by rw [w3, a3 7 (by omega)]; exact m7
        have s7' : ENDC r S' r 7 = d0 := by rw [w1.1 7 (by omega)]; exact m7'
        rw [s7', m7']
        refine ⟨sr_up w1 (by omega) (by omega) (by omega), ⟨?_, ?_, ?_⟩, ?_⟩
        · rw [tt_up_self, i1]
          refine bM_le (bM_up w2 (by omega)) (fun d hd => ⟨Int.le_refl _, ?_, ?_⟩)
          · show (0 : Int) ≤ 9 * ((d0.toInt + 1) % 5)
            omega
          · show (0 : Int) ≤ 1782 * ((d0.toInt + 1) % 5)
            omega
        · rw [tt_up_self, i1]; omega
        · exact ⟨by rw [tt_up_ne (by omega)]; exact w4.1, fun k hk => by rw [tt_up_ne (by omega)]; exact w4.2 k hk⟩
        · rw [tt_up_self, i1]
      · rw [if_neg c4, if_neg c4]
        have c5 : ¬ d0.toInt % 5 = 4 := fun z => c4 (Int32.toInt_inj.mp (by rw [r5, z]; rfl))
        refine ⟨sr_up hS4 (by omega) (by omega) (by omega), ⟨?_, ?_, ?_⟩, ?_⟩
        · rw [tt_up_self, i1]
          refine bM_le (bM_up h4c (by omega)) (fun d hd => ⟨Int.le_refl _, ?_, ?_⟩)
          · show 9 * (d0.toInt % 5) + 9 ≤ 9 * ((d0.toInt + 1) % 5)
            omega
          · show 1782 * (d0.toInt % 5) + 1782 ≤ 1782 * ((d0.toInt + 1) % 5)
            omega
        · rw [tt_up_self, i1]; omega
        · exact ⟨by rw [tt_up_ne (by omega)]; exact hb4.1, fun k hk => by rw [tt_up_ne (by omega)]; exact hb4.2 k hk⟩
        · rw [tt_up_self, i1]
    · rw [if_neg c, if_neg c]
      obtain ⟨ey, hlt⟩ := lp_cl1 h0 c
      have hk := lp_in (n := 10) h0 c (by omega)
      have hd : y.toNatClampNeg < n := by omega
      have eE : stf B 891 y.toNatClampNeg y.toNatClampNeg = B := stf_ge (by omega)
      have eD : stf (9 * (d0.toInt % 5)) 9 y.toNatClampNeg y.toNatClampNeg = 9 * (d0.toInt % 5) := stf_ge (by omega)
      have eQ : stf (1782 * (d0.toInt % 5)) 1782 y.toNatClampNeg y.toNatClampNeg = 1782 * (d0.toInt % 5) := stf_ge (by omega)
      have hQ : qk n (stf (1782 * (d0.toInt % 5)) 1782 y.toNatClampNeg) := fun i _ => by
        by_cases l : i < y.toNatClampNeg
        · rw [stf_lt l]; omega
        · rw [stf_ge l]; omega
      have g := sr_serve hr hS h hk hd (by rw [eE]; omega) (by rw [eD]; omega) (by rw [eQ]; omega) hQ
      have gb := b_drinks h hk hd (by rw [eE]; omega) (by rw [eD]; omega) (by rw [eQ]; omega) hQ
      rw [eE, eD, eQ] at gb
      have gb2 : bM n (stf B 891 (y + (1 : Int32)).toNatClampNeg) (stf (9 * (d0.toInt % 5)) 9 (y + (1 : Int32)).toNatClampNeg) (stf (1782 * (d0.toInt % 5)) 1782 (y + (1 : Int32)).toNatClampNeg) (f7_drinks M y) := bM_le gb (fun d _ => by
        rw [ey]
        exact ⟨stf_up rfl (by omega) d, stf_up rfl (by omega) d, stf_up rfl (by omega) d⟩)
      have dfd := df_drinks (M := M) hk
      have e00 : f7_drinks M y 1 0 = M 1 0 := dfd 0 (by omega)
      have fin := fun (S2 : tt_St) (g2 : SR r b u v S2 (f7_drinks M y)) => ih S2 (f7_drinks M y) (y + (1 : Int32)) (lp_nn h0 c) (by rw [e00]; exact lp_dec' c hm) g2 gb2 (by rw [dfd 7 (by omega)]; exact h7) (bkb_df hb dfd)
      by_cases cl : S r (15 + 7 * y.toNatClampNeg) < S r 1
      · rw [if_pos cl] at g ⊢
        exact fin S g
      · rw [if_neg cl] at g ⊢
        exact fin _ g
theorem day_step {r n : Nat} {b : Prop} {u v : Int32} {S M : tt_St} {B : Int} (hr : r < 3) (hS : SR r b u v S M) (h : dM n B M) (hB : B ≤ 800000000) (hd : (M 1 7).toInt ≤ 20000) : SR r b u v (f2_goDay S r) (f7_goesBy M) ∧ dM n (B + 891) (f7_goesBy M) ∧ (f7_goesBy M 1 7).toInt = (M 1 7).toInt + 1 := by
  obtain ⟨h1, h2, h3⟩ := h
  unfold f2_goDay f7_goesBy
  rw [hS.1 0 (by omega)]
  refine day_L hr hB ⟨h2, hd⟩ _ S M (0 : Int32) (by decide) (Nat.lt_succ_self _) hS (bM_le h1 (fun d _ => ?_)) rfl h3
  rw [show (0 : Int32).toNatClampNeg = 0 from by decide, stf_0, stf_0, stf_0]
  exact ⟨Int.le_refl _, Int.le_refl _, Int.le_refl _⟩
theorem days_L {r n : Nat} {b : Prop} {u v a : Int32} (hr : r < 3) : ∀ (m : Nat) (S M : tt_St) (B : Int) (y : Int32), SR r b u v S M → dM n B M → y.toInt ≤ a.toInt → lp_mu a y < m → (M 1 7).toInt + (a.toInt - y.toInt) ≤ 20000 → B + 891 * (a.toInt - y.toInt) ≤ 800000000 →
    SR r b u v (f2_goDays_L7 r a m S u y).2 (f7_goesOn_L12 a m M y).2 ∧ dM n (B + 891 * (a.toInt - y.toInt)) (f7_goesOn_L12 a m M y).2 ∧ ((f7_goesOn_L12 a m M y).2 1 7).toInt = (M 1 7).toInt + (a.toInt - y.toInt) ∧ (f2_goDays_L7 r a m S u y).1 = (f7_goesOn_L12 a m M y).1 ∧ (f7_goesOn_L12 a m M y).1 = (f7_goesOn_L12 a m M y).2 0 7 := by
  intro m
  induction m with
  | zero => intro S M B y _ _ _ hm; exact absurd hm (Nat.not_lt_zero _)
  | succ m ih =>
    intro S M B y hS h hy hm hd hB
    rw [f2_goDays_L7, f7_goesOn_L12]
    dsimp only
    by_cases c : a ≤ y
    · rw [if_pos c, if_pos c]
      rw [lp_le] at c
      have e : a.toInt - y.toInt = 0 := by omega
      rw [e]
      refine ⟨hS, ?_, ?_, ?_, rfl⟩
      · rw [show B + 891 * 0 = B by omega]; exact h
      · dsimp only; omega
      · show S r 4 - u = M 0 7
        rw [hS.2.1, Int32.add_sub_cancel]
    · rw [if_neg c, if_neg c]
      have ey := lp_inc c
      have c2 := c
      rw [lp_le] at c2
      obtain ⟨g1, g2, g3⟩ := day_step hr hS h (by omega) (by omega)
      have q := ih _ _ (B + 891) (y + 1) g1 g2 (by omega) (lp_dec' c hm) (by omega) (by omega)
      rw [show B + 891 + 891 * (a.toInt - (y + 1).toInt) = B + 891 * (a.toInt - y.toInt) by omega, show (f7_goesBy M 1 7).toInt + (a.toInt - (y + 1).toInt) = (M 1 7).toInt + (a.toInt - y.toInt) by omega] at q
      exact q
/-- as dM, but for coins, which a run of days begins anew -/
def dN (n : Nat) (B : Int) (M : tt_St) : Prop := dM n B (tt_up (tt_up M 0 7 (0 : Int32)) 0 8 (0 : Int32))
theorem dN_of {n : Nat} {B : Int} {M : tt_St} (h : dM n B M) : dN n B M := by
  obtain ⟨⟨h0, h1, h2, h3, h4, h5, h6, h7⟩, h8, h9⟩ := h
  have e : tt_up (tt_up M 0 7 (0 : Int32)) 0 8 (0 : Int32) 1 = M 1 := by rw [tt_up_row (by decide), tt_up_row (by decide)]
  have ep := gs_bd (f := M 1) (b := 14) (lo := 0) (hi := 9999) (n := n) (fun i hi => by have := h5 i hi; unfold dk at *; omega)
  unfold dN dM bM bkb dk at *
  rw [e, tt_up_ne (by omega), tt_up_self, lp_0]
  exact ⟨⟨h0, h1, h2, h3, h4, h5, h6, by omega⟩, h8, h9⟩
theorem days_sim {r n : Nat} {b : Prop} {S M : tt_St} {a : Int32} {B : Int} (hr : r < 3) (hS : rel r S 1 M) (hbk : b → bks r S 1 M) (h : dN n B M) (ha : 0 ≤ a.toInt) (hd : (M 1 7).toInt + a.toInt ≤ 20000) (hB : B + 891 * a.toInt ≤ 800000000) :
    (f2_goDays S r a).1 = (f7_goesOn M a).1 ∧ rel r (f2_goDays S r a).2 1 (f7_goesOn M a).2 ∧ (b → bks r (f2_goDays S r a).2 1 (f7_goesOn M a).2) ∧ (f2_goDays S r a).2 r 9 = (f7_goesOn M a).2 0 8 + S r 9 ∧ dN n (B + 891 * a.toInt) (f7_goesOn M a).2 ∧ ((f7_goesOn M a).2 1 7).toInt = (M 1 7).toInt + a.toInt ∧ (0 ≤ (f7_goesOn M a).1.toInt ∧ (f7_goesOn M a).1.toInt ≤ 99990) := by
  have e : tt_up (tt_up M 0 7 (0 : Int32)) 0 8 (0 : Int32) 1 = M 1 := by rw [tt_up_row (by decide), tt_up_row (by decide)]
  have e7 : tt_up (tt_up M 0 7 (0 : Int32)) 0 8 (0 : Int32) 0 7 = 0 := by rw [tt_up_ne (by omega), tt_up_self]
  have e8 : tt_up (tt_up M 0 7 (0 : Int32)) 0 8 (0 : Int32) 0 8 = 0 := by rw [tt_up_self]
  have hR : SR r b (S r 4) (S r 9) S (tt_up (tt_up M 0 7 (0 : Int32)) 0 8 (0 : Int32)) := by
    refine ⟨fun k hk => ?_, by rw [e7, Int32.zero_add], by rw [e8, Int32.zero_add], fun bb => ?_⟩
    · rw [e] at hk ⊢; exact hS k hk
    · unfold bks; rw [e]; exact hbk bb
  have q := days_L (a := a) hr (lp_mu a 0 + 1) S _ B (0 : Int32) hR h (by rw [lp_0]; exact ha) (Nat.lt_succ_self _) (by rw [e, lp_0]; omega) (by rw [lp_0]; omega)
  rw [lp_0, e, show a.toInt - 0 = a.toInt by omega] at q
  obtain ⟨q1, q2, q3, q4, q5⟩ := q
  have q6 := q2.1.2.2.2.2.2.2.2
  have q7 := gs_bd (f := (f7_goesOn M a).2 1) (b := 14) (lo := 0) (hi := 9999) (n := n) (fun i hi => by have := q2.1.2.2.2.2.2.1 i hi; unfold dk at this; exact this.2.2.1)
  refine ⟨q4, q1.1, q1.2.2.2, q1.2.2.1, dN_of q2, q3, ?_⟩
  rw [show (f7_goesOn M a).1 = (f7_goesOn M a).2 0 7 from q5]
  have q8 : 0 ≤ ((f7_goesOn M a).2 0 7).toInt ∧ ((f7_goesOn M a).2 0 7).toInt + gs ((f7_goesOn M a).2 1) 14 n ≤ 99990 := q6
  omega
