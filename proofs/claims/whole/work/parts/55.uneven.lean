/-! how uneven -/
theorem drkL {S M : tt_St} (h : rel 0 S 1 M) (hs : (M 1 0).toInt ≤ 10) : ∀ (m : Nat) (acc y : Int32), ¬ y < 0 → lp_mu (M 1 0) y < m → f2_drinkersWhoDrank_L4 S 0 m acc y = f7_drinking_L4 M m acc y := by
  have e0 := h 0 (by omega)
  intro m
  induction m with
  | zero => intro acc y _ hm; exact absurd hm (Nat.not_lt_zero _)
  | succ m ih =>
    intro acc y hy hm
    rw [f2_drinkersWhoDrank_L4, f7_drinking_L4]
    dsimp only
    rw [e0]
    by_cases c : M 1 0 ≤ y
    · rw [if_pos c, if_pos c]
    rw [if_neg c, if_neg c]
    have hk := lp_in (n := 10) hy c (by omega)
    have hc := lp_cl1 hy c
    rw [its_5 hk, h (17 + 7 * y.toNatClampNeg) (by omega), Int32.add_zero]
    by_cases d : M 1 (17 + 7 * y.toNatClampNeg) ≤ 0
    · rw [if_pos d, if_pos d]; exact ih _ _ (lp_nn hy c) (lp_dec' c hm)
    · rw [if_neg d, if_neg d]; exact ih _ _ (lp_nn hy c) (lp_dec' c hm)
theorem u_max (y x : Int32) : (if y < x then x else y) = (if x ≤ y then y else x) := by
  by_cases c : y < x
  · rw [if_pos c, if_neg (fun z => by rw [lp_le] at z; rw [lp_lt] at c; omega)]
  · rw [if_neg c, if_pos (by rw [lp_le]; rw [lp_lt] at c; omega)]
theorem u_min (y x : Int32) : (if x < y then x else y) = (if y ≤ x then y else x) := by
  by_cases c : x < y
  · rw [if_pos c, if_neg (fun z => by rw [lp_le] at z; rw [lp_lt] at c; omega)]
  · rw [if_neg c, if_pos (by rw [lp_le]; rw [lp_lt] at c; omega)]
theorem unL {S M : tt_St} {a s : Int32} (h : rel 0 S 1 M) (hs : (M 1 0).toInt ≤ 10) : ∀ (m : Nat) (y4 y5 y : Int32), ¬ y < 0 → lp_mu (M 1 0) y < m → (f6_uneven_L52 a m S s y4 y5 y).1 = (f7_uneven_L57 a m M s y4 y5 y).1 ∧ (f6_uneven_L52 a m S s y4 y5 y).2 = S ∧ (f7_uneven_L57 a m M s y4 y5 y).2 = M := by
  have e0 := h 0 (by omega)
  have e1 := h 1 (by omega)
  intro m
  induction m with
  | zero => intro y4 y5 y _ hm; exact absurd hm (Nat.not_lt_zero _)
  | succ m ih =>
    intro y4 y5 y hy hm
    rw [f6_uneven_L52, f7_uneven_L57]
    dsimp only
    rw [e0]
    by_cases c : M 1 0 ≤ y
    · rw [if_pos c, if_pos c]
      exact ⟨rfl, rfl, rfl⟩
    rw [if_neg c, if_neg c]
    have hk := lp_in (n := 10) hy c (by omega)
    have hc := lp_cl1 hy c
    rw [its_5 hk, h (17 + 7 * y.toNatClampNeg) (by omega)]
    by_cases d : M 1 (17 + 7 * y.toNatClampNeg) ≤ 0
    · rw [if_pos d, if_pos d]
      exact ih _ _ _ (lp_nn hy c) (lp_dec' c hm)
    rw [if_neg d, if_neg d]
    have fin : ∀ q : Int32, (if 0 ≤ y5 then f6_uneven_L52 a m S s (if y4 < q then q else y4) (if q < y5 then q else y5) (y + (1 : Int32)) else f6_uneven_L52 a m S s (if y4 < q then q else y4) q (y + (1 : Int32))) = f6_uneven_L52 a m S s (if q ≤ y4 then y4 else q) (if y5 < 0 then q else if y5 ≤ q then y5 else q) (y + (1 : Int32)) := by
      intro q
      rw [u_max, u_min]
      by_cases c1 : 0 ≤ y5
      · rw [if_pos c1, if_neg (show ¬ y5 < 0 from fun z => by rw [lp_le] at c1; rw [lp_lt] at z; omega)]
      · rw [if_neg c1, if_pos (show y5 < 0 by rw [lp_lt]; rw [lp_le] at c1; omega)]
    have spl : ∀ x : Int32, (if x ≤ y4 then (if y5 < 0 then f7_uneven_L57 a m M s y4 x (y + (1 : Int32)) else if y5 ≤ x then f7_uneven_L57 a m M s y4 y5 (y + (1 : Int32)) else f7_uneven_L57 a m M s y4 x (y + (1 : Int32))) else (if y5 < 0 then f7_uneven_L57 a m M s x x (y + (1 : Int32)) else if y5 ≤ x then f7_uneven_L57 a m M s x y5 (y + (1 : Int32)) else f7_uneven_L57 a m M s x x (y + (1 : Int32)))) = f7_uneven_L57 a m M s (if x ≤ y4 then y4 else x) (if y5 < 0 then x else if y5 ≤ x then y5 else x) (y + (1 : Int32)) := by
      intro x
      by_cases c1 : x ≤ y4
      · simp only [if_pos c1]
        by_cases c2 : y5 < 0
        · simp only [if_pos c2]
        · simp only [if_neg c2]
          by_cases c3 : y5 ≤ x
          · simp only [if_pos c3]
          · simp only [if_neg c3]
      · simp only [if_neg c1]
        by_cases c2 : y5 < 0
        · simp only [if_pos c2]
        · simp only [if_neg c2]
          by_cases c3 : y5 ≤ x
          · simp only [if_pos c3]
          · simp only [if_neg c3]
    simp only [spl, fin]
    unfold f6_coinsByWay
    by_cases a0 : a = 0
    · simp only [if_pos a0]
      rw [its_6 hk, h (18 + 7 * y.toNatClampNeg) (by omega)]
      exact ih _ _ _ (lp_nn hy c) (lp_dec' c hm)
    simp only [if_neg a0]
    by_cases a1 : a = (1 : Int32)
    · simp only [if_pos a1]
      rw [e1, h (17 + 7 * y.toNatClampNeg) (by omega)]
      exact ih _ _ _ (lp_nn hy c) (lp_dec' c hm)
    simp only [if_neg a1]
    exact ih _ _ _ (lp_nn hy c) (lp_dec' c hm)
theorem p_uneven {S M : tt_St} (a : Int32) (h : RR S M) : PS (f6_uneven S a) (f7_uneven M a) := by
  have hR := h.1
  have hn := okR_n hR.2.2.2
  have v := @wi_in7 a (0 : Int32) (2 : Int32) (0 : Int64) (2 : Int64) rfl rfl
  have e0 := hR.1 0 (by omega)
  have e1 := hR.1 1 (by omega)
  have ed : f2_drinkersWhoDrank S 0 = f7_drinking M := by
    unfold f2_drinkersWhoDrank f7_drinking
    rw [e0]
    exact drkL hR.1 hn.2.2.2 _ _ _ (by decide) (Nat.lt_succ_self _)
  have es : f2_sumOf S 0 (5 : Int32) = f7_sumOf M (5 : Int32) := sr_sum hR.1 hn.2.2.2 hn.2.1 (by unfold vp_in; decide)
  unfold f6_uneven f7_uneven
  dsimp only
  by_cases c : f6_within a (0 : Int32) (2 : Int32) = 0
  · rw [if_pos c, if_pos (v.mp c)]; exact tell_sim h (by unfold vp_in; decide)
  rw [if_neg c, if_neg (fun z => c (v.mpr z)), ed]
  by_cases c2 : f7_drinking M = 0
  · rw [if_pos c2, if_pos c2]; exact tell_sim h (by unfold vp_in; decide)
  rw [if_neg c2, if_neg c2, e0]
  unfold f2_due
  dsimp only
  rw [e1, es]
  obtain ⟨g1, g2, g3⟩ := unL (a := a) (s := ((M 1 1) * f7_sumOf M (5 : Int32)) / f7_drinking M) hR.1 hn.2.2.2 (lp_mu (M 1 0) 0 + 1) (-1 : Int32) (-1 : Int32) (0 : Int32) (by decide) (Nat.lt_succ_self _)
  exact ⟨g1, by rw [g2, g3]; exact h⟩
