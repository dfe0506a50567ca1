/-! how uneven -/
theorem drkL {S M : tt_St} (h : rel 0 S 1 M) (hs : (M 1 0).toInt ≤ 10) : ∀ (m : Nat) (acc y : Int32), ¬ y < 0 → lp_mu (M 1 0) y < m → f2_drinkersWhoDrank_L4 S 0 m acc y = f7_drinking_L4 M m acc y := by
  have e0 := h 0 (by omega)
  intro m
  induction m with
  | zero => intro acc y _ hm; exact absurd hm (Nat.not_lt_zero _)
  | succ m ih =>
    intro acc y hy hm
    rw [f2_drinkersWhoDrank_L4, f7_drinking_L4]
    dsimp only
    rw [e0]
    by_cases c : M 1 0 ≤ y
    · rw [if_pos c, if_pos c]
    rw [if_neg c, if_neg c]
    have hk := lp_in (n := 10) hy c (by omega)
    have hc := lp_cl1 hy c
    rw [its_5 hk, h (17 + 7 * y.toNatClampNeg) (by omega), Int32.add_zero]
    by_cases d : M 1 (17 + 7 * y.toNatClampNeg) ≤ 0
    · rw [if_pos d, if_pos d]; exact ih _ _ (lp_nn hy c) (lp_dec' c hm)
    · rw [if_neg d, if_neg d]; exact ih _ _ (lp_nn hy c) (lp_dec' c hm)
/-- largest and least so far, on both sides -/
def ua (y4 y5 z4 z5 : Int32) : Prop := y4 = (-2147483648 : Int32) ∧ y5 = (2147483647 : Int32) ∧ z4 = (-1 : Int32) ∧ z5 = (-1 : Int32)
def ub (y4 y5 z4 z5 : Int32) : Prop := y4 = z4 ∧ y5 = z5 ∧ 0 ≤ y4.toInt ∧ 0 ≤ y5.toInt
theorem u_step {y4 y5 z4 z5 x : Int32} (h : ua y4 y5 z4 z5 ∨ ub y4 y5 z4 z5) (hx : 0 ≤ x.toInt) : ub (if y4 < x then x else y4) (if x < y5 then x else y5) (if x ≤ z4 then z4 else x) (if z5 < 0 then x else if z5 ≤ x then z5 else x) := by
  have hb := x.toInt_lt
  rcases h with ⟨rfl, rfl, rfl, rfl⟩ | ⟨rfl, rfl, h4, h5⟩
  · rw [if_pos (show (-2147483648 : Int32) < x by rw [lp_lt, show (-2147483648 : Int32).toInt = -2147483648 from rfl]; omega), if_neg (show ¬ x ≤ (-1 : Int32) by rw [lp_le, show (-1 : Int32).toInt = -1 from rfl]; omega), if_pos (show (-1 : Int32) < 0 from by decide)]
    have e : (if x < (2147483647 : Int32) then x else (2147483647 : Int32)) = x := by
      by_cases c : x < (2147483647 : Int32)
      · rw [if_pos c]
      · rw [if_neg c]
        rw [lp_lt, show (2147483647 : Int32).toInt = 2147483647 from rfl] at c
        exact Int32.toInt_inj.mp (by rw [show (2147483647 : Int32).toInt = 2147483647 from rfl]; omega)
    rw [e]
    exact ⟨rfl, rfl, hx, hx⟩
  · rw [if_neg (nn_int h5)]
    have e4 : (if y4 < x then x else y4) = (if x ≤ y4 then y4 else x) := by
      by_cases c : y4 < x
      · rw [if_pos c, if_neg (fun z => by rw [lp_le] at z; rw [lp_lt] at c; omega)]
      · rw [if_neg c, if_pos (by rw [lp_le]; rw [lp_lt] at c; omega)]
    have e5 : (if x < y5 then x else y5) = (if y5 ≤ x then y5 else x) := by
      by_cases c : x < y5
      · rw [if_pos c, if_neg (fun z => by rw [lp_le] at z; rw [lp_lt] at c; omega)]
      · rw [if_neg c, if_pos (by rw [lp_le]; rw [lp_lt] at c; omega)]
    rw [e4, e5]
    refine ⟨rfl, rfl, ?_, ?_⟩
    · by_cases c : x ≤ y4
      · rw [if_pos c]; exact h4
      · rw [if_neg c]; exact hx
    · by_cases c : y5 ≤ x
      · rw [if_pos c]; exact h5
      · rw [if_neg c]; exact hx
theorem quo_nn {c z : Int32} (hc : 0 ≤ c.toInt ∧ c.toInt ≤ 10000000) (hz : 0 < z.toInt) : 0 ≤ ((c * (100 : Int32)) / z).toInt := by
  obtain ⟨a, ha, rfl⟩ := nI_of (x := c) (nn_int hc.1)
  obtain ⟨d, hd, rfl⟩ := nI_of (x := z) (nn_int (by omega))
  rw [nI_toInt ha] at hc
  rw [nI_toInt hd] at hz
  rw [show (100 : Int32) = nI 100 from rfl, pk_mul, pk_div (by omega) (by omega) hd]
  rw [nI_toInt (Nat.lt_of_le_of_lt (Nat.div_le_self _ _) (by omega))]
  exact Int.natCast_nonneg _
theorem quo_bd {c z : Int32} (hc : 0 ≤ c.toInt ∧ c.toInt ≤ 10000000) (hz : 0 < z.toInt) : 0 ≤ (c / z).toInt ∧ (c / z).toInt ≤ 10000000 := by
  obtain ⟨a, ha, rfl⟩ := nI_of (x := c) (nn_int hc.1)
  obtain ⟨d, hd, rfl⟩ := nI_of (x := z) (nn_int (by omega))
  rw [nI_toInt ha] at hc
  rw [nI_toInt hd] at hz
  have q : a / d ≤ a := Nat.div_le_self _ _
  rw [pk_div (by omega) (by omega) hd, nI_toInt (by omega)]
  exact ⟨Int.natCast_nonneg _, by have : ((a / d : Nat) : Int) ≤ ((a : Nat) : Int) := Int.ofNat_le.mpr q; omega⟩
theorem drkB {M : tt_St} (hs : (M 1 0).toInt ≤ 10) : ∀ (m : Nat) (acc y : Int32), ¬ y < 0 → 0 ≤ acc.toInt ∧ acc.toInt ≤ y.toInt → 0 ≤ (f7_drinking_L4 M m acc y).toInt := by
  intro m
  induction m with
  | zero => intro acc y _ _; exact Int.le_refl _
  | succ m ih =>
    intro acc y hy ha
    rw [f7_drinking_L4]
    dsimp only
    by_cases c : M 1 0 ≤ y
    · rw [if_pos c]; exact ha.1
    rw [if_neg c, Int32.add_zero]
    have c2 := c
    rw [lp_le] at c2
    have e1 : (y + (1 : Int32)).toInt = y.toInt + 1 := by rw [lp_add (by rw [lp_1]; omega) (by rw [lp_1]; omega), lp_1]
    have e2 : (acc + (1 : Int32)).toInt = acc.toInt + 1 := by rw [lp_add (by rw [lp_1]; omega) (by rw [lp_1]; omega), lp_1]
    by_cases d : f7_its M y (5 : Int32) ≤ 0
    · rw [if_pos d]; exact ih _ _ (lp_nn hy c) (by omega)
    · rw [if_neg d]; exact ih _ _ (lp_nn hy c) (by omega)
theorem unL {S M : tt_St} {a s : Int32} (h : rel 0 S 1 M) (hs : (M 1 0).toInt ≤ 10) (h1 : 0 ≤ (M 1 1).toInt ∧ (M 1 1).toInt ≤ 99) (hs2 : 0 ≤ s.toInt ∧ s.toInt ≤ 10000000) (hd : ∀ d : Nat, d < (M 1 0).toNatClampNeg → (0 ≤ (M 1 (17 + 7 * d)).toInt ∧ (M 1 (17 + 7 * d)).toInt ≤ 1000) ∧ (0 ≤ (M 1 (18 + 7 * d)).toInt ∧ (M 1 (18 + 7 * d)).toInt ≤ 10000)) : ∀ (m : Nat) (y4 y5 z4 z5 y : Int32), ¬ y < 0 → lp_mu (M 1 0) y < m → (ua y4 y5 z4 z5 ∧ ¬ f7_drinking_L4 M m 0 y = 0) ∨ ub y4 y5 z4 z5 → (f6_uneven_L54 a m S s y4 y5 y).1 = (f7_uneven_L57 a m M s z4 z5 y).1 ∧ (f6_uneven_L54 a m S s y4 y5 y).2 = S ∧ (f7_uneven_L57 a m M s z4 z5 y).2 = M := by
  have e0 := h 0 (by omega)
  have e1 := h 1 (by omega)
  intro m
  induction m with
  | zero => intro y4 y5 z4 z5 y _ hm; exact absurd hm (Nat.not_lt_zero _)
  | succ m ih =>
    intro y4 y5 z4 z5 y hy hm hu
    rw [f6_uneven_L54, f7_uneven_L57]
    rw [f7_drinking_L4] at hu
    dsimp only at hu ⊢
    rw [e0]
    by_cases c : M 1 0 ≤ y
    · rw [if_pos c] at hu ⊢
      rw [if_pos c]
      rcases hu with ⟨-, z⟩ | ⟨rfl, rfl, -, -⟩
      · exact absurd rfl z
      · exact ⟨rfl, rfl, rfl⟩
    rw [if_neg c] at hu ⊢
    rw [if_neg c]
    have hk := lp_in (n := 10) hy c (by omega)
    have hc := lp_cl1 hy c
    obtain ⟨w1, w2⟩ := hd _ hc.2
    rw [its_5 hk] at hu ⊢
    rw [h (17 + 7 * y.toNatClampNeg) (by omega)]
    by_cases d : M 1 (17 + 7 * y.toNatClampNeg) ≤ 0
    · rw [if_pos d] at hu ⊢
      rw [if_pos d]
      rw [Int32.add_zero] at hu
      exact ih _ _ _ _ _ (lp_nn hy c) (lp_dec' c hm) hu
    rw [if_neg d]
    rw [if_neg d]
    have hu2 : ua y4 y5 z4 z5 ∨ ub y4 y5 z4 z5 := by
      rcases hu with z | z
      · exact Or.inl z.1
      · exact Or.inr z
    have fin : ∀ q : Int32, 0 ≤ q.toInt ∧ q.toInt ≤ 10000000 → (f6_uneven_L54 a m S s (if y4 < (q * (100 : Int32)) / M 1 (17 + 7 * y.toNatClampNeg) then (q * (100 : Int32)) / M 1 (17 + 7 * y.toNatClampNeg) else y4) (if (q * (100 : Int32)) / M 1 (17 + 7 * y.toNatClampNeg) < y5 then (q * (100 : Int32)) / M 1 (17 + 7 * y.toNatClampNeg) else y5) (y + (1 : Int32))).1 = (f7_uneven_L57 a m M s (if (q * (100 : Int32)) / M 1 (17 + 7 * y.toNatClampNeg) ≤ z4 then z4 else (q * (100 : Int32)) / M 1 (17 + 7 * y.toNatClampNeg)) (if z5 < 0 then (q * (100 : Int32)) / M 1 (17 + 7 * y.toNatClampNeg) else if z5 ≤ (q * (100 : Int32)) / M 1 (17 + 7 * y.toNatClampNeg) then z5 else (q * (100 : Int32)) / M 1 (17 + 7 * y.toNatClampNeg)) (y + (1 : Int32))).1 ∧ (f6_uneven_L54 a m S s (if y4 < (q * (100 : Int32)) / M 1 (17 + 7 * y.toNatClampNeg) then (q * (100 : Int32)) / M 1 (17 + 7 * y.toNatClampNeg) else y4) (if (q * (100 : Int32)) / M 1 (17 + 7 * y.toNatClampNeg) < y5 then (q * (100 : Int32)) / M 1 (17 + 7 * y.toNatClampNeg) else y5) (y + (1 : Int32))).2 = S ∧ (f7_uneven_L57 a m M s (if (q * (100 : Int32)) / M 1 (17 + 7 * y.toNatClampNeg) ≤ z4 then z4 else (q * (100 : Int32)) / M 1 (17 + 7 * y.toNatClampNeg)) (if z5 < 0 then (q * (100 : Int32)) / M 1 (17 + 7 * y.toNatClampNeg) else if z5 ≤ (q * (100 : Int32)) / M 1 (17 + 7 * y.toNatClampNeg) then z5 else (q * (100 : Int32)) / M 1 (17 + 7 * y.toNatClampNeg)) (y + (1 : Int32))).2 = M :=
      fun q hq => ih _ _ _ _ _ (lp_nn hy c) (lp_dec' c hm) (Or.inr (u_step hu2 (quo_nn hq (by rw [lp_le, lp_0] at d; omega))))
    have spl : ∀ x : Int32, (if x ≤ z4 then (if z5 < 0 then f7_uneven_L57 a m M s z4 x (y + (1 : Int32)) else if z5 ≤ x then f7_uneven_L57 a m M s z4 z5 (y + (1 : Int32)) else f7_uneven_L57 a m M s z4 x (y + (1 : Int32))) else (if z5 < 0 then f7_uneven_L57 a m M s x x (y + (1 : Int32)) else if z5 ≤ x then f7_uneven_L57 a m M s x z5 (y + (1 : Int32)) else f7_uneven_L57 a m M s x x (y + (1 : Int32)))) = f7_uneven_L57 a m M s (if x ≤ z4 then z4 else x) (if z5 < 0 then x else if z5 ≤ x then z5 else x) (y + (1 : Int32)) := by
      intro x
      by_cases c1 : x ≤ z4
      · simp only [if_pos c1]
        by_cases c2 : z5 < 0
        · simp only [if_pos c2]
        · simp only [if_neg c2]
          by_cases c3 : z5 ≤ x
          · simp only [if_pos c3]
          · simp only [if_neg c3]
      · simp only [if_neg c1]
        by_cases c2 : z5 < 0
        · simp only [if_pos c2]
        · simp only [if_neg c2]
          by_cases c3 : z5 ≤ x
          · simp only [if_pos c3]
          · simp only [if_neg c3]
    simp only [spl]
    unfold f6_coinsByWay
    have ep : ((M 1 1) * M 1 (17 + 7 * y.toNatClampNeg)).toInt = (M 1 1).toInt * (M 1 (17 + 7 * y.toNatClampNeg)).toInt := by
      have := Int.mul_le_mul h1.2 w1.2 w1.1 (show (0 : Int) ≤ 99 by omega)
      have := Int.mul_nonneg h1.1 w1.1
      exact lp_mul (by omega) (by omega)
    by_cases a0 : a = 0
    · simp only [if_pos a0]
      rw [its_6 hk, h (18 + 7 * y.toNatClampNeg) (by omega)]
      exact fin _ (by omega)
    simp only [if_neg a0]
    by_cases a1 : a = (1 : Int32)
    · simp only [if_pos a1]
      rw [e1, h (17 + 7 * y.toNatClampNeg) (by omega)]
      refine fin _ ?_
      rw [ep]
      have := Int.mul_le_mul h1.2 w1.2 w1.1 (show (0 : Int) ≤ 99 by omega)
      have := Int.mul_nonneg h1.1 w1.1
      omega
    simp only [if_neg a1]
    exact fin _ hs2
theorem p_uneven {S M : tt_St} (a : Int32) (h : RR S M) : PS (f6_uneven S a) (f7_uneven M a) := by
  have hR := h.1
  have hn := okR_n hR.2.2.2
  have hD := okR_dN hR.2.2.2
  have hr := dN_room hD
  have v := @wi_in7 a (0 : Int32) (2 : Int32) (0 : Int64) (2 : Int64) rfl rfl
  have e0 := hR.1 0 (by omega)
  have e1 := hR.1 1 (by omega)
  have ed : f2_drinkersWhoDrank S 0 = f7_drinking M := by
    unfold f2_drinkersWhoDrank f7_drinking
    rw [e0]
    exact drkL hR.1 hn.2.2.2 _ _ _ (by decide) (Nat.lt_succ_self _)
  have h5 := Int.emod_lt_of_pos (M 1 7).toInt (show (0 : Int) < 5 by omega)
  have hd : ∀ d : Nat, d < (M 1 0).toNatClampNeg → (0 ≤ (M 1 (17 + 7 * d)).toInt ∧ (M 1 (17 + 7 * d)).toInt ≤ 1000) ∧ (0 ≤ (M 1 (18 + 7 * d)).toInt ∧ (M 1 (18 + 7 * d)).toInt ≤ 10000) := by
    intro d hd
    have q := dN_dk hD hd
    unfold dk at q
    dsimp only at q
    omega
  have es : f2_sumOf S 0 (5 : Int32) = f7_sumOf M (5 : Int32) := sr_sum hR.1 hn.2.2.2 hn.2.1 (by unfold vp_in; decide)
  have eg := sum_gs (j := (5 : Int32)) (b := 17) hr.1.1 hn.2.1 (fun k hk => its_5 hk) (fun d q => by have := hd d q; omega)
  have gb := gs_bd (f := M 1) (b := 17) (lo := 0) (hi := 1000) (n := (M 1 0).toNatClampNeg) (fun d q => (hd d q).1)
  unfold f6_uneven f7_uneven
  dsimp only
  by_cases c : f6_within a (0 : Int32) (2 : Int32) = 0
  · rw [if_pos c, if_pos (v.mp c)]; exact tell_sim h (by unfold vp_in; decide)
  rw [if_neg c, if_neg (fun z => c (v.mpr z)), ed]
  by_cases c2 : f7_drinking M = 0
  · rw [if_pos c2, if_pos c2]; exact tell_sim h (by unfold vp_in; decide)
  rw [if_neg c2, if_neg c2, e0]
  unfold f2_due
  dsimp only
  rw [e1, es]
  have hq : 0 ≤ (((M 1 1) * f7_sumOf M (5 : Int32)) / f7_drinking M).toInt ∧ (((M 1 1) * f7_sumOf M (5 : Int32)) / f7_drinking M).toInt ≤ 10000000 := by
    have g1 : 0 ≤ (f7_sumOf M (5 : Int32)).toInt ∧ (f7_sumOf M (5 : Int32)).toInt ≤ 10000 := by omega
    have m1 := Int.mul_le_mul hr.2.1.2 g1.2 g1.1 (show (0 : Int) ≤ 99 by omega)
    have m2 := Int.mul_nonneg hr.2.1.1 g1.1
    have em : ((M 1 1) * f7_sumOf M (5 : Int32)).toInt = (M 1 1).toInt * (f7_sumOf M (5 : Int32)).toInt := lp_mul (by omega) (by omega)
    have b0 : 0 ≤ (f7_drinking M).toInt := drkB hn.2.2.2 _ _ _ (by decide) (by decide)
    exact quo_bd (by rw [em]; omega) (by
      refine Classical.byContradiction fun z => c2 ?_
      exact Int32.toInt_inj.mp (by rw [lp_0]; omega))
  obtain ⟨g1, g2, g3⟩ := unL (a := a) hR.1 hn.2.2.2 hr.2.1 hq hd (lp_mu (M 1 0) 0 + 1) (-2147483648 : Int32) (2147483647 : Int32) (-1 : Int32) (-1 : Int32) (0 : Int32) (by decide) (Nat.lt_succ_self _) (Or.inl ⟨⟨rfl, rfl, rfl, rfl⟩, c2⟩)
  exact ⟨g1, by rw [g2, g3]; exact h⟩
