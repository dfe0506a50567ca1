/-! sums, and a week's end: both sides -/
theorem j7_of {j : Int32} (h : vp_in j 7) : j = 0 ∨ j = (1 : Int32) ∨ j = (2 : Int32) ∨ j = (3 : Int32) ∨ j = (4 : Int32) ∨ j = (5 : Int32) ∨ j = (6 : Int32) := by
  rw [vp_in_iff] at h
  obtain ⟨i, hi, rfl⟩ := nI_of (x := j) (nn_int h.1)
  rw [nI_toInt hi] at h
  rcases (show i = 0 ∨ i = 1 ∨ i = 2 ∨ i = 3 ∨ i = 4 ∨ i = 5 ∨ i = 6 by omega) with rfl | rfl | rfl | rfl | rfl | rfl | rfl <;> decide
theorem get_0 {S : tt_St} {r d : Nat} : f1_get S r d (0 : Int32) = S r (12 + 7 * d) := by
  unfold f1_get
  rw [if_pos rfl]
theorem get_1 {S : tt_St} {r d : Nat} : f1_get S r d (1 : Int32) = S r (13 + 7 * d) := by
  unfold f1_get
  rw [if_neg (by decide), if_pos rfl]
theorem get_2 {S : tt_St} {r d : Nat} : f1_get S r d (2 : Int32) = S r (14 + 7 * d) := by
  unfold f1_get
  rw [if_neg (by decide), if_neg (by decide), if_pos rfl]
theorem get_3 {S : tt_St} {r d : Nat} : f1_get S r d (3 : Int32) = S r (15 + 7 * d) := by
  unfold f1_get
  rw [if_neg (by decide), if_neg (by decide), if_neg (by decide), if_pos rfl]
theorem get_4 {S : tt_St} {r d : Nat} : f1_get S r d (4 : Int32) = S r (16 + 7 * d) := by
  unfold f1_get
  rw [if_neg (by decide), if_neg (by decide), if_neg (by decide), if_neg (by decide), if_pos rfl]
theorem get_5 {S : tt_St} {r d : Nat} : f1_get S r d (5 : Int32) = S r (17 + 7 * d) := by
  unfold f1_get
  rw [if_neg (by decide), if_neg (by decide), if_neg (by decide), if_neg (by decide), if_neg (by decide), if_pos rfl]
theorem get_6 {S : tt_St} {r d : Nat} : f1_get S r d (6 : Int32) = S r (18 + 7 * d) := by
  unfold f1_get
  rw [if_neg (by decide), if_neg (by decide), if_neg (by decide), if_neg (by decide), if_neg (by decide), if_neg (by decide)]
theorem get_its {r : Nat} {S M : tt_St} (h : rel r S 1 M) {k j : Int32} (hk : vp_in k 10) (hd : k.toNatClampNeg < (M 1 0).toNatClampNeg) (hj : vp_in j 7) : f1_get S r k.toNatClampNeg j = f7_its M k j := by
  rcases j7_of hj with rfl | rfl | rfl | rfl | rfl | rfl | rfl
  · rw [show f1_get S r k.toNatClampNeg 0 = S r (12 + 7 * k.toNatClampNeg) from get_0, show f7_its M k 0 = M 1 (12 + 7 * k.toNatClampNeg) from its_0 hk]; exact h _ (by omega)
  · rw [get_1, its_1 hk]; exact h _ (by omega)
  · rw [get_2, its_2 hk]; exact h _ (by omega)
  · rw [get_3, its_3 hk]; exact h _ (by omega)
  · rw [get_4, its_4 hk]; exact h _ (by omega)
  · rw [get_5, its_5 hk]; exact h _ (by omega)
  · rw [get_6, its_6 hk]; exact h _ (by omega)
theorem sr_sumL {r : Nat} {S M : tt_St} (h : rel r S 1 M) (hn : (M 1 0).toNatClampNeg ≤ 10) (hs : (M 1 0).toInt ≤ 10) {j : Int32} (hj : vp_in j 7) : ∀ (m : Nat) (acc y : Int32), ¬ y < 0 → f2_sumOf_L4 S r j m acc y = f7_sumOf_L4 M j m acc y := by
  have e0 := h 0 (by omega)
  intro m
  induction m with
  | zero => intro acc y _; rfl
  | succ m ih =>
    intro acc y h0
    rw [f2_sumOf_L4, f7_sumOf_L4]
    dsimp only
    rw [e0]
    by_cases c : M 1 0 ≤ y
    · rw [if_pos c, if_pos c]
    · rw [if_neg c, if_neg c, get_its h (lp_in (n := 10) h0 c (by omega)) (lp_cl1 h0 c).2 hj]
      exact ih _ _ (lp_nn h0 c)
theorem sr_sum {r : Nat} {S M : tt_St} (h : rel r S 1 M) (hs : (M 1 0).toInt ≤ 10) (hn : (M 1 0).toNatClampNeg ≤ 10) {j : Int32} (hj : vp_in j 7) : f2_sumOf S r j = f7_sumOf M j := by
  unfold f2_sumOf f7_sumOf
  rw [h 0 (by omega)]
  exact sr_sumL h hn hs hj _ _ _ (by decide)
theorem least_least (a p : Int32) : f7_least (f7_least a p) p = f7_least a p := Int32.toInt_inj.mp (by rw [least_int, least_int]; omega)
noncomputable def ENDC (r : Nat) (S1 : tt_St) : tt_St := if f2_due (f0_put S1 r (f2_sumOf S1 r (5 : Int32)) (f2_sumOf S1 r (6 : Int32))) r ≤ 0 then f2_beginWeek (tt_up (f0_put S1 r (f2_sumOf S1 r (5 : Int32)) (f2_sumOf S1 r (6 : Int32))) r 6 (100 : Int32)) r else f2_beginWeek (tt_up (f0_put S1 r (f2_sumOf S1 r (5 : Int32)) (f2_sumOf S1 r (6 : Int32))) r 6 (if (999 : Int32) < ((f2_sumOf S1 r (6 : Int32) * (100 : Int32)) / f2_due (f0_put S1 r (f2_sumOf S1 r (5 : Int32)) (f2_sumOf S1 r (6 : Int32))) r) then (999 : Int32) else (f2_sumOf S1 r (6 : Int32) * (100 : Int32)) / f2_due (f0_put S1 r (f2_sumOf S1 r (5 : Int32)) (f2_sumOf S1 r (6 : Int32))) r)) r
/-- debts are paid -/
theorem wk_pay {r n : Nat} {b : Prop} {u v : Int32} {E D : Nat → Int} {q : Int} (hq : q ≤ 100000) (hE : ∀ i : Nat, i < n → E i ≤ 1000000000) : ∀ (m : Nat) (S M : tt_St) (y : Int32), SR r b u v S M → bM n E D (fun i => if i < y.toNatClampNeg then q + 9999 else q) M → ¬ y < 0 → lp_mu (M 1 0) y < m →
    ∃ S' M' : tt_St, SR r b u v S' M' ∧ bM n E D (fun _ => q + 9999) M' ∧ (∀ k : Nat, (5 ≤ k ∧ k ≤ 8) ∨ k = 10 ∨ k = 11 ∨ 82 ≤ k → M' 1 k = M 1 k) ∧ f2_endWeek_L2 r m S y = ENDC r S' ∧ f7_settles_L2 m M y = f7_settles_L84 (lp_k 20) M' (f7_sumOf M' (5 : Int32)) (19 : Int32) := by
  intro m
  induction m with
  | zero => intro S M y _ _ _ hm; exact absurd hm (Nat.not_lt_zero _)
  | succ m ih =>
    intro S M y hS h h0 hm
    have hn := bM_n h
    have h10 := h.1.2
    have e0 := hS.1 0 (by omega)
    rw [f2_endWeek_L2, f7_settles_L2]
    dsimp only
    rw [e0]
    by_cases c : M 1 0 ≤ y
    · rw [if_pos c, if_pos c]
      have := lp_cl2 c
      exact ⟨S, M, hS, bM_le h (fun d hd => ⟨Int.le_refl _, Int.le_refl _, by (try dsimp only); rw [if_pos (by omega)]; exact Int.le_refl _⟩), fun _ _ => rfl, rfl, rfl⟩
    · rw [if_neg c, if_neg c]
      have hs10 := h.1.1
      have hk := lp_in (n := 10) h0 c (by omega)
      obtain ⟨ey, hlt⟩ := lp_cl1 h0 c
      have hd : y.toNatClampNeg < n := by omega
      have hp := h.2.2.2.2.2.1 _ hd
      unfold dk at hp
      have e12 := hS.1 (12 + 7 * y.toNatClampNeg) (by omega)
      have e14 := hS.1 (14 + 7 * y.toNatClampNeg) (by omega)
      have e16 := hS.1 (16 + 7 * y.toNatClampNeg) (by omega)
      have hqk : ∀ i : Nat, i < n → (fun i => if i < y.toNatClampNeg then q + 9999 else q) i ≤ 1000000 := fun i _ => by
        dsimp only
        by_cases ci : i < y.toNatClampNeg
        · rw [if_pos ci]; omega
        · rw [if_neg ci]; omega
      have pts : ∀ (Q : Nat → Int), (∀ i, i < n → i ≠ y.toNatClampNeg → Q i ≤ if i < y.toNatClampNeg then q + 9999 else q) → Q y.toNatClampNeg ≤ q + 9999 → ∀ d : Nat, d < n → E d ≤ E d ∧ D d ≤ D d ∧ Q d ≤ (fun i => if i < (y + (1 : Int32)).toNatClampNeg then q + 9999 else q) d := fun Q hQ1 hQ2 d hdn => by
        refine ⟨Int.le_refl _, Int.le_refl _, ?_⟩
        dsimp only
        rw [ey]
        by_cases cd : d = y.toNatClampNeg
        · subst cd
          rw [if_pos (by omega)]; exact hQ2
        · have := hQ1 d hdn cd
          by_cases ci : d < y.toNatClampNeg
          · rw [if_pos (by omega)]; rw [if_pos ci] at this; exact this
          · rw [if_neg (by omega)]; rw [if_neg ci] at this; exact this
      -- one pays
      have one : ∃ S2 M2 : tt_St, SR r b u v S2 M2 ∧ bM n E D (fun i => if i < (y + (1 : Int32)).toNatClampNeg then q + 9999 else q) M2 ∧ (∀ k : Nat, (5 ≤ k ∧ k ≤ 8) ∨ k = 10 ∨ k = 11 ∨ 82 ≤ k → M2 1 k = M 1 k) ∧ M2 1 0 = M 1 0 ∧ tt_up (f2_pay S r y.toNatClampNeg (S r (16 + 7 * y.toNatClampNeg))).2 r (16 + 7 * y.toNatClampNeg) (S r (16 + 7 * y.toNatClampNeg) - (f2_pay S r y.toNatClampNeg (S r (16 + 7 * y.toNatClampNeg))).1) = S2 ∧ f7_becomes (f7_pays M y (f7_least (f7_its M y (4 : Int32)) (f7_its M y (2 : Int32)))) y (4 : Int32) (f7_its (f7_pays M y (f7_least (f7_its M y (4 : Int32)) (f7_its M y (2 : Int32)))) y (4 : Int32) - f7_least (f7_its M y (4 : Int32)) (f7_its M y (2 : Int32))) = M2 := by
        have ev := least_int (M 1 (16 + 7 * y.toNatClampNeg)) (M 1 (14 + 7 * y.toNatClampNeg))
        have hEd := hE _ hd
        refine ⟨_, _, ?_, ?_, ?_, ?_, rfl, rfl⟩
        · rw [pay_nf, its_4 hk, its_2 hk, pays_nf hk, least_least, e16, e14, bec_4 hk, its_4 hk, PAY_at (by omega) (by omega) (by omega) (by omega)]
          exact sr_up (sr_PAY hS (by omega) (by omega)) (by omega) (by omega) (by omega)
        · rw [its_4 hk, its_2 hk, pays_nf hk, least_least, bec_4 hk, its_4 hk, PAY_at (by omega) (by omega) (by omega) (by omega)]
          have b1 := bM_pay (x := q + 9999) (v := f7_least (M 1 (16 + 7 * y.toNatClampNeg)) (M 1 (14 + 7 * y.toNatClampNeg))) h hd (by omega) (by (try dsimp only); rw [if_neg (by omega)]; omega) (by omega) hqk
          have es := lp_sub (a := M 1 (16 + 7 * y.toNatClampNeg)) (b := f7_least (M 1 (16 + 7 * y.toNatClampNeg)) (M 1 (14 + 7 * y.toNatClampNeg))) (by omega) (by omega)
          have b2 := bM_debt (v := M 1 (16 + 7 * y.toNatClampNeg) - f7_least (M 1 (16 + 7 * y.toNatClampNeg)) (M 1 (14 + 7 * y.toNatClampNeg))) (x := E y.toNatClampNeg) b1 hd (by omega)
          rw [updI_id (f := E) rfl] at b2
          exact bM_le b2 (pts _ (fun i hi hne => by rw [updI_ne hne]; exact Int.le_refl _) (by rw [updI_eq]; exact Int.le_refl _))
        · intro k hk2
          rw [its_4 hk, its_2 hk, pays_nf hk, bec_4 hk, tt_up_ne (by omega), PAY_at (by omega) (by omega) (by omega) (by omega)]
        · rw [its_4 hk, its_2 hk, pays_nf hk, bec_4 hk, tt_up_ne (by omega), PAY_at (by omega) (by omega) (by omega) (by omega)]
      rw [its_0 hk, e12]
      obtain ⟨S2, M2, g1, g2, g3, g4, g5, g6⟩ := one
      have goOn : ∃ S' M' : tt_St, SR r b u v S' M' ∧ bM n E D (fun _ => q + 9999) M' ∧ (∀ k : Nat, (5 ≤ k ∧ k ≤ 8) ∨ k = 10 ∨ k = 11 ∨ 82 ≤ k → M' 1 k = M 1 k) ∧ f2_endWeek_L2 r m S2 (y + (1 : Int32)) = ENDC r S' ∧ f7_settles_L2 m M2 (y + (1 : Int32)) = f7_settles_L84 (lp_k 20) M' (f7_sumOf M' (5 : Int32)) (19 : Int32) := by
        obtain ⟨S', M', a1, a2, a3, a4, a5⟩ := ih S2 M2 _ g1 g2 (lp_nn h0 c) (by rw [g4]; exact lp_dec' c hm)
        exact ⟨S', M', a1, a2, fun k hk2 => (a3 k hk2).trans (g3 k hk2), a4, a5⟩
      rw [g5, g6]
      by_cases c1 : M 1 (12 + 7 * y.toNatClampNeg) = (1 : Int32)
      · rw [if_pos c1, if_pos c1]; exact goOn
      rw [if_neg c1, if_neg c1]
      by_cases c6 : M 1 (12 + 7 * y.toNatClampNeg) = (6 : Int32)
      · rw [if_pos c6, if_pos c6]; exact goOn
      rw [if_neg c6, if_neg c6]
      exact ih S M _ hS (bM_le h (pts _ (fun i hi _ => Int.le_refl _) (by (try dsimp only); rw [if_neg (by omega)]; omega))) (lp_nn h0 c) (lp_dec' c hm)
theorem put_r {S : tt_St} {r k : Nat} {a c : Int32} : f0_put S r a c r k = if k = 11 then (if (20 : Int32) < S r 11 + (1 : Int32) then (20 : Int32) else S r 11 + (1 : Int32)) else S r k := by
  have e : ∀ j : Nat, tt_up (tt_up (tt_upR (tt_upR S (6 + r) (va_cpy (S (6 + r)) (S (6 + r)) 0 1 19)) (9 + r) (va_cpy (tt_upR S (6 + r) (va_cpy (S (6 + r)) (S (6 + r)) 0 1 19) (9 + r)) (tt_upR S (6 + r) (va_cpy (S (6 + r)) (S (6 + r)) 0 1 19) (9 + r)) 0 1 19)) (6 + r) 0 a) (9 + r) 0 c r j = S r j := fun j => by
    rw [tt_up_ne (by omega), tt_up_ne (by omega), tt_upR_row (by omega), tt_upR_row (by omega)]
  unfold f0_put
  try dsimp only
  rw [tt_up_at, e, e]
  by_cases c1 : k = 11
  · rw [if_pos c1, if_pos ⟨rfl, c1⟩]
  · rw [if_neg c1, if_neg (fun z => c1 z.2)]
theorem put_6 {S : tt_St} {r i : Nat} {a c : Int32} (hr : r < 3) (hi : i < 20) : f0_put S r a c (6 + r) i = if i = 0 then a else S (6 + r) (i - 1) := by
  unfold f0_put
  try dsimp only
  rw [tt_up_ne (by omega), tt_up_ne (by omega), tt_up_at]
  by_cases c1 : i = 0
  · rw [if_pos c1, if_pos ⟨rfl, c1⟩]
  · rw [if_neg c1, if_neg (fun z => c1 z.2), tt_upR_row (by omega), tt_upR_self]
    unfold va_cpy
    rw [if_pos (by omega)]
    exact congrArg _ (by omega)
theorem put_9 {S : tt_St} {r i : Nat} {a c : Int32} (hr : r < 3) (hi : i < 20) : f0_put S r a c (9 + r) i = if i = 0 then c else S (9 + r) (i - 1) := by
  unfold f0_put
  try dsimp only
  rw [tt_up_ne (by omega), tt_up_at]
  by_cases c1 : i = 0
  · rw [if_pos c1, if_pos ⟨rfl, c1⟩]
  · rw [if_neg c1, if_neg (fun z => c1 z.2), tt_up_ne (by omega), tt_upR_self, tt_upR_row (by omega)]
    unfold va_cpy
    rw [if_pos (by omega)]
    exact congrArg _ (by omega)
theorem put_row {S : tt_St} {r n : Nat} {a c : Int32} (h : n ≠ r) (h6 : n ≠ 6 + r) (h9 : n ≠ 9 + r) : f0_put S r a c n = S n := by
  unfold f0_put
  try dsimp only
  rw [tt_up_row h, tt_up_row h9, tt_up_row h6, tt_upR_row h9, tt_upR_row h6]
theorem cp_gt {x : Int32} (h : 0 < x) : ¬ x ≤ 0 := by
  rw [lp_lt, lp_0] at h
  rw [lp_le, lp_0]
  omega
theorem last_eq {c x : Int32} (hc : 0 ≤ c.toInt ∧ c.toInt ≤ 10000000) (hx : 0 < x.toInt) : (if (999 : Int32) < (c * (100 : Int32)) / x then (999 : Int32) else (c * (100 : Int32)) / x) = (if (lg_cmp ((c.toInt64 * (100 : Int64)) / x.toInt64) (999 : Int64)) ≤ 0 then ((c.toInt64 * (100 : Int64)) / x.toInt64).toInt32 else (999 : Int64).toInt32) := by
  obtain ⟨a, ha, rfl⟩ := nI_of (x := c) (nn_int hc.1)
  obtain ⟨d, hd, rfl⟩ := nI_of (x := x) (nn_int (by omega))
  rw [nI_toInt ha] at hc
  rw [nI_toInt hd] at hx
  have e1 : nI a * (100 : Int32) / nI d = nI (a * 100 / d) := by
    rw [show (100 : Int32) = nI 100 from rfl, pk_mul, pk_div (by omega) (by omega) hd]
  have e2 : (nI a).toInt64 * (100 : Int64) / (nI d).toInt64 = lN (a * 100 / d) := by
    rw [nI_l ha, nI_l hd, show (100 : Int64) = lN 100 from rfl, lN_mul, pk_lDiv (by omega) (by omega) (by omega)]
  have hq : a * 100 / d < 2 ^ 31 := Nat.lt_of_le_of_lt (Nat.div_le_self _ _) (by omega)
  rw [e1, e2, lN_i]
  have g := in_gt (lN (a * 100 / d)) (999 : Int64)
  rw [lN_toInt hq, show (999 : Int64).toInt = 999 from rfl] at g
  by_cases c1 : (999 : Int32) < nI (a * 100 / d)
  · rw [if_pos c1]
    rw [lp_lt, nI_toInt hq, show (999 : Int32).toInt = 999 from rfl] at c1
    rw [if_neg (cp_gt (g.mpr c1))]
    rfl
  · rw [if_neg c1]
    rw [lp_lt, nI_toInt hq, show (999 : Int32).toInt = 999 from rfl] at c1
    rw [if_pos]
    rw [lp_le, lp_0]
    have g2 : ¬ 0 < lg_cmp (lN (a * 100 / d)) (999 : Int64) := fun z => c1 (g.mp z)
    rw [lp_lt, lp_0] at g2
    omega

