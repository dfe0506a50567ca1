/-! each; the sets who can -/
theorem rem_nI {a b : Nat} (ha : a < 2 ^ 31) (hb : 0 < b) (hb2 : b < 2 ^ 31) : nI a - nI a / nI b * nI b = nI (a % b) := by
  obtain ⟨a', b', h1, h2, h3, e1, e2, e3⟩ := gc_eq (x := nI a) (y := nI b) (nI_pos ha) (nI_pos hb2) (nI_ne0 hb hb2)
  rw [e3, ← (nI_eq ha h1).mp e1, ← (nI_eq hb2 h2).mp e2]
theorem gcd_step (a b : Nat) : Nat.gcd a b = Nat.gcd b (a % b) := by rw [Nat.gcd_comm a b, Nat.gcd_rec b a, Nat.gcd_comm]
theorem gcM {u v : Int32} : ∀ (n a b : Nat), a < 2 ^ 31 → b < 2 ^ 31 → b < n → f7_common_L4 u v n (nI a) (nI b) = nI (Nat.gcd a b) := by
  intro n
  induction n with
  | zero => intro a b _ _ h; exact absurd h (Nat.not_lt_zero _)
  | succ n ih =>
    intro a b ha hb h
    rw [f7_common_L4]
    dsimp only
    by_cases c : b = 0
    · subst c
      rw [if_pos (show nI 0 = 0 from rfl), Nat.gcd_zero_right]
    · have hm := Nat.mod_lt a (show 0 < b by omega)
      rw [if_neg (nI_ne0 (by omega) hb), rem_nI ha (by omega) hb, ih b (a % b) hb (by omega) (by omega), ← gcd_step]
theorem mu100 {i : Nat} (hi : i ≤ 100) : lp_mu (100 : Int32) (nI i) = 100 - i := by
  rw [lp_mu_eq, nI_toInt (by omega), show (100 : Int32).toInt = 100 from rfl]
  omega
theorem gcC {u v : Int32} : ∀ (k n a b i : Nat), a < 2 ^ 31 → b < 2 ^ 31 → b < 2 ^ k → i + 2 * k + 1 ≤ 100 → 100 - i < n → f6_commonDivisor_L13 u v n (nI a) (nI b) (nI i) = nI (if Nat.gcd a b < 1 then 1 else Nat.gcd a b) := by
  have stop : ∀ (n a i : Nat), a < 2 ^ 31 → i < 100 → f6_commonDivisor_L13 u v (n + 1) (nI a) (nI 0) (nI i) = nI (if Nat.gcd a 0 < 1 then 1 else Nat.gcd a 0) := fun n a i ha hi => by
    rw [f6_commonDivisor_L13]
    dsimp only
    rw [if_neg (show ¬ (100 : Int32) ≤ nI i from nI_ge (b := 100) (by omega) (by decide)), if_pos (show nI 0 ≤ 0 from by decide), Nat.gcd_zero_right]
    by_cases c : a < 1
    · rw [if_pos (show nI a < (1 : Int32) from nI_lt (b := 1) c (by decide)), if_pos c]
      rfl
    · rw [if_neg (show ¬ nI a < (1 : Int32) from nI_nlt (b := 1) (by omega) ha), if_neg c]
  have step : ∀ (n a b i : Nat), a < 2 ^ 31 → b < 2 ^ 31 → 0 < b → i < 100 → f6_commonDivisor_L13 u v (n + 1) (nI a) (nI b) (nI i) = f6_commonDivisor_L13 u v n (nI b) (nI (a % b)) (nI (i + 1)) := fun n a b i ha hb h0 hi => by
    rw [f6_commonDivisor_L13]
    dsimp only
    rw [if_neg (show ¬ (100 : Int32) ≤ nI i from nI_ge (b := 100) (by omega) (by decide)), if_neg (nI_nle h0 hb), rem_nI ha h0 hb, nI_1]
  intro k
  induction k with
  | zero =>
    intro n a b i ha hb h h2 h3
    rcases n with _ | n
    · omega
    rw [show b = 0 by omega]
    exact stop n a i ha (by omega)
  | succ k ih =>
    intro n a b i ha hb h h2 h3
    rcases n with _ | n
    · omega
    by_cases c : b = 0
    · rw [c]; exact stop n a i ha (by omega)
    have hm := Nat.mod_lt a (show 0 < b by omega)
    rw [step n a b i ha hb (by omega) (by omega), gcd_step a b]
    rcases n with _ | n
    · omega
    by_cases c2 : a % b = 0
    · rw [c2]; exact stop n b (i + 1) hb (by omega)
    have hm2 := Nat.mod_lt b (show 0 < a % b by omega)
    rw [step n b (a % b) (i + 1) hb (by omega) (by omega) (by omega), gcd_step b (a % b)]
    have hd := Nat.div_add_mod b (a % b)
    have hq : 1 ≤ b / (a % b) := by
      rw [Nat.le_div_iff_mul_le (by omega)]
      omega
    have hq2 : (a % b) * 1 ≤ (a % b) * (b / (a % b)) := Nat.mul_le_mul_left _ hq
    have hp : 2 ^ (k + 1) = 2 * 2 ^ k := by rw [Nat.pow_succ]; omega
    exact ih n (a % b) (b % (a % b)) (i + 1 + 1) (by omega) (by omega) (by omega) (by omega) (by omega)
theorem common_eq {x z : Int32} (hx : 0 ≤ x.toInt ∧ x.toInt ≤ 20000000) (hz : 0 < z.toInt ∧ z.toInt ≤ 20000000) : f6_commonDivisor x z = f7_common x z := by
  obtain ⟨a, ha, rfl⟩ := nI_of (x := x) (nn_int hx.1)
  obtain ⟨b, hb, rfl⟩ := nI_of (x := z) (nn_int (by omega))
  rw [nI_toInt ha] at hx
  rw [nI_toInt hb] at hz
  unfold f6_commonDivisor f7_common
  dsimp only
  rw [if_pos (nI_pos' ha), if_pos (nI_pos' hb), gcM _ a b ha hb (by rw [nI_clamp hb]; omega)]
  have g := gcC (u := nI a) (v := nI b) 25 (lp_mu (100 : Int32) 0 + 1) a b 0 ha hb (by omega) (by omega) (by
    have := mu100 (i := 0) (by omega)
    rw [show lp_mu (100 : Int32) 0 = 100 - 0 from this]
    omega)
  refine g.trans ?_
  rw [if_neg]
  have := Nat.gcd_pos_of_pos_right a (show 0 < b by omega)
  omega
noncomputable def eachE (a : Int32) (M : tt_St) (x z : Int32) : Int32 × tt_St := if z = 0 then f7_finds M (3 : Int32) else if a = 0 then (x / f7_common x z, M) else (z / f7_common x z, M)
theorem eachL {S M : tt_St} {a : Int32} (hb : bks 0 S 1 M) (h11 : (M 1 11).toInt ≤ 20) : ∀ (m : Nat) (x z y : Int32), ¬ y < 0 → lp_mu (M 1 11) y < m → f7_each_L23 a m M x z y = eachE a M (f0_sumOfFirst_L4 S 42 9 (M 1 11) m x y) (f0_sumOfFirst_L4 S 39 6 (M 1 11) m z y) := by
  intro m
  induction m with
  | zero => intro x z y _ hm; exact absurd hm (Nat.not_lt_zero _)
  | succ m ih =>
    intro x z y hy hm
    rw [f7_each_L23, f0_sumOfFirst_L4, f0_sumOfFirst_L4]
    dsimp only
    by_cases c : M 1 11 ≤ y
    · rw [if_pos c, if_pos c, if_pos c]
      unfold eachE
      repeat' split
      all_goals rfl
    · have hk := lp_in (n := 20) hy c (by omega)
      have hk2 := vp_in_iff.mp hk
      have c20 : ¬ (20 : Int32) ≤ y := by rw [lp_le, show (20 : Int32).toInt = 20 from rfl]; omega
      obtain ⟨w1, w2, w3, w4⟩ := wk_i (int_nn hy) (by omega)
      have g := hb.2 _ (lp_cl hk)
      rw [if_neg c, if_neg c, if_neg c20, if_neg c, if_neg c20, w3, w4, ← g.1, ← g.2]
      exact ih _ _ _ (lp_nn hy c) (lp_dec' c hm)
theorem eachB {S : tt_St} {q w : Nat} {n : Int32} (hn : n.toInt ≤ 20) (hb : ∀ i : Nat, i < 20 → 0 ≤ (S w i).toInt ∧ (S w i).toInt ≤ 1000000) : ∀ (m : Nat) (x y : Int32), ¬ y < 0 → 0 ≤ x.toInt → x.toInt ≤ 1000000 * y.toInt → y.toInt ≤ 20 → 0 ≤ (f0_sumOfFirst_L4 S q w n m x y).toInt ∧ (f0_sumOfFirst_L4 S q w n m x y).toInt ≤ 20000000 := by
  intro m
  induction m with
  | zero => intro x y _ h1 h2 h3; exact ⟨Int.le_refl _, show (0 : Int32).toInt ≤ 20000000 from by decide⟩
  | succ m ih =>
    intro x y hy h1 h2 h3
    rw [f0_sumOfFirst_L4]
    dsimp only
    by_cases c : n ≤ y
    · rw [if_pos c]; omega
    by_cases c2 : (20 : Int32) ≤ y
    · rw [if_neg c, if_pos c2]; omega
    rw [if_neg c, if_neg c2]
    have hk := lp_in (n := 20) hy c (by omega)
    have hv := hb _ (lp_cl hk)
    have ey := lp_inc c2
    have c3 := c2
    rw [lp_le, show (20 : Int32).toInt = 20 from rfl] at c3
    have ex := lp_add (a := x) (b := S w y.toNatClampNeg) (by omega) (by omega)
    exact ih _ _ (lp_nn hy c) (by omega) (by omega) (by omega)
theorem p_each {S M : tt_St} (a : Int32) (h : RR S M) : PS (f6_each S a) (f7_each M a) := by
  have hR := h.1
  have hr := dN_room (okR_dN hR.2.2.2)
  have v := @wi_in7 a (0 : Int32) (1 : Int32) (0 : Int64) (1 : Int64) rfl rfl
  have h11 := hr.2.2.2.2.2.2.1
  have hbk := hr.2.2.2.2.2.2.2
  have eL := eachL (a := a) hR.2.1 h11.2 (lp_mu (M 1 11) 0 + 1) 0 0 0 (by decide) (Nat.lt_succ_self _)
  have b6 : ∀ i : Nat, i < 20 → 0 ≤ (S 6 i).toInt ∧ (S 6 i).toInt ≤ 1000000 := fun i hi => by
    rw [show S 6 i = M 1 (82 + 2 * i) from (hR.2.1.2 i hi).1]; exact hbk (2 * i) (by omega)
  have b9 : ∀ i : Nat, i < 20 → 0 ≤ (S 9 i).toInt ∧ (S 9 i).toInt ≤ 1000000 := fun i hi => by
    rw [show S 9 i = M 1 (82 + (2 * i + 1)) from ((hR.2.1.2 i hi).2).trans (congrArg (M 1) (by omega))]; exact hbk (2 * i + 1) (by omega)
  have B6 := eachB (q := 39) h11.2 b6 (lp_mu (M 1 11) 0 + 1) 0 0 (by decide) (by decide) (by decide) (by decide)
  have B9 := eachB (q := 42) h11.2 b9 (lp_mu (M 1 11) 0 + 1) 0 0 (by decide) (by decide) (by decide) (by decide)
  have eC : f0_allCups S 0 = f0_sumOfFirst_L4 S 39 6 (M 1 11) (lp_mu (M 1 11) 0 + 1) 0 0 := by
    unfold f0_allCups f0_sumOfFirst
    dsimp only
    rw [hR.2.1.1]
  have eO : f0_allCoins S 0 = f0_sumOfFirst_L4 S 42 9 (M 1 11) (lp_mu (M 1 11) 0 + 1) 0 0 := by
    unfold f0_allCoins f0_sumOfFirst
    dsimp only
    rw [hR.2.1.1]
  unfold f6_each f7_each
  dsimp only
  by_cases c : f6_within a (0 : Int32) (1 : Int32) = 0
  · rw [if_pos c, if_pos (v.mp c)]; exact tell_sim h (by unfold vp_in; decide)
  rw [if_neg c, if_neg (fun z => c (v.mpr z)), eL, eC, eO]
  generalize f0_sumOfFirst_L4 S 39 6 (M 1 11) (lp_mu (M 1 11) 0 + 1) 0 0 = z at *
  generalize f0_sumOfFirst_L4 S 42 9 (M 1 11) (lp_mu (M 1 11) 0 + 1) 0 0 = x at *
  unfold eachE
  by_cases c2 : z = 0
  · rw [if_pos c2, if_pos c2]; exact tell_sim h (by unfold vp_in; decide)
  rw [if_neg c2, if_neg c2, common_eq B9 ⟨by
    rcases Int.lt_or_eq_of_le B6.1 with g | g
    · exact g
    · exact absurd (Int32.toInt_inj.mp (by rw [lp_0]; exact g.symm)) c2, B6.2⟩]
  by_cases c3 : a = 0
  · rw [if_pos c3, if_pos c3]; exact PS_mk rfl h
  · rw [if_neg c3, if_neg c3]; exact PS_mk rfl h
