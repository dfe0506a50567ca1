/-! a week's end of the reference -/
theorem rem5_int {x : Int32} (h : 0 ≤ x.toInt) : (x - x / (5 : Int32) * (5 : Int32)).toInt = x.toInt % 5 := by
  obtain ⟨a, ha, rfl⟩ := nI_of (x := x) (nn_int h)
  obtain ⟨a', b', h1, h2, h3, e1, e2, e3⟩ := gc_eq (x := nI a) (y := (5 : Int32)) (nn_int h) (by decide) (by decide)
  have ea : a' = a := ((nI_eq ha h1).mp e1).symm
  have eb : b' = 5 := ((nI_eq (by decide) h2).mp (show nI 5 = nI b' from e2)).symm
  rw [e3, ea, eb, nI_toInt (by omega), nI_toInt ha]
  omega
theorem sum_gsL {n b : Nat} {j : Int32} {M : tt_St} (hn : (M 1 0).toInt = n) (h10 : n ≤ 10) (hits : ∀ k : Int32, vp_in k 10 → f7_its M k j = M 1 (b + 7 * k.toNatClampNeg)) (hb : ∀ d : Nat, d < n → 0 ≤ (M 1 (b + 7 * d)).toInt ∧ (M 1 (b + 7 * d)).toInt ≤ 1000000) : ∀ (m : Nat) (acc y : Int32), ¬ y < 0 → y.toNatClampNeg ≤ n → lp_mu (M 1 0) y < m → acc.toInt = gs (M 1) b y.toNatClampNeg → (f7_sumOf_L4 M j m acc y).toInt = gs (M 1) b n := by
  intro m
  induction m with
  | zero => intro acc y _ _ hm; exact absurd hm (Nat.not_lt_zero _)
  | succ m ih =>
    intro acc y h0 hy hm ha
    have hy0 := cl_int (int_nn h0)
    rw [f7_sumOf_L4]
    dsimp only
    by_cases c : M 1 0 ≤ y
    · rw [if_pos c, ha]
      rw [lp_le] at c
      rw [show y.toNatClampNeg = n by omega]
    · rw [if_neg c]
      obtain ⟨e1, e2⟩ := lp_cl1 h0 c
      have hk := lp_in (n := 10) h0 c (by omega)
      have hlt : y.toNatClampNeg < n := by
        rw [lp_le] at c
        omega
      have hg := gs_bd (f := M 1) (b := b) (lo := 0) (hi := 1000000) (n := y.toNatClampNeg) (fun d hd => hb d (by omega))
      have hv := hb _ hlt
      refine ih _ _ (lp_nn h0 c) (by omega) (lp_dec' c hm) ?_
      rw [hits y hk, e1, gs, lp_add (by omega) (by omega), ha]
theorem sum_gs {n b : Nat} {j : Int32} {M : tt_St} (hn : (M 1 0).toInt = n) (h10 : n ≤ 10) (hits : ∀ k : Int32, vp_in k 10 → f7_its M k j = M 1 (b + 7 * k.toNatClampNeg)) (hb : ∀ d : Nat, d < n → 0 ≤ (M 1 (b + 7 * d)).toInt ∧ (M 1 (b + 7 * d)).toInt ≤ 1000000) : (f7_sumOf M j).toInt = gs (M 1) b n :=
  sum_gsL hn h10 hits hb _ _ _ (by decide) (Nat.zero_le _) (Nat.lt_succ_self _) rfl
/-- drunk and paid of drinkers a to n are 0 -/
def zf (f : Nat → Int32) (a n : Nat) : Nat → Int32 := fun k => if (12 + 7 * a ≤ k ∧ k < 12 + 7 * n) ∧ ((k - 12) % 7 = 5 ∨ (k - 12) % 7 = 6) then 0 else f k
theorem zf_step {M : tt_St} {r a n : Nat} (h : a < n) : zf (tt_up (tt_up M r (17 + 7 * a) (0 : Int32)) r (18 + 7 * a) (0 : Int32) r) (a + 1) n = zf (M r) a n := by
  funext k
  unfold zf
  by_cases c1 : (12 + 7 * (a + 1) ≤ k ∧ k < 12 + 7 * n) ∧ ((k - 12) % 7 = 5 ∨ (k - 12) % 7 = 6)
  · rw [if_pos c1, if_pos (by omega)]
  · rw [if_neg c1]
    by_cases c2 : k = 18 + 7 * a
    · subst c2
      rw [tt_up_self, if_pos (by omega)]
    · rw [tt_up_ne (by omega)]
      by_cases c3 : k = 17 + 7 * a
      · subst c3
        rw [tt_up_self, if_pos (by omega)]
      · rw [tt_up_ne (by omega), if_neg (by omega)]
theorem zf_none {f : Nat → Int32} {a n : Nat} (h : n ≤ a) : zf f a n = f := by
  funext k
  unfold zf
  rw [if_neg (by omega)]
theorem upR_up {S : tt_St} {r : Nat} {k : Nat} {v : Int32} {f : Nat → Int32} : tt_upR (tt_up S r k v) r f = tt_upR S r f := by
  funext n
  unfold tt_up tt_upR
  by_cases c : n = r
  · rw [if_pos c, if_pos c]
  · rw [if_neg c, if_neg c, if_neg c]
theorem upR_id {S : tt_St} {r : Nat} {f : Nat → Int32} (h : f = S r) : tt_upR S r f = S := by
  funext n
  unfold tt_upR
  by_cases c : n = r
  · rw [if_pos c, h, c]
  · rw [if_neg c]
theorem cl_eq {x : Int32} {n : Nat} (h : x.toInt = n) : x.toNatClampNeg = n := by
  have := cl_int (x := x) (by omega)
  omega
theorem z266 {n : Nat} (h10 : n ≤ 10) : ∀ (m : Nat) (M : tt_St) (y : Int32), (M 1 0).toInt = n → ¬ y < 0 → lp_mu (M 1 0) y < m → f7_settles_L266 m M y = tt_upR M 1 (zf (M 1) y.toNatClampNeg n) := by
  intro m
  induction m with
  | zero => intro M y _ _ hm; exact absurd hm (Nat.not_lt_zero _)
  | succ m ih =>
    intro M y hn h0 hm
    have hc := cl_eq hn
    rw [f7_settles_L266]
    dsimp only
    by_cases c : M 1 0 ≤ y
    · rw [if_pos c, zf_none (by have := lp_cl2 c; omega), upR_id rfl]
    · rw [if_neg c]
      obtain ⟨e1, e2⟩ := lp_cl1 h0 c
      have hk := lp_in (n := 10) h0 c (by omega)
      rw [bec_5 hk, bec_6 hk]
      have es : tt_up (tt_up M 1 (17 + 7 * y.toNatClampNeg) (0 : Int32)) 1 (18 + 7 * y.toNatClampNeg) (0 : Int32) 1 0 = M 1 0 := by
        rw [tt_up_ne (by omega), tt_up_ne (by omega)]
      rw [ih _ _ (by rw [es]; exact hn) (lp_nn h0 c) (by rw [es]; exact lp_dec' c hm), e1, zf_step (by omega), upR_up, upR_up]
theorem zmon {n : Nat} (h10 : n ≤ 10) (a : Int32) : ∀ (m : Nat) (M : tt_St) (y : Int32), (M 1 0).toInt = n → ¬ y < 0 → lp_mu (M 1 0) y < m → f7_monday_L26 a m M y = tt_upR M 1 (zf (M 1) y.toNatClampNeg n) := by
  intro m
  induction m with
  | zero => intro M y _ _ hm; exact absurd hm (Nat.not_lt_zero _)
  | succ m ih =>
    intro M y hn h0 hm
    have hc := cl_eq hn
    rw [f7_monday_L26]
    dsimp only
    by_cases c : M 1 0 ≤ y
    · rw [if_pos c, zf_none (by have := lp_cl2 c; omega), upR_id rfl]
    · rw [if_neg c]
      obtain ⟨e1, e2⟩ := lp_cl1 h0 c
      have hk := lp_in (n := 10) h0 c (by omega)
      rw [bec_5 hk, bec_6 hk]
      have es : tt_up (tt_up M 1 (17 + 7 * y.toNatClampNeg) (0 : Int32)) 1 (18 + 7 * y.toNatClampNeg) (0 : Int32) 1 0 = M 1 0 := by
        rw [tt_up_ne (by omega), tt_up_ne (by omega)]
      rw [ih _ _ (by rw [es]; exact hn) (lp_nn h0 c) (by rw [es]; exact lp_dec' c hm), e1, zf_step (by omega), upR_up, upR_up]
theorem zbw {r n : Nat} : ∀ (m : Nat) (S : tt_St) (y : Int32), (S r 0).toInt = n → ¬ y < 0 → lp_mu (S r 0) y < m → f2_beginWeek_L2 r m S y = tt_upR S r (zf (S r) y.toNatClampNeg n) := by
  intro m
  induction m with
  | zero => intro S y _ _ hm; exact absurd hm (Nat.not_lt_zero _)
  | succ m ih =>
    intro S y hn h0 hm
    have hc := cl_eq hn
    rw [f2_beginWeek_L2]
    dsimp only
    by_cases c : S r 0 ≤ y
    · rw [if_pos c, zf_none (by have := lp_cl2 c; omega), upR_id rfl]
    · rw [if_neg c]
      obtain ⟨e1, e2⟩ := lp_cl1 h0 c
      have es : tt_up (tt_up S r (17 + 7 * y.toNatClampNeg) (0 : Int32)) r (18 + 7 * y.toNatClampNeg) (0 : Int32) r 0 = S r 0 := by
        rw [tt_up_ne (by omega), tt_up_ne (by omega)]
      rw [ih _ _ (by rw [es]; exact hn) (lp_nn h0 c) (by rw [es]; exact lp_dec' c hm), e1, zf_step (by omega), upR_up, upR_up]
/-- the books move by one -/
def sh (f : Nat → Int32) (y : Nat) : Nat → Int32 := fun k => if 84 ≤ k ∧ k < 84 + 2 * y then f (k - 2) else f k
/-- LAST, as the reference has it -/
def lastM (p z c : Int32) : Int32 := if p * z = 0 then (100 : Int32) else if (lg_cmp ((c.toInt64 * (100 : Int64)) / (p * z).toInt64) (999 : Int64)) ≤ 0 then ((c.toInt64 * (100 : Int64)) / (p * z).toInt64).toInt32 else (999 : Int64).toInt32
noncomputable def FIN (M : tt_St) (z last : Int32) : tt_St := tt_up (tt_up (tt_up (tt_up (tt_up M 1 82 z) 1 83 (M 1 9)) 1 11 (f7_least (20 : Int32) (M 1 11 + (1 : Int32)))) 1 6 last) 1 9 (0 : Int32)
/-- behind the books -/
noncomputable def fin84 (M : tt_St) (z : Int32) : tt_St := f7_settles_L266 (lp_mu (FIN M z (lastM (M 1 1) z (M 1 9)) 1 0) 0 + 1) (FIN M z (lastM (M 1 1) z (M 1 9))) (0 : Int32)
theorem sh_L84 (z : Int32) : ∀ (m : Nat) (M : tt_St) (y : Int32), ¬ y < 0 → y.toInt ≤ 19 → y.toNatClampNeg < m → f7_settles_L84 m M z y = fin84 (tt_upR M 1 (sh (M 1) y.toNatClampNeg)) z := by
  intro m
  induction m with
  | zero => intro M y _ _ hm; exact absurd hm (Nat.not_lt_zero _)
  | succ m ih =>
    intro M y h0 h19 hm
    have hy := cl_int (int_nn h0)
    rw [f7_settles_L84]
    dsimp only
    by_cases c : y ≤ 0
    · rw [if_pos c]
      rw [lp_le, lp_0] at c
      have e : sh (M 1) y.toNatClampNeg = M 1 := by
        funext k
        unfold sh
        rw [if_neg (by omega)]
      rw [e, upR_id rfl]
      have r9 : tt_up M 1 82 z 1 9 = M 1 9 := tt_up_ne (by omega)
      have r11 : tt_up (tt_up M 1 82 z) 1 83 (M 1 9) 1 11 = M 1 11 := (tt_up_ne (by omega)).trans (tt_up_ne (by omega))
      rw [r9, r11]
      have s1 : tt_up (tt_up (tt_up M 1 82 z) 1 83 (M 1 9)) 1 11 (f7_least (20 : Int32) (M 1 11 + (1 : Int32))) 1 1 = M 1 1 := (tt_up_ne (by omega)).trans ((tt_up_ne (by omega)).trans (tt_up_ne (by omega)))
      have s9 : tt_up (tt_up (tt_up M 1 82 z) 1 83 (M 1 9)) 1 11 (f7_least (20 : Int32) (M 1 11 + (1 : Int32))) 1 9 = M 1 9 := (tt_up_ne (by omega)).trans ((tt_up_ne (by omega)).trans (tt_up_ne (by omega)))
      rw [s1, s9]
      unfold fin84 lastM FIN
      by_cases d1 : M 1 1 * z = 0
      · rw [if_pos d1, if_pos d1]
      · rw [if_neg d1, if_neg d1]
        by_cases d2 : lg_cmp (((M 1 9).toInt64 * (100 : Int64)) / (M 1 1 * z).toInt64) (999 : Int64) ≤ 0
        · rw [if_pos d2, if_pos d2]
        · rw [if_neg d2, if_neg d2]
    · rw [if_neg c]
      have hm1 := bk_mu c hm
      have hle := bk_le h19 c
      have c2 := c
      rw [lp_le, lp_0] at c2
      have e1 := lp_m1 (y := y) (by omega)
      obtain ⟨b1, b2, b3, b4⟩ := bk_int (y := y) (by omega) h19
      have n1 := cl_int (x := (82 : Int32) + ((2 : Int32) * y)) (by omega)
      have n2 := cl_int (x := ((82 : Int32) + ((2 : Int32) * y)) - (2 : Int32)) (by omega)
      have n3 := cl_int (x := ((82 : Int32) + ((2 : Int32) * y)) - (1 : Int32)) (by omega)
      have n4 := cl_int (x := ((82 : Int32) + ((2 : Int32) * y)) + (1 : Int32)) (by omega)
      have n5 := cl_int (x := y + (-1 : Int32)) (by omega)
      rw [ih _ _ (nn_int (by omega)) hle hm1, show ((82 : Int32) + ((2 : Int32) * y)).toNatClampNeg = 82 + 2 * y.toNatClampNeg by omega, show (((82 : Int32) + ((2 : Int32) * y)) - (2 : Int32)).toNatClampNeg = 80 + 2 * y.toNatClampNeg by omega, show (((82 : Int32) + ((2 : Int32) * y)) - (1 : Int32)).toNatClampNeg = 81 + 2 * y.toNatClampNeg by omega, show (((82 : Int32) + ((2 : Int32) * y)) + (1 : Int32)).toNatClampNeg = 83 + 2 * y.toNatClampNeg by omega]
      rw [upR_up, upR_up]
      refine congrArg (fun f => fin84 (tt_upR M 1 f) z) ?_
      funext k
      unfold sh
      by_cases c3 : 84 ≤ k ∧ k < 84 + 2 * (y + (-1 : Int32)).toNatClampNeg
      · rw [if_pos c3, if_pos (by omega), tt_up_ne (by omega), tt_up_ne (by omega)]
      · rw [if_neg c3]
        by_cases c4 : k = 83 + 2 * y.toNatClampNeg
        · subst c4
          rw [tt_up_self, tt_up_ne (by omega), if_pos (by omega)]
          exact congrArg (M 1) (by omega)
        · rw [tt_up_ne (by omega)]
          by_cases c5 : k = 82 + 2 * y.toNatClampNeg
          · subst c5
            rw [tt_up_self, if_pos (by omega)]
            exact congrArg (M 1) (by omega)
          · rw [tt_up_ne (by omega), if_neg (by omega)]
theorem b_zero {n : Nat} {E D Q : Nat → Int} {M M' : tt_St} (h : bM n E D Q M) (e : ∀ k : Nat, (k ≤ 3 ∨ k = 5 ∨ (12 ≤ k ∧ k < 12 + 7 * n ∧ (k - 12) % 7 ≠ 5 ∧ (k - 12) % 7 ≠ 6)) → M' 1 k = M 1 k) (ez : ∀ d : Nat, d < n → M' 1 (17 + 7 * d) = 0 ∧ M' 1 (18 + 7 * d) = 0) (e9 : M' 1 9 = 0) (e0 : M' 0 7 = M 0 7) : bM n E (fun _ => 0) (fun _ => 0) M' := by
  obtain ⟨h0, h1, h2, h3, h4, h5, h6, h7⟩ := h
  have z0 : (0 : Int32).toInt = 0 := rfl
  refine ⟨by rw [e 0 (by omega)]; exact h0, by rw [e 1 (by omega)]; exact h1, by rw [e 2 (by omega)]; exact h2, by rw [e 3 (by omega)]; exact h3, by rw [e 5 (by omega)]; exact h4, fun d hd => ?_, ?_, ?_⟩
  · have := h5 d hd
    unfold dk at *
    rw [(ez d hd).1, (ez d hd).2, e (12 + 7 * d) (by omega), e (13 + 7 * d) (by omega), e (14 + 7 * d) (by omega), e (16 + 7 * d) (by omega), z0]
    dsimp only
    omega
  · have g := gs_bd (f := M' 1) (b := 18) (lo := 0) (hi := 0) (n := n) (fun d hd => by rw [(ez d hd).2, z0]; omega)
    rw [e9, z0]
    omega
  · rw [e0, gs_ext (f := M' 1) (g := M 1) (b := 14) (n := n) (fun d hd => e _ (by omega))]
    exact h7
