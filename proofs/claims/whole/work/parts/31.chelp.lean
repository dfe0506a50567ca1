/-! help for the class's own methods -/
/-- what holds of the class's cells between calls, as far as its own steps need it -/
def ci (S : tt_St) : Prop := (∀ r : Nat, r < 2 → ¬ S r 0 < 0 ∧ (S r 0).toInt ≤ 10) ∧ (¬ S 3 1 < 0 ∧ (S 3 1).toInt ≤ 120) ∧ (∀ k : Nat, k < 4 → ¬ S 3 (20 + k) < 0 ∧ (S 3 (20 + k)).toInt ≤ 40) ∧ (S 0 11).toInt ≤ 20
/-- only the trial is another -/
def tf (S S' : tt_St) : Prop := ∀ n : Nat, n ≠ 2 → n ≠ 8 → n ≠ 11 → S' n = S n
theorem tf_rfl (S : tt_St) : tf S S := fun _ _ _ _ => rfl
theorem tf_tr {S S1 S2 : tt_St} (h1 : tf S S1) (h2 : tf S1 S2) : tf S S2 := fun n a b c => (h2 n a b c).trans (h1 n a b c)
theorem tf_up {k : Nat} (S : tt_St) (v : Int32) : tf S (tt_up S 2 k v) := fun n a _ _ => tt_up_row a
theorem tf_fr {S S' : tt_St} (h : tt_fr 2 S S') : tf S S' := fun n a b c => h.row a b c
theorem tf_go (S : tt_St) (a : Int32) : tf S (f2_goDays S 2 a).2 := tf_fr (fr_goDays S 2 a)
theorem tf_pot (S : tt_St) (a : Int32) : tf S (f2_setPot S 2 a) := tf_tr (tf_up S a) (tf_up _ a)
theorem ci_tf {S S' : tt_St} (h : ci S) (t : tf S S') : ci S' := by
  obtain ⟨h1, h2, h3, h4⟩ := h
  have t3 := t 3 (by decide) (by decide) (by decide)
  refine ⟨fun r hr => ?_, by rw [t3]; exact h2, fun k hk => by rw [t3]; exact h3 k hk, by rw [t 0 (by decide) (by decide) (by decide)]; exact h4⟩
  rw [t r (by omega) (by omega) (by omega)]
  exact h1 r hr
theorem ci_10 {S : tt_St} {v : Int32} (h : ci S) : ci (tt_up S 0 10 v) := by
  obtain ⟨h1, h2, h3, h4⟩ := h
  refine ⟨fun r hr => ?_, by rw [tt_up_row (by decide)]; exact h2, fun k hk => by rw [tt_up_row (by decide)]; exact h3 k hk, by rw [tt_up_ne (by omega)]; exact h4⟩
  rw [tt_up_ne (by omega)]
  exact h1 r hr
theorem tk_rowL {r r2 n' : Nat} (h : n' ≠ r) : ∀ (n : Nat) (S : tt_St) (y : Int32), f2_takeRoom_L2 r r2 n S y n' = S n' := by
  intro n
  induction n with
  | zero => intro S y; rfl
  | succ n ih =>
    intro S y
    rw [f2_takeRoom_L2]
    try dsimp only
    split
    · simp only [tt_up_row h]
    · rw [ih, tk1_row h]
theorem tk_row {S : tt_St} {r r2 n : Nat} (h : n ≠ r) : f2_takeRoom S r r2 n = S n := tk_rowL h _ S _
theorem tf_take (S : tt_St) (r2 : Nat) : tf S (f2_takeRoom S 2 r2) := fun n a _ _ => tk_row a
theorem tk1_at {S : tt_St} {r d r2 k : Nat} (h : r2 ≠ r) : f1_take S r d r2 d r k = if 12 + 7 * d ≤ k ∧ k < 19 + 7 * d then S r2 k else S r k := by
  unfold f1_take
  try dsimp only
  simp only [tt_up_row h]
  by_cases c : 12 + 7 * d ≤ k ∧ k < 19 + 7 * d
  · rw [if_pos c]
    obtain ⟨j, hj, rfl⟩ : ∃ j : Nat, j < 7 ∧ k = 12 + j + 7 * d := ⟨k - 12 - 7 * d, by omega, by omega⟩
    rcases (show j = 0 ∨ j = 1 ∨ j = 2 ∨ j = 3 ∨ j = 4 ∨ j = 5 ∨ j = 6 by omega) with rfl | rfl | rfl | rfl | rfl | rfl | rfl <;> simp [tt_up_at]
  · rw [if_neg c, tt_up_ne (by omega), tt_up_ne (by omega), tt_up_ne (by omega), tt_up_ne (by omega), tt_up_ne (by omega), tt_up_ne (by omega), tt_up_ne (by omega)]
theorem lp_cl1 {x b : Int32} (h0 : ¬ x < 0) (h : ¬ b ≤ x) : (x + 1).toNatClampNeg = x.toNatClampNeg + 1 ∧ x.toNatClampNeg < b.toNatClampNeg := by
  have e := lp_inc h
  rw [lp_lt, lp_0] at h0
  rw [lp_le] at h
  have h1 := cl_int (x := x) (by omega)
  have h2 := cl_int (x := x + 1) (by omega)
  have h3 := cl_int (x := b) (by omega)
  omega
theorem lp_cl2 {x b : Int32} (h : b ≤ x) : b.toNatClampNeg ≤ x.toNatClampNeg := by
  rw [lp_le] at h
  show b.toInt.toNat ≤ x.toInt.toNat
  omega
theorem tk_atL {r r2 : Nat} (h : r2 ≠ r) : ∀ (n : Nat) (S : tt_St) (y : Int32), ¬ y < 0 → lp_mu (S r2 0) y < n → ∀ k : Nat, f2_takeRoom_L2 r r2 n S y r k = if k ≤ 10 then S r2 k else if 12 + 7 * y.toNatClampNeg ≤ k ∧ k < 12 + 7 * (S r2 0).toNatClampNeg then S r2 k else S r k := by
  intro n
  induction n with
  | zero => intro S y _ hm; exact absurd hm (Nat.not_lt_zero _)
  | succ n ih =>
    intro S y h0 hm k
    rw [f2_takeRoom_L2]
    try dsimp only
    by_cases c : S r2 0 ≤ y
    · rw [if_pos c]
      have := lp_cl2 c
      simp only [tt_up_row h]
      by_cases ck : k ≤ 10
      · rw [if_pos ck]
        rcases (show k = 0 ∨ k = 1 ∨ k = 2 ∨ k = 3 ∨ k = 4 ∨ k = 5 ∨ k = 6 ∨ k = 7 ∨ k = 8 ∨ k = 9 ∨ k = 10 by omega) with rfl | rfl | rfl | rfl | rfl | rfl | rfl | rfl | rfl | rfl | rfl <;> simp [tt_up_at]
      · rw [if_neg ck, if_neg (by omega), tt_up_ne (by omega), tt_up_ne (by omega), tt_up_ne (by omega), tt_up_ne (by omega), tt_up_ne (by omega), tt_up_ne (by omega), tt_up_ne (by omega), tt_up_ne (by omega), tt_up_ne (by omega), tt_up_ne (by omega), tt_up_ne (by omega)]
    · rw [if_neg c]
      obtain ⟨e1, e2⟩ := lp_cl1 h0 c
      have er : f1_take S r y.toNatClampNeg r2 y.toNatClampNeg r2 = S r2 := tk1_row h
      rw [ih _ _ (lp_nn h0 c) (by rw [er]; exact lp_dec' c hm), er, e1, tk1_at h]
      by_cases ck : k ≤ 10
      · rw [if_pos ck, if_pos ck]
      · rw [if_neg ck, if_neg ck]
        by_cases c1 : 12 + 7 * (y.toNatClampNeg + 1) ≤ k ∧ k < 12 + 7 * (S r2 0).toNatClampNeg
        · rw [if_pos c1, if_pos (by omega)]
        · rw [if_neg c1]
          by_cases c2 : 12 + 7 * y.toNatClampNeg ≤ k ∧ k < 19 + 7 * y.toNatClampNeg
          · rw [if_pos c2, if_pos (by omega)]
          · rw [if_neg c2, if_neg (by omega)]
theorem tk_at {S : tt_St} {r r2 k : Nat} (h : r2 ≠ r) : f2_takeRoom S r r2 r k = if k ≤ 10 then S r2 k else if 12 ≤ k ∧ k < 12 + 7 * (S r2 0).toNatClampNeg then S r2 k else S r k := tk_atL h _ S 0 (by decide) (Nat.lt_succ_self _) k
theorem tk_lo {S : tt_St} {r r2 k : Nat} (h : r2 ≠ r) (hk : k ≤ 10) : f2_takeRoom S r r2 r k = S r2 k := by rw [tk_at h, if_pos hk]
theorem ad_dr {S : tt_St} {r : Nat} {a b : Int32} (h : ¬ S r 0 < 0) : (f2_addDrinker S r a b).1 < 10 := lp_cl (ad_in h)
theorem mn_le {a b : Int32} {n : Int} (h : a.toInt ≤ n) : (if a < b then a else b).toInt ≤ n := by
  by_cases c : a < b
  · rw [if_pos c]; exact h
  · rw [if_neg c]; rw [lp_lt] at c; omega
theorem wi_iff {a b c : Int32} : ¬ f6_within a b c = 0 ↔ b.toInt ≤ a.toInt ∧ a.toInt ≤ c.toInt := by
  unfold f6_within
  by_cases c1 : a < b
  · rw [if_pos c1]
    rw [lp_lt] at c1
    exact ⟨fun h => absurd rfl h, fun h => by omega⟩
  · rw [if_neg c1]
    rw [lp_lt] at c1
    by_cases c2 : c < a
    · rw [if_pos c2]
      rw [lp_lt] at c2
      exact ⟨fun h => absurd rfl h, fun h => by omega⟩
    · rw [if_neg c2]
      rw [lp_lt] at c2
      exact ⟨fun _ => by omega, fun _ => by decide⟩
theorem wi_in {x lo hi z : Int32} {n : Nat} (e : z = f6_within x lo hi) (h : ¬ z = 0) (hb : 0 ≤ lo.toInt) (hc : hi.toInt < n) : vp_in x n := by
  rw [e] at h
  have := wi_iff.mp h
  rw [vp_in_iff]
  omega
theorem iss_in {x z : Int32} (e : z = f6_isSheet x) (h : ¬ z = 0) : vp_in x 4 := wi_in (show z = f6_within x 0 3 from e) h (by decide) (by decide)
theorem sz_m1 {x : Int32} (h : ¬ x < 0) : (x - (1 : Int32)).toInt = x.toInt - 1 := by
  rw [lp_lt, lp_0] at h
  have := lp_rng x
  rw [lp_sub (by rw [lp_1]; omega) (by rw [lp_1]; omega), lp_1]
theorem dr_iff {S : tt_St} {a : Int32} (h : ¬ S 0 0 < 0) : ¬ f6_isDrinker S a = 0 ↔ 0 ≤ a.toInt ∧ a.toInt < (S 0 0).toInt := by
  show ¬ f6_within a 0 (S 0 0 - 1) = 0 ↔ _
  rw [wi_iff, sz_m1 h, lp_0]
  omega
theorem dr_in {S : tt_St} {a z : Int32} (h : ci S) (e : z = f6_isDrinker S a) (c : ¬ z = 0) : vp_in a 10 := by
  have h0 := h.1 0 (by decide)
  rw [e, dr_iff h0.1] at c
  rw [vp_in_iff]
  omega
theorem wk6_in {S : tt_St} {a : Int32} (h : ci S) (c : ¬ a < 0) (c2 : a < S 0 11) : vp_in a 20 := by
  have := h.2.2.2
  rw [lp_lt, lp_0] at c
  rw [lp_lt] at c2
  rw [vp_in_iff]
  omega
theorem wr6_in {S : tt_St} {a i z : Int32} (h : ci S) (ha : vp_in a 4) (e : z = f6_within i (0 : Int32) ((S 3 (20 + a.toNatClampNeg)) - (1 : Int32))) (c : ¬ z = 0) : vp_in i 40 := by
  have h0 := h.2.2.1 _ (lp_cl ha)
  rw [e, wi_iff, sz_m1 h0.1, lp_0] at c
  rw [vp_in_iff]
  omega
theorem st6_in {a z : Int32} (e : z = f6_within a (-1 : Int32) (6 : Int32)) (h : ¬ z = 0) (c : ¬ a < 0) : vp_in a 7 := by
  rw [e, wi_iff] at h
  have e6 : (6 : Int32).toInt = 6 := rfl
  rw [lp_lt, lp_0] at c
  rw [vp_in_iff]
  omega
theorem has_iff {S : tt_St} {k : Nat} {a n : Int32} (h : ¬ S 3 (20 + k) < 0) : ¬ f3_has S k a n = 0 ↔ 0 ≤ a.toInt ∧ 0 ≤ n.toInt ∧ a.toInt + n.toInt ≤ (S 3 (20 + k)).toInt := by
  unfold f3_has
  rw [lp_lt, lp_0] at h
  by_cases c1 : a < 0
  · rw [if_pos c1]
    rw [lp_lt, lp_0] at c1
    exact ⟨fun h => absurd rfl h, fun h => by omega⟩
  rw [if_neg c1]
  rw [lp_lt, lp_0] at c1
  by_cases c2 : n < 0
  · rw [if_pos c2]
    rw [lp_lt, lp_0] at c2
    exact ⟨fun h => absurd rfl h, fun h => by omega⟩
  rw [if_neg c2]
  rw [lp_lt, lp_0] at c2
  by_cases c3 : S 3 (20 + k) < a
  · rw [if_pos c3]
    rw [lp_lt] at c3
    exact ⟨fun h => absurd rfl h, fun h => by omega⟩
  rw [if_neg c3]
  rw [lp_lt] at c3
  have := lp_rng (S 3 (20 + k))
  have e := lp_sub (a := S 3 (20 + k)) (b := a) (by omega) (by omega)
  by_cases c4 : S 3 (20 + k) - a < n
  · rw [if_pos c4]
    rw [lp_lt, e] at c4
    exact ⟨fun h => absurd rfl h, fun h => by omega⟩
  rw [if_neg c4]
  rw [lp_lt, e] at c4
  exact ⟨fun _ => by omega, fun _ => by decide⟩
theorem has_ok {S : tt_St} {k a n z : Int32} (h : ci S) (hk : vp_in k 4) (e : z = f3_has S k.toNatClampNeg a n) (c : ¬ z = 0) : ¬ a < 0 ∧ ¬ n < 0 ∧ a.toNatClampNeg + n.toNatClampNeg ≤ 40 := by
  have h0 := h.2.2.1 _ (lp_cl hk)
  rw [e, has_iff h0.1] at c
  have h1 := cl_int (x := a) (by omega)
  have h2 := cl_int (x := n) (by omega)
  refine ⟨nn_int c.1, nn_int c.2.1, by omega⟩
theorem cd_neL {a b : Int32} : ∀ (n : Nat) (x y i : Int32), lp_mu (100 : Int32) i < n → ¬ f6_commonDivisor_L13 a b n x y i = 0 := by
  have key : ∀ x : Int32, ¬ (if x < (1 : Int32) then (1 : Int32) else x) = 0 := by
    intro x h
    by_cases c : x < (1 : Int32)
    · rw [if_pos c] at h; exact absurd h (by decide)
    · rw [if_neg c] at h; rw [h] at c; exact c (by decide)
  intro n
  induction n with
  | zero => intro x y i hm; exact absurd hm (Nat.not_lt_zero _)
  | succ n ih =>
    intro x y i hm
    rw [f6_commonDivisor_L13]
    try dsimp only
    by_cases c1 : (100 : Int32) ≤ i
    · rw [if_pos c1]; exact key x
    rw [if_neg c1]
    by_cases c2 : y ≤ 0
    · rw [if_pos c2]; exact key x
    rw [if_neg c2]
    exact ih _ _ _ (lp_dec' c1 hm)
theorem cd_ne {a b z : Int32} (e : z = f6_commonDivisor a b) : ¬ z = 0 := by
  rw [e]
  exact cd_neL _ _ _ _ (Nat.lt_succ_self _)
theorem fd_mu {y : Int32} {n : Nat} (c : ¬ y < 0) (hm : (y.toInt + 1).toNat < n + 1) : ((y + (-1 : Int32)).toInt + 1).toNat < n := by
  rw [lp_lt, lp_0] at c
  rw [lp_m1 (by omega)]
  omega
theorem tp_put {S : tt_St} {v : Int32} (h : ¬ S 3 1 < 0) : ¬ f4_put S v 3 1 < 0 := by
  unfold f4_put
  try dsimp only
  by_cases c : (120 : Int32) ≤ S 3 1
  · rw [if_pos c]; exact h
  · rw [if_neg c, tt_up_self, tt_up_ne (by omega)]
    exact lp_nn h c
theorem tf_last (S : tt_St) (a b : Int32) : tf S (f6_lastBehindWeeks S a b).2 :=
  tf_tr (tf_tr (tf_tr (tf_take S 0) (tf_fr (fr_beginMonday _ 2))) (tf_up _ _)) (tf_go _ _)
theorem bo_X6_within {a b c : Int32} {x : Int32} (h : x = f6_within a b c) : x = 0 ∨ x = 1 := by
  subst h
  unfold f6_within
  repeat' split
  all_goals first | exact Or.inl rfl | exact Or.inr rfl
