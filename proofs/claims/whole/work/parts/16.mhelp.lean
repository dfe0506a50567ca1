theorem in_lt (x y : Int64) : lg_cmp x y < 0 ↔ x.toInt < y.toInt := by
  unfold lg_cmp
  by_cases h1 : x > y
  · rw [if_pos h1]
    have h2 : y.toInt < x.toInt := Int64.lt_iff_toInt_lt.mp h1
    constructor
    · intro h; exact absurd h (by decide)
    · intro h; omega
  · rw [if_neg h1]
    have h2 : ¬ y.toInt < x.toInt := fun z => h1 (Int64.lt_iff_toInt_lt.mpr z)
    by_cases h3 : x = y
    · rw [if_pos h3, h3]
      constructor
      · intro h; exact absurd h (by decide)
      · intro h; omega
    · rw [if_neg h3]
      have h4 : x.toInt ≠ y.toInt := fun z => h3 (Int64.toInt_inj.mp z)
      constructor
      · intro h; omega
      · intro h; decide
theorem in_gt (x y : Int64) : 0 < lg_cmp x y ↔ y.toInt < x.toInt := by
  unfold lg_cmp
  by_cases h1 : x > y
  · rw [if_pos h1]
    have h2 : y.toInt < x.toInt := Int64.lt_iff_toInt_lt.mp h1
    exact ⟨fun _ => h2, fun _ => by decide⟩
  · rw [if_neg h1]
    have h2 : ¬ y.toInt < x.toInt := fun z => h1 (Int64.lt_iff_toInt_lt.mpr z)
    by_cases h3 : x = y
    · rw [if_pos h3]
      exact ⟨fun h => absurd h (by decide), fun h => absurd h h2⟩
    · rw [if_neg h3]
      exact ⟨fun h => absurd h (by decide), fun h => absurd h h2⟩
theorem in_iff (a b c : Int64) : ¬ f7_in a b c = 0 ↔ b.toInt ≤ a.toInt ∧ a.toInt ≤ c.toInt := by
  unfold f7_in
  by_cases h1 : lg_cmp a b < 0
  · rw [if_pos h1]
    rw [in_lt] at h1
    exact ⟨fun h => absurd rfl h, fun h => by omega⟩
  · rw [if_neg h1]
    rw [in_lt] at h1
    by_cases h2 : 0 < lg_cmp a c
    · rw [if_pos h2]
      rw [in_gt] at h2
      exact ⟨fun h => absurd rfl h, fun h => by omega⟩
    · rw [if_neg h2]
      rw [in_gt] at h2
      exact ⟨fun _ => by omega, fun _ => by decide⟩
/-- the same of an int -/
theorem in_iffI {x : Int32} {b c : Int64} : ¬ f7_in x.toInt64 b c = 0 ↔ b.toInt ≤ x.toInt ∧ x.toInt ≤ c.toInt := by
  rw [in_iff, Int32.toInt_toInt64]
theorem in_of {x z : Int32} {b c : Int64} {n : Nat} (e : z = f7_in x.toInt64 b c) (h : ¬ z = 0) (hb : 0 ≤ b.toInt) (hc : c.toInt < n) : vp_in x n := by
  rw [e, in_iffI] at h
  rw [vp_in_iff]
  omega
theorem md_in {S : tt_St} {a z : Int32} (hn : ¬ S 1 0 < 0 ∧ (S 1 0).toInt ≤ 10) (e : z = f7_isDrinker S a) (h : ¬ z = 0) : vp_in a 10 := by
  rw [e] at h
  unfold f7_isDrinker at h
  dsimp only at h
  rw [in_iffI, Int32.toInt_toInt64] at h
  have h0 := hn.1
  rw [lp_lt, lp_0] at h0
  have e1 : (S 1 0 - 1).toInt = (S 1 0).toInt - 1 := by
    have := hn.2
    rw [lp_sub (by rw [lp_1]; omega) (by rw [lp_1]; omega), lp_1]
  have e0 : (0 : Int64).toInt = 0 := rfl
  rw [vp_in_iff]
  omega
theorem dk_in {x : Int32} (h : ¬ x < 0 ∧ x.toInt ≤ 10) (c : ¬ x = (10 : Int32)) : vp_in x 10 := by
  have h0 := h.1
  rw [lp_lt, lp_0] at h0
  have h1 : x.toInt ≠ 10 := fun z => c (Int32.toInt_inj.mp z)
  have := h.2
  rw [vp_in_iff]
  omega
theorem why_in {S : tt_St} {g x z : Int32} (e : z = f7_why S g x) (h : ¬ z < 0) : vp_in z 7 := by
  rw [e] at h ⊢
  unfold f7_why at h ⊢
  dsimp only at h ⊢
  by_cases c1 : g = 0
  · rw [if_pos c1]; unfold vp_in; decide
  · rw [if_neg c1] at h ⊢
    by_cases c2 : f7_isFar S x = 0
    · rw [if_pos c2] at h; exact absurd (by decide) h
    · rw [if_neg c2]; unfold vp_in; decide
theorem whn_in {S : tt_St} {x z : Int32} (e : z = f7_whyNot S x) (h : ¬ z < 0) : vp_in z 7 := by
  rw [e] at h ⊢
  unfold f7_whyNot at h ⊢
  dsimp only at h ⊢
  by_cases c1 : f7_isSheet x = 0
  · rw [if_pos c1]; unfold vp_in; decide
  · rw [if_neg c1] at h ⊢
    by_cases c2 : S 6 x.toNatClampNeg = 0
    · rw [if_pos c2]; unfold vp_in; decide
    · rw [if_neg c2] at h; exact absurd (by decide) h
theorem sh_in {x z : Int32} (e : z = f7_isSheet x) (h : ¬ z = 0) : vp_in x 4 := by
  unfold f7_isSheet at e
  exact in_of e h (by decide) (by decide)
theorem whn_sh {S : tt_St} {x z : Int32} (e : z = f7_whyNot S x) (h : z < 0) : vp_in x 4 := by
  rw [e] at h
  unfold f7_whyNot at h
  dsimp only at h
  by_cases c1 : f7_isSheet x = 0
  · rw [if_pos c1] at h; exact absurd h (by decide)
  · exact sh_in rfl c1
/-! copies -/
theorem cp_rowL {q1 q2 : Nat} {i : Nat} (h : i ≠ q2) : ∀ (n : Nat) (S : tt_St) (y : Int32), f7_copies_L2 q1 q2 n S y i = S i := by
  intro n
  induction n with
  | zero => intro S y; rfl
  | succ n ih =>
    intro S y
    rw [f7_copies_L2]
    dsimp only
    split
    · rfl
    · rw [ih, tt_up_row h]
theorem cp_row {S : tt_St} {q1 q2 i : Nat} (h : i ≠ q2) : f7_copies S q1 q2 i = S i := cp_rowL h _ S _
theorem cp_atL {q1 q2 : Nat} (hq : q1 ≠ q2) : ∀ (n : Nat) (S : tt_St) (y : Int32), ¬ y < 0 → lp_mu (132 : Int32) y < n → ∀ k : Nat, k < 132 → f7_copies_L2 q1 q2 n S y q2 k = if y.toNatClampNeg ≤ k then S q1 k else S q2 k := by
  intro n
  induction n with
  | zero => intro S y _ h; exact absurd h (Nat.not_lt_zero _)
  | succ n ih =>
    intro S y h0 hm k hk
    rw [f7_copies_L2]
    dsimp only
    have e132 : (132 : Int32).toInt = 132 := rfl
    have h00 := h0
    rw [lp_lt, lp_0] at h00
    have hc := cl_int (x := y) (by omega)
    by_cases c : (132 : Int32) ≤ y
    · rw [if_pos c]
      rw [lp_le, e132] at c
      rw [if_neg (by omega)]
    · rw [if_neg c, ih _ _ (lp_nn h0 c) (lp_dec' c hm) k hk]
      have e1 := lp_inc c
      have hc1 := cl_int (x := y + 1) (by omega)
      rw [tt_up_row hq]
      by_cases c1 : (y + 1).toNatClampNeg ≤ k
      · rw [if_pos c1, if_pos (by omega)]
      · rw [if_neg c1]
        by_cases c2 : k = y.toNatClampNeg
        · subst c2
          rw [tt_up_self, if_pos (Nat.le_refl _)]
        · rw [tt_up_ne (by omega), if_neg (by omega)]
theorem cp_at {S : tt_St} {q1 q2 k : Nat} (hq : q1 ≠ q2) (hk : k < 132) : f7_copies S q1 q2 q2 k = S q1 k := by
  have h := cp_atL (q1 := q1) (q2 := q2) hq (lp_mu (132 : Int32) 0 + 1) S 0 (by decide) (Nat.lt_succ_self _) k hk
  rw [if_pos (show (0 : Int32).toNatClampNeg ≤ k from Nat.zero_le _)] at h
  exact h
theorem bg_row {S : tt_St} {i : Nat} (h : i ≠ 2) : f7_begins S i = S i := cp_row h
theorem bg_at {S : tt_St} {k : Nat} (hk : k < 132) : f7_begins S 2 k = S 1 k := cp_at (by decide) hk
theorem en_row {S : tt_St} {i : Nat} (h : i ≠ 1) : f7_ends S i = S i := cp_row h
theorem en_at {S : tt_St} {k : Nat} (hk : k < 132) : f7_ends S 1 k = S 2 k := cp_at (by decide) hk
theorem bg_sz (S : tt_St) : f7_begins S 1 0 = S 1 0 := congrFun (bg_row (by decide)) 0
/-- what was begun is ended: the row is as it was -/
theorem be_sz {S S1 : tt_St} (h : S1 2 = f7_begins S 2) : f7_ends S1 1 0 = S 1 0 := by
  rw [en_at (by decide), h, bg_at (by decide)]
theorem up2 {S : tt_St} {k : Nat} {v : Int32} : (tt_up S 1 k v) 2 = S 2 := tt_up_row (by decide)
theorem be_up {S : tt_St} {k : Nat} {v x : Int32} (h10 : (S 1 0).toInt ≤ 10) (hk : k ≠ 0) : ((tt_up (f7_begins S) 1 k v) 1 0).toInt ≤ 10 := by
  rw [tt_up_ne (by omega), bg_sz]; exact h10
theorem cw_2 {S : tt_St} {k : Nat} {v x : Int32} (h10 : (S 1 0).toInt ≤ 10) (hk : k ≠ 0) : (f7_goesOn (tt_up (f7_begins S) 1 k v) x).2 2 = f7_begins S 2 := by
  rw [(fm_goesOn x (be_up (x := 0) h10 hk)).row (by decide) (by decide), up2]
theorem cw_sz {S : tt_St} {a v x : Int32} (h10 : (S 1 0).toInt ≤ 10) (hk : a.toNatClampNeg ≠ 0) : (f7_comesWith S a v x).2 1 0 = S 1 0 := by
  unfold f7_comesWith
  dsimp only
  exact be_sz (cw_2 h10 hk)
theorem md_2 {S : tt_St} {a x : Int32} (h10 : (S 1 0).toInt ≤ 10) : (f7_goesOn (f7_monday (f7_begins S) a) x).2 2 = f7_begins S 2 := by
  have f := fm_monday a (S := f7_begins S) (by rw [bg_sz]; exact h10)
  rw [(fm_goesOn x (by rw [f.sz, bg_sz]; exact h10)).row (by decide) (by decide), f.row (by decide) (by decide)]
theorem on_2 {S : tt_St} {x : Int32} (h10 : (S 1 0).toInt ≤ 10) : (f7_goesOn (f7_begins S) x).2 2 = f7_begins S 2 := (fm_goesOn x (by rw [bg_sz]; exact h10)).row (by decide) (by decide)
theorem on_sz {S : tt_St} {x : Int32} (h10 : (S 1 0).toInt ≤ 10) : (f7_goesOn (f7_begins S) x).2 1 0 = S 1 0 := by
  rw [(fm_goesOn x (by rw [bg_sz]; exact h10)).sz, bg_sz]
theorem be_sz2 {S : tt_St} {a w v : Int32} (h10 : (S 1 0).toInt ≤ 10) (hk : vp_in a 10) (hw : vp_in w 7) : ((f7_becomes (f7_begins S) a w v) 1 0).toInt ≤ 10 := by
  show ((tt_up (f7_begins S) 1 _ v) 1 0).toInt ≤ 10
  rw [mi_ix hk hw]
  exact be_up (x := 0) h10 (by omega)
theorem kf_2 {S : tt_St} {a w v x : Int32} (h10 : (S 1 0).toInt ≤ 10) (hk : vp_in a 10) (hw : vp_in w 7) : (f7_goesOn (f7_becomes (f7_begins S) a w v) x).2 2 = f7_begins S 2 := by
  have h := be_sz2 (v := v) h10 hk hw
  rw [(fm_goesOn x h).row (by decide) (by decide)]
  exact up2
theorem pf_2 {S : tt_St} {v u x : Int32} (h10 : (S 1 0).toInt ≤ 10) : (f7_goesOn (tt_up (tt_up (f7_begins S) 1 2 v) 1 3 u) x).2 2 = f7_begins S 2 := by
  rw [(fm_goesOn x (by rw [tt_up_ne (by omega), tt_up_ne (by omega), bg_sz]; exact h10)).row (by decide) (by decide), up2, up2]
/-! loops up to a bound and with it -/
theorem lp_ndec {x b : Int32} {n : Nat} (hb : b.toInt ≤ 1000) (h : ¬ b < x) (hn : lp_nu b x < n + 1) : lp_nu b (x + 1) < n := by
  rw [lp_lt] at h
  have := lp_rng x
  have e : (x + 1).toInt = x.toInt + 1 := by rw [lp_add (by rw [lp_1]; omega) (by rw [lp_1]; omega), lp_1]
  rw [lp_nu_eq] at hn ⊢
  omega
theorem lp_nnn {x b : Int32} (hb : b.toInt ≤ 1000) (h0 : ¬ x < 0) (h : ¬ b < x) : ¬ x + 1 < 0 := by
  rw [lp_lt] at h
  rw [lp_lt, lp_0] at h0 ⊢
  have := lp_rng x
  have e : (x + 1).toInt = x.toInt + 1 := by rw [lp_add (by rw [lp_1]; omega) (by rw [lp_1]; omega), lp_1]
  omega
/-! rows of numbers -/
theorem nm_in {a y : Int32} (ha : vp_in a 4) (hy : vp_in y 40) : vp_in (((40 : Int32) * a) + y) 160 := by
  rw [vp_in_iff] at ha hy ⊢
  have h40 : (40 : Int32).toInt = 40 := rfl
  have e1 : ((40 : Int32) * a).toInt = 40 * a.toInt := by rw [lp_mul (by rw [h40]; omega) (by rw [h40]; omega), h40]
  have e2 : (((40 : Int32) * a) + y).toInt = 40 * a.toInt + y.toInt := by rw [lp_add (by rw [e1]; omega) (by rw [e1]; omega), e1]
  omega
theorem nm_in2 {a b y : Int32} (ha : vp_in a 4) (hb : 0 ≤ b.toInt) (hy : 0 ≤ y.toInt) (h : b.toInt + y.toInt < 40) : vp_in ((((40 : Int32) * a) + b) + y) 160 := by
  rw [vp_in_iff] at ha ⊢
  have h40 : (40 : Int32).toInt = 40 := rfl
  have e1 : ((40 : Int32) * a).toInt = 40 * a.toInt := by rw [lp_mul (by rw [h40]; omega) (by rw [h40]; omega), h40]
  have e2 : (((40 : Int32) * a) + b).toInt = 40 * a.toInt + b.toInt := by rw [lp_add (by rw [e1]; omega) (by rw [e1]; omega), e1]
  have e3 : ((((40 : Int32) * a) + b) + y).toInt = 40 * a.toInt + b.toInt + y.toInt := by rw [lp_add (by rw [e2]; omega) (by rw [e2]; omega), e2]
  omega
theorem sp_ix {a : Int32} (ha : vp_in a 10) : ((122 : Int32) + a).toInt = 122 + a.toInt ∧ ((122 : Int32) + a).toNatClampNeg = 122 + a.toNatClampNeg := by
  rw [vp_in_iff] at ha
  have h : (122 : Int32).toInt = 122 := rfl
  have e : ((122 : Int32) + a).toInt = 122 + a.toInt := by rw [lp_add (by rw [h]; omega) (by rw [h]; omega), h]
  have h1 := cl_int (x := a) (by omega)
  have h2 := cl_int (x := (122 : Int32) + a) (by omega)
  omega
theorem sp_in {a : Int32} (ha : vp_in a 10) : vp_in ((122 : Int32) + a) 132 := by
  have := (sp_ix ha).1
  rw [vp_in_iff] at ha ⊢
  omega
theorem as_in {S : tt_St} {a x : Int32} (h : mi S) (ha : vp_in a 10) (e : x = S 1 ((122 : Int32) + a).toNatClampNeg) (c : 0 ≤ x) : vp_in x 10 := by
  have h1 := h.2.2.2.2 a.toNatClampNeg (lp_cl ha)
  rw [(sp_ix ha).2] at e
  rw [← e] at h1
  rw [lp_le, lp_0] at c
  rw [vp_in_iff]
  omega
theorem wk_in {a b : Int32} (ha : 0 ≤ a.toInt) (ha2 : a.toInt < 20) (hb : vp_in b 2) : vp_in (((82 : Int32) + ((2 : Int32) * a)) + b) 132 := by
  rw [vp_in_iff] at hb ⊢
  have h2 : (2 : Int32).toInt = 2 := rfl
  have h82 : (82 : Int32).toInt = 82 := rfl
  have e1 : ((2 : Int32) * a).toInt = 2 * a.toInt := by rw [lp_mul (by rw [h2]; omega) (by rw [h2]; omega), h2]
  have e2 : ((82 : Int32) + ((2 : Int32) * a)).toInt = 82 + 2 * a.toInt := by rw [lp_add (by rw [h82, e1]; omega) (by rw [h82, e1]; omega), h82, e1]
  have e3 : (((82 : Int32) + ((2 : Int32) * a)) + b).toInt = 82 + 2 * a.toInt + b.toInt := by rw [lp_add (by rw [e2]; omega) (by rw [e2]; omega), e2]
  omega
theorem wk_i {a : Int32} (ha : 0 ≤ a.toInt) (ha2 : a.toInt < 20) : vp_in ((82 : Int32) + ((2 : Int32) * a)) 132 ∧ vp_in (((82 : Int32) + ((2 : Int32) * a)) + (1 : Int32)) 132 ∧ ((82 : Int32) + ((2 : Int32) * a)).toNatClampNeg = 82 + 2 * a.toNatClampNeg ∧ (((82 : Int32) + ((2 : Int32) * a)) + (1 : Int32)).toNatClampNeg = 83 + 2 * a.toNatClampNeg := by
  have h2 : (2 : Int32).toInt = 2 := rfl
  have h82 : (82 : Int32).toInt = 82 := rfl
  have e1 : ((2 : Int32) * a).toInt = 2 * a.toInt := by rw [lp_mul (by rw [h2]; omega) (by rw [h2]; omega), h2]
  have e2 : ((82 : Int32) + ((2 : Int32) * a)).toInt = 82 + 2 * a.toInt := by rw [lp_add (by rw [h82, e1]; omega) (by rw [h82, e1]; omega), h82, e1]
  have e3 : (((82 : Int32) + ((2 : Int32) * a)) + 1).toInt = 83 + 2 * a.toInt := by rw [lp_add (by rw [e2, lp_1]; omega) (by rw [e2, lp_1]; omega), e2, lp_1]; omega
  have z := cl_int (x := a) (by omega)
  have z1 := cl_int (x := (82 : Int32) + ((2 : Int32) * a)) (by omega)
  have z2 := cl_int (x := ((82 : Int32) + ((2 : Int32) * a)) + (1 : Int32)) (by omega)
  rw [vp_in_iff, vp_in_iff]
  omega
/-- a sum of a week's numbers, so far -/
theorem ea_add {S : tt_St} {x y : Int32} {k : Nat} (h : mi S) (hk : k < 40) (hy : 0 ≤ y.toInt ∧ y.toInt < 20) (hx : 0 ≤ x.toInt ∧ x.toInt ≤ 1000000 * y.toInt) : 0 ≤ (x + S 1 (82 + k)).toInt ∧ (x + S 1 (82 + k)).toInt ≤ 1000000 * (y.toInt + 1) := by
  have h1 := h.2.2.2.1.2 k hk
  have e : (x + S 1 (82 + k)).toInt = x.toInt + (S 1 (82 + k)).toInt := lp_add (by omega) (by omega)
  omega
theorem gc_pos : ∀ (n : Nat) (a0 a1 x y : Int32), ¬ x < 0 → ¬ y < 0 → y.toNatClampNeg < n → ¬ (x = 0 ∧ y = 0) → ¬ f7_common_L4 a0 a1 n x y = 0 := by
  intro n
  induction n with
  | zero => intro a0 a1 x y _ _ h; exact absurd h (Nat.not_lt_zero _)
  | succ n ih =>
    intro a0 a1 x y hx hy hm hne
    rw [f7_common_L4]
    dsimp only
    by_cases c : y = 0
    · rw [if_pos c]; exact fun z => hne ⟨z, c⟩
    · rw [if_neg c]
      exact ih a0 a1 _ _ hy (gc_nn hx hy c) (gc_mu hx hy c hm) (fun z => c z.1)
theorem gc_ne {x y : Int32} (hx : ¬ x < 0) (hy : ¬ y < 0) (c : ¬ y = 0) : ¬ f7_common x y = 0 := gc_pos _ _ _ _ _ hx hy (Nat.lt_succ_self _) (fun z => c z.2)
theorem nn_int {x : Int32} (h : 0 ≤ x.toInt) : ¬ x < 0 := by rw [lp_lt, lp_0]; omega
theorem int_nn {x : Int32} (h : ¬ x < 0) : 0 ≤ x.toInt := by rw [lp_lt, lp_0] at h; omega
theorem dn_mu {x : Int32} {n : Nat} (c : ¬ x ≤ 0) (h : x.toNatClampNeg < n + 1) : (x + (-1 : Int32)).toNatClampNeg < n := bk_mu c h
theorem ea_lt {S S1 : tt_St} {y : Int32} (h : mi S) (e : S1 = S) (c : ¬ S1 1 11 ≤ y) : y.toInt < 20 := by
  have := h.2.2.2.1.1
  rw [lp_le, e] at c
  omega
theorem ea_step {S S1 : tt_St} {x z y : Int32} (h : mi S) (hI : ((¬ y < 0) ∧ S1 = S) ∧ (0 ≤ x.toInt ∧ x.toInt ≤ 1000000 * y.toInt) ∧ (0 ≤ z.toInt ∧ z.toInt ≤ 1000000 * y.toInt)) (c : ¬ S1 1 11 ≤ y) :
    ((¬ y + 1 < 0) ∧ S1 = S) ∧ (0 ≤ (x + S1 1 (((82 : Int32) + ((2 : Int32) * y)) + (1 : Int32)).toNatClampNeg).toInt ∧ (x + S1 1 (((82 : Int32) + ((2 : Int32) * y)) + (1 : Int32)).toNatClampNeg).toInt ≤ 1000000 * (y + 1).toInt) ∧ (0 ≤ (z + S1 1 ((82 : Int32) + ((2 : Int32) * y)).toNatClampNeg).toInt ∧ (z + S1 1 ((82 : Int32) + ((2 : Int32) * y)).toNatClampNeg).toInt ≤ 1000000 * (y + 1).toInt) := by
  obtain ⟨⟨h0, rfl⟩, hx, hz⟩ := hI
  have hy := ea_lt h rfl c
  have hy0 := int_nn h0
  obtain ⟨-, -, e1, e2⟩ := wk_i hy0 hy
  have hc := cl_int hy0
  rw [e1, e2, lp_inc c, show 83 + 2 * y.toNatClampNeg = 82 + (1 + 2 * y.toNatClampNeg) by omega]
  exact ⟨⟨lp_nn h0 c, rfl⟩, ea_add h (by omega) ⟨hy0, hy⟩ hx, ea_add h (by omega) ⟨hy0, hy⟩ hz⟩
