/-! what the reference's days leave alone -/
def mm_al (k : Nat) : Prop := k = 3 ∨ k = 4 ∨ (6 ≤ k ∧ k ≤ 11) ∨ (12 ≤ k ∧ k < 82 ∧ ((k - 12) % 7 = 2 ∨ 4 ≤ (k - 12) % 7)) ∨ (82 ≤ k ∧ k < 122)
def mm_fr (S S' : tt_St) : Prop := ∀ n k : Nat, (n = 1 → ¬ mm_al k) → (n = 0 → k ≠ 7 ∧ k ≠ 8) → S' n k = S n k
theorem fm_rfl (S : tt_St) : mm_fr S S := fun _ _ _ _ => rfl
theorem fm_tr {S S1 S2 : tt_St} (h1 : mm_fr S S1) (h2 : mm_fr S1 S2) : mm_fr S S2 := fun n k a b => (h2 n k a b).trans (h1 n k a b)
theorem fm_up {k : Nat} (S : tt_St) (v : Int32) (hk : mm_al k) : mm_fr S (tt_up S 1 k v) := fun n j a _ => tt_up_ne (fun h => a h.1 (by rw [h.2]; exact hk))
theorem fm_u0 {k : Nat} (S : tt_St) (v : Int32) (hk : k = 7 ∨ k = 8) : mm_fr S (tt_up S 0 k v) := fun n j _ b => tt_up_ne (fun h => by have := b h.1; omega)
theorem ma_c {j : Nat} (h : j = 3 ∨ j = 4 ∨ (6 ≤ j ∧ j ≤ 11) ∨ (82 ≤ j ∧ j < 122)) : mm_al j := by unfold mm_al; omega
theorem mm_fr.sz {S S' : tt_St} (h : mm_fr S S') : S' 1 0 = S 1 0 := h 1 0 (fun _ => by unfold mm_al; omega) (by omega)
theorem mm_fr.row {n : Nat} {S S' : tt_St} (h : mm_fr S S') (h1 : n ≠ 1) (h2 : n ≠ 0) : S' n = S n := funext fun k => h n k (fun z => absurd z h1) (fun z => absurd z h2)
/-- a drinker's place in the row -/
theorem mi_int {k w : Int32} (hk : vp_in k 10) (hw : vp_in w 7) : (((12 : Int32) + ((7 : Int32) * k)) + w).toInt = 12 + 7 * k.toInt + w.toInt := by
  rw [vp_in_iff] at hk hw
  have h7 : (7 : Int32).toInt = 7 := rfl
  have h12 : (12 : Int32).toInt = 12 := rfl
  have e1 : ((7 : Int32) * k).toInt = 7 * k.toInt := by
    rw [lp_mul (by rw [h7]; omega) (by rw [h7]; omega), h7]
  have e2 : ((12 : Int32) + ((7 : Int32) * k)).toInt = 12 + 7 * k.toInt := by
    rw [lp_add (by rw [h12, e1]; omega) (by rw [h12, e1]; omega), h12, e1]
  rw [lp_add (by rw [e2]; omega) (by rw [e2]; omega), e2]
theorem cl_int {x : Int32} (h : 0 ≤ x.toInt) : (x.toNatClampNeg : Int) = x.toInt := by
  show ((x.toInt.toNat : Nat) : Int) = x.toInt
  omega
theorem mi_ix {k w : Int32} (hk : vp_in k 10) (hw : vp_in w 7) : (((12 : Int32) + ((7 : Int32) * k)) + w).toNatClampNeg = 12 + 7 * k.toNatClampNeg + w.toNatClampNeg := by
  have e := mi_int hk hw
  rw [vp_in_iff] at hk hw
  have h1 := cl_int (x := k) (by omega)
  have h2 := cl_int (x := w) (by omega)
  have h3 := cl_int (x := ((12 : Int32) + ((7 : Int32) * k)) + w) (by omega)
  omega
theorem mi_in {k w : Int32} (hk : vp_in k 10) (hw : vp_in w 7) : vp_in (((12 : Int32) + ((7 : Int32) * k)) + w) 132 := by
  have e := mi_int hk hw
  rw [vp_in_iff] at hk hw ⊢
  omega
theorem fm_becomes {S : tt_St} {k w v : Int32} (hk : vp_in k 10) (hw : w = 2 ∨ w = 4 ∨ w = 5 ∨ w = 6) : mm_fr S (f7_becomes S k w v) := by
  have hw7 : vp_in w 7 := by
    rcases hw with rfl | rfl | rfl | rfl <;> (unfold vp_in; decide)
  have hc : w.toNatClampNeg = 2 ∨ w.toNatClampNeg = 4 ∨ w.toNatClampNeg = 5 ∨ w.toNatClampNeg = 6 := by
    rcases hw with rfl | rfl | rfl | rfl <;> decide
  have hk10 := lp_cl hk
  refine fm_up S v ?_
  rw [mi_ix hk hw7]
  unfold mm_al
  omega
theorem fm_drawn (S : tt_St) : mm_fr S (f7_drawn S).2 := fm_up S _ (ma_c (by omega))
theorem fm_pays (S : tt_St) {k : Int32} (a : Int32) (hk : vp_in k 10) : mm_fr S (f7_pays S k a) :=
  fm_tr (fm_tr (fm_tr (fm_tr (fm_becomes hk (by decide)) (fm_becomes hk (by decide))) (fm_up _ _ (ma_c (by omega)))) (fm_up _ _ (ma_c (by omega)))) (fm_u0 _ _ (by omega))
theorem fm_forgets (S : tt_St) {k : Int32} (hk : vp_in k 10) : mm_fr S (f7_forgets S k) := by
  unfold f7_forgets
  dsimp only
  split
  · exact fm_drawn S
  · exact fm_tr (fm_drawn S) (fm_pays _ _ hk)
theorem fm_paysFor (S : tt_St) {k : Int32} (a : Int32) (hk : vp_in k 10) : mm_fr S (f7_paysFor S k a) := by
  unfold f7_paysFor
  dsimp only
  repeat' split
  all_goals
    with_reducible first
      | exact fm_rfl _
      | exact fm_pays _ _ hk
      | exact fm_forgets _ hk
      | exact fm_becomes hk (by decide)
theorem fm_hasCup (S : tt_St) (k : Int32) : mm_fr S (f7_hasCup S k).2 := by
  unfold f7_hasCup
  dsimp only
  repeat' split
  · exact fm_tr (fm_up S _ (ma_c (by omega))) (fm_up _ _ (ma_c (by omega)))
  · exact fm_tr (fm_tr (fm_drawn S) (fm_up _ _ (ma_c (by omega)))) (fm_up _ _ (ma_c (by omega)))
  · exact fm_tr (fm_tr (fm_drawn S) (fm_up _ _ (ma_c (by omega)))) (fm_up _ _ (ma_c (by omega)))
  · exact fm_rfl S
theorem fm_drinksL {k : Int32} (hk : vp_in k 10) : ∀ (n : Nat) (S : tt_St) (x y : Int32), mm_fr S (f7_drinks_L28 k n S x y) := by
  intro n
  induction n with
  | zero => intro S x y; exact fm_rfl S
  | succ n ih =>
    intro S x y
    rw [f7_drinks_L28]
    dsimp only
    repeat' split
    · exact fm_rfl S
    · exact fm_hasCup S k
    · exact fm_tr (fm_tr (fm_tr (fm_tr (fm_tr (fm_hasCup S k) (fm_up _ _ (ma_c (by omega)))) (fm_becomes hk (by decide))) (fm_u0 _ _ (by omega))) (fm_paysFor _ _ hk)) (ih _ _ _)
    · exact fm_tr (fm_tr (fm_tr (fm_tr (fm_tr (fm_hasCup S k) (fm_up _ _ (ma_c (by omega)))) (fm_becomes hk (by decide))) (fm_u0 _ _ (by omega))) (fm_paysFor _ _ hk)) (ih _ _ _)
theorem fm_drinks (S : tt_St) {k : Int32} (hk : vp_in k 10) : mm_fr S (f7_drinks S k) := by
  unfold f7_drinks
  dsimp only
  split <;> exact fm_drinksL hk _ _ _ _
theorem fm_sL266 : ∀ (n : Nat) (S : tt_St) (y : Int32), ¬ y < 0 → (S 1 0).toInt ≤ 10 → mm_fr S (f7_settles_L266 n S y) := by
  intro n
  induction n with
  | zero => intro S y _ _; exact fm_rfl S
  | succ n ih =>
    intro S y h0 h10
    rw [f7_settles_L266]
    dsimp only
    split
    · exact fm_rfl S
    · rename_i c
      have hk := lp_in h0 c h10
      have f := fm_tr (fm_becomes (S := S) (v := 0) hk (by decide : (5 : Int32) = 2 ∨ (5 : Int32) = 4 ∨ (5 : Int32) = 5 ∨ (5 : Int32) = 6)) (fm_becomes (v := 0) hk (by decide : (6 : Int32) = 2 ∨ (6 : Int32) = 4 ∨ (6 : Int32) = 5 ∨ (6 : Int32) = 6))
      exact fm_tr f (ih _ _ (lp_nn h0 c) (by rw [f.sz]; exact h10))
theorem bk_int {y : Int32} (h0 : 0 < y.toInt) (h1 : y.toInt ≤ 19) : ((82 : Int32) + ((2 : Int32) * y)).toInt = 82 + 2 * y.toInt ∧ (((82 : Int32) + ((2 : Int32) * y)) - (2 : Int32)).toInt = 80 + 2 * y.toInt ∧ (((82 : Int32) + ((2 : Int32) * y)) - (1 : Int32)).toInt = 81 + 2 * y.toInt ∧ (((82 : Int32) + ((2 : Int32) * y)) + (1 : Int32)).toInt = 83 + 2 * y.toInt := by
  have h2 : (2 : Int32).toInt = 2 := rfl
  have h82 : (82 : Int32).toInt = 82 := rfl
  have e1 : ((2 : Int32) * y).toInt = 2 * y.toInt := by rw [lp_mul (by rw [h2]; omega) (by rw [h2]; omega), h2]
  have e2 : ((82 : Int32) + ((2 : Int32) * y)).toInt = 82 + 2 * y.toInt := by rw [lp_add (by rw [h82, e1]; omega) (by rw [h82, e1]; omega), h82, e1]
  refine ⟨e2, ?_, ?_, ?_⟩
  · rw [lp_sub (by rw [e2, h2]; omega) (by rw [e2, h2]; omega), e2, h2]; omega
  · rw [lp_sub (by rw [e2, lp_1]; omega) (by rw [e2, lp_1]; omega), e2, lp_1]; omega
  · rw [lp_add (by rw [e2, lp_1]; omega) (by rw [e2, lp_1]; omega), e2, lp_1]; omega
theorem lp_m1 {y : Int32} (h : 0 ≤ y.toInt) : (y + (-1 : Int32)).toInt = y.toInt - 1 := by
  have e : (-1 : Int32).toInt = -1 := rfl
  have := lp_rng y
  rw [lp_add (by rw [e]; omega) (by rw [e]; omega), e]
  omega
theorem fm_sL84 : ∀ (n : Nat) (S : tt_St) (x y : Int32), y.toInt ≤ 19 → (S 1 0).toInt ≤ 10 → mm_fr S (f7_settles_L84 n S x y) := by
  intro n
  induction n with
  | zero => intro S x y _ _; exact fm_rfl S
  | succ n ih =>
    intro S x y h19 h10
    have fin : ∀ (S1 : tt_St) (m : Nat), mm_fr S S1 → mm_fr S (f7_settles_L266 m S1 0) := fun S1 m f => fm_tr f (fm_sL266 m S1 0 (by decide) (by rw [f.sz]; exact h10))
    rw [f7_settles_L84]
    dsimp only
    repeat' split
    · exact fin _ _ (fm_tr (fm_tr (fm_tr (fm_tr (fm_up S _ (ma_c (by omega))) (fm_up _ _ (ma_c (by omega)))) (fm_up _ _ (ma_c (by omega)))) (fm_up _ _ (ma_c (by omega)))) (fm_up _ _ (ma_c (by omega))))
    · exact fin _ _ (fm_tr (fm_tr (fm_tr (fm_tr (fm_up S _ (ma_c (by omega))) (fm_up _ _ (ma_c (by omega)))) (fm_up _ _ (ma_c (by omega)))) (fm_up _ _ (ma_c (by omega)))) (fm_up _ _ (ma_c (by omega))))
    · exact fin _ _ (fm_tr (fm_tr (fm_tr (fm_tr (fm_up S _ (ma_c (by omega))) (fm_up _ _ (ma_c (by omega)))) (fm_up _ _ (ma_c (by omega)))) (fm_up _ _ (ma_c (by omega)))) (fm_up _ _ (ma_c (by omega))))
    · rename_i c
      rw [lp_le, lp_0] at c
      obtain ⟨e1, e2, e3, e4⟩ := bk_int (y := y) (by omega) h19
      have z1 := cl_int (x := (82 : Int32) + ((2 : Int32) * y)) (by omega)
      have z4 := cl_int (x := ((82 : Int32) + ((2 : Int32) * y)) + (1 : Int32)) (by omega)
      have f := fm_tr (fm_up S (S 1 (((82 : Int32) + ((2 : Int32) * y)) - (2 : Int32)).toNatClampNeg) (ma_c (j := ((82 : Int32) + ((2 : Int32) * y)).toNatClampNeg) (by omega))) (fm_up _ ((tt_up S 1 ((82 : Int32) + ((2 : Int32) * y)).toNatClampNeg (S 1 (((82 : Int32) + ((2 : Int32) * y)) - (2 : Int32)).toNatClampNeg)) 1 (((82 : Int32) + ((2 : Int32) * y)) - (1 : Int32)).toNatClampNeg) (ma_c (j := (((82 : Int32) + ((2 : Int32) * y)) + (1 : Int32)).toNatClampNeg) (by omega)))
      exact fm_tr f (ih _ _ _ (by rw [lp_m1 (by omega)]; omega) (by rw [f.sz]; exact h10))
theorem fm_sL2 : ∀ (n : Nat) (S : tt_St) (y : Int32), ¬ y < 0 → (S 1 0).toInt ≤ 10 → mm_fr S (f7_settles_L2 n S y) := by
  intro n
  induction n with
  | zero => intro S y _ _; exact fm_rfl S
  | succ n ih =>
    intro S y h0 h10
    rw [f7_settles_L2]
    dsimp only
    by_cases c : S 1 0 ≤ y
    · rw [if_pos c]
      exact fm_sL84 _ _ _ _ (by decide) h10
    rw [if_neg c]
    have hk := lp_in h0 c h10
    repeat' split
    · have f := fm_tr (fm_pays S (f7_least (f7_its S y 4) (f7_its S y 2)) hk) (fm_becomes (v := f7_its (f7_pays S y (f7_least (f7_its S y 4) (f7_its S y 2))) y 4 - f7_least (f7_its S y 4) (f7_its S y 2)) hk (by decide : (4 : Int32) = 2 ∨ (4 : Int32) = 4 ∨ (4 : Int32) = 5 ∨ (4 : Int32) = 6))
      exact fm_tr f (ih _ _ (lp_nn h0 c) (by rw [f.sz]; exact h10))
    · have f := fm_tr (fm_pays S (f7_least (f7_its S y 4) (f7_its S y 2)) hk) (fm_becomes (v := f7_its (f7_pays S y (f7_least (f7_its S y 4) (f7_its S y 2))) y 4 - f7_least (f7_its S y 4) (f7_its S y 2)) hk (by decide : (4 : Int32) = 2 ∨ (4 : Int32) = 4 ∨ (4 : Int32) = 5 ∨ (4 : Int32) = 6))
      exact fm_tr f (ih _ _ (lp_nn h0 c) (by rw [f.sz]; exact h10))
    · exact ih _ _ (lp_nn h0 c) h10
theorem fm_settles {S : tt_St} (h10 : (S 1 0).toInt ≤ 10) : mm_fr S (f7_settles S) := fm_sL2 _ S _ (by decide) h10
theorem fm_goesByL : ∀ (n : Nat) (S : tt_St) (y : Int32), ¬ y < 0 → (S 1 0).toInt ≤ 10 → mm_fr S (f7_goesBy_L2 n S y) := by
  intro n
  induction n with
  | zero => intro S y _ _; exact fm_rfl S
  | succ n ih =>
    intro S y h0 h10
    rw [f7_goesBy_L2]
    dsimp only
    have f1 := fm_up S (S 1 2) (ma_c (j := 3) (by omega))
    repeat' split
    · exact fm_tr (fm_tr f1 (fm_settles (by rw [f1.sz]; exact h10))) (fm_up _ _ (ma_c (by omega)))
    · exact fm_tr f1 (fm_up _ _ (ma_c (by omega)))
    · rename_i c
      have f := fm_drinks S (lp_in h0 c h10)
      exact fm_tr f (ih _ _ (lp_nn h0 c) (by rw [f.sz]; exact h10))
theorem fm_goesBy {S : tt_St} (h10 : (S 1 0).toInt ≤ 10) : mm_fr S (f7_goesBy S) := fm_goesByL _ S _ (by decide) h10
theorem fm_goesOnL (a : Int32) : ∀ (n : Nat) (S : tt_St) (y : Int32), (S 1 0).toInt ≤ 10 → mm_fr S (f7_goesOn_L12 a n S y).2 := by
  intro n
  induction n with
  | zero => intro S y _; exact fm_rfl S
  | succ n ih =>
    intro S y h10
    rw [f7_goesOn_L12]
    dsimp only
    split
    · exact fm_rfl S
    · have f := fm_goesBy h10
      exact fm_tr f (ih _ _ (by rw [f.sz]; exact h10))
theorem fm_goesOn {S : tt_St} (a : Int32) (h10 : (S 1 0).toInt ≤ 10) : mm_fr S (f7_goesOn S a).2 := by
  have f := fm_tr (fm_u0 S 0 (k := 7) (by omega)) (fm_u0 (tt_up S 0 7 0) 0 (k := 8) (by omega))
  exact fm_tr f (fm_goesOnL a _ _ _ (by rw [f.sz]; exact h10))
theorem fm_mondayL (a : Int32) : ∀ (n : Nat) (S : tt_St) (y : Int32), ¬ y < 0 → (S 1 0).toInt ≤ 10 → mm_fr S (f7_monday_L26 a n S y) := by
  intro n
  induction n with
  | zero => intro S y _ _; exact fm_rfl S
  | succ n ih =>
    intro S y h0 h10
    rw [f7_monday_L26]
    dsimp only
    split
    · exact fm_rfl S
    · rename_i c
      have hk := lp_in h0 c h10
      have f := fm_tr (fm_becomes (S := S) (v := 0) hk (by decide : (5 : Int32) = 2 ∨ (5 : Int32) = 4 ∨ (5 : Int32) = 5 ∨ (5 : Int32) = 6)) (fm_becomes (v := 0) hk (by decide : (6 : Int32) = 2 ∨ (6 : Int32) = 4 ∨ (6 : Int32) = 5 ∨ (6 : Int32) = 6))
      exact fm_tr f (ih _ _ (lp_nn h0 c) (by rw [f.sz]; exact h10))
theorem fm_monday {S : tt_St} (a : Int32) (h10 : (S 1 0).toInt ≤ 10) : mm_fr S (f7_monday S a) := by
  have f := fm_tr (fm_tr (fm_up S a (ma_c (j := 6) (by omega))) (fm_up _ 0 (ma_c (j := 7) (by omega)))) (fm_up _ 0 (ma_c (j := 9) (by omega)))
  exact fm_tr f (fm_mondayL a _ _ _ (by decide) (by rw [f.sz]; exact h10))
