/-! a week's end, a day, days: both sides -/
theorem FIN_at {A : tt_St} {z L : Int32} {k : Nat} : FIN A z L 1 k = if k = 9 then 0 else if k = 6 then L else if k = 11 then f7_least (20 : Int32) (A 1 11 + (1 : Int32)) else if k = 83 then A 1 9 else if k = 82 then z else A 1 k := by
  unfold FIN
  rw [tt_up_at]
  by_cases c1 : k = 9
  · rw [if_pos ⟨rfl, c1⟩, if_pos c1]
  rw [if_neg (fun q => c1 q.2), if_neg c1, tt_up_at]
  by_cases c2 : k = 6
  · rw [if_pos ⟨rfl, c2⟩, if_pos c2]
  rw [if_neg (fun q => c2 q.2), if_neg c2, tt_up_at]
  by_cases c3 : k = 11
  · rw [if_pos ⟨rfl, c3⟩, if_pos c3]
  rw [if_neg (fun q => c3 q.2), if_neg c3, tt_up_at]
  by_cases c4 : k = 83
  · rw [if_pos ⟨rfl, c4⟩, if_pos c4]
  rw [if_neg (fun q => c4 q.2), if_neg c4, tt_up_at]
  by_cases c5 : k = 82
  · rw [if_pos ⟨rfl, c5⟩, if_pos c5]
  rw [if_neg (fun q => c5 q.2), if_neg c5]
theorem FIN_row {A : tt_St} {z L : Int32} {n : Nat} (h : n ≠ 1) : FIN A z L n = A n := by
  unfold FIN
  rw [tt_up_row h, tt_up_row h, tt_up_row h, tt_up_row h, tt_up_row h]
theorem zf_out {f : Nat → Int32} {a n k : Nat} (h : ¬ ((12 + 7 * a ≤ k ∧ k < 12 + 7 * n) ∧ ((k - 12) % 7 = 5 ∨ (k - 12) % 7 = 6))) : zf f a n k = f k := if_neg h
theorem zf_in {f : Nat → Int32} {a n k : Nat} (h : (12 + 7 * a ≤ k ∧ k < 12 + 7 * n) ∧ ((k - 12) % 7 = 5 ∨ (k - 12) % 7 = 6)) : zf f a n k = 0 := if_pos h
def bkb (M : tt_St) : Prop := (0 ≤ (M 1 11).toInt ∧ (M 1 11).toInt ≤ 20) ∧ ∀ k : Nat, k < 40 → 0 ≤ (M 1 (82 + k)).toInt ∧ (M 1 (82 + k)).toInt ≤ 1000000
theorem wk_end {r n : Nat} {b : Prop} {u v : Int32} {S M : tt_St} {E : Nat → Int} {w q : Int} (hr : r < 3) (hS : SR r b u v S M) (h : bM n E (fun _ => w) (fun _ => q) M) (hw : w ≤ 100000) (hq : q ≤ 100000) (hb : bkb M) :
    SR r b u v (ENDC r S) (f7_settles_L84 (lp_k 20) M (f7_sumOf M (5 : Int32)) (19 : Int32)) ∧ bM n E (fun _ => 0) (fun _ => 0) (f7_settles_L84 (lp_k 20) M (f7_sumOf M (5 : Int32)) (19 : Int32)) ∧ f7_settles_L84 (lp_k 20) M (f7_sumOf M (5 : Int32)) (19 : Int32) 1 7 = M 1 7 ∧ bkb (f7_settles_L84 (lp_k 20) M (f7_sumOf M (5 : Int32)) (19 : Int32)) := by
  have hn := bM_n h
  have h10 := h.1.2
  have hsz := h.1.1
  have hs10 : (M 1 0).toInt ≤ 10 := by omega
  have hpr := h.2.1
  have hdk := h.2.2.2.2.2.1
  have hc9 := h.2.2.2.2.2.2.1
  have hz : (f7_sumOf M (5 : Int32)).toInt = gs (M 1) 17 n := sum_gs hsz h10 (fun k hk => its_5 hk) (fun d hd => by have q := hdk d hd; unfold dk at q; dsimp only at q; omega)
  have hzb := gs_bd (f := M 1) (b := 17) (lo := 0) (hi := 100000) (n := n) (fun d hd => by have q := hdk d hd; unfold dk at q; dsimp only at q; omega)
  have hc : (f7_sumOf M (6 : Int32)).toInt = gs (M 1) 18 n := sum_gs hsz h10 (fun k hk => its_6 hk) (fun d hd => by have q := hdk d hd; unfold dk at q; dsimp only at q; omega)
  have hcb := gs_bd (f := M 1) (b := 18) (lo := 0) (hi := 100000) (n := n) (fun d hd => by have q := hdk d hd; unfold dk at q; dsimp only at q; omega)
  have ec : f7_sumOf M (6 : Int32) = M 1 9 := Int32.toInt_inj.mp (by rw [hc, hc9])
  have e5 := sr_sum hS.1 hs10 (by omega) (j := (5 : Int32)) (by unfold vp_in; decide)
  have e6 := sr_sum hS.1 hs10 (by omega) (j := (6 : Int32)) (by unfold vp_in; decide)
  generalize hzz : f7_sumOf M (5 : Int32) = z at *
  rw [ec] at e6
  -- the reference
  have eA : ∀ k : Nat, k < 84 → tt_upR M 1 (sh (M 1) 19) 1 k = M 1 k := fun k hk => by
    rw [tt_upR_self]
    unfold sh
    rw [if_neg (by omega)]
  have eR : f7_settles_L84 (lp_k 20) M z (19 : Int32) = tt_upR (FIN (tt_upR M 1 (sh (M 1) 19)) z (lastM (M 1 1) z (M 1 9))) 1 (zf (FIN (tt_upR M 1 (sh (M 1) 19)) z (lastM (M 1 1) z (M 1 9)) 1) 0 n) := by
    rw [sh_L84 z (lp_k 20) M (19 : Int32) (by decide) (by decide) (by rw [lp_k_eq]; decide), show (19 : Int32).toNatClampNeg = 19 from by decide]
    unfold fin84
    rw [eA 1 (by omega), eA 9 (by omega)]
    have e0 : FIN (tt_upR M 1 (sh (M 1) 19)) z (lastM (M 1 1) z (M 1 9)) 1 0 = M 1 0 := by
      rw [FIN_at, if_neg (by omega), if_neg (by omega), if_neg (by omega), if_neg (by omega), if_neg (by omega), eA 0 (by omega)]
    exact z266 h10 _ _ (0 : Int32) (by rw [e0]; exact hsz) (by decide) (Nat.lt_succ_self _)
  rw [eR]
  generalize hL : lastM (M 1 1) z (M 1 9) = L at *
  have hR : ∀ k : Nat, k < 82 → k ≠ 6 → k ≠ 9 → k ≠ 11 → FIN (tt_upR M 1 (sh (M 1) 19)) z L 1 k = M 1 k := fun k h1 h2 h3 h4 => by
    rw [FIN_at, if_neg h3, if_neg h2, if_neg h4, if_neg (by omega), if_neg (by omega), eA k (by omega)]
  have hR82 : ∀ i : Nat, i < 20 → zf (FIN (tt_upR M 1 (sh (M 1) 19)) z L 1) 0 n (82 + 2 * i) = if i = 0 then z else M 1 (82 + 2 * (i - 1)) := fun i hi => by
    rw [zf_out (by omega), FIN_at, if_neg (by omega), if_neg (by omega), if_neg (by omega), if_neg (by omega)]
    by_cases c : i = 0
    · rw [if_pos (by omega), if_pos c]
    · rw [if_neg (by omega), if_neg c, tt_upR_self]
      unfold sh
      rw [if_pos (by omega)]
      exact congrArg _ (by omega)
  have hR83 : ∀ i : Nat, i < 20 → zf (FIN (tt_upR M 1 (sh (M 1) 19)) z L 1) 0 n (83 + 2 * i) = if i = 0 then M 1 9 else M 1 (83 + 2 * (i - 1)) := fun i hi => by
    rw [zf_out (by omega), FIN_at, if_neg (by omega), if_neg (by omega), if_neg (by omega)]
    by_cases c : i = 0
    · rw [if_pos (by omega), if_pos c, eA 9 (by omega)]
    · rw [if_neg (by omega), if_neg (by omega), if_neg c, tt_upR_self]
      unfold sh
      rw [if_pos (by omega)]
      exact congrArg _ (by omega)
  -- the class
  have relP : rel r (f0_put S r z (M 1 9)) 1 M := fun k hk => by
    rw [put_r, if_neg (by omega)]
    exact hS.1 k hk
  have eD : f2_due (f0_put S r z (M 1 9)) r = M 1 1 * z := by
    unfold f2_due
    dsimp only
    rw [sr_sum relP hs10 (by omega) (by unfold vp_in; decide), hzz, relP 1 (by omega)]
  have eL : ENDC r S = f2_beginWeek (tt_up (f0_put S r z (M 1 9)) r 6 L) r := by
    unfold ENDC
    rw [e5, e6, eD, ← hL]
    have hp : (M 1 1 * z).toInt = (M 1 1).toInt * z.toInt := by
      have m1 := Int.mul_nonneg hpr.1 (show 0 ≤ z.toInt by omega)
      have m2 := Int.mul_le_mul hpr.2 (show z.toInt ≤ 1000000 by omega) (by omega) (by omega)
      exact lp_mul (by omega) (by omega)
    have m1 := Int.mul_nonneg hpr.1 (show 0 ≤ z.toInt by omega)
    unfold lastM
    by_cases cz : M 1 1 * z = 0
    · rw [if_pos (by rw [cz]; decide), if_pos cz]
    · have cz2 : 0 < (M 1 1 * z).toInt := by
        rcases Int.lt_or_eq_of_le (show 0 ≤ (M 1 1 * z).toInt by omega) with g | g
        · exact g
        · exact absurd (Int32.toInt_inj.mp (by rw [lp_0]; exact g.symm)) cz
      rw [if_neg (by rw [lp_le, lp_0]; omega), if_neg cz, last_eq (by omega) cz2]
  have eW : ENDC r S = tt_upR (tt_up (f0_put S r z (M 1 9)) r 6 L) r (zf (tt_up (f0_put S r z (M 1 9)) r 6 L r) 0 n) := by
    rw [eL]
    exact zbw _ _ (0 : Int32) (by rw [tt_up_ne (by omega), relP 0 (by omega)]; exact hsz) (by decide) (Nat.lt_succ_self _)
  rw [eW]
  have hT : ∀ k : Nat, k ≠ 6 → k ≠ 11 → tt_up (f0_put S r z (M 1 9)) r 6 L r k = S r k := fun k h1 h2 => by
    rw [tt_up_ne (by omega), put_r, if_neg h2]
  obtain ⟨hrel, h4, h9, hbk⟩ := hS
  refine ⟨⟨fun k hk => ?_, ?_, ?_, fun bb => ⟨?_, fun i hi => ?_⟩⟩, ?_, ?_, ?_, ?_⟩
  · rw [tt_upR_self] at hk ⊢
    rw [zf_out (by omega), hR 0 (by omega) (by omega) (by omega) (by omega)] at hk
    rw [tt_upR_self]
    by_cases cz : (12 + 7 * 0 ≤ k ∧ k < 12 + 7 * n) ∧ ((k - 12) % 7 = 5 ∨ (k - 12) % 7 = 6)
    · rw [zf_in cz, zf_in cz]
    · rw [zf_out cz, zf_out cz]
      by_cases c6 : k = 6
      · subst c6
        rw [tt_up_self, FIN_at, if_neg (by omega), if_pos rfl]
      · rw [hT k c6 (by omega), hR k (by omega) c6 (by omega) (by omega)]
        exact hrel k hk
  · rw [tt_upR_self, zf_out (by omega), hT 4 (by omega) (by omega), tt_upR_row (by omega), FIN_row (by omega), tt_upR_row (by omega)]
    exact h4
  · rw [tt_upR_self, zf_out (by omega), hT 9 (by omega) (by omega), tt_upR_row (by omega), FIN_row (by omega), tt_upR_row (by omega)]
    exact h9
  · refine (?_ : _ = (if (20 : Int32) < M 1 11 + (1 : Int32) then (20 : Int32) else M 1 11 + (1 : Int32))).trans ?_
    · rw [tt_upR_self, zf_out (by omega), tt_up_ne (by omega), put_r, if_pos rfl, (hbk bb).1]
    · rw [tt_upR_self, zf_out (by omega), FIN_at, if_neg (show ¬ (11 : Nat) = 9 by omega), if_neg (show ¬ (11 : Nat) = 6 by omega), if_pos (show (11 : Nat) = 11 from rfl), eA 11 (by omega)]
      unfold f7_least
      by_cases c : (20 : Int32) < M 1 11 + (1 : Int32)
      · rw [if_pos c, if_neg (by rw [lp_le]; rw [lp_lt] at c; omega)]
      · rw [if_neg c, if_pos (by rw [lp_le]; rw [lp_lt] at c; omega)]
  · have g := (hbk bb).2
    have t6 : ∀ (F : Nat → Int32) (j : Nat), j ≠ r → tt_upR (tt_up (f0_put S r z (M 1 9)) r 6 L) r F j = f0_put S r z (M 1 9) j := fun F j hj => by rw [tt_upR_row hj, tt_up_row hj]
    rw [t6 _ (6 + r) (by omega), t6 _ (9 + r) (by omega), put_6 hr hi, put_9 hr hi, tt_upR_self, hR82 i hi, hR83 i hi]
    by_cases c : i = 0
    · rw [if_pos c, if_pos c, if_pos c, if_pos c]
      exact ⟨rfl, rfl⟩
    · rw [if_neg c, if_neg c, if_neg c, if_neg c]
      exact g (i - 1) (by omega)
  · refine b_zero h (fun k hk => ?_) (fun d hd => ⟨?_, ?_⟩) ?_ ?_
    · rw [tt_upR_self, zf_out (by omega), hR k (by omega) (by omega) (by omega) (by omega)]
    · rw [tt_upR_self, zf_in (by omega)]
    · rw [tt_upR_self, zf_in (by omega)]
    · rw [tt_upR_self, zf_out (by omega), FIN_at, if_pos rfl]
    · rw [tt_upR_row (by omega), FIN_row (by omega), tt_upR_row (by omega)]
  · rw [tt_upR_self, zf_out (by omega), hR 7 (by omega) (by omega) (by omega) (by omega)]
  · rw [tt_upR_self, zf_out (by omega), FIN_at, if_neg (by omega), if_neg (by omega), if_pos rfl, eA 11 (by omega)]
    have e1 := lp_add (a := M 1 11) (b := (1 : Int32)) (by have := hb.1; rw [lp_1]; omega) (by have := hb.1; rw [lp_1]; omega)
    have e2 := least_int (20 : Int32) (M 1 11 + (1 : Int32))
    rw [e1, lp_1, show (20 : Int32).toInt = 20 from rfl] at e2
    have := hb.1
    omega
  · intro k hk
    rw [tt_upR_self]
    rcases (show ∃ i : Nat, i < 20 ∧ (k = 2 * i ∨ k = 2 * i + 1) from ⟨k / 2, by omega, by omega⟩) with ⟨i, hi, rfl | rfl⟩
    · rw [hR82 i hi]
      by_cases c : i = 0
      · rw [if_pos c]; omega
      · rw [if_neg c]; exact hb.2 (2 * (i - 1)) (by omega)
    · rw [show 82 + (2 * i + 1) = 83 + 2 * i by omega, hR83 i hi]
      by_cases c : i = 0
      · rw [if_pos c]; omega
      · rw [if_neg c, show 83 + 2 * (i - 1) = 82 + (2 * (i - 1) + 1) by omega]; exact hb.2 (2 * (i - 1) + 1) (by omega)
/-- what drinking leaves alone -/
def df (M M' : tt_St) : Prop := ∀ k : Nat, (k ≤ 2 ∨ (5 ≤ k ∧ k ≤ 7) ∨ k = 11 ∨ 82 ≤ k) → M' 1 k = M 1 k
theorem df_rfl (M : tt_St) : df M M := fun _ _ => rfl
theorem df_tr {M M1 M2 : tt_St} (h1 : df M M1) (h2 : df M1 M2) : df M M2 := fun k hk => (h2 k hk).trans (h1 k hk)
theorem df_up {M : tt_St} {k : Nat} {v : Int32} (h : k = 3 ∨ k = 4 ∨ (8 ≤ k ∧ k ≤ 10) ∨ (12 ≤ k ∧ k < 82)) : df M (tt_up M 1 k v) := fun j hj => tt_up_ne (by omega)
theorem df_u0 {M : tt_St} {k : Nat} {v : Int32} : df M (tt_up M 0 k v) := fun j hj => tt_up_ne (by omega)
theorem df_pays {M : tt_St} {k a : Int32} (hk : vp_in k 10) : df M (f7_pays M k a) := fun j hj => by
  have := lp_cl hk
  rw [pays_nf hk, PAY_at (by omega) (by omega) (by omega) (by omega)]
theorem df_drawn (M : tt_St) : df M (f7_drawn M).2 := df_up (by omega)
theorem df_forgets {M : tt_St} {k : Int32} (hk : vp_in k 10) : df M (f7_forgets M k) := by
  unfold f7_forgets
  dsimp only
  split
  · exact df_drawn M
  · exact df_tr (df_drawn M) (df_pays hk)
theorem df_paysFor {M : tt_St} {k f : Int32} (hk : vp_in k 10) : df M (f7_paysFor M k f) := by
  have := lp_cl hk
  unfold f7_paysFor
  dsimp only
  simp only [its_0 hk, its_4 hk, bec_4 hk]
  repeat' split
  all_goals
    first
      | exact df_rfl M
      | exact df_pays hk
      | exact df_forgets hk
      | exact df_up (by omega)
theorem df_hasCup {M : tt_St} {k : Int32} : df M (f7_hasCup M k).2 := by
  unfold f7_hasCup
  dsimp only
  repeat' split
  · exact df_tr (df_up (by omega)) (df_up (by omega))
  · exact df_tr (df_tr (df_drawn M) (df_up (by omega))) (df_up (by omega))
  · exact df_tr (df_tr (df_drawn M) (df_up (by omega))) (df_up (by omega))
  · exact df_rfl M
theorem df_CUP {M : tt_St} {d : Nat} (hd : d < 10) : df M (CUP M d) := df_tr (df_tr (df_up (by omega)) (df_up (by omega))) df_u0
theorem df_drinksL {k z : Int32} (hk : vp_in k 10) : ∀ (m : Nat) (M : tt_St) (y : Int32), df M (f7_drinks_L28 k m M z y) := by
  intro m
  induction m with
  | zero => intro M y; exact df_rfl M
  | succ m ih =>
    intro M y
    rw [f7_drinks_L28]
    dsimp only
    rw [cup_nf hk]
    repeat' split
    · exact df_rfl M
    · exact df_hasCup
    · exact df_tr (df_tr (df_tr df_hasCup (df_CUP (lp_cl hk))) (df_paysFor hk)) (ih _ _)
    · exact df_tr (df_tr (df_tr df_hasCup (df_CUP (lp_cl hk))) (df_paysFor hk)) (ih _ _)
theorem df_drinks {M : tt_St} {k : Int32} (hk : vp_in k 10) : df M (f7_drinks M k) := by
  unfold f7_drinks
  dsimp only
  split <;> exact df_drinksL hk _ _ _
theorem bkb_df {M M' : tt_St} (h : bkb M) (d : df M M') : bkb M' := ⟨by rw [d 11 (by omega)]; exact h.1, fun k hk => by rw [d (82 + k) (by omega)]; exact h.2 k hk⟩
