/-! what a room's days leave alone -/
def tt_al (k : Nat) : Prop := k = 3 ∨ k = 4 ∨ (6 ≤ k ∧ k ≤ 11) ∨ (12 ≤ k ∧ ((k - 12) % 7 = 2 ∨ 4 ≤ (k - 12) % 7))
def tt_fr (r : Nat) (S S' : tt_St) : Prop := ∀ n k : Nat, (n = r → ¬ tt_al k) → n ≠ 6 + r → n ≠ 9 + r → S' n k = S n k
theorem fr_rfl (r : Nat) (S : tt_St) : tt_fr r S S := fun _ _ _ _ _ => rfl
theorem fr_tr {r : Nat} {S S1 S2 : tt_St} (h1 : tt_fr r S S1) (h2 : tt_fr r S1 S2) : tt_fr r S S2 := fun n k a b c => (h2 n k a b c).trans (h1 n k a b c)
theorem fr_up {r k : Nat} (S : tt_St) (v : Int32) (hk : tt_al k) : tt_fr r S (tt_up S r k v) := fun n j a _ _ => tt_up_ne (fun h => a h.1 (by rw [h.2]; exact hk))
theorem fr_u6 {r : Nat} (S : tt_St) (k : Nat) (v : Int32) : tt_fr r S (tt_up S (6 + r) k v) := fun n j _ b _ => tt_up_ne (fun h => b h.1)
theorem fr_u9 {r : Nat} (S : tt_St) (k : Nat) (v : Int32) : tt_fr r S (tt_up S (9 + r) k v) := fun n j _ _ b => tt_up_ne (fun h => b h.1)
theorem fr_r6 {r : Nat} (S : tt_St) (f : Nat → Int32) : tt_fr r S (tt_upR S (6 + r) f) := fun n j _ b _ => by rw [tt_upR_row b]
theorem fr_r9 {r : Nat} (S : tt_St) (f : Nat → Int32) : tt_fr r S (tt_upR S (9 + r) f) := fun n j _ _ b => by rw [tt_upR_row b]
theorem al_d {d j : Nat} (h : j = 14 ∨ j = 16 ∨ j = 17 ∨ j = 18) : tt_al (j + 7 * d) := by unfold tt_al; omega
theorem al_c {j : Nat} (h : j = 3 ∨ j = 4 ∨ (6 ≤ j ∧ j ≤ 11)) : tt_al j := by unfold tt_al; omega
theorem tt_fr.sz {r : Nat} {S S' : tt_St} (h : tt_fr r S S') : S' r 0 = S r 0 := h r 0 (fun _ => by unfold tt_al; omega) (by omega) (by omega)
theorem tt_fr.cups {r d : Nat} {S S' : tt_St} (h : tt_fr r S S') : S' r (13 + 7 * d) = S r (13 + 7 * d) := h r _ (fun _ => by unfold tt_al; omega) (by omega) (by omega)
theorem tt_fr.row {r n : Nat} {S S' : tt_St} (h : tt_fr r S S') (h1 : n ≠ r) (h2 : n ≠ 6 + r) (h3 : n ≠ 9 + r) : S' n = S n := funext fun k => h n k (fun z => absurd z h1) h2 h3
theorem fr_draw (S : tt_St) (r : Nat) : tt_fr r S (f2_draw S r).2 := fr_up S _ (al_c (by omega))
theorem fr_pay (S : tt_St) (r d : Nat) (a : Int32) : tt_fr r S (f2_pay S r d a).2 := fr_tr (fr_tr (fr_up S _ (al_d (by omega))) (fr_up _ _ (al_d (by omega)))) (fr_up _ _ (al_c (by omega)))
theorem fr_isPotMade (S : tt_St) (r d : Nat) : tt_fr r S (f2_isPotMade S r d).2 := by
  unfold f2_isPotMade
  dsimp only
  split
  · exact fr_up S _ (al_c (by omega))
  · split
    · exact fr_tr (fr_draw S r) (fr_up _ _ (al_c (by omega)))
    · exact fr_draw S r
theorem fr_isForgotten (S : tt_St) (r : Nat) : tt_fr r S (f2_isForgotten S r).2 := by
  unfold f2_isForgotten
  dsimp only
  split
  · exact fr_draw S r
  · exact fr_draw S r
theorem fr_payCup (S : tt_St) (r d : Nat) (a : Int32) : tt_fr r S (f2_payCup S r d a) := by
  unfold f2_payCup
  dsimp only
  repeat' split
  all_goals
    refine fr_tr ?_ (fr_pay _ r d _)
    with_reducible first
      | exact fr_rfl _ _
      | exact fr_isForgotten _ _
      | exact fr_up _ _ (al_d (by omega))
theorem fr_serveL (r d : Nat) : ∀ (n : Nat) (S : tt_St) (y : Int32), tt_fr r S (f2_serve_L2 r d n S y) := by
  intro n
  induction n with
  | zero => intro S y; exact fr_rfl r S
  | succ n ih =>
    intro S y
    rw [f2_serve_L2]
    dsimp only
    repeat' split
    · exact fr_rfl r S
    · exact fr_tr (fr_isPotMade S r d) (fr_up _ _ (al_c (by omega)))
    · exact fr_tr (fr_tr (fr_tr (fr_tr (fr_tr (fr_isPotMade S r d) (fr_up _ _ (al_c (by omega)))) (fr_up _ _ (al_c (by omega)))) (fr_up _ _ (al_d (by omega)))) (fr_payCup _ r d y)) (ih _ _)
    · exact fr_tr (fr_tr (fr_tr (fr_tr (fr_up _ _ (al_c (by omega))) (fr_up _ _ (al_c (by omega)))) (fr_up _ _ (al_d (by omega)))) (fr_payCup _ r d y)) (ih _ _)
theorem fr_serve (S : tt_St) (r d : Nat) : tt_fr r S (f2_serve S r d) := fr_serveL r d _ S _
theorem fr_beginWeekL (r : Nat) : ∀ (n : Nat) (S : tt_St) (y : Int32), tt_fr r S (f2_beginWeek_L2 r n S y) := by
  intro n
  induction n with
  | zero => intro S y; exact fr_rfl r S
  | succ n ih =>
    intro S y
    rw [f2_beginWeek_L2]
    dsimp only
    split
    · exact fr_rfl r S
    · exact fr_tr (fr_tr (fr_up _ _ (al_d (by omega))) (fr_up _ _ (al_d (by omega)))) (ih _ _)
theorem fr_beginWeek (S : tt_St) (r : Nat) : tt_fr r S (f2_beginWeek S r) := fr_beginWeekL r _ S _
theorem fr_beginMonday (S : tt_St) (r : Nat) : tt_fr r S (f2_beginMonday S r) := fr_tr (fr_up S _ (al_c (by omega))) (fr_beginWeek _ r)
theorem fr_bput (S : tt_St) (r : Nat) (a b : Int32) : tt_fr r S (f0_put S r a b) := by
  unfold f0_put
  dsimp only
  exact fr_tr (fr_tr (fr_tr (fr_tr (fr_r6 S _) (fr_r9 _ _)) (fr_u6 _ _ _)) (fr_u9 _ _ _)) (fr_up _ _ (al_c (by omega)))
theorem fr_endWeekL (r : Nat) : ∀ (n : Nat) (S : tt_St) (y : Int32), tt_fr r S (f2_endWeek_L2 r n S y) := by
  intro n
  induction n with
  | zero => intro S y; exact fr_rfl r S
  | succ n ih =>
    intro S y
    rw [f2_endWeek_L2]
    dsimp only
    repeat' split
    · exact fr_tr (fr_tr (fr_bput S r _ _) (fr_up _ _ (al_c (by omega)))) (fr_beginWeek _ r)
    · exact fr_tr (fr_tr (fr_bput S r _ _) (fr_up _ _ (al_c (by omega)))) (fr_beginWeek _ r)
    · exact fr_tr (fr_tr (fr_bput S r _ _) (fr_up _ _ (al_c (by omega)))) (fr_beginWeek _ r)
    · exact fr_tr (fr_tr (fr_pay S r _ _) (fr_up _ _ (al_d (by omega)))) (ih _ _)
    · exact fr_tr (fr_tr (fr_pay S r _ _) (fr_up _ _ (al_d (by omega)))) (ih _ _)
    · exact ih _ _
theorem fr_endWeek (S : tt_St) (r : Nat) : tt_fr r S (f2_endWeek S r) := fr_endWeekL r _ S _
theorem fr_goDayL (r : Nat) : ∀ (n : Nat) (S : tt_St) (y : Int32), tt_fr r S (f2_goDay_L2 r n S y) := by
  intro n
  induction n with
  | zero => intro S y; exact fr_rfl r S
  | succ n ih =>
    intro S y
    rw [f2_goDay_L2]
    dsimp only
    repeat' split
    · exact fr_tr (fr_tr (fr_up S _ (al_c (by omega))) (fr_endWeek _ r)) (fr_up _ _ (al_c (by omega)))
    · exact fr_tr (fr_up S _ (al_c (by omega))) (fr_up _ _ (al_c (by omega)))
    · exact ih _ _
    · exact fr_tr (fr_serve S r _) (ih _ _)
theorem fr_goDay (S : tt_St) (r : Nat) : tt_fr r S (f2_goDay S r) := fr_goDayL r _ S _
theorem fr_goDaysL (r : Nat) (a : Int32) : ∀ (n : Nat) (S : tt_St) (x y : Int32), tt_fr r S (f2_goDays_L7 r a n S x y).2 := by
  intro n
  induction n with
  | zero => intro S x y; exact fr_rfl r S
  | succ n ih =>
    intro S x y
    rw [f2_goDays_L7]
    dsimp only
    split
    · exact fr_rfl r S
    · exact fr_tr (fr_goDay S r) (ih _ _ _)
theorem fr_goDays (S : tt_St) (r : Nat) (a : Int32) : tt_fr r S (f2_goDays S r a).2 := fr_goDaysL r a _ S _ _
