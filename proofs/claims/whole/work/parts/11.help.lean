theorem tk1_row {S : tt_St} {r d r2 d2 n : Nat} (h : n ≠ r) : f1_take S r d r2 d2 n = S n := by
  unfold f1_take
  rw [tt_up_row h, tt_up_row h, tt_up_row h, tt_up_row h, tt_up_row h, tt_up_row h, tt_up_row h]
theorem fr_cup1 {r d : Nat} {S S1 : tt_St} {a b c y : Int32} (h : tt_fr r S S1) : (f2_payCup (tt_up (tt_up (tt_up S1 r 3 a) r 9 b) r (17 + 7 * d) c) r d y) r (13 + 7 * d) = S r (13 + 7 * d) :=
  (fr_tr (fr_tr (fr_tr (fr_tr h (fr_up _ _ (al_c (by omega)))) (fr_up _ _ (al_c (by omega)))) (fr_up _ _ (al_d (by omega)))) (fr_payCup _ r d y)).cups
theorem ad_in {x : Int32} (h : ¬ x < 0) : vp_in (if (9 : Int32) < x then (9 : Int32) else x) 10 := by
  rw [vp_in_iff]
  rw [lp_lt, lp_0] at h
  have h9 : (9 : Int32).toInt = 9 := rfl
  by_cases c : (9 : Int32) < x
  · rw [if_pos c, h9]; omega
  · rw [if_neg c]
    rw [lp_lt, h9] at c
    omega
theorem bo_nr {x : Int32} (h : x = 0 ∨ x = 1) : narrow .boolean (.int x) = .int x := by
  rcases h with rfl | rfl <;> rfl
theorem pr1 {α β : Type} {a : α} {b : β} {t : α × β} (h : (a, b) = t) : a = t.1 := by rw [← h]
theorem pr2 {α β : Type} {a : α} {b : β} {t : α × β} (h : (a, b) = t) : b = t.2 := by rw [← h]
theorem pr31 {α β γ : Type} {a : α} {b : β} {c : γ} {t : α × β × γ} (h : (a, b, c) = t) : a = t.1 := by rw [← h]
theorem pr32 {α β γ : Type} {a : α} {b : β} {c : γ} {t : α × β × γ} (h : (a, b, c) = t) : b = t.2.1 := by rw [← h]
theorem pr33 {α β γ : Type} {a : α} {b : β} {c : γ} {t : α × β × γ} (h : (a, b, c) = t) : c = t.2.2 := by rw [← h]
