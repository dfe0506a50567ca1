/-! what the reference's days keep -/
theorem updI_up (f : Nat → Int) (d : Nat) (a b : Int) : updI (updI f d a) d b = updI f d b := by
  funext i
  unfold updI
  by_cases c : i = d
  · rw [if_pos c, if_pos c]
  · rw [if_neg c, if_neg c, if_neg c]
theorem updI_le {f : Nat → Int} {d : Nat} {x : Int} (h : f d ≤ x) (i : Nat) : f i ≤ updI f d x i := by
  by_cases c : i = d
  · subst c; rw [updI_eq]; exact h
  · rw [updI_ne c]; exact Int.le_refl _
theorem updI_id {f : Nat → Int} {d : Nat} {x : Int} (h : f d = x) : updI f d x = f := by
  funext i
  by_cases c : i = d
  · subst c; rw [updI_eq, h]
  · rw [updI_ne c]
def qk (n : Nat) (Q : Nat → Int) : Prop := ∀ i : Nat, i < n → Q i ≤ 900000
theorem qk_up {n d : Nat} {Q : Nat → Int} {x : Int} (h : qk n Q) (hx : x ≤ 900000) : qk n (updI Q d x) := by
  intro i hi
  by_cases c : i = d
  · subst c; rw [updI_eq]; exact hx
  · rw [updI_ne c]; exact h i hi
theorem b_pays {n : Nat} {E D Q : Nat → Int} {M : tt_St} {k a : Int32} {x : Int} (h : bM n E D Q M) (hk : vp_in k 10) (hd : k.toNatClampNeg < n) (ha : 0 ≤ a.toInt) (hx : ∀ v : Int, v ≤ a.toInt → v ≤ 9999 → Q k.toNatClampNeg + v ≤ x) (hq : x ≤ 900000) (hQ : qk n Q) : bM n E D (updI Q k.toNatClampNeg x) (f7_pays M k a) := by
  have hp := h.2.2.2.2.2.1 _ hd
  rw [pays_nf hk]
  have e := least_int a (M 1 (14 + 7 * k.toNatClampNeg))
  unfold dk at hp
  refine bM_pay h hd (by omega) ?_ (by omega) (fun i hi => by have := hQ i hi; omega)
  exact hx _ (by omega) (by omega)
theorem b_drawn {n : Nat} {E D Q : Nat → Int} {M : tt_St} (h : bM n E D Q M) : bM n E D Q (f7_drawn M).2 := bM_up h (by omega)
theorem dr_1 (M : tt_St) {k : Nat} (h : k ≠ 10) : (f7_drawn M).2 1 k = M 1 k := tt_up_ne (S := M) (n := 1) (k := 10) (n' := 1) (k' := k) (by omega)
theorem b_forgets {n : Nat} {E D Q : Nat → Int} {M : tt_St} {k : Int32} {x : Int} (h : bM n E D Q M) (hk : vp_in k 10) (hd : k.toNatClampNeg < n) (hx : Q k.toNatClampNeg + 99 ≤ x) (hq : x ≤ 900000) (hQ : qk n Q) : bM n E D (updI Q k.toNatClampNeg x) (f7_forgets M k) := by
  have h' := b_drawn h
  unfold f7_forgets
  dsimp only
  split
  · exact bM_le h' (fun d hd => ⟨Int.le_refl _, Int.le_refl _, updI_le (by omega) d⟩)
  · have h1 := h'.2.1
    exact b_pays h' hk hd h1.1 (fun v hv _ => by omega) hq hQ
theorem half_int {x : Int32} (h : 0 ≤ x.toInt) : (x / (2 : Int32)).toInt = x.toInt / 2 := by
  obtain ⟨a, ha, rfl⟩ := nI_of (x := x) (nn_int h)
  rw [show (2 : Int32) = nI 2 from rfl, pk_div ha (by decide) (by decide), nI_toInt (by omega), nI_toInt ha]
  omega
theorem b_paysFor {n : Nat} {E D Q : Nat → Int} {M : tt_St} {k f : Int32} {x y : Int} (h : bM n E D Q M) (hk : vp_in k 10) (hd : k.toNatClampNeg < n) (hy : E k.toNatClampNeg + 99 ≤ y) (hy2 : y ≤ 1000000000) (hx : Q k.toNatClampNeg + 198 ≤ x) (hq : x ≤ 900000) (hQ : qk n Q) : bM n (updI E k.toNatClampNeg y) D (updI Q k.toNatClampNeg x) (f7_paysFor M k f) := by
  have h1 := h.2.1
  have hp := h.2.2.2.2.2.1 _ hd
  have leE : ∀ i, E i ≤ updI E k.toNatClampNeg y i := updI_le (by omega)
  have leQ : ∀ i, Q i ≤ updI Q k.toNatClampNeg x i := updI_le (by omega)
  have pay : ∀ a : Int32, 0 ≤ a.toInt → a.toInt ≤ 198 → bM n (updI E k.toNatClampNeg y) D (updI Q k.toNatClampNeg x) (f7_pays M k a) := fun a h0 h1 =>
    bM_le (b_pays h hk hd h0 (fun v hv _ => by omega) hq hQ) (fun d _ => ⟨leE d, Int.le_refl _, Int.le_refl _⟩)
  have debt : ∀ a : Int32, 0 ≤ a.toInt → a.toInt ≤ 99 → bM n (updI E k.toNatClampNeg y) D (updI Q k.toNatClampNeg x) (tt_up M 1 (16 + 7 * k.toNatClampNeg) (M 1 (16 + 7 * k.toNatClampNeg) + a)) := fun a h0 h1 => by
    unfold dk at hp
    have e := lp_add (a := M 1 (16 + 7 * k.toNatClampNeg)) (b := a) (by omega) (by omega)
    exact bM_le (bM_debt (x := y) h hd (by omega)) (fun d _ => ⟨Int.le_refl _, Int.le_refl _, leQ d⟩)
  have forg : bM n (updI E k.toNatClampNeg y) D (updI Q k.toNatClampNeg x) (f7_forgets M k) := bM_le (b_forgets h hk hd (by omega) hq hQ) (fun d _ => ⟨leE d, Int.le_refl _, Int.le_refl _⟩)
  have same : bM n (updI E k.toNatClampNeg y) D (updI Q k.toNatClampNeg x) M := bM_le h (fun d _ => ⟨leE d, Int.le_refl _, leQ d⟩)
  have z0 : (0 : Int32).toInt = 0 := rfl
  unfold f7_paysFor
  dsimp only
  simp only [its_0 hk, its_4 hk, bec_4 hk]
  repeat' split
  · exact debt _ h1.1 h1.2
  · exact forg
  · exact pay _ (by omega) (by omega)
  · exact pay _ h1.1 (by omega)
  · exact pay _ (by omega) (by omega)
  · exact same
  · exact forg
  · have e : ((2 : Int32) * M 1 1).toInt = 2 * (M 1 1).toInt := by
      have e2 : (2 : Int32).toInt = 2 := rfl
      rw [lp_mul (by rw [e2]; omega) (by rw [e2]; omega), e2]
    exact pay _ (by omega) (by omega)
  · have e := half_int h1.1
    exact debt _ (by omega) (by omega)
  · exact pay _ h1.1 (by omega)
theorem b_hasCup {n : Nat} {E D Q : Nat → Int} {M : tt_St} {k : Int32} (h : bM n E D Q M) (hk : vp_in k 10) : bM n E D Q (f7_hasCup M k).2 ∧ (¬ (f7_hasCup M k).1 = 0 → 1 ≤ ((f7_hasCup M k).2 1 3).toInt) := by
  have hpot := h.2.2.1
  have hd := b_drawn h
  have hpot2 := hd.2.2.1
  unfold f7_hasCup
  dsimp only
  rw [its_0 hk]
  repeat' split
  · exact ⟨bM_up (bM_left h (by omega)) (by omega), fun _ => by dsimp only; rw [tt_up_ne (by omega), tt_up_self]; omega⟩
  · exact ⟨bM_up (bM_left hd (by decide)) (by omega), fun z => absurd rfl z⟩
  · exact ⟨bM_up (bM_left hd (by omega)) (by omega), fun _ => by dsimp only; rw [tt_up_ne (by omega), tt_up_self]; omega⟩
  · rename_i c
    refine ⟨h, fun _ => ?_⟩
    rw [lp_le, lp_0] at c
    show 1 ≤ (M 1 3).toInt
    omega
/-- a cup is drunk, ahead of the payment -/
def CUP (M : tt_St) (d : Nat) : tt_St := tt_up (tt_up (tt_up M 1 3 (M 1 3 - (1 : Int32))) 1 (17 + 7 * d) (M 1 (17 + 7 * d) + (1 : Int32))) 0 8 (M 0 8 + (1 : Int32))
theorem b_CUP {n d : Nat} {E D Q : Nat → Int} {M : tt_St} {x : Int} (h : bM n E D Q M) (hd : d < n) (hl : 1 ≤ (M 1 3).toInt) (hx : D d + 1 ≤ x) (hx2 : D d ≤ 1000000) : bM n E (updI D d x) Q (CUP M d) := by
  have hp := h.2.2.2.2.2.1 _ hd
  have hl2 := h.2.2.2.1
  have e := lp_sub (a := M 1 3) (b := (1 : Int32)) (by rw [lp_1]; omega) (by rw [lp_1]; omega)
  have e2 := lp_add (a := M 1 (17 + 7 * d)) (b := (1 : Int32)) (by unfold dk at hp; rw [lp_1]; omega) (by unfold dk at hp; rw [lp_1]; omega)
  rw [lp_1] at e e2
  unfold dk at hp
  exact bM_u0 (bM_drunk (bM_left h (by omega)) hd (by omega)) (by omega)
theorem cup_nf {M : tt_St} {k : Int32} (hk : vp_in k 10) : tt_up (f7_becomes (tt_up M 1 3 (M 1 3 - (1 : Int32))) k (5 : Int32) (f7_its (tt_up M 1 3 (M 1 3 - (1 : Int32))) k (5 : Int32) + (1 : Int32))) 0 8 ((f7_becomes (tt_up M 1 3 (M 1 3 - (1 : Int32))) k (5 : Int32) (f7_its (tt_up M 1 3 (M 1 3 - (1 : Int32))) k (5 : Int32) + (1 : Int32))) 0 8 + (1 : Int32)) = CUP M k.toNatClampNeg := by
  rw [its_5 hk, bec_5 hk]
  unfold CUP
  rw [tt_up_ne (n' := 1) (k' := 17 + 7 * k.toNatClampNeg) (by omega), tt_up_ne (n' := 0) (k' := 8) (by omega), tt_up_ne (n' := 0) (k' := 8) (by omega)]
theorem b_drinksL {n : Nat} {E D Q : Nat → Int} {k z : Int32} (hk : vp_in k 10) (hd : k.toNatClampNeg < n) (hz : z.toInt ≤ 9) {e0 w0 q0 : Int} (he : e0 ≤ 900000000) (hw : w0 ≤ 900000) (hq : q0 ≤ 800000) (hQ : qk n Q) : ∀ (m : Nat) (M : tt_St) (y : Int32), ¬ y < 0 → y.toInt ≤ 9 → bM n (updI E k.toNatClampNeg (e0 + 99 * y.toInt)) (updI D k.toNatClampNeg (w0 + y.toInt)) (updI Q k.toNatClampNeg (q0 + 198 * y.toInt)) M →
    bM n (updI E k.toNatClampNeg (e0 + 891)) (updI D k.toNatClampNeg (w0 + 9)) (updI Q k.toNatClampNeg (q0 + 1782)) (f7_drinks_L28 k m M z y) := by
  intro m
  have fin : ∀ (M : tt_St) (y : Int32), y.toInt ≤ 9 → bM n (updI E k.toNatClampNeg (e0 + 99 * y.toInt)) (updI D k.toNatClampNeg (w0 + y.toInt)) (updI Q k.toNatClampNeg (q0 + 198 * y.toInt)) M → bM n (updI E k.toNatClampNeg (e0 + 891)) (updI D k.toNatClampNeg (w0 + 9)) (updI Q k.toNatClampNeg (q0 + 1782)) M := fun M y hy h =>
    bM_le h (fun d _ => by
      by_cases c : d = k.toNatClampNeg
      · subst c
        rw [updI_eq, updI_eq, updI_eq, updI_eq, updI_eq, updI_eq]
        omega
      · rw [updI_ne c, updI_ne c, updI_ne c, updI_ne c, updI_ne c, updI_ne c]
        omega)
  induction m with
  | zero => intro M y _ hy h; exact fin M y hy h
  | succ m ih =>
    intro M y h0 hy h
    rw [f7_drinks_L28]
    dsimp only
    by_cases c1 : z ≤ y
    · rw [if_pos c1]; exact fin M y hy h
    rw [if_neg c1]
    obtain ⟨b1, b2⟩ := b_hasCup h hk
    by_cases c2 : (f7_hasCup M k).1 = 0
    · rw [if_pos c2]; exact fin _ y hy b1
    rw [if_neg c2]
    have ey := lp_inc c1
    have hy9 : (y + 1).toInt ≤ 9 := by rw [lp_le] at c1; omega
    have bc := b_CUP (x := w0 + (y + 1).toInt) b1 hd (b2 c2) (by rw [updI_eq]; omega) (by rw [updI_eq]; omega)
    rw [updI_up] at bc
    have bp : ∀ f : Int32, bM n (updI E k.toNatClampNeg (e0 + 99 * (y + 1).toInt)) (updI D k.toNatClampNeg (w0 + (y + 1).toInt)) (updI Q k.toNatClampNeg (q0 + 198 * (y + 1).toInt)) (f7_paysFor (CUP (f7_hasCup M k).2 k.toNatClampNeg) k f) := fun f => by
      have b := b_paysFor (f := f) (y := e0 + 99 * (y + 1).toInt) (x := q0 + 198 * (y + 1).toInt) bc hk hd (by rw [updI_eq]; omega) (by omega) (by rw [updI_eq]; omega) (by omega) (qk_up hQ (by omega))
      rw [updI_up, updI_up] at b
      exact b
    rw [cup_nf hk]
    split
    · exact ih _ _ (lp_nn h0 c1) hy9 (bp _)
    · exact ih _ _ (lp_nn h0 c1) hy9 (bp _)
theorem b_drinks {n : Nat} {E D Q : Nat → Int} {M : tt_St} {k : Int32} (h : bM n E D Q M) (hk : vp_in k 10) (hd : k.toNatClampNeg < n) (he : E k.toNatClampNeg ≤ 900000000) (hw : D k.toNatClampNeg ≤ 900000) (hq : Q k.toNatClampNeg ≤ 800000) (hQ : qk n Q) : bM n (updI E k.toNatClampNeg (E k.toNatClampNeg + 891)) (updI D k.toNatClampNeg (D k.toNatClampNeg + 9)) (updI Q k.toNatClampNeg (Q k.toNatClampNeg + 1782)) (f7_drinks M k) := by
  have hp := h.2.2.2.2.2.1 _ hd
  have st : bM n (updI E k.toNatClampNeg (E k.toNatClampNeg + 99 * (0 : Int32).toInt)) (updI D k.toNatClampNeg (D k.toNatClampNeg + (0 : Int32).toInt)) (updI Q k.toNatClampNeg (Q k.toNatClampNeg + 198 * (0 : Int32).toInt)) M := by
    rw [updI_id (by rw [lp_0]; omega), updI_id (by rw [lp_0]; omega), updI_id (by rw [lp_0]; omega)]
    exact h
  unfold f7_drinks
  dsimp only
  rw [its_1 hk]
  unfold dk at hp
  split
  · exact b_drinksL hk hd (by omega) he hw hq hQ _ M 0 (by decide) (by decide) st
  · exact b_drinksL hk hd (by decide) he hw hq hQ _ M 0 (by decide) (by decide) st
