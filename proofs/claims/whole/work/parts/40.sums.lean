/-! SUMS AND BOUNDS over the reference's row of days -/
theorem upd_ne {f : Nat → Int32} {k j : Nat} {v : Int32} (h : j ≠ k) : upd f k v j = f j := by simp [upd, h]
theorem upd_eq (f : Nat → Int32) (k : Nat) (v : Int32) : upd f k v k = v := by simp [upd]
def gs (f : Nat → Int32) (b : Nat) : Nat → Int
  | 0 => 0
  | n + 1 => gs f b n + (f (b + 7 * n)).toInt
theorem gs_ext {f g : Nat → Int32} {b : Nat} : ∀ {n : Nat}, (∀ d : Nat, d < n → f (b + 7 * d) = g (b + 7 * d)) → gs f b n = gs g b n
  | 0, _ => rfl
  | n + 1, h => by rw [gs, gs, gs_ext (n := n) (fun d hd => h d (by omega)), h n (by omega)]
theorem gs_eq {f g : Nat → Int32} {b d : Nat} : ∀ {n : Nat}, d < n → (∀ i : Nat, i < n → i ≠ d → g (b + 7 * i) = f (b + 7 * i)) → gs g b n = gs f b n - (f (b + 7 * d)).toInt + (g (b + 7 * d)).toInt
  | 0, h, _ => absurd h (Nat.not_lt_zero _)
  | n + 1, h, e => by
    rw [gs, gs]
    by_cases c : d = n
    · subst c
      rw [gs_ext (f := g) (g := f) (n := d) (fun i hi => e i (by omega) (by omega))]
      omega
    · rw [gs_eq (n := n) (f := f) (g := g) (d := d) (by omega) (fun i hi hd => e i (by omega) hd), e n (by omega) (fun z => c z.symm)]
      omega
theorem gs_bd {f : Nat → Int32} {b : Nat} {lo hi : Int} : ∀ {n : Nat}, (∀ d : Nat, d < n → lo ≤ (f (b + 7 * d)).toInt ∧ (f (b + 7 * d)).toInt ≤ hi) → lo * n ≤ gs f b n ∧ gs f b n ≤ hi * n
  | 0, _ => by simp [gs]
  | n + 1, h => by
    have h1 := gs_bd (n := n) (fun d hd => h d (by omega))
    have h2 := h n (by omega)
    have e1 : lo * ((n + 1 : Nat) : Int) = lo * n + lo := by rw [Int.natCast_add, Int.mul_add]; simp
    have e2 : hi * ((n + 1 : Nat) : Int) = hi * n + hi := by rw [Int.natCast_add, Int.mul_add]; simp
    rw [gs, e1, e2]
    omega
def updI (f : Nat → Int) (d : Nat) (v : Int) : Nat → Int := fun i => if i = d then v else f i
theorem updI_eq (f : Nat → Int) (d : Nat) (v : Int) : updI f d v d = v := if_pos rfl
theorem updI_ne {f : Nat → Int} {d i : Nat} {v : Int} (h : i ≠ d) : updI f d v i = f i := if_neg h
def dk (E D Q : Nat → Int) (M : tt_St) (d : Nat) : Prop := (0 ≤ (M 1 (12 + 7 * d)).toInt ∧ (M 1 (12 + 7 * d)).toInt ≤ 6) ∧ (1 ≤ (M 1 (13 + 7 * d)).toInt ∧ (M 1 (13 + 7 * d)).toInt ≤ 9) ∧ (0 ≤ (M 1 (14 + 7 * d)).toInt ∧ (M 1 (14 + 7 * d)).toInt ≤ 9999) ∧ (0 ≤ (M 1 (16 + 7 * d)).toInt ∧ (M 1 (16 + 7 * d)).toInt ≤ E d) ∧ (0 ≤ (M 1 (17 + 7 * d)).toInt ∧ (M 1 (17 + 7 * d)).toInt ≤ D d) ∧ (0 ≤ (M 1 (18 + 7 * d)).toInt ∧ (M 1 (18 + 7 * d)).toInt ≤ Q d)
/-- n drinkers; no debt above E, no drunk above D, no paid above Q; what came is what was paid; coins are not more than the purses were -/
def bM (n : Nat) (E D Q : Nat → Int) (M : tt_St) : Prop :=
  ((M 1 0).toInt = n ∧ n ≤ 10) ∧ (0 ≤ (M 1 1).toInt ∧ (M 1 1).toInt ≤ 99) ∧ (1 ≤ (M 1 2).toInt ∧ (M 1 2).toInt ≤ 99) ∧ (0 ≤ (M 1 3).toInt ∧ (M 1 3).toInt ≤ 99) ∧ (0 ≤ (M 1 5).toInt ∧ (M 1 5).toInt ≤ 2) ∧ (∀ d : Nat, d < n → dk E D Q M d) ∧ (M 1 9).toInt = gs (M 1) 18 n ∧ (0 ≤ (M 0 7).toInt ∧ (M 0 7).toInt + gs (M 1) 14 n ≤ 99990)
theorem dk_cong {E D Q : Nat → Int} {M M' : tt_St} {d : Nat} (h : dk E D Q M d) (e : ∀ j : Nat, j < 7 → j ≠ 3 → M' 1 (12 + j + 7 * d) = M 1 (12 + j + 7 * d)) : dk E D Q M' d := by
  have e0 := e 0 (by decide) (by decide)
  have e1 := e 1 (by decide) (by decide)
  have e2 := e 2 (by decide) (by decide)
  have e4 := e 4 (by decide) (by decide)
  have e5 := e 5 (by decide) (by decide)
  have e6 := e 6 (by decide) (by decide)
  simp only [Nat.add_zero, Nat.reduceAdd] at e0 e1 e2 e4 e5 e6
  unfold dk at *
  rw [e0, e1, e2, e4, e5, e6]
  exact h
theorem dk_le {E D Q E' D' Q' : Nat → Int} {M : tt_St} {d : Nat} (h : dk E D Q M d) (h1 : E d ≤ E' d) (h2 : D d ≤ D' d) (h3 : Q d ≤ Q' d) : dk E' D' Q' M d := by
  unfold dk at *
  omega
theorem bM_le {n : Nat} {E D Q E' D' Q' : Nat → Int} {M : tt_St} (h : bM n E D Q M) (hE : ∀ d : Nat, d < n → E d ≤ E' d ∧ D d ≤ D' d ∧ Q d ≤ Q' d) : bM n E' D' Q' M :=
  ⟨h.1, h.2.1, h.2.2.1, h.2.2.2.1, h.2.2.2.2.1, fun d hd => dk_le (h.2.2.2.2.2.1 d hd) (hE d hd).1 (hE d hd).2.1 (hE d hd).2.2, h.2.2.2.2.2.2⟩
theorem bM_cong {n : Nat} {E D Q : Nat → Int} {M M' : tt_St} (h : bM n E D Q M) (e : ∀ k : Nat, (k ≤ 3 ∨ k = 5 ∨ k = 9 ∨ (12 ≤ k ∧ k < 12 + 7 * n)) → M' 1 k = M 1 k) (e0 : M' 0 7 = M 0 7) : bM n E D Q M' := by
  obtain ⟨h0, h1, h2, h3, h4, h5, h6, h7⟩ := h
  refine ⟨by rw [e 0 (by omega)]; exact h0, by rw [e 1 (by omega)]; exact h1, by rw [e 2 (by omega)]; exact h2, by rw [e 3 (by omega)]; exact h3, by rw [e 5 (by omega)]; exact h4, fun d hd => dk_cong (h5 d hd) (fun j hj _ => e _ (by omega)), ?_, ?_⟩
  · rw [e 9 (by omega), h6]
    exact (gs_ext (fun d hd => e _ (by omega))).symm
  · rw [e0, gs_ext (f := M' 1) (g := M 1) (b := 14) (n := n) (fun d hd => e _ (by omega))]
    exact h7
theorem bM_up {n k : Nat} {E D Q : Nat → Int} {M : tt_St} {v : Int32} (h : bM n E D Q M) (hk : k = 4 ∨ k = 6 ∨ k = 7 ∨ k = 8 ∨ k = 10 ∨ k = 11 ∨ 82 ≤ k) : bM n E D Q (tt_up M 1 k v) := by
  have hn := h.1.2
  exact bM_cong h (fun j hj => tt_up_ne (by omega)) (tt_up_ne (by omega))
theorem bM_u0 {n k : Nat} {E D Q : Nat → Int} {M : tt_St} {v : Int32} (h : bM n E D Q M) (hk : k ≠ 7) : bM n E D Q (tt_up M 0 k v) :=
  bM_cong h (fun j hj => tt_up_ne (by omega)) (tt_up_ne (by omega))
theorem bM_row {n a : Nat} {E D Q : Nat → Int} {M : tt_St} {f : Nat → Int32} (h : bM n E D Q M) (ha : 2 ≤ a) : bM n E D Q (tt_upR M a f) :=
  bM_cong h (fun j hj => by rw [tt_upR_row (by omega)]) (by rw [tt_upR_row (by omega)])
theorem bM_left {n : Nat} {E D Q : Nat → Int} {M : tt_St} {v : Int32} (h : bM n E D Q M) (hv : 0 ≤ v.toInt ∧ v.toInt ≤ 99) : bM n E D Q (tt_up M 1 3 v) := by
  obtain ⟨h0, h1, h2, h3, h4, h5, h6, h7⟩ := h
  have e : ∀ k : Nat, k ≠ 3 → tt_up M 1 3 v 1 k = M 1 k := fun k hk => tt_up_ne (by omega)
  refine ⟨by rw [e 0 (by omega)]; exact h0, by rw [e 1 (by omega)]; exact h1, by rw [e 2 (by omega)]; exact h2, by rw [tt_up_self]; exact hv, by rw [e 5 (by omega)]; exact h4, fun d hd => dk_cong (h5 d hd) (fun j hj _ => e _ (by omega)), ?_, ?_⟩
  · rw [e 9 (by omega), h6]
    exact (gs_ext (fun d hd => e _ (by omega))).symm
  · rw [tt_up_ne (by omega), gs_ext (f := tt_up M 1 3 v 1) (g := M 1) (b := 14) (n := n) (fun d hd => e _ (by omega))]
    exact h7
/-- one place of a drinker, neither purse nor paid -/
theorem bM_set {n d j : Nat} {E D Q E' D' Q' : Nat → Int} {M : tt_St} {v : Int32} (h : bM n E D Q M) (hd : d < n) (hj : j < 7) (hj2 : j ≠ 2) (hj6 : j ≠ 6) (hE : ∀ i : Nat, i < n → i ≠ d → E i ≤ E' i ∧ D i ≤ D' i ∧ Q i ≤ Q' i) (hdk : dk E' D' Q' (tt_up M 1 (12 + j + 7 * d) v) d) : bM n E' D' Q' (tt_up M 1 (12 + j + 7 * d) v) := by
  obtain ⟨h0, h1, h2, h3, h4, h5, h6, h7⟩ := h
  have e : ∀ k : Nat, k ≠ 12 + j + 7 * d → tt_up M 1 (12 + j + 7 * d) v 1 k = M 1 k := fun k hk => tt_up_ne (by omega)
  refine ⟨by rw [e 0 (by omega)]; exact h0, by rw [e 1 (by omega)]; exact h1, by rw [e 2 (by omega)]; exact h2, by rw [e 3 (by omega)]; exact h3, by rw [e 5 (by omega)]; exact h4, fun i hi => ?_, ?_, ?_⟩
  · by_cases c : i = d
    · subst c; exact hdk
    · have := hE i hi c
      exact dk_le (dk_cong (h5 i hi) (fun j' hj' _ => e _ (by omega))) this.1 this.2.1 this.2.2
  · rw [e 9 (by omega), h6]
    exact (gs_ext (fun i hi => e _ (by omega))).symm
  · rw [tt_up_ne (by omega), gs_ext (f := tt_up M 1 (12 + j + 7 * d) v 1) (g := M 1) (b := 14) (n := n) (fun i hi => e _ (by omega))]
    exact h7
theorem bM_debt {n d : Nat} {E D Q : Nat → Int} {M : tt_St} {v : Int32} {x : Int} (h : bM n E D Q M) (hd : d < n) (hv : 0 ≤ v.toInt ∧ v.toInt ≤ x) : bM n (updI E d x) D Q (tt_up M 1 (16 + 7 * d) v) := by
  refine bM_set (j := 4) h hd (by decide) (by decide) (by decide) (fun i hi hne => ⟨by rw [updI_ne hne]; exact Int.le_refl _, Int.le_refl _, Int.le_refl _⟩) ?_
  have := h.2.2.2.2.2.1 d hd
  unfold dk at *
  rw [tt_up_self, updI_eq, tt_up_ne (by omega), tt_up_ne (by omega), tt_up_ne (by omega), tt_up_ne (by omega), tt_up_ne (by omega)]
  omega
theorem bM_drunk {n d : Nat} {E D Q : Nat → Int} {M : tt_St} {v : Int32} {x : Int} (h : bM n E D Q M) (hd : d < n) (hv : 0 ≤ v.toInt ∧ v.toInt ≤ x) : bM n E (updI D d x) Q (tt_up M 1 (17 + 7 * d) v) := by
  refine bM_set (j := 5) h hd (by decide) (by decide) (by decide) (fun i hi hne => ⟨Int.le_refl _, by rw [updI_ne hne]; exact Int.le_refl _, Int.le_refl _⟩) ?_
  have := h.2.2.2.2.2.1 d hd
  unfold dk at *
  rw [tt_up_self, updI_eq, tt_up_ne (by omega), tt_up_ne (by omega), tt_up_ne (by omega), tt_up_ne (by omega), tt_up_ne (by omega)]
  omega
/-- what a payment does -/
def PAY (M : tt_St) (d : Nat) (v : Int32) : tt_St := tt_up (tt_up (tt_up (tt_up (tt_up M 1 (14 + 7 * d) (M 1 (14 + 7 * d) - v)) 1 (18 + 7 * d) (M 1 (18 + 7 * d) + v)) 1 4 (M 1 4 + v)) 1 9 (M 1 9 + v)) 0 7 (M 0 7 + v)
theorem PAY_at {M : tt_St} {d k : Nat} {v : Int32} (h9 : k ≠ 9) (h4 : k ≠ 4) (h1 : k ≠ 14 + 7 * d) (h2 : k ≠ 18 + 7 * d) : PAY M d v 1 k = M 1 k := by
  unfold PAY
  rw [tt_up_ne (by omega), tt_up_ne (by omega), tt_up_ne (by omega), tt_up_ne (by omega), tt_up_ne (by omega)]
theorem PAY_14 {M : tt_St} {d : Nat} {v : Int32} : PAY M d v 1 (14 + 7 * d) = M 1 (14 + 7 * d) - v := by
  unfold PAY
  rw [tt_up_ne (by omega), tt_up_ne (by omega), tt_up_ne (by omega), tt_up_ne (by omega), tt_up_self]
theorem PAY_18 {M : tt_St} {d : Nat} {v : Int32} : PAY M d v 1 (18 + 7 * d) = M 1 (18 + 7 * d) + v := by
  unfold PAY
  rw [tt_up_ne (by omega), tt_up_ne (by omega), tt_up_ne (by omega), tt_up_self]
theorem PAY_9 {M : tt_St} {d : Nat} {v : Int32} : PAY M d v 1 9 = M 1 9 + v := by
  unfold PAY
  rw [tt_up_ne (by omega), tt_up_self]
theorem PAY_4 {M : tt_St} {d : Nat} {v : Int32} : PAY M d v 1 4 = M 1 4 + v := by
  unfold PAY
  rw [tt_up_ne (by omega), tt_up_ne (by omega), tt_up_self]
theorem PAY_07 {M : tt_St} {d : Nat} {v : Int32} : PAY M d v 0 7 = M 0 7 + v := tt_up_self _ _ _ _
theorem PAY_0 {M : tt_St} {d k : Nat} {v : Int32} (h : k ≠ 7) : PAY M d v 0 k = M 0 k := by
  unfold PAY
  rw [tt_up_ne (by omega), tt_up_ne (by omega), tt_up_ne (by omega), tt_up_ne (by omega), tt_up_ne (by omega)]
theorem bM_pay {n d : Nat} {E D Q : Nat → Int} {M : tt_St} {v : Int32} {x : Int} (h : bM n E D Q M) (hd : d < n) (hv : 0 ≤ v.toInt ∧ v.toInt ≤ (M 1 (14 + 7 * d)).toInt) (hx : Q d + v.toInt ≤ x) (hq : x ≤ 1000000) (hQ : ∀ i : Nat, i < n → Q i ≤ 1000000) : bM n E D (updI Q d x) (PAY M d v) := by
  obtain ⟨h0, h1, h2, h3, h4, h5, h6, h7⟩ := h
  have hk := h5 d hd
  have hq2 := hQ d hd
  have es := gs_bd (f := M 1) (b := 18) (lo := 0) (hi := 1000000) (n := n) (fun i hi => by have := h5 i hi; have := hQ i hi; unfold dk at *; omega)
  have ep := gs_bd (f := M 1) (b := 14) (lo := 0) (hi := 9999) (n := n) (fun i hi => by have := h5 i hi; unfold dk at *; omega)
  have e14 : (M 1 (14 + 7 * d) - v).toInt = (M 1 (14 + 7 * d)).toInt - v.toInt := by unfold dk at hk; exact lp_sub (by omega) (by omega)
  have e18 : (M 1 (18 + 7 * d) + v).toInt = (M 1 (18 + 7 * d)).toInt + v.toInt := by unfold dk at hk; exact lp_add (by omega) (by omega)
  have e9 : (M 1 9 + v).toInt = (M 1 9).toInt + v.toInt := by unfold dk at hk; exact lp_add (by omega) (by omega)
  have e07 : (M 0 7 + v).toInt = (M 0 7).toInt + v.toInt := by unfold dk at hk; exact lp_add (by omega) (by omega)
  have g14 := gs_eq (f := M 1) (g := PAY M d v 1) (b := 14) hd (fun i hi hne => PAY_at (by omega) (by omega) (by omega) (by omega))
  have g18 := gs_eq (f := M 1) (g := PAY M d v 1) (b := 18) hd (fun i hi hne => PAY_at (by omega) (by omega) (by omega) (by omega))
  rw [PAY_14, e14] at g14
  rw [PAY_18, e18] at g18
  refine ⟨by rw [PAY_at (by omega) (by omega) (by omega) (by omega)]; exact h0, by rw [PAY_at (by omega) (by omega) (by omega) (by omega)]; exact h1, by rw [PAY_at (by omega) (by omega) (by omega) (by omega)]; exact h2, by rw [PAY_at (by omega) (by omega) (by omega) (by omega)]; exact h3, by rw [PAY_at (by omega) (by omega) (by omega) (by omega)]; exact h4, fun i hi => ?_, by rw [PAY_9, e9, g18]; omega, by rw [PAY_07, e07, g14]; omega⟩
  by_cases c : i = d
  · subst c
    unfold dk at *
    rw [PAY_14, PAY_18, e14, e18, PAY_at (by omega) (by omega) (by omega) (by omega), PAY_at (by omega) (by omega) (by omega) (by omega), PAY_at (by omega) (by omega) (by omega) (by omega), PAY_at (by omega) (by omega) (by omega) (by omega), updI_eq]
    omega
  · exact dk_le (dk_cong (h5 i hi) (fun j hj _ => PAY_at (by omega) (by omega) (by omega) (by omega))) (Int.le_refl _) (Int.le_refl _) (by rw [updI_ne c]; exact Int.le_refl _)
theorem its_0 {M : tt_St} {k : Int32} (hk : vp_in k 10) : f7_its M k (0 : Int32) = M 1 (12 + 7 * k.toNatClampNeg) := by
  unfold f7_its
  rw [mi_ix hk (by unfold vp_in; decide), show 12 + 7 * k.toNatClampNeg + (0 : Int32).toNatClampNeg = 12 + 7 * k.toNatClampNeg from (by have q : (0 : Int32).toNatClampNeg = 0 := (by decide); omega)]
theorem bec_0 {M : tt_St} {k v : Int32} (hk : vp_in k 10) : f7_becomes M k (0 : Int32) v = tt_up M 1 (12 + 7 * k.toNatClampNeg) v := by
  unfold f7_becomes
  dsimp only
  rw [mi_ix hk (by unfold vp_in; decide), show 12 + 7 * k.toNatClampNeg + (0 : Int32).toNatClampNeg = 12 + 7 * k.toNatClampNeg from (by have q : (0 : Int32).toNatClampNeg = 0 := (by decide); omega)]
theorem its_1 {M : tt_St} {k : Int32} (hk : vp_in k 10) : f7_its M k (1 : Int32) = M 1 (13 + 7 * k.toNatClampNeg) := by
  unfold f7_its
  rw [mi_ix hk (by unfold vp_in; decide), show 12 + 7 * k.toNatClampNeg + (1 : Int32).toNatClampNeg = 13 + 7 * k.toNatClampNeg from (by have q : (1 : Int32).toNatClampNeg = 1 := (by decide); omega)]
theorem bec_1 {M : tt_St} {k v : Int32} (hk : vp_in k 10) : f7_becomes M k (1 : Int32) v = tt_up M 1 (13 + 7 * k.toNatClampNeg) v := by
  unfold f7_becomes
  dsimp only
  rw [mi_ix hk (by unfold vp_in; decide), show 12 + 7 * k.toNatClampNeg + (1 : Int32).toNatClampNeg = 13 + 7 * k.toNatClampNeg from (by have q : (1 : Int32).toNatClampNeg = 1 := (by decide); omega)]
theorem its_2 {M : tt_St} {k : Int32} (hk : vp_in k 10) : f7_its M k (2 : Int32) = M 1 (14 + 7 * k.toNatClampNeg) := by
  unfold f7_its
  rw [mi_ix hk (by unfold vp_in; decide), show 12 + 7 * k.toNatClampNeg + (2 : Int32).toNatClampNeg = 14 + 7 * k.toNatClampNeg from (by have q : (2 : Int32).toNatClampNeg = 2 := (by decide); omega)]
theorem bec_2 {M : tt_St} {k v : Int32} (hk : vp_in k 10) : f7_becomes M k (2 : Int32) v = tt_up M 1 (14 + 7 * k.toNatClampNeg) v := by
  unfold f7_becomes
  dsimp only
  rw [mi_ix hk (by unfold vp_in; decide), show 12 + 7 * k.toNatClampNeg + (2 : Int32).toNatClampNeg = 14 + 7 * k.toNatClampNeg from (by have q : (2 : Int32).toNatClampNeg = 2 := (by decide); omega)]
theorem its_3 {M : tt_St} {k : Int32} (hk : vp_in k 10) : f7_its M k (3 : Int32) = M 1 (15 + 7 * k.toNatClampNeg) := by
  unfold f7_its
  rw [mi_ix hk (by unfold vp_in; decide), show 12 + 7 * k.toNatClampNeg + (3 : Int32).toNatClampNeg = 15 + 7 * k.toNatClampNeg from (by have q : (3 : Int32).toNatClampNeg = 3 := (by decide); omega)]
theorem bec_3 {M : tt_St} {k v : Int32} (hk : vp_in k 10) : f7_becomes M k (3 : Int32) v = tt_up M 1 (15 + 7 * k.toNatClampNeg) v := by
  unfold f7_becomes
  dsimp only
  rw [mi_ix hk (by unfold vp_in; decide), show 12 + 7 * k.toNatClampNeg + (3 : Int32).toNatClampNeg = 15 + 7 * k.toNatClampNeg from (by have q : (3 : Int32).toNatClampNeg = 3 := (by decide); omega)]
theorem its_4 {M : tt_St} {k : Int32} (hk : vp_in k 10) : f7_its M k (4 : Int32) = M 1 (16 + 7 * k.toNatClampNeg) := by
  unfold f7_its
  rw [mi_ix hk (by unfold vp_in; decide), show 12 + 7 * k.toNatClampNeg + (4 : Int32).toNatClampNeg = 16 + 7 * k.toNatClampNeg from (by have q : (4 : Int32).toNatClampNeg = 4 := (by decide); omega)]
theorem bec_4 {M : tt_St} {k v : Int32} (hk : vp_in k 10) : f7_becomes M k (4 : Int32) v = tt_up M 1 (16 + 7 * k.toNatClampNeg) v := by
  unfold f7_becomes
  dsimp only
  rw [mi_ix hk (by unfold vp_in; decide), show 12 + 7 * k.toNatClampNeg + (4 : Int32).toNatClampNeg = 16 + 7 * k.toNatClampNeg from (by have q : (4 : Int32).toNatClampNeg = 4 := (by decide); omega)]
theorem its_5 {M : tt_St} {k : Int32} (hk : vp_in k 10) : f7_its M k (5 : Int32) = M 1 (17 + 7 * k.toNatClampNeg) := by
  unfold f7_its
  rw [mi_ix hk (by unfold vp_in; decide), show 12 + 7 * k.toNatClampNeg + (5 : Int32).toNatClampNeg = 17 + 7 * k.toNatClampNeg from (by have q : (5 : Int32).toNatClampNeg = 5 := (by decide); omega)]
theorem bec_5 {M : tt_St} {k v : Int32} (hk : vp_in k 10) : f7_becomes M k (5 : Int32) v = tt_up M 1 (17 + 7 * k.toNatClampNeg) v := by
  unfold f7_becomes
  dsimp only
  rw [mi_ix hk (by unfold vp_in; decide), show 12 + 7 * k.toNatClampNeg + (5 : Int32).toNatClampNeg = 17 + 7 * k.toNatClampNeg from (by have q : (5 : Int32).toNatClampNeg = 5 := (by decide); omega)]
theorem its_6 {M : tt_St} {k : Int32} (hk : vp_in k 10) : f7_its M k (6 : Int32) = M 1 (18 + 7 * k.toNatClampNeg) := by
  unfold f7_its
  rw [mi_ix hk (by unfold vp_in; decide), show 12 + 7 * k.toNatClampNeg + (6 : Int32).toNatClampNeg = 18 + 7 * k.toNatClampNeg from (by have q : (6 : Int32).toNatClampNeg = 6 := (by decide); omega)]
theorem bec_6 {M : tt_St} {k v : Int32} (hk : vp_in k 10) : f7_becomes M k (6 : Int32) v = tt_up M 1 (18 + 7 * k.toNatClampNeg) v := by
  unfold f7_becomes
  dsimp only
  rw [mi_ix hk (by unfold vp_in; decide), show 12 + 7 * k.toNatClampNeg + (6 : Int32).toNatClampNeg = 18 + 7 * k.toNatClampNeg from (by have q : (6 : Int32).toNatClampNeg = 6 := (by decide); omega)]
theorem pays_nf {M : tt_St} {k a : Int32} (hk : vp_in k 10) : f7_pays M k a = PAY M k.toNatClampNeg (f7_least a (M 1 (14 + 7 * k.toNatClampNeg))) := by
  unfold f7_pays
  dsimp only
  simp only [its_2 hk, its_6 hk, bec_2 hk, bec_6 hk]
  unfold PAY
  rw [tt_up_ne (n' := 1) (k' := 18 + 7 * k.toNatClampNeg) (by omega)]
  rw [tt_up_ne (n' := 1) (k' := 4) (by omega), tt_up_ne (n' := 1) (k' := 4) (by omega)]
  rw [tt_up_ne (n' := 1) (k' := 9) (by omega), tt_up_ne (n' := 1) (k' := 9) (by omega), tt_up_ne (n' := 1) (k' := 9) (by omega)]
  rw [tt_up_ne (n' := 0) (k' := 7) (by omega), tt_up_ne (n' := 0) (k' := 7) (by omega), tt_up_ne (n' := 0) (k' := 7) (by omega), tt_up_ne (n' := 0) (k' := 7) (by omega)]
theorem least_int (a b : Int32) : (f7_least a b).toInt = min a.toInt b.toInt := by
  unfold f7_least
  by_cases c : b ≤ a
  · rw [if_pos c]
    rw [lp_le] at c
    omega
  · rw [if_neg c]
    rw [lp_le] at c
    omega
