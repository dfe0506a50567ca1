/-! THE CLASS'S DAYS ARE THE REFERENCE'S -/
theorem tt_up_id (S : tt_St) (n k : Nat) : tt_up S n k (S n k) = S := by
  funext n' k'
  rw [tt_up_at]
  by_cases c : n' = n ∧ k' = k
  · rw [if_pos c, c.1, c.2]
  · rw [if_neg c]
def rel (r : Nat) (S : tt_St) (q : Nat) (M : tt_St) : Prop := ∀ k : Nat, (k ≤ 8 ∨ k = 10 ∨ (12 ≤ k ∧ k < 12 + 7 * (M q 0).toNatClampNeg)) → S r k = M q k
def bks (r : Nat) (S : tt_St) (q : Nat) (M : tt_St) : Prop := S r 11 = M q 11 ∧ ∀ i : Nat, i < 20 → S (6 + r) i = M q (82 + 2 * i) ∧ S (9 + r) i = M q (83 + 2 * i)
def SR (r : Nat) (b : Prop) (u v : Int32) (S M : tt_St) : Prop := rel r S 1 M ∧ S r 4 = M 0 7 + u ∧ S r 9 = M 0 8 + v ∧ (b → bks r S 1 M)
theorem sr_up {r k : Nat} {b : Prop} {u v x : Int32} {S M : tt_St} (h : SR r b u v S M) (h0 : k ≠ 0) (h4 : k ≠ 4) (hk : k ≤ 8 ∨ k = 10 ∨ (12 ≤ k ∧ k < 82)) : SR r b u v (tt_up S r k x) (tt_up M 1 k x) := by
  obtain ⟨h1, h2, h3, h5⟩ := h
  refine ⟨fun j hj => ?_, by rw [tt_up_ne (by omega), tt_up_ne (by omega)]; exact h2, by rw [tt_up_ne (by omega), tt_up_ne (by omega)]; exact h3, fun hb => ?_⟩
  · by_cases c : j = k
    · subst c; rw [tt_up_self, tt_up_self]
    · rw [tt_up_ne (S := M) (n' := 1) (k' := 0) (by omega)] at hj
      rw [tt_up_ne (by omega), tt_up_ne (by omega)]
      exact h1 j hj
  · obtain ⟨g1, g2⟩ := h5 hb
    refine ⟨by rw [tt_up_ne (by omega), tt_up_ne (by omega)]; exact g1, fun i hi => ?_⟩
    have := g2 i hi
    rw [tt_up_ne (by omega), tt_up_ne (by omega), tt_up_ne (by omega), tt_up_ne (by omega)]
    exact this
def PAYC (S : tt_St) (r d : Nat) (v : Int32) : tt_St := tt_up (tt_up (tt_up S r (14 + 7 * d) (S r (14 + 7 * d) - v)) r (18 + 7 * d) (S r (18 + 7 * d) + v)) r 4 (S r 4 + v)
theorem pay_nf {S : tt_St} {r d : Nat} {a : Int32} : f2_pay S r d a = (f7_least a (S r (14 + 7 * d)), PAYC S r d (f7_least a (S r (14 + 7 * d)))) := by
  have e : (if S r (14 + 7 * d) < a then S r (14 + 7 * d) else a) = f7_least a (S r (14 + 7 * d)) := by
    unfold f7_least
    by_cases c : S r (14 + 7 * d) < a
    · rw [if_pos c, if_pos (by rw [lp_lt] at c; rw [lp_le]; omega)]
    · rw [if_neg c]
      by_cases c2 : S r (14 + 7 * d) ≤ a
      · rw [if_pos c2]
        rw [lp_lt] at c
        rw [lp_le] at c2
        exact Int32.toInt_inj.mp (by omega)
      · rw [if_neg c2]
  unfold f2_pay
  dsimp only
  rw [e]
  unfold PAYC
  rw [tt_up_ne (n' := r) (k' := 18 + 7 * d) (by omega), tt_up_ne (n' := r) (k' := 4) (by omega), tt_up_ne (n' := r) (k' := 4) (by omega)]
theorem least_0 {p : Int32} (h : ¬ p < 0) : f7_least (0 : Int32) p = 0 := by
  unfold f7_least
  by_cases c : p ≤ 0
  · rw [if_pos c]
    rw [lp_le, lp_0] at c
    rw [lp_lt, lp_0] at h
    exact Int32.toInt_inj.mp (by rw [lp_0]; omega)
  · rw [if_neg c]
theorem pay_0 {S : tt_St} {r d : Nat} (h : ¬ S r (14 + 7 * d) < 0) : f2_pay S r d (0 : Int32) = (0, S) := by
  rw [pay_nf, least_0 h]
  unfold PAYC
  rw [Int32.sub_zero, Int32.add_zero, Int32.add_zero, tt_up_id, tt_up_id, tt_up_id]
theorem pays_0 {M : tt_St} {k : Int32} (hk : vp_in k 10) (h : ¬ M 1 (14 + 7 * k.toNatClampNeg) < 0) : f7_pays M k (0 : Int32) = M := by
  rw [pays_nf hk, least_0 h]
  unfold PAY
  rw [Int32.sub_zero, Int32.add_zero, Int32.add_zero, Int32.add_zero, Int32.add_zero, tt_up_id, tt_up_id, tt_up_id, tt_up_id, tt_up_id]
theorem sr_PAY {r d : Nat} {b : Prop} {u v x : Int32} {S M : tt_St} (h : SR r b u v S M) (hd : d < (M 1 0).toNatClampNeg) (hn : (M 1 0).toNatClampNeg ≤ 10) : SR r b u v (PAYC S r d x) (PAY M d x) := by
  obtain ⟨h1, h2, h3, h5⟩ := h
  have e14 := h1 (14 + 7 * d) (by omega)
  have e18 := h1 (18 + 7 * d) (by omega)
  have e4 := h1 4 (by omega)
  refine ⟨fun j hj => ?_, ?_, ?_, fun hb => ?_⟩
  · rw [PAY_at (by omega) (by omega) (by omega) (by omega)] at hj
    unfold PAYC
    by_cases c4 : j = 4
    · subst c4
      rw [tt_up_self, PAY_4, e4]
    rw [tt_up_ne (by omega)]
    by_cases c18 : j = 18 + 7 * d
    · subst c18
      rw [tt_up_self, PAY_18, e18]
    rw [tt_up_ne (by omega)]
    by_cases c14 : j = 14 + 7 * d
    · subst c14
      rw [tt_up_self, PAY_14, e14]
    rw [tt_up_ne (by omega), PAY_at (by omega) c4 c14 c18]
    exact h1 j hj
  · unfold PAYC
    rw [tt_up_self, PAY_07, h2, Int32.add_assoc, Int32.add_assoc, Int32.add_comm u x]
  · unfold PAYC
    rw [tt_up_ne (by omega), tt_up_ne (by omega), tt_up_ne (by omega), PAY_0 (by decide)]
    exact h3
  · obtain ⟨g1, g2⟩ := h5 hb
    have eS : ∀ n k : Nat, n ≠ r → PAYC S r d x n k = S n k := fun n k hne => by
      unfold PAYC
      rw [tt_up_ne (by omega), tt_up_ne (by omega), tt_up_ne (by omega)]
    refine ⟨?_, fun i hi => ?_⟩
    · unfold PAYC
      rw [tt_up_ne (by omega), tt_up_ne (by omega), tt_up_ne (by omega), PAY_at (by omega) (by omega) (by omega) (by omega)]
      exact g1
    · have := g2 i hi
      rw [eS _ _ (by omega), eS _ _ (by omega), PAY_at (by omega) (by omega) (by omega) (by omega), PAY_at (by omega) (by omega) (by omega) (by omega)]
      exact this
theorem sr_pay {r : Nat} {b : Prop} {u v : Int32} {S M : tt_St} {k a : Int32} (h : SR r b u v S M) (hk : vp_in k 10) (hd : k.toNatClampNeg < (M 1 0).toNatClampNeg) (hn : (M 1 0).toNatClampNeg ≤ 10) : SR r b u v (f2_pay S r k.toNatClampNeg a).2 (f7_pays M k a) := by
  rw [pay_nf, pays_nf hk, h.1 (14 + 7 * k.toNatClampNeg) (by omega)]
  exact sr_PAY h hd hn
theorem sr_draw {r : Nat} {b : Prop} {u v : Int32} {S M : tt_St} (h : SR r b u v S M) : (f2_draw S r).1 = (f7_drawn M).1 ∧ SR r b u v (f2_draw S r).2 (f7_drawn M).2 := by
  have e := h.1 10 (by omega)
  unfold f2_draw f7_drawn
  dsimp only
  rw [e, tt_up_self, tt_up_self]
  exact ⟨rfl, sr_up h (by omega) (by omega) (by omega)⟩
theorem bM_n {n : Nat} {E D Q : Nat → Int} {M : tt_St} (h : bM n E D Q M) : (M 1 0).toNatClampNeg = n := cl_eq h.1.1
theorem sr_forg {r n : Nat} {b : Prop} {u v : Int32} {S M : tt_St} {k : Int32} {E D Q : Nat → Int} (h : SR r b u v S M) (hb : bM n E D Q M) (hk : vp_in k 10) (hd : k.toNatClampNeg < n) : SR r b u v (if (f2_isForgotten S r).1 = 0 then (f2_pay (f2_isForgotten S r).2 r k.toNatClampNeg ((f2_isForgotten S r).2 r 1)).2 else (f2_pay (f2_isForgotten S r).2 r k.toNatClampNeg (0 : Int32)).2) (f7_forgets M k) := by
  obtain ⟨e, g⟩ := sr_draw h
  have hb2 := b_drawn hb
  have hn := bM_n hb2
  have h10 := hb.1.2
  have hp := hb2.2.2.2.2.2.1 _ hd
  have e5 := g.1 5 (by omega)
  have e1 := g.1 1 (by omega)
  have e14 := g.1 (14 + 7 * k.toNatClampNeg) (by omega)
  unfold f2_isForgotten f7_forgets
  dsimp only
  generalize f2_draw S r = dS at *
  generalize f7_drawn M = dM at *
  simp only [e, e5]
  by_cases c : dM.1 - dM.1 / (10 : Int32) * (10 : Int32) < (4 : Int32) - (2 : Int32) * (dM.2 1 5)
  · have c2 : ¬ (4 : Int32) - (2 : Int32) * (dM.2 1 5) ≤ dM.1 - dM.1 / (10 : Int32) * (10 : Int32) := by
      rw [lp_le]; rw [lp_lt] at c; omega
    simp only [if_neg c2, if_pos c]
    unfold dk at hp
    rw [if_neg (by decide), pay_0 (by rw [e14]; exact nn_int (by omega))]
    exact g
  · have c2 : (4 : Int32) - (2 : Int32) * (dM.2 1 5) ≤ dM.1 - dM.1 / (10 : Int32) * (10 : Int32) := by
      rw [lp_le]; rw [lp_lt] at c; omega
    simp only [if_pos c2, if_neg c]
    rw [if_pos trivial, e1]
    exact sr_pay g hk (by omega) (by omega)
theorem sr_payCup {r n : Nat} {b : Prop} {u v : Int32} {S M : tt_St} {k c f : Int32} {E D Q : Nat → Int} (h : SR r b u v S M) (hb : bM n E D Q M) (hk : vp_in k 10) (hd : k.toNatClampNeg < n) (hf : (c = 0 ∧ f = 1) ∨ (¬ c = 0 ∧ f = 0)) : SR r b u v (f2_payCup S r k.toNatClampNeg c) (f7_paysFor M k f) := by
  have hn := bM_n hb
  have h10 := hb.1.2
  have hp := hb.2.2.2.2.2.1 _ hd
  unfold dk at hp
  have e12 := h.1 (12 + 7 * k.toNatClampNeg) (by omega)
  have e14 := h.1 (14 + 7 * k.toNatClampNeg) (by omega)
  have e16 := h.1 (16 + 7 * k.toNatClampNeg) (by omega)
  have e1 := h.1 1 (by omega)
  have e5 := h.1 5 (by omega)
  have e6 := h.1 6 (by omega)
  have hz : ¬ S r (14 + 7 * k.toNatClampNeg) < 0 := by rw [e14]; exact nn_int (by omega)
  have hzM : ¬ M 1 (14 + 7 * k.toNatClampNeg) < 0 := nn_int (by omega)
  have p0 : (f2_pay S r k.toNatClampNeg (0 : Int32)).2 = S := by rw [pay_0 hz]
  have pM : f7_pays M k (0 : Int32) = M := pays_0 hk hzM
  have pd : ∀ x : Int32, (f2_pay (tt_up S r (16 + 7 * k.toNatClampNeg) x) r k.toNatClampNeg (0 : Int32)).2 = tt_up S r (16 + 7 * k.toNatClampNeg) x := fun x => by
    rw [pay_0 (by rw [tt_up_ne (by omega)]; exact hz)]
  have fg := sr_forg h hb hk hd
  have pay : ∀ a : Int32, SR r b u v (f2_pay S r k.toNatClampNeg a).2 (f7_pays M k a) := fun a => sr_pay h hk (by omega) (by omega)
  have debt : ∀ a : Int32, SR r b u v (tt_up S r (16 + 7 * k.toNatClampNeg) a) (tt_up M 1 (16 + 7 * k.toNatClampNeg) a) := fun a => sr_up h (by omega) (by omega) (by omega)
  unfold f2_payCup f7_paysFor
  dsimp only
  simp only [its_0 hk, its_4 hk, bec_4 hk, e12, e1, e5, e6, e16, p0, pM, pd]
  by_cases c1 : M 1 (12 + 7 * k.toNatClampNeg) = (1 : Int32)
  · simp only [if_pos c1]; exact debt _
  simp only [if_neg c1]
  by_cases c2 : M 1 (12 + 7 * k.toNatClampNeg) = (2 : Int32)
  · simp only [if_pos c2]; exact fg
  simp only [if_neg c2]
  by_cases c3 : M 1 (12 + 7 * k.toNatClampNeg) = (3 : Int32)
  · simp only [if_pos c3]
    by_cases c4 : M 1 5 = (2 : Int32)
    · simp only [if_pos c4]
      rcases hf with ⟨f1, f2⟩ | ⟨f1, f2⟩
      · rw [if_pos f1, f2, if_neg (by decide)]; exact pay _
      · rw [if_neg f1, f2, if_pos rfl]; exact h
    · simp only [if_neg c4]; exact h
  simp only [if_neg c3]
  by_cases c5 : M 1 (12 + 7 * k.toNatClampNeg) = (4 : Int32)
  · simp only [if_pos c5]
    by_cases c6 : M 1 6 < (50 : Int32)
    · simp only [if_pos c6]; exact h
    · simp only [if_neg c6]; exact fg
  simp only [if_neg c5]
  by_cases c7 : M 1 (12 + 7 * k.toNatClampNeg) = (5 : Int32)
  · simp only [if_pos c7]; exact pay _
  simp only [if_neg c7]
  by_cases c8 : M 1 (12 + 7 * k.toNatClampNeg) = (6 : Int32)
  · simp only [if_pos c8]; exact debt _
  simp only [if_neg c8]
  exact pay _
