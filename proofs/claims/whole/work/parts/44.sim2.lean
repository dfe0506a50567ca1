/-! cups, weeks, days: both sides -/
theorem tt_up_comm {S : tt_St} {n k n' k' : Nat} {x y : Int32} (h : ¬ (n = n' ∧ k = k')) : tt_up (tt_up S n k x) n' k' y = tt_up (tt_up S n' k' y) n k x := by
  funext i j
  rw [tt_up_at, tt_up_at, tt_up_at, tt_up_at]
  by_cases c1 : i = n' ∧ j = k'
  · rw [if_pos c1, if_neg (fun c2 => h ⟨c2.1.symm.trans c1.1, c2.2.symm.trans c1.2⟩), if_pos c1]
  · rw [if_neg c1]
    by_cases c2 : i = n ∧ j = k
    · rw [if_pos c2, if_pos c2]
    · rw [if_neg c2, if_neg c2, if_neg c1]
theorem sr_served {r : Nat} {b : Prop} {u v : Int32} {S M : tt_St} (hr : r < 3) (h : SR r b u v S M) : SR r b u v (tt_up S r 9 (S r 9 + (1 : Int32))) (tt_up M 0 8 (M 0 8 + (1 : Int32))) := by
  obtain ⟨h1, h2, h3, h5⟩ := h
  refine ⟨fun j hj => ?_, by rw [tt_up_ne (by omega), tt_up_ne (by omega)]; exact h2, ?_, fun hb => ?_⟩
  · rw [tt_up_ne (n' := 1) (k' := 0) (by omega)] at hj
    rw [tt_up_ne (by omega), tt_up_ne (by omega)]
    exact h1 j hj
  · rw [tt_up_self, tt_up_self, h3, Int32.add_assoc, Int32.add_assoc, Int32.add_comm v 1]
  · obtain ⟨g1, g2⟩ := h5 hb
    refine ⟨by rw [tt_up_ne (by omega), tt_up_ne (by omega)]; exact g1, fun i hi => ?_⟩
    have := g2 i hi
    rw [tt_up_ne (by omega), tt_up_ne (by omega), tt_up_ne (by omega), tt_up_ne (by omega)]
    exact this
def CUPC (S : tt_St) (r d : Nat) : tt_St := tt_up (tt_up (tt_up S r 3 (S r 3 - (1 : Int32))) r 9 ((tt_up S r 3 (S r 3 - (1 : Int32))) r 9 + (1 : Int32))) r (17 + 7 * d) ((tt_up (tt_up S r 3 (S r 3 - (1 : Int32))) r 9 ((tt_up S r 3 (S r 3 - (1 : Int32))) r 9 + (1 : Int32))) r (17 + 7 * d) + (1 : Int32))
theorem sr_CUP {r d : Nat} {b : Prop} {u v : Int32} {S M : tt_St} (hr : r < 3) (h : SR r b u v S M) (hd : d < (M 1 0).toNatClampNeg) (hn : (M 1 0).toNatClampNeg ≤ 10) : SR r b u v (CUPC S r d) (CUP M d) := by
  have e3 := h.1 3 (by omega)
  have h1 := sr_up (k := 3) (x := S r 3 - (1 : Int32)) h (by omega) (by omega) (by omega)
  have h2 := sr_served hr h1
  have e17 := h2.1 (17 + 7 * d) (by rw [tt_up_ne (by omega), tt_up_ne (by omega)]; omega)
  have h3 := sr_up (k := 17 + 7 * d) (x := (tt_up (tt_up S r 3 (S r 3 - (1 : Int32))) r 9 ((tt_up S r 3 (S r 3 - (1 : Int32))) r 9 + (1 : Int32))) r (17 + 7 * d) + (1 : Int32)) h2 (by omega) (by omega) (by omega)
  have e : CUP M d = tt_up (tt_up (tt_up M 1 3 (S r 3 - (1 : Int32))) 0 8 ((tt_up M 1 3 (S r 3 - (1 : Int32))) 0 8 + (1 : Int32))) 1 (17 + 7 * d) ((tt_up (tt_up S r 3 (S r 3 - (1 : Int32))) r 9 ((tt_up S r 3 (S r 3 - (1 : Int32))) r 9 + (1 : Int32))) r (17 + 7 * d) + (1 : Int32)) := by
    unfold CUP
    rw [e17, e3, tt_up_comm (n := 0) (k := 8) (n' := 1) (k' := 17 + 7 * d) (by omega), tt_up_ne (S := M) (n' := 0) (k' := 8) (by omega), tt_up_ne (n' := 1) (k' := 17 + 7 * d) (by omega), tt_up_ne (n' := 1) (k' := 17 + 7 * d) (by omega)]
  rw [e]
  exact h3
theorem sr_pot {r n : Nat} {b : Prop} {u v : Int32} {S M : tt_St} {k : Int32} {E D Q : Nat → Int} (h : SR r b u v S M) (hb : bM n E D Q M) (hk : vp_in k 10) (hd : k.toNatClampNeg < n) (h3 : S r 3 = 0) :
    ((f2_isPotMade S r k.toNatClampNeg).1 = 0 → (f7_hasCup M k).1 = 0 ∧ SR r b u v (tt_up (f2_isPotMade S r k.toNatClampNeg).2 r 8 ((f2_isPotMade S r k.toNatClampNeg).2 r 8 + (1 : Int32))) (f7_hasCup M k).2) ∧ (¬ (f2_isPotMade S r k.toNatClampNeg).1 = 0 → ¬ (f7_hasCup M k).1 = 0 ∧ SR r b u v (f2_isPotMade S r k.toNatClampNeg).2 (f7_hasCup M k).2) := by
  have hn := bM_n hb
  have h10 := hb.1.2
  have e12 := h.1 (12 + 7 * k.toNatClampNeg) (by omega)
  have e3 := h.1 3 (by omega)
  have e2 := h.1 2 (by omega)
  obtain ⟨ed, g⟩ := sr_draw h
  have g2 := g.1 2 (by omega)
  have g8 := g.1 8 (by omega)
  have m3 : M 1 3 = 0 := by rw [← e3]; exact h3
  have d3 : (f7_drawn M).2 1 3 = 0 := by rw [dr_1 M (by decide)]; exact m3
  have u0 : ∀ (T : tt_St) (j : Nat), tt_up T 1 j (T 1 j + (0 : Int32)) = T := fun T j => by rw [Int32.add_zero, tt_up_id]
  have i3 : tt_up (f7_drawn M).2 1 3 (0 : Int32) = (f7_drawn M).2 := by
    have := tt_up_id (f7_drawn M).2 1 3
    rw [d3] at this
    exact this
  have mle : M 1 3 ≤ 0 := by rw [m3]; decide
  unfold f2_isPotMade f7_hasCup
  dsimp only
  generalize f2_draw S r = dS at *
  generalize f7_drawn M = dM at *
  rw [its_0 hk]
  simp only [u0, i3, if_pos mle, e12, ed]
  by_cases c6 : M 1 (12 + 7 * k.toNatClampNeg) = (6 : Int32)
  · simp only [if_pos c6]
    refine ⟨fun z => absurd z (by decide), fun _ => ⟨by decide, ?_⟩⟩
    rw [e2]
    exact sr_up h (by omega) (by omega) (by omega)
  · simp only [if_neg c6]
    by_cases c : dM.1 - dM.1 / (10 : Int32) * (10 : Int32) < (3 : Int32)
    · have c2 : ¬ (3 : Int32) ≤ dM.1 - dM.1 / (10 : Int32) * (10 : Int32) := by
        rw [lp_le]; rw [lp_lt] at c; omega
      simp only [if_pos c, if_neg c2]
      refine ⟨fun z => absurd z (by decide), fun _ => ⟨by decide, ?_⟩⟩
      rw [g2]
      exact sr_up g (by omega) (by omega) (by omega)
    · have c2 : (3 : Int32) ≤ dM.1 - dM.1 / (10 : Int32) * (10 : Int32) := by
        rw [lp_le]; rw [lp_lt] at c; omega
      simp only [if_neg c, if_pos c2]
      refine ⟨fun _ => ⟨trivial, ?_⟩, fun z => absurd trivial z⟩
      rw [g8]
      exact sr_up g (by omega) (by omega) (by omega)
theorem CUP_ne {M : tt_St} {d k : Nat} (h3 : k ≠ 3) (h : k ≠ 17 + 7 * d) : CUP M d 1 k = M 1 k := by
  unfold CUP
  rw [tt_up_ne (by omega), tt_up_ne (by omega), tt_up_ne (by omega)]
theorem sr_serveL {r n : Nat} {b : Prop} {u v : Int32} {k z : Int32} (hr : r < 3) {E D Q : Nat → Int} (hk : vp_in k 10) (hd : k.toNatClampNeg < n) (hz : z.toInt ≤ 9) {e0 w0 q0 : Int} (he : e0 ≤ 900000000) (hw : w0 ≤ 900000) (hq : q0 ≤ 800000) (hQ : qk n Q) : ∀ (m : Nat) (S M : tt_St) (y : Int32), SR r b u v S M → M 1 (13 + 7 * k.toNatClampNeg) = z → ¬ y < 0 → y.toInt ≤ 9 → bM n (updI E k.toNatClampNeg (e0 + 99 * y.toInt)) (updI D k.toNatClampNeg (w0 + y.toInt)) (updI Q k.toNatClampNeg (q0 + 198 * y.toInt)) M →
    SR r b u v (f2_serve_L2 r k.toNatClampNeg m S y) (f7_drinks_L28 k m M z y) := by
  intro m
  induction m with
  | zero => intro S M y hS _ _ _ _; exact hS
  | succ m ih =>
    intro S M y hS hM h0 hy h
    have hn := bM_n h
    have h10 := h.1.2
    have e13 := hS.1 (13 + 7 * k.toNatClampNeg) (by omega)
    have e3 := hS.1 3 (by omega)
    rw [f2_serve_L2, f7_drinks_L28]
    dsimp only
    rw [e13, hM, cup_nf hk]
    by_cases c1 : z ≤ y
    · rw [if_pos c1, if_pos c1]; exact hS
    rw [if_neg c1, if_neg c1]
    have ey := lp_inc c1
    have hy9 : (y + 1).toInt ≤ 9 := by rw [lp_le] at c1; omega
    obtain ⟨b1, b2⟩ := b_hasCup h hk
    -- one cup more, on both sides
    have go : ∀ S1 : tt_St, SR r b u v S1 (f7_hasCup M k).2 → ¬ (f7_hasCup M k).1 = 0 → SR r b u v (f2_serve_L2 r k.toNatClampNeg m (f2_payCup (CUPC S1 r k.toNatClampNeg) r k.toNatClampNeg y) (y + (1 : Int32))) (if y = 0 then f7_drinks_L28 k m (f7_paysFor (CUP (f7_hasCup M k).2 k.toNatClampNeg) k (1 : Int32)) z (y + (1 : Int32)) else f7_drinks_L28 k m (f7_paysFor (CUP (f7_hasCup M k).2 k.toNatClampNeg) k (0 : Int32)) z (y + (1 : Int32))) := by
      intro S1 g c2
      have gn := bM_n b1
      have g1 := sr_CUP hr g (d := k.toNatClampNeg) (by omega) (by omega)
      have bc := b_CUP (x := w0 + (y + 1).toInt) b1 hd (b2 c2) (by rw [updI_eq]; omega) (by rw [updI_eq]; omega)
      rw [updI_up] at bc
      have bp : ∀ f : Int32, bM n (updI E k.toNatClampNeg (e0 + 99 * (y + 1).toInt)) (updI D k.toNatClampNeg (w0 + (y + 1).toInt)) (updI Q k.toNatClampNeg (q0 + 198 * (y + 1).toInt)) (f7_paysFor (CUP (f7_hasCup M k).2 k.toNatClampNeg) k f) := fun f => by
        have b := b_paysFor (f := f) (y := e0 + 99 * (y + 1).toInt) (x := q0 + 198 * (y + 1).toInt) bc hk hd (by rw [updI_eq]; omega) (by omega) (by rw [updI_eq]; omega) (by omega) (qk_up hQ (by omega))
        rw [updI_up, updI_up] at b
        exact b
      have z13 : ∀ f : Int32, f7_paysFor (CUP (f7_hasCup M k).2 k.toNatClampNeg) k f 1 (13 + 7 * k.toNatClampNeg) = z := fun f => by
        rw [fm_paysFor _ f hk 1 _ (fun _ => by unfold mm_al; omega) (by omega), CUP_ne (by omega) (by omega), fm_hasCup M k 1 _ (fun _ => by unfold mm_al; omega) (by omega)]
        exact hM
      by_cases cy : y = 0
      · rw [if_pos cy]
        exact ih _ _ _ (sr_payCup g1 bc hk hd (Or.inl ⟨cy, rfl⟩)) (z13 _) (lp_nn h0 c1) hy9 (bp _)
      · rw [if_neg cy]
        exact ih _ _ _ (sr_payCup g1 bc hk hd (Or.inr ⟨cy, rfl⟩)) (z13 _) (lp_nn h0 c1) hy9 (bp _)
    by_cases c3 : S r 3 = 0
    · rw [if_pos c3]
      obtain ⟨p1, p2⟩ := sr_pot hS h hk hd c3
      by_cases cp : (f2_isPotMade S r k.toNatClampNeg).1 = 0
      · rw [if_pos cp, if_pos (p1 cp).1]
        exact (p1 cp).2
      · rw [if_neg cp, if_neg (p2 cp).1]
        exact go _ (p2 cp).2 (p2 cp).1
    · rw [if_neg c3]
      have hc : f7_hasCup M k = (1, M) := by
        unfold f7_hasCup
        rw [if_neg]
        rw [lp_le, lp_0]
        intro q
        have := h.2.2.2.1
        exact c3 (by rw [e3]; exact Int32.toInt_inj.mp (by rw [lp_0]; omega))
      have g := go S (by rw [hc]; exact hS) (by rw [hc]; exact show ¬ (1 : Int32) = 0 from by decide)
      rw [hc] at g ⊢
      rw [if_neg (show ¬ (1 : Int32) = 0 from by decide)]
      exact g
theorem sr_serve {r n : Nat} {b : Prop} {u v : Int32} {S M : tt_St} {k : Int32} (hr : r < 3) {E D Q : Nat → Int} (hS : SR r b u v S M) (h : bM n E D Q M) (hk : vp_in k 10) (hd : k.toNatClampNeg < n) (he : E k.toNatClampNeg ≤ 900000000) (hw : D k.toNatClampNeg ≤ 900000) (hq : Q k.toNatClampNeg ≤ 800000) (hQ : qk n Q) : SR r b u v (if (S r (15 + 7 * k.toNatClampNeg)) < (S r 1) then S else f2_serve S r k.toNatClampNeg) (f7_drinks M k) := by
  have hn := bM_n h
  have h10 := h.1.2
  have hp := h.2.2.2.2.2.1 _ hd
  have e13 := hS.1 (13 + 7 * k.toNatClampNeg) (by omega)
  have e15 := hS.1 (15 + 7 * k.toNatClampNeg) (by omega)
  have e1 := hS.1 1 (by omega)
  have st : bM n (updI E k.toNatClampNeg (E k.toNatClampNeg + 99 * (0 : Int32).toInt)) (updI D k.toNatClampNeg (D k.toNatClampNeg + (0 : Int32).toInt)) (updI Q k.toNatClampNeg (Q k.toNatClampNeg + 198 * (0 : Int32).toInt)) M := by
    rw [updI_id (by rw [lp_0]; omega), updI_id (by rw [lp_0]; omega), updI_id (by rw [lp_0]; omega)]
    exact h
  unfold dk at hp
  unfold f7_drinks f2_serve
  dsimp only
  rw [its_1 hk, its_3 hk, e13, e15, e1]
  by_cases c : M 1 (15 + 7 * k.toNatClampNeg) < M 1 1
  · rw [if_pos c, if_neg (by rw [lp_le]; rw [lp_lt] at c; omega), f7_drinks_L28]
    rw [if_pos (by decide)]
    exact hS
  · rw [if_neg c, if_pos (by rw [lp_le]; rw [lp_lt] at c; omega)]
    exact sr_serveL hr hk hd (by omega) he hw hq hQ _ S M 0 hS rfl (by decide) (by decide) st
