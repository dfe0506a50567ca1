/-! the whole text, both sides -/
theorem readL {S0 M0 : tt_St} (h7 : 0 ≤ (M0 1 7).toInt) : ∀ (m m' : Nat) (T X : tt_St) (V : Int64) (y : Int32), wx S0 M0 T X → TP T X → X 0 17 < 0 → T 3 4 = X 0 13 → VR M0 T X → 1 ≤ y.toInt → y.toInt ≤ (T 3 4).toInt + 1 → (y.toInt = 1 ∨ y.toInt ≤ (T 3 4).toInt) → lp_nu (120 : Int32) y < m → it_m (f7_item (f7_next X V).1 (f7_next X V).2).1 < m' →
    (0 ≤ (f5_read_L7 2 m T y).1.toInt ∧ (f7_items_L20 m' (f7_item (f7_next X V).1 (f7_next X V).2).1 (f7_item (f7_next X V).1 (f7_next X V).2).2 y).1 = (f5_read_L7 2 m T y).1 ∧ wx S0 M0 (f5_read_L7 2 m T y).2 (f7_items_L20 m' (f7_item (f7_next X V).1 (f7_next X V).2).1 (f7_item (f7_next X V).1 (f7_next X V).2).2 y).2.1 ∧ VR M0 (f5_read_L7 2 m T y).2 (f7_items_L20 m' (f7_item (f7_next X V).1 (f7_next X V).2).1 (f7_item (f7_next X V).1 (f7_next X V).2).2 y).2.1 ∧ (f7_items_L20 m' (f7_item (f7_next X V).1 (f7_next X V).2).1 (f7_item (f7_next X V).1 (f7_next X V).2).2 y).2.1 0 17 < 0) ∨ ((f5_read_L7 2 m T y).1.toInt < 0 ∧ FA S0 M0 (f5_read_L7 2 m T y).2 (f7_items_L20 m' (f7_item (f7_next X V).1 (f7_next X V).2).1 (f7_item (f7_next X V).1 (f7_next X V).2).2 y).2.1 ∧ (f5_read_L7 2 m T y).1 = (-1 : Int32) - (f7_items_L20 m' (f7_item (f7_next X V).1 (f7_next X V).2).1 (f7_item (f7_next X V).1 (f7_next X V).2).2 y).2.1 0 17) := by
  have neg : ∀ p : Int32, 0 ≤ p.toInt → ((-1 : Int32) - p).toInt < 0 := fun p hp => by
    have e : (-1 : Int32).toInt = -1 := rfl
    have := lp_rng p
    rw [lp_sub (by omega) (by omega), e]
    omega
  intro m
  induction m with
  | zero => intro m' T X V y _ _ _ _ _ _ _ _ hm; exact absurd hm (Nat.not_lt_zero _)
  | succ m ih =>
    intro m' T X V y hw hT h17 h4 hv hy1 hy2 hy3 hm hm'
    rcases m' with _ | m'
    · exact absurd hm' (Nat.not_lt_zero _)
    obtain ⟨g1, g2, g3⟩ := next_sim V hT hw.2.2.2.2 h4
    obtain ⟨n1, n2, n3⟩ := nx_next V hw.2.2.2.2
    have len := hw.2.2.2.2
    have c : ¬ (120 : Int32) < y := by
      obtain ⟨l1, l2, l3, l4⟩ := len
      rw [← h4] at l2
      rw [lp_lt, show (120 : Int32).toInt = 120 from rfl]
      omega
    have hr1 : RW S0 M0 (f5_advance T) (f7_next X V).1 (f7_next X V).2 := by
      obtain ⟨w1, w2, w3, w4, w5⟩ := hw
      exact ⟨⟨fun n k a b => by rw [g3 n k (by omega)]; exact w1 n k a b, fun k hk => by rw [n2.row (by decide)]; exact w2 k hk, fun n hn => by rw [n2.row (by omega)]; exact w3 n hn, fun k hk => by rw [n2 0 k (by omega)]; exact w4 k hk, n1⟩, TP_cong hT (g3 3 1 (by omega)) (funext fun k => g3 5 k (by omega)) n2.tp (n2.row (by decide)), g1, by rw [n2.ft]; exact h17⟩
    have hv1 : VR M0 (f5_advance T) (f7_next X V).1 := VR_cong hv (funext fun k => g3 2 k (by omega)) (n2.row (by decide))
    have it := item_sim hr1 hv1 h7
    rw [f5_read_L7, f7_items_L20]
    dsimp only
    rw [if_neg c]
    generalize f5_advance T = T1 at *
    generalize f7_item (f7_next X V).1 (f7_next X V).2 = q at *
    generalize f5_readItem T1 2 = b at *
    rcases it with ⟨i1, i2, i3, i4⟩ | ⟨i1, i2⟩
    · have n17 : ¬ 0 ≤ q.1 0 17 := by have := i2.2.2.2; rw [lp_lt, lp_0] at this; rw [lp_le, lp_0]; omega
      rw [if_neg (by rw [i1]; decide), if_neg n17]
      have ks := i2.2.2.1.1
      rw [ks]
      by_cases s0 : q.1 0 14 = 0
      · rw [if_pos s0, if_neg (by rw [s0]; decide), if_pos s0]
        exact Or.inl ⟨by dsimp only; omega, rfl, i2.1, i3, i2.2.2.2⟩
      rw [if_neg s0]
      by_cases s3 : q.1 0 14 = (3 : Int32)
      · rw [if_pos s3, if_pos s3]
        have hlt : (b.2 3 3).toInt < (b.2 3 4).toInt := by
          rcases i2.2.2.1.2.2.2.2.1 with z | z
          · exact absurd z s0
          · exact z
        obtain ⟨y1, y2, y3, y4⟩ := y_1 (nn_int (by omega)) c (by decide)
        have hr := dN_room i3.2.1
        exact ih m' b.2 q.1 q.2 (y + (1 : Int32)) i2.1 i2.2.1 i2.2.2.2 (i2.2.2.1.2.2.2.1 (by rw [s3]; decide)) i3 (by omega) (by omega) (by omega) (lp_ndec (by decide) c hm) (it_dec i2.1.2.2.2.2 ⟨nn_int (by omega), by omega⟩ n17 s3 hm')
      · rw [if_neg s3, if_neg s3, if_neg s0]
        have fw := RW_wrong i2
        refine Or.inr ⟨neg _ ?_, fw, ?_⟩
        · have := fw.2.2
          rw [fw.2.1] at this
          exact this
        · dsimp only
          rw [fw.2.1]
    · rw [if_pos i1, if_pos (by rw [lp_le, lp_0]; exact i2.2.2)]
      refine Or.inr ⟨neg _ ?_, i2, ?_⟩
      · have := i2.2.2
        rw [i2.2.1] at this
        exact this
      · dsimp only
        rw [i2.2.1]
theorem RR_txt {S S' M M' : tt_St} (h : RR S M) (hB : RB 0 S' 1 M') (hS : ∀ n : Nat, n ≠ 0 → n ≠ 2 → n ≠ 3 → S' n = S n) (h3 : ∀ k : Nat, k = 0 ∨ 10 ≤ k → S' 3 k = S 3 k) (h31 : S' 3 1 = 0) (hM : ∀ n : Nat, 3 ≤ n → M' n = M n) (h03 : M' 0 3 = M 0 3) (h06 : M' 0 6 = 0) (h15 : 0 ≤ (M' 0 15).toInt) : RR S' M' := by
  obtain ⟨h1, hK, hT, hf, hs, -⟩ := h
  refine ⟨hB, KP_cong hK (h3 0 (by omega)) (hS 1 (by decide) (by decide) (by decide)) (hS 7 (by decide) (by decide) (by decide)) (hS 10 (by decide) (by decide) (by decide)) (hS 13 (by decide) (by decide) (by decide)) h03 (hM 3 (by decide)), ⟨by rw [h31, h06], by rw [h06]; decide, fun i hi => by rw [h06] at hi; exact absurd hi (Nat.not_lt_zero _)⟩, fun j hj => ?_, SH_cong hs (fun j hj => h3 j (by omega)) (fun j hj => hS _ (by omega) (by omega) (by omega)) (hM 6 (by decide)) (hM 7 (by decide)) (hM 8 (by decide)), h15⟩
  rw [hS 4 (by decide) (by decide) (by decide), hM 4 (by decide)]
  exact hf j hj
theorem p_text {S M : tt_St} (V : Int64) (h : RR S M) : (f6_text S).1 = (f7_text M V).1 ∧ RR (f6_text S).2 (f7_text M V).2.1 := by
  have hR := h.1
  have hn := okR_n hR.2.2.2
  obtain ⟨t0, e1, e9⟩ := TR_0 h
  have h7 := day_b h
  have lenM := h.2.2.1.2.1
  have hX0 : f7_begins M 0 = M 0 := bg_row (by decide)
  obtain ⟨m0, -⟩ := is_0 (S := f7_begins M) (by rw [hX0]; exact lenM.2) (by rw [hX0]; exact nn_int lenM.1) (by rw [hX0]; exact h.2.2.2.2.2) ⟨by rw [e1]; exact nn_int hn.2.2.1, by rw [e1]; exact hn.2.2.2⟩
  have hw : wx S M (tt_up (f2_takeRoom S 2 0) 3 4 (0 : Int32)) (tt_up (tt_up (f7_begins M) 0 13 (0 : Int32)) 0 17 (-1 : Int32)) := by
    refine ⟨fun n k a b => by rw [tt_up_ne (by omega), tk_row a], fun k hk => by rw [tt_up_row (by decide), tt_up_row (by decide)]; exact bg_at hk, fun n hn => by rw [tt_up_row (by omega), tt_up_row (by omega)]; exact bg_row (by omega), fun k hk => by rw [tt_up_ne (by omega), tt_up_ne (by omega), hX0], m0⟩
  have hT : TP (tt_up (f2_takeRoom S 2 0) 3 4 (0 : Int32)) (tt_up (tt_up (f7_begins M) 0 13 (0 : Int32)) 0 17 (-1 : Int32)) := by
    refine TP_cong h.2.2.1 (by rw [tt_up_ne (by omega), tk_row (by decide)]) (by rw [tt_up_row (by decide), tk_row (by decide)]) (by rw [tt_up_ne (by omega), tt_up_ne (by omega), hX0]) (by rw [tt_up_row (by decide), tt_up_row (by decide)]; exact bg_row (by decide))
  have hv : VR M (tt_up (f2_takeRoom S 2 0) 3 4 (0 : Int32)) (tt_up (tt_up (f7_begins M) 0 13 (0 : Int32)) 0 17 (-1 : Int32)) := by
    have g : VR M (f2_takeRoom S 2 0) (f7_begins M) := ⟨t0.2.2.1, by rw [e1]; exact t0.2.2.2, fun k _ => by rw [e1], by rw [e1]; exact Int.le_refl _⟩
    exact VR_cong g (tt_up_row (by decide)) (by rw [tt_up_row (by decide), tt_up_row (by decide)])
  have rd := readL h7.1 (lp_nu (120 : Int32) 1 + 1) (it_m (f7_item (f7_next (tt_up (tt_up (f7_begins M) 0 13 (0 : Int32)) 0 17 (-1 : Int32)) V).1 (f7_next (tt_up (tt_up (f7_begins M) 0 13 (0 : Int32)) 0 17 (-1 : Int32)) V).2).1 + 1) _ _ V (1 : Int32) hw hT (by rw [tt_up_self]; decide) (by rw [tt_up_self, tt_up_ne (by omega), tt_up_self]) hv (by decide) (by rw [tt_up_self]; decide) (Or.inl rfl) (Nat.lt_succ_self _) (Nat.lt_succ_self _)
  unfold f6_text f7_text f5_read f7_items
  dsimp only
  generalize f5_read_L7 2 (lp_nu (120 : Int32) 1 + 1) (tt_up (f2_takeRoom S 2 0) 3 4 (0 : Int32)) (1 : Int32) = b at *
  generalize f7_items_L20 (it_m (f7_item (f7_next (tt_up (tt_up (f7_begins M) 0 13 (0 : Int32)) 0 17 (-1 : Int32)) V).1 (f7_next (tt_up (tt_up (f7_begins M) 0 13 (0 : Int32)) 0 17 (-1 : Int32)) V).2).1 + 1) (f7_item (f7_next (tt_up (tt_up (f7_begins M) 0 13 (0 : Int32)) 0 17 (-1 : Int32)) V).1 (f7_next (tt_up (tt_up (f7_begins M) 0 13 (0 : Int32)) 0 17 (-1 : Int32)) V).2).1 (f7_item (f7_next (tt_up (tt_up (f7_begins M) 0 13 (0 : Int32)) 0 17 (-1 : Int32)) V).1 (f7_next (tt_up (tt_up (f7_begins M) 0 13 (0 : Int32)) 0 17 (-1 : Int32)) V).2).2 (1 : Int32) = q at *
  have q17 : tt_up q.2.1 0 6 (0 : Int32) 0 17 = q.2.1 0 17 := tt_up_ne (by omega)
  rw [q17]
  rcases rd with ⟨a1, a2, a3, a4, a5⟩ | ⟨a1, a2, a3⟩
  · rw [if_neg (nn_int a1), if_pos a5]
    obtain ⟨w1, w2, w3, w4, w5⟩ := a3
    obtain ⟨v1, v2, v3, v4⟩ := a4
    have hb2 := dN_room v2
    have b0 := v1 0 (by omega)
    have r0 : ∀ n : Nat, n ≠ 0 → f2_takeRoom b.2 0 2 n = b.2 n := fun n hn => tk_row hn
    have rB : ∀ n : Nat, n ≠ 2 → n ≠ 3 → b.2 n = S n := fun n h2 h3 => funext fun k => w1 n k h2 (fun z => absurd z h3)
    refine ⟨a2.symm, RR_txt h ?_ (fun n n0 n2 n3 => ?_) (fun k hk => ?_) ?_ (fun n hn => ?_) ?_ ?_ ?_⟩
    · refine ⟨fun k hk => ?_, ⟨?_, fun i hi => ?_⟩, fun i hi => ?_, ?_⟩
      · dsimp only at hk ⊢
        rw [tt_up_row (n' := 1) (by decide)] at hk ⊢
        rw [tt_up_row (by decide), tk_at (by decide), b0]
        by_cases c : k ≤ 10
        · rw [if_pos c]; exact v1 k hk
        · rw [if_neg c, if_pos (by omega)]; exact v1 k hk
      · dsimp only
        rw [tt_up_row (by decide), tk_at (by decide), if_neg (by omega), if_neg (by omega), tt_up_row (by decide), v3 11 (by omega), rB 0 (by decide) (by decide)]
        exact hR.2.1.1
      · dsimp only
        rw [tt_up_row (n' := 6 + 0) (by decide), r0 _ (by decide), tt_up_row (n' := 9 + 0) (by decide), r0 _ (by decide), tt_up_row (n' := 1) (by decide), v3 _ (by omega), v3 _ (by omega), rB _ (by decide) (by decide), rB _ (by decide) (by decide)]
        exact hR.2.1.2 i hi
      · dsimp only
        rw [tt_up_row (n' := 12 + 0) (by decide), r0 _ (by decide), tt_up_row (n' := 1) (by decide), v3 _ (by omega), rB _ (by decide) (by decide)]
        exact hR.2.2.1 i hi
      · dsimp only
        rw [tt_up_row (by decide)]
        refine okR_of (n := (q.2.1 1 0).toNatClampNeg) (by rw [v3 7 (by omega)]; exact v2) (by rw [v3 7 (by omega)]; exact h7.2) (fun i hi => ?_)
        have := hR.2.2.2.2.2 i hi
        rw [v3 _ (by omega)]
        omega
    · dsimp only; rw [tt_up_row n3, r0 n n0, rB n n2 n3]
    · dsimp only; rw [tt_up_ne (by omega), r0 3 (by decide)]; exact w1 3 k (by decide) (by omega)
    · dsimp only; rw [tt_up_self]
    · dsimp only; rw [tt_up_row (by omega)]; exact w3 n hn
    · dsimp only; rw [tt_up_ne (by omega)]; exact w4 3 (by omega)
    · dsimp only; rw [tt_up_self]
    · dsimp only; rw [tt_up_ne (by omega)]; exact w5.2.2.2
  · have n17 : ¬ q.2.1 0 17 < 0 := nn_int a2.2.2
    rw [if_pos (by rw [lp_lt, lp_0]; exact a1), if_neg n17]
    obtain ⟨⟨w1, w2, w3, w4, w5⟩, -, -⟩ := a2
    have eE : ∀ n : Nat, n ≠ 1 → f7_ends (tt_up q.2.1 0 6 (0 : Int32)) n = tt_up q.2.1 0 6 (0 : Int32) n := fun n hn => en_row hn
    have rB : ∀ n : Nat, n ≠ 2 → n ≠ 3 → b.2 n = S n := fun n h2 h3 => funext fun k => w1 n k h2 (fun z => absurd z h3)
    refine ⟨?_, RR_txt h ?_ (fun n n0 n2 n3 => ?_) (fun k hk => ?_) ?_ (fun n hn => ?_) ?_ ?_ ?_⟩
    · dsimp only
      rw [eE 0 (by decide), q17]
      exact a3
    · refine RB_cong hR ?_ ?_ ?_ ?_ (fun k hk => ?_)
      · dsimp only; rw [tt_up_row (by decide)]; exact rB 0 (by decide) (by decide)
      · dsimp only; rw [tt_up_row (by decide)]; exact rB _ (by decide) (by decide)
      · dsimp only; rw [tt_up_row (by decide)]; exact rB _ (by decide) (by decide)
      · dsimp only; rw [tt_up_row (by decide)]; exact rB _ (by decide) (by decide)
      · dsimp only; rw [en_at hk, tt_up_row (by decide)]; exact w2 k hk
    · dsimp only; rw [tt_up_row n3, rB n n2 n3]
    · dsimp only; rw [tt_up_ne (by omega)]; exact w1 3 k (by decide) (by omega)
    · dsimp only; rw [tt_up_self]
    · dsimp only; rw [eE n (by omega), tt_up_row (by omega)]; exact w3 n hn
    · dsimp only; rw [eE 0 (by decide), tt_up_ne (by omega)]; exact w4 3 (by omega)
    · dsimp only; rw [eE 0 (by decide), tt_up_self]
    · dsimp only; rw [eE 0 (by decide), tt_up_ne (by omega)]; exact w5.2.2.2
