/-! the text: items, the whole text -/
theorem kow (T : tt_St) : f5_kindOfWord T = if f5_isWord T 0 = 0 then (if f5_isWord T 1 = 0 then (if f5_isWord T 2 = 0 then (if f5_isWord T 3 = 0 then (if f5_isWord T 4 = 0 then (if f5_isWord T 5 = 0 then (if f5_isWord T 6 = 0 then (-1 : Int32) else (6 : Int32)) else (5 : Int32)) else (4 : Int32)) else (3 : Int32)) else (2 : Int32)) else (1 : Int32)) else (0 : Int32) := by
  have e : lp_mu (7 : Int32) 0 = 7 := by rw [lp_mu_eq]; decide
  unfold f5_kindOfWord
  rw [e]
  rfl
theorem kind_sim {T X : tt_St} {V : Int64} (hT : TP T X) (h : tk T X V) : f5_kindOfWord T = f7_kindHere X V ∧ (f7_kindHere X V = (-1 : Int32) ∨ ((0 ≤ (f7_kindHere X V).toInt ∧ (f7_kindHere X V).toInt ≤ 6) ∧ X 0 14 = (1 : Int32))) := by
  have one : ∀ w : Int64, ¬ f7_isWord X V w = 0 → X 0 14 = (1 : Int32) := fun w z => Classical.byContradiction fun q => z (iw_0 q)
  rw [kow]
  unfold f7_kindHere
  dsimp only
  have w0 := word_sim (i := 0) hT h (by decide) rfl
  have w1 := word_sim (i := 1) hT h (by decide) rfl
  have w2 := word_sim (i := 2) hT h (by decide) rfl
  have w3 := word_sim (i := 3) hT h (by decide) rfl
  have w4 := word_sim (i := 4) hT h (by decide) rfl
  have w5 := word_sim (i := 5) hT h (by decide) rfl
  have w6 := word_sim (i := 6) hT h (by decide) rfl
  by_cases c0 : f5_isWord T 0 = 0
  · rw [if_pos c0, if_pos (show f7_isWord X V (99233 : Int64) = 0 from w0.mp c0)]
    by_cases c1 : f5_isWord T 1 = 0
    · rw [if_pos c1, if_pos (show f7_isWord X V (6411708 : Int64) = 0 from w1.mp c1)]
      by_cases c2 : f5_isWord T 2 = 0
      · rw [if_pos c2, if_pos (show f7_isWord X V (2549464462 : Int64) = 0 from w2.mp c2)]
        by_cases c3 : f5_isWord T 3 = 0
        · rw [if_pos c3, if_pos (show f7_isWord X V (7554780 : Int64) = 0 from w3.mp c3)]
          by_cases c4 : f5_isWord T 4 = 0
          · rw [if_pos c4, if_pos (show f7_isWord X V (249 : Int64) = 0 from w4.mp c4)]
            by_cases c5 : f5_isWord T 5 = 0
            · rw [if_pos c5, if_pos (show f7_isWord X V (11088176 : Int64) = 0 from w5.mp c5)]
              by_cases c6 : f5_isWord T 6 = 0
              · rw [if_pos c6, if_pos (show f7_isWord X V (6936588 : Int64) = 0 from w6.mp c6)]
                exact ⟨rfl, Or.inl rfl⟩
              · have z : ¬ f7_isWord X V (6936588 : Int64) = 0 := fun q => c6 (w6.mpr q)
                rw [if_neg c6, if_neg z]; exact ⟨rfl, Or.inr ⟨by decide, one _ z⟩⟩
            · have z : ¬ f7_isWord X V (11088176 : Int64) = 0 := fun q => c5 (w5.mpr q)
              rw [if_neg c5, if_neg z]; exact ⟨rfl, Or.inr ⟨by decide, one _ z⟩⟩
          · have z : ¬ f7_isWord X V (249 : Int64) = 0 := fun q => c4 (w4.mpr q)
            rw [if_neg c4, if_neg z]; exact ⟨rfl, Or.inr ⟨by decide, one _ z⟩⟩
        · have z : ¬ f7_isWord X V (7554780 : Int64) = 0 := fun q => c3 (w3.mpr q)
          rw [if_neg c3, if_neg z]; exact ⟨rfl, Or.inr ⟨by decide, one _ z⟩⟩
      · have z : ¬ f7_isWord X V (2549464462 : Int64) = 0 := fun q => c2 (w2.mpr q)
        rw [if_neg c2, if_neg z]; exact ⟨rfl, Or.inr ⟨by decide, one _ z⟩⟩
    · have z : ¬ f7_isWord X V (6411708 : Int64) = 0 := fun q => c1 (w1.mpr q)
      rw [if_neg c1, if_neg z]; exact ⟨rfl, Or.inr ⟨by decide, one _ z⟩⟩
  · have z : ¬ f7_isWord X V (99233 : Int64) = 0 := fun q => c0 (w0.mpr q)
    rw [if_neg c0, if_neg z]; exact ⟨rfl, Or.inr ⟨by decide, one _ z⟩⟩
theorem rsg_step (n : Nat) (T : tt_St) (y : Int32) : f5_readSign_L2 2 (n + 1) T y = if (2 : Int32) < y then ((0 : Int32), T) else if (f5_takeWord T (f5_wordOfSign y)).1 = 0 then f5_readSign_L2 2 n (f5_takeWord T (f5_wordOfSign y)).2 (y + (1 : Int32)) else ((1 : Int32), tt_up (f5_takeWord T (f5_wordOfSign y)).2 2 5 y) := by
  rw [f5_readSign_L2]
theorem rsg (T : tt_St) : f5_readSign T 2 = if (f5_takeWord T 12).1 = 0 then (if (f5_takeWord (f5_takeWord T 12).2 13).1 = 0 then (if (f5_takeWord (f5_takeWord (f5_takeWord T 12).2 13).2 14).1 = 0 then ((0 : Int32), (f5_takeWord (f5_takeWord (f5_takeWord T 12).2 13).2 14).2) else ((1 : Int32), tt_up (f5_takeWord (f5_takeWord (f5_takeWord T 12).2 13).2 14).2 2 5 (2 : Int32))) else ((1 : Int32), tt_up (f5_takeWord (f5_takeWord T 12).2 13).2 2 5 (1 : Int32))) else ((1 : Int32), tt_up (f5_takeWord T 12).2 2 5 (0 : Int32)) := by
  have e : lp_nu (2 : Int32) 0 = 3 := by rw [lp_nu_eq]; decide
  have w0 : f5_wordOfSign (0 : Int32) = 12 := by decide
  have w1 : f5_wordOfSign (1 : Int32) = 13 := by decide
  have w2 : f5_wordOfSign (2 : Int32) = 14 := by decide
  unfold f5_readSign
  rw [e, rsg_step, if_neg (show ¬ (2 : Int32) < 0 from by decide), w0, show (0 : Int32) + (1 : Int32) = (1 : Int32) from rfl]
  rw [rsg_step, if_neg (show ¬ (2 : Int32) < 1 from by decide), w1, show (1 : Int32) + (1 : Int32) = (2 : Int32) from rfl]
  rw [rsg_step, if_neg (show ¬ (2 : Int32) < 2 from by decide), w2, show (2 : Int32) + (1 : Int32) = (3 : Int32) from rfl]
  rw [rsg_step, if_pos (show (2 : Int32) < 3 from by decide)]
/-- a sign taken: the reference writes it first, then goes on -/
theorem sg_sim {S0 M0 T X : tt_St} {V : Int64} {v : Int32} (h : RW S0 M0 T X V) (hv : VR M0 T X) (s1 : X 0 14 = (1 : Int32)) (hb : 0 ≤ v.toInt ∧ v.toInt ≤ 2) : RW S0 M0 (tt_up (f5_advance T) 2 5 v) (f7_next (tt_up X 1 5 v) V).1 (f7_next (tt_up X 1 5 v) V).2 ∧ VR M0 (tt_up (f5_advance T) 2 5 v) (f7_next (tt_up X 1 5 v) V).1 ∧ (T 3 3).toInt + 1 ≤ ((tt_up (f5_advance T) 2 5 v) 3 3).toInt := by
  have hlt : (T 3 3).toInt < (T 3 4).toInt := by
    rcases h.2.2.1.2.2.2.2.1 with z | z
    · rw [s1] at z; exact absurd z (by decide)
    · exact z
  have hX : RW S0 M0 T (tt_up X 1 5 v) V := RW_rows h (fun _ _ => rfl) (fun n hn => tt_up_row hn)
  obtain ⟨r1, r2, r3, r4, r5⟩ := RW_next hX (by rw [tt_up_row (by decide), s1]; decide)
  refine ⟨RW_rows r1 (fun n hn => tt_up_row hn) (fun _ _ => rfl), VR_cong (VR_sign hv hb) (row_cong r2) r3, ?_⟩
  rw [tt_up_row (by decide)]
  omega
theorem item_sim {S0 M0 T X : tt_St} {V : Int64} (h : RW S0 M0 T X V) (hv : VR M0 T X) (h7 : 0 ≤ (M0 1 7).toInt) : IT S0 M0 T (f5_readItem T 2) (f7_item X V) := by
  obtain ⟨k1, k2⟩ := kind_sim h.2.1 h.2.2.1
  have hr := dN_room hv.2.1
  have e0 := hv.1 0 (by omega)
  have fw := RW_wrong h
  unfold f5_readItem f7_item
  dsimp only
  rw [k1]
  rcases k2 with k2 | ⟨k2, s1⟩
  · rw [k2, if_pos (show (-1 : Int32) < 0 from by decide), if_pos (show (-1 : Int32) < 0 from by decide)]
    rcases w_sim (i := 7) (w := (8863997 : Int64)) h (by decide) rfl with ⟨z1, z2⟩ | ⟨z1, z2, z3, z4, z5, z6⟩
    · rw [z1, if_pos (show (0 : Int32) = 0 from rfl), if_pos z2]
      rcases w_sim (i := 8) (w := (12089 : Int64)) h (by decide) rfl with ⟨y1, y2⟩ | ⟨y1, y2, y3, y4, y5, y6⟩
      · rw [y1, if_pos (show (0 : Int32) = 0 from rfl), if_pos y2]
        rcases w_sim (i := 9) (w := (380741 : Int64)) h (by decide) rfl with ⟨x1, x2⟩ | ⟨x1, x2, x3, x4, x5, x6⟩
        · rw [x1, if_pos (show (0 : Int32) = 0 from rfl), if_pos x2]
          exact Or.inr ⟨rfl, fw⟩
        · rw [x1, if_neg (show ¬ (1 : Int32) = 0 from by decide), if_neg x2]
          dsimp only
          have hv2 := VR_cong hv x4 x5
          generalize f5_advance T = T2 at *
          generalize (f7_next X V).1 = X2 at *
          generalize (f7_next X V).2 = V2 at *
          have fw2 := RW_wrong x3
          rw [rsg]
          unfold f7_signHere
          dsimp only
          have one : ∀ w : Int64, ¬ f7_isWord X2 V2 w = 0 → X2 0 14 = (1 : Int32) := fun w z => Classical.byContradiction fun q => z (iw_0 q)
          rcases w_sim (i := 12) (w := (286880 : Int64)) x3 (by decide) rfl with ⟨a1, a2⟩ | ⟨a1, a2, a3, a4, a5, a6⟩
          · rw [a1, if_pos (show (0 : Int32) = 0 from rfl), if_pos a2]
            dsimp only
            rcases w_sim (i := 13) (w := (2505138292 : Int64)) x3 (by decide) rfl with ⟨b1, b2⟩ | ⟨b1, b2, b3, b4, b5, b6⟩
            · rw [b1, if_pos (show (0 : Int32) = 0 from rfl), if_pos b2]
              dsimp only
              rcases w_sim (i := 14) (w := (116794 : Int64)) x3 (by decide) rfl with ⟨c1, c2⟩ | ⟨c1, c2, c3, c4, c5, c6⟩
              · rw [c1, if_pos (show (0 : Int32) = 0 from rfl), if_pos c2]
                dsimp only
                rw [if_pos (show (0 : Int32) = 0 from rfl)]
                exact Or.inr ⟨rfl, fw2⟩
              · rw [c1, if_neg (show ¬ (1 : Int32) = 0 from by decide), if_neg c2]
                dsimp only
                rw [if_neg (show ¬ (1 : Int32) = 0 from by decide)]
                obtain ⟨f1, f2, f3⟩ := sg_sim (v := (2 : Int32)) x3 hv2 (one _ c2) (by decide)
                exact Or.inl ⟨rfl, f1, f2, by dsimp only; omega⟩
            · rw [b1, if_neg (show ¬ (1 : Int32) = 0 from by decide), if_neg b2]
              dsimp only
              rw [if_neg (show ¬ (1 : Int32) = 0 from by decide)]
              obtain ⟨f1, f2, f3⟩ := sg_sim (v := (1 : Int32)) x3 hv2 (one _ b2) (by decide)
              exact Or.inl ⟨rfl, f1, f2, by dsimp only; omega⟩
          · rw [a1, if_neg (show ¬ (1 : Int32) = 0 from by decide), if_neg a2]
            dsimp only
            rw [if_neg (show ¬ (1 : Int32) = 0 from by decide)]
            obtain ⟨f1, f2, f3⟩ := sg_sim (v := (0 : Int32)) x3 hv2 (one _ a2) (by decide)
            exact Or.inl ⟨rfl, f1, f2, by dsimp only; omega⟩
      · rw [y1, if_neg (show ¬ (1 : Int32) = 0 from by decide), if_neg y2]
        unfold f5_readPot f2_setPot
        dsimp only
        have hv2 := VR_cong hv y4 y5
        generalize f5_advance T = T2 at *
        generalize (f7_next X V).1 = X2 at *
        generalize (f7_next X V).2 = V2 at *
        have n2 := n_sim (1 : Int32) (99 : Int32) y3 (by decide)
        generalize f5_takeNumber T2 (1 : Int32) (99 : Int32) = c2 at *
        generalize f7_number X2 V2 (1 : Int32) (99 : Int32) = q2 at *
        rw [tt_up_self]
        rcases n2 with ⟨d1, d2, d3, d4, d5, d6, d7⟩ | ⟨d1, d2⟩
        · rw [if_neg (by rw [d1]; decide), ← d2]
          refine Or.inl ⟨rfl, RW_rows d4 (fun n hn => by dsimp only; rw [tt_up_row hn, tt_up_row hn]) (fun n hn => by dsimp only; rw [tt_up_row hn, tt_up_row hn]), VR_pot (VR_cong hv2 d5 d6) d3, ?_⟩
          dsimp only
          rw [tt_up_ne (by omega), tt_up_ne (by omega)]
          omega
        · rw [if_pos d1]
          exact Or.inr ⟨rfl, FA_row1 d2 (fun n hn => by dsimp only; rw [tt_up_row hn, tt_up_row hn])⟩
    · rw [z1, if_neg (show ¬ (1 : Int32) = 0 from by decide), if_neg z2]
      unfold f5_readPrice
      dsimp only
      have hv2 := VR_cong hv z4 z5
      generalize f5_advance T = T2 at *
      generalize (f7_next X V).1 = X2 at *
      generalize (f7_next X V).2 = V2 at *
      have n2 := n_sim (0 : Int32) (99 : Int32) z3 (by decide)
      generalize f5_takeNumber T2 (0 : Int32) (99 : Int32) = c2 at *
      generalize f7_number X2 V2 (0 : Int32) (99 : Int32) = q2 at *
      rcases n2 with ⟨d1, d2, d3, d4, d5, d6, d7⟩ | ⟨d1, d2⟩
      · rw [if_neg (by rw [d1]; decide), ← d2]
        refine Or.inl ⟨rfl, RW_rows d4 (fun n hn => tt_up_row hn) (fun n hn => tt_up_row hn), VR_price (VR_cong hv2 d5 d6) d3, ?_⟩
        dsimp only
        rw [tt_up_ne (by omega)]
        omega
      · rw [if_pos d1]
        exact Or.inr ⟨rfl, FA_row1 d2 (fun n hn => tt_up_row hn)⟩
  · rw [if_neg (nn_int k2.1), if_neg (nn_int k2.1), e0]
    by_cases c : (10 : Int32) ≤ X 1 0
    · rw [if_pos c]
      rw [lp_le, show (10 : Int32).toInt = 10 from rfl] at c
      unfold f7_drinkerHere
      rw [if_pos (Int32.toInt_inj.mp (by rw [show (10 : Int32).toInt = 10 from rfl]; omega))]
      exact Or.inr ⟨rfl, fw⟩
    · rw [if_neg c]
      rw [lp_le, show (10 : Int32).toInt = 10 from rfl] at c
      have g := readDrinker_sim h hv h7 s1 k2 (by omega)
      rcases g with ⟨g1, g2, g3, g4⟩ | ⟨g1, g2⟩
      · rw [if_neg (by rw [g1]; decide)]
        exact Or.inl ⟨rfl, g2, g3, g4⟩
      · rw [if_pos g1]
        exact Or.inr ⟨rfl, g2⟩
