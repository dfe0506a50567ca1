/-! the text: a drinker read, on both sides -/
def IT (S0 M0 T : tt_St) (c : Int32 × tt_St) (x : tt_St × Int64) : Prop := (c.1 = (1 : Int32) ∧ RW S0 M0 c.2 x.1 x.2 ∧ VR M0 c.2 x.1 ∧ (T 3 3).toInt + 1 ≤ (c.2 3 3).toInt) ∨ (c.1 = (0 : Int32) ∧ FA S0 M0 c.2 x.1)
theorem row_cong {A B : tt_St} {r k : Nat} {v : Int32} (h : A r = B r) : tt_up A r k v r = tt_up B r k v r := by
  funext j
  by_cases c : j = k
  · subst c; rw [tt_up_self, tt_up_self]
  · rw [tt_up_ne (by omega), tt_up_ne (by omega), h]
theorem new_cong {A B : tt_St} {r d : Nat} {a b p l v : Int32} (h : A r = B r) : tt_up (NEWD A r d a b p l) r 0 v r = tt_up (NEWD B r d a b p l) r 0 v r := by
  unfold NEWD
  exact row_cong (row_cong (row_cong (row_cong (row_cong (row_cong (row_cong (row_cong h)))))))
theorem new_l {A : tt_St} {r d : Nat} {a b p l v l' : Int32} : tt_up (tt_up (NEWD A r d a b p l) r 0 v) r (15 + 7 * d) l' r = tt_up (NEWD A r d a b p l') r 0 v r := by
  funext j
  unfold NEWD
  by_cases c0 : j = 0
  · subst c0; rw [tt_up_ne (by omega), tt_up_self, tt_up_self]
  by_cases c5 : j = 15 + 7 * d
  · subst c5; rw [tt_up_self, tt_up_ne (by omega), tt_up_ne (by omega), tt_up_ne (by omega), tt_up_ne (by omega), tt_up_self]
  rw [tt_up_ne (by omega), tt_up_ne (by omega), tt_up_ne (k := 0) (by omega)]
  by_cases c6 : j = 18 + 7 * d
  · subst c6; rw [tt_up_self, tt_up_self]
  rw [tt_up_ne (by omega), tt_up_ne (k := 18 + 7 * d) (by omega)]
  by_cases c6 : j = 17 + 7 * d
  · subst c6; rw [tt_up_self, tt_up_self]
  rw [tt_up_ne (by omega), tt_up_ne (k := 17 + 7 * d) (by omega)]
  by_cases c6 : j = 16 + 7 * d
  · subst c6; rw [tt_up_self, tt_up_self]
  rw [tt_up_ne (by omega), tt_up_ne (k := 16 + 7 * d) (by omega), tt_up_ne (by omega), tt_up_ne (k := 15 + 7 * d) (by omega)]
theorem new_p {A : tt_St} {r d : Nat} {a b p l v p' : Int32} : tt_up (tt_up (NEWD A r d a b p l) r 0 v) r (14 + 7 * d) p' r = tt_up (NEWD A r d a b p' l) r 0 v r := by
  funext j
  unfold NEWD
  by_cases c0 : j = 0
  · subst c0; rw [tt_up_ne (by omega), tt_up_self, tt_up_self]
  by_cases c5 : j = 14 + 7 * d
  · subst c5; rw [tt_up_self, tt_up_ne (by omega), tt_up_ne (by omega), tt_up_ne (by omega), tt_up_ne (by omega), tt_up_ne (by omega), tt_up_self]
  rw [tt_up_ne (by omega), tt_up_ne (by omega), tt_up_ne (k := 0) (by omega)]
  by_cases c6 : j = 18 + 7 * d
  · subst c6; rw [tt_up_self, tt_up_self]
  rw [tt_up_ne (by omega), tt_up_ne (k := 18 + 7 * d) (by omega)]
  by_cases c6 : j = 17 + 7 * d
  · subst c6; rw [tt_up_self, tt_up_self]
  rw [tt_up_ne (by omega), tt_up_ne (k := 17 + 7 * d) (by omega)]
  by_cases c6 : j = 16 + 7 * d
  · subst c6; rw [tt_up_self, tt_up_self]
  rw [tt_up_ne (by omega), tt_up_ne (k := 16 + 7 * d) (by omega)]
  by_cases c6 : j = 15 + 7 * d
  · subst c6; rw [tt_up_self, tt_up_self]
  rw [tt_up_ne (by omega), tt_up_ne (k := 15 + 7 * d) (by omega), tt_up_ne (by omega), tt_up_ne (k := 14 + 7 * d) (by omega)]
theorem dr_fin {S0 M0 T X Tf Xf : tt_St} {V : Int64} {a b p l : Int32} (hv : VR M0 T X) (h7 : 0 ≤ (M0 1 7).toInt) (h10 : (X 1 0).toInt < 10) (ha : 0 ≤ a.toInt ∧ a.toInt ≤ 6) (hb : 1 ≤ b.toInt ∧ b.toInt ≤ 9) (hp : 0 ≤ p.toInt ∧ p.toInt ≤ 9999) (hw : RW S0 M0 Tf Xf V) (e2 : Tf 2 = tt_up (NEWD T 2 (X 1 0).toNatClampNeg a b p l) 2 0 (X 1 0 + (1 : Int32)) 2) (e1 : Xf 1 = X 1) : RW S0 M0 Tf (f7_comes Xf a b p l).2 V ∧ VR M0 Tf (f7_comes Xf a b p l).2 := by
  obtain ⟨v1, v2, v3, v4⟩ := hv
  have hr := dN_room v2
  have h0 : 0 ≤ (X 1 0).toInt := by omega
  have i1 : (X 1 0 + (1 : Int32)).toInt = (X 1 0).toInt + 1 := by rw [lp_add (by rw [lp_1]; omega) (by rw [lp_1]; omega), lp_1]
  have c0 := cl_int (x := X 1 0) h0
  have c1 := cl_int (x := X 1 0 + (1 : Int32)) (by omega)
  rw [comes_nf (by rw [e1]; exact h0) (by rw [e1]; exact h10), e1]
  dsimp only
  refine ⟨RW_rows hw (fun _ _ => rfl) (fun n hn => by rw [tt_up_row hn, NEWD_row hn]), ?_⟩
  have g : VR M0 (tt_up (NEWD T 2 (X 1 0).toNatClampNeg a b p l) 2 0 (X 1 0 + (1 : Int32))) (tt_up (NEWD X 1 (X 1 0).toNatClampNeg a b p l) 1 0 (X 1 0 + (1 : Int32))) := by
    refine ⟨rel_new v1 h0 h10, ?_, fun k hk => ?_, ?_⟩
    · rw [tt_up_self, show (X 1 0 + (1 : Int32)).toNatClampNeg = (X 1 0).toNatClampNeg + 1 by omega]
      exact dN_new v2 (by omega) (by omega) ha hb hp
    · rw [tt_up_ne (by omega), NEWD_ne (by omega)]; exact v3 k hk
    · rw [tt_up_self, i1]; omega
  exact VR_cong g e2 (new_cong e1)
theorem readDrinker_sim {S0 M0 T X : tt_St} {V : Int64} {a : Int32} (h : RW S0 M0 T X V) (hv : VR M0 T X) (h7 : 0 ≤ (M0 1 7).toInt) (s1 : X 0 14 = (1 : Int32)) (ha : 0 ≤ a.toInt ∧ a.toInt ≤ 6) (h10 : (X 1 0).toInt < 10) : IT S0 M0 T (f5_readDrinker T 2 a) (f7_drinkerHere X V a) := by
  have hr := dN_room hv.2.1
  have h0 : 0 ≤ (X 1 0).toInt := by omega
  have e0 := hv.1 0 (by omega)
  obtain ⟨r1, r2, r3, r4, r5⟩ := RW_next h (by rw [s1]; decide)
  have hlt : (T 3 3).toInt < (T 3 4).toInt := by
    rcases h.2.2.1.2.2.2.2.1 with z | z
    · rw [s1] at z; exact absurd z (by decide)
    · exact z
  unfold f5_readDrinker f7_drinkerHere
  dsimp only
  rw [if_neg (show ¬ X 1 0 = (10 : Int32) from fun z => by rw [z, show (10 : Int32).toInt = 10 from rfl] at h10; omega)]
  generalize f5_advance T = T1 at *
  generalize (f7_next X V).1 = X3 at *
  generalize (f7_next X V).2 = V4 at *
  have n1 := n_sim (1 : Int32) (9 : Int32) r1 (by decide)
  generalize f5_takeNumber T1 (1 : Int32) (9 : Int32) = c3 at *
  generalize f7_number X3 V4 (1 : Int32) (9 : Int32) = q6 at *
  rcases n1 with ⟨a1, a2, a3, a4, a5, a6, a7⟩ | ⟨a1, a2⟩
  rotate_left
  · rw [if_pos a1, if_pos (by rw [lp_le, lp_0]; exact a2.2.2)]
    exact Or.inr ⟨rfl, a2⟩
  rw [if_neg (by rw [a1]; decide), if_neg (show ¬ 0 ≤ q6.2.1 0 17 by have := a4.2.2.2; rw [lp_lt, lp_0] at this; rw [lp_le, lp_0]; omega)]
  have t2 : c3.2 2 = T 2 := a5.trans r2
  have x1 : q6.2.1 1 = X 1 := a6.trans r3
  have t20 : c3.2 2 0 = X 1 0 := by rw [t2]; exact e0
  rw [add_nf (by rw [t20]; exact h0) (by rw [t20]; exact h10), t20, ← a2]
  dsimp only
  have b1 : 1 ≤ q6.1.toInt ∧ q6.1.toInt ≤ 9 := a3
  -- the class has the drinker already
  have hw5 : RW S0 M0 (tt_up (NEWD c3.2 2 (X 1 0).toNatClampNeg a q6.1 (200 : Int32) (20 : Int32)) 2 0 (X 1 0 + (1 : Int32))) q6.2.1 q6.2.2 := RW_rows a4 (fun n hn => by rw [tt_up_row hn, NEWD_row hn]) (fun _ _ => rfl)
  have e33 : tt_up (NEWD c3.2 2 (X 1 0).toNatClampNeg a q6.1 (200 : Int32) (20 : Int32)) 2 0 (X 1 0 + (1 : Int32)) 3 = c3.2 3 := by rw [tt_up_row (by decide), NEWD_row (by decide)]
  have e22 : tt_up (NEWD c3.2 2 (X 1 0).toNatClampNeg a q6.1 (200 : Int32) (20 : Int32)) 2 0 (X 1 0 + (1 : Int32)) 2 = tt_up (NEWD T 2 (X 1 0).toNatClampNeg a q6.1 (200 : Int32) (20 : Int32)) 2 0 (X 1 0 + (1 : Int32)) 2 := new_cong t2
  generalize tt_up (NEWD c3.2 2 (X 1 0).toNatClampNeg a q6.1 (200 : Int32) (20 : Int32)) 2 0 (X 1 0 + (1 : Int32)) = T5 at *
  have pr5 : (T 3 3).toInt + 1 ≤ (T5 3 3).toInt := by rw [e33]; omega
  rcases w_sim (i := 10) (w := (8930039 : Int64)) hw5 (by decide) rfl with ⟨z1, z2⟩ | ⟨z1, z2, z3, z4, z5, z6⟩
  · rw [z1, if_pos (show (0 : Int32) = 0 from rfl), if_pos z2]
    rcases w_sim (i := 11) (w := (6564179 : Int64)) hw5 (by decide) rfl with ⟨y1, y2⟩ | ⟨y1, y2, y3, y4, y5, y6⟩
    · rw [y1, if_pos (show (0 : Int32) = 0 from rfl), if_pos y2]
      obtain ⟨f1, f2⟩ := dr_fin (l := (20 : Int32)) hv h7 h10 ha b1 (by decide) hw5 e22 x1
      exact Or.inl ⟨rfl, f1, f2, pr5⟩
    · rw [y1, if_neg (show ¬ (1 : Int32) = 0 from by decide), if_neg y2]
      dsimp only
      generalize f5_advance T5 = T12 at *
      generalize (f7_next q6.2.1 q6.2.2).1 = X19 at *
      generalize (f7_next q6.2.1 q6.2.2).2 = V20 at *
      have n2 := n_sim (0 : Int32) (99 : Int32) y3 (by decide)
      generalize f5_takeNumber T12 (0 : Int32) (99 : Int32) = c15 at *
      generalize f7_number X19 V20 (0 : Int32) (99 : Int32) = q22 at *
      rcases n2 with ⟨d1, d2, d3, d4, d5, d6, d7⟩ | ⟨d1, d2⟩
      · rw [if_neg (by rw [d1]; decide), if_neg (show ¬ 0 ≤ q22.2.1 0 17 by have := d4.2.2.2; rw [lp_lt, lp_0] at this; rw [lp_le, lp_0]; omega), ← d2]
        have hf : RW S0 M0 (tt_up c15.2 2 (15 + 7 * (X 1 0).toNatClampNeg) q22.1) q22.2.1 q22.2.2 := RW_rows d4 (fun n hn => tt_up_row hn) (fun _ _ => rfl)
        obtain ⟨f1, f2⟩ := dr_fin (l := q22.1) (p := (200 : Int32)) hv h7 h10 ha b1 (by decide) hf ((row_cong (d5.trans (y4.trans e22))).trans new_l) (d6.trans (y5.trans x1))
        refine Or.inl ⟨rfl, f1, f2, ?_⟩
        dsimp only
        rw [tt_up_ne (by omega)]
        omega
      · rw [if_pos d1, if_pos (by rw [lp_le, lp_0]; exact d2.2.2)]
        exact Or.inr ⟨rfl, d2⟩
  · rw [z1, if_neg (show ¬ (1 : Int32) = 0 from by decide), if_neg z2]
    dsimp only
    generalize f5_advance T5 = T9 at *
    generalize (f7_next q6.2.1 q6.2.2).1 = X27 at *
    generalize (f7_next q6.2.1 q6.2.2).2 = V28 at *
    have n2 := n_sim (0 : Int32) (9999 : Int32) z3 (by decide)
    generalize f5_takeNumber T9 (0 : Int32) (9999 : Int32) = c20 at *
    generalize f7_number X27 V28 (0 : Int32) (9999 : Int32) = q30 at *
    rcases n2 with ⟨d1, d2, d3, d4, d5, d6, d7⟩ | ⟨d1, d2⟩
    rotate_left
    · rw [if_pos d1, if_pos (by rw [lp_le, lp_0]; exact d2.2.2)]
      exact Or.inr ⟨rfl, d2⟩
    rw [if_neg (by rw [d1]; decide), if_neg (show ¬ 0 ≤ q30.2.1 0 17 by have := d4.2.2.2; rw [lp_lt, lp_0] at this; rw [lp_le, lp_0]; omega), ← d2]
    have p1 : 0 ≤ q30.1.toInt ∧ q30.1.toInt ≤ 9999 := d3
    have hw23 : RW S0 M0 (tt_up c20.2 2 (14 + 7 * (X 1 0).toNatClampNeg) q30.1) q30.2.1 q30.2.2 := RW_rows d4 (fun n hn => tt_up_row hn) (fun _ _ => rfl)
    have e23 : tt_up c20.2 2 (14 + 7 * (X 1 0).toNatClampNeg) q30.1 2 = tt_up (NEWD T 2 (X 1 0).toNatClampNeg a q6.1 q30.1 (20 : Int32)) 2 0 (X 1 0 + (1 : Int32)) 2 := (row_cong (d5.trans (z4.trans e22))).trans new_p
    have e233 : tt_up c20.2 2 (14 + 7 * (X 1 0).toNatClampNeg) q30.1 3 = c20.2 3 := tt_up_row (by decide)
    have x30 : q30.2.1 1 = X 1 := d6.trans (z5.trans x1)
    generalize tt_up c20.2 2 (14 + 7 * (X 1 0).toNatClampNeg) q30.1 = T23 at *
    have pr23 : (T 3 3).toInt + 1 ≤ (T23 3 3).toInt := by rw [e233]; omega
    rcases w_sim (i := 11) (w := (6564179 : Int64)) hw23 (by decide) rfl with ⟨y1, y2⟩ | ⟨y1, y2, y3, y4, y5, y6⟩
    · rw [y1, if_pos (show (0 : Int32) = 0 from rfl), if_pos y2]
      obtain ⟨f1, f2⟩ := dr_fin (l := (20 : Int32)) hv h7 h10 ha b1 p1 hw23 e23 x30
      exact Or.inl ⟨rfl, f1, f2, pr23⟩
    · rw [y1, if_neg (show ¬ (1 : Int32) = 0 from by decide), if_neg y2]
      dsimp only
      generalize f5_advance T23 = T25 at *
      generalize (f7_next q30.2.1 q30.2.2).1 = X39 at *
      generalize (f7_next q30.2.1 q30.2.2).2 = V40 at *
      have n3 := n_sim (0 : Int32) (99 : Int32) y3 (by decide)
      generalize f5_takeNumber T25 (0 : Int32) (99 : Int32) = c28 at *
      generalize f7_number X39 V40 (0 : Int32) (99 : Int32) = q42 at *
      rcases n3 with ⟨g1, g2, g3, g4, g5, g6, g7⟩ | ⟨g1, g2⟩
      · rw [if_neg (by rw [g1]; decide), if_neg (show ¬ 0 ≤ q42.2.1 0 17 by have := g4.2.2.2; rw [lp_lt, lp_0] at this; rw [lp_le, lp_0]; omega), ← g2]
        have hf : RW S0 M0 (tt_up c28.2 2 (15 + 7 * (X 1 0).toNatClampNeg) q42.1) q42.2.1 q42.2.2 := RW_rows g4 (fun n hn => tt_up_row hn) (fun _ _ => rfl)
        obtain ⟨f1, f2⟩ := dr_fin (l := q42.1) (p := q30.1) hv h7 h10 ha b1 p1 hf ((row_cong (g5.trans (y4.trans e23))).trans new_l) (g6.trans (y5.trans x30))
        refine Or.inl ⟨rfl, f1, f2, ?_⟩
        dsimp only
        rw [tt_up_ne (by omega)]
        omega
      · rw [if_pos g1, if_pos (by rw [lp_le, lp_0]; exact g2.2.2)]
        exact Or.inr ⟨rfl, g2⟩
