/-! the public methods: drinkers, the room -/
theorem dN_came {n : Nat} {B : Int} {M : tt_St} (h : dN n B M) : (M 1 9).toInt = gs (M 1) 18 n := by
  have e1 : tt_up (tt_up M 0 7 (0 : Int32)) 0 8 (0 : Int32) 1 = M 1 := by rw [tt_up_row (by decide), tt_up_row (by decide)]
  have h0 := h.1.2.2.2.2.2.2.1
  rw [e1] at h0
  exact h0
theorem dN_intro {n : Nat} {B : Int} {M : tt_St} (h : ((M 1 0).toInt = n ∧ n ≤ 10) ∧ (0 ≤ (M 1 1).toInt ∧ (M 1 1).toInt ≤ 99) ∧ (1 ≤ (M 1 2).toInt ∧ (M 1 2).toInt ≤ 99) ∧ (0 ≤ (M 1 3).toInt ∧ (M 1 3).toInt ≤ 99) ∧ (0 ≤ (M 1 5).toInt ∧ (M 1 5).toInt ≤ 2) ∧ 0 ≤ (M 1 7).toInt ∧ bkb M) (hd : ∀ d : Nat, d < n → dk (fun _ => B) (fun _ => 9 * ((M 1 7).toInt % 5)) (fun _ => 1782 * ((M 1 7).toInt % 5)) M d) (hc : (M 1 9).toInt = gs (M 1) 18 n) : dN n B M := by
  have e1 : tt_up (tt_up M 0 7 (0 : Int32)) 0 8 (0 : Int32) 1 = M 1 := by rw [tt_up_row (by decide), tt_up_row (by decide)]
  obtain ⟨h0, h1, h2, h3, h4, h5, h6⟩ := h
  have ep := gs_bd (f := M 1) (b := 14) (lo := 0) (hi := 9999) (n := n) (fun i hi => by have := hd i hi; unfold dk at this; exact this.2.2.1)
  unfold dN dM bM bkb dk at *
  rw [e1, tt_up_ne (by omega), tt_up_self, lp_0]
  exact ⟨⟨h0, h1, h2, h3, h4, hd, hc, by omega⟩, h5, h6⟩
theorem bkb_cong {M M' : tt_St} (h : bkb M) (e : ∀ k : Nat, k = 11 ∨ 82 ≤ k ∧ k < 122 → M' 1 k = M 1 k) : bkb M' := ⟨by rw [e 11 (by omega)]; exact h.1, fun k hk => by rw [e (82 + k) (by omega)]; exact h.2 k hk⟩
/-- the room's own numbers become others -/
theorem dN_rm {n : Nat} {B : Int} {M M' : tt_St} (h : dN n B M) (e : ∀ k : Nat, k < 132 → k ≠ 1 → k ≠ 2 → k ≠ 3 → k ≠ 4 → k ≠ 5 → k ≠ 6 → k ≠ 8 → k ≠ 10 → M' 1 k = M 1 k) (h1 : 0 ≤ (M' 1 1).toInt ∧ (M' 1 1).toInt ≤ 99) (h2 : 1 ≤ (M' 1 2).toInt ∧ (M' 1 2).toInt ≤ 99) (h3 : 0 ≤ (M' 1 3).toInt ∧ (M' 1 3).toInt ≤ 99) (h5 : 0 ≤ (M' 1 5).toInt ∧ (M' 1 5).toInt ≤ 2) : dN n B M' := by
  have hr := dN_room h
  have e7 := e 7 (by omega) (by omega) (by omega) (by omega) (by omega) (by omega) (by omega) (by omega) (by omega)
  refine dN_intro ⟨by rw [e 0 (by omega) (by omega) (by omega) (by omega) (by omega) (by omega) (by omega) (by omega) (by omega)]; exact hr.1, h1, h2, h3, h5, by rw [e7]; exact hr.2.2.2.2.2.1, bkb_cong hr.2.2.2.2.2.2 (fun k hk => e k (by omega) (by omega) (by omega) (by omega) (by omega) (by omega) (by omega) (by omega) (by omega))⟩ (fun d hd => ?_) ?_
  · rw [e7]
    exact dk_cong (dN_dk h hd) (fun j hj _ => e _ (by omega) (by omega) (by omega) (by omega) (by omega) (by omega) (by omega) (by omega) (by omega))
  · rw [e 9 (by omega) (by omega) (by omega) (by omega) (by omega) (by omega) (by omega) (by omega) (by omega), dN_came h]
    exact (gs_ext (fun d hd => e _ (by omega) (by omega) (by omega) (by omega) (by omega) (by omega) (by omega) (by omega) (by omega))).symm
/-- a drinker's number becomes another -/
theorem dN_set {n d j : Nat} {B : Int} {M : tt_St} {v : Int32} (h : dN n B M) (hd : d < n) (hj : j < 5) (h0 : j = 0 → 0 ≤ v.toInt ∧ v.toInt ≤ 6) (h1 : j = 1 → 1 ≤ v.toInt ∧ v.toInt ≤ 9) (h2 : j = 2 → 0 ≤ v.toInt ∧ v.toInt ≤ 9999) (h4 : j = 4 → v.toInt = 0) : dN n B (tt_up M 1 (12 + j + 7 * d) v) := by
  have hr := dN_room h
  have e : ∀ k : Nat, k ≠ 12 + j + 7 * d → tt_up M 1 (12 + j + 7 * d) v 1 k = M 1 k := fun k hk => tt_up_ne (by omega)
  refine dN_intro ⟨by rw [e 0 (by omega)]; exact hr.1, by rw [e 1 (by omega)]; exact hr.2.1, by rw [e 2 (by omega)]; exact hr.2.2.1, by rw [e 3 (by omega)]; exact hr.2.2.2.1, by rw [e 5 (by omega)]; exact hr.2.2.2.2.1, by rw [e 7 (by omega)]; exact hr.2.2.2.2.2.1, bkb_cong hr.2.2.2.2.2.2 (fun k hk => e k (by omega))⟩ (fun i hi => ?_) ?_
  · rw [e 7 (by omega)]
    have hk := dN_dk h hi
    by_cases c : i = d
    · subst c
      unfold dk at *
      rcases (show j = 0 ∨ j = 1 ∨ j = 2 ∨ j = 3 ∨ j = 4 by omega) with rfl | rfl | rfl | rfl | rfl
      · rw [show 12 + 0 + 7 * i = 12 + 7 * i by omega, tt_up_self, tt_up_ne (by omega), tt_up_ne (by omega), tt_up_ne (by omega), tt_up_ne (by omega), tt_up_ne (by omega)]
        exact ⟨h0 rfl, hk.2⟩
      · rw [show 12 + 1 + 7 * i = 13 + 7 * i by omega, tt_up_self, tt_up_ne (by omega), tt_up_ne (by omega), tt_up_ne (by omega), tt_up_ne (by omega), tt_up_ne (by omega)]
        exact ⟨hk.1, h1 rfl, hk.2.2⟩
      · rw [show 12 + 2 + 7 * i = 14 + 7 * i by omega, tt_up_self, tt_up_ne (by omega), tt_up_ne (by omega), tt_up_ne (by omega), tt_up_ne (by omega), tt_up_ne (by omega)]
        exact ⟨hk.1, hk.2.1, h2 rfl, hk.2.2.2⟩
      · rw [show 12 + 3 + 7 * i = 15 + 7 * i by omega, tt_up_ne (by omega), tt_up_ne (by omega), tt_up_ne (by omega), tt_up_ne (by omega), tt_up_ne (by omega), tt_up_ne (by omega)]
        exact hk
      · rw [show 12 + 4 + 7 * i = 16 + 7 * i by omega, tt_up_self, tt_up_ne (by omega), tt_up_ne (by omega), tt_up_ne (by omega), tt_up_ne (by omega), tt_up_ne (by omega)]
        have := h4 rfl
        exact ⟨hk.1, hk.2.1, hk.2.2.1, by have := hk.2.2.2.1; omega, hk.2.2.2.2⟩
    · exact dk_cong hk (fun j' hj' _ => e _ (by omega))
  · rw [e 9 (by omega), dN_came h]
    exact (gs_ext (fun i hi => e _ (by omega))).symm
theorem rel_up {r q k : Nat} {S M : tt_St} {v : Int32} (h : rel r S q M) (hk : k ≠ 0) : rel r (tt_up S r k v) q (tt_up M q k v) := by
  intro j hj
  rw [tt_up_ne (n' := q) (k' := 0) (by omega)] at hj
  by_cases c : j = k
  · subst c; rw [tt_up_self, tt_up_self]
  · rw [tt_up_ne (by omega), tt_up_ne (by omega)]
    exact h j hj
/-- one place of the room, neither its size nor its books -/
theorem RR_up {S M : tt_St} {k : Nat} {v : Int32} (h : RR S M) (hk : k ≠ 0) (hk2 : k ≤ 8 ∨ k = 10 ∨ (12 ≤ k ∧ k < 82)) (h7 : k ≠ 7) (hd : dN (M 1 0).toNatClampNeg (891 * (M 1 7).toInt) (tt_up M 1 k v)) : RR (tt_up S 0 k v) (tt_up M 1 k v) := by
  obtain ⟨⟨h1, h2, h3, h4⟩, hrest⟩ := id h
  have e : ∀ j : Nat, j ≠ k → tt_up M 1 k v 1 j = M 1 j := fun j hj => tt_up_ne (by omega)
  refine RR_room h ⟨rel_up h1 hk, ⟨by rw [tt_up_ne (by omega), tt_up_ne (by omega)]; exact h2.1, fun i hi => by rw [tt_up_row (n' := 6 + 0) (by omega), tt_up_row (n' := 9 + 0) (by omega), e _ (by omega), e _ (by omega)]; exact h2.2 i hi⟩, fun i hi => by rw [tt_up_row (n' := 12 + 0) (by omega), e _ (by omega)]; exact h3 i hi, ?_⟩ (fun n a _ _ _ _ _ _ => tt_up_row a) (fun n a _ => tt_up_row (by omega)) (tt_up_ne (by omega)) (tt_up_ne (by omega)) (tt_up_ne (by omega))
  refine okR_of (n := (M 1 0).toNatClampNeg) (by rw [e 7 (by omega)]; exact hd) (by rw [e 7 (by omega)]; exact h4.2.1) (fun i hi => ?_)
  rw [e 0 (by omega), e (122 + i) (by omega)]
  exact h4.2.2 i hi
theorem RR_free {S M : tt_St} {k : Nat} {v : Int32} (h : RR S M) (hk : k = 4 ∨ k = 6 ∨ k = 8 ∨ k = 10) : RR (tt_up S 0 k v) (tt_up M 1 k v) := by
  have hr := dN_room (okR_dN h.1.2.2.2)
  refine RR_up h (by omega) (by omega) (by omega) (dN_rm (okR_dN h.1.2.2.2) (fun j _ _ _ _ _ _ _ _ _ => tt_up_ne (by omega)) ?_ ?_ ?_ ?_)
  · rw [tt_up_ne (by omega)]; exact hr.2.1
  · rw [tt_up_ne (by omega)]; exact hr.2.2.1
  · rw [tt_up_ne (by omega)]; exact hr.2.2.2.1
  · rw [tt_up_ne (by omega)]; exact hr.2.2.2.2.1
theorem p_empty {S M : tt_St} (h : RR S M) : PS (f6_empty S) (f7_empty M) := ⟨h.1.1 4 (by omega), RR_free h (by omega)⟩
theorem p_seed {S M : tt_St} (a : Int32) (h : RR S M) : PS (f6_seed S a) (f7_seed M a) := ⟨h.1.1 10 (by omega), RR_free h (by omega)⟩
theorem min_least {a b : Int32} : (if a < b then a else b) = f7_least b a := by
  unfold f7_least
  by_cases c : a < b
  · rw [if_pos c, if_pos (by rw [lp_lt] at c; rw [lp_le]; omega)]
  · rw [if_neg c]
    by_cases c2 : a ≤ b
    · rw [if_pos c2]
      rw [lp_lt] at c
      rw [lp_le] at c2
      exact Int32.toInt_inj.mp (by omega)
    · rw [if_neg c2]
theorem p_taken {S M : tt_St} (a : Int32) (h : RR S M) : PS (f6_taken S a) (f7_taken M a) := by
  have e4 := h.1.1 4 (by omega)
  have w := @wi_in7 a (1 : Int32) (999 : Int32) (1 : Int64) (999 : Int64) rfl rfl
  unfold f6_taken f7_taken
  dsimp only
  by_cases c : f6_within a (1 : Int32) (999 : Int32) = 0
  · rw [if_pos c, if_pos (w.mp c)]; exact tell_sim h (by unfold vp_in; decide)
  · rw [if_neg c, if_neg (fun z => c (w.mpr z)), min_least, e4]
    exact ⟨rfl, RR_free h (by omega)⟩
theorem p_forgive {S M : tt_St} (a : Int32) (h : RR S M) : PS (f6_forgive S a) (f7_forgive M a) := by
  obtain ⟨w, w2⟩ := dr_iff7 h (a := a)
  unfold f6_forgive f7_forgive
  dsimp only
  by_cases c : f6_isDrinker S a = 0
  · rw [if_pos c, if_pos (w.mp c)]; exact tell_sim h (by unfold vp_in; decide)
  · obtain ⟨ha, hd⟩ := w2 (fun z => c (w.mpr z))
    rw [if_neg c, if_neg (fun z => c (w.mpr z)), its_4 ha, bec_4 ha]
    have hn := okR_n h.1.2.2.2
    exact ⟨h.1.1 _ (by omega), RR_up h (by omega) (by omega) (by omega) (dN_set (j := 4) (okR_dN h.1.2.2.2) hd (by omega) (fun z => absurd z (by decide)) (fun z => absurd z (by decide)) (fun z => absurd z (by decide)) (fun _ => rfl))⟩
theorem p_of {S M : tt_St} (a b : Int32) (h : RR S M) : PS (f6_of S a b) (f7_of M a b) := by
  obtain ⟨w, w2⟩ := dr_iff7 h (a := a)
  have v := @wi_in7 b (0 : Int32) (6 : Int32) (0 : Int64) (6 : Int64) rfl rfl
  unfold f6_of f7_of
  dsimp only
  by_cases c : f6_isDrinker S a = 0
  · rw [if_pos c, if_pos (w.mp c)]; exact tell_sim h (by unfold vp_in; decide)
  · obtain ⟨ha, hd⟩ := w2 (fun z => c (w.mpr z))
    rw [if_neg c, if_neg (fun z => c (w.mpr z))]
    by_cases c2 : f6_within b (0 : Int32) (6 : Int32) = 0
    · rw [if_pos c2, if_pos (v.mp c2)]; exact tell_sim h (by unfold vp_in; decide)
    · rw [if_neg c2, if_neg (fun z => c2 (v.mpr z))]
      exact ⟨get_its h.1.1 ha hd (wi_in (n := 7) rfl c2 (by decide) (by decide)), h⟩
theorem p_change {S M : tt_St} (a b x : Int32) (h : RR S M) : PS (f6_change S a b x) (f7_change M a b x) := by
  obtain ⟨w, w2⟩ := dr_iff7 h (a := a)
  have hn := okR_n h.1.2.2.2
  have hD := okR_dN h.1.2.2.2
  have t := tell_sim h (k := (0 : Int32)) (by unfold vp_in; decide)
  have v0 := @wi_in7 x (0 : Int32) (6 : Int32) (0 : Int64) (6 : Int64) rfl rfl
  have v1 := @wi_in7 x (1 : Int32) (9 : Int32) (1 : Int64) (9 : Int64) rfl rfl
  have v2 := @wi_in7 x (0 : Int32) (9999 : Int32) (0 : Int64) (9999 : Int64) rfl rfl
  have v3 := @wi_in7 x (0 : Int32) (99 : Int32) (0 : Int64) (99 : Int64) rfl rfl
  unfold f6_change f7_change
  dsimp only
  by_cases c : f6_isDrinker S a = 0
  · rw [if_pos c]
    simp only [if_pos (w.mp c)]
    repeat' split
    all_goals exact t
  · have c' : ¬ f7_isDrinker M a = 0 := fun z => c (w.mpr z)
    obtain ⟨ha, hd⟩ := w2 c'
    rw [if_neg c]
    simp only [if_neg c']
    unfold f6_canBecome
    by_cases b0 : b = 0
    · subst b0
      rw [if_pos rfl, if_pos rfl]
      dsimp only
      by_cases c2 : f6_within x (0 : Int32) (6 : Int32) = 0
      · rw [if_pos c2, if_pos (v0.mp c2)]; exact t
      · have hx := wi_iff.mp c2
        rw [if_neg c2, if_neg (fun z => c2 (v0.mpr z)), show f7_its M a 0 = _ from its_0 ha, show f7_becomes M a 0 x = _ from bec_0 ha]
        exact ⟨h.1.1 _ (by omega), RR_up h (by omega) (by omega) (by omega) (dN_set (j := 0) hD hd (by omega) (fun _ => hx) (fun z => absurd z (by decide)) (fun z => absurd z (by decide)) (fun z => absurd z (by decide)))⟩
    rw [if_neg b0, if_neg b0]
    by_cases b1 : b = (1 : Int32)
    · subst b1
      rw [if_pos rfl, if_pos rfl]
      dsimp only
      by_cases c2 : f6_within x (1 : Int32) (9 : Int32) = 0
      · rw [if_pos c2, if_pos (v1.mp c2)]; exact t
      · have hx := wi_iff.mp c2
        rw [if_neg c2, if_neg (fun z => c2 (v1.mpr z)), its_1 ha, bec_1 ha]
        exact ⟨get_1.trans (h.1.1 _ (by omega)), RR_up h (by omega) (by omega) (by omega) (dN_set (j := 1) hD hd (by omega) (fun z => absurd z (by decide)) (fun _ => hx) (fun z => absurd z (by decide)) (fun z => absurd z (by decide)))⟩
    rw [if_neg b1, if_neg b1]
    by_cases b2 : b = (2 : Int32)
    · subst b2
      rw [if_pos rfl, if_pos rfl]
      dsimp only
      by_cases c2 : f6_within x (0 : Int32) (9999 : Int32) = 0
      · rw [if_pos c2, if_pos (v2.mp c2)]; exact t
      · have hx := wi_iff.mp c2
        rw [if_neg c2, if_neg (fun z => c2 (v2.mpr z)), its_2 ha, bec_2 ha]
        exact ⟨get_2.trans (h.1.1 _ (by omega)), RR_up h (by omega) (by omega) (by omega) (dN_set (j := 2) hD hd (by omega) (fun z => absurd z (by decide)) (fun z => absurd z (by decide)) (fun _ => hx) (fun z => absurd z (by decide)))⟩
    rw [if_neg b2, if_neg b2]
    by_cases b3 : b = (3 : Int32)
    · subst b3
      rw [if_pos rfl, if_pos rfl]
      dsimp only
      by_cases c2 : f6_within x (0 : Int32) (99 : Int32) = 0
      · rw [if_pos c2, if_pos (v3.mp c2)]; exact t
      · rw [if_neg c2, if_neg (fun z => c2 (v3.mpr z)), its_3 ha, bec_3 ha]
        exact ⟨get_3.trans (h.1.1 _ (by omega)), RR_up h (by omega) (by omega) (by omega) (dN_set (j := 3) hD hd (by omega) (fun z => absurd z (by decide)) (fun z => absurd z (by decide)) (fun z => absurd z (by decide)) (fun z => absurd z (by decide)))⟩
    rw [if_neg b3, if_neg b3, if_pos rfl]
    exact t
theorem p_room {S M : tt_St} (a x : Int32) (h : RR S M) : PS (f6_room S a x) (f7_room M a x) := by
  have hD := okR_dN h.1.2.2.2
  have hr := dN_room hD
  have t := tell_sim h (k := (0 : Int32)) (by unfold vp_in; decide)
  have v0 := @wi_in7 x (0 : Int32) (99 : Int32) (0 : Int64) (99 : Int64) rfl rfl
  have v1 := @wi_in7 x (1 : Int32) (99 : Int32) (1 : Int64) (99 : Int64) rfl rfl
  have v2 := @wi_in7 x (0 : Int32) (2 : Int32) (0 : Int64) (2 : Int64) rfl rfl
  have i3 : ∀ (k : Nat), k ≠ 3 → tt_up (tt_up M 1 k x) 1 3 (tt_up M 1 k x 1 3) = tt_up M 1 k x := fun k _ => tt_up_id _ _ _
  unfold f6_room f7_room f6_changePrice f6_changePot f6_changeSign f2_setPot
  dsimp only
  by_cases b0 : a = 0
  · subst b0
    rw [if_pos rfl, if_pos rfl]
    by_cases c2 : f6_within x (0 : Int32) (99 : Int32) = 0
    · rw [if_pos c2, if_pos (v0.mp c2)]; exact t
    · have hx := wi_iff.mp c2
      rw [if_neg c2, if_neg (fun z => c2 (v0.mpr z)), if_neg (by decide), i3 1 (by omega)]
      refine ⟨h.1.1 1 (by omega), RR_up h (by omega) (by omega) (by omega) (dN_rm hD (fun j _ _ _ _ _ _ _ _ _ => tt_up_ne (by omega)) ?_ ?_ ?_ ?_)⟩
      · rw [tt_up_self]; exact hx
      · rw [tt_up_ne (by omega)]; exact hr.2.2.1
      · rw [tt_up_ne (by omega)]; exact hr.2.2.2.1
      · rw [tt_up_ne (by omega)]; exact hr.2.2.2.2.1
  rw [if_neg b0, if_neg b0]
  by_cases b1 : a = (1 : Int32)
  · subst b1
    rw [if_pos rfl, if_pos rfl]
    by_cases c2 : f6_within x (1 : Int32) (99 : Int32) = 0
    · rw [if_pos c2, if_pos (v1.mp c2)]; exact t
    · have hx := wi_iff.mp c2
      rw [if_neg c2, if_neg (fun z => c2 (v1.mpr z))]
      have x0 : 0 ≤ x.toInt ∧ x.toInt ≤ 99 := by
        have : (1 : Int32).toInt = 1 := rfl
        have : (99 : Int32).toInt = 99 := rfl
        omega
      have g1 : RR (tt_up S 0 2 x) (tt_up M 1 2 x) := by
        refine RR_up h (by omega) (by omega) (by omega) (dN_rm hD (fun j _ _ _ _ _ _ _ _ _ => tt_up_ne (by omega)) ?_ ?_ ?_ ?_)
        · rw [tt_up_ne (by omega)]; exact hr.2.1
        · rw [tt_up_self]; exact hx
        · rw [tt_up_ne (by omega)]; exact hr.2.2.2.1
        · rw [tt_up_ne (by omega)]; exact hr.2.2.2.2.1
      have hD1 := okR_dN g1.1.2.2.2
      have hr1 := dN_room hD1
      refine ⟨h.1.1 2 (by omega), RR_up g1 (by omega) (by omega) (by omega) (dN_rm hD1 (fun j _ _ _ _ _ _ _ _ _ => tt_up_ne (by omega)) ?_ ?_ ?_ ?_)⟩
      · rw [tt_up_ne (by omega)]; exact hr1.2.1
      · rw [tt_up_ne (by omega)]; exact hr1.2.2.1
      · rw [tt_up_self]; exact x0
      · rw [tt_up_ne (by omega)]; exact hr1.2.2.2.2.1
  rw [if_neg b1, if_neg b1]
  by_cases b2 : a = (2 : Int32)
  · subst b2
    rw [if_pos rfl, if_pos rfl]
    by_cases c2 : f6_within x (0 : Int32) (2 : Int32) = 0
    · rw [if_pos c2, if_pos (v2.mp c2)]; exact t
    · have hx := wi_iff.mp c2
      rw [if_neg c2, if_neg (fun z => c2 (v2.mpr z)), i3 5 (by omega)]
      refine ⟨h.1.1 5 (by omega), RR_up h (by omega) (by omega) (by omega) (dN_rm hD (fun j _ _ _ _ _ _ _ _ _ => tt_up_ne (by omega)) ?_ ?_ ?_ ?_)⟩
      · rw [tt_up_ne (by omega)]; exact hr.2.1
      · rw [tt_up_ne (by omega)]; exact hr.2.2.1
      · rw [tt_up_ne (by omega)]; exact hr.2.2.2.1
      · rw [tt_up_self]; exact hx
  rw [if_neg b2, if_neg b2]
  exact t
