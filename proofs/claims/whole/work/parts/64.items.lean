/-! the text: what is read, on both sides -/
/-- what reading leaves alone -/
def wx (S0 M0 T X : tt_St) : Prop := (∀ n k : Nat, n ≠ 2 → (n = 3 → k < 2 ∨ 6 < k) → T n k = S0 n k) ∧ (∀ k : Nat, k < 132 → X 2 k = M0 1 k) ∧ (∀ n : Nat, 3 ≤ n → X n = M0 n) ∧ (∀ k : Nat, k ≤ 6 → X 0 k = M0 0 k) ∧ mt X
def RW (S0 M0 T X : tt_St) (V : Int64) : Prop := wx S0 M0 T X ∧ TP T X ∧ tk T X V ∧ X 0 17 < 0
/-- the room that is read -/
def VR (M0 T X : tt_St) : Prop := rel 2 T 1 X ∧ dN (X 1 0).toNatClampNeg (891 * (M0 1 7).toInt) X ∧ (∀ k : Nat, k = 7 ∨ k = 11 ∨ 82 ≤ k → X 1 k = M0 1 k) ∧ (M0 1 0).toInt ≤ (X 1 0).toInt
theorem VR_cong {M0 T X T' X' : tt_St} (h : VR M0 T X) (e2 : T' 2 = T 2) (e1 : X' 1 = X 1) : VR M0 T' X' := by
  obtain ⟨h1, h2, h3, h4⟩ := h
  refine ⟨fun k hk => ?_, ?_, fun k hk => by rw [e1]; exact h3 k hk, by rw [e1]; exact h4⟩
  · rw [e1] at hk ⊢
    rw [e2]; exact h1 k hk
  · rw [e1]; exact dN_cong h2 (fun k _ => congrFun e1 k)
theorem VR_up {M0 T X : tt_St} {k : Nat} {v : Int32} (h : VR M0 T X) (hk : k ≠ 0 ∧ k ≠ 7 ∧ k ≠ 11 ∧ k < 82) (hd : dN (X 1 0).toNatClampNeg (891 * (M0 1 7).toInt) (tt_up X 1 k v)) : VR M0 (tt_up T 2 k v) (tt_up X 1 k v) := by
  obtain ⟨h1, h2, h3, h4⟩ := h
  exact ⟨rel_up h1 hk.1, by rw [tt_up_ne (by omega)]; exact hd, fun j hj => by rw [tt_up_ne (by omega)]; exact h3 j hj, by rw [tt_up_ne (by omega)]; exact h4⟩
theorem VR_price {M0 T X : tt_St} {v : Int32} (h : VR M0 T X) (hv : 0 ≤ v.toInt ∧ v.toInt ≤ 99) : VR M0 (tt_up T 2 1 v) (tt_up X 1 1 v) := by
  have hr := dN_room h.2.1
  refine VR_up h (by omega) (dN_rm h.2.1 (fun j _ _ _ _ _ _ _ _ _ => tt_up_ne (by omega)) ?_ ?_ ?_ ?_)
  · rw [tt_up_self]; exact hv
  · rw [tt_up_ne (by omega)]; exact hr.2.2.1
  · rw [tt_up_ne (by omega)]; exact hr.2.2.2.1
  · rw [tt_up_ne (by omega)]; exact hr.2.2.2.2.1
theorem VR_sign {M0 T X : tt_St} {v : Int32} (h : VR M0 T X) (hv : 0 ≤ v.toInt ∧ v.toInt ≤ 2) : VR M0 (tt_up T 2 5 v) (tt_up X 1 5 v) := by
  have hr := dN_room h.2.1
  refine VR_up h (by omega) (dN_rm h.2.1 (fun j _ _ _ _ _ _ _ _ _ => tt_up_ne (by omega)) ?_ ?_ ?_ ?_)
  · rw [tt_up_ne (by omega)]; exact hr.2.1
  · rw [tt_up_ne (by omega)]; exact hr.2.2.1
  · rw [tt_up_ne (by omega)]; exact hr.2.2.2.1
  · rw [tt_up_self]; exact hv
theorem VR_pot {M0 T X : tt_St} {v : Int32} (h : VR M0 T X) (hv : 1 ≤ v.toInt ∧ v.toInt ≤ 99) : VR M0 (tt_up (tt_up T 2 2 v) 2 3 v) (tt_up (tt_up X 1 2 v) 1 3 v) := by
  have hr := dN_room h.2.1
  have t1 : VR M0 (tt_up T 2 2 v) (tt_up X 1 2 v) := by
    refine VR_up h (by omega) (dN_rm h.2.1 (fun j _ _ _ _ _ _ _ _ _ => tt_up_ne (by omega)) ?_ ?_ ?_ ?_)
    · rw [tt_up_ne (by omega)]; exact hr.2.1
    · rw [tt_up_self]; exact hv
    · rw [tt_up_ne (by omega)]; exact hr.2.2.2.1
    · rw [tt_up_ne (by omega)]; exact hr.2.2.2.2.1
  have hr1 := dN_room t1.2.1
  refine VR_up t1 (by omega) (dN_rm t1.2.1 (fun j _ _ _ _ _ _ _ _ _ => tt_up_ne (by omega)) ?_ ?_ ?_ ?_)
  · rw [tt_up_ne (by omega)]; exact hr1.2.1
  · rw [tt_up_ne (by omega)]; exact hr1.2.2.1
  · rw [tt_up_self]; omega
  · rw [tt_up_ne (by omega)]; exact hr1.2.2.2.2.1
theorem tk_cong {T X T' X' : tt_St} {V : Int64} (h : tk T X V) (t3 : T' 3 = T 3) (t5 : T' 5 = T 5) (x0 : X' 0 = X 0) : tk T' X' V := by
  unfold tk lt5 at *
  rw [t3, t5, x0]
  exact h
/-- the rooms themselves are free -/
theorem RW_rows {S0 M0 T X T' X' : tt_St} {V : Int64} (h : RW S0 M0 T X V) (hT : ∀ n : Nat, n ≠ 2 → T' n = T n) (hX : ∀ n : Nat, n ≠ 1 → X' n = X n) : RW S0 M0 T' X' V := by
  obtain ⟨⟨w1, w2, w3, w4, w5⟩, h2, h3, h4⟩ := h
  refine ⟨⟨fun n k a b => by rw [hT n a]; exact w1 n k a b, fun k hk => by rw [hX 2 (by decide)]; exact w2 k hk, fun n hn => by rw [hX n (by omega)]; exact w3 n hn, fun k hk => by rw [hX 0 (by decide)]; exact w4 k hk, mt_fr w5 (hX 0 (by decide))⟩, TP_cong h2 (by rw [hT 3 (by decide)]) (hT 5 (by decide)) (by rw [hX 0 (by decide)]) (hX 5 (by decide)), tk_cong h3 (hT 3 (by decide)) (hT 5 (by decide)) (hX 0 (by decide)), by rw [hX 0 (by decide)]; exact h4⟩
/-- the next token, in the middle of reading -/
theorem RW_next {S0 M0 T X : tt_St} {V : Int64} (h : RW S0 M0 T X V) (h4 : ¬ X 0 14 = (4 : Int32)) : RW S0 M0 (f5_advance T) (f7_next X V).1 (f7_next X V).2 ∧ (f5_advance T) 2 = T 2 ∧ (f7_next X V).1 1 = X 1 ∧ (T 3 4).toInt ≤ ((f5_advance T) 3 3).toInt ∧ (f5_advance T) 3 6 = T 3 6 := by
  obtain ⟨⟨w1, w2, w3, w4, w5⟩, h2, h3, h5⟩ := h
  obtain ⟨g1, g2, g3⟩ := next_sim V h2 w5 (h3.2.2.2.1 h4)
  obtain ⟨n1, n2, n3⟩ := nx_next V w5
  refine ⟨⟨⟨fun n k a b => by rw [g3 n k (by omega)]; exact w1 n k a b, fun k hk => by rw [n2.row (by decide)]; exact w2 k hk, fun n hn => by rw [n2.row (by omega)]; exact w3 n hn, fun k hk => by rw [n2 0 k (by omega)]; exact w4 k hk, n1⟩, TP_cong h2 (g3 3 1 (by omega)) (funext fun k => g3 5 k (by omega)) n2.tp (n2.row (by decide)), g1, by rw [n2.ft]; exact h5⟩, funext fun k => g3 2 k (by omega), n2.row (by decide), g2, g3 3 6 (by omega)⟩
/-- what a fault leaves: the class answers 0, the reference has its place -/
def FA (S0 M0 T X : tt_St) : Prop := wx S0 M0 T X ∧ X 0 17 = T 3 3 ∧ 0 ≤ (X 0 17).toInt
theorem RW_wrong {S0 M0 T X : tt_St} {V : Int64} (h : RW S0 M0 T X V) : FA S0 M0 T (f7_wrongHere X) := by
  obtain ⟨⟨w1, w2, w3, w4, w5⟩, h2, h3, h5⟩ := h
  have n17 : ¬ 0 ≤ X 0 17 := by
    rw [lp_lt, lp_0] at h5
    rw [lp_le, lp_0]
    omega
  unfold f7_wrongHere
  rw [if_neg n17]
  dsimp only
  refine ⟨⟨w1, fun k hk => by rw [tt_up_row (by decide)]; exact w2 k hk, fun n hn => by rw [tt_up_row (by omega)]; exact w3 n hn, fun k hk => by rw [tt_up_ne (by omega)]; exact w4 k hk, mt_up w5 (by omega) (by omega) (by omega)⟩, ?_, ?_⟩
  · rw [tt_up_self]; exact h3.2.1.symm
  · rw [tt_up_self]; exact w5.2.2.2
theorem FA_row1 {S0 M0 T X X' : tt_St} (h : FA S0 M0 T X) (hX : ∀ n : Nat, n ≠ 1 → X' n = X n) : FA S0 M0 T X' := by
  obtain ⟨⟨w1, w2, w3, w4, w5⟩, h2, h3⟩ := h
  exact ⟨⟨w1, fun k hk => by rw [hX 2 (by decide)]; exact w2 k hk, fun n hn => by rw [hX n (by omega)]; exact w3 n hn, fun k hk => by rw [hX 0 (by decide)]; exact w4 k hk, mt_fr w5 (hX 0 (by decide))⟩, by rw [hX 0 (by decide)]; exact h2, by rw [hX 0 (by decide)]; exact h3⟩
/-- a word -/
theorem w_sim {S0 M0 T X : tt_St} {V w : Int64} {i : Nat} (h : RW S0 M0 T X V) (hi : i < 15) (hw : wval i = w) : (f5_takeWord T i = ((0 : Int32), T) ∧ f7_isWord X V w = 0) ∨ (f5_takeWord T i = ((1 : Int32), f5_advance T) ∧ ¬ f7_isWord X V w = 0 ∧ RW S0 M0 (f5_advance T) (f7_next X V).1 (f7_next X V).2 ∧ (f5_advance T) 2 = T 2 ∧ (f7_next X V).1 1 = X 1 ∧ (T 3 3).toInt + 1 ≤ ((f5_advance T) 3 3).toInt) := by
  have e := word_sim h.2.1 h.2.2.1 hi hw
  unfold f5_takeWord
  dsimp only
  by_cases c : f5_isWord T i = 0
  · rw [if_pos c]
    exact Or.inl ⟨rfl, e.mp c⟩
  · rw [if_neg c]
    have c2 : ¬ f7_isWord X V w = 0 := fun z => c (e.mpr z)
    have s1 : X 0 14 = (1 : Int32) := Classical.byContradiction fun z => c2 (iw_0 z)
    obtain ⟨g1, g2, g3, g4, g5⟩ := RW_next h (by rw [s1]; decide)
    have k5 := h.2.2.1.2.2.2.2.1
    have : (T 3 3).toInt < (T 3 4).toInt := by
      rcases k5 with z | z
      · rw [s1] at z; exact absurd z (by decide)
      · exact z
    exact Or.inr ⟨rfl, c2, g1, g2, g3, by omega⟩
/-- a number -/
theorem n_sim {S0 M0 T X : tt_St} {V : Int64} (a b : Int32) (h : RW S0 M0 T X V) (hb : b.toInt ≤ 9999) : ((f5_takeNumber T a b).1 = (1 : Int32) ∧ (f7_number X V a b).1 = (f5_takeNumber T a b).2 3 6 ∧ (a.toInt ≤ ((f7_number X V a b).1).toInt ∧ ((f7_number X V a b).1).toInt ≤ b.toInt) ∧ RW S0 M0 (f5_takeNumber T a b).2 (f7_number X V a b).2.1 (f7_number X V a b).2.2 ∧ (f5_takeNumber T a b).2 2 = T 2 ∧ (f7_number X V a b).2.1 1 = X 1 ∧ (T 3 3).toInt ≤ ((f5_takeNumber T a b).2 3 3).toInt) ∨ ((f5_takeNumber T a b).1 = (0 : Int32) ∧ FA S0 M0 (f5_takeNumber T a b).2 (f7_number X V a b).2.1) := by
  obtain ⟨k1, k2, k3, k4, k5, k6, k7⟩ := id h.2.2.1
  have fw := RW_wrong h
  unfold f5_takeNumber f7_number
  dsimp only
  rw [k1]
  by_cases c : X 0 14 = (2 : Int32)
  · rw [if_pos c, if_pos c]
    obtain ⟨l1, l2⟩ := k7 c
    have e1 := @wi_iff (T 3 5) a b
    have e2 := in_iff V a.toInt64 b.toInt64
    rw [Int32.toInt_toInt64, Int32.toInt_toInt64] at e2
    by_cases d : f6_within (T 3 5) a b = 0
    · have d2 : f7_in V a.toInt64 b.toInt64 = 0 := Classical.byContradiction fun z => by
        have := e2.mp z
        exact e1.mpr (by omega) d
      rw [if_pos d, if_pos d2]
      exact Or.inr ⟨rfl, fw⟩
    · have d3 := e1.mp d
      have d2 : ¬ f7_in V a.toInt64 b.toInt64 = 0 := e2.mpr (by omega)
      rw [if_neg d, if_neg d2]
      have ev : V.toInt32 = T 3 5 := Int32.toInt_inj.mp (by rw [Int64.toInt_toInt32, lp_bmod (by omega) (by omega)]; omega)
      have hT6 : ∀ n : Nat, n ≠ 3 → tt_up T 3 6 (T 3 5) n = T n := fun n hn => tt_up_row hn
      have hw : RW S0 M0 (tt_up T 3 6 (T 3 5)) X V := by
        obtain ⟨⟨w1, w2, w3, w4, w5⟩, h2, h3, h5⟩ := h
        refine ⟨⟨fun n k p q => by rw [tt_up_ne (by omega)]; exact w1 n k p q, w2, w3, w4, w5⟩, TP_cong h2 (tt_up_ne (by omega)) (hT6 5 (by decide)) rfl rfl, ?_, h5⟩
        unfold tk lt5 at *
        rw [tt_up_ne (by omega), tt_up_ne (by omega), tt_up_ne (by omega), tt_up_ne (by omega), hT6 5 (by decide)]
        exact h3
      obtain ⟨g1, g2, g3, g4, g5⟩ := RW_next hw (by rw [c]; decide)
      rw [tt_up_self] at g5
      rw [tt_up_ne (by omega)] at g4
      dsimp only
      refine Or.inl ⟨rfl, by rw [g5]; exact ev, by rw [ev]; exact d3, g1, by rw [g2]; exact hT6 2 (by decide), g3, by omega⟩
  · rw [if_neg c, if_neg c]
    exact Or.inr ⟨rfl, fw⟩
