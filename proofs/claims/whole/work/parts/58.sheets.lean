/-! sheets: begun, written -/
theorem RR_sheet {S S' M M' : tt_St} (h : RR S M) (hS : ∀ n : Nat, n ≠ 3 → (n < 15 ∨ 18 < n) → S' n = S n) (h3 : ∀ k : Nat, k < 10 → S' 3 k = S 3 k) (hM : ∀ n : Nat, n ≠ 6 → n ≠ 7 → n ≠ 8 → n ≠ 9 → M' n = M n) (hs : SH S' M') : RR S' M' := by
  obtain ⟨h1, hK, hT, hf, -, h15⟩ := h
  have s := hS
  have m := fun (n : Nat) (a : n ≠ 6 ∧ n ≠ 7 ∧ n ≠ 8 ∧ n ≠ 9) => hM n a.1 a.2.1 a.2.2.1 a.2.2.2
  refine ⟨RB_cong h1 (s 0 (by decide) (by decide)) (s 6 (by decide) (by decide)) (s 9 (by decide) (by decide)) (s 12 (by decide) (by decide)) (fun j _ => congrFun (m 1 (by decide)) j), KP_cong hK (h3 0 (by decide)) (s 1 (by decide) (by decide)) (s 7 (by decide) (by decide)) (s 10 (by decide) (by decide)) (s 13 (by decide) (by decide)) (congrFun (m 0 (by decide)) 3) (m 3 (by decide)), TP_cong hT (h3 1 (by decide)) (s 5 (by decide) (by decide)) (congrFun (m 0 (by decide)) 6) (m 5 (by decide)), fun j hj => ?_, hs, ?_⟩
  · rw [s 4 (by decide) (by decide), m 4 (by decide)]; exact hf j hj
  · rw [m 0 (by decide)]; exact h15
theorem begL {k : Nat} {a1 a2 : Int32} : ∀ (m : Nat) (S : tt_St) (y : Int32), ¬ y < 0 → lp_mu (40 : Int32) y < m → (∀ n : Nat, n ≠ 15 + k → f3_begin_L12 k a1 a2 m S y n = S n) ∧ ∀ i : Nat, f3_begin_L12 k a1 a2 m S y (15 + k) i = if y.toNatClampNeg ≤ i ∧ i < 40 then 0 else S (15 + k) i := by
  intro m
  induction m with
  | zero => intro S y _ hm; exact absurd hm (Nat.not_lt_zero _)
  | succ m ih =>
    intro S y hy hm
    rw [f3_begin_L12]
    dsimp only
    by_cases c : (40 : Int32) ≤ y
    · rw [if_pos c]
      refine ⟨fun n hn => rfl, fun i => ?_⟩
      have := cl_int (int_nn hy)
      rw [lp_le, show (40 : Int32).toInt = 40 from rfl] at c
      rw [if_neg (by omega)]
    · rw [if_neg c]
      have hc := lp_cl1 hy c
      rw [show (40 : Int32).toNatClampNeg = 40 from rfl] at hc
      obtain ⟨g1, g2⟩ := ih (tt_up S (15 + k) y.toNatClampNeg (0 : Int32)) (y + (1 : Int32)) (lp_nn hy c) (lp_dec' c hm)
      refine ⟨fun n hn => by rw [g1 n hn, tt_up_row hn], fun i => ?_⟩
      rw [g2, hc.1]
      by_cases e : i = y.toNatClampNeg
      · subst e
        rw [if_neg (by omega), tt_up_self, if_pos (by omega)]
      · by_cases d : y.toNatClampNeg ≤ i ∧ i < 40
        · rw [if_pos d, if_pos (by omega)]
        · rw [if_neg d, if_neg (by omega), tt_up_ne (by omega)]
theorem shtL {a1 a2 a3 : Int32} (hk : vp_in a1 4) : ∀ (m : Nat) (M : tt_St) (y : Int32), ¬ y < 0 → lp_mu (40 : Int32) y < m → (f7_sheet_L83 a1 a2 a3 m M y).1 = M 7 a1.toNatClampNeg ∧ (∀ n : Nat, n ≠ 8 → (f7_sheet_L83 a1 a2 a3 m M y).2 n = M n) ∧ ∀ j : Nat, (f7_sheet_L83 a1 a2 a3 m M y).2 8 j = if 40 * a1.toNatClampNeg + y.toNatClampNeg ≤ j ∧ j < 40 * a1.toNatClampNeg + 40 then 0 else M 8 j := by
  intro m
  induction m with
  | zero => intro S y _ hm; exact absurd hm (Nat.not_lt_zero _)
  | succ m ih =>
    intro M y hy hm
    rw [f7_sheet_L83]
    dsimp only
    by_cases c : (40 : Int32) ≤ y
    · rw [if_pos c]
      refine ⟨rfl, fun n hn => rfl, fun i => ?_⟩
      have := cl_int (int_nn hy)
      rw [lp_le, show (40 : Int32).toInt = 40 from rfl] at c
      rw [if_neg (by omega)]
    · rw [if_neg c]
      have hc := lp_cl1 hy c
      rw [show (40 : Int32).toNatClampNeg = 40 from rfl] at hc
      have h0 := int_nn hy
      have hc2 := cl_int h0
      rw [i40 hk h0 (by omega)]
      obtain ⟨g1, g2, g3⟩ := ih (tt_up M 8 (40 * a1.toNatClampNeg + y.toNatClampNeg) (0 : Int32)) (y + (1 : Int32)) (lp_nn hy c) (lp_dec' c hm)
      refine ⟨by rw [g1, tt_up_ne (by omega)], fun n hn => by rw [g2 n hn, tt_up_row hn], fun i => ?_⟩
      rw [g3, hc.1]
      by_cases e : i = 40 * a1.toNatClampNeg + y.toNatClampNeg
      · subst e
        rw [if_neg (by omega), tt_up_self, if_pos (by omega)]
      · by_cases d : 40 * a1.toNatClampNeg + y.toNatClampNeg ≤ i ∧ i < 40 * a1.toNatClampNeg + 40
        · rw [if_pos d, if_pos (by omega)]
        · rw [if_neg d, if_neg (by omega), tt_up_ne (by omega)]
theorem sheet_go {S M : tt_St} {a1 a2 a3 n : Int32} (h : RR S M) (hk : vp_in a1 4) (hw : a2 = 0 ∨ a2 = (8 : Int32) ∨ a2 = (16 : Int32) ∨ a2 = (32 : Int32)) (hn : 0 ≤ n.toInt ∧ n.toInt ≤ 40) : PS (f3_begin S a1.toNatClampNeg a2 n 3 (20 + a1.toNatClampNeg), f3_begin S a1.toNatClampNeg a2 n) (f7_sheet_L83 a1 a2 a3 (lp_mu (40 : Int32) 0 + 1) (tt_up (tt_up M 6 a1.toNatClampNeg a2) 7 a1.toNatClampNeg n) (0 : Int32)) := by
  have hk4 := lp_cl hk
  unfold f3_begin
  dsimp only
  obtain ⟨g1, g2⟩ := begL (k := a1.toNatClampNeg) (a1 := a2) (a2 := n) (lp_mu (40 : Int32) 0 + 1) (tt_up (tt_up S 3 (10 + a1.toNatClampNeg) a2) 3 (20 + a1.toNatClampNeg) n) (0 : Int32) (by decide) (Nat.lt_succ_self _)
  obtain ⟨k1, k2, k3⟩ := shtL (a1 := a1) (a2 := a2) (a3 := a3) hk (lp_mu (40 : Int32) 0 + 1) (tt_up (tt_up M 6 a1.toNatClampNeg a2) 7 a1.toNatClampNeg n) (0 : Int32) (by decide) (Nat.lt_succ_self _)
  rw [show (0 : Int32).toNatClampNeg = 0 from rfl] at g2 k3
  refine ⟨?_, ?_⟩
  · dsimp only
    rw [g1 3 (by omega), k1, tt_up_self, tt_up_self]
  · dsimp only
    refine RR_sheet h (fun m a b => ?_) (fun j hj => ?_) (fun m a b c d => ?_) (fun k hk => ?_)
    · rw [g1 m (by omega), tt_up_row a, tt_up_row a]
    · rw [g1 3 (by omega), tt_up_ne (by omega), tt_up_ne (by omega)]
    · rw [k2 m c, tt_up_row b, tt_up_row a]
    · have old := h.2.2.2.2.1 k hk
      rw [g1 3 (by omega), k2 6 (by decide), k2 7 (by decide)]
      by_cases e : k = a1.toNatClampNeg
      · subst e
        rw [tt_up_ne (by omega), tt_up_self, tt_up_self, tt_up_ne (by omega), tt_up_self, tt_up_self]
        refine ⟨rfl, rfl, hw, hn, fun i hi => ?_⟩
        rw [g2, k3, if_pos (by omega), if_pos (by omega)]
      · rw [tt_up_ne (by omega), tt_up_ne (by omega), tt_up_ne (by omega), tt_up_ne (by omega), tt_up_ne (by omega), tt_up_ne (by omega), tt_up_ne (by omega)]
        refine ⟨old.1, old.2.1, old.2.2.1, old.2.2.2.1, fun i hi => ?_⟩
        rw [g1 (15 + k) (by omega), k3, if_neg (by omega), tt_up_row (by omega), tt_up_row (by omega), tt_up_row (by omega), tt_up_row (by omega)]
        exact old.2.2.2.2 i hi
theorem p_sheet {S M : tt_St} (a b x : Int32) (h : RR S M) : PS (f6_sheet S a b x) (f7_sheet M a b x) := by
  have t0 := tell_sim h (k := (0 : Int32)) (by unfold vp_in; decide)
  have t6 := tell_sim h (k := (6 : Int32)) (by unfold vp_in; decide)
  unfold f6_sheet f7_sheet
  dsimp only
  by_cases c : f6_isSheet a = 0
  · rw [if_pos c, if_pos (iss7.mp c)]; exact t0
  have hk := iss_in rfl c
  rw [if_neg c, if_neg (fun z => c (iss7.mpr z))]
  by_cases c2 : (0 : Int32) ≤ x
  · simp only [if_pos c2]
    by_cases c3 : x ≤ (40 : Int32)
    · simp only [if_pos c3]
      rw [lp_le, lp_0] at c2
      rw [lp_le, show (40 : Int32).toInt = 40 from rfl] at c3
      by_cases b0 : b = 0
      · rw [if_pos b0, if_pos b0]; exact sheet_go h hk (Or.inl b0) (by decide)
      rw [if_neg b0, if_neg b0]
      by_cases b1 : b = (8 : Int32)
      · rw [if_pos b1, if_pos b1]; exact sheet_go h hk (Or.inr (Or.inl b1)) ⟨c2, c3⟩
      rw [if_neg b1, if_neg b1]
      by_cases b2 : b = (16 : Int32)
      · rw [if_pos b2, if_pos b2]; exact sheet_go h hk (Or.inr (Or.inr (Or.inl b2))) ⟨c2, c3⟩
      rw [if_neg b2, if_neg b2]
      by_cases b3 : b = (32 : Int32)
      · rw [if_pos b3, if_pos b3]; exact sheet_go h hk (Or.inr (Or.inr (Or.inr b3))) ⟨c2, c3⟩
      rw [if_neg b3, if_neg b3]; exact t0
    · simp only [if_neg c3]
      repeat' split
      all_goals first | exact t0 | contradiction
  · simp only [if_neg c2]
    repeat' split
    all_goals first | exact t6 | exact t0 | contradiction
theorem cut8 (a : Int32) : (a <<< (((32 : Int32) - (8 : Int32)) &&& 31)) >>> (((32 : Int32) - (8 : Int32)) &&& 31) = a.toInt8.toInt32 := by
  apply Int32.toInt_inj.mp
  have e := pk_shl a (((32 : Int32) - (8 : Int32)) &&& 31) 24 (by decide)
  have t1 := ti_tn a
  have t2 := ti_tn (a <<< (((32 : Int32) - (8 : Int32)) &&& 31))
  rw [pk_shr _ _ 24 (by decide), Int.shiftRight_eq_div_pow, Int8.toInt_toInt32, Int32.toInt_toInt8, Int.bmod]
  omega
theorem cut16 (a : Int32) : (a <<< (((32 : Int32) - (16 : Int32)) &&& 31)) >>> (((32 : Int32) - (16 : Int32)) &&& 31) = a.toInt16.toInt32 := by
  apply Int32.toInt_inj.mp
  have e := pk_shl a (((32 : Int32) - (16 : Int32)) &&& 31) 16 (by decide)
  have t1 := ti_tn a
  have t2 := ti_tn (a <<< (((32 : Int32) - (16 : Int32)) &&& 31))
  rw [pk_shr _ _ 16 (by decide), Int.shiftRight_eq_div_pow, Int16.toInt_toInt32, Int32.toInt_toInt16, Int.bmod]
  omega
theorem cut32 (a : Int32) : (a <<< (((32 : Int32) - (32 : Int32)) &&& 31)) >>> (((32 : Int32) - (32 : Int32)) &&& 31) = a := by
  apply Int32.toInt_inj.mp
  have e := pk_shl a (((32 : Int32) - (32 : Int32)) &&& 31) 0 (by decide)
  have t1 := ti_tn a
  have t2 := ti_tn (a <<< (((32 : Int32) - (32 : Int32)) &&& 31))
  rw [pk_shr _ _ 0 (by decide), Int.shiftRight_eq_div_pow]
  omega
/-- one number written -/
theorem RR_put {S M : tt_St} {a1 a2 v : Int32} (h : RR S M) (hk : vp_in a1 4) (h0 : 0 ≤ a2.toInt) (h40 : a2.toInt < 40) : RR (tt_up S (15 + a1.toNatClampNeg) a2.toNatClampNeg v) (tt_up M 8 (((40 : Int32) * a1) + a2).toNatClampNeg v) := by
  have hk4 := lp_cl hk
  have := cl_int h0
  rw [i40 hk h0 h40]
  refine RR_sheet h (fun m a b => tt_up_row (by omega)) (fun j hj => tt_up_ne (by omega)) (fun m a b c d => tt_up_row c) (fun k hk => ?_)
  have old := h.2.2.2.2.1 k hk
  rw [tt_up_ne (by omega), tt_up_ne (by omega), tt_up_ne (by omega), tt_up_ne (by omega)]
  refine ⟨old.1, old.2.1, old.2.2.1, old.2.2.2.1, fun i hi => ?_⟩
  by_cases e : k = a1.toNatClampNeg ∧ i = a2.toNatClampNeg
  · obtain ⟨rfl, rfl⟩ := e
    rw [tt_up_self, tt_up_self]
  · rw [tt_up_ne (by omega), tt_up_ne (by omega)]
    exact old.2.2.2.2 i hi
theorem p_write {S M : tt_St} (a b x : Int32) (h : RR S M) : PS (f6_write S a b x) (f7_write M a b x) := by
  unfold f6_write f7_write
  dsimp only
  by_cases c : f6_isSheet a = 0
  · rw [if_pos c, if_pos (iss7.mp c)]; exact tell_sim h (by unfold vp_in; decide)
  have hk := iss_in rfl c
  obtain ⟨s1, s2, s3, s4, s5⟩ := h.2.2.2.2.1 _ (lp_cl hk)
  rw [if_neg c, if_neg (fun z => c (iss7.mpr z))]
  unfold f3_isMissing f3_put
  dsimp only
  rw [s1, s2]
  by_cases c2 : M 6 a.toNatClampNeg = 0
  · rw [if_pos c2, if_neg (show ¬ (1 : Int32) = 0 from by decide), if_pos c2]; exact tell_sim h (by unfold vp_in; decide)
  have v := @wi_in7 b (0 : Int32) (M 7 a.toNatClampNeg - (1 : Int32)) (0 : Int64) ((M 7 a.toNatClampNeg - (1 : Int32)).toInt64) rfl (by rw [Int32.toInt_toInt64])
  rw [if_neg c2, if_pos (show (0 : Int32) = 0 from rfl), if_neg c2]
  by_cases c3 : f6_within b (0 : Int32) (M 7 a.toNatClampNeg - (1 : Int32)) = 0
  · rw [if_pos c3, if_pos (v.mp c3)]; exact tell_sim h (by unfold vp_in; decide)
  rw [if_neg c3, if_neg (fun z => c3 (v.mpr z))]
  have hb := wi_iff.mp c3
  rw [lp_0, sz_m1 (nn_int s4.1)] at hb
  by_cases w8 : M 6 a.toNatClampNeg = (8 : Int32)
  · rw [if_pos w8, w8, cut8]; exact PS_mk rfl (RR_put h hk hb.1 (by omega))
  rw [if_neg w8]
  by_cases w16 : M 6 a.toNatClampNeg = (16 : Int32)
  · rw [if_pos w16, w16, cut16]; exact PS_mk rfl (RR_put h hk hb.1 (by omega))
  rw [if_neg w16]
  have w32 : M 6 a.toNatClampNeg = (32 : Int32) := by
    rcases s3 with z | z | z | z
    · exact absurd z c2
    · exact absurd z w8
    · exact absurd z w16
    · exact z
  rw [w32, cut32]; exact PS_mk rfl (RR_put h hk hb.1 (by omega))
