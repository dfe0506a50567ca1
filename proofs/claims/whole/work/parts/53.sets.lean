/-! the sets who can; how uneven -/
theorem bit01 (x y : Int32) : (x >>> (y &&& 31)) &&& (1 : Int32) = 0 ∨ (x >>> (y &&& 31)) &&& (1 : Int32) = (1 : Int32) := by
  obtain ⟨j, hj, e⟩ := pk_andE (x >>> (y &&& 31)) (m := (1 : Int32)) 1 (by decide)
  rw [e]
  rcases (show j = 0 ∨ j = 1 by omega) with rfl | rfl
  · exact Or.inl rfl
  · exact Or.inr rfl
theorem dueL {S M : tt_St} (h : rel 0 S 1 M) (hs : (M 1 0).toInt ≤ 10) {t sum : Int32} : ∀ (m : Nat) (acc y : Int32), ¬ y < 0 → lp_mu (M 1 0) y < m → f7_isSum_L5 M t sum m acc y = if f2_dueOf_L4 S 0 t m acc y = sum then (1 : Int32) else (0 : Int32) := by
  have e0 := h 0 (by omega)
  have e1 := h 1 (by omega)
  intro m
  induction m with
  | zero => intro acc y _ hm; exact absurd hm (Nat.not_lt_zero _)
  | succ m ih =>
    intro acc y hy hm
    rw [f7_isSum_L5, f2_dueOf_L4]
    dsimp only
    rw [e0, e1]
    by_cases c : M 1 0 ≤ y
    · rw [if_pos c, if_pos c, Int32.mul_comm]
    rw [if_neg c, if_neg c]
    have hk := lp_in (n := 10) hy c (by omega)
    have hc := lp_cl1 hy c
    rw [its_5 hk, ← h (17 + 7 * y.toNatClampNeg) (by omega)]
    rcases bit01 t y with b | b
    · rw [b, if_neg (show ¬ (0 : Int32) = (1 : Int32) from by decide), Int32.zero_mul, Int32.add_zero]
      exact ih _ _ (lp_nn hy c) (lp_dec' c hm)
    · rw [b, if_pos (show (1 : Int32) = (1 : Int32) from rfl), Int32.one_mul]
      exact ih _ _ (lp_nn hy c) (lp_dec' c hm)
theorem isSum_eq {S M : tt_St} (h : rel 0 S 1 M) (hs : (M 1 0).toInt ≤ 10) (t sum : Int32) : f7_isSum M t sum = if f2_dueOf S 0 t = sum then (1 : Int32) else (0 : Int32) := by
  unfold f7_isSum f2_dueOf
  rw [h 0 (by omega)]
  exact dueL h hs _ _ _ (by decide) (Nat.lt_succ_self _)
theorem pow_all : ∀ n : Nat, n < 11 → ((1 : Int32) <<< (nI n &&& 31)).toInt ≤ 1024 := by decide
theorem pow_le {x : Int32} (h0 : 0 ≤ x.toInt) (h : x.toInt ≤ 10) : ((1 : Int32) <<< (x &&& 31)).toInt ≤ 1024 := by
  obtain ⟨i, hi, rfl⟩ := nI_of (x := x) (nn_int h0)
  rw [nI_toInt hi] at h
  exact pow_all i (by omega)
theorem bits_all : ∀ n : Nat, n < 1024 → fJ6_bitCount_0f7a4 (nI n) = f7_ones_L4 (nI n) 13 0 0 := by decide +kernel
theorem bits_eq {x : Int32} (h : 0 ≤ x.toInt ∧ x.toInt < 1024) : fJ6_bitCount_0f7a4 x = f7_ones x := by
  obtain ⟨i, hi, rfl⟩ := nI_of (x := x) (nn_int h.1)
  rw [nI_toInt hi] at h
  have e : lp_mu (12 : Int32) 0 = 12 := by rw [lp_mu_eq]; decide
  unfold f7_ones
  rw [e]
  exact bits_all i (by omega)
theorem or_ne {x y : Int32} (h : ¬ y = 0) : ¬ x ||| y = 0 := by
  intro z
  apply h
  have e : (x ||| y).toBitVec = (0 : Int32).toBitVec := congrArg _ z
  rw [Int32.toBitVec_or] at e
  have e2 := (BitVec.or_eq_zero_iff.mp e).2
  exact Int32.toBitVec_inj.mp e2
/-- what looking for sets changes of the reference -/
def sf (M M' : tt_St) : Prop := (∀ n : Nat, n ≠ 0 → M' n = M n) ∧ ∀ k : Nat, k < 9 ∨ 12 < k → M' 0 k = M 0 k
theorem sf_rfl (M : tt_St) : sf M M := ⟨fun _ _ => rfl, fun _ _ => rfl⟩
theorem sf_tr {M M1 M2 : tt_St} (h1 : sf M M1) (h2 : sf M1 M2) : sf M M2 := ⟨fun n hn => (h2.1 n hn).trans (h1.1 n hn), fun k hk => (h2.2 k hk).trans (h1.2 k hk)⟩
theorem sf_up {M : tt_St} {k : Nat} {v : Int32} (h : 9 ≤ k ∧ k ≤ 12) : sf M (tt_up M 0 k v) := ⟨fun n hn => tt_up_row hn, fun j hj => tt_up_ne (by omega)⟩
theorem sf_mf {M M' : tt_St} (h : sf M M') : mf M M' := ⟨fun k _ => congrFun (h.1 1 (by decide)) k, fun n a b => h.1 n (by omega), h.2 3 (by omega), h.2 6 (by omega), h.2 15 (by omega)⟩
/-- one set that can -/
noncomputable def HIT (M : tt_St) (t : Int32) : tt_St := tt_up (tt_up (tt_up (tt_up M 0 9 (M 0 9 + (1 : Int32))) 0 10 (M 0 10 &&& t)) 0 11 (M 0 11 ||| t)) 0 12 (if M 0 12 = 0 then t else if f7_ones (M 0 12) ≤ f7_ones t then M 0 12 else t)
theorem HIT_sf (M : tt_St) (t : Int32) : sf M (HIT M t) := sf_tr (sf_tr (sf_tr (sf_up (by omega)) (sf_up (by omega))) (sf_up (by omega))) (sf_up (by omega))
theorem HIT_at (M : tt_St) (t : Int32) : HIT M t 0 9 = M 0 9 + (1 : Int32) ∧ HIT M t 0 10 = M 0 10 &&& t ∧ HIT M t 0 11 = M 0 11 ||| t ∧ HIT M t 0 12 = (if M 0 12 = 0 then t else if f7_ones (M 0 12) ≤ f7_ones t then M 0 12 else t) := by
  unfold HIT
  refine ⟨?_, ?_, ?_, ?_⟩
  · rw [tt_up_ne (by omega), tt_up_ne (by omega), tt_up_ne (by omega), tt_up_self]
  · rw [tt_up_ne (by omega), tt_up_ne (by omega), tt_up_self]
  · rw [tt_up_ne (by omega), tt_up_self]
  · rw [tt_up_self]
theorem fs_step {S M : tt_St} (h : rel 0 S 1 M) (hs : (M 1 0).toInt ≤ 10) {sum t : Int32} (m : Nat) : f7_findSets_L22 sum (m + 1) M t = if ((1 : Int32) <<< ((M 1 0) &&& 31)) ≤ t then M else if f2_dueOf S 0 t = sum then f7_findSets_L22 sum m (HIT M t) (t + (1 : Int32)) else f7_findSets_L22 sum m M (t + (1 : Int32)) := by
  rw [f7_findSets_L22]
  dsimp only
  by_cases c : ((1 : Int32) <<< ((M 1 0) &&& 31)) ≤ t
  · rw [if_pos c, if_pos c]
  rw [if_neg c, if_neg c, isSum_eq h hs]
  by_cases d : f2_dueOf S 0 t = sum
  · rw [if_pos d, if_pos d, if_neg (by decide)]
    have e10 : tt_up M 0 9 (M 0 9 + (1 : Int32)) 0 10 = M 0 10 := tt_up_ne (by omega)
    rw [e10]
    have e11 : tt_up (tt_up M 0 9 (M 0 9 + (1 : Int32))) 0 10 (M 0 10 &&& t) 0 11 = M 0 11 := (tt_up_ne (by omega)).trans (tt_up_ne (by omega))
    rw [e11]
    have e12 : tt_up (tt_up (tt_up M 0 9 (M 0 9 + (1 : Int32))) 0 10 (M 0 10 &&& t)) 0 11 (M 0 11 ||| t) 0 12 = M 0 12 := (tt_up_ne (by omega)).trans ((tt_up_ne (by omega)).trans (tt_up_ne (by omega)))
    rw [e12]
    unfold HIT
    by_cases c1 : M 0 12 = 0
    · rw [if_pos c1, if_pos c1]
    · rw [if_neg c1, if_neg c1]
      by_cases c2 : f7_ones (M 0 12) ≤ f7_ones t
      · rw [if_pos c2, if_pos c2]
      · rw [if_neg c2, if_neg c2]
  · rw [if_neg d, if_neg d, if_pos rfl]
/-- what the loops keep: how many sets lie behind bounds it -/
def si (M : tt_St) (t : Int32) : Prop := (1 ≤ t.toInt ∧ t.toInt ≤ 1024) ∧ (0 ≤ (M 0 9).toInt ∧ (M 0 9).toInt < t.toInt) ∧ (M 0 9 = 0 ↔ M 0 11 = 0) ∧ (M 0 9 = 0 ↔ M 0 12 = 0) ∧ (0 ≤ (M 0 12).toInt ∧ (M 0 12).toInt < 1024)
theorem ne0_int {x : Int32} (h : 0 < x.toInt) : ¬ x = 0 := fun z => by
  rw [z, lp_0] at h
  omega
theorem si_hit {M : tt_St} {t : Int32} (h : si M t) (ht : t.toInt < 1024) : si (HIT M t) (t + (1 : Int32)) ∧ (t + (1 : Int32)).toInt = t.toInt + 1 := by
  obtain ⟨h1, h2, h3, h4, h5⟩ := h
  obtain ⟨a9, a10, a11, a12⟩ := HIT_at M t
  have et : (t + (1 : Int32)).toInt = t.toInt + 1 := by rw [lp_add (by rw [lp_1]; omega) (by rw [lp_1]; omega), lp_1]
  have e9 : (M 0 9 + (1 : Int32)).toInt = (M 0 9).toInt + 1 := by rw [lp_add (by rw [lp_1]; omega) (by rw [lp_1]; omega), lp_1]
  have nt : ¬ t = 0 := ne0_int (by omega)
  have n9 : ¬ M 0 9 + (1 : Int32) = 0 := ne0_int (by omega)
  have p12 : ¬ (if M 0 12 = 0 then t else if f7_ones (M 0 12) ≤ f7_ones t then M 0 12 else t) = 0 ∧ 0 ≤ (if M 0 12 = 0 then t else if f7_ones (M 0 12) ≤ f7_ones t then M 0 12 else t).toInt ∧ (if M 0 12 = 0 then t else if f7_ones (M 0 12) ≤ f7_ones t then M 0 12 else t).toInt < 1024 := by
    by_cases c1 : M 0 12 = 0
    · rw [if_pos c1]; exact ⟨nt, by omega, ht⟩
    · rw [if_neg c1]
      by_cases c2 : f7_ones (M 0 12) ≤ f7_ones t
      · rw [if_pos c2]; exact ⟨c1, h5⟩
      · rw [if_neg c2]; exact ⟨nt, by omega, ht⟩
  refine ⟨⟨by omega, by rw [a9]; omega, ?_, ?_, by rw [a12]; exact p12.2⟩, et⟩
  · rw [a9, a11]
    exact ⟨fun z => absurd z n9, fun z => absurd z (or_ne nt)⟩
  · rw [a9, a12]
    exact ⟨fun z => absurd z n9, fun z => absurd z p12.1⟩
theorem si_no {M : tt_St} {t : Int32} (h : si M t) (ht : t.toInt < 1024) : si M (t + (1 : Int32)) := by
  obtain ⟨h1, h2, h3, h4, h5⟩ := h
  have et : (t + (1 : Int32)).toInt = t.toInt + 1 := by rw [lp_add (by rw [lp_1]; omega) (by rw [lp_1]; omega), lp_1]
  exact ⟨by omega, by omega, h3, h4, h5⟩
/-- all three loops over the sets -/
theorem setsL {S M0 : tt_St} (hr : rel 0 S 1 M0) (h0 : 0 ≤ (M0 1 0).toInt) (hs : (M0 1 0).toInt ≤ 10) {sum w : Int32} : ∀ (m m' : Nat) (M : tt_St) (t : Int32), sf M0 M → si M t → lp_mu ((1 : Int32) <<< ((M0 1 0) &&& 31)) t < m → lp_mu ((1 : Int32) <<< ((M0 1 0) &&& 31)) t < m' →
    ∃ M' : tt_St, sf M0 M' ∧ (∃ t' : Int32, si M' t') ∧ f7_findSets_L22 sum m' M t = M' ∧ f6_many_L21 sum m S (M 0 9) t = (M' 0 9, S) ∧ f6_who_L34 sum w m S (M 0 10) (M 0 11) t = (if M' 0 11 = 0 then f6_tell S (3 : Int32) else if w = 0 then (M' 0 10, S) else (M' 0 11, S)) ∧ f6_fewest_L21 sum m S (M 0 12) t = (if M' 0 12 = 0 then f6_tell S (3 : Int32) else (M' 0 12, S)) := by
  have hp := pow_le h0 hs
  have e0 := hr 0 (by omega)
  intro m
  induction m with
  | zero => intro m' M t _ _ hm; exact absurd hm (Nat.not_lt_zero _)
  | succ m ih =>
    intro m' M t hf hi hm hm'
    rcases m' with _ | m'
    · exact absurd hm' (Nat.not_lt_zero _)
    have e1 := hf.1 1 (by decide)
    have hrM : rel 0 S 1 M := fun k hk => by rw [e1] at hk ⊢; exact hr k hk
    rw [fs_step hrM (by rw [e1]; exact hs), f6_many_L21, f6_who_L34, f6_fewest_L21]
    dsimp only
    rw [e1, e0]
    by_cases c : ((1 : Int32) <<< ((M0 1 0) &&& 31)) ≤ t
    · simp only [if_pos c]
      exact ⟨M, hf, ⟨t, hi⟩, rfl, rfl, rfl, rfl⟩
    · simp only [if_neg c]
      have c2 := c
      rw [lp_le] at c2
      have ht : t.toInt < 1024 := by omega
      have hd := lp_dec' c hm
      have hd' := lp_dec' c hm'
      by_cases d : f2_dueOf S 0 t = sum
      · simp only [if_pos d]
        obtain ⟨a9, a10, a11, a12⟩ := HIT_at M t
        obtain ⟨M', g1, g2, g3, g4, g5, g6⟩ := ih m' (HIT M t) (t + (1 : Int32)) (sf_tr hf (HIT_sf M t)) (si_hit hi ht).1 hd hd'
        refine ⟨M', g1, g2, g3, by rw [← a9]; exact g4, by rw [← a10, ← a11]; exact g5, ?_⟩
        rw [← g6, a12]
        by_cases c1 : M 0 12 = 0
        · rw [if_pos c1, if_pos c1]
        · rw [if_neg c1, if_neg c1, bits_eq ⟨by have := hi.1; omega, ht⟩, bits_eq hi.2.2.2.2]
          by_cases c3 : f7_ones (M 0 12) ≤ f7_ones t
          · rw [if_pos c3, if_pos c3]
          · rw [if_neg c3, if_neg c3]
      · simp only [if_neg d]
        obtain ⟨M', g1, g2, g3, g4, g5, g6⟩ := ih m' M (t + (1 : Int32)) hf (si_no hi ht) hd hd'
        refine ⟨M', g1, g2, g3, g4, g5, ?_⟩
        rw [← g6]
        by_cases c1 : M 0 12 = 0
        · rw [if_pos c1]
        · rw [if_neg c1]
          by_cases c3 : fJ6_bitCount_0f7a4 (M 0 12) ≤ fJ6_bitCount_0f7a4 t
          · rw [if_pos c3]
          · rw [if_neg c3]
theorem sets_go {S M : tt_St} (h : RR S M) (sum w : Int32) : ∃ M' : tt_St, RR S M' ∧ f7_findSets M sum = M' ∧ (M' 0 9 = 0 ↔ M' 0 11 = 0) ∧ (M' 0 9 = 0 ↔ M' 0 12 = 0) ∧ f6_many_L21 sum (lp_mu ((1 : Int32) <<< ((S 0 0) &&& 31)) 1 + 1) S 0 1 = (M' 0 9, S) ∧ f6_who_L34 sum w (lp_mu ((1 : Int32) <<< ((S 0 0) &&& 31)) 1 + 1) S (-1 : Int32) 0 1 = (if M' 0 11 = 0 then f6_tell S (3 : Int32) else if w = 0 then (M' 0 10, S) else (M' 0 11, S)) ∧ f6_fewest_L21 sum (lp_mu ((1 : Int32) <<< ((S 0 0) &&& 31)) 1 + 1) S 0 1 = (if M' 0 12 = 0 then f6_tell S (3 : Int32) else (M' 0 12, S)) := by
  have hR := h.1
  have hn := okR_n hR.2.2.2
  have e0 := hR.1 0 (by omega)
  have f0 : sf M (tt_up (tt_up (tt_up (tt_up M 0 9 (0 : Int32)) 0 10 (-1 : Int32)) 0 11 (0 : Int32)) 0 12 (0 : Int32)) := sf_tr (sf_tr (sf_tr (sf_up (by omega)) (sf_up (by omega))) (sf_up (by omega))) (sf_up (by omega))
  have v9 : tt_up (tt_up (tt_up (tt_up M 0 9 (0 : Int32)) 0 10 (-1 : Int32)) 0 11 (0 : Int32)) 0 12 (0 : Int32) 0 9 = 0 := by rw [tt_up_ne (by omega), tt_up_ne (by omega), tt_up_ne (by omega), tt_up_self]
  have v10 : tt_up (tt_up (tt_up (tt_up M 0 9 (0 : Int32)) 0 10 (-1 : Int32)) 0 11 (0 : Int32)) 0 12 (0 : Int32) 0 10 = (-1 : Int32) := by rw [tt_up_ne (by omega), tt_up_ne (by omega), tt_up_self]
  have v11 : tt_up (tt_up (tt_up (tt_up M 0 9 (0 : Int32)) 0 10 (-1 : Int32)) 0 11 (0 : Int32)) 0 12 (0 : Int32) 0 11 = 0 := by rw [tt_up_ne (by omega), tt_up_self]
  have v12 : tt_up (tt_up (tt_up (tt_up M 0 9 (0 : Int32)) 0 10 (-1 : Int32)) 0 11 (0 : Int32)) 0 12 (0 : Int32) 0 12 = 0 := by rw [tt_up_self]
  have i0 : si (tt_up (tt_up (tt_up (tt_up M 0 9 (0 : Int32)) 0 10 (-1 : Int32)) 0 11 (0 : Int32)) 0 12 (0 : Int32)) 1 := by
    unfold si
    rw [v9, v11, v12]
    exact ⟨by decide, by decide, Iff.rfl, Iff.rfl, by decide⟩
  have er : tt_up (tt_up (tt_up (tt_up M 0 9 (0 : Int32)) 0 10 (-1 : Int32)) 0 11 (0 : Int32)) 0 12 (0 : Int32) 1 0 = M 1 0 := congrFun (f0.1 1 (by decide)) 0
  obtain ⟨M', g1, ⟨t', g2⟩, g3, g4, g5, g6⟩ := setsL hR.1 hn.2.2.1 hn.2.2.2 (sum := sum) (w := w) (lp_mu ((1 : Int32) <<< ((M 1 0) &&& 31)) 1 + 1) (lp_mu ((1 : Int32) <<< ((M 1 0) &&& 31)) 1 + 1) _ (1 : Int32) f0 i0 (Nat.lt_succ_self _) (Nat.lt_succ_self _)
  rw [v9] at g4
  rw [v10, v11] at g5
  rw [v12] at g6
  refine ⟨M', RR_keep h (tf_rfl S) (sf_mf g1), ?_, g2.2.2.1, g2.2.2.2.1, ?_, ?_, ?_⟩
  · unfold f7_findSets
    dsimp only
    rw [er]
    exact g3
  · rw [e0]; exact g4
  · rw [e0]; exact g5
  · rw [e0]; exact g6
theorem p_many {S M : tt_St} (a : Int32) (h : RR S M) : PS (f6_many S a) (f7_many M a) := by
  have v := @wi_in7 a (0 : Int32) (9999 : Int32) (0 : Int64) (9999 : Int64) rfl rfl
  obtain ⟨M', g1, g2, g3, g4, g5, g6, g7⟩ := sets_go h a 0
  unfold f6_many f7_many
  dsimp only
  by_cases c : f6_within a (0 : Int32) (9999 : Int32) = 0
  · rw [if_pos c, if_pos (v.mp c)]; exact tell_sim h (by unfold vp_in; decide)
  rw [if_neg c, if_neg (fun z => c (v.mpr z)), g2, g5]
  exact PS_mk rfl g1
theorem p_who {S M : tt_St} (a b : Int32) (h : RR S M) : PS (f6_who S a b) (f7_who M a b) := by
  have v := @wi_in7 a (0 : Int32) (9999 : Int32) (0 : Int64) (9999 : Int64) rfl rfl
  have v2 := @wi_in7 b (0 : Int32) (1 : Int32) (0 : Int64) (1 : Int64) rfl rfl
  obtain ⟨M', g1, g2, g3, g4, g5, g6, g7⟩ := sets_go h a b
  unfold f6_who f7_who
  dsimp only
  by_cases c : f6_within a (0 : Int32) (9999 : Int32) = 0
  · rw [if_pos c, if_pos (v.mp c)]; exact tell_sim h (by unfold vp_in; decide)
  rw [if_neg c, if_neg (fun z => c (v.mpr z))]
  by_cases c2 : f6_within b (0 : Int32) (1 : Int32) = 0
  · rw [if_pos c2, if_pos (v2.mp c2)]; exact tell_sim h (by unfold vp_in; decide)
  rw [if_neg c2, if_neg (fun z => c2 (v2.mpr z)), g2, g6]
  by_cases c3 : M' 0 11 = 0
  · rw [if_pos c3, if_pos (g3.mpr c3)]; exact tell_sim g1 (by unfold vp_in; decide)
  rw [if_neg c3, if_neg (fun z => c3 (g3.mp z))]
  by_cases c4 : b = 0
  · rw [if_pos c4, if_pos c4]; exact PS_mk rfl g1
  · rw [if_neg c4, if_neg c4]; exact PS_mk rfl g1
theorem p_fewest {S M : tt_St} (a : Int32) (h : RR S M) : PS (f6_fewest S a) (f7_fewest M a) := by
  have v := @wi_in7 a (0 : Int32) (9999 : Int32) (0 : Int64) (9999 : Int64) rfl rfl
  obtain ⟨M', g1, g2, g3, g4, g5, g6, g7⟩ := sets_go h a 0
  unfold f6_fewest f7_fewest
  dsimp only
  by_cases c : f6_within a (0 : Int32) (9999 : Int32) = 0
  · rw [if_pos c, if_pos (v.mp c)]; exact tell_sim h (by unfold vp_in; decide)
  rw [if_neg c, if_neg (fun z => c (v.mpr z)), g2, g7]
  by_cases c3 : M' 0 12 = 0
  · rw [if_pos c3, if_pos (g4.mpr c3)]; exact tell_sim g1 (by unfold vp_in; decide)
  · rw [if_neg c3, if_neg (fun z => c3 (g4.mp z))]; exact PS_mk rfl g1
