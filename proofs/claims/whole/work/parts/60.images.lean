/-! the room's image; the tape -/
theorem cp132 {q1 q2 : Nat} (hq : q1 ≠ q2) : ∀ (m : Nat) (M : tt_St) (y : Int32), ¬ y < 0 → lp_mu (132 : Int32) y < m → (∀ n : Nat, n ≠ q2 → f7_copies_L2 q1 q2 m M y n = M n) ∧ ∀ i : Nat, f7_copies_L2 q1 q2 m M y q2 i = if y.toNatClampNeg ≤ i ∧ i < 132 then M q1 i else M q2 i := by
  intro m
  induction m with
  | zero => intro S y _ hm; exact absurd hm (Nat.not_lt_zero _)
  | succ m ih =>
    intro M y hy hm
    rw [f7_copies_L2]
    dsimp only
    by_cases c : (132 : Int32) ≤ y
    · rw [if_pos c]
      refine ⟨fun n hn => rfl, fun i => ?_⟩
      have := cl_int (int_nn hy)
      rw [lp_le, show (132 : Int32).toInt = 132 from rfl] at c
      rw [if_neg (by omega)]
    · rw [if_neg c]
      have hc := lp_cl1 hy c
      rw [show (132 : Int32).toNatClampNeg = 132 from rfl] at hc
      obtain ⟨g1, g2⟩ := ih (tt_up M q2 y.toNatClampNeg (M q1 y.toNatClampNeg)) (y + (1 : Int32)) (lp_nn hy c) (lp_dec' c hm)
      refine ⟨fun n hn => by rw [g1 n hn, tt_up_row hn], fun i => ?_⟩
      rw [g2, hc.1, tt_up_row hq]
      by_cases e : i = y.toNatClampNeg
      · subst e
        rw [if_neg (by omega), tt_up_self, if_pos (by omega)]
      · by_cases d : y.toNatClampNeg ≤ i ∧ i < 132
        · rw [if_pos d, if_pos (by omega)]
        · rw [if_neg d, if_neg (by omega), tt_up_ne (by omega)]
theorem cps_row {M : tt_St} {q1 q2 n : Nat} (hq : q1 ≠ q2) (h : n ≠ q2) : f7_copies M q1 q2 n = M n := (cp132 hq _ M (0 : Int32) (by decide) (Nat.lt_succ_self _)).1 n h
theorem cps_at {M : tt_St} {q1 q2 k : Nat} (hq : q1 ≠ q2) (h : k < 132) : f7_copies M q1 q2 q2 k = M q1 k := by
  rw [f7_copies, (cp132 hq _ M (0 : Int32) (by decide) (Nat.lt_succ_self _)).2 k, if_pos ⟨Nat.zero_le _, h⟩]
/-- the class's room, taken whole -/
theorem all_row {S : tt_St} {r r2 n : Nat} (h : n ≠ r) (h6 : n ≠ 6 + r) (h9 : n ≠ 9 + r) (h12 : n ≠ 12 + r) : f2_takeAll S r r2 n = S n := by
  unfold f2_takeAll f0_take
  dsimp only
  rw [tt_upR_row h12, tt_up_row h, tt_upR_row h9, tt_upR_row h6, tk_row h]
theorem all_6 {S : tt_St} {r r2 i : Nat} (hr : r < 3) (hr2 : r2 < 3) (hi : i < 20) : f2_takeAll S r r2 (6 + r) i = S (6 + r2) i := by
  unfold f2_takeAll f0_take
  dsimp only
  rw [tt_upR_row (by omega), tt_up_row (by omega), tt_upR_row (by omega), tt_upR_self, va_cpy, if_pos (by omega), tk_row (by omega)]
  congr 1
  omega
theorem all_9 {S : tt_St} {r r2 i : Nat} (hr : r < 3) (hr2 : r2 < 3) (hi : i < 20) : f2_takeAll S r r2 (9 + r) i = S (9 + r2) i := by
  unfold f2_takeAll f0_take
  dsimp only
  rw [tt_upR_row (by omega), tt_up_row (by omega), tt_upR_self, va_cpy, if_pos (by omega), tt_upR_row (by omega), tk_row (by omega)]
  congr 1
  omega
theorem all_12 {S : tt_St} {r r2 i : Nat} (hr : r < 3) (hr2 : r2 < 3) (hi : i < 10) : f2_takeAll S r r2 (12 + r) i = S (12 + r2) i := by
  unfold f2_takeAll f0_take
  dsimp only
  rw [tt_upR_self, va_cpy, if_pos (by omega), tt_up_row (by omega), tt_upR_row (by omega), tt_upR_row (by omega), tk_row (by omega)]
  congr 1
  omega
theorem all_11 {S : tt_St} {r r2 : Nat} (hr : r < 3) (hr2 : r2 < 3) (h : r2 ≠ r) : f2_takeAll S r r2 r 11 = S r2 11 := by
  unfold f2_takeAll f0_take
  dsimp only
  rw [tt_upR_row (by omega), tt_up_self, tt_upR_row (by omega), tt_upR_row (by omega), tk_row h]
theorem all_at {S : tt_St} {r r2 k : Nat} (hr : r < 3) (hr2 : r2 < 3) (hk : k ≠ 11) : f2_takeAll S r r2 r k = f2_takeRoom S r r2 r k := by
  unfold f2_takeAll f0_take
  dsimp only
  rw [tt_upR_row (by omega), tt_up_ne (by omega), tt_upR_row (by omega), tt_upR_row (by omega)]
theorem all_RB {S M M' : tt_St} {r r2 q q2 : Nat} (hr : r < 3) (hr2 : r2 < 3) (hrr : r2 ≠ r) (h : RB r2 S q2 M) (e : ∀ k : Nat, k < 132 → M' q k = M q2 k) : RB r (f2_takeAll S r r2) q M' := by
  obtain ⟨h1, h2, h3, h4⟩ := h
  have hn := okR_n h4
  have e0 := h1 0 (by omega)
  refine ⟨fun k hk => ?_, ⟨by rw [all_11 hr hr2 hrr, e 11 (by omega)]; exact h2.1, fun i hi => by rw [all_6 hr hr2 hi, all_9 hr hr2 hi, e _ (by omega), e _ (by omega)]; exact h2.2 i hi⟩, fun i hi => by rw [all_12 hr hr2 hi, e _ (by omega)]; exact h3 i hi, okR_cong h4 e⟩
  rw [e 0 (by omega)] at hk
  rw [all_at hr hr2 (by omega), tk_at hrr, e0, e k (by omega)]
  by_cases c : k ≤ 10
  · rw [if_pos c]; exact h1 k hk
  · rw [if_neg c, if_pos (by omega)]; exact h1 k hk
theorem p_image {S M : tt_St} (h : RR S M) : PS (f6_image S) (f7_image M) := by
  obtain ⟨h1, hK, hT, hf, hs, h15⟩ := h
  have hn := okR_n h1.2.2.2
  unfold f6_image f7_image
  dsimp only
  have hB : RB 1 (f2_takeAll S 1 0) 3 (f7_copies M 1 3) := all_RB (by decide) (by decide) (by decide) h1 (fun k hk => cps_at (by decide) hk)
  have s : ∀ n : Nat, n ≠ 1 → n ≠ 7 → n ≠ 10 → n ≠ 13 → f2_takeAll S 1 0 n = S n := fun n a b c d => all_row a b c d
  have m : ∀ n : Nat, n ≠ 3 → f7_copies M 1 3 n = M n := fun n a => cps_row (by decide) a
  have s0 : ∀ n : Nat, n ≠ 3 → tt_up (f2_takeAll S 1 0) 3 0 (1 : Int32) n = f2_takeAll S 1 0 n := fun n hn => tt_up_row hn
  have m0 : ∀ n : Nat, n ≠ 0 → tt_up (f7_copies M 1 3) 0 3 (1 : Int32) n = f7_copies M 1 3 n := fun n hn => tt_up_row hn
  refine PS_mk rfl ⟨?_, ⟨?_, ?_, fun _ => ?_, ?_⟩, TP_cong hT ?_ ?_ ?_ ?_, fun j hj => ?_, SH_cong hs (fun j hj => ?_) (fun j hj => ?_) ?_ ?_ ?_, ?_⟩
  · exact RB_cong h1 (by rw [s0 0 (by decide), s 0 (by decide) (by decide) (by decide) (by decide)]) (by rw [s0 (6 + 0) (by decide), s (6 + 0) (by decide) (by decide) (by decide) (by decide)]) (by rw [s0 (9 + 0) (by decide), s (9 + 0) (by decide) (by decide) (by decide) (by decide)]) (by rw [s0 (12 + 0) (by decide), s (12 + 0) (by decide) (by decide) (by decide) (by decide)]) (fun k _ => by rw [m0 1 (by decide), m 1 (by decide)])
  · rw [tt_up_self, tt_up_self]
  · rw [tt_up_self]; exact Or.inr rfl
  · exact RB_cong hB (s0 1 (by decide)) (s0 (6 + 1) (by decide)) (s0 (9 + 1) (by decide)) (s0 (12 + 1) (by decide)) (fun k _ => congrFun (m0 3 (by decide)) k)
  · rw [s0 1 (by decide), hB.1 0 (by omega), cps_at (by decide) (by decide)]
    exact ⟨hn.2.2.1, hn.2.2.2⟩
  · rw [tt_up_ne (by omega), s 3 (by decide) (by decide) (by decide) (by decide)]
  · rw [s0 5 (by decide), s 5 (by decide) (by decide) (by decide) (by decide)]
  · rw [tt_up_ne (by omega), m 0 (by decide)]
  · rw [m0 5 (by decide), m 5 (by decide)]
  · rw [s0 4 (by decide), s 4 (by decide) (by decide) (by decide) (by decide), m0 4 (by decide), m 4 (by decide)]; exact hf j hj
  · rw [tt_up_ne (by omega), s 3 (by decide) (by decide) (by decide) (by decide)]
  · rw [s0 (15 + j) (by omega), s (15 + j) (by omega) (by omega) (by omega) (by omega)]
  · rw [m0 6 (by decide), m 6 (by decide)]
  · rw [m0 7 (by decide), m 7 (by decide)]
  · rw [m0 8 (by decide), m 8 (by decide)]
  · rw [tt_up_ne (by omega), m 0 (by decide)]; exact h15
theorem p_undo {S M : tt_St} (h : RR S M) : PS (f6_undo S) (f7_undo M) := by
  have hK := h.2.1
  unfold f6_undo f7_undo
  dsimp only
  by_cases c : S 3 0 = 0
  · rw [if_pos c, if_pos (by rw [← hK.1]; exact c)]; exact tell_sim h (by unfold vp_in; decide)
  rw [if_neg c, if_neg (by rw [← hK.1]; exact c)]
  have hB : RB 0 (f2_takeAll S 0 1) 1 (f7_copies M 3 1) := all_RB (by decide) (by decide) (by decide) (hK.2.2.1 c) (fun k hk => cps_at (by decide) hk)
  have m : ∀ n : Nat, n ≠ 1 → f7_copies M 3 1 n = M n := fun n a => cps_row (by decide) a
  exact PS_mk (hB.1 7 (by omega)) (RR_room h hB (fun n a b c d _ _ _ => all_row a (by omega) (by omega) (by omega)) (fun n a _ => m n (by omega)) (congrFun (m 0 (by decide)) 3) (congrFun (m 0 (by decide)) 6) (congrFun (m 0 (by decide)) 15))
theorem p_tear {S M : tt_St} (h : RR S M) : PS (f6_tear S) (f7_tear M) := by
  obtain ⟨h1, hK, hT, hf, hs, h15⟩ := h
  have s0 : ∀ n : Nat, n ≠ 3 → tt_up S 3 0 (0 : Int32) n = S n := fun n hn => tt_up_row hn
  have m0 : ∀ n : Nat, n ≠ 0 → tt_up M 0 3 (0 : Int32) n = M n := fun n hn => tt_up_row hn
  have g : RR (tt_up S 3 0 (0 : Int32)) (tt_up M 0 3 (0 : Int32)) := by
    refine ⟨RB_cong h1 (s0 _ (by decide)) (s0 _ (by decide)) (s0 _ (by decide)) (s0 _ (by decide)) (fun k _ => congrFun (m0 1 (by decide)) k), ⟨?_, ?_, fun z => ?_, ?_⟩, TP_cong hT (tt_up_ne (by omega)) (s0 5 (by decide)) (tt_up_ne (by omega)) (m0 5 (by decide)), fun j hj => ?_, SH_cong hs (fun j hj => tt_up_ne (by omega)) (fun j hj => s0 _ (by omega)) (m0 6 (by decide)) (m0 7 (by decide)) (m0 8 (by decide)), ?_⟩
    · rw [tt_up_self, tt_up_self]
    · rw [tt_up_self]; exact Or.inl rfl
    · rw [tt_up_self] at z; exact absurd rfl z
    · rw [s0 1 (by decide)]; exact hK.2.2.2
    · rw [s0 4 (by decide), m0 4 (by decide)]; exact hf j hj
    · rw [tt_up_ne (by omega)]; exact h15
  unfold f6_tear f7_tear
  dsimp only
  by_cases c : S 3 0 = 0
  · rw [if_pos c, if_pos (by rw [← hK.1]; exact c)]; exact PS_mk rfl g
  · rw [if_neg c, if_neg (by rw [← hK.1]; exact c)]; exact PS_mk rfl g
/-- only the tape is another -/
theorem RR_tape {S S' M M' : tt_St} (h : RR S M) (hS : ∀ n : Nat, n ≠ 3 → n ≠ 5 → S' n = S n) (h3 : ∀ k : Nat, k ≠ 1 → S' 3 k = S 3 k) (hM : ∀ n : Nat, n ≠ 0 → n ≠ 5 → M' n = M n) (h0 : ∀ k : Nat, k ≠ 6 → M' 0 k = M 0 k) (ht : TP S' M') : RR S' M' := by
  obtain ⟨h1, hK, hT, hf, hs, h15⟩ := h
  refine ⟨RB_cong h1 (hS _ (by decide) (by decide)) (hS _ (by decide) (by decide)) (hS _ (by decide) (by decide)) (hS _ (by decide) (by decide)) (fun k _ => congrFun (hM 1 (by decide) (by decide)) k), KP_cong hK (h3 0 (by decide)) (hS _ (by decide) (by decide)) (hS _ (by decide) (by decide)) (hS _ (by decide) (by decide)) (hS _ (by decide) (by decide)) (h0 3 (by decide)) (hM 3 (by decide) (by decide)), ht, fun j hj => ?_, SH_cong hs (fun j hj => h3 j (by omega)) (fun j hj => hS _ (by omega) (by omega)) (hM 6 (by decide) (by decide)) (hM 7 (by decide) (by decide)) (hM 8 (by decide) (by decide)), ?_⟩
  · rw [hS 4 (by decide) (by decide), hM 4 (by decide) (by decide)]; exact hf j hj
  · rw [h0 15 (by decide)]; exact h15
theorem p_wipe {S M : tt_St} (h : RR S M) : PS (f6_wipe S) (f7_wipe M) := by
  have hT := h.2.2.1
  refine PS_mk hT.1 (RR_tape h (fun n a b => tt_up_row a) (fun k hk => tt_up_ne (by omega)) (fun n a b => tt_up_row a) (fun k hk => tt_up_ne (by omega)) ⟨?_, ?_, fun i hi => ?_⟩)
  · rw [tt_up_self, tt_up_self]
  · rw [tt_up_self]; decide
  · rw [tt_up_self] at hi
    exact absurd hi (Nat.not_lt_zero _)
theorem byt (a : Int32) (k : Nat) (hk : k ≤ 24) {s t : Int32} (hs : ((s.toUInt32 &&& Int32.toUInt32 31).toBitVec % 32).toNat = k) (ht : ((t.toBitVec).smod 32).toNat = k) (hp : (2 : Nat) ^ k = 1 ∨ (2 : Nat) ^ k = 256 ∨ (2 : Nat) ^ k = 65536 ∨ (2 : Nat) ^ k = 16777216) : (0 ≤ (((a.toUInt32 >>> (s.toUInt32 &&& Int32.toUInt32 31)).toInt32) &&& (255 : Int32)).toInt ∧ (((a.toUInt32 >>> (s.toUInt32 &&& Int32.toUInt32 31)).toInt32) &&& (255 : Int32)).toInt ≤ 255) ∧ vp_nar .byte (a >>> t).toInt8.toInt32 = (((a.toUInt32 >>> (s.toUInt32 &&& Int32.toUInt32 31)).toInt32) &&& (255 : Int32)).toInt8.toInt32 := by
  have e1 := pk_ushr a s k hs
  have t1 := ti_tn a
  have hlt : (a.toUInt32 >>> (s.toUInt32 &&& Int32.toUInt32 31)).toInt32.toBitVec.toNat % 2 ^ 8 < 256 := Nat.mod_lt _ (by decide)
  rw [pk_and _ (m := (255 : Int32)) 8 (by decide)]
  rw [nI_toInt (by omega)]
  refine ⟨by omega, ?_⟩
  rw [pk_vb]
  apply Int32.toInt_inj.mp
  rw [Int8.toInt_toInt32, Int32.toInt_toInt8, Int8.toInt_toInt32, Int32.toInt_toInt8, pk_shr _ _ k ht, Int.shiftRight_eq_div_pow, nI_toInt (by omega), e1, Int.bmod, Int.bmod]
  rcases hp with hp | hp | hp | hp
  · rw [hp]; omega
  · rw [hp]; omega
  · rw [hp]; omega
  · rw [hp]; omega
theorem byt4 (a : Int32) {y : Int32} (h0 : 0 ≤ y.toInt) (h3 : y.toInt ≤ 3) : (0 ≤ (((a.toUInt32 >>> (((8 : Int32) * y).toUInt32 &&& Int32.toUInt32 31)).toInt32) &&& (255 : Int32)).toInt ∧ (((a.toUInt32 >>> (((8 : Int32) * y).toUInt32 &&& Int32.toUInt32 31)).toInt32) &&& (255 : Int32)).toInt ≤ 255) ∧ vp_nar .byte (a >>> (((8 : Int32) * y) &&& 31)).toInt8.toInt32 = (((a.toUInt32 >>> (((8 : Int32) * y).toUInt32 &&& Int32.toUInt32 31)).toInt32) &&& (255 : Int32)).toInt8.toInt32 := by
  rcases (show y.toInt = 0 ∨ y.toInt = 1 ∨ y.toInt = 2 ∨ y.toInt = 3 by omega) with e | e | e | e
  · obtain rfl : y = 0 := Int32.toInt_inj.mp e
    exact byt a 0 (by decide) (by decide) (by decide) (by decide)
  · obtain rfl : y = (1 : Int32) := Int32.toInt_inj.mp e
    exact byt a 8 (by decide) (by decide) (by decide) (by decide)
  · obtain rfl : y = (2 : Int32) := Int32.toInt_inj.mp e
    exact byt a 16 (by decide) (by decide) (by decide) (by decide)
  · obtain rfl : y = (3 : Int32) := Int32.toInt_inj.mp e
    exact byt a 24 (by decide) (by decide) (by decide) (by decide)
theorem feedL {a a2 : Int32} : ∀ (m m' : Nat) (S M : tt_St) (y : Int32), RR S M → -1 ≤ y.toInt → y.toInt ≤ 3 → (S 3 1).toInt + (y.toInt + 1) ≤ 120 → y.toInt + 1 < m → y.toInt + 1 < m' → PS (f6_feed_L39 a a2 m S y) (f7_feed_L39 a a2 m' M y) := by
  intro m
  induction m with
  | zero => intro m' S M y h a b c d; exact absurd d (by omega)
  | succ m ih =>
    intro m' S M y h y0 y3 hc hm hm'
    rcases m' with _ | m'
    · exact absurd hm' (by omega)
    rw [f6_feed_L39, f7_feed_L39]
    dsimp only
    obtain ⟨t1, t2, t3⟩ := h.2.2.1
    by_cases c : y < 0
    · rw [if_pos c, if_pos c]; exact PS_mk t1 h
    rw [if_neg c, if_neg c]
    have h0 := int_nn c
    obtain ⟨b1, b2⟩ := byt4 a h0 y3
    rw [b2]
    generalize (((a.toUInt32 >>> (((8 : Int32) * y).toUInt32 &&& Int32.toUInt32 31)).toInt32) &&& (255 : Int32)) = u at *
    have ey : (y + (-1 : Int32)).toInt = y.toInt - 1 := by
      have e : (-1 : Int32).toInt = -1 := rfl
      rw [lp_add (by rw [e]; omega) (by rw [e]; omega), e]; omega
    unfold f4_put
    dsimp only
    rw [t1] at hc ⊢
    rw [if_neg (show ¬ (120 : Int32) ≤ M 0 6 by rw [lp_le, show (120 : Int32).toInt = 120 from rfl]; omega)]
    have q := cl_int t2.1
    have e1 : tt_up S 5 (M 0 6).toNatClampNeg u 3 1 = M 0 6 := (tt_up_ne (by omega)).trans t1
    have e2 : tt_up M 5 (M 0 6).toNatClampNeg u.toInt8.toInt32 0 6 = M 0 6 := tt_up_ne (by omega)
    rw [e1, e2]
    have i1 : (M 0 6 + (1 : Int32)).toInt = (M 0 6).toInt + 1 := by rw [lp_add (by rw [lp_1]; omega) (by rw [lp_1]; omega), lp_1]
    refine ih m' _ _ _ (RR_tape h (fun n a b => by rw [tt_up_row a, tt_up_row b]) (fun k hk => by rw [tt_up_ne (by omega), tt_up_ne (by omega)]) (fun n a b => by rw [tt_up_row a, tt_up_row b]) (fun k hk => by rw [tt_up_ne (by omega), tt_up_ne (by omega)]) ⟨?_, ?_, fun i hi => ?_⟩) (by omega) (by omega) ?_ (by omega) (by omega)
    · rw [tt_up_self, tt_up_self]
    · rw [tt_up_self]; omega
    · rw [tt_up_self] at hi
      have q2 := cl_int (x := M 0 6 + (1 : Int32)) (by omega)
      rw [show ∀ v, tt_up (tt_up S 5 (M 0 6).toNatClampNeg u) 3 1 v 5 = tt_up S 5 (M 0 6).toNatClampNeg u 5 from fun v => tt_up_row (by decide), show ∀ v, tt_up (tt_up M 5 (M 0 6).toNatClampNeg u.toInt8.toInt32) 0 6 v 5 = tt_up M 5 (M 0 6).toNatClampNeg u.toInt8.toInt32 5 from fun v => tt_up_row (by decide)]
      by_cases e : i = (M 0 6).toNatClampNeg
      · subst e
        rw [tt_up_self, tt_up_self]; exact ⟨b1, rfl⟩
      · rw [tt_up_ne (by omega), tt_up_ne (by omega)]; exact t3 i (by omega)
    · rw [tt_up_self]; omega
theorem p_feed {S M : tt_St} (a b : Int32) (h : RR S M) : PS (f6_feed S a b) (f7_feed M a b) := by
  have v := @wi_in7 b (1 : Int32) (4 : Int32) (1 : Int64) (4 : Int64) rfl rfl
  obtain ⟨t1, t2, t3⟩ := h.2.2.1
  unfold f6_feed f7_feed
  dsimp only
  by_cases c : f6_within b (1 : Int32) (4 : Int32) = 0
  · rw [if_pos c, if_pos (v.mp c)]; exact tell_sim h (by unfold vp_in; decide)
  rw [if_neg c, if_neg (fun z => c (v.mpr z)), t1]
  by_cases c2 : M 0 6 + b ≤ (120 : Int32)
  · rw [if_pos c2, if_pos c2]
    have hb := wi_iff.mp c
    rw [lp_1, show (4 : Int32).toInt = 4 from rfl] at hb
    rw [lp_le, lp_add (by omega) (by omega), show (120 : Int32).toInt = 120 from rfl] at c2
    have ey : (b - (1 : Int32)).toInt = b.toInt - 1 := by rw [lp_sub (by rw [lp_1]; omega) (by rw [lp_1]; omega), lp_1]
    exact feedL _ _ _ _ _ h (by omega) (by omega) (by rw [t1]; omega) (by omega) (by rw [lp_k_eq]; omega)
  · rw [if_neg c2, if_neg c2]; exact tell_sim h (by unfold vp_in; decide)
