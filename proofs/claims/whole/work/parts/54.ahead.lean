/-! ahead: both sides -/
/-- the reference's row goes on, its copy behind it -/
def bx (M X : tt_St) : Prop := (∀ k : Nat, k < 132 → X 2 k = M 1 k) ∧ (∀ n : Nat, 3 ≤ n → X n = M n) ∧ ∀ k : Nat, k ≠ 7 → k ≠ 8 → X 0 k = M 0 k
theorem bx_0 (M : tt_St) : bx M (f7_begins M) := ⟨fun k hk => bg_at hk, fun n hn => bg_row (by omega), fun k _ _ => congrFun (bg_row (by decide)) k⟩
theorem bx_up {M X : tt_St} {k : Nat} {v : Int32} (h : bx M X) : bx M (tt_up X 1 k v) := ⟨fun j hj => by rw [tt_up_row (by decide)]; exact h.1 j hj, fun n hn => by rw [tt_up_row (by omega)]; exact h.2.1 n hn, fun j a b => by rw [tt_up_row (by decide)]; exact h.2.2 j a b⟩
theorem bx_fm {M X Y : tt_St} (h : bx M X) (f : mm_fr X Y) : bx M Y := ⟨fun j hj => by rw [f.row (by decide) (by decide)]; exact h.1 j hj, fun n hn => by rw [f.row (by omega) (by omega)]; exact h.2.1 n hn, fun j a b => by rw [f 0 j (by omega) (fun _ => ⟨a, b⟩)]; exact h.2.2 j a b⟩
theorem bx_mf {M X : tt_St} (h : bx M X) : mf M (f7_ends X) := ⟨fun k hk => by rw [en_at hk]; exact h.1 k hk, fun n a b => by rw [en_row (by omega)]; exact h.2.1 n a, by rw [en_row (by decide)]; exact h.2.2 3 (by omega) (by omega), by rw [en_row (by decide)]; exact h.2.2 6 (by omega) (by omega), by rw [en_row (by decide)]; exact h.2.2 15 (by omega) (by omega)⟩
/-- a trial under way -/
def TR (n : Nat) (B : Int) (S M T X : tt_St) : Prop := tf S T ∧ bx M X ∧ rel 2 T 1 X ∧ dN n B X
theorem TR_0 {S M : tt_St} (h : RR S M) : TR (M 1 0).toNatClampNeg (891 * (M 1 7).toInt) S M (f2_takeRoom S 2 0) (f7_begins M) ∧ f7_begins M 1 = M 1 ∧ f2_takeRoom S 2 0 2 9 = S 0 9 := by
  have hR := h.1
  have hn := okR_n hR.2.2.2
  have e1 : f7_begins M 1 = M 1 := bg_row (by decide)
  have e0 := hR.1 0 (by omega)
  refine ⟨⟨tf_take S 0, bx_0 M, fun k hk => ?_, dN_cong (okR_dN hR.2.2.2) (fun k _ => congrFun e1 k)⟩, e1, tk_lo (by decide) (by decide)⟩
  rw [e1] at hk ⊢
  rw [tk_at (by decide), e0]
  by_cases c : k ≤ 10
  · rw [if_pos c]; exact hR.1 k hk
  · rw [if_neg c, if_pos (by omega)]; exact hR.1 k hk
theorem TR_go {n : Nat} {B : Int} {S M T X : tt_St} {a : Int32} (h : TR n B S M T X) (ha : 0 ≤ a.toInt) (hd : (X 1 7).toInt + a.toInt ≤ 20000) (hB : B + 891 * a.toInt ≤ 800000000) :
    (f2_goDays T 2 a).1 = (f7_goesOn X a).1 ∧ TR n (B + 891 * a.toInt) S M (f2_goDays T 2 a).2 (f7_goesOn X a).2 ∧ (f2_goDays T 2 a).2 2 9 = (f7_goesOn X a).2 0 8 + T 2 9 ∧ ((f7_goesOn X a).2 1 7).toInt = (X 1 7).toInt + a.toInt ∧ (0 ≤ (f7_goesOn X a).1.toInt ∧ (f7_goesOn X a).1.toInt ≤ 99990) := by
  obtain ⟨h1, h2, h3, h4⟩ := h
  have hr := dN_room h4
  obtain ⟨d1, d2, d3, d4, d5, d6, d7⟩ := days_sim (r := 2) (b := False) (by omega) h3 (fun z => z.elim) h4 ha hd hB
  exact ⟨d1, ⟨tf_tr h1 (tf_go T a), bx_fm h2 (fm_goesOn a (by omega)), d2, d5⟩, d4, d6, d7⟩
theorem TR_end {n : Nat} {B : Int} {S M T X : tt_St} (h : RR S M) (t : TR n B S M T X) : RR T (f7_ends X) := RR_keep h t.1 (bx_mf t.2.1)
theorem TR_up {n k : Nat} {B : Int} {S M T X : tt_St} {v : Int32} (t : TR n B S M T X) (hk : k ≠ 0) (hd : dN n B (tt_up X 1 k v)) : TR n B S M (tt_up T 2 k v) (tt_up X 1 k v) := ⟨tf_tr t.1 (tf_up T v), bx_up t.2.1, rel_up t.2.2.1 hk, hd⟩
theorem far_le {M : tt_St} {a : Int32} (h7 : 0 ≤ (M 1 7).toInt ∧ (M 1 7).toInt ≤ 9999) (ha : 0 ≤ a.toInt ∧ a.toInt ≤ 1000) (h : f7_isFar M a = 0) : (M 1 7).toInt + a.toInt ≤ 9999 := by
  unfold f7_isFar at h
  by_cases c3 : M 1 7 + a ≤ (9999 : Int32)
  · rw [lp_le, lp_add (by omega) (by omega), show (9999 : Int32).toInt = 9999 from rfl] at c3
    exact c3
  · rw [if_neg c3] at h
    exact absurd h (by decide)
theorem why_1 {M : tt_St} {g a : Int32} (hg : ¬ g = 0) : f7_why M g a = if f7_isFar M a = 0 then (-1 : Int32) else (4 : Int32) := by
  unfold f7_why
  dsimp only
  rw [if_neg hg]
theorem day_b {S M : tt_St} (h : RR S M) : 0 ≤ (M 1 7).toInt ∧ (M 1 7).toInt ≤ 9999 := ⟨(dN_room (okR_dN h.1.2.2.2)).2.2.2.2.2.1, h.1.2.2.2.2.1⟩
theorem p_ahead {S M : tt_St} (a b : Int32) (h : RR S M) : PS (f6_ahead S a b) (f7_ahead M a b) := by
  have hR := h.1
  have hn := okR_n hR.2.2.2
  have v := @wi_in7 a (0 : Int32) (100 : Int32) (0 : Int64) (100 : Int64) rfl rfl
  have v2 := @wi_in7 b (0 : Int32) (5 : Int32) (0 : Int64) (5 : Int64) rfl rfl
  unfold f6_ahead f7_ahead
  dsimp only
  by_cases c : f6_within a (0 : Int32) (100 : Int32) = 0
  · rw [if_pos c, if_pos (v.mp c)]; exact tell_sim h (by unfold vp_in; decide)
  rw [if_neg c, if_neg (fun z => c (v.mpr z))]
  by_cases c2 : f6_within b (0 : Int32) (5 : Int32) = 0
  · rw [if_pos c2, if_pos (v2.mp c2)]; exact tell_sim h (by unfold vp_in; decide)
  rw [if_neg c2, if_neg (fun z => c2 (v2.mpr z)), far7 h, why_1 (by decide)]
  by_cases c3 : f7_isFar M a = 0
  · have ha := wi_iff.mp c
    rw [lp_0, show (100 : Int32).toInt = 100 from rfl] at ha
    have hd := far_le (day_b h) (by omega) c3
    obtain ⟨t0, e1, e9⟩ := TR_0 h
    have h7 := day_b h
    obtain ⟨g1, g2, g3, g4, g5⟩ := TR_go (a := a) t0 ha.1 (by rw [e1]; omega) (by omega)
    have gE := TR_end h g2
    rw [if_pos c3, if_pos c3, if_pos (show (-1 : Int32) < 0 from by decide)]
    have s0 : (f2_goDays (f2_takeRoom S 2 0) 2 a).2 0 = S 0 := g2.1 0 (by decide) (by decide) (by decide)
    have x2 := g2.2.1.1 8 (by omega)
    have hr2 := dN_room g2.2.2.2
    have rl := g2.2.2.1
    have e8 := hR.1 8 (by omega)
    rw [e9] at g3
    generalize f2_goDays (f2_takeRoom S 2 0) 2 a = dS at *
    generalize f7_goesOn (f7_begins M) a = dM at *
    have es := sr_sum rl (by omega) (by have := cl_eq hr2.1.1; omega) (j := (4 : Int32)) (by unfold vp_in; decide)
    by_cases b0 : b = 0
    · rw [if_pos b0, if_pos b0]; exact PS_mk (rl 4 (by omega)) gE
    rw [if_neg b0, if_neg b0]
    by_cases b1 : b = (1 : Int32)
    · rw [if_pos b1, if_pos b1, g3, s0, Int32.add_sub_cancel]; exact PS_mk rfl gE
    rw [if_neg b1, if_neg b1]
    by_cases b2 : b = (2 : Int32)
    · rw [if_pos b2, if_pos b2]; exact PS_mk es gE
    rw [if_neg b2, if_neg b2]
    by_cases b3 : b = (3 : Int32)
    · rw [if_pos b3, if_pos b3, s0, x2, e8, rl 8 (by omega)]; exact PS_mk rfl gE
    rw [if_neg b3, if_neg b3]
    by_cases b4 : b = (4 : Int32)
    · rw [if_pos b4, if_pos b4]; exact PS_mk g1 gE
    · rw [if_neg b4, if_neg b4]; exact PS_mk (rl 6 (by omega)) gE
  · rw [if_neg c3, if_neg c3, if_neg (show ¬ (4 : Int32) < 0 from by decide)]; exact tell_sim h (by unfold vp_in; decide)
/-- a monday, with a told LAST -/
theorem TR_mon {n : Nat} {B : Int} {S M T X : tt_St} {a : Int32} (t : TR n B S M T X) : TR n B S M (tt_up (f2_beginMonday T 2) 2 6 a) (f7_monday X a) ∧ f7_monday X a 1 7 = 0 := by
  obtain ⟨h1, h2, h3, h4⟩ := t
  have hr := dN_room h4
  have hc := cl_eq hr.1.1
  have h10 := hr.1.2
  have eT : f2_beginMonday T 2 = tt_upR (tt_up T 2 7 (0 : Int32)) 2 (zf (tt_up T 2 7 (0 : Int32) 2) 0 n) :=
    zbw _ _ (0 : Int32) (by rw [tt_up_ne (by omega), h3 0 (by omega)]; exact hr.1.1) (by decide) (Nat.lt_succ_self _)
  have e0 : tt_up (tt_up (tt_up X 1 6 a) 1 7 (0 : Int32)) 1 9 (0 : Int32) 1 0 = X 1 0 := by rw [tt_up_ne (by omega), tt_up_ne (by omega), tt_up_ne (by omega)]
  have eX : f7_monday X a = tt_upR (tt_up (tt_up (tt_up X 1 6 a) 1 7 (0 : Int32)) 1 9 (0 : Int32)) 1 (zf (tt_up (tt_up (tt_up X 1 6 a) 1 7 (0 : Int32)) 1 9 (0 : Int32) 1) 0 n) :=
    zmon hr.1.2 a _ _ (0 : Int32) (by rw [e0]; exact hr.1.1) (by decide) (Nat.lt_succ_self _)
  have xo : ∀ k : Nat, k ≠ 6 → k ≠ 7 → k ≠ 9 → ¬ ((12 + 7 * 0 ≤ k ∧ k < 12 + 7 * n) ∧ ((k - 12) % 7 = 5 ∨ (k - 12) % 7 = 6)) → f7_monday X a 1 k = X 1 k := fun k a1 a2 a3 a4 => by
    rw [eX, tt_upR_self, zf_out a4, tt_up_ne (by omega), tt_up_ne (by omega), tt_up_ne (by omega)]
  have x7 : f7_monday X a 1 7 = 0 := by rw [eX, tt_upR_self, zf_out (by omega), tt_up_ne (by omega), tt_up_self]
  have x6 : f7_monday X a 1 6 = a := by rw [eX, tt_upR_self, zf_out (by omega), tt_up_ne (by omega), tt_up_ne (by omega), tt_up_self]
  have x9 : f7_monday X a 1 9 = 0 := by rw [eX, tt_upR_self, zf_out (by omega), tt_up_self]
  have xz : ∀ k : Nat, ((12 + 7 * 0 ≤ k ∧ k < 12 + 7 * n) ∧ ((k - 12) % 7 = 5 ∨ (k - 12) % 7 = 6)) → f7_monday X a 1 k = 0 := fun k a1 => by
    rw [eX, tt_upR_self, zf_in a1]
  have fm := fm_monday (S := X) a (by omega)
  refine ⟨⟨tf_tr (tf_tr h1 (tf_fr (fr_beginMonday T 2))) (tf_up _ _), bx_fm h2 fm, fun k hk => ?_, dN_intro ⟨?_, ?_, ?_, ?_, ?_, ?_, ?_⟩ (fun d hd => ?_) ?_⟩, x7⟩
  · rw [fm.sz, hc] at hk
    by_cases c6 : k = 6
    · subst c6; rw [tt_up_self, x6]
    rw [tt_up_ne (by omega), eT, tt_upR_self]
    by_cases cz : (12 + 7 * 0 ≤ k ∧ k < 12 + 7 * n) ∧ ((k - 12) % 7 = 5 ∨ (k - 12) % 7 = 6)
    · rw [zf_in cz, xz k cz]
    · rw [zf_out cz]
      by_cases c7 : k = 7
      · subst c7; rw [tt_up_self, x7]
      · rw [tt_up_ne (by omega), xo k c6 c7 (by omega) cz]
        exact h3 k (by rw [hc]; exact hk)
  · rw [xo 0 (by omega) (by omega) (by omega) (by omega)]; exact hr.1
  · rw [xo 1 (by omega) (by omega) (by omega) (by omega)]; exact hr.2.1
  · rw [xo 2 (by omega) (by omega) (by omega) (by omega)]; exact hr.2.2.1
  · rw [xo 3 (by omega) (by omega) (by omega) (by omega)]; exact hr.2.2.2.1
  · rw [xo 5 (by omega) (by omega) (by omega) (by omega)]; exact hr.2.2.2.2.1
  · rw [x7]; decide
  · exact bkb_cong hr.2.2.2.2.2.2 (fun k hk => xo k (by omega) (by omega) (by omega) (by omega))
  · have q := dN_dk h4 hd
    have z0 : (0 : Int32).toInt = 0 := rfl
    unfold dk at *
    rw [xo (12 + 7 * d) (by omega) (by omega) (by omega) (by omega), xo (13 + 7 * d) (by omega) (by omega) (by omega) (by omega), xo (14 + 7 * d) (by omega) (by omega) (by omega) (by omega), xo (16 + 7 * d) (by omega) (by omega) (by omega) (by omega), xz (17 + 7 * d) (by omega), xz (18 + 7 * d) (by omega), x7, z0]
    exact ⟨q.1, q.2.1, q.2.2.1, q.2.2.2.1, ⟨by omega, by dsimp only; omega⟩, ⟨by omega, by dsimp only; omega⟩⟩
  · have g := gs_bd (f := f7_monday X a 1) (b := 18) (lo := 0) (hi := 0) (n := n) (fun d hd => by rw [xz (18 + 7 * d) (by omega)]; exact ⟨Int.le_refl _, Int.le_refl _⟩)
    rw [x9, lp_0]
    omega
theorem last_sim {S M : tt_St} {a w w' : Int32} (h : RR S M) (hw : w * (5 : Int32) = w') (h0 : 0 ≤ w'.toInt ∧ w'.toInt ≤ 50) : (f6_lastBehindWeeks S a w).1 = (f7_goesOn (f7_monday (f7_begins M) a) w').2 1 6 ∧ RR (f6_lastBehindWeeks S a w).2 (f7_ends (f7_goesOn (f7_monday (f7_begins M) a) w').2) := by
  obtain ⟨t0, e1, e9⟩ := TR_0 h
  have h7 := day_b h
  obtain ⟨t1, x7⟩ := TR_mon (a := a) t0
  obtain ⟨g1, g2, g3, g4, g5⟩ := TR_go (a := w') t1 h0.1 (by rw [x7, lp_0]; omega) (by omega)
  unfold f6_lastBehindWeeks
  dsimp only
  rw [hw]
  exact ⟨g2.2.2.1 6 (by omega), TR_end h g2⟩
theorem p_tips {S M : tt_St} (a b : Int32) (h : RR S M) : PS (f6_tips S a b) (f7_tips M a b) := by
  have v := @wi_in7 a (0 : Int32) (999 : Int32) (0 : Int64) (999 : Int64) rfl rfl
  have v2 := @wi_in7 b (1 : Int32) (10 : Int32) (1 : Int64) (10 : Int64) rfl rfl
  unfold f6_tips f7_tips
  dsimp only
  by_cases c : f6_within a (0 : Int32) (999 : Int32) = 0
  · rw [if_pos c, if_pos (v.mp c)]; exact tell_sim h (by unfold vp_in; decide)
  rw [if_neg c, if_neg (fun z => c (v.mpr z))]
  by_cases c2 : f6_within b (1 : Int32) (10 : Int32) = 0
  · rw [if_pos c2, if_pos (v2.mp c2)]; exact tell_sim h (by unfold vp_in; decide)
  rw [if_neg c2, if_neg (fun z => c2 (v2.mpr z)), h.1.1 7 (by omega)]
  have hb := wi_iff.mp c2
  rw [lp_1, show (10 : Int32).toInt = 10 from rfl] at hb
  have e5 : (5 : Int32).toInt = 5 := rfl
  have em : ((5 : Int32) * b).toInt = 5 * b.toInt := by rw [lp_mul (by rw [e5]; omega) (by rw [e5]; omega), e5]
  by_cases c3 : M 1 7 ≤ (9940 : Int32)
  · rw [if_pos c3, if_pos c3]
    obtain ⟨g1, g2⟩ := last_sim (a := a) (w := b) (w' := (5 : Int32) * b) h (Int32.mul_comm _ _) (by omega)
    exact PS_mk g1 g2
  · rw [if_neg c3, if_neg c3]; exact tell_sim h (by unfold vp_in; decide)
theorem restL : ∀ (m m' : Nat) (S M : tt_St) (x y : Int32), RR S M → ¬ y < 0 → lp_nu (10 : Int32) y < m → lp_mu (11 : Int32) y < m' → PS (f6_rests_L23 m S x y) (f7_rests_L23 m' M x y) := by
  intro m
  induction m with
  | zero => intro m' S M x y _ _ hm; exact absurd hm (Nat.not_lt_zero _)
  | succ m ih =>
    intro m' S M x y h hy hm hm'
    rcases m' with _ | m'
    · exact absurd hm' (Nat.not_lt_zero _)
    rw [f6_rests_L23, f7_rests_L23]
    dsimp only
    by_cases c : (11 : Int32) ≤ y
    · have c2 : (10 : Int32) < y := by
        rw [lp_lt, show (10 : Int32).toInt = 10 from rfl]
        rw [lp_le, show (11 : Int32).toInt = 11 from rfl] at c
        omega
      rw [if_pos c, if_pos c2]
      exact ⟨rfl, h⟩
    · have c2 : ¬ (10 : Int32) < y := by
        rw [lp_lt, show (10 : Int32).toInt = 10 from rfl]
        rw [lp_le, show (11 : Int32).toInt = 11 from rfl] at c
        omega
      rw [if_neg c, if_neg c2]
      obtain ⟨g1, g2⟩ := last_sim (a := (10 : Int32) * y) (w := (1 : Int32)) (w' := (5 : Int32)) h (by decide) (by decide)
      rw [g1, Int32.or_zero]
      have fin := fun x2 : Int32 => ih m' _ _ x2 (y + (1 : Int32)) g2 (lp_nn hy c) (lp_ndec (by decide) c2 hm) (lp_dec' c hm')
      by_cases d : (f7_goesOn (f7_monday (f7_begins M) ((10 : Int32) * y)) (5 : Int32)).2 1 6 = (10 : Int32) * y
      · rw [if_pos d, if_pos d]; exact fin _
      · rw [if_neg d, if_neg d]; exact fin _
theorem p_rests {S M : tt_St} (h : RR S M) : PS (f6_rests S) (f7_rests M) := by
  unfold f6_rests f7_rests
  dsimp only
  rw [h.1.1 7 (by omega)]
  by_cases c3 : M 1 7 ≤ (9990 : Int32)
  · rw [if_pos c3, if_pos c3]
    exact restL _ _ _ _ _ _ h (by decide) (Nat.lt_succ_self _) (Nat.lt_succ_self _)
  · rw [if_neg c3, if_neg c3]; exact tell_sim h (by unfold vp_in; decide)
