/-! a new drinker; days; what is asked -/
/-- drinker d, made anew -/
def NEWD (S : tt_St) (r d : Nat) (a b p l : Int32) : tt_St := tt_up (tt_up (tt_up (tt_up (tt_up (tt_up (tt_up S r (12 + 7 * d) a) r (13 + 7 * d) b) r (14 + 7 * d) p) r (15 + 7 * d) l) r (16 + 7 * d) 0) r (17 + 7 * d) 0) r (18 + 7 * d) 0
theorem NEWD_row {S : tt_St} {r d n : Nat} {a b p l : Int32} (h : n ≠ r) : NEWD S r d a b p l n = S n := by
  unfold NEWD
  rw [tt_up_row h, tt_up_row h, tt_up_row h, tt_up_row h, tt_up_row h, tt_up_row h, tt_up_row h]
theorem NEWD_ne {S : tt_St} {r d k : Nat} {a b p l : Int32} (h : k < 12 + 7 * d ∨ 19 + 7 * d ≤ k) : NEWD S r d a b p l r k = S r k := by
  unfold NEWD
  rw [tt_up_ne (by omega), tt_up_ne (by omega), tt_up_ne (by omega), tt_up_ne (by omega), tt_up_ne (by omega), tt_up_ne (by omega), tt_up_ne (by omega)]
theorem NEWD_at {S : tt_St} {r d : Nat} {a b p l : Int32} : NEWD S r d a b p l r (12 + 7 * d) = a ∧ NEWD S r d a b p l r (13 + 7 * d) = b ∧ NEWD S r d a b p l r (14 + 7 * d) = p ∧ NEWD S r d a b p l r (15 + 7 * d) = l ∧ NEWD S r d a b p l r (16 + 7 * d) = 0 ∧ NEWD S r d a b p l r (17 + 7 * d) = 0 ∧ NEWD S r d a b p l r (18 + 7 * d) = 0 := by
  unfold NEWD
  refine ⟨?_, ?_, ?_, ?_, ?_, ?_, ?_⟩
  · rw [tt_up_ne (by omega), tt_up_ne (by omega), tt_up_ne (by omega), tt_up_ne (by omega), tt_up_ne (by omega), tt_up_ne (by omega), tt_up_self]
  · rw [tt_up_ne (by omega), tt_up_ne (by omega), tt_up_ne (by omega), tt_up_ne (by omega), tt_up_ne (by omega), tt_up_self]
  · rw [tt_up_ne (by omega), tt_up_ne (by omega), tt_up_ne (by omega), tt_up_ne (by omega), tt_up_self]
  · rw [tt_up_ne (by omega), tt_up_ne (by omega), tt_up_ne (by omega), tt_up_self]
  · rw [tt_up_ne (by omega), tt_up_ne (by omega), tt_up_self]
  · rw [tt_up_ne (by omega), tt_up_self]
  · rw [tt_up_self]
theorem add_nf {S : tt_St} {r : Nat} {a b : Int32} (h0 : 0 ≤ (S r 0).toInt) (h : (S r 0).toInt < 10) : f2_addDrinker S r a b = ((S r 0).toNatClampNeg, tt_up (NEWD S r (S r 0).toNatClampNeg a b (200 : Int32) (20 : Int32)) r 0 (S r 0 + (1 : Int32))) := by
  have e9 : (if (9 : Int32) < S r 0 then (9 : Int32) else S r 0) = S r 0 := if_neg (by rw [lp_lt, show (9 : Int32).toInt = 9 from rfl]; omega)
  have i1 : (S r 0 + (1 : Int32)).toInt = (S r 0).toInt + 1 := by rw [lp_add (by rw [lp_1]; omega) (by rw [lp_1]; omega), lp_1]
  have e10 : (if (10 : Int32) < S r 0 + (1 : Int32) then (10 : Int32) else S r 0 + (1 : Int32)) = S r 0 + (1 : Int32) := if_neg (by rw [lp_lt, show (10 : Int32).toInt = 10 from rfl]; omega)
  unfold f2_addDrinker
  dsimp only
  rw [e9, bg1_0, e10]
  rfl
theorem comes_nf {M : tt_St} {a b p l : Int32} (h0 : 0 ≤ (M 1 0).toInt) (h : (M 1 0).toInt < 10) : f7_comes M a b p l = (M 1 0, tt_up (NEWD M 1 (M 1 0).toNatClampNeg a b p l) 1 0 (M 1 0 + (1 : Int32))) := by
  have hk : vp_in (M 1 0) 10 := by rw [vp_in_iff]; omega
  have ez : NEWD M 1 (M 1 0).toNatClampNeg a b p l 1 0 = M 1 0 := NEWD_ne (by omega)
  have e : f7_becomes (f7_becomes (f7_becomes (f7_becomes (f7_becomes (f7_becomes (f7_becomes M (M 1 0) (0 : Int32) a) (M 1 0) (1 : Int32) b) (M 1 0) (2 : Int32) p) (M 1 0) (3 : Int32) l) (M 1 0) (4 : Int32) (0 : Int32)) (M 1 0) (5 : Int32) (0 : Int32)) (M 1 0) (6 : Int32) (0 : Int32) = NEWD M 1 (M 1 0).toNatClampNeg a b p l := by
    rw [show ∀ T : tt_St, f7_becomes T (M 1 0) (0 : Int32) a = tt_up T 1 (12 + 7 * (M 1 0).toNatClampNeg) a from fun T => bec_0 hk, bec_1 hk, bec_2 hk, bec_3 hk, bec_4 hk, bec_5 hk, bec_6 hk]
    rfl
  unfold f7_comes
  dsimp only
  rw [e, ez]
theorem rel_new {r : Nat} {S M : tt_St} {a b p l : Int32} (h : rel r S 1 M) (h0 : 0 ≤ (M 1 0).toInt) (h10 : (M 1 0).toInt < 10) : rel r (tt_up (NEWD S r (M 1 0).toNatClampNeg a b p l) r 0 (M 1 0 + (1 : Int32))) 1 (tt_up (NEWD M 1 (M 1 0).toNatClampNeg a b p l) 1 0 (M 1 0 + (1 : Int32))) := by
  have i1 : (M 1 0 + (1 : Int32)).toInt = (M 1 0).toInt + 1 := by rw [lp_add (by rw [lp_1]; omega) (by rw [lp_1]; omega), lp_1]
  have c0 := cl_int (x := M 1 0) h0
  have c1 := cl_int (x := M 1 0 + (1 : Int32)) (by omega)
  intro k hk
  rw [tt_up_self] at hk
  by_cases e : k = 0
  · subst e; rw [tt_up_self, tt_up_self]
  rw [tt_up_ne (by omega), tt_up_ne (by omega)]
  by_cases g : k < 12 + 7 * (M 1 0).toNatClampNeg ∨ 19 + 7 * (M 1 0).toNatClampNeg ≤ k
  · rw [NEWD_ne g, NEWD_ne g]
    exact h k (by omega)
  · obtain ⟨j, hj, rfl⟩ : ∃ j : Nat, j < 7 ∧ k = 12 + j + 7 * (M 1 0).toNatClampNeg := ⟨k - 12 - 7 * (M 1 0).toNatClampNeg, by omega, by omega⟩
    have q1 := NEWD_at (S := S) (r := r) (d := (M 1 0).toNatClampNeg) (a := a) (b := b) (p := p) (l := l)
    have q2 := NEWD_at (S := M) (r := 1) (d := (M 1 0).toNatClampNeg) (a := a) (b := b) (p := p) (l := l)
    rcases (show j = 0 ∨ j = 1 ∨ j = 2 ∨ j = 3 ∨ j = 4 ∨ j = 5 ∨ j = 6 by omega) with rfl | rfl | rfl | rfl | rfl | rfl | rfl
    · exact q1.1.trans q2.1.symm
    · exact q1.2.1.trans q2.2.1.symm
    · exact q1.2.2.1.trans q2.2.2.1.symm
    · exact q1.2.2.2.1.trans q2.2.2.2.1.symm
    · exact q1.2.2.2.2.1.trans q2.2.2.2.2.1.symm
    · exact q1.2.2.2.2.2.1.trans q2.2.2.2.2.2.1.symm
    · exact q1.2.2.2.2.2.2.trans q2.2.2.2.2.2.2.symm
theorem dN_new {n : Nat} {B : Int} {M : tt_St} {a b p l : Int32} (h : dN n B M) (hB : 0 ≤ B) (hn : n < 10) (ha : 0 ≤ a.toInt ∧ a.toInt ≤ 6) (hb : 1 ≤ b.toInt ∧ b.toInt ≤ 9) (hp : 0 ≤ p.toInt ∧ p.toInt ≤ 9999) : dN (n + 1) B (tt_up (NEWD M 1 n a b p l) 1 0 (M 1 0 + (1 : Int32))) := by
  have hr := dN_room h
  have i1 : (M 1 0 + (1 : Int32)).toInt = (M 1 0).toInt + 1 := by rw [lp_add (by rw [lp_1]; omega) (by rw [lp_1]; omega), lp_1]
  have e : ∀ k : Nat, k ≠ 0 → (k < 12 + 7 * n ∨ 19 + 7 * n ≤ k) → tt_up (NEWD M 1 n a b p l) 1 0 (M 1 0 + (1 : Int32)) 1 k = M 1 k := fun k h1 h2 => by
    rw [tt_up_ne (by omega), NEWD_ne h2]
  have q := NEWD_at (S := M) (r := 1) (d := n) (a := a) (b := b) (p := p) (l := l)
  have z0 : (0 : Int32).toInt = 0 := rfl
  have q18 : tt_up (NEWD M 1 n a b p l) 1 0 (M 1 0 + (1 : Int32)) 1 (18 + 7 * n) = 0 := by rw [tt_up_ne (by omega)]; exact q.2.2.2.2.2.2
  refine dN_intro ⟨⟨by rw [tt_up_self, i1, hr.1.1]; rfl, by omega⟩, by rw [e 1 (by omega) (by omega)]; exact hr.2.1, by rw [e 2 (by omega) (by omega)]; exact hr.2.2.1, by rw [e 3 (by omega) (by omega)]; exact hr.2.2.2.1, by rw [e 5 (by omega) (by omega)]; exact hr.2.2.2.2.1, by rw [e 7 (by omega) (by omega)]; exact hr.2.2.2.2.2.1, bkb_cong hr.2.2.2.2.2.2 (fun k hk => e k (by omega) (by omega))⟩ (fun d hd => ?_) ?_
  · rw [e 7 (by omega) (by omega)]
    by_cases c : d = n
    · subst c
      have h7 := hr.2.2.2.2.2.1
      unfold dk
      rw [tt_up_ne (by omega), tt_up_ne (by omega), tt_up_ne (by omega), tt_up_ne (by omega), tt_up_ne (by omega), tt_up_ne (by omega), q.1, q.2.1, q.2.2.1, q.2.2.2.2.1, q.2.2.2.2.2.1, q.2.2.2.2.2.2, z0]
      exact ⟨ha, hb, hp, ⟨by omega, hB⟩, ⟨by omega, by dsimp only; omega⟩, ⟨by omega, by dsimp only; omega⟩⟩
    · exact dk_cong (dN_dk h (show d < n by omega)) (fun j hj _ => e _ (by omega) (by omega))
  · rw [e 9 (by omega) (by omega), dN_came h, gs, q18, z0, gs_ext (f := tt_up (NEWD M 1 n a b p l) 1 0 (M 1 0 + (1 : Int32)) 1) (g := M 1) (b := 18) (n := n) (fun d hd => e _ (by omega) (by omega))]
    omega
theorem PS_mk {a b : Int32} {S M : tt_St} (h1 : a = b) (h2 : RR S M) : PS (a, S) (b, M) := ⟨h1, h2⟩
theorem p_drinker {S M : tt_St} (a b : Int32) (h : RR S M) : PS (f6_drinker S a b) (f7_drinker M a b) := by
  have hR := h.1
  have hn := okR_n hR.2.2.2
  have hD := okR_dN hR.2.2.2
  have hr := dN_room hD
  have v0 := @wi_in7 a (0 : Int32) (6 : Int32) (0 : Int64) (6 : Int64) rfl rfl
  have v1 := @wi_in7 b (1 : Int32) (9 : Int32) (1 : Int64) (9 : Int64) rfl rfl
  have e0 := hR.1 0 (by omega)
  unfold f6_drinker f7_drinker
  dsimp only
  by_cases c : f6_within a (0 : Int32) (6 : Int32) = 0
  · rw [if_pos c, if_pos (v0.mp c)]; exact tell_sim h (by unfold vp_in; decide)
  rw [if_neg c, if_neg (fun z => c (v0.mpr z))]
  by_cases c2 : f6_within b (1 : Int32) (9 : Int32) = 0
  · rw [if_pos c2, if_pos (v1.mp c2)]; exact tell_sim h (by unfold vp_in; decide)
  rw [if_neg c2, if_neg (fun z => c2 (v1.mpr z)), e0]
  by_cases c3 : M 1 0 < (10 : Int32)
  · have c4 := c3
    rw [lp_lt, show (10 : Int32).toInt = 10 from rfl] at c4
    rw [if_pos c3, if_neg (fun z => by rw [z, show (10 : Int32).toInt = 10 from rfl] at c4; omega)]
    rw [add_nf (by rw [e0]; omega) (by rw [e0]; omega), comes_nf hn.2.2.1 c4, e0]
    have ha := wi_iff.mp c
    have hb := wi_iff.mp c2
    dsimp only
    refine PS_mk ?_ ?_
    · rw [tt_up_self, Int32.add_sub_cancel]
    · have i1 : (M 1 0 + (1 : Int32)).toInt = (M 1 0).toInt + 1 := by rw [lp_add (by rw [lp_1]; omega) (by rw [lp_1]; omega), lp_1]
      have eM : ∀ k : Nat, k ≠ 0 → (k < 12 ∨ 82 ≤ k) → tt_up (NEWD M 1 (M 1 0).toNatClampNeg a b (200 : Int32) (20 : Int32)) 1 0 (M 1 0 + (1 : Int32)) 1 k = M 1 k := fun k h1 h2 => by
        rw [tt_up_ne (by omega), NEWD_ne (by omega)]
      have eS : ∀ n : Nat, n ≠ 0 → tt_up (NEWD S 0 (M 1 0).toNatClampNeg a b (200 : Int32) (20 : Int32)) 0 0 (M 1 0 + (1 : Int32)) n = S n := fun n h1 => by
        rw [tt_up_row h1, NEWD_row h1]
      have eM2 : ∀ n : Nat, n ≠ 1 → tt_up (NEWD M 1 (M 1 0).toNatClampNeg a b (200 : Int32) (20 : Int32)) 1 0 (M 1 0 + (1 : Int32)) n = M n := fun n h1 => by
        rw [tt_up_row h1, NEWD_row h1]
      refine RR_room h ⟨rel_new hR.1 hn.2.2.1 c4, ⟨?_, fun i hi => ?_⟩, fun i hi => ?_, ?_⟩ (fun n a1 _ _ _ _ _ _ => eS n a1) (fun n a1 _ => eM2 n (by omega)) (congrFun (eM2 0 (by decide)) 3) (congrFun (eM2 0 (by decide)) 6) (congrFun (eM2 0 (by decide)) 15)
      · rw [eM 11 (by omega) (by omega), tt_up_ne (by omega), NEWD_ne (by omega)]; exact hR.2.1.1
      · rw [eS (6 + 0) (by omega), eS (9 + 0) (by omega), eM _ (by omega) (by omega), eM _ (by omega) (by omega)]; exact hR.2.1.2 i hi
      · rw [eS (12 + 0) (by omega), eM _ (by omega) (by omega)]; exact hR.2.2.1 i hi
      · refine okR_of (n := (M 1 0).toNatClampNeg + 1) ?_ (by rw [eM 7 (by omega) (by omega)]; exact hR.2.2.2.2.1) (fun i hi => ?_)
        · rw [eM 7 (by omega) (by omega)]
          exact dN_new hD (by omega) (by omega) ha hb (by decide)
        · have := hR.2.2.2.2.2 i hi
          rw [eM _ (by omega) (by omega), tt_up_self, i1]
          omega
  · rw [if_neg c3, if_pos]
    · exact tell_sim h (by unfold vp_in; decide)
    · rw [lp_lt, show (10 : Int32).toInt = 10 from rfl] at c3
      exact Int32.toInt_inj.mp (by rw [show (10 : Int32).toInt = 10 from rfl]; omega)
theorem p_now {S M : tt_St} (a : Int32) (h : RR S M) : PS (f6_now S a) (f7_now M a) := by
  have hR := h.1
  have hn := okR_n hR.2.2.2
  have su : ∀ j : Int32, vp_in j 7 → f2_sumOf S 0 j = f7_sumOf M j := fun j hj => sr_sum hR.1 hn.2.2.2 hn.2.1 hj
  have t := tell_sim h (k := (0 : Int32)) (by unfold vp_in; decide)
  unfold f6_now f7_now f2_due
  dsimp only
  rw [su 4 (by unfold vp_in; decide), su 2 (by unfold vp_in; decide), su 5 (by unfold vp_in; decide), su 6 (by unfold vp_in; decide), hR.1 7 (by omega), hR.1 4 (by omega), hR.1 3 (by omega), hR.1 6 (by omega), hR.1 1 (by omega), hR.1 8 (by omega)]
  repeat' split
  all_goals first | exact t | exact ⟨rfl, h⟩
theorem p_lacks {S M : tt_St} (h : RR S M) : f6_lacks S = f7_lacks M := by
  have hR := h.1
  have hn := okR_n hR.2.2.2
  have su : ∀ j : Int32, vp_in j 7 → f2_sumOf S 0 j = f7_sumOf M j := fun j hj => sr_sum hR.1 hn.2.2.2 hn.2.1 hj
  unfold f6_lacks f7_lacks f2_due
  dsimp only
  rw [su 4 (by unfold vp_in; decide), su 5 (by unfold vp_in; decide), su 6 (by unfold vp_in; decide), hR.1 1 (by omega)]
theorem p_days {S M : tt_St} (a : Int32) (h : RR S M) : PS (f6_days S a) (f7_days M a) := by
  have hR := h.1
  have hn := okR_n hR.2.2.2
  have hD := okR_dN hR.2.2.2
  have hr := dN_room hD
  have v := @wi_in7 a (1 : Int32) (50 : Int32) (1 : Int64) (50 : Int64) rfl rfl
  unfold f6_days f7_days
  dsimp only
  by_cases c : f6_within a (1 : Int32) (50 : Int32) = 0
  · rw [if_pos c, if_pos (v.mp c)]; exact tell_sim h (by unfold vp_in; decide)
  rw [if_neg c, if_neg (fun z => c (v.mpr z)), far7 h]
  by_cases c2 : f7_isFar M a = 0
  · rw [if_pos c2, if_pos c2]
    have ha := wi_iff.mp c
    rw [lp_1, show (50 : Int32).toInt = 50 from rfl] at ha
    have h99 := hR.2.2.2.2.1
    have hday : (M 1 7).toInt + a.toInt ≤ 9999 := by
      unfold f7_isFar at c2
      by_cases c3 : M 1 7 + a ≤ (9999 : Int32)
      · rw [lp_le, lp_add (by omega) (by omega), show (9999 : Int32).toInt = 9999 from rfl] at c3
        exact c3
      · rw [if_neg c3] at c2
        exact absurd c2 (by decide)
    obtain ⟨d1, d2, d3, d4, d5, d6, d7⟩ := days_sim (r := 0) (b := True) (by omega) hR.1 (fun _ => hR.2.1) hD (a := a) (by omega) (by omega) (by omega)
    have fS := fr_goDays S 0 a
    have fM := fm_goesOn (S := M) a hn.2.2.2
    refine ⟨d1, RR_room h ⟨d2, d3 trivial, fun i hi => ?_, ?_⟩ (fun n a1 a2 a3 a4 a5 a6 a7 => fS.row a1 a2 a3) (fun n a1 a2 => fM.row (by omega) (by omega)) (fM 0 3 (by omega) (by omega)) (fM 0 6 (by omega) (by omega)) (fM 0 15 (by omega) (by omega))⟩
    · rw [fS.row (n := 12 + 0) (by omega) (by omega) (by omega), fM 1 (122 + i) (fun _ => by unfold mm_al; omega) (by omega)]
      exact hR.2.2.1 i hi
    · refine okR_of (n := (M 1 0).toNatClampNeg) (by rw [d6, show 891 * ((M 1 7).toInt + a.toInt) = 891 * (M 1 7).toInt + 891 * a.toInt by omega]; exact d5) (by rw [d6]; exact hday) (fun i hi => ?_)
      rw [fM 1 (122 + i) (fun _ => by unfold mm_al; omega) (by omega), fM.sz]
      exact hR.2.2.2.2.2 i hi
  · rw [if_neg c2, if_neg c2]; exact tell_sim h (by unfold vp_in; decide)
