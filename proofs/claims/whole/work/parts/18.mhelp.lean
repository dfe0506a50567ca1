/-! feed, week, status, sheets: numbers -/
theorem fe_m {a y z : Int32} (e : z = f7_in a.toInt64 (1 : Int64) (4 : Int64)) (h : ¬ z = 0) (ey : y = a - (1 : Int32)) : (y.toInt + 1).toNat < 5 := by
  rw [e, in_iffI] at h
  have h1 : (1 : Int64).toInt = 1 := rfl
  have h4 : (4 : Int64).toInt = 4 := rfl
  rw [ey, lp_sub (by rw [lp_1]; omega) (by rw [lp_1]; omega), lp_1]
  omega
theorem fe_0 {S : tt_St} {a y z : Int32} (hp : mi S) (e : z = f7_in a.toInt64 (1 : Int64) (4 : Int64)) (h : ¬ z = 0) (c : (S 0 6) + a ≤ (120 : Int32)) (ey : y = a - (1 : Int32)) : (y.toInt ≤ 3) ∧ 0 ≤ (S 0 6).toInt ∧ (S 0 6).toInt + y.toInt < 120 ∧ -1 ≤ y.toInt := by
  rw [e, in_iffI] at h
  have h1 : (1 : Int64).toInt = 1 := rfl
  have h4 : (4 : Int64).toInt = 4 := rfl
  have h120 : (120 : Int32).toInt = 120 := rfl
  have ht := int_nn hp.2.1.1
  have ht2 := hp.2.1.2
  rw [lp_le, lp_add (by omega) (by omega), h120] at c
  rw [ey, lp_sub (by rw [lp_1]; omega) (by rw [lp_1]; omega), lp_1]
  omega
theorem fe_in {S : tt_St} {y : Int32} (hI : (y.toInt ≤ 3) ∧ 0 ≤ (S 0 6).toInt ∧ (S 0 6).toInt + y.toInt < 120 ∧ -1 ≤ y.toInt) (c : ¬ y < 0) : vp_in (S 0 6) 120 := by
  have := int_nn c
  rw [vp_in_iff]
  omega
theorem fe_mu {y : Int32} {n : Nat} (h3 : y.toInt ≤ 3) (c : ¬ y < 0) (hm : (y.toInt + 1).toNat < n + 1) : ((y + (-1 : Int32)).toInt + 1).toNat < n := by
  have := int_nn c
  rw [lp_m1 this]
  omega
theorem fe_step {S : tt_St} {y v : Int32} {k : Nat} (hI : (y.toInt ≤ 3) ∧ 0 ≤ (S 0 6).toInt ∧ (S 0 6).toInt + y.toInt < 120 ∧ -1 ≤ y.toInt) (c : ¬ y < 0) :
    ((y + (-1 : Int32)).toInt ≤ 3) ∧ 0 ≤ ((tt_up (tt_up S 5 k v) 0 6 ((tt_up S 5 k v) 0 6 + (1 : Int32))) 0 6).toInt ∧ ((tt_up (tt_up S 5 k v) 0 6 ((tt_up S 5 k v) 0 6 + (1 : Int32))) 0 6).toInt + (y + (-1 : Int32)).toInt < 120 ∧ -1 ≤ (y + (-1 : Int32)).toInt := by
  have := int_nn c
  rw [tt_up_self, tt_up_ne (by omega), lp_m1 this, lp_add (by rw [lp_1]; omega) (by rw [lp_1]; omega), lp_1]
  omega
theorem wk_lt {S : tt_St} {a : Int32} (h : mi S) (c : a < S 1 11) : a.toInt < 20 := by
  have := h.2.2.2.1.1
  rw [lp_lt] at c
  omega
theorem st_in {a z : Int32} (e : z = f7_in a.toInt64 (-1 : Int64) (6 : Int64)) (h : ¬ z = 0) (c : 0 ≤ a) : vp_in a 7 := by
  rw [e, in_iffI] at h
  have h6 : (6 : Int64).toInt = 6 := rfl
  rw [lp_le, lp_0] at c
  rw [vp_in_iff]
  omega
theorem wr_in {S : tt_St} {a i z : Int32} (hp : mi S) (ha : vp_in a 4) (e : z = f7_in i.toInt64 (0 : Int64) (((S 7 a.toNatClampNeg) - (1 : Int32)).toInt64)) (h : ¬ z = 0) : vp_in i 40 := by
  have hs := hp.2.2.1 _ (lp_cl ha)
  have h0 := int_nn hs.1
  have h1 := hs.2
  rw [e, in_iffI, Int32.toInt_toInt64, lp_sub (by rw [lp_1]; omega) (by rw [lp_1]; omega), lp_1] at h
  have e0 : (0 : Int64).toInt = 0 := rfl
  rw [vp_in_iff]
  omega
/-- what a copy's bounds say -/
theorem cp_b {S : tt_St} {a f n : Int32} (hp : mi S) (ha : vp_in a 4) (hf : ¬ f < 0) (hn : ¬ n < 0) (c : ¬ 0 < lg_cmp (f.toInt64 + n.toInt64) ((S 7 a.toNatClampNeg).toInt64)) : 0 ≤ f.toInt ∧ 0 ≤ n.toInt ∧ f.toInt + n.toInt ≤ 40 := by
  have hs := (hp.2.2.1 _ (lp_cl ha)).2
  have h1 := int_nn hf
  have h2 := int_nn hn
  have r1 := lp_rng f
  have r2 := lp_rng n
  rw [in_gt, Int32.toInt_toInt64, Int64.toInt_add, Int32.toInt_toInt64, Int32.toInt_toInt64, Int.bmod_eq_of_le (by omega) (by omega)] at c
  omega
theorem cp_i {a f n y : Int32} (ha : vp_in a 4) (h : 0 ≤ f.toInt ∧ 0 ≤ n.toInt ∧ f.toInt + n.toInt ≤ 40) (h0 : ¬ y < 0) (c : ¬ n ≤ y) : vp_in ((((40 : Int32) * a) + f) + y) 160 := by
  have := int_nn h0
  rw [lp_le] at c
  exact nm_in2 ha h.1 this (by omega)
theorem cp_j {f n y : Int32} (h : 0 ≤ f.toInt ∧ 0 ≤ n.toInt ∧ f.toInt + n.toInt ≤ 40) (h0 : ¬ y < 0) (c : ¬ n ≤ y) : vp_in y 40 := by
  have := int_nn h0
  rw [lp_le] at c
  rw [vp_in_iff]
  omega
theorem cp_le {x : Int32} (h : x ≤ 0) : ¬ 0 < x := by
  rw [lp_le, lp_0] at h
  rw [lp_lt, lp_0]
  omega
