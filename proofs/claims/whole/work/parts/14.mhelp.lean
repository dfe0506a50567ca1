theorem why_0 (S : tt_St) (x : Int32) : f7_why S (0 : Int32) x = 0 := by
  unfold f7_why
  rw [if_pos rfl]
theorem bk_le {y : Int32} (h : y.toInt ≤ 19) (c : ¬ y ≤ 0) : (y + (-1 : Int32)).toInt ≤ 19 := by
  rw [lp_le, lp_0] at c
  rw [lp_m1 (by omega)]
  omega
theorem bk_mu {y : Int32} {n : Nat} (c : ¬ y ≤ 0) (h : y.toNatClampNeg < n + 1) : (y + (-1 : Int32)).toNatClampNeg < n := by
  rw [lp_le, lp_0] at c
  have e := lp_m1 (y := y) (by omega)
  have h1 := cl_int (x := y) (by omega)
  have h2 := cl_int (x := y + (-1 : Int32)) (by omega)
  omega
theorem bk_sz {S : tt_St} {y u v : Int32} (h : y.toInt ≤ 19) (c : ¬ y ≤ 0) : (tt_up (tt_up S 1 ((82 : Int32) + ((2 : Int32) * y)).toNatClampNeg u) 1 (((82 : Int32) + ((2 : Int32) * y)) + (1 : Int32)).toNatClampNeg v) 1 0 = S 1 0 := by
  rw [lp_le, lp_0] at c
  obtain ⟨e1, e2, e3, e4⟩ := bk_int (y := y) (by omega) h
  have z1 := cl_int (x := (82 : Int32) + ((2 : Int32) * y)) (by omega)
  have z4 := cl_int (x := ((82 : Int32) + ((2 : Int32) * y)) + (1 : Int32)) (by omega)
  exact (fm_tr (fm_up S u (ma_c (by omega))) (fm_up _ v (ma_c (by omega)))).sz
theorem bk_in110 {y : Int32} (h : y.toInt ≤ 19) (c : ¬ y ≤ 0) : vp_in (((82 : Int32) + ((2 : Int32) * y)) - (2 : Int32)) 132 := by
  rw [lp_le, lp_0] at c
  obtain ⟨e1, e2, e3, e4⟩ := bk_int (y := y) (by omega) h
  rw [vp_in_iff]; omega
theorem bk_in111 {y : Int32} (h : y.toInt ≤ 19) (c : ¬ y ≤ 0) : vp_in ((82 : Int32) + ((2 : Int32) * y)) 132 := by
  rw [lp_le, lp_0] at c
  obtain ⟨e1, e2, e3, e4⟩ := bk_int (y := y) (by omega) h
  rw [vp_in_iff]; omega
theorem bk_in136 {y : Int32} (h : y.toInt ≤ 19) (c : ¬ y ≤ 0) : vp_in (((82 : Int32) + ((2 : Int32) * y)) - (1 : Int32)) 132 := by
  rw [lp_le, lp_0] at c
  obtain ⟨e1, e2, e3, e4⟩ := bk_int (y := y) (by omega) h
  rw [vp_in_iff]; omega
theorem bk_in137 {y : Int32} (h : y.toInt ≤ 19) (c : ¬ y ≤ 0) : vp_in (((82 : Int32) + ((2 : Int32) * y)) + (1 : Int32)) 132 := by
  rw [lp_le, lp_0] at c
  obtain ⟨e1, e2, e3, e4⟩ := bk_int (y := y) (by omega) h
  rw [vp_in_iff]; omega
theorem dv_ne {x : Int32} (h : ¬ x = 0) : ¬ x.toInt64 = 0 := by
  intro z
  apply h
  apply Int32.toInt_inj.mp
  have := congrArg Int64.toInt z
  rw [Int32.toInt_toInt64] at this
  exact this
theorem nn_of {x : Int32} (h : ¬ x < 0) : ∃ a : Nat, a < 2 ^ 31 ∧ x = nI a := nI_of h
theorem gc_eq {x y : Int32} (hx : ¬ x < 0) (hy : ¬ y < 0) (c : ¬ y = 0) : ∃ a b : Nat, a < 2 ^ 31 ∧ b < 2 ^ 31 ∧ 0 < b ∧ x = nI a ∧ y = nI b ∧ x - x / y * y = nI (a % b) := by
  obtain ⟨a, ha, rfl⟩ := nI_of hx
  obtain ⟨b, hb, rfl⟩ := nI_of hy
  have hb0 : 0 < b := by
    rcases Nat.eq_zero_or_pos b with z | z
    · subst z; exact absurd nI_0 c
    · exact z
  exact ⟨a, b, ha, hb, hb0, rfl, rfl, pk_rem ha hb0 hb⟩
theorem gc_nn {x y : Int32} (hx : ¬ x < 0) (hy : ¬ y < 0) (c : ¬ y = 0) : ¬ x - x / y * y < 0 := by
  obtain ⟨a, b, ha, hb, h0, -, -, e⟩ := gc_eq hx hy c
  rw [e]
  exact nI_pos (Nat.lt_trans (Nat.mod_lt a h0) hb)
theorem gc_mu {x y : Int32} {n : Nat} (hx : ¬ x < 0) (hy : ¬ y < 0) (c : ¬ y = 0) (hn : y.toNatClampNeg < n + 1) : (x - x / y * y).toNatClampNeg < n := by
  obtain ⟨a, b, ha, hb, h0, -, ey, e⟩ := gc_eq hx hy c
  have hm := Nat.mod_lt a h0
  rw [e, nI_clamp (Nat.lt_trans hm hb)]
  rw [ey, nI_clamp hb] at hn
  omega
/-- what holds of the reference's cells between calls, as far as its own steps need it -/
def mi (S : tt_St) : Prop := (¬ S 1 0 < 0 ∧ (S 1 0).toInt ≤ 10) ∧ (¬ S 0 6 < 0 ∧ (S 0 6).toInt ≤ 120) ∧ (∀ k : Nat, k < 4 → ¬ S 7 k < 0 ∧ (S 7 k).toInt ≤ 40) ∧ ((S 1 11).toInt ≤ 20 ∧ ∀ k : Nat, k < 40 → 0 ≤ (S 1 (82 + k)).toInt ∧ (S 1 (82 + k)).toInt ≤ 1000000) ∧ ∀ k : Nat, k < 10 → (S 1 (122 + k)).toInt < 10
section LIT
variable {p : Program} {l : Launch} {e : Env} {R : Room} {s : State} {m : MethodId} {args : Array Value} {below : List Frame} {meth : Method} {c : Code} {H : Heap} {locs : List Loc} {cells slots : Nat} {Q : State → Prop}
variable {cc : ByteArray} {pc nL : Nat} {ls : Array Slot} {rest : List Value} {own : String} {G : tt_G} {S : tt_St} {V : Int64} {n : Nat}
theorem g_ialdL {σ : Type} {N : Nat} {ad : Nat → Nat} {cell : σ → Nat → va_E} {T : σ} (X : CallFix p m c cc nL s args tt_T own) (K : tt_K G s) (hw : g_W G N ad cell T s H locs) (hn : n < N) {k : Nat} {f : Nat → Int32} (he : cell T n = .inl (G.2.1 0, k, .inl f)) {i : Int32} (hi : vp_in i k) {j : Nat} (hj : i.toNatClampNeg = j) (hdg : decode cc pc = .ok (.iaload, 1))
    (kk : W p l e R s m args below meth c H locs cells slots Q (F0 m (pc + 1) ls (.int (f j) :: rest))) : W p l e R s m args below meth c H locs cells slots Q (F0 m pc ls (.int i :: .ref (ad n) :: rest)) := by
  subst hj
  exact g_iald X K hw hn he hi hdg kk
theorem m_iastL (X : CallFix p m c cc nL s args tt_T own) (K : tt_K G s) (hw : m_W G S V s H locs) (h1 : 1 ≤ n) (h2 : n < 10) {k : Nat} (he : ∀ S : tt_St, mm_cell G (S, V) n = .inl (G.2.1 0, k, .inl (S n))) {i x : Int32} (hi : vp_in i k) {j : Nat} (hj : i.toNatClampNeg = j) (hdg : decode cc pc = .ok (.iastore, 1))
    (kk : ∀ (S2 : tt_St) (H1 : Heap) (locs1 : List Loc), S2 = tt_up S n j x → m_W G S2 V s H1 locs1 → W p l e R s m args below meth c H1 locs1 cells slots Q (F0 m (pc + 1) ls rest)) : W p l e R s m args below meth c H locs cells slots Q (F0 m pc ls (.int x :: .int i :: .ref (mm_ad G n) :: rest)) := by
  subst hj
  exact m_iast X K hw h1 h2 he hi hdg kk
end LIT
theorem bo_X7_in {a b c : Int64} {x : Int32} (h : x = f7_in a b c) : x = 0 ∨ x = 1 := by
  subst h
  unfold f7_in
  repeat' split
  all_goals first | exact Or.inl rfl | exact Or.inr rfl
