/-! the text: words and numbers on both sides -/
def wv (w : Nat → Int) : Nat → Int
  | 0 => 0
  | j + 1 => wv w j * 27 + w j
theorem wv_nn {w : Nat → Int} : ∀ (k : Nat), (∀ j : Nat, j < k → 1 ≤ w j ∧ w j ≤ 26) → 0 ≤ wv w k := by
  intro k
  induction k with
  | zero => intro _; exact Int.le_refl _
  | succ k ih =>
    intro h
    have := ih (fun j hj => h j (by omega))
    have := h k (by omega)
    rw [wv]
    omega
theorem cw_nn {f : Nat → Int} {s : Nat} : ∀ (n : Nat), (∀ j : Nat, j < n → 1 ≤ f (s + j) ∧ f (s + j) ≤ 26) → 0 ≤ cw f s n := by
  intro n
  induction n with
  | zero => intro _; exact Int.le_refl _
  | succ n ih =>
    intro h
    have := ih (fun j hj => h j (by omega))
    have := h n (by omega)
    rw [cw]
    by_cases c : cw f s n ≤ 100000000000
    · rw [if_pos c]; omega
    · rw [if_neg c]; omega
/-- letters have the value of a short word only if they are its letters -/
theorem cw_iff {f w : Nat → Int} {s : Nat} : ∀ (k n : Nat), (∀ j : Nat, j < n → 1 ≤ f (s + j) ∧ f (s + j) ≤ 26) → (∀ j : Nat, j < k → 1 ≤ w j ∧ w j ≤ 26) → wv w k ≤ 100000000000 → (cw f s n = wv w k ↔ n = k ∧ ∀ j : Nat, j < k → f (s + j) = w j) := by
  intro k
  induction k with
  | zero =>
    intro n hf hw hb
    rcases n with _ | n
    · exact ⟨fun _ => ⟨rfl, fun j hj => absurd hj (Nat.not_lt_zero _)⟩, fun _ => rfl⟩
    · have h0 := cw_nn n (fun j hj => hf j (by omega))
      have h1 := hf n (by omega)
      constructor
      · intro h
        rw [cw, wv] at h
        by_cases c : cw f s n ≤ 100000000000
        · rw [if_pos c] at h; omega
        · rw [if_neg c] at h; omega
      · intro h; omega
  | succ k ih =>
    intro n hf hw hb
    have w0 := wv_nn k (fun j hj => hw j (by omega))
    have w1 := hw k (by omega)
    rw [wv] at hb
    rcases n with _ | n
    · constructor
      · intro h
        rw [cw, wv] at h
        omega
      · intro h; omega
    · have h0 := cw_nn n (fun j hj => hf j (by omega))
      have h1 := hf n (by omega)
      have g := ih n (fun j hj => hf j (by omega)) (fun j hj => hw j (by omega)) (by omega)
      rw [cw, wv]
      by_cases c : cw f s n ≤ 100000000000
      · rw [if_pos c]
        constructor
        · intro h
          obtain ⟨g1, g2⟩ := g.mp (by omega)
          refine ⟨by omega, fun j hj => ?_⟩
          by_cases e : j = k
          · subst e; subst g1; omega
          · exact g2 j (by omega)
        · rintro ⟨g1, g2⟩
          have e := g.mpr ⟨by omega, fun j hj => g2 j (by omega)⟩
          have e2 := g2 k (by omega)
          have : n = k := by omega
          subst this
          omega
      · rw [if_neg c]
        constructor
        · intro h; omega
        · rintro ⟨g1, g2⟩
          have e := g.mpr ⟨by omega, fun j hj => g2 j (by omega)⟩
          omega
/-- a word's letters -/
def wl (i : Nat) : Nat → Int := fun j => ((tt_byt.getD i []).getD j 0).toInt - 96
/-- a word's value, in the class's order -/
def wval (i : Nat) : Int64 := [(99233 : Int64), 6411708, 2549464462, 7554780, 249, 11088176, 6936588, 8863997, 12089, 380741, 8930039, 6564179, 286880, 2505138292, 116794].getD i 0
theorem wd_all : ∀ i : Nat, i < 15 → (wval i).toInt = wv (wl i) (tt_len.getD i 0) ∧ ∀ j : Nat, j < 7 → j < tt_len.getD i 0 → (1 ≤ wl i j ∧ wl i j ≤ 26) ∧ (tt_ch i (nI j)).toInt = wl i j + 96 := by decide +kernel
theorem wd_le : ∀ i : Nat, i < 15 → (wval i).toInt ≤ 100000000000 ∧ 1 ≤ tt_len.getD i 0 ∧ tt_len.getD i 0 ≤ 7 := by decide +kernel
theorem iwL {T X : tt_St} {i : Nat} (hT : TP T X) (hi : i < 15) (h0 : 0 ≤ (T 3 3).toInt) (hl : (T 3 3).toInt + tt_len.getD i 0 ≤ (X 0 6).toInt) : ∀ (m : Nat) (y : Int32), ¬ y < 0 → lp_mu (nI (tt_len.getD i 0)) y < m → (¬ f5_isWord_L28 T i m y = 0 ↔ ∀ j : Nat, y.toNatClampNeg ≤ j → j < tt_len.getD i 0 → (T 5 ((T 3 3).toNatClampNeg + j)).toInt - 96 = wl i j) := by
  have h7 := (wd_le i hi).2.2
  have len := hT.2.1
  intro m
  induction m with
  | zero => intro y _ hm; exact absurd hm (Nat.not_lt_zero _)
  | succ m ih =>
    intro y hy hm
    rw [f5_isWord_L28]
    dsimp only
    have y0 := int_nn hy
    have yq := cl_int y0
    have el : (nI (tt_len.getD i 0)).toInt = (tt_len.getD i 0 : Nat) := nI_toInt (by omega)
    by_cases c : nI (tt_len.getD i 0) ≤ y
    · rw [if_pos c]
      rw [lp_le, el] at c
      exact ⟨fun _ j h1 h2 => by omega, fun _ => by decide⟩
    rw [if_neg c]
    have c2 := c
    rw [lp_le, el] at c2
    have hc := lp_cl1 hy c
    have es : (T 3 3 + y).toInt = (T 3 3).toInt + y.toInt := lp_add (by omega) (by omega)
    obtain ⟨b1, b2, b3⟩ := bv_at (p := T 3 3 + y) hT (by omega)
    obtain ⟨b3, b4⟩ := b3 (by omega)
    have ecl : (T 3 3 + y).toNatClampNeg = (T 3 3).toNatClampNeg + y.toNatClampNeg := by
      have := cl_int (x := T 3 3) h0
      exact cl_eq (by omega)
    rw [b3, ecl]
    obtain ⟨w1, w2⟩ := (wd_all i hi).2 y.toNatClampNeg (by omega) (by omega)
    have ey : nI y.toNatClampNeg = y := Int32.toInt_inj.mp (by rw [nI_toInt (by omega)]; omega)
    rw [ey] at w2
    have g := ih (y + (1 : Int32)) (lp_nn hy c) (lp_dec' c hm)
    rw [hc.1] at g
    by_cases d : T 5 ((T 3 3).toNatClampNeg + y.toNatClampNeg) = tt_ch i y
    · rw [if_pos d, g]
      constructor
      · intro h j h1 h2
        by_cases e : j = y.toNatClampNeg
        · subst e; rw [d, w2]; omega
        · exact h j (by omega) h2
      · intro h j h1 h2
        exact h j (by omega) h2
    · rw [if_neg d]
      constructor
      · intro h; exact absurd rfl h
      · intro h
        exfalso
        apply d
        have := h y.toNatClampNeg (Nat.le_refl _) (by omega)
        exact Int32.toInt_inj.mp (by omega)
theorem lg0 (x y : Int64) : lg_cmp x y = 0 ↔ x.toInt = y.toInt := by
  unfold lg_cmp
  by_cases h1 : x > y
  · rw [if_pos h1]
    have h2 : y.toInt < x.toInt := Int64.lt_iff_toInt_lt.mp h1
    exact ⟨fun h => absurd h (by decide), fun h => by omega⟩
  · rw [if_neg h1]
    by_cases h3 : x = y
    · rw [if_pos h3, h3]; exact ⟨fun _ => rfl, fun _ => rfl⟩
    · rw [if_neg h3]
      exact ⟨fun h => absurd h (by decide), fun h => absurd (Int64.toInt_inj.mp h) h3⟩
/-- a word is taken on one side if on the other -/
theorem word_sim {T X : tt_St} {V w : Int64} {i : Nat} (hT : TP T X) (h : tk T X V) (hi : i < 15) (hw : wval i = w) : f5_isWord T i = 0 ↔ f7_isWord X V w = 0 := by
  obtain ⟨k1, k2, k3, k4, k5, k6, k7⟩ := h
  have h7 := wd_le i hi
  have len := hT.2.1
  unfold f5_isWord f7_isWord
  dsimp only
  rw [k1]
  by_cases c : X 0 14 = (1 : Int32)
  · rw [if_pos c, if_pos c]
    obtain ⟨l1, l2⟩ := k6 c
    have el : (nI (tt_len.getD i 0)).toInt = (tt_len.getD i 0 : Nat) := nI_toInt (by omega)
    have q3 := cl_int (x := T 3 3) k3.1
    have q4 := cl_int (x := T 3 4) (by omega)
    have es : (T 3 4 - T 3 3).toInt = (T 3 4).toInt - (T 3 3).toInt := lp_sub (by omega) (by omega)
    have hf : ∀ j : Nat, j < (T 3 4).toNatClampNeg - (T 3 3).toNatClampNeg → 1 ≤ lt5 T ((T 3 3).toNatClampNeg + j) ∧ lt5 T ((T 3 3).toNatClampNeg + j) ≤ 26 := fun j hj => by
      have := l1 ((T 3 3).toNatClampNeg + j) (by omega) (by omega)
      unfold lt5
      omega
    have e := cw_iff (f := lt5 T) (w := wl i) (s := (T 3 3).toNatClampNeg) (tt_len.getD i 0) ((T 3 4).toNatClampNeg - (T 3 3).toNatClampNeg) hf (fun j hj => ((wd_all i hi).2 j (by omega) hj).1) (by rw [← (wd_all i hi).1]; exact h7.1)
    rw [← l2, ← (wd_all i hi).1, hw] at e
    have ev : (if lg_cmp V w = 0 then (1 : Int32) else (0 : Int32)) = 0 ↔ ¬ V.toInt = w.toInt := by
      rw [← lg0]
      by_cases z : lg_cmp V w = 0
      · rw [if_pos z]; exact ⟨fun q => absurd q (by decide), fun q => absurd z q⟩
      · rw [if_neg z]; exact ⟨fun _ => z, fun _ => rfl⟩
    rw [ev, e]
    by_cases d : T 3 4 - T 3 3 = nI (tt_len.getD i 0)
    · rw [if_pos d]
      have d2 : (T 3 4).toInt - (T 3 3).toInt = (tt_len.getD i 0 : Nat) := by rw [← es, d, el]
      have g := iwL hT hi k3.1 (by omega) (lp_mu (nI (tt_len.getD i 0)) 0 + 1) (0 : Int32) (by decide) (Nat.lt_succ_self _)
      constructor
      · rintro z ⟨z1, z2⟩
        exact g.mpr (fun j _ hj => z2 j hj) z
      · intro z
        refine Classical.byContradiction fun q => z ⟨by omega, fun j hj => ?_⟩
        exact g.mp q j (Nat.zero_le _) hj
    · rw [if_neg d]
      refine ⟨fun _ => ?_, fun _ => rfl⟩
      rintro ⟨z1, z2⟩
      apply d
      exact Int32.toInt_inj.mp (by rw [es, el]; omega)
  · rw [if_neg c, if_neg c]
