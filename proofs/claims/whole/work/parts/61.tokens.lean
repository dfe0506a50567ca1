/-! the text: bytes and tokens on both sides -/
/-- a byte as the class and as the reference hold it; -1 behind the end -/
def bv (u v : Int32) : Prop := (u = (-1 : Int32) ∧ v = (-1 : Int32)) ∨ ((0 ≤ u.toInt ∧ u.toInt ≤ 255) ∧ v = u.toInt8.toInt32)
theorem bv_int {u v : Int32} (h : bv u v) : (-1 ≤ u.toInt ∧ u.toInt ≤ 255) ∧ ((u.toInt ≤ 127 ∧ v.toInt = u.toInt) ∨ (128 ≤ u.toInt ∧ v.toInt = u.toInt - 256)) := by
  rcases h with ⟨rfl, rfl⟩ | ⟨h1, rfl⟩
  · exact ⟨by decide, Or.inl (by decide)⟩
  · rw [Int8.toInt_toInt32, Int32.toInt_toInt8, Int.bmod]
    omega
theorem bv_eq {u v c : Int32} (h : bv u v) (hc : 0 ≤ c.toInt ∧ c.toInt ≤ 127) : u = c ↔ v = c := by
  have b := bv_int h
  constructor
  · intro e
    exact Int32.toInt_inj.mp (by rw [e] at b; omega)
  · intro e
    exact Int32.toInt_inj.mp (by rw [e] at b; omega)
theorem isl_iff {u : Int32} : ¬ f5_isLetter u = 0 ↔ 97 ≤ u.toInt ∧ u.toInt ≤ 122 := by
  unfold f5_isLetter
  have e1 : (97 : Int32).toInt = 97 := rfl
  have e2 : (122 : Int32).toInt = 122 := rfl
  by_cases c1 : u < (97 : Int32)
  · rw [if_pos c1]
    rw [lp_lt] at c1
    exact ⟨fun h => absurd rfl h, fun h => by omega⟩
  rw [if_neg c1]
  by_cases c2 : (122 : Int32) < u
  · rw [if_pos c2]
    rw [lp_lt] at c2
    exact ⟨fun h => absurd rfl h, fun h => by omega⟩
  rw [if_neg c2]
  rw [lp_lt] at c1 c2
  exact ⟨fun _ => by omega, fun _ => by decide⟩
theorem ltr_int {v : Int32} : (97 ≤ v.toInt ∧ v.toInt ≤ 122 → (f7_letter v).toInt = v.toInt - 96) ∧ (¬ (97 ≤ v.toInt ∧ v.toInt ≤ 122) → f7_letter v = 0) := by
  unfold f7_letter
  have e1 : (97 : Int32).toInt = 97 := rfl
  have e2 : (122 : Int32).toInt = 122 := rfl
  by_cases c1 : v < (97 : Int32)
  · rw [if_pos c1]
    rw [lp_lt] at c1
    exact ⟨fun h => by omega, fun _ => rfl⟩
  rw [if_neg c1]
  by_cases c2 : (122 : Int32) < v
  · rw [if_pos c2]
    rw [lp_lt] at c2
    exact ⟨fun h => by omega, fun _ => rfl⟩
  rw [if_neg c2]
  rw [lp_lt] at c1 c2
  have es : (v - (97 : Int32)).toInt = v.toInt - 97 := by rw [lp_sub (by omega) (by omega), e1]
  exact ⟨fun h => by rw [lp_add (by rw [lp_1]; omega) (by rw [lp_1]; omega), es, lp_1]; omega, fun h => absurd (by omega) h⟩
theorem dig_iff {u : Int32} : ¬ f5_isDigit u = 0 ↔ 48 ≤ u.toInt ∧ u.toInt ≤ 57 := by
  unfold f5_isDigit
  have e1 : (48 : Int32).toInt = 48 := rfl
  have e2 : (57 : Int32).toInt = 57 := rfl
  by_cases c1 : u < (48 : Int32)
  · rw [if_pos c1]
    rw [lp_lt] at c1
    exact ⟨fun h => absurd rfl h, fun h => by omega⟩
  rw [if_neg c1]
  by_cases c2 : (57 : Int32) < u
  · rw [if_pos c2]
    rw [lp_lt] at c2
    exact ⟨fun h => absurd rfl h, fun h => by omega⟩
  rw [if_neg c2]
  rw [lp_lt] at c1 c2
  exact ⟨fun _ => by omega, fun _ => by decide⟩
theorem dig7 {v : Int32} : f7_isDigit v = f5_isDigit v := rfl
theorem bv_l {u v : Int32} (h : bv u v) : f5_isLetter u = 0 ↔ f7_letter v ≤ 0 := by
  have b := bv_int h
  have i := @isl_iff u
  obtain ⟨l1, l2⟩ := @ltr_int v
  constructor
  · intro e
    have n : ¬ (97 ≤ v.toInt ∧ v.toInt ≤ 122) := fun z => (i.mpr (by omega)) e
    rw [l2 n]
    decide
  · intro e
    refine Classical.byContradiction fun z => ?_
    have := i.mp z
    have q := l1 (by omega)
    rw [lp_le, lp_0] at e
    omega
theorem bv_l1 {u v : Int32} (h : bv u v) (e : ¬ f5_isLetter u = 0) : (97 ≤ u.toInt ∧ u.toInt ≤ 122) ∧ (f7_letter v).toInt = u.toInt - 96 := by
  have b := bv_int h
  have i := (@isl_iff u).mp e
  exact ⟨i, by rw [(@ltr_int v).1 (by omega)]; omega⟩
theorem bv_d {u v : Int32} (h : bv u v) : f5_isDigit u = 0 ↔ f7_isDigit v = 0 := by
  have b := bv_int h
  have i := @dig_iff u
  have j := @dig_iff v
  rw [dig7]
  constructor
  · intro e
    refine Classical.byContradiction fun z => ?_
    have := j.mp z
    exact (i.mpr (by omega)) e
  · intro e
    refine Classical.byContradiction fun z => ?_
    have := i.mp z
    exact (j.mpr (by omega)) e
theorem bv_d1 {u v : Int32} (h : bv u v) (e : ¬ f5_isDigit u = 0) : (48 ≤ u.toInt ∧ u.toInt ≤ 57) ∧ v.toInt = u.toInt := by
  have b := bv_int h
  have i := (@dig_iff u).mp e
  exact ⟨i, by omega⟩
/-- the byte at a place, on both sides -/
theorem bv_at {T X : tt_St} {p : Int32} (h : TP T X) (hp : 0 ≤ p.toInt) : bv (f5_byteAt T p) (f7_byteAt X p) ∧ ((X 0 6).toInt ≤ p.toInt → f5_byteAt T p = (-1 : Int32)) ∧ (p.toInt < (X 0 6).toInt → f5_byteAt T p = T 5 p.toNatClampNeg ∧ 0 ≤ (f5_byteAt T p).toInt) := by
  obtain ⟨t1, t2, t3⟩ := h
  unfold f5_byteAt f7_byteAt
  rw [if_neg (nn_int hp), t1]
  have q := cl_int hp
  have q6 := cl_int t2.1
  by_cases c : X 0 6 ≤ p
  · rw [if_pos c, if_pos c]
    rw [lp_le] at c
    exact ⟨Or.inl ⟨rfl, rfl⟩, fun _ => rfl, fun z => by omega⟩
  · rw [if_neg c, if_neg c]
    rw [lp_le] at c
    obtain ⟨a, b⟩ := t3 p.toNatClampNeg (by omega)
    exact ⟨Or.inr ⟨a, b⟩, fun z => absurd z (by omega), fun _ => ⟨rfl, a.1⟩⟩
/-- the value of letters, as far as it is counted -/
def cw (f : Nat → Int) (s : Nat) : Nat → Int
  | 0 => 0
  | j + 1 => if cw f s j ≤ 100000000000 then cw f s j * 27 + f (s + j) else cw f s j
def lt5 (T : tt_St) : Nat → Int := fun j => (T 5 j).toInt - 96
theorem gt_v {V : Int64} {c : Int64} : lg_cmp V c ≤ 0 ↔ V.toInt ≤ c.toInt := by
  have h := in_gt V c
  rw [lp_lt, lp_0] at h
  rw [lp_le, lp_0]
  omega
theorem l64 {V c : Int64} {d : Int32} (h0 : 0 ≤ V.toInt ∧ V.toInt ≤ 100000000000) (hc : 0 ≤ c.toInt ∧ c.toInt ≤ 27) (hd : 0 ≤ d.toInt ∧ d.toInt ≤ 255) : (V * c + d.toInt64).toInt = V.toInt * c.toInt + d.toInt := by
  have m1 := Int.mul_le_mul h0.2 hc.2 hc.1 (show (0 : Int) ≤ 100000000000 by omega)
  have m2 := Int.mul_nonneg h0.1 hc.1
  rw [Int64.toInt_add, Int64.toInt_mul, Int32.toInt_toInt64]
  rw [Int.bmod_eq_of_le (n := V.toInt * c.toInt) (by omega) (by omega)]
  rw [Int.bmod_eq_of_le (by omega) (by omega)]
/-- nothing but where the class's token ends -/
def only (k0 : Nat) (T T' : tt_St) : Prop := ∀ n k : Nat, ¬ (n = 3 ∧ (k = 4 ∨ k = k0)) → T' n k = T n k
theorem only_TP {k0 : Nat} {T T' X X' : tt_St} (h : TP T X) (hk : k0 ≠ 1) (o : only k0 T T') (e0 : X' 0 6 = X 0 6) (e5 : X' 5 = X 5) : TP T' X' :=
  TP_cong h (o 3 1 (by omega)) (funext fun k => o 5 k (by omega)) e0 e5
theorem lettersL {s : Nat} : ∀ (m m' : Nat) (T X : tt_St) (V : Int64), TP T X → mt X → T 3 4 = X 0 13 → s ≤ (X 0 13).toNatClampNeg → lp_mu (X 0 6) (X 0 13) < m → lp_mu (X 0 6) (X 0 13) < m' → (∀ j : Nat, s ≤ j → j < (X 0 13).toNatClampNeg → 97 ≤ (T 5 j).toInt ∧ (T 5 j).toInt ≤ 122) → V.toInt = cw (lt5 T) s ((X 0 13).toNatClampNeg - s) → (0 ≤ V.toInt ∧ V.toInt ≤ 2800000000000) →
    only 4 T (f5_passLetters_L0 m T) ∧ (f5_passLetters_L0 m T) 3 4 = (f7_next_L103 m' X V).1 0 13 ∧ (∀ j : Nat, s ≤ j → j < ((f7_next_L103 m' X V).1 0 13).toNatClampNeg → 97 ≤ (T 5 j).toInt ∧ (T 5 j).toInt ≤ 122) ∧ (f7_next_L103 m' X V).2.toInt = cw (lt5 T) s (((f7_next_L103 m' X V).1 0 13).toNatClampNeg - s) ∧ f5_isLetter (f5_byteAt T ((f7_next_L103 m' X V).1 0 13)) = 0 := by
  intro m
  induction m with
  | zero => intro m' T X V _ _ _ _ hm; exact absurd hm (Nat.not_lt_zero _)
  | succ m ih =>
    intro m' T X V hT hX e4 hs hm hm' hl hV hb
    rcases m' with _ | m'
    · exact absurd hm' (Nat.not_lt_zero _)
    rw [f5_passLetters_L0, f7_next_L103]
    dsimp only
    rw [hT.1, e4]
    obtain ⟨x1, x2, x3, x4⟩ := id hX
    obtain ⟨b1, b2, b3⟩ := bv_at hT x1
    by_cases c : X 0 6 ≤ X 0 13
    · rw [lp_le] at c
      have e := b2 c
      have z : f5_isLetter (f5_byteAt T (X 0 13)) = 0 := by rw [e]; decide
      rw [if_pos (by rw [lp_le]; exact c), if_pos ((bv_l b1).mp z)]
      exact ⟨fun _ _ _ => rfl, e4, hl, hV, z⟩
    rw [if_neg c]
    by_cases z : f5_isLetter (f5_byteAt T (X 0 13)) = 0
    · rw [if_pos z, if_pos ((bv_l b1).mp z)]
      exact ⟨fun _ _ _ => rfl, e4, hl, hV, z⟩
    rw [if_neg z, if_neg (fun q => z ((bv_l b1).mpr q))]
    obtain ⟨l1, l2⟩ := bv_l1 b1 z
    have c2 := c
    rw [lp_le] at c2
    obtain ⟨b3, b4⟩ := b3 (by omega)
    have hc := lp_cl1 (mt_at hX) c
    have hq := cl_int x1
    have step : ∀ V' : Int64, V'.toInt = cw (lt5 T) s ((X 0 13).toNatClampNeg + 1 - s) → (0 ≤ V'.toInt ∧ V'.toInt ≤ 2800000000000) →
      only 4 T (f5_passLetters_L0 m (tt_up T 3 4 (X 0 13 + (1 : Int32)))) ∧ (f5_passLetters_L0 m (tt_up T 3 4 (X 0 13 + (1 : Int32)))) 3 4 = (f7_next_L103 m' (tt_up X 0 13 (X 0 13 + (1 : Int32))) V').1 0 13 ∧ (∀ j : Nat, s ≤ j → j < ((f7_next_L103 m' (tt_up X 0 13 (X 0 13 + (1 : Int32))) V').1 0 13).toNatClampNeg → 97 ≤ (T 5 j).toInt ∧ (T 5 j).toInt ≤ 122) ∧ (f7_next_L103 m' (tt_up X 0 13 (X 0 13 + (1 : Int32))) V').2.toInt = cw (lt5 T) s (((f7_next_L103 m' (tt_up X 0 13 (X 0 13 + (1 : Int32))) V').1 0 13).toNatClampNeg - s) ∧ f5_isLetter (f5_byteAt T ((f7_next_L103 m' (tt_up X 0 13 (X 0 13 + (1 : Int32))) V').1 0 13)) = 0 := by
      intro V' hV' hb'
      have o1 : only 4 T (tt_up T 3 4 (X 0 13 + (1 : Int32))) := fun n k hk => tt_up_ne (by omega)
      have e5 : tt_up T 3 4 (X 0 13 + (1 : Int32)) 5 = T 5 := tt_up_row (by decide)
      have e13 : tt_up X 0 13 (X 0 13 + (1 : Int32)) 0 13 = X 0 13 + (1 : Int32) := tt_up_self _ _ _ _
      have e6 : tt_up X 0 13 (X 0 13 + (1 : Int32)) 0 6 = X 0 6 := tt_up_ne (by omega)
      have T1 : TP (tt_up T 3 4 (X 0 13 + (1 : Int32))) (tt_up X 0 13 (X 0 13 + (1 : Int32))) := only_TP hT (by decide) o1 e6 (tt_up_row (by decide))
      have lt : lt5 (tt_up T 3 4 (X 0 13 + (1 : Int32))) = lt5 T := by unfold lt5; rw [e5]
      have g := ih m' (tt_up T 3 4 (X 0 13 + (1 : Int32))) (tt_up X 0 13 (X 0 13 + (1 : Int32))) V' T1 (mt_inc hX c).1 (by rw [tt_up_self, e13]) (by rw [e13, hc.1]; omega) (by rw [e6, e13]; exact lp_dec' c hm) (by rw [e6, e13]; exact lp_dec' c hm') (fun j j1 j2 => by
        rw [e13, hc.1] at j2
        rw [e5]
        by_cases e : j = (X 0 13).toNatClampNeg
        · rw [e, ← b3]; exact l1
        · exact hl j j1 (by omega)) (by rw [lt, e13, hc.1]; exact hV') hb'
      rw [lt, e5] at g
      obtain ⟨g1, g2, g3, g4, g5⟩ := g
      refine ⟨fun n k hk => (g1 n k hk).trans (o1 n k hk), g2, g3, g4, ?_⟩
      have eb : ∀ p : Int32, f5_byteAt (tt_up T 3 4 (X 0 13 + (1 : Int32))) p = f5_byteAt T p := fun p => by
        unfold f5_byteAt
        rw [e5, tt_up_ne (by omega)]
      rw [eb] at g5
      exact g5
    have ew : (X 0 13).toNatClampNeg + 1 - s = ((X 0 13).toNatClampNeg - s) + 1 := by omega
    have ef : lt5 T (s + ((X 0 13).toNatClampNeg - s)) = (f5_byteAt T (X 0 13)).toInt - 96 := by
      unfold lt5
      rw [show s + ((X 0 13).toNatClampNeg - s) = (X 0 13).toNatClampNeg by omega, b3]
    have e11 : (100000000000 : Int64).toInt = 100000000000 := rfl
    have e27 : (27 : Int64).toInt = 27 := rfl
    have b5 := (bv_int b1).1.2
    by_cases d : lg_cmp V (100000000000 : Int64) ≤ 0
    · rw [if_pos d]
      rw [gt_v, e11] at d
      have el : (V * (27 : Int64) + (f7_letter (f7_byteAt X (X 0 13))).toInt64).toInt = V.toInt * 27 + (f7_letter (f7_byteAt X (X 0 13))).toInt := by
        rw [l64 ⟨hb.1, d⟩ (by rw [e27]; omega) (by omega), e27]
      refine step _ ?_ (by omega)
      rw [ew, cw, if_pos (by omega), ef, el, hV, l2]
    · rw [if_neg d]
      rw [gt_v, e11] at d
      refine step _ ?_ hb
      rw [ew, cw, if_neg (by omega)]
      exact hV
