/-! the reference's reader: where it stands -/
def mt (S : tt_St) : Prop := 0 ≤ (S 0 13).toInt ∧ (S 0 13).toInt ≤ (S 0 6).toInt ∧ (S 0 6).toInt ≤ 120 ∧ 0 ≤ (S 0 15).toInt
def nx_fr (S S' : tt_St) : Prop := ∀ n k : Nat, (n = 0 → k ≠ 13 ∧ k ≠ 14 ∧ k ≠ 15) → S' n k = S n k
theorem nf_rfl (S : tt_St) : nx_fr S S := fun _ _ _ => rfl
theorem nf_tr {S S1 S2 : tt_St} (h1 : nx_fr S S1) (h2 : nx_fr S1 S2) : nx_fr S S2 := fun n k a => (h2 n k a).trans (h1 n k a)
theorem nf_up {k : Nat} (S : tt_St) (v : Int32) (hk : k = 13 ∨ k = 14 ∨ k = 15) : nx_fr S (tt_up S 0 k v) := fun n j a => tt_up_ne (fun h => by have := a h.1; omega)
theorem nx_fr.row {n : Nat} {S S' : tt_St} (h : nx_fr S S') (hn : n ≠ 0) : S' n = S n := funext fun k => h n k (fun z => absurd z hn)
theorem nx_fr.tp {S S' : tt_St} (h : nx_fr S S') : S' 0 6 = S 0 6 := h 0 6 (by omega)
theorem nx_fr.ft {S S' : tt_St} (h : nx_fr S S') : S' 0 17 = S 0 17 := h 0 17 (by omega)
/-- a byte that is there: the place is before the end -/
theorem by_lt {S : tt_St} {x z : Int32} (e : z = f7_byteAt S x) (h : ¬ z = -1) : ¬ S 0 6 ≤ x := by
  intro c
  apply h
  rw [e]
  unfold f7_byteAt
  rw [if_pos c]
theorem by_sp {S : tt_St} {x z : Int32} (e : z = f7_byteAt S x) (h : z = (32 : Int32)) : ¬ S 0 6 ≤ x := by_lt e (by rw [h]; decide)
theorem by_le {S : tt_St} {x z w : Int32} (e : z = f7_byteAt S x) (ew : w = f7_letter z) (h : ¬ w ≤ 0) : ¬ S 0 6 ≤ x := by_lt e (fun q => h (by rw [ew, q]; decide))
theorem by_di {S : tt_St} {x z w : Int32} (e : z = f7_byteAt S x) (ew : w = f7_isDigit z) (h : ¬ w = 0) : ¬ S 0 6 ≤ x := by_lt e (fun q => h (by rw [ew, q]; decide))
theorem mt_inc {S : tt_St} (h : mt S) (c : ¬ S 0 6 ≤ S 0 13) : mt (tt_up S 0 13 ((S 0 13) + (1 : Int32))) ∧ (tt_up S 0 13 ((S 0 13) + (1 : Int32))) 0 13 = (S 0 13) + 1 := by
  have e := lp_inc c
  rw [lp_le] at c
  refine ⟨?_, tt_up_self _ _ _ _⟩
  unfold mt at *
  rw [tt_up_self, tt_up_ne (by omega), tt_up_ne (by omega), e]
  omega
theorem mt_mu {S : tt_St} {n : Nat} (c : ¬ S 0 6 ≤ S 0 13) (hm : lp_mu (S 0 6) (S 0 13) < n + 1) : lp_mu ((tt_up S 0 13 ((S 0 13) + (1 : Int32))) 0 6) ((tt_up S 0 13 ((S 0 13) + (1 : Int32))) 0 13) < n := by
  rw [tt_up_self, tt_up_ne (by omega)]
  exact lp_dec' c hm
theorem mt_up {S : tt_St} {k : Nat} {v : Int32} (h : mt S) (hk : k ≠ 13) (hk2 : k ≠ 6) (hk3 : k ≠ 15) : mt (tt_up S 0 k v) := by
  unfold mt at *
  rw [tt_up_ne (by omega), tt_up_ne (by omega), tt_up_ne (by omega)]
  exact h
theorem mt_15 {S : tt_St} (h : mt S) : mt (tt_up S 0 15 (S 0 13)) := by
  unfold mt at *
  rw [tt_up_ne (by omega), tt_up_ne (by omega), tt_up_self]
  omega
theorem mt_at {S : tt_St} (h : mt S) : ¬ S 0 13 < 0 := nn_int h.1
theorem mt_row1 {S : tt_St} {k : Nat} {v : Int32} (h : mt S) : mt (tt_up S 1 k v) := by
  unfold mt at *
  rw [tt_up_row (by decide)]
  exact h
theorem mt_fr {S S' : tt_St} (h : mt S) (e : S' 0 = S 0) : mt S' := by
  unfold mt at *
  rw [e]
  exact h
/-- what next() leaves: where it stands, what it left alone, how far it came -/
def nx_ok (S S' : tt_St) : Prop := mt S' ∧ nx_fr S S' ∧ (S 0 13).toInt ≤ (S' 0 13).toInt
theorem nx_tr {S S1 S2 : tt_St} (h1 : nx_ok S S1) (h2 : nx_ok S1 S2) : nx_ok S S2 := ⟨h2.1, nf_tr h1.2.1 h2.2.1, Int.le_trans h1.2.2 h2.2.2⟩
theorem nx_1 {S : tt_St} (h : mt S) (c : ¬ S 0 6 ≤ S 0 13) : nx_ok S (tt_up S 0 13 ((S 0 13) + (1 : Int32))) := by
  refine ⟨(mt_inc h c).1, nf_up _ _ (by omega), ?_⟩
  rw [(mt_inc h c).2, lp_inc c]
  omega
theorem nx_1s {S : tt_St} (c : ¬ S 0 6 ≤ S 0 13) : (S 0 13).toInt < ((tt_up S 0 13 ((S 0 13) + (1 : Int32))) 0 13).toInt := by
  rw [tt_up_self, lp_inc c]
  omega
theorem nx_L185 : ∀ (n : Nat) (S : tt_St) (V : Int64), mt S → nx_ok S (f7_next_L185 n S V).1 ∧ (f7_next_L185 n S V).1 0 14 = S 0 14 ∧ (f7_next_L185 n S V).1 0 15 = S 0 15 := by
  intro n
  induction n with
  | zero => intro S V h; exact ⟨⟨h, nf_rfl S, Int.le_refl _⟩, rfl, rfl⟩
  | succ n ih =>
    intro S V h
    rw [f7_next_L185]
    dsimp only
    by_cases c : f7_isDigit (f7_byteAt S (S 0 13)) = 0
    · rw [if_pos c]; exact ⟨⟨h, nf_rfl S, Int.le_refl _⟩, rfl, rfl⟩
    · rw [if_neg c]
      have c2 := by_di rfl rfl c
      have key := fun V => ih _ V (mt_inc h c2).1
      split
      · obtain ⟨a, b, d⟩ := key (((V * (10 : Int64)) + (f7_byteAt S (S 0 13)).toInt64) - (48 : Int64))
        exact ⟨nx_tr (nx_1 h c2) a, by rw [b, tt_up_ne (by omega)], by rw [d, tt_up_ne (by omega)]⟩
      · obtain ⟨a, b, d⟩ := key V
        exact ⟨nx_tr (nx_1 h c2) a, by rw [b, tt_up_ne (by omega)], by rw [d, tt_up_ne (by omega)]⟩
theorem nx_L103 : ∀ (n : Nat) (S : tt_St) (V : Int64), mt S → nx_ok S (f7_next_L103 n S V).1 ∧ (f7_next_L103 n S V).1 0 14 = S 0 14 ∧ (f7_next_L103 n S V).1 0 15 = S 0 15 := by
  intro n
  induction n with
  | zero => intro S V h; exact ⟨⟨h, nf_rfl S, Int.le_refl _⟩, rfl, rfl⟩
  | succ n ih =>
    intro S V h
    rw [f7_next_L103]
    dsimp only
    by_cases c : f7_letter (f7_byteAt S (S 0 13)) ≤ 0
    · rw [if_pos c]; exact ⟨⟨h, nf_rfl S, Int.le_refl _⟩, rfl, rfl⟩
    · rw [if_neg c]
      have c2 := by_le rfl rfl c
      have key := fun V => ih _ V (mt_inc h c2).1
      split
      · obtain ⟨a, b, d⟩ := key ((V * (27 : Int64)) + (f7_letter (f7_byteAt S (S 0 13))).toInt64)
        exact ⟨nx_tr (nx_1 h c2) a, by rw [b, tt_up_ne (by omega)], by rw [d, tt_up_ne (by omega)]⟩
      · obtain ⟨a, b, d⟩ := key V
        exact ⟨nx_tr (nx_1 h c2) a, by rw [b, tt_up_ne (by omega)], by rw [d, tt_up_ne (by omega)]⟩
theorem nx_L185s (n : Nat) (S : tt_St) (V : Int64) (h : mt S) (c : ¬ f7_isDigit (f7_byteAt S (S 0 13)) = 0) : (S 0 13).toInt < ((f7_next_L185 (n + 1) S V).1 0 13).toInt := by
  rw [f7_next_L185]
  dsimp only
  rw [if_neg c]
  have c2 := by_di rfl rfl c
  have key := fun V => (nx_L185 n _ V (mt_inc h c2).1).1.2.2
  have s := nx_1s c2
  split
  · exact Int.lt_of_lt_of_le s (key _)
  · exact Int.lt_of_lt_of_le s (key _)
theorem nx_L103s (n : Nat) (S : tt_St) (V : Int64) (h : mt S) (c : ¬ f7_letter (f7_byteAt S (S 0 13)) ≤ 0) : (S 0 13).toInt < ((f7_next_L103 (n + 1) S V).1 0 13).toInt := by
  rw [f7_next_L103]
  dsimp only
  rw [if_neg c]
  have c2 := by_le rfl rfl c
  have key := fun V => (nx_L103 n _ V (mt_inc h c2).1).1.2.2
  have s := nx_1s c2
  split
  · exact Int.lt_of_lt_of_le s (key _)
  · exact Int.lt_of_lt_of_le s (key _)
theorem by_ne {S : tt_St} {x z : Int32} (e : z = f7_byteAt S x) (h : ¬ z < 0) : ¬ S 0 6 ≤ x := by_lt e (fun q => h (by rw [q]; decide))
theorem nx_up {S : tt_St} {k : Nat} {v : Int32} (h : mt S) (hk : k = 14) : nx_ok S (tt_up S 0 k v) := ⟨mt_up h (by omega) (by omega) (by omega), nf_up _ _ (by omega), by rw [tt_up_ne (by omega)]; exact Int.le_refl _⟩
theorem nx_15 {S : tt_St} (h : mt S) : nx_ok S (tt_up S 0 15 (S 0 13)) := ⟨mt_15 h, nf_up _ _ (by omega), by rw [tt_up_ne (by omega)]; exact Int.le_refl _⟩
theorem bt_14 {S : tt_St} {k : Nat} {v x : Int32} (hk : k = 14 ∨ k = 15) : f7_byteAt (tt_up S 0 k v) x = f7_byteAt S x := by
  unfold f7_byteAt
  rw [tt_up_ne (by omega), tt_up_row (by decide)]
theorem nx_L0 : ∀ (n : Nat) (S : tt_St) (V : Int64), mt S → nx_ok S (f7_next_L0 n S V).1 := by
  intro n
  induction n with
  | zero => intro S V h; exact ⟨h, nf_rfl S, Int.le_refl _⟩
  | succ n ih =>
    intro S V h
    rw [f7_next_L0]
    dsimp only
    split
    · rename_i c
      have c2 := by_sp rfl c
      exact nx_tr (nx_1 h c2) (ih _ _ (mt_inc h c2).1)
    · have h6 := nx_15 h
      split
      · exact nx_tr h6 (nx_up h6.1 rfl)
      · rename_i c1
        split
        · rename_i c3
          have c4 : ¬ (tt_up (tt_up S 0 15 (S 0 13)) 0 14 3) 0 6 ≤ (tt_up (tt_up S 0 15 (S 0 13)) 0 14 3) 0 13 := by
            have c5 := by_lt (S := tt_up S 0 15 (S 0 13)) rfl (by rw [c3]; decide)
            rw [tt_up_ne (by omega), tt_up_ne (by omega)] at *
            exact c5
          exact nx_tr h6 (nx_tr (nx_up h6.1 rfl) (nx_1 (nx_up h6.1 rfl).1 c4))
        · split
          · split
            · exact nx_tr h6 (nx_up h6.1 rfl)
            · exact nx_tr h6 (nx_tr (nx_up h6.1 rfl) (nx_L185 _ _ _ (nx_up h6.1 rfl).1).1)
          · exact nx_tr h6 (nx_tr (nx_up h6.1 rfl) (nx_L103 _ _ _ (nx_up h6.1 rfl).1).1)
theorem nx_next {S : tt_St} (V : Int64) (h : mt S) : nx_ok S (f7_next S V).1 := nx_L0 _ S V h
/-- a token that isn't the end, nor odd, is behind it then -/
theorem nx_s : ∀ (n : Nat) (S : tt_St) (V : Int64), mt S → lp_mu (S 0 6) (S 0 13) < n → (f7_next_L0 n S V).1 0 14 = 1 → (S 0 13).toInt < ((f7_next_L0 n S V).1 0 13).toInt := by
  intro n
  induction n with
  | zero => intro S V h hm; exact absurd hm (Nat.not_lt_zero _)
  | succ n ih =>
    intro S V h hm
    rw [f7_next_L0]
    dsimp only
    have h6 := nx_15 h
    have e13 : (tt_up S 0 15 (S 0 13)) 0 13 = S 0 13 := tt_up_ne (by omega)
    split
    · rename_i c
      have c2 := by_sp rfl c
      intro hs
      exact Int.lt_trans (nx_1s c2) (ih _ _ (mt_inc h c2).1 (mt_mu c2 hm) hs)
    · split
      · intro hs; dsimp only at hs; rw [tt_up_self] at hs; exact absurd hs (by decide)
      · split
        · intro hs; dsimp only at hs; rw [tt_up_ne (by omega), tt_up_self] at hs; exact absurd hs (by decide)
        · split
          · split
            · intro hs; dsimp only at hs; rw [tt_up_self] at hs; exact absurd hs (by decide)
            · intro hs; rw [(nx_L185 _ _ _ (nx_up h6.1 rfl).1).2.1, tt_up_self] at hs; exact absurd hs (by decide)
          · rename_i c5
            intro _
            have s := nx_L103s (lp_mu ((tt_up (tt_up S 0 15 (S 0 13)) 0 14 1) 0 6) ((tt_up (tt_up S 0 15 (S 0 13)) 0 14 1) 0 13)) (tt_up (tt_up S 0 15 (S 0 13)) 0 14 1) 0 (nx_up h6.1 rfl).1 (by
              rw [bt_14 (by omega), tt_up_ne (by omega)]
              exact c5)
            rw [tt_up_ne (by omega), e13] at s
            exact s
def nb (S : tt_St) : Prop := ¬ S 1 0 < 0 ∧ (S 1 0).toInt ≤ 10
/-- how the reader and the row stand behind a piece of text -/
def tx (S S' : tt_St) : Prop := mt S' ∧ nb S' ∧ S' 0 6 = S 0 6 ∧ (S 0 13).toInt ≤ (S' 0 13).toInt
theorem tx_rfl {S : tt_St} (h : mt S) (hn : nb S) : tx S S := ⟨h, hn, rfl, Int.le_refl _⟩
theorem tx_tr {S S1 S2 : tt_St} (h1 : tx S S1) (h2 : tx S1 S2) : tx S S2 := ⟨h2.1, h2.2.1, h2.2.2.1.trans h1.2.2.1, Int.le_trans h1.2.2.2 h2.2.2.2⟩
theorem tx_next {S : tt_St} (V : Int64) (h : mt S) (hn : nb S) : tx S (f7_next S V).1 := by
  have k := nx_next V h
  refine ⟨k.1, ?_, k.2.1.tp, k.2.2⟩
  unfold nb at *
  rw [k.2.1.row (by decide)]
  exact hn
theorem tx_17 {S : tt_St} {v : Int32} (h : mt S) (hn : nb S) : tx S (tt_up S 0 17 v) := by
  refine ⟨mt_up h (by omega) (by omega) (by omega), ?_, tt_up_ne (by omega), by rw [tt_up_ne (by omega)]; exact Int.le_refl _⟩
  unfold nb at *
  rw [tt_up_row (by decide)]
  exact hn
theorem tx_wrong {S : tt_St} (h : mt S) (hn : nb S) : tx S (f7_wrongHere S) := by
  unfold f7_wrongHere
  dsimp only
  split <;> exact tx_17 h hn
theorem tx_number {S : tt_St} (V : Int64) (a b : Int32) (h : mt S) (hn : nb S) : tx S (f7_number S V a b).2.1 := by
  unfold f7_number
  dsimp only
  repeat' split
  · exact tx_wrong h hn
  · exact tx_next V h hn
  · exact tx_wrong h hn
theorem tx_row1 {S : tt_St} {k : Nat} {v : Int32} (h : mt S) (hn : nb S) (hk : k ≠ 0) : tx S (tt_up S 1 k v) := by
  refine ⟨mt_row1 h, ?_, congrFun (tt_up_row (by decide)) 6, by rw [tt_up_row (by decide)]; exact Int.le_refl _⟩
  unfold nb at *
  rw [tt_up_ne (by omega)]
  exact hn
theorem tx_becomes {S : tt_St} {k w v : Int32} (h : mt S) (hn : nb S) (hk : vp_in k 10) (hw : vp_in w 7) : tx S (f7_becomes S k w v) := by
  refine tx_row1 h hn ?_
  rw [mi_ix hk hw]
  omega
theorem be_n {S : tt_St} {k w v : Int32} (hk : vp_in k 10) (hw : vp_in w 7) : f7_becomes S k w v 1 0 = S 1 0 := by
  refine tt_up_ne ?_
  rw [mi_ix hk hw]
  omega
theorem be_0 {S : tt_St} {k w v : Int32} : f7_becomes S k w v 0 = S 0 := tt_up_row (by decide)
theorem tx_comes {S : tt_St} {a b c d : Int32} (h : mt S) (hn : nb S) (hk : vp_in (S 1 0) 10) : tx S (f7_comes S a b c d).2 := by
  unfold f7_comes
  dsimp only
  have q : ∀ w : Int32, w = 0 ∨ w = 1 ∨ w = 2 ∨ w = 3 ∨ w = 4 ∨ w = 5 ∨ w = 6 → vp_in w 7 := by
    intro w hw
    rcases hw with rfl | rfl | rfl | rfl | rfl | rfl | rfl <;> (unfold vp_in; decide)
  refine ⟨?_, ?_, ?_, ?_⟩
  · exact mt_row1 (mt_fr h (by rw [be_0, be_0, be_0, be_0, be_0, be_0, be_0]))
  · unfold nb
    rw [tt_up_self, be_n hk (q _ (by decide)), be_n hk (q _ (by decide)), be_n hk (q _ (by decide)), be_n hk (q _ (by decide)), be_n hk (q _ (by decide)), be_n hk (q _ (by decide)), be_n hk (q _ (by decide))]
    rw [vp_in_iff] at hk
    rw [lp_lt, lp_0, lp_add (by rw [lp_1]; omega) (by rw [lp_1]; omega), lp_1]
    omega
  · rw [tt_up_row (by decide), be_0, be_0, be_0, be_0, be_0, be_0, be_0]
  · rw [tt_up_row (by decide), be_0, be_0, be_0, be_0, be_0, be_0, be_0]
    exact Int.le_refl _
theorem n_next {S : tt_St} (V : Int64) (h : mt S) : (f7_next S V).1 1 = S 1 := (nx_next V h).2.1.row (by decide)
theorem n_wrong (S : tt_St) : f7_wrongHere S 1 = S 1 := by
  unfold f7_wrongHere
  dsimp only
  split <;> exact tt_up_row (by decide)
theorem n_number {S : tt_St} (V : Int64) (a b : Int32) (h : mt S) : (f7_number S V a b).2.1 1 = S 1 := by
  unfold f7_number
  dsimp only
  repeat' split
  · exact n_wrong S
  · exact n_next V h
  · exact n_wrong S
theorem tx_drinkerHere {S : tt_St} (V : Int64) (a : Int32) (h : mt S) (hn : nb S) : tx S (f7_drinkerHere S V a).1 := by
  unfold f7_drinkerHere
  dsimp only
  split
  · exact tx_wrong h hn
  · rename_i c
    have hk : vp_in (S 1 0) 10 := dk_in hn c
    have t1 := tx_next V h hn
    have t2 := tx_number (f7_next S V).2 1 9 t1.1 t1.2.1
    have t12 := tx_tr t1 t2
    have r1 : (f7_number (f7_next S V).1 (f7_next S V).2 1 9).2.1 1 = S 1 := by rw [n_number _ _ _ t1.1, n_next V h]
    generalize f7_number (f7_next S V).1 (f7_next S V).2 1 9 = Q at t12 r1 ⊢
    obtain ⟨z5, S6, V7⟩ := Q
    dsimp only at *
    have t3 := tx_next V7 t12.1 t12.2.1
    have lim : ∀ (x y : Int32) (T : tt_St) (W : Int64), tx S T → T 1 = S 1 → tx S (f7_number (f7_next T W).1 (f7_next T W).2 x y).2.1 ∧ (f7_number (f7_next T W).1 (f7_next T W).2 x y).2.1 1 = S 1 := by
      intro x y T W ht e
      have u1 := tx_next W ht.1 ht.2.1
      have u2 := tx_number (f7_next T W).2 x y u1.1 u1.2.1
      exact ⟨tx_tr ht (tx_tr u1 u2), by rw [n_number _ _ _ u1.1, n_next W ht.1, e]⟩
    have com : ∀ (T : tt_St) (a b c d : Int32), tx S T → T 1 = S 1 → tx S (f7_comes T a b c d).2 := fun T a b c d ht e => tx_tr ht (tx_comes ht.1 ht.2.1 (by rw [e]; exact hk))
    have q := lim 0 9999 _ V7 t12 r1
    have q9 := fun W => lim 0 99 _ W q.1 q.2
    have p9 := lim 0 99 _ V7 t12 r1
    repeat' split
    all_goals
      with_reducible first
        | exact t12
        | exact com _ _ _ _ _ t12 r1
        | exact p9.1
        | exact com _ _ _ _ _ p9.1 p9.2
        | exact q.1
        | exact com _ _ _ _ _ q.1 q.2
        | exact (q9 _).1
        | exact com _ _ _ _ _ (q9 _).1 (q9 _).2
theorem tx_signHere {S : tt_St} (V : Int64) (h : mt S) (hn : nb S) : tx S (f7_signHere S V).1 := by
  unfold f7_signHere
  dsimp only
  have k : ∀ v : Int32, tx S (f7_next (tt_up S 1 5 v) V).1 := fun v => by
    have t := tx_row1 (k := 5) (v := v) h hn (by decide)
    exact tx_tr t (tx_next V t.1 t.2.1)
  repeat' split
  · exact tx_wrong h hn
  · exact k _
  · exact k _
  · exact k _
theorem tx_item {S : tt_St} (V : Int64) (h : mt S) (hn : nb S) : tx S (f7_item S V).1 := by
  unfold f7_item
  dsimp only
  have t1 := tx_next V h hn
  have t2 := fun a b => tx_tr t1 (tx_number (f7_next S V).2 a b t1.1 t1.2.1)
  repeat' split
  · exact tx_wrong h hn
  · exact tx_tr t1 (tx_signHere _ t1.1 t1.2.1)
  · have q := t2 1 99
    have q2 := tx_row1 (k := 2) (v := (f7_number (f7_next S V).1 (f7_next S V).2 1 99).1) q.1 q.2.1 (by decide)
    exact tx_tr q (tx_tr q2 (tx_row1 q2.1 q2.2.1 (by decide)))
  · have q := t2 0 99
    exact tx_tr q (tx_row1 q.1 q.2.1 (by decide))
  · exact tx_drinkerHere V _ h hn
theorem iw_0 {S : tt_St} {V w : Int64} (h : ¬ S 0 14 = 1) : f7_isWord S V w = 0 := by
  unfold f7_isWord
  rw [if_neg h]
/-- an item that doesn't begin with a word is a fault -/
theorem it_word {S : tt_St} (V : Int64) (h : mt S) (hf : (f7_item S V).1 0 17 < 0) : S 0 14 = 1 := by
  by_cases c : S 0 14 = 1
  · exact c
  · exfalso
    have e : (f7_item S V).1 = f7_wrongHere S := by
      unfold f7_item f7_kindHere
      dsimp only
      simp only [iw_0 c, if_true]
      rw [if_pos (by decide)]
    rw [e] at hf
    unfold f7_wrongHere at hf
    dsimp only at hf
    by_cases c2 : 0 ≤ S 0 17
    · rw [if_pos c2, tt_up_self] at hf
      rw [lp_le, lp_0] at c2
      rw [lp_lt, lp_0] at hf
      omega
    · rw [if_neg c2, tt_up_self] at hf
      have := h.2.2.2
      rw [lp_lt, lp_0] at hf
      omega
theorem it_dec {S : tt_St} {V : Int64} {n : Nat} (h : mt S) (hn : nb S) (c1 : ¬ 0 ≤ S 0 17) (c2 : S 0 14 = (3 : Int32)) (hm : it_m S < n + 1) : it_m (f7_item (f7_next S V).1 (f7_next S V).2).1 < n := by
  have k := tx_next V h hn
  have t := tx_item (f7_next S V).2 k.1 k.2.1
  have hlt : S 0 17 < 0 := by
    rw [lp_le, lp_0] at c1
    rw [lp_lt, lp_0]
    omega
  have e0 : it_m S = ((S 0 6).toInt - (S 0 13).toInt).toNat + 1 := if_pos ⟨hlt, c2⟩
  rw [e0] at hm
  unfold it_m
  split
  · rename_i q
    have w := it_word _ k.1 q.1
    have s := nx_s _ S V h (Nat.lt_succ_self _) w
    have s2 : (S 0 13).toInt < ((f7_next S V).1 0 13).toInt := s
    have l1 := t.2.2.2
    have l2 := t.1.2.1
    rw [t.2.2.1, k.2.2.1] at l2 ⊢
    omega
  · have := h.2.1
    omega
theorem dh_6 {S : tt_St} (V : Int64) (h : mt S) (hn : nb S) : tx S (f7_number (f7_next S V).1 (f7_next S V).2 (1 : Int32) (9 : Int32)).2.1 ∧ (f7_number (f7_next S V).1 (f7_next S V).2 (1 : Int32) (9 : Int32)).2.1 1 = S 1 := by
  have t1 := tx_next V h hn
  exact ⟨tx_tr t1 (tx_number _ _ _ t1.1 t1.2.1), by rw [n_number _ _ _ t1.1, n_next V h]⟩
theorem dh_n {S T : tt_St} {W : Int64} (h : tx S T ∧ T 1 = S 1) : tx S (f7_next T W).1 ∧ (f7_next T W).1 1 = S 1 := ⟨tx_tr h.1 (tx_next W h.1.1 h.1.2.1), by rw [n_next W h.1.1, h.2]⟩
theorem dh_p {S T : tt_St} {W : Int64} {x y : Int32} (h : tx S T ∧ T 1 = S 1) : tx S (f7_number (f7_next T W).1 (f7_next T W).2 x y).2.1 ∧ (f7_number (f7_next T W).1 (f7_next T W).2 x y).2.1 1 = S 1 := by
  have u1 := tx_next W h.1.1 h.1.2.1
  exact ⟨tx_tr h.1 (tx_tr u1 (tx_number _ _ _ u1.1 u1.2.1)), by rw [n_number _ _ _ u1.1, n_next W h.1.1, h.2]⟩
theorem is_0 {S : tt_St} (h1 : (S 0 6).toInt ≤ 120) (h2 : ¬ S 0 6 < 0) (h3 : 0 ≤ (S 0 15).toInt) (hn : nb S) : mt (tt_up (tt_up S 0 13 (0 : Int32)) 0 17 (-1 : Int32)) ∧ nb (tt_up (tt_up S 0 13 (0 : Int32)) 0 17 (-1 : Int32)) := by
  have h4 := int_nn h2
  constructor
  · unfold mt
    rw [tt_up_ne (by omega), tt_up_self, tt_up_ne (by omega), tt_up_ne (by omega), tt_up_ne (by omega), tt_up_ne (by omega), lp_0]
    omega
  · unfold nb at *
    rw [tt_up_row (by decide), tt_up_row (by decide)]
    exact hn
theorem is_1 {S : tt_St} (V : Int64) (h1 : (S 0 6).toInt ≤ 120) (h2 : ¬ S 0 6 < 0) (h3 : 0 ≤ (S 0 15).toInt) (hn : nb S) : mt (f7_item (f7_next (tt_up (tt_up S 0 13 (0 : Int32)) 0 17 (-1 : Int32)) V).1 (f7_next (tt_up (tt_up S 0 13 (0 : Int32)) 0 17 (-1 : Int32)) V).2).1 ∧ nb (f7_item (f7_next (tt_up (tt_up S 0 13 (0 : Int32)) 0 17 (-1 : Int32)) V).1 (f7_next (tt_up (tt_up S 0 13 (0 : Int32)) 0 17 (-1 : Int32)) V).2).1 := by
  have q := is_0 h1 h2 h3 hn
  have t := tx_next V q.1 q.2
  have u := tx_item (f7_next (tt_up (tt_up S 0 13 (0 : Int32)) 0 17 (-1 : Int32)) V).2 t.1 t.2.1
  exact ⟨u.1, u.2.1⟩
theorem is_s {S : tt_St} {V : Int64} (h : mt S ∧ nb S) : mt (f7_item (f7_next S V).1 (f7_next S V).2).1 ∧ nb (f7_item (f7_next S V).1 (f7_next S V).2).1 := by
  have t := tx_next V h.1 h.2
  have u := tx_item (f7_next S V).2 t.1 t.2.1
  exact ⟨u.1, u.2.1⟩
