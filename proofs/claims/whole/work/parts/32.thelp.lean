/-! what the reader's steps leave alone -/
def rf (S S' : tt_St) : Prop := ∀ n k : Nat, (n = 3 → k < 2 ∨ 6 < k) → S' n k = S n k
theorem rf_rfl (S : tt_St) : rf S S := fun _ _ _ => rfl
theorem rf_tr {S S1 S2 : tt_St} (h1 : rf S S1) (h2 : rf S1 S2) : rf S S2 := fun n k a => (h2 n k a).trans (h1 n k a)
theorem rf_up {k : Nat} (S : tt_St) (v : Int32) (hk : 2 ≤ k ∧ k ≤ 6) : rf S (tt_up S 3 k v) := fun n j a => tt_up_ne (fun h => by have := a h.1; omega)
theorem rf.row {n : Nat} {S S' : tt_St} (h : rf S S') (hn : n ≠ 3) : S' n = S n := funext fun k => h n k (fun z => absurd z hn)
theorem rf.tp {S S' : tt_St} (h : rf S S') : S' 3 1 = S 3 1 := h 3 1 (by omega)
theorem rf_passLettersL : ∀ (n : Nat) (S : tt_St), rf S (f5_passLetters_L0 n S) := by
  intro n
  induction n with
  | zero => intro S; exact rf_rfl S
  | succ n ih =>
    intro S
    rw [f5_passLetters_L0]
    try dsimp only
    repeat' split
    · exact rf_rfl S
    · exact rf_rfl S
    · exact rf_tr (rf_up _ _ (by omega)) (ih _)
theorem rf_passLetters (S : tt_St) : rf S (f5_passLetters S) := rf_passLettersL _ S
theorem rf_passDigitsL : ∀ (n : Nat) (S : tt_St), rf S (f5_passDigits_L5 n S) := by
  intro n
  induction n with
  | zero => intro S; exact rf_rfl S
  | succ n ih =>
    intro S
    rw [f5_passDigits_L5]
    try dsimp only
    by_cases c1 : S 3 1 ≤ S 3 4
    · rw [if_pos c1]; exact rf_rfl S
    rw [if_neg c1]
    by_cases c2 : f5_isDigit (f5_byteAt S (S 3 4)) = 0
    · rw [if_pos c2]; exact rf_rfl S
    rw [if_neg c2]
    exact rf_tr (rf_tr (rf_up _ _ (by omega)) (rf_up _ _ (by omega))) (ih _)
theorem rf_passDigits (S : tt_St) : rf S (f5_passDigits S) := rf_tr (rf_up S _ (by omega)) (rf_passDigitsL _ _)
theorem rf_advanceL : ∀ (n : Nat) (S : tt_St), rf S (f5_advance_L8 n S) := by
  intro n
  induction n with
  | zero => intro S; exact rf_rfl S
  | succ n ih =>
    intro S
    rw [f5_advance_L8]
    try dsimp only
    repeat' split
    all_goals
      repeat (with_reducible first
        | exact rf_rfl _
        | exact rf_up _ _ (by omega)
        | refine rf_tr ?_ (rf_up _ _ (by omega))
        | refine rf_tr ?_ (rf_passLetters _)
        | refine rf_tr ?_ (rf_passDigits _)
        | refine rf_tr ?_ (ih _))
theorem rf_advance (S : tt_St) : rf S (f5_advance S) := rf_tr (rf_up S _ (by omega)) (rf_advanceL _ _)
theorem rf_takeNumber (S : tt_St) (a b : Int32) : rf S (f5_takeNumber S a b).2 := by
  unfold f5_takeNumber
  try dsimp only
  repeat' split
  · exact rf_rfl S
  · exact rf_tr (rf_up S _ (by omega)) (rf_advance _)
  · exact rf_rfl S
theorem rf_takeWord (S : tt_St) (i : Nat) : rf S (f5_takeWord S i).2 := by
  unfold f5_takeWord
  try dsimp only
  repeat' split
  · exact rf_rfl S
  · exact rf_advance S
/-- a tape and a room to read into -/
def tz (r : Nat) (S : tt_St) : Prop := (S 3 1).toInt ≤ 120 ∧ ¬ S r 0 < 0 ∧ (S r 0).toInt ≤ 10
theorem tz_rf {r : Nat} {S S' : tt_St} (hr : r < 3) (h : tz r S) (f : rf S S') : tz r S' := by
  obtain ⟨h1, h2, h3⟩ := h
  have e1 := f.tp
  have e2 : S' r 0 = S r 0 := f r 0 (by omega)
  exact ⟨by rw [e1]; exact h1, by rw [e2]; exact h2, by rw [e2]; exact h3⟩
theorem tz_adv {r : Nat} {S : tt_St} (hr : r < 3) (h : tz r S) : tz r (f5_advance S) := tz_rf hr h (rf_advance S)
theorem tz_num {r : Nat} {S : tt_St} {a b : Int32} (hr : r < 3) (h : tz r S) : tz r (f5_takeNumber S a b).2 := tz_rf hr h (rf_takeNumber S a b)
theorem tz_w {r i : Nat} {S : tt_St} (hr : r < 3) (h : tz r S) : tz r (f5_takeWord S i).2 := tz_rf hr h (rf_takeWord S i)
theorem tz_34 {r : Nat} {S : tt_St} {v : Int32} (hr : r < 3) (h : tz r S) : tz r (tt_up S 3 4 v) := tz_rf hr h (rf_up S v (by omega))
theorem tz_k {r k : Nat} {S : tt_St} {v : Int32} (hr : r < 3) (h : tz r S) (hk : k ≠ 0) : tz r (tt_up S r k v) := by
  obtain ⟨h1, h2, h3⟩ := h
  have e1 : tt_up S r k v 3 1 = S 3 1 := tt_up_ne (by omega)
  have e2 : tt_up S r k v r 0 = S r 0 := tt_up_ne (by omega)
  exact ⟨by rw [e1]; exact h1, by rw [e2]; exact h2, by rw [e2]; exact h3⟩
theorem tz_14 {r d : Nat} {S : tt_St} {v : Int32} (hr : r < 3) (h : tz r S) : tz r (tt_up S r (14 + 7 * d) v) := tz_k hr h (by omega)
theorem tz_15 {r d : Nat} {S : tt_St} {v : Int32} (hr : r < 3) (h : tz r S) : tz r (tt_up S r (15 + 7 * d) v) := tz_k hr h (by omega)
theorem tz_pot {r : Nat} {S : tt_St} {v : Int32} (hr : r < 3) (h : tz r S) : tz r (f2_setPot S r v) := tz_k hr (tz_k hr h (by omega)) (by omega)
theorem tz_take {S : tt_St} (h : ci S) : tz 2 (f2_takeRoom S 2 0) := by
  have h0 := h.1 0 (by decide)
  have e1 : f2_takeRoom S 2 0 3 = S 3 := tk_row (by decide)
  have e2 : f2_takeRoom S 2 0 2 0 = S 0 0 := tk_lo (by decide) (by decide)
  exact ⟨by rw [e1]; exact h.2.1.2, by rw [e2]; exact h0.1, by rw [e2]; exact h0.2⟩
theorem bg1_row {S : tt_St} {r d n : Nat} {a b : Int32} (h : n ≠ r) : f1_begin S r d a b n = S n := by
  unfold f1_begin
  try dsimp only
  simp only [tt_up_row h]
theorem bg1_0 {S : tt_St} {r d : Nat} {a b : Int32} : f1_begin S r d a b r 0 = S r 0 := by
  unfold f1_begin
  try dsimp only
  rw [tt_up_ne (by omega), tt_up_ne (by omega), tt_up_ne (by omega), tt_up_ne (by omega), tt_up_ne (by omega), tt_up_ne (by omega), tt_up_ne (by omega)]
/-- how many drinkers behind one more -/
theorem ad_sz {S : tt_St} {r : Nat} {a b : Int32} : (f2_addDrinker S r a b).2 r 0 = (if (10 : Int32) < S r 0 + 1 then (10 : Int32) else S r 0 + 1) := by
  unfold f2_addDrinker
  try dsimp only
  rw [tt_up_self, bg1_0]
theorem ad_row {S : tt_St} {r n : Nat} {a b : Int32} (h : n ≠ r) : (f2_addDrinker S r a b).2 n = S n := by
  unfold f2_addDrinker
  try dsimp only
  rw [tt_up_row h, bg1_row h]
theorem tz_ad {r : Nat} {S : tt_St} {a b : Int32} (hr : r < 3) (h : tz r S) : tz r (f2_addDrinker S r a b).2 := by
  obtain ⟨h1, h2, h3⟩ := h
  rw [lp_lt, lp_0] at h2
  have e : (S r 0 + 1).toInt = (S r 0).toInt + 1 := by rw [lp_add (by rw [lp_1]; omega) (by rw [lp_1]; omega), lp_1]
  refine ⟨by rw [ad_row (by omega)]; exact h1, ?_⟩
  rw [ad_sz]
  by_cases c : (10 : Int32) < S r 0 + 1
  · rw [if_pos c]
    exact ⟨by decide, by decide⟩
  · rw [if_neg c]
    rw [lp_lt, e, show (10 : Int32).toInt = 10 from rfl] at c
    exact ⟨nn_int (by omega), by omega⟩
theorem tz_drk {r : Nat} {S : tt_St} {k : Int32} (hr : r < 3) (h : tz r S) : tz r (f5_readDrinker S r k).2 := by
  unfold f5_readDrinker
  try dsimp only
  repeat' split
  all_goals
    repeat (with_reducible first
      | exact h
      | exact hr
      | apply tz_adv
      | apply tz_num
      | apply tz_w
      | apply tz_ad
      | apply tz_14
      | apply tz_15)
theorem tz_price {r : Nat} {S : tt_St} (hr : r < 3) (h : tz r S) : tz r (f5_readPrice S r).2 := by
  unfold f5_readPrice
  try dsimp only
  split
  · exact tz_num hr h
  · exact tz_k hr (tz_num hr h) (by omega)
theorem tz_rpot {r : Nat} {S : tt_St} (hr : r < 3) (h : tz r S) : tz r (f5_readPot S r).2 := by
  unfold f5_readPot
  try dsimp only
  split
  · exact tz_num hr h
  · exact tz_pot hr (tz_num hr h)
theorem tz_signL {r : Nat} (hr : r < 3) : ∀ (n : Nat) (S : tt_St) (y : Int32), tz r S → tz r (f5_readSign_L2 r n S y).2 := by
  intro n
  induction n with
  | zero => intro S y h; exact h
  | succ n ih =>
    intro S y h
    rw [f5_readSign_L2]
    try dsimp only
    repeat' split
    · exact h
    · exact ih _ _ (tz_w hr h)
    · exact tz_k hr (tz_w hr h) (by omega)
theorem tz_sign {r : Nat} {S : tt_St} (hr : r < 3) (h : tz r S) : tz r (f5_readSign S r).2 := tz_signL hr _ S _ h
theorem tz_item {r : Nat} {S : tt_St} (hr : r < 3) (h : tz r S) : tz r (f5_readItem S r).2 := by
  unfold f5_readItem
  try dsimp only
  repeat' split
  all_goals
    repeat (with_reducible first
      | exact h
      | exact hr
      | apply tz_w
      | apply tz_drk
      | apply tz_price
      | apply tz_rpot
      | apply tz_sign)
theorem tz_readL {r : Nat} (hr : r < 3) : ∀ (n : Nat) (S : tt_St) (y : Int32), tz r S → tz r (f5_read_L7 r n S y).2 := by
  intro n
  induction n with
  | zero => intro S y h; exact h
  | succ n ih =>
    intro S y h
    rw [f5_read_L7]
    try dsimp only
    repeat' split
    all_goals
      with_reducible first
        | exact h
        | exact tz_item hr (tz_adv hr h)
        | exact ih _ _ (tz_item hr (tz_adv hr h))
theorem tz_read {r : Nat} {S : tt_St} (hr : r < 3) (h : tz r S) : tz r (f5_read S r).2 := tz_readL hr _ _ _ (tz_34 hr h)
theorem wk15 (x : Int32) : f5_wordOfKind x < 15 := by
  unfold f5_wordOfKind
  repeat' split
  all_goals decide
theorem ws15 (x : Int32) : f5_wordOfSign x < 15 := by
  unfold f5_wordOfSign
  repeat' split
  all_goals decide
theorem wl_all : ∀ i : Nat, i < 15 → tt_len.getD i 0 ≤ 7 ∧ tt_len.getD i 0 = (tt_byt.getD i []).length := by decide +kernel
theorem wl_le {i : Nat} (hi : i < 15) : (nI (tt_len.getD i 0)).toInt ≤ ((tt_len.getD i 0 : Nat) : Int) := by
  have := (wl_all i hi).1
  rw [nI_toInt (by omega)]
  omega
theorem bo_X5_readPot {S : tt_St} {r : Nat} {x : Int32} (h : x = (f5_readPot S r).1) : x = 0 ∨ x = 1 := by
  subst h
  unfold f5_readPot
  try dsimp only
  split
  · exact Or.inl rfl
  · exact Or.inr rfl
theorem bo_X5_readPrice {S : tt_St} {r : Nat} {x : Int32} (h : x = (f5_readPrice S r).1) : x = 0 ∨ x = 1 := by
  subst h
  unfold f5_readPrice
  try dsimp only
  split
  · exact Or.inl rfl
  · exact Or.inr rfl
