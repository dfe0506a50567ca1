/-! what the constructors leave, as the calls' contracts have it -/
def L_pos (n : Nat) : Nat := if n < 30 then 8 + 16 * (n / 10) + n % 10 else if n < 33 then 2 + 16 * (n - 30) else if n < 36 then 3 + 16 * (n - 33) else if n < 39 then 4 + 16 * (n - 36) else if n < 42 then 5 + 16 * (n - 39) else if n < 45 then 6 + 16 * (n - 42) else if n < 48 then 7 + 16 * (n - 45) else if n < 52 then 54 + 2 * (n - 48) else if n < 56 then 55 + 2 * (n - 52) else if n = 56 then 50 else if n = 57 then 51 else if n = 58 then 52 else if n = 59 then 1 else if n = 60 then 53 else if n = 61 then 0 else n
theorem L_pos_inj : ∀ i : Nat, i < 72 → ∀ j : Nat, j < 72 → L_pos i = L_pos j → i = j := by decide +kernel
/-- the objects' addresses, by their places in the constructors' worlds -/
def L_ads (q6 : Nat) (u6 : n_U) (q7 : Nat) (u7 : Nat → Nat) : List Nat := match u6 with
  | (r0, r1, r2, sa, sn, a0, a1, a2, t, b, rd, ar, fi) => [q6, ar, a0, r0 10, r0 11, r0 12, r0 13, r0 14, r0 0, r0 1, r0 2, r0 3, r0 4, r0 5, r0 6, r0 7, r0 8, r0 9, a1, r1 10, r1 11, r1 12, r1 13, r1 14, r1 0, r1 1, r1 2, r1 3, r1 4, r1 5, r1 6, r1 7, r1 8, r1 9, a2, r2 10, r2 11, r2 12, r2 13, r2 14, r2 0, r2 1, r2 2, r2 3, r2 4, r2 5, r2 6, r2 7, r2 8, r2 9, t, b, rd, fi, sa 0, sn 0, sa 1, sn 1, sa 2, sn 2, sa 3, sn 3, q7, u7 1, u7 2, u7 3, u7 4, u7 5, u7 6, u7 7, u7 8, u7 9]
def L_ad (q6 : Nat) (u6 : n_U) (q7 : Nat) (u7 : Nat → Nat) (t : Nat) (adK adV : Nat → Nat) (n : Nat) : Nat := if n < 72 then (L_ads q6 u6 q7 u7).getD (L_pos n) 0 else if n = 100 then t else if n < 130 then adK (n - 110) else adV (n - 130)
/-- the class's ints at the start -/
def tt_S0 : tt_St := fun n => if n < 3 then mm_d0 else if n < 12 then (fun _ => 0) else if n < 15 then (fun _ => (-1 : Int32)) else (fun _ => 0)
/-- the reference's ints at the start -/
def mm_S0 : tt_St := fun n => if n = 1 then mm_d0 else (fun _ => 0)
theorem mm_d0_z {k : Nat} (h : k ≠ 1 ∧ k ≠ 2 ∧ k ≠ 3 ∧ k ≠ 6 ∧ k ≠ 10 ∧ k < 122) : mm_d0 k = 0 := by
  unfold mm_d0
  rw [if_neg h.1, if_neg h.2.1, if_neg h.2.2.1, if_neg h.2.2.2.1, if_neg h.2.2.2.2.1, if_neg (by omega)]
theorem mm_d0_m {k : Nat} (h : 122 ≤ k) : mm_d0 k = (-1 : Int32) := by
  unfold mm_d0
  rw [if_neg (by omega), if_neg (by omega), if_neg (by omega), if_neg (by omega), if_neg (by omega), if_pos h]
theorem L_ok0 : okR mm_d0 := by
  refine ⟨⟨⟨⟨rfl, by decide⟩, by decide, by decide, by decide, by decide, fun d hd => absurd hd (by show ¬ d < 0; omega), rfl, by decide, by decide⟩, by decide, ⟨by decide, by decide⟩, fun k hk => ?_⟩, by decide, fun i hi => ?_⟩
  · rw [tt_up_row (by decide), tt_up_row (by decide)]
    show 0 ≤ (mm_d0 (82 + k)).toInt ∧ (mm_d0 (82 + k)).toInt ≤ 1000000
    rw [mm_d0_z (by omega)]
    decide
  · rw [mm_d0_m (by omega)]
    decide
theorem L_RB0 : RB 0 tt_S0 1 mm_S0 := by
  refine ⟨fun k _ => rfl, ⟨rfl, fun i hi => ⟨?_, ?_⟩⟩, fun i hi => ?_, L_ok0⟩
  · show (0 : Int32) = mm_d0 (82 + 2 * i)
    rw [mm_d0_z (by omega)]
  · show (0 : Int32) = mm_d0 (83 + 2 * i)
    rw [mm_d0_z (by omega)]
  · show (-1 : Int32) = mm_d0 (122 + i)
    rw [mm_d0_m (by omega)]
theorem L_RR0 : RR tt_S0 mm_S0 := by
  refine ⟨L_RB0, ⟨rfl, Or.inl rfl, fun z => absurd rfl z, by decide, by decide⟩, ⟨rfl, ⟨by decide, by decide⟩, fun i hi => absurd hi (by show ¬ i < 0; omega)⟩, fun k hk => rfl, fun k hk => ⟨?_, ?_, Or.inl rfl, ⟨by show (0 : Int) ≤ (0 : Int32).toInt; decide, by show (0 : Int32).toInt ≤ 40; decide⟩, fun i hi => ?_⟩, by decide⟩
  · rfl
  · rfl
  · show tt_S0 (15 + k) i = 0
    unfold tt_S0
    rw [if_neg (by omega), if_neg (by omega), if_neg (by omega)]
section LM
variable {D : va_G} {cl : Nat → ClassId} {A : Nat → Prop} {q6 q7 t : Nat} {u6 : n_U} {u7 : Nat → Nat} {adK adV : Nat → Nat} {H : Heap}
theorem L_adr : ((n_B6 cl q6 u6 ++ n_B7 cl q7 u7).map (·.1)) = L_ads q6 u6 q7 u7 := by
  obtain ⟨r0, r1, r2, sa, sn, a0, a1, a2, t, b, rd, ar, fi⟩ := u6
  rfl
theorem L_len : (L_ads q6 u6 q7 u7).length = 72 := by
  obtain ⟨r0, r1, r2, sa, sn, a0, a1, a2, t, b, rd, ar, fi⟩ := u6
  rfl
theorem L_pos_lt : ∀ n : Nat, n < 72 → L_pos n < 72 := by decide +kernel
theorem L_ad_at {n : Nat} (h : n < 72) : ∃ e : va_E, (n_B6 cl q6 u6 ++ n_B7 cl q7 u7)[L_pos n]? = some (L_ad q6 u6 q7 u7 t adK adV n, e) := by
  have hl := L_pos_lt n h
  have e1 : ((n_B6 cl q6 u6 ++ n_B7 cl q7 u7).map (·.1))[L_pos n]? = some (L_ad q6 u6 q7 u7 t adK adV n) := by
    rw [L_adr]
    unfold L_ad
    rw [if_pos h, List.getElem?_eq_getElem (by rw [L_len]; exact hl), List.getD_eq_getElem?_getD, List.getElem?_eq_getElem (by rw [L_len]; exact hl)]
    rfl
  rw [List.getElem?_map] at e1
  cases h2 : (n_B6 cl q6 u6 ++ n_B7 cl q7 u7)[L_pos n]? with
  | none => rw [h2] at e1; cases e1
  | some x => rw [h2] at e1; exact ⟨x.2, by rw [← Option.some.inj e1]⟩
theorem L_inj (hD : va_D A (n_B6 cl q6 u6 ++ n_B7 cl q7 u7)) : ∀ i j : Nat, i < 72 → j < 72 → L_ad q6 u6 q7 u7 t adK adV i = L_ad q6 u6 q7 u7 t adK adV j → i = j := fun i j hi hj e => by
  obtain ⟨e1, h1⟩ := L_ad_at (cl := cl) (q6 := q6) (u6 := u6) (q7 := q7) (u7 := u7) (t := t) (adK := adK) (adV := adV) hi
  obtain ⟨e2, h2⟩ := L_ad_at (cl := cl) (q6 := q6) (u6 := u6) (q7 := q7) (u7 := u7) (t := t) (adK := adK) (adV := adV) hj
  exact L_pos_inj i hi j hj (hD.1 _ _ _ _ h1 h2 e)
theorem L_in (hD : va_D A (n_B6 cl q6 u6 ++ n_B7 cl q7 u7)) : ∀ i : Nat, i < 72 → A (L_ad q6 u6 q7 u7 t adK adV i) := fun i hi => by
  obtain ⟨e1, h1⟩ := L_ad_at (cl := cl) (q6 := q6) (u6 := u6) (q7 := q7) (u7 := u7) (t := t) (adK := adK) (adV := adV) hi
  exact hD.2 _ _ h1
/-- the cell of a place, but for the four rows of references -/
theorem L_cell : ∀ n : Nat, n < 62 → n ≠ 33 → n ≠ 34 → n ≠ 35 → n ≠ 59 → (n_B6 cl q6 u6 ++ n_B7 cl q7 u7)[L_pos n]? = some (L_ad q6 u6 q7 u7 t adK adV n, tt_cell (D, cl, L_ad q6 u6 q7 u7 t adK adV) tt_S0 n) := by
  obtain ⟨r0, r1, r2, sa, sn, a0, a1, a2, tp, b, rd, ar, fi⟩ := u6
  intro n hn h1 h2 h3 h4
  match n, hn with
  | 0, _ => rfl
  | 1, _ => rfl
  | 2, _ => rfl
  | 3, _ => rfl
  | 4, _ => rfl
  | 5, _ => rfl
  | 6, _ => rfl
  | 7, _ => rfl
  | 8, _ => rfl
  | 9, _ => rfl
  | 10, _ => rfl
  | 11, _ => rfl
  | 12, _ => rfl
  | 13, _ => rfl
  | 14, _ => rfl
  | 15, _ => rfl
  | 16, _ => rfl
  | 17, _ => rfl
  | 18, _ => rfl
  | 19, _ => rfl
  | 20, _ => rfl
  | 21, _ => rfl
  | 22, _ => rfl
  | 23, _ => rfl
  | 24, _ => rfl
  | 25, _ => rfl
  | 26, _ => rfl
  | 27, _ => rfl
  | 28, _ => rfl
  | 29, _ => rfl
  | 30, _ => rfl
  | 31, _ => rfl
  | 32, _ => rfl
  | 33, _ => exact absurd rfl h1
  | 34, _ => exact absurd rfl h2
  | 35, _ => exact absurd rfl h3
  | 36, _ => rfl
  | 37, _ => rfl
  | 38, _ => rfl
  | 39, _ => rfl
  | 40, _ => rfl
  | 41, _ => rfl
  | 42, _ => rfl
  | 43, _ => rfl
  | 44, _ => rfl
  | 45, _ => rfl
  | 46, _ => rfl
  | 47, _ => rfl
  | 48, _ => rfl
  | 49, _ => rfl
  | 50, _ => rfl
  | 51, _ => rfl
  | 52, _ => rfl
  | 53, _ => rfl
  | 54, _ => rfl
  | 55, _ => rfl
  | 56, _ => rfl
  | 57, _ => rfl
  | 58, _ => rfl
  | 59, _ => exact absurd rfl h4
  | 60, _ => rfl
  | 61, _ => rfl
  | n + 62, h => exact absurd h (by omega)
theorem L_mcell : ∀ n : Nat, n < 10 → (n_B6 cl q6 u6 ++ n_B7 cl q7 u7)[62 + n]? = some (mm_ad (D, cl, L_ad q6 u6 q7 u7 t adK adV) n, mm_cell (D, cl, L_ad q6 u6 q7 u7 t adK adV) (mm_S0, (0 : Int64)) n) := by
  obtain ⟨r0, r1, r2, sa, sn, a0, a1, a2, tp, b, rd, ar, fi⟩ := u6
  intro n hn
  match n, hn with
  | 0, _ => rfl
  | 1, _ => rfl
  | 2, _ => rfl
  | 3, _ => rfl
  | 4, _ => rfl
  | 5, _ => rfl
  | 6, _ => rfl
  | 7, _ => rfl
  | 8, _ => rfl
  | 9, _ => rfl
  | n + 10, h => exact absurd h (by omega)
theorem L_rows (hP : va_P D vwCl (n_B6 cl q6 u6 ++ n_B7 cl q7 u7) H) : ∀ n : Nat, n = 33 ∨ n = 34 ∨ n = 35 ∨ n = 59 → va_at D vwCl (L_ad q6 u6 q7 u7 t adK adV n, tt_cell (D, cl, L_ad q6 u6 q7 u7 t adK adV) tt_S0 n) H := by
  obtain ⟨r0, r1, r2, sa, sn, a0, a1, a2, tp, b, rd, ar, fi⟩ := u6
  intro n hn
  rcases hn with rfl | rfl | rfl | rfl
  · exact n_extq (f := fun i => some (r0 i)) (hP 3 _ rfl) (fun k hk => by rcases (show k = 0 ∨ k = 1 ∨ k = 2 ∨ k = 3 ∨ k = 4 ∨ k = 5 ∨ k = 6 ∨ k = 7 ∨ k = 8 ∨ k = 9 by omega) with rfl | rfl | rfl | rfl | rfl | rfl | rfl | rfl | rfl | rfl <;> rfl)
  · exact n_extq (f := fun i => some (r1 i)) (hP 19 _ rfl) (fun k hk => by rcases (show k = 0 ∨ k = 1 ∨ k = 2 ∨ k = 3 ∨ k = 4 ∨ k = 5 ∨ k = 6 ∨ k = 7 ∨ k = 8 ∨ k = 9 by omega) with rfl | rfl | rfl | rfl | rfl | rfl | rfl | rfl | rfl | rfl <;> rfl)
  · exact n_extq (f := fun i => some (r2 i)) (hP 35 _ rfl) (fun k hk => by rcases (show k = 0 ∨ k = 1 ∨ k = 2 ∨ k = 3 ∨ k = 4 ∨ k = 5 ∨ k = 6 ∨ k = 7 ∨ k = 8 ∨ k = 9 by omega) with rfl | rfl | rfl | rfl | rfl | rfl | rfl | rfl | rfl | rfl <;> rfl)
  · exact n_extq (f := fun i => some (sa i)) (hP 1 _ rfl) (fun k hk => by rcases (show k = 0 ∨ k = 1 ∨ k = 2 ∨ k = 3 by omega) with rfl | rfl | rfl | rfl <;> rfl)
theorem L_P6 (hP : va_P D vwCl (n_B6 cl q6 u6 ++ n_B7 cl q7 u7) H) : va_P D vwCl (g_w 62 (L_ad q6 u6 q7 u7 t adK adV) (tt_cell (D, cl, L_ad q6 u6 q7 u7 t adK adV)) tt_S0) H := fun k q hk => by
  have hl : k < 62 := by
    have := (List.getElem?_eq_some_iff.mp hk).1
    simpa [g_w] using this
  rw [g_w_at hl rfl] at hk
  rw [← Option.some.inj hk]
  by_cases c1 : k = 33 ∨ k = 34 ∨ k = 35 ∨ k = 59
  · exact L_rows hP k c1
  · exact hP _ _ (L_cell k hl (by omega) (by omega) (by omega) (by omega))
theorem L_P7 (hP : va_P D vwCl (n_B6 cl q6 u6 ++ n_B7 cl q7 u7) H) : va_P D vwCl (g_w 10 (mm_ad (D, cl, L_ad q6 u6 q7 u7 t adK adV)) (mm_cell (D, cl, L_ad q6 u6 q7 u7 t adK adV)) (mm_S0, (0 : Int64))) H := fun k q hk => by
  have hl : k < 10 := by
    have := (List.getElem?_eq_some_iff.mp hk).1
    simpa [g_w] using this
  rw [g_w_at hl rfl] at hk
  rw [← Option.some.inj hk]
  exact hP _ _ (L_mcell k hl)
end LM
