/-! the class's 62 cells: 0..29 drinkers (room 0, 1, 2), 30..32 rooms, 33..35 their rows of drinkers, 36..38 books, 39..41 cups, 42..44 coins, 45..47 spots, 48..51 sheets, 52..55 their numbers, 56 tape, 57 its bytes, 58 reader, 59 row of sheets, 60 findings, 61 the object.
The ints: row r < 3: a room's size, price, pot, left, tin, sign, last, day, missed, served, z (0..10), the books' size (11), drinker d's fields (12 + 7 d ..); row 3: isKept 0, tape's size 1, token 2, start 3, end 4, number 5, tookNumber 6, sheets' bits 10.., sizes 20..; 4 findings, 5 bytes, 6.. cups, 9.. coins, 12.. spots, 15.. numbers -/
def tt_cell (G : tt_G) (S : tt_St) (n : Nat) : va_E :=
  if n < 30 then .inr (1, [.int (S (n / 10) (12 + 7 * (n % 10))), .int (S (n / 10) (13 + 7 * (n % 10))), .int (S (n / 10) (14 + 7 * (n % 10))), .int (S (n / 10) (15 + 7 * (n % 10))), .int (S (n / 10) (16 + 7 * (n % 10))), .int (S (n / 10) (17 + 7 * (n % 10))), .int (S (n / 10) (18 + 7 * (n % 10)))])
  else if n < 33 then .inr (2, [.ref (G.2.2 (n + 3)), .int (S (n - 30) 0), .int (S (n - 30) 1), .int (S (n - 30) 2), .int (S (n - 30) 3), .int (S (n - 30) 4), .int (S (n - 30) 5), .int (S (n - 30) 6), .int (S (n - 30) 7), .int (S (n - 30) 8), .int (S (n - 30) 9), .int (S (n - 30) 10), .ref (G.2.2 (n + 6)), .ref (G.2.2 (n + 15))])
  else if n < 36 then .inl (G.2.1 1, 10, .inr (.inr (.inr (.inr (fun i => some (G.2.2 (10 * (n - 33) + i)))))))
  else if n < 39 then .inr (0, [.ref (G.2.2 (n + 3)), .ref (G.2.2 (n + 6)), .int (S (n - 36) 11)])
  else if n < 42 then .inl (G.2.1 0, 20, .inl (S (n - 33)))
  else if n < 45 then .inl (G.2.1 0, 20, .inl (S (n - 33)))
  else if n < 48 then .inl (G.2.1 0, 10, .inl (S (n - 33)))
  else if n < 52 then .inr (3, [.ref (G.2.2 (n + 4)), .int (S 3 (n - 38)), .int (S 3 (n - 28))])
  else if n < 56 then .inl (G.2.1 0, 40, .inl (S (n - 37)))
  else if n = 56 then .inr (4, [.ref (G.2.2 57), .int (S 3 1)])
  else if n = 57 then .inl (G.2.1 0, 120, .inl (S 5))
  else if n = 58 then .inr (5, [.ref (G.2.2 56), .int (S 3 2), .int (S 3 3), .int (S 3 4), .int (S 3 5), .int (S 3 6)])
  else if n = 59 then .inl (G.2.1 2, 4, .inr (.inr (.inr (.inr (fun i => some (G.2.2 (48 + i)))))))
  else if n = 60 then .inl (G.2.1 0, 7, .inl (S 4))
  else .inr (6, [.ref (G.2.2 30), .ref (G.2.2 31), .ref (G.2.2 32), .int (S 3 0), .ref (G.2.2 56), .ref (G.2.2 58), .ref (G.2.2 59), .ref (G.2.2 60)])
theorem tt_eD {G : tt_G} {S : tt_St} {r d : Nat} (hr : r < 3) (hd : d < 10) : tt_cell G S (10 * r + d) = .inr (1, [.int (S r (12 + 7 * d)), .int (S r (13 + 7 * d)), .int (S r (14 + 7 * d)), .int (S r (15 + 7 * d)), .int (S r (16 + 7 * d)), .int (S r (17 + 7 * d)), .int (S r (18 + 7 * d))]) := by
  unfold tt_cell
  rw [if_pos (by omega), show (10 * r + d) / 10 = r by omega, show (10 * r + d) % 10 = d by omega]
theorem tt_eR {G : tt_G} {S : tt_St} {r : Nat} (hr : r < 3) : tt_cell G S (30 + r) = .inr (2, [.ref (G.2.2 (33 + r)), .int (S r 0), .int (S r 1), .int (S r 2), .int (S r 3), .int (S r 4), .int (S r 5), .int (S r 6), .int (S r 7), .int (S r 8), .int (S r 9), .int (S r 10), .ref (G.2.2 (36 + r)), .ref (G.2.2 (45 + r))]) := by
  unfold tt_cell
  rw [if_neg (by omega), if_pos (by omega), show 30 + r - 30 = r by omega, show 30 + r + 3 = 33 + r by omega, show 30 + r + 6 = 36 + r by omega, show 30 + r + 15 = 45 + r by omega]
theorem tt_eA {G : tt_G} {S : tt_St} {r : Nat} (hr : r < 3) : tt_cell G S (33 + r) = .inl (G.2.1 1, 10, .inr (.inr (.inr (.inr (fun i => some (G.2.2 (10 * r + i))))))) := by
  unfold tt_cell
  rw [if_neg (by omega), if_neg (by omega), if_pos (by omega), show 33 + r - 33 = r by omega]
theorem tt_eB {G : tt_G} {S : tt_St} {r : Nat} (hr : r < 3) : tt_cell G S (36 + r) = .inr (0, [.ref (G.2.2 (39 + r)), .ref (G.2.2 (42 + r)), .int (S r 11)]) := by
  unfold tt_cell
  rw [if_neg (by omega), if_neg (by omega), if_neg (by omega), if_pos (by omega), show 36 + r - 36 = r by omega, show 36 + r + 3 = 39 + r by omega, show 36 + r + 6 = 42 + r by omega]
theorem tt_eCu {G : tt_G} {S : tt_St} {r : Nat} (hr : r < 3) : tt_cell G S (39 + r) = .inl (G.2.1 0, 20, .inl (S (6 + r))) := by
  unfold tt_cell
  rw [if_neg (by omega), if_neg (by omega), if_neg (by omega), if_neg (by omega), if_pos (by omega), show 39 + r - 33 = 6 + r by omega]
theorem tt_eCo {G : tt_G} {S : tt_St} {r : Nat} (hr : r < 3) : tt_cell G S (42 + r) = .inl (G.2.1 0, 20, .inl (S (9 + r))) := by
  unfold tt_cell
  rw [if_neg (by omega), if_neg (by omega), if_neg (by omega), if_neg (by omega), if_neg (by omega), if_pos (by omega), show 42 + r - 33 = 9 + r by omega]
theorem tt_eSp {G : tt_G} {S : tt_St} {r : Nat} (hr : r < 3) : tt_cell G S (45 + r) = .inl (G.2.1 0, 10, .inl (S (12 + r))) := by
  unfold tt_cell
  rw [if_neg (by omega), if_neg (by omega), if_neg (by omega), if_neg (by omega), if_neg (by omega), if_neg (by omega), if_pos (by omega), show 45 + r - 33 = 12 + r by omega]
theorem tt_eS {G : tt_G} {S : tt_St} {k : Nat} (hk : k < 4) : tt_cell G S (48 + k) = .inr (3, [.ref (G.2.2 (52 + k)), .int (S 3 (10 + k)), .int (S 3 (20 + k))]) := by
  unfold tt_cell
  rw [if_neg (by omega), if_neg (by omega), if_neg (by omega), if_neg (by omega), if_neg (by omega), if_neg (by omega), if_neg (by omega), if_pos (by omega), show 48 + k + 4 = 52 + k by omega, show 48 + k - 38 = 10 + k by omega, show 48 + k - 28 = 20 + k by omega]
theorem tt_eN {G : tt_G} {S : tt_St} {k : Nat} (hk : k < 4) : tt_cell G S (52 + k) = .inl (G.2.1 0, 40, .inl (S (15 + k))) := by
  unfold tt_cell
  rw [if_neg (by omega), if_neg (by omega), if_neg (by omega), if_neg (by omega), if_neg (by omega), if_neg (by omega), if_neg (by omega), if_neg (by omega), if_pos (by omega), show 52 + k - 37 = 15 + k by omega]
theorem tt_eTp {G : tt_G} {S : tt_St} : tt_cell G S 56 = .inr (4, [.ref (G.2.2 57), .int (S 3 1)]) := rfl
theorem tt_eBy {G : tt_G} {S : tt_St} : tt_cell G S 57 = .inl (G.2.1 0, 120, .inl (S 5)) := rfl
theorem tt_eRd {G : tt_G} {S : tt_St} : tt_cell G S 58 = .inr (5, [.ref (G.2.2 56), .int (S 3 2), .int (S 3 3), .int (S 3 4), .int (S 3 5), .int (S 3 6)]) := rfl
theorem tt_eSh {G : tt_G} {S : tt_St} : tt_cell G S 59 = .inl (G.2.1 2, 4, .inr (.inr (.inr (.inr (fun i => some (G.2.2 (48 + i))))))) := rfl
theorem tt_eF {G : tt_G} {S : tt_St} : tt_cell G S 60 = .inl (G.2.1 0, 7, .inl (S 4)) := rfl
theorem tt_eT {G : tt_G} {S : tt_St} : tt_cell G S 61 = .inr (6, [.ref (G.2.2 30), .ref (G.2.2 31), .ref (G.2.2 32), .int (S 3 0), .ref (G.2.2 56), .ref (G.2.2 58), .ref (G.2.2 59), .ref (G.2.2 60)]) := rfl
/-- other cells, where one place of an object's row changes -/
theorem tt_oth {G : tt_G} {S : tt_St} {a k j : Nat} {v : Int32} (hj : j < 62) (ha : a < 4)
    (h1 : ∀ i, i < 7 → j < 30 → ¬ (j / 10 = a ∧ 12 + 7 * (j % 10) + i = k)) (h2 : 30 ≤ j → j < 33 → ¬ (j - 30 = a ∧ k < 11)) (h3 : 36 ≤ j → j < 39 → ¬ (j - 36 = a ∧ k = 11))
    (h4 : 48 ≤ j → j < 52 → a = 3 → k ≠ j - 38 ∧ k ≠ j - 28) (h5 : j = 56 → a = 3 → k ≠ 1) (h6 : j = 58 → a = 3 → ¬ (2 ≤ k ∧ k ≤ 6)) (h7 : j = 61 → a = 3 → k ≠ 0) : tt_cell G (tt_up S a k v) j = tt_cell G S j := by
  unfold tt_cell
  by_cases c1 : j < 30
  · have q0 := h1 0 (by omega) c1
    have q1 := h1 1 (by omega) c1
    have q2 := h1 2 (by omega) c1
    have q3 := h1 3 (by omega) c1
    have q4 := h1 4 (by omega) c1
    have q5 := h1 5 (by omega) c1
    have q6 := h1 6 (by omega) c1
    rw [if_pos c1, if_pos c1, tt_up_ne (by omega), tt_up_ne (by omega), tt_up_ne (by omega), tt_up_ne (by omega), tt_up_ne (by omega), tt_up_ne (by omega), tt_up_ne (by omega)]
  rw [if_neg c1, if_neg c1]
  by_cases c2 : j < 33
  · have q := h2 (by omega) c2
    rw [if_pos c2, if_pos c2, tt_up_ne (by omega), tt_up_ne (by omega), tt_up_ne (by omega), tt_up_ne (by omega), tt_up_ne (by omega), tt_up_ne (by omega), tt_up_ne (by omega), tt_up_ne (by omega), tt_up_ne (by omega), tt_up_ne (by omega), tt_up_ne (by omega)]
  rw [if_neg c2, if_neg c2]
  by_cases c3 : j < 36
  · rw [if_pos c3, if_pos c3]
  rw [if_neg c3, if_neg c3]
  by_cases c4 : j < 39
  · have q := h3 (by omega) c4
    rw [if_pos c4, if_pos c4, tt_up_ne (by omega)]
  rw [if_neg c4, if_neg c4]
  by_cases c5 : j < 42
  · rw [if_pos c5, if_pos c5, tt_up_row (by omega)]
  rw [if_neg c5, if_neg c5]
  by_cases c6 : j < 45
  · rw [if_pos c6, if_pos c6, tt_up_row (by omega)]
  rw [if_neg c6, if_neg c6]
  by_cases c7 : j < 48
  · rw [if_pos c7, if_pos c7, tt_up_row (by omega)]
  rw [if_neg c7, if_neg c7]
  by_cases c8 : j < 52
  · have q := h4 (by omega) c8
    rw [if_pos c8, if_pos c8, tt_up_ne (by omega), tt_up_ne (by omega)]
  rw [if_neg c8, if_neg c8]
  by_cases c9 : j < 56
  · rw [if_pos c9, if_pos c9, tt_up_row (by omega)]
  rw [if_neg c9, if_neg c9]
  by_cases d1 : j = 56
  · have q := h5 d1
    rw [if_pos d1, if_pos d1, tt_up_ne (by omega)]
  rw [if_neg d1, if_neg d1]
  by_cases d2 : j = 57
  · rw [if_pos d2, if_pos d2, tt_up_row (by omega)]
  rw [if_neg d2, if_neg d2]
  by_cases d3 : j = 58
  · have q := h6 d3
    rw [if_pos d3, if_pos d3, tt_up_ne (by omega), tt_up_ne (by omega), tt_up_ne (by omega), tt_up_ne (by omega), tt_up_ne (by omega)]
  rw [if_neg d3, if_neg d3]
  by_cases d4 : j = 59
  · rw [if_pos d4, if_pos d4]
  rw [if_neg d4, if_neg d4]
  by_cases d5 : j = 60
  · rw [if_pos d5, if_pos d5, tt_up_row (by omega)]
  have q := h7 (by omega)
  rw [if_neg d5, if_neg d5, tt_up_ne (by omega)]
/-- other cells, where a row of an array changes -/
theorem tt_othR {G : tt_G} {S : tt_St} {a j : Nat} {f : Nat → Int32} (hj : j < 62) (ha : 4 ≤ a) (h1 : 39 ≤ j → j < 48 → j - 33 ≠ a) (h2 : 52 ≤ j → j < 56 → j - 37 ≠ a) (h3 : j = 57 → a ≠ 5) (h4 : j = 60 → a ≠ 4) : tt_cell G (tt_upR S a f) j = tt_cell G S j := by
  have z : ∀ i, i < 4 → tt_upR S a f i = S i := fun i hi => tt_upR_row (by omega)
  unfold tt_cell
  by_cases c1 : j < 30
  · rw [if_pos c1, if_pos c1, z (j / 10) (by omega)]
  rw [if_neg c1, if_neg c1]
  by_cases c2 : j < 33
  · rw [if_pos c2, if_pos c2, z (j - 30) (by omega)]
  rw [if_neg c2, if_neg c2]
  by_cases c3 : j < 36
  · rw [if_pos c3, if_pos c3]
  rw [if_neg c3, if_neg c3]
  by_cases c4 : j < 39
  · rw [if_pos c4, if_pos c4, z (j - 36) (by omega)]
  rw [if_neg c4, if_neg c4]
  by_cases c5 : j < 42
  · rw [if_pos c5, if_pos c5, tt_upR_row (h1 (by omega) (by omega))]
  rw [if_neg c5, if_neg c5]
  by_cases c6 : j < 45
  · rw [if_pos c6, if_pos c6, tt_upR_row (h1 (by omega) (by omega))]
  rw [if_neg c6, if_neg c6]
  by_cases c7 : j < 48
  · rw [if_pos c7, if_pos c7, tt_upR_row (h1 (by omega) (by omega))]
  rw [if_neg c7, if_neg c7]
  by_cases c8 : j < 52
  · rw [if_pos c8, if_pos c8, z 3 (by omega)]
  rw [if_neg c8, if_neg c8]
  by_cases c9 : j < 56
  · rw [if_pos c9, if_pos c9, tt_upR_row (h2 (by omega) (by omega))]
  rw [if_neg c9, if_neg c9, z 3 (by omega)]
  by_cases d1 : j = 56
  · rw [if_pos d1, if_pos d1]
  rw [if_neg d1, if_neg d1]
  by_cases d2 : j = 57
  · rw [if_pos d2, if_pos d2, tt_upR_row (Ne.symm (h3 d2))]
  rw [if_neg d2, if_neg d2]
  by_cases d3 : j = 58
  · rw [if_pos d3, if_pos d3]
  rw [if_neg d3, if_neg d3]
  by_cases d4 : j = 59
  · rw [if_pos d4, if_pos d4]
  rw [if_neg d4, if_neg d4]
  by_cases d5 : j = 60
  · rw [if_pos d5, if_pos d5, tt_upR_row (Ne.symm (h4 d5))]
  rw [if_neg d5, if_neg d5]
theorem tt_sD {G : tt_G} {S : tt_St} {r d k : Nat} {v : Int32} (hr : r < 3) (hd : d < 10) (hk : k < 7) : g_set 62 (tt_cell G) S (10 * r + d) (.inr (1, ([.int (S r (12 + 7 * d)), .int (S r (13 + 7 * d)), .int (S r (14 + 7 * d)), .int (S r (15 + 7 * d)), .int (S r (16 + 7 * d)), .int (S r (17 + 7 * d)), .int (S r (18 + 7 * d))] : List Value).set k (.int v))) (tt_up S r (12 + k + 7 * d) v) := by
  intro j hj
  by_cases e : j = 10 * r + d
  · subst e
    rw [if_pos rfl, tt_eD hr hd]
    rcases (show k = 0 ∨ k = 1 ∨ k = 2 ∨ k = 3 ∨ k = 4 ∨ k = 5 ∨ k = 6 by omega) with rfl | rfl | rfl | rfl | rfl | rfl | rfl <;> simp [tt_up_at]
  · rw [if_neg e]
    exact tt_oth hj (by omega) (fun i hi h => by omega) (fun h h2 => by omega) (fun h h2 => by omega) (fun _ _ _ => by omega) (fun _ _ => by omega) (fun _ _ => by omega) (fun _ _ => by omega)
theorem tt_sR {G : tt_G} {S : tt_St} {r k : Nat} {v : Int32} (hr : r < 3) (hk : k < 11) : g_set 62 (tt_cell G) S (30 + r) (.inr (2, ([.ref (G.2.2 (33 + r)), .int (S r 0), .int (S r 1), .int (S r 2), .int (S r 3), .int (S r 4), .int (S r 5), .int (S r 6), .int (S r 7), .int (S r 8), .int (S r 9), .int (S r 10), .ref (G.2.2 (36 + r)), .ref (G.2.2 (45 + r))] : List Value).set (k + 1) (.int v))) (tt_up S r k v) := by
  intro j hj
  by_cases e : j = 30 + r
  · subst e
    rw [if_pos rfl, tt_eR hr]
    rcases (show k = 0 ∨ k = 1 ∨ k = 2 ∨ k = 3 ∨ k = 4 ∨ k = 5 ∨ k = 6 ∨ k = 7 ∨ k = 8 ∨ k = 9 ∨ k = 10 by omega) with rfl | rfl | rfl | rfl | rfl | rfl | rfl | rfl | rfl | rfl | rfl <;> simp [tt_up_at]
  · rw [if_neg e]
    exact tt_oth hj (by omega) (fun i hi h => by omega) (fun h h2 => by omega) (fun h h2 => by omega) (fun _ _ _ => by omega) (fun _ _ => by omega) (fun _ _ => by omega) (fun _ _ => by omega)
theorem tt_sB {G : tt_G} {S : tt_St} {r : Nat} {v : Int32} (hr : r < 3) : g_set 62 (tt_cell G) S (36 + r) (.inr (0, ([.ref (G.2.2 (39 + r)), .ref (G.2.2 (42 + r)), .int (S r 11)] : List Value).set 2 (.int v))) (tt_up S r 11 v) := by
  intro j hj
  by_cases e : j = 36 + r
  · subst e
    rw [if_pos rfl, tt_eB hr, tt_up_self]
    rfl
  · rw [if_neg e]
    exact tt_oth hj (by omega) (fun i hi h => by omega) (fun h h2 => by omega) (fun h h2 => by omega) (fun _ _ _ => by omega) (fun _ _ => by omega) (fun _ _ => by omega) (fun _ _ => by omega)
theorem tt_sSb {G : tt_G} {S : tt_St} {k : Nat} {v : Int32} (hk : k < 4) : g_set 62 (tt_cell G) S (48 + k) (.inr (3, ([.ref (G.2.2 (52 + k)), .int (S 3 (10 + k)), .int (S 3 (20 + k))] : List Value).set 1 (.int v))) (tt_up S 3 (10 + k) v) := by
  intro j hj
  by_cases e : j = 48 + k
  · subst e
    rw [if_pos rfl, tt_eS hk, tt_up_self, tt_up_ne (by omega)]
    rfl
  · rw [if_neg e]
    exact tt_oth hj (by omega) (fun i hi h => by omega) (fun h h2 => by omega) (fun h h2 => by omega) (fun _ _ _ => by omega) (fun _ _ => by omega) (fun _ _ => by omega) (fun _ _ => by omega)
theorem tt_sSz {G : tt_G} {S : tt_St} {k : Nat} {v : Int32} (hk : k < 4) : g_set 62 (tt_cell G) S (48 + k) (.inr (3, ([.ref (G.2.2 (52 + k)), .int (S 3 (10 + k)), .int (S 3 (20 + k))] : List Value).set 2 (.int v))) (tt_up S 3 (20 + k) v) := by
  intro j hj
  by_cases e : j = 48 + k
  · subst e
    rw [if_pos rfl, tt_eS hk, tt_up_self, tt_up_ne (by omega)]
    rfl
  · rw [if_neg e]
    exact tt_oth hj (by omega) (fun i hi h => by omega) (fun h h2 => by omega) (fun h h2 => by omega) (fun _ _ _ => by omega) (fun _ _ => by omega) (fun _ _ => by omega) (fun _ _ => by omega)
theorem tt_sTp {G : tt_G} {S : tt_St} {v : Int32} : g_set 62 (tt_cell G) S 56 (.inr (4, ([.ref (G.2.2 57), .int (S 3 1)] : List Value).set 1 (.int v))) (tt_up S 3 1 v) := by
  intro j hj
  by_cases e : j = 56
  · subst e
    rw [if_pos rfl, tt_eTp, tt_up_self]
    rfl
  · rw [if_neg e]
    exact tt_oth hj (by omega) (fun i hi h => by omega) (fun h h2 => by omega) (fun h h2 => by omega) (fun _ _ _ => by omega) (fun _ _ => by omega) (fun _ _ => by omega) (fun _ _ => by omega)
theorem tt_sRd {G : tt_G} {S : tt_St} {k : Nat} {v : Int32} (hk : k < 5) : g_set 62 (tt_cell G) S 58 (.inr (5, ([.ref (G.2.2 56), .int (S 3 2), .int (S 3 3), .int (S 3 4), .int (S 3 5), .int (S 3 6)] : List Value).set (k + 1) (.int v))) (tt_up S 3 (k + 2) v) := by
  intro j hj
  by_cases e : j = 58
  · subst e
    rw [if_pos rfl, tt_eRd]
    rcases (show k = 0 ∨ k = 1 ∨ k = 2 ∨ k = 3 ∨ k = 4 by omega) with rfl | rfl | rfl | rfl | rfl <;> simp [tt_up_at]
  · rw [if_neg e]
    exact tt_oth hj (by omega) (fun i hi h => by omega) (fun h h2 => by omega) (fun h h2 => by omega) (fun _ _ _ => by omega) (fun _ _ => by omega) (fun _ _ => by omega) (fun _ _ => by omega)
theorem tt_sT {G : tt_G} {S : tt_St} {v : Int32} : g_set 62 (tt_cell G) S 61 (.inr (6, ([.ref (G.2.2 30), .ref (G.2.2 31), .ref (G.2.2 32), .int (S 3 0), .ref (G.2.2 56), .ref (G.2.2 58), .ref (G.2.2 59), .ref (G.2.2 60)] : List Value).set 3 (.int v))) (tt_up S 3 0 v) := by
  intro j hj
  by_cases e : j = 61
  · subst e
    rw [if_pos rfl, tt_eT, tt_up_self]
    rfl
  · rw [if_neg e]
    exact tt_oth hj (by omega) (fun i hi h => by omega) (fun h h2 => by omega) (fun h h2 => by omega) (fun _ _ _ => by omega) (fun _ _ => by omega) (fun _ _ => by omega) (fun _ _ => by omega)
theorem tt_sCu {G : tt_G} {S : tt_St} {r : Nat} {f : Nat → Int32} (hr : r < 3) : g_set 62 (tt_cell G) S (39 + r) (.inl (G.2.1 0, 20, .inl f)) (tt_upR S (6 + r) f) := by
  intro j hj
  by_cases e : j = 39 + r
  · subst e
    rw [if_pos rfl, tt_eCu hr, tt_upR_self]
  · rw [if_neg e]
    exact tt_othR hj (by omega) (fun _ _ => by omega) (fun _ _ => by omega) (fun _ => by omega) (fun _ => by omega)
theorem tt_sCo {G : tt_G} {S : tt_St} {r : Nat} {f : Nat → Int32} (hr : r < 3) : g_set 62 (tt_cell G) S (42 + r) (.inl (G.2.1 0, 20, .inl f)) (tt_upR S (9 + r) f) := by
  intro j hj
  by_cases e : j = 42 + r
  · subst e
    rw [if_pos rfl, tt_eCo hr, tt_upR_self]
  · rw [if_neg e]
    exact tt_othR hj (by omega) (fun _ _ => by omega) (fun _ _ => by omega) (fun _ => by omega) (fun _ => by omega)
theorem tt_sSp {G : tt_G} {S : tt_St} {r : Nat} {f : Nat → Int32} (hr : r < 3) : g_set 62 (tt_cell G) S (45 + r) (.inl (G.2.1 0, 10, .inl f)) (tt_upR S (12 + r) f) := by
  intro j hj
  by_cases e : j = 45 + r
  · subst e
    rw [if_pos rfl, tt_eSp hr, tt_upR_self]
  · rw [if_neg e]
    exact tt_othR hj (by omega) (fun _ _ => by omega) (fun _ _ => by omega) (fun _ => by omega) (fun _ => by omega)
theorem tt_sN {G : tt_G} {S : tt_St} {k : Nat} {f : Nat → Int32} (hk : k < 4) : g_set 62 (tt_cell G) S (52 + k) (.inl (G.2.1 0, 40, .inl f)) (tt_upR S (15 + k) f) := by
  intro j hj
  by_cases e : j = 52 + k
  · subst e
    rw [if_pos rfl, tt_eN hk, tt_upR_self]
  · rw [if_neg e]
    exact tt_othR hj (by omega) (fun _ _ => by omega) (fun _ _ => by omega) (fun _ => by omega) (fun _ => by omega)
theorem tt_sBy {G : tt_G} {S : tt_St} {f : Nat → Int32} : g_set 62 (tt_cell G) S 57 (.inl (G.2.1 0, 120, .inl f)) (tt_upR S 5 f) := by
  intro j hj
  by_cases e : j = 57
  · subst e
    rw [if_pos rfl, tt_eBy, tt_upR_self]
  · rw [if_neg e]
    exact tt_othR hj (by omega) (fun _ _ => by omega) (fun _ _ => by omega) (fun _ => by omega) (fun _ => by omega)
theorem tt_sF {G : tt_G} {S : tt_St} {f : Nat → Int32} : g_set 62 (tt_cell G) S 60 (.inl (G.2.1 0, 7, .inl f)) (tt_upR S 4 f) := by
  intro j hj
  by_cases e : j = 60
  · subst e
    rw [if_pos rfl, tt_eF, tt_upR_self]
  · rw [if_neg e]
    exact tt_othR hj (by omega) (fun _ _ => by omega) (fun _ _ => by omega) (fun _ => by omega) (fun _ => by omega)
