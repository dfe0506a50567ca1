/-! the text: digits; the next token on both sides -/
theorem digitsL : ∀ (m m' : Nat) (T X : tt_St) (V : Int64), TP T X → mt X → T 3 4 = X 0 13 → lp_mu (X 0 6) (X 0 13) < m → lp_mu (X 0 6) (X 0 13) < m' → (0 ≤ V.toInt ∧ V.toInt ≤ 100000) → (T 3 5).toInt = min V.toInt 10000 →
    only 5 T (f5_passDigits_L5 m T) ∧ (f5_passDigits_L5 m T) 3 4 = (f7_next_L185 m' X V).1 0 13 ∧ (0 ≤ (f7_next_L185 m' X V).2.toInt ∧ (f7_next_L185 m' X V).2.toInt ≤ 100000) ∧ ((f5_passDigits_L5 m T) 3 5).toInt = min (f7_next_L185 m' X V).2.toInt 10000 ∧ f5_isDigit (f5_byteAt T ((f7_next_L185 m' X V).1 0 13)) = 0 := by
  intro m
  induction m with
  | zero => intro m' T X V _ _ _ hm; exact absurd hm (Nat.not_lt_zero _)
  | succ m ih =>
    intro m' T X V hT hX e4 hm hm' hb hV
    rcases m' with _ | m'
    · exact absurd hm' (Nat.not_lt_zero _)
    rw [f5_passDigits_L5, f7_next_L185]
    dsimp only
    rw [hT.1, e4]
    obtain ⟨x1, x2, x3, x4⟩ := id hX
    obtain ⟨b1, b2, b3⟩ := bv_at hT x1
    by_cases c : X 0 6 ≤ X 0 13
    · rw [lp_le] at c
      have e := b2 c
      have z : f5_isDigit (f5_byteAt T (X 0 13)) = 0 := by rw [e]; decide
      rw [if_pos (by rw [lp_le]; exact c), if_pos ((bv_d b1).mp z)]
      exact ⟨fun _ _ _ => rfl, e4, hb, hV, z⟩
    rw [if_neg c]
    by_cases z : f5_isDigit (f5_byteAt T (X 0 13)) = 0
    · rw [if_pos z, if_pos ((bv_d b1).mp z)]
      exact ⟨fun _ _ _ => rfl, e4, hb, hV, z⟩
    rw [if_neg z, if_neg (fun q => z ((bv_d b1).mpr q))]
    obtain ⟨l1, l2⟩ := bv_d1 b1 z
    have e10 : (10 : Int32).toInt = 10 := rfl
    have e48 : (48 : Int32).toInt = 48 := rfl
    have e10k : (10000 : Int32).toInt = 10000 := rfl
    have a1 : ((T 3 5) * (10 : Int32)).toInt = (T 3 5).toInt * 10 := by rw [lp_mul (by rw [e10]; omega) (by rw [e10]; omega), e10]
    have a2 : (((T 3 5) * (10 : Int32)) + f5_byteAt T (X 0 13)).toInt = (T 3 5).toInt * 10 + (f5_byteAt T (X 0 13)).toInt := by rw [lp_add (by omega) (by omega), a1]
    have a3 : ((((T 3 5) * (10 : Int32)) + f5_byteAt T (X 0 13)) - (48 : Int32)).toInt = (T 3 5).toInt * 10 + (f5_byteAt T (X 0 13)).toInt - 48 := by rw [lp_sub (by omega) (by omega), a2, e48]
    have e4' : ∀ v : Int32, tt_up T 3 5 v 3 4 = X 0 13 := fun v => (tt_up_ne (by omega)).trans e4
    rw [e4']
    have step : ∀ (w : Int32) (V' : Int64), (0 ≤ V'.toInt ∧ V'.toInt ≤ 100000) → w.toInt = min V'.toInt 10000 →
      only 5 T (f5_passDigits_L5 m (tt_up (tt_up T 3 5 w) 3 4 (X 0 13 + (1 : Int32)))) ∧ (f5_passDigits_L5 m (tt_up (tt_up T 3 5 w) 3 4 (X 0 13 + (1 : Int32)))) 3 4 = (f7_next_L185 m' (tt_up X 0 13 (X 0 13 + (1 : Int32))) V').1 0 13 ∧ (0 ≤ (f7_next_L185 m' (tt_up X 0 13 (X 0 13 + (1 : Int32))) V').2.toInt ∧ (f7_next_L185 m' (tt_up X 0 13 (X 0 13 + (1 : Int32))) V').2.toInt ≤ 100000) ∧ ((f5_passDigits_L5 m (tt_up (tt_up T 3 5 w) 3 4 (X 0 13 + (1 : Int32)))) 3 5).toInt = min (f7_next_L185 m' (tt_up X 0 13 (X 0 13 + (1 : Int32))) V').2.toInt 10000 ∧ f5_isDigit (f5_byteAt T ((f7_next_L185 m' (tt_up X 0 13 (X 0 13 + (1 : Int32))) V').1 0 13)) = 0 := by
      intro w V' hb' hV'
      have o1 : only 5 T (tt_up (tt_up T 3 5 w) 3 4 (X 0 13 + (1 : Int32))) := fun n k hk => by rw [tt_up_ne (by omega), tt_up_ne (by omega)]
      have e5 : tt_up (tt_up T 3 5 w) 3 4 (X 0 13 + (1 : Int32)) 5 = T 5 := by rw [tt_up_row (by decide), tt_up_row (by decide)]
      have e13 : tt_up X 0 13 (X 0 13 + (1 : Int32)) 0 13 = X 0 13 + (1 : Int32) := tt_up_self _ _ _ _
      have e6 : tt_up X 0 13 (X 0 13 + (1 : Int32)) 0 6 = X 0 6 := tt_up_ne (by omega)
      have T1 : TP (tt_up (tt_up T 3 5 w) 3 4 (X 0 13 + (1 : Int32))) (tt_up X 0 13 (X 0 13 + (1 : Int32))) := only_TP hT (by decide) o1 e6 (tt_up_row (by decide))
      obtain ⟨g1, g2, g3, g4, g5⟩ := ih m' (tt_up (tt_up T 3 5 w) 3 4 (X 0 13 + (1 : Int32))) (tt_up X 0 13 (X 0 13 + (1 : Int32))) V' T1 (mt_inc hX c).1 (by rw [tt_up_self, e13]) (by rw [e6, e13]; exact lp_dec' c hm) (by rw [e6, e13]; exact lp_dec' c hm') hb' (by rw [tt_up_ne (by omega), tt_up_self]; exact hV')
      refine ⟨fun n k hk => (g1 n k hk).trans (o1 n k hk), g2, g3, g4, ?_⟩
      have eb : ∀ p : Int32, f5_byteAt (tt_up (tt_up T 3 5 w) 3 4 (X 0 13 + (1 : Int32))) p = f5_byteAt T p := fun p => by
        unfold f5_byteAt
        rw [e5, tt_up_ne (by omega), tt_up_ne (by omega)]
      rw [eb] at g5
      exact g5
    have e99 : (9999 : Int64).toInt = 9999 := rfl
    have eL : (10 : Int64).toInt = 10 := rfl
    have eM : (48 : Int64).toInt = 48 := rfl
    by_cases d : lg_cmp V (9999 : Int64) ≤ 0
    · rw [if_pos d]
      rw [gt_v, e99] at d
      have el : (V * (10 : Int64) + (f7_byteAt X (X 0 13)).toInt64).toInt = V.toInt * 10 + (f7_byteAt X (X 0 13)).toInt := by
        rw [l64 ⟨hb.1, by omega⟩ (by rw [eL]; omega) (by omega), eL]
      have el2 : ((V * (10 : Int64) + (f7_byteAt X (X 0 13)).toInt64) - (48 : Int64)).toInt = V.toInt * 10 + (f7_byteAt X (X 0 13)).toInt - 48 := by
        rw [Int64.toInt_sub, el, eM, Int.bmod_eq_of_le (by omega) (by omega)]
      refine step _ _ (by rw [el2]; omega) ?_
      rw [el2]
      by_cases q : (10000 : Int32) < ((((T 3 5) * (10 : Int32)) + f5_byteAt T (X 0 13)) - (48 : Int32))
      · rw [if_pos q]
        rw [lp_lt] at q
        omega
      · rw [if_neg q]
        rw [lp_lt] at q
        omega
    · rw [if_neg d]
      rw [gt_v, e99] at d
      refine step _ _ hb ?_
      rw [if_pos (by rw [lp_lt]; omega)]
      omega
/-- a token, on both sides -/
def tk (T X : tt_St) (V : Int64) : Prop := T 3 2 = X 0 14 ∧ T 3 3 = X 0 15 ∧ (0 ≤ (T 3 3).toInt ∧ (T 3 3).toInt ≤ (T 3 4).toInt ∧ (T 3 4).toInt ≤ (X 0 6).toInt) ∧ (¬ X 0 14 = (4 : Int32) → T 3 4 = X 0 13) ∧ (X 0 14 = 0 ∨ (T 3 3).toInt < (T 3 4).toInt) ∧ (X 0 14 = (1 : Int32) → (∀ j : Nat, (T 3 3).toNatClampNeg ≤ j → j < (T 3 4).toNatClampNeg → 97 ≤ (T 5 j).toInt ∧ (T 5 j).toInt ≤ 122) ∧ V.toInt = cw (lt5 T) (T 3 3).toNatClampNeg ((T 3 4).toNatClampNeg - (T 3 3).toNatClampNeg)) ∧ (X 0 14 = (2 : Int32) → 0 ≤ V.toInt ∧ (T 3 5).toInt = min V.toInt 10000)
/-- all but the class's token -/
def af (T T' : tt_St) : Prop := ∀ n k : Nat, ¬ (n = 3 ∧ 2 ≤ k ∧ k ≤ 5) → T' n k = T n k
theorem af_rfl (T : tt_St) : af T T := fun _ _ _ => rfl
theorem af_tr {T T1 T2 : tt_St} (h1 : af T T1) (h2 : af T1 T2) : af T T2 := fun n k a => (h2 n k a).trans (h1 n k a)
theorem af_up {T : tt_St} {k : Nat} {v : Int32} (h : 2 ≤ k ∧ k ≤ 5) : af T (tt_up T 3 k v) := fun n j a => tt_up_ne (by omega)
noncomputable def TOKC (S3 : tt_St) : tt_St := let x5 : Int32 := S3 3 3; let S6 : tt_St := tt_up S3 3 4 x5; let z7 : Int32 := f5_byteAt S6 (S6 3 3); if 0 ≤ z7 then (let z9 : Int32 := f5_isLetter z7; if z9 = 0 then (let z11 : Int32 := f5_isDigit z7; if z11 = 0 then (if z7 = (59 : Int32) then (let S17 : tt_St := tt_up S6 3 2 (3 : Int32); let x18 : Int32 := (S17 3 3) + (1 : Int32); let S19 : tt_St := tt_up S17 3 4 x18; S19) else (let S14 : tt_St := tt_up S6 3 2 (4 : Int32); let x15 : Int32 := (S14 3 3) + (1 : Int32); let S16 : tt_St := tt_up S14 3 4 x15; S16)) else (let S20 : tt_St := tt_up S6 3 2 (2 : Int32); let S21 : tt_St := f5_passDigits S20; S21)) else (let S22 : tt_St := tt_up S6 3 2 (1 : Int32); let S23 : tt_St := f5_passLetters S22; S23)) else (let S24 : tt_St := tt_up S6 3 2 (0 : Int32); S24)
noncomputable def TOKR (S1 : tt_St) : tt_St × Int64 := let x5 : Int32 := S1 0 13; let S6 : tt_St := tt_up S1 0 15 x5; let V7 : Int64 := (0 : Int64); let z8 : Int32 := f7_byteAt S6 (S6 0 13); if (S6 0 13) = (S6 0 6) then (let S48 : tt_St := tt_up S6 0 14 (0 : Int32); (S48, V7)) else (if z8 = (59 : Int32) then (let S45 : tt_St := tt_up S6 0 14 (3 : Int32); let x46 : Int32 := (S45 0 13) + (1 : Int32); let S47 : tt_St := tt_up S45 0 13 x46; (S47, V7)) else (let z11 : Int32 := f7_letter z8; if z11 ≤ 0 then (let z13 : Int32 := f7_isDigit z8; if z13 = 0 then (let S15 : tt_St := tt_up S6 0 14 (4 : Int32); (S15, V7)) else (let S16 : tt_St := tt_up S6 0 14 (2 : Int32); f7_next_L185 (lp_mu (S16 0 6) (S16 0 13) + 1) S16 V7)) else (let S30 : tt_St := tt_up S6 0 14 (1 : Int32); f7_next_L103 (lp_mu (S30 0 6) (S30 0 13) + 1) S30 V7)))
theorem adv_step (n : Nat) (T : tt_St) : f5_advance_L8 (n + 1) T = if (T 3 1) ≤ (T 3 3) then TOKC T else if f5_byteAt T (T 3 3) = (32 : Int32) then f5_advance_L8 n (tt_up T 3 3 (T 3 3 + (1 : Int32))) else TOKC T := by
  rw [f5_advance_L8]
  rfl
theorem nxt_step (n : Nat) (X : tt_St) (V : Int64) : f7_next_L0 (n + 1) X V = if f7_byteAt X (X 0 13) = (32 : Int32) then f7_next_L0 n (tt_up X 0 13 (X 0 13 + (1 : Int32))) V else TOKR X := by
  rw [f7_next_L0]
  rfl
theorem tok_sim {T X : tt_St} (hT : TP T X) (hX : mt X) (e3 : T 3 3 = X 0 13) : tk (TOKC T) (TOKR X).1 (TOKR X).2 ∧ (TOKC T) 3 3 = T 3 3 ∧ af T (TOKC T) := by
  obtain ⟨x1, x2, x3, x4⟩ := id hX
  obtain ⟨b1, b2, b3⟩ := bv_at hT x1
  have eT : ∀ p : Int32, f5_byteAt (tt_up T 3 4 (T 3 3)) p = f5_byteAt T p := fun p => by
    unfold f5_byteAt
    rw [tt_up_ne (by omega), show tt_up T 3 4 (T 3 3) 5 = T 5 from tt_up_row (by decide)]
  have eX : f7_byteAt (tt_up X 0 15 (X 0 13)) (X 0 13) = f7_byteAt X (X 0 13) := bt_14 (by omega)
  have hT6 : tt_up T 3 4 (T 3 3) 3 3 = X 0 13 := (tt_up_ne (by omega)).trans e3
  have hX6 : tt_up X 0 15 (X 0 13) 0 13 = X 0 13 := tt_up_ne (by omega)
  have hX7 : tt_up X 0 15 (X 0 13) 0 6 = X 0 6 := tt_up_ne (by omega)
  have ec := cl_int x1
  unfold TOKC TOKR
  dsimp only
  rw [hX6, hX7, hT6, eT, eX]
  by_cases c : X 0 13 = X 0 6
  · have z := b2 (by rw [c]; omega)
    rw [if_pos c, if_neg (by rw [z]; decide)]
    dsimp only
    refine ⟨⟨?_, ?_, ⟨?_, ?_, ?_⟩, fun _ => ?_, Or.inl ?_, fun q => ?_, fun q => ?_⟩, ?_, af_tr (af_up (by omega)) (af_up (by omega))⟩
    · rw [tt_up_self, tt_up_self]
    · rw [tt_up_ne (by omega), tt_up_ne (by omega), tt_up_ne (by omega), tt_up_self]; exact e3
    · rw [tt_up_ne (by omega), tt_up_ne (by omega), e3]; exact x1
    · rw [tt_up_ne (by omega), tt_up_ne (by omega), tt_up_ne (by omega), tt_up_self]; exact Int.le_refl _
    · rw [tt_up_ne (by omega), tt_up_self, tt_up_ne (by omega), hX7, e3]; exact x2
    · rw [tt_up_ne (by omega), tt_up_self, tt_up_ne (by omega), tt_up_ne (by omega)]; exact e3
    · rw [tt_up_self]
    · rw [tt_up_self] at q; exact absurd q (by decide)
    · rw [tt_up_self] at q; exact absurd q (by decide)
    · rw [tt_up_ne (by omega), tt_up_ne (by omega)]
  have hlt : (X 0 13).toInt < (X 0 6).toInt := by
    have : (X 0 13).toInt ≠ (X 0 6).toInt := fun z => c (Int32.toInt_inj.mp z)
    omega
  have hc : ¬ X 0 6 ≤ X 0 13 := by rw [lp_le]; omega
  have hinc := lp_inc hc
  obtain ⟨b3, b4⟩ := b3 hlt
  rw [if_neg c, if_pos (by rw [lp_le, lp_0]; exact b4)]
  by_cases cl : f5_isLetter (f5_byteAt T (X 0 13)) = 0
  · rw [if_pos cl]
    by_cases cd : f5_isDigit (f5_byteAt T (X 0 13)) = 0
    · rw [if_pos cd]
      have e59 := bv_eq (c := (59 : Int32)) b1 (by decide)
      by_cases c9 : f5_byteAt T (X 0 13) = (59 : Int32)
      · rw [if_pos c9, if_pos (e59.mp c9)]
        have q1 : tt_up (tt_up T 3 4 (T 3 3)) 3 2 (3 : Int32) 3 3 = X 0 13 := (tt_up_ne (by omega)).trans hT6
        have q2 : tt_up (tt_up X 0 15 (X 0 13)) 0 14 (3 : Int32) 0 13 = X 0 13 := (tt_up_ne (by omega)).trans hX6
        rw [q1, q2]
        dsimp only
        refine ⟨⟨?_, ?_, ⟨?_, ?_, ?_⟩, fun _ => ?_, Or.inr ?_, fun q => ?_, fun q => ?_⟩, ?_, af_tr (af_tr (af_up (by omega)) (af_up (by omega))) (af_up (by omega))⟩
        · rw [tt_up_ne (by omega), tt_up_self, tt_up_ne (by omega), tt_up_self]
        · rw [tt_up_ne (by omega), q1, tt_up_ne (by omega), tt_up_ne (by omega), tt_up_self]
        · rw [tt_up_ne (by omega), q1]; exact x1
        · rw [tt_up_ne (by omega), q1, tt_up_self, hinc]; omega
        · rw [tt_up_self, hinc, tt_up_ne (by omega), tt_up_ne (by omega), hX7]; omega
        · rw [tt_up_self, tt_up_self]
        · rw [tt_up_ne (by omega), q1, tt_up_self, hinc]; omega
        · rw [tt_up_ne (by omega), tt_up_self] at q; exact absurd q (by decide)
        · rw [tt_up_ne (by omega), tt_up_self] at q; exact absurd q (by decide)
        · rw [tt_up_ne (by omega), q1]; exact e3.symm
      · rw [if_neg c9, if_neg (fun z => c9 (e59.mpr z)), if_pos ((bv_l b1).mp cl), if_pos ((bv_d b1).mp cd)]
        have q1 : tt_up (tt_up T 3 4 (T 3 3)) 3 2 (4 : Int32) 3 3 = X 0 13 := (tt_up_ne (by omega)).trans hT6
        rw [q1]
        dsimp only
        refine ⟨⟨?_, ?_, ⟨?_, ?_, ?_⟩, fun q => ?_, Or.inr ?_, fun q => ?_, fun q => ?_⟩, ?_, af_tr (af_tr (af_up (by omega)) (af_up (by omega))) (af_up (by omega))⟩
        · rw [tt_up_ne (by omega), tt_up_self, tt_up_self]
        · rw [tt_up_ne (by omega), q1, tt_up_ne (by omega), tt_up_self]
        · rw [tt_up_ne (by omega), q1]; exact x1
        · rw [tt_up_ne (by omega), q1, tt_up_self, hinc]; omega
        · rw [tt_up_self, hinc, tt_up_ne (by omega), hX7]; omega
        · rw [tt_up_self] at q; exact absurd rfl q
        · rw [tt_up_ne (by omega), q1, tt_up_self, hinc]; omega
        · rw [tt_up_self] at q; exact absurd q (by decide)
        · rw [tt_up_self] at q; exact absurd q (by decide)
        · rw [tt_up_ne (by omega), q1]; exact e3.symm
    · rw [if_neg cd]
      have n59 : ¬ f7_byteAt X (X 0 13) = (59 : Int32) := fun z => cd (by rw [(bv_eq (c := (59 : Int32)) b1 (by decide)).mpr z]; decide)
      rw [if_neg n59, if_pos ((bv_l b1).mp cl), if_neg (fun z => cd ((bv_d b1).mpr z))]
      unfold f5_passDigits
      dsimp only
      have q1 : tt_up (tt_up (tt_up T 3 4 (T 3 3)) 3 2 (2 : Int32)) 3 5 (0 : Int32) 3 4 = X 0 13 := by rw [tt_up_ne (by omega), tt_up_ne (by omega), tt_up_self]; exact e3
      have q2 : tt_up (tt_up X 0 15 (X 0 13)) 0 14 (2 : Int32) 0 13 = X 0 13 := (tt_up_ne (by omega)).trans hX6
      have q3 : tt_up (tt_up (tt_up T 3 4 (T 3 3)) 3 2 (2 : Int32)) 3 5 (0 : Int32) 3 1 = X 0 6 := by rw [tt_up_ne (by omega), tt_up_ne (by omega), tt_up_ne (by omega)]; exact hT.1
      have q4 : tt_up (tt_up X 0 15 (X 0 13)) 0 14 (2 : Int32) 0 6 = X 0 6 := (tt_up_ne (by omega)).trans hX7
      have q5 : tt_up (tt_up (tt_up T 3 4 (T 3 3)) 3 2 (2 : Int32)) 3 5 (0 : Int32) 5 = T 5 := by rw [tt_up_row (by decide), tt_up_row (by decide), tt_up_row (by decide)]
      have q6 : tt_up (tt_up (tt_up T 3 4 (T 3 3)) 3 2 (2 : Int32)) 3 5 (0 : Int32) 3 5 = 0 := tt_up_self _ _ _ _
      have q7 : tt_up (tt_up (tt_up T 3 4 (T 3 3)) 3 2 (2 : Int32)) 3 5 (0 : Int32) 3 2 = (2 : Int32) := by rw [tt_up_ne (by omega), tt_up_self]
      have q8 : tt_up (tt_up (tt_up T 3 4 (T 3 3)) 3 2 (2 : Int32)) 3 5 (0 : Int32) 3 3 = X 0 13 := by rw [tt_up_ne (by omega), tt_up_ne (by omega)]; exact hT6
      have q9 : tt_up (tt_up X 0 15 (X 0 13)) 0 14 (2 : Int32) 0 14 = (2 : Int32) := tt_up_self _ _ _ _
      have q10 : tt_up (tt_up X 0 15 (X 0 13)) 0 14 (2 : Int32) 0 15 = X 0 13 := by rw [tt_up_ne (by omega), tt_up_self]
      have qf : af T (tt_up (tt_up (tt_up T 3 4 (T 3 3)) 3 2 (2 : Int32)) 3 5 (0 : Int32)) := af_tr (af_tr (af_up (by omega)) (af_up (by omega))) (af_up (by omega))
      have qT : TP (tt_up (tt_up (tt_up T 3 4 (T 3 3)) 3 2 (2 : Int32)) 3 5 (0 : Int32)) (tt_up (tt_up X 0 15 (X 0 13)) 0 14 (2 : Int32)) := TP_cong hT (q3.trans hT.1.symm) q5 q4 (by rw [tt_up_row (by decide), tt_up_row (by decide)])
      have qX : mt (tt_up (tt_up X 0 15 (X 0 13)) 0 14 (2 : Int32)) := mt_up (mt_15 hX) (by omega) (by omega) (by omega)
      generalize tt_up (tt_up (tt_up T 3 4 (T 3 3)) 3 2 (2 : Int32)) 3 5 (0 : Int32) = T1 at *
      generalize tt_up (tt_up X 0 15 (X 0 13)) 0 14 (2 : Int32) = X1 at *
      rw [q3, q1, q4, q2]
      have z0 : (0 : Int64).toInt = 0 := rfl
      obtain ⟨g1, g2, g3, g4, g5⟩ := digitsL (lp_mu (X 0 6) (X 0 13) + 1) (lp_mu (X 0 6) (X 0 13) + 1) T1 X1 (0 : Int64) qT qX (by rw [q1, q2]) (by rw [q4, q2]; exact Nat.lt_succ_self _) (by rw [q4, q2]; exact Nat.lt_succ_self _) (by rw [z0]; omega) (by rw [q6, z0]; decide)
      obtain ⟨⟨m1, m2, m3⟩, m4, m5⟩ := nx_L185 (lp_mu (X 0 6) (X 0 13) + 1) X1 (0 : Int64) qX
      have m6 := m2.tp
      rw [q9] at m4
      rw [q10] at m5
      rw [q2] at m3
      rw [q4] at m6
      have m7 := m1.2.1
      rw [m6] at m7
      generalize f5_passDigits_L5 (lp_mu (X 0 6) (X 0 13) + 1) T1 = T2 at *
      have r2 : T2 3 2 = (2 : Int32) := (g1 3 2 (by omega)).trans q7
      have r3 : T2 3 3 = X 0 13 := (g1 3 3 (by omega)).trans q8
      have hs : (X 0 13).toInt < ((f7_next_L185 (lp_mu (X 0 6) (X 0 13) + 1) X1 (0 : Int64)).1 0 13).toInt := by
        have : ((f7_next_L185 (lp_mu (X 0 6) (X 0 13) + 1) X1 (0 : Int64)).1 0 13).toInt ≠ (X 0 13).toInt := fun z => by
          rw [Int32.toInt_inj.mp z] at g5
          have : f5_byteAt T1 (X 0 13) = f5_byteAt T (X 0 13) := by
            unfold f5_byteAt
            rw [q5, q3, hT.1]
          rw [this] at g5
          exact cd g5
        omega
      refine ⟨⟨by rw [r2, m4], by rw [r3, m5], ⟨by rw [r3]; exact x1, by rw [r3, g2]; omega, by rw [g2, m6]; exact m7⟩, fun _ => g2, Or.inr (by rw [r3, g2]; exact hs), fun q => ?_, fun _ => ⟨g3.1, g4⟩⟩, by rw [r3]; exact e3.symm, af_tr qf fun n k hk => g1 n k (by omega)⟩
      rw [m4] at q; exact absurd q (by decide)
  · rw [if_neg cl]
    have n59 : ¬ f7_byteAt X (X 0 13) = (59 : Int32) := fun z => cl (by rw [(bv_eq (c := (59 : Int32)) b1 (by decide)).mpr z]; decide)
    rw [if_neg n59, if_neg (fun z => cl ((bv_l b1).mpr z))]
    unfold f5_passLetters
    have q1 : tt_up (tt_up T 3 4 (T 3 3)) 3 2 (1 : Int32) 3 4 = X 0 13 := by rw [tt_up_ne (by omega), tt_up_self]; exact e3
    have q2 : tt_up (tt_up X 0 15 (X 0 13)) 0 14 (1 : Int32) 0 13 = X 0 13 := (tt_up_ne (by omega)).trans hX6
    have q3 : tt_up (tt_up T 3 4 (T 3 3)) 3 2 (1 : Int32) 3 1 = X 0 6 := by rw [tt_up_ne (by omega), tt_up_ne (by omega)]; exact hT.1
    have q4 : tt_up (tt_up X 0 15 (X 0 13)) 0 14 (1 : Int32) 0 6 = X 0 6 := (tt_up_ne (by omega)).trans hX7
    have q5 : tt_up (tt_up T 3 4 (T 3 3)) 3 2 (1 : Int32) 5 = T 5 := by rw [tt_up_row (by decide), tt_up_row (by decide)]
    have q7 : tt_up (tt_up T 3 4 (T 3 3)) 3 2 (1 : Int32) 3 2 = (1 : Int32) := tt_up_self _ _ _ _
    have q8 : tt_up (tt_up T 3 4 (T 3 3)) 3 2 (1 : Int32) 3 3 = X 0 13 := by rw [tt_up_ne (by omega)]; exact hT6
    have q9 : tt_up (tt_up X 0 15 (X 0 13)) 0 14 (1 : Int32) 0 14 = (1 : Int32) := tt_up_self _ _ _ _
    have q10 : tt_up (tt_up X 0 15 (X 0 13)) 0 14 (1 : Int32) 0 15 = X 0 13 := by rw [tt_up_ne (by omega), tt_up_self]
    have qf : af T (tt_up (tt_up T 3 4 (T 3 3)) 3 2 (1 : Int32)) := af_tr (af_up (by omega)) (af_up (by omega))
    have qT : TP (tt_up (tt_up T 3 4 (T 3 3)) 3 2 (1 : Int32)) (tt_up (tt_up X 0 15 (X 0 13)) 0 14 (1 : Int32)) := TP_cong hT (q3.trans hT.1.symm) q5 q4 (by rw [tt_up_row (by decide), tt_up_row (by decide)])
    have qX : mt (tt_up (tt_up X 0 15 (X 0 13)) 0 14 (1 : Int32)) := mt_up (mt_15 hX) (by omega) (by omega) (by omega)
    generalize tt_up (tt_up T 3 4 (T 3 3)) 3 2 (1 : Int32) = T1 at *
    generalize tt_up (tt_up X 0 15 (X 0 13)) 0 14 (1 : Int32) = X1 at *
    rw [q3, q1, q4, q2]
    have z0 : (0 : Int64).toInt = 0 := rfl
    obtain ⟨g1, g2, g3, g4, g5⟩ := lettersL (s := (X 0 13).toNatClampNeg) (lp_mu (X 0 6) (X 0 13) + 1) (lp_mu (X 0 6) (X 0 13) + 1) T1 X1 (0 : Int64) qT qX (by rw [q1, q2]) (by rw [q2]; exact Nat.le_refl _) (by rw [q4, q2]; exact Nat.lt_succ_self _) (by rw [q4, q2]; exact Nat.lt_succ_self _) (fun j j1 j2 => by rw [q2] at j2; omega) (by rw [q2, Nat.sub_self, z0]; rfl) (by rw [z0]; omega)
    obtain ⟨⟨m1, m2, m3⟩, m4, m5⟩ := nx_L103 (lp_mu (X 0 6) (X 0 13) + 1) X1 (0 : Int64) qX
    have m6 := m2.tp
    rw [q9] at m4
    rw [q10] at m5
    rw [q2] at m3
    rw [q4] at m6
    have m7 := m1.2.1
    rw [m6] at m7
    generalize f5_passLetters_L0 (lp_mu (X 0 6) (X 0 13) + 1) T1 = T2 at *
    have r2 : T2 3 2 = (1 : Int32) := (g1 3 2 (by omega)).trans q7
    have r3 : T2 3 3 = X 0 13 := (g1 3 3 (by omega)).trans q8
    have r5 : T2 5 = T1 5 := funext fun k => g1 5 k (by omega)
    have hs : (X 0 13).toInt < ((f7_next_L103 (lp_mu (X 0 6) (X 0 13) + 1) X1 (0 : Int64)).1 0 13).toInt := by
      have : ((f7_next_L103 (lp_mu (X 0 6) (X 0 13) + 1) X1 (0 : Int64)).1 0 13).toInt ≠ (X 0 13).toInt := fun z => by
        rw [Int32.toInt_inj.mp z] at g5
        have : f5_byteAt T1 (X 0 13) = f5_byteAt T (X 0 13) := by
          unfold f5_byteAt
          rw [q5, q3, hT.1]
        rw [this] at g5
        exact cl g5
      omega
    refine ⟨⟨by rw [r2, m4], by rw [r3, m5], ⟨by rw [r3]; exact x1, by rw [r3, g2]; omega, by rw [g2, m6]; exact m7⟩, fun _ => g2, Or.inr (by rw [r3, g2]; exact hs), fun _ => ?_, fun q => ?_⟩, by rw [r3]; exact e3.symm, af_tr qf fun n k hk => g1 n k (by omega)⟩
    · have lt : lt5 T2 = lt5 T1 := by unfold lt5; rw [r5]
      rw [r3, g2, lt, r5]
      exact ⟨g3, g4⟩
    · rw [m4] at q; exact absurd q (by decide)
theorem nextL : ∀ (m m' : Nat) (T X : tt_St) (V : Int64), TP T X → mt X → T 3 3 = X 0 13 → lp_mu (X 0 6) (X 0 13) < m → lp_mu (X 0 6) (X 0 13) < m' → tk (f5_advance_L8 m T) (f7_next_L0 m' X V).1 (f7_next_L0 m' X V).2 ∧ (T 3 3).toInt ≤ ((f5_advance_L8 m T) 3 3).toInt ∧ af T (f5_advance_L8 m T) := by
  intro m
  induction m with
  | zero => intro m' T X V _ _ _ hm; exact absurd hm (Nat.not_lt_zero _)
  | succ m ih =>
    intro m' T X V hT hX e3 hm hm'
    rcases m' with _ | m'
    · exact absurd hm' (Nat.not_lt_zero _)
    rw [adv_step, nxt_step]
    obtain ⟨x1, x2, x3, x4⟩ := id hX
    obtain ⟨b1, b2, b3⟩ := bv_at hT x1
    obtain ⟨g1, g2, g3⟩ := tok_sim hT hX e3
    have e32 := bv_eq (c := (32 : Int32)) b1 (by decide)
    rw [hT.1, e3]
    rw [e3] at g2
    by_cases c : X 0 6 ≤ X 0 13
    · rw [if_pos c]
      rw [lp_le] at c
      rw [if_neg (fun z => by have := e32.mpr z; rw [b2 c] at this; exact absurd this (by decide))]
      exact ⟨g1, by rw [g2]; exact Int.le_refl _, g3⟩
    rw [if_neg c]
    by_cases d : f5_byteAt T (X 0 13) = (32 : Int32)
    · rw [if_pos d, if_pos (e32.mp d)]
      have e13 : tt_up X 0 13 (X 0 13 + (1 : Int32)) 0 13 = X 0 13 + (1 : Int32) := tt_up_self _ _ _ _
      have e6 : tt_up X 0 13 (X 0 13 + (1 : Int32)) 0 6 = X 0 6 := tt_up_ne (by omega)
      obtain ⟨h1, h2, h3⟩ := ih m' (tt_up T 3 3 (X 0 13 + (1 : Int32))) (tt_up X 0 13 (X 0 13 + (1 : Int32))) V (TP_cong hT (tt_up_ne (by omega)) (tt_up_row (by decide)) e6 (tt_up_row (by decide))) (mt_inc hX c).1 (by rw [tt_up_self, e13]) (by rw [e6, e13]; exact lp_dec' c hm) (by rw [e6, e13]; exact lp_dec' c hm')
      rw [tt_up_self, lp_inc c] at h2
      exact ⟨h1, by omega, af_tr (af_up (by omega)) h3⟩
    · rw [if_neg d, if_neg (fun z => d (e32.mpr z))]
      exact ⟨g1, by rw [g2]; exact Int.le_refl _, g3⟩
/-- the next token, on both sides -/
theorem next_sim {T X : tt_St} (V : Int64) (hT : TP T X) (hX : mt X) (e : T 3 4 = X 0 13) : tk (f5_advance T) (f7_next X V).1 (f7_next X V).2 ∧ (T 3 4).toInt ≤ ((f5_advance T) 3 3).toInt ∧ af T (f5_advance T) := by
  unfold f5_advance f7_next
  dsimp only
  have e1 : tt_up T 3 3 (T 3 4) 3 3 = X 0 13 := by rw [tt_up_self]; exact e
  have e2 : tt_up T 3 3 (T 3 4) 3 1 = X 0 6 := by rw [tt_up_ne (by omega)]; exact hT.1
  obtain ⟨h1, h2, h3⟩ := nextL (lp_mu (X 0 6) (X 0 13) + 1) (lp_mu (X 0 6) (X 0 13) + 1) (tt_up T 3 3 (T 3 4)) X V (TP_cong hT (tt_up_ne (by omega)) (tt_up_row (by decide)) rfl rfl) hX e1 (Nat.lt_succ_self _) (Nat.lt_succ_self _)
  rw [e2, e1]
  rw [tt_up_self] at h2
  exact ⟨h1, h2, af_tr (af_up (by omega)) h3⟩
