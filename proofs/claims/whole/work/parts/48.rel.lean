/-! BETWEEN CALLS: what the class's cells and the reference's have in common -/
def spt (r : Nat) (S : tt_St) (q : Nat) (M : tt_St) : Prop := ∀ i : Nat, i < 10 → S (12 + r) i = M q (122 + i)
/-- a row of numbers that goes day by day, as it stands between calls -/
def okR (f : Nat → Int32) : Prop := dN (f 0).toNatClampNeg (891 * (f 7).toInt) (fun _ => f) ∧ (f 7).toInt ≤ 9999 ∧ ∀ i : Nat, i < 10 → -1 ≤ (f (122 + i)).toInt ∧ (f (122 + i)).toInt < (f 0).toInt
def RB (r : Nat) (S : tt_St) (q : Nat) (M : tt_St) : Prop := rel r S q M ∧ bks r S q M ∧ spt r S q M ∧ okR (M q)
def TP (S M : tt_St) : Prop := S 3 1 = M 0 6 ∧ (0 ≤ (M 0 6).toInt ∧ (M 0 6).toInt ≤ 120) ∧ ∀ i : Nat, i < (M 0 6).toNatClampNeg → (0 ≤ (S 5 i).toInt ∧ (S 5 i).toInt ≤ 255) ∧ M 5 i = (S 5 i).toInt8.toInt32
def SH (S M : tt_St) : Prop := ∀ k : Nat, k < 4 → S 3 (10 + k) = M 6 k ∧ S 3 (20 + k) = M 7 k ∧ (M 6 k = 0 ∨ M 6 k = (8 : Int32) ∨ M 6 k = (16 : Int32) ∨ M 6 k = (32 : Int32)) ∧ (0 ≤ (M 7 k).toInt ∧ (M 7 k).toInt ≤ 40) ∧ ∀ i : Nat, i < 40 → S (15 + k) i = M 8 (40 * k + i)
def KP (S M : tt_St) : Prop := S 3 0 = M 0 3 ∧ (S 3 0 = 0 ∨ S 3 0 = 1) ∧ (¬ S 3 0 = 0 → RB 1 S 3 M) ∧ (0 ≤ (S 1 0).toInt ∧ (S 1 0).toInt ≤ 10)
def FD (S M : tt_St) : Prop := ∀ k : Nat, k < 7 → S 4 k = M 4 k
def RR (S M : tt_St) : Prop := RB 0 S 1 M ∧ KP S M ∧ TP S M ∧ FD S M ∧ SH S M ∧ 0 ≤ (M 0 15).toInt
theorem dN_cong {n : Nat} {B : Int} {M M' : tt_St} (h : dN n B M) (e : ∀ k : Nat, k < 132 → M' 1 k = M 1 k) : dN n B M' := by
  obtain ⟨h1, h2, h3⟩ := h
  have hn := h1.1.2
  have e1 : ∀ k : Nat, k < 132 → tt_up (tt_up M' 0 7 (0 : Int32)) 0 8 (0 : Int32) 1 k = tt_up (tt_up M 0 7 (0 : Int32)) 0 8 (0 : Int32) 1 k := fun k hk => by
    rw [tt_up_row (by decide), tt_up_row (by decide), tt_up_row (by decide), tt_up_row (by decide)]
    exact e k hk
  refine ⟨?_, by rw [e1 7 (by omega)]; exact h2, by rw [e1 11 (by omega)]; exact h3.1, fun k hk => by rw [e1 (82 + k) (by omega)]; exact h3.2 k hk⟩
  rw [e1 7 (by omega)]
  exact bM_cong h1 (fun k hk => e1 k (by omega)) (by rw [tt_up_ne (by omega), tt_up_self, tt_up_ne (by omega), tt_up_self])
theorem okR_cong {f g : Nat → Int32} (h : okR f) (e : ∀ k : Nat, k < 132 → g k = f k) : okR g := by
  obtain ⟨h1, h2, h3⟩ := h
  refine ⟨?_, by rw [e 7 (by omega)]; exact h2, fun i hi => by rw [e 0 (by omega), e (122 + i) (by omega)]; exact h3 i hi⟩
  rw [e 0 (by omega), e 7 (by omega)]
  exact dN_cong h1 e
/-- n of a good row -/
theorem okR_n {f : Nat → Int32} (h : okR f) : (f 0).toInt = (f 0).toNatClampNeg ∧ (f 0).toNatClampNeg ≤ 10 ∧ 0 ≤ (f 0).toInt ∧ (f 0).toInt ≤ 10 := by
  have h0 := h.1.1.1
  rw [tt_up_row (by decide), tt_up_row (by decide)] at h0
  have : (f 0).toInt = (f 0).toNatClampNeg ∧ (f 0).toNatClampNeg ≤ 10 := h0
  omega
theorem okR_dN {M : tt_St} (h : okR (M 1)) : dN (M 1 0).toNatClampNeg (891 * (M 1 7).toInt) M := dN_cong h.1 (fun _ _ => rfl)
theorem okR_of {M : tt_St} {n : Nat} (h1 : dN n (891 * (M 1 7).toInt) M) (h2 : (M 1 7).toInt ≤ 9999) (h3 : ∀ i : Nat, i < 10 → -1 ≤ (M 1 (122 + i)).toInt ∧ (M 1 (122 + i)).toInt < (M 1 0).toInt) : okR (M 1) := by
  have hn : (M 1 0).toNatClampNeg = n := by
    have h0 := h1.1.1
    rw [tt_up_row (by decide), tt_up_row (by decide)] at h0
    exact cl_eq h0.1
  refine ⟨?_, h2, h3⟩
  rw [hn]
  exact dN_cong h1 (fun _ _ => rfl)
/-- a drinker's numbers are good -/
theorem dN_dk {n : Nat} {B : Int} {M : tt_St} (h : dN n B M) {d : Nat} (hd : d < n) : dk (fun _ => B) (fun _ => 9 * ((M 1 7).toInt % 5)) (fun _ => 1782 * ((M 1 7).toInt % 5)) M d := by
  have h0 := h.1.2.2.2.2.2.1 d hd
  rw [show tt_up (tt_up M 0 7 (0 : Int32)) 0 8 (0 : Int32) 1 7 = M 1 7 from by rw [tt_up_row (by decide), tt_up_row (by decide)]] at h0
  exact dk_cong h0 (fun j _ _ => by rw [tt_up_row (by decide), tt_up_row (by decide)])
theorem dN_room {n : Nat} {B : Int} {M : tt_St} (h : dN n B M) : ((M 1 0).toInt = n ∧ n ≤ 10) ∧ (0 ≤ (M 1 1).toInt ∧ (M 1 1).toInt ≤ 99) ∧ (1 ≤ (M 1 2).toInt ∧ (M 1 2).toInt ≤ 99) ∧ (0 ≤ (M 1 3).toInt ∧ (M 1 3).toInt ≤ 99) ∧ (0 ≤ (M 1 5).toInt ∧ (M 1 5).toInt ≤ 2) ∧ 0 ≤ (M 1 7).toInt ∧ bkb M := by
  have e1 : tt_up (tt_up M 0 7 (0 : Int32)) 0 8 (0 : Int32) 1 = M 1 := by rw [tt_up_row (by decide), tt_up_row (by decide)]
  obtain ⟨⟨h0, h1, h2, h3, h4, -⟩, h8, h9⟩ := h
  unfold bkb at *
  rw [e1] at h0 h1 h2 h3 h4 h8 h9
  exact ⟨h0, h1, h2, h3, h4, h8, h9⟩
theorem RB_cong {r q : Nat} {S S' M M' : tt_St} (h : RB r S q M) (e0 : S' r = S r) (e6 : S' (6 + r) = S (6 + r)) (e9 : S' (9 + r) = S (9 + r)) (e12 : S' (12 + r) = S (12 + r)) (eM : ∀ k : Nat, k < 132 → M' q k = M q k) : RB r S' q M' := by
  obtain ⟨h1, h2, h3, h4⟩ := h
  have hn := okR_n h4
  refine ⟨fun k hk => ?_, ⟨by rw [e0, eM 11 (by omega)]; exact h2.1, fun i hi => by rw [e6, e9, eM _ (by omega), eM _ (by omega)]; exact h2.2 i hi⟩, fun i hi => by rw [e12, eM _ (by omega)]; exact h3 i hi, okR_cong h4 eM⟩
  rw [eM 0 (by omega)] at hk
  rw [e0, eM k (by omega)]
  exact h1 k hk
/-- the reference, behind what only looked ahead -/
def mf (M M' : tt_St) : Prop := (∀ k : Nat, k < 132 → M' 1 k = M 1 k) ∧ (∀ n : Nat, 3 ≤ n → n ≤ 8 → M' n = M n) ∧ M' 0 3 = M 0 3 ∧ M' 0 6 = M 0 6 ∧ M' 0 15 = M 0 15
theorem mf_rfl (M : tt_St) : mf M M := ⟨fun _ _ => rfl, fun _ _ _ => rfl, rfl, rfl, rfl⟩
theorem mf_tr {M M1 M2 : tt_St} (h1 : mf M M1) (h2 : mf M1 M2) : mf M M2 := ⟨fun k hk => (h2.1 k hk).trans (h1.1 k hk), fun n a b => (h2.2.1 n a b).trans (h1.2.1 n a b), h2.2.2.1.trans h1.2.2.1, h2.2.2.2.1.trans h1.2.2.2.1, h2.2.2.2.2.trans h1.2.2.2.2⟩
theorem RR_keep {S S' M M' : tt_St} (h : RR S M) (hS : tf S S') (hM : mf M M') : RR S' M' := by
  obtain ⟨h1, ⟨k1, k2, k3, k4⟩, ⟨t1, t2, t3⟩, hf, hs, h15⟩ := h
  obtain ⟨m1, m2, m3, m6, m15⟩ := hM
  have s := fun (n : Nat) (a : n ≠ 2) (b : n ≠ 8) (c : n ≠ 11) => hS n a b c
  refine ⟨RB_cong h1 (s 0 (by decide) (by decide) (by decide)) (s 6 (by decide) (by decide) (by decide)) (s 9 (by decide) (by decide) (by decide)) (s 12 (by decide) (by decide) (by decide)) m1, ⟨?_, ?_, fun z => ?_, ?_⟩, ⟨?_, ?_, fun i hi => ?_⟩, fun k hk => ?_, fun k hk => ?_, by rw [m15]; exact h15⟩
  · rw [s 3 (by decide) (by decide) (by decide), m3]; exact k1
  · rw [s 3 (by decide) (by decide) (by decide)]; exact k2
  · rw [s 3 (by decide) (by decide) (by decide)] at z
    exact RB_cong (k3 z) (s 1 (by decide) (by decide) (by decide)) (s 7 (by decide) (by decide) (by decide)) (s 10 (by decide) (by decide) (by decide)) (s 13 (by decide) (by decide) (by decide)) (fun k _ => by rw [m2 3 (by omega) (by omega)])
  · rw [s 1 (by decide) (by decide) (by decide)]; exact k4
  · rw [s 3 (by decide) (by decide) (by decide), m6]; exact t1
  · rw [m6]; exact t2
  · rw [m6] at hi
    rw [s 5 (by decide) (by decide) (by decide), m2 5 (by omega) (by omega)]
    exact t3 i hi
  · rw [s 4 (by decide) (by decide) (by decide), m2 4 (by omega) (by omega)]
    exact hf k hk
  · rw [s 3 (by decide) (by decide) (by decide), m2 6 (by omega) (by omega), m2 7 (by omega) (by omega), m2 8 (by omega) (by omega)]
    obtain ⟨a, b, c, d, g⟩ := hs k hk
    exact ⟨a, b, c, d, fun i hi => by rw [s (15 + k) (by omega) (by omega) (by omega)]; exact g i hi⟩
/-- only the room is another -/
theorem RR_room {S S' M M' : tt_St} (h : RR S M) (hB : RB 0 S' 1 M') (hS : ∀ n : Nat, n ≠ 0 → n ≠ 6 → n ≠ 9 → n ≠ 12 → n ≠ 2 → n ≠ 8 → n ≠ 11 → S' n = S n) (m2 : ∀ n : Nat, 3 ≤ n → n ≤ 8 → M' n = M n) (m3 : M' 0 3 = M 0 3) (m6 : M' 0 6 = M 0 6) (m15 : M' 0 15 = M 0 15) : RR S' M' := by
  obtain ⟨h1, ⟨k1, k2, k3, k4⟩, ⟨t1, t2, t3⟩, hf, hs, h15⟩ := h
  have s := fun (n : Nat) (a : n ≠ 0 ∧ n ≠ 6 ∧ n ≠ 9 ∧ n ≠ 12 ∧ n ≠ 2 ∧ n ≠ 8 ∧ n ≠ 11) => hS n a.1 a.2.1 a.2.2.1 a.2.2.2.1 a.2.2.2.2.1 a.2.2.2.2.2.1 a.2.2.2.2.2.2
  refine ⟨hB, ⟨?_, ?_, fun z => ?_, ?_⟩, ⟨?_, ?_, fun i hi => ?_⟩, fun k hk => ?_, fun k hk => ?_, by rw [m15]; exact h15⟩
  · rw [s 3 (by decide), m3]; exact k1
  · rw [s 3 (by decide)]; exact k2
  · rw [s 3 (by decide)] at z
    exact RB_cong (k3 z) (s 1 (by decide)) (s 7 (by decide)) (s 10 (by decide)) (s 13 (by decide)) (fun k _ => by rw [m2 3 (by omega) (by omega)])
  · rw [s 1 (by decide)]; exact k4
  · rw [s 3 (by decide), m6]; exact t1
  · rw [m6]; exact t2
  · rw [m6] at hi
    rw [s 5 (by decide), m2 5 (by omega) (by omega)]
    exact t3 i hi
  · rw [s 4 (by decide), m2 4 (by omega) (by omega)]
    exact hf k hk
  · rw [s 3 (by decide), m2 6 (by omega) (by omega), m2 7 (by omega) (by omega), m2 8 (by omega) (by omega)]
    obtain ⟨a, b, c, d, g⟩ := hs k hk
    exact ⟨a, b, c, d, fun i hi => by rw [s (15 + k) (by omega)]; exact g i hi⟩
theorem RR_ci {S M : tt_St} (h : RR S M) : ci S := by
  obtain ⟨⟨h1, h2, h3, h4⟩, ⟨k1, k2, k3, k4⟩, ⟨t1, t2, t3⟩, hf, hs, h15⟩ := h
  have hn := okR_n h4
  have hr := dN_room (okR_dN h4)
  have e0 := h1 0 (by omega)
  refine ⟨fun r hr => ?_, by rw [t1]; exact ⟨nn_int t2.1, t2.2⟩, fun k hk => ?_, ?_⟩
  · rcases (show r = 0 ∨ r = 1 by omega) with rfl | rfl
    · rw [e0]; exact ⟨nn_int hn.2.2.1, hn.2.2.2⟩
    · exact ⟨nn_int k4.1, k4.2⟩
  · obtain ⟨a, b, c, d, g⟩ := hs k hk
    rw [b]; exact ⟨nn_int d.1, d.2⟩
  · rw [h2.1]; exact hr.2.2.2.2.2.2.1.2
theorem RR_mi {S M : tt_St} (h : RR S M) : mi M := by
  obtain ⟨⟨h1, h2, h3, h4⟩, ⟨k1, k2, k3, k4⟩, ⟨t1, t2, t3⟩, hf, hs, h15⟩ := h
  have hn := okR_n h4
  have hr := dN_room (okR_dN h4)
  refine ⟨⟨nn_int hn.2.2.1, hn.2.2.2⟩, ⟨nn_int t2.1, t2.2⟩, fun k hk => ?_, ⟨hr.2.2.2.2.2.2.1.2, hr.2.2.2.2.2.2.2⟩, fun i hi => ?_⟩
  · obtain ⟨a, b, c, d, g⟩ := hs k hk
    exact ⟨nn_int d.1, d.2⟩
  · have := h4.2.2 i hi
    omega
/-- one call on both sides: one answer, and between calls again -/
def PS (p q : Int32 × tt_St) : Prop := p.1 = q.1 ∧ RR p.2 q.2
theorem KP_cong {S S' M M' : tt_St} (h : KP S M) (s3 : S' 3 0 = S 3 0) (s1 : S' 1 = S 1) (s7 : S' 7 = S 7) (s10 : S' 10 = S 10) (s13 : S' 13 = S 13) (m0 : M' 0 3 = M 0 3) (m3 : M' 3 = M 3) : KP S' M' := by
  obtain ⟨k1, k2, k3, k4⟩ := h
  refine ⟨by rw [s3, m0]; exact k1, by rw [s3]; exact k2, fun z => ?_, by rw [s1]; exact k4⟩
  rw [s3] at z
  exact RB_cong (k3 z) s1 s7 s10 s13 (fun k _ => congrFun m3 k)
theorem TP_cong {S S' M M' : tt_St} (h : TP S M) (s3 : S' 3 1 = S 3 1) (s5 : S' 5 = S 5) (m0 : M' 0 6 = M 0 6) (m5 : M' 5 = M 5) : TP S' M' := by
  obtain ⟨t1, t2, t3⟩ := h
  refine ⟨by rw [s3, m0]; exact t1, by rw [m0]; exact t2, fun i hi => ?_⟩
  rw [m0] at hi
  rw [s5, m5]
  exact t3 i hi
theorem SH_cong {S S' M M' : tt_St} (h : SH S M) (s3 : ∀ k : Nat, 10 ≤ k → S' 3 k = S 3 k) (sn : ∀ k : Nat, k < 4 → S' (15 + k) = S (15 + k)) (m6 : M' 6 = M 6) (m7 : M' 7 = M 7) (m8 : M' 8 = M 8) : SH S' M' := by
  intro k hk
  rw [s3 _ (by omega), s3 _ (by omega), m6, m7, m8, sn k hk]
  exact h k hk
theorem tell_sim {S M : tt_St} {k : Int32} (h : RR S M) (hk : vp_in k 7) : PS (f6_tell S k) (f7_finds M k) := by
  have hk7 := lp_cl hk
  obtain ⟨h1, hK, hT, hf, hs, h15⟩ := h
  have e := hf _ hk7
  unfold f6_tell f7_finds
  dsimp only
  rw [e]
  generalize hS : tt_up S 4 k.toNatClampNeg (M 4 k.toNatClampNeg + (1 : Int32)) = S'
  generalize hM : tt_up M 4 k.toNatClampNeg (M 4 k.toNatClampNeg + (1 : Int32)) = M'
  have s : ∀ n : Nat, n ≠ 4 → S' n = S n := fun n hn => by rw [← hS]; exact tt_up_row hn
  have m : ∀ n : Nat, n ≠ 4 → M' n = M n := fun n hn => by rw [← hM]; exact tt_up_row hn
  refine ⟨rfl, RB_cong h1 (s 0 (by decide)) (s 6 (by decide)) (s 9 (by decide)) (s 12 (by decide)) (fun j _ => congrFun (m 1 (by decide)) j), KP_cong hK (congrFun (s 3 (by decide)) 0) (s 1 (by decide)) (s 7 (by decide)) (s 10 (by decide)) (s 13 (by decide)) (congrFun (m 0 (by decide)) 3) (m 3 (by decide)), TP_cong hT (congrFun (s 3 (by decide)) 1) (s 5 (by decide)) (congrFun (m 0 (by decide)) 6) (m 5 (by decide)), fun j hj => ?_, SH_cong hs (fun j _ => congrFun (s 3 (by decide)) _) (fun j _ => s _ (by omega)) (m 6 (by decide)) (m 7 (by decide)) (m 8 (by decide)), ?_⟩
  · show S' 4 j = M' 4 j
    rw [← hS, ← hM]
    by_cases c : j = k.toNatClampNeg
    · subst c; rw [tt_up_self, tt_up_self]
    · rw [tt_up_ne (by omega), tt_up_ne (by omega)]; exact hf j hj
  · show 0 ≤ (M' 0 15).toInt
    rw [m 0 (by decide)]; exact h15
/-- bounds, asked on both sides -/
theorem wi_in7 {x b c : Int32} {b' c' : Int64} (hb : b.toInt = b'.toInt) (hc : c.toInt = c'.toInt) : f6_within x b c = 0 ↔ f7_in x.toInt64 b' c' = 0 := by
  have h1 := @wi_iff x b c
  have h2 := @in_iffI x b' c'
  rw [hb, hc] at h1
  constructor
  · intro h
    exact Classical.byContradiction fun z => h1.mpr (h2.mp z) h
  · intro h
    exact Classical.byContradiction fun z => h2.mpr (h1.mp z) h
theorem dr_iff7 {S M : tt_St} (h : RR S M) {a : Int32} : (f6_isDrinker S a = 0 ↔ f7_isDrinker M a = 0) ∧ (¬ f7_isDrinker M a = 0 → vp_in a 10 ∧ a.toNatClampNeg < (M 1 0).toNatClampNeg) := by
  obtain ⟨⟨h1, h2, h3, h4⟩, -⟩ := h
  have hn := okR_n h4
  have e0 := h1 0 (by omega)
  have em := sz_m1 (x := M 1 0) (nn_int hn.2.2.1)
  constructor
  · show f6_within a 0 (S 0 0 - 1) = 0 ↔ f7_in a.toInt64 0 ((M 1 0 - 1).toInt64) = 0
    rw [e0]
    exact wi_in7 rfl (by rw [Int32.toInt_toInt64])
  · intro z
    have z : ¬ f7_in a.toInt64 0 ((M 1 0 - 1).toInt64) = 0 := z
    rw [in_iffI, Int32.toInt_toInt64, em, show (0 : Int64).toInt = 0 from rfl] at z
    have := cl_int (x := a) (by omega)
    refine ⟨by rw [vp_in_iff]; omega, by omega⟩
theorem iss7 {a : Int32} : f6_isSheet a = 0 ↔ f7_isSheet a = 0 := wi_in7 (b := (0 : Int32)) (c := (3 : Int32)) (b' := (0 : Int64)) (c' := (3 : Int64)) rfl rfl
theorem far7 {S M : tt_St} (h : RR S M) (a : Int32) : f6_isTooLate S a = f7_isFar M a := by
  unfold f6_isTooLate f7_isFar
  rw [h.1.1 7 (by omega)]
