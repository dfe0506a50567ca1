/-! what stands at the law's entry: classes, constants, texts -/
def L_fl : List Cond := flatC (Cond.and given_1 narrow_1)
def L_tm (i : Nat) : Term := .string "TrustTin$TextReader" (tt_txt i).1
def L_ex : List Nat := [50, 58, 68, 81, 93, 103, 117, 165, 183, 200, 132, 148, 219, 239, 263]
def L_ne : List Nat := [0, 67, 79, 90, 99, 112, 126, 174, 190, 208, 141, 157, 227, 250, 271, 0, 0, 80, 91, 100, 113, 127, 175, 191, 209, 142, 158, 228, 251, 272, 0, 0, 0, 92, 101, 114, 128, 176, 192, 210, 143, 159, 229, 252, 273, 0, 0, 0, 0, 102, 115, 129, 177, 193, 211, 144, 160, 230, 253, 274, 0, 0, 0, 0, 0, 116, 130, 178, 194, 212, 145, 161, 231, 254, 275, 0, 0, 0, 0, 0, 0, 131, 179, 195, 213, 146, 162, 232, 255, 276, 0, 0, 0, 0, 0, 0, 0, 180, 196, 214, 147, 163, 233, 256, 277, 0, 0, 0, 0, 0, 0, 0, 0, 199, 217, 0, 0, 236, 259, 280, 0, 0, 0, 0, 0, 0, 0, 0, 0, 218, 0, 0, 237, 260, 281, 0, 0, 0, 0, 0, 0, 0, 0, 0, 0, 0, 0, 238, 261, 282, 0, 0, 0, 0, 0, 0, 0, 181, 197, 215, 0, 164, 234, 257, 278, 0, 0, 0, 0, 0, 0, 0, 182, 198, 216, 0, 0, 235, 258, 279, 0, 0, 0, 0, 0, 0, 0, 0, 0, 0, 0, 0, 0, 262, 283, 0, 0, 0, 0, 0, 0, 0, 0, 0, 0, 0, 0, 0, 0, 284, 0, 0, 0, 0, 0, 0, 0, 0, 0, 0, 0, 0, 0, 0, 0]
theorem L_iex : ∀ i : Nat, i < 15 → L_fl[L_ex.getD i 0]? = some (Cond.exactly (L_tm i) "java/lang/String") := by decide +kernel
theorem L_ico : ∀ i : Nat, i < 15 → L_fl[L_ex.getD i 0 + 1]? = some (Cond.eq (.field (L_tm i) "java/lang/String" "coder" "B") (.int 0)) := by decide +kernel
theorem L_iar : ∀ i : Nat, i < 15 → L_fl[L_ex.getD i 0 + 2]? = some (Cond.arrayOf (.field (L_tm i) "java/lang/String" "value" "[B") .byte) := by decide +kernel
theorem L_ile : ∀ i : Nat, i < 15 → L_fl[L_ex.getD i 0 + 3]? = some (Cond.eq (.length (.field (L_tm i) "java/lang/String" "value" "[B")) (.int (Int32.ofNat (tt_len.getD i 0)))) := by decide +kernel
theorem L_iel : ∀ i : Nat, i < 15 → ∀ j : Nat, j < tt_len.getD i 0 → L_fl[L_ex.getD i 0 + 4 + j]? = some (Cond.eq (.elem (.field (L_tm i) "java/lang/String" "value" "[B") (.int (Int32.ofNat j))) (.int ((tt_byt.getD i []).getD j 0))) := by decide +kernel
theorem L_ine : ∀ i : Nat, i < 15 → ∀ j : Nat, j < 15 → i ≠ j → L_fl[L_ne.getD (15 * i + j) 0]? = some (Cond.not (Cond.eq (L_tm i) (L_tm j))) ∨ L_fl[L_ne.getD (15 * j + i) 0]? = some (Cond.not (Cond.eq (L_tm j) (L_tm i))) := by decide +kernel
theorem L_iln : ∀ i : Nat, i < 15 → tt_len.getD i 0 < 2 ^ 31 := by decide +kernel
def L_si : List Nat := [645, 646, 647, 648, 649, 650, 651, 720, 725, 731, 714, 719, 739, 740, 741]
def L_wi : List Nat := [1186, 1192, 1194, 1196, 1198, 1200, 1202, 1216, 1218, 1220, 1222, 1224, 1230, 1232, 1234]
def L_we : List Nat := [19, 20, 21, 22, 23, 24, 25, 26, 27, 28, 29, 30, 31, 32, 33]
theorem L_isr : ∀ i : Nat, i < 15 → lw_tbl[L_si.getD i 0]? = some (Cond.stringRef "TrustTin$TextReader" (tt_txt i).1 (tt_txt i).2) := by decide +kernel
theorem L_iwl : ∀ i : Nat, i < 15 → lw_tbl[L_wi.getD i 0]? = some (Cond.laysStatic "TrustTinModel" (tt_wrd i).1 "J") := by decide +kernel
theorem L_iwe : ∀ i : Nat, i < 15 → L_fl[L_we.getD i 0]? = some (Cond.eq (.static "TrustTinModel" (tt_wrd i).1 "J") (.long (tt_wrd i).2)) := by decide +kernel
theorem L_iab : ∀ j : Nat, j < 7 → L_fl[12 + j]? = some (Cond.eq (.elem (.static "TrustTin" "ABOVE" "[I") (.int (Int32.ofNat j))) (.int (tt_above j))) := by decide +kernel
/-- the constants, as they lie at the entry -/
theorem L_con {s : State} {A : Array Value} (hts : ∀ w ∈ lw_tbl, w.before A s = true) (hfl : ∀ w ∈ L_fl, w.before A s = true) : ∃ (t : Nat) (adK adV : Nat → Nat),
    (va_Z "TrustTin" "ABOVE" "[I" (.ref t) (fun q : Nat => s.heap.size ≤ q) s s.heap ∧ va_T .int t 7 (fun j => .int (tt_above j)) (fun q : Nat => s.heap.size ≤ q) s s.heap) ∧
    (vk_S 15 tt_len tt_byt adK adV (fun q : Nat => s.heap.size ≤ q) s s.heap ∧ ∀ i : Nat, i < 15 → vk_R "TrustTin$TextReader" (tt_txt i).1 (tt_txt i).2 (adK i) s) ∧
    (va_Z "java/lang/String" "COMPACT_STRINGS" "Z" (.int 1) (fun q : Nat => s.heap.size ≤ q) s s.heap ∧ va_Zq "jdk/internal/util/Preconditions" "SIOOBE_FORMATTER" "Ljava/util/function/BiFunction;" (fun q : Nat => s.heap.size ≤ q) s s.heap) ∧
    (∀ i : Nat, i < 15 → va_Z "TrustTinModel" (tt_wrd i).1 "J" (.long (tt_wrd i).2) (fun q : Nat => s.heap.size ≤ q) s s.heap) := by
  have hA : ∀ a : Nat, a < s.heap.size → ¬ (fun q : Nat => s.heap.size ≤ q) a := fun a h => Nat.not_le.mpr h
  have f : ∀ (k : Nat) (w : Cond), L_fl[k]? = some w → w.before A s = true := fun k w h => hfl w (List.mem_of_getElem? h)
  have g : ∀ (k : Nat) (w : Cond), lw_tbl[k]? = some w → w.before A s = true := fun k w h => hts w (List.mem_of_getElem? h)
  obtain ⟨t, ht, hT⟩ := va_Tof (tm := .static "TrustTin" "ABOVE" "[I") (ty := .int) (N := 7) (f := fun j => .int (tt_above j)) (A := fun q : Nat => s.heap.size ≤ q) (by decide) (f 10 _ (by decide +kernel)) (va_eqt (f 11 (Cond.eq (.length (.static "TrustTin" "ABOVE" "[I")) (.int (Int32.ofNat 7))) (by decide +kernel))) (fun j hj => va_eqt (f _ _ (L_iab j hj))) hA
  obtain ⟨adK, adV, hS, hR⟩ := vk_Sof (N := 15) (tm := L_tm) (len := tt_len) (byt := tt_byt) (A := fun q : Nat => s.heap.size ≤ q) L_iln (fun i hi => f _ _ (L_iex i hi)) (fun i hi => f _ _ (L_ico i hi)) (fun i hi => f _ _ (L_iar i hi)) (fun i hi => f _ _ (L_ile i hi)) (fun i hi j hj => f _ _ (L_iel i hi j hj)) (fun i j hi hj hij => (L_ine i hi j hj hij).elim (fun z => Or.inl (f _ _ z)) (fun z => Or.inr (f _ _ z))) hA
  refine ⟨t, adK, adV, ⟨va_Zref (g 755 _ (by decide +kernel)) (g 67 _ (by decide +kernel)) ht hA, hT⟩, ⟨hS, fun i hi => vk_R.of (A := A) (g _ _ (L_isr i hi)) (hR i hi)⟩, ⟨va_Zof (g 665 _ (by decide +kernel)) (g 78 _ (by decide +kernel)) (va_eqi (f 4 _ (by decide +kernel))) hA, va_Zqof (g 681 _ (by decide +kernel)) (g 80 _ (by decide +kernel)) (f 5 _ (by decide +kernel)) hA⟩, fun i hi => va_Zof (g _ _ (L_iwl i hi)) (g 74 _ (by decide +kernel)) (va_eql (f _ _ (L_iwe i hi))) hA⟩
/-- the nest's links, and the rows' classes -/
theorem L_AO {s : State} {A : Array Value} (hts : ∀ w ∈ lw_tbl, w.before A s = true) : n_AO s := by
  have g : ∀ (k : Nat) (w : Cond), lw_tbl[k]? = some w → w.before A s = true := fun k w h => hts w (List.mem_of_getElem? h)
  exact ⟨va_AO.of (A := A) (g 97 _ (by decide +kernel)), va_AO.of (A := A) (g 261 _ (by decide +kernel)), va_Nw.of rfl (A := A) (g 100 _ (by decide +kernel)), va_Nw.of rfl (A := A) (g 119 _ (by decide +kernel)), va_Nw.of rfl (A := A) (g 221 _ (by decide +kernel)), va_Nw.of rfl (A := A) (g 263 _ (by decide +kernel))⟩
theorem L_Nw {s : State} {A : Array Value} (hts : ∀ w ∈ lw_tbl, w.before A s = true) : va_Nw (.methodLinkNest "TrustTin$TextReader" 106 yX6_within "TrustTin") s := va_Nw.of rfl (A := A) (hts _ (List.mem_of_getElem? (i := 712) (by decide +kernel)))
theorem L_arI {s : State} {A : Array Value} (h : (Cond.arrayClass FieldType.int).before A s = true) : ∃ c : ClassId, ArrOfT s c .int ∧ va_RA s c .int := by
  obtain ⟨c, k, comp, h1, h2, h3⟩ := Cond.arrayClass_spec h
  exact ⟨c, fun n z => ⟨fun k h => (by cases h), k, h2, comp, h3⟩, h1⟩
theorem L_arB {s : State} {A : Array Value} (h : (Cond.arrayClass FieldType.byte).before A s = true) : ∃ c : ClassId, ArrOfT s c .byte ∧ va_RA s c .byte := by
  obtain ⟨c, k, comp, h1, h2, h3⟩ := Cond.arrayClass_spec h
  exact ⟨c, fun n z => ⟨fun k h => (by cases h), k, h2, comp, h3⟩, h1⟩
theorem L_arO {s : State} {C : String} (h : va_AO C s) : ∃ c : ClassId, ArrOfT s c (.object C) ∧ va_RA s c (.object C) := by
  obtain ⟨comp, c, k, h1, h2, h3, h4, h5⟩ := Cond.arrayOver_spec (va_AO.use (A := #[]) h)
  exact ⟨c, fun n z => ⟨fun k h => (by cases h), k, h3, comp, h4⟩, k, comp, h3, h4, h1, h5⟩
theorem L_vK {s : State} {A : Array Value} (hts : ∀ w ∈ lw_tbl, w.before A s = true) : ∃ (D : va_G) (cl : Nat → ClassId), va_K D vwCl (n_tys cl) s := by
  have h9 : ∀ w ∈ tt_T, w.before A s = true := fun w h => hts w (tt_good w h).1
  have hO := L_AO hts
  obtain ⟨c0, j0, k0⟩ := u_known (C := RX0) (T := TX0) (N := 3) (n := 3) h9 iT0 (h9 _ q99)
  obtain ⟨c1, j1, k1⟩ := u_known (C := RX1) (T := TX1) (N := 7) (n := 7) h9 iT1 (h9 _ q118)
  obtain ⟨c2, j2, k2⟩ := u_known (C := RX2) (T := TX2) (N := 14) (n := 14) h9 iT2 (h9 _ q91)
  obtain ⟨c3, j3, k3⟩ := u_known (C := RX3) (T := TX3) (N := 3) (n := 3) h9 iT3 (h9 _ q262)
  obtain ⟨c4, j4, k4⟩ := u_known (C := RX4) (T := TX4) (N := 2) (n := 2) h9 iT4 (h9 _ q220)
  obtain ⟨c5, j5, k5⟩ := u_known (C := RX5) (T := TX5) (N := 6) (n := 6) h9 iT5 (h9 _ q236)
  obtain ⟨c6, j6, k6⟩ := u_known (C := RX6) (T := TX6) (N := 8) (n := 8) h9 iT6 (h9 _ q83)
  obtain ⟨c7, j7, k7⟩ := u_known (C := RX7) (T := TX7) (N := 22) (n := 22) h9 iT7 (h9 _ q831)
  obtain ⟨a0, d0⟩ := L_arI (h9 _ q117)
  obtain ⟨a1, d1⟩ := L_arO hO.1
  obtain ⟨a2, d2⟩ := L_arO hO.2.1
  obtain ⟨a3, d3⟩ := L_arB (h9 _ q742)
  refine ⟨(fun k => ([c0, c1, c2, c3, c4, c5, c6, c7] : List ClassId).getD k c0, fun k => ([j0, j1, j2, j3, j4, j5, j6, j7] : List (Nat → Nat)).getD k j0), fun k => ([a0, a1, a2, a3] : List ClassId).getD k a0, fun k q hq => ?_, fun k q hq => ?_⟩
  · match k, hq with
    | 0, hq => cases hq; exact k0
    | 1, hq => cases hq; exact k1
    | 2, hq => cases hq; exact k2
    | 3, hq => cases hq; exact k3
    | 4, hq => cases hq; exact k4
    | 5, hq => cases hq; exact k5
    | 6, hq => cases hq; exact k6
    | 7, hq => cases hq; exact k7
    | k + 8, hq => exact absurd hq (by simp [vwCl])
  · match k, hq with
    | 0, hq => cases hq; exact d0
    | 1, hq => cases hq; exact d1
    | 2, hq => cases hq; exact d2
    | 3, hq => cases hq; exact d3
    | k + 4, hq => exact absurd hq (by simp [n_tys])
