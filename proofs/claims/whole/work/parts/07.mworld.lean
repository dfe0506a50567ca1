/-! the reference's ten cells: 0 the object, 1 d, 2 e, 3 kept, 4 found, 5 tape, 6 bitsOf, 7 sizeOf, 8 number, 9 passing; row 0: the object's ints by their fields' places; row k: the array of cell k; beside them the long -/
def mm_ad (G : tt_G) (n : Nat) : Nat := G.2.2 (62 + n)
def mm_fs (G : tt_G) (S : tt_St) (V : Int64) : List Value := [.ref (mm_ad G 1), .ref (mm_ad G 2), .ref (mm_ad G 3), .int (S 0 3), .ref (mm_ad G 4), .ref (mm_ad G 5), .int (S 0 6), .int (S 0 7), .int (S 0 8), .int (S 0 9), .int (S 0 10), .int (S 0 11), .int (S 0 12), .int (S 0 13), .int (S 0 14), .int (S 0 15), .long V, .int (S 0 17), .ref (mm_ad G 6), .ref (mm_ad G 7), .ref (mm_ad G 8), .ref (mm_ad G 9)]
def mm_cell (G : tt_G) (S : tt_St × Int64) (n : Nat) : va_E :=
  if n = 0 then .inr (7, mm_fs G S.1 S.2)
  else if n = 1 then .inl (G.2.1 0, 132, .inl (S.1 1))
  else if n = 2 then .inl (G.2.1 0, 132, .inl (S.1 2))
  else if n = 3 then .inl (G.2.1 0, 132, .inl (S.1 3))
  else if n = 4 then .inl (G.2.1 0, 7, .inl (S.1 4))
  else if n = 5 then .inl (G.2.1 3, 120, .inl (S.1 5))
  else if n = 6 then .inl (G.2.1 0, 4, .inl (S.1 6))
  else if n = 7 then .inl (G.2.1 0, 4, .inl (S.1 7))
  else if n = 8 then .inl (G.2.1 0, 160, .inl (S.1 8))
  else .inl (G.2.1 0, 40, .inl (S.1 9))
theorem mm_e0 {G : tt_G} {S : tt_St} {V : Int64} : mm_cell G (S, V) 0 = .inr (7, mm_fs G S V) := rfl
theorem mm_e1 {G : tt_G} {S : tt_St} {V : Int64} : mm_cell G (S, V) 1 = .inl (G.2.1 0, 132, .inl (S 1)) := rfl
theorem mm_e2 {G : tt_G} {S : tt_St} {V : Int64} : mm_cell G (S, V) 2 = .inl (G.2.1 0, 132, .inl (S 2)) := rfl
theorem mm_e3 {G : tt_G} {S : tt_St} {V : Int64} : mm_cell G (S, V) 3 = .inl (G.2.1 0, 132, .inl (S 3)) := rfl
theorem mm_e4 {G : tt_G} {S : tt_St} {V : Int64} : mm_cell G (S, V) 4 = .inl (G.2.1 0, 7, .inl (S 4)) := rfl
theorem mm_e5 {G : tt_G} {S : tt_St} {V : Int64} : mm_cell G (S, V) 5 = .inl (G.2.1 3, 120, .inl (S 5)) := rfl
theorem mm_e6 {G : tt_G} {S : tt_St} {V : Int64} : mm_cell G (S, V) 6 = .inl (G.2.1 0, 4, .inl (S 6)) := rfl
theorem mm_e7 {G : tt_G} {S : tt_St} {V : Int64} : mm_cell G (S, V) 7 = .inl (G.2.1 0, 4, .inl (S 7)) := rfl
theorem mm_e8 {G : tt_G} {S : tt_St} {V : Int64} : mm_cell G (S, V) 8 = .inl (G.2.1 0, 160, .inl (S 8)) := rfl
theorem mm_e9 {G : tt_G} {S : tt_St} {V : Int64} : mm_cell G (S, V) 9 = .inl (G.2.1 0, 40, .inl (S 9)) := rfl
/-- the arrays d, e and kept alike -/
theorem mm_eR {G : tt_G} {S : tt_St} {V : Int64} {q : Nat} (h : 1 ≤ q ∧ q ≤ 3) : mm_cell G (S, V) q = .inl (G.2.1 0, 132, .inl (S q)) := by
  rcases (show q = 1 ∨ q = 2 ∨ q = 3 by omega) with rfl | rfl | rfl <;> rfl
theorem mm_row {G : tt_G} {S : tt_St} {V : Int64} {a j : Nat} {f : Nat → Int32} (hj : j < 10) (ha : 1 ≤ a) (h : j ≠ a) : mm_cell G (tt_upR S a f, V) j = mm_cell G (S, V) j := by
  rcases (show j = 0 ∨ j = 1 ∨ j = 2 ∨ j = 3 ∨ j = 4 ∨ j = 5 ∨ j = 6 ∨ j = 7 ∨ j = 8 ∨ j = 9 by omega) with rfl | rfl | rfl | rfl | rfl | rfl | rfl | rfl | rfl | rfl
  · rw [mm_e0, mm_e0]; unfold mm_fs; rw [tt_upR_row (by omega)]
  · rw [mm_e1, mm_e1, tt_upR_row h]
  · rw [mm_e2, mm_e2, tt_upR_row h]
  · rw [mm_e3, mm_e3, tt_upR_row h]
  · rw [mm_e4, mm_e4, tt_upR_row h]
  · rw [mm_e5, mm_e5, tt_upR_row h]
  · rw [mm_e6, mm_e6, tt_upR_row h]
  · rw [mm_e7, mm_e7, tt_upR_row h]
  · rw [mm_e8, mm_e8, tt_upR_row h]
  · rw [mm_e9, mm_e9, tt_upR_row h]
theorem mm_sA {G : tt_G} {S : tt_St} {V : Int64} {a k : Nat} {cA : ClassId} {f g : Nat → Int32} (ha : 1 ≤ a) (ha9 : a < 10) (he : ∀ S : tt_St, mm_cell G (S, V) a = .inl (cA, k, .inl (S a))) : g_set 10 (mm_cell G) (S, V) a (.inl (cA, k, .inl f)) (tt_upR S a f, V) := by
  intro j hj
  by_cases e : j = a
  · subst e
    rw [if_pos rfl, he, tt_upR_self]
  · rw [if_neg e]
    exact mm_row hj ha e
theorem mm_obj {G : tt_G} {S : tt_St} {V V' : Int64} {k j : Nat} {v : Int32} (hj : j < 10) (h : j ≠ 0) : mm_cell G (tt_up S 0 k v, V') j = mm_cell G (S, V) j := by
  rcases (show j = 1 ∨ j = 2 ∨ j = 3 ∨ j = 4 ∨ j = 5 ∨ j = 6 ∨ j = 7 ∨ j = 8 ∨ j = 9 by omega) with rfl | rfl | rfl | rfl | rfl | rfl | rfl | rfl | rfl
  · rw [mm_e1, mm_e1, tt_up_row h]
  · rw [mm_e2, mm_e2, tt_up_row h]
  · rw [mm_e3, mm_e3, tt_up_row h]
  · rw [mm_e4, mm_e4, tt_up_row h]
  · rw [mm_e5, mm_e5, tt_up_row h]
  · rw [mm_e6, mm_e6, tt_up_row h]
  · rw [mm_e7, mm_e7, tt_up_row h]
  · rw [mm_e8, mm_e8, tt_up_row h]
  · rw [mm_e9, mm_e9, tt_up_row h]
theorem mm_sI {G : tt_G} {S : tt_St} {V : Int64} {k : Nat} {v : Int32} (hk : k = 3 ∨ (6 ≤ k ∧ k ≤ 15) ∨ k = 17) : g_set 10 (mm_cell G) (S, V) 0 (.inr (7, (mm_fs G S V).set k (.int v))) (tt_up S 0 k v, V) := by
  intro j hj
  by_cases e : j = 0
  · subst e
    rw [if_pos rfl, mm_e0]
    unfold mm_fs
    rcases (show k = 3 ∨ k = 6 ∨ k = 7 ∨ k = 8 ∨ k = 9 ∨ k = 10 ∨ k = 11 ∨ k = 12 ∨ k = 13 ∨ k = 14 ∨ k = 15 ∨ k = 17 by omega) with rfl | rfl | rfl | rfl | rfl | rfl | rfl | rfl | rfl | rfl | rfl | rfl <;> simp [tt_up_at]
  · rw [if_neg e]
    exact mm_obj hj e
theorem mm_sL {G : tt_G} {S : tt_St} {V V' : Int64} : g_set 10 (mm_cell G) (S, V) 0 (.inr (7, (mm_fs G S V).set 16 (.long V'))) (S, V') := by
  intro j hj
  by_cases e : j = 0
  · subst e
    rw [if_pos rfl, mm_e0]
    rfl
  · rw [if_neg e]
    rcases (show j = 1 ∨ j = 2 ∨ j = 3 ∨ j = 4 ∨ j = 5 ∨ j = 6 ∨ j = 7 ∨ j = 8 ∨ j = 9 by omega) with rfl | rfl | rfl | rfl | rfl | rfl | rfl | rfl | rfl <;> rfl
abbrev c_W (G : tt_G) (S : tt_St) (s : State) (H : Heap) (locs : List Loc) : Prop := g_W G 62 G.2.2 (tt_cell G) S s H locs
abbrev m_W (G : tt_G) (S : tt_St) (V : Int64) (s : State) (H : Heap) (locs : List Loc) : Prop := g_W G 10 (mm_ad G) (mm_cell G) (S, V) s H locs
abbrev c_MI (l : Launch) (G : tt_G) (y : MethodName) (ws : List Cond) (fr lo : Nat) (av : List Value) (S : tt_St) (a : Int32) (S' : tt_St) : Prop := g_MI l G 62 G.2.2 (tt_cell G) y ws fr lo av S a S'
abbrev c_MV (l : Launch) (G : tt_G) (y : MethodName) (ws : List Cond) (fr lo : Nat) (av : List Value) (S : tt_St) (S' : tt_St) : Prop := g_MV l G 62 G.2.2 (tt_cell G) y ws fr lo av S S'
abbrev c_MR (l : Launch) (G : tt_G) (y : MethodName) (ws : List Cond) (fr lo : Nat) (av : List Value) (S : tt_St) (a : Nat) (S' : tt_St) : Prop := g_MR l G 62 G.2.2 (tt_cell G) y ws fr lo av S a S'
abbrev m_MI (l : Launch) (G : tt_G) (y : MethodName) (ws : List Cond) (fr lo : Nat) (av : List Value) (S : tt_St) (V : Int64) (a : Int32) (S' : tt_St) (V' : Int64) : Prop := g_MI l G 10 (mm_ad G) (mm_cell G) y ws fr lo av (S, V) a (S', V')
abbrev m_MV (l : Launch) (G : tt_G) (y : MethodName) (ws : List Cond) (fr lo : Nat) (av : List Value) (S : tt_St) (V : Int64) (S' : tt_St) (V' : Int64) : Prop := g_MV l G 10 (mm_ad G) (mm_cell G) y ws fr lo av (S, V) (S', V')
theorem c_ap {G : tt_G} {s : State} (K : tt_K G s) : g_ap 62 G.2.2 := fun i j hi hj e => K.2.1 i j (by omega) (by omega) e
theorem m_ap {G : tt_G} {s : State} (K : tt_K G s) : g_ap 10 (mm_ad G) := fun i j hi hj e => by
  have := K.2.1 (62 + i) (62 + j) (by omega) (by omega) e
  omega
theorem c_A (G : tt_G) : ∀ q, g_in 62 G.2.2 q → tt_inA G q := fun q h => by obtain ⟨n, h1, h2⟩ := h; exact ⟨n, by omega, h2⟩
theorem m_A (G : tt_G) : ∀ q, g_in 10 (mm_ad G) q → tt_inA G q := fun q h => by obtain ⟨n, h1, h2⟩ := h; exact ⟨62 + n, by omega, h2⟩
theorem iT0 : ∀ w ∈ u_ws RX0 TX0 3, w ∈ tt_T := by decide +kernel
theorem iT1 : ∀ w ∈ u_ws RX1 TX1 7, w ∈ tt_T := by decide +kernel
theorem iT2 : ∀ w ∈ u_ws RX2 TX2 14, w ∈ tt_T := by decide +kernel
theorem iT3 : ∀ w ∈ u_ws RX3 TX3 3, w ∈ tt_T := by decide +kernel
theorem iT4 : ∀ w ∈ u_ws RX4 TX4 2, w ∈ tt_T := by decide +kernel
theorem iT5 : ∀ w ∈ u_ws RX5 TX5 6, w ∈ tt_T := by decide +kernel
theorem iT6 : ∀ w ∈ u_ws RX6 TX6 8, w ∈ tt_T := by decide +kernel
theorem iT7 : ∀ w ∈ u_ws RX7 TX7 22, w ∈ tt_T := by decide +kernel
section CM
variable {p : Program} {l : Launch} {e : Env} {R : Room} {s : State} {m : MethodId} {args : Array Value} {below : List Frame} {meth : Method} {c : Code} {H : Heap} {locs : List Loc} {cells slots : Nat} {Q : State → Prop}
variable {cc : ByteArray} {pc nL index : Nat} {ls : Array Slot} {rest : List Value} {own : String} {G : tt_G} {S : tt_St} {V : Int64} {n : Nat}
/-- the reference's own fields -/
theorem m_get (X : CallFix p m c cc nL s args tt_T own) (K : tt_K G s) (hw : m_W G S V s H locs) (k : Nat) (hk : k < 22) (hl : Cond.fieldLink own index (TX7 k).1 (TX7 k).2.1 (TX7 k).2.2.1 ∈ tt_T) {v : Value} (hv : (mm_fs G S V)[k]? = some v) (hdg : decode cc pc = .ok (.getfield index, 3))
    (kk : W p l e R s m args below meth c H locs cells slots Q (F0 m (pc + 3) ls (v :: rest))) : W p l e R s m args below meth c H locs cells slots Q (F0 m pc ls (.ref (mm_ad G 0) :: rest)) :=
  g_get X K hw (by decide) mm_e0 rfl iT7 k hk hl hv hdg kk
theorem m_put (X : CallFix p m c cc nL s args tt_T own) (K : tt_K G s) (hw : m_W G S V s H locs) (k : Nat) (hk : k = 3 ∨ (6 ≤ k ∧ k ≤ 15) ∨ k = 17) (hl : Cond.fieldLink own index (TX7 k).1 (TX7 k).2.1 (TX7 k).2.2.1 ∈ tt_T) (hfin : (TX7 k).2.2.2 = false) {v : Int32} (hnr : narrow (tyX7 k) (.int v) = .int v) (hft : fits (tyX7 k) (.int v) = true) (hdg : decode cc pc = .ok (.putfield index, 3))
    (kk : ∀ (S2 : tt_St) (H1 : Heap) (locs1 : List Loc), S2 = tt_up S 0 k v → m_W G S2 V s H1 locs1 → W p l e R s m args below meth c H1 locs1 cells slots Q (F0 m (pc + 3) ls rest)) : W p l e R s m args below meth c H locs cells slots Q (F0 m pc ls (.int v :: .ref (mm_ad G 0) :: rest)) :=
  g_put X K (m_ap K) hw (by decide) mm_e0 rfl iT7 tyX7_ok nmX7 k (by omega) hl hfin hnr hft (by show k < 22; omega) (mm_sI hk) hdg (fun S2 H1 locs1 e hw => kk _ H1 locs1 rfl (by rw [e] at hw; exact hw))
theorem m_putL (X : CallFix p m c cc nL s args tt_T own) (K : tt_K G s) (hw : m_W G S V s H locs) (hl : Cond.fieldLink own index (TX7 16).1 (TX7 16).2.1 (TX7 16).2.2.1 ∈ tt_T) {v : Int64} (hdg : decode cc pc = .ok (.putfield index, 3))
    (kk : ∀ (V2 : Int64) (H1 : Heap) (locs1 : List Loc), V2 = v → m_W G S V2 s H1 locs1 → W p l e R s m args below meth c H1 locs1 cells slots Q (F0 m (pc + 3) ls rest)) : W p l e R s m args below meth c H locs cells slots Q (F0 m pc ls (.long v :: .ref (mm_ad G 0) :: rest)) :=
  g_put X K (m_ap K) hw (by decide) mm_e0 rfl iT7 tyX7_ok nmX7 16 (by omega) hl rfl rfl rfl (by show 16 < 22; omega) mm_sL hdg (fun S2 H1 locs1 e hw => kk _ H1 locs1 rfl (by rw [e] at hw; exact hw))
theorem m_iast (X : CallFix p m c cc nL s args tt_T own) (K : tt_K G s) (hw : m_W G S V s H locs) (h1 : 1 ≤ n) (h2 : n < 10) {k : Nat} (he : ∀ S : tt_St, mm_cell G (S, V) n = .inl (G.2.1 0, k, .inl (S n))) {i x : Int32} (hi : vp_in i k) (hdg : decode cc pc = .ok (.iastore, 1))
    (kk : ∀ (S2 : tt_St) (H1 : Heap) (locs1 : List Loc), S2 = tt_up S n i.toNatClampNeg x → m_W G S2 V s H1 locs1 → W p l e R s m args below meth c H1 locs1 cells slots Q (F0 m (pc + 1) ls rest)) : W p l e R s m args below meth c H locs cells slots Q (F0 m pc ls (.int x :: .int i :: .ref (mm_ad G n) :: rest)) :=
  g_iast X K (m_ap K) hw h2 (he S) hi (mm_sA (g := fun _ => 0) h1 h2 he) hdg (fun S2 H1 locs1 e hw => kk _ H1 locs1 rfl (by rw [e] at hw; exact hw))
theorem m_bast (X : CallFix p m c cc nL s args tt_T own) (K : tt_K G s) (hw : m_W G S V s H locs) {i x : Int32} (hi : vp_in i 120) (hdg : decode cc pc = .ok (.bastore, 1))
    (kk : ∀ (S2 : tt_St) (H1 : Heap) (locs1 : List Loc), S2 = tt_up S 5 i.toNatClampNeg (vp_nar .byte x) → m_W G S2 V s H1 locs1 → W p l e R s m args below meth c H1 locs1 cells slots Q (F0 m (pc + 1) ls rest)) : W p l e R s m args below meth c H locs cells slots Q (F0 m pc ls (.int x :: .int i :: .ref (mm_ad G 5) :: rest)) :=
  g_bast X K (m_ap K) hw (by decide) mm_e5 hi (mm_sA (g := fun _ => 0) (by decide) (by decide) (fun _ => mm_e5)) hdg (fun S2 H1 locs1 e hw => kk _ H1 locs1 rfl (by rw [e] at hw; exact hw))
variable {y : MethodName} {b : ByteArray} {mL fr lo : Nat} {r : Option FieldType} {C : String} {As st0 : List Value} {S' : tt_St} {V' : Int64}
theorem m_callVI (X : CallFix p m c cc nL s args tt_T own) (K : tt_K G s) (hw : m_W G S V s H locs) {a : Int32} (hM : m_MI l G y (g_code y b mL r) fr lo (.ref (mm_ad G 0) :: As) S V a S' V') {na : Nat} (cw : CallW R s args own RX7 index y b mL r (g_code y b mL r) (g_rm fr lo) 0 0 na) (hna : As.length = na) (hsz : ls.size = nL) (hst : st0 = As.reverse ++ .ref (mm_ad G 0) :: rest) (hroom : (rest.map fun v => v.category).sum ≤ 8) (hdg : decode cc pc = .ok (.invokevirtual index, 3)) (hf : cells ≤ R.cells ∧ slots ≤ R.slots)
    (kk : ∀ (z : Int32) (S2 : tt_St) (V2 : Int64) (H1 : Heap) (locs1 : List Loc), z = a → S2 = S' → V2 = V' → m_W G S2 V2 s H1 locs1 → W p l e R s m args below meth c H1 locs1 cells slots Q (F0 m (pc + 3) ls (.int z :: rest))) : W p l e R s m args below meth c H locs cells slots Q (F0 m pc ls st0) :=
  g_callVI X K (m_A G) hw hM cw (by decide) mm_e0 rfl hna hsz hst hroom hdg hf (fun z S2 H1 locs1 e1 e2 hw => kk z S' V' H1 locs1 e1 rfl rfl (by rw [e2] at hw; exact hw))
theorem m_callVV (X : CallFix p m c cc nL s args tt_T own) (K : tt_K G s) (hw : m_W G S V s H locs) (hM : m_MV l G y (g_code y b mL r) fr lo (.ref (mm_ad G 0) :: As) S V S' V') {na : Nat} (cw : CallW R s args own RX7 index y b mL r (g_code y b mL r) (g_rm fr lo) 0 0 na) (hna : As.length = na) (hsz : ls.size = nL) (hst : st0 = As.reverse ++ .ref (mm_ad G 0) :: rest) (hroom : (rest.map fun v => v.category).sum ≤ 8) (hdg : decode cc pc = .ok (.invokevirtual index, 3)) (hf : cells ≤ R.cells ∧ slots ≤ R.slots)
    (kk : ∀ (S2 : tt_St) (V2 : Int64) (H1 : Heap) (locs1 : List Loc), S2 = S' → V2 = V' → m_W G S2 V2 s H1 locs1 → W p l e R s m args below meth c H1 locs1 cells slots Q (F0 m (pc + 3) ls rest)) : W p l e R s m args below meth c H locs cells slots Q (F0 m pc ls st0) :=
  g_callVV X K (m_A G) hw hM cw (by decide) mm_e0 rfl hna hsz hst hroom hdg hf (fun S2 H1 locs1 e2 hw => kk S' V' H1 locs1 rfl rfl (by rw [e2] at hw; exact hw))
theorem m_callSI (X : CallFix p m c cc nL s args tt_T own) (K : tt_K G s) (hw : m_W G S V s H locs) {a : Int32} (hM : m_MI l G y (g_code y b mL r) fr lo As S V a S' V') {na : Nat} (cw : CallB R s args own index y b mL r (g_code y b mL r) (g_rm fr lo) 0 0 na ∧ (Cond.static y).before args s = true) (hna : As.length = na) (hsz : ls.size = nL) (hst : st0 = As.reverse ++ rest) (hroom : (rest.map fun v => v.category).sum ≤ 8) (hdg : decode cc pc = .ok (.invokestatic index, 3)) (hf : cells ≤ R.cells ∧ slots ≤ R.slots)
    (kk : ∀ (z : Int32) (S2 : tt_St) (V2 : Int64) (H1 : Heap) (locs1 : List Loc), z = a → S2 = S' → V2 = V' → m_W G S2 V2 s H1 locs1 → W p l e R s m args below meth c H1 locs1 cells slots Q (F0 m (pc + 3) ls (.int z :: rest))) : W p l e R s m args below meth c H locs cells slots Q (F0 m pc ls st0) :=
  g_callSI X K (m_A G) hw hM cw hna hsz hst hroom hdg hf (fun z S2 H1 locs1 e1 e2 hw => kk z S' V' H1 locs1 e1 rfl rfl (by rw [e2] at hw; exact hw))
theorem m_callSV (X : CallFix p m c cc nL s args tt_T own) (K : tt_K G s) (hw : m_W G S V s H locs) (hM : m_MV l G y (g_code y b mL r) fr lo As S V S' V') {na : Nat} (cw : CallB R s args own index y b mL r (g_code y b mL r) (g_rm fr lo) 0 0 na ∧ (Cond.static y).before args s = true) (hna : As.length = na) (hsz : ls.size = nL) (hst : st0 = As.reverse ++ rest) (hroom : (rest.map fun v => v.category).sum ≤ 8) (hdg : decode cc pc = .ok (.invokestatic index, 3)) (hf : cells ≤ R.cells ∧ slots ≤ R.slots)
    (kk : ∀ (S2 : tt_St) (V2 : Int64) (H1 : Heap) (locs1 : List Loc), S2 = S' → V2 = V' → m_W G S2 V2 s H1 locs1 → W p l e R s m args below meth c H1 locs1 cells slots Q (F0 m (pc + 3) ls rest)) : W p l e R s m args below meth c H locs cells slots Q (F0 m pc ls st0) :=
  g_callSV X K (m_A G) hw hM cw hna hsz hst hroom hdg hf (fun S2 H1 locs1 e2 hw => kk S' V' H1 locs1 rfl rfl (by rw [e2] at hw; exact hw))
/-- the reference's long constants -/
theorem m_gets (X : CallFix p m c cc nL s args tt_T own) (K : tt_K G s) (hw : m_W G S V s H locs) (i : Nat) (hi : i < 15) {x : Int64} (hx : (tt_wrd i).2 = x) (hl : Cond.fieldLink own index "TrustTinModel" (tt_wrd i).1 "J" ∈ tt_T) (hdg : decode cc pc = .ok (.getstatic index, 3))
    (kk : W p l e R s m args below meth c H locs cells slots Q (F0 m (pc + 3) ls (.long x :: rest))) : W p l e R s m args below meth c H locs cells slots Q (F0 m pc ls rest) := by
  subst hx
  exact va_gets X.1 X.2.1 ((K.2.2.2.2.2.1 i hi).narrow (m_A G)) hw.2 X.2.2.2.1 (X.2.2.2.2 _ hl) (fun _ h => h) hdg kk
end CM
