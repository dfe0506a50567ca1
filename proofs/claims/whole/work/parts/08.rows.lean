section CP
variable {p : Program} {l : Launch} {e : Env} {R : Room} {s : State} {m : MethodId} {args : Array Value} {below : List Frame} {meth : Method} {c : Code} {H : Heap} {locs : List Loc} {cells slots : Nat} {Q : State → Prop}
variable {cc : ByteArray} {pc nL index : Nat} {ls : Array Slot} {rest : List Value} {own : String} {G : tt_G} {S : tt_St} {V : Int64} {n : Nat}
variable {y : MethodName} {b : ByteArray} {mL fr lo : Nat} {r : Option FieldType} {C : String} {As st0 : List Value} {S' : tt_St} {V' : Int64}

theorem c_callVI_p (X : CallFix p m c cc nL s args tt_T own) (K : tt_K G s) (hw : c_W G S s H locs) {a : Int32} (hM : c_MI l G y (g_code y b mL r) fr lo (.ref (G.2.2 n) :: As) S a S) {na : Nat} (cw : CallW R s args own C index y b mL r (g_code y b mL r) (g_rm fr lo) 0 0 na) (hn : n < 62) {ci : Nat} {fs : List Value} (he : tt_cell G S n = .inr (ci, fs)) {T : u_T} {M : Nat} (hc : vwCl[ci]? = some (C, T, M)) (hna : As.length = na) (hsz : ls.size = nL) (hst : st0 = As.reverse ++ .ref (G.2.2 n) :: rest) (hroom : (rest.map fun v => v.category).sum ≤ 8) (hdg : decode cc pc = .ok (.invokevirtual index, 3)) (hf : cells ≤ R.cells ∧ slots ≤ R.slots) (kk : ∀ (z : Int32) (H1 : Heap) (locs1 : List Loc), z = a → c_W G S s H1 locs1 → W p l e R s m args below meth c H1 locs1 cells slots Q (F0 m (pc + 3) ls (.int z :: rest))) : W p l e R s m args below meth c H locs cells slots Q (F0 m pc ls st0) :=
  g_callVI X K (c_A G) hw hM cw hn he hc hna hsz hst hroom hdg hf (fun z S2 H1 locs1 e1 e2 hw => kk z H1 locs1 e1 (by rw [e2] at hw; exact hw))

theorem c_callVI_s (X : CallFix p m c cc nL s args tt_T own) (K : tt_K G s) (hw : c_W G S s H locs) {a : Int32} (hM : c_MI l G y (g_code y b mL r) fr lo (.ref (G.2.2 n) :: As) S a S') {na : Nat} (cw : CallW R s args own C index y b mL r (g_code y b mL r) (g_rm fr lo) 0 0 na) (hn : n < 62) {ci : Nat} {fs : List Value} (he : tt_cell G S n = .inr (ci, fs)) {T : u_T} {M : Nat} (hc : vwCl[ci]? = some (C, T, M)) (hna : As.length = na) (hsz : ls.size = nL) (hst : st0 = As.reverse ++ .ref (G.2.2 n) :: rest) (hroom : (rest.map fun v => v.category).sum ≤ 8) (hdg : decode cc pc = .ok (.invokevirtual index, 3)) (hf : cells ≤ R.cells ∧ slots ≤ R.slots) (kk : ∀ (z : Int32) (S2 : tt_St) (H1 : Heap) (locs1 : List Loc), z = a → S2 = S' → c_W G S2 s H1 locs1 → W p l e R s m args below meth c H1 locs1 cells slots Q (F0 m (pc + 3) ls (.int z :: rest))) : W p l e R s m args below meth c H locs cells slots Q (F0 m pc ls st0) :=
  g_callVI X K (c_A G) hw hM cw hn he hc hna hsz hst hroom hdg hf (fun z S2 H1 locs1 e1 e2 hw => kk z S2 H1 locs1 e1 e2 hw)

theorem c_callVV_s (X : CallFix p m c cc nL s args tt_T own) (K : tt_K G s) (hw : c_W G S s H locs) (hM : c_MV l G y (g_code y b mL r) fr lo (.ref (G.2.2 n) :: As) S S') {na : Nat} (cw : CallW R s args own C index y b mL r (g_code y b mL r) (g_rm fr lo) 0 0 na) (hn : n < 62) {ci : Nat} {fs : List Value} (he : tt_cell G S n = .inr (ci, fs)) {T : u_T} {M : Nat} (hc : vwCl[ci]? = some (C, T, M)) (hna : As.length = na) (hsz : ls.size = nL) (hst : st0 = As.reverse ++ .ref (G.2.2 n) :: rest) (hroom : (rest.map fun v => v.category).sum ≤ 8) (hdg : decode cc pc = .ok (.invokevirtual index, 3)) (hf : cells ≤ R.cells ∧ slots ≤ R.slots) (kk : ∀ (S2 : tt_St) (H1 : Heap) (locs1 : List Loc), S2 = S' → c_W G S2 s H1 locs1 → W p l e R s m args below meth c H1 locs1 cells slots Q (F0 m (pc + 3) ls (rest))) : W p l e R s m args below meth c H locs cells slots Q (F0 m pc ls st0) :=
  g_callVV X K (c_A G) hw hM cw hn he hc hna hsz hst hroom hdg hf (fun S2 H1 locs1 e2 hw => kk S2 H1 locs1 e2 hw)

theorem c_callVR_s (X : CallFix p m c cc nL s args tt_T own) (K : tt_K G s) (hw : c_W G S s H locs) {a : Nat} (hM : c_MR l G y (g_code y b mL r) fr lo (.ref (G.2.2 n) :: As) S a S') {na : Nat} (cw : CallW R s args own C index y b mL r (g_code y b mL r) (g_rm fr lo) 0 0 na) (hn : n < 62) {ci : Nat} {fs : List Value} (he : tt_cell G S n = .inr (ci, fs)) {T : u_T} {M : Nat} (hc : vwCl[ci]? = some (C, T, M)) (hna : As.length = na) (hsz : ls.size = nL) (hst : st0 = As.reverse ++ .ref (G.2.2 n) :: rest) (hroom : (rest.map fun v => v.category).sum ≤ 8) (hdg : decode cc pc = .ok (.invokevirtual index, 3)) (hf : cells ≤ R.cells ∧ slots ≤ R.slots) (kk : ∀ (S2 : tt_St) (H1 : Heap) (locs1 : List Loc), S2 = S' → c_W G S2 s H1 locs1 → W p l e R s m args below meth c H1 locs1 cells slots Q (F0 m (pc + 3) ls (.ref a :: rest))) : W p l e R s m args below meth c H locs cells slots Q (F0 m pc ls st0) :=
  g_callVR X K (c_A G) hw hM cw hn he hc hna hsz hst hroom hdg hf (fun S2 H1 locs1 e2 hw => kk S2 H1 locs1 e2 hw)

theorem c_callSI_p (X : CallFix p m c cc nL s args tt_T own) (K : tt_K G s) (hw : c_W G S s H locs) {a : Int32} (hM : c_MI l G y (g_code y b mL r) fr lo As S a S) {na : Nat} (cw : CallB R s args own index y b mL r (g_code y b mL r) (g_rm fr lo) 0 0 na ∧ (Cond.static y).before args s = true) (hna : As.length = na) (hsz : ls.size = nL) (hst : st0 = As.reverse ++ rest) (hroom : (rest.map fun v => v.category).sum ≤ 8) (hdg : decode cc pc = .ok (.invokestatic index, 3)) (hf : cells ≤ R.cells ∧ slots ≤ R.slots) (kk : ∀ (z : Int32) (H1 : Heap) (locs1 : List Loc), z = a → c_W G S s H1 locs1 → W p l e R s m args below meth c H1 locs1 cells slots Q (F0 m (pc + 3) ls (.int z :: rest))) : W p l e R s m args below meth c H locs cells slots Q (F0 m pc ls st0) :=
  g_callSI X K (c_A G) hw hM cw hna hsz hst hroom hdg hf (fun z S2 H1 locs1 e1 e2 hw => kk z H1 locs1 e1 (by rw [e2] at hw; exact hw))

theorem c_callSR_p (X : CallFix p m c cc nL s args tt_T own) (K : tt_K G s) (hw : c_W G S s H locs) {a : Nat} (hM : c_MR l G y (g_code y b mL r) fr lo As S a S) {na : Nat} (cw : CallB R s args own index y b mL r (g_code y b mL r) (g_rm fr lo) 0 0 na ∧ (Cond.static y).before args s = true) (hna : As.length = na) (hsz : ls.size = nL) (hst : st0 = As.reverse ++ rest) (hroom : (rest.map fun v => v.category).sum ≤ 8) (hdg : decode cc pc = .ok (.invokestatic index, 3)) (hf : cells ≤ R.cells ∧ slots ≤ R.slots) (kk : ∀ (H1 : Heap) (locs1 : List Loc), c_W G S s H1 locs1 → W p l e R s m args below meth c H1 locs1 cells slots Q (F0 m (pc + 3) ls (.ref a :: rest))) : W p l e R s m args below meth c H locs cells slots Q (F0 m pc ls st0) :=
  g_callSR X K (c_A G) hw hM cw hna hsz hst hroom hdg hf (fun S2 H1 locs1 e2 hw => kk H1 locs1 (by rw [e2] at hw; exact hw))

theorem c_callSI_s (X : CallFix p m c cc nL s args tt_T own) (K : tt_K G s) (hw : c_W G S s H locs) {a : Int32} (hM : c_MI l G y (g_code y b mL r) fr lo As S a S') {na : Nat} (cw : CallB R s args own index y b mL r (g_code y b mL r) (g_rm fr lo) 0 0 na ∧ (Cond.static y).before args s = true) (hna : As.length = na) (hsz : ls.size = nL) (hst : st0 = As.reverse ++ rest) (hroom : (rest.map fun v => v.category).sum ≤ 8) (hdg : decode cc pc = .ok (.invokestatic index, 3)) (hf : cells ≤ R.cells ∧ slots ≤ R.slots) (kk : ∀ (z : Int32) (S2 : tt_St) (H1 : Heap) (locs1 : List Loc), z = a → S2 = S' → c_W G S2 s H1 locs1 → W p l e R s m args below meth c H1 locs1 cells slots Q (F0 m (pc + 3) ls (.int z :: rest))) : W p l e R s m args below meth c H locs cells slots Q (F0 m pc ls st0) :=
  g_callSI X K (c_A G) hw hM cw hna hsz hst hroom hdg hf (fun z S2 H1 locs1 e1 e2 hw => kk z S2 H1 locs1 e1 e2 hw)

theorem m_callVI_p (X : CallFix p m c cc nL s args tt_T own) (K : tt_K G s) (hw : m_W G S V s H locs) {a : Int32} (hM : m_MI l G y (g_code y b mL r) fr lo (.ref (mm_ad G 0) :: As) S V a S V) {na : Nat} (cw : CallW R s args own RX7 index y b mL r (g_code y b mL r) (g_rm fr lo) 0 0 na) (hna : As.length = na) (hsz : ls.size = nL) (hst : st0 = As.reverse ++ .ref (mm_ad G 0) :: rest) (hroom : (rest.map fun v => v.category).sum ≤ 8) (hdg : decode cc pc = .ok (.invokevirtual index, 3)) (hf : cells ≤ R.cells ∧ slots ≤ R.slots) (kk : ∀ (z : Int32) (H1 : Heap) (locs1 : List Loc), z = a → m_W G S V s H1 locs1 → W p l e R s m args below meth c H1 locs1 cells slots Q (F0 m (pc + 3) ls (.int z :: rest))) : W p l e R s m args below meth c H locs cells slots Q (F0 m pc ls st0) :=
  m_callVI X K hw hM cw hna hsz hst hroom hdg hf (fun z S2 V2 H1 locs1 e1 e2 e3 hw => kk z H1 locs1 e1 (by rw [e2, e3] at hw; exact hw))

theorem m_callVI_s (X : CallFix p m c cc nL s args tt_T own) (K : tt_K G s) (hw : m_W G S V s H locs) {a : Int32} (hM : m_MI l G y (g_code y b mL r) fr lo (.ref (mm_ad G 0) :: As) S V a S' V) {na : Nat} (cw : CallW R s args own RX7 index y b mL r (g_code y b mL r) (g_rm fr lo) 0 0 na) (hna : As.length = na) (hsz : ls.size = nL) (hst : st0 = As.reverse ++ .ref (mm_ad G 0) :: rest) (hroom : (rest.map fun v => v.category).sum ≤ 8) (hdg : decode cc pc = .ok (.invokevirtual index, 3)) (hf : cells ≤ R.cells ∧ slots ≤ R.slots) (kk : ∀ (z : Int32) (S2 : tt_St) (H1 : Heap) (locs1 : List Loc), z = a → S2 = S' → m_W G S2 V s H1 locs1 → W p l e R s m args below meth c H1 locs1 cells slots Q (F0 m (pc + 3) ls (.int z :: rest))) : W p l e R s m args below meth c H locs cells slots Q (F0 m pc ls st0) :=
  m_callVI X K hw hM cw hna hsz hst hroom hdg hf (fun z S2 V2 H1 locs1 e1 e2 e3 hw => kk z S2 H1 locs1 e1 e2 (by rw [e3] at hw; exact hw))

theorem m_callVI_sv (X : CallFix p m c cc nL s args tt_T own) (K : tt_K G s) (hw : m_W G S V s H locs) {a : Int32} (hM : m_MI l G y (g_code y b mL r) fr lo (.ref (mm_ad G 0) :: As) S V a S' V') {na : Nat} (cw : CallW R s args own RX7 index y b mL r (g_code y b mL r) (g_rm fr lo) 0 0 na) (hna : As.length = na) (hsz : ls.size = nL) (hst : st0 = As.reverse ++ .ref (mm_ad G 0) :: rest) (hroom : (rest.map fun v => v.category).sum ≤ 8) (hdg : decode cc pc = .ok (.invokevirtual index, 3)) (hf : cells ≤ R.cells ∧ slots ≤ R.slots) (kk : ∀ (z : Int32) (S2 : tt_St) (V2 : Int64) (H1 : Heap) (locs1 : List Loc), z = a → S2 = S' → V2 = V' → m_W G S2 V2 s H1 locs1 → W p l e R s m args below meth c H1 locs1 cells slots Q (F0 m (pc + 3) ls (.int z :: rest))) : W p l e R s m args below meth c H locs cells slots Q (F0 m pc ls st0) :=
  m_callVI X K hw hM cw hna hsz hst hroom hdg hf (fun z S2 V2 H1 locs1 e1 e2 e3 hw => kk z S2 V2 H1 locs1 e1 e2 e3 hw)

theorem m_callVV_s (X : CallFix p m c cc nL s args tt_T own) (K : tt_K G s) (hw : m_W G S V s H locs) (hM : m_MV l G y (g_code y b mL r) fr lo (.ref (mm_ad G 0) :: As) S V S' V) {na : Nat} (cw : CallW R s args own RX7 index y b mL r (g_code y b mL r) (g_rm fr lo) 0 0 na) (hna : As.length = na) (hsz : ls.size = nL) (hst : st0 = As.reverse ++ .ref (mm_ad G 0) :: rest) (hroom : (rest.map fun v => v.category).sum ≤ 8) (hdg : decode cc pc = .ok (.invokevirtual index, 3)) (hf : cells ≤ R.cells ∧ slots ≤ R.slots) (kk : ∀ (S2 : tt_St) (H1 : Heap) (locs1 : List Loc), S2 = S' → m_W G S2 V s H1 locs1 → W p l e R s m args below meth c H1 locs1 cells slots Q (F0 m (pc + 3) ls (rest))) : W p l e R s m args below meth c H locs cells slots Q (F0 m pc ls st0) :=
  m_callVV X K hw hM cw hna hsz hst hroom hdg hf (fun S2 V2 H1 locs1 e2 e3 hw => kk S2 H1 locs1 e2 (by rw [e3] at hw; exact hw))

theorem m_callVV_sv (X : CallFix p m c cc nL s args tt_T own) (K : tt_K G s) (hw : m_W G S V s H locs) (hM : m_MV l G y (g_code y b mL r) fr lo (.ref (mm_ad G 0) :: As) S V S' V') {na : Nat} (cw : CallW R s args own RX7 index y b mL r (g_code y b mL r) (g_rm fr lo) 0 0 na) (hna : As.length = na) (hsz : ls.size = nL) (hst : st0 = As.reverse ++ .ref (mm_ad G 0) :: rest) (hroom : (rest.map fun v => v.category).sum ≤ 8) (hdg : decode cc pc = .ok (.invokevirtual index, 3)) (hf : cells ≤ R.cells ∧ slots ≤ R.slots) (kk : ∀ (S2 : tt_St) (V2 : Int64) (H1 : Heap) (locs1 : List Loc), S2 = S' → V2 = V' → m_W G S2 V2 s H1 locs1 → W p l e R s m args below meth c H1 locs1 cells slots Q (F0 m (pc + 3) ls (rest))) : W p l e R s m args below meth c H locs cells slots Q (F0 m pc ls st0) :=
  m_callVV X K hw hM cw hna hsz hst hroom hdg hf (fun S2 V2 H1 locs1 e2 e3 hw => kk S2 V2 H1 locs1 e2 e3 hw)

theorem m_callSI_p (X : CallFix p m c cc nL s args tt_T own) (K : tt_K G s) (hw : m_W G S V s H locs) {a : Int32} (hM : m_MI l G y (g_code y b mL r) fr lo As S V a S V) {na : Nat} (cw : CallB R s args own index y b mL r (g_code y b mL r) (g_rm fr lo) 0 0 na ∧ (Cond.static y).before args s = true) (hna : As.length = na) (hsz : ls.size = nL) (hst : st0 = As.reverse ++ rest) (hroom : (rest.map fun v => v.category).sum ≤ 8) (hdg : decode cc pc = .ok (.invokestatic index, 3)) (hf : cells ≤ R.cells ∧ slots ≤ R.slots) (kk : ∀ (z : Int32) (H1 : Heap) (locs1 : List Loc), z = a → m_W G S V s H1 locs1 → W p l e R s m args below meth c H1 locs1 cells slots Q (F0 m (pc + 3) ls (.int z :: rest))) : W p l e R s m args below meth c H locs cells slots Q (F0 m pc ls st0) :=
  m_callSI X K hw hM cw hna hsz hst hroom hdg hf (fun z S2 V2 H1 locs1 e1 e2 e3 hw => kk z H1 locs1 e1 (by rw [e2, e3] at hw; exact hw))

theorem m_callSV_s (X : CallFix p m c cc nL s args tt_T own) (K : tt_K G s) (hw : m_W G S V s H locs) (hM : m_MV l G y (g_code y b mL r) fr lo As S V S' V) {na : Nat} (cw : CallB R s args own index y b mL r (g_code y b mL r) (g_rm fr lo) 0 0 na ∧ (Cond.static y).before args s = true) (hna : As.length = na) (hsz : ls.size = nL) (hst : st0 = As.reverse ++ rest) (hroom : (rest.map fun v => v.category).sum ≤ 8) (hdg : decode cc pc = .ok (.invokestatic index, 3)) (hf : cells ≤ R.cells ∧ slots ≤ R.slots) (kk : ∀ (S2 : tt_St) (H1 : Heap) (locs1 : List Loc), S2 = S' → m_W G S2 V s H1 locs1 → W p l e R s m args below meth c H1 locs1 cells slots Q (F0 m (pc + 3) ls (rest))) : W p l e R s m args below meth c H locs cells slots Q (F0 m pc ls st0) :=
  m_callSV X K hw hM cw hna hsz hst hroom hdg hf (fun S2 V2 H1 locs1 e2 e3 hw => kk S2 H1 locs1 e2 (by rw [e3] at hw; exact hw))

/-- a loop's measure: how far x is below b -/
noncomputable def lp_mu (b x : Int32) : Nat := Classical.choose (⟨_, rfl⟩ : ∃ n : Nat, n = (b.toInt - x.toInt).toNat)
theorem lp_mu_eq (b x : Int32) : lp_mu b x = (b.toInt - x.toInt).toNat := Classical.choose_spec (⟨_, rfl⟩ : ∃ n : Nat, n = (b.toInt - x.toInt).toNat)
/-- a number that nobody unfolds -/
noncomputable def lp_k (k : Nat) : Nat := Classical.choose (⟨_, rfl⟩ : ∃ n : Nat, n = k)
theorem lp_k_eq (k : Nat) : lp_k k = k := Classical.choose_spec (⟨_, rfl⟩ : ∃ n : Nat, n = k)
noncomputable def lp_nu (b x : Int32) : Nat := Classical.choose (⟨_, rfl⟩ : ∃ n : Nat, n = (b.toInt + 1 - x.toInt).toNat)
theorem lp_nu_eq (b x : Int32) : lp_nu b x = (b.toInt + 1 - x.toInt).toNat := Classical.choose_spec (⟨_, rfl⟩ : ∃ n : Nat, n = (b.toInt + 1 - x.toInt).toNat)
theorem lp_lt (a b : Int32) : a < b ↔ a.toInt < b.toInt := Int32.lt_iff_toInt_lt
theorem lp_le (a b : Int32) : a ≤ b ↔ a.toInt ≤ b.toInt := Int32.le_iff_toInt_le
theorem lp_rng (a : Int32) : -2147483648 ≤ a.toInt ∧ a.toInt ≤ 2147483647 := by
  have h1 := Int32.le_toInt a
  have h2 := Int32.toInt_lt a
  omega
theorem lp_bmod {z : Int} (h1 : -2147483648 ≤ z) (h2 : z ≤ 2147483647) : z.bmod (2 ^ 32) = z := by
  rw [Int.bmod_eq_of_le] <;> omega
theorem lp_add {a b : Int32} (h1 : -2147483648 ≤ a.toInt + b.toInt) (h2 : a.toInt + b.toInt ≤ 2147483647) : (a + b).toInt = a.toInt + b.toInt := by
  rw [Int32.toInt_add, lp_bmod h1 h2]
theorem lp_sub {a b : Int32} (h1 : -2147483648 ≤ a.toInt - b.toInt) (h2 : a.toInt - b.toInt ≤ 2147483647) : (a - b).toInt = a.toInt - b.toInt := by
  rw [Int32.toInt_sub, lp_bmod h1 h2]
theorem lp_mul {a b : Int32} (h1 : -2147483648 ≤ a.toInt * b.toInt) (h2 : a.toInt * b.toInt ≤ 2147483647) : (a * b).toInt = a.toInt * b.toInt := by
  rw [Int32.toInt_mul, lp_bmod h1 h2]
theorem lp_0 : (0 : Int32).toInt = 0 := rfl
theorem lp_1 : (1 : Int32).toInt = 1 := rfl
theorem lp_inc {x b : Int32} (h : ¬ b ≤ x) : (x + 1).toInt = x.toInt + 1 := by
  rw [lp_le] at h
  have := lp_rng b
  have := lp_rng x
  exact lp_add (by rw [lp_1]; omega) (by rw [lp_1]; omega)
theorem lp_dec {x b : Int32} (h : ¬ b ≤ x) : lp_mu b (x + 1) < lp_mu b x := by
  have h1 := lp_inc h
  rw [lp_le] at h
  rw [lp_mu_eq, lp_mu_eq]
  omega
theorem lp_dec' {x b : Int32} {n : Nat} (h : ¬ b ≤ x) (hn : lp_mu b x < n + 1) : lp_mu b (x + 1) < n := by
  have := lp_dec h
  omega
theorem lp_nn {x b : Int32} (h0 : ¬ x < 0) (h : ¬ b ≤ x) : ¬ x + 1 < 0 := by
  have h1 := lp_inc h
  rw [lp_lt, lp_0] at h0 ⊢
  omega
theorem lp_in {x b : Int32} {n : Nat} (h0 : ¬ x < 0) (h : ¬ b ≤ x) (hb : b.toInt ≤ n) : vp_in x n := by
  rw [vp_in_iff]
  rw [lp_lt, lp_0] at h0
  rw [lp_le] at h
  omega
theorem lp_st {b : Int32} {n : Nat} (h : b.toInt ≤ n) : lp_mu b 0 < n + 1 := by
  rw [lp_mu_eq, lp_0]
  omega
theorem lp_cl {x : Int32} {n : Nat} (h : vp_in x n) : x.toNatClampNeg < n := Nat.not_le.mp fun q => h (Or.inr q)
end CP
