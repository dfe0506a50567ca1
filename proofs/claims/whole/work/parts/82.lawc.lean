/-! THE CLAIM OUT OF ONE WALK OF THE LAW'S BODY. Your part is whole_start (and what it stands on); all else here is the same for every law, but numbers. -/
def R_law : String := "TrustTinLaw"
def lw_P (b : Addr) (xs : List Int32) (args : Array Value) (s : State) : Prop := args = #[.ref b] ∧ s.IntsAt b xs ∧ xs.length ≤ 3072 ∧ (Jvm.Cond.and given_1 narrow_1).before args s = true
def lw_Q (_ : Array Value) (s : State) (o : Outcome) (t : State) : Prop := o = .returned (some (.int 1)) ∧ Framed s o t [] 600000 7302250
def lw_Z (below : List Frame) (a : Array Value) (s : State) : State → Prop := fun t => ∃ o, t.status = .running ∧ Ended t below o ∧ lw_Q a s o t
/-- the law's own end, with 1 on the stack, nothing written that was there before, its room as the claim has it -/
theorem lw_ret {p : Program} {l : Launch} {e : Env} {s : State} {m : MethodId} {below : List Frame} {meth : Method} {c : Code} {b : Nat} (hx : p.tables.exec = Jvm.exec) (hb : c.code = code) (hr : meth.sig.returnType = ret) (hlocks : meth.locks = false) {pc : Nat} {H : Heap} {ls : Array Slot} (hdg : decode code pc = .ok (.ireturn, 1)) : W p l e room_1 s m #[Value.ref b] below meth c H [] 600000 7302250 (lw_Z below #[Value.ref b] s) (F0 m pc ls [.int 1]) := by
  intro T hT X
  obtain ⟨fs, hret, hrun, hended, hW, hframe⟩ := X.leave (v := some (.int 1)) (hlocks := hlocks) (fun h => by rw [hr] at h; cases h)
  have hmeth' : T.vm.method? m = some meth := X.method'
  refine ⟨T.setFrames fs, ?_, .returned (some (.int 1)), hrun, hended, rfl, ⟨_, rfl⟩, hW, hframe⟩
  jvm_step X.here [X.here.top, hx, hb, hdg, hmeth', hr, ret, narrow_b1]
  (try refine ⟨rfl, ?_⟩); (try refine ⟨rfl, ?_⟩)
  first | (intro acts; rw [hret _ acts rfl rfl rfl]) | rw [hret _ _ rfl rfl rfl]
  exact Steps.refl _
/-- what holds at the law's entry: the machine, the code, the tables' words (any of lw_tbl by 'hts w (by decide +kernel)'), the script of L ints xs at the cell b, what the Statement gives of the start (any of its parts by flat_of_before) -/
def lw_At (p : Program) (s : State) (m : MethodId) (meth : Method) (c : Code) (b L : Nat) (xs : Nat → Int32) : Prop :=
  p.tables.exec = Jvm.exec ∧ c.code = code ∧ meth.sig.returnType = ret ∧ c.maxLocals = 4 ∧ s.vm.findClass R_law = some m.cls ∧ (∀ w ∈ lw_tbl, w.before #[Value.ref b] s = true) ∧ va_X b L xs s s.heap ∧ b < s.heap.size ∧ meth.locks = false ∧ (Jvm.Cond.and given_1 narrow_1).before #[Value.ref b] s = true
/-! the law's calls -/
section LC
variable {p : Program} {l : Launch} {e : Env} {s : State} {m : MethodId} {below : List Frame} {meth : Method} {c : Code} {b L i : Nat} {xs : Nat → Int32} {G : tt_G} {S M : tt_St} {V : Int64} {H : Heap} {locs : List Loc} {cells slots : Nat} {Q : State → Prop} {pc index : Nat} {ls : Array Slot} {rest : List Value}
/-- both objects, as they stand between the law's calls -/
def L_W (G : tt_G) (S M : tt_St) (V : Int64) (s : State) (H : Heap) (locs : List Loc) : Prop := va_P G.1 vwCl (g_w 62 G.2.2 (tt_cell G) S) H ∧ va_P G.1 vwCl (g_w 10 (mm_ad G) (mm_cell G) (M, V)) H ∧ va_S (fun q : Nat => s.heap.size ≤ q) s.heap H locs
def L_K (G : tt_G) (s : State) : Prop := tt_K G s ∧ ∀ n : Nat, n < 72 → s.heap.size ≤ G.2.2 n
theorem L_go (K : L_K G s) (hS : va_S (fun q : Nat => s.heap.size ≤ q) s.heap H locs) {U : State} (hU : U.heap = H) (hW : s.WarmedH U.vm) : tt_K G U := K.1.go hW (fun a h1 _ => by rw [hU]; exact hS.2.1 a h1 (Nat.not_le.mpr h1))
theorem L_cA (K : L_K G s) {q : Nat} (h : g_in 62 G.2.2 q) : s.heap.size ≤ q := by
  obtain ⟨n, h1, rfl⟩ := h
  exact K.2 n (by omega)
theorem L_mA (K : L_K G s) {q : Nat} (h : g_in 10 (mm_ad G) q) : s.heap.size ≤ q := by
  obtain ⟨n, h1, rfl⟩ := h
  exact K.2 (62 + n) (by omega)
theorem L_wk {σ : Type} {N k : Nat} {ad : Nat → Nat} {cell : σ → Nat → va_E} {T : σ} {x : Nat × va_E} (h : (g_w N ad cell T)[k]? = some x) : k < N ∧ x.1 = ad k := by
  have hl : k < N := by
    have := (List.getElem?_eq_some_iff.mp h).1
    simpa [g_w] using this
  rw [g_w_at hl rfl] at h
  cases h
  exact ⟨hl, rfl⟩
theorem L_callC (X : CallFix p m c cL_law 4 s #[Value.ref b] tt_T "TrustTinLaw") (K : L_K G s) (hw : L_W G S M V s H locs) {y : MethodName} {bts : ByteArray} {mL fr lo na : Nat} {As st0 : List Value} {a : Int32} {S' : tt_St} (hM : c_MI l G y (g_code y bts mL (some .int)) fr lo (.ref (G.2.2 61) :: As) S a S') (hy : g_is y "TrustTin" na) (h1 : Cond.methodLink "TrustTinLaw" index y ∈ tt_T) (h2 : Cond.instanceMethod y ∈ tt_T) (h3 : Cond.selects "TrustTin" y y ∈ tt_T) (h5 : Cond.code y bts mL (some .int) ∈ tt_T) (hR : fr + 1 ≤ room_1.frames ∧ 8 + (mL + 11) + lo ≤ room_1.locals) (hna : As.length = na) (hsz : ls.size = 4) (hst : st0 = As.reverse ++ .ref (G.2.2 61) :: rest) (hroom : (rest.map fun v => v.category).sum ≤ 8) (hdg : decode cL_law pc = .ok (.invokevirtual index, 3)) (hf : cells ≤ room_1.cells ∧ slots ≤ room_1.slots)
    (kk : ∀ (z : Int32) (S2 : tt_St) (H1 : Heap) (locs1 : List Loc), z = a → S2 = S' → L_W G S2 M V s H1 locs1 → W p l e room_1 s m #[Value.ref b] below meth c H1 locs1 cells slots Q (F0 m (pc + 3) ls (.int z :: rest))) : W p l e room_1 s m #[Value.ref b] below meth c H locs cells slots Q (F0 m pc ls st0) := by
  refine va_calli (va_runV (As := As) (rest := rest) X hM (g_cwV X hy h1 h2 h3 q67 h5 hR) ⟨g_Pc_blind _, va_recv K.1.1 hw.1 (ci := 6) rfl (g_w_at (by decide) tt_eT), fun U hU hW => ⟨rfl, by rw [hU]; exact hw.1, L_go K hw.2.2 hU hW⟩⟩ rfl hna hsz hst (lv_room hroom) hdg hf) hw.2.2 (fun q _ h => L_cA K h) (fun q h => L_cA K h) (fun z u t H1 locs1 ht hvm hp hB hz1 hk1 hS => ?_)
  obtain ⟨rfl, rfl⟩ := hp
  refine kk _ _ H1 locs1 rfl rfl ⟨by rw [← ht]; exact hB, hw.2.1.kept (fun k x hk => hk1 x.1 ((hw.2.1 k x hk).lt) (fun z => ?_)), hS⟩
  obtain ⟨n, n1, n2⟩ := z
  obtain ⟨k1, k2⟩ := L_wk hk
  have := K.1.2.1 (62 + k) n (by omega) (by omega) (k2.symm.trans n2)
  omega
theorem L_callM (X : CallFix p m c cL_law 4 s #[Value.ref b] tt_T "TrustTinLaw") (K : L_K G s) (hw : L_W G S M V s H locs) {y : MethodName} {bts : ByteArray} {mL fr lo na : Nat} {As st0 : List Value} {a : Int32} {M' : tt_St} {V' : Int64} (hM : m_MI l G y (g_code y bts mL (some .int)) fr lo (.ref (mm_ad G 0) :: As) M V a M' V') (hy : g_is y "TrustTinModel" na) (h1 : Cond.methodLink "TrustTinLaw" index y ∈ tt_T) (h2 : Cond.instanceMethod y ∈ tt_T) (h3 : Cond.selects "TrustTinModel" y y ∈ tt_T) (h5 : Cond.code y bts mL (some .int) ∈ tt_T) (hR : fr + 1 ≤ room_1.frames ∧ 8 + (mL + 11) + lo ≤ room_1.locals) (hna : As.length = na) (hsz : ls.size = 4) (hst : st0 = As.reverse ++ .ref (mm_ad G 0) :: rest) (hroom : (rest.map fun v => v.category).sum ≤ 8) (hdg : decode cL_law pc = .ok (.invokevirtual index, 3)) (hf : cells ≤ room_1.cells ∧ slots ≤ room_1.slots)
    (kk : ∀ (z : Int32) (M2 : tt_St) (V2 : Int64) (H1 : Heap) (locs1 : List Loc), z = a → M2 = M' → V2 = V' → L_W G S M2 V2 s H1 locs1 → W p l e room_1 s m #[Value.ref b] below meth c H1 locs1 cells slots Q (F0 m (pc + 3) ls (.int z :: rest))) : W p l e room_1 s m #[Value.ref b] below meth c H locs cells slots Q (F0 m pc ls st0) := by
  refine va_calli (va_runV (As := As) (rest := rest) X hM (g_cwV X hy h1 h2 h3 q74 h5 hR) ⟨g_Pc_blind _, va_recv K.1.1 hw.2.1 (ci := 7) rfl (g_w_at (by decide) mm_e0), fun U hU hW => ⟨rfl, by rw [hU]; exact hw.2.1, L_go K hw.2.2 hU hW⟩⟩ rfl hna hsz hst (lv_room hroom) hdg hf) hw.2.2 (fun q _ h => L_mA K h) (fun q h => L_mA K h) (fun z u t H1 locs1 ht hvm hp hB hz1 hk1 hS => ?_)
  obtain ⟨rfl, rfl⟩ := hp
  refine kk _ _ _ H1 locs1 rfl rfl rfl ⟨hw.1.kept (fun k x hk => hk1 x.1 ((hw.1 k x hk).lt) (fun z => ?_)), by rw [← ht]; exact hB, hS⟩
  obtain ⟨n, n1, n2⟩ := z
  obtain ⟨k1, k2⟩ := L_wk hk
  have := K.1.2.1 k (62 + n) (by omega) (by omega) (k2.symm.trans n2)
  omega
/-- what holds in a case: six ints of the script from i on -/
def L_C (p : Program) (s : State) (m : MethodId) (c : Code) (b L i : Nat) (xs : Nat → Int32) (G : tt_G) : Prop := CallFix p m c cL_law 4 s #[Value.ref b] tt_T "TrustTinLaw" ∧ L_K G s ∧ va_X b L xs s s.heap ∧ b < s.heap.size ∧ i + 6 ≤ L ∧ L ≤ 3072
def L_lv (G : tt_G) (b i : Nat) (ls : Array Slot) : Prop := lv_has ls 4 [(3, .int (nI i)), (2, .ref (mm_ad G 0)), (1, .ref (G.2.2 61)), (0, .ref b)]
/-- the script's int at i + j -/
def L_v (xs : Nat → Int32) (i j : Nat) : Int32 := xs (nI i + nI j).toNatClampNeg
theorem L_arg (C : L_C p s m c b L i xs G) (hw : L_W G S M V s H locs) (hl : L_lv G b i ls) (j : Nat) (hj : j < 6) {z : Int} (d0 : decode cL_law pc = .ok (.aload_n 0, 1)) (d1 : decode cL_law (pc + 1) = .ok (.iload_n 3, 1)) (d2 : decode cL_law (pc + 1 + 1) = .ok (.iconst z, 1)) (hz : Int32.ofInt z = nI j) (d3 : decode cL_law (pc + 1 + 1 + 1) = .ok (.iadd, 1)) (d4 : decode cL_law (pc + 1 + 1 + 1 + 1) = .ok (.iaload, 1))
    (kk : W p l e room_1 s m #[Value.ref b] below meth c H locs cells slots Q (F0 m (pc + 5) ls (.int (L_v xs i j) :: rest))) : W p l e room_1 s m #[Value.ref b] below meth c H locs cells slots Q (F0 m pc ls rest) := by
  obtain ⟨X, K, hX, hbl, hi, hL⟩ := C
  refine lv_aload_n X.1 X.2.1 d0 rfl (lv_at hl 3 rfl) ?_
  refine lv_iload_n X.1 X.2.1 d1 rfl (lv_at hl 0 rfl) ?_
  refine lv_iconst (v := nI j) X.1 X.2.1 d2 hz ?_
  refine lv_iadd X.1 X.2.1 d3 ?_
  exact va_sld X.1 X.2.1 hX hbl (Nat.not_le.mpr hbl) hw.2.2 (by rw [nI_add]; exact vp_in_nI (by omega) (by omega)) d4 kk
end LC
