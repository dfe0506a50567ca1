/-! constructors: worlds that grow; the cells are a list, the object first -/
def n_tys (cl : Nat → ClassId) : List (ClassId × FieldType) := [(cl 0, .int), (cl 1, .object "TrustTin$Drinker"), (cl 2, .object "TrustTin$Sheet"), (cl 3, .byte)]
def n_AO (U : State) : Prop := va_AO "TrustTin$Drinker" U ∧ va_AO "TrustTin$Sheet" U ∧ va_Nw (.methodLinkNest "TrustTin$Room" 53 yX0_init "TrustTin") U ∧ va_Nw (.methodLinkNest "TrustTin$Room" 62 yX1_init "TrustTin") U ∧ va_Nw (.methodLinkNest "TrustTin" 28 yX4_init "TrustTin") U ∧ va_Nw (.methodLinkNest "TrustTin" 52 yX3_init "TrustTin") U
theorem n_AO.go {s U : State} (h : n_AO s) (hW : s.WarmedH U.vm) : n_AO U := ⟨h.1.moved hW.alike, h.2.1.moved hW.alike, h.2.2.1.warmM hW, h.2.2.2.1.warmM hW, h.2.2.2.2.1.warmM hW, h.2.2.2.2.2.warmM hW⟩
theorem n_AO.blind {U : State} (h : n_AO U) (g : JFrame) (mk : MethodId) (a : Array Value) : n_AO (U.calling g mk a) := ⟨h.1.moved (Vm.Alike.refl U.vm), h.2.1.moved (Vm.Alike.refl U.vm), h.2.2.1.same rfl rfl, h.2.2.2.1.same rfl rfl, h.2.2.2.2.1.same rfl rfl, h.2.2.2.2.2.same rfl rfl⟩
/-- a constructor's link: an own one, or a nest mate's -/
def n_link (own : String) (index : Nat) (y : MethodName) (s : State) : Prop := Cond.methodLink own index y ∈ tt_T ∨ va_Nw (.methodLinkNest own index y "TrustTin") s
def n_Pre (D : va_G) (cl : Nat → ClassId) (sz : Nat) (w : va_W) (U : State) : Prop := U.heap.size = sz ∧ va_P D vwCl w U.heap ∧ va_K D vwCl (n_tys cl) U ∧ n_AO U ∧ va_D (fun _ => True) w
def n_rm (fr mc ms lo : Nat) : Room := { frames := fr, cells := mc, slots := ms, locals := lo }
def n_Q {σ : Type} (D : va_G) (sz : Nat) (w0 : va_W) (B : σ → va_W) : Array Value → State → Outcome → State → Prop := va_Qv (fun _ : σ => True) (fun u t => va_P D vwCl (B u) t.heap ∧ va_D (va_A w0 sz) (B u)) (va_A w0 sz)
def n_M {σ : Type} (l : Launch) (D : va_G) (cl : Nat → ClassId) (y : MethodName) (ws : List Cond) (fr mc ms lo : Nat) (av : List Value) (w0 : va_W) (B : σ → va_W) : Prop := ∀ sz : Nat, Met l y ws (n_rm fr mc ms lo) (va_Pc av (n_Pre D cl sz w0)) (n_Q D sz w0 B) mc ms (va_A w0 sz)
section NW
variable {p : Program} {l : Launch} {e : Env} {R : Room} {s : State} {m : MethodId} {args : Array Value} {below : List Frame} {meth : Method} {c : Code} {H : Heap} {locs : List Loc} {cells slots : Nat} {Q : State → Prop}
variable {cc : ByteArray} {pc nL index : Nat} {ls : Array Slot} {rest : List Value} {own : String} {D : va_G} {cl : Nat → ClassId} {A : Nat → Prop} {ws w0 : va_W} {σ : Type} {a : Nat}
theorem n_begin {y : MethodName} {b : ByteArray} {mL fr mc ms lo : Nat} {av : List Value} {B : σ → va_W} (hy : plainName y.cls = true) (hle : (lg_sl av).length ≤ mL) (hyn : y.name = "<init>")
    (body : ∀ (p : Program) (e : Env) (s : State) (m : MethodId) (below : List Frame) (meth : Method) (c : Code) (ls : Array Slot) (A : Nat → Prop), CallFix p m c b mL s av.toArray tt_T y.cls → meth.sig.returnType = none → meth.locks = false → meth.name = "<init>" → va_K D vwCl (n_tys cl) s → n_AO s → va_P D vwCl w0 s.heap → va_D A w0 → (∀ q, s.heap.size ≤ q → A q) → A = va_A w0 s.heap.size → lv_has ls mL (lv_args 0 av) → W p l e (n_rm fr mc ms lo) s m av.toArray below meth c s.heap [] 0 0 (MQ below (n_Q D s.heap.size w0 B) av.toArray s mc ms A) (F0 m 0 ls [])) : n_M l D cl y (g_code y b mL none) fr mc ms lo av w0 B := by
  intro sz
  refine Met.ofW (cc := b) (maxL := mL) (ret := none) hy rfl ?_
  intro p e s m args below meth c s₁ Bd hml hv
  obtain ⟨rfl, hsz, hP, hK, hAO, hD⟩ := hv
  subst hsz
  have hts := atoms_spec (ws := g_code y b mL none) Bd.pre
  have hl := lv_entry av (n := mL) hle
  rw [lg_entry_eq]
  exact body p e s m below meth c _ (va_A w0 s.heap.size) ⟨Bd.exec, Bd.bytes, hml, findClass_of_methodNamed Bd.named, fun w h => hts w (List.mem_cons_of_mem _ h)⟩ Bd.returns Bd.notSynchronized ((name_of_methodNamed Bd.named Bd.method).1.trans hyn) hK hAO hP hD.self (fun q h => Or.inr h) rfl hl
theorem n_end {B : σ → va_W} {mc ms : Nat} (X : CallFix p m c cc nL s args tt_T own) (hr : meth.sig.returnType = none) (hlk : meth.locks = false) (hA : A = va_A w0 s.heap.size) (u : σ) (hP : va_P D vwCl (B u) H) (hD : va_D A (B u)) (hS : va_S A s.heap H locs) (hdg : decode cc pc = .ok (.return_, 1)) : W p l e R s m args below meth c H locs mc ms (MQ below (n_Q D s.heap.size w0 B) args s mc ms A) (F0 m pc ls []) := by
  subst hA
  exact W.vret X.1 X.2.1 hr (fun t ht hW => ⟨⟨u, rfl, trivial, by rw [ht]; exact hP, hD⟩, hS.F ht⟩) hS.2.2 hdg hlk
theorem n_cI {cA : ClassId} (h : va_K D vwCl (n_tys cl ++ [(cA, .int)]) s) : cA = cl 0 := by
  have h1 := (h.2 0 _ rfl).2
  have h2 := (h.2 4 _ rfl).2
  exact Option.some.inj (h2.symm.trans h1)
theorem n_cB {cA : ClassId} (h : va_K D vwCl (n_tys cl ++ [(cA, .byte)]) s) : cA = cl 3 := by
  have h1 := (h.2 3 _ rfl).2
  have h2 := (h.2 4 _ rfl).2
  exact Option.some.inj (h2.symm.trans h1)
theorem n_cD {cA : ClassId} (h : va_K D vwCl (n_tys cl ++ [(cA, .object "TrustTin$Drinker")]) s) : cA = cl 1 := by
  obtain ⟨_, _, _, _, _, h1⟩ := (h.2 1 _ rfl).2
  obtain ⟨_, _, _, _, _, h2⟩ := (h.2 4 _ rfl).2
  exact Option.some.inj (h2.symm.trans h1)
theorem n_cS {cA : ClassId} (h : va_K D vwCl (n_tys cl ++ [(cA, .object "TrustTin$Sheet")]) s) : cA = cl 2 := by
  obtain ⟨_, _, _, _, _, h1⟩ := (h.2 2 _ rfl).2
  obtain ⟨_, _, _, _, _, h2⟩ := (h.2 4 _ rfl).2
  exact Option.some.inj (h2.symm.trans h1)
/-- new int[n] -/
theorem n_newi (X : CallFix p m c cc nL s args tt_T own) (K : va_K D vwCl (n_tys cl) s) (hA : ∀ q, s.heap.size ≤ q → A q) {n : Int32} {N' : Nat} (hP : va_P D vwCl ws H) (hD : va_D A ws) (hS : va_S A s.heap H locs) (hn : ¬ n < 0) (hN : n.toNatClampNeg = N') (hbytes : N' * 4 ≤ 536870912) (hcells : cells + 1 ≤ R.cells) (hslots : slots + N' ≤ R.slots) (hdg : decode cc pc = .ok (.newarray .int, 2))
    (kk : ∀ (q : Nat) (H1 : Heap), va_P D vwCl (ws ++ [(q, .inl (cl 0, N', .inl (fun _ => 0)))]) H1 → va_D A (ws ++ [(q, .inl (cl 0, N', .inl (fun _ => 0)))]) → va_S A s.heap H1 locs → W p l e R s m args below meth c H1 locs (cells + 1) (slots + N') Q (F0 m (pc + 2) ls (.ref q :: rest))) : W p l e R s m args below meth c H locs cells slots Q (F0 m pc ls (.int n :: rest)) := by
  refine va_newa (atype := .int) (ty := .int) (a0 := (N', .inl (fun _ => 0))) X.1 X.2.1 (X.2.2.2.2 _ q117) rfl K hP hD hS hA (fun cA => rfl) hn hN hbytes hcells hslots hdg (fun q cA H1 hK1 hP1 hD1 hS1 => ?_)
  have e := n_cI hK1
  subst e
  exact kk q H1 hP1 hD1 hS1
theorem n_newb (X : CallFix p m c cc nL s args tt_T own) (K : va_K D vwCl (n_tys cl) s) (hA : ∀ q, s.heap.size ≤ q → A q) {n : Int32} {N' : Nat} (hP : va_P D vwCl ws H) (hD : va_D A ws) (hS : va_S A s.heap H locs) (hn : ¬ n < 0) (hN : n.toNatClampNeg = N') (hbytes : N' * 1 ≤ 536870912) (hcells : cells + 1 ≤ R.cells) (hslots : slots + N' ≤ R.slots) (hdg : decode cc pc = .ok (.newarray .byte, 2))
    (kk : ∀ (q : Nat) (H1 : Heap), va_P D vwCl (ws ++ [(q, .inl (cl 3, N', .inl (fun _ => 0)))]) H1 → va_D A (ws ++ [(q, .inl (cl 3, N', .inl (fun _ => 0)))]) → va_S A s.heap H1 locs → W p l e R s m args below meth c H1 locs (cells + 1) (slots + N') Q (F0 m (pc + 2) ls (.ref q :: rest))) : W p l e R s m args below meth c H locs cells slots Q (F0 m pc ls (.int n :: rest)) := by
  refine va_newa (atype := .byte) (ty := .byte) (a0 := (N', .inl (fun _ => 0))) X.1 X.2.1 (X.2.2.2.2 _ q742) rfl K hP hD hS hA (fun cA => rfl) hn hN hbytes hcells hslots hdg (fun q cA H1 hK1 hP1 hD1 hS1 => ?_)
  have e := n_cB hK1
  subst e
  exact kk q H1 hP1 hD1 hS1
theorem n_newD (X : CallFix p m c cc nL s args tt_T own) (K : va_K D vwCl (n_tys cl) s) (hO : n_AO s) (hA : ∀ q, s.heap.size ≤ q → A q) {n : Int32} {N' : Nat} (hP : va_P D vwCl ws H) (hD : va_D A ws) (hS : va_S A s.heap H locs) (hq : Cond.classLink own index "TrustTin$Drinker" ∈ tt_T) (hn : ¬ n < 0) (hN : n.toNatClampNeg = N') (hbytes : N' * 4 ≤ 536870912) (hcells : cells + 1 ≤ R.cells) (hslots : slots + N' ≤ R.slots) (hdg : decode cc pc = .ok (.anewarray index, 3))
    (kk : ∀ (q : Nat) (H1 : Heap), va_P D vwCl (ws ++ [(q, .inl (cl 1, N', .inr (.inr (.inr (.inr (fun _ => none))))))]) H1 → va_D A (ws ++ [(q, .inl (cl 1, N', .inr (.inr (.inr (.inr (fun _ => none))))))]) → va_S A s.heap H1 locs → W p l e R s m args below meth c H1 locs (cells + 1) (slots + N') Q (F0 m (pc + 3) ls (.ref q :: rest))) : W p l e R s m args below meth c H locs cells slots Q (F0 m pc ls (.int n :: rest)) := by
  refine va_newq X.1 X.2.1 X.2.2.2.1 (X.2.2.2.2 _ hq) hO.1 K hP hD hS hA hn hN hbytes hcells hslots hdg (fun q cA H1 hK1 hP1 hD1 hS1 => ?_)
  have e := n_cD hK1
  subst e
  exact kk q H1 hP1 hD1 hS1
theorem n_newS (X : CallFix p m c cc nL s args tt_T own) (K : va_K D vwCl (n_tys cl) s) (hO : n_AO s) (hA : ∀ q, s.heap.size ≤ q → A q) {n : Int32} {N' : Nat} (hP : va_P D vwCl ws H) (hD : va_D A ws) (hS : va_S A s.heap H locs) (hq : Cond.classLink own index "TrustTin$Sheet" ∈ tt_T) (hn : ¬ n < 0) (hN : n.toNatClampNeg = N') (hbytes : N' * 4 ≤ 536870912) (hcells : cells + 1 ≤ R.cells) (hslots : slots + N' ≤ R.slots) (hdg : decode cc pc = .ok (.anewarray index, 3))
    (kk : ∀ (q : Nat) (H1 : Heap), va_P D vwCl (ws ++ [(q, .inl (cl 2, N', .inr (.inr (.inr (.inr (fun _ => none))))))]) H1 → va_D A (ws ++ [(q, .inl (cl 2, N', .inr (.inr (.inr (.inr (fun _ => none))))))]) → va_S A s.heap H1 locs → W p l e R s m args below meth c H1 locs (cells + 1) (slots + N') Q (F0 m (pc + 3) ls (.ref q :: rest))) : W p l e R s m args below meth c H locs cells slots Q (F0 m pc ls (.int n :: rest)) := by
  refine va_newq X.1 X.2.1 X.2.2.2.1 (X.2.2.2.2 _ hq) hO.2.1 K hP hD hS hA hn hN hbytes hcells hslots hdg (fun q cA H1 hK1 hP1 hD1 hS1 => ?_)
  have e := n_cS hK1
  subst e
  exact kk q H1 hP1 hD1 hS1
/-- a field of the object, which stands first -/
theorem n_put (X : CallFix p m c cc nL s args tt_T own) (K : va_K D vwCl (n_tys cl) s) {ci : Nat} {fs : List Value} (hP : va_P D vwCl ((a, .inr (ci, fs)) :: ws) H) (hD : va_D A ((a, .inr (ci, fs)) :: ws)) (hS : va_S A s.heap H locs) {C : String} {T : u_T} {M : Nat} (hc : vwCl[ci]? = some (C, T, M)) (hin : ∀ w ∈ u_ws C T M, w ∈ tt_T) {ty0 : Nat → FieldType} (hty : ∀ k, k < M → parseFieldDescriptor (T k).2.2.1 = some (ty0 k)) (hnm : ∀ a, a < M → ∀ b, b < M → a ≠ b → (T a).2.1 ≠ (T b).2.1) (k : Nat) (hk : k < M) (hl : Cond.fieldLink own index (T k).1 (T k).2.1 (T k).2.2.1 ∈ tt_T) (hfin : (T k).2.2.2 = false) {v : Value} (hnr : narrow (ty0 k) v = v) (hft : fits (ty0 k) v = true) (hlen : k < fs.length) {fs' : List Value} (hfs : fs.set k v = fs') (hdg : decode cc pc = .ok (.putfield index, 3))
    (kk : ∀ (H1 : Heap) (locs1 : List Loc), va_P D vwCl ((a, .inr (ci, fs')) :: ws) H1 → va_D A ((a, .inr (ci, fs')) :: ws) → va_S A s.heap H1 locs1 → W p l e R s m args below meth c H1 locs1 cells slots Q (F0 m (pc + 3) ls rest)) : W p l e R s m args below meth c H locs cells slots Q (F0 m pc ls (v :: .ref a :: rest)) := by
  subst hfs
  exact va_put X.1 X.2.1 X.2.2.2.2 hin ty0 hty hnm X.2.2.2.1 K hP hD hS 0 rfl hc k hk (X.2.2.2.2 _ hl) (fun _ h => h) hfin (hty k hk) hnr hft hlen hdg (fun H1 locs1 hP1 hD1 hS1 => kk H1 locs1 hP1 hD1 hS1)
theorem n_putF (X : CallFix p m c cc nL s args tt_T own) (K : va_K D vwCl (n_tys cl) s) (hin2 : meth.name = "<init>") {ci : Nat} {fs : List Value} (hP : va_P D vwCl ((a, .inr (ci, fs)) :: ws) H) (hD : va_D A ((a, .inr (ci, fs)) :: ws)) (hS : va_S A s.heap H locs) {C : String} {T : u_T} {M : Nat} (hc : vwCl[ci]? = some (C, T, M)) (hin : ∀ w ∈ u_ws C T M, w ∈ tt_T) {ty0 : Nat → FieldType} (hty : ∀ k, k < M → parseFieldDescriptor (T k).2.2.1 = some (ty0 k)) (hnm : ∀ a, a < M → ∀ b, b < M → a ≠ b → (T a).2.1 ≠ (T b).2.1) (k : Nat) (hk : k < M) (hl : Cond.fieldLink own index (T k).1 (T k).2.1 (T k).2.2.1 ∈ tt_T) (hfin : (T k).2.2.2 = true) (hdecl : (T k).1 = own) {v : Value} (hnr : narrow (ty0 k) v = v) (hft : fits (ty0 k) v = true) (hlen : k < fs.length) {fs' : List Value} (hfs : fs.set k v = fs') (hdg : decode cc pc = .ok (.putfield index, 3))
    (kk : ∀ (H1 : Heap) (locs1 : List Loc), va_P D vwCl ((a, .inr (ci, fs')) :: ws) H1 → va_D A ((a, .inr (ci, fs')) :: ws) → va_S A s.heap H1 locs1 → W p l e R s m args below meth c H1 locs1 cells slots Q (F0 m (pc + 3) ls rest)) : W p l e R s m args below meth c H locs cells slots Q (F0 m pc ls (v :: .ref a :: rest)) := by
  subst hfs
  exact va_putF X.1 X.2.1 X.2.2.2.2 hin ty0 hty hnm X.2.2.2.1 K hP hD hS 0 rfl hc k hk (X.2.2.2.2 _ hl) (fun _ h => h) hfin hin2 hdecl (hty k hk) hnr hft hlen hdg (fun H1 locs1 hP1 hD1 hS1 => kk H1 locs1 hP1 hD1 hS1)
theorem n_get (X : CallFix p m c cc nL s args tt_T own) (K : va_K D vwCl (n_tys cl) s) {ci : Nat} {fs : List Value} (hP : va_P D vwCl ((a, .inr (ci, fs)) :: ws) H) {C : String} {T : u_T} {M : Nat} (hc : vwCl[ci]? = some (C, T, M)) (hin : ∀ w ∈ u_ws C T M, w ∈ tt_T) (k : Nat) (hk : k < M) (hl : Cond.fieldLink own index (T k).1 (T k).2.1 (T k).2.2.1 ∈ tt_T) {v : Value} (hv : fs[k]? = some v) (hdg : decode cc pc = .ok (.getfield index, 3))
    (kk : W p l e R s m args below meth c H locs cells slots Q (F0 m (pc + 3) ls (v :: rest))) : W p l e R s m args below meth c H locs cells slots Q (F0 m pc ls (.ref a :: rest)) :=
  va_get (D := D) (C := C) (T := T) (N := M) X.1 X.2.1 X.2.2.2.2 hin X.2.2.2.1 K hP 0 rfl hc k hk (X.2.2.2.2 _ hl) (fun _ h => h) hv hdg kk
/-- super() -/
theorem n_obj (X : CallFix p m c cc nL s args tt_T own) (hl : Cond.methodLink own index Lib.objectInit ∈ tt_T) (hsz : ls.size = nL) (hfr : 1 ≤ R.frames) (hlo : 2 * (F0 m pc ls [.ref a]).monitorRoom + 0 + 12 ≤ R.locals) (hdg : decode cc pc = .ok (.invokespecial index, 3)) (kk : W p l e R s m args below meth c H locs cells slots Q (F0 m (pc + 3) ls [])) : W p l e R s m args below meth c H locs cells slots Q (F0 m pc ls [.ref a]) :=
  W.objInit X.1 X.2.1 X.2.2.2.1 (X.2.2.2.2 _ hl) (X.2.2.2.2 _ q88) (X.2.2.2.2 _ q89) rfl (hsz.trans X.2.2.1.symm) rfl hdg hfr hlo kk
/-- behind a constructor: the new cell has become a world of its own -/
theorem n_join {x : Nat × va_E} {w1 : va_W} {H1 : Heap} (hP : va_P D vwCl (ws ++ [x]) H) (hD : va_D A (ws ++ [x])) (hk : ∀ q : Nat, q < H.size → ¬ va_A [x] H.size q → H1[q]? = H[q]?) (hF : ∀ q, va_A [x] H.size q → A q) (hP1 : va_P D vwCl w1 H1) (hD1 : va_D (va_A [x] H.size) w1) : va_P D vwCl (ws ++ w1) H1 ∧ va_D A (ws ++ w1) := by
  have hx : (ws ++ [x])[ws.length]? = some x := by simp
  have hin : ∀ (k : Nat) (q : Nat × va_E), ws[k]? = some q → k < ws.length ∧ (ws ++ [x])[k]? = some q := fun k q h => by
    have hk := (List.getElem?_eq_some_iff.mp h).1
    exact ⟨hk, by rw [List.getElem?_append_left hk]; exact h⟩
  have hno : ∀ (k : Nat) (q : Nat × va_E), ws[k]? = some q → ¬ va_A [x] H.size q.1 := fun k q h hv => by
    obtain ⟨h1, h2⟩ := hin k q h
    rcases hv with ⟨j, e, hj⟩ | hv
    · rcases j with _ | j
      · have hj : some x = some (q.1, e) := hj
        have := hD.1 k ws.length q x h2 hx (by rw [Option.some.inj hj])
        omega
      · cases hj
    · have := (hP k q h2).lt
      omega
  refine ⟨va_P.app (fun k q h => ?_) hP1, va_D.app ⟨fun i j p q h1 h2 e => hD.1 i j p q (hin i p h1).2 (hin j q h2).2 e, fun k q h => hD.2 k q (hin k q h).2⟩ (hD1.weaken fun _ q _ h => hF q.1 h) fun i j p q h1 h2 e => ?_⟩
  · obtain ⟨h1, h2⟩ := hin k q h
    exact (hP k q h2).kept (hk q.1 (hP k q h2).lt (hno k q h))
  · have := hD1.2 j q h2
    rw [← e] at this
    exact hno i p h1 this
theorem n_free {x : Nat × va_E} (hD : va_D A (ws ++ [x])) (hS : va_S A s.heap H locs) (hA : ∀ q, s.heap.size ≤ q → A q) : ∀ q, va_A [x] H.size q → A q := fun q h => by
  rcases h with ⟨j, e, hj⟩ | h
  · rcases j with _ | j
    · have hj : some x = some (q, e) := hj
      have := hD.2 ws.length x (by simp)
      rw [Option.some.inj hj] at this
      exact this
    · cases hj
  · exact hA q (Nat.le_trans hS.1 h)
theorem n_Pc_blind {av : List Value} {sz : Nat} {w : va_W} : FrameBlind (va_Pc av (n_Pre D cl sz w)) := fun a U g mk h => by
  obtain ⟨h0, h1, h2, h3, h4, h6⟩ := h
  exact ⟨h0, h1, h2, va_K.moved (u := U) (U := U.calling g mk a) (Vm.Alike.refl U.vm) h3, h4.blind g mk a, h6⟩
/-- a call of a constructor on the new object, which stands last -/
theorem n_call {y : MethodName} {b : ByteArray} {mL fr mc ms lo : Nat} {As st0 : List Value} {x : Nat × va_E} {B : σ → va_W} (X : CallFix p m c cc nL s args tt_T own) (K : va_K D vwCl (n_tys cl) s) (hO : n_AO s) (hA : ∀ q, s.heap.size ≤ q → A q) (hP : va_P D vwCl (ws ++ [x]) H) (hD : va_D A (ws ++ [x])) (hS : va_S A s.heap H locs)
    (hM : n_M l D cl y (g_code y b mL none) fr mc ms lo (.ref x.1 :: As) [x] B) (hyn : y.name = "<init>") {na : Nat} (hy : y.cls ≠ "java/lang/invoke/MethodHandle" ∧ y.cls ≠ "java/lang/invoke/VarHandle" ∧ (parseMethodDescriptor y.desc).map (fun d => d.parameters.length) = some na) (h1 : n_link own index y s) (h2 : Cond.instanceMethod y ∈ tt_T) (h4 : Cond.initialized y.cls ∈ tt_T) (h5 : Cond.code y b mL none ∈ tt_T) (hR : fr + 1 ≤ R.frames ∧ 8 + (mL + 11) + lo ≤ R.locals)
    (hna : As.length = na) (hsz : ls.size = nL) (hst : st0 = As.reverse ++ .ref x.1 :: rest) (hroom : (rest.map fun v => v.category).sum ≤ 8) (hdg : decode cc pc = .ok (.invokespecial index, 3)) (hf : cells + mc ≤ R.cells ∧ slots + ms ≤ R.slots)
    (kk : ∀ (u : σ) (H1 : Heap) (locs1 : List Loc), va_P D vwCl (ws ++ B u) H1 → va_D A (ws ++ B u) → va_S A s.heap H1 locs1 → W p l e R s m args below meth c H1 locs1 (cells + mc) (slots + ms) Q (F0 m (pc + 3) ls rest)) : W p l e R s m args below meth c H locs cells slots Q (F0 m pc ls st0) := by
  have hPx : va_P D vwCl [x] H := fun k q h => by
    rcases k with _ | k
    · have h : some x = some q := h
      rw [← Option.some.inj h]
      exact hP ws.length x (by simp)
    · cases h
  have hDx : va_D (fun _ => True) [x] := by
    refine ⟨fun i j p q h1 h2 _ => ?_, fun _ _ _ => trivial⟩
    rcases i with _ | i
    · rcases j with _ | j
      · rfl
      · cases h2
    · cases h1
  have hF := n_free hD hS hA
  have hpre : PreS s H (va_Pc (.ref x.1 :: As) (n_Pre D cl H.size [x])) (.ref x.1 :: As) := ⟨n_Pc_blind, fun U hU hW => ⟨rfl, by rw [hU], by rw [hU]; exact hPx, va_K.moved hW.alike K, hO.go hW, hDx⟩⟩
  have run : va_Run p l e R s m args below meth c H locs cells slots mc ms (F0 m pc ls st0) rest (n_Q D H.size [x] B (Value.ref x.1 :: As).toArray) (va_A [x] H.size) := by
    rcases h1 with h1 | h1
    · exact va_runI (As := As) (rest := rest) X (hM H.size) (cwI na X.2.2.2.2 (g_goodC h5) rfl rfl rfl (X.2.2.2.2 _ h4) (X.2.2.2.2 _ h1) (X.2.2.2.2 _ h2) hyn hy hR) hpre rfl hna hsz hst (lv_room hroom) hdg hf
    · exact va_runIN (As := As) (rest := rest) X (hM H.size) ⟨va_cnB (Ts := tt_T) na X.2.2.2.2 (g_goodC h5) rfl rfl rfl h1 (X.2.2.2.2 _ h4) hy hR, hyn, X.2.2.2.2 _ h2⟩ hpre rfl hna hsz hst (lv_room hroom) hdg hf
  refine va_callv run hS (fun q _ h => hF q h) hF (fun u t H1 locs1 ht hvm hp hB hz1 hk1 hS1 => ?_)
  obtain ⟨hP1, hD1⟩ := hB
  rw [ht] at hP1
  obtain ⟨g1, g2⟩ := n_join hP hD hk1 hF hP1 hD1
  exact kk u H1 locs1 g1 g2 hS1
/-- new, dup, and the constructor without arguments -/
theorem n_make {y : MethodName} {b : ByteArray} {mL fr mc ms lo ci N idx2 : Nat} {C : String} {T : u_T} {fs : List Value} {ty : Nat → FieldType} {B : Nat → σ → va_W} (X : CallFix p m c cc nL s args tt_T own) (K : va_K D vwCl (n_tys cl) s) (hO : n_AO s) (hA : ∀ q, s.heap.size ≤ q → A q) (hP : va_P D vwCl ws H) (hD : va_D A ws) (hS : va_S A s.heap H locs)
    (hc : vwCl[ci]? = some (C, T, N)) (hin : ∀ w ∈ u_ws C T N, w ∈ tt_T) (hty : ∀ k, k < N → parseFieldDescriptor (T k).2.2.1 = some (ty k)) (hfs : ∀ j, j < N → defaultValue (ty j) = vp_V fs j) (q1 : Cond.classLink own index C ∈ tt_T) (q2 : Cond.instantiable C N ∈ tt_T) (q3 : Cond.initialized C ∈ tt_T)
    (hM : ∀ q : Nat, n_M l D cl y (g_code y b mL none) fr mc ms lo [.ref q] [(q, .inr (ci, fs))] (B q)) (hyn : y.name = "<init>") (hyc : y.cls = C) (hy : y.cls ≠ "java/lang/invoke/MethodHandle" ∧ y.cls ≠ "java/lang/invoke/VarHandle" ∧ (parseMethodDescriptor y.desc).map (fun d => d.parameters.length) = some 0) (h1 : n_link own idx2 y s) (h2 : Cond.instanceMethod y ∈ tt_T) (h5 : Cond.code y b mL none ∈ tt_T) (hR : fr + 1 ≤ R.frames ∧ 8 + (mL + 11) + lo ≤ R.locals)
    (hsz : ls.size = nL) (hroom : (rest.map fun v => v.category).sum + 1 ≤ 8) (d1 : decode cc pc = .ok (.new index, 3)) (d2 : decode cc (pc + 3) = .ok (.dup, 1)) (d3 : decode cc (pc + 3 + 1) = .ok (.invokespecial idx2, 3)) (hcells : cells + 1 + mc ≤ R.cells) (hslots : slots + N + ms ≤ R.slots)
    (kk : ∀ (q : Nat) (u : σ) (H1 : Heap) (locs1 : List Loc), va_P D vwCl (ws ++ B q u) H1 → va_D A (ws ++ B q u) → va_S A s.heap H1 locs1 → W p l e R s m args below meth c H1 locs1 (cells + 1 + mc) (slots + N + ms) Q (F0 m (pc + 3 + 1 + 3) ls (.ref q :: rest))) : W p l e R s m args below meth c H locs cells slots Q (F0 m pc ls rest) := by
  refine va_new (ci := ci) (fs := fs) (C := C) (T := T) (N := N) X.1 X.2.1 X.2.2.2.2 hin ty hty X.2.2.2.1 (X.2.2.2.2 _ q1) (X.2.2.2.2 _ q2) (X.2.2.2.2 _ q3) K hP hD hS hA hc hfs (by omega) (by omega) d1 (fun q H1 hP hD hS => ?_)
  refine lv_dup X.1 X.2.1 d2 rfl ?_
  exact n_call (As := []) (x := (q, .inr (ci, fs))) X K hO hA hP hD hS (hM q) hyn hy h1 h2 (by rw [hyc]; exact q3) h5 hR rfl hsz rfl (by simpa [Value.category, Nat.add_comm] using hroom) d3 ⟨hcells, hslots⟩ (fun u H1 locs1 hP hD hS => kk q u H1 locs1 hP hD hS)
/-- a row of ints, of which only the first are there -/
theorem n_exti {x : Nat} {cA : ClassId} {n : Nat} {f g : Nat → Int32} {H : Heap} (h : va_at D vwCl (x, .inl (cA, n, .inl f)) H) (e : ∀ k : Nat, k < n → f k = g k) : va_at D vwCl (x, .inl (cA, n, .inl g)) H := by
  have q : vp_cell cA (n, .inl f) = vp_cell cA (n, .inl g) := by
    rw [vp_cell_i, vp_cell_i]
    unfold arrV
    congr 2
    funext j
    dsimp only
    rw [e j.val j.isLt]
  have h : H[x]? = some (vp_cell cA (n, .inl f)) := h
  show H[x]? = some (vp_cell cA (n, .inl g))
  rw [← q]
  exact h
theorem n_extq {x : Nat} {cA : ClassId} {n : Nat} {f g : Nat → Option Nat} {H : Heap} (h : va_at D vwCl (x, .inl (cA, n, .inr (.inr (.inr (.inr f))))) H) (e : ∀ k : Nat, k < n → f k = g k) : va_at D vwCl (x, .inl (cA, n, .inr (.inr (.inr (.inr g))))) H := by
  have q : vp_cell cA (n, .inr (.inr (.inr (.inr f)))) = vp_cell cA (n, .inr (.inr (.inr (.inr g)))) := by
    rw [vp_cell_q, vp_cell_q]
    unfold arrV
    congr 2
    funext j
    dsimp only
    rw [e j.val j.isLt]
  have h : H[x]? = some (vp_cell cA (n, .inr (.inr (.inr (.inr f))))) := h
  show H[x]? = some (vp_cell cA (n, .inr (.inr (.inr (.inr g)))))
  rw [← q]
  exact h
end NW
