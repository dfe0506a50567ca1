/-! worlds of cells that all stand from the constructors on; their ints are a function of a row and a place -/
abbrev tt_St : Type := Nat → Nat → Int32
def tt_upR (S : tt_St) (n : Nat) (f : Nat → Int32) : tt_St := fun n' => if n' = n then f else S n'
def tt_up (S : tt_St) (n k : Nat) (v : Int32) : tt_St := tt_upR S n (upd (S n) k v)
theorem tt_upR_self (S : tt_St) (n : Nat) (f : Nat → Int32) : tt_upR S n f n = f := if_pos rfl
theorem tt_upR_row {S : tt_St} {n n' : Nat} {f : Nat → Int32} (h : n' ≠ n) : tt_upR S n f n' = S n' := if_neg h
theorem tt_up_row {S : tt_St} {n n' k : Nat} {v : Int32} (h : n' ≠ n) : tt_up S n k v n' = S n' := if_neg h
theorem tt_up_self (S : tt_St) (n k : Nat) (v : Int32) : tt_up S n k v n k = v := by simp [tt_up, tt_upR, upd]
theorem tt_up_same (S : tt_St) (n k : Nat) (v : Int32) : tt_up S n k v n = upd (S n) k v := if_pos rfl
theorem tt_up_ne {S : tt_St} {n n' k k' : Nat} {v : Int32} (h : ¬ (n' = n ∧ k' = k)) : tt_up S n k v n' k' = S n' k' := by
  by_cases h1 : n' = n
  · subst h1
    have h2 : k' ≠ k := fun z => h ⟨rfl, z⟩
    simp [tt_up, tt_upR, upd, h2]
  · rw [tt_up_row h1]
theorem tt_up_at (S : tt_St) (n k n' k' : Nat) (v : Int32) : tt_up S n k v n' k' = if n' = n ∧ k' = k then v else S n' k' := by
  by_cases h : n' = n ∧ k' = k
  · obtain ⟨rfl, rfl⟩ := h
    rw [tt_up_self, if_pos ⟨rfl, rfl⟩]
  · rw [tt_up_ne h, if_neg h]
abbrev tt_G : Type := va_G × ((Nat → ClassId) × (Nat → Nat))
def tt_tys (G : tt_G) : List (ClassId × FieldType) := [(G.2.1 0, .int), (G.2.1 1, .object "TrustTin$Drinker"), (G.2.1 2, .object "TrustTin$Sheet"), (G.2.1 3, .byte)]
def tt_inA (G : tt_G) (q : Nat) : Prop := ∃ n : Nat, n < 72 ∧ q = G.2.2 n
def tt_above (j : Nat) : Int32 := [(-1 : Int32), 0, 0, 0, 2, 0, 1].getD j 0
def tt_txt (i : Nat) : Nat × String := [(149, "each"), (151, "later"), (153, "forgets"), (155, "never"), (157, "if"), (159, "twice"), (161, "maker"), (51, "price"), (60, "pot"), (65, "sign"), (78, "purse"), (84, "limit"), (163, "none"), (165, "flowers"), (167, "eyes")].getD i (0, "")
def tt_byt : List (List Int32) := [[101, 97, 99, 104], [108, 97, 116, 101, 114], [102, 111, 114, 103, 101, 116, 115], [110, 101, 118, 101, 114], [105, 102], [116, 119, 105, 99, 101], [109, 97, 107, 101, 114], [112, 114, 105, 99, 101], [112, 111, 116], [115, 105, 103, 110], [112, 117, 114, 115, 101], [108, 105, 109, 105, 116], [110, 111, 110, 101], [102, 108, 111, 119, 101, 114, 115], [101, 121, 101, 115]]
def tt_len : List Nat := [4, 5, 7, 5, 2, 5, 5, 5, 3, 4, 5, 5, 4, 7, 4]
def tt_wrd (i : Nat) : String × Int64 := [("W_EACH", (99233 : Int64)), ("W_LATER", 6411708), ("W_FORGETS", 2549464462), ("W_NEVER", 7554780), ("W_IF", 249), ("W_TWICE", 11088176), ("W_MAKER", 6936588), ("W_PURSE", 8930039), ("W_LIMIT", 6564179), ("W_PRICE", 8863997), ("W_POT", 12089), ("W_SIGN", 380741), ("W_NONE", 286880), ("W_FLOWERS", 2505138292), ("W_EYES", 116794)].getD i ("", 0)
/-- what stands at the start and nobody writes -/
def tt_con (G : tt_G) (U : State) : Prop :=
  (va_Z "TrustTin" "ABOVE" "[I" (.ref (G.2.2 100)) (tt_inA G) U U.heap ∧ va_T .int (G.2.2 100) 7 (fun j => .int (tt_above j)) (tt_inA G) U U.heap) ∧
  (vk_S 15 tt_len tt_byt (fun i => G.2.2 (110 + i)) (fun i => G.2.2 (130 + i)) (tt_inA G) U U.heap ∧ ∀ i : Nat, i < 15 → vk_R "TrustTin$TextReader" (tt_txt i).1 (tt_txt i).2 (G.2.2 (110 + i)) U) ∧
  (va_Z "java/lang/String" "COMPACT_STRINGS" "Z" (.int 1) (tt_inA G) U U.heap ∧ va_Zq "jdk/internal/util/Preconditions" "SIOOBE_FORMATTER" "Ljava/util/function/BiFunction;" (tt_inA G) U U.heap) ∧
  (∀ i : Nat, i < 15 → va_Z "TrustTinModel" (tt_wrd i).1 "J" (.long (tt_wrd i).2) (tt_inA G) U U.heap) ∧
  va_Nw (.methodLinkNest "TrustTin$TextReader" 106 yX6_within "TrustTin") U
def tt_K (G : tt_G) (U : State) : Prop := va_K G.1 vwCl (tt_tys G) U ∧ (∀ i j : Nat, i < 72 → j < 72 → G.2.2 i = G.2.2 j → i = j) ∧ tt_con G U
theorem tt_con.go {G : tt_G} {s U : State} (h : tt_con G s) (hW : s.WarmedH U.vm) (hq : ∀ a : Nat, a < s.heap.size → ¬ tt_inA G a → U.heap[a]? = s.heap[a]?) : tt_con G U := by
  obtain ⟨⟨h1, h2⟩, ⟨h3, h4⟩, ⟨h5, h6⟩, h7, h8⟩ := h
  have hv := hW.alike
  exact ⟨⟨(h1.moved hv).kept hq, (h2.moved hv).kept hq⟩, ⟨(h3.moved hv).kept hq, fun i hi => (h4 i hi).warm hW⟩, ⟨(h5.moved hv).kept hq, (h6.moved hv).kept hq⟩, fun i hi => ((h7 i hi).moved hv).kept hq, h8.warmM hW⟩
theorem tt_con.blind {G : tt_G} {U : State} (h : tt_con G U) (g : JFrame) (mk : MethodId) (a : Array Value) : tt_con G (U.calling g mk a) := by
  obtain ⟨⟨h1, h2⟩, ⟨h3, h4⟩, ⟨h5, h6⟩, h7, h8⟩ := h
  have hv : U.vm.Alike (U.calling g mk a).vm := Vm.Alike.refl U.vm
  exact ⟨⟨h1.moved hv, h2.moved hv⟩, ⟨h3.moved hv, fun i hi => (h4 i hi).same rfl⟩, ⟨h5.moved hv, h6.moved hv⟩, fun i hi => (h7 i hi).moved hv, h8.same rfl rfl⟩
theorem tt_K.go {G : tt_G} {s U : State} (h : tt_K G s) (hW : s.WarmedH U.vm) (hq : ∀ a : Nat, a < s.heap.size → ¬ tt_inA G a → U.heap[a]? = s.heap[a]?) : tt_K G U := ⟨va_K.moved hW.alike h.1, h.2.1, h.2.2.go hW hq⟩
theorem tt_K.blind {G : tt_G} {U : State} (h : tt_K G U) (g : JFrame) (mk : MethodId) (a : Array Value) : tt_K G (U.calling g mk a) := ⟨va_K.moved (u := U) (U := U.calling g mk a) (Vm.Alike.refl U.vm) h.1, h.2.1, h.2.2.blind g mk a⟩
section GW
variable {σ : Type}
def g_w (N : Nat) (ad : Nat → Nat) (cell : σ → Nat → va_E) (S : σ) : va_W := (List.range N).map (fun n => (ad n, cell S n))
def g_in (N : Nat) (ad : Nat → Nat) (q : Nat) : Prop := ∃ n : Nat, n < N ∧ q = ad n
def g_ap (N : Nat) (ad : Nat → Nat) : Prop := ∀ i j : Nat, i < N → j < N → ad i = ad j → i = j
def g_set (N : Nat) (cell : σ → Nat → va_E) (S : σ) (n : Nat) (x : va_E) (S' : σ) : Prop := ∀ j : Nat, j < N → cell S' j = if j = n then x else cell S j
theorem g_w_at {N : Nat} {ad : Nat → Nat} {cell : σ → Nat → va_E} {S : σ} {n : Nat} (h : n < N) {x : va_E} (he : cell S n = x) : (g_w N ad cell S)[n]? = some (ad n, x) := by
  subst he
  simp [g_w, h]
theorem g_w_set {N : Nat} {ad : Nat → Nat} {cell : σ → Nat → va_E} {S S' : σ} {n : Nat} {x : va_E} (h : n < N) (hs : g_set N cell S n x S') : (g_w N ad cell S).set n (ad n, x) = g_w N ad cell S' := by
  apply List.ext_getElem?
  intro j
  by_cases hj : j < N
  · by_cases hjn : j = n
    · subst hjn
      rw [List.getElem?_set_self (by simp [g_w, hj])]
      rw [g_w_at hj (hs j hj), if_pos rfl]
    · rw [List.getElem?_set_ne (Ne.symm hjn), g_w_at hj rfl, g_w_at hj (hs j hj), if_neg hjn]
  · rw [List.getElem?_eq_none (by simp [g_w]; omega), List.getElem?_eq_none (by simp [g_w]; omega)]
theorem g_D {N : Nat} {ad : Nat → Nat} (hi : g_ap N ad) (cell : σ → Nat → va_E) (S : σ) : va_D (g_in N ad) (g_w N ad cell S) := by
  have key : ∀ (k : Nat) (q : Nat × va_E), (g_w N ad cell S)[k]? = some q → k < N ∧ q.1 = ad k := by
    intro k q h
    have hl : k < N := by
      have := (List.getElem?_eq_some_iff.mp h).1
      simpa [g_w] using this
    rw [g_w_at hl rfl] at h
    cases h
    exact ⟨hl, rfl⟩
  refine ⟨fun i j x y hx hy e => ?_, fun k q h => ?_⟩
  · obtain ⟨a1, a2⟩ := key i x hx
    obtain ⟨b1, b2⟩ := key j y hy
    exact hi i j a1 b1 (by rw [← a2, ← b2]; exact e)
  · obtain ⟨a1, a2⟩ := key k q h
    exact ⟨k, a1, a2⟩
/-- the world as a walk has it -/
def g_W (G : tt_G) (N : Nat) (ad : Nat → Nat) (cell : σ → Nat → va_E) (S : σ) (s : State) (H : Heap) (locs : List Loc) : Prop := va_P G.1 vwCl (g_w N ad cell S) H ∧ va_S (g_in N ad) s.heap H locs
/-- a contract's start and end -/
def g_Pre (G : tt_G) (N : Nat) (ad : Nat → Nat) (cell : σ → Nat → va_E) (S : σ) (U : State) : Prop := va_P G.1 vwCl (g_w N ad cell S) U.heap ∧ tt_K G U
def g_Post (G : tt_G) (N : Nat) (ad : Nat → Nat) (cell : σ → Nat → va_E) (S : σ) (t : State) : Prop := va_P G.1 vwCl (g_w N ad cell S) t.heap
def g_code (y : MethodName) (b : ByteArray) (n : Nat) (r : Option FieldType) : List Cond := Cond.code y b n r :: tt_T
def g_rm (fr lo : Nat) : Room := { frames := fr, cells := 0, slots := 0, locals := lo }
def g_MI (l : Launch) (G : tt_G) (N : Nat) (ad : Nat → Nat) (cell : σ → Nat → va_E) (y : MethodName) (ws : List Cond) (fr lo : Nat) (av : List Value) (S : σ) (a : Int32) (S' : σ) : Prop :=
  Met l y ws (g_rm fr lo) (va_Pc av (g_Pre G N ad cell S)) (va_Qi (fun r T => r = a ∧ T = S') (g_Post G N ad cell) (g_in N ad)) 0 0 (g_in N ad)
def g_MV (l : Launch) (G : tt_G) (N : Nat) (ad : Nat → Nat) (cell : σ → Nat → va_E) (y : MethodName) (ws : List Cond) (fr lo : Nat) (av : List Value) (S : σ) (S' : σ) : Prop :=
  Met l y ws (g_rm fr lo) (va_Pc av (g_Pre G N ad cell S)) (va_Qv (fun T => T = S') (g_Post G N ad cell) (g_in N ad)) 0 0 (g_in N ad)
def g_MR (l : Launch) (G : tt_G) (N : Nat) (ad : Nat → Nat) (cell : σ → Nat → va_E) (y : MethodName) (ws : List Cond) (fr lo : Nat) (av : List Value) (S : σ) (a : Nat) (S' : σ) : Prop :=
  Met l y ws (g_rm fr lo) (va_Pc av (g_Pre G N ad cell S)) (va_Qr (fun T => T = S') (fun T b t => b = a ∧ g_Post G N ad cell T t) (g_in N ad)) 0 0 (g_in N ad)
variable {p : Program} {l : Launch} {e : Env} {R : Room} {s : State} {m : MethodId} {args : Array Value} {below : List Frame} {meth : Method} {c : Code} {H : Heap} {locs : List Loc} {cells slots : Nat} {Q : State → Prop}
variable {cc : ByteArray} {pc nL index : Nat} {ls : Array Slot} {rest : List Value} {own : String} {G : tt_G} {N : Nat} {ad : Nat → Nat} {cell : σ → Nat → va_E} {S : σ} {n : Nat}
theorem g_get (X : CallFix p m c cc nL s args tt_T own) (K : tt_K G s) (hw : g_W G N ad cell S s H locs) (hn : n < N) {ci : Nat} {fs : List Value} (he : cell S n = .inr (ci, fs)) {C : String} {T : u_T} {M : Nat} (hc : vwCl[ci]? = some (C, T, M)) (hin : ∀ w ∈ u_ws C T M, w ∈ tt_T) (k : Nat) (hk : k < M) (hl : Cond.fieldLink own index (T k).1 (T k).2.1 (T k).2.2.1 ∈ tt_T) {v : Value} (hv : fs[k]? = some v) (hdg : decode cc pc = .ok (.getfield index, 3))
    (kk : W p l e R s m args below meth c H locs cells slots Q (F0 m (pc + 3) ls (v :: rest))) : W p l e R s m args below meth c H locs cells slots Q (F0 m pc ls (.ref (ad n) :: rest)) :=
  va_get (D := G.1) (C := C) (T := T) (N := M) X.1 X.2.1 X.2.2.2.2 hin X.2.2.2.1 K.1 hw.1 n (g_w_at hn he) hc k hk (X.2.2.2.2 _ hl) (fun _ h => h) hv hdg kk
theorem g_put (X : CallFix p m c cc nL s args tt_T own) (K : tt_K G s) (hap : g_ap N ad) (hw : g_W G N ad cell S s H locs) (hn : n < N) {ci : Nat} {fs : List Value} (he : cell S n = .inr (ci, fs)) {C : String} {T : u_T} {M : Nat} (hc : vwCl[ci]? = some (C, T, M)) (hin : ∀ w ∈ u_ws C T M, w ∈ tt_T) {ty0 : Nat → FieldType} (hty : ∀ k, k < M → parseFieldDescriptor (T k).2.2.1 = some (ty0 k)) (hnm : ∀ a, a < M → ∀ b, b < M → a ≠ b → (T a).2.1 ≠ (T b).2.1) (k : Nat) (hk : k < M) (hl : Cond.fieldLink own index (T k).1 (T k).2.1 (T k).2.2.1 ∈ tt_T) (hfin : (T k).2.2.2 = false) {v : Value} (hnr : narrow (ty0 k) v = v) (hft : fits (ty0 k) v = true) (hlen : k < fs.length) {S' : σ} (hs : g_set N cell S n (.inr (ci, fs.set k v)) S') (hdg : decode cc pc = .ok (.putfield index, 3))
    (kk : ∀ (S2 : σ) (H1 : Heap) (locs1 : List Loc), S2 = S' → g_W G N ad cell S2 s H1 locs1 → W p l e R s m args below meth c H1 locs1 cells slots Q (F0 m (pc + 3) ls rest)) : W p l e R s m args below meth c H locs cells slots Q (F0 m pc ls (v :: .ref (ad n) :: rest)) :=
  va_put (D := G.1) (C := C) (T := T) (N := M) (A := g_in N ad) X.1 X.2.1 X.2.2.2.2 hin ty0 hty hnm X.2.2.2.1 K.1 hw.1 (g_D hap cell S) hw.2 n (g_w_at hn he) hc k hk (X.2.2.2.2 _ hl) (fun _ h => h) hfin (hty k hk) hnr hft hlen hdg (fun H1 locs1 hP _ hS => kk S' H1 locs1 rfl ⟨by rw [g_w_set hn hs] at hP; exact hP, hS⟩)
theorem g_iald (X : CallFix p m c cc nL s args tt_T own) (K : tt_K G s) (hw : g_W G N ad cell S s H locs) (hn : n < N) {k : Nat} {f : Nat → Int32} (he : cell S n = .inl (G.2.1 0, k, .inl f)) {i : Int32} (hi : vp_in i k) (hdg : decode cc pc = .ok (.iaload, 1))
    (kk : W p l e R s m args below meth c H locs cells slots Q (F0 m (pc + 1) ls (.int (f i.toNatClampNeg) :: rest))) : W p l e R s m args below meth c H locs cells slots Q (F0 m pc ls (.int i :: .ref (ad n) :: rest)) :=
  va_iald X.1 X.2.1 K.1 hw.1 n 0 (g_w_at hn he) rfl hi hdg kk
theorem g_bald (X : CallFix p m c cc nL s args tt_T own) (K : tt_K G s) (hw : g_W G N ad cell S s H locs) (hn : n < N) {k : Nat} {f : Nat → Int32} (he : cell S n = .inl (G.2.1 3, k, .inl f)) {i : Int32} (hi : vp_in i k) (hdg : decode cc pc = .ok (.baload, 1))
    (kk : W p l e R s m args below meth c H locs cells slots Q (F0 m (pc + 1) ls (.int (f i.toNatClampNeg) :: rest))) : W p l e R s m args below meth c H locs cells slots Q (F0 m pc ls (.int i :: .ref (ad n) :: rest)) :=
  va_bald X.1 X.2.1 K.1 hw.1 n 3 (g_w_at hn he) rfl hi hdg kk
theorem g_aald (X : CallFix p m c cc nL s args tt_T own) (K : tt_K G s) (hw : g_W G N ad cell S s H locs) (hn : n < N) {k : Nat} {cA : ClassId} {C : String} {f : Nat → Option Nat} (he : cell S n = .inl (cA, k, .inr (.inr (.inr (.inr f))))) (t0 : Nat) (ht : (tt_tys G)[t0]? = some (cA, .object C)) {i : Int32} (hi : vp_in i k) {a : Nat} (ha : f i.toNatClampNeg = some a) (hdg : decode cc pc = .ok (.aaload, 1))
    (kk : W p l e R s m args below meth c H locs cells slots Q (F0 m (pc + 1) ls (.ref a :: rest))) : W p l e R s m args below meth c H locs cells slots Q (F0 m pc ls (.int i :: .ref (ad n) :: rest)) :=
  va_aldq X.1 X.2.1 K.1 hw.1 n t0 (g_w_at hn he) ht hi hdg (by rw [ha]; exact kk)
theorem g_alen (X : CallFix p m c cc nL s args tt_T own) (K : tt_K G s) (hw : g_W G N ad cell S s H locs) (hn : n < N) {k : Nat} {f : Nat → Int32} (he : cell S n = .inl (G.2.1 0, k, .inl f)) {v : Int32} (hv : Int32.ofNat k = v) (hdg : decode cc pc = .ok (.arraylength, 1))
    (kk : W p l e R s m args below meth c H locs cells slots Q (F0 m (pc + 1) ls (.int v :: rest))) : W p l e R s m args below meth c H locs cells slots Q (F0 m pc ls (.ref (ad n) :: rest)) :=
  va_alen X.1 X.2.1 K.1 hw.1 n 0 (g_w_at hn he) rfl hv hdg kk
theorem g_iast (X : CallFix p m c cc nL s args tt_T own) (K : tt_K G s) (hap : g_ap N ad) (hw : g_W G N ad cell S s H locs) (hn : n < N) {k : Nat} {f : Nat → Int32} (he : cell S n = .inl (G.2.1 0, k, .inl f)) {i x : Int32} (hi : vp_in i k) {S' : σ} (hs : g_set N cell S n (.inl (G.2.1 0, k, .inl (upd f i.toNatClampNeg x))) S') (hdg : decode cc pc = .ok (.iastore, 1))
    (kk : ∀ (S2 : σ) (H1 : Heap) (locs1 : List Loc), S2 = S' → g_W G N ad cell S2 s H1 locs1 → W p l e R s m args below meth c H1 locs1 cells slots Q (F0 m (pc + 1) ls rest)) : W p l e R s m args below meth c H locs cells slots Q (F0 m pc ls (.int x :: .int i :: .ref (ad n) :: rest)) :=
  va_iast X.1 X.2.1 K.1 hw.1 (g_D hap cell S) hw.2 n 0 (g_w_at hn he) rfl hi hdg (fun H1 locs1 hP _ hS => kk S' H1 locs1 rfl ⟨by rw [g_w_set hn hs] at hP; exact hP, hS⟩)
theorem g_bast (X : CallFix p m c cc nL s args tt_T own) (K : tt_K G s) (hap : g_ap N ad) (hw : g_W G N ad cell S s H locs) (hn : n < N) {k : Nat} {f : Nat → Int32} (he : cell S n = .inl (G.2.1 3, k, .inl f)) {i x : Int32} (hi : vp_in i k) {S' : σ} (hs : g_set N cell S n (.inl (G.2.1 3, k, .inl (upd f i.toNatClampNeg (vp_nar .byte x)))) S') (hdg : decode cc pc = .ok (.bastore, 1))
    (kk : ∀ (S2 : σ) (H1 : Heap) (locs1 : List Loc), S2 = S' → g_W G N ad cell S2 s H1 locs1 → W p l e R s m args below meth c H1 locs1 cells slots Q (F0 m (pc + 1) ls rest)) : W p l e R s m args below meth c H locs cells slots Q (F0 m pc ls (.int x :: .int i :: .ref (ad n) :: rest)) :=
  va_bast X.1 X.2.1 K.1 hw.1 (g_D hap cell S) hw.2 n 3 (g_w_at hn he) rfl hi hdg (fun H1 locs1 hP _ hS => kk S' H1 locs1 rfl ⟨by rw [g_w_set hn hs] at hP; exact hP, hS⟩)
theorem g_copyi (X : CallFix p m c cc nL s args tt_T own) (K : tt_K G s) (hap : g_ap N ad) (hw : g_W G N ad cell S s H locs) (hsz : ls.size = nL) (hl : Cond.methodLink own index arraycopyName ∈ tt_T) (h1 : Cond.native arraycopyName ∈ tt_T) (h2 : Cond.static arraycopyName ∈ tt_T) (h3 : Cond.initialized "java/lang/System" ∈ tt_T) {n0 : Nat} (hn0 : n0 < N) (hn : n < N) {k0 k : Nat} {f g : Nat → Int32} (he0 : cell S n0 = .inl (G.2.1 0, k0, .inl f)) (he : cell S n = .inl (G.2.1 0, k, .inl g)) {sp dp z : Int32} (a1 : ¬ sp < 0) (a2 : ¬ dp < 0) (a3 : ¬ z < 0) (a4 : sp.toNatClampNeg + z.toNatClampNeg ≤ k0) (a5 : dp.toNatClampNeg + z.toNatClampNeg ≤ k) {S' : σ} (hs : g_set N cell S n (.inl (G.2.1 0, k, .inl (va_cpy f g sp.toNatClampNeg dp.toNatClampNeg z.toNatClampNeg))) S') (hfr : 1 ≤ R.frames) (hlo : (rest.map fun v => v.category).sum + (nativeFrameWords "java/lang/System" "arraycopy" 5 + 11) ≤ R.locals) (hdg : decode cc pc = .ok (.invokestatic index, 3))
    (kk : ∀ (S2 : σ) (H1 : Heap) (locs1 : List Loc), S2 = S' → g_W G N ad cell S2 s H1 locs1 → W p l e R s m args below meth c H1 locs1 cells slots Q (F0 m (pc + 3) ls rest)) : W p l e R s m args below meth c H locs cells slots Q (F0 m pc ls (.int z :: .int dp :: .ref (ad n) :: .int sp :: .ref (ad n0) :: rest)) :=
  va_copyi X.1 X.2.1 (X.2.2.1.trans hsz.symm) X.2.2.2.1 (X.2.2.2.2 _ hl) (X.2.2.2.2 _ h1) (X.2.2.2.2 _ h2) (X.2.2.2.2 _ h3) K.1 hw.1 (g_D hap cell S) hw.2 n0 n 0 0 (ty := .int) (g_w_at hn0 he0) (g_w_at hn he) rfl rfl rfl a1 a2 a3 a4 a5 (fun _ _ => rfl) hfr hlo hdg (fun H1 locs1 hP _ hS => kk S' H1 locs1 rfl ⟨by rw [g_w_set hn hs] at hP; exact hP, hS⟩)
theorem g_Pc_blind (av : List Value) : FrameBlind (va_Pc av (g_Pre G N ad cell S)) := fun a U g mk h => ⟨h.1, h.2.1, h.2.2.blind g mk a⟩
theorem g_pre (K : tt_K G s) (hA : ∀ q, g_in N ad q → tt_inA G q) (hw : g_W G N ad cell S s H locs) (av : List Value) (U : State) (hU : U.heap = H) (hW : s.WarmedH U.vm) : va_Pc av (g_Pre G N ad cell S) av.toArray U :=
  ⟨rfl, by rw [hU]; exact hw.1, K.go hW (fun a h1 h2 => by rw [hU]; exact hw.2.2.1 a h1 (fun z => h2 (hA a z)))⟩
theorem g_goodV {y : MethodName} {b : ByteArray} {mL : Nat} {r : Option FieldType} {C : String} (h1 : Cond.methodLink own index y ∈ tt_T) (h2 : Cond.instanceMethod y ∈ tt_T) (h3 : Cond.selects C y y ∈ tt_T) (h4 : Cond.initialized C ∈ tt_T) (h5 : Cond.code y b mL r ∈ tt_T) : GoodIn tt_T (wsV own index C y (g_code y b mL r)) := by
  have k : ∀ w, w ∈ tt_T → w ∈ tt_T ∧ ((w.onTables && w.keeps) = true ∨ ∃ ty, w = .arrayClass ty) := fun w h => ⟨h, (tt_good w h).2⟩
  intro w hw
  unfold wsV g_code at hw
  rcases List.mem_append.mp hw with hw | hw
  · simp only [List.mem_cons, List.not_mem_nil, or_false] at hw
    rcases hw with rfl | rfl | rfl | rfl
    · exact k _ h1
    · exact k _ h2
    · exact k _ h3
    · exact k _ h4
  · rcases List.mem_cons.mp hw with rfl | hw
    · exact k _ h5
    · exact k _ hw
theorem g_goodC {y : MethodName} {b : ByteArray} {mL : Nat} {r : Option FieldType} (h5 : Cond.code y b mL r ∈ tt_T) : GoodIn tt_T (g_code y b mL r) := by
  have k : ∀ w, w ∈ tt_T → w ∈ tt_T ∧ ((w.onTables && w.keeps) = true ∨ ∃ ty, w = .arrayClass ty) := fun w h => ⟨h, (tt_good w h).2⟩
  intro w hw
  unfold g_code at hw
  rcases List.mem_cons.mp hw with rfl | hw
  · exact k _ h5
  · exact k _ hw
theorem g_goodS {y : MethodName} {b : ByteArray} {mL : Nat} {r : Option FieldType} (h1 : Cond.methodLink own index y ∈ tt_T) (h2 : Cond.static y ∈ tt_T) (h4 : Cond.initialized y.cls ∈ tt_T) (h5 : Cond.code y b mL r ∈ tt_T) : GoodIn tt_T (va_wsS own index y (g_code y b mL r)) := by
  have k : ∀ w, w ∈ tt_T → w ∈ tt_T ∧ ((w.onTables && w.keeps) = true ∨ ∃ ty, w = .arrayClass ty) := fun w h => ⟨h, (tt_good w h).2⟩
  intro w hw
  unfold va_wsS at hw
  rcases List.mem_append.mp hw with hw | hw
  · simp only [List.mem_cons, List.not_mem_nil, or_false] at hw
    rcases hw with rfl | rfl | rfl
    · exact k _ h1
    · exact k _ h2
    · exact k _ h4
  · exact g_goodC h5 w hw
/-- what is known of a method by its name: its class, how many arguments -/
def g_is (y : MethodName) (C : String) (n : Nat) : Prop := y.cls = C ∧ y.cls ≠ "java/lang/invoke/MethodHandle" ∧ y.cls ≠ "java/lang/invoke/VarHandle" ∧ (parseMethodDescriptor y.desc).map (fun d => d.parameters.length) = some n
variable {y : MethodName} {b : ByteArray} {mL fr lo : Nat} {r : Option FieldType} {C : String} {As st0 : List Value} {S' : σ}
theorem g_cwV (X : CallFix p m c cc nL s args tt_T own) {na : Nat} (hy : g_is y C na) (h1 : Cond.methodLink own index y ∈ tt_T) (h2 : Cond.instanceMethod y ∈ tt_T) (h3 : Cond.selects C y y ∈ tt_T) (h4 : Cond.initialized C ∈ tt_T) (h5 : Cond.code y b mL r ∈ tt_T) (hR : fr + 1 ≤ R.frames ∧ 8 + (mL + 11) + lo ≤ R.locals) : CallW R s args own C index y b mL r (g_code y b mL r) (g_rm fr lo) 0 0 na :=
  cwV na X.2.2.2.2 (g_goodV h1 h2 h3 h4 h5) rfl rfl rfl hy hR
theorem g_cwS (X : CallFix p m c cc nL s args tt_T own) {na : Nat} (hy : g_is y C na) (h1 : Cond.methodLink own index y ∈ tt_T) (h2 : Cond.static y ∈ tt_T) (h4 : Cond.initialized C ∈ tt_T) (h5 : Cond.code y b mL r ∈ tt_T) (hR : fr + 1 ≤ R.frames ∧ 8 + (mL + 11) + lo ≤ R.locals) : CallB R s args own index y b mL r (g_code y b mL r) (g_rm fr lo) 0 0 na ∧ (Cond.static y).before args s = true :=
  va_cwS na X.2.2.2.2 (g_goodS h1 h2 (by rw [hy.1]; exact h4) h5) rfl rfl rfl hy.2 hR
theorem g_callVI (X : CallFix p m c cc nL s args tt_T own) (K : tt_K G s) (hA : ∀ q, g_in N ad q → tt_inA G q) (hw : g_W G N ad cell S s H locs) {a : Int32} (hM : g_MI l G N ad cell y (g_code y b mL r) fr lo (.ref (ad n) :: As) S a S') {na : Nat} (cw : CallW R s args own C index y b mL r (g_code y b mL r) (g_rm fr lo) 0 0 na) (hn : n < N) {ci : Nat} {fs : List Value} (he : cell S n = .inr (ci, fs)) {T : u_T} {M : Nat} (hc : vwCl[ci]? = some (C, T, M)) (hna : As.length = na) (hsz : ls.size = nL) (hst : st0 = As.reverse ++ .ref (ad n) :: rest) (hroom : (rest.map fun v => v.category).sum ≤ 8) (hdg : decode cc pc = .ok (.invokevirtual index, 3)) (hf : cells ≤ R.cells ∧ slots ≤ R.slots)
    (kk : ∀ (z : Int32) (S2 : σ) (H1 : Heap) (locs1 : List Loc), z = a → S2 = S' → g_W G N ad cell S2 s H1 locs1 → W p l e R s m args below meth c H1 locs1 cells slots Q (F0 m (pc + 3) ls (.int z :: rest))) : W p l e R s m args below meth c H locs cells slots Q (F0 m pc ls st0) := by
  refine va_calli (va_runV (As := As) (rest := rest) X hM cw ⟨g_Pc_blind _, va_recv K.1 hw.1 hc (g_w_at hn he), g_pre K hA hw _⟩ rfl hna hsz hst (lv_room hroom) hdg hf) hw.2 (fun q _ h => h) (fun q h => h) (fun z u t H1 locs1 ht hvm hp hB hz1 hk1 hS => ?_)
  obtain ⟨rfl, rfl⟩ := hp
  exact kk _ _ H1 locs1 rfl rfl ⟨by rw [← ht]; exact hB, hS⟩
theorem g_callVV (X : CallFix p m c cc nL s args tt_T own) (K : tt_K G s) (hA : ∀ q, g_in N ad q → tt_inA G q) (hw : g_W G N ad cell S s H locs) (hM : g_MV l G N ad cell y (g_code y b mL r) fr lo (.ref (ad n) :: As) S S') {na : Nat} (cw : CallW R s args own C index y b mL r (g_code y b mL r) (g_rm fr lo) 0 0 na) (hn : n < N) {ci : Nat} {fs : List Value} (he : cell S n = .inr (ci, fs)) {T : u_T} {M : Nat} (hc : vwCl[ci]? = some (C, T, M)) (hna : As.length = na) (hsz : ls.size = nL) (hst : st0 = As.reverse ++ .ref (ad n) :: rest) (hroom : (rest.map fun v => v.category).sum ≤ 8) (hdg : decode cc pc = .ok (.invokevirtual index, 3)) (hf : cells ≤ R.cells ∧ slots ≤ R.slots)
    (kk : ∀ (S2 : σ) (H1 : Heap) (locs1 : List Loc), S2 = S' → g_W G N ad cell S2 s H1 locs1 → W p l e R s m args below meth c H1 locs1 cells slots Q (F0 m (pc + 3) ls rest)) : W p l e R s m args below meth c H locs cells slots Q (F0 m pc ls st0) := by
  refine va_callv (va_runV (As := As) (rest := rest) X hM cw ⟨g_Pc_blind _, va_recv K.1 hw.1 hc (g_w_at hn he), g_pre K hA hw _⟩ rfl hna hsz hst (lv_room hroom) hdg hf) hw.2 (fun q _ h => h) (fun q h => h) (fun u t H1 locs1 ht hvm hp hB hz1 hk1 hS => ?_)
  obtain rfl := hp
  exact kk _ H1 locs1 rfl ⟨by rw [← ht]; exact hB, hS⟩
theorem g_callVR (X : CallFix p m c cc nL s args tt_T own) (K : tt_K G s) (hA : ∀ q, g_in N ad q → tt_inA G q) (hw : g_W G N ad cell S s H locs) {a : Nat} (hM : g_MR l G N ad cell y (g_code y b mL r) fr lo (.ref (ad n) :: As) S a S') {na : Nat} (cw : CallW R s args own C index y b mL r (g_code y b mL r) (g_rm fr lo) 0 0 na) (hn : n < N) {ci : Nat} {fs : List Value} (he : cell S n = .inr (ci, fs)) {T : u_T} {M : Nat} (hc : vwCl[ci]? = some (C, T, M)) (hna : As.length = na) (hsz : ls.size = nL) (hst : st0 = As.reverse ++ .ref (ad n) :: rest) (hroom : (rest.map fun v => v.category).sum ≤ 8) (hdg : decode cc pc = .ok (.invokevirtual index, 3)) (hf : cells ≤ R.cells ∧ slots ≤ R.slots)
    (kk : ∀ (S2 : σ) (H1 : Heap) (locs1 : List Loc), S2 = S' → g_W G N ad cell S2 s H1 locs1 → W p l e R s m args below meth c H1 locs1 cells slots Q (F0 m (pc + 3) ls (.ref a :: rest))) : W p l e R s m args below meth c H locs cells slots Q (F0 m pc ls st0) := by
  refine va_callr (va_runV (As := As) (rest := rest) X hM cw ⟨g_Pc_blind _, va_recv K.1 hw.1 hc (g_w_at hn he), g_pre K hA hw _⟩ rfl hna hsz hst (lv_room hroom) hdg hf) hw.2 (fun q _ h => h) (fun q h => h) (fun u b1 t H1 locs1 ht hvm hp hB hz1 hk1 hS => ?_)
  obtain rfl := hp
  obtain ⟨rfl, hB⟩ := hB
  exact kk _ H1 locs1 rfl ⟨by rw [← ht]; exact hB, hS⟩
theorem g_callSI (X : CallFix p m c cc nL s args tt_T own) (K : tt_K G s) (hA : ∀ q, g_in N ad q → tt_inA G q) (hw : g_W G N ad cell S s H locs) {a : Int32} (hM : g_MI l G N ad cell y (g_code y b mL r) fr lo As S a S') {na : Nat} (cw : CallB R s args own index y b mL r (g_code y b mL r) (g_rm fr lo) 0 0 na ∧ (Cond.static y).before args s = true) (hna : As.length = na) (hsz : ls.size = nL) (hst : st0 = As.reverse ++ rest) (hroom : (rest.map fun v => v.category).sum ≤ 8) (hdg : decode cc pc = .ok (.invokestatic index, 3)) (hf : cells ≤ R.cells ∧ slots ≤ R.slots)
    (kk : ∀ (z : Int32) (S2 : σ) (H1 : Heap) (locs1 : List Loc), z = a → S2 = S' → g_W G N ad cell S2 s H1 locs1 → W p l e R s m args below meth c H1 locs1 cells slots Q (F0 m (pc + 3) ls (.int z :: rest))) : W p l e R s m args below meth c H locs cells slots Q (F0 m pc ls st0) := by
  refine va_calli (va_runS (As := As) (rest := rest) X hM cw ⟨g_Pc_blind _, g_pre K hA hw _⟩ rfl hna hsz hst (lv_room hroom) hdg hf) hw.2 (fun q _ h => h) (fun q h => h) (fun z u t H1 locs1 ht hvm hp hB hz1 hk1 hS => ?_)
  obtain ⟨rfl, rfl⟩ := hp
  exact kk _ _ H1 locs1 rfl rfl ⟨by rw [← ht]; exact hB, hS⟩
theorem g_callSV (X : CallFix p m c cc nL s args tt_T own) (K : tt_K G s) (hA : ∀ q, g_in N ad q → tt_inA G q) (hw : g_W G N ad cell S s H locs) (hM : g_MV l G N ad cell y (g_code y b mL r) fr lo As S S') {na : Nat} (cw : CallB R s args own index y b mL r (g_code y b mL r) (g_rm fr lo) 0 0 na ∧ (Cond.static y).before args s = true) (hna : As.length = na) (hsz : ls.size = nL) (hst : st0 = As.reverse ++ rest) (hroom : (rest.map fun v => v.category).sum ≤ 8) (hdg : decode cc pc = .ok (.invokestatic index, 3)) (hf : cells ≤ R.cells ∧ slots ≤ R.slots)
    (kk : ∀ (S2 : σ) (H1 : Heap) (locs1 : List Loc), S2 = S' → g_W G N ad cell S2 s H1 locs1 → W p l e R s m args below meth c H1 locs1 cells slots Q (F0 m (pc + 3) ls rest)) : W p l e R s m args below meth c H locs cells slots Q (F0 m pc ls st0) := by
  refine va_callv (va_runS (As := As) (rest := rest) X hM cw ⟨g_Pc_blind _, g_pre K hA hw _⟩ rfl hna hsz hst (lv_room hroom) hdg hf) hw.2 (fun q _ h => h) (fun q h => h) (fun u t H1 locs1 ht hvm hp hB hz1 hk1 hS => ?_)
  obtain rfl := hp
  exact kk _ H1 locs1 rfl ⟨by rw [← ht]; exact hB, hS⟩
theorem g_callSR (X : CallFix p m c cc nL s args tt_T own) (K : tt_K G s) (hA : ∀ q, g_in N ad q → tt_inA G q) (hw : g_W G N ad cell S s H locs) {a : Nat} (hM : g_MR l G N ad cell y (g_code y b mL r) fr lo As S a S') {na : Nat} (cw : CallB R s args own index y b mL r (g_code y b mL r) (g_rm fr lo) 0 0 na ∧ (Cond.static y).before args s = true) (hna : As.length = na) (hsz : ls.size = nL) (hst : st0 = As.reverse ++ rest) (hroom : (rest.map fun v => v.category).sum ≤ 8) (hdg : decode cc pc = .ok (.invokestatic index, 3)) (hf : cells ≤ R.cells ∧ slots ≤ R.slots)
    (kk : ∀ (S2 : σ) (H1 : Heap) (locs1 : List Loc), S2 = S' → g_W G N ad cell S2 s H1 locs1 → W p l e R s m args below meth c H1 locs1 cells slots Q (F0 m (pc + 3) ls (.ref a :: rest))) : W p l e R s m args below meth c H locs cells slots Q (F0 m pc ls st0) := by
  refine va_callr (va_runS (As := As) (rest := rest) X hM cw ⟨g_Pc_blind _, g_pre K hA hw _⟩ rfl hna hsz hst (lv_room hroom) hdg hf) hw.2 (fun q _ h => h) (fun q h => h) (fun u b1 t H1 locs1 ht hvm hp hB hz1 hk1 hS => ?_)
  obtain rfl := hp
  obtain ⟨rfl, hB⟩ := hB
  exact kk _ H1 locs1 rfl ⟨by rw [← ht]; exact hB, hS⟩
/-- ends -/
theorem g_iret (X : CallFix p m c cc nL s args tt_T own) (hr : meth.sig.returnType = some .int) (hlk : meth.locks = false) (hw : g_W G N ad cell S s H locs) {a v : Int32} (hv : v = a) (hS : S = S') (hdg : decode cc pc = .ok (.ireturn, 1)) : W p l e R s m args below meth c H locs 0 0 (MQ below (va_Qi (fun r T => r = a ∧ T = S') (g_Post G N ad cell) (g_in N ad)) args s 0 0 (g_in N ad)) (F0 m pc ls [.int v]) := by
  subst hv; subst hS
  exact W.iret X.1 X.2.1 hr (fun t ht _ => ⟨⟨v, S, rfl, ⟨rfl, rfl⟩, (by show va_P _ _ _ t.heap; rw [ht]; exact hw.1)⟩, hw.2.F ht⟩) hw.2.2.2 hdg hlk
theorem g_zret {ty : FieldType} (X : CallFix p m c cc nL s args tt_T own) (hr : meth.sig.returnType = some ty) (hlk : meth.locks = false) (hw : g_W G N ad cell S s H locs) {a v : Int32} (hnr : narrow ty (.int v) = .int v) (hv : v = a) (hS : S = S') (hdg : decode cc pc = .ok (.ireturn, 1)) : W p l e R s m args below meth c H locs 0 0 (MQ below (va_Qi (fun r T => r = a ∧ T = S') (g_Post G N ad cell) (g_in N ad)) args s 0 0 (g_in N ad)) (F0 m pc ls [.int v]) := by
  subst hv; subst hS
  exact W.zret X.1 X.2.1 hr hnr (fun t ht _ => ⟨⟨v, S, rfl, ⟨rfl, rfl⟩, (by show va_P _ _ _ t.heap; rw [ht]; exact hw.1)⟩, hw.2.F ht⟩) hw.2.2.2 hdg hlk
theorem g_vret (X : CallFix p m c cc nL s args tt_T own) (hr : meth.sig.returnType = none) (hlk : meth.locks = false) (hw : g_W G N ad cell S s H locs) (hS : S = S') (hdg : decode cc pc = .ok (.return_, 1)) : W p l e R s m args below meth c H locs 0 0 (MQ below (va_Qv (fun T => T = S') (g_Post G N ad cell) (g_in N ad)) args s 0 0 (g_in N ad)) (F0 m pc ls []) := by
  subst hS
  exact W.vret X.1 X.2.1 hr (fun t ht _ => ⟨⟨S, rfl, rfl, (by show va_P _ _ _ t.heap; rw [ht]; exact hw.1)⟩, hw.2.F ht⟩) hw.2.2.2 hdg hlk
theorem g_aret {rt : String} (X : CallFix p m c cc nL s args tt_T own) (hr : meth.sig.returnType = some (.object rt)) (hlk : meth.locks = false) (hw : g_W G N ad cell S s H locs) {a v : Nat} (hv : v = a) (hS : S = S') (hdg : decode cc pc = .ok (.areturn, 1)) : W p l e R s m args below meth c H locs 0 0 (MQ below (va_Qr (fun T => T = S') (fun T b t => b = a ∧ g_Post G N ad cell T t) (g_in N ad)) args s 0 0 (g_in N ad)) (F0 m pc ls [.ref v]) := by
  subst hv; subst hS
  exact W.aret X.1 X.2.1 hr (Or.inl ⟨rt, rfl⟩) (Or.inr ⟨v, rfl⟩) (fun t ht _ => ⟨⟨S, v, rfl, rfl, rfl, (by show va_P _ _ _ t.heap; rw [ht]; exact hw.1)⟩, hw.2.F ht⟩) hw.2.2.2 hdg hlk
/-- beginnings -/
def g_B (p : Program) (l : Launch) (s : State) (m : MethodId) (args : Array Value) (meth : Method) (c : Code) (cc : ByteArray) (nL : Nat) (own : String) (ret : Option FieldType) : Prop := CallFix p m c cc nL s args tt_T own ∧ meth.sig.returnType = ret ∧ meth.locks = false
theorem g_begin {Qc : Array Value → State → Outcome → State → Prop} {free : Addr → Prop} {av : List Value} (hy : plainName y.cls = true) (hle : (lg_sl av).length ≤ mL) (B0 : State → Prop)
    (body : ∀ (p : Program) (e : Env) (s : State) (m : MethodId) (below : List Frame) (meth : Method) (c : Code) (ls : Array Slot), CallFix p m c b mL s av.toArray tt_T y.cls → meth.sig.returnType = r → meth.locks = false → B0 s → lv_has ls mL (lv_args 0 av) → W p l e (g_rm fr lo) s m av.toArray below meth c s.heap [] 0 0 (MQ below Qc av.toArray s 0 0 free) (F0 m 0 ls [])) :
    Met l y (g_code y b mL r) (g_rm fr lo) (va_Pc av B0) Qc 0 0 free := by
  refine Met.ofW (cc := b) (maxL := mL) (ret := r) hy rfl ?_
  intro p e s m args below meth c s₁ B hml hv
  obtain ⟨rfl, hB0⟩ := hv
  have hts := atoms_spec (ws := g_code y b mL r) B.pre
  have hl := lv_entry av (n := mL) hle
  rw [lg_entry_eq]
  exact body p e s m below meth c _ ⟨B.exec, B.bytes, hml, findClass_of_methodNamed B.named, fun w h => hts w (List.mem_cons_of_mem _ h)⟩ B.returns B.notSynchronized hB0 hl
end GW
