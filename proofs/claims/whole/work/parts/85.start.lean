/-! the law from its entry -/
theorem L_tK {s : State} {A : Array Value} {D : va_G} {cl : Nat → ClassId} {q6 q7 t : Nat} {u6 : n_U} {u7 : Nat → Nat} {adK adV : Nat → Nat} (hts : ∀ w ∈ lw_tbl, w.before A s = true) (K : va_K D vwCl (n_tys cl) s) {W0 : va_W} (hW : W0 = n_B6 cl q6 u6 ++ n_B7 cl q7 u7) (hD : va_D (fun q : Nat => s.heap.size ≤ q) W0)
    (h1 : va_Z "TrustTin" "ABOVE" "[I" (.ref t) (fun q : Nat => s.heap.size ≤ q) s s.heap ∧ va_T .int t 7 (fun j => .int (tt_above j)) (fun q : Nat => s.heap.size ≤ q) s s.heap)
    (h2 : vk_S 15 tt_len tt_byt adK adV (fun q : Nat => s.heap.size ≤ q) s s.heap ∧ ∀ i : Nat, i < 15 → vk_R "TrustTin$TextReader" (tt_txt i).1 (tt_txt i).2 (adK i) s)
    (h3 : va_Z "java/lang/String" "COMPACT_STRINGS" "Z" (.int 1) (fun q : Nat => s.heap.size ≤ q) s s.heap ∧ va_Zq "jdk/internal/util/Preconditions" "SIOOBE_FORMATTER" "Ljava/util/function/BiFunction;" (fun q : Nat => s.heap.size ≤ q) s s.heap)
    (h4 : ∀ i : Nat, i < 15 → va_Z "TrustTinModel" (tt_wrd i).1 "J" (.long (tt_wrd i).2) (fun q : Nat => s.heap.size ≤ q) s s.heap) : L_K (D, cl, L_ad q6 u6 q7 u7 t adK adV) s := by
  subst hW
  have hin := L_in (t := t) (adK := adK) (adV := adV) hD
  have hAB : ∀ q : Nat, tt_inA (D, cl, L_ad q6 u6 q7 u7 t adK adV) q → s.heap.size ≤ q := fun q h => by
    obtain ⟨n, n1, rfl⟩ := h
    exact hin n n1
  have eT : L_ad q6 u6 q7 u7 t adK adV 100 = t := by unfold L_ad; rw [if_neg (by omega), if_pos rfl]
  have eK : ∀ i : Nat, i < 15 → L_ad q6 u6 q7 u7 t adK adV (110 + i) = adK i := fun i hi => by unfold L_ad; rw [if_neg (by omega), if_neg (by omega), if_pos (by omega), show 110 + i - 110 = i by omega]
  have eV : ∀ i : Nat, i < 15 → L_ad q6 u6 q7 u7 t adK adV (130 + i) = adV i := fun i hi => by unfold L_ad; rw [if_neg (by omega), if_neg (by omega), if_neg (by omega), show 130 + i - 130 = i by omega]
  refine ⟨⟨K, L_inj hD, ⟨?_, ?_⟩, ⟨⟨fun i hi => ?_, fun i j hi hj e => ?_⟩, fun i hi => ?_⟩, ⟨h3.1.narrow hAB, h3.2.narrow hAB⟩, fun i hi => (h4 i hi).narrow hAB, L_Nw hts⟩, hin⟩
  · show va_Z _ _ _ (.ref (L_ad q6 u6 q7 u7 t adK adV 100)) _ s s.heap
    rw [eT]
    exact h1.1.narrow hAB
  · show va_T .int (L_ad q6 u6 q7 u7 t adK adV 100) _ _ _ s s.heap
    rw [eT]
    exact h1.2.narrow hAB
  · have z := (h2.1.narrow hAB).1 i hi
    rw [← eK i hi, ← eV i hi] at z
    exact z
  · have e : L_ad q6 u6 q7 u7 t adK adV (110 + i) = L_ad q6 u6 q7 u7 t adK adV (110 + j) := e
    rw [eK i hi, eK j hj] at e
    exact h2.1.2 i j hi hj e
  · have z := h2.2 i hi
    rw [← eK i hi] at z
    exact z
theorem whole_start {p : Program} {e : Env} {s : State} {m : MethodId} {below : List Frame} {meth : Method} {c : Code} (l : Launch) (hflags : l.flags = flags0) {b L : Nat} {xs : Nat → Int32} (hL : L ≤ 3072) (C0 : lw_At p s m meth c b L xs) : W p l e room_1 s m #[Value.ref b] below meth c s.heap [] 0 0 (lw_Z below #[Value.ref b] s) (entryFrame m ([Value.ref b] : List Value).toArray 4) := by
  obtain ⟨hx, hb, hr, hml, hown, hts, hX, hbl, hlocks, hgv⟩ := id C0
  have X : CallFix p m c cL_law 4 s #[Value.ref b] tt_T "TrustTinLaw" := ⟨hx, hb, hml, hown, fun w h => hts w (tt_good w h).1⟩
  obtain ⟨t, adK, adV, h1, h2, h3, h4⟩ := L_con hts (flat_of_before _ hgv)
  have hO := L_AO hts
  obtain ⟨D, cl, K⟩ := L_vK hts
  have hA : ∀ q : Nat, s.heap.size ≤ q → (fun q : Nat => s.heap.size ≤ q) q := fun _ h => h
  have hS : va_S (fun q : Nat => s.heap.size ≤ q) s.heap s.heap [] := va_S.rf
  have hP : va_P D vwCl [] s.heap := fun k q h => by simp at h
  have hD : va_D (fun q : Nat => s.heap.size ≤ q) ([] : va_W) := ⟨fun i j p q h => by simp at h, fun k q h => by simp at h⟩
  have hl := lv_entry ([.ref b]) (n := 4) (Nat.le_of_ble_eq_true rfl)
  rw [lg_entry_eq]
  generalize (lg_sl ([.ref b]) ++ List.replicate (4 - (lg_sl ([.ref b])).length) Slot.unset).toArray = ls at hl ⊢
  have hl : lv_has ls 4 [(0, .ref b)] := hl
  refine n_make (ci := 6) (ws := []) X K hO hA hP hD hS rfl iT6 tyX6_ok (by decide) q82 q83 q67 (k_X6_init l D cl) rfl rfl (by decide +kernel) (Or.inl q84) q85 q86 ⟨Nat.le_of_ble_eq_true rfl, Nat.le_of_ble_eq_true rfl⟩ hl.1 (Nat.le_of_ble_eq_true rfl) dL_law_0 dL_law_3 dL_law_4 (Nat.le_of_ble_eq_true rfl) (Nat.le_of_ble_eq_true rfl) (fun q6 u6 H locs hP hD hS => ?_)
  refine lv_astore_n (lv' := [(1, .ref q6), (0, .ref b)]) X.1 X.2.1 dL_law_7 rfl hl (by decide) rfl (fun ls hl => ?_)
  refine n_make (ci := 7) (ws := n_B6 cl q6 u6) X K hO hA hP hD hS rfl iT7 tyX7_ok (by decide) q830 q831 q74 (k_X7_init l D cl) rfl rfl (by decide +kernel) (Or.inl q832) q833 q834 ⟨Nat.le_of_ble_eq_true rfl, Nat.le_of_ble_eq_true rfl⟩ hl.1 (Nat.le_of_ble_eq_true rfl) dL_law_8 dL_law_11 dL_law_12 (Nat.le_of_ble_eq_true rfl) (Nat.le_of_ble_eq_true rfl) (fun q7 u7 H locs hP hD hS => ?_)
  refine lv_astore_n (lv' := [(2, .ref q7), (1, .ref q6), (0, .ref b)]) X.1 X.2.1 dL_law_15 rfl hl (by decide) rfl (fun ls hl => ?_)
  refine lv_iconst (v := (0 : Int32)) X.1 X.2.1 dL_law_16 (by decide) ?_
  refine lv_istore_n (lv' := [(3, .int (0 : Int32)), (2, .ref q7), (1, .ref q6), (0, .ref b)]) X.1 X.2.1 dL_law_17 rfl hl (by decide) rfl (fun ls hl => ?_)
  have e61 : L_ad q6 u6 q7 u7 t adK adV 61 = q6 := rfl
  have e62 : L_ad q6 u6 q7 u7 t adK adV 62 = q7 := rfl
  have hlG : L_lv (D, cl, L_ad q6 u6 q7 u7 t adK adV) b 0 ls := by
    show lv_has ls 4 [(3, .int (nI 0)), (2, .ref (L_ad q6 u6 q7 u7 t adK adV 62)), (1, .ref (L_ad q6 u6 q7 u7 t adK adV 61)), (0, .ref b)]
    rw [e61, e62]
    exact hl
  exact L_loop (G := (D, cl, L_ad q6 u6 q7 u7 t adK adV)) hL C0 X (L_tK hts K rfl hD h1 h2 h3 h4) ⟨Nat.le_of_ble_eq_true rfl, Nat.le_of_ble_eq_true rfl⟩ (L + 1) 0 (Nat.zero_le L) (by omega) tt_S0 mm_S0 0 H locs ls L_RR0 ⟨L_P6 hP, L_P7 hP, hS⟩ hlG
