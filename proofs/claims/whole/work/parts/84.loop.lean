/-! the law's loop -/
section LE
variable {p : Program} {l : Launch} {e : Env} {s : State} {m : MethodId} {below : List Frame} {meth : Method} {c : Code} {b L i : Nat} {xs : Nat → Int32} {G : tt_G} {S M : tt_St} {V : Int64} {H : Heap} {locs : List Loc} {cells slots : Nat} {Q : State → Prop} {pc index : Nat} {ls : Array Slot} {rest : List Value}
set_option maxRecDepth 100000 in
/-- one of the 43 calls, or none -/
theorem L_case (C : L_C p s m c b L i xs G) (hf : cells ≤ room_1.cells ∧ slots ≤ room_1.slots) (hR : RR S M) (hw : L_W G S M V s H locs) (hl : L_lv G b i ls)
    (kk : ∀ (S' M' : tt_St) (V' : Int64) (H1 : Heap) (locs1 : List Loc), RR S' M' → L_W G S' M' V' s H1 locs1 → W p l e room_1 s m #[Value.ref b] below meth c H1 locs1 cells slots Q (F0 m 1339 ls [])) (z : Int32) : W p l e room_1 s m #[Value.ref b] below meth c H locs cells slots Q (F0 m 33 ls [.int z]) := by
  by_cases ho : z.toInt < 0 ∨ 42 < z.toInt
  · exact lv_tableOut (tgt := 1339) C.1.1 C.1.2.1 dL_law_33 ho (by decide) (kk S M V H locs hR hw)
  obtain ⟨n, hn⟩ : ∃ n : Nat, z.toInt = n := ⟨z.toInt.toNat, by omega⟩
  have hn43 : n < 43 := by omega
  match n, hn43, hn with
  | 0, _, hn => exact lv_tableIn (off := 187) (tgt := 220) C.1.1 C.1.2.1 dL_law_33 (by rw [hn]; decide) (by rw [hn]; decide) (by rw [hn]; rfl) (by decide) (L_c0 C hf hR hw hl kk)
  | 1, _, hn => exact lv_tableIn (off := 220) (tgt := 253) C.1.1 C.1.2.1 dL_law_33 (by rw [hn]; decide) (by rw [hn]; decide) (by rw [hn]; rfl) (by decide) (L_c1 C hf hR hw hl kk)
  | 2, _, hn => exact lv_tableIn (off := 253) (tgt := 286) C.1.1 C.1.2.1 dL_law_33 (by rw [hn]; decide) (by rw [hn]; decide) (by rw [hn]; rfl) (by decide) (L_c2 C hf hR hw hl kk)
  | 3, _, hn => exact lv_tableIn (off := 296) (tgt := 329) C.1.1 C.1.2.1 dL_law_33 (by rw [hn]; decide) (by rw [hn]; decide) (by rw [hn]; rfl) (by decide) (L_c3 C hf hR hw hl kk)
  | 4, _, hn => exact lv_tableIn (off := 329) (tgt := 362) C.1.1 C.1.2.1 dL_law_33 (by rw [hn]; decide) (by rw [hn]; decide) (by rw [hn]; rfl) (by decide) (L_c4 C hf hR hw hl kk)
  | 5, _, hn => exact lv_tableIn (off := 342) (tgt := 375) C.1.1 C.1.2.1 dL_law_33 (by rw [hn]; decide) (by rw [hn]; decide) (by rw [hn]; rfl) (by decide) (L_c5 C hf hR hw hl kk)
  | 6, _, hn => exact lv_tableIn (off := 365) (tgt := 398) C.1.1 C.1.2.1 dL_law_33 (by rw [hn]; decide) (by rw [hn]; decide) (by rw [hn]; rfl) (by decide) (L_c6 C hf hR hw hl kk)
  | 7, _, hn => exact lv_tableIn (off := 388) (tgt := 421) C.1.1 C.1.2.1 dL_law_33 (by rw [hn]; decide) (by rw [hn]; decide) (by rw [hn]; rfl) (by decide) (L_c7 C hf hR hw hl kk)
  | 8, _, hn => exact lv_tableIn (off := 411) (tgt := 444) C.1.1 C.1.2.1 dL_law_33 (by rw [hn]; decide) (by rw [hn]; decide) (by rw [hn]; rfl) (by decide) (L_c8 C hf hR hw hl kk)
  | 9, _, hn => exact lv_tableIn (off := 434) (tgt := 467) C.1.1 C.1.2.1 dL_law_33 (by rw [hn]; decide) (by rw [hn]; decide) (by rw [hn]; rfl) (by decide) (L_c9 C hf hR hw hl kk)
  | 10, _, hn => exact lv_tableIn (off := 467) (tgt := 500) C.1.1 C.1.2.1 dL_law_33 (by rw [hn]; decide) (by rw [hn]; decide) (by rw [hn]; rfl) (by decide) (L_c10 C hf hR hw hl kk)
  | 11, _, hn => exact lv_tableIn (off := 490) (tgt := 523) C.1.1 C.1.2.1 dL_law_33 (by rw [hn]; decide) (by rw [hn]; decide) (by rw [hn]; rfl) (by decide) (L_c11 C hf hR hw hl kk)
  | 12, _, hn => exact lv_tableIn (off := 513) (tgt := 546) C.1.1 C.1.2.1 dL_law_33 (by rw [hn]; decide) (by rw [hn]; decide) (by rw [hn]; rfl) (by decide) (L_c12 C hf hR hw hl kk)
  | 13, _, hn => exact lv_tableIn (off := 546) (tgt := 579) C.1.1 C.1.2.1 dL_law_33 (by rw [hn]; decide) (by rw [hn]; decide) (by rw [hn]; rfl) (by decide) (L_c13 C hf hR hw hl kk)
  | 14, _, hn => exact lv_tableIn (off := 569) (tgt := 602) C.1.1 C.1.2.1 dL_law_33 (by rw [hn]; decide) (by rw [hn]; decide) (by rw [hn]; rfl) (by decide) (L_c14 C hf hR hw hl kk)
  | 15, _, hn => exact lv_tableIn (off := 602) (tgt := 635) C.1.1 C.1.2.1 dL_law_33 (by rw [hn]; decide) (by rw [hn]; decide) (by rw [hn]; rfl) (by decide) (L_c15 C hf hR hw hl kk)
  | 16, _, hn => exact lv_tableIn (off := 615) (tgt := 648) C.1.1 C.1.2.1 dL_law_33 (by rw [hn]; decide) (by rw [hn]; decide) (by rw [hn]; rfl) (by decide) (L_c16 C hf hR hw hl kk)
  | 17, _, hn => exact lv_tableIn (off := 648) (tgt := 681) C.1.1 C.1.2.1 dL_law_33 (by rw [hn]; decide) (by rw [hn]; decide) (by rw [hn]; rfl) (by decide) (L_c17 C hf hR hw hl kk)
  | 18, _, hn => exact lv_tableIn (off := 671) (tgt := 704) C.1.1 C.1.2.1 dL_law_33 (by rw [hn]; decide) (by rw [hn]; decide) (by rw [hn]; rfl) (by decide) (L_c18 C hf hR hw hl kk)
  | 19, _, hn => exact lv_tableIn (off := 694) (tgt := 727) C.1.1 C.1.2.1 dL_law_33 (by rw [hn]; decide) (by rw [hn]; decide) (by rw [hn]; rfl) (by decide) (L_c19 C hf hR hw hl kk)
  | 20, _, hn => exact lv_tableIn (off := 717) (tgt := 750) C.1.1 C.1.2.1 dL_law_33 (by rw [hn]; decide) (by rw [hn]; decide) (by rw [hn]; rfl) (by decide) (L_c20 C hf hR hw hl kk)
  | 21, _, hn => exact lv_tableIn (off := 750) (tgt := 783) C.1.1 C.1.2.1 dL_law_33 (by rw [hn]; decide) (by rw [hn]; decide) (by rw [hn]; rfl) (by decide) (L_c21 C hf hR hw hl kk)
  | 22, _, hn => exact lv_tableIn (off := 783) (tgt := 816) C.1.1 C.1.2.1 dL_law_33 (by rw [hn]; decide) (by rw [hn]; decide) (by rw [hn]; rfl) (by decide) (L_c22 C hf hR hw hl kk)
  | 23, _, hn => exact lv_tableIn (off := 806) (tgt := 839) C.1.1 C.1.2.1 dL_law_33 (by rw [hn]; decide) (by rw [hn]; decide) (by rw [hn]; rfl) (by decide) (L_c23 C hf hR hw hl kk)
  | 24, _, hn => exact lv_tableIn (off := 819) (tgt := 852) C.1.1 C.1.2.1 dL_law_33 (by rw [hn]; decide) (by rw [hn]; decide) (by rw [hn]; rfl) (by decide) (L_c24 C hf hR hw hl kk)
  | 25, _, hn => exact lv_tableIn (off := 832) (tgt := 865) C.1.1 C.1.2.1 dL_law_33 (by rw [hn]; decide) (by rw [hn]; decide) (by rw [hn]; rfl) (by decide) (L_c25 C hf hR hw hl kk)
  | 26, _, hn => exact lv_tableIn (off := 845) (tgt := 878) C.1.1 C.1.2.1 dL_law_33 (by rw [hn]; decide) (by rw [hn]; decide) (by rw [hn]; rfl) (by decide) (L_c26 C hf hR hw hl kk)
  | 27, _, hn => exact lv_tableIn (off := 878) (tgt := 911) C.1.1 C.1.2.1 dL_law_33 (by rw [hn]; decide) (by rw [hn]; decide) (by rw [hn]; rfl) (by decide) (L_c27 C hf hR hw hl kk)
  | 28, _, hn => exact lv_tableIn (off := 901) (tgt := 934) C.1.1 C.1.2.1 dL_law_33 (by rw [hn]; decide) (by rw [hn]; decide) (by rw [hn]; rfl) (by decide) (L_c28 C hf hR hw hl kk)
  | 29, _, hn => exact lv_tableIn (off := 934) (tgt := 967) C.1.1 C.1.2.1 dL_law_33 (by rw [hn]; decide) (by rw [hn]; decide) (by rw [hn]; rfl) (by decide) (L_c29 C hf hR hw hl kk)
  | 30, _, hn => exact lv_tableIn (off := 947) (tgt := 980) C.1.1 C.1.2.1 dL_law_33 (by rw [hn]; decide) (by rw [hn]; decide) (by rw [hn]; rfl) (by decide) (L_c30 C hf hR hw hl kk)
  | 31, _, hn => exact lv_tableIn (off := 960) (tgt := 993) C.1.1 C.1.2.1 dL_law_33 (by rw [hn]; decide) (by rw [hn]; decide) (by rw [hn]; rfl) (by decide) (L_c31 C hf hR hw hl kk)
  | 32, _, hn => exact lv_tableIn (off := 993) (tgt := 1026) C.1.1 C.1.2.1 dL_law_33 (by rw [hn]; decide) (by rw [hn]; decide) (by rw [hn]; rfl) (by decide) (L_c32 C hf hR hw hl kk)
  | 33, _, hn => exact lv_tableIn (off := 1026) (tgt := 1059) C.1.1 C.1.2.1 dL_law_33 (by rw [hn]; decide) (by rw [hn]; decide) (by rw [hn]; rfl) (by decide) (L_c33 C hf hR hw hl kk)
  | 34, _, hn => exact lv_tableIn (off := 1069) (tgt := 1102) C.1.1 C.1.2.1 dL_law_33 (by rw [hn]; decide) (by rw [hn]; decide) (by rw [hn]; rfl) (by decide) (L_c34 C hf hR hw hl kk)
  | 35, _, hn => exact lv_tableIn (off := 1112) (tgt := 1145) C.1.1 C.1.2.1 dL_law_33 (by rw [hn]; decide) (by rw [hn]; decide) (by rw [hn]; rfl) (by decide) (L_c35 C hf hR hw hl kk)
  | 36, _, hn => exact lv_tableIn (off := 1175) (tgt := 1208) C.1.1 C.1.2.1 dL_law_33 (by rw [hn]; decide) (by rw [hn]; decide) (by rw [hn]; rfl) (by decide) (L_c36 C hf hR hw hl kk)
  | 37, _, hn => exact lv_tableIn (off := 1198) (tgt := 1231) C.1.1 C.1.2.1 dL_law_33 (by rw [hn]; decide) (by rw [hn]; decide) (by rw [hn]; rfl) (by decide) (L_c37 C hf hR hw hl kk)
  | 38, _, hn => exact lv_tableIn (off := 1221) (tgt := 1254) C.1.1 C.1.2.1 dL_law_33 (by rw [hn]; decide) (by rw [hn]; decide) (by rw [hn]; rfl) (by decide) (L_c38 C hf hR hw hl kk)
  | 39, _, hn => exact lv_tableIn (off := 1234) (tgt := 1267) C.1.1 C.1.2.1 dL_law_33 (by rw [hn]; decide) (by rw [hn]; decide) (by rw [hn]; rfl) (by decide) (L_c39 C hf hR hw hl kk)
  | 40, _, hn => exact lv_tableIn (off := 1247) (tgt := 1280) C.1.1 C.1.2.1 dL_law_33 (by rw [hn]; decide) (by rw [hn]; decide) (by rw [hn]; rfl) (by decide) (L_c40 C hf hR hw hl kk)
  | 41, _, hn => exact lv_tableIn (off := 1260) (tgt := 1293) C.1.1 C.1.2.1 dL_law_33 (by rw [hn]; decide) (by rw [hn]; decide) (by rw [hn]; rfl) (by decide) (L_c41 C hf hR hw hl kk)
  | 42, _, hn => exact lv_tableIn (off := 1283) (tgt := 1316) C.1.1 C.1.2.1 dL_law_33 (by rw [hn]; decide) (by rw [hn]; decide) (by rw [hn]; rfl) (by decide) (L_c42 C hf hR hw hl kk)
  | n + 43, h, _ => exact absurd h (by omega)
end LE
theorem L_loop {p : Program} {l : Launch} {e : Env} {s : State} {m : MethodId} {below : List Frame} {meth : Method} {c : Code} {b L : Nat} {xs : Nat → Int32} {G : tt_G} {cells slots : Nat} (hL : L ≤ 3072) (C0 : lw_At p s m meth c b L xs) (X : CallFix p m c cL_law 4 s #[Value.ref b] tt_T "TrustTinLaw") (K : L_K G s) (hf : cells ≤ room_1.cells ∧ slots ≤ room_1.slots) :
    ∀ (n i : Nat), i ≤ L → L + 1 ≤ i + n → ∀ (S M : tt_St) (V : Int64) (H : Heap) (locs : List Loc) (ls : Array Slot), RR S M → L_W G S M V s H locs → L_lv G b i ls → W p l e room_1 s m #[Value.ref b] below meth c H locs cells slots (lw_Z below #[Value.ref b] s) (F0 m 18 ls []) := by
  obtain ⟨hx, hb, hr, hml, hown, hts, hX, hbl, hlocks, hgv⟩ := C0
  intro n
  induction n with
  | zero =>
    intro i h1 h2
    exact absurd h2 (by omega)
  | succ n ih =>
    intro i hi hin S M V H locs ls hR hw hl
    have eL : (Int32.ofNat L).toInt = L := nI_toInt (n := L) (by omega)
    have ei : (nI i).toInt = i := nI_toInt (by omega)
    have e6 : (6 : Int32).toInt = 6 := rfl
    have es : (Int32.ofNat L - (6 : Int32)).toInt = L - 6 := by rw [lp_sub (by omega) (by omega), eL, e6]
    refine lv_iload_n X.1 X.2.1 dL_law_18 rfl (lv_at hl 0 rfl) ?_
    refine lv_aload_n X.1 X.2.1 dL_law_19 rfl (lv_at hl 3 rfl) ?_
    refine va_slen X.1 X.2.1 hX hbl (Nat.not_le.mpr hbl) hw.2.2 dL_law_20 ?_
    refine lv_bipush (v := (6 : Int32)) X.1 X.2.1 dL_law_21 (by decide) ?_
    refine lv_isub X.1 X.2.1 dL_law_23 ?_
    refine lv_icmp_gt (tgt := 1345) X.1 X.2.1 dL_law_24 (by decide) (fun hz => ?_) (fun hz => ?_)
    · refine lv_iconst (v := (1 : Int32)) X.1 X.2.1 dL_law_1345 (by decide) ?_
      refine va_forget (fun q hq => hw.2.2.2.2 q hq) ?_
      refine W.widen (k := 600000) (n := 7302250) hf.1 hf.2 ?_
      exact lw_ret hx hb hr hlocks dL_law_1346
    · have hz : i + 6 ≤ L := by rw [lp_lt] at hz; omega
      refine lv_aload_n X.1 X.2.1 dL_law_27 rfl (lv_at hl 3 rfl) ?_
      refine lv_iload_n X.1 X.2.1 dL_law_28 rfl (lv_at hl 0 rfl) ?_
      refine va_sld X.1 X.2.1 hX hbl (Nat.not_le.mpr hbl) hw.2.2 (vp_in_nI (by omega) (by omega)) dL_law_29 ?_
      refine lv_bipush (v := (63 : Int32)) X.1 X.2.1 dL_law_30 (by decide) ?_
      refine lv_iand X.1 X.2.1 dL_law_32 ?_
      refine L_case ⟨X, K, hX, hbl, hz, hL⟩ hf hR hw hl (fun S' M' V' H1 locs1 hR hw => ?_) _
      refine lv_iinc (v := nI (i + 6)) (lv' := [(3, .int (nI (i + 6))), (2, .ref (mm_ad G 0)), (1, .ref (G.2.2 61)), (0, .ref b)]) X.1 X.2.1 dL_law_1339 hl (k := 0) rfl (nI_add i 6) (by decide) rfl (fun ls hl => ?_)
      refine lv_goto (tgt := 18) X.1 X.2.1 dL_law_1342 (by decide) ?_
      exact ih (i + 6) hz (by omega) S' M' V' H1 locs1 ls hR hw hl
