/-! the law's loop -/
theorem kw_out12 {W : Int32} (h0 : ¬ W = 0) (h1 : ¬ W = 1) (h2 : ¬ W = 2) (h3 : ¬ W = 3) (h4 : ¬ W = 4) (h5 : ¬ W = 5) (h6 : ¬ W = 6) (h7 : ¬ W = 7) (h8 : ¬ W = 8) (h9 : ¬ W = 9) (h10 : ¬ W = 10) (h11 : ¬ W = 11) : W.toInt < 0 ∨ (11 : Int) < W.toInt := kw_out (fun n hn => by
  rcases (show n = 0 ∨ n = 1 ∨ n = 2 ∨ n = 3 ∨ n = 4 ∨ n = 5 ∨ n = 6 ∨ n = 7 ∨ n = 8 ∨ n = 9 ∨ n = 10 ∨ n = 11 by omega) with rfl | rfl | rfl | rfl | rfl | rfl | rfl | rfl | rfl | rfl | rfl | rfl
  · exact h0
  · exact h1
  · exact h2
  · exact h3
  · exact h4
  · exact h5
  · exact h6
  · exact h7
  · exact h8
  · exact h9
  · exact h10
  · exact h11)
theorem law_cmp {L n : Nat} (hL : L ≤ 3584) (hn : n ≤ 600) (h : ¬ Int32.ofNat L - 7 < nI (7 * n)) : 7 * n + 7 ≤ L := by
  rw [lt_toInt, nI_toInt (by omega), Int32.toInt_sub, show (Int32.ofNat L).toInt = (L : Int) from nI_toInt (n := L) (by omega), show (7 : Int32).toInt = 7 from rfl, Int.bmod_eq_of_le (by omega) (by omega)] at h
  omega
set_option maxHeartbeats 2000000 in
set_option maxRecDepth 100000 in
theorem law_loop {p : Program} {l : Launch} {e : Env} {s : State} {m : MethodId} {below : List Frame} {meth : Method} {c : Code} {G : kw_G} {b L o mo : Nat} {ma : Nat → Nat} {xs : Nat → Int32} (S : CallFix p m c cL_law 4 s #[Value.ref b] wsL_law RL) (hK : kw_K G s) (hZ : kw_Z G (fun q => s.heap.size ≤ q) s s.heap) (hX : va_X b L xs s s.heap) (hbl : b < s.heap.size) (hr : meth.sig.returnType = ret) (hlk : meth.locks = false) (hL : L ≤ 3584) : ∀ (dn n ce sl : Nat) (nu : Nat → Option Nat) (x : kw_St) (ee : kE) (t : mo_T) (H : Heap) (locs : List Loc) (ls : Array Slot), n + dn = 513 → ce ≤ 38 + 768 * n → sl ≤ 9271 + 3072 * n → zw G nu x o ee t x → zF ee t → mw nu x mo ma t x → (tF t 4).toInt ≤ n → kw_W G (fun q => s.heap.size ≤ q) nu x H → va_S (fun q => s.heap.size ≤ q) s.heap H locs → lv_has ls 4 [(3, .int (nI (7 * n))), (2, .ref mo), (1, .ref o), (0, .ref b)] → W p l e room_1 s m #[Value.ref b] below meth c H locs ce sl (lw_Z below #[Value.ref b] s) (F0 m 18 ls []) := by
  have hbA : ¬ (fun q : Nat => s.heap.size ≤ q) b := Nat.not_le.mpr hbl
  intro dn
  induction dn with
  | zero =>
    intro n ce sl nu x ee t H locs ls hdn hce hsl hz hF hm hn4 hW hS hl
    refine lv_iload_n S.1 S.2.1 dL_law_18 rfl (lv_at hl 0 rfl) ?_
    refine lv_aload_n S.1 S.2.1 dL_law_19 rfl (lv_at hl 3 rfl) ?_
    refine va_slen S.1 S.2.1 hX hbl hbA hS dL_law_20 ?_
    refine lv_bipush (v := 7) S.1 S.2.1 dL_law_21 rfl ?_
    refine lv_isub S.1 S.2.1 dL_law_23 ?_
    refine lv_icmp_gt (tgt := 538) S.1 S.2.1 dL_law_24 rfl (fun _ => ?_) (fun h9 => ?_)
    · refine lv_iconst (v := 1) S.1 S.2.1 dL_law_538 (by decide) ?_
      refine va_forget hS.2.2 ?_
      refine W.widen (k := 600000) (n := 7302250) (by omega) (by omega) ?_
      exact lw_ret S.1 S.2.1 hr hlk dL_law_539
    · exact absurd (law_cmp hL (by omega) h9) (by omega)
  | succ dn ih =>
    intro n ce sl nu x ee t H locs ls hdn hce hsl hz hF hm hn4 hW hS hl
    have kk : ∀ (nu : Nat → Option Nat) (x : kw_St) (ee : kE) (t : mo_T) (ce2 sl2 : Nat) (H : Heap) (locs : List Loc) (ls : Array Slot), zw G nu x o ee t x → zF ee t → mw nu x mo ma t x → (tF t 4).toInt ≤ n + 1 → ce2 ≤ 38 + 768 * (n + 1) → sl2 ≤ 9271 + 3072 * (n + 1) → kw_W G (fun q => s.heap.size ≤ q) nu x H → va_S (fun q => s.heap.size ≤ q) s.heap H locs → lv_has ls 4 [(3, .int (nI (7 * n))), (2, .ref mo), (1, .ref o), (0, .ref b)] → W p l e room_1 s m #[Value.ref b] below meth c H locs ce2 sl2 (lw_Z below #[Value.ref b] s) (F0 m 532 ls []) := by
      intro nu x ee t ce2 sl2 H locs ls hz hF hm hn4 hce hsl hW hS hl
      refine lv_iinc (k := 0) (v := nI (7 * (n + 1))) (lv' := [(3, .int (nI (7 * (n + 1)))), (2, .ref mo), (1, .ref o), (0, .ref b)]) S.1 S.2.1 dL_law_532 hl rfl (nI_add (7 * n) 7) (by decide) rfl (fun ls hl => ?_)
      refine lv_goto (tgt := 18) S.1 S.2.1 dL_law_535 rfl ?_
      exact ih (n + 1) ce2 sl2 nu x ee t H locs ls (by omega) hce hsl hz hF hm hn4 hW hS hl
    refine lv_iload_n S.1 S.2.1 dL_law_18 rfl (lv_at hl 0 rfl) ?_
    refine lv_aload_n S.1 S.2.1 dL_law_19 rfl (lv_at hl 3 rfl) ?_
    refine va_slen S.1 S.2.1 hX hbl hbA hS dL_law_20 ?_
    refine lv_bipush (v := 7) S.1 S.2.1 dL_law_21 rfl ?_
    refine lv_isub S.1 S.2.1 dL_law_23 ?_
    refine lv_icmp_gt (tgt := 538) S.1 S.2.1 dL_law_24 rfl (fun _ => ?_) (fun h9 => ?_)
    · refine lv_iconst (v := 1) S.1 S.2.1 dL_law_538 (by decide) ?_
      refine va_forget hS.2.2 ?_
      refine W.widen (k := 600000) (n := 7302250) (by omega) (by omega) ?_
      exact lw_ret S.1 S.2.1 hr hlk dL_law_539
    · have hn : 7 * n + 7 ≤ L := law_cmp hL (by omega) h9
      refine lv_aload_n S.1 S.2.1 dL_law_27 rfl (lv_at hl 3 rfl) ?_
      refine lv_iload_n S.1 S.2.1 dL_law_28 rfl (lv_at hl 0 rfl) ?_
      refine va_sld S.1 S.2.1 hX hbl hbA hS (vp_in_nI (n := 7 * n) (N := L) (by omega) (by omega)) dL_law_29 ?_
      refine lv_bipush (v := 15) S.1 S.2.1 dL_law_30 rfl ?_
      refine lv_iand S.1 S.2.1 dL_law_32 ?_
      generalize xs (nI (7 * n)).toNatClampNeg &&& 15 = w
      refine W.eq (g2 := F0 m 33 ls [.int w]) rfl ?_
      by_cases w0 : w = 0
      · subst w0
        refine lv_tableIn (tgt := 96) S.1 S.2.1 dL_law_33 (by decide) (by decide) rfl (by decide) ?_
        exact law_c0 S hK hZ hX hbl hL hn hce hsl hz hF hm hn4 hW hS hl kk
      by_cases w1 : w = 1
      · subst w1
        refine lv_tableIn (tgt := 139) S.1 S.2.1 dL_law_33 (by decide) (by decide) rfl (by decide) ?_
        exact law_c1 S hK hZ hX hbl hL hn hce hsl hz hF hm hn4 hW hS hl kk
      by_cases w2 : w = 2
      · subst w2
        refine lv_tableIn (tgt := 214) S.1 S.2.1 dL_law_33 (by decide) (by decide) rfl (by decide) ?_
        exact law_c2 S hK hZ hX hbl hL hn hce hsl hz hF hm hn4 hW hS hl kk
      by_cases w3 : w = 3
      · subst w3
        refine lv_tableIn (tgt := 283) S.1 S.2.1 dL_law_33 (by decide) (by decide) rfl (by decide) ?_
        exact law_c3 S hK hZ hX hbl hL hn hce hsl hz hF hm hn4 hW hS hl kk
      by_cases w4 : w = 4
      · subst w4
        refine lv_tableIn (tgt := 316) S.1 S.2.1 dL_law_33 (by decide) (by decide) rfl (by decide) ?_
        exact law_c4 S hK hZ hX hbl hL hn hce hsl hz hF hm hn4 hW hS hl kk
      by_cases w5 : w = 5
      · subst w5
        refine lv_tableIn (tgt := 339) S.1 S.2.1 dL_law_33 (by decide) (by decide) rfl (by decide) ?_
        exact law_c5 S hK hZ hX hbl hL hn hce hsl hz hF hm hn4 hW hS hl kk
      by_cases w6 : w = 6
      · subst w6
        refine lv_tableIn (tgt := 352) S.1 S.2.1 dL_law_33 (by decide) (by decide) rfl (by decide) ?_
        exact law_c6 S hK hZ hX hbl hL hn hce hsl hz hF hm hn4 hW hS hl kk
      by_cases w7 : w = 7
      · subst w7
        refine lv_tableIn (tgt := 385) S.1 S.2.1 dL_law_33 (by decide) (by decide) rfl (by decide) ?_
        exact law_c7 S hK hZ hX hbl hL hn hce hsl hz hF hm hn4 hW hS hl kk
      by_cases w8 : w = 8
      · subst w8
        refine lv_tableIn (tgt := 408) S.1 S.2.1 dL_law_33 (by decide) (by decide) rfl (by decide) ?_
        exact law_c8 S hK hZ hX hbl hL hn hce hsl hz hF hm hn4 hW hS hl kk
      by_cases w9 : w = 9
      · subst w9
        refine lv_tableIn (tgt := 441) S.1 S.2.1 dL_law_33 (by decide) (by decide) rfl (by decide) ?_
        exact law_c9 S hK hZ hX hbl hL hn hce hsl hz hF hm hn4 hW hS hl kk
      by_cases w10 : w = 10
      · subst w10
        refine lv_tableIn (tgt := 475) S.1 S.2.1 dL_law_33 (by decide) (by decide) rfl (by decide) ?_
        exact law_c10 S hK hZ hX hbl hL hn hce hsl hz hF hm hn4 hW hS hl kk
      by_cases w11 : w = 11
      · subst w11
        refine lv_tableIn (tgt := 509) S.1 S.2.1 dL_law_33 (by decide) (by decide) rfl (by decide) ?_
        exact law_c11 S hK hZ hX hbl hL hn hce hsl hz hF hm hn4 hW hS hl kk
      refine lv_tableOut (tgt := 532) S.1 S.2.1 dL_law_33 (kw_out12 w0 w1 w2 w3 w4 w5 w6 w7 w8 w9 w10 w11) (by decide) ?_
      exact kk nu x ee t ce sl H locs ls hz hF hm (by omega) (by omega) (by omega) hW hS hl
