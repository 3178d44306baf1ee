/-! the list grows -/
theorem kw_nl {c : Nat} (h2 : 2 ≤ c) (h9 : c ≤ 1000000) : nI c + (if nI (c + 1) - nI c < nI c >>> ((1 : Int32) &&& 31) then nI c >>> ((1 : Int32) &&& 31) else nI (c + 1) - nI c) = nI (c + c / 2) := by
  have e1 : nI (c + 1) - nI c = nI 1 := by rw [pk_sub (by omega), show c + 1 - c = 1 by omega]
  have e2 : nI c >>> ((1 : Int32) &&& 31) = nI (c / 2) := pk_shrN (by omega) _ 1 (by decide)
  rw [e1, e2]
  by_cases h : 1 < c / 2
  · rw [if_pos (nI_lt h (by omega)), nI_add]
  · rw [if_neg (nI_nlt (by omega) (by omega)), nI_add, show c / 2 = 1 by omega]
/-- how many places a row has behind its growth -/
def kw_nc (c : Nat) : Nat := if c = 0 then 10 else c + c / 2
set_option maxHeartbeats 1000000 in
set_option maxRecDepth 100000 in
theorem c_J8_newLength_cabcc (l : Launch) (G : kw_G) (nu : Nat → Option Nat) (x : kw_St) (o : Int32) (mi : Int32) (pr : Int32)  (h0 : 0 < o + (if mi < pr then pr else mi)) (h1 : o + (if mi < pr then pr else mi) ≤ 2147483639) : kw_M l G yJ8_newLength_cabcc wsJ8_newLength_cabcc { frames := 1, cells := 0, slots := 0, locals := 23 } 0 0 [.int (o), .int (mi), .int (pr)] nu x (kw_P nu (some (.int (o + (if mi < pr then pr else mi)))) (x)) := by
  refine kw_M.ofW (cc := cJ8_newLength_cabcc) (maxL := 4) (ret := (some .int)) (by decide) rfl (Nat.le_of_ble_eq_true rfl) ?_
  intro p e s m args below meth c A ls S hr hlk hnm hK hZ hA hW hS hl
  have hl : lv_has ls 4 [(0, .int (o)), (1, .int (mi)), (2, .int (pr))] := hl
  refine lv_iload_n S.1 S.2.1 dJ8_newLength_cabcc_0 rfl (lv_at hl 0 rfl) ?_
  refine lv_iload_n S.1 S.2.1 dJ8_newLength_cabcc_1 rfl (lv_at hl 1 rfl) ?_
  refine lv_iload_n S.1 S.2.1 dJ8_newLength_cabcc_2 rfl (lv_at hl 2 rfl) ?_
  refine kx_maxi S hl.1 (by decide +kernel) (by decide +kernel) (by decide +kernel) (by decide +kernel) (Nat.le_of_ble_eq_true rfl) (Nat.le_of_ble_eq_true rfl) (by first | exact Nat.le_of_ble_eq_true rfl | exact Nat.le_refl _ | exact Nat.le_of_eq (Nat.zero_add _)) (by first | exact Nat.le_of_ble_eq_true rfl | exact Nat.le_of_eq (Nat.zero_add _) | exact Nat.le_refl _) dJ8_newLength_cabcc_3 ?_
  refine lv_iadd S.1 S.2.1 dJ8_newLength_cabcc_6 ?_
  refine lv_istore_n (lv' := [(3, .int ((o) + (if (mi) < (pr) then (pr) else (mi)))), (0, .int (o)), (1, .int (mi)), (2, .int (pr))]) S.1 S.2.1 dJ8_newLength_cabcc_7 rfl hl (by decide) rfl (fun ls hl => ?_)
  refine lv_iconst (v := 0) S.1 S.2.1 dJ8_newLength_cabcc_8 (by decide) ?_
  refine lv_iload_n S.1 S.2.1 dJ8_newLength_cabcc_9 rfl (lv_at hl 0 rfl) ?_
  refine lv_icmp_ge (tgt := 21) S.1 S.2.1 dJ8_newLength_cabcc_10 (by decide) (fun c1 => ?_) (fun c1 => ?_)
  · skip
    first | exact absurd h0 (Int32.not_lt.mpr (by assumption)) | exact absurd h1 (Int32.not_le.mpr (by assumption))
  · skip
    refine lv_iload_n S.1 S.2.1 dJ8_newLength_cabcc_13 rfl (lv_at hl 0 rfl) ?_
    refine lv_ldc (v := 2147483639) S.1 S.2.1 S.2.2.2.1 (S.2.2.2.2 _ (by decide +kernel)) dJ8_newLength_cabcc_14 ?_
    refine lv_icmp_gt (tgt := 21) S.1 S.2.1 dJ8_newLength_cabcc_16 (by decide) (fun c2 => ?_) (fun c2 => ?_)
    · skip
      first | exact absurd h0 (Int32.not_lt.mpr (by assumption)) | exact absurd h1 (Int32.not_le.mpr (by assumption))
    · skip
      refine lv_iload_n S.1 S.2.1 dJ8_newLength_cabcc_19 rfl (lv_at hl 0 rfl) ?_
      refine kw_iret S hr hlk hW hS (by decide) (by decide) dJ8_newLength_cabcc_20 ?_
      refine ⟨?_, rfl, ?_⟩ <;> first | rfl | (simp [c1, c2, kw_b]; done) | (simp [c1, c2, kw_b, kI_sNew, kJ_sNew, kR_sNew, kN_sNew, kI_sI, kI_sJ, kI_sR, kI_sA, kI_sB, kI_sC, kJ_sI, kJ_sJ, kJ_sR, kJ_sA, kJ_sB, kJ_sC, kR_sI, kR_sJ, kR_sR, kR_sA, kR_sB, kR_sC, kA_sI, kA_sJ, kA_sR, kA_sA, kA_sB, kA_sC, kB_sI, kB_sJ, kB_sR, kB_sA, kB_sB, kB_sC, kC_sI, kC_sJ, kC_sR, kC_sA, kC_sB, kC_sC, kN_sI, kN_sJ, kN_sR, kN_sA, kN_sB, kN_sC]; done)
set_option maxHeartbeats 1000000 in
set_option maxRecDepth 100000 in
theorem c_J7_copyOf_6403c (l : Launch) (G : kw_G) (nu : Nat → Option Nat) (x : kw_St) (a : Nat) (n : Int32) (ci : Nat) (k : Nat) (ha : nu a = some 10) (hci : ci = G.2.2.2) (hn : n = nI k) (hk : k ≤ 1000000) (hac : kN x a ≤ k) (hge : ¬ n < nI (kN x a)) (helem : ∀ i y, i < kN x a → kC x a i = some y → ∃ r, nu y = some r ∧ (r = 2 ∨ r = 3 ∨ r = 4)) : kw_M l G yJ7_copyOf_6403c wsJ7_copyOf_6403c { frames := 1, cells := 1, slots := k, locals := 40 } 1 (k) [.ref a, .int (n), .ref ci] nu x (fun v nu' y => ∃ q, nu q = none ∧ v = some (.ref q) ∧ nu' = va_up nu q (some 10) ∧ y = sCrow (sNew x q k) q (va_cpy (kC x a) (fun _ => none) 0 0 (kN x a))) := by
  refine kw_M.ofW (cc := cJ7_copyOf_6403c) (maxL := 4) (ret := (some (.array (.object "java/lang/Object")))) (by decide) rfl (Nat.le_of_ble_eq_true rfl) ?_
  intro p e s m args below meth c A ls S hr hlk hnm hK hZ hA hW hS hl
  have hl : lv_has ls 4 [(0, .ref a), (1, .int (n)), (2, .ref ci)] := hl
  refine lv_aload_n S.1 S.2.1 dJ7_copyOf_6403c_0 rfl (lv_at hl 2 rfl) ?_
  refine va_ldcM S.1 S.2.1 S.2.2.2.1 (S.2.2.2.2 _ (by decide +kernel)) hK.2.2.1 dJ7_copyOf_6403c_1 ?_
  refine lv_acmp_ne (rx := (some ci)) (ry := (some G.2.2.2)) (tgt := 13) S.1 S.2.1 dJ7_copyOf_6403c_3 (by decide) (fun c1 => ?_) (fun c1 => ?_)
  · skip
    exact absurd (congrArg some hci) (by assumption)
  · skip
    refine lv_iload_n S.1 S.2.1 dJ7_copyOf_6403c_6 rfl (lv_at hl 1 rfl) ?_
    refine kw_anew S hK hW hS hA (by decide +kernel) (k := k) hn hk (Nat.le_refl _) (Nat.le_of_eq (Nat.zero_add _)) dJ7_copyOf_6403c_7 (fun d2 H hd3 hW hS => ?_)
    have n4 : ¬ a = d2 := kw_nb hd3 ha
    refine lv_goto (tgt := 24) S.1 S.2.1 dJ7_copyOf_6403c_10 (by decide) ?_
    refine lv_astore_n (lv' := [(3, .ref d2), (0, .ref a), (1, .int (n)), (2, .ref ci)]) S.1 S.2.1 dJ7_copyOf_6403c_24 rfl hl (by decide) rfl (fun ls hl => ?_)
    refine lv_aload_n S.1 S.2.1 dJ7_copyOf_6403c_25 rfl (lv_at hl 1 rfl) ?_
    refine lv_iconst (v := 0) S.1 S.2.1 dJ7_copyOf_6403c_26 (by decide) ?_
    refine lv_aload_n S.1 S.2.1 dJ7_copyOf_6403c_27 rfl (lv_at hl 0 rfl) ?_
    refine lv_iconst (v := 0) S.1 S.2.1 dJ7_copyOf_6403c_28 (by decide) ?_
    refine lv_aload_n S.1 S.2.1 dJ7_copyOf_6403c_29 rfl (lv_at hl 1 rfl) ?_
    refine kw_alen S hK hW (kw_old hd3 ha) (Or.inl rfl) dJ7_copyOf_6403c_30 ?_
    refine lv_iload_n S.1 S.2.1 dJ7_copyOf_6403c_31 rfl (lv_at hl 2 rfl) ?_
    refine kx_mini S hl.1 (by decide +kernel) (by decide +kernel) (by decide +kernel) (by decide +kernel) (Nat.le_of_ble_eq_true rfl) (Nat.le_of_ble_eq_true rfl) (by first | exact Nat.le_of_ble_eq_true rfl | exact Nat.le_refl _ | exact Nat.le_of_eq (Nat.zero_add _)) (by first | exact Nat.le_of_ble_eq_true rfl | exact Nat.le_of_eq (Nat.zero_add _) | exact Nat.le_refl _) dJ7_copyOf_6403c_32 ?_
    refine kw_copy (rest := []) (k := kN x a) S hK hW hS (kw_old hd3 ha) (va_up_self _ _ _) (kw_nb hd3 ha) (by decide +kernel) (by decide +kernel) (by decide +kernel) (by decide +kernel) hl.1 (by rw [kN_sNew, if_neg (kw_nb hd3 ha)]; exact if_neg hge) (by omega) (by rw [kN_sNew, if_neg (kw_nb hd3 ha)]; exact Nat.le_refl _) (by rw [kN_sNew, if_pos rfl]; omega) (fun i y h1 h2 => by rw [kC_sNew, if_neg (kw_nb hd3 ha)] at h2; obtain ⟨r, e1, e2⟩ := helem i y h1 h2; exact ⟨r, kw_old hd3 e1, e2⟩) (Nat.le_of_ble_eq_true rfl) (Nat.le_of_ble_eq_true rfl) dJ7_copyOf_6403c_35 (fun H locs hW hS => ?_)
    refine lv_aload_n S.1 S.2.1 dJ7_copyOf_6403c_38 rfl (lv_at hl 0 rfl) ?_
    refine kw_aret S hr (Or.inr ⟨_, rfl⟩) hlk (v := some d2) hW hS (Nat.le_refl _) (Nat.le_of_eq (Nat.zero_add _)) dJ7_copyOf_6403c_39 ?_
    exact ⟨d2, hd3, rfl, rfl, by rw [kC_sNew, kC_sNew, if_pos rfl, if_neg (kw_nb hd3 ha)]⟩
set_option maxHeartbeats 1000000 in
set_option maxRecDepth 100000 in
theorem c_J7_copyOf_1904c (l : Launch) (G : kw_G) (nu : Nat → Option Nat) (x : kw_St) (a : Nat) (n : Int32) (k : Nat) (ha : nu a = some 10) (hn : n = nI k) (hk : k ≤ 1000000) (hac : kN x a ≤ k) (hge : ¬ n < nI (kN x a)) (helem : ∀ i y, i < kN x a → kC x a i = some y → ∃ r, nu y = some r ∧ (r = 2 ∨ r = 3 ∨ r = 4)) : kw_M l G yJ7_copyOf_1904c wsJ7_copyOf_1904c { frames := 2, cells := 1, slots := k, locals := 63 } 1 (k) [.ref a, .int (n)] nu x (fun v nu' y => ∃ q, nu q = none ∧ v = some (.ref q) ∧ nu' = va_up nu q (some 10) ∧ y = sCrow (sNew x q k) q (va_cpy (kC x a) (fun _ => none) 0 0 (kN x a))) := by
  refine kw_M.ofW (cc := cJ7_copyOf_1904c) (maxL := 2) (ret := (some (.array (.object "java/lang/Object")))) (by decide) rfl (Nat.le_of_ble_eq_true rfl) ?_
  intro p e s m args below meth c A ls S hr hlk hnm hK hZ hA hW hS hl
  have hl : lv_has ls 2 [(0, .ref a), (1, .int (n))] := hl
  refine lv_aload_n S.1 S.2.1 dJ7_copyOf_1904c_0 rfl (lv_at hl 0 rfl) ?_
  refine lv_iload_n S.1 S.2.1 dJ7_copyOf_1904c_1 rfl (lv_at hl 1 rfl) ?_
  refine lv_aload_n S.1 S.2.1 dJ7_copyOf_1904c_2 rfl (lv_at hl 0 rfl) ?_
  refine kw_getC S hK hW hl.1 ha (by decide +kernel) (by decide +kernel) (by decide +kernel) (by decide +kernel) (Nat.le_of_ble_eq_true rfl) (Nat.le_of_ble_eq_true rfl) dJ7_copyOf_1904c_3 ?_
  refine kx_dS (post := fun q => (some (.ref q), sCrow (sNew x q k) q (va_cpy (kC x a) (fun _ => none) 0 0 (kN x a)))) (kq := 10) (As := [.ref a, .int (n), .ref G.2.2.2]) (rest := []) (st1 := fun q => [.ref q]) S hK hZ hA hW hS (c_J7_copyOf_6403c l G nu x a n (G.2.2.2) k ha rfl hn hk hac hge helem) (va_cwS 3 S.2.2.2.2 gJ7_copyOf_1904c_J7_copyOf_6403c rfl rfl rfl (by decide +kernel) ⟨Nat.le_of_ble_eq_true rfl, Nat.le_of_ble_eq_true rfl⟩) rfl hl.1 rfl (Nat.le_of_ble_eq_true rfl) dJ7_copyOf_1904c_6 ⟨Nat.le_of_eq (Nat.zero_add _), Nat.le_of_eq (Nat.zero_add _)⟩ (fun _ => rfl) (fun d1 H locs hd2 hW hS => ?_)
  have n3 : ¬ a = d1 := kw_nb hd2 ha
  refine kw_aret S hr (Or.inr ⟨_, rfl⟩) hlk (v := some d1) hW hS (Nat.le_of_eq (Nat.zero_add _)) (Nat.le_of_eq (Nat.zero_add _)) dJ7_copyOf_1904c_9 ?_
  refine ⟨d1, hd2, ?_, rfl, ?_⟩ <;> first | rfl | (simp [kw_b, kI_sNew, kJ_sNew, kR_sNew, kN_sNew, kI_sI, kI_sJ, kI_sR, kI_sA, kI_sB, kI_sC, kJ_sI, kJ_sJ, kJ_sR, kJ_sA, kJ_sB, kJ_sC, kR_sI, kR_sJ, kR_sR, kR_sA, kR_sB, kR_sC, kA_sI, kA_sJ, kA_sR, kA_sA, kA_sB, kA_sC, kB_sI, kB_sJ, kB_sR, kB_sA, kB_sB, kB_sC, kC_sI, kC_sJ, kC_sR, kC_sA, kC_sB, kC_sC, kN_sI, kN_sJ, kN_sR, kN_sA, kN_sB, kN_sC, n3, Ne.symm n3]; done)
theorem kw_e0 {n : Nat} (h : n = 0) : ¬ 0 < nI n := by rw [h]; decide
set_option maxHeartbeats 1000000 in
set_option maxRecDepth 100000 in
theorem c_Jx4a65c_grow_92f84_e (l : Launch) (G : kw_G) (nu : Nat → Option Nat) (x : kw_St) (a : Nat) (mi : Int32) (ha : nu a = some 0) (hd1 : kR x 1 a = some G.2.2.1) (h11 : nu G.2.2.1 = some 11) (hn0 : kN x G.2.2.1 = 0) (hmi : mi = 1) : kw_M l G yJx4a65c_grow_92f84 wsJx4a65c_grow_92f84 { frames := 3, cells := 1, slots := 10, locals := 84 } 1 10 [.ref a, .int (mi)] nu x (fun v nu' y => ∃ q, nu q = none ∧ v = some (.ref q) ∧ nu' = va_up nu q (some 10) ∧ y = sR (sNew x q 10) 1 a (some q)) := by
  refine kw_M.ofW (cc := cJx4a65c_grow_92f84) (maxL := 4) (ret := (some (.array (.object "java/lang/Object")))) (by decide) rfl (Nat.le_of_ble_eq_true rfl) ?_
  intro p e s m args below meth c A ls S hr hlk hnm hK hZ hA hW hS hl
  have hl : lv_has ls 4 [(0, .ref a), (1, .int (mi))] := hl
  have iJx4a65c : ∀ w ∈ wsJx4a65c0, w ∈ wsJx4a65c_grow_92f84 := by decide +kernel
  refine lv_aload_n S.1 S.2.1 dJx4a65c_grow_92f84_0 rfl (lv_at hl 0 rfl) ?_
  refine kx_gA S hK hW ha 1 1 rfl iJx4a65c (by decide) rfl rfl (by decide) (by decide +kernel) dJx4a65c_grow_92f84_1 (b := G.2.2.1) hd1 ?_
  refine kw_alen S hK hW h11 (Or.inr rfl) dJx4a65c_grow_92f84_4 ?_
  refine lv_istore_n (lv' := [(2, .int (nI (kN x G.2.2.1))), (0, .ref a), (1, .int (mi))]) S.1 S.2.1 dJx4a65c_grow_92f84_5 rfl hl (by decide) rfl (fun ls hl => ?_)
  refine lv_iload_n S.1 S.2.1 dJx4a65c_grow_92f84_6 rfl (lv_at hl 0 rfl) ?_
  refine lv_if_gt (tgt := 20) S.1 S.2.1 dJx4a65c_grow_92f84_7 (by decide) (fun c1 => ?_) (fun c1 => ?_)
  · skip
    first | exact absurd (by assumption) (kw_e0 hn0) | exact absurd rfl (by assumption)
  · skip
    refine lv_aload_n S.1 S.2.1 dJx4a65c_grow_92f84_10 rfl (lv_at hl 1 rfl) ?_
    refine kx_gA S hK hW ha 1 1 rfl iJx4a65c (by decide) rfl rfl (by decide) (by decide +kernel) dJx4a65c_grow_92f84_11 (b := G.2.2.1) hd1 ?_
    refine va_gets S.1 S.2.1 hZ hS S.2.2.2.1 (S.2.2.2.2 _ (by decide +kernel)) (fun _ h => h) dJx4a65c_grow_92f84_14 ?_
    refine lv_acmp_eq (rx := (some G.2.2.1)) (ry := (some G.2.2.1)) (tgt := 45) S.1 S.2.1 dJx4a65c_grow_92f84_17 (by decide) (fun c2 => ?_) (fun c2 => ?_)
    · skip
      refine lv_aload_n S.1 S.2.1 dJx4a65c_grow_92f84_45 rfl (lv_at hl 1 rfl) ?_
      refine lv_bipush (v := 10) S.1 S.2.1 dJx4a65c_grow_92f84_46 (by decide) ?_
      refine lv_iload_n S.1 S.2.1 dJx4a65c_grow_92f84_48 rfl (lv_at hl 2 rfl) ?_
      refine kx_maxi S hl.1 (by decide +kernel) (by decide +kernel) (by decide +kernel) (by decide +kernel) (Nat.le_of_ble_eq_true rfl) (Nat.le_of_ble_eq_true rfl) (by first | exact Nat.le_of_ble_eq_true rfl | exact Nat.le_refl _ | exact Nat.le_of_eq (Nat.zero_add _)) (by first | exact Nat.le_of_ble_eq_true rfl | exact Nat.le_of_eq (Nat.zero_add _) | exact Nat.le_refl _) dJx4a65c_grow_92f84_49 ?_
      refine kw_anew S hK hW hS hA (by decide +kernel) (k := 10) (by rw [hmi]; decide) (by decide) (Nat.le_refl _) (Nat.le_of_eq (Nat.zero_add _)) dJx4a65c_grow_92f84_52 (fun d3 H hd4 hW hS => ?_)
      have n5 : ¬ a = d3 := kw_nb hd4 ha
      have n6 : ¬ G.2.2.1 = d3 := kw_nb hd4 h11
      refine lv_dup_x1 S.1 S.2.1 dJx4a65c_grow_92f84_55 rfl rfl ?_
      refine kx_pA S hK hW hS (kw_old hd4 ha) 1 1  rfl iJx4a65c tyJx4a65c_ok nmJx4a65c (by decide) rfl rfl (by decide) (by decide +kernel) (Or.inl rfl) rfl (Or.inr ⟨_, rfl⟩) dJx4a65c_grow_92f84_56 (fun H locs hW hS => ?_)
      refine kw_aret S hr (Or.inr ⟨_, rfl⟩) hlk (v := some d3) hW hS (by decide) (by decide) dJx4a65c_grow_92f84_59 ?_
      refine ⟨d3, hd4, ?_, rfl, ?_⟩ <;> first | rfl | (simp [c1, eq_true c2, kw_b, kI_sNew, kJ_sNew, kR_sNew, kN_sNew, kI_sI, kI_sJ, kI_sR, kI_sA, kI_sB, kI_sC, kJ_sI, kJ_sJ, kJ_sR, kJ_sA, kJ_sB, kJ_sC, kR_sI, kR_sJ, kR_sR, kR_sA, kR_sB, kR_sC, kA_sI, kA_sJ, kA_sR, kA_sA, kA_sB, kA_sC, kB_sI, kB_sJ, kB_sR, kB_sA, kB_sB, kB_sC, kC_sI, kC_sJ, kC_sR, kC_sA, kC_sB, kC_sC, kN_sI, kN_sJ, kN_sR, kN_sA, kN_sB, kN_sC, n5, Ne.symm n5, n6, Ne.symm n6]; done)
    · skip
      first | exact absurd (by assumption) (kw_e0 hn0) | exact absurd rfl (by assumption)
set_option maxHeartbeats 1000000 in
set_option maxRecDepth 100000 in
theorem c_Jx4a65c_grow_92f84_g (l : Launch) (G : kw_G) (nu : Nat → Option Nat) (x : kw_St) (a : Nat) (mi : Int32) (d : Nat) (ha : nu a = some 0) (hd : nu d = some 10) (hd1 : kR x 1 a = some d) (hc2 : 2 ≤ kN x d) (hc9 : kN x d ≤ 100000) (hmi : mi = nI (kN x d + 1)) (helem : ∀ i y, i < kN x d → kC x d i = some y → ∃ r, nu y = some r ∧ (r = 2 ∨ r = 3 ∨ r = 4)) : kw_M l G yJx4a65c_grow_92f84 wsJx4a65c_grow_92f84 { frames := 3, cells := 1, slots := kN x d + kN x d / 2, locals := 84 } 1 (kN x d + kN x d / 2) [.ref a, .int (mi)] nu x (fun v nu' y => ∃ q, nu q = none ∧ v = some (.ref q) ∧ nu' = va_up nu q (some 10) ∧ y = sR (sCrow (sNew x q (kN x d + kN x d / 2)) q (va_cpy (kC x d) (fun _ => none) 0 0 (kN x d))) 1 a (some q)) := by
  refine kw_M.ofW (cc := cJx4a65c_grow_92f84) (maxL := 4) (ret := (some (.array (.object "java/lang/Object")))) (by decide) rfl (Nat.le_of_ble_eq_true rfl) ?_
  intro p e s m args below meth c A ls S hr hlk hnm hK hZ hA hW hS hl
  have hl : lv_has ls 4 [(0, .ref a), (1, .int (mi))] := hl
  have iJx4a65c : ∀ w ∈ wsJx4a65c0, w ∈ wsJx4a65c_grow_92f84 := by decide +kernel
  refine lv_aload_n S.1 S.2.1 dJx4a65c_grow_92f84_0 rfl (lv_at hl 0 rfl) ?_
  refine kx_gA S hK hW ha 1 1 rfl iJx4a65c (by decide) rfl rfl (by decide) (by decide +kernel) dJx4a65c_grow_92f84_1 (b := d) hd1 ?_
  refine kw_alen S hK hW hd (Or.inl rfl) dJx4a65c_grow_92f84_4 ?_
  refine lv_istore_n (lv' := [(2, .int (nI (kN x d))), (0, .ref a), (1, .int (mi))]) S.1 S.2.1 dJx4a65c_grow_92f84_5 rfl hl (by decide) rfl (fun ls hl => ?_)
  refine lv_iload_n S.1 S.2.1 dJx4a65c_grow_92f84_6 rfl (lv_at hl 0 rfl) ?_
  refine lv_if_gt (tgt := 20) S.1 S.2.1 dJx4a65c_grow_92f84_7 (by decide) (fun c1 => ?_) (fun c1 => ?_)
  · skip
    refine lv_iload_n S.1 S.2.1 dJx4a65c_grow_92f84_20 rfl (lv_at hl 0 rfl) ?_
    refine lv_iload_n S.1 S.2.1 dJx4a65c_grow_92f84_21 rfl (lv_at hl 2 rfl) ?_
    refine lv_iload_n S.1 S.2.1 dJx4a65c_grow_92f84_22 rfl (lv_at hl 0 rfl) ?_
    refine lv_isub S.1 S.2.1 dJx4a65c_grow_92f84_23 ?_
    refine lv_iload_n S.1 S.2.1 dJx4a65c_grow_92f84_24 rfl (lv_at hl 0 rfl) ?_
    refine lv_iconst (v := 1) S.1 S.2.1 dJx4a65c_grow_92f84_25 (by decide) ?_
    refine lv_ishr S.1 S.2.1 dJx4a65c_grow_92f84_26 ?_
    refine kx_cS (As := [.int (nI (kN x d)), .int ((mi) - (nI (kN x d))), .int ((nI (kN x d)) >>> ((1) &&& 31))]) (rest := []) (st1 := [.int ((nI (kN x d)) + (if ((mi) - (nI (kN x d))) < ((nI (kN x d)) >>> ((1) &&& 31)) then ((nI (kN x d)) >>> ((1) &&& 31)) else ((mi) - (nI (kN x d)))))]) S hK hZ hA hW hS (c_J8_newLength_cabcc l G nu x (nI (kN x d)) ((mi) - (nI (kN x d))) ((nI (kN x d)) >>> ((1) &&& 31)) (by rw [hmi, kw_nl hc2 (by omega)]; exact nI_lt (a := 0) (by omega) (by omega)) (by rw [hmi, kw_nl hc2 (by omega)]; exact nI_le (b := 2147483639) (by omega) (by omega))) (va_cwS 3 S.2.2.2.2 gJx4a65c_grow_92f84_J8_newLength_cabcc rfl rfl rfl (by decide +kernel) ⟨Nat.le_of_ble_eq_true rfl, Nat.le_of_ble_eq_true rfl⟩) rfl hl.1 rfl (Nat.le_of_ble_eq_true rfl) dJx4a65c_grow_92f84_27 ⟨Nat.le_of_ble_eq_true rfl, Nat.le_of_ble_eq_true rfl⟩ rfl (fun H locs hW hS => ?_)
    refine lv_istore_n (lv' := [(3, .int ((nI (kN x d)) + (if ((mi) - (nI (kN x d))) < ((nI (kN x d)) >>> ((1) &&& 31)) then ((nI (kN x d)) >>> ((1) &&& 31)) else ((mi) - (nI (kN x d)))))), (2, .int (nI (kN x d))), (0, .ref a), (1, .int (mi))]) S.1 S.2.1 dJx4a65c_grow_92f84_30 rfl hl (by decide) rfl (fun ls hl => ?_)
    refine lv_aload_n S.1 S.2.1 dJx4a65c_grow_92f84_31 rfl (lv_at hl 2 rfl) ?_
    refine lv_aload_n S.1 S.2.1 dJx4a65c_grow_92f84_32 rfl (lv_at hl 2 rfl) ?_
    refine kx_gA S hK hW ha 1 1 rfl iJx4a65c (by decide) rfl rfl (by decide) (by decide +kernel) dJx4a65c_grow_92f84_33 (b := d) hd1 ?_
    refine lv_iload_n S.1 S.2.1 dJx4a65c_grow_92f84_36 rfl (lv_at hl 0 rfl) ?_
    refine kx_dS (post := fun q => (some (.ref q), sCrow (sNew x q (kN x d + kN x d / 2)) q (va_cpy (kC x d) (fun _ => none) 0 0 (kN x d)))) (kq := 10) (As := [.ref d, .int ((nI (kN x d)) + (if ((mi) - (nI (kN x d))) < ((nI (kN x d)) >>> ((1) &&& 31)) then ((nI (kN x d)) >>> ((1) &&& 31)) else ((mi) - (nI (kN x d)))))]) (rest := [.ref a]) (st1 := fun q => [.ref q, .ref a]) S hK hZ hA hW hS (c_J7_copyOf_1904c l G nu x d ((nI (kN x d)) + (if ((mi) - (nI (kN x d))) < ((nI (kN x d)) >>> ((1) &&& 31)) then ((nI (kN x d)) >>> ((1) &&& 31)) else ((mi) - (nI (kN x d))))) (kN x d + kN x d / 2) hd (by rw [hmi, kw_nl hc2 (by omega)]) (by omega) (by omega) (by rw [hmi, kw_nl hc2 (by omega)]; exact nI_nlt (by omega) (by omega)) helem) (va_cwS 2 S.2.2.2.2 gJx4a65c_grow_92f84_J7_copyOf_1904c rfl rfl rfl (by decide +kernel) ⟨Nat.le_of_ble_eq_true rfl, Nat.le_of_ble_eq_true rfl⟩) rfl hl.1 rfl (Nat.le_of_ble_eq_true rfl) dJx4a65c_grow_92f84_37 ⟨Nat.le_of_eq (Nat.zero_add _), Nat.le_of_eq (Nat.zero_add _)⟩ (fun _ => rfl) (fun d2 H locs hd3 hW hS => ?_)
    have n4 : ¬ a = d2 := kw_nb hd3 ha
    have n5 : ¬ d = d2 := kw_nb hd3 hd
    refine lv_dup_x1 S.1 S.2.1 dJx4a65c_grow_92f84_40 rfl rfl ?_
    refine kx_pA S hK hW hS (kw_old hd3 ha) 1 1  rfl iJx4a65c tyJx4a65c_ok nmJx4a65c (by decide) rfl rfl (by decide) (by decide +kernel) (Or.inl rfl) rfl (Or.inr ⟨_, rfl⟩) dJx4a65c_grow_92f84_41 (fun H locs hW hS => ?_)
    refine kw_aret S hr (Or.inr ⟨_, rfl⟩) hlk (v := some d2) hW hS (Nat.le_of_eq (Nat.zero_add _)) (Nat.le_of_eq (Nat.zero_add _)) dJx4a65c_grow_92f84_44 ?_
    refine ⟨d2, hd3, ?_, rfl, ?_⟩ <;> first | rfl | (simp [c1, kw_b, kI_sNew, kJ_sNew, kR_sNew, kN_sNew, kI_sI, kI_sJ, kI_sR, kI_sA, kI_sB, kI_sC, kJ_sI, kJ_sJ, kJ_sR, kJ_sA, kJ_sB, kJ_sC, kR_sI, kR_sJ, kR_sR, kR_sA, kR_sB, kR_sC, kA_sI, kA_sJ, kA_sR, kA_sA, kA_sB, kA_sC, kB_sI, kB_sJ, kB_sR, kB_sA, kB_sB, kB_sC, kC_sI, kC_sJ, kC_sR, kC_sA, kC_sB, kC_sC, kN_sI, kN_sJ, kN_sR, kN_sA, kN_sB, kN_sC, n4, Ne.symm n4, n5, Ne.symm n5]; done)
  · skip
    exact absurd (show (0 : Int32) < nI (kN x d) from nI_lt (a := 0) (b := kN x d) (by omega) (by omega)) (by assumption)
set_option maxHeartbeats 1000000 in
set_option maxRecDepth 100000 in
theorem c_Jx4a65c_grow_d5877_e (l : Launch) (G : kw_G) (nu : Nat → Option Nat) (x : kw_St) (a : Nat) (ha : nu a = some 0) (hd1 : kR x 1 a = some G.2.2.1) (h11 : nu G.2.2.1 = some 11) (hn0 : kN x G.2.2.1 = 0) (hs0 : kI x 2 a = 0) : kw_M l G yJx4a65c_grow_d5877 wsJx4a65c_grow_d5877 { frames := 4, cells := 1, slots := 10, locals := 107 } 1 10 [.ref a] nu x (fun v nu' y => ∃ q, nu q = none ∧ v = some (.ref q) ∧ nu' = va_up nu q (some 10) ∧ y = sR (sNew x q 10) 1 a (some q)) := by
  refine kw_M.ofW (cc := cJx4a65c_grow_d5877) (maxL := 1) (ret := (some (.array (.object "java/lang/Object")))) (by decide) rfl (Nat.le_of_ble_eq_true rfl) ?_
  intro p e s m args below meth c A ls S hr hlk hnm hK hZ hA hW hS hl
  have hl : lv_has ls 1 [(0, .ref a)] := hl
  have iJx4a65c : ∀ w ∈ wsJx4a65c0, w ∈ wsJx4a65c_grow_d5877 := by decide +kernel
  refine lv_aload_n S.1 S.2.1 dJx4a65c_grow_d5877_0 rfl (lv_at hl 0 rfl) ?_
  refine lv_aload_n S.1 S.2.1 dJx4a65c_grow_d5877_1 rfl (lv_at hl 0 rfl) ?_
  refine kx_gI S hK hW ha 2 2 rfl iJx4a65c (by decide) rfl rfl (by decide) (by decide +kernel) dJx4a65c_grow_d5877_2 (v := kI x 2 a) rfl ?_
  refine lv_iconst (v := 1) S.1 S.2.1 dJx4a65c_grow_d5877_5 (by decide) ?_
  refine lv_iadd S.1 S.2.1 dJx4a65c_grow_d5877_6 ?_
  refine kx_dV (post := fun q => (some (.ref q), sR (sNew x q 10) 1 a (some q))) (kq := 10) (As := [.int ((kI x 2 a) + (1))]) (rest := []) (st1 := fun q => [.ref q]) S hK hZ hA hW hS (c_Jx4a65c_grow_92f84_e l G nu x a ((kI x 2 a) + (1)) ha hd1 h11 hn0 (by rw [hs0]; decide)) (cwV 1 S.2.2.2.2 gJx4a65c_grow_d5877_Jx4a65c_grow_92f84 rfl rfl rfl (by decide +kernel) ⟨Nat.le_of_ble_eq_true rfl, Nat.le_of_ble_eq_true rfl⟩) ha (by decide) rfl rfl hl.1 rfl (Nat.le_of_ble_eq_true rfl) dJx4a65c_grow_d5877_7 ⟨by decide, by decide⟩ (fun _ => rfl) (fun d1 H locs hd2 hW hS => ?_)
  have n3 : ¬ a = d1 := kw_nb hd2 ha
  have n4 : ¬ G.2.2.1 = d1 := kw_nb hd2 h11
  refine kw_aret S hr (Or.inr ⟨_, rfl⟩) hlk (v := some d1) hW hS (by decide) (by decide) dJx4a65c_grow_d5877_10 ?_
  refine ⟨d1, hd2, ?_, rfl, ?_⟩ <;> first | rfl | (simp [kw_b, kI_sNew, kJ_sNew, kR_sNew, kN_sNew, kI_sI, kI_sJ, kI_sR, kI_sA, kI_sB, kI_sC, kJ_sI, kJ_sJ, kJ_sR, kJ_sA, kJ_sB, kJ_sC, kR_sI, kR_sJ, kR_sR, kR_sA, kR_sB, kR_sC, kA_sI, kA_sJ, kA_sR, kA_sA, kA_sB, kA_sC, kB_sI, kB_sJ, kB_sR, kB_sA, kB_sB, kB_sC, kC_sI, kC_sJ, kC_sR, kC_sA, kC_sB, kC_sC, kN_sI, kN_sJ, kN_sR, kN_sA, kN_sB, kN_sC, n3, Ne.symm n3, n4, Ne.symm n4]; done)
set_option maxHeartbeats 1000000 in
set_option maxRecDepth 100000 in
theorem c_Jx4a65c_grow_d5877_g (l : Launch) (G : kw_G) (nu : Nat → Option Nat) (x : kw_St) (a : Nat) (d : Nat) (ha : nu a = some 0) (hd : nu d = some 10) (hd1 : kR x 1 a = some d) (hc2 : 2 ≤ kN x d) (hc9 : kN x d ≤ 100000) (helem : ∀ i y, i < kN x d → kC x d i = some y → ∃ r, nu y = some r ∧ (r = 2 ∨ r = 3 ∨ r = 4)) (hs0 : kI x 2 a = nI (kN x d)) : kw_M l G yJx4a65c_grow_d5877 wsJx4a65c_grow_d5877 { frames := 4, cells := 1, slots := kN x d + kN x d / 2, locals := 107 } 1 (kN x d + kN x d / 2) [.ref a] nu x (fun v nu' y => ∃ q, nu q = none ∧ v = some (.ref q) ∧ nu' = va_up nu q (some 10) ∧ y = sR (sCrow (sNew x q (kN x d + kN x d / 2)) q (va_cpy (kC x d) (fun _ => none) 0 0 (kN x d))) 1 a (some q)) := by
  refine kw_M.ofW (cc := cJx4a65c_grow_d5877) (maxL := 1) (ret := (some (.array (.object "java/lang/Object")))) (by decide) rfl (Nat.le_of_ble_eq_true rfl) ?_
  intro p e s m args below meth c A ls S hr hlk hnm hK hZ hA hW hS hl
  have hl : lv_has ls 1 [(0, .ref a)] := hl
  have iJx4a65c : ∀ w ∈ wsJx4a65c0, w ∈ wsJx4a65c_grow_d5877 := by decide +kernel
  refine lv_aload_n S.1 S.2.1 dJx4a65c_grow_d5877_0 rfl (lv_at hl 0 rfl) ?_
  refine lv_aload_n S.1 S.2.1 dJx4a65c_grow_d5877_1 rfl (lv_at hl 0 rfl) ?_
  refine kx_gI S hK hW ha 2 2 rfl iJx4a65c (by decide) rfl rfl (by decide) (by decide +kernel) dJx4a65c_grow_d5877_2 (v := kI x 2 a) rfl ?_
  refine lv_iconst (v := 1) S.1 S.2.1 dJx4a65c_grow_d5877_5 (by decide) ?_
  refine lv_iadd S.1 S.2.1 dJx4a65c_grow_d5877_6 ?_
  refine kx_dV (post := fun q => (some (.ref q), sR (sCrow (sNew x q (kN x d + kN x d / 2)) q (va_cpy (kC x d) (fun _ => none) 0 0 (kN x d))) 1 a (some q))) (kq := 10) (As := [.int ((kI x 2 a) + (1))]) (rest := []) (st1 := fun q => [.ref q]) S hK hZ hA hW hS (c_Jx4a65c_grow_92f84_g l G nu x a ((kI x 2 a) + (1)) d ha hd hd1 hc2 hc9 (by rw [hs0, nI_1]) helem) (cwV 1 S.2.2.2.2 gJx4a65c_grow_d5877_Jx4a65c_grow_92f84 rfl rfl rfl (by decide +kernel) ⟨Nat.le_of_ble_eq_true rfl, Nat.le_of_ble_eq_true rfl⟩) ha (by decide) rfl rfl hl.1 rfl (Nat.le_of_ble_eq_true rfl) dJx4a65c_grow_d5877_7 ⟨Nat.le_of_eq (Nat.zero_add _), Nat.le_of_eq (Nat.zero_add _)⟩ (fun _ => rfl) (fun d1 H locs hd2 hW hS => ?_)
  have n3 : ¬ a = d1 := kw_nb hd2 ha
  have n4 : ¬ d = d1 := kw_nb hd2 hd
  refine kw_aret S hr (Or.inr ⟨_, rfl⟩) hlk (v := some d1) hW hS (Nat.le_of_eq (Nat.zero_add _)) (Nat.le_of_eq (Nat.zero_add _)) dJx4a65c_grow_d5877_10 ?_
  refine ⟨d1, hd2, ?_, rfl, ?_⟩ <;> first | rfl | (simp [kw_b, kI_sNew, kJ_sNew, kR_sNew, kN_sNew, kI_sI, kI_sJ, kI_sR, kI_sA, kI_sB, kI_sC, kJ_sI, kJ_sJ, kJ_sR, kJ_sA, kJ_sB, kJ_sC, kR_sI, kR_sJ, kR_sR, kR_sA, kR_sB, kR_sC, kA_sI, kA_sJ, kA_sR, kA_sA, kA_sB, kA_sC, kB_sI, kB_sJ, kB_sR, kB_sA, kB_sB, kB_sC, kC_sI, kC_sJ, kC_sR, kC_sA, kC_sB, kC_sC, kN_sI, kN_sJ, kN_sR, kN_sA, kN_sB, kN_sC, n3, Ne.symm n3, n4, Ne.symm n4]; done)
set_option maxHeartbeats 1000000 in
set_option maxRecDepth 100000 in
theorem c_Jx4a65c_add_72be8_n (l : Launch) (G : kw_G) (nu : Nat → Option Nat) (x : kw_St) (a : Nat) (el : Nat) (d : Nat) (n : Int32) (r : Nat) (k : Nat) (ha : nu a = some 0) (hel : nu el = some r) (hd : nu d = some 10) (hr4 : r = 2 ∨ r = 3 ∨ r = 4) (hix : kw_ix n k (kN x d)) (hnn : ¬ n = nI (kN x d)) : kw_M l G yJx4a65c_add_72be8 wsJx4a65c_add_72be8 { frames := 5, cells := 0, slots := 0, locals := 127 } 0 0 [.ref a, .ref el, .ref d, .int (n)] nu x (kw_P nu (none) (sI (sC x d k (some el)) 2 a (n + 1))) := by
  refine kw_M.ofW (cc := cJx4a65c_add_72be8) (maxL := 4) (ret := none) (by decide) rfl (Nat.le_of_ble_eq_true rfl) ?_
  intro p e s m args below meth c A ls S hr hlk hnm hK hZ hA hW hS hl
  have hl : lv_has ls 4 [(0, .ref a), (1, .ref el), (2, .ref d), (3, .int (n))] := hl
  have iJx4a65c : ∀ w ∈ wsJx4a65c0, w ∈ wsJx4a65c_add_72be8 := by decide +kernel
  refine lv_iload_n S.1 S.2.1 dJx4a65c_add_72be8_0 rfl (lv_at hl 3 rfl) ?_
  refine lv_aload_n S.1 S.2.1 dJx4a65c_add_72be8_1 rfl (lv_at hl 2 rfl) ?_
  refine kw_alen S hK hW hd (Or.inl rfl) dJx4a65c_add_72be8_2 ?_
  refine lv_icmp_ne (tgt := 11) S.1 S.2.1 dJx4a65c_add_72be8_3 (by decide) (fun c1 => ?_) (fun c1 => ?_)
  · skip
    refine lv_aload_n S.1 S.2.1 dJx4a65c_add_72be8_11 rfl (lv_at hl 2 rfl) ?_
    refine lv_iload_n S.1 S.2.1 dJx4a65c_add_72be8_12 rfl (lv_at hl 3 rfl) ?_
    refine lv_aload_n S.1 S.2.1 dJx4a65c_add_72be8_13 rfl (lv_at hl 1 rfl) ?_
    refine kw_aast S hK hW hS hd hel hr4 (k := k) hix dJx4a65c_add_72be8_14 (fun H locs hW hS => ?_)
    refine lv_aload_n S.1 S.2.1 dJx4a65c_add_72be8_15 rfl (lv_at hl 0 rfl) ?_
    refine lv_iload_n S.1 S.2.1 dJx4a65c_add_72be8_16 rfl (lv_at hl 3 rfl) ?_
    refine lv_iconst (v := 1) S.1 S.2.1 dJx4a65c_add_72be8_17 (by decide) ?_
    refine lv_iadd S.1 S.2.1 dJx4a65c_add_72be8_18 ?_
    refine kx_pI S hK hW hS ha 2 2  rfl iJx4a65c tyJx4a65c_ok nmJx4a65c (by decide) rfl rfl (by decide) (by decide +kernel) (Or.inl rfl) rfl dJx4a65c_add_72be8_19 (fun H locs hW hS => ?_)
    refine kw_vret S hr hlk hW hS (by decide) (by decide) dJx4a65c_add_72be8_22 ?_
    refine ⟨?_, rfl, ?_⟩ <;> first | rfl | (simp [c1, kw_b]; done) | (simp [c1, kw_b, kI_sNew, kJ_sNew, kR_sNew, kN_sNew, kI_sI, kI_sJ, kI_sR, kI_sA, kI_sB, kI_sC, kJ_sI, kJ_sJ, kJ_sR, kJ_sA, kJ_sB, kJ_sC, kR_sI, kR_sJ, kR_sR, kR_sA, kR_sB, kR_sC, kA_sI, kA_sJ, kA_sR, kA_sA, kA_sB, kA_sC, kB_sI, kB_sJ, kB_sR, kB_sA, kB_sB, kB_sC, kC_sI, kC_sJ, kC_sR, kC_sA, kC_sB, kC_sC, kN_sI, kN_sJ, kN_sR, kN_sA, kN_sB, kN_sC]; done)
  · skip
    exact absurd (by first | assumption | exact Classical.not_not.mp (by assumption)) hnn
set_option maxHeartbeats 1000000 in
set_option maxRecDepth 100000 in
theorem c_Jx4a65c_add_72be8_e (l : Launch) (G : kw_G) (nu : Nat → Option Nat) (x : kw_St) (a : Nat) (el : Nat) (d : Nat) (n : Int32) (r : Nat) (ha : nu a = some 0) (hel : nu el = some r) (hr4 : r = 2 ∨ r = 3 ∨ r = 4) (hd0 : d = G.2.2.1) (hd1 : kR x 1 a = some G.2.2.1) (h11 : nu G.2.2.1 = some 11) (hn0 : kN x G.2.2.1 = 0) (hs0 : kI x 2 a = 0) (hnn : n = 0) : kw_M l G yJx4a65c_add_72be8 wsJx4a65c_add_72be8 { frames := 5, cells := 1, slots := 10, locals := 127 } 1 10 [.ref a, .ref el, .ref d, .int (n)] nu x (fun v nu' y => ∃ q, nu q = none ∧ v = none ∧ nu' = va_up nu q (some 10) ∧ y = sI (sC (sR (sNew x q 10) 1 a (some q)) q 0 (some el)) 2 a 1) := by
  refine kw_M.ofW (cc := cJx4a65c_add_72be8) (maxL := 4) (ret := none) (by decide) rfl (Nat.le_of_ble_eq_true rfl) ?_
  intro p e s m args below meth c A ls S hr hlk hnm hK hZ hA hW hS hl
  have hl : lv_has ls 4 [(0, .ref a), (1, .ref el), (2, .ref d), (3, .int (n))] := hl
  have iJx4a65c : ∀ w ∈ wsJx4a65c0, w ∈ wsJx4a65c_add_72be8 := by decide +kernel
  refine lv_iload_n S.1 S.2.1 dJx4a65c_add_72be8_0 rfl (lv_at hl 3 rfl) ?_
  refine lv_aload_n S.1 S.2.1 dJx4a65c_add_72be8_1 rfl (lv_at hl 2 rfl) ?_
  refine kw_alen S hK hW (hd0 ▸ h11) (Or.inr rfl) dJx4a65c_add_72be8_2 ?_
  refine lv_icmp_ne (tgt := 11) S.1 S.2.1 dJx4a65c_add_72be8_3 (by decide) (fun c1 => ?_) (fun c1 => ?_)
  · skip
    exact absurd (by rw [hnn, hd0, hn0]; rfl) c1
  · skip
    refine lv_aload_n S.1 S.2.1 dJx4a65c_add_72be8_6 rfl (lv_at hl 0 rfl) ?_
    refine kx_dV (post := fun q => (some (.ref q), sR (sNew x q 10) 1 a (some q))) (kq := 10) (As := []) (rest := []) (st1 := fun q => [.ref q]) S hK hZ hA hW hS (c_Jx4a65c_grow_d5877_e l G nu x a ha hd1 h11 hn0 hs0) (cwV 0 S.2.2.2.2 gJx4a65c_add_72be8_Jx4a65c_grow_d5877 rfl rfl rfl (by decide +kernel) ⟨Nat.le_of_ble_eq_true rfl, Nat.le_of_ble_eq_true rfl⟩) ha (by decide) rfl rfl hl.1 rfl (Nat.le_of_ble_eq_true rfl) dJx4a65c_add_72be8_7 ⟨by decide, by decide⟩ (fun _ => rfl) (fun d2 H locs hd3 hW hS => ?_)
    have n4 : ¬ a = d2 := kw_nb hd3 ha
    have n5 : ¬ el = d2 := kw_nb hd3 hel
    have n6 : ¬ d = d2 := kw_nb hd3 ((hd0 ▸ h11))
    have n7 : ¬ G.2.2.1 = d2 := kw_nb hd3 h11
    refine lv_astore_n (lv' := [(2, .ref d2), (0, .ref a), (1, .ref el), (3, .int (n))]) S.1 S.2.1 dJx4a65c_add_72be8_10 rfl hl (by decide) rfl (fun ls hl => ?_)
    refine lv_aload_n S.1 S.2.1 dJx4a65c_add_72be8_11 rfl (lv_at hl 0 rfl) ?_
    refine lv_iload_n S.1 S.2.1 dJx4a65c_add_72be8_12 rfl (lv_at hl 3 rfl) ?_
    refine lv_aload_n S.1 S.2.1 dJx4a65c_add_72be8_13 rfl (lv_at hl 2 rfl) ?_
    refine kw_aast S hK hW hS (va_up_self _ _ _) (kw_old hd3 hel) hr4 (k := 0) (by rw [hnn]; simp [kI_sNew, kJ_sNew, kR_sNew, kN_sNew, kI_sI, kI_sJ, kI_sR, kI_sA, kI_sB, kI_sC, kJ_sI, kJ_sJ, kJ_sR, kJ_sA, kJ_sB, kJ_sC, kR_sI, kR_sJ, kR_sR, kR_sA, kR_sB, kR_sC, kA_sI, kA_sJ, kA_sR, kA_sA, kA_sB, kA_sC, kB_sI, kB_sJ, kB_sR, kB_sA, kB_sB, kB_sC, kC_sI, kC_sJ, kC_sR, kC_sA, kC_sB, kC_sC, kN_sI, kN_sJ, kN_sR, kN_sA, kN_sB, kN_sC]; exact kw_ix.nI (k := 0) (n := 10) (by decide) (by decide)) dJx4a65c_add_72be8_14 (fun H locs hW hS => ?_)
    refine lv_aload_n S.1 S.2.1 dJx4a65c_add_72be8_15 rfl (lv_at hl 1 rfl) ?_
    refine lv_iload_n S.1 S.2.1 dJx4a65c_add_72be8_16 rfl (lv_at hl 3 rfl) ?_
    refine lv_iconst (v := 1) S.1 S.2.1 dJx4a65c_add_72be8_17 (by decide) ?_
    refine lv_iadd S.1 S.2.1 dJx4a65c_add_72be8_18 ?_
    refine kx_pI S hK hW hS (kw_old hd3 ha) 2 2  rfl iJx4a65c tyJx4a65c_ok nmJx4a65c (by decide) rfl rfl (by decide) (by decide +kernel) (Or.inl rfl) rfl dJx4a65c_add_72be8_19 (fun H locs hW hS => ?_)
    refine kw_vret S hr hlk hW hS (by decide) (by decide) dJx4a65c_add_72be8_22 ?_
    refine ⟨d2, hd3, ?_, rfl, ?_⟩ <;> first | rfl | (simp [hnn, kw_b, kI_sNew, kJ_sNew, kR_sNew, kN_sNew, kI_sI, kI_sJ, kI_sR, kI_sA, kI_sB, kI_sC, kJ_sI, kJ_sJ, kJ_sR, kJ_sA, kJ_sB, kJ_sC, kR_sI, kR_sJ, kR_sR, kR_sA, kR_sB, kR_sC, kA_sI, kA_sJ, kA_sR, kA_sA, kA_sB, kA_sC, kB_sI, kB_sJ, kB_sR, kB_sA, kB_sB, kB_sC, kC_sI, kC_sJ, kC_sR, kC_sA, kC_sB, kC_sC, kN_sI, kN_sJ, kN_sR, kN_sA, kN_sB, kN_sC, n4, Ne.symm n4, n5, Ne.symm n5, n6, Ne.symm n6, n7, Ne.symm n7]; done)
set_option maxHeartbeats 1000000 in
set_option maxRecDepth 100000 in
theorem c_Jx4a65c_add_72be8_g (l : Launch) (G : kw_G) (nu : Nat → Option Nat) (x : kw_St) (a : Nat) (el : Nat) (d : Nat) (n : Int32) (r : Nat) (ha : nu a = some 0) (hel : nu el = some r) (hd : nu d = some 10) (hr4 : r = 2 ∨ r = 3 ∨ r = 4) (hd1 : kR x 1 a = some d) (hc2 : 2 ≤ kN x d) (hc9 : kN x d ≤ 100000) (helem : ∀ i y, i < kN x d → kC x d i = some y → ∃ r, nu y = some r ∧ (r = 2 ∨ r = 3 ∨ r = 4)) (hs0 : kI x 2 a = nI (kN x d)) (hnn : n = nI (kN x d)) : kw_M l G yJx4a65c_add_72be8 wsJx4a65c_add_72be8 { frames := 5, cells := 1, slots := kN x d + kN x d / 2, locals := 127 } 1 (kN x d + kN x d / 2) [.ref a, .ref el, .ref d, .int (n)] nu x (fun v nu' y => ∃ q, nu q = none ∧ v = none ∧ nu' = va_up nu q (some 10) ∧ y = sI (sC (sR (sCrow (sNew x q (kN x d + kN x d / 2)) q (va_cpy (kC x d) (fun _ => none) 0 0 (kN x d))) 1 a (some q)) q (kN x d) (some el)) 2 a (n + 1)) := by
  refine kw_M.ofW (cc := cJx4a65c_add_72be8) (maxL := 4) (ret := none) (by decide) rfl (Nat.le_of_ble_eq_true rfl) ?_
  intro p e s m args below meth c A ls S hr hlk hnm hK hZ hA hW hS hl
  have hl : lv_has ls 4 [(0, .ref a), (1, .ref el), (2, .ref d), (3, .int (n))] := hl
  have iJx4a65c : ∀ w ∈ wsJx4a65c0, w ∈ wsJx4a65c_add_72be8 := by decide +kernel
  refine lv_iload_n S.1 S.2.1 dJx4a65c_add_72be8_0 rfl (lv_at hl 3 rfl) ?_
  refine lv_aload_n S.1 S.2.1 dJx4a65c_add_72be8_1 rfl (lv_at hl 2 rfl) ?_
  refine kw_alen S hK hW hd (Or.inl rfl) dJx4a65c_add_72be8_2 ?_
  refine lv_icmp_ne (tgt := 11) S.1 S.2.1 dJx4a65c_add_72be8_3 (by decide) (fun c1 => ?_) (fun c1 => ?_)
  · skip
    exact absurd hnn c1
  · skip
    refine lv_aload_n S.1 S.2.1 dJx4a65c_add_72be8_6 rfl (lv_at hl 0 rfl) ?_
    refine kx_dV (post := fun q => (some (.ref q), sR (sCrow (sNew x q (kN x d + kN x d / 2)) q (va_cpy (kC x d) (fun _ => none) 0 0 (kN x d))) 1 a (some q))) (kq := 10) (As := []) (rest := []) (st1 := fun q => [.ref q]) S hK hZ hA hW hS (c_Jx4a65c_grow_d5877_g l G nu x a d ha hd hd1 hc2 hc9 helem hs0) (cwV 0 S.2.2.2.2 gJx4a65c_add_72be8_Jx4a65c_grow_d5877 rfl rfl rfl (by decide +kernel) ⟨Nat.le_of_ble_eq_true rfl, Nat.le_of_ble_eq_true rfl⟩) ha (by decide) rfl rfl hl.1 rfl (Nat.le_of_ble_eq_true rfl) dJx4a65c_add_72be8_7 ⟨Nat.le_of_eq (Nat.zero_add _), Nat.le_of_eq (Nat.zero_add _)⟩ (fun _ => rfl) (fun d2 H locs hd3 hW hS => ?_)
    have n4 : ¬ a = d2 := kw_nb hd3 ha
    have n5 : ¬ el = d2 := kw_nb hd3 hel
    have n6 : ¬ d = d2 := kw_nb hd3 hd
    refine lv_astore_n (lv' := [(2, .ref d2), (0, .ref a), (1, .ref el), (3, .int (n))]) S.1 S.2.1 dJx4a65c_add_72be8_10 rfl hl (by decide) rfl (fun ls hl => ?_)
    refine lv_aload_n S.1 S.2.1 dJx4a65c_add_72be8_11 rfl (lv_at hl 0 rfl) ?_
    refine lv_iload_n S.1 S.2.1 dJx4a65c_add_72be8_12 rfl (lv_at hl 3 rfl) ?_
    refine lv_aload_n S.1 S.2.1 dJx4a65c_add_72be8_13 rfl (lv_at hl 2 rfl) ?_
    refine kw_aast S hK hW hS (va_up_self _ _ _) (kw_old hd3 hel) hr4 (k := (kN x d)) (by rw [hnn]; simp [kI_sNew, kJ_sNew, kR_sNew, kN_sNew, kI_sI, kI_sJ, kI_sR, kI_sA, kI_sB, kI_sC, kJ_sI, kJ_sJ, kJ_sR, kJ_sA, kJ_sB, kJ_sC, kR_sI, kR_sJ, kR_sR, kR_sA, kR_sB, kR_sC, kA_sI, kA_sJ, kA_sR, kA_sA, kA_sB, kA_sC, kB_sI, kB_sJ, kB_sR, kB_sA, kB_sB, kB_sC, kC_sI, kC_sJ, kC_sR, kC_sA, kC_sB, kC_sC, kN_sI, kN_sJ, kN_sR, kN_sA, kN_sB, kN_sC, kN_sCrow, kI_sCrow, kR_sCrow, kC_sCrow]; exact kw_ix.nI (by omega) (by omega)) dJx4a65c_add_72be8_14 (fun H locs hW hS => ?_)
    refine lv_aload_n S.1 S.2.1 dJx4a65c_add_72be8_15 rfl (lv_at hl 1 rfl) ?_
    refine lv_iload_n S.1 S.2.1 dJx4a65c_add_72be8_16 rfl (lv_at hl 3 rfl) ?_
    refine lv_iconst (v := 1) S.1 S.2.1 dJx4a65c_add_72be8_17 (by decide) ?_
    refine lv_iadd S.1 S.2.1 dJx4a65c_add_72be8_18 ?_
    refine kx_pI S hK hW hS (kw_old hd3 ha) 2 2  rfl iJx4a65c tyJx4a65c_ok nmJx4a65c (by decide) rfl rfl (by decide) (by decide +kernel) (Or.inl rfl) rfl dJx4a65c_add_72be8_19 (fun H locs hW hS => ?_)
    refine kw_vret S hr hlk hW hS (Nat.le_of_eq (Nat.zero_add _)) (Nat.le_of_eq (Nat.zero_add _)) dJx4a65c_add_72be8_22 ?_
    refine ⟨d2, hd3, ?_, rfl, ?_⟩ <;> first | rfl | (simp [eq_true c1, kw_b, kI_sNew, kJ_sNew, kR_sNew, kN_sNew, kI_sI, kI_sJ, kI_sR, kI_sA, kI_sB, kI_sC, kJ_sI, kJ_sJ, kJ_sR, kJ_sA, kJ_sB, kJ_sC, kR_sI, kR_sJ, kR_sR, kR_sA, kR_sB, kR_sC, kA_sI, kA_sJ, kA_sR, kA_sA, kA_sB, kA_sC, kB_sI, kB_sJ, kB_sR, kB_sA, kB_sB, kB_sC, kC_sI, kC_sJ, kC_sR, kC_sA, kC_sB, kC_sC, kN_sI, kN_sJ, kN_sR, kN_sA, kN_sB, kN_sC, n4, Ne.symm n4, n5, Ne.symm n5, n6, Ne.symm n6]; done)
set_option maxHeartbeats 1000000 in
set_option maxRecDepth 100000 in
theorem c_Jx4a65c_add_9ea2d_n (l : Launch) (G : kw_G) (nu : Nat → Option Nat) (x : kw_St) (a : Nat) (el : Nat) (r : Nat) (d : Nat) (k : Nat) (ha : nu a = some 0) (hel : nu el = some r) (hd : nu d = some 10) (hr4 : r = 2 ∨ r = 3 ∨ r = 4) (hd1 : kR x 1 a = some d) (hix : kw_ix (kI x 2 a) k (kN x d)) (hnn : ¬ kI x 2 a = nI (kN x d)) : kw_M l G yJx4a65c_add_9ea2d wsJx4a65c_add_9ea2d { frames := 6, cells := 0, slots := 0, locals := 150 } 0 0 [.ref a, .ref el] nu x (kw_P nu (some (.int (1))) (sI (sC (sI x 0 a (kI x 0 a + 1)) d k (some el)) 2 a (kI x 2 a + 1))) := by
  refine kw_M.ofW (cc := cJx4a65c_add_9ea2d) (maxL := 2) (ret := (some .boolean)) (by decide) rfl (Nat.le_of_ble_eq_true rfl) ?_
  intro p e s m args below meth c A ls S hr hlk hnm hK hZ hA hW hS hl
  have hl : lv_has ls 2 [(0, .ref a), (1, .ref el)] := hl
  have iJx4a65c : ∀ w ∈ wsJx4a65c0, w ∈ wsJx4a65c_add_9ea2d := by decide +kernel
  refine lv_aload_n S.1 S.2.1 dJx4a65c_add_9ea2d_0 rfl (lv_at hl 0 rfl) ?_
  refine lv_dup S.1 S.2.1 dJx4a65c_add_9ea2d_1 rfl ?_
  refine kx_gIr (ref := "java/util/ArrayList") S hK hW ha 0 0 rfl iJx4a65c (by decide) rfl rfl (by decide) (by decide +kernel) (by decide +kernel) dJx4a65c_add_9ea2d_2 (v := kI x 0 a) rfl ?_
  refine lv_iconst (v := 1) S.1 S.2.1 dJx4a65c_add_9ea2d_5 (by decide) ?_
  refine lv_iadd S.1 S.2.1 dJx4a65c_add_9ea2d_6 ?_
  refine kx_pIr (ref := "java/util/ArrayList") S hK hW hS ha 0 0 rfl iJx4a65c tyJx4a65c_ok nmJx4a65c (by decide) rfl rfl (by decide) (by decide +kernel) (by decide +kernel) rfl rfl dJx4a65c_add_9ea2d_7 (fun H locs hW hS => ?_)
  refine lv_aload_n S.1 S.2.1 dJx4a65c_add_9ea2d_10 rfl (lv_at hl 0 rfl) ?_
  refine lv_aload_n S.1 S.2.1 dJx4a65c_add_9ea2d_11 rfl (lv_at hl 1 rfl) ?_
  refine lv_aload_n S.1 S.2.1 dJx4a65c_add_9ea2d_12 rfl (lv_at hl 0 rfl) ?_
  refine kx_gA S hK hW ha 1 1 rfl iJx4a65c (by decide) rfl rfl (by decide) (by decide +kernel) dJx4a65c_add_9ea2d_13 (b := d) (by rw [show kR (sI x 0 a ((kI x 0 a) + (1))) 1 a = kR x 1 a from (by simp [kI_sNew, kJ_sNew, kR_sNew, kN_sNew, kI_sI, kI_sJ, kI_sR, kI_sA, kI_sB, kI_sC, kJ_sI, kJ_sJ, kJ_sR, kJ_sA, kJ_sB, kJ_sC, kR_sI, kR_sJ, kR_sR, kR_sA, kR_sB, kR_sC, kA_sI, kA_sJ, kA_sR, kA_sA, kA_sB, kA_sC, kB_sI, kB_sJ, kB_sR, kB_sA, kB_sB, kB_sC, kC_sI, kC_sJ, kC_sR, kC_sA, kC_sB, kC_sC, kN_sI, kN_sJ, kN_sR, kN_sA, kN_sB, kN_sC])]; exact hd1) ?_
  refine lv_aload_n S.1 S.2.1 dJx4a65c_add_9ea2d_16 rfl (lv_at hl 0 rfl) ?_
  refine kx_gI S hK hW ha 2 2 rfl iJx4a65c (by decide) rfl rfl (by decide) (by decide +kernel) dJx4a65c_add_9ea2d_17 (v := kI x 2 a) (by simp [kI_sNew, kJ_sNew, kR_sNew, kN_sNew, kI_sI, kI_sJ, kI_sR, kI_sA, kI_sB, kI_sC, kJ_sI, kJ_sJ, kJ_sR, kJ_sA, kJ_sB, kJ_sC, kR_sI, kR_sJ, kR_sR, kR_sA, kR_sB, kR_sC, kA_sI, kA_sJ, kA_sR, kA_sA, kA_sB, kA_sC, kB_sI, kB_sJ, kB_sR, kB_sA, kB_sB, kB_sC, kC_sI, kC_sJ, kC_sR, kC_sA, kC_sB, kC_sC, kN_sI, kN_sJ, kN_sR, kN_sA, kN_sB, kN_sC]) ?_
  refine kx_cV (As := [.ref el, .ref d, .int (kI x 2 a)]) (rest := []) (st1 := []) S hK hZ hA hW hS (c_Jx4a65c_add_72be8_n l G nu (sI x 0 a ((kI x 0 a) + (1))) a el d (kI x 2 a) r k ha hel hd (by simpa [kI_sNew, kJ_sNew, kR_sNew, kN_sNew, kI_sI, kI_sJ, kI_sR, kI_sA, kI_sB, kI_sC, kJ_sI, kJ_sJ, kJ_sR, kJ_sA, kJ_sB, kJ_sC, kR_sI, kR_sJ, kR_sR, kR_sA, kR_sB, kR_sC, kA_sI, kA_sJ, kA_sR, kA_sA, kA_sB, kA_sC, kB_sI, kB_sJ, kB_sR, kB_sA, kB_sB, kB_sC, kC_sI, kC_sJ, kC_sR, kC_sA, kC_sB, kC_sC, kN_sI, kN_sJ, kN_sR, kN_sA, kN_sB, kN_sC] using hr4) (by simpa [kI_sNew, kJ_sNew, kR_sNew, kN_sNew, kI_sI, kI_sJ, kI_sR, kI_sA, kI_sB, kI_sC, kJ_sI, kJ_sJ, kJ_sR, kJ_sA, kJ_sB, kJ_sC, kR_sI, kR_sJ, kR_sR, kR_sA, kR_sB, kR_sC, kA_sI, kA_sJ, kA_sR, kA_sA, kA_sB, kA_sC, kB_sI, kB_sJ, kB_sR, kB_sA, kB_sB, kB_sC, kC_sI, kC_sJ, kC_sR, kC_sA, kC_sB, kC_sC, kN_sI, kN_sJ, kN_sR, kN_sA, kN_sB, kN_sC] using hix) (by simpa [kI_sNew, kJ_sNew, kR_sNew, kN_sNew, kI_sI, kI_sJ, kI_sR, kI_sA, kI_sB, kI_sC, kJ_sI, kJ_sJ, kJ_sR, kJ_sA, kJ_sB, kJ_sC, kR_sI, kR_sJ, kR_sR, kR_sA, kR_sB, kR_sC, kA_sI, kA_sJ, kA_sR, kA_sA, kA_sB, kA_sC, kB_sI, kB_sJ, kB_sR, kB_sA, kB_sB, kB_sC, kC_sI, kC_sJ, kC_sR, kC_sA, kC_sB, kC_sC, kN_sI, kN_sJ, kN_sR, kN_sA, kN_sB, kN_sC] using hnn)) (cwV 3 S.2.2.2.2 gJx4a65c_add_9ea2d_Jx4a65c_add_72be8 rfl rfl rfl (by decide +kernel) ⟨Nat.le_of_ble_eq_true rfl, Nat.le_of_ble_eq_true rfl⟩) ha (by decide) rfl rfl hl.1 rfl (Nat.le_of_ble_eq_true rfl) dJx4a65c_add_9ea2d_20 ⟨Nat.le_of_ble_eq_true rfl, Nat.le_of_ble_eq_true rfl⟩ rfl (fun H locs hW hS => ?_)
  refine lv_iconst (v := 1) S.1 S.2.1 dJx4a65c_add_9ea2d_23 (by decide) ?_
  refine kw_zret S hr hlk hW hS (by decide) (by decide) dJx4a65c_add_9ea2d_24 kw_n1 ?_
  refine ⟨?_, rfl, ?_⟩ <;> first | rfl | (simp [kw_b]; done) | (simp [kw_b, kI_sNew, kJ_sNew, kR_sNew, kN_sNew, kI_sI, kI_sJ, kI_sR, kI_sA, kI_sB, kI_sC, kJ_sI, kJ_sJ, kJ_sR, kJ_sA, kJ_sB, kJ_sC, kR_sI, kR_sJ, kR_sR, kR_sA, kR_sB, kR_sC, kA_sI, kA_sJ, kA_sR, kA_sA, kA_sB, kA_sC, kB_sI, kB_sJ, kB_sR, kB_sA, kB_sB, kB_sC, kC_sI, kC_sJ, kC_sR, kC_sA, kC_sB, kC_sC, kN_sI, kN_sJ, kN_sR, kN_sA, kN_sB, kN_sC]; done)
set_option maxHeartbeats 1000000 in
set_option maxRecDepth 100000 in
theorem c_Jx4a65c_add_9ea2d_e (l : Launch) (G : kw_G) (nu : Nat → Option Nat) (x : kw_St) (a : Nat) (el : Nat) (r : Nat) (ha : nu a = some 0) (hel : nu el = some r) (hr4 : r = 2 ∨ r = 3 ∨ r = 4) (hd1 : kR x 1 a = some G.2.2.1) (h11 : nu G.2.2.1 = some 11) (hn0 : kN x G.2.2.1 = 0) (hs0 : kI x 2 a = 0) : kw_M l G yJx4a65c_add_9ea2d wsJx4a65c_add_9ea2d { frames := 6, cells := 1, slots := 10, locals := 150 } 1 10 [.ref a, .ref el] nu x (fun v nu' y => ∃ q, nu q = none ∧ v = some (.int (1)) ∧ nu' = va_up nu q (some 10) ∧ y = sI (sC (sR (sNew (sI x 0 a (kI x 0 a + 1)) q 10) 1 a (some q)) q 0 (some el)) 2 a 1) := by
  refine kw_M.ofW (cc := cJx4a65c_add_9ea2d) (maxL := 2) (ret := (some .boolean)) (by decide) rfl (Nat.le_of_ble_eq_true rfl) ?_
  intro p e s m args below meth c A ls S hr hlk hnm hK hZ hA hW hS hl
  have hl : lv_has ls 2 [(0, .ref a), (1, .ref el)] := hl
  have iJx4a65c : ∀ w ∈ wsJx4a65c0, w ∈ wsJx4a65c_add_9ea2d := by decide +kernel
  refine lv_aload_n S.1 S.2.1 dJx4a65c_add_9ea2d_0 rfl (lv_at hl 0 rfl) ?_
  refine lv_dup S.1 S.2.1 dJx4a65c_add_9ea2d_1 rfl ?_
  refine kx_gIr (ref := "java/util/ArrayList") S hK hW ha 0 0 rfl iJx4a65c (by decide) rfl rfl (by decide) (by decide +kernel) (by decide +kernel) dJx4a65c_add_9ea2d_2 (v := kI x 0 a) rfl ?_
  refine lv_iconst (v := 1) S.1 S.2.1 dJx4a65c_add_9ea2d_5 (by decide) ?_
  refine lv_iadd S.1 S.2.1 dJx4a65c_add_9ea2d_6 ?_
  refine kx_pIr (ref := "java/util/ArrayList") S hK hW hS ha 0 0 rfl iJx4a65c tyJx4a65c_ok nmJx4a65c (by decide) rfl rfl (by decide) (by decide +kernel) (by decide +kernel) rfl rfl dJx4a65c_add_9ea2d_7 (fun H locs hW hS => ?_)
  refine lv_aload_n S.1 S.2.1 dJx4a65c_add_9ea2d_10 rfl (lv_at hl 0 rfl) ?_
  refine lv_aload_n S.1 S.2.1 dJx4a65c_add_9ea2d_11 rfl (lv_at hl 1 rfl) ?_
  refine lv_aload_n S.1 S.2.1 dJx4a65c_add_9ea2d_12 rfl (lv_at hl 0 rfl) ?_
  refine kx_gA S hK hW ha 1 1 rfl iJx4a65c (by decide) rfl rfl (by decide) (by decide +kernel) dJx4a65c_add_9ea2d_13 (b := G.2.2.1) (by rw [show kR (sI x 0 a ((kI x 0 a) + (1))) 1 a = kR x 1 a from (by simp [kI_sNew, kJ_sNew, kR_sNew, kN_sNew, kI_sI, kI_sJ, kI_sR, kI_sA, kI_sB, kI_sC, kJ_sI, kJ_sJ, kJ_sR, kJ_sA, kJ_sB, kJ_sC, kR_sI, kR_sJ, kR_sR, kR_sA, kR_sB, kR_sC, kA_sI, kA_sJ, kA_sR, kA_sA, kA_sB, kA_sC, kB_sI, kB_sJ, kB_sR, kB_sA, kB_sB, kB_sC, kC_sI, kC_sJ, kC_sR, kC_sA, kC_sB, kC_sC, kN_sI, kN_sJ, kN_sR, kN_sA, kN_sB, kN_sC])]; exact hd1) ?_
  refine lv_aload_n S.1 S.2.1 dJx4a65c_add_9ea2d_16 rfl (lv_at hl 0 rfl) ?_
  refine kx_gI S hK hW ha 2 2 rfl iJx4a65c (by decide) rfl rfl (by decide) (by decide +kernel) dJx4a65c_add_9ea2d_17 (v := kI x 2 a) (by simp [kI_sNew, kJ_sNew, kR_sNew, kN_sNew, kI_sI, kI_sJ, kI_sR, kI_sA, kI_sB, kI_sC, kJ_sI, kJ_sJ, kJ_sR, kJ_sA, kJ_sB, kJ_sC, kR_sI, kR_sJ, kR_sR, kR_sA, kR_sB, kR_sC, kA_sI, kA_sJ, kA_sR, kA_sA, kA_sB, kA_sC, kB_sI, kB_sJ, kB_sR, kB_sA, kB_sB, kB_sC, kC_sI, kC_sJ, kC_sR, kC_sA, kC_sB, kC_sC, kN_sI, kN_sJ, kN_sR, kN_sA, kN_sB, kN_sC]) ?_
  refine kx_dV (post := fun q => (none, sI (sC (sR (sNew (sI x 0 a ((kI x 0 a) + (1))) q 10) 1 a (some q)) q 0 (some el)) 2 a 1)) (kq := 10) (As := [.ref el, .ref G.2.2.1, .int (kI x 2 a)]) (rest := []) (st1 := fun q => []) S hK hZ hA hW hS (c_Jx4a65c_add_72be8_e l G nu (sI x 0 a ((kI x 0 a) + (1))) a el (G.2.2.1) (kI x 2 a) r ha hel (by simpa [kI_sNew, kJ_sNew, kR_sNew, kN_sNew, kI_sI, kI_sJ, kI_sR, kI_sA, kI_sB, kI_sC, kJ_sI, kJ_sJ, kJ_sR, kJ_sA, kJ_sB, kJ_sC, kR_sI, kR_sJ, kR_sR, kR_sA, kR_sB, kR_sC, kA_sI, kA_sJ, kA_sR, kA_sA, kA_sB, kA_sC, kB_sI, kB_sJ, kB_sR, kB_sA, kB_sB, kB_sC, kC_sI, kC_sJ, kC_sR, kC_sA, kC_sB, kC_sC, kN_sI, kN_sJ, kN_sR, kN_sA, kN_sB, kN_sC] using hr4) rfl (by simpa [kI_sNew, kJ_sNew, kR_sNew, kN_sNew, kI_sI, kI_sJ, kI_sR, kI_sA, kI_sB, kI_sC, kJ_sI, kJ_sJ, kJ_sR, kJ_sA, kJ_sB, kJ_sC, kR_sI, kR_sJ, kR_sR, kR_sA, kR_sB, kR_sC, kA_sI, kA_sJ, kA_sR, kA_sA, kA_sB, kA_sC, kB_sI, kB_sJ, kB_sR, kB_sA, kB_sB, kB_sC, kC_sI, kC_sJ, kC_sR, kC_sA, kC_sB, kC_sC, kN_sI, kN_sJ, kN_sR, kN_sA, kN_sB, kN_sC] using hd1) (by simpa [kI_sNew, kJ_sNew, kR_sNew, kN_sNew, kI_sI, kI_sJ, kI_sR, kI_sA, kI_sB, kI_sC, kJ_sI, kJ_sJ, kJ_sR, kJ_sA, kJ_sB, kJ_sC, kR_sI, kR_sJ, kR_sR, kR_sA, kR_sB, kR_sC, kA_sI, kA_sJ, kA_sR, kA_sA, kA_sB, kA_sC, kB_sI, kB_sJ, kB_sR, kB_sA, kB_sB, kB_sC, kC_sI, kC_sJ, kC_sR, kC_sA, kC_sB, kC_sC, kN_sI, kN_sJ, kN_sR, kN_sA, kN_sB, kN_sC] using h11) (by simpa [kI_sNew, kJ_sNew, kR_sNew, kN_sNew, kI_sI, kI_sJ, kI_sR, kI_sA, kI_sB, kI_sC, kJ_sI, kJ_sJ, kJ_sR, kJ_sA, kJ_sB, kJ_sC, kR_sI, kR_sJ, kR_sR, kR_sA, kR_sB, kR_sC, kA_sI, kA_sJ, kA_sR, kA_sA, kA_sB, kA_sC, kB_sI, kB_sJ, kB_sR, kB_sA, kB_sB, kB_sC, kC_sI, kC_sJ, kC_sR, kC_sA, kC_sB, kC_sC, kN_sI, kN_sJ, kN_sR, kN_sA, kN_sB, kN_sC] using hn0) (by simpa [kI_sNew, kJ_sNew, kR_sNew, kN_sNew, kI_sI, kI_sJ, kI_sR, kI_sA, kI_sB, kI_sC, kJ_sI, kJ_sJ, kJ_sR, kJ_sA, kJ_sB, kJ_sC, kR_sI, kR_sJ, kR_sR, kR_sA, kR_sB, kR_sC, kA_sI, kA_sJ, kA_sR, kA_sA, kA_sB, kA_sC, kB_sI, kB_sJ, kB_sR, kB_sA, kB_sB, kB_sC, kC_sI, kC_sJ, kC_sR, kC_sA, kC_sB, kC_sC, kN_sI, kN_sJ, kN_sR, kN_sA, kN_sB, kN_sC] using hs0) hs0) (cwV 3 S.2.2.2.2 gJx4a65c_add_9ea2d_Jx4a65c_add_72be8 rfl rfl rfl (by decide +kernel) ⟨Nat.le_of_ble_eq_true rfl, Nat.le_of_ble_eq_true rfl⟩) ha (by decide) rfl rfl hl.1 rfl (Nat.le_of_ble_eq_true rfl) dJx4a65c_add_9ea2d_20 ⟨by decide, by decide⟩ (fun _ => rfl) (fun d1 H locs hd2 hW hS => ?_)
  have n3 : ¬ a = d1 := kw_nb hd2 ha
  have n4 : ¬ el = d1 := kw_nb hd2 hel
  have n5 : ¬ G.2.2.1 = d1 := kw_nb hd2 h11
  refine lv_iconst (v := 1) S.1 S.2.1 dJx4a65c_add_9ea2d_23 (by decide) ?_
  refine kw_zret S hr hlk hW hS (by decide) (by decide) dJx4a65c_add_9ea2d_24 kw_n1 ?_
  refine ⟨d1, hd2, ?_, rfl, ?_⟩ <;> first | rfl | (simp [kw_b, kI_sNew, kJ_sNew, kR_sNew, kN_sNew, kI_sI, kI_sJ, kI_sR, kI_sA, kI_sB, kI_sC, kJ_sI, kJ_sJ, kJ_sR, kJ_sA, kJ_sB, kJ_sC, kR_sI, kR_sJ, kR_sR, kR_sA, kR_sB, kR_sC, kA_sI, kA_sJ, kA_sR, kA_sA, kA_sB, kA_sC, kB_sI, kB_sJ, kB_sR, kB_sA, kB_sB, kB_sC, kC_sI, kC_sJ, kC_sR, kC_sA, kC_sB, kC_sC, kN_sI, kN_sJ, kN_sR, kN_sA, kN_sB, kN_sC, n3, Ne.symm n3, n4, Ne.symm n4, n5, Ne.symm n5]; done)
set_option maxHeartbeats 1000000 in
set_option maxRecDepth 100000 in
theorem c_Jx4a65c_add_9ea2d_g (l : Launch) (G : kw_G) (nu : Nat → Option Nat) (x : kw_St) (a : Nat) (el : Nat) (r : Nat) (d : Nat) (ha : nu a = some 0) (hel : nu el = some r) (hd : nu d = some 10) (hr4 : r = 2 ∨ r = 3 ∨ r = 4) (hd1 : kR x 1 a = some d) (hc2 : 2 ≤ kN x d) (hc9 : kN x d ≤ 100000) (helem : ∀ i y, i < kN x d → kC x d i = some y → ∃ r, nu y = some r ∧ (r = 2 ∨ r = 3 ∨ r = 4)) (hs0 : kI x 2 a = nI (kN x d)) : kw_M l G yJx4a65c_add_9ea2d wsJx4a65c_add_9ea2d { frames := 6, cells := 1, slots := kN x d + kN x d / 2, locals := 150 } 1 (kN x d + kN x d / 2) [.ref a, .ref el] nu x (fun v nu' y => ∃ q, nu q = none ∧ v = some (.int (1)) ∧ nu' = va_up nu q (some 10) ∧ y = sI (sC (sR (sCrow (sNew (sI x 0 a (kI x 0 a + 1)) q (kN x d + kN x d / 2)) q (va_cpy (kC x d) (fun _ => none) 0 0 (kN x d))) 1 a (some q)) q (kN x d) (some el)) 2 a (kI x 2 a + 1)) := by
  refine kw_M.ofW (cc := cJx4a65c_add_9ea2d) (maxL := 2) (ret := (some .boolean)) (by decide) rfl (Nat.le_of_ble_eq_true rfl) ?_
  intro p e s m args below meth c A ls S hr hlk hnm hK hZ hA hW hS hl
  have hl : lv_has ls 2 [(0, .ref a), (1, .ref el)] := hl
  have iJx4a65c : ∀ w ∈ wsJx4a65c0, w ∈ wsJx4a65c_add_9ea2d := by decide +kernel
  refine lv_aload_n S.1 S.2.1 dJx4a65c_add_9ea2d_0 rfl (lv_at hl 0 rfl) ?_
  refine lv_dup S.1 S.2.1 dJx4a65c_add_9ea2d_1 rfl ?_
  refine kx_gIr (ref := "java/util/ArrayList") S hK hW ha 0 0 rfl iJx4a65c (by decide) rfl rfl (by decide) (by decide +kernel) (by decide +kernel) dJx4a65c_add_9ea2d_2 (v := kI x 0 a) rfl ?_
  refine lv_iconst (v := 1) S.1 S.2.1 dJx4a65c_add_9ea2d_5 (by decide) ?_
  refine lv_iadd S.1 S.2.1 dJx4a65c_add_9ea2d_6 ?_
  refine kx_pIr (ref := "java/util/ArrayList") S hK hW hS ha 0 0 rfl iJx4a65c tyJx4a65c_ok nmJx4a65c (by decide) rfl rfl (by decide) (by decide +kernel) (by decide +kernel) rfl rfl dJx4a65c_add_9ea2d_7 (fun H locs hW hS => ?_)
  refine lv_aload_n S.1 S.2.1 dJx4a65c_add_9ea2d_10 rfl (lv_at hl 0 rfl) ?_
  refine lv_aload_n S.1 S.2.1 dJx4a65c_add_9ea2d_11 rfl (lv_at hl 1 rfl) ?_
  refine lv_aload_n S.1 S.2.1 dJx4a65c_add_9ea2d_12 rfl (lv_at hl 0 rfl) ?_
  refine kx_gA S hK hW ha 1 1 rfl iJx4a65c (by decide) rfl rfl (by decide) (by decide +kernel) dJx4a65c_add_9ea2d_13 (b := d) (by rw [show kR (sI x 0 a ((kI x 0 a) + (1))) 1 a = kR x 1 a from (by simp [kI_sNew, kJ_sNew, kR_sNew, kN_sNew, kI_sI, kI_sJ, kI_sR, kI_sA, kI_sB, kI_sC, kJ_sI, kJ_sJ, kJ_sR, kJ_sA, kJ_sB, kJ_sC, kR_sI, kR_sJ, kR_sR, kR_sA, kR_sB, kR_sC, kA_sI, kA_sJ, kA_sR, kA_sA, kA_sB, kA_sC, kB_sI, kB_sJ, kB_sR, kB_sA, kB_sB, kB_sC, kC_sI, kC_sJ, kC_sR, kC_sA, kC_sB, kC_sC, kN_sI, kN_sJ, kN_sR, kN_sA, kN_sB, kN_sC])]; exact hd1) ?_
  refine lv_aload_n S.1 S.2.1 dJx4a65c_add_9ea2d_16 rfl (lv_at hl 0 rfl) ?_
  refine kx_gI S hK hW ha 2 2 rfl iJx4a65c (by decide) rfl rfl (by decide) (by decide +kernel) dJx4a65c_add_9ea2d_17 (v := kI x 2 a) (by simp [kI_sNew, kJ_sNew, kR_sNew, kN_sNew, kI_sI, kI_sJ, kI_sR, kI_sA, kI_sB, kI_sC, kJ_sI, kJ_sJ, kJ_sR, kJ_sA, kJ_sB, kJ_sC, kR_sI, kR_sJ, kR_sR, kR_sA, kR_sB, kR_sC, kA_sI, kA_sJ, kA_sR, kA_sA, kA_sB, kA_sC, kB_sI, kB_sJ, kB_sR, kB_sA, kB_sB, kB_sC, kC_sI, kC_sJ, kC_sR, kC_sA, kC_sB, kC_sC, kN_sI, kN_sJ, kN_sR, kN_sA, kN_sB, kN_sC]) ?_
  refine kx_dV (post := fun q => (none, sI (sC (sR (sCrow (sNew (sI x 0 a ((kI x 0 a) + (1))) q (kN (sI x 0 a ((kI x 0 a) + (1))) d + kN (sI x 0 a ((kI x 0 a) + (1))) d / 2)) q (va_cpy (kC (sI x 0 a ((kI x 0 a) + (1))) d) (fun _ => none) 0 0 (kN (sI x 0 a ((kI x 0 a) + (1))) d))) 1 a (some q)) q (kN (sI x 0 a ((kI x 0 a) + (1))) d) (some el)) 2 a ((kI x 2 a) + 1))) (kq := 10) (As := [.ref el, .ref d, .int (kI x 2 a)]) (rest := []) (st1 := fun q => []) S hK hZ hA hW hS (c_Jx4a65c_add_72be8_g l G nu (sI x 0 a ((kI x 0 a) + (1))) a el d (kI x 2 a) r ha hel hd (by simpa [kI_sNew, kJ_sNew, kR_sNew, kN_sNew, kI_sI, kI_sJ, kI_sR, kI_sA, kI_sB, kI_sC, kJ_sI, kJ_sJ, kJ_sR, kJ_sA, kJ_sB, kJ_sC, kR_sI, kR_sJ, kR_sR, kR_sA, kR_sB, kR_sC, kA_sI, kA_sJ, kA_sR, kA_sA, kA_sB, kA_sC, kB_sI, kB_sJ, kB_sR, kB_sA, kB_sB, kB_sC, kC_sI, kC_sJ, kC_sR, kC_sA, kC_sB, kC_sC, kN_sI, kN_sJ, kN_sR, kN_sA, kN_sB, kN_sC] using hr4) (by simpa [kI_sNew, kJ_sNew, kR_sNew, kN_sNew, kI_sI, kI_sJ, kI_sR, kI_sA, kI_sB, kI_sC, kJ_sI, kJ_sJ, kJ_sR, kJ_sA, kJ_sB, kJ_sC, kR_sI, kR_sJ, kR_sR, kR_sA, kR_sB, kR_sC, kA_sI, kA_sJ, kA_sR, kA_sA, kA_sB, kA_sC, kB_sI, kB_sJ, kB_sR, kB_sA, kB_sB, kB_sC, kC_sI, kC_sJ, kC_sR, kC_sA, kC_sB, kC_sC, kN_sI, kN_sJ, kN_sR, kN_sA, kN_sB, kN_sC] using hd1) (by simpa [kI_sNew, kJ_sNew, kR_sNew, kN_sNew, kI_sI, kI_sJ, kI_sR, kI_sA, kI_sB, kI_sC, kJ_sI, kJ_sJ, kJ_sR, kJ_sA, kJ_sB, kJ_sC, kR_sI, kR_sJ, kR_sR, kR_sA, kR_sB, kR_sC, kA_sI, kA_sJ, kA_sR, kA_sA, kA_sB, kA_sC, kB_sI, kB_sJ, kB_sR, kB_sA, kB_sB, kB_sC, kC_sI, kC_sJ, kC_sR, kC_sA, kC_sB, kC_sC, kN_sI, kN_sJ, kN_sR, kN_sA, kN_sB, kN_sC] using hc2) (by simpa [kI_sNew, kJ_sNew, kR_sNew, kN_sNew, kI_sI, kI_sJ, kI_sR, kI_sA, kI_sB, kI_sC, kJ_sI, kJ_sJ, kJ_sR, kJ_sA, kJ_sB, kJ_sC, kR_sI, kR_sJ, kR_sR, kR_sA, kR_sB, kR_sC, kA_sI, kA_sJ, kA_sR, kA_sA, kA_sB, kA_sC, kB_sI, kB_sJ, kB_sR, kB_sA, kB_sB, kB_sC, kC_sI, kC_sJ, kC_sR, kC_sA, kC_sB, kC_sC, kN_sI, kN_sJ, kN_sR, kN_sA, kN_sB, kN_sC] using hc9) (by simpa [kI_sNew, kJ_sNew, kR_sNew, kN_sNew, kI_sI, kI_sJ, kI_sR, kI_sA, kI_sB, kI_sC, kJ_sI, kJ_sJ, kJ_sR, kJ_sA, kJ_sB, kJ_sC, kR_sI, kR_sJ, kR_sR, kR_sA, kR_sB, kR_sC, kA_sI, kA_sJ, kA_sR, kA_sA, kA_sB, kA_sC, kB_sI, kB_sJ, kB_sR, kB_sA, kB_sB, kB_sC, kC_sI, kC_sJ, kC_sR, kC_sA, kC_sB, kC_sC, kN_sI, kN_sJ, kN_sR, kN_sA, kN_sB, kN_sC] using helem) (by simpa [kI_sNew, kJ_sNew, kR_sNew, kN_sNew, kI_sI, kI_sJ, kI_sR, kI_sA, kI_sB, kI_sC, kJ_sI, kJ_sJ, kJ_sR, kJ_sA, kJ_sB, kJ_sC, kR_sI, kR_sJ, kR_sR, kR_sA, kR_sB, kR_sC, kA_sI, kA_sJ, kA_sR, kA_sA, kA_sB, kA_sC, kB_sI, kB_sJ, kB_sR, kB_sA, kB_sB, kB_sC, kC_sI, kC_sJ, kC_sR, kC_sA, kC_sB, kC_sC, kN_sI, kN_sJ, kN_sR, kN_sA, kN_sB, kN_sC] using hs0) hs0) (cwV 3 S.2.2.2.2 gJx4a65c_add_9ea2d_Jx4a65c_add_72be8 rfl rfl rfl (by decide +kernel) ⟨Nat.le_of_ble_eq_true rfl, Nat.le_of_ble_eq_true rfl⟩) ha (by decide) rfl rfl hl.1 rfl (Nat.le_of_ble_eq_true rfl) dJx4a65c_add_9ea2d_20 ⟨Nat.le_of_eq (Nat.zero_add _), Nat.le_of_eq (Nat.zero_add _)⟩ (fun _ => rfl) (fun d1 H locs hd2 hW hS => ?_)
  have n3 : ¬ a = d1 := kw_nb hd2 ha
  have n4 : ¬ el = d1 := kw_nb hd2 hel
  have n5 : ¬ d = d1 := kw_nb hd2 hd
  refine lv_iconst (v := 1) S.1 S.2.1 dJx4a65c_add_9ea2d_23 (by decide) ?_
  refine kw_zret S hr hlk hW hS (Nat.le_of_eq (Nat.zero_add _)) (Nat.le_of_eq (Nat.zero_add _)) dJx4a65c_add_9ea2d_24 kw_n1 ?_
  refine ⟨d1, hd2, ?_, rfl, ?_⟩ <;> first | rfl | (simp [kw_b, kI_sNew, kJ_sNew, kR_sNew, kN_sNew, kI_sI, kI_sJ, kI_sR, kI_sA, kI_sB, kI_sC, kJ_sI, kJ_sJ, kJ_sR, kJ_sA, kJ_sB, kJ_sC, kR_sI, kR_sJ, kR_sR, kR_sA, kR_sB, kR_sC, kA_sI, kA_sJ, kA_sR, kA_sA, kA_sB, kA_sC, kB_sI, kB_sJ, kB_sR, kB_sA, kB_sB, kB_sC, kC_sI, kC_sJ, kC_sR, kC_sA, kC_sB, kC_sC, kN_sI, kN_sJ, kN_sR, kN_sA, kN_sB, kN_sC, n3, Ne.symm n3, n4, Ne.symm n4, n5, Ne.symm n5]; done)
