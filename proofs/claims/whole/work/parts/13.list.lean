/-! the list's own code -/
theorem kw_old {nu : Nat → Option Nat} {a b q : Nat} {v : Option Nat} (hb : nu b = none) (ha : nu a = some q) : va_up nu b v a = some q := by
  rw [va_up_ne nu v (fun e => by rw [e, hb] at ha; cases ha)]
  exact ha
theorem kw_nb {nu : Nat → Option Nat} {a b q : Nat} (hb : nu b = none) (ha : nu a = some q) : ¬ a = b := fun e => by rw [e, hb] at ha; cases ha
section KWT
variable {p : Program} {l : Launch} {e : Env} {R : Room} {s : State} {m : MethodId} {args : Array Value} {below : List Frame} {meth : Method} {c : Code} {H : Heap} {locs : List Loc} {cells slots : Nat} {Q : State → Prop}
variable {cc : ByteArray} {pc nL : Nat} {ls : Array Slot} {rest : List Value} {G : kw_G} {A : Nat → Prop} {nu : Nat → Option Nat} {x : kw_St} {a q : Nat} {Ts : List Cond} {own : String}
theorem kx_cast (S : CallFix p m c cc nL s args Ts own) (hK : kw_K G s) (hW : kw_W G A nu x H) (ha : nu a = some q) (hq : q < 7) {C : String} {T : u_T} {N index : Nat} (hc : vwCl[q]? = some (C, T, N)) (hl : Cond.classLink own index C ∈ Ts) (hdg : decode cc pc = .ok (.checkcast index, 3))
    (kk : W p l e R s m args below meth c H locs cells slots Q (F0 m (pc + 3) ls (.ref a :: rest))) : W p l e R s m args below meth c H locs cells slots Q (F0 m pc ls (.ref a :: rest)) := by
  have h1 := (hW a q ha).1.1 (by omega)
  rw [kw_ce_ob hq] at h1
  exact va_castS S.1 S.2.1 S.2.2.2.1 (S.2.2.2.2 _ hl) (hK.1.1 q _ hc).2 (va_recv hK.1 (kw_one h1) (ci := q) (q0 := 0) hc rfl) hdg kk
end KWT
set_option maxHeartbeats 1000000 in
set_option maxRecDepth 100000 in
theorem c_J3_checkIndex_8e157 (l : Launch) (G : kw_G) (nu : Nat → Option Nat) (x : kw_St) (i : Int32) (n : Int32)  (h0 : ¬ i < 0) (h1 : i < n) : kw_M l G yJ3_checkIndex_8e157 wsJ3_checkIndex_8e157 { frames := 0, cells := 0, slots := 0, locals := 0 } 0 0 [.int (i), .int (n), .null] nu x (kw_P nu (some (.int (i))) (x)) := by
  refine kw_M.ofW (cc := cJ3_checkIndex_8e157) (maxL := 3) (ret := (some .int)) (by decide) rfl (Nat.le_of_ble_eq_true rfl) ?_
  intro p e s m args below meth c A ls S hr hlk hnm hK hZ hA hW hS hl
  have hl : lv_has ls 3 [(0, .int (i)), (1, .int (n)), (2, .null)] := hl
  refine lv_iload_n S.1 S.2.1 dJ3_checkIndex_8e157_0 rfl (lv_at hl 0 rfl) ?_
  refine lv_if_lt (tgt := 9) S.1 S.2.1 dJ3_checkIndex_8e157_1 (by decide) (fun c1 => ?_) (fun c1 => ?_)
  · skip
    first | exact absurd (by assumption) h0 | exact absurd h1 (by assumption)
  · skip
    refine lv_iload_n S.1 S.2.1 dJ3_checkIndex_8e157_4 rfl (lv_at hl 0 rfl) ?_
    refine lv_iload_n S.1 S.2.1 dJ3_checkIndex_8e157_5 rfl (lv_at hl 1 rfl) ?_
    refine lv_icmp_lt (tgt := 16) S.1 S.2.1 dJ3_checkIndex_8e157_6 (by decide) (fun c2 => ?_) (fun c2 => ?_)
    · skip
      refine lv_iload_n S.1 S.2.1 dJ3_checkIndex_8e157_16 rfl (lv_at hl 0 rfl) ?_
      refine kw_iret S hr hlk hW hS (by decide) (by decide) dJ3_checkIndex_8e157_17 ?_
      refine ⟨?_, rfl, ?_⟩ <;> first | rfl | (simp [c1, c2, kw_b]; done) | (simp [c1, c2, kw_b, kI_sNew, kJ_sNew, kR_sNew, kN_sNew, kI_sI, kI_sJ, kI_sR, kI_sA, kI_sB, kI_sC, kJ_sI, kJ_sJ, kJ_sR, kJ_sA, kJ_sB, kJ_sC, kR_sI, kR_sJ, kR_sR, kR_sA, kR_sB, kR_sC, kA_sI, kA_sJ, kA_sR, kA_sA, kA_sB, kA_sC, kB_sI, kB_sJ, kB_sR, kB_sA, kB_sB, kB_sC, kC_sI, kC_sJ, kC_sR, kC_sA, kC_sB, kC_sC, kN_sI, kN_sJ, kN_sR, kN_sA, kN_sB, kN_sC]; done)
    · skip
      first | exact absurd (by assumption) h0 | exact absurd h1 (by assumption)
set_option maxHeartbeats 1000000 in
set_option maxRecDepth 100000 in
theorem c_J15_checkIndex_7cf53 (l : Launch) (G : kw_G) (nu : Nat → Option Nat) (x : kw_St) (i : Int32) (n : Int32)  (h0 : ¬ i < 0) (h1 : i < n) : kw_M l G yJ15_checkIndex_7cf53 wsJ15_checkIndex_7cf53 { frames := 1, cells := 0, slots := 0, locals := 22 } 0 0 [.int (i), .int (n)] nu x (kw_P nu (some (.int (i))) (x)) := by
  refine kw_M.ofW (cc := cJ15_checkIndex_7cf53) (maxL := 2) (ret := (some .int)) (by decide) rfl (Nat.le_of_ble_eq_true rfl) ?_
  intro p e s m args below meth c A ls S hr hlk hnm hK hZ hA hW hS hl
  have hl : lv_has ls 2 [(0, .int (i)), (1, .int (n))] := hl
  refine lv_iload_n S.1 S.2.1 dJ15_checkIndex_7cf53_0 rfl (lv_at hl 0 rfl) ?_
  refine lv_iload_n S.1 S.2.1 dJ15_checkIndex_7cf53_1 rfl (lv_at hl 1 rfl) ?_
  refine lv_null S.1 S.2.1 dJ15_checkIndex_7cf53_2 ?_
  refine kx_cS (As := [.int (i), .int (n), .null]) (rest := []) (st1 := [.int (i)]) S hK hZ hA hW hS (c_J3_checkIndex_8e157 l G nu x i n h0 h1) (va_cwS 3 S.2.2.2.2 gJ15_checkIndex_7cf53_J3_checkIndex_8e157 rfl rfl rfl (by decide +kernel) ⟨Nat.le_of_ble_eq_true rfl, Nat.le_of_ble_eq_true rfl⟩) rfl hl.1 rfl (Nat.le_of_ble_eq_true rfl) dJ15_checkIndex_7cf53_3 ⟨Nat.le_of_ble_eq_true rfl, Nat.le_of_ble_eq_true rfl⟩ rfl (fun H locs hW hS => ?_)
  refine kw_iret S hr hlk hW hS (by decide) (by decide) dJ15_checkIndex_7cf53_6 ?_
  refine ⟨?_, rfl, ?_⟩ <;> first | rfl | (simp [kw_b]; done) | (simp [kw_b, kI_sNew, kJ_sNew, kR_sNew, kN_sNew, kI_sI, kI_sJ, kI_sR, kI_sA, kI_sB, kI_sC, kJ_sI, kJ_sJ, kJ_sR, kJ_sA, kJ_sB, kJ_sC, kR_sI, kR_sJ, kR_sR, kR_sA, kR_sB, kR_sC, kA_sI, kA_sJ, kA_sR, kA_sA, kA_sB, kA_sC, kB_sI, kB_sJ, kB_sR, kB_sA, kB_sB, kB_sC, kC_sI, kC_sJ, kC_sR, kC_sA, kC_sB, kC_sC, kN_sI, kN_sJ, kN_sR, kN_sA, kN_sB, kN_sC]; done)
set_option maxHeartbeats 1000000 in
set_option maxRecDepth 100000 in
theorem c_Jx4a65c_size_8abf5 (l : Launch) (G : kw_G) (nu : Nat → Option Nat) (x : kw_St) (a : Nat) (ha : nu a = some 0)  : kw_M l G yJx4a65c_size_8abf5 wsJx4a65c_size_8abf5 { frames := 0, cells := 0, slots := 0, locals := 0 } 0 0 [.ref a] nu x (kw_P nu (some (.int (kI x 2 a))) (x)) := by
  refine kw_M.ofW (cc := cJx4a65c_size_8abf5) (maxL := 1) (ret := (some .int)) (by decide) rfl (Nat.le_of_ble_eq_true rfl) ?_
  intro p e s m args below meth c A ls S hr hlk hnm hK hZ hA hW hS hl
  have hl : lv_has ls 1 [(0, .ref a)] := hl
  have iJx4a65c : ∀ w ∈ wsJx4a65c0, w ∈ wsJx4a65c_size_8abf5 := by decide +kernel
  refine lv_aload_n S.1 S.2.1 dJx4a65c_size_8abf5_0 rfl (lv_at hl 0 rfl) ?_
  refine kx_gI S hK hW ha 2 2 rfl iJx4a65c (by decide) rfl rfl (by decide) (by decide +kernel) dJx4a65c_size_8abf5_1 (v := kI x 2 a) rfl ?_
  refine kw_iret S hr hlk hW hS (by decide) (by decide) dJx4a65c_size_8abf5_4 ?_
  refine ⟨?_, rfl, ?_⟩ <;> first | rfl | (simp [kw_b]; done) | (simp [kw_b, kI_sNew, kJ_sNew, kR_sNew, kN_sNew, kI_sI, kI_sJ, kI_sR, kI_sA, kI_sB, kI_sC, kJ_sI, kJ_sJ, kJ_sR, kJ_sA, kJ_sB, kJ_sC, kR_sI, kR_sJ, kR_sR, kR_sA, kR_sB, kR_sC, kA_sI, kA_sJ, kA_sR, kA_sA, kA_sB, kA_sC, kB_sI, kB_sJ, kB_sR, kB_sA, kB_sB, kB_sC, kC_sI, kC_sJ, kC_sR, kC_sA, kC_sB, kC_sC, kN_sI, kN_sJ, kN_sR, kN_sA, kN_sB, kN_sC]; done)
set_option maxHeartbeats 1000000 in
set_option maxRecDepth 100000 in
theorem c_Jx4a65c_elementData_915e3 (l : Launch) (G : kw_G) (nu : Nat → Option Nat) (x : kw_St) (a : Nat) (i : Int32) (d : Nat) (k : Nat) (el : Nat) (ha : nu a = some 0) (hd : nu d = some 10) (hd1 : kR x 1 a = some d) (hix : kw_ix i k (kN x d)) (hel : kC x d k = some el) : kw_M l G yJx4a65c_elementData_915e3 wsJx4a65c_elementData_915e3 { frames := 0, cells := 0, slots := 0, locals := 0 } 0 0 [.ref a, .int (i)] nu x (kw_P nu (some (.ref el)) (x)) := by
  refine kw_M.ofW (cc := cJx4a65c_elementData_915e3) (maxL := 2) (ret := (some (.object "java/lang/Object"))) (by decide) rfl (Nat.le_of_ble_eq_true rfl) ?_
  intro p e s m args below meth c A ls S hr hlk hnm hK hZ hA hW hS hl
  have hl : lv_has ls 2 [(0, .ref a), (1, .int (i))] := hl
  have iJx4a65c : ∀ w ∈ wsJx4a65c0, w ∈ wsJx4a65c_elementData_915e3 := by decide +kernel
  refine lv_aload_n S.1 S.2.1 dJx4a65c_elementData_915e3_0 rfl (lv_at hl 0 rfl) ?_
  refine kx_gA S hK hW ha 1 1 rfl iJx4a65c (by decide) rfl rfl (by decide) (by decide +kernel) dJx4a65c_elementData_915e3_1 (b := d) hd1 ?_
  refine lv_iload_n S.1 S.2.1 dJx4a65c_elementData_915e3_4 rfl (lv_at hl 1 rfl) ?_
  refine kw_aald S hK hW hd (k := k) hix dJx4a65c_elementData_915e3_5 (v := some el) hel ?_
  refine kw_aret S hr (Or.inl ⟨_, rfl⟩) hlk (v := some el) hW hS (by decide) (by decide) dJx4a65c_elementData_915e3_6 ?_
  refine ⟨?_, rfl, ?_⟩ <;> first | rfl | (simp [kw_b]; done) | (simp [kw_b, kI_sNew, kJ_sNew, kR_sNew, kN_sNew, kI_sI, kI_sJ, kI_sR, kI_sA, kI_sB, kI_sC, kJ_sI, kJ_sJ, kJ_sR, kJ_sA, kJ_sB, kJ_sC, kR_sI, kR_sJ, kR_sR, kR_sA, kR_sB, kR_sC, kA_sI, kA_sJ, kA_sR, kA_sA, kA_sB, kA_sC, kB_sI, kB_sJ, kB_sR, kB_sA, kB_sB, kB_sC, kC_sI, kC_sJ, kC_sR, kC_sA, kC_sB, kC_sC, kN_sI, kN_sJ, kN_sR, kN_sA, kN_sB, kN_sC]; done)
set_option maxHeartbeats 1000000 in
set_option maxRecDepth 100000 in
theorem c_Jx4a65c_get_915e3 (l : Launch) (G : kw_G) (nu : Nat → Option Nat) (x : kw_St) (a : Nat) (i : Int32) (d : Nat) (k : Nat) (el : Nat) (ha : nu a = some 0) (hd : nu d = some 10) (hd1 : kR x 1 a = some d) (hix : kw_ix i k (kN x d)) (hel : kC x d k = some el) (h0 : ¬ i < 0) (h1 : i < kI x 2 a) : kw_M l G yJx4a65c_get_915e3 wsJx4a65c_get_915e3 { frames := 2, cells := 0, slots := 0, locals := 43 } 0 0 [.ref a, .int (i)] nu x (kw_P nu (some (.ref el)) (x)) := by
  refine kw_M.ofW (cc := cJx4a65c_get_915e3) (maxL := 2) (ret := (some (.object "java/lang/Object"))) (by decide) rfl (Nat.le_of_ble_eq_true rfl) ?_
  intro p e s m args below meth c A ls S hr hlk hnm hK hZ hA hW hS hl
  have hl : lv_has ls 2 [(0, .ref a), (1, .int (i))] := hl
  have iJx4a65c : ∀ w ∈ wsJx4a65c0, w ∈ wsJx4a65c_get_915e3 := by decide +kernel
  refine lv_iload_n S.1 S.2.1 dJx4a65c_get_915e3_0 rfl (lv_at hl 1 rfl) ?_
  refine lv_aload_n S.1 S.2.1 dJx4a65c_get_915e3_1 rfl (lv_at hl 0 rfl) ?_
  refine kx_gI S hK hW ha 2 2 rfl iJx4a65c (by decide) rfl rfl (by decide) (by decide +kernel) dJx4a65c_get_915e3_2 (v := kI x 2 a) rfl ?_
  refine kx_cS (As := [.int (i), .int (kI x 2 a)]) (rest := []) (st1 := [.int (i)]) S hK hZ hA hW hS (c_J15_checkIndex_7cf53 l G nu x i (kI x 2 a) h0 h1) (va_cwS 2 S.2.2.2.2 gJx4a65c_get_915e3_J15_checkIndex_7cf53 rfl rfl rfl (by decide +kernel) ⟨Nat.le_of_ble_eq_true rfl, Nat.le_of_ble_eq_true rfl⟩) rfl hl.1 rfl (Nat.le_of_ble_eq_true rfl) dJx4a65c_get_915e3_5 ⟨Nat.le_of_ble_eq_true rfl, Nat.le_of_ble_eq_true rfl⟩ rfl (fun H locs hW hS => ?_)
  refine lv_pop S.1 S.2.1 dJx4a65c_get_915e3_8 rfl ?_
  refine lv_aload_n S.1 S.2.1 dJx4a65c_get_915e3_9 rfl (lv_at hl 0 rfl) ?_
  refine lv_iload_n S.1 S.2.1 dJx4a65c_get_915e3_10 rfl (lv_at hl 1 rfl) ?_
  refine kx_cV (As := [.int (i)]) (rest := []) (st1 := [.ref el]) S hK hZ hA hW hS (c_Jx4a65c_elementData_915e3 l G nu x a i d k el ha hd hd1 hix hel) (cwV 1 S.2.2.2.2 gJx4a65c_get_915e3_Jx4a65c_elementData_915e3 rfl rfl rfl (by decide +kernel) ⟨Nat.le_of_ble_eq_true rfl, Nat.le_of_ble_eq_true rfl⟩) ha (by decide) rfl rfl hl.1 rfl (Nat.le_of_ble_eq_true rfl) dJx4a65c_get_915e3_11 ⟨Nat.le_of_ble_eq_true rfl, Nat.le_of_ble_eq_true rfl⟩ rfl (fun H locs hW hS => ?_)
  refine kw_aret S hr (Or.inl ⟨_, rfl⟩) hlk (v := some el) hW hS (by decide) (by decide) dJx4a65c_get_915e3_14 ?_
  refine ⟨?_, rfl, ?_⟩ <;> first | rfl | (simp [kw_b]; done) | (simp [kw_b, kI_sNew, kJ_sNew, kR_sNew, kN_sNew, kI_sI, kI_sJ, kI_sR, kI_sA, kI_sB, kI_sC, kJ_sI, kJ_sJ, kJ_sR, kJ_sA, kJ_sB, kJ_sC, kR_sI, kR_sJ, kR_sR, kR_sA, kR_sB, kR_sC, kA_sI, kA_sJ, kA_sR, kA_sA, kA_sB, kA_sC, kB_sI, kB_sJ, kB_sR, kB_sA, kB_sB, kB_sC, kC_sI, kC_sJ, kC_sR, kC_sA, kC_sB, kC_sC, kN_sI, kN_sJ, kN_sR, kN_sA, kN_sB, kN_sC]; done)
set_option maxHeartbeats 1000000 in
set_option maxRecDepth 100000 in
theorem c_Jxa1e45_init_da8c8 (l : Launch) (G : kw_G) (nu : Nat → Option Nat) (x : kw_St) (a : Nat) (ha : nu a = some 0)  : kw_M l G yJxa1e45_init_da8c8 wsJxa1e45_init_da8c8 { frames := 1, cells := 0, slots := 0, locals := 20 } 0 0 [.ref a] nu x (kw_P nu (none) (x)) := by
  refine kw_M.ofW (cc := cJxa1e45_init_da8c8) (maxL := 1) (ret := none) (by decide) rfl (Nat.le_of_ble_eq_true rfl) ?_
  intro p e s m args below meth c A ls S hr hlk hnm hK hZ hA hW hS hl
  have hl : lv_has ls 1 [(0, .ref a)] := hl
  refine lv_aload_n S.1 S.2.1 dJxa1e45_init_da8c8_0 rfl (lv_at hl 0 rfl) ?_
  refine W.objInit S.1 S.2.1 S.2.2.2.1 (S.2.2.2.2 _ (by decide +kernel)) (S.2.2.2.2 _ (by decide +kernel)) (S.2.2.2.2 _ (by decide +kernel)) rfl (by rw [S.2.2.1]; exact hl.1) rfl dJxa1e45_init_da8c8_1 (Nat.le_of_ble_eq_true rfl) (Nat.le_of_ble_eq_true rfl) ?_
  refine W.eq (g2 := F0 m 4 ls []) rfl ?_
  refine kw_vret S hr hlk hW hS (by decide) (by decide) dJxa1e45_init_da8c8_4 ?_
  refine ⟨?_, rfl, ?_⟩ <;> first | rfl | (simp [kw_b]; done) | (simp [kw_b, kI_sNew, kJ_sNew, kR_sNew, kN_sNew, kI_sI, kI_sJ, kI_sR, kI_sA, kI_sB, kI_sC, kJ_sI, kJ_sJ, kJ_sR, kJ_sA, kJ_sB, kJ_sC, kR_sI, kR_sJ, kR_sR, kR_sA, kR_sB, kR_sC, kA_sI, kA_sJ, kA_sR, kA_sA, kA_sB, kA_sC, kB_sI, kB_sJ, kB_sR, kB_sA, kB_sB, kB_sC, kC_sI, kC_sJ, kC_sR, kC_sA, kC_sB, kC_sC, kN_sI, kN_sJ, kN_sR, kN_sA, kN_sB, kN_sC]; done)
set_option maxHeartbeats 1000000 in
set_option maxRecDepth 100000 in
theorem c_Jxc12de_init_da8c8 (l : Launch) (G : kw_G) (nu : Nat → Option Nat) (x : kw_St) (a : Nat) (ha : nu a = some 0)  : kw_M l G yJxc12de_init_da8c8 wsJxc12de_init_da8c8 { frames := 2, cells := 0, slots := 0, locals := 40 } 0 0 [.ref a] nu x (kw_P nu (none) (sI x 0 a 0)) := by
  refine kw_M.ofW (cc := cJxc12de_init_da8c8) (maxL := 1) (ret := none) (by decide) rfl (Nat.le_of_ble_eq_true rfl) ?_
  intro p e s m args below meth c A ls S hr hlk hnm hK hZ hA hW hS hl
  have hl : lv_has ls 1 [(0, .ref a)] := hl
  have iJx4a65c : ∀ w ∈ wsJx4a65c0, w ∈ wsJxc12de_init_da8c8 := by decide +kernel
  refine lv_aload_n S.1 S.2.1 dJxc12de_init_da8c8_0 rfl (lv_at hl 0 rfl) ?_
  refine kx_cI (As := []) (rest := []) (st1 := []) S hK hZ hA hW hS (c_Jxa1e45_init_da8c8 l G nu x a ha) (cwI 0 S.2.2.2.2 gJxc12de_init_da8c8_Jxa1e45_init_da8c8 rfl rfl rfl (S.2.2.2.2 _ (by decide +kernel)) (S.2.2.2.2 _ (by decide +kernel)) (S.2.2.2.2 _ (by decide +kernel)) rfl (by decide +kernel) ⟨Nat.le_of_ble_eq_true rfl, Nat.le_of_ble_eq_true rfl⟩) rfl hl.1 rfl (Nat.le_of_ble_eq_true rfl) dJxc12de_init_da8c8_1 ⟨Nat.le_of_ble_eq_true rfl, Nat.le_of_ble_eq_true rfl⟩ rfl (fun H locs hW hS => ?_)
  refine lv_aload_n S.1 S.2.1 dJxc12de_init_da8c8_4 rfl (lv_at hl 0 rfl) ?_
  refine lv_iconst (v := 0) S.1 S.2.1 dJxc12de_init_da8c8_5 (by decide) ?_
  refine kx_pI S hK hW hS ha 0 0  rfl iJx4a65c tyJx4a65c_ok nmJx4a65c (by decide) rfl rfl (by decide) (by decide +kernel) (Or.inl rfl) rfl dJxc12de_init_da8c8_6 (fun H locs hW hS => ?_)
  refine kw_vret S hr hlk hW hS (by decide) (by decide) dJxc12de_init_da8c8_9 ?_
  refine ⟨?_, rfl, ?_⟩ <;> first | rfl | (simp [kw_b]; done) | (simp [kw_b, kI_sNew, kJ_sNew, kR_sNew, kN_sNew, kI_sI, kI_sJ, kI_sR, kI_sA, kI_sB, kI_sC, kJ_sI, kJ_sJ, kJ_sR, kJ_sA, kJ_sB, kJ_sC, kR_sI, kR_sJ, kR_sR, kR_sA, kR_sB, kR_sC, kA_sI, kA_sJ, kA_sR, kA_sA, kA_sB, kA_sC, kB_sI, kB_sJ, kB_sR, kB_sA, kB_sB, kB_sC, kC_sI, kC_sJ, kC_sR, kC_sA, kC_sB, kC_sC, kN_sI, kN_sJ, kN_sR, kN_sA, kN_sB, kN_sC]; done)
set_option maxHeartbeats 1000000 in
set_option maxRecDepth 100000 in
theorem c_Jx4a65c_init_da8c8 (l : Launch) (G : kw_G) (nu : Nat → Option Nat) (x : kw_St) (a : Nat) (ha : nu a = some 0)  : kw_M l G yJx4a65c_init_da8c8 wsJx4a65c_init_da8c8 { frames := 3, cells := 0, slots := 0, locals := 60 } 0 0 [.ref a] nu x (kw_P nu (none) (sR (sI x 0 a 0) 1 a (some G.2.2.1))) := by
  refine kw_M.ofW (cc := cJx4a65c_init_da8c8) (maxL := 1) (ret := none) (by decide) rfl (Nat.le_of_ble_eq_true rfl) ?_
  intro p e s m args below meth c A ls S hr hlk hnm hK hZ hA hW hS hl
  have hl : lv_has ls 1 [(0, .ref a)] := hl
  have iJx4a65c : ∀ w ∈ wsJx4a65c0, w ∈ wsJx4a65c_init_da8c8 := by decide +kernel
  refine lv_aload_n S.1 S.2.1 dJx4a65c_init_da8c8_0 rfl (lv_at hl 0 rfl) ?_
  refine kx_cI (As := []) (rest := []) (st1 := []) S hK hZ hA hW hS (c_Jxc12de_init_da8c8 l G nu x a ha) (cwI 0 S.2.2.2.2 gJx4a65c_init_da8c8_Jxc12de_init_da8c8 rfl rfl rfl (S.2.2.2.2 _ (by decide +kernel)) (S.2.2.2.2 _ (by decide +kernel)) (S.2.2.2.2 _ (by decide +kernel)) rfl (by decide +kernel) ⟨Nat.le_of_ble_eq_true rfl, Nat.le_of_ble_eq_true rfl⟩) rfl hl.1 rfl (Nat.le_of_ble_eq_true rfl) dJx4a65c_init_da8c8_1 ⟨Nat.le_of_ble_eq_true rfl, Nat.le_of_ble_eq_true rfl⟩ rfl (fun H locs hW hS => ?_)
  refine lv_aload_n S.1 S.2.1 dJx4a65c_init_da8c8_4 rfl (lv_at hl 0 rfl) ?_
  refine va_gets S.1 S.2.1 hZ hS S.2.2.2.1 (S.2.2.2.2 _ (by decide +kernel)) (fun _ h => h) dJx4a65c_init_da8c8_5 ?_
  refine kx_pA S hK hW hS ha 1 1  rfl iJx4a65c tyJx4a65c_ok nmJx4a65c (by decide) rfl rfl (by decide) (by decide +kernel) (Or.inl rfl) rfl (Or.inr ⟨_, rfl⟩) dJx4a65c_init_da8c8_8 (fun H locs hW hS => ?_)
  refine kw_vret S hr hlk hW hS (by decide) (by decide) dJx4a65c_init_da8c8_11 ?_
  refine ⟨?_, rfl, ?_⟩ <;> first | rfl | (simp [kw_b]; done) | (simp [kw_b, kI_sNew, kJ_sNew, kR_sNew, kN_sNew, kI_sI, kI_sJ, kI_sR, kI_sA, kI_sB, kI_sC, kJ_sI, kJ_sJ, kJ_sR, kJ_sA, kJ_sB, kJ_sC, kR_sI, kR_sJ, kR_sR, kR_sA, kR_sB, kR_sC, kA_sI, kA_sJ, kA_sR, kA_sA, kA_sB, kA_sC, kB_sI, kB_sJ, kB_sR, kB_sA, kB_sB, kB_sC, kC_sI, kC_sJ, kC_sR, kC_sA, kC_sB, kC_sC, kN_sI, kN_sJ, kN_sR, kN_sA, kN_sB, kN_sC]; done)
