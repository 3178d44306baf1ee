/-! sending, and the small questions of LinkShaper -/
theorem q_rem_I {x : kw_St} {a g b gb k i : Nat} {t : Int32} (c : Nat) (h : i ≠ 205 ∧ i ≠ 159 ∧ i ≠ 160 ∧ i ≠ 103) : kI (q_rem x a g b gb k t) i c = kI x i c := by
  unfold q_rem
  split <;> simp [kI_sI, kI_sJ, kI_sR, h]
theorem q_rem_J {x : kw_St} {a g b gb k i : Nat} {t : Int32} (c : Nat) (h : i ≠ 52) : kJ (q_rem x a g b gb k t) i c = kJ x i c := by
  unfold q_rem
  split <;> simp [kJ_sI, kJ_sJ, kJ_sR, h]
theorem q_rem_R {x : kw_St} {a g b gb k i : Nat} {t : Int32} (c : Nat) (h : i ≠ 157 ∧ i ≠ 158 ∧ i ≠ 208) : kR (q_rem x a g b gb k t) i c = kR x i c := by
  unfold q_rem
  split <;> simp [kR_sI, kR_sJ, kR_sR, h]
def q_sdue (x : kw_St) (a g b gb k : Nat) (t : Int32) : kw_St := sI (sI (sI (sI (q_rem x a g b gb k t) 206 k 1) 207 k (q_dl x a)) 165 a (q_dl x a)) 161 a (kI x 161 a + kI x 202 k)
def q_sexc (x : kw_St) (a g b gb k : Nat) (t : Int32) : kw_St := sI (sJ (sJ (sJ (sI (q_rem x a g b gb k t) 206 k 2) 167 a (q_ltag x a)) 105 g (if q_ltag x a < kJ x 105 g then kJ x 105 g else q_ltag x a)) 104 g (q_lgtag x a g)) 162 a (kI x 162 a + kI x 202 k)
set_option maxHeartbeats 1000000 in
set_option maxRecDepth 100000 in
/-- Leaf.sendDue -/
theorem c_X2_sendDue (l : Launch) (G : kw_G) (nu : Nat → Option Nat) (x : kw_St) (a : Nat) (t : Int32) (g : Nat) (b : Nat) (gb : Nat) (k : Nat) (ha : nu a = some 3) (hg : nu g = some 2) (hb : nu b = some 1) (hgb : nu gb = some 1) (hk : nu k = some 4) (hgr : kR x 150 a = some g) (hce : kR x 153 a = some b) (hgc : kR x 101 g = some gb) (hk1 : kR x 157 a = some k) (hne : ¬ b = gb) : kw_M l G yX2_sendDue wsX2_sendDue { frames := 3, cells := 0, slots := 0, locals := 63 } 0 0 [.ref a, .int (t)] nu x (kw_P nu (some (.ref k)) (q_sdue x a g b gb k t)) := by
  refine kw_M.ofW (cc := cX2_sendDue) (maxL := 4) (ret := (some (.object "LinkShaper$Packet"))) (by decide) rfl (Nat.le_of_ble_eq_true rfl) ?_
  intro p e s m args below meth c A ls S hr hlk hnm hK hZ hA hW hS hl
  have hl : lv_has ls 4 [(0, .ref a), (1, .int (t))] := hl
  have iX2 : ∀ w ∈ wsX20, w ∈ wsX2_sendDue := by decide +kernel
  have iX3 : ∀ w ∈ wsX30, w ∈ wsX2_sendDue := by decide +kernel
  refine lv_aload_n S.1 S.2.1 dX2_sendDue_0 rfl (lv_at hl 0 rfl) ?_
  refine kx_cV (As := []) (rest := []) (st1 := [.int (q_dl x a)]) S hK hZ hA hW hS (c_X2_deadline l G nu x a ha (fun z hz => by rw [hk1] at hz; cases hz; exact hk)) (cwV 0 S.2.2.2.2 gX2_sendDue_X2_deadline rfl rfl rfl (by decide +kernel) ⟨Nat.le_of_ble_eq_true rfl, Nat.le_of_ble_eq_true rfl⟩) ha (by decide) rfl rfl hl.1 rfl (Nat.le_of_ble_eq_true rfl) dX2_sendDue_1 ⟨Nat.le_of_ble_eq_true rfl, Nat.le_of_ble_eq_true rfl⟩ rfl (fun H locs hW hS => ?_)
  refine lv_istore_n (lv' := [(2, .int (q_dl x a)), (0, .ref a), (1, .int (t))]) S.1 S.2.1 dX2_sendDue_4 rfl hl (by decide) rfl (fun ls hl => ?_)
  refine lv_aload_n S.1 S.2.1 dX2_sendDue_5 rfl (lv_at hl 1 rfl) ?_
  refine lv_iload_n S.1 S.2.1 dX2_sendDue_6 rfl (lv_at hl 2 rfl) ?_
  refine kx_cV (As := [.int (t)]) (rest := []) (st1 := [.ref k]) S hK hZ hA hW hS (c_X2_removeFirst l G nu x a t g b gb k ha hg hb hgb hk hgr hce hgc hk1 hne) (cwV 1 S.2.2.2.2 gX2_sendDue_X2_removeFirst rfl rfl rfl (by decide +kernel) ⟨Nat.le_of_ble_eq_true rfl, Nat.le_of_ble_eq_true rfl⟩) ha (by decide) rfl rfl hl.1 rfl (Nat.le_of_ble_eq_true rfl) dX2_sendDue_7 ⟨Nat.le_of_ble_eq_true rfl, Nat.le_of_ble_eq_true rfl⟩ rfl (fun H locs hW hS => ?_)
  refine lv_astore_n (lv' := [(3, .ref k), (2, .int (q_dl x a)), (0, .ref a), (1, .int (t))]) S.1 S.2.1 dX2_sendDue_10 rfl hl (by decide) rfl (fun ls hl => ?_)
  refine lv_aload_n S.1 S.2.1 dX2_sendDue_11 rfl (lv_at hl 0 rfl) ?_
  refine lv_ifnull S.1 S.2.1 dX2_sendDue_12 ?_
  refine lv_aload_n S.1 S.2.1 dX2_sendDue_15 rfl (lv_at hl 0 rfl) ?_
  refine lv_iconst (v := 1) S.1 S.2.1 dX2_sendDue_16 (by decide) ?_
  refine kx_pI S hK hW hS hk 6 206  rfl iX3 tyX3_ok nmX3 (by decide) rfl rfl (by decide) (by decide +kernel) (Or.inl rfl) rfl dX2_sendDue_17 (fun H locs hW hS => ?_)
  refine lv_aload_n S.1 S.2.1 dX2_sendDue_20 rfl (lv_at hl 0 rfl) ?_
  refine lv_iload_n S.1 S.2.1 dX2_sendDue_21 rfl (lv_at hl 1 rfl) ?_
  refine kx_pI S hK hW hS hk 7 207  rfl iX3 tyX3_ok nmX3 (by decide) rfl rfl (by decide) (by decide +kernel) (Or.inl rfl) rfl dX2_sendDue_22 (fun H locs hW hS => ?_)
  refine lv_aload_n S.1 S.2.1 dX2_sendDue_25 rfl (lv_at hl 2 rfl) ?_
  refine lv_iload_n S.1 S.2.1 dX2_sendDue_26 rfl (lv_at hl 1 rfl) ?_
  refine kx_pI S hK hW hS ha 15 165  rfl iX2 tyX2_ok nmX2 (by decide) rfl rfl (by decide) (by decide +kernel) (Or.inl rfl) rfl dX2_sendDue_27 (fun H locs hW hS => ?_)
  refine lv_aload_n S.1 S.2.1 dX2_sendDue_30 rfl (lv_at hl 2 rfl) ?_
  refine lv_dup S.1 S.2.1 dX2_sendDue_31 rfl ?_
  refine kx_gI S hK hW ha 11 161 rfl iX2 (by decide) rfl rfl (by decide) (by decide +kernel) dX2_sendDue_32 (v := kI x 161 a) (by simp [kI_sNew, kJ_sNew, kR_sNew, kN_sNew, kI_sI, kI_sJ, kI_sR, kI_sA, kI_sB, kI_sC, kJ_sI, kJ_sJ, kJ_sR, kJ_sA, kJ_sB, kJ_sC, kR_sI, kR_sJ, kR_sR, kR_sA, kR_sB, kR_sC, kA_sI, kA_sJ, kA_sR, kA_sA, kA_sB, kA_sC, kB_sI, kB_sJ, kB_sR, kB_sA, kB_sB, kB_sC, kC_sI, kC_sJ, kC_sR, kC_sA, kC_sB, kC_sC, kN_sI, kN_sJ, kN_sR, kN_sA, kN_sB, kN_sC, q_rem_I, q_rem_J, q_rem_R]) ?_
  refine lv_aload_n S.1 S.2.1 dX2_sendDue_35 rfl (lv_at hl 0 rfl) ?_
  refine kx_gI S hK hW hk 2 202 rfl iX3 (by decide) rfl rfl (by decide) (by decide +kernel) dX2_sendDue_36 (v := kI x 202 k) (by simp [kI_sNew, kJ_sNew, kR_sNew, kN_sNew, kI_sI, kI_sJ, kI_sR, kI_sA, kI_sB, kI_sC, kJ_sI, kJ_sJ, kJ_sR, kJ_sA, kJ_sB, kJ_sC, kR_sI, kR_sJ, kR_sR, kR_sA, kR_sB, kR_sC, kA_sI, kA_sJ, kA_sR, kA_sA, kA_sB, kA_sC, kB_sI, kB_sJ, kB_sR, kB_sA, kB_sB, kB_sC, kC_sI, kC_sJ, kC_sR, kC_sA, kC_sB, kC_sC, kN_sI, kN_sJ, kN_sR, kN_sA, kN_sB, kN_sC, q_rem_I, q_rem_J, q_rem_R]) ?_
  refine lv_iadd S.1 S.2.1 dX2_sendDue_39 ?_
  refine kx_pI S hK hW hS ha 11 161  rfl iX2 tyX2_ok nmX2 (by decide) rfl rfl (by decide) (by decide +kernel) (Or.inl rfl) rfl dX2_sendDue_40 (fun H locs hW hS => ?_)
  refine lv_aload_n S.1 S.2.1 dX2_sendDue_43 rfl (lv_at hl 0 rfl) ?_
  refine kw_aret S hr (Or.inl ⟨_, rfl⟩) hlk (v := some k) hW hS (by decide) (by decide) dX2_sendDue_44 ?_
  refine ⟨?_, rfl, ?_⟩ <;> first | rfl | (simp [q_sdue, kw_b]; done) | (simp [q_sdue, kw_b, kI_sNew, kJ_sNew, kR_sNew, kN_sNew, kI_sI, kI_sJ, kI_sR, kI_sA, kI_sB, kI_sC, kJ_sI, kJ_sJ, kJ_sR, kJ_sA, kJ_sB, kJ_sC, kR_sI, kR_sJ, kR_sR, kR_sA, kR_sB, kR_sC, kA_sI, kA_sJ, kA_sR, kA_sA, kA_sB, kA_sC, kB_sI, kB_sJ, kB_sR, kB_sA, kB_sB, kB_sC, kC_sI, kC_sJ, kC_sR, kC_sA, kC_sB, kC_sC, kN_sI, kN_sJ, kN_sR, kN_sA, kN_sB, kN_sC, q_rem_I, q_rem_J, q_rem_R]; done)
set_option maxHeartbeats 1000000 in
set_option maxRecDepth 100000 in
/-- Leaf.sendExcess -/
theorem c_X2_sendExcess (l : Launch) (G : kw_G) (nu : Nat → Option Nat) (x : kw_St) (a : Nat) (t : Int32) (g : Nat) (b : Nat) (gb : Nat) (k : Nat) (ha : nu a = some 3) (hg : nu g = some 2) (hb : nu b = some 1) (hgb : nu gb = some 1) (hk : nu k = some 4) (hgr : kR x 150 a = some g) (hce : kR x 153 a = some b) (hgc : kR x 101 g = some gb) (hk1 : kR x 157 a = some k) (hne : ¬ b = gb) : kw_M l G yX2_sendExcess wsX2_sendExcess { frames := 2, cells := 0, slots := 0, locals := 43 } 0 0 [.ref a, .int (t)] nu x (kw_P nu (some (.ref k)) (q_sexc x a g b gb k t)) := by
  refine kw_M.ofW (cc := cX2_sendExcess) (maxL := 7) (ret := (some (.object "LinkShaper$Packet"))) (by decide) rfl (Nat.le_of_ble_eq_true rfl) ?_
  intro p e s m args below meth c A ls S hr hlk hnm hK hZ hA hW hS hl
  have hl : lv_has ls 7 [(0, .ref a), (1, .int (t))] := hl
  have iX1 : ∀ w ∈ wsX10, w ∈ wsX2_sendExcess := by decide +kernel
  have iX2 : ∀ w ∈ wsX20, w ∈ wsX2_sendExcess := by decide +kernel
  have iX3 : ∀ w ∈ wsX30, w ∈ wsX2_sendExcess := by decide +kernel
  refine lv_aload_n S.1 S.2.1 dX2_sendExcess_0 rfl (lv_at hl 0 rfl) ?_
  refine kx_cV (As := []) (rest := []) (st1 := [.long (q_ltag x a)]) S hK hZ hA hW hS (c_X2_tagInLeaf l G nu x a ha (fun z hz => by rw [hk1] at hz; cases hz; exact hk)) (cwV 0 S.2.2.2.2 gX2_sendExcess_X2_tagInLeaf rfl rfl rfl (by decide +kernel) ⟨Nat.le_of_ble_eq_true rfl, Nat.le_of_ble_eq_true rfl⟩) ha (by decide) rfl rfl hl.1 rfl (Nat.le_of_ble_eq_true rfl) dX2_sendExcess_1 ⟨Nat.le_of_ble_eq_true rfl, Nat.le_of_ble_eq_true rfl⟩ rfl (fun H locs hW hS => ?_)
  refine lv_lstore_n (lv' := [(2, .long (q_ltag x a)), (0, .ref a), (1, .int (t))]) S.1 S.2.1 dX2_sendExcess_4 rfl hl (by decide) rfl (fun ls hl => ?_)
  refine lv_aload_n S.1 S.2.1 dX2_sendExcess_5 rfl (lv_at hl 1 rfl) ?_
  refine kx_cV (As := []) (rest := []) (st1 := [.long (q_lgtag x a g)]) S hK hZ hA hW hS (c_X2_tagInGroup l G nu x a g ha hg hgr (fun z hz => by rw [hk1] at hz; cases hz; exact hk)) (cwV 0 S.2.2.2.2 gX2_sendExcess_X2_tagInGroup rfl rfl rfl (by decide +kernel) ⟨Nat.le_of_ble_eq_true rfl, Nat.le_of_ble_eq_true rfl⟩) ha (by decide) rfl rfl hl.1 rfl (Nat.le_of_ble_eq_true rfl) dX2_sendExcess_6 ⟨Nat.le_of_ble_eq_true rfl, Nat.le_of_ble_eq_true rfl⟩ rfl (fun H locs hW hS => ?_)
  refine lv_lstore (lv' := [(4, .long (q_lgtag x a g)), (2, .long (q_ltag x a)), (0, .ref a), (1, .int (t))]) S.1 S.2.1 dX2_sendExcess_9 hl (by decide) rfl (fun ls hl => ?_)
  refine lv_aload_n S.1 S.2.1 dX2_sendExcess_11 rfl (lv_at hl 2 rfl) ?_
  refine lv_iload_n S.1 S.2.1 dX2_sendExcess_12 rfl (lv_at hl 3 rfl) ?_
  refine kx_cV (As := [.int (t)]) (rest := []) (st1 := [.ref k]) S hK hZ hA hW hS (c_X2_removeFirst l G nu x a t g b gb k ha hg hb hgb hk hgr hce hgc hk1 hne) (cwV 1 S.2.2.2.2 gX2_sendExcess_X2_removeFirst rfl rfl rfl (by decide +kernel) ⟨Nat.le_of_ble_eq_true rfl, Nat.le_of_ble_eq_true rfl⟩) ha (by decide) rfl rfl hl.1 rfl (Nat.le_of_ble_eq_true rfl) dX2_sendExcess_13 ⟨Nat.le_of_ble_eq_true rfl, Nat.le_of_ble_eq_true rfl⟩ rfl (fun H locs hW hS => ?_)
  refine lv_astore (lv' := [(6, .ref k), (4, .long (q_lgtag x a g)), (2, .long (q_ltag x a)), (0, .ref a), (1, .int (t))]) S.1 S.2.1 dX2_sendExcess_16 hl (by decide) rfl (fun ls hl => ?_)
  refine lv_aload S.1 S.2.1 dX2_sendExcess_18 (lv_at hl 0 rfl) ?_
  refine lv_ifnull S.1 S.2.1 dX2_sendExcess_20 ?_
  refine lv_aload S.1 S.2.1 dX2_sendExcess_23 (lv_at hl 0 rfl) ?_
  refine lv_iconst (v := 2) S.1 S.2.1 dX2_sendExcess_25 (by decide) ?_
  refine kx_pI S hK hW hS hk 6 206  rfl iX3 tyX3_ok nmX3 (by decide) rfl rfl (by decide) (by decide +kernel) (Or.inl rfl) rfl dX2_sendExcess_26 (fun H locs hW hS => ?_)
  refine lv_aload_n S.1 S.2.1 dX2_sendExcess_29 rfl (lv_at hl 3 rfl) ?_
  refine lv_lload_n S.1 S.2.1 dX2_sendExcess_30 rfl (lv_at hl 2 rfl) ?_
  refine kx_pJ S hK hW hS ha 17 167  rfl iX2 tyX2_ok nmX2 (by decide) rfl rfl (by decide) (by decide +kernel) (Or.inl rfl) rfl dX2_sendExcess_31 (fun H locs hW hS => ?_)
  refine lv_aload_n S.1 S.2.1 dX2_sendExcess_34 rfl (lv_at hl 3 rfl) ?_
  refine kx_gA S hK hW ha 0 150 rfl iX2 (by decide) rfl rfl (by decide) (by decide +kernel) dX2_sendExcess_35 (b := g) (by rw [show kR (sJ (sI (q_rem x a g b gb k t) 206 k (2)) 167 a (q_ltag x a)) 150 a = kR x 150 a from (by simp [kI_sNew, kJ_sNew, kR_sNew, kN_sNew, kI_sI, kI_sJ, kI_sR, kI_sA, kI_sB, kI_sC, kJ_sI, kJ_sJ, kJ_sR, kJ_sA, kJ_sB, kJ_sC, kR_sI, kR_sJ, kR_sR, kR_sA, kR_sB, kR_sC, kA_sI, kA_sJ, kA_sR, kA_sA, kA_sB, kA_sC, kB_sI, kB_sJ, kB_sR, kB_sA, kB_sB, kB_sC, kC_sI, kC_sJ, kC_sR, kC_sA, kC_sB, kC_sC, kN_sI, kN_sJ, kN_sR, kN_sA, kN_sB, kN_sC, q_rem_I, q_rem_J, q_rem_R])]; exact hgr) ?_
  refine lv_aload_n S.1 S.2.1 dX2_sendExcess_38 rfl (lv_at hl 3 rfl) ?_
  refine kx_gA S hK hW ha 0 150 rfl iX2 (by decide) rfl rfl (by decide) (by decide +kernel) dX2_sendExcess_39 (b := g) (by rw [show kR (sJ (sI (q_rem x a g b gb k t) 206 k (2)) 167 a (q_ltag x a)) 150 a = kR x 150 a from (by simp [kI_sNew, kJ_sNew, kR_sNew, kN_sNew, kI_sI, kI_sJ, kI_sR, kI_sA, kI_sB, kI_sC, kJ_sI, kJ_sJ, kJ_sR, kJ_sA, kJ_sB, kJ_sC, kR_sI, kR_sJ, kR_sR, kR_sA, kR_sB, kR_sC, kA_sI, kA_sJ, kA_sR, kA_sA, kA_sB, kA_sC, kB_sI, kB_sJ, kB_sR, kB_sA, kB_sB, kB_sC, kC_sI, kC_sJ, kC_sR, kC_sA, kC_sB, kC_sC, kN_sI, kN_sJ, kN_sR, kN_sA, kN_sB, kN_sC, q_rem_I, q_rem_J, q_rem_R])]; exact hgr) ?_
  refine kx_gJ S hK hW hg 5 105 rfl iX1 (by decide) rfl rfl (by decide) (by decide +kernel) dX2_sendExcess_42 (v := kJ x 105 g) (by simp [kI_sNew, kJ_sNew, kR_sNew, kN_sNew, kI_sI, kI_sJ, kI_sR, kI_sA, kI_sB, kI_sC, kJ_sI, kJ_sJ, kJ_sR, kJ_sA, kJ_sB, kJ_sC, kR_sI, kR_sJ, kR_sR, kR_sA, kR_sB, kR_sC, kA_sI, kA_sJ, kA_sR, kA_sA, kA_sB, kA_sC, kB_sI, kB_sJ, kB_sR, kB_sA, kB_sB, kB_sC, kC_sI, kC_sJ, kC_sR, kC_sA, kC_sB, kC_sC, kN_sI, kN_sJ, kN_sR, kN_sA, kN_sB, kN_sC, q_rem_I, q_rem_J, q_rem_R]) ?_
  refine lv_lload_n S.1 S.2.1 dX2_sendExcess_45 rfl (lv_at hl 2 rfl) ?_
  refine kx_maxl S hl.1 (by decide +kernel) (by decide +kernel) (by decide +kernel) (by decide +kernel) (Nat.le_of_ble_eq_true rfl) (Nat.le_of_ble_eq_true rfl) (by first | exact Nat.le_of_ble_eq_true rfl | exact Nat.le_refl _ | exact Nat.le_of_eq (Nat.zero_add _)) (by first | exact Nat.le_of_ble_eq_true rfl | exact Nat.le_of_eq (Nat.zero_add _) | exact Nat.le_refl _) dX2_sendExcess_46 ?_
  refine kx_pJ S hK hW hS hg 5 105  rfl iX1 tyX1_ok nmX1 (by decide) rfl rfl (by decide) (by decide +kernel) (Or.inl rfl) rfl dX2_sendExcess_49 (fun H locs hW hS => ?_)
  refine lv_aload_n S.1 S.2.1 dX2_sendExcess_52 rfl (lv_at hl 3 rfl) ?_
  refine kx_gA S hK hW ha 0 150 rfl iX2 (by decide) rfl rfl (by decide) (by decide +kernel) dX2_sendExcess_53 (b := g) (by rw [show kR (sJ (sJ (sI (q_rem x a g b gb k t) 206 k (2)) 167 a (q_ltag x a)) 105 g (if (q_ltag x a) < (kJ x 105 g) then (kJ x 105 g) else (q_ltag x a))) 150 a = kR x 150 a from (by simp [kI_sNew, kJ_sNew, kR_sNew, kN_sNew, kI_sI, kI_sJ, kI_sR, kI_sA, kI_sB, kI_sC, kJ_sI, kJ_sJ, kJ_sR, kJ_sA, kJ_sB, kJ_sC, kR_sI, kR_sJ, kR_sR, kR_sA, kR_sB, kR_sC, kA_sI, kA_sJ, kA_sR, kA_sA, kA_sB, kA_sC, kB_sI, kB_sJ, kB_sR, kB_sA, kB_sB, kB_sC, kC_sI, kC_sJ, kC_sR, kC_sA, kC_sB, kC_sC, kN_sI, kN_sJ, kN_sR, kN_sA, kN_sB, kN_sC, q_rem_I, q_rem_J, q_rem_R])]; exact hgr) ?_
  refine lv_lload S.1 S.2.1 dX2_sendExcess_56 (lv_at hl 1 rfl) ?_
  refine kx_pJ S hK hW hS hg 4 104  rfl iX1 tyX1_ok nmX1 (by decide) rfl rfl (by decide) (by decide +kernel) (Or.inl rfl) rfl dX2_sendExcess_58 (fun H locs hW hS => ?_)
  refine lv_aload_n S.1 S.2.1 dX2_sendExcess_61 rfl (lv_at hl 3 rfl) ?_
  refine lv_dup S.1 S.2.1 dX2_sendExcess_62 rfl ?_
  refine kx_gI S hK hW ha 12 162 rfl iX2 (by decide) rfl rfl (by decide) (by decide +kernel) dX2_sendExcess_63 (v := kI x 162 a) (by simp [kI_sNew, kJ_sNew, kR_sNew, kN_sNew, kI_sI, kI_sJ, kI_sR, kI_sA, kI_sB, kI_sC, kJ_sI, kJ_sJ, kJ_sR, kJ_sA, kJ_sB, kJ_sC, kR_sI, kR_sJ, kR_sR, kR_sA, kR_sB, kR_sC, kA_sI, kA_sJ, kA_sR, kA_sA, kA_sB, kA_sC, kB_sI, kB_sJ, kB_sR, kB_sA, kB_sB, kB_sC, kC_sI, kC_sJ, kC_sR, kC_sA, kC_sB, kC_sC, kN_sI, kN_sJ, kN_sR, kN_sA, kN_sB, kN_sC, q_rem_I, q_rem_J, q_rem_R]) ?_
  refine lv_aload S.1 S.2.1 dX2_sendExcess_66 (lv_at hl 0 rfl) ?_
  refine kx_gI S hK hW hk 2 202 rfl iX3 (by decide) rfl rfl (by decide) (by decide +kernel) dX2_sendExcess_68 (v := kI x 202 k) (by simp [kI_sNew, kJ_sNew, kR_sNew, kN_sNew, kI_sI, kI_sJ, kI_sR, kI_sA, kI_sB, kI_sC, kJ_sI, kJ_sJ, kJ_sR, kJ_sA, kJ_sB, kJ_sC, kR_sI, kR_sJ, kR_sR, kR_sA, kR_sB, kR_sC, kA_sI, kA_sJ, kA_sR, kA_sA, kA_sB, kA_sC, kB_sI, kB_sJ, kB_sR, kB_sA, kB_sB, kB_sC, kC_sI, kC_sJ, kC_sR, kC_sA, kC_sB, kC_sC, kN_sI, kN_sJ, kN_sR, kN_sA, kN_sB, kN_sC, q_rem_I, q_rem_J, q_rem_R]) ?_
  refine lv_iadd S.1 S.2.1 dX2_sendExcess_71 ?_
  refine kx_pI S hK hW hS ha 12 162  rfl iX2 tyX2_ok nmX2 (by decide) rfl rfl (by decide) (by decide +kernel) (Or.inl rfl) rfl dX2_sendExcess_72 (fun H locs hW hS => ?_)
  refine lv_aload S.1 S.2.1 dX2_sendExcess_75 (lv_at hl 0 rfl) ?_
  refine kw_aret S hr (Or.inl ⟨_, rfl⟩) hlk (v := some k) hW hS (by decide) (by decide) dX2_sendExcess_77 ?_
  refine ⟨?_, rfl, ?_⟩ <;> first | rfl | (simp [q_sexc, kw_b]; done) | (simp [q_sexc, kw_b, kI_sNew, kJ_sNew, kR_sNew, kN_sNew, kI_sI, kI_sJ, kI_sR, kI_sA, kI_sB, kI_sC, kJ_sI, kJ_sJ, kJ_sR, kJ_sA, kJ_sB, kJ_sC, kR_sI, kR_sJ, kR_sR, kR_sA, kR_sB, kR_sC, kA_sI, kA_sJ, kA_sR, kA_sA, kA_sB, kA_sC, kB_sI, kB_sJ, kB_sR, kB_sA, kB_sB, kB_sC, kC_sI, kC_sJ, kC_sR, kC_sA, kC_sB, kC_sC, kN_sI, kN_sJ, kN_sR, kN_sA, kN_sB, kN_sC, q_rem_I, q_rem_J, q_rem_R]; done)
set_option maxHeartbeats 1000000 in
set_option maxRecDepth 100000 in
/-- Leaf.figure -/
theorem c_X2_figure (l : Launch) (G : kw_G) (nu : Nat → Option Nat) (x : kw_St) (a : Nat) (w : Int32) (ha : nu a = some 3)  : kw_M l G yX2_figure wsX2_figure { frames := 0, cells := 0, slots := 0, locals := 0 } 0 0 [.ref a, .int (w)] nu x (kw_P nu (some (.int (q_lfig x a w))) (x)) := by
  refine kw_M.ofW (cc := cX2_figure) (maxL := 2) (ret := (some .int)) (by decide) rfl (Nat.le_of_ble_eq_true rfl) ?_
  intro p e s m args below meth c A ls S hr hlk hnm hK hZ hA hW hS hl
  have hl : lv_has ls 2 [(0, .ref a), (1, .int (w))] := hl
  have iX2 : ∀ w ∈ wsX20, w ∈ wsX2_figure := by decide +kernel
  refine lv_iload_n S.1 S.2.1 dX2_figure_0 rfl (lv_at hl 1 rfl) ?_
  by_cases w1 : w = 0
  · skip
    subst w1
    refine lv_tableIn (tgt := 48) S.1 S.2.1 dX2_figure_1 (by decide) (by decide) rfl (by decide) ?_
    refine lv_aload_n S.1 S.2.1 dX2_figure_48 rfl (lv_at hl 0 rfl) ?_
    refine kx_gI S hK hW ha 9 159 rfl iX2 (by decide) rfl rfl (by decide) (by decide +kernel) dX2_figure_49 (v := kI x 159 a) rfl ?_
    refine kw_iret S hr hlk hW hS (by decide) (by decide) dX2_figure_52 ?_
    refine ⟨?_, rfl, ?_⟩ <;> first | rfl | (simp [q_lfig, kw_b]; done) | (simp [q_lfig, kw_b, kI_sNew, kJ_sNew, kR_sNew, kN_sNew, kI_sI, kI_sJ, kI_sR, kI_sA, kI_sB, kI_sC, kJ_sI, kJ_sJ, kJ_sR, kJ_sA, kJ_sB, kJ_sC, kR_sI, kR_sJ, kR_sR, kR_sA, kR_sB, kR_sC, kA_sI, kA_sJ, kA_sR, kA_sA, kA_sB, kA_sC, kB_sI, kB_sJ, kB_sR, kB_sA, kB_sB, kB_sC, kC_sI, kC_sJ, kC_sR, kC_sA, kC_sB, kC_sC, kN_sI, kN_sJ, kN_sR, kN_sA, kN_sB, kN_sC]; done)
  by_cases w2 : w = 1
  · skip
    subst w2
    refine lv_tableIn (tgt := 53) S.1 S.2.1 dX2_figure_1 (by decide) (by decide) rfl (by decide) ?_
    refine lv_aload_n S.1 S.2.1 dX2_figure_53 rfl (lv_at hl 0 rfl) ?_
    refine kx_gI S hK hW ha 10 160 rfl iX2 (by decide) rfl rfl (by decide) (by decide +kernel) dX2_figure_54 (v := kI x 160 a) rfl ?_
    refine kw_iret S hr hlk hW hS (by decide) (by decide) dX2_figure_57 ?_
    refine ⟨?_, rfl, ?_⟩ <;> first | rfl | (simp [q_lfig, w1, kw_b]; done) | (simp [q_lfig, w1, kw_b, kI_sNew, kJ_sNew, kR_sNew, kN_sNew, kI_sI, kI_sJ, kI_sR, kI_sA, kI_sB, kI_sC, kJ_sI, kJ_sJ, kJ_sR, kJ_sA, kJ_sB, kJ_sC, kR_sI, kR_sJ, kR_sR, kR_sA, kR_sB, kR_sC, kA_sI, kA_sJ, kA_sR, kA_sA, kA_sB, kA_sC, kB_sI, kB_sJ, kB_sR, kB_sA, kB_sB, kB_sC, kC_sI, kC_sJ, kC_sR, kC_sA, kC_sB, kC_sC, kN_sI, kN_sJ, kN_sR, kN_sA, kN_sB, kN_sC]; done)
  by_cases w3 : w = 2
  · skip
    subst w3
    refine lv_tableIn (tgt := 58) S.1 S.2.1 dX2_figure_1 (by decide) (by decide) rfl (by decide) ?_
    refine lv_aload_n S.1 S.2.1 dX2_figure_58 rfl (lv_at hl 0 rfl) ?_
    refine kx_gI S hK hW ha 11 161 rfl iX2 (by decide) rfl rfl (by decide) (by decide +kernel) dX2_figure_59 (v := kI x 161 a) rfl ?_
    refine kw_iret S hr hlk hW hS (by decide) (by decide) dX2_figure_62 ?_
    refine ⟨?_, rfl, ?_⟩ <;> first | rfl | (simp [q_lfig, w1, w2, kw_b]; done) | (simp [q_lfig, w1, w2, kw_b, kI_sNew, kJ_sNew, kR_sNew, kN_sNew, kI_sI, kI_sJ, kI_sR, kI_sA, kI_sB, kI_sC, kJ_sI, kJ_sJ, kJ_sR, kJ_sA, kJ_sB, kJ_sC, kR_sI, kR_sJ, kR_sR, kR_sA, kR_sB, kR_sC, kA_sI, kA_sJ, kA_sR, kA_sA, kA_sB, kA_sC, kB_sI, kB_sJ, kB_sR, kB_sA, kB_sB, kB_sC, kC_sI, kC_sJ, kC_sR, kC_sA, kC_sB, kC_sC, kN_sI, kN_sJ, kN_sR, kN_sA, kN_sB, kN_sC]; done)
  by_cases w4 : w = 3
  · skip
    subst w4
    refine lv_tableIn (tgt := 63) S.1 S.2.1 dX2_figure_1 (by decide) (by decide) rfl (by decide) ?_
    refine lv_aload_n S.1 S.2.1 dX2_figure_63 rfl (lv_at hl 0 rfl) ?_
    refine kx_gI S hK hW ha 12 162 rfl iX2 (by decide) rfl rfl (by decide) (by decide +kernel) dX2_figure_64 (v := kI x 162 a) rfl ?_
    refine kw_iret S hr hlk hW hS (by decide) (by decide) dX2_figure_67 ?_
    refine ⟨?_, rfl, ?_⟩ <;> first | rfl | (simp [q_lfig, w1, w2, w3, kw_b]; done) | (simp [q_lfig, w1, w2, w3, kw_b, kI_sNew, kJ_sNew, kR_sNew, kN_sNew, kI_sI, kI_sJ, kI_sR, kI_sA, kI_sB, kI_sC, kJ_sI, kJ_sJ, kJ_sR, kJ_sA, kJ_sB, kJ_sC, kR_sI, kR_sJ, kR_sR, kR_sA, kR_sB, kR_sC, kA_sI, kA_sJ, kA_sR, kA_sA, kA_sB, kA_sC, kB_sI, kB_sJ, kB_sR, kB_sA, kB_sB, kB_sC, kC_sI, kC_sJ, kC_sR, kC_sA, kC_sB, kC_sC, kN_sI, kN_sJ, kN_sR, kN_sA, kN_sB, kN_sC]; done)
  by_cases w5 : w = 4
  · skip
    subst w5
    refine lv_tableIn (tgt := 68) S.1 S.2.1 dX2_figure_1 (by decide) (by decide) rfl (by decide) ?_
    refine lv_aload_n S.1 S.2.1 dX2_figure_68 rfl (lv_at hl 0 rfl) ?_
    refine kx_gI S hK hW ha 13 163 rfl iX2 (by decide) rfl rfl (by decide) (by decide +kernel) dX2_figure_69 (v := kI x 163 a) rfl ?_
    refine kw_iret S hr hlk hW hS (by decide) (by decide) dX2_figure_72 ?_
    refine ⟨?_, rfl, ?_⟩ <;> first | rfl | (simp [q_lfig, w1, w2, w3, w4, kw_b]; done) | (simp [q_lfig, w1, w2, w3, w4, kw_b, kI_sNew, kJ_sNew, kR_sNew, kN_sNew, kI_sI, kI_sJ, kI_sR, kI_sA, kI_sB, kI_sC, kJ_sI, kJ_sJ, kJ_sR, kJ_sA, kJ_sB, kJ_sC, kR_sI, kR_sJ, kR_sR, kR_sA, kR_sB, kR_sC, kA_sI, kA_sJ, kA_sR, kA_sA, kA_sB, kA_sC, kB_sI, kB_sJ, kB_sR, kB_sA, kB_sB, kB_sC, kC_sI, kC_sJ, kC_sR, kC_sA, kC_sB, kC_sC, kN_sI, kN_sJ, kN_sR, kN_sA, kN_sB, kN_sC]; done)
  by_cases w6 : w = 5
  · skip
    subst w6
    refine lv_tableIn (tgt := 73) S.1 S.2.1 dX2_figure_1 (by decide) (by decide) rfl (by decide) ?_
    refine lv_aload_n S.1 S.2.1 dX2_figure_73 rfl (lv_at hl 0 rfl) ?_
    refine kx_gI S hK hW ha 14 164 rfl iX2 (by decide) rfl rfl (by decide) (by decide +kernel) dX2_figure_74 (v := kI x 164 a) rfl ?_
    refine kw_iret S hr hlk hW hS (by decide) (by decide) dX2_figure_77 ?_
    refine ⟨?_, rfl, ?_⟩ <;> first | rfl | (simp [q_lfig, w1, w2, w3, w4, w5, kw_b]; done) | (simp [q_lfig, w1, w2, w3, w4, w5, kw_b, kI_sNew, kJ_sNew, kR_sNew, kN_sNew, kI_sI, kI_sJ, kI_sR, kI_sA, kI_sB, kI_sC, kJ_sI, kJ_sJ, kJ_sR, kJ_sA, kJ_sB, kJ_sC, kR_sI, kR_sJ, kR_sR, kR_sA, kR_sB, kR_sC, kA_sI, kA_sJ, kA_sR, kA_sA, kA_sB, kA_sC, kB_sI, kB_sJ, kB_sR, kB_sA, kB_sB, kB_sC, kC_sI, kC_sJ, kC_sR, kC_sA, kC_sB, kC_sC, kN_sI, kN_sJ, kN_sR, kN_sA, kN_sB, kN_sC]; done)
  by_cases w7 : w = 6
  · skip
    subst w7
    refine lv_tableIn (tgt := 78) S.1 S.2.1 dX2_figure_1 (by decide) (by decide) rfl (by decide) ?_
    refine lv_aload_n S.1 S.2.1 dX2_figure_78 rfl (lv_at hl 0 rfl) ?_
    refine kx_gI S hK hW ha 15 165 rfl iX2 (by decide) rfl rfl (by decide) (by decide +kernel) dX2_figure_79 (v := kI x 165 a) rfl ?_
    refine kw_iret S hr hlk hW hS (by decide) (by decide) dX2_figure_82 ?_
    refine ⟨?_, rfl, ?_⟩ <;> first | rfl | (simp [q_lfig, w1, w2, w3, w4, w5, w6, kw_b]; done) | (simp [q_lfig, w1, w2, w3, w4, w5, w6, kw_b, kI_sNew, kJ_sNew, kR_sNew, kN_sNew, kI_sI, kI_sJ, kI_sR, kI_sA, kI_sB, kI_sC, kJ_sI, kJ_sJ, kJ_sR, kJ_sA, kJ_sB, kJ_sC, kR_sI, kR_sJ, kR_sR, kR_sA, kR_sB, kR_sC, kA_sI, kA_sJ, kA_sR, kA_sA, kA_sB, kA_sC, kB_sI, kB_sJ, kB_sR, kB_sA, kB_sB, kB_sC, kC_sI, kC_sJ, kC_sR, kC_sA, kC_sB, kC_sC, kN_sI, kN_sJ, kN_sR, kN_sA, kN_sB, kN_sC]; done)
  by_cases w8 : w = 7
  · skip
    subst w8
    refine lv_tableIn (tgt := 83) S.1 S.2.1 dX2_figure_1 (by decide) (by decide) rfl (by decide) ?_
    refine lv_aload_n S.1 S.2.1 dX2_figure_83 rfl (lv_at hl 0 rfl) ?_
    refine kx_gI S hK hW ha 16 166 rfl iX2 (by decide) rfl rfl (by decide) (by decide +kernel) dX2_figure_84 (v := kI x 166 a) rfl ?_
    refine kw_iret S hr hlk hW hS (by decide) (by decide) dX2_figure_87 ?_
    refine ⟨?_, rfl, ?_⟩ <;> first | rfl | (simp [q_lfig, w1, w2, w3, w4, w5, w6, w7, kw_b]; done) | (simp [q_lfig, w1, w2, w3, w4, w5, w6, w7, kw_b, kI_sNew, kJ_sNew, kR_sNew, kN_sNew, kI_sI, kI_sJ, kI_sR, kI_sA, kI_sB, kI_sC, kJ_sI, kJ_sJ, kJ_sR, kJ_sA, kJ_sB, kJ_sC, kR_sI, kR_sJ, kR_sR, kR_sA, kR_sB, kR_sC, kA_sI, kA_sJ, kA_sR, kA_sA, kA_sB, kA_sC, kB_sI, kB_sJ, kB_sR, kB_sA, kB_sB, kB_sC, kC_sI, kC_sJ, kC_sR, kC_sA, kC_sB, kC_sC, kN_sI, kN_sJ, kN_sR, kN_sA, kN_sB, kN_sC]; done)
  refine lv_tableOut (tgt := 88) S.1 S.2.1 dX2_figure_1 (kw_out8 w1 w2 w3 w4 w5 w6 w7 w8) (by decide) ?_
  refine lv_iconst (v := (-1)) S.1 S.2.1 dX2_figure_88 (by decide) ?_
  refine kw_iret S hr hlk hW hS (by decide) (by decide) dX2_figure_89 ?_
  refine ⟨?_, rfl, ?_⟩ <;> first | rfl | (simp [q_lfig, w1, w2, w3, w4, w5, w6, w7, w8, kw_b]; done) | (simp [q_lfig, w1, w2, w3, w4, w5, w6, w7, w8, kw_b, kI_sNew, kJ_sNew, kR_sNew, kN_sNew, kI_sI, kI_sJ, kI_sR, kI_sA, kI_sB, kI_sC, kJ_sI, kJ_sJ, kJ_sR, kJ_sA, kJ_sB, kJ_sC, kR_sI, kR_sJ, kR_sR, kR_sA, kR_sB, kR_sC, kA_sI, kA_sJ, kA_sR, kA_sA, kA_sB, kA_sC, kB_sI, kB_sJ, kB_sR, kB_sA, kB_sB, kB_sC, kC_sI, kC_sJ, kC_sR, kC_sA, kC_sB, kC_sC, kN_sI, kN_sJ, kN_sR, kN_sA, kN_sB, kN_sC]; done)
def kw_wi (v lo hi : Int32) : Bool := decide (¬ v < lo ∧ ¬ hi < v)
theorem kw_wi_iff {v lo hi : Int32} : kw_wi v lo hi = true ↔ lo ≤ v ∧ v ≤ hi := by simp [kw_wi]
set_option maxHeartbeats 1000000 in
set_option maxRecDepth 100000 in
/-- isWithin -/
theorem c_X4_isWithin (l : Launch) (G : kw_G) (nu : Nat → Option Nat) (x : kw_St) (v : Int32) (lo : Int32) (hi : Int32)   : kw_M l G yX4_isWithin wsX4_isWithin { frames := 0, cells := 0, slots := 0, locals := 0 } 0 0 [.int (v), .int (lo), .int (hi)] nu x (kw_P nu (some (.int (kw_b (kw_wi v lo hi = true)))) (x)) := by
  refine kw_M.ofW (cc := cX4_isWithin) (maxL := 3) (ret := (some .boolean)) (by decide) rfl (Nat.le_of_ble_eq_true rfl) ?_
  intro p e s m args below meth c A ls S hr hlk hnm hK hZ hA hW hS hl
  have hl : lv_has ls 3 [(0, .int (v)), (1, .int (lo)), (2, .int (hi))] := hl
  refine lv_iload_n S.1 S.2.1 dX4_isWithin_0 rfl (lv_at hl 0 rfl) ?_
  refine lv_iload_n S.1 S.2.1 dX4_isWithin_1 rfl (lv_at hl 1 rfl) ?_
  refine lv_icmp_lt (tgt := 14) S.1 S.2.1 dX4_isWithin_2 (by decide) (fun c1 => ?_) (fun c1 => ?_)
  · skip
    refine lv_iconst (v := 0) S.1 S.2.1 dX4_isWithin_14 (by decide) ?_
    refine kw_zret S hr hlk hW hS (by decide) (by decide) dX4_isWithin_15 kw_n0 ?_
    refine ⟨?_, rfl, ?_⟩ <;> first | rfl | (simp [kw_wi, c1, kw_b]; done) | (simp [kw_wi, c1, kw_b, kI_sNew, kJ_sNew, kR_sNew, kN_sNew, kI_sI, kI_sJ, kI_sR, kI_sA, kI_sB, kI_sC, kJ_sI, kJ_sJ, kJ_sR, kJ_sA, kJ_sB, kJ_sC, kR_sI, kR_sJ, kR_sR, kR_sA, kR_sB, kR_sC, kA_sI, kA_sJ, kA_sR, kA_sA, kA_sB, kA_sC, kB_sI, kB_sJ, kB_sR, kB_sA, kB_sB, kB_sC, kC_sI, kC_sJ, kC_sR, kC_sA, kC_sB, kC_sC, kN_sI, kN_sJ, kN_sR, kN_sA, kN_sB, kN_sC]; done)
  · skip
    refine lv_iload_n S.1 S.2.1 dX4_isWithin_5 rfl (lv_at hl 0 rfl) ?_
    refine lv_iload_n S.1 S.2.1 dX4_isWithin_6 rfl (lv_at hl 2 rfl) ?_
    refine lv_icmp_gt (tgt := 14) S.1 S.2.1 dX4_isWithin_7 (by decide) (fun c2 => ?_) (fun c2 => ?_)
    · skip
      refine lv_iconst (v := 0) S.1 S.2.1 dX4_isWithin_14 (by decide) ?_
      refine kw_zret S hr hlk hW hS (by decide) (by decide) dX4_isWithin_15 kw_n0 ?_
      refine ⟨?_, rfl, ?_⟩ <;> first | rfl | (simp [kw_wi, c1, c2, kw_b]; done) | (simp [kw_wi, c1, c2, kw_b, kI_sNew, kJ_sNew, kR_sNew, kN_sNew, kI_sI, kI_sJ, kI_sR, kI_sA, kI_sB, kI_sC, kJ_sI, kJ_sJ, kJ_sR, kJ_sA, kJ_sB, kJ_sC, kR_sI, kR_sJ, kR_sR, kR_sA, kR_sB, kR_sC, kA_sI, kA_sJ, kA_sR, kA_sA, kA_sB, kA_sC, kB_sI, kB_sJ, kB_sR, kB_sA, kB_sB, kB_sC, kC_sI, kC_sJ, kC_sR, kC_sA, kC_sB, kC_sC, kN_sI, kN_sJ, kN_sR, kN_sA, kN_sB, kN_sC]; done)
    · skip
      refine lv_iconst (v := 1) S.1 S.2.1 dX4_isWithin_10 (by decide) ?_
      refine lv_goto (tgt := 15) S.1 S.2.1 dX4_isWithin_11 (by decide) ?_
      refine kw_zret S hr hlk hW hS (by decide) (by decide) dX4_isWithin_15 kw_n1 ?_
      refine ⟨?_, rfl, ?_⟩ <;> first | rfl | (simp [kw_wi, c1, c2, kw_b]; done) | (simp [kw_wi, c1, c2, kw_b, kI_sNew, kJ_sNew, kR_sNew, kN_sNew, kI_sI, kI_sJ, kI_sR, kI_sA, kI_sB, kI_sC, kJ_sI, kJ_sJ, kJ_sR, kJ_sA, kJ_sB, kJ_sC, kR_sI, kR_sJ, kR_sR, kR_sA, kR_sB, kR_sC, kA_sI, kA_sJ, kA_sR, kA_sA, kA_sB, kA_sC, kB_sI, kB_sJ, kB_sR, kB_sA, kB_sB, kB_sC, kC_sI, kC_sJ, kC_sR, kC_sA, kC_sB, kC_sC, kN_sI, kN_sJ, kN_sR, kN_sA, kN_sB, kN_sC]; done)
set_option maxHeartbeats 1000000 in
set_option maxRecDepth 100000 in
/-- isWeight -/
theorem c_X4_isWeight (l : Launch) (G : kw_G) (nu : Nat → Option Nat) (x : kw_St) (v : Int32)   : kw_M l G yX4_isWeight wsX4_isWeight { frames := 1, cells := 0, slots := 0, locals := 22 } 0 0 [.int (v)] nu x (kw_P nu (some (.int (kw_b (kw_wi v 1 12 = true)))) (x)) := by
  refine kw_M.ofW (cc := cX4_isWeight) (maxL := 1) (ret := (some .boolean)) (by decide) rfl (Nat.le_of_ble_eq_true rfl) ?_
  intro p e s m args below meth c A ls S hr hlk hnm hK hZ hA hW hS hl
  have hl : lv_has ls 1 [(0, .int (v))] := hl
  refine lv_iload_n S.1 S.2.1 dX4_isWeight_0 rfl (lv_at hl 0 rfl) ?_
  refine lv_iconst (v := 1) S.1 S.2.1 dX4_isWeight_1 (by decide) ?_
  refine lv_bipush (v := 12) S.1 S.2.1 dX4_isWeight_2 (by decide) ?_
  refine kx_cS (As := [.int (v), .int (1), .int (12)]) (rest := []) (st1 := [.int (kw_b (kw_wi v 1 12 = true))]) S hK hZ hA hW hS (c_X4_isWithin l G nu x v 1 12 ) (va_cwS 3 S.2.2.2.2 gX4_isWeight_X4_isWithin rfl rfl rfl (by decide +kernel) ⟨Nat.le_of_ble_eq_true rfl, Nat.le_of_ble_eq_true rfl⟩) rfl hl.1 rfl (Nat.le_of_ble_eq_true rfl) dX4_isWeight_4 ⟨Nat.le_of_ble_eq_true rfl, Nat.le_of_ble_eq_true rfl⟩ rfl (fun H locs hW hS => ?_)
  refine kw_zret S hr hlk hW hS (by decide) (by decide) dX4_isWeight_7 kw_b_n ?_
  refine ⟨?_, rfl, ?_⟩ <;> first | rfl | (simp [kw_b]; done) | (simp [kw_b, kI_sNew, kJ_sNew, kR_sNew, kN_sNew, kI_sI, kI_sJ, kI_sR, kI_sA, kI_sB, kI_sC, kJ_sI, kJ_sJ, kJ_sR, kJ_sA, kJ_sB, kJ_sC, kR_sI, kR_sJ, kR_sR, kR_sA, kR_sB, kR_sC, kA_sI, kA_sJ, kA_sR, kA_sA, kA_sB, kA_sC, kB_sI, kB_sJ, kB_sR, kB_sA, kB_sB, kB_sC, kC_sI, kC_sJ, kC_sR, kC_sA, kC_sB, kC_sC, kN_sI, kN_sJ, kN_sR, kN_sA, kN_sB, kN_sC]; done)
set_option maxHeartbeats 1000000 in
set_option maxRecDepth 100000 in
/-- isCeiling -/
theorem c_X4_isCeiling (l : Launch) (G : kw_G) (nu : Nat → Option Nat) (x : kw_St) (v : Int32) (bu : Int32)   : kw_M l G yX4_isCeiling wsX4_isCeiling { frames := 1, cells := 0, slots := 0, locals := 22 } 0 0 [.int (v), .int (bu)] nu x (kw_P nu (some (.int (kw_b (kw_wi v 0 1000 = true ∧ kw_wi bu 1500 20000 = true)))) (x)) := by
  refine kw_M.ofW (cc := cX4_isCeiling) (maxL := 2) (ret := (some .boolean)) (by decide) rfl (Nat.le_of_ble_eq_true rfl) ?_
  intro p e s m args below meth c A ls S hr hlk hnm hK hZ hA hW hS hl
  have hl : lv_has ls 2 [(0, .int (v)), (1, .int (bu))] := hl
  refine lv_iload_n S.1 S.2.1 dX4_isCeiling_0 rfl (lv_at hl 0 rfl) ?_
  refine lv_iconst (v := 0) S.1 S.2.1 dX4_isCeiling_1 (by decide) ?_
  refine lv_sipush (v := 1000) S.1 S.2.1 dX4_isCeiling_2 (by decide) ?_
  refine kx_cS (As := [.int (v), .int (0), .int (1000)]) (rest := []) (st1 := [.int (kw_b (kw_wi v 0 1000 = true))]) S hK hZ hA hW hS (c_X4_isWithin l G nu x v 0 1000 ) (va_cwS 3 S.2.2.2.2 gX4_isCeiling_X4_isWithin rfl rfl rfl (by decide +kernel) ⟨Nat.le_of_ble_eq_true rfl, Nat.le_of_ble_eq_true rfl⟩) rfl hl.1 rfl (Nat.le_of_ble_eq_true rfl) dX4_isCeiling_5 ⟨Nat.le_of_ble_eq_true rfl, Nat.le_of_ble_eq_true rfl⟩ rfl (fun H locs hW hS => ?_)
  refine kx_ifz_eq (tgt := 28) S dX4_isCeiling_8 (by decide) (fun c1 => ?_) (fun c1 => ?_)
  · skip
    refine lv_iconst (v := 0) S.1 S.2.1 dX4_isCeiling_28 (by decide) ?_
    refine kw_zret S hr hlk hW hS (by decide) (by decide) dX4_isCeiling_29 kw_n0 ?_
    refine ⟨?_, rfl, ?_⟩ <;> first | rfl | (simp [c1, kw_b]; done) | (simp [c1, kw_b, kI_sNew, kJ_sNew, kR_sNew, kN_sNew, kI_sI, kI_sJ, kI_sR, kI_sA, kI_sB, kI_sC, kJ_sI, kJ_sJ, kJ_sR, kJ_sA, kJ_sB, kJ_sC, kR_sI, kR_sJ, kR_sR, kR_sA, kR_sB, kR_sC, kA_sI, kA_sJ, kA_sR, kA_sA, kA_sB, kA_sC, kB_sI, kB_sJ, kB_sR, kB_sA, kB_sB, kB_sC, kC_sI, kC_sJ, kC_sR, kC_sA, kC_sB, kC_sC, kN_sI, kN_sJ, kN_sR, kN_sA, kN_sB, kN_sC]; done)
  · skip
    refine lv_iload_n S.1 S.2.1 dX4_isCeiling_11 rfl (lv_at hl 1 rfl) ?_
    refine lv_sipush (v := 1500) S.1 S.2.1 dX4_isCeiling_12 (by decide) ?_
    refine lv_sipush (v := 20000) S.1 S.2.1 dX4_isCeiling_15 (by decide) ?_
    refine kx_cS (As := [.int (bu), .int (1500), .int (20000)]) (rest := []) (st1 := [.int (kw_b (kw_wi bu 1500 20000 = true))]) S hK hZ hA hW hS (c_X4_isWithin l G nu x bu 1500 20000 ) (va_cwS 3 S.2.2.2.2 gX4_isCeiling_X4_isWithin rfl rfl rfl (by decide +kernel) ⟨Nat.le_of_ble_eq_true rfl, Nat.le_of_ble_eq_true rfl⟩) rfl hl.1 rfl (Nat.le_of_ble_eq_true rfl) dX4_isCeiling_18 ⟨Nat.le_of_ble_eq_true rfl, Nat.le_of_ble_eq_true rfl⟩ rfl (fun H locs hW hS => ?_)
    refine kx_ifz_eq (tgt := 28) S dX4_isCeiling_21 (by decide) (fun c2 => ?_) (fun c2 => ?_)
    · skip
      refine lv_iconst (v := 0) S.1 S.2.1 dX4_isCeiling_28 (by decide) ?_
      refine kw_zret S hr hlk hW hS (by decide) (by decide) dX4_isCeiling_29 kw_n0 ?_
      refine ⟨?_, rfl, ?_⟩ <;> first | rfl | (simp [c1, c2, kw_b]; done) | (simp [c1, c2, kw_b, kI_sNew, kJ_sNew, kR_sNew, kN_sNew, kI_sI, kI_sJ, kI_sR, kI_sA, kI_sB, kI_sC, kJ_sI, kJ_sJ, kJ_sR, kJ_sA, kJ_sB, kJ_sC, kR_sI, kR_sJ, kR_sR, kR_sA, kR_sB, kR_sC, kA_sI, kA_sJ, kA_sR, kA_sA, kA_sB, kA_sC, kB_sI, kB_sJ, kB_sR, kB_sA, kB_sB, kB_sC, kC_sI, kC_sJ, kC_sR, kC_sA, kC_sB, kC_sC, kN_sI, kN_sJ, kN_sR, kN_sA, kN_sB, kN_sC]; done)
    · skip
      refine lv_iconst (v := 1) S.1 S.2.1 dX4_isCeiling_24 (by decide) ?_
      refine lv_goto (tgt := 29) S.1 S.2.1 dX4_isCeiling_25 (by decide) ?_
      refine kw_zret S hr hlk hW hS (by decide) (by decide) dX4_isCeiling_29 kw_n1 ?_
      refine ⟨?_, rfl, ?_⟩ <;> first | rfl | (simp [c1, c2, kw_b]; done) | (simp [c1, c2, kw_b, kI_sNew, kJ_sNew, kR_sNew, kN_sNew, kI_sI, kI_sJ, kI_sR, kI_sA, kI_sB, kI_sC, kJ_sI, kJ_sJ, kJ_sR, kJ_sA, kJ_sB, kJ_sC, kR_sI, kR_sJ, kR_sR, kR_sA, kR_sB, kR_sC, kA_sI, kA_sJ, kA_sR, kA_sA, kA_sB, kA_sC, kB_sI, kB_sJ, kB_sR, kB_sA, kB_sB, kB_sC, kC_sI, kC_sJ, kC_sR, kC_sA, kC_sB, kC_sC, kN_sI, kN_sJ, kN_sR, kN_sA, kN_sB, kN_sC]; done)
set_option maxHeartbeats 1000000 in
set_option maxRecDepth 100000 in
/-- isGuarantee -/
theorem c_X4_isGuarantee (l : Launch) (G : kw_G) (nu : Nat → Option Nat) (x : kw_St) (v : Int32)   : kw_M l G yX4_isGuarantee wsX4_isGuarantee { frames := 1, cells := 0, slots := 0, locals := 22 } 0 0 [.int (v)] nu x (kw_P nu (some (.int (kw_b (v = 0 ∨ kw_wi v 10 1000 = true)))) (x)) := by
  refine kw_M.ofW (cc := cX4_isGuarantee) (maxL := 1) (ret := (some .boolean)) (by decide) rfl (Nat.le_of_ble_eq_true rfl) ?_
  intro p e s m args below meth c A ls S hr hlk hnm hK hZ hA hW hS hl
  have hl : lv_has ls 1 [(0, .int (v))] := hl
  refine lv_iload_n S.1 S.2.1 dX4_isGuarantee_0 rfl (lv_at hl 0 rfl) ?_
  refine lv_if_eq (tgt := 16) S.1 S.2.1 dX4_isGuarantee_1 (by decide) (fun c1 => ?_) (fun c1 => ?_)
  · skip
    refine lv_iconst (v := 1) S.1 S.2.1 dX4_isGuarantee_16 (by decide) ?_
    refine lv_goto (tgt := 21) S.1 S.2.1 dX4_isGuarantee_17 (by decide) ?_
    refine kw_zret S hr hlk hW hS (by decide) (by decide) dX4_isGuarantee_21 kw_n1 ?_
    refine ⟨?_, rfl, ?_⟩ <;> first | rfl | (simp [eq_true c1, kw_b]; done) | (simp [eq_true c1, kw_b, kI_sNew, kJ_sNew, kR_sNew, kN_sNew, kI_sI, kI_sJ, kI_sR, kI_sA, kI_sB, kI_sC, kJ_sI, kJ_sJ, kJ_sR, kJ_sA, kJ_sB, kJ_sC, kR_sI, kR_sJ, kR_sR, kR_sA, kR_sB, kR_sC, kA_sI, kA_sJ, kA_sR, kA_sA, kA_sB, kA_sC, kB_sI, kB_sJ, kB_sR, kB_sA, kB_sB, kB_sC, kC_sI, kC_sJ, kC_sR, kC_sA, kC_sB, kC_sC, kN_sI, kN_sJ, kN_sR, kN_sA, kN_sB, kN_sC]; done)
  · skip
    refine lv_iload_n S.1 S.2.1 dX4_isGuarantee_4 rfl (lv_at hl 0 rfl) ?_
    refine lv_bipush (v := 10) S.1 S.2.1 dX4_isGuarantee_5 (by decide) ?_
    refine lv_sipush (v := 1000) S.1 S.2.1 dX4_isGuarantee_7 (by decide) ?_
    refine kx_cS (As := [.int (v), .int (10), .int (1000)]) (rest := []) (st1 := [.int (kw_b (kw_wi v 10 1000 = true))]) S hK hZ hA hW hS (c_X4_isWithin l G nu x v 10 1000 ) (va_cwS 3 S.2.2.2.2 gX4_isGuarantee_X4_isWithin rfl rfl rfl (by decide +kernel) ⟨Nat.le_of_ble_eq_true rfl, Nat.le_of_ble_eq_true rfl⟩) rfl hl.1 rfl (Nat.le_of_ble_eq_true rfl) dX4_isGuarantee_10 ⟨Nat.le_of_ble_eq_true rfl, Nat.le_of_ble_eq_true rfl⟩ rfl (fun H locs hW hS => ?_)
    refine kx_ifz_eq (tgt := 20) S dX4_isGuarantee_13 (by decide) (fun c2 => ?_) (fun c2 => ?_)
    · skip
      refine lv_iconst (v := 0) S.1 S.2.1 dX4_isGuarantee_20 (by decide) ?_
      refine kw_zret S hr hlk hW hS (by decide) (by decide) dX4_isGuarantee_21 kw_n0 ?_
      refine ⟨?_, rfl, ?_⟩ <;> first | rfl | (simp [c1, c2, kw_b]; done) | (simp [c1, c2, kw_b, kI_sNew, kJ_sNew, kR_sNew, kN_sNew, kI_sI, kI_sJ, kI_sR, kI_sA, kI_sB, kI_sC, kJ_sI, kJ_sJ, kJ_sR, kJ_sA, kJ_sB, kJ_sC, kR_sI, kR_sJ, kR_sR, kR_sA, kR_sB, kR_sC, kA_sI, kA_sJ, kA_sR, kA_sA, kA_sB, kA_sC, kB_sI, kB_sJ, kB_sR, kB_sA, kB_sB, kB_sC, kC_sI, kC_sJ, kC_sR, kC_sA, kC_sB, kC_sC, kN_sI, kN_sJ, kN_sR, kN_sA, kN_sB, kN_sC]; done)
    · skip
      refine lv_iconst (v := 1) S.1 S.2.1 dX4_isGuarantee_16 (by decide) ?_
      refine lv_goto (tgt := 21) S.1 S.2.1 dX4_isGuarantee_17 (by decide) ?_
      refine kw_zret S hr hlk hW hS (by decide) (by decide) dX4_isGuarantee_21 kw_n1 ?_
      refine ⟨?_, rfl, ?_⟩ <;> first | rfl | (simp [c1, c2, kw_b]; done) | (simp [c1, c2, kw_b, kI_sNew, kJ_sNew, kR_sNew, kN_sNew, kI_sI, kI_sJ, kI_sR, kI_sA, kI_sB, kI_sC, kJ_sI, kJ_sJ, kJ_sR, kJ_sA, kJ_sB, kJ_sC, kR_sI, kR_sJ, kR_sR, kR_sA, kR_sB, kR_sC, kA_sI, kA_sJ, kA_sR, kA_sA, kA_sB, kA_sC, kB_sI, kB_sJ, kB_sR, kB_sA, kB_sB, kB_sC, kC_sI, kC_sJ, kC_sR, kC_sA, kC_sB, kC_sC, kN_sI, kN_sJ, kN_sR, kN_sA, kN_sB, kN_sC]; done)
set_option maxHeartbeats 1000000 in
set_option maxRecDepth 100000 in
/-- hasRoomFor -/
theorem c_X4_hasRoomFor (l : Launch) (G : kw_G) (nu : Nat → Option Nat) (x : kw_St) (o : Nat) (gu : Int32) (g : Nat) (gb : Nat) (ho : nu o = some 5) (hg : nu g = some 2) (hgb : nu gb = some 1) (hgc : kR x 101 g = some gb) : kw_M l G yX4_hasRoomFor wsX4_hasRoomFor { frames := 0, cells := 0, slots := 0, locals := 0 } 0 0 [.ref o, .int (gu), .ref g] nu x (kw_P nu (some (.int (kw_b (¬ 1000 - kI x 257 o < gu ∧ ¬ kI x 50 gb - kI x 102 g < gu)))) (x)) := by
  refine kw_M.ofW (cc := cX4_hasRoomFor) (maxL := 3) (ret := (some .boolean)) (by decide) rfl (Nat.le_of_ble_eq_true rfl) ?_
  intro p e s m args below meth c A ls S hr hlk hnm hK hZ hA hW hS hl
  have hl : lv_has ls 3 [(0, .ref o), (1, .int (gu)), (2, .ref g)] := hl
  have iX0 : ∀ w ∈ wsX00, w ∈ wsX4_hasRoomFor := by decide +kernel
  have iX1 : ∀ w ∈ wsX10, w ∈ wsX4_hasRoomFor := by decide +kernel
  have iX4 : ∀ w ∈ wsX40, w ∈ wsX4_hasRoomFor := by decide +kernel
  refine lv_iload_n S.1 S.2.1 dX4_hasRoomFor_0 rfl (lv_at hl 1 rfl) ?_
  refine lv_sipush (v := 1000) S.1 S.2.1 dX4_hasRoomFor_1 (by decide) ?_
  refine lv_aload_n S.1 S.2.1 dX4_hasRoomFor_4 rfl (lv_at hl 0 rfl) ?_
  refine kx_gI S hK hW ho 7 257 rfl iX4 (by decide) rfl rfl (by decide) (by decide +kernel) dX4_hasRoomFor_5 (v := kI x 257 o) rfl ?_
  refine lv_isub S.1 S.2.1 dX4_hasRoomFor_8 ?_
  refine lv_icmp_gt (tgt := 32) S.1 S.2.1 dX4_hasRoomFor_9 (by decide) (fun c1 => ?_) (fun c1 => ?_)
  · skip
    refine lv_iconst (v := 0) S.1 S.2.1 dX4_hasRoomFor_32 (by decide) ?_
    refine kw_zret S hr hlk hW hS (by decide) (by decide) dX4_hasRoomFor_33 kw_n0 ?_
    refine ⟨?_, rfl, ?_⟩ <;> first | rfl | (simp [c1, kw_b]; done) | (simp [c1, kw_b, kI_sNew, kJ_sNew, kR_sNew, kN_sNew, kI_sI, kI_sJ, kI_sR, kI_sA, kI_sB, kI_sC, kJ_sI, kJ_sJ, kJ_sR, kJ_sA, kJ_sB, kJ_sC, kR_sI, kR_sJ, kR_sR, kR_sA, kR_sB, kR_sC, kA_sI, kA_sJ, kA_sR, kA_sA, kA_sB, kA_sC, kB_sI, kB_sJ, kB_sR, kB_sA, kB_sB, kB_sC, kC_sI, kC_sJ, kC_sR, kC_sA, kC_sB, kC_sC, kN_sI, kN_sJ, kN_sR, kN_sA, kN_sB, kN_sC]; done)
  · skip
    refine lv_iload_n S.1 S.2.1 dX4_hasRoomFor_12 rfl (lv_at hl 1 rfl) ?_
    refine lv_aload_n S.1 S.2.1 dX4_hasRoomFor_13 rfl (lv_at hl 2 rfl) ?_
    refine kx_gA S hK hW hg 1 101 rfl iX1 (by decide) rfl rfl (by decide) (by decide +kernel) dX4_hasRoomFor_14 (b := gb) hgc ?_
    refine kx_gI S hK hW hgb 0 50 rfl iX0 (by decide) rfl rfl (by decide) (by decide +kernel) dX4_hasRoomFor_17 (v := kI x 50 gb) rfl ?_
    refine lv_aload_n S.1 S.2.1 dX4_hasRoomFor_20 rfl (lv_at hl 2 rfl) ?_
    refine kx_gI S hK hW hg 2 102 rfl iX1 (by decide) rfl rfl (by decide) (by decide +kernel) dX4_hasRoomFor_21 (v := kI x 102 g) rfl ?_
    refine lv_isub S.1 S.2.1 dX4_hasRoomFor_24 ?_
    refine lv_icmp_gt (tgt := 32) S.1 S.2.1 dX4_hasRoomFor_25 (by decide) (fun c2 => ?_) (fun c2 => ?_)
    · skip
      refine lv_iconst (v := 0) S.1 S.2.1 dX4_hasRoomFor_32 (by decide) ?_
      refine kw_zret S hr hlk hW hS (by decide) (by decide) dX4_hasRoomFor_33 kw_n0 ?_
      refine ⟨?_, rfl, ?_⟩ <;> first | rfl | (simp [c1, c2, kw_b]; done) | (simp [c1, c2, kw_b, kI_sNew, kJ_sNew, kR_sNew, kN_sNew, kI_sI, kI_sJ, kI_sR, kI_sA, kI_sB, kI_sC, kJ_sI, kJ_sJ, kJ_sR, kJ_sA, kJ_sB, kJ_sC, kR_sI, kR_sJ, kR_sR, kR_sA, kR_sB, kR_sC, kA_sI, kA_sJ, kA_sR, kA_sA, kA_sB, kA_sC, kB_sI, kB_sJ, kB_sR, kB_sA, kB_sB, kB_sC, kC_sI, kC_sJ, kC_sR, kC_sA, kC_sB, kC_sC, kN_sI, kN_sJ, kN_sR, kN_sA, kN_sB, kN_sC]; done)
    · skip
      refine lv_iconst (v := 1) S.1 S.2.1 dX4_hasRoomFor_28 (by decide) ?_
      refine lv_goto (tgt := 33) S.1 S.2.1 dX4_hasRoomFor_29 (by decide) ?_
      refine kw_zret S hr hlk hW hS (by decide) (by decide) dX4_hasRoomFor_33 kw_n1 ?_
      refine ⟨?_, rfl, ?_⟩ <;> first | rfl | (simp [c1, c2, kw_b]; done) | (simp [c1, c2, kw_b, kI_sNew, kJ_sNew, kR_sNew, kN_sNew, kI_sI, kI_sJ, kI_sR, kI_sA, kI_sB, kI_sC, kJ_sI, kJ_sJ, kJ_sR, kJ_sA, kJ_sB, kJ_sC, kR_sI, kR_sJ, kR_sR, kR_sA, kR_sB, kR_sC, kA_sI, kA_sJ, kA_sR, kA_sA, kA_sB, kA_sC, kB_sI, kB_sJ, kB_sR, kB_sA, kB_sB, kB_sC, kC_sI, kC_sJ, kC_sR, kC_sA, kC_sB, kC_sC, kN_sI, kN_sJ, kN_sR, kN_sA, kN_sB, kN_sC]; done)
set_option maxHeartbeats 1000000 in
set_option maxRecDepth 100000 in
/-- now -/
theorem c_X4_now (l : Launch) (G : kw_G) (nu : Nat → Option Nat) (x : kw_St) (o : Nat) (ho : nu o = some 5)  : kw_M l G yX4_now wsX4_now { frames := 0, cells := 0, slots := 0, locals := 0 } 0 0 [.ref o] nu x (kw_P nu (some (.int (kI x 254 o))) (x)) := by
  refine kw_M.ofW (cc := cX4_now) (maxL := 1) (ret := (some .int)) (by decide) rfl (Nat.le_of_ble_eq_true rfl) ?_
  intro p e s m args below meth c A ls S hr hlk hnm hK hZ hA hW hS hl
  have hl : lv_has ls 1 [(0, .ref o)] := hl
  have iX4 : ∀ w ∈ wsX40, w ∈ wsX4_now := by decide +kernel
  refine lv_aload_n S.1 S.2.1 dX4_now_0 rfl (lv_at hl 0 rfl) ?_
  refine kx_gI S hK hW ho 4 254 rfl iX4 (by decide) rfl rfl (by decide) (by decide +kernel) dX4_now_1 (v := kI x 254 o) rfl ?_
  refine kw_iret S hr hlk hW hS (by decide) (by decide) dX4_now_4 ?_
  refine ⟨?_, rfl, ?_⟩ <;> first | rfl | (simp [kw_b]; done) | (simp [kw_b, kI_sNew, kJ_sNew, kR_sNew, kN_sNew, kI_sI, kI_sJ, kI_sR, kI_sA, kI_sB, kI_sC, kJ_sI, kJ_sJ, kJ_sR, kJ_sA, kJ_sB, kJ_sC, kR_sI, kR_sJ, kR_sR, kR_sA, kR_sB, kR_sC, kA_sI, kA_sJ, kA_sR, kA_sA, kA_sB, kA_sC, kB_sI, kB_sJ, kB_sR, kB_sA, kB_sB, kB_sC, kC_sI, kC_sJ, kC_sR, kC_sA, kC_sB, kC_sC, kN_sI, kN_sJ, kN_sR, kN_sA, kN_sB, kN_sC]; done)
