/-! Leaf: its fields, what its methods answer and do -/
set_option maxHeartbeats 1000000 in
set_option maxRecDepth 100000 in
/-- Leaf(group, weight, guarantee, ceiling, limit) -/
theorem c_X2_init (l : Launch) (G : kw_G) (nu : Nat → Option Nat) (x : kw_St) (a : Nat) (g : Nat) (w : Int32) (gu : Int32) (b : Nat) (li : Int32) (ha : nu a = some 3)  : kw_M l G yX2_init wsX2_init { frames := 1, cells := 0, slots := 0, locals := 20 } 0 0 [.ref a, .ref g, .int (w), .int (gu), .ref b, .int (li)] nu x (kw_P nu (none) (sI (sR (sI (sI (sR x 150 a (some g)) 151 a w) 152 a gu) 153 a (some b)) 154 a li)) := by
  refine kw_M.ofW (cc := cX2_init) (maxL := 6) (ret := none) (by decide) rfl (Nat.le_of_ble_eq_true rfl) ?_
  intro p e s m args below meth c A ls S hr hlk hnm hK hZ hA hW hS hl
  have hl : lv_has ls 6 [(0, .ref a), (1, .ref g), (2, .int (w)), (3, .int (gu)), (4, .ref b), (5, .int (li))] := hl
  have iX2 : ∀ w ∈ wsX20, w ∈ wsX2_init := by decide +kernel
  refine lv_aload_n S.1 S.2.1 dX2_init_0 rfl (lv_at hl 0 rfl) ?_
  refine W.objInit S.1 S.2.1 S.2.2.2.1 (S.2.2.2.2 _ (by decide +kernel)) (S.2.2.2.2 _ (by decide +kernel)) (S.2.2.2.2 _ (by decide +kernel)) rfl (by rw [S.2.2.1]; exact hl.1) rfl dX2_init_1 (Nat.le_of_ble_eq_true rfl) (Nat.le_of_ble_eq_true rfl) ?_
  refine W.eq (g2 := F0 m 4 ls []) rfl ?_
  refine lv_aload_n S.1 S.2.1 dX2_init_4 rfl (lv_at hl 0 rfl) ?_
  refine lv_aload_n S.1 S.2.1 dX2_init_5 rfl (lv_at hl 1 rfl) ?_
  refine kx_pA S hK hW hS ha 0 150  rfl iX2 tyX2_ok nmX2 (by decide) rfl rfl (by decide) (by decide +kernel) (Or.inr ⟨rfl, hnm, rfl⟩) rfl (Or.inl ⟨_, rfl⟩) dX2_init_6 (fun H locs hW hS => ?_)
  refine lv_aload_n S.1 S.2.1 dX2_init_9 rfl (lv_at hl 0 rfl) ?_
  refine lv_iload_n S.1 S.2.1 dX2_init_10 rfl (lv_at hl 2 rfl) ?_
  refine kx_pI S hK hW hS ha 1 151  rfl iX2 tyX2_ok nmX2 (by decide) rfl rfl (by decide) (by decide +kernel) (Or.inr ⟨rfl, hnm, rfl⟩) rfl dX2_init_11 (fun H locs hW hS => ?_)
  refine lv_aload_n S.1 S.2.1 dX2_init_14 rfl (lv_at hl 0 rfl) ?_
  refine lv_iload_n S.1 S.2.1 dX2_init_15 rfl (lv_at hl 3 rfl) ?_
  refine kx_pI S hK hW hS ha 2 152  rfl iX2 tyX2_ok nmX2 (by decide) rfl rfl (by decide) (by decide +kernel) (Or.inr ⟨rfl, hnm, rfl⟩) rfl dX2_init_16 (fun H locs hW hS => ?_)
  refine lv_aload_n S.1 S.2.1 dX2_init_19 rfl (lv_at hl 0 rfl) ?_
  refine lv_aload S.1 S.2.1 dX2_init_20 (lv_at hl 4 rfl) ?_
  refine kx_pA S hK hW hS ha 3 153  rfl iX2 tyX2_ok nmX2 (by decide) rfl rfl (by decide) (by decide +kernel) (Or.inr ⟨rfl, hnm, rfl⟩) rfl (Or.inl ⟨_, rfl⟩) dX2_init_22 (fun H locs hW hS => ?_)
  refine lv_aload_n S.1 S.2.1 dX2_init_25 rfl (lv_at hl 0 rfl) ?_
  refine lv_iload S.1 S.2.1 dX2_init_26 (lv_at hl 5 rfl) ?_
  refine kx_pI S hK hW hS ha 4 154  rfl iX2 tyX2_ok nmX2 (by decide) rfl rfl (by decide) (by decide +kernel) (Or.inr ⟨rfl, hnm, rfl⟩) rfl dX2_init_28 (fun H locs hW hS => ?_)
  refine kw_vret S hr hlk hW hS (by decide) (by decide) dX2_init_31 ?_
  refine ⟨?_, rfl, ?_⟩ <;> first | rfl | (simp [kw_b]; done) | (simp [kw_b, kI_sNew, kJ_sNew, kR_sNew, kN_sNew, kI_sI, kI_sJ, kI_sR, kI_sA, kI_sB, kI_sC, kJ_sI, kJ_sJ, kJ_sR, kJ_sA, kJ_sB, kJ_sC, kR_sI, kR_sJ, kR_sR, kR_sA, kR_sB, kR_sC, kA_sI, kA_sJ, kA_sR, kA_sA, kA_sB, kA_sC, kB_sI, kB_sJ, kB_sR, kB_sA, kB_sB, kB_sC, kC_sI, kC_sJ, kC_sR, kC_sA, kC_sB, kC_sC, kN_sI, kN_sJ, kN_sR, kN_sA, kN_sB, kN_sC]; done)
def q_start (x : kw_St) (a : Nat) : Int32 := match kR x 157 a with
  | none => 2000000000
  | some k => if 0 < kI x 152 a then (if kI x 165 a < kI x 203 k then kI x 203 k else kI x 165 a) else 2000000000
def q_dl (x : kw_St) (a : Nat) : Int32 := match kR x 157 a with
  | none => 2000000000
  | some k => if 0 < kI x 152 a then q_start x a + (1000 * kI x 202 k + kI x 152 a - 1) / kI x 152 a else 2000000000
def q_rdy (x : kw_St) (a b gb : Nat) : Bool := match kR x 157 a with
  | none => false
  | some k => decide (¬ kJ x 52 b < 1000 * (kI x 202 k).toInt64) && decide (¬ kJ x 52 gb < 1000 * (kI x 202 k).toInt64)
def q_held (x : kw_St) (a b gb : Nat) : Bool := match kR x 157 a with
  | none => false
  | some _ => !(q_rdy x a b gb)
def q_ltag (x : kw_St) (a : Nat) : Int64 := match kR x 157 a with
  | none => kJ x 167 a
  | some k => if 0 < kI x 151 a then kJ x 167 a + 27720 * (kI x 202 k).toInt64 / (kI x 151 a).toInt64 else kJ x 167 a
def q_lgtag (x : kw_St) (a g : Nat) : Int64 := match kR x 157 a with
  | none => kJ x 104 g
  | some k => q_gtag x g (kI x 202 k)
def q_tmg (x : kw_St) (a b gb : Nat) (t : Int32) : Int64 := match kR x 157 a with
  | none => 2000000000
  | some k => if (if q_tuc x gb (kI x 202 k) < q_tuc x b (kI x 202 k) then q_tuc x b (kI x 202 k) else q_tuc x gb (kI x 202 k)) < (q_start x a - t).toInt64 then (if q_tuc x gb (kI x 202 k) < q_tuc x b (kI x 202 k) then q_tuc x b (kI x 202 k) else q_tuc x gb (kI x 202 k)) else (q_start x a - t).toInt64
def q_pays (x : kw_St) (a : Nat) (z : Int32) : Bool := match kR x 155 a with
  | none => true
  | some k => decide (¬ kJ x 52 k < 1000 * z.toInt64)
def q_payx (x : kw_St) (a : Nat) (z : Int32) : kw_St := match kR x 155 a with
  | none => x
  | some k => if kJ x 52 k < 1000 * z.toInt64 then x else sJ x 52 k (kJ x 52 k - 1000 * z.toInt64)
def q_catch (x : kw_St) (a g : Nat) (m : Int64) : kw_St := match kR x 157 a with
  | none => if kI x 103 g = 0 then sJ (sJ x 167 a (if kJ x 105 g < kJ x 167 a then kJ x 167 a else kJ x 105 g)) 104 g (if m < kJ x 104 g then kJ x 104 g else m) else sJ x 167 a (if kJ x 105 g < kJ x 167 a then kJ x 167 a else kJ x 105 g)
  | some _ => if kI x 103 g = 0 then sJ x 104 g (if m < kJ x 104 g then kJ x 104 g else m) else x
def q_app (x : kw_St) (a g k : Nat) : kw_St := match kR x 158 a with
  | none => sI (sI (sI (sR (sR x 157 a (some k)) 158 a (some k)) 159 a (kI x 159 a + 1)) 160 a (kI x 160 a + kI x 202 k)) 103 g (kI x 103 g + 1)
  | some h => sI (sI (sI (sR (sR x 208 h (some k)) 158 a (some k)) 159 a (kI x 159 a + 1)) 160 a (kI x 160 a + kI x 202 k)) 103 g (kI x 103 g + 1)
/-- the first packet k of a class leaves -/
def q_rem (x : kw_St) (a g b gb k : Nat) (t : Int32) : kw_St := match kR x 208 k with
  | none => sJ (sJ (sI (sI (sI (sI (sR (sR (sR x 157 a none) 158 a none) 208 k none) 205 k t) 159 a (kI x 159 a - 1)) 160 a (kI x 160 a - kI x 202 k)) 103 g (kI x 103 g - 1)) 52 b (kJ x 52 b - 1000 * (kI x 202 k).toInt64)) 52 gb (kJ x 52 gb - 1000 * (kI x 202 k).toInt64)
  | some h => sJ (sJ (sI (sI (sI (sI (sR (sR x 157 a (some h)) 208 k none) 205 k t) 159 a (kI x 159 a - 1)) 160 a (kI x 160 a - kI x 202 k)) 103 g (kI x 103 g - 1)) 52 b (kJ x 52 b - 1000 * (kI x 202 k).toInt64)) 52 gb (kJ x 52 gb - 1000 * (kI x 202 k).toInt64)
def q_lfig (x : kw_St) (a : Nat) (w : Int32) : Int32 := if w = 0 then kI x 159 a else if w = 1 then kI x 160 a else if w = 2 then kI x 161 a else if w = 3 then kI x 162 a else if w = 4 then kI x 163 a else if w = 5 then kI x 164 a else if w = 6 then kI x 165 a else if w = 7 then kI x 166 a else -1
theorem kw_d1 {r : Int32} (h : 0 < r) : ¬ r = 0 := by
  intro e
  rw [e] at h
  exact absurd h (by decide)
set_option maxHeartbeats 1000000 in
set_option maxRecDepth 100000 in
/-- Leaf.start -/
theorem c_X2_start (l : Launch) (G : kw_G) (nu : Nat → Option Nat) (x : kw_St) (a : Nat) (ha : nu a = some 3) (hfi : ∀ k, kR x 157 a = some k → nu k = some 4) : kw_M l G yX2_start wsX2_start { frames := 1, cells := 0, slots := 0, locals := 23 } 0 0 [.ref a] nu x (kw_P nu (some (.int (q_start x a))) (x)) := by
  refine kw_M.ofW (cc := cX2_start) (maxL := 1) (ret := (some .int)) (by decide) rfl (Nat.le_of_ble_eq_true rfl) ?_
  intro p e s m args below meth c A ls S hr hlk hnm hK hZ hA hW hS hl
  have hl : lv_has ls 1 [(0, .ref a)] := hl
  have iX2 : ∀ w ∈ wsX20, w ∈ wsX2_start := by decide +kernel
  have iX3 : ∀ w ∈ wsX30, w ∈ wsX2_start := by decide +kernel
  refine lv_aload_n S.1 S.2.1 dX2_start_0 rfl (lv_at hl 0 rfl) ?_
  rcases o1 : kR x 157 a with _ | p2
  · skip
    refine kx_gN S hK hW ha 7 157 rfl iX2 (by decide) rfl rfl (by decide) (by decide +kernel) dX2_start_1 o1 ?_
    refine lv_ifnullN (tgt := 14) S.1 S.2.1 dX2_start_4 (by decide) ?_
    refine lv_ldc (v := 2000000000) S.1 S.2.1 S.2.2.2.1 (S.2.2.2.2 _ (by decide +kernel)) dX2_start_14 ?_
    refine lv_goto (tgt := 33) S.1 S.2.1 dX2_start_16 (by decide) ?_
    refine kw_iret S hr hlk hW hS (by decide) (by decide) dX2_start_33 ?_
    refine ⟨?_, rfl, ?_⟩ <;> first | rfl | (simp [q_start, o1, kw_b]; done) | (simp [q_start, o1, kw_b, kI_sNew, kJ_sNew, kR_sNew, kN_sNew, kI_sI, kI_sJ, kI_sR, kI_sA, kI_sB, kI_sC, kJ_sI, kJ_sJ, kJ_sR, kJ_sA, kJ_sB, kJ_sC, kR_sI, kR_sJ, kR_sR, kR_sA, kR_sB, kR_sC, kA_sI, kA_sJ, kA_sR, kA_sA, kA_sB, kA_sC, kB_sI, kB_sJ, kB_sR, kB_sA, kB_sB, kB_sC, kC_sI, kC_sJ, kC_sR, kC_sA, kC_sB, kC_sC, kN_sI, kN_sJ, kN_sR, kN_sA, kN_sB, kN_sC]; done)
  · skip
    refine kx_gA S hK hW ha 7 157 rfl iX2 (by decide) rfl rfl (by decide) (by decide +kernel) dX2_start_1 (b := p2) o1 ?_
    refine lv_ifnull S.1 S.2.1 dX2_start_4 ?_
    refine lv_aload_n S.1 S.2.1 dX2_start_7 rfl (lv_at hl 0 rfl) ?_
    refine kx_gI S hK hW ha 2 152 rfl iX2 (by decide) rfl rfl (by decide) (by decide +kernel) dX2_start_8 (v := kI x 152 a) rfl ?_
    refine lv_if_gt (tgt := 19) S.1 S.2.1 dX2_start_11 (by decide) (fun c3 => ?_) (fun c3 => ?_)
    · skip
      refine lv_aload_n S.1 S.2.1 dX2_start_19 rfl (lv_at hl 0 rfl) ?_
      refine kx_gI S hK hW ha 15 165 rfl iX2 (by decide) rfl rfl (by decide) (by decide +kernel) dX2_start_20 (v := kI x 165 a) rfl ?_
      refine lv_aload_n S.1 S.2.1 dX2_start_23 rfl (lv_at hl 0 rfl) ?_
      refine kx_gA S hK hW ha 7 157 rfl iX2 (by decide) rfl rfl (by decide) (by decide +kernel) dX2_start_24 (b := p2) o1 ?_
      refine kx_gI S hK hW (hfi p2 o1) 3 203 rfl iX3 (by decide) rfl rfl (by decide) (by decide +kernel) dX2_start_27 (v := kI x 203 p2) rfl ?_
      refine kx_maxi S hl.1 (by decide +kernel) (by decide +kernel) (by decide +kernel) (by decide +kernel) (Nat.le_of_ble_eq_true rfl) (Nat.le_of_ble_eq_true rfl) (by first | exact Nat.le_of_ble_eq_true rfl | exact Nat.le_refl _ | exact Nat.le_of_eq (Nat.zero_add _)) (by first | exact Nat.le_of_ble_eq_true rfl | exact Nat.le_of_eq (Nat.zero_add _) | exact Nat.le_refl _) dX2_start_30 ?_
      refine kw_iret S hr hlk hW hS (by decide) (by decide) dX2_start_33 ?_
      refine ⟨?_, rfl, ?_⟩ <;> first | rfl | (simp [q_start, o1, c3, kw_b]; done) | (simp [q_start, o1, c3, kw_b, kI_sNew, kJ_sNew, kR_sNew, kN_sNew, kI_sI, kI_sJ, kI_sR, kI_sA, kI_sB, kI_sC, kJ_sI, kJ_sJ, kJ_sR, kJ_sA, kJ_sB, kJ_sC, kR_sI, kR_sJ, kR_sR, kR_sA, kR_sB, kR_sC, kA_sI, kA_sJ, kA_sR, kA_sA, kA_sB, kA_sC, kB_sI, kB_sJ, kB_sR, kB_sA, kB_sB, kB_sC, kC_sI, kC_sJ, kC_sR, kC_sA, kC_sB, kC_sC, kN_sI, kN_sJ, kN_sR, kN_sA, kN_sB, kN_sC]; done)
    · skip
      refine lv_ldc (v := 2000000000) S.1 S.2.1 S.2.2.2.1 (S.2.2.2.2 _ (by decide +kernel)) dX2_start_14 ?_
      refine lv_goto (tgt := 33) S.1 S.2.1 dX2_start_16 (by decide) ?_
      refine kw_iret S hr hlk hW hS (by decide) (by decide) dX2_start_33 ?_
      refine ⟨?_, rfl, ?_⟩ <;> first | rfl | (simp [q_start, o1, c3, kw_b]; done) | (simp [q_start, o1, c3, kw_b, kI_sNew, kJ_sNew, kR_sNew, kN_sNew, kI_sI, kI_sJ, kI_sR, kI_sA, kI_sB, kI_sC, kJ_sI, kJ_sJ, kJ_sR, kJ_sA, kJ_sB, kJ_sC, kR_sI, kR_sJ, kR_sR, kR_sA, kR_sB, kR_sC, kA_sI, kA_sJ, kA_sR, kA_sA, kA_sB, kA_sC, kB_sI, kB_sJ, kB_sR, kB_sA, kB_sB, kB_sC, kC_sI, kC_sJ, kC_sR, kC_sA, kC_sB, kC_sC, kN_sI, kN_sJ, kN_sR, kN_sA, kN_sB, kN_sC]; done)
set_option maxHeartbeats 1000000 in
set_option maxRecDepth 100000 in
/-- Leaf.deadline -/
theorem c_X2_deadline (l : Launch) (G : kw_G) (nu : Nat → Option Nat) (x : kw_St) (a : Nat) (ha : nu a = some 3) (hfi : ∀ k, kR x 157 a = some k → nu k = some 4) : kw_M l G yX2_deadline wsX2_deadline { frames := 2, cells := 0, slots := 0, locals := 43 } 0 0 [.ref a] nu x (kw_P nu (some (.int (q_dl x a))) (x)) := by
  refine kw_M.ofW (cc := cX2_deadline) (maxL := 1) (ret := (some .int)) (by decide) rfl (Nat.le_of_ble_eq_true rfl) ?_
  intro p e s m args below meth c A ls S hr hlk hnm hK hZ hA hW hS hl
  have hl : lv_has ls 1 [(0, .ref a)] := hl
  have iX2 : ∀ w ∈ wsX20, w ∈ wsX2_deadline := by decide +kernel
  have iX3 : ∀ w ∈ wsX30, w ∈ wsX2_deadline := by decide +kernel
  refine lv_aload_n S.1 S.2.1 dX2_deadline_0 rfl (lv_at hl 0 rfl) ?_
  rcases o1 : kR x 157 a with _ | p2
  · skip
    refine kx_gN S hK hW ha 7 157 rfl iX2 (by decide) rfl rfl (by decide) (by decide +kernel) dX2_deadline_1 o1 ?_
    refine lv_ifnullN (tgt := 14) S.1 S.2.1 dX2_deadline_4 (by decide) ?_
    refine lv_ldc (v := 2000000000) S.1 S.2.1 S.2.2.2.1 (S.2.2.2.2 _ (by decide +kernel)) dX2_deadline_14 ?_
    refine kw_iret S hr hlk hW hS (by decide) (by decide) dX2_deadline_16 ?_
    refine ⟨?_, rfl, ?_⟩ <;> first | rfl | (simp [q_dl, o1, kw_b]; done) | (simp [q_dl, o1, kw_b, kI_sNew, kJ_sNew, kR_sNew, kN_sNew, kI_sI, kI_sJ, kI_sR, kI_sA, kI_sB, kI_sC, kJ_sI, kJ_sJ, kJ_sR, kJ_sA, kJ_sB, kJ_sC, kR_sI, kR_sJ, kR_sR, kR_sA, kR_sB, kR_sC, kA_sI, kA_sJ, kA_sR, kA_sA, kA_sB, kA_sC, kB_sI, kB_sJ, kB_sR, kB_sA, kB_sB, kB_sC, kC_sI, kC_sJ, kC_sR, kC_sA, kC_sB, kC_sC, kN_sI, kN_sJ, kN_sR, kN_sA, kN_sB, kN_sC]; done)
  · skip
    refine kx_gA S hK hW ha 7 157 rfl iX2 (by decide) rfl rfl (by decide) (by decide +kernel) dX2_deadline_1 (b := p2) o1 ?_
    refine lv_ifnull S.1 S.2.1 dX2_deadline_4 ?_
    refine lv_aload_n S.1 S.2.1 dX2_deadline_7 rfl (lv_at hl 0 rfl) ?_
    refine kx_gI S hK hW ha 2 152 rfl iX2 (by decide) rfl rfl (by decide) (by decide +kernel) dX2_deadline_8 (v := kI x 152 a) rfl ?_
    refine lv_if_gt (tgt := 17) S.1 S.2.1 dX2_deadline_11 (by decide) (fun c3 => ?_) (fun c3 => ?_)
    · skip
      refine lv_aload_n S.1 S.2.1 dX2_deadline_17 rfl (lv_at hl 0 rfl) ?_
      refine kx_cV (As := []) (rest := []) (st1 := [.int (q_start x a)]) S hK hZ hA hW hS (c_X2_start l G nu x a ha hfi) (cwV 0 S.2.2.2.2 gX2_deadline_X2_start rfl rfl rfl (by decide +kernel) ⟨Nat.le_of_ble_eq_true rfl, Nat.le_of_ble_eq_true rfl⟩) ha (by decide) rfl rfl hl.1 rfl (Nat.le_of_ble_eq_true rfl) dX2_deadline_18 ⟨Nat.le_of_ble_eq_true rfl, Nat.le_of_ble_eq_true rfl⟩ rfl (fun H locs hW hS => ?_)
      refine lv_sipush (v := 1000) S.1 S.2.1 dX2_deadline_21 (by decide) ?_
      refine lv_aload_n S.1 S.2.1 dX2_deadline_24 rfl (lv_at hl 0 rfl) ?_
      refine kx_gA S hK hW ha 7 157 rfl iX2 (by decide) rfl rfl (by decide) (by decide +kernel) dX2_deadline_25 (b := p2) o1 ?_
      refine kx_gI S hK hW (hfi p2 o1) 2 202 rfl iX3 (by decide) rfl rfl (by decide) (by decide +kernel) dX2_deadline_28 (v := kI x 202 p2) rfl ?_
      refine lv_imul S.1 S.2.1 dX2_deadline_31 ?_
      refine lv_aload_n S.1 S.2.1 dX2_deadline_32 rfl (lv_at hl 0 rfl) ?_
      refine kx_gI S hK hW ha 2 152 rfl iX2 (by decide) rfl rfl (by decide) (by decide +kernel) dX2_deadline_33 (v := kI x 152 a) rfl ?_
      refine lv_iadd S.1 S.2.1 dX2_deadline_36 ?_
      refine lv_iconst (v := 1) S.1 S.2.1 dX2_deadline_37 (by decide) ?_
      refine lv_isub S.1 S.2.1 dX2_deadline_38 ?_
      refine lv_aload_n S.1 S.2.1 dX2_deadline_39 rfl (lv_at hl 0 rfl) ?_
      refine kx_gI S hK hW ha 2 152 rfl iX2 (by decide) rfl rfl (by decide) (by decide +kernel) dX2_deadline_40 (v := kI x 152 a) rfl ?_
      refine lv_idiv S.1 S.2.1 dX2_deadline_43 (kw_d1 (by assumption)) ?_
      refine lv_iadd S.1 S.2.1 dX2_deadline_44 ?_
      refine kw_iret S hr hlk hW hS (by decide) (by decide) dX2_deadline_45 ?_
      refine ⟨?_, rfl, ?_⟩ <;> first | rfl | (simp [q_dl, o1, c3, kw_b]; done) | (simp [q_dl, o1, c3, kw_b, kI_sNew, kJ_sNew, kR_sNew, kN_sNew, kI_sI, kI_sJ, kI_sR, kI_sA, kI_sB, kI_sC, kJ_sI, kJ_sJ, kJ_sR, kJ_sA, kJ_sB, kJ_sC, kR_sI, kR_sJ, kR_sR, kR_sA, kR_sB, kR_sC, kA_sI, kA_sJ, kA_sR, kA_sA, kA_sB, kA_sC, kB_sI, kB_sJ, kB_sR, kB_sA, kB_sB, kB_sC, kC_sI, kC_sJ, kC_sR, kC_sA, kC_sB, kC_sC, kN_sI, kN_sJ, kN_sR, kN_sA, kN_sB, kN_sC]; done)
    · skip
      refine lv_ldc (v := 2000000000) S.1 S.2.1 S.2.2.2.1 (S.2.2.2.2 _ (by decide +kernel)) dX2_deadline_14 ?_
      refine kw_iret S hr hlk hW hS (by decide) (by decide) dX2_deadline_16 ?_
      refine ⟨?_, rfl, ?_⟩ <;> first | rfl | (simp [q_dl, o1, c3, kw_b]; done) | (simp [q_dl, o1, c3, kw_b, kI_sNew, kJ_sNew, kR_sNew, kN_sNew, kI_sI, kI_sJ, kI_sR, kI_sA, kI_sB, kI_sC, kJ_sI, kJ_sJ, kJ_sR, kJ_sA, kJ_sB, kJ_sC, kR_sI, kR_sJ, kR_sR, kR_sA, kR_sB, kR_sC, kA_sI, kA_sJ, kA_sR, kA_sA, kA_sB, kA_sC, kB_sI, kB_sJ, kB_sR, kB_sA, kB_sB, kB_sC, kC_sI, kC_sJ, kC_sR, kC_sA, kC_sB, kC_sC, kN_sI, kN_sJ, kN_sR, kN_sA, kN_sB, kN_sC]; done)
set_option maxHeartbeats 1000000 in
set_option maxRecDepth 100000 in
/-- Leaf.isReady -/
theorem c_X2_isReady (l : Launch) (G : kw_G) (nu : Nat → Option Nat) (x : kw_St) (a : Nat) (g : Nat) (b : Nat) (gb : Nat) (ha : nu a = some 3) (hg : nu g = some 2) (hb : nu b = some 1) (hgb : nu gb = some 1) (hgr : kR x 150 a = some g) (hce : kR x 153 a = some b) (hgc : kR x 101 g = some gb) (hfi : ∀ k, kR x 157 a = some k → nu k = some 4) : kw_M l G yX2_isReady wsX2_isReady { frames := 1, cells := 0, slots := 0, locals := 21 } 0 0 [.ref a] nu x (kw_P nu (some (.int (kw_b (q_rdy x a b gb = true)))) (x)) := by
  refine kw_M.ofW (cc := cX2_isReady) (maxL := 1) (ret := (some .boolean)) (by decide) rfl (Nat.le_of_ble_eq_true rfl) ?_
  intro p e s m args below meth c A ls S hr hlk hnm hK hZ hA hW hS hl
  have hl : lv_has ls 1 [(0, .ref a)] := hl
  have iX1 : ∀ w ∈ wsX10, w ∈ wsX2_isReady := by decide +kernel
  have iX2 : ∀ w ∈ wsX20, w ∈ wsX2_isReady := by decide +kernel
  have iX3 : ∀ w ∈ wsX30, w ∈ wsX2_isReady := by decide +kernel
  refine lv_aload_n S.1 S.2.1 dX2_isReady_0 rfl (lv_at hl 0 rfl) ?_
  rcases o1 : kR x 157 a with _ | p2
  · skip
    refine kx_gN S hK hW ha 7 157 rfl iX2 (by decide) rfl rfl (by decide) (by decide +kernel) dX2_isReady_1 o1 ?_
    refine lv_ifnullN (tgt := 48) S.1 S.2.1 dX2_isReady_4 (by decide) ?_
    refine lv_iconst (v := 0) S.1 S.2.1 dX2_isReady_48 (by decide) ?_
    refine kw_zret S hr hlk hW hS (by decide) (by decide) dX2_isReady_49 kw_n0 ?_
    refine ⟨?_, rfl, ?_⟩ <;> first | rfl | (simp [q_rdy, o1, kw_b]; done) | (simp [q_rdy, o1, kw_b, kI_sNew, kJ_sNew, kR_sNew, kN_sNew, kI_sI, kI_sJ, kI_sR, kI_sA, kI_sB, kI_sC, kJ_sI, kJ_sJ, kJ_sR, kJ_sA, kJ_sB, kJ_sC, kR_sI, kR_sJ, kR_sR, kR_sA, kR_sB, kR_sC, kA_sI, kA_sJ, kA_sR, kA_sA, kA_sB, kA_sC, kB_sI, kB_sJ, kB_sR, kB_sA, kB_sB, kB_sC, kC_sI, kC_sJ, kC_sR, kC_sA, kC_sB, kC_sC, kN_sI, kN_sJ, kN_sR, kN_sA, kN_sB, kN_sC]; done)
  · skip
    refine kx_gA S hK hW ha 7 157 rfl iX2 (by decide) rfl rfl (by decide) (by decide +kernel) dX2_isReady_1 (b := p2) o1 ?_
    refine lv_ifnull S.1 S.2.1 dX2_isReady_4 ?_
    refine lv_aload_n S.1 S.2.1 dX2_isReady_7 rfl (lv_at hl 0 rfl) ?_
    refine kx_gA S hK hW ha 3 153 rfl iX2 (by decide) rfl rfl (by decide) (by decide +kernel) dX2_isReady_8 (b := b) hce ?_
    refine lv_aload_n S.1 S.2.1 dX2_isReady_11 rfl (lv_at hl 0 rfl) ?_
    refine kx_gA S hK hW ha 7 157 rfl iX2 (by decide) rfl rfl (by decide) (by decide +kernel) dX2_isReady_12 (b := p2) o1 ?_
    refine kx_gI S hK hW (hfi p2 o1) 2 202 rfl iX3 (by decide) rfl rfl (by decide) (by decide +kernel) dX2_isReady_15 (v := kI x 202 p2) rfl ?_
    refine kx_cV (As := [.int (kI x 202 p2)]) (rest := []) (st1 := [.int (kw_b (¬ kJ x 52 b < 1000 * ((kI x 202 p2)).toInt64))]) S hK hZ hA hW hS (c_X0_covers l G nu x b (kI x 202 p2) hb) (cwV 1 S.2.2.2.2 gX2_isReady_X0_covers rfl rfl rfl (by decide +kernel) ⟨Nat.le_of_ble_eq_true rfl, Nat.le_of_ble_eq_true rfl⟩) hb (by decide) rfl rfl hl.1 rfl (Nat.le_of_ble_eq_true rfl) dX2_isReady_18 ⟨Nat.le_of_ble_eq_true rfl, Nat.le_of_ble_eq_true rfl⟩ rfl (fun H locs hW hS => ?_)
    refine kx_ifz_eq (tgt := 48) S dX2_isReady_21 (by decide) (fun c3 => ?_) (fun c3 => ?_)
    · skip
      refine lv_iconst (v := 0) S.1 S.2.1 dX2_isReady_48 (by decide) ?_
      refine kw_zret S hr hlk hW hS (by decide) (by decide) dX2_isReady_49 kw_n0 ?_
      refine ⟨?_, rfl, ?_⟩ <;> first | rfl | (simp [q_rdy, o1, c3, kw_b]; done) | (simp [q_rdy, o1, c3, kw_b, kI_sNew, kJ_sNew, kR_sNew, kN_sNew, kI_sI, kI_sJ, kI_sR, kI_sA, kI_sB, kI_sC, kJ_sI, kJ_sJ, kJ_sR, kJ_sA, kJ_sB, kJ_sC, kR_sI, kR_sJ, kR_sR, kR_sA, kR_sB, kR_sC, kA_sI, kA_sJ, kA_sR, kA_sA, kA_sB, kA_sC, kB_sI, kB_sJ, kB_sR, kB_sA, kB_sB, kB_sC, kC_sI, kC_sJ, kC_sR, kC_sA, kC_sB, kC_sC, kN_sI, kN_sJ, kN_sR, kN_sA, kN_sB, kN_sC]; done)
    · skip
      refine lv_aload_n S.1 S.2.1 dX2_isReady_24 rfl (lv_at hl 0 rfl) ?_
      refine kx_gA S hK hW ha 0 150 rfl iX2 (by decide) rfl rfl (by decide) (by decide +kernel) dX2_isReady_25 (b := g) hgr ?_
      refine kx_gA S hK hW hg 1 101 rfl iX1 (by decide) rfl rfl (by decide) (by decide +kernel) dX2_isReady_28 (b := gb) hgc ?_
      refine lv_aload_n S.1 S.2.1 dX2_isReady_31 rfl (lv_at hl 0 rfl) ?_
      refine kx_gA S hK hW ha 7 157 rfl iX2 (by decide) rfl rfl (by decide) (by decide +kernel) dX2_isReady_32 (b := p2) o1 ?_
      refine kx_gI S hK hW (hfi p2 o1) 2 202 rfl iX3 (by decide) rfl rfl (by decide) (by decide +kernel) dX2_isReady_35 (v := kI x 202 p2) rfl ?_
      refine kx_cV (As := [.int (kI x 202 p2)]) (rest := []) (st1 := [.int (kw_b (¬ kJ x 52 gb < 1000 * ((kI x 202 p2)).toInt64))]) S hK hZ hA hW hS (c_X0_covers l G nu x gb (kI x 202 p2) hgb) (cwV 1 S.2.2.2.2 gX2_isReady_X0_covers rfl rfl rfl (by decide +kernel) ⟨Nat.le_of_ble_eq_true rfl, Nat.le_of_ble_eq_true rfl⟩) hgb (by decide) rfl rfl hl.1 rfl (Nat.le_of_ble_eq_true rfl) dX2_isReady_38 ⟨Nat.le_of_ble_eq_true rfl, Nat.le_of_ble_eq_true rfl⟩ rfl (fun H locs hW hS => ?_)
      refine kx_ifz_eq (tgt := 48) S dX2_isReady_41 (by decide) (fun c4 => ?_) (fun c4 => ?_)
      · skip
        refine lv_iconst (v := 0) S.1 S.2.1 dX2_isReady_48 (by decide) ?_
        refine kw_zret S hr hlk hW hS (by decide) (by decide) dX2_isReady_49 kw_n0 ?_
        refine ⟨?_, rfl, ?_⟩ <;> first | rfl | (simp [q_rdy, o1, c3, c4, kw_b]; done) | (simp [q_rdy, o1, c3, c4, kw_b, kI_sNew, kJ_sNew, kR_sNew, kN_sNew, kI_sI, kI_sJ, kI_sR, kI_sA, kI_sB, kI_sC, kJ_sI, kJ_sJ, kJ_sR, kJ_sA, kJ_sB, kJ_sC, kR_sI, kR_sJ, kR_sR, kR_sA, kR_sB, kR_sC, kA_sI, kA_sJ, kA_sR, kA_sA, kA_sB, kA_sC, kB_sI, kB_sJ, kB_sR, kB_sA, kB_sB, kB_sC, kC_sI, kC_sJ, kC_sR, kC_sA, kC_sB, kC_sC, kN_sI, kN_sJ, kN_sR, kN_sA, kN_sB, kN_sC]; done)
      · skip
        refine lv_iconst (v := 1) S.1 S.2.1 dX2_isReady_44 (by decide) ?_
        refine lv_goto (tgt := 49) S.1 S.2.1 dX2_isReady_45 (by decide) ?_
        refine kw_zret S hr hlk hW hS (by decide) (by decide) dX2_isReady_49 kw_n1 ?_
        refine ⟨?_, rfl, ?_⟩ <;> first | rfl | (simp [q_rdy, o1, c3, c4, kw_b]; done) | (simp [q_rdy, o1, c3, c4, kw_b, kI_sNew, kJ_sNew, kR_sNew, kN_sNew, kI_sI, kI_sJ, kI_sR, kI_sA, kI_sB, kI_sC, kJ_sI, kJ_sJ, kJ_sR, kJ_sA, kJ_sB, kJ_sC, kR_sI, kR_sJ, kR_sR, kR_sA, kR_sB, kR_sC, kA_sI, kA_sJ, kA_sR, kA_sA, kA_sB, kA_sC, kB_sI, kB_sJ, kB_sR, kB_sA, kB_sB, kB_sC, kC_sI, kC_sJ, kC_sR, kC_sA, kC_sB, kC_sC, kN_sI, kN_sJ, kN_sR, kN_sA, kN_sB, kN_sC]; done)
set_option maxHeartbeats 1000000 in
set_option maxRecDepth 100000 in
/-- Leaf.isHeld -/
theorem c_X2_isHeld (l : Launch) (G : kw_G) (nu : Nat → Option Nat) (x : kw_St) (a : Nat) (g : Nat) (b : Nat) (gb : Nat) (ha : nu a = some 3) (hg : nu g = some 2) (hb : nu b = some 1) (hgb : nu gb = some 1) (hgr : kR x 150 a = some g) (hce : kR x 153 a = some b) (hgc : kR x 101 g = some gb) (hfi : ∀ k, kR x 157 a = some k → nu k = some 4) : kw_M l G yX2_isHeld wsX2_isHeld { frames := 2, cells := 0, slots := 0, locals := 41 } 0 0 [.ref a] nu x (kw_P nu (some (.int (kw_b (q_held x a b gb = true)))) (x)) := by
  refine kw_M.ofW (cc := cX2_isHeld) (maxL := 1) (ret := (some .boolean)) (by decide) rfl (Nat.le_of_ble_eq_true rfl) ?_
  intro p e s m args below meth c A ls S hr hlk hnm hK hZ hA hW hS hl
  have hl : lv_has ls 1 [(0, .ref a)] := hl
  have iX2 : ∀ w ∈ wsX20, w ∈ wsX2_isHeld := by decide +kernel
  refine lv_aload_n S.1 S.2.1 dX2_isHeld_0 rfl (lv_at hl 0 rfl) ?_
  rcases o1 : kR x 157 a with _ | p2
  · skip
    refine kx_gN S hK hW ha 7 157 rfl iX2 (by decide) rfl rfl (by decide) (by decide +kernel) dX2_isHeld_1 o1 ?_
    refine lv_ifnullN (tgt := 18) S.1 S.2.1 dX2_isHeld_4 (by decide) ?_
    refine lv_iconst (v := 0) S.1 S.2.1 dX2_isHeld_18 (by decide) ?_
    refine kw_zret S hr hlk hW hS (by decide) (by decide) dX2_isHeld_19 kw_n0 ?_
    refine ⟨?_, rfl, ?_⟩ <;> first | rfl | (simp [q_held, o1, kw_b]; done) | (simp [q_held, o1, kw_b, kI_sNew, kJ_sNew, kR_sNew, kN_sNew, kI_sI, kI_sJ, kI_sR, kI_sA, kI_sB, kI_sC, kJ_sI, kJ_sJ, kJ_sR, kJ_sA, kJ_sB, kJ_sC, kR_sI, kR_sJ, kR_sR, kR_sA, kR_sB, kR_sC, kA_sI, kA_sJ, kA_sR, kA_sA, kA_sB, kA_sC, kB_sI, kB_sJ, kB_sR, kB_sA, kB_sB, kB_sC, kC_sI, kC_sJ, kC_sR, kC_sA, kC_sB, kC_sC, kN_sI, kN_sJ, kN_sR, kN_sA, kN_sB, kN_sC]; done)
  · skip
    refine kx_gA S hK hW ha 7 157 rfl iX2 (by decide) rfl rfl (by decide) (by decide +kernel) dX2_isHeld_1 (b := p2) o1 ?_
    refine lv_ifnull S.1 S.2.1 dX2_isHeld_4 ?_
    refine lv_aload_n S.1 S.2.1 dX2_isHeld_7 rfl (lv_at hl 0 rfl) ?_
    refine kx_cV (As := []) (rest := []) (st1 := [.int (kw_b (q_rdy x a b gb = true))]) S hK hZ hA hW hS (c_X2_isReady l G nu x a g b gb ha hg hb hgb hgr hce hgc hfi) (cwV 0 S.2.2.2.2 gX2_isHeld_X2_isReady rfl rfl rfl (by decide +kernel) ⟨Nat.le_of_ble_eq_true rfl, Nat.le_of_ble_eq_true rfl⟩) ha (by decide) rfl rfl hl.1 rfl (Nat.le_of_ble_eq_true rfl) dX2_isHeld_8 ⟨Nat.le_of_ble_eq_true rfl, Nat.le_of_ble_eq_true rfl⟩ rfl (fun H locs hW hS => ?_)
    refine kx_ifz_ne (tgt := 18) S dX2_isHeld_11 (by decide) (fun c3 => ?_) (fun c3 => ?_)
    · skip
      refine lv_iconst (v := 0) S.1 S.2.1 dX2_isHeld_18 (by decide) ?_
      refine kw_zret S hr hlk hW hS (by decide) (by decide) dX2_isHeld_19 kw_n0 ?_
      refine ⟨?_, rfl, ?_⟩ <;> first | rfl | (simp [q_held, o1, c3, kw_b]; done) | (simp [q_held, o1, c3, kw_b, kI_sNew, kJ_sNew, kR_sNew, kN_sNew, kI_sI, kI_sJ, kI_sR, kI_sA, kI_sB, kI_sC, kJ_sI, kJ_sJ, kJ_sR, kJ_sA, kJ_sB, kJ_sC, kR_sI, kR_sJ, kR_sR, kR_sA, kR_sB, kR_sC, kA_sI, kA_sJ, kA_sR, kA_sA, kA_sB, kA_sC, kB_sI, kB_sJ, kB_sR, kB_sA, kB_sB, kB_sC, kC_sI, kC_sJ, kC_sR, kC_sA, kC_sB, kC_sC, kN_sI, kN_sJ, kN_sR, kN_sA, kN_sB, kN_sC]; done)
    · skip
      refine lv_iconst (v := 1) S.1 S.2.1 dX2_isHeld_14 (by decide) ?_
      refine lv_goto (tgt := 19) S.1 S.2.1 dX2_isHeld_15 (by decide) ?_
      refine kw_zret S hr hlk hW hS (by decide) (by decide) dX2_isHeld_19 kw_n1 ?_
      refine ⟨?_, rfl, ?_⟩ <;> first | rfl | (simp [q_held, o1, c3, kw_b]; done) | (simp [q_held, o1, c3, kw_b, kI_sNew, kJ_sNew, kR_sNew, kN_sNew, kI_sI, kI_sJ, kI_sR, kI_sA, kI_sB, kI_sC, kJ_sI, kJ_sJ, kJ_sR, kJ_sA, kJ_sB, kJ_sC, kR_sI, kR_sJ, kR_sR, kR_sA, kR_sB, kR_sC, kA_sI, kA_sJ, kA_sR, kA_sA, kA_sB, kA_sC, kB_sI, kB_sJ, kB_sR, kB_sA, kB_sB, kB_sC, kC_sI, kC_sJ, kC_sR, kC_sA, kC_sB, kC_sC, kN_sI, kN_sJ, kN_sR, kN_sA, kN_sB, kN_sC]; done)
set_option maxHeartbeats 1000000 in
set_option maxRecDepth 100000 in
/-- Leaf.tagInLeaf -/
theorem c_X2_tagInLeaf (l : Launch) (G : kw_G) (nu : Nat → Option Nat) (x : kw_St) (a : Nat) (ha : nu a = some 3) (hfi : ∀ k, kR x 157 a = some k → nu k = some 4) : kw_M l G yX2_tagInLeaf wsX2_tagInLeaf { frames := 0, cells := 0, slots := 0, locals := 0 } 0 0 [.ref a] nu x (kw_P nu (some (.long (q_ltag x a))) (x)) := by
  refine kw_M.ofW (cc := cX2_tagInLeaf) (maxL := 1) (ret := (some .long)) (by decide) rfl (Nat.le_of_ble_eq_true rfl) ?_
  intro p e s m args below meth c A ls S hr hlk hnm hK hZ hA hW hS hl
  have hl : lv_has ls 1 [(0, .ref a)] := hl
  have iX2 : ∀ w ∈ wsX20, w ∈ wsX2_tagInLeaf := by decide +kernel
  have iX3 : ∀ w ∈ wsX30, w ∈ wsX2_tagInLeaf := by decide +kernel
  refine lv_aload_n S.1 S.2.1 dX2_tagInLeaf_0 rfl (lv_at hl 0 rfl) ?_
  rcases o1 : kR x 157 a with _ | p2
  · skip
    refine kx_gN S hK hW ha 7 157 rfl iX2 (by decide) rfl rfl (by decide) (by decide +kernel) dX2_tagInLeaf_1 o1 ?_
    refine lv_ifnullN (tgt := 14) S.1 S.2.1 dX2_tagInLeaf_4 (by decide) ?_
    refine lv_aload_n S.1 S.2.1 dX2_tagInLeaf_14 rfl (lv_at hl 0 rfl) ?_
    refine kx_gJ S hK hW ha 17 167 rfl iX2 (by decide) rfl rfl (by decide) (by decide +kernel) dX2_tagInLeaf_15 (v := kJ x 167 a) rfl ?_
    refine lv_goto (tgt := 44) S.1 S.2.1 dX2_tagInLeaf_18 (by decide) ?_
    refine kw_lret S hr hlk hW hS (by decide) (by decide) dX2_tagInLeaf_44 ?_
    refine ⟨?_, rfl, ?_⟩ <;> first | rfl | (simp [q_ltag, o1, kw_b]; done) | (simp [q_ltag, o1, kw_b, kI_sNew, kJ_sNew, kR_sNew, kN_sNew, kI_sI, kI_sJ, kI_sR, kI_sA, kI_sB, kI_sC, kJ_sI, kJ_sJ, kJ_sR, kJ_sA, kJ_sB, kJ_sC, kR_sI, kR_sJ, kR_sR, kR_sA, kR_sB, kR_sC, kA_sI, kA_sJ, kA_sR, kA_sA, kA_sB, kA_sC, kB_sI, kB_sJ, kB_sR, kB_sA, kB_sB, kB_sC, kC_sI, kC_sJ, kC_sR, kC_sA, kC_sB, kC_sC, kN_sI, kN_sJ, kN_sR, kN_sA, kN_sB, kN_sC]; done)
  · skip
    refine kx_gA S hK hW ha 7 157 rfl iX2 (by decide) rfl rfl (by decide) (by decide +kernel) dX2_tagInLeaf_1 (b := p2) o1 ?_
    refine lv_ifnull S.1 S.2.1 dX2_tagInLeaf_4 ?_
    refine lv_aload_n S.1 S.2.1 dX2_tagInLeaf_7 rfl (lv_at hl 0 rfl) ?_
    refine kx_gI S hK hW ha 1 151 rfl iX2 (by decide) rfl rfl (by decide) (by decide +kernel) dX2_tagInLeaf_8 (v := kI x 151 a) rfl ?_
    refine lv_if_gt (tgt := 21) S.1 S.2.1 dX2_tagInLeaf_11 (by decide) (fun c3 => ?_) (fun c3 => ?_)
    · skip
      refine lv_aload_n S.1 S.2.1 dX2_tagInLeaf_21 rfl (lv_at hl 0 rfl) ?_
      refine kx_gJ S hK hW ha 17 167 rfl iX2 (by decide) rfl rfl (by decide) (by decide +kernel) dX2_tagInLeaf_22 (v := kJ x 167 a) rfl ?_
      refine lv_ldc2 (v := 27720) S.1 S.2.1 S.2.2.2.1 (S.2.2.2.2 _ (by decide +kernel)) dX2_tagInLeaf_25 ?_
      refine lv_aload_n S.1 S.2.1 dX2_tagInLeaf_28 rfl (lv_at hl 0 rfl) ?_
      refine kx_gA S hK hW ha 7 157 rfl iX2 (by decide) rfl rfl (by decide) (by decide +kernel) dX2_tagInLeaf_29 (b := p2) o1 ?_
      refine kx_gI S hK hW (hfi p2 o1) 2 202 rfl iX3 (by decide) rfl rfl (by decide) (by decide +kernel) dX2_tagInLeaf_32 (v := kI x 202 p2) rfl ?_
      refine lv_i2l S.1 S.2.1 dX2_tagInLeaf_35 rfl ?_
      refine lv_lmul S.1 S.2.1 dX2_tagInLeaf_36 ?_
      refine lv_aload_n S.1 S.2.1 dX2_tagInLeaf_37 rfl (lv_at hl 0 rfl) ?_
      refine kx_gI S hK hW ha 1 151 rfl iX2 (by decide) rfl rfl (by decide) (by decide +kernel) dX2_tagInLeaf_38 (v := kI x 151 a) rfl ?_
      refine lv_i2l S.1 S.2.1 dX2_tagInLeaf_41 rfl ?_
      refine lv_ldiv S.1 S.2.1 dX2_tagInLeaf_42 (kw_d0 (by assumption)) ?_
      refine lv_ladd S.1 S.2.1 dX2_tagInLeaf_43 ?_
      refine kw_lret S hr hlk hW hS (by decide) (by decide) dX2_tagInLeaf_44 ?_
      refine ⟨?_, rfl, ?_⟩ <;> first | rfl | (simp [q_ltag, o1, c3, kw_b]; done) | (simp [q_ltag, o1, c3, kw_b, kI_sNew, kJ_sNew, kR_sNew, kN_sNew, kI_sI, kI_sJ, kI_sR, kI_sA, kI_sB, kI_sC, kJ_sI, kJ_sJ, kJ_sR, kJ_sA, kJ_sB, kJ_sC, kR_sI, kR_sJ, kR_sR, kR_sA, kR_sB, kR_sC, kA_sI, kA_sJ, kA_sR, kA_sA, kA_sB, kA_sC, kB_sI, kB_sJ, kB_sR, kB_sA, kB_sB, kB_sC, kC_sI, kC_sJ, kC_sR, kC_sA, kC_sB, kC_sC, kN_sI, kN_sJ, kN_sR, kN_sA, kN_sB, kN_sC]; done)
    · skip
      refine lv_aload_n S.1 S.2.1 dX2_tagInLeaf_14 rfl (lv_at hl 0 rfl) ?_
      refine kx_gJ S hK hW ha 17 167 rfl iX2 (by decide) rfl rfl (by decide) (by decide +kernel) dX2_tagInLeaf_15 (v := kJ x 167 a) rfl ?_
      refine lv_goto (tgt := 44) S.1 S.2.1 dX2_tagInLeaf_18 (by decide) ?_
      refine kw_lret S hr hlk hW hS (by decide) (by decide) dX2_tagInLeaf_44 ?_
      refine ⟨?_, rfl, ?_⟩ <;> first | rfl | (simp [q_ltag, o1, c3, kw_b]; done) | (simp [q_ltag, o1, c3, kw_b, kI_sNew, kJ_sNew, kR_sNew, kN_sNew, kI_sI, kI_sJ, kI_sR, kI_sA, kI_sB, kI_sC, kJ_sI, kJ_sJ, kJ_sR, kJ_sA, kJ_sB, kJ_sC, kR_sI, kR_sJ, kR_sR, kR_sA, kR_sB, kR_sC, kA_sI, kA_sJ, kA_sR, kA_sA, kA_sB, kA_sC, kB_sI, kB_sJ, kB_sR, kB_sA, kB_sB, kB_sC, kC_sI, kC_sJ, kC_sR, kC_sA, kC_sB, kC_sC, kN_sI, kN_sJ, kN_sR, kN_sA, kN_sB, kN_sC]; done)
set_option maxHeartbeats 1000000 in
set_option maxRecDepth 100000 in
/-- Leaf.tagInGroup -/
theorem c_X2_tagInGroup (l : Launch) (G : kw_G) (nu : Nat → Option Nat) (x : kw_St) (a : Nat) (g : Nat) (ha : nu a = some 3) (hg : nu g = some 2) (hgr : kR x 150 a = some g) (hfi : ∀ k, kR x 157 a = some k → nu k = some 4) : kw_M l G yX2_tagInGroup wsX2_tagInGroup { frames := 1, cells := 0, slots := 0, locals := 21 } 0 0 [.ref a] nu x (kw_P nu (some (.long (q_lgtag x a g))) (x)) := by
  refine kw_M.ofW (cc := cX2_tagInGroup) (maxL := 1) (ret := (some .long)) (by decide) rfl (Nat.le_of_ble_eq_true rfl) ?_
  intro p e s m args below meth c A ls S hr hlk hnm hK hZ hA hW hS hl
  have hl : lv_has ls 1 [(0, .ref a)] := hl
  have iX1 : ∀ w ∈ wsX10, w ∈ wsX2_tagInGroup := by decide +kernel
  have iX2 : ∀ w ∈ wsX20, w ∈ wsX2_tagInGroup := by decide +kernel
  have iX3 : ∀ w ∈ wsX30, w ∈ wsX2_tagInGroup := by decide +kernel
  refine lv_aload_n S.1 S.2.1 dX2_tagInGroup_0 rfl (lv_at hl 0 rfl) ?_
  rcases o1 : kR x 157 a with _ | p2
  · skip
    refine kx_gN S hK hW ha 7 157 rfl iX2 (by decide) rfl rfl (by decide) (by decide +kernel) dX2_tagInGroup_1 o1 ?_
    refine lv_ifnonnullN S.1 S.2.1 dX2_tagInGroup_4 ?_
    refine lv_aload_n S.1 S.2.1 dX2_tagInGroup_7 rfl (lv_at hl 0 rfl) ?_
    refine kx_gA S hK hW ha 0 150 rfl iX2 (by decide) rfl rfl (by decide) (by decide +kernel) dX2_tagInGroup_8 (b := g) hgr ?_
    refine kx_gJ S hK hW hg 4 104 rfl iX1 (by decide) rfl rfl (by decide) (by decide +kernel) dX2_tagInGroup_11 (v := kJ x 104 g) rfl ?_
    refine lv_goto (tgt := 31) S.1 S.2.1 dX2_tagInGroup_14 (by decide) ?_
    refine kw_lret S hr hlk hW hS (by decide) (by decide) dX2_tagInGroup_31 ?_
    refine ⟨?_, rfl, ?_⟩ <;> first | rfl | (simp [q_lgtag, o1, kw_b]; done) | (simp [q_lgtag, o1, kw_b, kI_sNew, kJ_sNew, kR_sNew, kN_sNew, kI_sI, kI_sJ, kI_sR, kI_sA, kI_sB, kI_sC, kJ_sI, kJ_sJ, kJ_sR, kJ_sA, kJ_sB, kJ_sC, kR_sI, kR_sJ, kR_sR, kR_sA, kR_sB, kR_sC, kA_sI, kA_sJ, kA_sR, kA_sA, kA_sB, kA_sC, kB_sI, kB_sJ, kB_sR, kB_sA, kB_sB, kB_sC, kC_sI, kC_sJ, kC_sR, kC_sA, kC_sB, kC_sC, kN_sI, kN_sJ, kN_sR, kN_sA, kN_sB, kN_sC]; done)
  · skip
    refine kx_gA S hK hW ha 7 157 rfl iX2 (by decide) rfl rfl (by decide) (by decide +kernel) dX2_tagInGroup_1 (b := p2) o1 ?_
    refine lv_ifnonnull (tgt := 17) S.1 S.2.1 dX2_tagInGroup_4 (by decide) ?_
    refine lv_aload_n S.1 S.2.1 dX2_tagInGroup_17 rfl (lv_at hl 0 rfl) ?_
    refine kx_gA S hK hW ha 0 150 rfl iX2 (by decide) rfl rfl (by decide) (by decide +kernel) dX2_tagInGroup_18 (b := g) hgr ?_
    refine lv_aload_n S.1 S.2.1 dX2_tagInGroup_21 rfl (lv_at hl 0 rfl) ?_
    refine kx_gA S hK hW ha 7 157 rfl iX2 (by decide) rfl rfl (by decide) (by decide +kernel) dX2_tagInGroup_22 (b := p2) o1 ?_
    refine kx_gI S hK hW (hfi p2 o1) 2 202 rfl iX3 (by decide) rfl rfl (by decide) (by decide +kernel) dX2_tagInGroup_25 (v := kI x 202 p2) rfl ?_
    refine kx_cV (As := [.int (kI x 202 p2)]) (rest := []) (st1 := [.long (q_gtag x g (kI x 202 p2))]) S hK hZ hA hW hS (c_X1_tagOf l G nu x g (kI x 202 p2) hg) (cwV 1 S.2.2.2.2 gX2_tagInGroup_X1_tagOf rfl rfl rfl (by decide +kernel) ⟨Nat.le_of_ble_eq_true rfl, Nat.le_of_ble_eq_true rfl⟩) hg (by decide) rfl rfl hl.1 rfl (Nat.le_of_ble_eq_true rfl) dX2_tagInGroup_28 ⟨Nat.le_of_ble_eq_true rfl, Nat.le_of_ble_eq_true rfl⟩ rfl (fun H locs hW hS => ?_)
    refine kw_lret S hr hlk hW hS (by decide) (by decide) dX2_tagInGroup_31 ?_
    refine ⟨?_, rfl, ?_⟩ <;> first | rfl | (simp [q_lgtag, o1, kw_b]; done) | (simp [q_lgtag, o1, kw_b, kI_sNew, kJ_sNew, kR_sNew, kN_sNew, kI_sI, kI_sJ, kI_sR, kI_sA, kI_sB, kI_sC, kJ_sI, kJ_sJ, kJ_sR, kJ_sA, kJ_sB, kJ_sC, kR_sI, kR_sJ, kR_sR, kR_sA, kR_sB, kR_sC, kA_sI, kA_sJ, kA_sR, kA_sA, kA_sB, kA_sC, kB_sI, kB_sJ, kB_sR, kB_sA, kB_sB, kB_sC, kC_sI, kC_sJ, kC_sR, kC_sA, kC_sB, kC_sC, kN_sI, kN_sJ, kN_sR, kN_sA, kN_sB, kN_sC]; done)
set_option maxHeartbeats 1000000 in
set_option maxRecDepth 100000 in
/-- Leaf.ticksUntilMayGo -/
theorem c_X2_ticksUntilMayGo (l : Launch) (G : kw_G) (nu : Nat → Option Nat) (x : kw_St) (a : Nat) (t : Int32) (g : Nat) (b : Nat) (gb : Nat) (ha : nu a = some 3) (hg : nu g = some 2) (hb : nu b = some 1) (hgb : nu gb = some 1) (hgr : kR x 150 a = some g) (hce : kR x 153 a = some b) (hgc : kR x 101 g = some gb) (hfi : ∀ k, kR x 157 a = some k → nu k = some 4) : kw_M l G yX2_ticksUntilMayGo wsX2_ticksUntilMayGo { frames := 2, cells := 0, slots := 0, locals := 43 } 0 0 [.ref a, .int (t)] nu x (kw_P nu (some (.long (q_tmg x a b gb t))) (x)) := by
  refine kw_M.ofW (cc := cX2_ticksUntilMayGo) (maxL := 4) (ret := (some .long)) (by decide) rfl (Nat.le_of_ble_eq_true rfl) ?_
  intro p e s m args below meth c A ls S hr hlk hnm hK hZ hA hW hS hl
  have hl : lv_has ls 4 [(0, .ref a), (1, .int (t))] := hl
  have iX1 : ∀ w ∈ wsX10, w ∈ wsX2_ticksUntilMayGo := by decide +kernel
  have iX2 : ∀ w ∈ wsX20, w ∈ wsX2_ticksUntilMayGo := by decide +kernel
  have iX3 : ∀ w ∈ wsX30, w ∈ wsX2_ticksUntilMayGo := by decide +kernel
  refine lv_aload_n S.1 S.2.1 dX2_ticksUntilMayGo_0 rfl (lv_at hl 0 rfl) ?_
  rcases o1 : kR x 157 a with _ | p2
  · skip
    refine kx_gN S hK hW ha 7 157 rfl iX2 (by decide) rfl rfl (by decide) (by decide +kernel) dX2_ticksUntilMayGo_1 o1 ?_
    refine lv_ifnonnullN S.1 S.2.1 dX2_ticksUntilMayGo_4 ?_
    refine lv_ldc2 (v := 2000000000) S.1 S.2.1 S.2.2.2.1 (S.2.2.2.2 _ (by decide +kernel)) dX2_ticksUntilMayGo_7 ?_
    refine kw_lret S hr hlk hW hS (by decide) (by decide) dX2_ticksUntilMayGo_10 ?_
    refine ⟨?_, rfl, ?_⟩ <;> first | rfl | (simp [q_tmg, o1, kw_b]; done) | (simp [q_tmg, o1, kw_b, kI_sNew, kJ_sNew, kR_sNew, kN_sNew, kI_sI, kI_sJ, kI_sR, kI_sA, kI_sB, kI_sC, kJ_sI, kJ_sJ, kJ_sR, kJ_sA, kJ_sB, kJ_sC, kR_sI, kR_sJ, kR_sR, kR_sA, kR_sB, kR_sC, kA_sI, kA_sJ, kA_sR, kA_sA, kA_sB, kA_sC, kB_sI, kB_sJ, kB_sR, kB_sA, kB_sB, kB_sC, kC_sI, kC_sJ, kC_sR, kC_sA, kC_sB, kC_sC, kN_sI, kN_sJ, kN_sR, kN_sA, kN_sB, kN_sC]; done)
  · skip
    refine kx_gA S hK hW ha 7 157 rfl iX2 (by decide) rfl rfl (by decide) (by decide +kernel) dX2_ticksUntilMayGo_1 (b := p2) o1 ?_
    refine lv_ifnonnull (tgt := 11) S.1 S.2.1 dX2_ticksUntilMayGo_4 (by decide) ?_
    refine lv_aload_n S.1 S.2.1 dX2_ticksUntilMayGo_11 rfl (lv_at hl 0 rfl) ?_
    refine kx_gA S hK hW ha 3 153 rfl iX2 (by decide) rfl rfl (by decide) (by decide +kernel) dX2_ticksUntilMayGo_12 (b := b) hce ?_
    refine lv_aload_n S.1 S.2.1 dX2_ticksUntilMayGo_15 rfl (lv_at hl 0 rfl) ?_
    refine kx_gA S hK hW ha 7 157 rfl iX2 (by decide) rfl rfl (by decide) (by decide +kernel) dX2_ticksUntilMayGo_16 (b := p2) o1 ?_
    refine kx_gI S hK hW (hfi p2 o1) 2 202 rfl iX3 (by decide) rfl rfl (by decide) (by decide +kernel) dX2_ticksUntilMayGo_19 (v := kI x 202 p2) rfl ?_
    refine kx_cV (As := [.int (kI x 202 p2)]) (rest := []) (st1 := [.long (q_tuc x b (kI x 202 p2))]) S hK hZ hA hW hS (c_X0_ticksUntilCovers l G nu x b (kI x 202 p2) hb) (cwV 1 S.2.2.2.2 gX2_ticksUntilMayGo_X0_ticksUntilCovers rfl rfl rfl (by decide +kernel) ⟨Nat.le_of_ble_eq_true rfl, Nat.le_of_ble_eq_true rfl⟩) hb (by decide) rfl rfl hl.1 rfl (Nat.le_of_ble_eq_true rfl) dX2_ticksUntilMayGo_22 ⟨Nat.le_of_ble_eq_true rfl, Nat.le_of_ble_eq_true rfl⟩ rfl (fun H locs hW hS => ?_)
    refine lv_aload_n S.1 S.2.1 dX2_ticksUntilMayGo_25 rfl (lv_at hl 0 rfl) ?_
    refine kx_gA S hK hW ha 0 150 rfl iX2 (by decide) rfl rfl (by decide) (by decide +kernel) dX2_ticksUntilMayGo_26 (b := g) hgr ?_
    refine kx_gA S hK hW hg 1 101 rfl iX1 (by decide) rfl rfl (by decide) (by decide +kernel) dX2_ticksUntilMayGo_29 (b := gb) hgc ?_
    refine lv_aload_n S.1 S.2.1 dX2_ticksUntilMayGo_32 rfl (lv_at hl 0 rfl) ?_
    refine kx_gA S hK hW ha 7 157 rfl iX2 (by decide) rfl rfl (by decide) (by decide +kernel) dX2_ticksUntilMayGo_33 (b := p2) o1 ?_
    refine kx_gI S hK hW (hfi p2 o1) 2 202 rfl iX3 (by decide) rfl rfl (by decide) (by decide +kernel) dX2_ticksUntilMayGo_36 (v := kI x 202 p2) rfl ?_
    refine kx_cV (As := [.int (kI x 202 p2)]) (rest := [.long (q_tuc x b (kI x 202 p2))]) (st1 := [.long (q_tuc x gb (kI x 202 p2)), .long (q_tuc x b (kI x 202 p2))]) S hK hZ hA hW hS (c_X0_ticksUntilCovers l G nu x gb (kI x 202 p2) hgb) (cwV 1 S.2.2.2.2 gX2_ticksUntilMayGo_X0_ticksUntilCovers rfl rfl rfl (by decide +kernel) ⟨Nat.le_of_ble_eq_true rfl, Nat.le_of_ble_eq_true rfl⟩) hgb (by decide) rfl rfl hl.1 rfl (Nat.le_of_ble_eq_true rfl) dX2_ticksUntilMayGo_39 ⟨Nat.le_of_ble_eq_true rfl, Nat.le_of_ble_eq_true rfl⟩ rfl (fun H locs hW hS => ?_)
    refine kx_maxl S hl.1 (by decide +kernel) (by decide +kernel) (by decide +kernel) (by decide +kernel) (Nat.le_of_ble_eq_true rfl) (Nat.le_of_ble_eq_true rfl) (by first | exact Nat.le_of_ble_eq_true rfl | exact Nat.le_refl _ | exact Nat.le_of_eq (Nat.zero_add _)) (by first | exact Nat.le_of_ble_eq_true rfl | exact Nat.le_of_eq (Nat.zero_add _) | exact Nat.le_refl _) dX2_ticksUntilMayGo_42 ?_
    refine lv_lstore_n (lv' := [(2, .long (if (q_tuc x gb (kI x 202 p2)) < (q_tuc x b (kI x 202 p2)) then (q_tuc x b (kI x 202 p2)) else (q_tuc x gb (kI x 202 p2)))), (0, .ref a), (1, .int (t))]) S.1 S.2.1 dX2_ticksUntilMayGo_45 rfl hl (by decide) rfl (fun ls hl => ?_)
    refine lv_aload_n S.1 S.2.1 dX2_ticksUntilMayGo_46 rfl (lv_at hl 1 rfl) ?_
    refine kx_cV (As := []) (rest := []) (st1 := [.int (q_start x a)]) S hK hZ hA hW hS (c_X2_start l G nu x a ha hfi) (cwV 0 S.2.2.2.2 gX2_ticksUntilMayGo_X2_start rfl rfl rfl (by decide +kernel) ⟨Nat.le_of_ble_eq_true rfl, Nat.le_of_ble_eq_true rfl⟩) ha (by decide) rfl rfl hl.1 rfl (Nat.le_of_ble_eq_true rfl) dX2_ticksUntilMayGo_47 ⟨Nat.le_of_ble_eq_true rfl, Nat.le_of_ble_eq_true rfl⟩ rfl (fun H locs hW hS => ?_)
    refine lv_iload_n S.1 S.2.1 dX2_ticksUntilMayGo_50 rfl (lv_at hl 2 rfl) ?_
    refine lv_isub S.1 S.2.1 dX2_ticksUntilMayGo_51 ?_
    refine lv_i2l S.1 S.2.1 dX2_ticksUntilMayGo_52 rfl ?_
    refine lv_lload_n S.1 S.2.1 dX2_ticksUntilMayGo_53 rfl (lv_at hl 0 rfl) ?_
    refine kx_minl S hl.1 (by decide +kernel) (by decide +kernel) (by decide +kernel) (by decide +kernel) (Nat.le_of_ble_eq_true rfl) (Nat.le_of_ble_eq_true rfl) (by first | exact Nat.le_of_ble_eq_true rfl | exact Nat.le_refl _ | exact Nat.le_of_eq (Nat.zero_add _)) (by first | exact Nat.le_of_ble_eq_true rfl | exact Nat.le_of_eq (Nat.zero_add _) | exact Nat.le_refl _) dX2_ticksUntilMayGo_54 ?_
    refine kw_lret S hr hlk hW hS (by decide) (by decide) dX2_ticksUntilMayGo_57 ?_
    refine ⟨?_, rfl, ?_⟩ <;> first | rfl | (simp [q_tmg, o1, kw_b]; done) | (simp [q_tmg, o1, kw_b, kI_sNew, kJ_sNew, kR_sNew, kN_sNew, kI_sI, kI_sJ, kI_sR, kI_sA, kI_sB, kI_sC, kJ_sI, kJ_sJ, kJ_sR, kJ_sA, kJ_sB, kJ_sC, kR_sI, kR_sJ, kR_sR, kR_sA, kR_sB, kR_sC, kA_sI, kA_sJ, kA_sR, kA_sA, kA_sB, kA_sC, kB_sI, kB_sJ, kB_sR, kB_sA, kB_sB, kB_sC, kC_sI, kC_sJ, kC_sR, kC_sA, kC_sB, kC_sC, kN_sI, kN_sJ, kN_sR, kN_sA, kN_sB, kN_sC]; done)
set_option maxHeartbeats 1000000 in
set_option maxRecDepth 100000 in
/-- Leaf.paysPolicer -/
theorem c_X2_paysPolicer (l : Launch) (G : kw_G) (nu : Nat → Option Nat) (x : kw_St) (a : Nat) (z : Int32) (ha : nu a = some 3) (hpo : ∀ k, kR x 155 a = some k → nu k = some 1) : kw_M l G yX2_paysPolicer wsX2_paysPolicer { frames := 1, cells := 0, slots := 0, locals := 21 } 0 0 [.ref a, .int (z)] nu x (kw_P nu (some (.int (kw_b (q_pays x a z = true)))) (q_payx x a z)) := by
  refine kw_M.ofW (cc := cX2_paysPolicer) (maxL := 2) (ret := (some .boolean)) (by decide) rfl (Nat.le_of_ble_eq_true rfl) ?_
  intro p e s m args below meth c A ls S hr hlk hnm hK hZ hA hW hS hl
  have hl : lv_has ls 2 [(0, .ref a), (1, .int (z))] := hl
  have iX2 : ∀ w ∈ wsX20, w ∈ wsX2_paysPolicer := by decide +kernel
  refine lv_aload_n S.1 S.2.1 dX2_paysPolicer_0 rfl (lv_at hl 0 rfl) ?_
  rcases o1 : kR x 155 a with _ | p2
  · skip
    refine kx_gN S hK hW ha 5 155 rfl iX2 (by decide) rfl rfl (by decide) (by decide +kernel) dX2_paysPolicer_1 o1 ?_
    refine lv_ifnonnullN S.1 S.2.1 dX2_paysPolicer_4 ?_
    refine lv_iconst (v := 1) S.1 S.2.1 dX2_paysPolicer_7 (by decide) ?_
    refine kw_zret S hr hlk hW hS (by decide) (by decide) dX2_paysPolicer_8 kw_n1 ?_
    refine ⟨?_, rfl, ?_⟩ <;> first | rfl | (simp [q_pays, q_payx, o1, kw_b]; done) | (simp [q_pays, q_payx, o1, kw_b, kI_sNew, kJ_sNew, kR_sNew, kN_sNew, kI_sI, kI_sJ, kI_sR, kI_sA, kI_sB, kI_sC, kJ_sI, kJ_sJ, kJ_sR, kJ_sA, kJ_sB, kJ_sC, kR_sI, kR_sJ, kR_sR, kR_sA, kR_sB, kR_sC, kA_sI, kA_sJ, kA_sR, kA_sA, kA_sB, kA_sC, kB_sI, kB_sJ, kB_sR, kB_sA, kB_sB, kB_sC, kC_sI, kC_sJ, kC_sR, kC_sA, kC_sB, kC_sC, kN_sI, kN_sJ, kN_sR, kN_sA, kN_sB, kN_sC]; done)
  · skip
    refine kx_gA S hK hW ha 5 155 rfl iX2 (by decide) rfl rfl (by decide) (by decide +kernel) dX2_paysPolicer_1 (b := p2) o1 ?_
    refine lv_ifnonnull (tgt := 9) S.1 S.2.1 dX2_paysPolicer_4 (by decide) ?_
    refine lv_aload_n S.1 S.2.1 dX2_paysPolicer_9 rfl (lv_at hl 0 rfl) ?_
    refine kx_gA S hK hW ha 5 155 rfl iX2 (by decide) rfl rfl (by decide) (by decide +kernel) dX2_paysPolicer_10 (b := p2) o1 ?_
    refine lv_iload_n S.1 S.2.1 dX2_paysPolicer_13 rfl (lv_at hl 1 rfl) ?_
    refine kx_cV (As := [.int (z)]) (rest := []) (st1 := [.int (kw_b (¬ kJ x 52 p2 < 1000 * (z).toInt64))]) S hK hZ hA hW hS (c_X0_covers l G nu x p2 z ((hpo p2 o1))) (cwV 1 S.2.2.2.2 gX2_paysPolicer_X0_covers rfl rfl rfl (by decide +kernel) ⟨Nat.le_of_ble_eq_true rfl, Nat.le_of_ble_eq_true rfl⟩) ((hpo p2 o1)) (by decide) rfl rfl hl.1 rfl (Nat.le_of_ble_eq_true rfl) dX2_paysPolicer_14 ⟨Nat.le_of_ble_eq_true rfl, Nat.le_of_ble_eq_true rfl⟩ rfl (fun H locs hW hS => ?_)
    refine kx_ifz_ne (tgt := 22) S dX2_paysPolicer_17 (by decide) (fun c3 => ?_) (fun c3 => ?_)
    · skip
      refine lv_aload_n S.1 S.2.1 dX2_paysPolicer_22 rfl (lv_at hl 0 rfl) ?_
      refine kx_gA S hK hW ha 5 155 rfl iX2 (by decide) rfl rfl (by decide) (by decide +kernel) dX2_paysPolicer_23 (b := p2) o1 ?_
      refine lv_iload_n S.1 S.2.1 dX2_paysPolicer_26 rfl (lv_at hl 1 rfl) ?_
      refine kx_cV (As := [.int (z)]) (rest := []) (st1 := []) S hK hZ hA hW hS (c_X0_take l G nu x p2 z ((hpo p2 o1))) (cwV 1 S.2.2.2.2 gX2_paysPolicer_X0_take rfl rfl rfl (by decide +kernel) ⟨Nat.le_of_ble_eq_true rfl, Nat.le_of_ble_eq_true rfl⟩) ((hpo p2 o1)) (by decide) rfl rfl hl.1 rfl (Nat.le_of_ble_eq_true rfl) dX2_paysPolicer_27 ⟨Nat.le_of_ble_eq_true rfl, Nat.le_of_ble_eq_true rfl⟩ rfl (fun H locs hW hS => ?_)
      refine lv_iconst (v := 1) S.1 S.2.1 dX2_paysPolicer_30 (by decide) ?_
      refine kw_zret S hr hlk hW hS (by decide) (by decide) dX2_paysPolicer_31 kw_n1 ?_
      refine ⟨?_, rfl, ?_⟩ <;> first | rfl | (simp [q_pays, q_payx, o1, c3, kw_b]; done) | (simp [q_pays, q_payx, o1, c3, kw_b, kI_sNew, kJ_sNew, kR_sNew, kN_sNew, kI_sI, kI_sJ, kI_sR, kI_sA, kI_sB, kI_sC, kJ_sI, kJ_sJ, kJ_sR, kJ_sA, kJ_sB, kJ_sC, kR_sI, kR_sJ, kR_sR, kR_sA, kR_sB, kR_sC, kA_sI, kA_sJ, kA_sR, kA_sA, kA_sB, kA_sC, kB_sI, kB_sJ, kB_sR, kB_sA, kB_sB, kB_sC, kC_sI, kC_sJ, kC_sR, kC_sA, kC_sB, kC_sC, kN_sI, kN_sJ, kN_sR, kN_sA, kN_sB, kN_sC]; done)
    · skip
      refine lv_iconst (v := 0) S.1 S.2.1 dX2_paysPolicer_20 (by decide) ?_
      refine kw_zret S hr hlk hW hS (by decide) (by decide) dX2_paysPolicer_21 kw_n0 ?_
      refine ⟨?_, rfl, ?_⟩ <;> first | rfl | (simp [q_pays, q_payx, o1, c3, kw_b]; done) | (simp [q_pays, q_payx, o1, c3, kw_b, kI_sNew, kJ_sNew, kR_sNew, kN_sNew, kI_sI, kI_sJ, kI_sR, kI_sA, kI_sB, kI_sC, kJ_sI, kJ_sJ, kJ_sR, kJ_sA, kJ_sB, kJ_sC, kR_sI, kR_sJ, kR_sR, kR_sA, kR_sB, kR_sC, kA_sI, kA_sJ, kA_sR, kA_sA, kA_sB, kA_sC, kB_sI, kB_sJ, kB_sR, kB_sA, kB_sB, kB_sC, kC_sI, kC_sJ, kC_sR, kC_sA, kC_sB, kC_sC, kN_sI, kN_sJ, kN_sR, kN_sA, kN_sB, kN_sC]; done)
set_option maxHeartbeats 1000000 in
set_option maxRecDepth 100000 in
/-- Leaf.catchUp -/
theorem c_X2_catchUp (l : Launch) (G : kw_G) (nu : Nat → Option Nat) (x : kw_St) (a : Nat) (lm : Int64) (g : Nat) (ha : nu a = some 3) (hg : nu g = some 2) (hgr : kR x 150 a = some g) (hfi : ∀ k, kR x 157 a = some k → nu k = some 4) : kw_M l G yX2_catchUp wsX2_catchUp { frames := 1, cells := 0, slots := 0, locals := 23 } 0 0 [.ref a, .long (lm)] nu x (kw_P nu (none) (q_catch x a g lm)) := by
  refine kw_M.ofW (cc := cX2_catchUp) (maxL := 3) (ret := none) (by decide) rfl (Nat.le_of_ble_eq_true rfl) ?_
  intro p e s m args below meth c A ls S hr hlk hnm hK hZ hA hW hS hl
  have hl : lv_has ls 3 [(0, .ref a), (1, .long (lm))] := hl
  have iX1 : ∀ w ∈ wsX10, w ∈ wsX2_catchUp := by decide +kernel
  have iX2 : ∀ w ∈ wsX20, w ∈ wsX2_catchUp := by decide +kernel
  refine lv_aload_n S.1 S.2.1 dX2_catchUp_0 rfl (lv_at hl 0 rfl) ?_
  rcases o1 : kR x 157 a with _ | p2
  · skip
    refine kx_gN S hK hW ha 7 157 rfl iX2 (by decide) rfl rfl (by decide) (by decide +kernel) dX2_catchUp_1 o1 ?_
    refine lv_ifnonnullN S.1 S.2.1 dX2_catchUp_4 ?_
    refine lv_aload_n S.1 S.2.1 dX2_catchUp_7 rfl (lv_at hl 0 rfl) ?_
    refine lv_aload_n S.1 S.2.1 dX2_catchUp_8 rfl (lv_at hl 0 rfl) ?_
    refine kx_gJ S hK hW ha 17 167 rfl iX2 (by decide) rfl rfl (by decide) (by decide +kernel) dX2_catchUp_9 (v := kJ x 167 a) rfl ?_
    refine lv_aload_n S.1 S.2.1 dX2_catchUp_12 rfl (lv_at hl 0 rfl) ?_
    refine kx_gA S hK hW ha 0 150 rfl iX2 (by decide) rfl rfl (by decide) (by decide +kernel) dX2_catchUp_13 (b := g) hgr ?_
    refine kx_gJ S hK hW hg 5 105 rfl iX1 (by decide) rfl rfl (by decide) (by decide +kernel) dX2_catchUp_16 (v := kJ x 105 g) rfl ?_
    refine kx_maxl S hl.1 (by decide +kernel) (by decide +kernel) (by decide +kernel) (by decide +kernel) (Nat.le_of_ble_eq_true rfl) (Nat.le_of_ble_eq_true rfl) (by first | exact Nat.le_of_ble_eq_true rfl | exact Nat.le_refl _ | exact Nat.le_of_eq (Nat.zero_add _)) (by first | exact Nat.le_of_ble_eq_true rfl | exact Nat.le_of_eq (Nat.zero_add _) | exact Nat.le_refl _) dX2_catchUp_19 ?_
    refine kx_pJ S hK hW hS ha 17 167  rfl iX2 tyX2_ok nmX2 (by decide) rfl rfl (by decide) (by decide +kernel) (Or.inl rfl) rfl dX2_catchUp_22 (fun H locs hW hS => ?_)
    refine lv_aload_n S.1 S.2.1 dX2_catchUp_25 rfl (lv_at hl 0 rfl) ?_
    refine kx_gA S hK hW ha 0 150 rfl iX2 (by decide) rfl rfl (by decide) (by decide +kernel) dX2_catchUp_26 (b := g) (by rw [show kR (sJ x 167 a (if (kJ x 105 g) < (kJ x 167 a) then (kJ x 167 a) else (kJ x 105 g))) 150 a = kR x 150 a from (by simp [kI_sNew, kJ_sNew, kR_sNew, kN_sNew, kI_sI, kI_sJ, kI_sR, kI_sA, kI_sB, kI_sC, kJ_sI, kJ_sJ, kJ_sR, kJ_sA, kJ_sB, kJ_sC, kR_sI, kR_sJ, kR_sR, kR_sA, kR_sB, kR_sC, kA_sI, kA_sJ, kA_sR, kA_sA, kA_sB, kA_sC, kB_sI, kB_sJ, kB_sR, kB_sA, kB_sB, kB_sC, kC_sI, kC_sJ, kC_sR, kC_sA, kC_sB, kC_sC, kN_sI, kN_sJ, kN_sR, kN_sA, kN_sB, kN_sC])]; exact hgr) ?_
    refine kx_gI S hK hW hg 3 103 rfl iX1 (by decide) rfl rfl (by decide) (by decide +kernel) dX2_catchUp_29 (v := kI x 103 g) (by simp [kI_sNew, kJ_sNew, kR_sNew, kN_sNew, kI_sI, kI_sJ, kI_sR, kI_sA, kI_sB, kI_sC, kJ_sI, kJ_sJ, kJ_sR, kJ_sA, kJ_sB, kJ_sC, kR_sI, kR_sJ, kR_sR, kR_sA, kR_sB, kR_sC, kA_sI, kA_sJ, kA_sR, kA_sA, kA_sB, kA_sC, kB_sI, kB_sJ, kB_sR, kB_sA, kB_sB, kB_sC, kC_sI, kC_sJ, kC_sR, kC_sA, kC_sB, kC_sC, kN_sI, kN_sJ, kN_sR, kN_sA, kN_sB, kN_sC]) ?_
    refine lv_if_ne (tgt := 53) S.1 S.2.1 dX2_catchUp_32 (by decide) (fun c3 => ?_) (fun c3 => ?_)
    · skip
      refine kw_vret S hr hlk hW hS (by decide) (by decide) dX2_catchUp_53 ?_
      refine ⟨?_, rfl, ?_⟩ <;> first | rfl | (simp [q_catch, o1, c3, kw_b]; done) | (simp [q_catch, o1, c3, kw_b, kI_sNew, kJ_sNew, kR_sNew, kN_sNew, kI_sI, kI_sJ, kI_sR, kI_sA, kI_sB, kI_sC, kJ_sI, kJ_sJ, kJ_sR, kJ_sA, kJ_sB, kJ_sC, kR_sI, kR_sJ, kR_sR, kR_sA, kR_sB, kR_sC, kA_sI, kA_sJ, kA_sR, kA_sA, kA_sB, kA_sC, kB_sI, kB_sJ, kB_sR, kB_sA, kB_sB, kB_sC, kC_sI, kC_sJ, kC_sR, kC_sA, kC_sB, kC_sC, kN_sI, kN_sJ, kN_sR, kN_sA, kN_sB, kN_sC]; done)
    · skip
      refine lv_aload_n S.1 S.2.1 dX2_catchUp_35 rfl (lv_at hl 0 rfl) ?_
      refine kx_gA S hK hW ha 0 150 rfl iX2 (by decide) rfl rfl (by decide) (by decide +kernel) dX2_catchUp_36 (b := g) (by rw [show kR (sJ x 167 a (if (kJ x 105 g) < (kJ x 167 a) then (kJ x 167 a) else (kJ x 105 g))) 150 a = kR x 150 a from (by simp [kI_sNew, kJ_sNew, kR_sNew, kN_sNew, kI_sI, kI_sJ, kI_sR, kI_sA, kI_sB, kI_sC, kJ_sI, kJ_sJ, kJ_sR, kJ_sA, kJ_sB, kJ_sC, kR_sI, kR_sJ, kR_sR, kR_sA, kR_sB, kR_sC, kA_sI, kA_sJ, kA_sR, kA_sA, kA_sB, kA_sC, kB_sI, kB_sJ, kB_sR, kB_sA, kB_sB, kB_sC, kC_sI, kC_sJ, kC_sR, kC_sA, kC_sB, kC_sC, kN_sI, kN_sJ, kN_sR, kN_sA, kN_sB, kN_sC])]; exact hgr) ?_
      refine lv_aload_n S.1 S.2.1 dX2_catchUp_39 rfl (lv_at hl 0 rfl) ?_
      refine kx_gA S hK hW ha 0 150 rfl iX2 (by decide) rfl rfl (by decide) (by decide +kernel) dX2_catchUp_40 (b := g) (by rw [show kR (sJ x 167 a (if (kJ x 105 g) < (kJ x 167 a) then (kJ x 167 a) else (kJ x 105 g))) 150 a = kR x 150 a from (by simp [kI_sNew, kJ_sNew, kR_sNew, kN_sNew, kI_sI, kI_sJ, kI_sR, kI_sA, kI_sB, kI_sC, kJ_sI, kJ_sJ, kJ_sR, kJ_sA, kJ_sB, kJ_sC, kR_sI, kR_sJ, kR_sR, kR_sA, kR_sB, kR_sC, kA_sI, kA_sJ, kA_sR, kA_sA, kA_sB, kA_sC, kB_sI, kB_sJ, kB_sR, kB_sA, kB_sB, kB_sC, kC_sI, kC_sJ, kC_sR, kC_sA, kC_sB, kC_sC, kN_sI, kN_sJ, kN_sR, kN_sA, kN_sB, kN_sC])]; exact hgr) ?_
      refine kx_gJ S hK hW hg 4 104 rfl iX1 (by decide) rfl rfl (by decide) (by decide +kernel) dX2_catchUp_43 (v := kJ x 104 g) (by simp [kI_sNew, kJ_sNew, kR_sNew, kN_sNew, kI_sI, kI_sJ, kI_sR, kI_sA, kI_sB, kI_sC, kJ_sI, kJ_sJ, kJ_sR, kJ_sA, kJ_sB, kJ_sC, kR_sI, kR_sJ, kR_sR, kR_sA, kR_sB, kR_sC, kA_sI, kA_sJ, kA_sR, kA_sA, kA_sB, kA_sC, kB_sI, kB_sJ, kB_sR, kB_sA, kB_sB, kB_sC, kC_sI, kC_sJ, kC_sR, kC_sA, kC_sB, kC_sC, kN_sI, kN_sJ, kN_sR, kN_sA, kN_sB, kN_sC]) ?_
      refine lv_lload_n S.1 S.2.1 dX2_catchUp_46 rfl (lv_at hl 1 rfl) ?_
      refine kx_maxl S hl.1 (by decide +kernel) (by decide +kernel) (by decide +kernel) (by decide +kernel) (Nat.le_of_ble_eq_true rfl) (Nat.le_of_ble_eq_true rfl) (by first | exact Nat.le_of_ble_eq_true rfl | exact Nat.le_refl _ | exact Nat.le_of_eq (Nat.zero_add _)) (by first | exact Nat.le_of_ble_eq_true rfl | exact Nat.le_of_eq (Nat.zero_add _) | exact Nat.le_refl _) dX2_catchUp_47 ?_
      refine kx_pJ S hK hW hS hg 4 104  rfl iX1 tyX1_ok nmX1 (by decide) rfl rfl (by decide) (by decide +kernel) (Or.inl rfl) rfl dX2_catchUp_50 (fun H locs hW hS => ?_)
      refine kw_vret S hr hlk hW hS (by decide) (by decide) dX2_catchUp_53 ?_
      refine ⟨?_, rfl, ?_⟩ <;> first | rfl | (simp [q_catch, o1, eq_true c3, kw_b]; done) | (simp [q_catch, o1, eq_true c3, kw_b, kI_sNew, kJ_sNew, kR_sNew, kN_sNew, kI_sI, kI_sJ, kI_sR, kI_sA, kI_sB, kI_sC, kJ_sI, kJ_sJ, kJ_sR, kJ_sA, kJ_sB, kJ_sC, kR_sI, kR_sJ, kR_sR, kR_sA, kR_sB, kR_sC, kA_sI, kA_sJ, kA_sR, kA_sA, kA_sB, kA_sC, kB_sI, kB_sJ, kB_sR, kB_sA, kB_sB, kB_sC, kC_sI, kC_sJ, kC_sR, kC_sA, kC_sB, kC_sC, kN_sI, kN_sJ, kN_sR, kN_sA, kN_sB, kN_sC]; done)
  · skip
    refine kx_gA S hK hW ha 7 157 rfl iX2 (by decide) rfl rfl (by decide) (by decide +kernel) dX2_catchUp_1 (b := p2) o1 ?_
    refine lv_ifnonnull (tgt := 25) S.1 S.2.1 dX2_catchUp_4 (by decide) ?_
    refine lv_aload_n S.1 S.2.1 dX2_catchUp_25 rfl (lv_at hl 0 rfl) ?_
    refine kx_gA S hK hW ha 0 150 rfl iX2 (by decide) rfl rfl (by decide) (by decide +kernel) dX2_catchUp_26 (b := g) hgr ?_
    refine kx_gI S hK hW hg 3 103 rfl iX1 (by decide) rfl rfl (by decide) (by decide +kernel) dX2_catchUp_29 (v := kI x 103 g) rfl ?_
    refine lv_if_ne (tgt := 53) S.1 S.2.1 dX2_catchUp_32 (by decide) (fun c4 => ?_) (fun c4 => ?_)
    · skip
      refine kw_vret S hr hlk hW hS (by decide) (by decide) dX2_catchUp_53 ?_
      refine ⟨?_, rfl, ?_⟩ <;> first | rfl | (simp [q_catch, o1, c4, kw_b]; done) | (simp [q_catch, o1, c4, kw_b, kI_sNew, kJ_sNew, kR_sNew, kN_sNew, kI_sI, kI_sJ, kI_sR, kI_sA, kI_sB, kI_sC, kJ_sI, kJ_sJ, kJ_sR, kJ_sA, kJ_sB, kJ_sC, kR_sI, kR_sJ, kR_sR, kR_sA, kR_sB, kR_sC, kA_sI, kA_sJ, kA_sR, kA_sA, kA_sB, kA_sC, kB_sI, kB_sJ, kB_sR, kB_sA, kB_sB, kB_sC, kC_sI, kC_sJ, kC_sR, kC_sA, kC_sB, kC_sC, kN_sI, kN_sJ, kN_sR, kN_sA, kN_sB, kN_sC]; done)
    · skip
      refine lv_aload_n S.1 S.2.1 dX2_catchUp_35 rfl (lv_at hl 0 rfl) ?_
      refine kx_gA S hK hW ha 0 150 rfl iX2 (by decide) rfl rfl (by decide) (by decide +kernel) dX2_catchUp_36 (b := g) hgr ?_
      refine lv_aload_n S.1 S.2.1 dX2_catchUp_39 rfl (lv_at hl 0 rfl) ?_
      refine kx_gA S hK hW ha 0 150 rfl iX2 (by decide) rfl rfl (by decide) (by decide +kernel) dX2_catchUp_40 (b := g) hgr ?_
      refine kx_gJ S hK hW hg 4 104 rfl iX1 (by decide) rfl rfl (by decide) (by decide +kernel) dX2_catchUp_43 (v := kJ x 104 g) rfl ?_
      refine lv_lload_n S.1 S.2.1 dX2_catchUp_46 rfl (lv_at hl 1 rfl) ?_
      refine kx_maxl S hl.1 (by decide +kernel) (by decide +kernel) (by decide +kernel) (by decide +kernel) (Nat.le_of_ble_eq_true rfl) (Nat.le_of_ble_eq_true rfl) (by first | exact Nat.le_of_ble_eq_true rfl | exact Nat.le_refl _ | exact Nat.le_of_eq (Nat.zero_add _)) (by first | exact Nat.le_of_ble_eq_true rfl | exact Nat.le_of_eq (Nat.zero_add _) | exact Nat.le_refl _) dX2_catchUp_47 ?_
      refine kx_pJ S hK hW hS hg 4 104  rfl iX1 tyX1_ok nmX1 (by decide) rfl rfl (by decide) (by decide +kernel) (Or.inl rfl) rfl dX2_catchUp_50 (fun H locs hW hS => ?_)
      refine kw_vret S hr hlk hW hS (by decide) (by decide) dX2_catchUp_53 ?_
      refine ⟨?_, rfl, ?_⟩ <;> first | rfl | (simp [q_catch, o1, eq_true c4, kw_b]; done) | (simp [q_catch, o1, eq_true c4, kw_b, kI_sNew, kJ_sNew, kR_sNew, kN_sNew, kI_sI, kI_sJ, kI_sR, kI_sA, kI_sB, kI_sC, kJ_sI, kJ_sJ, kJ_sR, kJ_sA, kJ_sB, kJ_sC, kR_sI, kR_sJ, kR_sR, kR_sA, kR_sB, kR_sC, kA_sI, kA_sJ, kA_sR, kA_sA, kA_sB, kA_sC, kB_sI, kB_sJ, kB_sR, kB_sA, kB_sB, kB_sC, kC_sI, kC_sJ, kC_sR, kC_sA, kC_sB, kC_sC, kN_sI, kN_sJ, kN_sR, kN_sA, kN_sB, kN_sC]; done)
set_option maxHeartbeats 1000000 in
set_option maxRecDepth 100000 in
/-- Leaf.append -/
theorem c_X2_append (l : Launch) (G : kw_G) (nu : Nat → Option Nat) (x : kw_St) (a : Nat) (k : Nat) (g : Nat) (ha : nu a = some 3) (hg : nu g = some 2) (hk : nu k = some 4) (hgr : kR x 150 a = some g) (hla : ∀ k, kR x 158 a = some k → nu k = some 4) : kw_M l G yX2_append wsX2_append { frames := 0, cells := 0, slots := 0, locals := 0 } 0 0 [.ref a, .ref k] nu x (kw_P nu (none) (q_app x a g k)) := by
  refine kw_M.ofW (cc := cX2_append) (maxL := 2) (ret := none) (by decide) rfl (Nat.le_of_ble_eq_true rfl) ?_
  intro p e s m args below meth c A ls S hr hlk hnm hK hZ hA hW hS hl
  have hl : lv_has ls 2 [(0, .ref a), (1, .ref k)] := hl
  have iX1 : ∀ w ∈ wsX10, w ∈ wsX2_append := by decide +kernel
  have iX2 : ∀ w ∈ wsX20, w ∈ wsX2_append := by decide +kernel
  have iX3 : ∀ w ∈ wsX30, w ∈ wsX2_append := by decide +kernel
  refine lv_aload_n S.1 S.2.1 dX2_append_0 rfl (lv_at hl 0 rfl) ?_
  rcases o1 : kR x 158 a with _ | p2
  · skip
    refine kx_gN S hK hW ha 8 158 rfl iX2 (by decide) rfl rfl (by decide) (by decide +kernel) dX2_append_1 o1 ?_
    refine lv_ifnonnullN S.1 S.2.1 dX2_append_4 ?_
    refine lv_aload_n S.1 S.2.1 dX2_append_7 rfl (lv_at hl 0 rfl) ?_
    refine lv_aload_n S.1 S.2.1 dX2_append_8 rfl (lv_at hl 1 rfl) ?_
    refine kx_pA S hK hW hS ha 7 157  rfl iX2 tyX2_ok nmX2 (by decide) rfl rfl (by decide) (by decide +kernel) (Or.inl rfl) rfl (Or.inl ⟨_, rfl⟩) dX2_append_9 (fun H locs hW hS => ?_)
    refine lv_goto (tgt := 23) S.1 S.2.1 dX2_append_12 (by decide) ?_
    refine lv_aload_n S.1 S.2.1 dX2_append_23 rfl (lv_at hl 0 rfl) ?_
    refine lv_aload_n S.1 S.2.1 dX2_append_24 rfl (lv_at hl 1 rfl) ?_
    refine kx_pA S hK hW hS ha 8 158  rfl iX2 tyX2_ok nmX2 (by decide) rfl rfl (by decide) (by decide +kernel) (Or.inl rfl) rfl (Or.inl ⟨_, rfl⟩) dX2_append_25 (fun H locs hW hS => ?_)
    refine lv_aload_n S.1 S.2.1 dX2_append_28 rfl (lv_at hl 0 rfl) ?_
    refine lv_dup S.1 S.2.1 dX2_append_29 rfl ?_
    refine kx_gI S hK hW ha 9 159 rfl iX2 (by decide) rfl rfl (by decide) (by decide +kernel) dX2_append_30 (v := kI x 159 a) (by simp [kI_sNew, kJ_sNew, kR_sNew, kN_sNew, kI_sI, kI_sJ, kI_sR, kI_sA, kI_sB, kI_sC, kJ_sI, kJ_sJ, kJ_sR, kJ_sA, kJ_sB, kJ_sC, kR_sI, kR_sJ, kR_sR, kR_sA, kR_sB, kR_sC, kA_sI, kA_sJ, kA_sR, kA_sA, kA_sB, kA_sC, kB_sI, kB_sJ, kB_sR, kB_sA, kB_sB, kB_sC, kC_sI, kC_sJ, kC_sR, kC_sA, kC_sB, kC_sC, kN_sI, kN_sJ, kN_sR, kN_sA, kN_sB, kN_sC]) ?_
    refine lv_iconst (v := 1) S.1 S.2.1 dX2_append_33 (by decide) ?_
    refine lv_iadd S.1 S.2.1 dX2_append_34 ?_
    refine kx_pI S hK hW hS ha 9 159  rfl iX2 tyX2_ok nmX2 (by decide) rfl rfl (by decide) (by decide +kernel) (Or.inl rfl) rfl dX2_append_35 (fun H locs hW hS => ?_)
    refine lv_aload_n S.1 S.2.1 dX2_append_38 rfl (lv_at hl 0 rfl) ?_
    refine lv_dup S.1 S.2.1 dX2_append_39 rfl ?_
    refine kx_gI S hK hW ha 10 160 rfl iX2 (by decide) rfl rfl (by decide) (by decide +kernel) dX2_append_40 (v := kI x 160 a) (by simp [kI_sNew, kJ_sNew, kR_sNew, kN_sNew, kI_sI, kI_sJ, kI_sR, kI_sA, kI_sB, kI_sC, kJ_sI, kJ_sJ, kJ_sR, kJ_sA, kJ_sB, kJ_sC, kR_sI, kR_sJ, kR_sR, kR_sA, kR_sB, kR_sC, kA_sI, kA_sJ, kA_sR, kA_sA, kA_sB, kA_sC, kB_sI, kB_sJ, kB_sR, kB_sA, kB_sB, kB_sC, kC_sI, kC_sJ, kC_sR, kC_sA, kC_sB, kC_sC, kN_sI, kN_sJ, kN_sR, kN_sA, kN_sB, kN_sC]) ?_
    refine lv_aload_n S.1 S.2.1 dX2_append_43 rfl (lv_at hl 1 rfl) ?_
    refine kx_gI S hK hW hk 2 202 rfl iX3 (by decide) rfl rfl (by decide) (by decide +kernel) dX2_append_44 (v := kI x 202 k) (by simp [kI_sNew, kJ_sNew, kR_sNew, kN_sNew, kI_sI, kI_sJ, kI_sR, kI_sA, kI_sB, kI_sC, kJ_sI, kJ_sJ, kJ_sR, kJ_sA, kJ_sB, kJ_sC, kR_sI, kR_sJ, kR_sR, kR_sA, kR_sB, kR_sC, kA_sI, kA_sJ, kA_sR, kA_sA, kA_sB, kA_sC, kB_sI, kB_sJ, kB_sR, kB_sA, kB_sB, kB_sC, kC_sI, kC_sJ, kC_sR, kC_sA, kC_sB, kC_sC, kN_sI, kN_sJ, kN_sR, kN_sA, kN_sB, kN_sC]) ?_
    refine lv_iadd S.1 S.2.1 dX2_append_47 ?_
    refine kx_pI S hK hW hS ha 10 160  rfl iX2 tyX2_ok nmX2 (by decide) rfl rfl (by decide) (by decide +kernel) (Or.inl rfl) rfl dX2_append_48 (fun H locs hW hS => ?_)
    refine lv_aload_n S.1 S.2.1 dX2_append_51 rfl (lv_at hl 0 rfl) ?_
    refine kx_gA S hK hW ha 0 150 rfl iX2 (by decide) rfl rfl (by decide) (by decide +kernel) dX2_append_52 (b := g) (by rw [show kR (sI (sI (sR (sR x 157 a (some k)) 158 a (some k)) 159 a ((kI x 159 a) + (1))) 160 a ((kI x 160 a) + (kI x 202 k))) 150 a = kR x 150 a from (by simp [kI_sNew, kJ_sNew, kR_sNew, kN_sNew, kI_sI, kI_sJ, kI_sR, kI_sA, kI_sB, kI_sC, kJ_sI, kJ_sJ, kJ_sR, kJ_sA, kJ_sB, kJ_sC, kR_sI, kR_sJ, kR_sR, kR_sA, kR_sB, kR_sC, kA_sI, kA_sJ, kA_sR, kA_sA, kA_sB, kA_sC, kB_sI, kB_sJ, kB_sR, kB_sA, kB_sB, kB_sC, kC_sI, kC_sJ, kC_sR, kC_sA, kC_sB, kC_sC, kN_sI, kN_sJ, kN_sR, kN_sA, kN_sB, kN_sC])]; exact hgr) ?_
    refine lv_dup S.1 S.2.1 dX2_append_55 rfl ?_
    refine kx_gI S hK hW hg 3 103 rfl iX1 (by decide) rfl rfl (by decide) (by decide +kernel) dX2_append_56 (v := kI x 103 g) (by simp [kI_sNew, kJ_sNew, kR_sNew, kN_sNew, kI_sI, kI_sJ, kI_sR, kI_sA, kI_sB, kI_sC, kJ_sI, kJ_sJ, kJ_sR, kJ_sA, kJ_sB, kJ_sC, kR_sI, kR_sJ, kR_sR, kR_sA, kR_sB, kR_sC, kA_sI, kA_sJ, kA_sR, kA_sA, kA_sB, kA_sC, kB_sI, kB_sJ, kB_sR, kB_sA, kB_sB, kB_sC, kC_sI, kC_sJ, kC_sR, kC_sA, kC_sB, kC_sC, kN_sI, kN_sJ, kN_sR, kN_sA, kN_sB, kN_sC]) ?_
    refine lv_iconst (v := 1) S.1 S.2.1 dX2_append_59 (by decide) ?_
    refine lv_iadd S.1 S.2.1 dX2_append_60 ?_
    refine kx_pI S hK hW hS hg 3 103  rfl iX1 tyX1_ok nmX1 (by decide) rfl rfl (by decide) (by decide +kernel) (Or.inl rfl) rfl dX2_append_61 (fun H locs hW hS => ?_)
    refine kw_vret S hr hlk hW hS (by decide) (by decide) dX2_append_64 ?_
    refine ⟨?_, rfl, ?_⟩ <;> first | rfl | (simp [q_app, o1, kw_b]; done) | (simp [q_app, o1, kw_b, kI_sNew, kJ_sNew, kR_sNew, kN_sNew, kI_sI, kI_sJ, kI_sR, kI_sA, kI_sB, kI_sC, kJ_sI, kJ_sJ, kJ_sR, kJ_sA, kJ_sB, kJ_sC, kR_sI, kR_sJ, kR_sR, kR_sA, kR_sB, kR_sC, kA_sI, kA_sJ, kA_sR, kA_sA, kA_sB, kA_sC, kB_sI, kB_sJ, kB_sR, kB_sA, kB_sB, kB_sC, kC_sI, kC_sJ, kC_sR, kC_sA, kC_sB, kC_sC, kN_sI, kN_sJ, kN_sR, kN_sA, kN_sB, kN_sC]; done)
  · skip
    refine kx_gA S hK hW ha 8 158 rfl iX2 (by decide) rfl rfl (by decide) (by decide +kernel) dX2_append_1 (b := p2) o1 ?_
    refine lv_ifnonnull (tgt := 15) S.1 S.2.1 dX2_append_4 (by decide) ?_
    refine lv_aload_n S.1 S.2.1 dX2_append_15 rfl (lv_at hl 0 rfl) ?_
    refine kx_gA S hK hW ha 8 158 rfl iX2 (by decide) rfl rfl (by decide) (by decide +kernel) dX2_append_16 (b := p2) o1 ?_
    refine lv_aload_n S.1 S.2.1 dX2_append_19 rfl (lv_at hl 1 rfl) ?_
    refine kx_pA S hK hW hS (hla p2 o1) 8 208  rfl iX3 tyX3_ok nmX3 (by decide) rfl rfl (by decide) (by decide +kernel) (Or.inl rfl) rfl (Or.inl ⟨_, rfl⟩) dX2_append_20 (fun H locs hW hS => ?_)
    refine lv_aload_n S.1 S.2.1 dX2_append_23 rfl (lv_at hl 0 rfl) ?_
    refine lv_aload_n S.1 S.2.1 dX2_append_24 rfl (lv_at hl 1 rfl) ?_
    refine kx_pA S hK hW hS ha 8 158  rfl iX2 tyX2_ok nmX2 (by decide) rfl rfl (by decide) (by decide +kernel) (Or.inl rfl) rfl (Or.inl ⟨_, rfl⟩) dX2_append_25 (fun H locs hW hS => ?_)
    refine lv_aload_n S.1 S.2.1 dX2_append_28 rfl (lv_at hl 0 rfl) ?_
    refine lv_dup S.1 S.2.1 dX2_append_29 rfl ?_
    refine kx_gI S hK hW ha 9 159 rfl iX2 (by decide) rfl rfl (by decide) (by decide +kernel) dX2_append_30 (v := kI x 159 a) (by simp [kI_sNew, kJ_sNew, kR_sNew, kN_sNew, kI_sI, kI_sJ, kI_sR, kI_sA, kI_sB, kI_sC, kJ_sI, kJ_sJ, kJ_sR, kJ_sA, kJ_sB, kJ_sC, kR_sI, kR_sJ, kR_sR, kR_sA, kR_sB, kR_sC, kA_sI, kA_sJ, kA_sR, kA_sA, kA_sB, kA_sC, kB_sI, kB_sJ, kB_sR, kB_sA, kB_sB, kB_sC, kC_sI, kC_sJ, kC_sR, kC_sA, kC_sB, kC_sC, kN_sI, kN_sJ, kN_sR, kN_sA, kN_sB, kN_sC]) ?_
    refine lv_iconst (v := 1) S.1 S.2.1 dX2_append_33 (by decide) ?_
    refine lv_iadd S.1 S.2.1 dX2_append_34 ?_
    refine kx_pI S hK hW hS ha 9 159  rfl iX2 tyX2_ok nmX2 (by decide) rfl rfl (by decide) (by decide +kernel) (Or.inl rfl) rfl dX2_append_35 (fun H locs hW hS => ?_)
    refine lv_aload_n S.1 S.2.1 dX2_append_38 rfl (lv_at hl 0 rfl) ?_
    refine lv_dup S.1 S.2.1 dX2_append_39 rfl ?_
    refine kx_gI S hK hW ha 10 160 rfl iX2 (by decide) rfl rfl (by decide) (by decide +kernel) dX2_append_40 (v := kI x 160 a) (by simp [kI_sNew, kJ_sNew, kR_sNew, kN_sNew, kI_sI, kI_sJ, kI_sR, kI_sA, kI_sB, kI_sC, kJ_sI, kJ_sJ, kJ_sR, kJ_sA, kJ_sB, kJ_sC, kR_sI, kR_sJ, kR_sR, kR_sA, kR_sB, kR_sC, kA_sI, kA_sJ, kA_sR, kA_sA, kA_sB, kA_sC, kB_sI, kB_sJ, kB_sR, kB_sA, kB_sB, kB_sC, kC_sI, kC_sJ, kC_sR, kC_sA, kC_sB, kC_sC, kN_sI, kN_sJ, kN_sR, kN_sA, kN_sB, kN_sC]) ?_
    refine lv_aload_n S.1 S.2.1 dX2_append_43 rfl (lv_at hl 1 rfl) ?_
    refine kx_gI S hK hW hk 2 202 rfl iX3 (by decide) rfl rfl (by decide) (by decide +kernel) dX2_append_44 (v := kI x 202 k) (by simp [kI_sNew, kJ_sNew, kR_sNew, kN_sNew, kI_sI, kI_sJ, kI_sR, kI_sA, kI_sB, kI_sC, kJ_sI, kJ_sJ, kJ_sR, kJ_sA, kJ_sB, kJ_sC, kR_sI, kR_sJ, kR_sR, kR_sA, kR_sB, kR_sC, kA_sI, kA_sJ, kA_sR, kA_sA, kA_sB, kA_sC, kB_sI, kB_sJ, kB_sR, kB_sA, kB_sB, kB_sC, kC_sI, kC_sJ, kC_sR, kC_sA, kC_sB, kC_sC, kN_sI, kN_sJ, kN_sR, kN_sA, kN_sB, kN_sC]) ?_
    refine lv_iadd S.1 S.2.1 dX2_append_47 ?_
    refine kx_pI S hK hW hS ha 10 160  rfl iX2 tyX2_ok nmX2 (by decide) rfl rfl (by decide) (by decide +kernel) (Or.inl rfl) rfl dX2_append_48 (fun H locs hW hS => ?_)
    refine lv_aload_n S.1 S.2.1 dX2_append_51 rfl (lv_at hl 0 rfl) ?_
    refine kx_gA S hK hW ha 0 150 rfl iX2 (by decide) rfl rfl (by decide) (by decide +kernel) dX2_append_52 (b := g) (by rw [show kR (sI (sI (sR (sR x 208 p2 (some k)) 158 a (some k)) 159 a ((kI x 159 a) + (1))) 160 a ((kI x 160 a) + (kI x 202 k))) 150 a = kR x 150 a from (by simp [kI_sNew, kJ_sNew, kR_sNew, kN_sNew, kI_sI, kI_sJ, kI_sR, kI_sA, kI_sB, kI_sC, kJ_sI, kJ_sJ, kJ_sR, kJ_sA, kJ_sB, kJ_sC, kR_sI, kR_sJ, kR_sR, kR_sA, kR_sB, kR_sC, kA_sI, kA_sJ, kA_sR, kA_sA, kA_sB, kA_sC, kB_sI, kB_sJ, kB_sR, kB_sA, kB_sB, kB_sC, kC_sI, kC_sJ, kC_sR, kC_sA, kC_sB, kC_sC, kN_sI, kN_sJ, kN_sR, kN_sA, kN_sB, kN_sC])]; exact hgr) ?_
    refine lv_dup S.1 S.2.1 dX2_append_55 rfl ?_
    refine kx_gI S hK hW hg 3 103 rfl iX1 (by decide) rfl rfl (by decide) (by decide +kernel) dX2_append_56 (v := kI x 103 g) (by simp [kI_sNew, kJ_sNew, kR_sNew, kN_sNew, kI_sI, kI_sJ, kI_sR, kI_sA, kI_sB, kI_sC, kJ_sI, kJ_sJ, kJ_sR, kJ_sA, kJ_sB, kJ_sC, kR_sI, kR_sJ, kR_sR, kR_sA, kR_sB, kR_sC, kA_sI, kA_sJ, kA_sR, kA_sA, kA_sB, kA_sC, kB_sI, kB_sJ, kB_sR, kB_sA, kB_sB, kB_sC, kC_sI, kC_sJ, kC_sR, kC_sA, kC_sB, kC_sC, kN_sI, kN_sJ, kN_sR, kN_sA, kN_sB, kN_sC]) ?_
    refine lv_iconst (v := 1) S.1 S.2.1 dX2_append_59 (by decide) ?_
    refine lv_iadd S.1 S.2.1 dX2_append_60 ?_
    refine kx_pI S hK hW hS hg 3 103  rfl iX1 tyX1_ok nmX1 (by decide) rfl rfl (by decide) (by decide +kernel) (Or.inl rfl) rfl dX2_append_61 (fun H locs hW hS => ?_)
    refine kw_vret S hr hlk hW hS (by decide) (by decide) dX2_append_64 ?_
    refine ⟨?_, rfl, ?_⟩ <;> first | rfl | (simp [q_app, o1, kw_b]; done) | (simp [q_app, o1, kw_b, kI_sNew, kJ_sNew, kR_sNew, kN_sNew, kI_sI, kI_sJ, kI_sR, kI_sA, kI_sB, kI_sC, kJ_sI, kJ_sJ, kJ_sR, kJ_sA, kJ_sB, kJ_sC, kR_sI, kR_sJ, kR_sR, kR_sA, kR_sB, kR_sC, kA_sI, kA_sJ, kA_sR, kA_sA, kA_sB, kA_sC, kB_sI, kB_sJ, kB_sR, kB_sA, kB_sB, kB_sC, kC_sI, kC_sJ, kC_sR, kC_sA, kC_sB, kC_sC, kN_sI, kN_sJ, kN_sR, kN_sA, kN_sB, kN_sC]; done)
set_option maxHeartbeats 1000000 in
set_option maxRecDepth 100000 in
/-- Leaf.removeFirst, of a class in which something waits -/
theorem c_X2_removeFirst (l : Launch) (G : kw_G) (nu : Nat → Option Nat) (x : kw_St) (a : Nat) (t : Int32) (g : Nat) (b : Nat) (gb : Nat) (k : Nat) (ha : nu a = some 3) (hg : nu g = some 2) (hb : nu b = some 1) (hgb : nu gb = some 1) (hk : nu k = some 4) (hgr : kR x 150 a = some g) (hce : kR x 153 a = some b) (hgc : kR x 101 g = some gb) (hk1 : kR x 157 a = some k) (hne : ¬ b = gb) : kw_M l G yX2_removeFirst wsX2_removeFirst { frames := 1, cells := 0, slots := 0, locals := 21 } 0 0 [.ref a, .int (t)] nu x (kw_P nu (some (.ref k)) (q_rem x a g b gb k t)) := by
  refine kw_M.ofW (cc := cX2_removeFirst) (maxL := 3) (ret := (some (.object "LinkShaper$Packet"))) (by decide) rfl (Nat.le_of_ble_eq_true rfl) ?_
  intro p e s m args below meth c A ls S hr hlk hnm hK hZ hA hW hS hl
  have hl : lv_has ls 3 [(0, .ref a), (1, .int (t))] := hl
  have iX1 : ∀ w ∈ wsX10, w ∈ wsX2_removeFirst := by decide +kernel
  have iX2 : ∀ w ∈ wsX20, w ∈ wsX2_removeFirst := by decide +kernel
  have iX3 : ∀ w ∈ wsX30, w ∈ wsX2_removeFirst := by decide +kernel
  refine lv_aload_n S.1 S.2.1 dX2_removeFirst_0 rfl (lv_at hl 0 rfl) ?_
  refine kx_gA S hK hW ha 7 157 rfl iX2 (by decide) rfl rfl (by decide) (by decide +kernel) dX2_removeFirst_1 (b := k) hk1 ?_
  refine lv_astore_n (lv' := [(2, .ref k), (0, .ref a), (1, .int (t))]) S.1 S.2.1 dX2_removeFirst_4 rfl hl (by decide) rfl (fun ls hl => ?_)
  refine lv_aload_n S.1 S.2.1 dX2_removeFirst_5 rfl (lv_at hl 0 rfl) ?_
  refine lv_ifnonnull (tgt := 11) S.1 S.2.1 dX2_removeFirst_6 (by decide) ?_
  refine lv_aload_n S.1 S.2.1 dX2_removeFirst_11 rfl (lv_at hl 1 rfl) ?_
  refine lv_aload_n S.1 S.2.1 dX2_removeFirst_12 rfl (lv_at hl 0 rfl) ?_
  refine kx_gO S hK hW hk 8 208 rfl iX3 (by decide) rfl rfl (by decide) (by decide +kernel) dX2_removeFirst_13 (v := kR x 208 k) rfl ?_
  refine kx_pO S hK hW hS ha 7 157  rfl iX2 tyX2_ok nmX2 (by decide) rfl rfl (by decide) (by decide +kernel) (Or.inl rfl) rfl (Or.inl ⟨_, rfl⟩) dX2_removeFirst_16 (fun H locs hW hS => ?_)
  refine lv_aload_n S.1 S.2.1 dX2_removeFirst_19 rfl (lv_at hl 1 rfl) ?_
  rcases o1 : kR x 208 k with _ | p2
  · skip
    refine kx_gN S hK hW ha 7 157 rfl iX2 (by decide) rfl rfl (by decide) (by decide +kernel) dX2_removeFirst_20 (by rw [show kR (sR x 157 a (kR x 208 k)) 157 a = kR x 208 k from (by simp [kI_sNew, kJ_sNew, kR_sNew, kN_sNew, kI_sI, kI_sJ, kI_sR, kI_sA, kI_sB, kI_sC, kJ_sI, kJ_sJ, kJ_sR, kJ_sA, kJ_sB, kJ_sC, kR_sI, kR_sJ, kR_sR, kR_sA, kR_sB, kR_sC, kA_sI, kA_sJ, kA_sR, kA_sA, kA_sB, kA_sC, kB_sI, kB_sJ, kB_sR, kB_sA, kB_sB, kB_sC, kC_sI, kC_sJ, kC_sR, kC_sA, kC_sB, kC_sC, kN_sI, kN_sJ, kN_sR, kN_sA, kN_sB, kN_sC, hne, Ne.symm hne])]; exact o1) ?_
    refine lv_ifnonnullN S.1 S.2.1 dX2_removeFirst_23 ?_
    refine lv_aload_n S.1 S.2.1 dX2_removeFirst_26 rfl (lv_at hl 1 rfl) ?_
    refine lv_null S.1 S.2.1 dX2_removeFirst_27 ?_
    refine kx_pN S hK hW hS ha 8 158  rfl iX2 tyX2_ok nmX2 (by decide) rfl rfl (by decide) (by decide +kernel) (Or.inl rfl) rfl (Or.inl ⟨_, rfl⟩) dX2_removeFirst_28 (fun H locs hW hS => ?_)
    refine lv_aload_n S.1 S.2.1 dX2_removeFirst_31 rfl (lv_at hl 0 rfl) ?_
    refine lv_null S.1 S.2.1 dX2_removeFirst_32 ?_
    refine kx_pN S hK hW hS hk 8 208  rfl iX3 tyX3_ok nmX3 (by decide) rfl rfl (by decide) (by decide +kernel) (Or.inl rfl) rfl (Or.inl ⟨_, rfl⟩) dX2_removeFirst_33 (fun H locs hW hS => ?_)
    refine lv_aload_n S.1 S.2.1 dX2_removeFirst_36 rfl (lv_at hl 0 rfl) ?_
    refine lv_iload_n S.1 S.2.1 dX2_removeFirst_37 rfl (lv_at hl 2 rfl) ?_
    refine kx_pI S hK hW hS hk 5 205  rfl iX3 tyX3_ok nmX3 (by decide) rfl rfl (by decide) (by decide +kernel) (Or.inl rfl) rfl dX2_removeFirst_38 (fun H locs hW hS => ?_)
    refine lv_aload_n S.1 S.2.1 dX2_removeFirst_41 rfl (lv_at hl 1 rfl) ?_
    refine lv_dup S.1 S.2.1 dX2_removeFirst_42 rfl ?_
    refine kx_gI S hK hW ha 9 159 rfl iX2 (by decide) rfl rfl (by decide) (by decide +kernel) dX2_removeFirst_43 (v := kI x 159 a) (by simp [kI_sNew, kJ_sNew, kR_sNew, kN_sNew, kI_sI, kI_sJ, kI_sR, kI_sA, kI_sB, kI_sC, kJ_sI, kJ_sJ, kJ_sR, kJ_sA, kJ_sB, kJ_sC, kR_sI, kR_sJ, kR_sR, kR_sA, kR_sB, kR_sC, kA_sI, kA_sJ, kA_sR, kA_sA, kA_sB, kA_sC, kB_sI, kB_sJ, kB_sR, kB_sA, kB_sB, kB_sC, kC_sI, kC_sJ, kC_sR, kC_sA, kC_sB, kC_sC, kN_sI, kN_sJ, kN_sR, kN_sA, kN_sB, kN_sC, hne, Ne.symm hne]) ?_
    refine lv_iconst (v := 1) S.1 S.2.1 dX2_removeFirst_46 (by decide) ?_
    refine lv_isub S.1 S.2.1 dX2_removeFirst_47 ?_
    refine kx_pI S hK hW hS ha 9 159  rfl iX2 tyX2_ok nmX2 (by decide) rfl rfl (by decide) (by decide +kernel) (Or.inl rfl) rfl dX2_removeFirst_48 (fun H locs hW hS => ?_)
    refine lv_aload_n S.1 S.2.1 dX2_removeFirst_51 rfl (lv_at hl 1 rfl) ?_
    refine lv_dup S.1 S.2.1 dX2_removeFirst_52 rfl ?_
    refine kx_gI S hK hW ha 10 160 rfl iX2 (by decide) rfl rfl (by decide) (by decide +kernel) dX2_removeFirst_53 (v := kI x 160 a) (by simp [kI_sNew, kJ_sNew, kR_sNew, kN_sNew, kI_sI, kI_sJ, kI_sR, kI_sA, kI_sB, kI_sC, kJ_sI, kJ_sJ, kJ_sR, kJ_sA, kJ_sB, kJ_sC, kR_sI, kR_sJ, kR_sR, kR_sA, kR_sB, kR_sC, kA_sI, kA_sJ, kA_sR, kA_sA, kA_sB, kA_sC, kB_sI, kB_sJ, kB_sR, kB_sA, kB_sB, kB_sC, kC_sI, kC_sJ, kC_sR, kC_sA, kC_sB, kC_sC, kN_sI, kN_sJ, kN_sR, kN_sA, kN_sB, kN_sC, hne, Ne.symm hne]) ?_
    refine lv_aload_n S.1 S.2.1 dX2_removeFirst_56 rfl (lv_at hl 0 rfl) ?_
    refine kx_gI S hK hW hk 2 202 rfl iX3 (by decide) rfl rfl (by decide) (by decide +kernel) dX2_removeFirst_57 (v := kI x 202 k) (by simp [kI_sNew, kJ_sNew, kR_sNew, kN_sNew, kI_sI, kI_sJ, kI_sR, kI_sA, kI_sB, kI_sC, kJ_sI, kJ_sJ, kJ_sR, kJ_sA, kJ_sB, kJ_sC, kR_sI, kR_sJ, kR_sR, kR_sA, kR_sB, kR_sC, kA_sI, kA_sJ, kA_sR, kA_sA, kA_sB, kA_sC, kB_sI, kB_sJ, kB_sR, kB_sA, kB_sB, kB_sC, kC_sI, kC_sJ, kC_sR, kC_sA, kC_sB, kC_sC, kN_sI, kN_sJ, kN_sR, kN_sA, kN_sB, kN_sC, hne, Ne.symm hne]) ?_
    refine lv_isub S.1 S.2.1 dX2_removeFirst_60 ?_
    refine kx_pI S hK hW hS ha 10 160  rfl iX2 tyX2_ok nmX2 (by decide) rfl rfl (by decide) (by decide +kernel) (Or.inl rfl) rfl dX2_removeFirst_61 (fun H locs hW hS => ?_)
    refine lv_aload_n S.1 S.2.1 dX2_removeFirst_64 rfl (lv_at hl 1 rfl) ?_
    refine kx_gA S hK hW ha 0 150 rfl iX2 (by decide) rfl rfl (by decide) (by decide +kernel) dX2_removeFirst_65 (b := g) (by rw [show kR (sI (sI (sI (sR (sR (sR x 157 a (kR x 208 k)) 158 a (none)) 208 k (none)) 205 k (t)) 159 a ((kI x 159 a) - (1))) 160 a ((kI x 160 a) - (kI x 202 k))) 150 a = kR x 150 a from (by simp [kI_sNew, kJ_sNew, kR_sNew, kN_sNew, kI_sI, kI_sJ, kI_sR, kI_sA, kI_sB, kI_sC, kJ_sI, kJ_sJ, kJ_sR, kJ_sA, kJ_sB, kJ_sC, kR_sI, kR_sJ, kR_sR, kR_sA, kR_sB, kR_sC, kA_sI, kA_sJ, kA_sR, kA_sA, kA_sB, kA_sC, kB_sI, kB_sJ, kB_sR, kB_sA, kB_sB, kB_sC, kC_sI, kC_sJ, kC_sR, kC_sA, kC_sB, kC_sC, kN_sI, kN_sJ, kN_sR, kN_sA, kN_sB, kN_sC, hne, Ne.symm hne])]; exact hgr) ?_
    refine lv_dup S.1 S.2.1 dX2_removeFirst_68 rfl ?_
    refine kx_gI S hK hW hg 3 103 rfl iX1 (by decide) rfl rfl (by decide) (by decide +kernel) dX2_removeFirst_69 (v := kI x 103 g) (by simp [kI_sNew, kJ_sNew, kR_sNew, kN_sNew, kI_sI, kI_sJ, kI_sR, kI_sA, kI_sB, kI_sC, kJ_sI, kJ_sJ, kJ_sR, kJ_sA, kJ_sB, kJ_sC, kR_sI, kR_sJ, kR_sR, kR_sA, kR_sB, kR_sC, kA_sI, kA_sJ, kA_sR, kA_sA, kA_sB, kA_sC, kB_sI, kB_sJ, kB_sR, kB_sA, kB_sB, kB_sC, kC_sI, kC_sJ, kC_sR, kC_sA, kC_sB, kC_sC, kN_sI, kN_sJ, kN_sR, kN_sA, kN_sB, kN_sC, hne, Ne.symm hne]) ?_
    refine lv_iconst (v := 1) S.1 S.2.1 dX2_removeFirst_72 (by decide) ?_
    refine lv_isub S.1 S.2.1 dX2_removeFirst_73 ?_
    refine kx_pI S hK hW hS hg 3 103  rfl iX1 tyX1_ok nmX1 (by decide) rfl rfl (by decide) (by decide +kernel) (Or.inl rfl) rfl dX2_removeFirst_74 (fun H locs hW hS => ?_)
    refine lv_aload_n S.1 S.2.1 dX2_removeFirst_77 rfl (lv_at hl 1 rfl) ?_
    refine kx_gA S hK hW ha 3 153 rfl iX2 (by decide) rfl rfl (by decide) (by decide +kernel) dX2_removeFirst_78 (b := b) (by rw [show kR (sI (sI (sI (sI (sR (sR (sR x 157 a (kR x 208 k)) 158 a (none)) 208 k (none)) 205 k (t)) 159 a ((kI x 159 a) - (1))) 160 a ((kI x 160 a) - (kI x 202 k))) 103 g ((kI x 103 g) - (1))) 153 a = kR x 153 a from (by simp [kI_sNew, kJ_sNew, kR_sNew, kN_sNew, kI_sI, kI_sJ, kI_sR, kI_sA, kI_sB, kI_sC, kJ_sI, kJ_sJ, kJ_sR, kJ_sA, kJ_sB, kJ_sC, kR_sI, kR_sJ, kR_sR, kR_sA, kR_sB, kR_sC, kA_sI, kA_sJ, kA_sR, kA_sA, kA_sB, kA_sC, kB_sI, kB_sJ, kB_sR, kB_sA, kB_sB, kB_sC, kC_sI, kC_sJ, kC_sR, kC_sA, kC_sB, kC_sC, kN_sI, kN_sJ, kN_sR, kN_sA, kN_sB, kN_sC, hne, Ne.symm hne])]; exact hce) ?_
    refine lv_aload_n S.1 S.2.1 dX2_removeFirst_81 rfl (lv_at hl 0 rfl) ?_
    refine kx_gI S hK hW hk 2 202 rfl iX3 (by decide) rfl rfl (by decide) (by decide +kernel) dX2_removeFirst_82 (v := kI x 202 k) (by simp [kI_sNew, kJ_sNew, kR_sNew, kN_sNew, kI_sI, kI_sJ, kI_sR, kI_sA, kI_sB, kI_sC, kJ_sI, kJ_sJ, kJ_sR, kJ_sA, kJ_sB, kJ_sC, kR_sI, kR_sJ, kR_sR, kR_sA, kR_sB, kR_sC, kA_sI, kA_sJ, kA_sR, kA_sA, kA_sB, kA_sC, kB_sI, kB_sJ, kB_sR, kB_sA, kB_sB, kB_sC, kC_sI, kC_sJ, kC_sR, kC_sA, kC_sB, kC_sC, kN_sI, kN_sJ, kN_sR, kN_sA, kN_sB, kN_sC, hne, Ne.symm hne]) ?_
    refine kx_cV (As := [.int (kI x 202 k)]) (rest := []) (st1 := []) S hK hZ hA hW hS (c_X0_take l G nu (sI (sI (sI (sI (sR (sR (sR x 157 a (kR x 208 k)) 158 a (none)) 208 k (none)) 205 k (t)) 159 a ((kI x 159 a) - (1))) 160 a ((kI x 160 a) - (kI x 202 k))) 103 g ((kI x 103 g) - (1))) b (kI x 202 k) hb) (cwV 1 S.2.2.2.2 gX2_removeFirst_X0_take rfl rfl rfl (by decide +kernel) ⟨Nat.le_of_ble_eq_true rfl, Nat.le_of_ble_eq_true rfl⟩) hb (by decide) rfl rfl hl.1 rfl (Nat.le_of_ble_eq_true rfl) dX2_removeFirst_85 ⟨Nat.le_of_ble_eq_true rfl, Nat.le_of_ble_eq_true rfl⟩ rfl (fun H locs hW hS => ?_)
    refine lv_aload_n S.1 S.2.1 dX2_removeFirst_88 rfl (lv_at hl 1 rfl) ?_
    refine kx_gA S hK hW ha 0 150 rfl iX2 (by decide) rfl rfl (by decide) (by decide +kernel) dX2_removeFirst_89 (b := g) (by rw [show kR (sJ (sI (sI (sI (sI (sR (sR (sR x 157 a (kR x 208 k)) 158 a (none)) 208 k (none)) 205 k (t)) 159 a ((kI x 159 a) - (1))) 160 a ((kI x 160 a) - (kI x 202 k))) 103 g ((kI x 103 g) - (1))) 52 b (kJ (sI (sI (sI (sI (sR (sR (sR x 157 a (kR x 208 k)) 158 a (none)) 208 k (none)) 205 k (t)) 159 a ((kI x 159 a) - (1))) 160 a ((kI x 160 a) - (kI x 202 k))) 103 g ((kI x 103 g) - (1))) 52 b - 1000 * ((kI x 202 k)).toInt64)) 150 a = kR x 150 a from (by simp [kI_sNew, kJ_sNew, kR_sNew, kN_sNew, kI_sI, kI_sJ, kI_sR, kI_sA, kI_sB, kI_sC, kJ_sI, kJ_sJ, kJ_sR, kJ_sA, kJ_sB, kJ_sC, kR_sI, kR_sJ, kR_sR, kR_sA, kR_sB, kR_sC, kA_sI, kA_sJ, kA_sR, kA_sA, kA_sB, kA_sC, kB_sI, kB_sJ, kB_sR, kB_sA, kB_sB, kB_sC, kC_sI, kC_sJ, kC_sR, kC_sA, kC_sB, kC_sC, kN_sI, kN_sJ, kN_sR, kN_sA, kN_sB, kN_sC, hne, Ne.symm hne])]; exact hgr) ?_
    refine kx_gA S hK hW hg 1 101 rfl iX1 (by decide) rfl rfl (by decide) (by decide +kernel) dX2_removeFirst_92 (b := gb) (by rw [show kR (sJ (sI (sI (sI (sI (sR (sR (sR x 157 a (kR x 208 k)) 158 a (none)) 208 k (none)) 205 k (t)) 159 a ((kI x 159 a) - (1))) 160 a ((kI x 160 a) - (kI x 202 k))) 103 g ((kI x 103 g) - (1))) 52 b (kJ (sI (sI (sI (sI (sR (sR (sR x 157 a (kR x 208 k)) 158 a (none)) 208 k (none)) 205 k (t)) 159 a ((kI x 159 a) - (1))) 160 a ((kI x 160 a) - (kI x 202 k))) 103 g ((kI x 103 g) - (1))) 52 b - 1000 * ((kI x 202 k)).toInt64)) 101 g = kR x 101 g from (by simp [kI_sNew, kJ_sNew, kR_sNew, kN_sNew, kI_sI, kI_sJ, kI_sR, kI_sA, kI_sB, kI_sC, kJ_sI, kJ_sJ, kJ_sR, kJ_sA, kJ_sB, kJ_sC, kR_sI, kR_sJ, kR_sR, kR_sA, kR_sB, kR_sC, kA_sI, kA_sJ, kA_sR, kA_sA, kA_sB, kA_sC, kB_sI, kB_sJ, kB_sR, kB_sA, kB_sB, kB_sC, kC_sI, kC_sJ, kC_sR, kC_sA, kC_sB, kC_sC, kN_sI, kN_sJ, kN_sR, kN_sA, kN_sB, kN_sC, hne, Ne.symm hne])]; exact hgc) ?_
    refine lv_aload_n S.1 S.2.1 dX2_removeFirst_95 rfl (lv_at hl 0 rfl) ?_
    refine kx_gI S hK hW hk 2 202 rfl iX3 (by decide) rfl rfl (by decide) (by decide +kernel) dX2_removeFirst_96 (v := kI x 202 k) (by simp [kI_sNew, kJ_sNew, kR_sNew, kN_sNew, kI_sI, kI_sJ, kI_sR, kI_sA, kI_sB, kI_sC, kJ_sI, kJ_sJ, kJ_sR, kJ_sA, kJ_sB, kJ_sC, kR_sI, kR_sJ, kR_sR, kR_sA, kR_sB, kR_sC, kA_sI, kA_sJ, kA_sR, kA_sA, kA_sB, kA_sC, kB_sI, kB_sJ, kB_sR, kB_sA, kB_sB, kB_sC, kC_sI, kC_sJ, kC_sR, kC_sA, kC_sB, kC_sC, kN_sI, kN_sJ, kN_sR, kN_sA, kN_sB, kN_sC, hne, Ne.symm hne]) ?_
    refine kx_cV (As := [.int (kI x 202 k)]) (rest := []) (st1 := []) S hK hZ hA hW hS (c_X0_take l G nu (sJ (sI (sI (sI (sI (sR (sR (sR x 157 a (kR x 208 k)) 158 a (none)) 208 k (none)) 205 k (t)) 159 a ((kI x 159 a) - (1))) 160 a ((kI x 160 a) - (kI x 202 k))) 103 g ((kI x 103 g) - (1))) 52 b (kJ (sI (sI (sI (sI (sR (sR (sR x 157 a (kR x 208 k)) 158 a (none)) 208 k (none)) 205 k (t)) 159 a ((kI x 159 a) - (1))) 160 a ((kI x 160 a) - (kI x 202 k))) 103 g ((kI x 103 g) - (1))) 52 b - 1000 * ((kI x 202 k)).toInt64)) gb (kI x 202 k) hgb) (cwV 1 S.2.2.2.2 gX2_removeFirst_X0_take rfl rfl rfl (by decide +kernel) ⟨Nat.le_of_ble_eq_true rfl, Nat.le_of_ble_eq_true rfl⟩) hgb (by decide) rfl rfl hl.1 rfl (Nat.le_of_ble_eq_true rfl) dX2_removeFirst_99 ⟨Nat.le_of_ble_eq_true rfl, Nat.le_of_ble_eq_true rfl⟩ rfl (fun H locs hW hS => ?_)
    refine lv_aload_n S.1 S.2.1 dX2_removeFirst_102 rfl (lv_at hl 0 rfl) ?_
    refine kw_aret S hr (Or.inl ⟨_, rfl⟩) hlk (v := some k) hW hS (by decide) (by decide) dX2_removeFirst_103 ?_
    refine ⟨?_, rfl, ?_⟩ <;> first | rfl | (simp [q_rem, o1, kw_b]; done) | (simp [q_rem, o1, kw_b, kI_sNew, kJ_sNew, kR_sNew, kN_sNew, kI_sI, kI_sJ, kI_sR, kI_sA, kI_sB, kI_sC, kJ_sI, kJ_sJ, kJ_sR, kJ_sA, kJ_sB, kJ_sC, kR_sI, kR_sJ, kR_sR, kR_sA, kR_sB, kR_sC, kA_sI, kA_sJ, kA_sR, kA_sA, kA_sB, kA_sC, kB_sI, kB_sJ, kB_sR, kB_sA, kB_sB, kB_sC, kC_sI, kC_sJ, kC_sR, kC_sA, kC_sB, kC_sC, kN_sI, kN_sJ, kN_sR, kN_sA, kN_sB, kN_sC, hne, Ne.symm hne]; done)
  · skip
    refine kx_gA S hK hW ha 7 157 rfl iX2 (by decide) rfl rfl (by decide) (by decide +kernel) dX2_removeFirst_20 (b := p2) (by rw [show kR (sR x 157 a (kR x 208 k)) 157 a = kR x 208 k from (by simp [kI_sNew, kJ_sNew, kR_sNew, kN_sNew, kI_sI, kI_sJ, kI_sR, kI_sA, kI_sB, kI_sC, kJ_sI, kJ_sJ, kJ_sR, kJ_sA, kJ_sB, kJ_sC, kR_sI, kR_sJ, kR_sR, kR_sA, kR_sB, kR_sC, kA_sI, kA_sJ, kA_sR, kA_sA, kA_sB, kA_sC, kB_sI, kB_sJ, kB_sR, kB_sA, kB_sB, kB_sC, kC_sI, kC_sJ, kC_sR, kC_sA, kC_sB, kC_sC, kN_sI, kN_sJ, kN_sR, kN_sA, kN_sB, kN_sC, hne, Ne.symm hne])]; exact o1) ?_
    refine lv_ifnonnull (tgt := 31) S.1 S.2.1 dX2_removeFirst_23 (by decide) ?_
    refine lv_aload_n S.1 S.2.1 dX2_removeFirst_31 rfl (lv_at hl 0 rfl) ?_
    refine lv_null S.1 S.2.1 dX2_removeFirst_32 ?_
    refine kx_pN S hK hW hS hk 8 208  rfl iX3 tyX3_ok nmX3 (by decide) rfl rfl (by decide) (by decide +kernel) (Or.inl rfl) rfl (Or.inl ⟨_, rfl⟩) dX2_removeFirst_33 (fun H locs hW hS => ?_)
    refine lv_aload_n S.1 S.2.1 dX2_removeFirst_36 rfl (lv_at hl 0 rfl) ?_
    refine lv_iload_n S.1 S.2.1 dX2_removeFirst_37 rfl (lv_at hl 2 rfl) ?_
    refine kx_pI S hK hW hS hk 5 205  rfl iX3 tyX3_ok nmX3 (by decide) rfl rfl (by decide) (by decide +kernel) (Or.inl rfl) rfl dX2_removeFirst_38 (fun H locs hW hS => ?_)
    refine lv_aload_n S.1 S.2.1 dX2_removeFirst_41 rfl (lv_at hl 1 rfl) ?_
    refine lv_dup S.1 S.2.1 dX2_removeFirst_42 rfl ?_
    refine kx_gI S hK hW ha 9 159 rfl iX2 (by decide) rfl rfl (by decide) (by decide +kernel) dX2_removeFirst_43 (v := kI x 159 a) (by simp [kI_sNew, kJ_sNew, kR_sNew, kN_sNew, kI_sI, kI_sJ, kI_sR, kI_sA, kI_sB, kI_sC, kJ_sI, kJ_sJ, kJ_sR, kJ_sA, kJ_sB, kJ_sC, kR_sI, kR_sJ, kR_sR, kR_sA, kR_sB, kR_sC, kA_sI, kA_sJ, kA_sR, kA_sA, kA_sB, kA_sC, kB_sI, kB_sJ, kB_sR, kB_sA, kB_sB, kB_sC, kC_sI, kC_sJ, kC_sR, kC_sA, kC_sB, kC_sC, kN_sI, kN_sJ, kN_sR, kN_sA, kN_sB, kN_sC, hne, Ne.symm hne]) ?_
    refine lv_iconst (v := 1) S.1 S.2.1 dX2_removeFirst_46 (by decide) ?_
    refine lv_isub S.1 S.2.1 dX2_removeFirst_47 ?_
    refine kx_pI S hK hW hS ha 9 159  rfl iX2 tyX2_ok nmX2 (by decide) rfl rfl (by decide) (by decide +kernel) (Or.inl rfl) rfl dX2_removeFirst_48 (fun H locs hW hS => ?_)
    refine lv_aload_n S.1 S.2.1 dX2_removeFirst_51 rfl (lv_at hl 1 rfl) ?_
    refine lv_dup S.1 S.2.1 dX2_removeFirst_52 rfl ?_
    refine kx_gI S hK hW ha 10 160 rfl iX2 (by decide) rfl rfl (by decide) (by decide +kernel) dX2_removeFirst_53 (v := kI x 160 a) (by simp [kI_sNew, kJ_sNew, kR_sNew, kN_sNew, kI_sI, kI_sJ, kI_sR, kI_sA, kI_sB, kI_sC, kJ_sI, kJ_sJ, kJ_sR, kJ_sA, kJ_sB, kJ_sC, kR_sI, kR_sJ, kR_sR, kR_sA, kR_sB, kR_sC, kA_sI, kA_sJ, kA_sR, kA_sA, kA_sB, kA_sC, kB_sI, kB_sJ, kB_sR, kB_sA, kB_sB, kB_sC, kC_sI, kC_sJ, kC_sR, kC_sA, kC_sB, kC_sC, kN_sI, kN_sJ, kN_sR, kN_sA, kN_sB, kN_sC, hne, Ne.symm hne]) ?_
    refine lv_aload_n S.1 S.2.1 dX2_removeFirst_56 rfl (lv_at hl 0 rfl) ?_
    refine kx_gI S hK hW hk 2 202 rfl iX3 (by decide) rfl rfl (by decide) (by decide +kernel) dX2_removeFirst_57 (v := kI x 202 k) (by simp [kI_sNew, kJ_sNew, kR_sNew, kN_sNew, kI_sI, kI_sJ, kI_sR, kI_sA, kI_sB, kI_sC, kJ_sI, kJ_sJ, kJ_sR, kJ_sA, kJ_sB, kJ_sC, kR_sI, kR_sJ, kR_sR, kR_sA, kR_sB, kR_sC, kA_sI, kA_sJ, kA_sR, kA_sA, kA_sB, kA_sC, kB_sI, kB_sJ, kB_sR, kB_sA, kB_sB, kB_sC, kC_sI, kC_sJ, kC_sR, kC_sA, kC_sB, kC_sC, kN_sI, kN_sJ, kN_sR, kN_sA, kN_sB, kN_sC, hne, Ne.symm hne]) ?_
    refine lv_isub S.1 S.2.1 dX2_removeFirst_60 ?_
    refine kx_pI S hK hW hS ha 10 160  rfl iX2 tyX2_ok nmX2 (by decide) rfl rfl (by decide) (by decide +kernel) (Or.inl rfl) rfl dX2_removeFirst_61 (fun H locs hW hS => ?_)
    refine lv_aload_n S.1 S.2.1 dX2_removeFirst_64 rfl (lv_at hl 1 rfl) ?_
    refine kx_gA S hK hW ha 0 150 rfl iX2 (by decide) rfl rfl (by decide) (by decide +kernel) dX2_removeFirst_65 (b := g) (by rw [show kR (sI (sI (sI (sR (sR x 157 a (kR x 208 k)) 208 k (none)) 205 k (t)) 159 a ((kI x 159 a) - (1))) 160 a ((kI x 160 a) - (kI x 202 k))) 150 a = kR x 150 a from (by simp [kI_sNew, kJ_sNew, kR_sNew, kN_sNew, kI_sI, kI_sJ, kI_sR, kI_sA, kI_sB, kI_sC, kJ_sI, kJ_sJ, kJ_sR, kJ_sA, kJ_sB, kJ_sC, kR_sI, kR_sJ, kR_sR, kR_sA, kR_sB, kR_sC, kA_sI, kA_sJ, kA_sR, kA_sA, kA_sB, kA_sC, kB_sI, kB_sJ, kB_sR, kB_sA, kB_sB, kB_sC, kC_sI, kC_sJ, kC_sR, kC_sA, kC_sB, kC_sC, kN_sI, kN_sJ, kN_sR, kN_sA, kN_sB, kN_sC, hne, Ne.symm hne])]; exact hgr) ?_
    refine lv_dup S.1 S.2.1 dX2_removeFirst_68 rfl ?_
    refine kx_gI S hK hW hg 3 103 rfl iX1 (by decide) rfl rfl (by decide) (by decide +kernel) dX2_removeFirst_69 (v := kI x 103 g) (by simp [kI_sNew, kJ_sNew, kR_sNew, kN_sNew, kI_sI, kI_sJ, kI_sR, kI_sA, kI_sB, kI_sC, kJ_sI, kJ_sJ, kJ_sR, kJ_sA, kJ_sB, kJ_sC, kR_sI, kR_sJ, kR_sR, kR_sA, kR_sB, kR_sC, kA_sI, kA_sJ, kA_sR, kA_sA, kA_sB, kA_sC, kB_sI, kB_sJ, kB_sR, kB_sA, kB_sB, kB_sC, kC_sI, kC_sJ, kC_sR, kC_sA, kC_sB, kC_sC, kN_sI, kN_sJ, kN_sR, kN_sA, kN_sB, kN_sC, hne, Ne.symm hne]) ?_
    refine lv_iconst (v := 1) S.1 S.2.1 dX2_removeFirst_72 (by decide) ?_
    refine lv_isub S.1 S.2.1 dX2_removeFirst_73 ?_
    refine kx_pI S hK hW hS hg 3 103  rfl iX1 tyX1_ok nmX1 (by decide) rfl rfl (by decide) (by decide +kernel) (Or.inl rfl) rfl dX2_removeFirst_74 (fun H locs hW hS => ?_)
    refine lv_aload_n S.1 S.2.1 dX2_removeFirst_77 rfl (lv_at hl 1 rfl) ?_
    refine kx_gA S hK hW ha 3 153 rfl iX2 (by decide) rfl rfl (by decide) (by decide +kernel) dX2_removeFirst_78 (b := b) (by rw [show kR (sI (sI (sI (sI (sR (sR x 157 a (kR x 208 k)) 208 k (none)) 205 k (t)) 159 a ((kI x 159 a) - (1))) 160 a ((kI x 160 a) - (kI x 202 k))) 103 g ((kI x 103 g) - (1))) 153 a = kR x 153 a from (by simp [kI_sNew, kJ_sNew, kR_sNew, kN_sNew, kI_sI, kI_sJ, kI_sR, kI_sA, kI_sB, kI_sC, kJ_sI, kJ_sJ, kJ_sR, kJ_sA, kJ_sB, kJ_sC, kR_sI, kR_sJ, kR_sR, kR_sA, kR_sB, kR_sC, kA_sI, kA_sJ, kA_sR, kA_sA, kA_sB, kA_sC, kB_sI, kB_sJ, kB_sR, kB_sA, kB_sB, kB_sC, kC_sI, kC_sJ, kC_sR, kC_sA, kC_sB, kC_sC, kN_sI, kN_sJ, kN_sR, kN_sA, kN_sB, kN_sC, hne, Ne.symm hne])]; exact hce) ?_
    refine lv_aload_n S.1 S.2.1 dX2_removeFirst_81 rfl (lv_at hl 0 rfl) ?_
    refine kx_gI S hK hW hk 2 202 rfl iX3 (by decide) rfl rfl (by decide) (by decide +kernel) dX2_removeFirst_82 (v := kI x 202 k) (by simp [kI_sNew, kJ_sNew, kR_sNew, kN_sNew, kI_sI, kI_sJ, kI_sR, kI_sA, kI_sB, kI_sC, kJ_sI, kJ_sJ, kJ_sR, kJ_sA, kJ_sB, kJ_sC, kR_sI, kR_sJ, kR_sR, kR_sA, kR_sB, kR_sC, kA_sI, kA_sJ, kA_sR, kA_sA, kA_sB, kA_sC, kB_sI, kB_sJ, kB_sR, kB_sA, kB_sB, kB_sC, kC_sI, kC_sJ, kC_sR, kC_sA, kC_sB, kC_sC, kN_sI, kN_sJ, kN_sR, kN_sA, kN_sB, kN_sC, hne, Ne.symm hne]) ?_
    refine kx_cV (As := [.int (kI x 202 k)]) (rest := []) (st1 := []) S hK hZ hA hW hS (c_X0_take l G nu (sI (sI (sI (sI (sR (sR x 157 a (kR x 208 k)) 208 k (none)) 205 k (t)) 159 a ((kI x 159 a) - (1))) 160 a ((kI x 160 a) - (kI x 202 k))) 103 g ((kI x 103 g) - (1))) b (kI x 202 k) hb) (cwV 1 S.2.2.2.2 gX2_removeFirst_X0_take rfl rfl rfl (by decide +kernel) ⟨Nat.le_of_ble_eq_true rfl, Nat.le_of_ble_eq_true rfl⟩) hb (by decide) rfl rfl hl.1 rfl (Nat.le_of_ble_eq_true rfl) dX2_removeFirst_85 ⟨Nat.le_of_ble_eq_true rfl, Nat.le_of_ble_eq_true rfl⟩ rfl (fun H locs hW hS => ?_)
    refine lv_aload_n S.1 S.2.1 dX2_removeFirst_88 rfl (lv_at hl 1 rfl) ?_
    refine kx_gA S hK hW ha 0 150 rfl iX2 (by decide) rfl rfl (by decide) (by decide +kernel) dX2_removeFirst_89 (b := g) (by rw [show kR (sJ (sI (sI (sI (sI (sR (sR x 157 a (kR x 208 k)) 208 k (none)) 205 k (t)) 159 a ((kI x 159 a) - (1))) 160 a ((kI x 160 a) - (kI x 202 k))) 103 g ((kI x 103 g) - (1))) 52 b (kJ (sI (sI (sI (sI (sR (sR x 157 a (kR x 208 k)) 208 k (none)) 205 k (t)) 159 a ((kI x 159 a) - (1))) 160 a ((kI x 160 a) - (kI x 202 k))) 103 g ((kI x 103 g) - (1))) 52 b - 1000 * ((kI x 202 k)).toInt64)) 150 a = kR x 150 a from (by simp [kI_sNew, kJ_sNew, kR_sNew, kN_sNew, kI_sI, kI_sJ, kI_sR, kI_sA, kI_sB, kI_sC, kJ_sI, kJ_sJ, kJ_sR, kJ_sA, kJ_sB, kJ_sC, kR_sI, kR_sJ, kR_sR, kR_sA, kR_sB, kR_sC, kA_sI, kA_sJ, kA_sR, kA_sA, kA_sB, kA_sC, kB_sI, kB_sJ, kB_sR, kB_sA, kB_sB, kB_sC, kC_sI, kC_sJ, kC_sR, kC_sA, kC_sB, kC_sC, kN_sI, kN_sJ, kN_sR, kN_sA, kN_sB, kN_sC, hne, Ne.symm hne])]; exact hgr) ?_
    refine kx_gA S hK hW hg 1 101 rfl iX1 (by decide) rfl rfl (by decide) (by decide +kernel) dX2_removeFirst_92 (b := gb) (by rw [show kR (sJ (sI (sI (sI (sI (sR (sR x 157 a (kR x 208 k)) 208 k (none)) 205 k (t)) 159 a ((kI x 159 a) - (1))) 160 a ((kI x 160 a) - (kI x 202 k))) 103 g ((kI x 103 g) - (1))) 52 b (kJ (sI (sI (sI (sI (sR (sR x 157 a (kR x 208 k)) 208 k (none)) 205 k (t)) 159 a ((kI x 159 a) - (1))) 160 a ((kI x 160 a) - (kI x 202 k))) 103 g ((kI x 103 g) - (1))) 52 b - 1000 * ((kI x 202 k)).toInt64)) 101 g = kR x 101 g from (by simp [kI_sNew, kJ_sNew, kR_sNew, kN_sNew, kI_sI, kI_sJ, kI_sR, kI_sA, kI_sB, kI_sC, kJ_sI, kJ_sJ, kJ_sR, kJ_sA, kJ_sB, kJ_sC, kR_sI, kR_sJ, kR_sR, kR_sA, kR_sB, kR_sC, kA_sI, kA_sJ, kA_sR, kA_sA, kA_sB, kA_sC, kB_sI, kB_sJ, kB_sR, kB_sA, kB_sB, kB_sC, kC_sI, kC_sJ, kC_sR, kC_sA, kC_sB, kC_sC, kN_sI, kN_sJ, kN_sR, kN_sA, kN_sB, kN_sC, hne, Ne.symm hne])]; exact hgc) ?_
    refine lv_aload_n S.1 S.2.1 dX2_removeFirst_95 rfl (lv_at hl 0 rfl) ?_
    refine kx_gI S hK hW hk 2 202 rfl iX3 (by decide) rfl rfl (by decide) (by decide +kernel) dX2_removeFirst_96 (v := kI x 202 k) (by simp [kI_sNew, kJ_sNew, kR_sNew, kN_sNew, kI_sI, kI_sJ, kI_sR, kI_sA, kI_sB, kI_sC, kJ_sI, kJ_sJ, kJ_sR, kJ_sA, kJ_sB, kJ_sC, kR_sI, kR_sJ, kR_sR, kR_sA, kR_sB, kR_sC, kA_sI, kA_sJ, kA_sR, kA_sA, kA_sB, kA_sC, kB_sI, kB_sJ, kB_sR, kB_sA, kB_sB, kB_sC, kC_sI, kC_sJ, kC_sR, kC_sA, kC_sB, kC_sC, kN_sI, kN_sJ, kN_sR, kN_sA, kN_sB, kN_sC, hne, Ne.symm hne]) ?_
    refine kx_cV (As := [.int (kI x 202 k)]) (rest := []) (st1 := []) S hK hZ hA hW hS (c_X0_take l G nu (sJ (sI (sI (sI (sI (sR (sR x 157 a (kR x 208 k)) 208 k (none)) 205 k (t)) 159 a ((kI x 159 a) - (1))) 160 a ((kI x 160 a) - (kI x 202 k))) 103 g ((kI x 103 g) - (1))) 52 b (kJ (sI (sI (sI (sI (sR (sR x 157 a (kR x 208 k)) 208 k (none)) 205 k (t)) 159 a ((kI x 159 a) - (1))) 160 a ((kI x 160 a) - (kI x 202 k))) 103 g ((kI x 103 g) - (1))) 52 b - 1000 * ((kI x 202 k)).toInt64)) gb (kI x 202 k) hgb) (cwV 1 S.2.2.2.2 gX2_removeFirst_X0_take rfl rfl rfl (by decide +kernel) ⟨Nat.le_of_ble_eq_true rfl, Nat.le_of_ble_eq_true rfl⟩) hgb (by decide) rfl rfl hl.1 rfl (Nat.le_of_ble_eq_true rfl) dX2_removeFirst_99 ⟨Nat.le_of_ble_eq_true rfl, Nat.le_of_ble_eq_true rfl⟩ rfl (fun H locs hW hS => ?_)
    refine lv_aload_n S.1 S.2.1 dX2_removeFirst_102 rfl (lv_at hl 0 rfl) ?_
    refine kw_aret S hr (Or.inl ⟨_, rfl⟩) hlk (v := some k) hW hS (by decide) (by decide) dX2_removeFirst_103 ?_
    refine ⟨?_, rfl, ?_⟩ <;> first | rfl | (simp [q_rem, o1, kw_b]; done) | (simp [q_rem, o1, kw_b, kI_sNew, kJ_sNew, kR_sNew, kN_sNew, kI_sI, kI_sJ, kI_sR, kI_sA, kI_sB, kI_sC, kJ_sI, kJ_sJ, kJ_sR, kJ_sA, kJ_sB, kJ_sC, kR_sI, kR_sJ, kR_sR, kR_sA, kR_sB, kR_sC, kA_sI, kA_sJ, kA_sR, kA_sA, kA_sB, kA_sC, kB_sI, kB_sJ, kB_sR, kB_sA, kB_sB, kB_sC, kC_sI, kC_sJ, kC_sR, kC_sA, kC_sB, kC_sC, kN_sI, kN_sJ, kN_sR, kN_sA, kN_sB, kN_sC, hne, Ne.symm hne]; done)
