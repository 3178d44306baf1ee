/-! what the small methods answer, and what they do to the tables -/
theorem kw_out {W : Int32} {h : Int} (hn : ∀ n : Nat, (n : Int) ≤ h → W ≠ Int32.ofNat n) : W.toInt < 0 ∨ h < W.toInt := by
  rcases Int.lt_or_le W.toInt 0 with q | q
  · exact Or.inl q
  rcases Int.lt_or_le h W.toInt with q2 | q2
  · exact Or.inr q2
  obtain ⟨j, hj, e⟩ := nI_of (x := W) (by rw [Int32.lt_iff_toInt_lt, Int32.toInt_zero]; omega)
  refine absurd e (hn j ?_)
  rw [e, nI_toInt hj] at q2
  exact q2
theorem kw_out3 {W : Int32} (h0 : ¬ W = 0) (h1 : ¬ W = 1) (h2 : ¬ W = 2) : W.toInt < 0 ∨ (2 : Int) < W.toInt := kw_out (fun n hn => by
  rcases (show n = 0 ∨ n = 1 ∨ n = 2 by omega) with rfl | rfl | rfl
  · exact h0
  · exact h1
  · exact h2)
theorem kw_out4 {W : Int32} (h0 : ¬ W = 0) (h1 : ¬ W = 1) (h2 : ¬ W = 2) (h3 : ¬ W = 3) : W.toInt < 0 ∨ (3 : Int) < W.toInt := kw_out (fun n hn => by
  rcases (show n = 0 ∨ n = 1 ∨ n = 2 ∨ n = 3 by omega) with rfl | rfl | rfl | rfl
  · exact h0
  · exact h1
  · exact h2
  · exact h3)
theorem kw_out6 {W : Int32} (h0 : ¬ W = 0) (h1 : ¬ W = 1) (h2 : ¬ W = 2) (h3 : ¬ W = 3) (h4 : ¬ W = 4) (h5 : ¬ W = 5) : W.toInt < 0 ∨ (5 : Int) < W.toInt := kw_out (fun n hn => by
  rcases (show n = 0 ∨ n = 1 ∨ n = 2 ∨ n = 3 ∨ n = 4 ∨ n = 5 by omega) with rfl | rfl | rfl | rfl | rfl | rfl
  · exact h0
  · exact h1
  · exact h2
  · exact h3
  · exact h4
  · exact h5)
theorem kw_out7 {W : Int32} (h0 : ¬ W = 0) (h1 : ¬ W = 1) (h2 : ¬ W = 2) (h3 : ¬ W = 3) (h4 : ¬ W = 4) (h5 : ¬ W = 5) (h6 : ¬ W = 6) : W.toInt < 0 ∨ (6 : Int) < W.toInt := kw_out (fun n hn => by
  rcases (show n = 0 ∨ n = 1 ∨ n = 2 ∨ n = 3 ∨ n = 4 ∨ n = 5 ∨ n = 6 by omega) with rfl | rfl | rfl | rfl | rfl | rfl | rfl
  · exact h0
  · exact h1
  · exact h2
  · exact h3
  · exact h4
  · exact h5
  · exact h6)
theorem kw_out8 {W : Int32} (h0 : ¬ W = 0) (h1 : ¬ W = 1) (h2 : ¬ W = 2) (h3 : ¬ W = 3) (h4 : ¬ W = 4) (h5 : ¬ W = 5) (h6 : ¬ W = 6) (h7 : ¬ W = 7) : W.toInt < 0 ∨ (7 : Int) < W.toInt := kw_out (fun n hn => by
  rcases (show n = 0 ∨ n = 1 ∨ n = 2 ∨ n = 3 ∨ n = 4 ∨ n = 5 ∨ n = 6 ∨ n = 7 by omega) with rfl | rfl | rfl | rfl | rfl | rfl | rfl | rfl
  · exact h0
  · exact h1
  · exact h2
  · exact h3
  · exact h4
  · exact h5
  · exact h6
  · exact h7)
set_option maxHeartbeats 1000000 in
set_option maxRecDepth 100000 in
/-- Bucket(rate, burst) -/
theorem c_X0_init (l : Launch) (G : kw_G) (nu : Nat → Option Nat) (x : kw_St) (b : Nat) (r : Int32) (bu : Int32) (hb : nu b = some 1)  : kw_M l G yX0_init wsX0_init { frames := 1, cells := 0, slots := 0, locals := 20 } 0 0 [.ref b, .int (r), .int (bu)] nu x (kw_P nu (none) (sJ (sJ (sI x 50 b r) 51 b (1000 * (bu).toInt64)) 52 b (1000 * (bu).toInt64))) := by
  refine kw_M.ofW (cc := cX0_init) (maxL := 3) (ret := none) (by decide) rfl (Nat.le_of_ble_eq_true rfl) ?_
  intro p e s m args below meth c A ls S hr hlk hnm hK hZ hA hW hS hl
  have hl : lv_has ls 3 [(0, .ref b), (1, .int (r)), (2, .int (bu))] := hl
  have iX0 : ∀ w ∈ wsX00, w ∈ wsX0_init := by decide +kernel
  refine lv_aload_n S.1 S.2.1 dX0_init_0 rfl (lv_at hl 0 rfl) ?_
  refine W.objInit S.1 S.2.1 S.2.2.2.1 (S.2.2.2.2 _ (by decide +kernel)) (S.2.2.2.2 _ (by decide +kernel)) (S.2.2.2.2 _ (by decide +kernel)) rfl (by rw [S.2.2.1]; exact hl.1) rfl dX0_init_1 (Nat.le_of_ble_eq_true rfl) (Nat.le_of_ble_eq_true rfl) ?_
  refine W.eq (g2 := F0 m 4 ls []) rfl ?_
  refine lv_aload_n S.1 S.2.1 dX0_init_4 rfl (lv_at hl 0 rfl) ?_
  refine lv_iload_n S.1 S.2.1 dX0_init_5 rfl (lv_at hl 1 rfl) ?_
  refine kx_pI S hK hW hS hb 0 50  rfl iX0 tyX0_ok nmX0 (by decide) rfl rfl (by decide) (by decide +kernel) (Or.inr ⟨rfl, hnm, rfl⟩) rfl dX0_init_6 (fun H locs hW hS => ?_)
  refine lv_aload_n S.1 S.2.1 dX0_init_9 rfl (lv_at hl 0 rfl) ?_
  refine lv_ldc2 (v := 1000) S.1 S.2.1 S.2.2.2.1 (S.2.2.2.2 _ (by decide +kernel)) dX0_init_10 ?_
  refine lv_iload_n S.1 S.2.1 dX0_init_13 rfl (lv_at hl 2 rfl) ?_
  refine lv_i2l S.1 S.2.1 dX0_init_14 rfl ?_
  refine lv_lmul S.1 S.2.1 dX0_init_15 ?_
  refine kx_pJ S hK hW hS hb 1 51  rfl iX0 tyX0_ok nmX0 (by decide) rfl rfl (by decide) (by decide +kernel) (Or.inr ⟨rfl, hnm, rfl⟩) rfl dX0_init_16 (fun H locs hW hS => ?_)
  refine lv_aload_n S.1 S.2.1 dX0_init_19 rfl (lv_at hl 0 rfl) ?_
  refine lv_aload_n S.1 S.2.1 dX0_init_20 rfl (lv_at hl 0 rfl) ?_
  refine kx_gJ S hK hW hb 1 51 rfl iX0 (by decide) rfl rfl (by decide) (by decide +kernel) dX0_init_21 (v := (1000) * ((bu).toInt64)) (by simp [kI_sNew, kJ_sNew, kR_sNew, kN_sNew, kI_sI, kI_sJ, kI_sR, kI_sA, kI_sB, kI_sC, kJ_sI, kJ_sJ, kJ_sR, kJ_sA, kJ_sB, kJ_sC, kR_sI, kR_sJ, kR_sR, kR_sA, kR_sB, kR_sC, kA_sI, kA_sJ, kA_sR, kA_sA, kA_sB, kA_sC, kB_sI, kB_sJ, kB_sR, kB_sA, kB_sB, kB_sC, kC_sI, kC_sJ, kC_sR, kC_sA, kC_sB, kC_sC, kN_sI, kN_sJ, kN_sR, kN_sA, kN_sB, kN_sC]) ?_
  refine kx_pJ S hK hW hS hb 2 52  rfl iX0 tyX0_ok nmX0 (by decide) rfl rfl (by decide) (by decide +kernel) (Or.inl rfl) rfl dX0_init_24 (fun H locs hW hS => ?_)
  refine kw_vret S hr hlk hW hS (by decide) (by decide) dX0_init_27 ?_
  refine ⟨?_, rfl, ?_⟩ <;> first | rfl | (simp [kw_b]; done) | (simp [kw_b, kI_sNew, kJ_sNew, kR_sNew, kN_sNew, kI_sI, kI_sJ, kI_sR, kI_sA, kI_sB, kI_sC, kJ_sI, kJ_sJ, kJ_sR, kJ_sA, kJ_sB, kJ_sC, kR_sI, kR_sJ, kR_sR, kR_sA, kR_sB, kR_sC, kA_sI, kA_sJ, kA_sR, kA_sA, kA_sB, kA_sC, kB_sI, kB_sJ, kB_sR, kB_sA, kB_sB, kB_sC, kC_sI, kC_sJ, kC_sR, kC_sA, kC_sB, kC_sC, kN_sI, kN_sJ, kN_sR, kN_sA, kN_sB, kN_sC]; done)
def q_fill (x : kw_St) (b : Nat) (t : Int32) : Int64 := if kJ x 52 b + (kI x 50 b).toInt64 * t.toInt64 < kJ x 51 b then kJ x 52 b + (kI x 50 b).toInt64 * t.toInt64 else kJ x 51 b
set_option maxHeartbeats 1000000 in
set_option maxRecDepth 100000 in
/-- Bucket.fill -/
theorem c_X0_fill (l : Launch) (G : kw_G) (nu : Nat → Option Nat) (x : kw_St) (b : Nat) (t : Int32) (hb : nu b = some 1)  : kw_M l G yX0_fill wsX0_fill { frames := 1, cells := 0, slots := 0, locals := 23 } 0 0 [.ref b, .int (t)] nu x (kw_P nu (none) (sJ x 52 b (q_fill x b t))) := by
  refine kw_M.ofW (cc := cX0_fill) (maxL := 2) (ret := none) (by decide) rfl (Nat.le_of_ble_eq_true rfl) ?_
  intro p e s m args below meth c A ls S hr hlk hnm hK hZ hA hW hS hl
  have hl : lv_has ls 2 [(0, .ref b), (1, .int (t))] := hl
  have iX0 : ∀ w ∈ wsX00, w ∈ wsX0_fill := by decide +kernel
  refine lv_aload_n S.1 S.2.1 dX0_fill_0 rfl (lv_at hl 0 rfl) ?_
  refine lv_aload_n S.1 S.2.1 dX0_fill_1 rfl (lv_at hl 0 rfl) ?_
  refine kx_gJ S hK hW hb 1 51 rfl iX0 (by decide) rfl rfl (by decide) (by decide +kernel) dX0_fill_2 (v := kJ x 51 b) rfl ?_
  refine lv_aload_n S.1 S.2.1 dX0_fill_5 rfl (lv_at hl 0 rfl) ?_
  refine kx_gJ S hK hW hb 2 52 rfl iX0 (by decide) rfl rfl (by decide) (by decide +kernel) dX0_fill_6 (v := kJ x 52 b) rfl ?_
  refine lv_aload_n S.1 S.2.1 dX0_fill_9 rfl (lv_at hl 0 rfl) ?_
  refine kx_gI S hK hW hb 0 50 rfl iX0 (by decide) rfl rfl (by decide) (by decide +kernel) dX0_fill_10 (v := kI x 50 b) rfl ?_
  refine lv_i2l S.1 S.2.1 dX0_fill_13 rfl ?_
  refine lv_iload_n S.1 S.2.1 dX0_fill_14 rfl (lv_at hl 1 rfl) ?_
  refine lv_i2l S.1 S.2.1 dX0_fill_15 rfl ?_
  refine lv_lmul S.1 S.2.1 dX0_fill_16 ?_
  refine lv_ladd S.1 S.2.1 dX0_fill_17 ?_
  refine kx_minl S hl.1 (by decide +kernel) (by decide +kernel) (by decide +kernel) (by decide +kernel) (Nat.le_of_ble_eq_true rfl) (Nat.le_of_ble_eq_true rfl) (by first | exact Nat.le_of_ble_eq_true rfl | exact Nat.le_refl _ | exact Nat.le_of_eq (Nat.zero_add _)) (by first | exact Nat.le_of_ble_eq_true rfl | exact Nat.le_of_eq (Nat.zero_add _) | exact Nat.le_refl _) dX0_fill_18 ?_
  refine kx_pJ S hK hW hS hb 2 52  rfl iX0 tyX0_ok nmX0 (by decide) rfl rfl (by decide) (by decide +kernel) (Or.inl rfl) rfl dX0_fill_21 (fun H locs hW hS => ?_)
  refine kw_vret S hr hlk hW hS (by decide) (by decide) dX0_fill_24 ?_
  refine ⟨?_, rfl, ?_⟩ <;> first | rfl | (simp [kw_b]; done) | (simp [kw_b, kI_sNew, kJ_sNew, kR_sNew, kN_sNew, kI_sI, kI_sJ, kI_sR, kI_sA, kI_sB, kI_sC, kJ_sI, kJ_sJ, kJ_sR, kJ_sA, kJ_sB, kJ_sC, kR_sI, kR_sJ, kR_sR, kR_sA, kR_sB, kR_sC, kA_sI, kA_sJ, kA_sR, kA_sA, kA_sB, kA_sC, kB_sI, kB_sJ, kB_sR, kB_sA, kB_sB, kB_sC, kC_sI, kC_sJ, kC_sR, kC_sA, kC_sB, kC_sC, kN_sI, kN_sJ, kN_sR, kN_sA, kN_sB, kN_sC]; done)
set_option maxHeartbeats 1000000 in
set_option maxRecDepth 100000 in
/-- Bucket.covers -/
theorem c_X0_covers (l : Launch) (G : kw_G) (nu : Nat → Option Nat) (x : kw_St) (b : Nat) (z : Int32) (hb : nu b = some 1)  : kw_M l G yX0_covers wsX0_covers { frames := 0, cells := 0, slots := 0, locals := 0 } 0 0 [.ref b, .int (z)] nu x (kw_P nu (some (.int (kw_b (¬ kJ x 52 b < 1000 * (z).toInt64)))) (x)) := by
  refine kw_M.ofW (cc := cX0_covers) (maxL := 2) (ret := (some .boolean)) (by decide) rfl (Nat.le_of_ble_eq_true rfl) ?_
  intro p e s m args below meth c A ls S hr hlk hnm hK hZ hA hW hS hl
  have hl : lv_has ls 2 [(0, .ref b), (1, .int (z))] := hl
  have iX0 : ∀ w ∈ wsX00, w ∈ wsX0_covers := by decide +kernel
  refine lv_aload_n S.1 S.2.1 dX0_covers_0 rfl (lv_at hl 0 rfl) ?_
  refine kx_gJ S hK hW hb 2 52 rfl iX0 (by decide) rfl rfl (by decide) (by decide +kernel) dX0_covers_1 (v := kJ x 52 b) rfl ?_
  refine lv_ldc2 (v := 1000) S.1 S.2.1 S.2.2.2.1 (S.2.2.2.2 _ (by decide +kernel)) dX0_covers_4 ?_
  refine lv_iload_n S.1 S.2.1 dX0_covers_7 rfl (lv_at hl 1 rfl) ?_
  refine lv_i2l S.1 S.2.1 dX0_covers_8 rfl ?_
  refine lv_lmul S.1 S.2.1 dX0_covers_9 ?_
  refine kx_lc_lt (tgt := 18) S dX0_covers_10 dX0_covers_11 (by decide) (fun c1 => ?_) (fun c1 => ?_)
  · skip
    refine lv_iconst (v := 0) S.1 S.2.1 dX0_covers_18 (by decide) ?_
    refine kw_zret S hr hlk hW hS (by decide) (by decide) dX0_covers_19 kw_n0 ?_
    refine ⟨?_, rfl, ?_⟩ <;> first | rfl | (simp [c1, kw_b]; done) | (simp [c1, kw_b, kI_sNew, kJ_sNew, kR_sNew, kN_sNew, kI_sI, kI_sJ, kI_sR, kI_sA, kI_sB, kI_sC, kJ_sI, kJ_sJ, kJ_sR, kJ_sA, kJ_sB, kJ_sC, kR_sI, kR_sJ, kR_sR, kR_sA, kR_sB, kR_sC, kA_sI, kA_sJ, kA_sR, kA_sA, kA_sB, kA_sC, kB_sI, kB_sJ, kB_sR, kB_sA, kB_sB, kB_sC, kC_sI, kC_sJ, kC_sR, kC_sA, kC_sB, kC_sC, kN_sI, kN_sJ, kN_sR, kN_sA, kN_sB, kN_sC]; done)
  · skip
    refine lv_iconst (v := 1) S.1 S.2.1 dX0_covers_14 (by decide) ?_
    refine lv_goto (tgt := 19) S.1 S.2.1 dX0_covers_15 (by decide) ?_
    refine kw_zret S hr hlk hW hS (by decide) (by decide) dX0_covers_19 kw_n1 ?_
    refine ⟨?_, rfl, ?_⟩ <;> first | rfl | (simp [c1, kw_b]; done) | (simp [c1, kw_b, kI_sNew, kJ_sNew, kR_sNew, kN_sNew, kI_sI, kI_sJ, kI_sR, kI_sA, kI_sB, kI_sC, kJ_sI, kJ_sJ, kJ_sR, kJ_sA, kJ_sB, kJ_sC, kR_sI, kR_sJ, kR_sR, kR_sA, kR_sB, kR_sC, kA_sI, kA_sJ, kA_sR, kA_sA, kA_sB, kA_sC, kB_sI, kB_sJ, kB_sR, kB_sA, kB_sB, kB_sC, kC_sI, kC_sJ, kC_sR, kC_sA, kC_sB, kC_sC, kN_sI, kN_sJ, kN_sR, kN_sA, kN_sB, kN_sC]; done)
set_option maxHeartbeats 1000000 in
set_option maxRecDepth 100000 in
/-- Bucket.take -/
theorem c_X0_take (l : Launch) (G : kw_G) (nu : Nat → Option Nat) (x : kw_St) (b : Nat) (z : Int32) (hb : nu b = some 1)  : kw_M l G yX0_take wsX0_take { frames := 0, cells := 0, slots := 0, locals := 0 } 0 0 [.ref b, .int (z)] nu x (kw_P nu (none) (sJ x 52 b (kJ x 52 b - 1000 * (z).toInt64))) := by
  refine kw_M.ofW (cc := cX0_take) (maxL := 2) (ret := none) (by decide) rfl (Nat.le_of_ble_eq_true rfl) ?_
  intro p e s m args below meth c A ls S hr hlk hnm hK hZ hA hW hS hl
  have hl : lv_has ls 2 [(0, .ref b), (1, .int (z))] := hl
  have iX0 : ∀ w ∈ wsX00, w ∈ wsX0_take := by decide +kernel
  refine lv_aload_n S.1 S.2.1 dX0_take_0 rfl (lv_at hl 0 rfl) ?_
  refine lv_dup S.1 S.2.1 dX0_take_1 rfl ?_
  refine kx_gJ S hK hW hb 2 52 rfl iX0 (by decide) rfl rfl (by decide) (by decide +kernel) dX0_take_2 (v := kJ x 52 b) rfl ?_
  refine lv_ldc2 (v := 1000) S.1 S.2.1 S.2.2.2.1 (S.2.2.2.2 _ (by decide +kernel)) dX0_take_5 ?_
  refine lv_iload_n S.1 S.2.1 dX0_take_8 rfl (lv_at hl 1 rfl) ?_
  refine lv_i2l S.1 S.2.1 dX0_take_9 rfl ?_
  refine lv_lmul S.1 S.2.1 dX0_take_10 ?_
  refine lv_lsub S.1 S.2.1 dX0_take_11 ?_
  refine kx_pJ S hK hW hS hb 2 52  rfl iX0 tyX0_ok nmX0 (by decide) rfl rfl (by decide) (by decide +kernel) (Or.inl rfl) rfl dX0_take_12 (fun H locs hW hS => ?_)
  refine kw_vret S hr hlk hW hS (by decide) (by decide) dX0_take_15 ?_
  refine ⟨?_, rfl, ?_⟩ <;> first | rfl | (simp [kw_b]; done) | (simp [kw_b, kI_sNew, kJ_sNew, kR_sNew, kN_sNew, kI_sI, kI_sJ, kI_sR, kI_sA, kI_sB, kI_sC, kJ_sI, kJ_sJ, kJ_sR, kJ_sA, kJ_sB, kJ_sC, kR_sI, kR_sJ, kR_sR, kR_sA, kR_sB, kR_sC, kA_sI, kA_sJ, kA_sR, kA_sA, kA_sB, kA_sC, kB_sI, kB_sJ, kB_sR, kB_sA, kB_sB, kB_sC, kC_sI, kC_sJ, kC_sR, kC_sA, kC_sB, kC_sC, kN_sI, kN_sJ, kN_sR, kN_sA, kN_sB, kN_sC]; done)
def q_tuc (x : kw_St) (b : Nat) (z : Int32) : Int64 := if 0 < 1000 * z.toInt64 - kJ x 52 b then (if 0 < kI x 50 b then (1000 * z.toInt64 - kJ x 52 b + (kI x 50 b).toInt64 - 1) / (kI x 50 b).toInt64 else 2000000000) else 0
theorem kw_d0 {r : Int32} (h : 0 < r) : ¬ r.toInt64 = 0 := by
  intro e
  have h2 : r.toInt64.toInt = 0 := by rw [e]; rfl
  rw [Int32.toInt_toInt64] at h2
  rw [Int32.lt_iff_toInt_lt, h2] at h
  exact absurd h (by decide)
set_option maxHeartbeats 1000000 in
set_option maxRecDepth 100000 in
/-- Bucket.ticksUntilCovers -/
theorem c_X0_ticksUntilCovers (l : Launch) (G : kw_G) (nu : Nat → Option Nat) (x : kw_St) (b : Nat) (z : Int32) (hb : nu b = some 1)  : kw_M l G yX0_ticksUntilCovers wsX0_ticksUntilCovers { frames := 0, cells := 0, slots := 0, locals := 0 } 0 0 [.ref b, .int (z)] nu x (kw_P nu (some (.long (q_tuc x b z))) (x)) := by
  refine kw_M.ofW (cc := cX0_ticksUntilCovers) (maxL := 4) (ret := (some .long)) (by decide) rfl (Nat.le_of_ble_eq_true rfl) ?_
  intro p e s m args below meth c A ls S hr hlk hnm hK hZ hA hW hS hl
  have hl : lv_has ls 4 [(0, .ref b), (1, .int (z))] := hl
  have iX0 : ∀ w ∈ wsX00, w ∈ wsX0_ticksUntilCovers := by decide +kernel
  refine lv_ldc2 (v := 1000) S.1 S.2.1 S.2.2.2.1 (S.2.2.2.2 _ (by decide +kernel)) dX0_ticksUntilCovers_0 ?_
  refine lv_iload_n S.1 S.2.1 dX0_ticksUntilCovers_3 rfl (lv_at hl 1 rfl) ?_
  refine lv_i2l S.1 S.2.1 dX0_ticksUntilCovers_4 rfl ?_
  refine lv_lmul S.1 S.2.1 dX0_ticksUntilCovers_5 ?_
  refine lv_aload_n S.1 S.2.1 dX0_ticksUntilCovers_6 rfl (lv_at hl 0 rfl) ?_
  refine kx_gJ S hK hW hb 2 52 rfl iX0 (by decide) rfl rfl (by decide) (by decide +kernel) dX0_ticksUntilCovers_7 (v := kJ x 52 b) rfl ?_
  refine lv_lsub S.1 S.2.1 dX0_ticksUntilCovers_10 ?_
  refine lv_lstore_n (lv' := [(2, .long (((1000) * ((z).toInt64)) - (kJ x 52 b))), (0, .ref b), (1, .int (z))]) S.1 S.2.1 dX0_ticksUntilCovers_11 rfl hl (by decide) rfl (fun ls hl => ?_)
  refine lv_lload_n S.1 S.2.1 dX0_ticksUntilCovers_12 rfl (lv_at hl 0 rfl) ?_
  refine lv_lconst (v := 0) S.1 S.2.1 dX0_ticksUntilCovers_13 (by decide) ?_
  refine kx_lc_gt (tgt := 20) S dX0_ticksUntilCovers_14 dX0_ticksUntilCovers_15 (by decide) (fun c1 => ?_) (fun c1 => ?_)
  · skip
    refine lv_aload_n S.1 S.2.1 dX0_ticksUntilCovers_20 rfl (lv_at hl 1 rfl) ?_
    refine kx_gI S hK hW hb 0 50 rfl iX0 (by decide) rfl rfl (by decide) (by decide +kernel) dX0_ticksUntilCovers_21 (v := kI x 50 b) rfl ?_
    refine lv_if_gt (tgt := 33) S.1 S.2.1 dX0_ticksUntilCovers_24 (by decide) (fun c2 => ?_) (fun c2 => ?_)
    · skip
      refine lv_lload_n S.1 S.2.1 dX0_ticksUntilCovers_33 rfl (lv_at hl 0 rfl) ?_
      refine lv_aload_n S.1 S.2.1 dX0_ticksUntilCovers_34 rfl (lv_at hl 1 rfl) ?_
      refine kx_gI S hK hW hb 0 50 rfl iX0 (by decide) rfl rfl (by decide) (by decide +kernel) dX0_ticksUntilCovers_35 (v := kI x 50 b) rfl ?_
      refine lv_i2l S.1 S.2.1 dX0_ticksUntilCovers_38 rfl ?_
      refine lv_ladd S.1 S.2.1 dX0_ticksUntilCovers_39 ?_
      refine lv_lconst (v := 1) S.1 S.2.1 dX0_ticksUntilCovers_40 (by decide) ?_
      refine lv_lsub S.1 S.2.1 dX0_ticksUntilCovers_41 ?_
      refine lv_aload_n S.1 S.2.1 dX0_ticksUntilCovers_42 rfl (lv_at hl 1 rfl) ?_
      refine kx_gI S hK hW hb 0 50 rfl iX0 (by decide) rfl rfl (by decide) (by decide +kernel) dX0_ticksUntilCovers_43 (v := kI x 50 b) rfl ?_
      refine lv_i2l S.1 S.2.1 dX0_ticksUntilCovers_46 rfl ?_
      refine lv_ldiv S.1 S.2.1 dX0_ticksUntilCovers_47 (kw_d0 (by assumption)) ?_
      refine kw_lret S hr hlk hW hS (by decide) (by decide) dX0_ticksUntilCovers_48 ?_
      refine ⟨?_, rfl, ?_⟩ <;> first | rfl | (simp [q_tuc, c1, c2, kw_b]; done) | (simp [q_tuc, c1, c2, kw_b, kI_sNew, kJ_sNew, kR_sNew, kN_sNew, kI_sI, kI_sJ, kI_sR, kI_sA, kI_sB, kI_sC, kJ_sI, kJ_sJ, kJ_sR, kJ_sA, kJ_sB, kJ_sC, kR_sI, kR_sJ, kR_sR, kR_sA, kR_sB, kR_sC, kA_sI, kA_sJ, kA_sR, kA_sA, kA_sB, kA_sC, kB_sI, kB_sJ, kB_sR, kB_sA, kB_sB, kB_sC, kC_sI, kC_sJ, kC_sR, kC_sA, kC_sB, kC_sC, kN_sI, kN_sJ, kN_sR, kN_sA, kN_sB, kN_sC]; done)
    · skip
      refine lv_ldc2 (v := 2000000000) S.1 S.2.1 S.2.2.2.1 (S.2.2.2.2 _ (by decide +kernel)) dX0_ticksUntilCovers_27 ?_
      refine lv_goto (tgt := 48) S.1 S.2.1 dX0_ticksUntilCovers_30 (by decide) ?_
      refine kw_lret S hr hlk hW hS (by decide) (by decide) dX0_ticksUntilCovers_48 ?_
      refine ⟨?_, rfl, ?_⟩ <;> first | rfl | (simp [q_tuc, c1, c2, kw_b]; done) | (simp [q_tuc, c1, c2, kw_b, kI_sNew, kJ_sNew, kR_sNew, kN_sNew, kI_sI, kI_sJ, kI_sR, kI_sA, kI_sB, kI_sC, kJ_sI, kJ_sJ, kJ_sR, kJ_sA, kJ_sB, kJ_sC, kR_sI, kR_sJ, kR_sR, kR_sA, kR_sB, kR_sC, kA_sI, kA_sJ, kA_sR, kA_sA, kA_sB, kA_sC, kB_sI, kB_sJ, kB_sR, kB_sA, kB_sB, kB_sC, kC_sI, kC_sJ, kC_sR, kC_sA, kC_sB, kC_sC, kN_sI, kN_sJ, kN_sR, kN_sA, kN_sB, kN_sC]; done)
  · skip
    refine lv_lconst (v := 0) S.1 S.2.1 dX0_ticksUntilCovers_18 (by decide) ?_
    refine kw_lret S hr hlk hW hS (by decide) (by decide) dX0_ticksUntilCovers_19 ?_
    refine ⟨?_, rfl, ?_⟩ <;> first | rfl | (simp [q_tuc, c1, kw_b]; done) | (simp [q_tuc, c1, kw_b, kI_sNew, kJ_sNew, kR_sNew, kN_sNew, kI_sI, kI_sJ, kI_sR, kI_sA, kI_sB, kI_sC, kJ_sI, kJ_sJ, kJ_sR, kJ_sA, kJ_sB, kJ_sC, kR_sI, kR_sJ, kR_sR, kR_sA, kR_sB, kR_sC, kA_sI, kA_sJ, kA_sR, kA_sA, kA_sB, kA_sC, kB_sI, kB_sJ, kB_sR, kB_sA, kB_sB, kB_sC, kC_sI, kC_sJ, kC_sR, kC_sA, kC_sB, kC_sC, kN_sI, kN_sJ, kN_sR, kN_sA, kN_sB, kN_sC]; done)
set_option maxHeartbeats 1000000 in
set_option maxRecDepth 100000 in
/-- Group(weight, ceiling) -/
theorem c_X1_init (l : Launch) (G : kw_G) (nu : Nat → Option Nat) (x : kw_St) (g : Nat) (w : Int32) (b : Nat) (hg : nu g = some 2)  : kw_M l G yX1_init wsX1_init { frames := 1, cells := 0, slots := 0, locals := 20 } 0 0 [.ref g, .int (w), .ref b] nu x (kw_P nu (none) (sR (sI x 100 g w) 101 g (some b))) := by
  refine kw_M.ofW (cc := cX1_init) (maxL := 3) (ret := none) (by decide) rfl (Nat.le_of_ble_eq_true rfl) ?_
  intro p e s m args below meth c A ls S hr hlk hnm hK hZ hA hW hS hl
  have hl : lv_has ls 3 [(0, .ref g), (1, .int (w)), (2, .ref b)] := hl
  have iX1 : ∀ w ∈ wsX10, w ∈ wsX1_init := by decide +kernel
  refine lv_aload_n S.1 S.2.1 dX1_init_0 rfl (lv_at hl 0 rfl) ?_
  refine W.objInit S.1 S.2.1 S.2.2.2.1 (S.2.2.2.2 _ (by decide +kernel)) (S.2.2.2.2 _ (by decide +kernel)) (S.2.2.2.2 _ (by decide +kernel)) rfl (by rw [S.2.2.1]; exact hl.1) rfl dX1_init_1 (Nat.le_of_ble_eq_true rfl) (Nat.le_of_ble_eq_true rfl) ?_
  refine W.eq (g2 := F0 m 4 ls []) rfl ?_
  refine lv_aload_n S.1 S.2.1 dX1_init_4 rfl (lv_at hl 0 rfl) ?_
  refine lv_iload_n S.1 S.2.1 dX1_init_5 rfl (lv_at hl 1 rfl) ?_
  refine kx_pI S hK hW hS hg 0 100  rfl iX1 tyX1_ok nmX1 (by decide) rfl rfl (by decide) (by decide +kernel) (Or.inr ⟨rfl, hnm, rfl⟩) rfl dX1_init_6 (fun H locs hW hS => ?_)
  refine lv_aload_n S.1 S.2.1 dX1_init_9 rfl (lv_at hl 0 rfl) ?_
  refine lv_aload_n S.1 S.2.1 dX1_init_10 rfl (lv_at hl 2 rfl) ?_
  refine kx_pA S hK hW hS hg 1 101  rfl iX1 tyX1_ok nmX1 (by decide) rfl rfl (by decide) (by decide +kernel) (Or.inr ⟨rfl, hnm, rfl⟩) rfl (Or.inl ⟨_, rfl⟩) dX1_init_11 (fun H locs hW hS => ?_)
  refine kw_vret S hr hlk hW hS (by decide) (by decide) dX1_init_14 ?_
  refine ⟨?_, rfl, ?_⟩ <;> first | rfl | (simp [kw_b]; done) | (simp [kw_b, kI_sNew, kJ_sNew, kR_sNew, kN_sNew, kI_sI, kI_sJ, kI_sR, kI_sA, kI_sB, kI_sC, kJ_sI, kJ_sJ, kJ_sR, kJ_sA, kJ_sB, kJ_sC, kR_sI, kR_sJ, kR_sR, kR_sA, kR_sB, kR_sC, kA_sI, kA_sJ, kA_sR, kA_sA, kA_sB, kA_sC, kB_sI, kB_sJ, kB_sR, kB_sA, kB_sB, kB_sC, kC_sI, kC_sJ, kC_sR, kC_sA, kC_sB, kC_sC, kN_sI, kN_sJ, kN_sR, kN_sA, kN_sB, kN_sC]; done)
def q_gtag (x : kw_St) (g : Nat) (z : Int32) : Int64 := if 0 < kI x 100 g then kJ x 104 g + 27720 * z.toInt64 / (kI x 100 g).toInt64 else kJ x 104 g
set_option maxHeartbeats 1000000 in
set_option maxRecDepth 100000 in
/-- Group.tagOf -/
theorem c_X1_tagOf (l : Launch) (G : kw_G) (nu : Nat → Option Nat) (x : kw_St) (g : Nat) (z : Int32) (hg : nu g = some 2)  : kw_M l G yX1_tagOf wsX1_tagOf { frames := 0, cells := 0, slots := 0, locals := 0 } 0 0 [.ref g, .int (z)] nu x (kw_P nu (some (.long (q_gtag x g z))) (x)) := by
  refine kw_M.ofW (cc := cX1_tagOf) (maxL := 2) (ret := (some .long)) (by decide) rfl (Nat.le_of_ble_eq_true rfl) ?_
  intro p e s m args below meth c A ls S hr hlk hnm hK hZ hA hW hS hl
  have hl : lv_has ls 2 [(0, .ref g), (1, .int (z))] := hl
  have iX1 : ∀ w ∈ wsX10, w ∈ wsX1_tagOf := by decide +kernel
  refine lv_aload_n S.1 S.2.1 dX1_tagOf_0 rfl (lv_at hl 0 rfl) ?_
  refine kx_gI S hK hW hg 0 100 rfl iX1 (by decide) rfl rfl (by decide) (by decide +kernel) dX1_tagOf_1 (v := kI x 100 g) rfl ?_
  refine lv_if_gt (tgt := 14) S.1 S.2.1 dX1_tagOf_4 (by decide) (fun c1 => ?_) (fun c1 => ?_)
  · skip
    refine lv_aload_n S.1 S.2.1 dX1_tagOf_14 rfl (lv_at hl 0 rfl) ?_
    refine kx_gJ S hK hW hg 4 104 rfl iX1 (by decide) rfl rfl (by decide) (by decide +kernel) dX1_tagOf_15 (v := kJ x 104 g) rfl ?_
    refine lv_ldc2 (v := 27720) S.1 S.2.1 S.2.2.2.1 (S.2.2.2.2 _ (by decide +kernel)) dX1_tagOf_18 ?_
    refine lv_iload_n S.1 S.2.1 dX1_tagOf_21 rfl (lv_at hl 1 rfl) ?_
    refine lv_i2l S.1 S.2.1 dX1_tagOf_22 rfl ?_
    refine lv_lmul S.1 S.2.1 dX1_tagOf_23 ?_
    refine lv_aload_n S.1 S.2.1 dX1_tagOf_24 rfl (lv_at hl 0 rfl) ?_
    refine kx_gI S hK hW hg 0 100 rfl iX1 (by decide) rfl rfl (by decide) (by decide +kernel) dX1_tagOf_25 (v := kI x 100 g) rfl ?_
    refine lv_i2l S.1 S.2.1 dX1_tagOf_28 rfl ?_
    refine lv_ldiv S.1 S.2.1 dX1_tagOf_29 (kw_d0 (by assumption)) ?_
    refine lv_ladd S.1 S.2.1 dX1_tagOf_30 ?_
    refine kw_lret S hr hlk hW hS (by decide) (by decide) dX1_tagOf_31 ?_
    refine ⟨?_, rfl, ?_⟩ <;> first | rfl | (simp [q_gtag, c1, kw_b]; done) | (simp [q_gtag, c1, kw_b, kI_sNew, kJ_sNew, kR_sNew, kN_sNew, kI_sI, kI_sJ, kI_sR, kI_sA, kI_sB, kI_sC, kJ_sI, kJ_sJ, kJ_sR, kJ_sA, kJ_sB, kJ_sC, kR_sI, kR_sJ, kR_sR, kR_sA, kR_sB, kR_sC, kA_sI, kA_sJ, kA_sR, kA_sA, kA_sB, kA_sC, kB_sI, kB_sJ, kB_sR, kB_sA, kB_sB, kB_sC, kC_sI, kC_sJ, kC_sR, kC_sA, kC_sB, kC_sC, kN_sI, kN_sJ, kN_sR, kN_sA, kN_sB, kN_sC]; done)
  · skip
    refine lv_aload_n S.1 S.2.1 dX1_tagOf_7 rfl (lv_at hl 0 rfl) ?_
    refine kx_gJ S hK hW hg 4 104 rfl iX1 (by decide) rfl rfl (by decide) (by decide +kernel) dX1_tagOf_8 (v := kJ x 104 g) rfl ?_
    refine lv_goto (tgt := 31) S.1 S.2.1 dX1_tagOf_11 (by decide) ?_
    refine kw_lret S hr hlk hW hS (by decide) (by decide) dX1_tagOf_31 ?_
    refine ⟨?_, rfl, ?_⟩ <;> first | rfl | (simp [q_gtag, c1, kw_b]; done) | (simp [q_gtag, c1, kw_b, kI_sNew, kJ_sNew, kR_sNew, kN_sNew, kI_sI, kI_sJ, kI_sR, kI_sA, kI_sB, kI_sC, kJ_sI, kJ_sJ, kJ_sR, kJ_sA, kJ_sB, kJ_sC, kR_sI, kR_sJ, kR_sR, kR_sA, kR_sB, kR_sC, kA_sI, kA_sJ, kA_sR, kA_sA, kA_sB, kA_sC, kB_sI, kB_sJ, kB_sR, kB_sA, kB_sB, kB_sC, kC_sI, kC_sJ, kC_sR, kC_sA, kC_sB, kC_sC, kN_sI, kN_sJ, kN_sR, kN_sA, kN_sB, kN_sC]; done)
set_option maxHeartbeats 1000000 in
set_option maxRecDepth 100000 in
/-- Packet(..) -/
theorem c_X3_init (l : Launch) (G : kw_G) (nu : Nat → Option Nat) (x : kw_St) (k : Nat) (no : Int32) (lf : Int32) (sz : Int32) (ca : Int32) (mk : Int32) (hk : nu k = some 4) (hmk : mk = 0 ∨ mk = 1) : kw_M l G yX3_init wsX3_init { frames := 1, cells := 0, slots := 0, locals := 20 } 0 0 [.ref k, .int (no), .int (lf), .int (sz), .int (ca), .int (mk)] nu x (kw_P nu (none) (sI (sI (sI (sI (sI (sI (sI (sI x 200 k no) 201 k lf) 202 k sz) 203 k ca) 204 k mk) 205 k (-1)) 206 k 0) 207 k (-1))) := by
  refine kw_M.ofW (cc := cX3_init) (maxL := 6) (ret := none) (by decide) rfl (Nat.le_of_ble_eq_true rfl) ?_
  intro p e s m args below meth c A ls S hr hlk hnm hK hZ hA hW hS hl
  have hl : lv_has ls 6 [(0, .ref k), (1, .int (no)), (2, .int (lf)), (3, .int (sz)), (4, .int (ca)), (5, .int (mk))] := hl
  have iX3 : ∀ w ∈ wsX30, w ∈ wsX3_init := by decide +kernel
  refine lv_aload_n S.1 S.2.1 dX3_init_0 rfl (lv_at hl 0 rfl) ?_
  refine W.objInit S.1 S.2.1 S.2.2.2.1 (S.2.2.2.2 _ (by decide +kernel)) (S.2.2.2.2 _ (by decide +kernel)) (S.2.2.2.2 _ (by decide +kernel)) rfl (by rw [S.2.2.1]; exact hl.1) rfl dX3_init_1 (Nat.le_of_ble_eq_true rfl) (Nat.le_of_ble_eq_true rfl) ?_
  refine W.eq (g2 := F0 m 4 ls []) rfl ?_
  refine lv_aload_n S.1 S.2.1 dX3_init_4 rfl (lv_at hl 0 rfl) ?_
  refine lv_iload_n S.1 S.2.1 dX3_init_5 rfl (lv_at hl 1 rfl) ?_
  refine kx_pI S hK hW hS hk 0 200  rfl iX3 tyX3_ok nmX3 (by decide) rfl rfl (by decide) (by decide +kernel) (Or.inr ⟨rfl, hnm, rfl⟩) rfl dX3_init_6 (fun H locs hW hS => ?_)
  refine lv_aload_n S.1 S.2.1 dX3_init_9 rfl (lv_at hl 0 rfl) ?_
  refine lv_iload_n S.1 S.2.1 dX3_init_10 rfl (lv_at hl 2 rfl) ?_
  refine kx_pI S hK hW hS hk 1 201  rfl iX3 tyX3_ok nmX3 (by decide) rfl rfl (by decide) (by decide +kernel) (Or.inr ⟨rfl, hnm, rfl⟩) rfl dX3_init_11 (fun H locs hW hS => ?_)
  refine lv_aload_n S.1 S.2.1 dX3_init_14 rfl (lv_at hl 0 rfl) ?_
  refine lv_iload_n S.1 S.2.1 dX3_init_15 rfl (lv_at hl 3 rfl) ?_
  refine kx_pI S hK hW hS hk 2 202  rfl iX3 tyX3_ok nmX3 (by decide) rfl rfl (by decide) (by decide +kernel) (Or.inr ⟨rfl, hnm, rfl⟩) rfl dX3_init_16 (fun H locs hW hS => ?_)
  refine lv_aload_n S.1 S.2.1 dX3_init_19 rfl (lv_at hl 0 rfl) ?_
  refine lv_iload S.1 S.2.1 dX3_init_20 (lv_at hl 4 rfl) ?_
  refine kx_pI S hK hW hS hk 3 203  rfl iX3 tyX3_ok nmX3 (by decide) rfl rfl (by decide) (by decide +kernel) (Or.inr ⟨rfl, hnm, rfl⟩) rfl dX3_init_22 (fun H locs hW hS => ?_)
  refine lv_aload_n S.1 S.2.1 dX3_init_25 rfl (lv_at hl 0 rfl) ?_
  refine lv_iload S.1 S.2.1 dX3_init_26 (lv_at hl 5 rfl) ?_
  refine kx_pZ S hK hW hS hk 4 204  rfl iX3 tyX3_ok nmX3 (by decide) rfl rfl (by decide) (by decide +kernel) (Or.inr ⟨rfl, hnm, rfl⟩) rfl hmk dX3_init_28 (fun H locs hW hS => ?_)
  refine lv_aload_n S.1 S.2.1 dX3_init_31 rfl (lv_at hl 0 rfl) ?_
  refine lv_iconst (v := (-1)) S.1 S.2.1 dX3_init_32 (by decide) ?_
  refine kx_pI S hK hW hS hk 5 205  rfl iX3 tyX3_ok nmX3 (by decide) rfl rfl (by decide) (by decide +kernel) (Or.inl rfl) rfl dX3_init_33 (fun H locs hW hS => ?_)
  refine lv_aload_n S.1 S.2.1 dX3_init_36 rfl (lv_at hl 0 rfl) ?_
  refine lv_iconst (v := 0) S.1 S.2.1 dX3_init_37 (by decide) ?_
  refine kx_pI S hK hW hS hk 6 206  rfl iX3 tyX3_ok nmX3 (by decide) rfl rfl (by decide) (by decide +kernel) (Or.inl rfl) rfl dX3_init_38 (fun H locs hW hS => ?_)
  refine lv_aload_n S.1 S.2.1 dX3_init_41 rfl (lv_at hl 0 rfl) ?_
  refine lv_iconst (v := (-1)) S.1 S.2.1 dX3_init_42 (by decide) ?_
  refine kx_pI S hK hW hS hk 7 207  rfl iX3 tyX3_ok nmX3 (by decide) rfl rfl (by decide) (by decide +kernel) (Or.inl rfl) rfl dX3_init_43 (fun H locs hW hS => ?_)
  refine kw_vret S hr hlk hW hS (by decide) (by decide) dX3_init_46 ?_
  refine ⟨?_, rfl, ?_⟩ <;> first | rfl | (simp [kw_b]; done) | (simp [kw_b, kI_sNew, kJ_sNew, kR_sNew, kN_sNew, kI_sI, kI_sJ, kI_sR, kI_sA, kI_sB, kI_sC, kJ_sI, kJ_sJ, kJ_sR, kJ_sA, kJ_sB, kJ_sC, kR_sI, kR_sJ, kR_sR, kR_sA, kR_sB, kR_sC, kA_sI, kA_sJ, kA_sR, kA_sA, kA_sB, kA_sC, kB_sI, kB_sJ, kB_sR, kB_sA, kB_sB, kB_sC, kC_sI, kC_sJ, kC_sR, kC_sA, kC_sB, kC_sC, kN_sI, kN_sJ, kN_sR, kN_sA, kN_sB, kN_sC]; done)
def q_pfig (x : kw_St) (k : Nat) (w : Int32) : Int32 := if w = 0 then kI x 201 k else if w = 1 then kI x 202 k else if w = 2 then kI x 203 k else if w = 3 then kI x 205 k else if w = 4 then kI x 206 k else if w = 5 then kI x 207 k else if w = 6 then (if kI x 204 k = 0 then 0 else 1) else -1
set_option maxHeartbeats 1000000 in
set_option maxRecDepth 100000 in
/-- Packet.figure -/
theorem c_X3_figure (l : Launch) (G : kw_G) (nu : Nat → Option Nat) (x : kw_St) (k : Nat) (w : Int32) (hk : nu k = some 4)  : kw_M l G yX3_figure wsX3_figure { frames := 0, cells := 0, slots := 0, locals := 0 } 0 0 [.ref k, .int (w)] nu x (kw_P nu (some (.int (q_pfig x k w))) (x)) := by
  refine kw_M.ofW (cc := cX3_figure) (maxL := 2) (ret := (some .int)) (by decide) rfl (Nat.le_of_ble_eq_true rfl) ?_
  intro p e s m args below meth c A ls S hr hlk hnm hK hZ hA hW hS hl
  have hl : lv_has ls 2 [(0, .ref k), (1, .int (w))] := hl
  have iX3 : ∀ w ∈ wsX30, w ∈ wsX3_figure := by decide +kernel
  refine lv_iload_n S.1 S.2.1 dX3_figure_0 rfl (lv_at hl 1 rfl) ?_
  by_cases w1 : w = 0
  · skip
    subst w1
    refine lv_tableIn (tgt := 44) S.1 S.2.1 dX3_figure_1 (by decide) (by decide) rfl (by decide) ?_
    refine lv_aload_n S.1 S.2.1 dX3_figure_44 rfl (lv_at hl 0 rfl) ?_
    refine kx_gI S hK hW hk 1 201 rfl iX3 (by decide) rfl rfl (by decide) (by decide +kernel) dX3_figure_45 (v := kI x 201 k) rfl ?_
    refine kw_iret S hr hlk hW hS (by decide) (by decide) dX3_figure_48 ?_
    refine ⟨?_, rfl, ?_⟩ <;> first | rfl | (simp [q_pfig, kw_b]; done) | (simp [q_pfig, kw_b, kI_sNew, kJ_sNew, kR_sNew, kN_sNew, kI_sI, kI_sJ, kI_sR, kI_sA, kI_sB, kI_sC, kJ_sI, kJ_sJ, kJ_sR, kJ_sA, kJ_sB, kJ_sC, kR_sI, kR_sJ, kR_sR, kR_sA, kR_sB, kR_sC, kA_sI, kA_sJ, kA_sR, kA_sA, kA_sB, kA_sC, kB_sI, kB_sJ, kB_sR, kB_sA, kB_sB, kB_sC, kC_sI, kC_sJ, kC_sR, kC_sA, kC_sB, kC_sC, kN_sI, kN_sJ, kN_sR, kN_sA, kN_sB, kN_sC]; done)
  by_cases w2 : w = 1
  · skip
    subst w2
    refine lv_tableIn (tgt := 49) S.1 S.2.1 dX3_figure_1 (by decide) (by decide) rfl (by decide) ?_
    refine lv_aload_n S.1 S.2.1 dX3_figure_49 rfl (lv_at hl 0 rfl) ?_
    refine kx_gI S hK hW hk 2 202 rfl iX3 (by decide) rfl rfl (by decide) (by decide +kernel) dX3_figure_50 (v := kI x 202 k) rfl ?_
    refine kw_iret S hr hlk hW hS (by decide) (by decide) dX3_figure_53 ?_
    refine ⟨?_, rfl, ?_⟩ <;> first | rfl | (simp [q_pfig, w1, kw_b]; done) | (simp [q_pfig, w1, kw_b, kI_sNew, kJ_sNew, kR_sNew, kN_sNew, kI_sI, kI_sJ, kI_sR, kI_sA, kI_sB, kI_sC, kJ_sI, kJ_sJ, kJ_sR, kJ_sA, kJ_sB, kJ_sC, kR_sI, kR_sJ, kR_sR, kR_sA, kR_sB, kR_sC, kA_sI, kA_sJ, kA_sR, kA_sA, kA_sB, kA_sC, kB_sI, kB_sJ, kB_sR, kB_sA, kB_sB, kB_sC, kC_sI, kC_sJ, kC_sR, kC_sA, kC_sB, kC_sC, kN_sI, kN_sJ, kN_sR, kN_sA, kN_sB, kN_sC]; done)
  by_cases w3 : w = 2
  · skip
    subst w3
    refine lv_tableIn (tgt := 54) S.1 S.2.1 dX3_figure_1 (by decide) (by decide) rfl (by decide) ?_
    refine lv_aload_n S.1 S.2.1 dX3_figure_54 rfl (lv_at hl 0 rfl) ?_
    refine kx_gI S hK hW hk 3 203 rfl iX3 (by decide) rfl rfl (by decide) (by decide +kernel) dX3_figure_55 (v := kI x 203 k) rfl ?_
    refine kw_iret S hr hlk hW hS (by decide) (by decide) dX3_figure_58 ?_
    refine ⟨?_, rfl, ?_⟩ <;> first | rfl | (simp [q_pfig, w1, w2, kw_b]; done) | (simp [q_pfig, w1, w2, kw_b, kI_sNew, kJ_sNew, kR_sNew, kN_sNew, kI_sI, kI_sJ, kI_sR, kI_sA, kI_sB, kI_sC, kJ_sI, kJ_sJ, kJ_sR, kJ_sA, kJ_sB, kJ_sC, kR_sI, kR_sJ, kR_sR, kR_sA, kR_sB, kR_sC, kA_sI, kA_sJ, kA_sR, kA_sA, kA_sB, kA_sC, kB_sI, kB_sJ, kB_sR, kB_sA, kB_sB, kB_sC, kC_sI, kC_sJ, kC_sR, kC_sA, kC_sB, kC_sC, kN_sI, kN_sJ, kN_sR, kN_sA, kN_sB, kN_sC]; done)
  by_cases w4 : w = 3
  · skip
    subst w4
    refine lv_tableIn (tgt := 59) S.1 S.2.1 dX3_figure_1 (by decide) (by decide) rfl (by decide) ?_
    refine lv_aload_n S.1 S.2.1 dX3_figure_59 rfl (lv_at hl 0 rfl) ?_
    refine kx_gI S hK hW hk 5 205 rfl iX3 (by decide) rfl rfl (by decide) (by decide +kernel) dX3_figure_60 (v := kI x 205 k) rfl ?_
    refine kw_iret S hr hlk hW hS (by decide) (by decide) dX3_figure_63 ?_
    refine ⟨?_, rfl, ?_⟩ <;> first | rfl | (simp [q_pfig, w1, w2, w3, kw_b]; done) | (simp [q_pfig, w1, w2, w3, kw_b, kI_sNew, kJ_sNew, kR_sNew, kN_sNew, kI_sI, kI_sJ, kI_sR, kI_sA, kI_sB, kI_sC, kJ_sI, kJ_sJ, kJ_sR, kJ_sA, kJ_sB, kJ_sC, kR_sI, kR_sJ, kR_sR, kR_sA, kR_sB, kR_sC, kA_sI, kA_sJ, kA_sR, kA_sA, kA_sB, kA_sC, kB_sI, kB_sJ, kB_sR, kB_sA, kB_sB, kB_sC, kC_sI, kC_sJ, kC_sR, kC_sA, kC_sB, kC_sC, kN_sI, kN_sJ, kN_sR, kN_sA, kN_sB, kN_sC]; done)
  by_cases w5 : w = 4
  · skip
    subst w5
    refine lv_tableIn (tgt := 64) S.1 S.2.1 dX3_figure_1 (by decide) (by decide) rfl (by decide) ?_
    refine lv_aload_n S.1 S.2.1 dX3_figure_64 rfl (lv_at hl 0 rfl) ?_
    refine kx_gI S hK hW hk 6 206 rfl iX3 (by decide) rfl rfl (by decide) (by decide +kernel) dX3_figure_65 (v := kI x 206 k) rfl ?_
    refine kw_iret S hr hlk hW hS (by decide) (by decide) dX3_figure_68 ?_
    refine ⟨?_, rfl, ?_⟩ <;> first | rfl | (simp [q_pfig, w1, w2, w3, w4, kw_b]; done) | (simp [q_pfig, w1, w2, w3, w4, kw_b, kI_sNew, kJ_sNew, kR_sNew, kN_sNew, kI_sI, kI_sJ, kI_sR, kI_sA, kI_sB, kI_sC, kJ_sI, kJ_sJ, kJ_sR, kJ_sA, kJ_sB, kJ_sC, kR_sI, kR_sJ, kR_sR, kR_sA, kR_sB, kR_sC, kA_sI, kA_sJ, kA_sR, kA_sA, kA_sB, kA_sC, kB_sI, kB_sJ, kB_sR, kB_sA, kB_sB, kB_sC, kC_sI, kC_sJ, kC_sR, kC_sA, kC_sB, kC_sC, kN_sI, kN_sJ, kN_sR, kN_sA, kN_sB, kN_sC]; done)
  by_cases w6 : w = 5
  · skip
    subst w6
    refine lv_tableIn (tgt := 69) S.1 S.2.1 dX3_figure_1 (by decide) (by decide) rfl (by decide) ?_
    refine lv_aload_n S.1 S.2.1 dX3_figure_69 rfl (lv_at hl 0 rfl) ?_
    refine kx_gI S hK hW hk 7 207 rfl iX3 (by decide) rfl rfl (by decide) (by decide +kernel) dX3_figure_70 (v := kI x 207 k) rfl ?_
    refine kw_iret S hr hlk hW hS (by decide) (by decide) dX3_figure_73 ?_
    refine ⟨?_, rfl, ?_⟩ <;> first | rfl | (simp [q_pfig, w1, w2, w3, w4, w5, kw_b]; done) | (simp [q_pfig, w1, w2, w3, w4, w5, kw_b, kI_sNew, kJ_sNew, kR_sNew, kN_sNew, kI_sI, kI_sJ, kI_sR, kI_sA, kI_sB, kI_sC, kJ_sI, kJ_sJ, kJ_sR, kJ_sA, kJ_sB, kJ_sC, kR_sI, kR_sJ, kR_sR, kR_sA, kR_sB, kR_sC, kA_sI, kA_sJ, kA_sR, kA_sA, kA_sB, kA_sC, kB_sI, kB_sJ, kB_sR, kB_sA, kB_sB, kB_sC, kC_sI, kC_sJ, kC_sR, kC_sA, kC_sB, kC_sC, kN_sI, kN_sJ, kN_sR, kN_sA, kN_sB, kN_sC]; done)
  by_cases w7 : w = 6
  · skip
    subst w7
    refine lv_tableIn (tgt := 74) S.1 S.2.1 dX3_figure_1 (by decide) (by decide) rfl (by decide) ?_
    refine lv_aload_n S.1 S.2.1 dX3_figure_74 rfl (lv_at hl 0 rfl) ?_
    refine kx_gI S hK hW hk 4 204 rfl iX3 (by decide) rfl rfl (by decide) (by decide +kernel) dX3_figure_75 (v := kI x 204 k) rfl ?_
    refine lv_if_eq (tgt := 85) S.1 S.2.1 dX3_figure_78 (by decide) (fun c8 => ?_) (fun c8 => ?_)
    · skip
      refine lv_iconst (v := 0) S.1 S.2.1 dX3_figure_85 (by decide) ?_
      refine kw_iret S hr hlk hW hS (by decide) (by decide) dX3_figure_86 ?_
      refine ⟨?_, rfl, ?_⟩ <;> first | rfl | (simp [q_pfig, w1, w2, w3, w4, w5, w6, eq_true c8, kw_b]; done) | (simp [q_pfig, w1, w2, w3, w4, w5, w6, eq_true c8, kw_b, kI_sNew, kJ_sNew, kR_sNew, kN_sNew, kI_sI, kI_sJ, kI_sR, kI_sA, kI_sB, kI_sC, kJ_sI, kJ_sJ, kJ_sR, kJ_sA, kJ_sB, kJ_sC, kR_sI, kR_sJ, kR_sR, kR_sA, kR_sB, kR_sC, kA_sI, kA_sJ, kA_sR, kA_sA, kA_sB, kA_sC, kB_sI, kB_sJ, kB_sR, kB_sA, kB_sB, kB_sC, kC_sI, kC_sJ, kC_sR, kC_sA, kC_sB, kC_sC, kN_sI, kN_sJ, kN_sR, kN_sA, kN_sB, kN_sC]; done)
    · skip
      refine lv_iconst (v := 1) S.1 S.2.1 dX3_figure_81 (by decide) ?_
      refine lv_goto (tgt := 86) S.1 S.2.1 dX3_figure_82 (by decide) ?_
      refine kw_iret S hr hlk hW hS (by decide) (by decide) dX3_figure_86 ?_
      refine ⟨?_, rfl, ?_⟩ <;> first | rfl | (simp [q_pfig, w1, w2, w3, w4, w5, w6, c8, kw_b]; done) | (simp [q_pfig, w1, w2, w3, w4, w5, w6, c8, kw_b, kI_sNew, kJ_sNew, kR_sNew, kN_sNew, kI_sI, kI_sJ, kI_sR, kI_sA, kI_sB, kI_sC, kJ_sI, kJ_sJ, kJ_sR, kJ_sA, kJ_sB, kJ_sC, kR_sI, kR_sJ, kR_sR, kR_sA, kR_sB, kR_sC, kA_sI, kA_sJ, kA_sR, kA_sA, kA_sB, kA_sC, kB_sI, kB_sJ, kB_sR, kB_sA, kB_sB, kB_sC, kC_sI, kC_sJ, kC_sR, kC_sA, kC_sB, kC_sC, kN_sI, kN_sJ, kN_sR, kN_sA, kN_sB, kN_sC]; done)
  refine lv_tableOut (tgt := 87) S.1 S.2.1 dX3_figure_1 (kw_out7 w1 w2 w3 w4 w5 w6 w7) (by decide) ?_
  refine lv_iconst (v := (-1)) S.1 S.2.1 dX3_figure_87 (by decide) ?_
  refine kw_iret S hr hlk hW hS (by decide) (by decide) dX3_figure_88 ?_
  refine ⟨?_, rfl, ?_⟩ <;> first | rfl | (simp [q_pfig, w1, w2, w3, w4, w5, w6, w7, kw_b]; done) | (simp [q_pfig, w1, w2, w3, w4, w5, w6, w7, kw_b, kI_sNew, kJ_sNew, kR_sNew, kN_sNew, kI_sI, kI_sJ, kI_sR, kI_sA, kI_sB, kI_sC, kJ_sI, kJ_sJ, kJ_sR, kJ_sA, kJ_sB, kJ_sC, kR_sI, kR_sJ, kR_sR, kR_sA, kR_sB, kR_sC, kA_sI, kA_sJ, kA_sR, kA_sA, kA_sB, kA_sC, kB_sI, kB_sJ, kB_sR, kB_sA, kB_sB, kB_sC, kC_sI, kC_sJ, kC_sR, kC_sA, kC_sB, kC_sC, kN_sI, kN_sJ, kN_sR, kN_sA, kN_sB, kN_sC]; done)
