/-! the reference: its small methods -/
set_option maxHeartbeats 1000000 in
set_option maxRecDepth 100000 in
/-- in -/
theorem c_X5_in (l : Launch) (G : kw_G) (nu : Nat → Option Nat) (x : kw_St) (v : Int32) (lo : Int32) (hi : Int32)   : kw_M l G yX5_in wsX5_in { frames := 0, cells := 0, slots := 0, locals := 0 } 0 0 [.int (v), .int (lo), .int (hi)] nu x (kw_P nu (some (.int (kw_b (kw_wi v lo hi = true)))) (x)) := by
  refine kw_M.ofW (cc := cX5_in) (maxL := 3) (ret := (some .boolean)) (by decide) rfl (Nat.le_of_ble_eq_true rfl) ?_
  intro p e s m args below meth c A ls S hr hlk hnm hK hZ hA hW hS hl
  have hl : lv_has ls 3 [(0, .int (v)), (1, .int (lo)), (2, .int (hi))] := hl
  refine lv_iload_n S.1 S.2.1 dX5_in_0 rfl (lv_at hl 0 rfl) ?_
  refine lv_iload_n S.1 S.2.1 dX5_in_1 rfl (lv_at hl 1 rfl) ?_
  refine lv_icmp_lt (tgt := 14) S.1 S.2.1 dX5_in_2 (by decide) (fun c1 => ?_) (fun c1 => ?_)
  · skip
    refine lv_iconst (v := 0) S.1 S.2.1 dX5_in_14 (by decide) ?_
    refine kw_zret S hr hlk hW hS (by decide) (by decide) dX5_in_15 kw_n0 ?_
    refine ⟨?_, rfl, ?_⟩ <;> first | rfl | (simp [kw_wi, c1, kw_b]; done) | (simp [kw_wi, c1, kw_b, kI_sNew, kJ_sNew, kR_sNew, kN_sNew, kI_sI, kI_sJ, kI_sR, kI_sA, kI_sB, kI_sC, kJ_sI, kJ_sJ, kJ_sR, kJ_sA, kJ_sB, kJ_sC, kR_sI, kR_sJ, kR_sR, kR_sA, kR_sB, kR_sC, kA_sI, kA_sJ, kA_sR, kA_sA, kA_sB, kA_sC, kB_sI, kB_sJ, kB_sR, kB_sA, kB_sB, kB_sC, kC_sI, kC_sJ, kC_sR, kC_sA, kC_sB, kC_sC, kN_sI, kN_sJ, kN_sR, kN_sA, kN_sB, kN_sC]; done)
  · skip
    refine lv_iload_n S.1 S.2.1 dX5_in_5 rfl (lv_at hl 0 rfl) ?_
    refine lv_iload_n S.1 S.2.1 dX5_in_6 rfl (lv_at hl 2 rfl) ?_
    refine lv_icmp_gt (tgt := 14) S.1 S.2.1 dX5_in_7 (by decide) (fun c2 => ?_) (fun c2 => ?_)
    · skip
      refine lv_iconst (v := 0) S.1 S.2.1 dX5_in_14 (by decide) ?_
      refine kw_zret S hr hlk hW hS (by decide) (by decide) dX5_in_15 kw_n0 ?_
      refine ⟨?_, rfl, ?_⟩ <;> first | rfl | (simp [kw_wi, c1, c2, kw_b]; done) | (simp [kw_wi, c1, c2, kw_b, kI_sNew, kJ_sNew, kR_sNew, kN_sNew, kI_sI, kI_sJ, kI_sR, kI_sA, kI_sB, kI_sC, kJ_sI, kJ_sJ, kJ_sR, kJ_sA, kJ_sB, kJ_sC, kR_sI, kR_sJ, kR_sR, kR_sA, kR_sB, kR_sC, kA_sI, kA_sJ, kA_sR, kA_sA, kA_sB, kA_sC, kB_sI, kB_sJ, kB_sR, kB_sA, kB_sB, kB_sC, kC_sI, kC_sJ, kC_sR, kC_sA, kC_sB, kC_sC, kN_sI, kN_sJ, kN_sR, kN_sA, kN_sB, kN_sC]; done)
    · skip
      refine lv_iconst (v := 1) S.1 S.2.1 dX5_in_10 (by decide) ?_
      refine lv_goto (tgt := 15) S.1 S.2.1 dX5_in_11 (by decide) ?_
      refine kw_zret S hr hlk hW hS (by decide) (by decide) dX5_in_15 kw_n1 ?_
      refine ⟨?_, rfl, ?_⟩ <;> first | rfl | (simp [kw_wi, c1, c2, kw_b]; done) | (simp [kw_wi, c1, c2, kw_b, kI_sNew, kJ_sNew, kR_sNew, kN_sNew, kI_sI, kI_sJ, kI_sR, kI_sA, kI_sB, kI_sC, kJ_sI, kJ_sJ, kJ_sR, kJ_sA, kJ_sB, kJ_sC, kR_sI, kR_sJ, kR_sR, kR_sA, kR_sB, kR_sC, kA_sI, kA_sJ, kA_sR, kA_sA, kA_sB, kA_sC, kB_sI, kB_sJ, kB_sR, kB_sA, kB_sB, kB_sC, kC_sI, kC_sJ, kC_sR, kC_sA, kC_sB, kC_sC, kN_sI, kN_sJ, kN_sR, kN_sA, kN_sB, kN_sC]; done)
def m_fill (t : mo_T) (k : Nat) (r b : Int32) : mo_T := uB (uA (uA t 30 k r) 31 k b) 32 k (1000 * b.toInt64)
set_option maxHeartbeats 1000000 in
set_option maxRecDepth 100000 in
/-- fill -/
theorem c_X5_fill (l : Launch) (G : kw_G) (nu : Nat → Option Nat) (x z : kw_St) (mo : Nat) (ma : Nat → Nat) (t : mo_T) (k : Nat) (r : Int32) (b : Int32) (hm : mw nu z mo ma t x) (hk : k < 20) : kw_M l G yX5_fill wsX5_fill { frames := 0, cells := 0, slots := 0, locals := 0 } 0 0 [.ref mo, .int (nI k), .int (r), .int (b)] nu x (fun v nu' y => v = none ∧ nu' = nu ∧ mw nu z mo ma (m_fill t k r b) y) := by
  refine kw_M.ofW (cc := cX5_fill) (maxL := 4) (ret := none) (by decide) rfl (Nat.le_of_ble_eq_true rfl) ?_
  intro p e s m args below meth c A ls S hr hlk hnm hK hZ hA hW hS hl
  have hl : lv_has ls 4 [(0, .ref mo), (1, .int (nI k)), (2, .int (r)), (3, .int (b))] := hl
  have iX5 : ∀ w ∈ wsX50, w ∈ wsX5_fill := by decide +kernel
  refine lv_aload_n S.1 S.2.1 dX5_fill_0 rfl (lv_at hl 0 rfl) ?_
  refine mx_gA S hK hm hW 30 iX5 rfl (by decide) (by decide) (by decide +kernel) dX5_fill_1 ?_
  refine lv_iload_n S.1 S.2.1 dX5_fill_4 rfl (lv_at hl 1 rfl) ?_
  refine lv_iload_n S.1 S.2.1 dX5_fill_5 rfl (lv_at hl 2 rfl) ?_
  refine mx_ist S hK hm hW hS 30 (by decide) (k := k) (kw_ixof (k := k) (n := 20) rfl (by omega) (by decide)) dX5_fill_6 (fun x H locs hm hW hS => ?_)
  refine lv_aload_n S.1 S.2.1 dX5_fill_7 rfl (lv_at hl 0 rfl) ?_
  refine mx_gA S hK hm hW 31 iX5 rfl (by decide) (by decide) (by decide +kernel) dX5_fill_8 ?_
  refine lv_iload_n S.1 S.2.1 dX5_fill_11 rfl (lv_at hl 1 rfl) ?_
  refine lv_iload_n S.1 S.2.1 dX5_fill_12 rfl (lv_at hl 3 rfl) ?_
  refine mx_ist S hK hm hW hS 31 (by decide) (k := k) (kw_ixof (k := k) (n := 20) rfl (by omega) (by decide)) dX5_fill_13 (fun x H locs hm hW hS => ?_)
  refine lv_aload_n S.1 S.2.1 dX5_fill_14 rfl (lv_at hl 0 rfl) ?_
  refine mx_gA S hK hm hW 32 iX5 rfl (by decide) (by decide) (by decide +kernel) dX5_fill_15 ?_
  refine lv_iload_n S.1 S.2.1 dX5_fill_18 rfl (lv_at hl 1 rfl) ?_
  refine lv_ldc2 (v := 1000) S.1 S.2.1 S.2.2.2.1 (S.2.2.2.2 _ (by decide +kernel)) dX5_fill_19 ?_
  refine lv_iload_n S.1 S.2.1 dX5_fill_22 rfl (lv_at hl 3 rfl) ?_
  refine lv_i2l S.1 S.2.1 dX5_fill_23 rfl ?_
  refine lv_lmul S.1 S.2.1 dX5_fill_24 ?_
  refine mx_lst S hK hm hW hS 32 (by decide) (k := k) (kw_ixof (k := k) (n := 20) rfl (by omega) (by decide)) dX5_fill_25 (fun x H locs hm hW hS => ?_)
  refine kw_vret S hr hlk hW hS (by decide) (by decide) dX5_fill_26 ?_
  refine ⟨?_, rfl, hm.to ?_⟩ <;> first | rfl | (simp [m_fill, kw_b]; done) | (simp [m_fill, kw_b, tF_uF, tF_uL, tF_uA, tF_uB, tL_uF, tL_uL, tL_uA, tL_uB, tA_uF, tA_uL, tA_uA, tA_uB, tB_uF, tB_uL, tB_uA, tB_uB]; done) | contradiction
theorem m_fill_F (t : mo_T) (k : Nat) (r b : Int32) (i : Nat) : tF (m_fill t k r b) i = tF t i := rfl
def m_gok (t : mo_T) (w c b : Int32) : Bool := !(decide (tF t 2 = 4)) && (kw_wi w 1 12 && (kw_wi c 0 1000 && kw_wi b 1500 20000))
def m_group (t : mo_T) (g : Nat) (w c b : Int32) : mo_T := if m_gok t w c b = true then uF (m_fill (uA t 9 g w) (8 + g) c b) 2 (nI (g + 1)) else t
set_option maxHeartbeats 1000000 in
set_option maxRecDepth 100000 in
/-- group -/
theorem c_X5_group (l : Launch) (G : kw_G) (nu : Nat → Option Nat) (x z : kw_St) (mo : Nat) (ma : Nat → Nat) (t : mo_T) (w : Int32) (ce : Int32) (b : Int32) (g : Nat) (hm : mw nu z mo ma t x) (hg : tF t 2 = nI g) (hg4 : g ≤ 4) : kw_M l G yX5_group wsX5_group { frames := 1, cells := 0, slots := 0, locals := 23 } 0 0 [.ref mo, .int (w), .int (ce), .int (b)] nu x (fun v nu' y => v = some (.int (if m_gok t w ce b = true then nI g else -1)) ∧ nu' = nu ∧ mw nu z mo ma (m_group t g w ce b) y) := by
  refine kw_M.ofW (cc := cX5_group) (maxL := 4) (ret := (some .int)) (by decide) rfl (Nat.le_of_ble_eq_true rfl) ?_
  intro p e s m args below meth c A ls S hr hlk hnm hK hZ hA hW hS hl
  have hl : lv_has ls 4 [(0, .ref mo), (1, .int (w)), (2, .int (ce)), (3, .int (b))] := hl
  have iX5 : ∀ w ∈ wsX50, w ∈ wsX5_group := by decide +kernel
  refine lv_aload_n S.1 S.2.1 dX5_group_0 rfl (lv_at hl 0 rfl) ?_
  refine mx_gI S hK hm hW 2 iX5 rfl (by decide) (by decide +kernel) dX5_group_1 (v := nI g) hg ?_
  refine lv_iconst (v := 4) S.1 S.2.1 dX5_group_4 (by decide) ?_
  refine lv_icmp_eq (tgt := 42) S.1 S.2.1 dX5_group_5 (by decide) (fun c1 => ?_) (fun c1 => ?_)
  · skip
    refine lv_iconst (v := (-1)) S.1 S.2.1 dX5_group_42 (by decide) ?_
    refine kw_iret S hr hlk hW hS (by decide) (by decide) dX5_group_43 ?_
    refine ⟨?_, rfl, hm.to ?_⟩ <;> first | rfl | (simp [m_gok, m_group, hg, nI_pred, eq_true c1, kw_b]; done) | (simp [m_gok, m_group, hg, nI_pred, eq_true c1, kw_b, tF_uF, tF_uL, tF_uA, tF_uB, tL_uF, tL_uL, tL_uA, tL_uB, tA_uF, tA_uL, tA_uA, tA_uB, tB_uF, tB_uL, tB_uA, tB_uB, m_fill_F]; done) | contradiction
  · skip
    refine lv_iload_n S.1 S.2.1 dX5_group_8 rfl (lv_at hl 1 rfl) ?_
    refine lv_iconst (v := 1) S.1 S.2.1 dX5_group_9 (by decide) ?_
    refine lv_bipush (v := 12) S.1 S.2.1 dX5_group_10 (by decide) ?_
    refine kx_cS (As := [.int (w), .int (1), .int (12)]) (rest := []) (st1 := [.int (kw_b (kw_wi w 1 12 = true))]) S hK hZ hA hW hS (c_X5_in l G nu x w 1 12 ) (va_cwS 3 S.2.2.2.2 gX5_group_X5_in rfl rfl rfl (by decide +kernel) ⟨Nat.le_of_ble_eq_true rfl, Nat.le_of_ble_eq_true rfl⟩) rfl hl.1 rfl (Nat.le_of_ble_eq_true rfl) dX5_group_12 ⟨Nat.le_of_ble_eq_true rfl, Nat.le_of_ble_eq_true rfl⟩ rfl (fun H locs hW hS => ?_)
    refine kx_ifz_eq (tgt := 42) S dX5_group_15 (by decide) (fun c2 => ?_) (fun c2 => ?_)
    · skip
      refine lv_iconst (v := (-1)) S.1 S.2.1 dX5_group_42 (by decide) ?_
      refine kw_iret S hr hlk hW hS (by decide) (by decide) dX5_group_43 ?_
      refine ⟨?_, rfl, hm.to ?_⟩ <;> first | rfl | (simp [m_gok, m_group, hg, nI_pred, c1, c2, kw_b]; done) | (simp [m_gok, m_group, hg, nI_pred, c1, c2, kw_b, tF_uF, tF_uL, tF_uA, tF_uB, tL_uF, tL_uL, tL_uA, tL_uB, tA_uF, tA_uL, tA_uA, tA_uB, tB_uF, tB_uL, tB_uA, tB_uB, m_fill_F]; done) | contradiction
    · skip
      refine lv_iload_n S.1 S.2.1 dX5_group_18 rfl (lv_at hl 2 rfl) ?_
      refine lv_iconst (v := 0) S.1 S.2.1 dX5_group_19 (by decide) ?_
      refine lv_sipush (v := 1000) S.1 S.2.1 dX5_group_20 (by decide) ?_
      refine kx_cS (As := [.int (ce), .int (0), .int (1000)]) (rest := []) (st1 := [.int (kw_b (kw_wi ce 0 1000 = true))]) S hK hZ hA hW hS (c_X5_in l G nu x ce 0 1000 ) (va_cwS 3 S.2.2.2.2 gX5_group_X5_in rfl rfl rfl (by decide +kernel) ⟨Nat.le_of_ble_eq_true rfl, Nat.le_of_ble_eq_true rfl⟩) rfl hl.1 rfl (Nat.le_of_ble_eq_true rfl) dX5_group_23 ⟨Nat.le_of_ble_eq_true rfl, Nat.le_of_ble_eq_true rfl⟩ rfl (fun H locs hW hS => ?_)
      refine kx_ifz_eq (tgt := 42) S dX5_group_26 (by decide) (fun c3 => ?_) (fun c3 => ?_)
      · skip
        refine lv_iconst (v := (-1)) S.1 S.2.1 dX5_group_42 (by decide) ?_
        refine kw_iret S hr hlk hW hS (by decide) (by decide) dX5_group_43 ?_
        refine ⟨?_, rfl, hm.to ?_⟩ <;> first | rfl | (simp [m_gok, m_group, hg, nI_pred, c1, c2, c3, kw_b]; done) | (simp [m_gok, m_group, hg, nI_pred, c1, c2, c3, kw_b, tF_uF, tF_uL, tF_uA, tF_uB, tL_uF, tL_uL, tL_uA, tL_uB, tA_uF, tA_uL, tA_uA, tA_uB, tB_uF, tB_uL, tB_uA, tB_uB, m_fill_F]; done) | contradiction
      · skip
        refine lv_iload_n S.1 S.2.1 dX5_group_29 rfl (lv_at hl 3 rfl) ?_
        refine lv_sipush (v := 1500) S.1 S.2.1 dX5_group_30 (by decide) ?_
        refine lv_sipush (v := 20000) S.1 S.2.1 dX5_group_33 (by decide) ?_
        refine kx_cS (As := [.int (b), .int (1500), .int (20000)]) (rest := []) (st1 := [.int (kw_b (kw_wi b 1500 20000 = true))]) S hK hZ hA hW hS (c_X5_in l G nu x b 1500 20000 ) (va_cwS 3 S.2.2.2.2 gX5_group_X5_in rfl rfl rfl (by decide +kernel) ⟨Nat.le_of_ble_eq_true rfl, Nat.le_of_ble_eq_true rfl⟩) rfl hl.1 rfl (Nat.le_of_ble_eq_true rfl) dX5_group_36 ⟨Nat.le_of_ble_eq_true rfl, Nat.le_of_ble_eq_true rfl⟩ rfl (fun H locs hW hS => ?_)
        refine kx_ifz_ne (tgt := 44) S dX5_group_39 (by decide) (fun c4 => ?_) (fun c4 => ?_)
        · skip
          have hg5 : g < 4 := by
            rcases Nat.lt_or_ge g 4 with h | h
            · exact h
            · exact absurd (show nI g = 4 by rw [show g = 4 by omega]; rfl) (by assumption)
          refine lv_aload_n S.1 S.2.1 dX5_group_44 rfl (lv_at hl 0 rfl) ?_
          refine mx_gA S hK hm hW 9 iX5 rfl (by decide) (by decide) (by decide +kernel) dX5_group_45 ?_
          refine lv_aload_n S.1 S.2.1 dX5_group_48 rfl (lv_at hl 0 rfl) ?_
          refine mx_gI S hK hm hW 2 iX5 rfl (by decide) (by decide +kernel) dX5_group_49 (v := nI g) hg ?_
          refine lv_iload_n S.1 S.2.1 dX5_group_52 rfl (lv_at hl 1 rfl) ?_
          refine mx_ist S hK hm hW hS 9 (by decide) (k := g) (kw_ixof (k := g) (n := 4) rfl (by omega) (by decide)) dX5_group_53 (fun x H locs hm hW hS => ?_)
          refine lv_aload_n S.1 S.2.1 dX5_group_54 rfl (lv_at hl 0 rfl) ?_
          refine lv_bipush (v := 8) S.1 S.2.1 dX5_group_55 (by decide) ?_
          refine lv_aload_n S.1 S.2.1 dX5_group_57 rfl (lv_at hl 0 rfl) ?_
          refine mx_gI S hK hm hW 2 iX5 rfl (by decide) (by decide +kernel) dX5_group_58 (v := nI g) (Eq.trans (b := tF t 2) (by simp [tF_uF, tF_uL, tF_uA, tF_uB, tL_uF, tL_uL, tL_uA, tL_uB, tA_uF, tA_uL, tA_uA, tA_uB, tB_uF, tB_uL, tB_uA, tB_uB, m_fill_F]) hg) ?_
          refine lv_iadd S.1 S.2.1 dX5_group_61 ?_
          rw [show (8 : Int32) + nI g = nI (8 + g) from nI_add (8) (g)]
          refine lv_iload_n S.1 S.2.1 dX5_group_62 rfl (lv_at hl 2 rfl) ?_
          refine lv_iload_n S.1 S.2.1 dX5_group_63 rfl (lv_at hl 3 rfl) ?_
          refine mx_cV (As := [.int (nI (8 + g)), .int (ce), .int (b)]) (rest := []) (st1 := []) S hK hZ hA hm hW hS (c_X5_fill l G nu x z mo ma (uA t 9 (g) (w)) (8 + g) ce b hm (by omega)) (cwV 3 S.2.2.2.2 gX5_group_X5_fill rfl rfl rfl (by decide +kernel) ⟨Nat.le_of_ble_eq_true rfl, Nat.le_of_ble_eq_true rfl⟩) rfl hl.1 rfl (Nat.le_of_ble_eq_true rfl) dX5_group_64 ⟨Nat.le_of_ble_eq_true rfl, Nat.le_of_ble_eq_true rfl⟩ rfl (fun x H locs hm hW hS => ?_)
          refine lv_aload_n S.1 S.2.1 dX5_group_67 rfl (lv_at hl 0 rfl) ?_
          refine lv_dup S.1 S.2.1 dX5_group_68 rfl ?_
          refine mx_gI S hK hm hW 2 iX5 rfl (by decide) (by decide +kernel) dX5_group_69 (v := nI g) (Eq.trans (b := tF t 2) (by simp [tF_uF, tF_uL, tF_uA, tF_uB, tL_uF, tL_uL, tL_uA, tL_uB, tA_uF, tA_uL, tA_uA, tA_uB, tB_uF, tB_uL, tB_uA, tB_uB, m_fill_F]) hg) ?_
          refine lv_iconst (v := 1) S.1 S.2.1 dX5_group_72 (by decide) ?_
          refine lv_iadd S.1 S.2.1 dX5_group_73 ?_
          rw [show (nI g : Int32) + 1 = nI (g + 1) from nI_add (g) (1)]
          refine mx_pI S hK hm hW hS 2 iX5 rfl (by decide) (by decide +kernel) rfl rfl dX5_group_74 (fun x H locs hm hW hS => ?_)
          refine lv_aload_n S.1 S.2.1 dX5_group_77 rfl (lv_at hl 0 rfl) ?_
          refine mx_gI S hK hm hW 2 iX5 rfl (by decide) (by decide +kernel) dX5_group_78 (v := nI (g + 1)) (by simp [tF_uF, tF_uL, tF_uA, tF_uB, tL_uF, tL_uL, tL_uA, tL_uB, tA_uF, tA_uL, tA_uA, tA_uB, tB_uF, tB_uL, tB_uA, tB_uB, m_fill_F]) ?_
          refine lv_iconst (v := 1) S.1 S.2.1 dX5_group_81 (by decide) ?_
          refine lv_isub S.1 S.2.1 dX5_group_82 ?_
          refine kw_iret S hr hlk hW hS (by decide) (by decide) dX5_group_83 ?_
          refine ⟨?_, rfl, hm.to ?_⟩ <;> first | rfl | (simp [m_gok, m_group, hg, nI_pred, c1, c2, c3, c4, kw_b]; done) | (simp [m_gok, m_group, hg, nI_pred, c1, c2, c3, c4, kw_b, tF_uF, tF_uL, tF_uA, tF_uB, tL_uF, tL_uL, tL_uA, tL_uB, tA_uF, tA_uL, tA_uA, tA_uB, tB_uF, tB_uL, tB_uA, tB_uB, m_fill_F]; done) | contradiction
        · skip
          refine lv_iconst (v := (-1)) S.1 S.2.1 dX5_group_42 (by decide) ?_
          refine kw_iret S hr hlk hW hS (by decide) (by decide) dX5_group_43 ?_
          refine ⟨?_, rfl, hm.to ?_⟩ <;> first | rfl | (simp [m_gok, m_group, hg, nI_pred, c1, c2, c3, c4, kw_b]; done) | (simp [m_gok, m_group, hg, nI_pred, c1, c2, c3, c4, kw_b, tF_uF, tF_uL, tF_uA, tF_uB, tL_uF, tL_uL, tL_uA, tL_uB, tA_uF, tA_uL, tA_uA, tA_uB, tB_uF, tB_uL, tB_uA, tB_uB, m_fill_F]; done) | contradiction
set_option maxHeartbeats 1000000 in
set_option maxRecDepth 100000 in
/-- startOf -/
theorem c_X5_startOf (l : Launch) (G : kw_G) (nu : Nat → Option Nat) (x z : kw_St) (mo : Nat) (ma : Nat → Nat) (t : mo_T) (k : Nat) (rv : Int32) (pk : Nat) (hm : mw nu z mo ma t x) (hrv : rv = if tA t 25 k ≤ tA t 35 pk then tA t 35 pk else tA t 25 k) (hk : k < 8) (hp : tA t 17 k = nI pk) (hpk : pk < 1000) : kw_M l G yX5_startOf wsX5_startOf { frames := 0, cells := 0, slots := 0, locals := 0 } 0 0 [.ref mo, .int (nI k)] nu x (fun v nu' y => v = some (.int (rv)) ∧ nu' = nu ∧ mw nu z mo ma (t) y) := by
  refine kw_M.ofW (cc := cX5_startOf) (maxL := 3) (ret := (some .int)) (by decide) rfl (Nat.le_of_ble_eq_true rfl) ?_
  intro p e s m args below meth c A ls S hr hlk hnm hK hZ hA hW hS hl
  have hl : lv_has ls 3 [(0, .ref mo), (1, .int (nI k))] := hl
  have iX5 : ∀ w ∈ wsX50, w ∈ wsX5_startOf := by decide +kernel
  refine lv_aload_n S.1 S.2.1 dX5_startOf_0 rfl (lv_at hl 0 rfl) ?_
  refine mx_gA S hK hm hW 35 iX5 rfl (by decide) (by decide) (by decide +kernel) dX5_startOf_1 ?_
  refine lv_aload_n S.1 S.2.1 dX5_startOf_4 rfl (lv_at hl 0 rfl) ?_
  refine mx_gA S hK hm hW 17 iX5 rfl (by decide) (by decide) (by decide +kernel) dX5_startOf_5 ?_
  refine lv_iload_n S.1 S.2.1 dX5_startOf_8 rfl (lv_at hl 1 rfl) ?_
  refine mx_ild S hK hm hW 17 (by decide) (k := k) (kw_ixof (k := k) (n := 8) rfl (by omega) (by decide)) dX5_startOf_9 (v := nI pk) hp ?_
  refine mx_ild S hK hm hW 35 (by decide) (k := pk) (kw_ixof (k := pk) (n := 1000) rfl (by omega) (by decide)) dX5_startOf_10 (v := tA t 35 pk) rfl ?_
  refine lv_istore_n (lv' := [(2, .int (tA t 35 pk)), (0, .ref mo), (1, .int (nI k))]) S.1 S.2.1 dX5_startOf_11 rfl hl (by decide) rfl (fun ls hl => ?_)
  refine lv_aload_n S.1 S.2.1 dX5_startOf_12 rfl (lv_at hl 1 rfl) ?_
  refine mx_gA S hK hm hW 25 iX5 rfl (by decide) (by decide) (by decide +kernel) dX5_startOf_13 ?_
  refine lv_iload_n S.1 S.2.1 dX5_startOf_16 rfl (lv_at hl 2 rfl) ?_
  refine mx_ild S hK hm hW 25 (by decide) (k := k) (kw_ixof (k := k) (n := 8) rfl (by omega) (by decide)) dX5_startOf_17 (v := tA t 25 k) rfl ?_
  refine lv_iload_n S.1 S.2.1 dX5_startOf_18 rfl (lv_at hl 0 rfl) ?_
  refine lv_icmp_le (tgt := 31) S.1 S.2.1 dX5_startOf_19 (by decide) (fun c1 => ?_) (fun c1 => ?_)
  · skip
    refine lv_iload_n S.1 S.2.1 dX5_startOf_31 rfl (lv_at hl 0 rfl) ?_
    refine kw_iret S hr hlk hW hS (by decide) (by decide) dX5_startOf_32 ?_
    refine ⟨?_, rfl, hm.to ?_⟩ <;> first | rfl | (simp [hrv, c1, kw_b]; done) | (simp [hrv, c1, kw_b, tF_uF, tF_uL, tF_uA, tF_uB, tL_uF, tL_uL, tL_uA, tL_uB, tA_uF, tA_uL, tA_uA, tA_uB, tB_uF, tB_uL, tB_uA, tB_uB]; done) | contradiction
  · skip
    refine lv_aload_n S.1 S.2.1 dX5_startOf_22 rfl (lv_at hl 1 rfl) ?_
    refine mx_gA S hK hm hW 25 iX5 rfl (by decide) (by decide) (by decide +kernel) dX5_startOf_23 ?_
    refine lv_iload_n S.1 S.2.1 dX5_startOf_26 rfl (lv_at hl 2 rfl) ?_
    refine mx_ild S hK hm hW 25 (by decide) (k := k) (kw_ixof (k := k) (n := 8) rfl (by omega) (by decide)) dX5_startOf_27 (v := tA t 25 k) rfl ?_
    refine lv_goto (tgt := 32) S.1 S.2.1 dX5_startOf_28 (by decide) ?_
    refine kw_iret S hr hlk hW hS (by decide) (by decide) dX5_startOf_32 ?_
    refine ⟨?_, rfl, hm.to ?_⟩ <;> first | rfl | (simp [hrv, c1, kw_b]; done) | (simp [hrv, c1, kw_b, tF_uF, tF_uL, tF_uA, tF_uB, tL_uF, tL_uL, tL_uA, tL_uB, tA_uF, tA_uL, tA_uA, tA_uB, tB_uF, tB_uL, tB_uA, tB_uB]; done) | contradiction
set_option maxHeartbeats 1000000 in
set_option maxRecDepth 100000 in
/-- deadlineOf -/
theorem c_X5_deadlineOf (l : Launch) (G : kw_G) (nu : Nat → Option Nat) (x z : kw_St) (mo : Nat) (ma : Nat → Nat) (t : mo_T) (k : Nat) (rv : Int32) (pk : Nat) (hm : mw nu z mo ma t x) (hrv : rv = (if tA t 25 k ≤ tA t 35 pk then tA t 35 pk else tA t 25 k) + (1000 * tA t 34 pk + tA t 15 k - 1) / tA t 15 k) (hk : k < 8) (hp : tA t 17 k = nI pk) (hpk : pk < 1000) (hgu : 0 < tA t 15 k) : kw_M l G yX5_deadlineOf wsX5_deadlineOf { frames := 1, cells := 0, slots := 0, locals := 22 } 0 0 [.ref mo, .int (nI k)] nu x (fun v nu' y => v = some (.int (rv)) ∧ nu' = nu ∧ mw nu z mo ma (t) y) := by
  refine kw_M.ofW (cc := cX5_deadlineOf) (maxL := 3) (ret := (some .int)) (by decide) rfl (Nat.le_of_ble_eq_true rfl) ?_
  intro p e s m args below meth c A ls S hr hlk hnm hK hZ hA hW hS hl
  have hl : lv_has ls 3 [(0, .ref mo), (1, .int (nI k))] := hl
  have iX5 : ∀ w ∈ wsX50, w ∈ wsX5_deadlineOf := by decide +kernel
  refine lv_aload_n S.1 S.2.1 dX5_deadlineOf_0 rfl (lv_at hl 0 rfl) ?_
  refine mx_gA S hK hm hW 15 iX5 rfl (by decide) (by decide) (by decide +kernel) dX5_deadlineOf_1 ?_
  refine lv_iload_n S.1 S.2.1 dX5_deadlineOf_4 rfl (lv_at hl 1 rfl) ?_
  refine mx_ild S hK hm hW 15 (by decide) (k := k) (kw_ixof (k := k) (n := 8) rfl (by omega) (by decide)) dX5_deadlineOf_5 (v := tA t 15 k) rfl ?_
  refine lv_istore_n (lv' := [(2, .int (tA t 15 k)), (0, .ref mo), (1, .int (nI k))]) S.1 S.2.1 dX5_deadlineOf_6 rfl hl (by decide) rfl (fun ls hl => ?_)
  refine lv_aload_n S.1 S.2.1 dX5_deadlineOf_7 rfl (lv_at hl 1 rfl) ?_
  refine lv_iload_n S.1 S.2.1 dX5_deadlineOf_8 rfl (lv_at hl 2 rfl) ?_
  refine mx_cV (As := [.int (nI k)]) (rest := []) (st1 := [.int (((if tA t 25 k ≤ tA t 35 pk then tA t 35 pk else tA t 25 k)))]) S hK hZ hA hm hW hS (c_X5_startOf l G nu x z mo ma t k ((if tA t 25 k ≤ tA t 35 pk then tA t 35 pk else tA t 25 k)) pk hm rfl hk hp hpk) (cwV 1 S.2.2.2.2 gX5_deadlineOf_X5_startOf rfl rfl rfl (by decide +kernel) ⟨Nat.le_of_ble_eq_true rfl, Nat.le_of_ble_eq_true rfl⟩) rfl hl.1 rfl (Nat.le_of_ble_eq_true rfl) dX5_deadlineOf_9 ⟨Nat.le_of_ble_eq_true rfl, Nat.le_of_ble_eq_true rfl⟩ rfl (fun x H locs hm hW hS => ?_)
  refine lv_sipush (v := 1000) S.1 S.2.1 dX5_deadlineOf_12 (by decide) ?_
  refine lv_aload_n S.1 S.2.1 dX5_deadlineOf_15 rfl (lv_at hl 1 rfl) ?_
  refine mx_gA S hK hm hW 34 iX5 rfl (by decide) (by decide) (by decide +kernel) dX5_deadlineOf_16 ?_
  refine lv_aload_n S.1 S.2.1 dX5_deadlineOf_19 rfl (lv_at hl 1 rfl) ?_
  refine mx_gA S hK hm hW 17 iX5 rfl (by decide) (by decide) (by decide +kernel) dX5_deadlineOf_20 ?_
  refine lv_iload_n S.1 S.2.1 dX5_deadlineOf_23 rfl (lv_at hl 2 rfl) ?_
  refine mx_ild S hK hm hW 17 (by decide) (k := k) (kw_ixof (k := k) (n := 8) rfl (by omega) (by decide)) dX5_deadlineOf_24 (v := nI pk) hp ?_
  refine mx_ild S hK hm hW 34 (by decide) (k := pk) (kw_ixof (k := pk) (n := 1000) rfl (by omega) (by decide)) dX5_deadlineOf_25 (v := tA t 34 pk) rfl ?_
  refine lv_imul S.1 S.2.1 dX5_deadlineOf_26 ?_
  refine lv_iload_n S.1 S.2.1 dX5_deadlineOf_27 rfl (lv_at hl 0 rfl) ?_
  refine lv_iadd S.1 S.2.1 dX5_deadlineOf_28 ?_
  refine lv_iconst (v := 1) S.1 S.2.1 dX5_deadlineOf_29 (by decide) ?_
  refine lv_isub S.1 S.2.1 dX5_deadlineOf_30 ?_
  refine lv_iload_n S.1 S.2.1 dX5_deadlineOf_31 rfl (lv_at hl 0 rfl) ?_
  refine lv_idiv S.1 S.2.1 dX5_deadlineOf_32 (kw_d1 hgu) ?_
  refine lv_iadd S.1 S.2.1 dX5_deadlineOf_33 ?_
  refine kw_iret S hr hlk hW hS (by decide) (by decide) dX5_deadlineOf_34 ?_
  refine ⟨?_, rfl, hm.to ?_⟩ <;> first | rfl | (simp [hrv, kw_b]; done) | (simp [hrv, kw_b, tF_uF, tF_uL, tF_uA, tF_uB, tL_uF, tL_uL, tL_uA, tL_uB, tA_uF, tA_uL, tA_uA, tA_uB, tB_uF, tB_uL, tB_uA, tB_uB]; done) | contradiction
set_option maxHeartbeats 1000000 in
set_option maxRecDepth 100000 in
/-- tagOf -/
theorem c_X5_tagOf (l : Launch) (G : kw_G) (nu : Nat → Option Nat) (x z : kw_St) (mo : Nat) (ma : Nat → Nat) (t : mo_T) (k : Nat) (rv : Int64) (pk : Nat) (hm : mw nu z mo ma t x) (hrv : rv = tB t 27 k + 27720 / (tA t 14 k).toInt64 * (tA t 34 pk).toInt64) (hk : k < 8) (hp : tA t 17 k = nI pk) (hpk : pk < 1000) (hwe : 0 < tA t 14 k) : kw_M l G yX5_tagOf wsX5_tagOf { frames := 0, cells := 0, slots := 0, locals := 0 } 0 0 [.ref mo, .int (nI k)] nu x (fun v nu' y => v = some (.long (rv)) ∧ nu' = nu ∧ mw nu z mo ma (t) y) := by
  refine kw_M.ofW (cc := cX5_tagOf) (maxL := 2) (ret := (some .long)) (by decide) rfl (Nat.le_of_ble_eq_true rfl) ?_
  intro p e s m args below meth c A ls S hr hlk hnm hK hZ hA hW hS hl
  have hl : lv_has ls 2 [(0, .ref mo), (1, .int (nI k))] := hl
  have iX5 : ∀ w ∈ wsX50, w ∈ wsX5_tagOf := by decide +kernel
  refine lv_aload_n S.1 S.2.1 dX5_tagOf_0 rfl (lv_at hl 0 rfl) ?_
  refine mx_gA S hK hm hW 27 iX5 rfl (by decide) (by decide) (by decide +kernel) dX5_tagOf_1 ?_
  refine lv_iload_n S.1 S.2.1 dX5_tagOf_4 rfl (lv_at hl 1 rfl) ?_
  refine mx_lld S hK hm hW 27 (by decide) (k := k) (kw_ixof (k := k) (n := 8) rfl (by omega) (by decide)) dX5_tagOf_5 (v := tB t 27 k) rfl ?_
  refine lv_ldc2 (v := 27720) S.1 S.2.1 S.2.2.2.1 (S.2.2.2.2 _ (by decide +kernel)) dX5_tagOf_6 ?_
  refine lv_aload_n S.1 S.2.1 dX5_tagOf_9 rfl (lv_at hl 0 rfl) ?_
  refine mx_gA S hK hm hW 14 iX5 rfl (by decide) (by decide) (by decide +kernel) dX5_tagOf_10 ?_
  refine lv_iload_n S.1 S.2.1 dX5_tagOf_13 rfl (lv_at hl 1 rfl) ?_
  refine mx_ild S hK hm hW 14 (by decide) (k := k) (kw_ixof (k := k) (n := 8) rfl (by omega) (by decide)) dX5_tagOf_14 (v := tA t 14 k) rfl ?_
  refine lv_i2l S.1 S.2.1 dX5_tagOf_15 rfl ?_
  refine lv_ldiv S.1 S.2.1 dX5_tagOf_16 (kw_d0 hwe) ?_
  refine lv_aload_n S.1 S.2.1 dX5_tagOf_17 rfl (lv_at hl 0 rfl) ?_
  refine mx_gA S hK hm hW 34 iX5 rfl (by decide) (by decide) (by decide +kernel) dX5_tagOf_18 ?_
  refine lv_aload_n S.1 S.2.1 dX5_tagOf_21 rfl (lv_at hl 0 rfl) ?_
  refine mx_gA S hK hm hW 17 iX5 rfl (by decide) (by decide) (by decide +kernel) dX5_tagOf_22 ?_
  refine lv_iload_n S.1 S.2.1 dX5_tagOf_25 rfl (lv_at hl 1 rfl) ?_
  refine mx_ild S hK hm hW 17 (by decide) (k := k) (kw_ixof (k := k) (n := 8) rfl (by omega) (by decide)) dX5_tagOf_26 (v := nI pk) hp ?_
  refine mx_ild S hK hm hW 34 (by decide) (k := pk) (kw_ixof (k := pk) (n := 1000) rfl (by omega) (by decide)) dX5_tagOf_27 (v := tA t 34 pk) rfl ?_
  refine lv_i2l S.1 S.2.1 dX5_tagOf_28 rfl ?_
  refine lv_lmul S.1 S.2.1 dX5_tagOf_29 ?_
  refine lv_ladd S.1 S.2.1 dX5_tagOf_30 ?_
  refine kw_lret S hr hlk hW hS (by decide) (by decide) dX5_tagOf_31 ?_
  refine ⟨?_, rfl, hm.to ?_⟩ <;> first | rfl | (simp [hrv, kw_b]; done) | (simp [hrv, kw_b, tF_uF, tF_uL, tF_uA, tF_uB, tL_uF, tL_uL, tL_uA, tL_uB, tA_uF, tA_uL, tA_uA, tA_uB, tB_uF, tB_uL, tB_uA, tB_uB]; done) | contradiction
set_option maxHeartbeats 1000000 in
set_option maxRecDepth 100000 in
/-- groupTagOf -/
theorem c_X5_groupTagOf (l : Launch) (G : kw_G) (nu : Nat → Option Nat) (x z : kw_St) (mo : Nat) (ma : Nat → Nat) (t : mo_T) (k : Nat) (rv : Int64) (pk : Nat) (g : Nat) (hm : mw nu z mo ma t x) (hrv : rv = tB t 10 g + 27720 / (tA t 9 g).toInt64 * (tA t 34 pk).toInt64) (hk : k < 8) (hp : tA t 17 k = nI pk) (hpk : pk < 1000) (hg : tA t 13 k = nI g) (hg4 : g < 4) (hwe : 0 < tA t 9 g) : kw_M l G yX5_groupTagOf wsX5_groupTagOf { frames := 0, cells := 0, slots := 0, locals := 0 } 0 0 [.ref mo, .int (nI k)] nu x (fun v nu' y => v = some (.long (rv)) ∧ nu' = nu ∧ mw nu z mo ma (t) y) := by
  refine kw_M.ofW (cc := cX5_groupTagOf) (maxL := 3) (ret := (some .long)) (by decide) rfl (Nat.le_of_ble_eq_true rfl) ?_
  intro p e s m args below meth c A ls S hr hlk hnm hK hZ hA hW hS hl
  have hl : lv_has ls 3 [(0, .ref mo), (1, .int (nI k))] := hl
  have iX5 : ∀ w ∈ wsX50, w ∈ wsX5_groupTagOf := by decide +kernel
  refine lv_aload_n S.1 S.2.1 dX5_groupTagOf_0 rfl (lv_at hl 0 rfl) ?_
  refine mx_gA S hK hm hW 13 iX5 rfl (by decide) (by decide) (by decide +kernel) dX5_groupTagOf_1 ?_
  refine lv_iload_n S.1 S.2.1 dX5_groupTagOf_4 rfl (lv_at hl 1 rfl) ?_
  refine mx_ild S hK hm hW 13 (by decide) (k := k) (kw_ixof (k := k) (n := 8) rfl (by omega) (by decide)) dX5_groupTagOf_5 (v := nI g) hg ?_
  refine lv_istore_n (lv' := [(2, .int (nI g)), (0, .ref mo), (1, .int (nI k))]) S.1 S.2.1 dX5_groupTagOf_6 rfl hl (by decide) rfl (fun ls hl => ?_)
  refine lv_aload_n S.1 S.2.1 dX5_groupTagOf_7 rfl (lv_at hl 1 rfl) ?_
  refine mx_gA S hK hm hW 10 iX5 rfl (by decide) (by decide) (by decide +kernel) dX5_groupTagOf_8 ?_
  refine lv_iload_n S.1 S.2.1 dX5_groupTagOf_11 rfl (lv_at hl 0 rfl) ?_
  refine mx_lld S hK hm hW 10 (by decide) (k := g) (kw_ixof (k := g) (n := 4) rfl (by omega) (by decide)) dX5_groupTagOf_12 (v := tB t 10 g) rfl ?_
  refine lv_ldc2 (v := 27720) S.1 S.2.1 S.2.2.2.1 (S.2.2.2.2 _ (by decide +kernel)) dX5_groupTagOf_13 ?_
  refine lv_aload_n S.1 S.2.1 dX5_groupTagOf_16 rfl (lv_at hl 1 rfl) ?_
  refine mx_gA S hK hm hW 9 iX5 rfl (by decide) (by decide) (by decide +kernel) dX5_groupTagOf_17 ?_
  refine lv_iload_n S.1 S.2.1 dX5_groupTagOf_20 rfl (lv_at hl 0 rfl) ?_
  refine mx_ild S hK hm hW 9 (by decide) (k := g) (kw_ixof (k := g) (n := 4) rfl (by omega) (by decide)) dX5_groupTagOf_21 (v := tA t 9 g) rfl ?_
  refine lv_i2l S.1 S.2.1 dX5_groupTagOf_22 rfl ?_
  refine lv_ldiv S.1 S.2.1 dX5_groupTagOf_23 (kw_d0 hwe) ?_
  refine lv_aload_n S.1 S.2.1 dX5_groupTagOf_24 rfl (lv_at hl 1 rfl) ?_
  refine mx_gA S hK hm hW 34 iX5 rfl (by decide) (by decide) (by decide +kernel) dX5_groupTagOf_25 ?_
  refine lv_aload_n S.1 S.2.1 dX5_groupTagOf_28 rfl (lv_at hl 1 rfl) ?_
  refine mx_gA S hK hm hW 17 iX5 rfl (by decide) (by decide) (by decide +kernel) dX5_groupTagOf_29 ?_
  refine lv_iload_n S.1 S.2.1 dX5_groupTagOf_32 rfl (lv_at hl 2 rfl) ?_
  refine mx_ild S hK hm hW 17 (by decide) (k := k) (kw_ixof (k := k) (n := 8) rfl (by omega) (by decide)) dX5_groupTagOf_33 (v := nI pk) hp ?_
  refine mx_ild S hK hm hW 34 (by decide) (k := pk) (kw_ixof (k := pk) (n := 1000) rfl (by omega) (by decide)) dX5_groupTagOf_34 (v := tA t 34 pk) rfl ?_
  refine lv_i2l S.1 S.2.1 dX5_groupTagOf_35 rfl ?_
  refine lv_lmul S.1 S.2.1 dX5_groupTagOf_36 ?_
  refine lv_ladd S.1 S.2.1 dX5_groupTagOf_37 ?_
  refine kw_lret S hr hlk hW hS (by decide) (by decide) dX5_groupTagOf_38 ?_
  refine ⟨?_, rfl, hm.to ?_⟩ <;> first | rfl | (simp [hrv, kw_b]; done) | (simp [hrv, kw_b, tF_uF, tF_uL, tF_uA, tF_uB, tL_uF, tL_uL, tL_uA, tL_uB, tA_uF, tA_uL, tA_uA, tA_uB, tB_uF, tB_uL, tB_uA, tB_uB]; done) | contradiction
def m_goes (t : mo_T) (k pk g nb : Nat) (w : Int32) : mo_T := uB (uB (uF (uF (uF (uA (uA (uA (uA (uA (uA t 17 k (tA t 39 pk)) 19 k (tA t 19 k - 1)) 20 k (tA t 20 k - tA t 34 pk)) 36 pk (tF t 1)) 37 pk w) 40 nb (nI pk)) 5 (nI (nb + 1))) 8 (nI pk)) 7 (tA t 34 pk)) 32 k (tB t 32 k - 1000 * (tA t 34 pk).toInt64)) 32 (8 + g) (tB t 32 (8 + g) - 1000 * (tA t 34 pk).toInt64)
set_option maxHeartbeats 1000000 in
set_option maxRecDepth 100000 in
/-- goes -/
theorem c_X5_goes (l : Launch) (G : kw_G) (nu : Nat → Option Nat) (x z : kw_St) (mo : Nat) (ma : Nat → Nat) (t : mo_T) (k : Nat) (w : Int32) (pk : Nat) (g : Nat) (nb : Nat) (hm : mw nu z mo ma t x) (hk : k < 8) (hp : tA t 17 k = nI pk) (hpk : pk < 1000) (hg : tA t 13 k = nI g) (hg4 : g < 4) (hb : tF t 5 = nI nb) (hb9 : nb < 1000) : kw_M l G yX5_goes wsX5_goes { frames := 0, cells := 0, slots := 0, locals := 0 } 0 0 [.ref mo, .int (nI k), .int (w)] nu x (fun v nu' y => v = some (.int (nI pk)) ∧ nu' = nu ∧ mw nu z mo ma (m_goes t k pk g nb w) y) := by
  refine kw_M.ofW (cc := cX5_goes) (maxL := 4) (ret := (some .int)) (by decide) rfl (Nat.le_of_ble_eq_true rfl) ?_
  intro p e s m args below meth c A ls S hr hlk hnm hK hZ hA hW hS hl
  have hl : lv_has ls 4 [(0, .ref mo), (1, .int (nI k)), (2, .int (w))] := hl
  have iX5 : ∀ w ∈ wsX50, w ∈ wsX5_goes := by decide +kernel
  refine lv_aload_n S.1 S.2.1 dX5_goes_0 rfl (lv_at hl 0 rfl) ?_
  refine mx_gA S hK hm hW 17 iX5 rfl (by decide) (by decide) (by decide +kernel) dX5_goes_1 ?_
  refine lv_iload_n S.1 S.2.1 dX5_goes_4 rfl (lv_at hl 1 rfl) ?_
  refine mx_ild S hK hm hW 17 (by decide) (k := k) (kw_ixof (k := k) (n := 8) rfl (by omega) (by decide)) dX5_goes_5 (v := nI pk) hp ?_
  refine lv_istore_n (lv' := [(3, .int (nI pk)), (0, .ref mo), (1, .int (nI k)), (2, .int (w))]) S.1 S.2.1 dX5_goes_6 rfl hl (by decide) rfl (fun ls hl => ?_)
  refine lv_aload_n S.1 S.2.1 dX5_goes_7 rfl (lv_at hl 1 rfl) ?_
  refine mx_gA S hK hm hW 17 iX5 rfl (by decide) (by decide) (by decide +kernel) dX5_goes_8 ?_
  refine lv_iload_n S.1 S.2.1 dX5_goes_11 rfl (lv_at hl 2 rfl) ?_
  refine lv_aload_n S.1 S.2.1 dX5_goes_12 rfl (lv_at hl 1 rfl) ?_
  refine mx_gA S hK hm hW 39 iX5 rfl (by decide) (by decide) (by decide +kernel) dX5_goes_13 ?_
  refine lv_iload_n S.1 S.2.1 dX5_goes_16 rfl (lv_at hl 0 rfl) ?_
  refine mx_ild S hK hm hW 39 (by decide) (k := pk) (kw_ixof (k := pk) (n := 1000) rfl (by omega) (by decide)) dX5_goes_17 (v := tA t 39 pk) rfl ?_
  refine mx_ist S hK hm hW hS 17 (by decide) (k := k) (kw_ixof (k := k) (n := 8) rfl (by omega) (by decide)) dX5_goes_18 (fun x H locs hm hW hS => ?_)
  refine lv_aload_n S.1 S.2.1 dX5_goes_19 rfl (lv_at hl 1 rfl) ?_
  refine mx_gA S hK hm hW 19 iX5 rfl (by decide) (by decide) (by decide +kernel) dX5_goes_20 ?_
  refine lv_iload_n S.1 S.2.1 dX5_goes_23 rfl (lv_at hl 2 rfl) ?_
  refine lv_dup2_11 S.1 S.2.1 dX5_goes_24 rfl rfl ?_
  refine mx_ild S hK hm hW 19 (by decide) (k := k) (kw_ixof (k := k) (n := 8) rfl (by omega) (by decide)) dX5_goes_25 (v := tA t 19 k) (by simp [tF_uF, tF_uL, tF_uA, tF_uB, tL_uF, tL_uL, tL_uA, tL_uB, tA_uF, tA_uL, tA_uA, tA_uB, tB_uF, tB_uL, tB_uA, tB_uB, (show ¬ 8 + g = k by omega), (show ¬ k = 8 + g by omega)]) ?_
  refine lv_iconst (v := 1) S.1 S.2.1 dX5_goes_26 (by decide) ?_
  refine lv_isub S.1 S.2.1 dX5_goes_27 ?_
  refine mx_ist S hK hm hW hS 19 (by decide) (k := k) (kw_ixof (k := k) (n := 8) rfl (by omega) (by decide)) dX5_goes_28 (fun x H locs hm hW hS => ?_)
  refine lv_aload_n S.1 S.2.1 dX5_goes_29 rfl (lv_at hl 1 rfl) ?_
  refine mx_gA S hK hm hW 20 iX5 rfl (by decide) (by decide) (by decide +kernel) dX5_goes_30 ?_
  refine lv_iload_n S.1 S.2.1 dX5_goes_33 rfl (lv_at hl 2 rfl) ?_
  refine lv_dup2_11 S.1 S.2.1 dX5_goes_34 rfl rfl ?_
  refine mx_ild S hK hm hW 20 (by decide) (k := k) (kw_ixof (k := k) (n := 8) rfl (by omega) (by decide)) dX5_goes_35 (v := tA t 20 k) (by simp [tF_uF, tF_uL, tF_uA, tF_uB, tL_uF, tL_uL, tL_uA, tL_uB, tA_uF, tA_uL, tA_uA, tA_uB, tB_uF, tB_uL, tB_uA, tB_uB, (show ¬ 8 + g = k by omega), (show ¬ k = 8 + g by omega)]) ?_
  refine lv_aload_n S.1 S.2.1 dX5_goes_36 rfl (lv_at hl 1 rfl) ?_
  refine mx_gA S hK hm hW 34 iX5 rfl (by decide) (by decide) (by decide +kernel) dX5_goes_37 ?_
  refine lv_iload_n S.1 S.2.1 dX5_goes_40 rfl (lv_at hl 0 rfl) ?_
  refine mx_ild S hK hm hW 34 (by decide) (k := pk) (kw_ixof (k := pk) (n := 1000) rfl (by omega) (by decide)) dX5_goes_41 (v := tA t 34 pk) (by simp [tF_uF, tF_uL, tF_uA, tF_uB, tL_uF, tL_uL, tL_uA, tL_uB, tA_uF, tA_uL, tA_uA, tA_uB, tB_uF, tB_uL, tB_uA, tB_uB, (show ¬ 8 + g = k by omega), (show ¬ k = 8 + g by omega)]) ?_
  refine lv_isub S.1 S.2.1 dX5_goes_42 ?_
  refine mx_ist S hK hm hW hS 20 (by decide) (k := k) (kw_ixof (k := k) (n := 8) rfl (by omega) (by decide)) dX5_goes_43 (fun x H locs hm hW hS => ?_)
  refine lv_aload_n S.1 S.2.1 dX5_goes_44 rfl (lv_at hl 1 rfl) ?_
  refine mx_gA S hK hm hW 36 iX5 rfl (by decide) (by decide) (by decide +kernel) dX5_goes_45 ?_
  refine lv_iload_n S.1 S.2.1 dX5_goes_48 rfl (lv_at hl 0 rfl) ?_
  refine lv_aload_n S.1 S.2.1 dX5_goes_49 rfl (lv_at hl 1 rfl) ?_
  refine mx_gI S hK hm hW 1 iX5 rfl (by decide) (by decide +kernel) dX5_goes_50 (v := tF t 1) (by simp [tF_uF, tF_uL, tF_uA, tF_uB, tL_uF, tL_uL, tL_uA, tL_uB, tA_uF, tA_uL, tA_uA, tA_uB, tB_uF, tB_uL, tB_uA, tB_uB, (show ¬ 8 + g = k by omega), (show ¬ k = 8 + g by omega)]) ?_
  refine mx_ist S hK hm hW hS 36 (by decide) (k := pk) (kw_ixof (k := pk) (n := 1000) rfl (by omega) (by decide)) dX5_goes_53 (fun x H locs hm hW hS => ?_)
  refine lv_aload_n S.1 S.2.1 dX5_goes_54 rfl (lv_at hl 1 rfl) ?_
  refine mx_gA S hK hm hW 37 iX5 rfl (by decide) (by decide) (by decide +kernel) dX5_goes_55 ?_
  refine lv_iload_n S.1 S.2.1 dX5_goes_58 rfl (lv_at hl 0 rfl) ?_
  refine lv_iload_n S.1 S.2.1 dX5_goes_59 rfl (lv_at hl 3 rfl) ?_
  refine mx_ist S hK hm hW hS 37 (by decide) (k := pk) (kw_ixof (k := pk) (n := 1000) rfl (by omega) (by decide)) dX5_goes_60 (fun x H locs hm hW hS => ?_)
  refine lv_aload_n S.1 S.2.1 dX5_goes_61 rfl (lv_at hl 1 rfl) ?_
  refine mx_gA S hK hm hW 40 iX5 rfl (by decide) (by decide) (by decide +kernel) dX5_goes_62 ?_
  refine lv_aload_n S.1 S.2.1 dX5_goes_65 rfl (lv_at hl 1 rfl) ?_
  refine mx_gI S hK hm hW 5 iX5 rfl (by decide) (by decide +kernel) dX5_goes_66 (v := nI nb) (Eq.trans (b := tF t 5) (by simp [tF_uF, tF_uL, tF_uA, tF_uB, tL_uF, tL_uL, tL_uA, tL_uB, tA_uF, tA_uL, tA_uA, tA_uB, tB_uF, tB_uL, tB_uA, tB_uB, (show ¬ 8 + g = k by omega), (show ¬ k = 8 + g by omega)]) hb) ?_
  refine lv_iload_n S.1 S.2.1 dX5_goes_69 rfl (lv_at hl 0 rfl) ?_
  refine mx_ist S hK hm hW hS 40 (by decide) (k := nb) (kw_ixof (k := nb) (n := 1000) rfl (by omega) (by decide)) dX5_goes_70 (fun x H locs hm hW hS => ?_)
  refine lv_aload_n S.1 S.2.1 dX5_goes_71 rfl (lv_at hl 1 rfl) ?_
  refine lv_dup S.1 S.2.1 dX5_goes_72 rfl ?_
  refine mx_gI S hK hm hW 5 iX5 rfl (by decide) (by decide +kernel) dX5_goes_73 (v := nI nb) (Eq.trans (b := tF t 5) (by simp [tF_uF, tF_uL, tF_uA, tF_uB, tL_uF, tL_uL, tL_uA, tL_uB, tA_uF, tA_uL, tA_uA, tA_uB, tB_uF, tB_uL, tB_uA, tB_uB, (show ¬ 8 + g = k by omega), (show ¬ k = 8 + g by omega)]) hb) ?_
  refine lv_iconst (v := 1) S.1 S.2.1 dX5_goes_76 (by decide) ?_
  refine lv_iadd S.1 S.2.1 dX5_goes_77 ?_
  rw [show (nI nb : Int32) + 1 = nI (nb + 1) from nI_add (nb) (1)]
  refine mx_pI S hK hm hW hS 5 iX5 rfl (by decide) (by decide +kernel) rfl rfl dX5_goes_78 (fun x H locs hm hW hS => ?_)
  refine lv_aload_n S.1 S.2.1 dX5_goes_81 rfl (lv_at hl 1 rfl) ?_
  refine lv_iload_n S.1 S.2.1 dX5_goes_82 rfl (lv_at hl 0 rfl) ?_
  refine mx_pI S hK hm hW hS 8 iX5 rfl (by decide) (by decide +kernel) rfl rfl dX5_goes_83 (fun x H locs hm hW hS => ?_)
  refine lv_aload_n S.1 S.2.1 dX5_goes_86 rfl (lv_at hl 1 rfl) ?_
  refine lv_aload_n S.1 S.2.1 dX5_goes_87 rfl (lv_at hl 1 rfl) ?_
  refine mx_gA S hK hm hW 34 iX5 rfl (by decide) (by decide) (by decide +kernel) dX5_goes_88 ?_
  refine lv_iload_n S.1 S.2.1 dX5_goes_91 rfl (lv_at hl 0 rfl) ?_
  refine mx_ild S hK hm hW 34 (by decide) (k := pk) (kw_ixof (k := pk) (n := 1000) rfl (by omega) (by decide)) dX5_goes_92 (v := tA t 34 pk) (by simp [tF_uF, tF_uL, tF_uA, tF_uB, tL_uF, tL_uL, tL_uA, tL_uB, tA_uF, tA_uL, tA_uA, tA_uB, tB_uF, tB_uL, tB_uA, tB_uB, (show ¬ 8 + g = k by omega), (show ¬ k = 8 + g by omega)]) ?_
  refine mx_pI S hK hm hW hS 7 iX5 rfl (by decide) (by decide +kernel) rfl rfl dX5_goes_93 (fun x H locs hm hW hS => ?_)
  refine lv_aload_n S.1 S.2.1 dX5_goes_96 rfl (lv_at hl 1 rfl) ?_
  refine mx_gA S hK hm hW 32 iX5 rfl (by decide) (by decide) (by decide +kernel) dX5_goes_97 ?_
  refine lv_iload_n S.1 S.2.1 dX5_goes_100 rfl (lv_at hl 2 rfl) ?_
  refine lv_dup2_11 S.1 S.2.1 dX5_goes_101 rfl rfl ?_
  refine mx_lld S hK hm hW 32 (by decide) (k := k) (kw_ixof (k := k) (n := 20) rfl (by omega) (by decide)) dX5_goes_102 (v := tB t 32 k) (by simp [tF_uF, tF_uL, tF_uA, tF_uB, tL_uF, tL_uL, tL_uA, tL_uB, tA_uF, tA_uL, tA_uA, tA_uB, tB_uF, tB_uL, tB_uA, tB_uB, (show ¬ 8 + g = k by omega), (show ¬ k = 8 + g by omega)]) ?_
  refine lv_ldc2 (v := 1000) S.1 S.2.1 S.2.2.2.1 (S.2.2.2.2 _ (by decide +kernel)) dX5_goes_103 ?_
  refine lv_aload_n S.1 S.2.1 dX5_goes_106 rfl (lv_at hl 1 rfl) ?_
  refine mx_gA S hK hm hW 34 iX5 rfl (by decide) (by decide) (by decide +kernel) dX5_goes_107 ?_
  refine lv_iload_n S.1 S.2.1 dX5_goes_110 rfl (lv_at hl 0 rfl) ?_
  refine mx_ild S hK hm hW 34 (by decide) (k := pk) (kw_ixof (k := pk) (n := 1000) rfl (by omega) (by decide)) dX5_goes_111 (v := tA t 34 pk) (by simp [tF_uF, tF_uL, tF_uA, tF_uB, tL_uF, tL_uL, tL_uA, tL_uB, tA_uF, tA_uL, tA_uA, tA_uB, tB_uF, tB_uL, tB_uA, tB_uB, (show ¬ 8 + g = k by omega), (show ¬ k = 8 + g by omega)]) ?_
  refine lv_i2l S.1 S.2.1 dX5_goes_112 rfl ?_
  refine lv_lmul S.1 S.2.1 dX5_goes_113 ?_
  refine lv_lsub S.1 S.2.1 dX5_goes_114 ?_
  refine mx_lst S hK hm hW hS 32 (by decide) (k := k) (kw_ixof (k := k) (n := 20) rfl (by omega) (by decide)) dX5_goes_115 (fun x H locs hm hW hS => ?_)
  refine lv_aload_n S.1 S.2.1 dX5_goes_116 rfl (lv_at hl 1 rfl) ?_
  refine mx_gA S hK hm hW 32 iX5 rfl (by decide) (by decide) (by decide +kernel) dX5_goes_117 ?_
  refine lv_bipush (v := 8) S.1 S.2.1 dX5_goes_120 (by decide) ?_
  refine lv_aload_n S.1 S.2.1 dX5_goes_122 rfl (lv_at hl 1 rfl) ?_
  refine mx_gA S hK hm hW 13 iX5 rfl (by decide) (by decide) (by decide +kernel) dX5_goes_123 ?_
  refine lv_iload_n S.1 S.2.1 dX5_goes_126 rfl (lv_at hl 2 rfl) ?_
  refine mx_ild S hK hm hW 13 (by decide) (k := k) (kw_ixof (k := k) (n := 8) rfl (by omega) (by decide)) dX5_goes_127 (v := nI g) (Eq.trans (b := tA t 13 k) (by simp [tF_uF, tF_uL, tF_uA, tF_uB, tL_uF, tL_uL, tL_uA, tL_uB, tA_uF, tA_uL, tA_uA, tA_uB, tB_uF, tB_uL, tB_uA, tB_uB, (show ¬ 8 + g = k by omega), (show ¬ k = 8 + g by omega)]) hg) ?_
  refine lv_iadd S.1 S.2.1 dX5_goes_128 ?_
  rw [show (8 : Int32) + nI g = nI (8 + g) from nI_add (8) (g)]
  refine lv_dup2_11 S.1 S.2.1 dX5_goes_129 rfl rfl ?_
  refine mx_lld S hK hm hW 32 (by decide) (k := (8 + g)) (kw_ixof (k := 8 + g) (n := 20) rfl (by omega) (by decide)) dX5_goes_130 (v := tB t 32 (8 + g)) (by simp [tF_uF, tF_uL, tF_uA, tF_uB, tL_uF, tL_uL, tL_uA, tL_uB, tA_uF, tA_uL, tA_uA, tA_uB, tB_uF, tB_uL, tB_uA, tB_uB, (show ¬ 8 + g = k by omega), (show ¬ k = 8 + g by omega)]) ?_
  refine lv_ldc2 (v := 1000) S.1 S.2.1 S.2.2.2.1 (S.2.2.2.2 _ (by decide +kernel)) dX5_goes_131 ?_
  refine lv_aload_n S.1 S.2.1 dX5_goes_134 rfl (lv_at hl 1 rfl) ?_
  refine mx_gA S hK hm hW 34 iX5 rfl (by decide) (by decide) (by decide +kernel) dX5_goes_135 ?_
  refine lv_iload_n S.1 S.2.1 dX5_goes_138 rfl (lv_at hl 0 rfl) ?_
  refine mx_ild S hK hm hW 34 (by decide) (k := pk) (kw_ixof (k := pk) (n := 1000) rfl (by omega) (by decide)) dX5_goes_139 (v := tA t 34 pk) (by simp [tF_uF, tF_uL, tF_uA, tF_uB, tL_uF, tL_uL, tL_uA, tL_uB, tA_uF, tA_uL, tA_uA, tA_uB, tB_uF, tB_uL, tB_uA, tB_uB, (show ¬ 8 + g = k by omega), (show ¬ k = 8 + g by omega)]) ?_
  refine lv_i2l S.1 S.2.1 dX5_goes_140 rfl ?_
  refine lv_lmul S.1 S.2.1 dX5_goes_141 ?_
  refine lv_lsub S.1 S.2.1 dX5_goes_142 ?_
  refine mx_lst S hK hm hW hS 32 (by decide) (k := (8 + g)) (kw_ixof (k := 8 + g) (n := 20) rfl (by omega) (by decide)) dX5_goes_143 (fun x H locs hm hW hS => ?_)
  refine lv_iload_n S.1 S.2.1 dX5_goes_144 rfl (lv_at hl 0 rfl) ?_
  refine kw_iret S hr hlk hW hS (by decide) (by decide) dX5_goes_145 ?_
  refine ⟨?_, rfl, hm.to ?_⟩ <;> first | rfl | (simp [m_goes, kw_b]; done) | (simp [m_goes, kw_b, tF_uF, tF_uL, tF_uA, tF_uB, tL_uF, tL_uL, tL_uA, tL_uB, tA_uF, tA_uL, tA_uA, tA_uB, tB_uF, tB_uL, tB_uA, tB_uB, (show ¬ 8 + g = k by omega), (show ¬ k = 8 + g by omega)]; done) | contradiction
theorem kw_wi_nI {k n : Nat} (hk : k < 1000) (hn : n ≤ 1000) : kw_wi (nI k) 0 (nI n - 1) = decide (k < n) := by
  have h0 : ¬ nI k < 0 := nI_pos (by omega)
  rcases Nat.eq_zero_or_pos n with rfl | hp
  · have h1 : nI 0 - 1 < nI k := by
      rw [Int32.lt_iff_toInt_lt, nI_toInt (by omega)]
      have : (nI 0 - 1).toInt = -1 := by decide
      omega
    simp [kw_wi, h1]
  · have e : nI n - 1 = nI (n - 1) := by rw [show n = (n - 1) + 1 by omega, nI_pred]; rfl
    rw [e]
    by_cases h : k < n
    · have h1 : ¬ nI (n - 1) < nI k := nI_nlt (by omega) (by omega)
      simp [kw_wi, h0, h1, h]
    · have h1 : nI (n - 1) < nI k := nI_lt (by omega) (by omega)
      simp [kw_wi, h1, h]
theorem kw_wi_lt {k n : Nat} (hk : k < 1000) (hn : n ≤ 1000) (h : kw_wi (nI k) 0 (nI n - 1) = true) : k < n := by rw [kw_wi_nI hk hn] at h; exact of_decide_eq_true h
theorem kw_wi_ge {k n : Nat} (hk : k < 1000) (hn : n ≤ 1000) (h : ¬ kw_wi (nI k) 0 (nI n - 1) = true) : ¬ k < n := by rw [kw_wi_nI hk hn] at h; exact fun q => h (decide_eq_true q)
/-- an int that is no number below a thousand is the number of nothing -/
theorem kw_wi_out {v : Int32} {n : Nat} (hv : ∀ k, k < 1000 → v ≠ nI k) (hn : n ≤ 1000) : kw_wi v 0 (nI n - 1) = false := by
  by_cases h0 : v < 0
  · simp [kw_wi, h0]
  obtain ⟨j, hj, rfl⟩ := nI_of h0
  have hj2 : ¬ j < 1000 := fun q => hv j q rfl
  have h1 : nI n - 1 < nI j := by
    rcases Nat.eq_zero_or_pos n with rfl | hp
    · rw [Int32.lt_iff_toInt_lt, nI_toInt hj]
      have : (nI 0 - 1).toInt = -1 := by decide
      omega
    · rw [show nI n - 1 = nI (n - 1) by rw [show n = (n - 1) + 1 by omega, nI_pred]; rfl]
      exact nI_lt (by omega) hj
  simp [kw_wi, h1]
def m_polok (nl k : Nat) (r b : Int32) : Bool := decide (k < nl) && (kw_wi r 0 1000 && kw_wi b 0 20000)
def m_police (t : mo_T) (nl k : Nat) (r b mk : Int32) : mo_T := if m_polok nl k r b = true then m_fill (uA (uA t 28 k 1) 29 k mk) (12 + k) r b else t
set_option maxHeartbeats 1000000 in
set_option maxRecDepth 100000 in
/-- police -/
theorem c_X5_police_s (l : Launch) (G : kw_G) (nu : Nat → Option Nat) (x z : kw_St) (mo : Nat) (ma : Nat → Nat) (t : mo_T) (k : Nat) (r : Int32) (b : Int32) (mk : Int32) (nl : Nat) (hm : mw nu z mo ma t x) (hk : k < 1000) (hnl : tF t 3 = nI nl) (hn8 : nl ≤ 8) (hmk : mk = 0 ∨ mk = 1) : kw_M l G yX5_police wsX5_police { frames := 1, cells := 0, slots := 0, locals := 23 } 0 0 [.ref mo, .int (nI k), .int (r), .int (b), .int (mk)] nu x (fun v nu' y => v = some (.int (kw_b (m_polok nl k r b = true))) ∧ nu' = nu ∧ mw nu z mo ma (m_police t nl k r b mk) y) := by
  refine kw_M.ofW (cc := cX5_police) (maxL := 5) (ret := (some .boolean)) (by decide) rfl (Nat.le_of_ble_eq_true rfl) ?_
  intro p e s m args below meth c A ls S hr hlk hnm hK hZ hA hW hS hl
  have hl : lv_has ls 5 [(0, .ref mo), (1, .int (nI k)), (2, .int (r)), (3, .int (b)), (4, .int (mk))] := hl
  have iX5 : ∀ w ∈ wsX50, w ∈ wsX5_police := by decide +kernel
  have hn9 : nl ≤ 1000 := by omega
  refine lv_iload_n S.1 S.2.1 dX5_police_0 rfl (lv_at hl 1 rfl) ?_
  refine lv_iconst (v := 0) S.1 S.2.1 dX5_police_1 (by decide) ?_
  refine lv_aload_n S.1 S.2.1 dX5_police_2 rfl (lv_at hl 0 rfl) ?_
  refine mx_gI S hK hm hW 3 iX5 rfl (by decide) (by decide +kernel) dX5_police_3 (v := nI nl) hnl ?_
  refine lv_iconst (v := 1) S.1 S.2.1 dX5_police_6 (by decide) ?_
  refine lv_isub S.1 S.2.1 dX5_police_7 ?_
  refine kx_cS (As := [.int (nI k), .int (0), .int ((nI nl) - (1))]) (rest := []) (st1 := [.int (kw_b (kw_wi (nI k) 0 ((nI nl) - (1)) = true))]) S hK hZ hA hW hS (c_X5_in l G nu x (nI k) 0 ((nI nl) - (1)) ) (va_cwS 3 S.2.2.2.2 gX5_police_X5_in rfl rfl rfl (by decide +kernel) ⟨Nat.le_of_ble_eq_true rfl, Nat.le_of_ble_eq_true rfl⟩) rfl hl.1 rfl (Nat.le_of_ble_eq_true rfl) dX5_police_8 ⟨Nat.le_of_ble_eq_true rfl, Nat.le_of_ble_eq_true rfl⟩ rfl (fun H locs hW hS => ?_)
  refine kx_ifz_eq (tgt := 36) S dX5_police_11 (by decide) (fun c1 => ?_) (fun c1 => ?_)
  · skip
    have hkl : ¬ k < nl := kw_wi_ge hk hn9 (by assumption)
    refine lv_iconst (v := 0) S.1 S.2.1 dX5_police_36 (by decide) ?_
    refine kw_zret S hr hlk hW hS (by decide) (by decide) dX5_police_37 kw_n0 ?_
    refine ⟨?_, rfl, hm.to ?_⟩ <;> first | rfl | (simp [m_polok, m_police, c1, hkl, kw_b]; done) | (simp [m_polok, m_police, c1, hkl, kw_b, tF_uF, tF_uL, tF_uA, tF_uB, tL_uF, tL_uL, tL_uA, tL_uB, tA_uF, tA_uL, tA_uA, tA_uB, tB_uF, tB_uL, tB_uA, tB_uB]; done) | contradiction
  · skip
    have hkl : k < nl := kw_wi_lt hk hn9 (by assumption)
    refine lv_iload_n S.1 S.2.1 dX5_police_14 rfl (lv_at hl 2 rfl) ?_
    refine lv_iconst (v := 0) S.1 S.2.1 dX5_police_15 (by decide) ?_
    refine lv_sipush (v := 1000) S.1 S.2.1 dX5_police_16 (by decide) ?_
    refine kx_cS (As := [.int (r), .int (0), .int (1000)]) (rest := []) (st1 := [.int (kw_b (kw_wi r 0 1000 = true))]) S hK hZ hA hW hS (c_X5_in l G nu x r 0 1000 ) (va_cwS 3 S.2.2.2.2 gX5_police_X5_in rfl rfl rfl (by decide +kernel) ⟨Nat.le_of_ble_eq_true rfl, Nat.le_of_ble_eq_true rfl⟩) rfl hl.1 rfl (Nat.le_of_ble_eq_true rfl) dX5_police_19 ⟨Nat.le_of_ble_eq_true rfl, Nat.le_of_ble_eq_true rfl⟩ rfl (fun H locs hW hS => ?_)
    refine kx_ifz_eq (tgt := 36) S dX5_police_22 (by decide) (fun c2 => ?_) (fun c2 => ?_)
    · skip
      refine lv_iconst (v := 0) S.1 S.2.1 dX5_police_36 (by decide) ?_
      refine kw_zret S hr hlk hW hS (by decide) (by decide) dX5_police_37 kw_n0 ?_
      refine ⟨?_, rfl, hm.to ?_⟩ <;> first | rfl | (simp [m_polok, m_police, c1, hkl, c2, kw_b]; done) | (simp [m_polok, m_police, c1, hkl, c2, kw_b, tF_uF, tF_uL, tF_uA, tF_uB, tL_uF, tL_uL, tL_uA, tL_uB, tA_uF, tA_uL, tA_uA, tA_uB, tB_uF, tB_uL, tB_uA, tB_uB]; done) | contradiction
    · skip
      refine lv_iload_n S.1 S.2.1 dX5_police_25 rfl (lv_at hl 3 rfl) ?_
      refine lv_iconst (v := 0) S.1 S.2.1 dX5_police_26 (by decide) ?_
      refine lv_sipush (v := 20000) S.1 S.2.1 dX5_police_27 (by decide) ?_
      refine kx_cS (As := [.int (b), .int (0), .int (20000)]) (rest := []) (st1 := [.int (kw_b (kw_wi b 0 20000 = true))]) S hK hZ hA hW hS (c_X5_in l G nu x b 0 20000 ) (va_cwS 3 S.2.2.2.2 gX5_police_X5_in rfl rfl rfl (by decide +kernel) ⟨Nat.le_of_ble_eq_true rfl, Nat.le_of_ble_eq_true rfl⟩) rfl hl.1 rfl (Nat.le_of_ble_eq_true rfl) dX5_police_30 ⟨Nat.le_of_ble_eq_true rfl, Nat.le_of_ble_eq_true rfl⟩ rfl (fun H locs hW hS => ?_)
      refine kx_ifz_ne (tgt := 38) S dX5_police_33 (by decide) (fun c3 => ?_) (fun c3 => ?_)
      · skip
        refine lv_aload_n S.1 S.2.1 dX5_police_38 rfl (lv_at hl 0 rfl) ?_
        refine mx_gA S hK hm hW 28 iX5 rfl (by decide) (by decide) (by decide +kernel) dX5_police_39 ?_
        refine lv_iload_n S.1 S.2.1 dX5_police_42 rfl (lv_at hl 1 rfl) ?_
        refine lv_iconst (v := 1) S.1 S.2.1 dX5_police_43 (by decide) ?_
        refine mx_zst S hK hm hW hS 28 (by decide) (k := k) (kw_ixof (k := k) (n := 8) rfl (by omega) (by decide)) dX5_police_44 (Or.inr rfl) (fun x H locs hm hW hS => ?_)
        refine lv_aload_n S.1 S.2.1 dX5_police_45 rfl (lv_at hl 0 rfl) ?_
        refine mx_gA S hK hm hW 29 iX5 rfl (by decide) (by decide) (by decide +kernel) dX5_police_46 ?_
        refine lv_iload_n S.1 S.2.1 dX5_police_49 rfl (lv_at hl 1 rfl) ?_
        refine lv_iload S.1 S.2.1 dX5_police_50 (lv_at hl 4 rfl) ?_
        refine mx_zst S hK hm hW hS 29 (by decide) (k := k) (kw_ixof (k := k) (n := 8) rfl (by omega) (by decide)) dX5_police_52 hmk (fun x H locs hm hW hS => ?_)
        refine lv_aload_n S.1 S.2.1 dX5_police_53 rfl (lv_at hl 0 rfl) ?_
        refine lv_bipush (v := 12) S.1 S.2.1 dX5_police_54 (by decide) ?_
        refine lv_iload_n S.1 S.2.1 dX5_police_56 rfl (lv_at hl 1 rfl) ?_
        refine lv_iadd S.1 S.2.1 dX5_police_57 ?_
        rw [show (12 : Int32) + nI k = nI (12 + k) from nI_add (12) (k)]
        refine lv_iload_n S.1 S.2.1 dX5_police_58 rfl (lv_at hl 2 rfl) ?_
        refine lv_iload_n S.1 S.2.1 dX5_police_59 rfl (lv_at hl 3 rfl) ?_
        refine mx_cV (As := [.int (nI (12 + k)), .int (r), .int (b)]) (rest := []) (st1 := []) S hK hZ hA hm hW hS (c_X5_fill l G nu x z mo ma (uA (uA t 28 (k) (1)) 29 (k) (mk)) (12 + k) r b hm (by omega)) (cwV 3 S.2.2.2.2 gX5_police_X5_fill rfl rfl rfl (by decide +kernel) ⟨Nat.le_of_ble_eq_true rfl, Nat.le_of_ble_eq_true rfl⟩) rfl hl.1 rfl (Nat.le_of_ble_eq_true rfl) dX5_police_60 ⟨Nat.le_of_ble_eq_true rfl, Nat.le_of_ble_eq_true rfl⟩ rfl (fun x H locs hm hW hS => ?_)
        refine lv_iconst (v := 1) S.1 S.2.1 dX5_police_63 (by decide) ?_
        refine kw_zret S hr hlk hW hS (by decide) (by decide) dX5_police_64 kw_n1 ?_
        refine ⟨?_, rfl, hm.to ?_⟩ <;> first | rfl | (simp [m_polok, m_police, c1, hkl, c2, c3, kw_b]; done) | (simp [m_polok, m_police, c1, hkl, c2, c3, kw_b, tF_uF, tF_uL, tF_uA, tF_uB, tL_uF, tL_uL, tL_uA, tL_uB, tA_uF, tA_uL, tA_uA, tA_uB, tB_uF, tB_uL, tB_uA, tB_uB]; done) | contradiction
      · skip
        refine lv_iconst (v := 0) S.1 S.2.1 dX5_police_36 (by decide) ?_
        refine kw_zret S hr hlk hW hS (by decide) (by decide) dX5_police_37 kw_n0 ?_
        refine ⟨?_, rfl, hm.to ?_⟩ <;> first | rfl | (simp [m_polok, m_police, c1, hkl, c2, c3, kw_b]; done) | (simp [m_polok, m_police, c1, hkl, c2, c3, kw_b, tF_uF, tF_uL, tF_uA, tF_uB, tL_uF, tL_uL, tL_uA, tL_uB, tA_uF, tA_uL, tA_uA, tA_uB, tB_uF, tB_uL, tB_uA, tB_uB]; done) | contradiction
set_option maxHeartbeats 1000000 in
set_option maxRecDepth 100000 in
/-- police, of no class -/
theorem c_X5_police_o (l : Launch) (G : kw_G) (nu : Nat → Option Nat) (x z : kw_St) (mo : Nat) (ma : Nat → Nat) (t : mo_T) (ki : Int32) (r : Int32) (b : Int32) (mk : Int32) (nl : Nat) (hm : mw nu z mo ma t x) (hki : ∀ k, k < 1000 → ki ≠ nI k) (hnl : tF t 3 = nI nl) (hn8 : nl ≤ 8) : kw_M l G yX5_police wsX5_police { frames := 1, cells := 0, slots := 0, locals := 23 } 0 0 [.ref mo, .int (ki), .int (r), .int (b), .int (mk)] nu x (fun v nu' y => v = some (.int (0)) ∧ nu' = nu ∧ mw nu z mo ma (t) y) := by
  refine kw_M.ofW (cc := cX5_police) (maxL := 5) (ret := (some .boolean)) (by decide) rfl (Nat.le_of_ble_eq_true rfl) ?_
  intro p e s m args below meth c A ls S hr hlk hnm hK hZ hA hW hS hl
  have hl : lv_has ls 5 [(0, .ref mo), (1, .int (ki)), (2, .int (r)), (3, .int (b)), (4, .int (mk))] := hl
  have iX5 : ∀ w ∈ wsX50, w ∈ wsX5_police := by decide +kernel
  refine lv_iload_n S.1 S.2.1 dX5_police_0 rfl (lv_at hl 1 rfl) ?_
  refine lv_iconst (v := 0) S.1 S.2.1 dX5_police_1 (by decide) ?_
  refine lv_aload_n S.1 S.2.1 dX5_police_2 rfl (lv_at hl 0 rfl) ?_
  refine mx_gI S hK hm hW 3 iX5 rfl (by decide) (by decide +kernel) dX5_police_3 (v := nI nl) hnl ?_
  refine lv_iconst (v := 1) S.1 S.2.1 dX5_police_6 (by decide) ?_
  refine lv_isub S.1 S.2.1 dX5_police_7 ?_
  refine kx_cS (As := [.int (ki), .int (0), .int ((nI nl) - (1))]) (rest := []) (st1 := [.int (kw_b (kw_wi ki 0 ((nI nl) - (1)) = true))]) S hK hZ hA hW hS (c_X5_in l G nu x ki 0 ((nI nl) - (1)) ) (va_cwS 3 S.2.2.2.2 gX5_police_X5_in rfl rfl rfl (by decide +kernel) ⟨Nat.le_of_ble_eq_true rfl, Nat.le_of_ble_eq_true rfl⟩) rfl hl.1 rfl (Nat.le_of_ble_eq_true rfl) dX5_police_8 ⟨Nat.le_of_ble_eq_true rfl, Nat.le_of_ble_eq_true rfl⟩ rfl (fun H locs hW hS => ?_)
  refine kx_ifz_eq (tgt := 36) S dX5_police_11 (by decide) (fun c1 => ?_) (fun c1 => ?_)
  · skip
    refine lv_iconst (v := 0) S.1 S.2.1 dX5_police_36 (by decide) ?_
    refine kw_zret S hr hlk hW hS (by decide) (by decide) dX5_police_37 kw_n0 ?_
    refine ⟨?_, rfl, hm.to ?_⟩ <;> first | rfl | (simp [c1, kw_b]; done) | (simp [c1, kw_b, tF_uF, tF_uL, tF_uA, tF_uB, tL_uF, tL_uL, tL_uA, tL_uB, tA_uF, tA_uL, tA_uA, tA_uB, tB_uF, tB_uL, tB_uA, tB_uB]; done) | contradiction
  · skip
    exact absurd c1 (by rw [kw_wi_out hki (by omega)]; decide)
