/-! the reference: arrive -/
def m_arok (t : mo_T) (nl np k : Nat) (sz : Int32) : Bool := decide (k < nl) && (kw_wi sz 64 1500 && !(decide (np = 1000)))
def m_arR (t : mo_T) (k : Nat) (sz : Int32) : Bool := decide (¬ tA t 28 k = 0) && (decide (tB t 32 (12 + k) < 1000 * sz.toInt64) && decide (tA t 29 k = 0))
def m_arT (t : mo_T) (k : Nat) (sz : Int32) : mo_T := if tA t 28 k = 0 then t else if tB t 32 (12 + k) < 1000 * sz.toInt64 then t else uB t 32 (12 + k) (tB t 32 (12 + k) - 1000 * sz.toInt64)
def m_arM (t : mo_T) (k : Nat) (sz : Int32) : Int32 := if tA t 28 k = 0 then 0 else if tB t 32 (12 + k) < 1000 * sz.toInt64 then 1 else 0
theorem m_arM_01 {t : mo_T} {k : Nat} {sz : Int32} : m_arM t k sz = 0 ∨ m_arM t k sz = 1 := by by_cases h1 : tA t 28 k = 0 <;> by_cases h2 : tB t 32 (12 + k) < 1000 * sz.toInt64 <;> simp [m_arM, h1, h2]
theorem m_arT_A (t : mo_T) (k : Nat) (sz : Int32) (j r : Nat) : tA (m_arT t k sz) j r = tA t j r := by by_cases h1 : tA t 28 k = 0 <;> by_cases h2 : tB t 32 (12 + k) < 1000 * sz.toInt64 <;> simp [m_arT, h1, h2, tA_uB]
theorem m_arT_F (t : mo_T) (k : Nat) (sz : Int32) (j : Nat) : tF (m_arT t k sz) j = tF t j := by by_cases h1 : tA t 28 k = 0 <;> by_cases h2 : tB t 32 (12 + k) < 1000 * sz.toInt64 <;> simp [m_arT, h1, h2, tF_uB]
theorem m_arT_L (t : mo_T) (k : Nat) (sz : Int32) : tL (m_arT t k sz) = tL t := by by_cases h1 : tA t 28 k = 0 <;> by_cases h2 : tB t 32 (12 + k) < 1000 * sz.toInt64 <;> simp [m_arT, h1, h2, tL_uB]
theorem m_arT_B (t : mo_T) (k : Nat) (sz : Int32) {j : Nat} (h : j ≠ 32) (r : Nat) : tB (m_arT t k sz) j r = tB t j r := by by_cases h1 : tA t 28 k = 0 <;> by_cases h2 : tB t 32 (12 + k) < 1000 * sz.toInt64 <;> simp [m_arT, h1, h2, tB_uB, h]
def m_none (t : mo_T) (g : Nat) : Nat → Bool
  | 0 => true
  | n + 1 => m_none t g n && (decide (¬ tA t 13 n = nI g) || decide (tA t 19 n = 0))
def m_arU (t : mo_T) (k g : Nat) (sz : Int32) : mo_T := uB (m_arT t k sz) 27 k (if tB t 11 g ≤ tB t 27 k then tB t 27 k else tB t 11 g)
def m_arS (t : mo_T) (nl k g : Nat) (sz : Int32) : mo_T := if tA t 19 k = 0 then (if m_none t g nl = true then (if tL t ≤ tB t 10 g then m_arU t k g sz else uB (m_arU t k g sz) 10 g (tL t)) else m_arU t k g sz) else m_arT t k sz
theorem m_arU_A (t : mo_T) (k g : Nat) (sz : Int32) (j r : Nat) : tA (m_arU t k g sz) j r = tA t j r := by simp [m_arU, tA_uB, m_arT_A]
theorem m_arU_F (t : mo_T) (k g : Nat) (sz : Int32) (j : Nat) : tF (m_arU t k g sz) j = tF t j := by simp [m_arU, tF_uB, m_arT_F]
theorem m_arU_L (t : mo_T) (k g : Nat) (sz : Int32) : tL (m_arU t k g sz) = tL t := by simp [m_arU, tL_uB, m_arT_L]
theorem m_arU_B (t : mo_T) (k g : Nat) (sz : Int32) {j : Nat} (h : j ≠ 32 ∧ j ≠ 27) (r : Nat) : tB (m_arU t k g sz) j r = tB t j r := by simp [m_arU, tB_uB, m_arT_B, h]
theorem m_arS_A (t : mo_T) (nl k g : Nat) (sz : Int32) (j r : Nat) : tA (m_arS t nl k g sz) j r = tA t j r := by by_cases h1 : tA t 19 k = 0 <;> by_cases h2 : m_none t g nl = true <;> by_cases h3 : tL t ≤ tB t 10 g <;> simp [m_arS, h1, h2, h3, tA_uB, m_arU_A, m_arT_A]
theorem m_arS_F (t : mo_T) (nl k g : Nat) (sz : Int32) (j : Nat) : tF (m_arS t nl k g sz) j = tF t j := by by_cases h1 : tA t 19 k = 0 <;> by_cases h2 : m_none t g nl = true <;> by_cases h3 : tL t ≤ tB t 10 g <;> simp [m_arS, h1, h2, h3, tF_uB, m_arU_F, m_arT_F]
def m_arP (T t : mo_T) (k np : Nat) (sz : Int32) : mo_T := uA (uA (uA (uA (uA (uA (uA (uA T 33 np (nI k)) 34 np sz) 35 np (tF t 1)) 36 np (-1)) 37 np 0) 38 np (-1)) 39 np (-1)) 41 np (m_arM t k sz)
def m_arF (T t : mo_T) (k np pl : Nat) (sz : Int32) : mo_T := uF (uA (uA (uA (if tA t 19 k = 0 then uA (m_arP T t k np sz) 17 k (nI np) else uA (m_arP T t k np sz) 39 pl (nI np)) 18 k (nI np)) 19 k (tA t 19 k + 1)) 20 k (tA t 20 k + sz)) 4 (nI (np + 1))
def m_arr (t : mo_T) (nl np k g pl : Nat) (sz : Int32) : Int32 × mo_T := if m_arok t nl np k sz = true then (if m_arR t k sz = true then (-2, uA t 23 k (tA t 23 k + 1)) else if tA t 20 k + sz ≤ tA t 16 k then (nI np, m_arF (m_arS t nl k g sz) t k np pl sz) else (-3, uA (m_arT t k sz) 24 k (tA t 24 k + 1))) else (-1, t)
set_option maxHeartbeats 1000000 in
set_option maxRecDepth 100000 in
/-- arrive -/
theorem c_X5_arrive_s (l : Launch) (G : kw_G) (nu : Nat → Option Nat) (x z : kw_St) (mo : Nat) (ma : Nat → Nat) (t : mo_T) (k : Nat) (sz : Int32) (nl : Nat) (np : Nat) (g : Nat) (pl : Nat) (hm : mw nu z mo ma t x) (hk : k < 1000) (hnl : tF t 3 = nI nl) (hn8 : nl ≤ 8) (hnp : tF t 4 = nI np) (hp9 : np ≤ 1000) (hg : k < nl → tA t 13 k = nI g) (hg4 : g < 4) (hla : ¬ tA t 19 k = 0 → tA t 18 k = nI pl) (hpl : pl < 1000) : kw_M l G yX5_arrive wsX5_arrive { frames := 1, cells := 0, slots := 0, locals := 22 } 0 0 [.ref mo, .int (nI k), .int (sz)] nu x (fun v nu' y => v = some (.int ((m_arr t nl np k g pl sz).1)) ∧ nu' = nu ∧ mw nu z mo ma ((m_arr t nl np k g pl sz).2) y) := by
  refine kw_M.ofW (cc := cX5_arrive) (maxL := 7) (ret := (some .int)) (by decide) rfl (Nat.le_of_ble_eq_true rfl) ?_
  intro p e s m args below meth c A ls S hr hlk hnm hK hZ hA hW hS hl
  have hl : lv_has ls 7 [(0, .ref mo), (1, .int (nI k)), (2, .int (sz))] := hl
  have iX5 : ∀ w ∈ wsX50, w ∈ wsX5_arrive := by decide +kernel
  obtain ⟨QQ, hQQ⟩ : ∃ q, q = MQ below (kw_Qc G A (fun v nu' y => v = some (.int ((m_arr t nl np k g pl sz).1)) ∧ nu' = nu ∧ mw nu z mo ma ((m_arr t nl np k g pl sz).2) y)) args s 0 0 A := ⟨_, rfl⟩
  rw [← hQQ]
  refine lv_iload_n S.1 S.2.1 dX5_arrive_0 rfl (lv_at hl 1 rfl) ?_
  refine lv_iconst (v := 0) S.1 S.2.1 dX5_arrive_1 (by decide) ?_
  refine lv_aload_n S.1 S.2.1 dX5_arrive_2 rfl (lv_at hl 0 rfl) ?_
  refine mx_gI S hK hm hW 3 iX5 rfl (by decide) (by decide +kernel) dX5_arrive_3 (v := nI nl) hnl ?_
  refine lv_iconst (v := 1) S.1 S.2.1 dX5_arrive_6 (by decide) ?_
  refine lv_isub S.1 S.2.1 dX5_arrive_7 ?_
  refine kx_cS (As := [.int (nI k), .int (0), .int ((nI nl) - (1))]) (rest := []) (st1 := [.int (kw_b (kw_wi (nI k) 0 ((nI nl) - (1)) = true))]) S hK hZ hA hW hS (c_X5_in l G nu x (nI k) 0 ((nI nl) - (1)) ) (va_cwS 3 S.2.2.2.2 gX5_arrive_X5_in rfl rfl rfl (by decide +kernel) ⟨Nat.le_of_ble_eq_true rfl, Nat.le_of_ble_eq_true rfl⟩) rfl hl.1 rfl (Nat.le_of_ble_eq_true rfl) dX5_arrive_8 ⟨Nat.le_of_ble_eq_true rfl, Nat.le_of_ble_eq_true rfl⟩ rfl (fun H locs hW hS => ?_)
  refine kx_ifz_eq (tgt := 36) S dX5_arrive_11 (by decide) (fun c1 => ?_) (fun c1 => ?_)
  · skip
    have hkl : ¬ k < nl := kw_wi_ge hk (by omega) (by assumption)
    refine lv_iconst (v := (-1)) S.1 S.2.1 dX5_arrive_36 (by decide) ?_
    rw [hQQ]
    refine kw_iret S hr hlk hW hS (by decide) (by decide) dX5_arrive_37 ?_
    refine ⟨?_, rfl, hm.to ?_⟩ <;> first | rfl | (simp [m_arr, m_arok, m_arF, m_arP, m_arR, c1, hkl, kw_b]; done) | (simp [m_arr, m_arok, m_arF, m_arP, m_arR, c1, hkl, kw_b, tF_uF, tF_uL, tF_uA, tF_uB, tL_uF, tL_uL, tL_uA, tL_uB, tA_uF, tA_uL, tA_uA, tA_uB, tB_uF, tB_uL, tB_uA, tB_uB, m_arT_A, m_arT_F, m_arT_L, m_arT_B, m_arU_A, m_arU_F, m_arU_L, m_arU_B, m_arS_A, m_arS_F]; done) | contradiction
  · skip
    have hkl : k < nl := kw_wi_lt hk (by omega) (by assumption)
    refine lv_iload_n S.1 S.2.1 dX5_arrive_14 rfl (lv_at hl 2 rfl) ?_
    refine lv_bipush (v := 64) S.1 S.2.1 dX5_arrive_15 (by decide) ?_
    refine lv_sipush (v := 1500) S.1 S.2.1 dX5_arrive_17 (by decide) ?_
    refine kx_cS (As := [.int (sz), .int (64), .int (1500)]) (rest := []) (st1 := [.int (kw_b (kw_wi sz 64 1500 = true))]) S hK hZ hA hW hS (c_X5_in l G nu x sz 64 1500 ) (va_cwS 3 S.2.2.2.2 gX5_arrive_X5_in rfl rfl rfl (by decide +kernel) ⟨Nat.le_of_ble_eq_true rfl, Nat.le_of_ble_eq_true rfl⟩) rfl hl.1 rfl (Nat.le_of_ble_eq_true rfl) dX5_arrive_20 ⟨Nat.le_of_ble_eq_true rfl, Nat.le_of_ble_eq_true rfl⟩ rfl (fun H locs hW hS => ?_)
    refine kx_ifz_eq (tgt := 36) S dX5_arrive_23 (by decide) (fun c2 => ?_) (fun c2 => ?_)
    · skip
      refine lv_iconst (v := (-1)) S.1 S.2.1 dX5_arrive_36 (by decide) ?_
      rw [hQQ]
      refine kw_iret S hr hlk hW hS (by decide) (by decide) dX5_arrive_37 ?_
      refine ⟨?_, rfl, hm.to ?_⟩ <;> first | rfl | (simp [m_arr, m_arok, m_arF, m_arP, m_arR, c1, hkl, c2, kw_b]; done) | (simp [m_arr, m_arok, m_arF, m_arP, m_arR, c1, hkl, c2, kw_b, tF_uF, tF_uL, tF_uA, tF_uB, tL_uF, tL_uL, tL_uA, tL_uB, tA_uF, tA_uL, tA_uA, tA_uB, tB_uF, tB_uL, tB_uA, tB_uB, m_arT_A, m_arT_F, m_arT_L, m_arT_B, m_arU_A, m_arU_F, m_arU_L, m_arU_B, m_arS_A, m_arS_F]; done) | contradiction
    · skip
      refine lv_aload_n S.1 S.2.1 dX5_arrive_26 rfl (lv_at hl 0 rfl) ?_
      refine mx_gI S hK hm hW 4 iX5 rfl (by decide) (by decide +kernel) dX5_arrive_27 (v := nI np) hnp ?_
      refine lv_sipush (v := 1000) S.1 S.2.1 dX5_arrive_30 (by decide) ?_
      refine lv_icmp_ne (tgt := 38) S.1 S.2.1 dX5_arrive_33 (by decide) (fun c3 => ?_) (fun c3 => ?_)
      · skip
        have hnp1 : ¬ np = 1000 := fun q => absurd (show nI np = 1000 by rw [q]; rfl) (by assumption)
        have cut116 : (m_arR t k sz = false) → ∀ (x : kw_St) (H : Heap) (locs : List Loc) (ls : Array Slot), mw nu z mo ma (m_arT t k sz) x → kw_W G A nu x H → va_S A s.heap H locs → lv_has ls 7 [(0, .ref mo), (1, .int (nI k)), (2, .int (sz)), (3, .int (m_arM t k sz))] → W p l e { frames := 1, cells := 0, slots := 0, locals := 22 } s m args below meth c H locs 0 0 QQ (F0 m 116 ls []) := by
          intro  hrf x H locs ls hm hW hS hl
          refine lv_aload_n S.1 S.2.1 dX5_arrive_116 rfl (lv_at hl 0 rfl) ?_
          refine mx_gA S hK hm hW 20 iX5 rfl (by decide) (by decide) (by decide +kernel) dX5_arrive_117 ?_
          refine lv_iload_n S.1 S.2.1 dX5_arrive_120 rfl (lv_at hl 1 rfl) ?_
          refine mx_ild S hK hm hW 20 (by decide) (k := k) (kw_ixof (k := k) (n := 8) rfl (by omega) (by decide)) dX5_arrive_121 (v := tA t 20 k) (by simp [tF_uF, tF_uL, tF_uA, tF_uB, tL_uF, tL_uL, tL_uA, tL_uB, tA_uF, tA_uL, tA_uA, tA_uB, tB_uF, tB_uL, tB_uA, tB_uB, m_arT_A, m_arT_F, m_arT_L, m_arT_B, m_arU_A, m_arU_F, m_arU_L, m_arU_B, m_arS_A, m_arS_F, m_arT_A, m_arT_F, m_arT_L, m_arT_B, m_arU_A, m_arU_F, m_arU_L, m_arU_B, m_arS_A, m_arS_F]) ?_
          refine lv_iload_n S.1 S.2.1 dX5_arrive_122 rfl (lv_at hl 2 rfl) ?_
          refine lv_iadd S.1 S.2.1 dX5_arrive_123 ?_
          refine lv_aload_n S.1 S.2.1 dX5_arrive_124 rfl (lv_at hl 0 rfl) ?_
          refine mx_gA S hK hm hW 16 iX5 rfl (by decide) (by decide) (by decide +kernel) dX5_arrive_125 ?_
          refine lv_iload_n S.1 S.2.1 dX5_arrive_128 rfl (lv_at hl 1 rfl) ?_
          refine mx_ild S hK hm hW 16 (by decide) (k := k) (kw_ixof (k := k) (n := 8) rfl (by omega) (by decide)) dX5_arrive_129 (v := tA t 16 k) (by simp [tF_uF, tF_uL, tF_uA, tF_uB, tL_uF, tL_uL, tL_uA, tL_uB, tA_uF, tA_uL, tA_uA, tA_uB, tB_uF, tB_uL, tB_uA, tB_uB, m_arT_A, m_arT_F, m_arT_L, m_arT_B, m_arU_A, m_arU_F, m_arU_L, m_arU_B, m_arS_A, m_arS_F, m_arT_A, m_arT_F, m_arT_L, m_arT_B, m_arU_A, m_arU_F, m_arU_L, m_arU_B, m_arS_A, m_arS_F]) ?_
          refine lv_icmp_le (tgt := 146) S.1 S.2.1 dX5_arrive_130 (by decide) (fun c4 => ?_) (fun c4 => ?_)
          · skip
            refine lv_aload_n S.1 S.2.1 dX5_arrive_146 rfl (lv_at hl 0 rfl) ?_
            refine mx_gA S hK hm hW 13 iX5 rfl (by decide) (by decide) (by decide +kernel) dX5_arrive_147 ?_
            refine lv_iload_n S.1 S.2.1 dX5_arrive_150 rfl (lv_at hl 1 rfl) ?_
            refine mx_ild S hK hm hW 13 (by decide) (k := k) (kw_ixof (k := k) (n := 8) rfl (by omega) (by decide)) dX5_arrive_151 (v := nI g) (Eq.trans (b := tA t 13 k) (by simp [tF_uF, tF_uL, tF_uA, tF_uB, tL_uF, tL_uL, tL_uA, tL_uB, tA_uF, tA_uL, tA_uA, tA_uB, tB_uF, tB_uL, tB_uA, tB_uB, m_arT_A, m_arT_F, m_arT_L, m_arT_B, m_arU_A, m_arU_F, m_arU_L, m_arU_B, m_arS_A, m_arS_F, m_arT_A, m_arT_F, m_arT_L, m_arT_B, m_arU_A, m_arU_F, m_arU_L, m_arU_B, m_arS_A, m_arS_F]) (hg hkl)) ?_
            refine lv_istore (lv' := [(4, .int (nI g)), (0, .ref mo), (1, .int (nI k)), (2, .int (sz)), (3, .int (m_arM t k sz))]) S.1 S.2.1 dX5_arrive_152 hl (by decide) rfl (fun ls hl => ?_)
            have cut288 : ∀ (x : kw_St) (H : Heap) (locs : List Loc) (ls : Array Slot), mw nu z mo ma (m_arS t nl k g sz) x → kw_W G A nu x H → va_S A s.heap H locs → lv_has ls 7 [(0, .ref mo), (1, .int (nI k)), (2, .int (sz)), (3, .int (m_arM t k sz)), (4, .int (nI g))] → W p l e { frames := 1, cells := 0, slots := 0, locals := 22 } s m args below meth c H locs 0 0 QQ (F0 m 288 ls []) := by
              intro   x H locs ls hm hW hS hl
              refine lv_aload_n S.1 S.2.1 dX5_arrive_288 rfl (lv_at hl 0 rfl) ?_
              refine mx_gI S hK hm hW 4 iX5 rfl (by decide) (by decide +kernel) dX5_arrive_289 (v := nI np) (Eq.trans (b := tF t 4) (by simp [tF_uF, tF_uL, tF_uA, tF_uB, tL_uF, tL_uL, tL_uA, tL_uB, tA_uF, tA_uL, tA_uA, tA_uB, tB_uF, tB_uL, tB_uA, tB_uB, m_arT_A, m_arT_F, m_arT_L, m_arT_B, m_arU_A, m_arU_F, m_arU_L, m_arU_B, m_arS_A, m_arS_F, m_arT_A, m_arT_F, m_arT_L, m_arT_B, m_arU_A, m_arU_F, m_arU_L, m_arU_B, m_arS_A, m_arS_F, m_arT_A, m_arT_F, m_arT_L, m_arT_B, m_arU_A, m_arU_F, m_arU_L, m_arU_B, m_arS_A, m_arS_F]) hnp) ?_
              refine lv_istore (lv' := [(5, .int (nI np)), (0, .ref mo), (1, .int (nI k)), (2, .int (sz)), (3, .int (m_arM t k sz)), (4, .int (nI g))]) S.1 S.2.1 dX5_arrive_292 hl (by decide) rfl (fun ls hl => ?_)
              refine lv_aload_n S.1 S.2.1 dX5_arrive_294 rfl (lv_at hl 1 rfl) ?_
              refine mx_gA S hK hm hW 33 iX5 rfl (by decide) (by decide) (by decide +kernel) dX5_arrive_295 ?_
              refine lv_iload S.1 S.2.1 dX5_arrive_298 (lv_at hl 0 rfl) ?_
              refine lv_iload_n S.1 S.2.1 dX5_arrive_300 rfl (lv_at hl 2 rfl) ?_
              refine mx_ist S hK hm hW hS 33 (by decide) (k := np) (kw_ixof (k := np) (n := 1000) rfl (by omega) (by decide)) dX5_arrive_301 (fun x H locs hm hW hS => ?_)
              refine lv_aload_n S.1 S.2.1 dX5_arrive_302 rfl (lv_at hl 1 rfl) ?_
              refine mx_gA S hK hm hW 34 iX5 rfl (by decide) (by decide) (by decide +kernel) dX5_arrive_303 ?_
              refine lv_iload S.1 S.2.1 dX5_arrive_306 (lv_at hl 0 rfl) ?_
              refine lv_iload_n S.1 S.2.1 dX5_arrive_308 rfl (lv_at hl 3 rfl) ?_
              refine mx_ist S hK hm hW hS 34 (by decide) (k := np) (kw_ixof (k := np) (n := 1000) rfl (by omega) (by decide)) dX5_arrive_309 (fun x H locs hm hW hS => ?_)
              refine lv_aload_n S.1 S.2.1 dX5_arrive_310 rfl (lv_at hl 1 rfl) ?_
              refine mx_gA S hK hm hW 35 iX5 rfl (by decide) (by decide) (by decide +kernel) dX5_arrive_311 ?_
              refine lv_iload S.1 S.2.1 dX5_arrive_314 (lv_at hl 0 rfl) ?_
              refine lv_aload_n S.1 S.2.1 dX5_arrive_316 rfl (lv_at hl 1 rfl) ?_
              refine mx_gI S hK hm hW 1 iX5 rfl (by decide) (by decide +kernel) dX5_arrive_317 (v := tF t 1) (by simp [tF_uF, tF_uL, tF_uA, tF_uB, tL_uF, tL_uL, tL_uA, tL_uB, tA_uF, tA_uL, tA_uA, tA_uB, tB_uF, tB_uL, tB_uA, tB_uB, m_arT_A, m_arT_F, m_arT_L, m_arT_B, m_arU_A, m_arU_F, m_arU_L, m_arU_B, m_arS_A, m_arS_F, m_arT_A, m_arT_F, m_arT_L, m_arT_B, m_arU_A, m_arU_F, m_arU_L, m_arU_B, m_arS_A, m_arS_F, m_arT_A, m_arT_F, m_arT_L, m_arT_B, m_arU_A, m_arU_F, m_arU_L, m_arU_B, m_arS_A, m_arS_F]) ?_
              refine mx_ist S hK hm hW hS 35 (by decide) (k := np) (kw_ixof (k := np) (n := 1000) rfl (by omega) (by decide)) dX5_arrive_320 (fun x H locs hm hW hS => ?_)
              refine lv_aload_n S.1 S.2.1 dX5_arrive_321 rfl (lv_at hl 1 rfl) ?_
              refine mx_gA S hK hm hW 36 iX5 rfl (by decide) (by decide) (by decide +kernel) dX5_arrive_322 ?_
              refine lv_iload S.1 S.2.1 dX5_arrive_325 (lv_at hl 0 rfl) ?_
              refine lv_iconst (v := (-1)) S.1 S.2.1 dX5_arrive_327 (by decide) ?_
              refine mx_ist S hK hm hW hS 36 (by decide) (k := np) (kw_ixof (k := np) (n := 1000) rfl (by omega) (by decide)) dX5_arrive_328 (fun x H locs hm hW hS => ?_)
              refine lv_aload_n S.1 S.2.1 dX5_arrive_329 rfl (lv_at hl 1 rfl) ?_
              refine mx_gA S hK hm hW 37 iX5 rfl (by decide) (by decide) (by decide +kernel) dX5_arrive_330 ?_
              refine lv_iload S.1 S.2.1 dX5_arrive_333 (lv_at hl 0 rfl) ?_
              refine lv_iconst (v := 0) S.1 S.2.1 dX5_arrive_335 (by decide) ?_
              refine mx_ist S hK hm hW hS 37 (by decide) (k := np) (kw_ixof (k := np) (n := 1000) rfl (by omega) (by decide)) dX5_arrive_336 (fun x H locs hm hW hS => ?_)
              refine lv_aload_n S.1 S.2.1 dX5_arrive_337 rfl (lv_at hl 1 rfl) ?_
              refine mx_gA S hK hm hW 38 iX5 rfl (by decide) (by decide) (by decide +kernel) dX5_arrive_338 ?_
              refine lv_iload S.1 S.2.1 dX5_arrive_341 (lv_at hl 0 rfl) ?_
              refine lv_iconst (v := (-1)) S.1 S.2.1 dX5_arrive_343 (by decide) ?_
              refine mx_ist S hK hm hW hS 38 (by decide) (k := np) (kw_ixof (k := np) (n := 1000) rfl (by omega) (by decide)) dX5_arrive_344 (fun x H locs hm hW hS => ?_)
              refine lv_aload_n S.1 S.2.1 dX5_arrive_345 rfl (lv_at hl 1 rfl) ?_
              refine mx_gA S hK hm hW 39 iX5 rfl (by decide) (by decide) (by decide +kernel) dX5_arrive_346 ?_
              refine lv_iload S.1 S.2.1 dX5_arrive_349 (lv_at hl 0 rfl) ?_
              refine lv_iconst (v := (-1)) S.1 S.2.1 dX5_arrive_351 (by decide) ?_
              refine mx_ist S hK hm hW hS 39 (by decide) (k := np) (kw_ixof (k := np) (n := 1000) rfl (by omega) (by decide)) dX5_arrive_352 (fun x H locs hm hW hS => ?_)
              refine lv_aload_n S.1 S.2.1 dX5_arrive_353 rfl (lv_at hl 1 rfl) ?_
              refine mx_gA S hK hm hW 41 iX5 rfl (by decide) (by decide) (by decide +kernel) dX5_arrive_354 ?_
              refine lv_iload S.1 S.2.1 dX5_arrive_357 (lv_at hl 0 rfl) ?_
              refine lv_iload_n S.1 S.2.1 dX5_arrive_359 rfl (lv_at hl 4 rfl) ?_
              refine mx_zst S hK hm hW hS 41 (by decide) (k := np) (kw_ixof (k := np) (n := 1000) rfl (by omega) (by decide)) dX5_arrive_360 m_arM_01 (fun x H locs hm hW hS => ?_)
              refine lv_aload_n S.1 S.2.1 dX5_arrive_361 rfl (lv_at hl 1 rfl) ?_
              refine mx_gA S hK hm hW 19 iX5 rfl (by decide) (by decide) (by decide +kernel) dX5_arrive_362 ?_
              refine lv_iload_n S.1 S.2.1 dX5_arrive_365 rfl (lv_at hl 2 rfl) ?_
              refine mx_ild S hK hm hW 19 (by decide) (k := k) (kw_ixof (k := k) (n := 8) rfl (by omega) (by decide)) dX5_arrive_366 (v := tA t 19 k) (by simp [tF_uF, tF_uL, tF_uA, tF_uB, tL_uF, tL_uL, tL_uA, tL_uB, tA_uF, tA_uL, tA_uA, tA_uB, tB_uF, tB_uL, tB_uA, tB_uB, m_arT_A, m_arT_F, m_arT_L, m_arT_B, m_arU_A, m_arU_F, m_arU_L, m_arU_B, m_arS_A, m_arS_F, m_arT_A, m_arT_F, m_arT_L, m_arT_B, m_arU_A, m_arU_F, m_arU_L, m_arU_B, m_arS_A, m_arS_F, m_arT_A, m_arT_F, m_arT_L, m_arT_B, m_arU_A, m_arU_F, m_arU_L, m_arU_B, m_arS_A, m_arS_F]) ?_
              refine lv_if_ne (tgt := 381) S.1 S.2.1 dX5_arrive_367 (by decide) (fun c5 => ?_) (fun c5 => ?_)
              · skip
                refine lv_aload_n S.1 S.2.1 dX5_arrive_381 rfl (lv_at hl 1 rfl) ?_
                refine mx_gA S hK hm hW 39 iX5 rfl (by decide) (by decide) (by decide +kernel) dX5_arrive_382 ?_
                refine lv_aload_n S.1 S.2.1 dX5_arrive_385 rfl (lv_at hl 1 rfl) ?_
                refine mx_gA S hK hm hW 18 iX5 rfl (by decide) (by decide) (by decide +kernel) dX5_arrive_386 ?_
                refine lv_iload_n S.1 S.2.1 dX5_arrive_389 rfl (lv_at hl 2 rfl) ?_
                refine mx_ild S hK hm hW 18 (by decide) (k := k) (kw_ixof (k := k) (n := 8) rfl (by omega) (by decide)) dX5_arrive_390 (v := nI pl) (Eq.trans (b := tA t 18 k) (by simp [tF_uF, tF_uL, tF_uA, tF_uB, tL_uF, tL_uL, tL_uA, tL_uB, tA_uF, tA_uL, tA_uA, tA_uB, tB_uF, tB_uL, tB_uA, tB_uB, m_arT_A, m_arT_F, m_arT_L, m_arT_B, m_arU_A, m_arU_F, m_arU_L, m_arU_B, m_arS_A, m_arS_F, m_arT_A, m_arT_F, m_arT_L, m_arT_B, m_arU_A, m_arU_F, m_arU_L, m_arU_B, m_arS_A, m_arS_F, m_arT_A, m_arT_F, m_arT_L, m_arT_B, m_arU_A, m_arU_F, m_arU_L, m_arU_B, m_arS_A, m_arS_F]) (hla (by assumption))) ?_
                refine lv_iload S.1 S.2.1 dX5_arrive_391 (lv_at hl 0 rfl) ?_
                refine mx_ist S hK hm hW hS 39 (by decide) (k := pl) (kw_ixof (k := pl) (n := 1000) rfl (by omega) (by decide)) dX5_arrive_393 (fun x H locs hm hW hS => ?_)
                refine lv_aload_n S.1 S.2.1 dX5_arrive_394 rfl (lv_at hl 1 rfl) ?_
                refine mx_gA S hK hm hW 18 iX5 rfl (by decide) (by decide) (by decide +kernel) dX5_arrive_395 ?_
                refine lv_iload_n S.1 S.2.1 dX5_arrive_398 rfl (lv_at hl 2 rfl) ?_
                refine lv_iload S.1 S.2.1 dX5_arrive_399 (lv_at hl 0 rfl) ?_
                refine mx_ist S hK hm hW hS 18 (by decide) (k := k) (kw_ixof (k := k) (n := 8) rfl (by omega) (by decide)) dX5_arrive_401 (fun x H locs hm hW hS => ?_)
                refine lv_aload_n S.1 S.2.1 dX5_arrive_402 rfl (lv_at hl 1 rfl) ?_
                refine mx_gA S hK hm hW 19 iX5 rfl (by decide) (by decide) (by decide +kernel) dX5_arrive_403 ?_
                refine lv_iload_n S.1 S.2.1 dX5_arrive_406 rfl (lv_at hl 2 rfl) ?_
                refine lv_dup2_11 S.1 S.2.1 dX5_arrive_407 rfl rfl ?_
                refine mx_ild S hK hm hW 19 (by decide) (k := k) (kw_ixof (k := k) (n := 8) rfl (by omega) (by decide)) dX5_arrive_408 (v := tA t 19 k) (by simp [tF_uF, tF_uL, tF_uA, tF_uB, tL_uF, tL_uL, tL_uA, tL_uB, tA_uF, tA_uL, tA_uA, tA_uB, tB_uF, tB_uL, tB_uA, tB_uB, m_arT_A, m_arT_F, m_arT_L, m_arT_B, m_arU_A, m_arU_F, m_arU_L, m_arU_B, m_arS_A, m_arS_F, m_arT_A, m_arT_F, m_arT_L, m_arT_B, m_arU_A, m_arU_F, m_arU_L, m_arU_B, m_arS_A, m_arS_F, m_arT_A, m_arT_F, m_arT_L, m_arT_B, m_arU_A, m_arU_F, m_arU_L, m_arU_B, m_arS_A, m_arS_F]) ?_
                refine lv_iconst (v := 1) S.1 S.2.1 dX5_arrive_409 (by decide) ?_
                refine lv_iadd S.1 S.2.1 dX5_arrive_410 ?_
                refine mx_ist S hK hm hW hS 19 (by decide) (k := k) (kw_ixof (k := k) (n := 8) rfl (by omega) (by decide)) dX5_arrive_411 (fun x H locs hm hW hS => ?_)
                refine lv_aload_n S.1 S.2.1 dX5_arrive_412 rfl (lv_at hl 1 rfl) ?_
                refine mx_gA S hK hm hW 20 iX5 rfl (by decide) (by decide) (by decide +kernel) dX5_arrive_413 ?_
                refine lv_iload_n S.1 S.2.1 dX5_arrive_416 rfl (lv_at hl 2 rfl) ?_
                refine lv_dup2_11 S.1 S.2.1 dX5_arrive_417 rfl rfl ?_
                refine mx_ild S hK hm hW 20 (by decide) (k := k) (kw_ixof (k := k) (n := 8) rfl (by omega) (by decide)) dX5_arrive_418 (v := tA t 20 k) (by simp [tF_uF, tF_uL, tF_uA, tF_uB, tL_uF, tL_uL, tL_uA, tL_uB, tA_uF, tA_uL, tA_uA, tA_uB, tB_uF, tB_uL, tB_uA, tB_uB, m_arT_A, m_arT_F, m_arT_L, m_arT_B, m_arU_A, m_arU_F, m_arU_L, m_arU_B, m_arS_A, m_arS_F, m_arT_A, m_arT_F, m_arT_L, m_arT_B, m_arU_A, m_arU_F, m_arU_L, m_arU_B, m_arS_A, m_arS_F, m_arT_A, m_arT_F, m_arT_L, m_arT_B, m_arU_A, m_arU_F, m_arU_L, m_arU_B, m_arS_A, m_arS_F]) ?_
                refine lv_iload_n S.1 S.2.1 dX5_arrive_419 rfl (lv_at hl 3 rfl) ?_
                refine lv_iadd S.1 S.2.1 dX5_arrive_420 ?_
                refine mx_ist S hK hm hW hS 20 (by decide) (k := k) (kw_ixof (k := k) (n := 8) rfl (by omega) (by decide)) dX5_arrive_421 (fun x H locs hm hW hS => ?_)
                refine lv_aload_n S.1 S.2.1 dX5_arrive_422 rfl (lv_at hl 1 rfl) ?_
                refine lv_dup S.1 S.2.1 dX5_arrive_423 rfl ?_
                refine mx_gI S hK hm hW 4 iX5 rfl (by decide) (by decide +kernel) dX5_arrive_424 (v := nI np) (Eq.trans (b := tF t 4) (by simp [tF_uF, tF_uL, tF_uA, tF_uB, tL_uF, tL_uL, tL_uA, tL_uB, tA_uF, tA_uL, tA_uA, tA_uB, tB_uF, tB_uL, tB_uA, tB_uB, m_arT_A, m_arT_F, m_arT_L, m_arT_B, m_arU_A, m_arU_F, m_arU_L, m_arU_B, m_arS_A, m_arS_F, m_arT_A, m_arT_F, m_arT_L, m_arT_B, m_arU_A, m_arU_F, m_arU_L, m_arU_B, m_arS_A, m_arS_F, m_arT_A, m_arT_F, m_arT_L, m_arT_B, m_arU_A, m_arU_F, m_arU_L, m_arU_B, m_arS_A, m_arS_F]) hnp) ?_
                refine lv_iconst (v := 1) S.1 S.2.1 dX5_arrive_427 (by decide) ?_
                refine lv_iadd S.1 S.2.1 dX5_arrive_428 ?_
                rw [show (nI np : Int32) + 1 = nI (np + 1) from nI_add (np) (1)]
                refine mx_pI S hK hm hW hS 4 iX5 rfl (by decide) (by decide +kernel) rfl rfl dX5_arrive_429 (fun x H locs hm hW hS => ?_)
                refine lv_iload S.1 S.2.1 dX5_arrive_432 (lv_at hl 0 rfl) ?_
                rw [hQQ]
                refine kw_iret S hr hlk hW hS (by decide) (by decide) dX5_arrive_434 ?_
                refine ⟨?_, rfl, hm.to ?_⟩ <;> first | rfl | (simp [m_arr, m_arok, m_arF, m_arP, c1, hkl, c2, c3, hnp1, hrf, c4, c5, kw_b]; done) | (simp [m_arr, m_arok, m_arF, m_arP, c1, hkl, c2, c3, hnp1, hrf, c4, c5, kw_b, tF_uF, tF_uL, tF_uA, tF_uB, tL_uF, tL_uL, tL_uA, tL_uB, tA_uF, tA_uL, tA_uA, tA_uB, tB_uF, tB_uL, tB_uA, tB_uB, m_arT_A, m_arT_F, m_arT_L, m_arT_B, m_arU_A, m_arU_F, m_arU_L, m_arU_B, m_arS_A, m_arS_F, m_arT_A, m_arT_F, m_arT_L, m_arT_B, m_arU_A, m_arU_F, m_arU_L, m_arU_B, m_arS_A, m_arS_F, m_arT_A, m_arT_F, m_arT_L, m_arT_B, m_arU_A, m_arU_F, m_arU_L, m_arU_B, m_arS_A, m_arS_F]; done) | contradiction
              · skip
                refine lv_aload_n S.1 S.2.1 dX5_arrive_370 rfl (lv_at hl 1 rfl) ?_
                refine mx_gA S hK hm hW 17 iX5 rfl (by decide) (by decide) (by decide +kernel) dX5_arrive_371 ?_
                refine lv_iload_n S.1 S.2.1 dX5_arrive_374 rfl (lv_at hl 2 rfl) ?_
                refine lv_iload S.1 S.2.1 dX5_arrive_375 (lv_at hl 0 rfl) ?_
                refine mx_ist S hK hm hW hS 17 (by decide) (k := k) (kw_ixof (k := k) (n := 8) rfl (by omega) (by decide)) dX5_arrive_377 (fun x H locs hm hW hS => ?_)
                refine lv_goto (tgt := 394) S.1 S.2.1 dX5_arrive_378 (by decide) ?_
                refine lv_aload_n S.1 S.2.1 dX5_arrive_394 rfl (lv_at hl 1 rfl) ?_
                refine mx_gA S hK hm hW 18 iX5 rfl (by decide) (by decide) (by decide +kernel) dX5_arrive_395 ?_
                refine lv_iload_n S.1 S.2.1 dX5_arrive_398 rfl (lv_at hl 2 rfl) ?_
                refine lv_iload S.1 S.2.1 dX5_arrive_399 (lv_at hl 0 rfl) ?_
                refine mx_ist S hK hm hW hS 18 (by decide) (k := k) (kw_ixof (k := k) (n := 8) rfl (by omega) (by decide)) dX5_arrive_401 (fun x H locs hm hW hS => ?_)
                refine lv_aload_n S.1 S.2.1 dX5_arrive_402 rfl (lv_at hl 1 rfl) ?_
                refine mx_gA S hK hm hW 19 iX5 rfl (by decide) (by decide) (by decide +kernel) dX5_arrive_403 ?_
                refine lv_iload_n S.1 S.2.1 dX5_arrive_406 rfl (lv_at hl 2 rfl) ?_
                refine lv_dup2_11 S.1 S.2.1 dX5_arrive_407 rfl rfl ?_
                refine mx_ild S hK hm hW 19 (by decide) (k := k) (kw_ixof (k := k) (n := 8) rfl (by omega) (by decide)) dX5_arrive_408 (v := tA t 19 k) (by simp [tF_uF, tF_uL, tF_uA, tF_uB, tL_uF, tL_uL, tL_uA, tL_uB, tA_uF, tA_uL, tA_uA, tA_uB, tB_uF, tB_uL, tB_uA, tB_uB, m_arT_A, m_arT_F, m_arT_L, m_arT_B, m_arU_A, m_arU_F, m_arU_L, m_arU_B, m_arS_A, m_arS_F, m_arT_A, m_arT_F, m_arT_L, m_arT_B, m_arU_A, m_arU_F, m_arU_L, m_arU_B, m_arS_A, m_arS_F, m_arT_A, m_arT_F, m_arT_L, m_arT_B, m_arU_A, m_arU_F, m_arU_L, m_arU_B, m_arS_A, m_arS_F]) ?_
                refine lv_iconst (v := 1) S.1 S.2.1 dX5_arrive_409 (by decide) ?_
                refine lv_iadd S.1 S.2.1 dX5_arrive_410 ?_
                refine mx_ist S hK hm hW hS 19 (by decide) (k := k) (kw_ixof (k := k) (n := 8) rfl (by omega) (by decide)) dX5_arrive_411 (fun x H locs hm hW hS => ?_)
                refine lv_aload_n S.1 S.2.1 dX5_arrive_412 rfl (lv_at hl 1 rfl) ?_
                refine mx_gA S hK hm hW 20 iX5 rfl (by decide) (by decide) (by decide +kernel) dX5_arrive_413 ?_
                refine lv_iload_n S.1 S.2.1 dX5_arrive_416 rfl (lv_at hl 2 rfl) ?_
                refine lv_dup2_11 S.1 S.2.1 dX5_arrive_417 rfl rfl ?_
                refine mx_ild S hK hm hW 20 (by decide) (k := k) (kw_ixof (k := k) (n := 8) rfl (by omega) (by decide)) dX5_arrive_418 (v := tA t 20 k) (by simp [tF_uF, tF_uL, tF_uA, tF_uB, tL_uF, tL_uL, tL_uA, tL_uB, tA_uF, tA_uL, tA_uA, tA_uB, tB_uF, tB_uL, tB_uA, tB_uB, m_arT_A, m_arT_F, m_arT_L, m_arT_B, m_arU_A, m_arU_F, m_arU_L, m_arU_B, m_arS_A, m_arS_F, m_arT_A, m_arT_F, m_arT_L, m_arT_B, m_arU_A, m_arU_F, m_arU_L, m_arU_B, m_arS_A, m_arS_F, m_arT_A, m_arT_F, m_arT_L, m_arT_B, m_arU_A, m_arU_F, m_arU_L, m_arU_B, m_arS_A, m_arS_F]) ?_
                refine lv_iload_n S.1 S.2.1 dX5_arrive_419 rfl (lv_at hl 3 rfl) ?_
                refine lv_iadd S.1 S.2.1 dX5_arrive_420 ?_
                refine mx_ist S hK hm hW hS 20 (by decide) (k := k) (kw_ixof (k := k) (n := 8) rfl (by omega) (by decide)) dX5_arrive_421 (fun x H locs hm hW hS => ?_)
                refine lv_aload_n S.1 S.2.1 dX5_arrive_422 rfl (lv_at hl 1 rfl) ?_
                refine lv_dup S.1 S.2.1 dX5_arrive_423 rfl ?_
                refine mx_gI S hK hm hW 4 iX5 rfl (by decide) (by decide +kernel) dX5_arrive_424 (v := nI np) (Eq.trans (b := tF t 4) (by simp [tF_uF, tF_uL, tF_uA, tF_uB, tL_uF, tL_uL, tL_uA, tL_uB, tA_uF, tA_uL, tA_uA, tA_uB, tB_uF, tB_uL, tB_uA, tB_uB, m_arT_A, m_arT_F, m_arT_L, m_arT_B, m_arU_A, m_arU_F, m_arU_L, m_arU_B, m_arS_A, m_arS_F, m_arT_A, m_arT_F, m_arT_L, m_arT_B, m_arU_A, m_arU_F, m_arU_L, m_arU_B, m_arS_A, m_arS_F, m_arT_A, m_arT_F, m_arT_L, m_arT_B, m_arU_A, m_arU_F, m_arU_L, m_arU_B, m_arS_A, m_arS_F]) hnp) ?_
                refine lv_iconst (v := 1) S.1 S.2.1 dX5_arrive_427 (by decide) ?_
                refine lv_iadd S.1 S.2.1 dX5_arrive_428 ?_
                rw [show (nI np : Int32) + 1 = nI (np + 1) from nI_add (np) (1)]
                refine mx_pI S hK hm hW hS 4 iX5 rfl (by decide) (by decide +kernel) rfl rfl dX5_arrive_429 (fun x H locs hm hW hS => ?_)
                refine lv_iload S.1 S.2.1 dX5_arrive_432 (lv_at hl 0 rfl) ?_
                rw [hQQ]
                refine kw_iret S hr hlk hW hS (by decide) (by decide) dX5_arrive_434 ?_
                refine ⟨?_, rfl, hm.to ?_⟩ <;> first | rfl | (simp [m_arr, m_arok, m_arF, m_arP, c1, hkl, c2, c3, hnp1, hrf, c4, eq_true c5, kw_b]; done) | (simp [m_arr, m_arok, m_arF, m_arP, c1, hkl, c2, c3, hnp1, hrf, c4, eq_true c5, kw_b, tF_uF, tF_uL, tF_uA, tF_uB, tL_uF, tL_uL, tL_uA, tL_uB, tA_uF, tA_uL, tA_uA, tA_uB, tB_uF, tB_uL, tB_uA, tB_uB, m_arT_A, m_arT_F, m_arT_L, m_arT_B, m_arU_A, m_arU_F, m_arU_L, m_arU_B, m_arS_A, m_arS_F, m_arT_A, m_arT_F, m_arT_L, m_arT_B, m_arU_A, m_arU_F, m_arU_L, m_arU_B, m_arS_A, m_arS_F, m_arT_A, m_arT_F, m_arT_L, m_arT_B, m_arU_A, m_arU_F, m_arU_L, m_arU_B, m_arS_A, m_arS_F]; done) | contradiction
            refine lv_aload_n S.1 S.2.1 dX5_arrive_154 rfl (lv_at hl 1 rfl) ?_
            refine mx_gA S hK hm hW 19 iX5 rfl (by decide) (by decide) (by decide +kernel) dX5_arrive_155 ?_
            refine lv_iload_n S.1 S.2.1 dX5_arrive_158 rfl (lv_at hl 2 rfl) ?_
            refine mx_ild S hK hm hW 19 (by decide) (k := k) (kw_ixof (k := k) (n := 8) rfl (by omega) (by decide)) dX5_arrive_159 (v := tA t 19 k) (by simp [tF_uF, tF_uL, tF_uA, tF_uB, tL_uF, tL_uL, tL_uA, tL_uB, tA_uF, tA_uL, tA_uA, tA_uB, tB_uF, tB_uL, tB_uA, tB_uB, m_arT_A, m_arT_F, m_arT_L, m_arT_B, m_arU_A, m_arU_F, m_arU_L, m_arU_B, m_arS_A, m_arS_F, m_arT_A, m_arT_F, m_arT_L, m_arT_B, m_arU_A, m_arU_F, m_arU_L, m_arU_B, m_arS_A, m_arS_F]) ?_
            refine lv_if_ne (tgt := 288) S.1 S.2.1 dX5_arrive_160 (by decide) (fun c6 => ?_) (fun c6 => ?_)
            · skip
              exact cut288   x _ _ ls (hm.to (by simp [m_arS, c1, hkl, c2, c3, hnp1, hrf, c4, c6])) hW hS (lv_sub hl [1, 2, 3, 4, 0] rfl)
            · skip
              have cut202 : ∀ (x : kw_St) (H : Heap) (locs : List Loc) (ls : Array Slot), mw nu z mo ma (m_arU t k g sz) x → kw_W G A nu x H → va_S A s.heap H locs → lv_has ls 7 [(0, .ref mo), (1, .int (nI k)), (2, .int (sz)), (3, .int (m_arM t k sz)), (4, .int (nI g))] → W p l e { frames := 1, cells := 0, slots := 0, locals := 22 } s m args below meth c H locs 0 0 QQ (F0 m 202 ls []) := by
                intro   x H locs ls hm hW hS hl
                refine lv_iconst (v := 1) S.1 S.2.1 dX5_arrive_202 (by decide) ?_
                refine lv_istore (lv' := [(5, .int (1)), (0, .ref mo), (1, .int (nI k)), (2, .int (sz)), (3, .int (m_arM t k sz)), (4, .int (nI g))]) S.1 S.2.1 dX5_arrive_203 hl (by decide) rfl (fun ls hl => ?_)
                refine lv_iconst (v := 0) S.1 S.2.1 dX5_arrive_205 (by decide) ?_
                refine lv_istore (lv' := [(6, .int (0)), (5, .int (1)), (0, .ref mo), (1, .int (nI k)), (2, .int (sz)), (3, .int (m_arM t k sz)), (4, .int (nI g))]) S.1 S.2.1 dX5_arrive_206 hl (by decide) rfl (fun ls hl => ?_)
                have loop : ∀ (dn n : Nat), n + dn = nl → ∀ (x : kw_St) (H : Heap) (locs : List Loc) (ls : Array Slot), mw nu z mo ma (m_arU t k g sz) x → kw_W G A nu x H → va_S A s.heap H locs → lv_has ls 7 [(0, .ref mo), (1, .int (nI k)), (2, .int (sz)), (3, .int (m_arM t k sz)), (4, .int (nI g)), (5, .int (kw_b (m_none t g n = true))), (6, .int (nI n))] → W p l e { frames := 1, cells := 0, slots := 0, locals := 22 } s m args below meth c H locs 0 0 QQ (F0 m 208 ls []) := by
                  intro dn
                  induction dn with
                  | zero =>
                    intro n  hndn  x H locs ls hm hW hS hl
                    refine lv_iload S.1 S.2.1 dX5_arrive_208 (lv_at hl 6 rfl) ?_
                    refine lv_aload_n S.1 S.2.1 dX5_arrive_210 rfl (lv_at hl 0 rfl) ?_
                    refine mx_gI S hK hm hW 3 iX5 rfl (by decide) (by decide +kernel) dX5_arrive_211 (v := nI nl) (Eq.trans (b := tF t 3) (by simp [tF_uF, tF_uL, tF_uA, tF_uB, tL_uF, tL_uL, tL_uA, tL_uB, tA_uF, tA_uL, tA_uA, tA_uB, tB_uF, tB_uL, tB_uA, tB_uB, m_arT_A, m_arT_F, m_arT_L, m_arT_B, m_arU_A, m_arU_F, m_arU_L, m_arU_B, m_arS_A, m_arS_F, m_arT_A, m_arT_F, m_arT_L, m_arT_B, m_arU_A, m_arU_F, m_arU_L, m_arU_B, m_arS_A, m_arS_F, m_arT_A, m_arT_F, m_arT_L, m_arT_B, m_arU_A, m_arU_F, m_arU_L, m_arU_B, m_arS_A, m_arS_F, m_arT_A, m_arT_F, m_arT_L, m_arT_B, m_arU_A, m_arU_F, m_arU_L, m_arU_B, m_arS_A, m_arS_F]) hnl) ?_
                    refine lv_icmp_ge (tgt := 257) S.1 S.2.1 dX5_arrive_214 (by decide) (fun c7 => ?_) (fun c7 => ?_)
                    · skip
                      have hnn8 : nl = n := by omega
                      subst hnn8
                      refine lv_iload S.1 S.2.1 dX5_arrive_257 (lv_at hl 5 rfl) ?_
                      refine kx_ifz_eq (tgt := 288) S dX5_arrive_259 (by decide) (fun c9 => ?_) (fun c9 => ?_)
                      · skip
                        exact cut288   x _ _ ls (hm.to (by simp [m_arS, c1, hkl, c2, c3, hnp1, hrf, c4, eq_true c6, c9])) hW hS (lv_sub hl [0, 1, 2, 3, 4] rfl)
                      · skip
                        refine lv_aload_n S.1 S.2.1 dX5_arrive_262 rfl (lv_at hl 0 rfl) ?_
                        refine mx_gA S hK hm hW 10 iX5 rfl (by decide) (by decide) (by decide +kernel) dX5_arrive_263 ?_
                        refine lv_iload S.1 S.2.1 dX5_arrive_266 (lv_at hl 4 rfl) ?_
                        refine mx_lld S hK hm hW 10 (by decide) (k := g) (kw_ixof (k := g) (n := 4) rfl (by omega) (by decide)) dX5_arrive_268 (v := tB t 10 g) (by simp [tF_uF, tF_uL, tF_uA, tF_uB, tL_uF, tL_uL, tL_uA, tL_uB, tA_uF, tA_uL, tA_uA, tA_uB, tB_uF, tB_uL, tB_uA, tB_uB, m_arT_A, m_arT_F, m_arT_L, m_arT_B, m_arU_A, m_arU_F, m_arU_L, m_arU_B, m_arS_A, m_arS_F, m_arT_A, m_arT_F, m_arT_L, m_arT_B, m_arU_A, m_arU_F, m_arU_L, m_arU_B, m_arS_A, m_arS_F, m_arT_A, m_arT_F, m_arT_L, m_arT_B, m_arU_A, m_arU_F, m_arU_L, m_arU_B, m_arS_A, m_arS_F, m_arT_A, m_arT_F, m_arT_L, m_arT_B, m_arU_A, m_arU_F, m_arU_L, m_arU_B, m_arS_A, m_arS_F]) ?_
                        refine lv_aload_n S.1 S.2.1 dX5_arrive_269 rfl (lv_at hl 0 rfl) ?_
                        refine mx_gJ S hK hm hW iX5 (by decide +kernel) dX5_arrive_270 (v := tL t) (by simp [tF_uF, tF_uL, tF_uA, tF_uB, tL_uF, tL_uL, tL_uA, tL_uB, tA_uF, tA_uL, tA_uA, tA_uB, tB_uF, tB_uL, tB_uA, tB_uB, m_arT_A, m_arT_F, m_arT_L, m_arT_B, m_arU_A, m_arU_F, m_arU_L, m_arU_B, m_arS_A, m_arS_F, m_arT_A, m_arT_F, m_arT_L, m_arT_B, m_arU_A, m_arU_F, m_arU_L, m_arU_B, m_arS_A, m_arS_F, m_arT_A, m_arT_F, m_arT_L, m_arT_B, m_arU_A, m_arU_F, m_arU_L, m_arU_B, m_arS_A, m_arS_F, m_arT_A, m_arT_F, m_arT_L, m_arT_B, m_arU_A, m_arU_F, m_arU_L, m_arU_B, m_arS_A, m_arS_F]) ?_
                        refine kx_lc_ge (tgt := 288) S dX5_arrive_273 dX5_arrive_274 (by decide) (fun c10 => ?_) (fun c10 => ?_)
                        · skip
                          exact cut288   x _ _ ls (hm.to (by simp [m_arS, c1, hkl, c2, c3, hnp1, hrf, c4, eq_true c6, c9, c10])) hW hS (lv_sub hl [0, 1, 2, 3, 4] rfl)
                        · skip
                          refine lv_aload_n S.1 S.2.1 dX5_arrive_277 rfl (lv_at hl 0 rfl) ?_
                          refine mx_gA S hK hm hW 10 iX5 rfl (by decide) (by decide) (by decide +kernel) dX5_arrive_278 ?_
                          refine lv_iload S.1 S.2.1 dX5_arrive_281 (lv_at hl 4 rfl) ?_
                          refine lv_aload_n S.1 S.2.1 dX5_arrive_283 rfl (lv_at hl 0 rfl) ?_
                          refine mx_gJ S hK hm hW iX5 (by decide +kernel) dX5_arrive_284 (v := tL t) (by simp [tF_uF, tF_uL, tF_uA, tF_uB, tL_uF, tL_uL, tL_uA, tL_uB, tA_uF, tA_uL, tA_uA, tA_uB, tB_uF, tB_uL, tB_uA, tB_uB, m_arT_A, m_arT_F, m_arT_L, m_arT_B, m_arU_A, m_arU_F, m_arU_L, m_arU_B, m_arS_A, m_arS_F, m_arT_A, m_arT_F, m_arT_L, m_arT_B, m_arU_A, m_arU_F, m_arU_L, m_arU_B, m_arS_A, m_arS_F, m_arT_A, m_arT_F, m_arT_L, m_arT_B, m_arU_A, m_arU_F, m_arU_L, m_arU_B, m_arS_A, m_arS_F, m_arT_A, m_arT_F, m_arT_L, m_arT_B, m_arU_A, m_arU_F, m_arU_L, m_arU_B, m_arS_A, m_arS_F]) ?_
                          refine mx_lst S hK hm hW hS 10 (by decide) (k := g) (kw_ixof (k := g) (n := 4) rfl (by omega) (by decide)) dX5_arrive_287 (fun x H locs hm hW hS => ?_)
                          exact cut288   x _ _ ls (hm.to (by simp [m_arS, c1, hkl, c2, c3, hnp1, hrf, c4, eq_true c6, c9, c10])) hW hS (lv_sub hl [0, 1, 2, 3, 4] rfl)
                    · skip
                      exact absurd (nI_le (a := nl) (b := n) (by omega) (by omega)) c7
                  | succ dn ihloop =>
                    intro n  hndn  x H locs ls hm hW hS hl
                    refine lv_iload S.1 S.2.1 dX5_arrive_208 (lv_at hl 6 rfl) ?_
                    refine lv_aload_n S.1 S.2.1 dX5_arrive_210 rfl (lv_at hl 0 rfl) ?_
                    refine mx_gI S hK hm hW 3 iX5 rfl (by decide) (by decide +kernel) dX5_arrive_211 (v := nI nl) (Eq.trans (b := tF t 3) (by simp [tF_uF, tF_uL, tF_uA, tF_uB, tL_uF, tL_uL, tL_uA, tL_uB, tA_uF, tA_uL, tA_uA, tA_uB, tB_uF, tB_uL, tB_uA, tB_uB, m_arT_A, m_arT_F, m_arT_L, m_arT_B, m_arU_A, m_arU_F, m_arU_L, m_arU_B, m_arS_A, m_arS_F, m_arT_A, m_arT_F, m_arT_L, m_arT_B, m_arU_A, m_arU_F, m_arU_L, m_arU_B, m_arS_A, m_arS_F, m_arT_A, m_arT_F, m_arT_L, m_arT_B, m_arU_A, m_arU_F, m_arU_L, m_arU_B, m_arS_A, m_arS_F, m_arT_A, m_arT_F, m_arT_L, m_arT_B, m_arU_A, m_arU_F, m_arU_L, m_arU_B, m_arS_A, m_arS_F]) hnl) ?_
                    refine lv_icmp_ge (tgt := 257) S.1 S.2.1 dX5_arrive_214 (by decide) (fun c11 => ?_) (fun c11 => ?_)
                    · skip
                      exact absurd c11 (nI_ge (a := n) (b := nl) (by omega) (by omega))
                    · skip
                      refine lv_iload S.1 S.2.1 dX5_arrive_217 (lv_at hl 5 rfl) ?_
                      refine kx_ifz_eq (tgt := 248) S dX5_arrive_219 (by decide) (fun c12 => ?_) (fun c12 => ?_)
                      · skip
                        refine lv_iconst (v := 0) S.1 S.2.1 dX5_arrive_248 (by decide) ?_
                        refine lv_istore (lv' := [(5, .int (0)), (0, .ref mo), (1, .int (nI k)), (2, .int (sz)), (3, .int (m_arM t k sz)), (4, .int (nI g)), (6, .int (nI n))]) S.1 S.2.1 dX5_arrive_249 hl (by decide) rfl (fun ls hl => ?_)
                        refine lv_iinc (v := nI (n + 1)) (lv' := [(6, .int (nI (n + 1))), (5, .int (0)), (0, .ref mo), (1, .int (nI k)), (2, .int (sz)), (3, .int (m_arM t k sz)), (4, .int (nI g))]) S.1 S.2.1 dX5_arrive_251 hl (k := 6) rfl (nI_1 _) (by decide) rfl (fun ls hl => ?_)
                        refine lv_goto (tgt := 208) S.1 S.2.1 dX5_arrive_254 (by decide) ?_
                        exact ihloop (n + 1)  (by omega)  x _ _ ls (hm.to rfl) hW hS (lv_conv (lv_sub hl [2, 3, 4, 5, 6, 1, 0] rfl) (congr (congrArg List.cons rfl) (congr (congrArg List.cons rfl) (congr (congrArg List.cons rfl) (congr (congrArg List.cons rfl) (congr (congrArg List.cons rfl) (congr (congrArg List.cons (congrArg (fun z9 => ((5 : Nat), Value.int z9)) (show (0 : Int32) = kw_b (m_none t g (n + 1) = true) from by first | rfl | (simp [m_none, kw_b, c1, hkl, c2, c3, hnp1, hrf, c4, eq_true c6, c11, c12])))) (congr (congrArg List.cons rfl) rfl))))))))
                      · skip
                        refine lv_aload_n S.1 S.2.1 dX5_arrive_222 rfl (lv_at hl 0 rfl) ?_
                        refine mx_gA S hK hm hW 13 iX5 rfl (by decide) (by decide) (by decide +kernel) dX5_arrive_223 ?_
                        refine lv_iload S.1 S.2.1 dX5_arrive_226 (lv_at hl 6 rfl) ?_
                        refine mx_ild S hK hm hW 13 (by decide) (k := n) (kw_ixof (k := n) (n := 8) rfl (by omega) (by decide)) dX5_arrive_228 (v := tA t 13 n) (by simp [tF_uF, tF_uL, tF_uA, tF_uB, tL_uF, tL_uL, tL_uA, tL_uB, tA_uF, tA_uL, tA_uA, tA_uB, tB_uF, tB_uL, tB_uA, tB_uB, m_arT_A, m_arT_F, m_arT_L, m_arT_B, m_arU_A, m_arU_F, m_arU_L, m_arU_B, m_arS_A, m_arS_F, m_arT_A, m_arT_F, m_arT_L, m_arT_B, m_arU_A, m_arU_F, m_arU_L, m_arU_B, m_arS_A, m_arS_F, m_arT_A, m_arT_F, m_arT_L, m_arT_B, m_arU_A, m_arU_F, m_arU_L, m_arU_B, m_arS_A, m_arS_F, m_arT_A, m_arT_F, m_arT_L, m_arT_B, m_arU_A, m_arU_F, m_arU_L, m_arU_B, m_arS_A, m_arS_F]) ?_
                        refine lv_iload S.1 S.2.1 dX5_arrive_229 (lv_at hl 4 rfl) ?_
                        refine lv_icmp_ne (tgt := 244) S.1 S.2.1 dX5_arrive_231 (by decide) (fun c13 => ?_) (fun c13 => ?_)
                        · skip
                          refine lv_iconst (v := 1) S.1 S.2.1 dX5_arrive_244 (by decide) ?_
                          refine lv_goto (tgt := 249) S.1 S.2.1 dX5_arrive_245 (by decide) ?_
                          refine lv_istore (lv' := [(5, .int (1)), (0, .ref mo), (1, .int (nI k)), (2, .int (sz)), (3, .int (m_arM t k sz)), (4, .int (nI g)), (6, .int (nI n))]) S.1 S.2.1 dX5_arrive_249 hl (by decide) rfl (fun ls hl => ?_)
                          refine lv_iinc (v := nI (n + 1)) (lv' := [(6, .int (nI (n + 1))), (5, .int (1)), (0, .ref mo), (1, .int (nI k)), (2, .int (sz)), (3, .int (m_arM t k sz)), (4, .int (nI g))]) S.1 S.2.1 dX5_arrive_251 hl (k := 6) rfl (nI_1 _) (by decide) rfl (fun ls hl => ?_)
                          refine lv_goto (tgt := 208) S.1 S.2.1 dX5_arrive_254 (by decide) ?_
                          exact ihloop (n + 1)  (by omega)  x _ _ ls (hm.to rfl) hW hS (lv_conv (lv_sub hl [2, 3, 4, 5, 6, 1, 0] rfl) (congr (congrArg List.cons rfl) (congr (congrArg List.cons rfl) (congr (congrArg List.cons rfl) (congr (congrArg List.cons rfl) (congr (congrArg List.cons rfl) (congr (congrArg List.cons (congrArg (fun z9 => ((5 : Nat), Value.int z9)) (show (1 : Int32) = kw_b (m_none t g (n + 1) = true) from by first | rfl | (simp [m_none, kw_b, c1, hkl, c2, c3, hnp1, hrf, c4, eq_true c6, c11, c12, c13])))) (congr (congrArg List.cons rfl) rfl))))))))
                        · skip
                          refine lv_aload_n S.1 S.2.1 dX5_arrive_234 rfl (lv_at hl 0 rfl) ?_
                          refine mx_gA S hK hm hW 19 iX5 rfl (by decide) (by decide) (by decide +kernel) dX5_arrive_235 ?_
                          refine lv_iload S.1 S.2.1 dX5_arrive_238 (lv_at hl 6 rfl) ?_
                          refine mx_ild S hK hm hW 19 (by decide) (k := n) (kw_ixof (k := n) (n := 8) rfl (by omega) (by decide)) dX5_arrive_240 (v := tA t 19 n) (by simp [tF_uF, tF_uL, tF_uA, tF_uB, tL_uF, tL_uL, tL_uA, tL_uB, tA_uF, tA_uL, tA_uA, tA_uB, tB_uF, tB_uL, tB_uA, tB_uB, m_arT_A, m_arT_F, m_arT_L, m_arT_B, m_arU_A, m_arU_F, m_arU_L, m_arU_B, m_arS_A, m_arS_F, m_arT_A, m_arT_F, m_arT_L, m_arT_B, m_arU_A, m_arU_F, m_arU_L, m_arU_B, m_arS_A, m_arS_F, m_arT_A, m_arT_F, m_arT_L, m_arT_B, m_arU_A, m_arU_F, m_arU_L, m_arU_B, m_arS_A, m_arS_F, m_arT_A, m_arT_F, m_arT_L, m_arT_B, m_arU_A, m_arU_F, m_arU_L, m_arU_B, m_arS_A, m_arS_F]) ?_
                          refine lv_if_ne (tgt := 248) S.1 S.2.1 dX5_arrive_241 (by decide) (fun c14 => ?_) (fun c14 => ?_)
                          · skip
                            refine lv_iconst (v := 0) S.1 S.2.1 dX5_arrive_248 (by decide) ?_
                            refine lv_istore (lv' := [(5, .int (0)), (0, .ref mo), (1, .int (nI k)), (2, .int (sz)), (3, .int (m_arM t k sz)), (4, .int (nI g)), (6, .int (nI n))]) S.1 S.2.1 dX5_arrive_249 hl (by decide) rfl (fun ls hl => ?_)
                            refine lv_iinc (v := nI (n + 1)) (lv' := [(6, .int (nI (n + 1))), (5, .int (0)), (0, .ref mo), (1, .int (nI k)), (2, .int (sz)), (3, .int (m_arM t k sz)), (4, .int (nI g))]) S.1 S.2.1 dX5_arrive_251 hl (k := 6) rfl (nI_1 _) (by decide) rfl (fun ls hl => ?_)
                            refine lv_goto (tgt := 208) S.1 S.2.1 dX5_arrive_254 (by decide) ?_
                            exact ihloop (n + 1)  (by omega)  x _ _ ls (hm.to rfl) hW hS (lv_conv (lv_sub hl [2, 3, 4, 5, 6, 1, 0] rfl) (congr (congrArg List.cons rfl) (congr (congrArg List.cons rfl) (congr (congrArg List.cons rfl) (congr (congrArg List.cons rfl) (congr (congrArg List.cons rfl) (congr (congrArg List.cons (congrArg (fun z9 => ((5 : Nat), Value.int z9)) (show (0 : Int32) = kw_b (m_none t g (n + 1) = true) from by first | rfl | (simp [m_none, kw_b, c1, hkl, c2, c3, hnp1, hrf, c4, eq_true c6, c11, c12, eq_true c13, c14])))) (congr (congrArg List.cons rfl) rfl))))))))
                          · skip
                            refine lv_iconst (v := 1) S.1 S.2.1 dX5_arrive_244 (by decide) ?_
                            refine lv_goto (tgt := 249) S.1 S.2.1 dX5_arrive_245 (by decide) ?_
                            refine lv_istore (lv' := [(5, .int (1)), (0, .ref mo), (1, .int (nI k)), (2, .int (sz)), (3, .int (m_arM t k sz)), (4, .int (nI g)), (6, .int (nI n))]) S.1 S.2.1 dX5_arrive_249 hl (by decide) rfl (fun ls hl => ?_)
                            refine lv_iinc (v := nI (n + 1)) (lv' := [(6, .int (nI (n + 1))), (5, .int (1)), (0, .ref mo), (1, .int (nI k)), (2, .int (sz)), (3, .int (m_arM t k sz)), (4, .int (nI g))]) S.1 S.2.1 dX5_arrive_251 hl (k := 6) rfl (nI_1 _) (by decide) rfl (fun ls hl => ?_)
                            refine lv_goto (tgt := 208) S.1 S.2.1 dX5_arrive_254 (by decide) ?_
                            exact ihloop (n + 1)  (by omega)  x _ _ ls (hm.to rfl) hW hS (lv_conv (lv_sub hl [2, 3, 4, 5, 6, 1, 0] rfl) (congr (congrArg List.cons rfl) (congr (congrArg List.cons rfl) (congr (congrArg List.cons rfl) (congr (congrArg List.cons rfl) (congr (congrArg List.cons rfl) (congr (congrArg List.cons (congrArg (fun z9 => ((5 : Nat), Value.int z9)) (show (1 : Int32) = kw_b (m_none t g (n + 1) = true) from by first | rfl | (simp [m_none, kw_b, c1, hkl, c2, c3, hnp1, hrf, c4, eq_true c6, c11, c12, eq_true c13, eq_true c14])))) (congr (congrArg List.cons rfl) rfl))))))))
                exact loop (nl - 0) 0  (by omega)  x _ _ ls (hm.to rfl) hW hS (lv_conv (lv_sub hl [2, 3, 4, 5, 6, 1, 0] rfl) (congr (congrArg List.cons rfl) (congr (congrArg List.cons rfl) (congr (congrArg List.cons rfl) (congr (congrArg List.cons rfl) (congr (congrArg List.cons rfl) (congr (congrArg List.cons (congrArg (fun z9 => ((5 : Nat), Value.int z9)) (show (1 : Int32) = kw_b (m_none t g 0 = true) from by first | rfl | (simp [m_none, kw_b, c1, hkl, c2, c3, hnp1, hrf, c4, eq_true c6])))) (congr (congrArg List.cons (congrArg (fun z9 => ((6 : Nat), Value.int z9)) (show (0 : Int32) = nI 0 from by first | rfl | (simp [m_none, kw_b, c1, hkl, c2, c3, hnp1, hrf, c4, eq_true c6])))) rfl))))))))
              refine lv_aload_n S.1 S.2.1 dX5_arrive_163 rfl (lv_at hl 1 rfl) ?_
              refine mx_gA S hK hm hW 27 iX5 rfl (by decide) (by decide) (by decide +kernel) dX5_arrive_164 ?_
              refine lv_iload_n S.1 S.2.1 dX5_arrive_167 rfl (lv_at hl 2 rfl) ?_
              refine lv_aload_n S.1 S.2.1 dX5_arrive_168 rfl (lv_at hl 1 rfl) ?_
              refine mx_gA S hK hm hW 27 iX5 rfl (by decide) (by decide) (by decide +kernel) dX5_arrive_169 ?_
              refine lv_iload_n S.1 S.2.1 dX5_arrive_172 rfl (lv_at hl 2 rfl) ?_
              refine mx_lld S hK hm hW 27 (by decide) (k := k) (kw_ixof (k := k) (n := 8) rfl (by omega) (by decide)) dX5_arrive_173 (v := tB t 27 k) (by simp [tF_uF, tF_uL, tF_uA, tF_uB, tL_uF, tL_uL, tL_uA, tL_uB, tA_uF, tA_uL, tA_uA, tA_uB, tB_uF, tB_uL, tB_uA, tB_uB, m_arT_A, m_arT_F, m_arT_L, m_arT_B, m_arU_A, m_arU_F, m_arU_L, m_arU_B, m_arS_A, m_arS_F, m_arT_A, m_arT_F, m_arT_L, m_arT_B, m_arU_A, m_arU_F, m_arU_L, m_arU_B, m_arS_A, m_arS_F]) ?_
              refine lv_aload_n S.1 S.2.1 dX5_arrive_174 rfl (lv_at hl 1 rfl) ?_
              refine mx_gA S hK hm hW 11 iX5 rfl (by decide) (by decide) (by decide +kernel) dX5_arrive_175 ?_
              refine lv_iload S.1 S.2.1 dX5_arrive_178 (lv_at hl 0 rfl) ?_
              refine mx_lld S hK hm hW 11 (by decide) (k := g) (kw_ixof (k := g) (n := 4) rfl (by omega) (by decide)) dX5_arrive_180 (v := tB t 11 g) (by simp [tF_uF, tF_uL, tF_uA, tF_uB, tL_uF, tL_uL, tL_uA, tL_uB, tA_uF, tA_uL, tA_uA, tA_uB, tB_uF, tB_uL, tB_uA, tB_uB, m_arT_A, m_arT_F, m_arT_L, m_arT_B, m_arU_A, m_arU_F, m_arU_L, m_arU_B, m_arS_A, m_arS_F, m_arT_A, m_arT_F, m_arT_L, m_arT_B, m_arU_A, m_arU_F, m_arU_L, m_arU_B, m_arS_A, m_arS_F]) ?_
              refine kx_lc_ge (tgt := 195) S dX5_arrive_181 dX5_arrive_182 (by decide) (fun c15 => ?_) (fun c15 => ?_)
              · skip
                refine lv_aload_n S.1 S.2.1 dX5_arrive_195 rfl (lv_at hl 1 rfl) ?_
                refine mx_gA S hK hm hW 27 iX5 rfl (by decide) (by decide) (by decide +kernel) dX5_arrive_196 ?_
                refine lv_iload_n S.1 S.2.1 dX5_arrive_199 rfl (lv_at hl 2 rfl) ?_
                refine mx_lld S hK hm hW 27 (by decide) (k := k) (kw_ixof (k := k) (n := 8) rfl (by omega) (by decide)) dX5_arrive_200 (v := tB t 27 k) (by simp [tF_uF, tF_uL, tF_uA, tF_uB, tL_uF, tL_uL, tL_uA, tL_uB, tA_uF, tA_uL, tA_uA, tA_uB, tB_uF, tB_uL, tB_uA, tB_uB, m_arT_A, m_arT_F, m_arT_L, m_arT_B, m_arU_A, m_arU_F, m_arU_L, m_arU_B, m_arS_A, m_arS_F, m_arT_A, m_arT_F, m_arT_L, m_arT_B, m_arU_A, m_arU_F, m_arU_L, m_arU_B, m_arS_A, m_arS_F]) ?_
                refine mx_lst S hK hm hW hS 27 (by decide) (k := k) (kw_ixof (k := k) (n := 8) rfl (by omega) (by decide)) dX5_arrive_201 (fun x H locs hm hW hS => ?_)
                exact cut202   x _ _ ls (hm.to (by simp [m_arU, c1, hkl, c2, c3, hnp1, hrf, c4, eq_true c6, c15])) hW hS (lv_sub hl [1, 2, 3, 4, 0] rfl)
              · skip
                refine lv_aload_n S.1 S.2.1 dX5_arrive_185 rfl (lv_at hl 1 rfl) ?_
                refine mx_gA S hK hm hW 11 iX5 rfl (by decide) (by decide) (by decide +kernel) dX5_arrive_186 ?_
                refine lv_iload S.1 S.2.1 dX5_arrive_189 (lv_at hl 0 rfl) ?_
                refine mx_lld S hK hm hW 11 (by decide) (k := g) (kw_ixof (k := g) (n := 4) rfl (by omega) (by decide)) dX5_arrive_191 (v := tB t 11 g) (by simp [tF_uF, tF_uL, tF_uA, tF_uB, tL_uF, tL_uL, tL_uA, tL_uB, tA_uF, tA_uL, tA_uA, tA_uB, tB_uF, tB_uL, tB_uA, tB_uB, m_arT_A, m_arT_F, m_arT_L, m_arT_B, m_arU_A, m_arU_F, m_arU_L, m_arU_B, m_arS_A, m_arS_F, m_arT_A, m_arT_F, m_arT_L, m_arT_B, m_arU_A, m_arU_F, m_arU_L, m_arU_B, m_arS_A, m_arS_F]) ?_
                refine lv_goto (tgt := 201) S.1 S.2.1 dX5_arrive_192 (by decide) ?_
                refine mx_lst S hK hm hW hS 27 (by decide) (k := k) (kw_ixof (k := k) (n := 8) rfl (by omega) (by decide)) dX5_arrive_201 (fun x H locs hm hW hS => ?_)
                exact cut202   x _ _ ls (hm.to (by simp [m_arU, c1, hkl, c2, c3, hnp1, hrf, c4, eq_true c6, c15])) hW hS (lv_sub hl [1, 2, 3, 4, 0] rfl)
          · skip
            refine lv_aload_n S.1 S.2.1 dX5_arrive_133 rfl (lv_at hl 0 rfl) ?_
            refine mx_gA S hK hm hW 24 iX5 rfl (by decide) (by decide) (by decide +kernel) dX5_arrive_134 ?_
            refine lv_iload_n S.1 S.2.1 dX5_arrive_137 rfl (lv_at hl 1 rfl) ?_
            refine lv_dup2_11 S.1 S.2.1 dX5_arrive_138 rfl rfl ?_
            refine mx_ild S hK hm hW 24 (by decide) (k := k) (kw_ixof (k := k) (n := 8) rfl (by omega) (by decide)) dX5_arrive_139 (v := tA t 24 k) (by simp [tF_uF, tF_uL, tF_uA, tF_uB, tL_uF, tL_uL, tL_uA, tL_uB, tA_uF, tA_uL, tA_uA, tA_uB, tB_uF, tB_uL, tB_uA, tB_uB, m_arT_A, m_arT_F, m_arT_L, m_arT_B, m_arU_A, m_arU_F, m_arU_L, m_arU_B, m_arS_A, m_arS_F, m_arT_A, m_arT_F, m_arT_L, m_arT_B, m_arU_A, m_arU_F, m_arU_L, m_arU_B, m_arS_A, m_arS_F]) ?_
            refine lv_iconst (v := 1) S.1 S.2.1 dX5_arrive_140 (by decide) ?_
            refine lv_iadd S.1 S.2.1 dX5_arrive_141 ?_
            refine mx_ist S hK hm hW hS 24 (by decide) (k := k) (kw_ixof (k := k) (n := 8) rfl (by omega) (by decide)) dX5_arrive_142 (fun x H locs hm hW hS => ?_)
            refine lv_bipush (v := (-3)) S.1 S.2.1 dX5_arrive_143 (by decide) ?_
            rw [hQQ]
            refine kw_iret S hr hlk hW hS (by decide) (by decide) dX5_arrive_145 ?_
            refine ⟨?_, rfl, hm.to ?_⟩ <;> first | rfl | (simp [m_arr, m_arok, m_arF, m_arP, c1, hkl, c2, c3, hnp1, hrf, c4, kw_b]; done) | (simp [m_arr, m_arok, m_arF, m_arP, c1, hkl, c2, c3, hnp1, hrf, c4, kw_b, tF_uF, tF_uL, tF_uA, tF_uB, tL_uF, tL_uL, tL_uA, tL_uB, tA_uF, tA_uL, tA_uA, tA_uB, tB_uF, tB_uL, tB_uA, tB_uB, m_arT_A, m_arT_F, m_arT_L, m_arT_B, m_arU_A, m_arU_F, m_arU_L, m_arU_B, m_arS_A, m_arS_F, m_arT_A, m_arT_F, m_arT_L, m_arT_B, m_arU_A, m_arU_F, m_arU_L, m_arU_B, m_arS_A, m_arS_F]; done) | contradiction
        refine lv_iconst (v := 0) S.1 S.2.1 dX5_arrive_38 (by decide) ?_
        refine lv_istore_n (lv' := [(3, .int (0)), (0, .ref mo), (1, .int (nI k)), (2, .int (sz))]) S.1 S.2.1 dX5_arrive_39 rfl hl (by decide) rfl (fun ls hl => ?_)
        refine lv_aload_n S.1 S.2.1 dX5_arrive_40 rfl (lv_at hl 1 rfl) ?_
        refine mx_gA S hK hm hW 28 iX5 rfl (by decide) (by decide) (by decide +kernel) dX5_arrive_41 ?_
        refine lv_iload_n S.1 S.2.1 dX5_arrive_44 rfl (lv_at hl 2 rfl) ?_
        refine mx_zld S hK hm hW 28 (by decide) (k := k) (kw_ixof (k := k) (n := 8) rfl (by omega) (by decide)) dX5_arrive_45 (v := tA t 28 k) rfl ?_
        refine lv_if_eq (tgt := 116) S.1 S.2.1 dX5_arrive_46 (by decide) (fun c16 => ?_) (fun c16 => ?_)
        · skip
          exact cut116  (by simp [m_arR, c1, hkl, c2, c3, hnp1, eq_true c16]) x _ _ ls (hm.to (by simp [m_arT, c1, hkl, c2, c3, hnp1, eq_true c16])) hW hS (lv_conv (lv_sub hl [1, 2, 3, 0] rfl) (congr (congrArg List.cons rfl) (congr (congrArg List.cons rfl) (congr (congrArg List.cons rfl) (congr (congrArg List.cons (congrArg (fun z9 => ((3 : Nat), Value.int z9)) (show (0 : Int32) = m_arM t k sz from by first | rfl | (simp [m_arM, c1, hkl, c2, c3, hnp1, eq_true c16])))) rfl)))))
        · skip
          refine lv_aload_n S.1 S.2.1 dX5_arrive_49 rfl (lv_at hl 1 rfl) ?_
          refine mx_gA S hK hm hW 32 iX5 rfl (by decide) (by decide) (by decide +kernel) dX5_arrive_50 ?_
          refine lv_bipush (v := 12) S.1 S.2.1 dX5_arrive_53 (by decide) ?_
          refine lv_iload_n S.1 S.2.1 dX5_arrive_55 rfl (lv_at hl 2 rfl) ?_
          refine lv_iadd S.1 S.2.1 dX5_arrive_56 ?_
          rw [show (12 : Int32) + nI k = nI (12 + k) from nI_add (12) (k)]
          refine mx_lld S hK hm hW 32 (by decide) (k := (12 + k)) (kw_ixof (k := 12 + k) (n := 20) rfl (by omega) (by decide)) dX5_arrive_57 (v := tB t 32 (12 + k)) rfl ?_
          refine lv_ldc2 (v := 1000) S.1 S.2.1 S.2.2.2.1 (S.2.2.2.2 _ (by decide +kernel)) dX5_arrive_58 ?_
          refine lv_iload_n S.1 S.2.1 dX5_arrive_61 rfl (lv_at hl 3 rfl) ?_
          refine lv_i2l S.1 S.2.1 dX5_arrive_62 rfl ?_
          refine lv_lmul S.1 S.2.1 dX5_arrive_63 ?_
          refine kx_lc_lt (tgt := 89) S dX5_arrive_64 dX5_arrive_65 (by decide) (fun c17 => ?_) (fun c17 => ?_)
          · skip
            refine lv_aload_n S.1 S.2.1 dX5_arrive_89 rfl (lv_at hl 1 rfl) ?_
            refine mx_gA S hK hm hW 29 iX5 rfl (by decide) (by decide) (by decide +kernel) dX5_arrive_90 ?_
            refine lv_iload_n S.1 S.2.1 dX5_arrive_93 rfl (lv_at hl 2 rfl) ?_
            refine mx_zld S hK hm hW 29 (by decide) (k := k) (kw_ixof (k := k) (n := 8) rfl (by omega) (by decide)) dX5_arrive_94 (v := tA t 29 k) rfl ?_
            refine lv_if_eq (tgt := 103) S.1 S.2.1 dX5_arrive_95 (by decide) (fun c18 => ?_) (fun c18 => ?_)
            · skip
              refine lv_aload_n S.1 S.2.1 dX5_arrive_103 rfl (lv_at hl 1 rfl) ?_
              refine mx_gA S hK hm hW 23 iX5 rfl (by decide) (by decide) (by decide +kernel) dX5_arrive_104 ?_
              refine lv_iload_n S.1 S.2.1 dX5_arrive_107 rfl (lv_at hl 2 rfl) ?_
              refine lv_dup2_11 S.1 S.2.1 dX5_arrive_108 rfl rfl ?_
              refine mx_ild S hK hm hW 23 (by decide) (k := k) (kw_ixof (k := k) (n := 8) rfl (by omega) (by decide)) dX5_arrive_109 (v := tA t 23 k) rfl ?_
              refine lv_iconst (v := 1) S.1 S.2.1 dX5_arrive_110 (by decide) ?_
              refine lv_iadd S.1 S.2.1 dX5_arrive_111 ?_
              refine mx_ist S hK hm hW hS 23 (by decide) (k := k) (kw_ixof (k := k) (n := 8) rfl (by omega) (by decide)) dX5_arrive_112 (fun x H locs hm hW hS => ?_)
              refine lv_bipush (v := (-2)) S.1 S.2.1 dX5_arrive_113 (by decide) ?_
              rw [hQQ]
              refine kw_iret S hr hlk hW hS (by decide) (by decide) dX5_arrive_115 ?_
              refine ⟨?_, rfl, hm.to ?_⟩ <;> first | rfl | (simp [m_arr, m_arok, m_arF, m_arP, m_arR, c1, hkl, c2, c3, hnp1, c16, c17, eq_true c18, kw_b]; done) | (simp [m_arr, m_arok, m_arF, m_arP, m_arR, c1, hkl, c2, c3, hnp1, c16, c17, eq_true c18, kw_b, tF_uF, tF_uL, tF_uA, tF_uB, tL_uF, tL_uL, tL_uA, tL_uB, tA_uF, tA_uL, tA_uA, tA_uB, tB_uF, tB_uL, tB_uA, tB_uB, m_arT_A, m_arT_F, m_arT_L, m_arT_B, m_arU_A, m_arU_F, m_arU_L, m_arU_B, m_arS_A, m_arS_F]; done) | contradiction
            · skip
              refine lv_iconst (v := 1) S.1 S.2.1 dX5_arrive_98 (by decide) ?_
              refine lv_istore_n (lv' := [(3, .int (1)), (0, .ref mo), (1, .int (nI k)), (2, .int (sz))]) S.1 S.2.1 dX5_arrive_99 rfl hl (by decide) rfl (fun ls hl => ?_)
              refine lv_goto (tgt := 116) S.1 S.2.1 dX5_arrive_100 (by decide) ?_
              exact cut116  (by simp [m_arR, c1, hkl, c2, c3, hnp1, c16, c17, c18]) x _ _ ls (hm.to (by simp [m_arT, c1, hkl, c2, c3, hnp1, c16, c17, c18])) hW hS (lv_conv (lv_sub hl [1, 2, 3, 0] rfl) (congr (congrArg List.cons rfl) (congr (congrArg List.cons rfl) (congr (congrArg List.cons rfl) (congr (congrArg List.cons (congrArg (fun z9 => ((3 : Nat), Value.int z9)) (show (1 : Int32) = m_arM t k sz from by first | rfl | (simp [m_arM, c1, hkl, c2, c3, hnp1, c16, c17, c18])))) rfl)))))
          · skip
            refine lv_aload_n S.1 S.2.1 dX5_arrive_68 rfl (lv_at hl 1 rfl) ?_
            refine mx_gA S hK hm hW 32 iX5 rfl (by decide) (by decide) (by decide +kernel) dX5_arrive_69 ?_
            refine lv_bipush (v := 12) S.1 S.2.1 dX5_arrive_72 (by decide) ?_
            refine lv_iload_n S.1 S.2.1 dX5_arrive_74 rfl (lv_at hl 2 rfl) ?_
            refine lv_iadd S.1 S.2.1 dX5_arrive_75 ?_
            rw [show (12 : Int32) + nI k = nI (12 + k) from nI_add (12) (k)]
            refine lv_dup2_11 S.1 S.2.1 dX5_arrive_76 rfl rfl ?_
            refine mx_lld S hK hm hW 32 (by decide) (k := (12 + k)) (kw_ixof (k := 12 + k) (n := 20) rfl (by omega) (by decide)) dX5_arrive_77 (v := tB t 32 (12 + k)) rfl ?_
            refine lv_ldc2 (v := 1000) S.1 S.2.1 S.2.2.2.1 (S.2.2.2.2 _ (by decide +kernel)) dX5_arrive_78 ?_
            refine lv_iload_n S.1 S.2.1 dX5_arrive_81 rfl (lv_at hl 3 rfl) ?_
            refine lv_i2l S.1 S.2.1 dX5_arrive_82 rfl ?_
            refine lv_lmul S.1 S.2.1 dX5_arrive_83 ?_
            refine lv_lsub S.1 S.2.1 dX5_arrive_84 ?_
            refine mx_lst S hK hm hW hS 32 (by decide) (k := (12 + k)) (kw_ixof (k := 12 + k) (n := 20) rfl (by omega) (by decide)) dX5_arrive_85 (fun x H locs hm hW hS => ?_)
            refine lv_goto (tgt := 116) S.1 S.2.1 dX5_arrive_86 (by decide) ?_
            exact cut116  (by simp [m_arR, c1, hkl, c2, c3, hnp1, c16, c17]) x _ _ ls (hm.to (by simp [m_arT, c1, hkl, c2, c3, hnp1, c16, c17])) hW hS (lv_conv (lv_sub hl [1, 2, 3, 0] rfl) (congr (congrArg List.cons rfl) (congr (congrArg List.cons rfl) (congr (congrArg List.cons rfl) (congr (congrArg List.cons (congrArg (fun z9 => ((3 : Nat), Value.int z9)) (show (0 : Int32) = m_arM t k sz from by first | rfl | (simp [m_arM, c1, hkl, c2, c3, hnp1, c16, c17])))) rfl)))))
      · skip
        have hnp1 : np = 1000 := by
          rcases Nat.lt_or_ge np 1000 with h | h
          · exact absurd (by first | assumption | exact Classical.not_not.mp (by assumption)) (fun q => Nat.ne_of_lt h ((nI_eq (b := 1000) (by omega) (by decide)).mp q))
          · omega
        refine lv_iconst (v := (-1)) S.1 S.2.1 dX5_arrive_36 (by decide) ?_
        rw [hQQ]
        refine kw_iret S hr hlk hW hS (by decide) (by decide) dX5_arrive_37 ?_
        refine ⟨?_, rfl, hm.to ?_⟩ <;> first | rfl | (simp [m_arr, m_arok, m_arF, m_arP, m_arR, c1, hkl, c2, eq_true c3, hnp1, kw_b]; done) | (simp [m_arr, m_arok, m_arF, m_arP, m_arR, c1, hkl, c2, eq_true c3, hnp1, kw_b, tF_uF, tF_uL, tF_uA, tF_uB, tL_uF, tL_uL, tL_uA, tL_uB, tA_uF, tA_uL, tA_uA, tA_uB, tB_uF, tB_uL, tB_uA, tB_uB, m_arT_A, m_arT_F, m_arT_L, m_arT_B, m_arU_A, m_arU_F, m_arU_L, m_arU_B, m_arS_A, m_arS_F]; done) | contradiction
set_option maxHeartbeats 1000000 in
set_option maxRecDepth 100000 in
/-- arrive, at no class -/
theorem c_X5_arrive_o (l : Launch) (G : kw_G) (nu : Nat → Option Nat) (x z : kw_St) (mo : Nat) (ma : Nat → Nat) (t : mo_T) (ki : Int32) (sz : Int32) (nl : Nat) (np : Nat) (hm : mw nu z mo ma t x) (hki : ∀ k, k < 1000 → ki ≠ nI k) (hnl : tF t 3 = nI nl) (hn8 : nl ≤ 8) (hnp : tF t 4 = nI np) (hp9 : np ≤ 1000) : kw_M l G yX5_arrive wsX5_arrive { frames := 1, cells := 0, slots := 0, locals := 22 } 0 0 [.ref mo, .int (ki), .int (sz)] nu x (fun v nu' y => v = some (.int (-1)) ∧ nu' = nu ∧ mw nu z mo ma (t) y) := by
  refine kw_M.ofW (cc := cX5_arrive) (maxL := 7) (ret := (some .int)) (by decide) rfl (Nat.le_of_ble_eq_true rfl) ?_
  intro p e s m args below meth c A ls S hr hlk hnm hK hZ hA hW hS hl
  have hl : lv_has ls 7 [(0, .ref mo), (1, .int (ki)), (2, .int (sz))] := hl
  have iX5 : ∀ w ∈ wsX50, w ∈ wsX5_arrive := by decide +kernel
  refine lv_iload_n S.1 S.2.1 dX5_arrive_0 rfl (lv_at hl 1 rfl) ?_
  refine lv_iconst (v := 0) S.1 S.2.1 dX5_arrive_1 (by decide) ?_
  refine lv_aload_n S.1 S.2.1 dX5_arrive_2 rfl (lv_at hl 0 rfl) ?_
  refine mx_gI S hK hm hW 3 iX5 rfl (by decide) (by decide +kernel) dX5_arrive_3 (v := nI nl) hnl ?_
  refine lv_iconst (v := 1) S.1 S.2.1 dX5_arrive_6 (by decide) ?_
  refine lv_isub S.1 S.2.1 dX5_arrive_7 ?_
  refine kx_cS (As := [.int (ki), .int (0), .int ((nI nl) - (1))]) (rest := []) (st1 := [.int (kw_b (kw_wi ki 0 ((nI nl) - (1)) = true))]) S hK hZ hA hW hS (c_X5_in l G nu x ki 0 ((nI nl) - (1)) ) (va_cwS 3 S.2.2.2.2 gX5_arrive_X5_in rfl rfl rfl (by decide +kernel) ⟨Nat.le_of_ble_eq_true rfl, Nat.le_of_ble_eq_true rfl⟩) rfl hl.1 rfl (Nat.le_of_ble_eq_true rfl) dX5_arrive_8 ⟨Nat.le_of_ble_eq_true rfl, Nat.le_of_ble_eq_true rfl⟩ rfl (fun H locs hW hS => ?_)
  refine kx_ifz_eq (tgt := 36) S dX5_arrive_11 (by decide) (fun c1 => ?_) (fun c1 => ?_)
  · skip
    refine lv_iconst (v := (-1)) S.1 S.2.1 dX5_arrive_36 (by decide) ?_
    refine kw_iret S hr hlk hW hS (by decide) (by decide) dX5_arrive_37 ?_
    refine ⟨?_, rfl, hm.to ?_⟩ <;> first | rfl | (simp [c1, kw_b]; done) | (simp [c1, kw_b, tF_uF, tF_uL, tF_uA, tF_uB, tL_uF, tL_uL, tL_uA, tL_uB, tA_uF, tA_uL, tA_uA, tA_uB, tB_uF, tB_uL, tB_uA, tB_uB]; done) | contradiction
  · skip
    exact absurd c1 (by rw [kw_wi_out hki (by omega)]; decide)
