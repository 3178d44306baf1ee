/-! the reference: its questions, and how ticks pass -/
theorem lv_conv {ls : Array Slot} {n : Nat} {a b : List (Nat × Value)} (h : lv_has ls n a) (e : a = b) : lv_has ls n b := e ▸ h
set_option maxHeartbeats 1000000 in
set_option maxRecDepth 100000 in
/-- now -/
theorem c_X5_now (l : Launch) (G : kw_G) (nu : Nat → Option Nat) (x z : kw_St) (mo : Nat) (ma : Nat → Nat) (t : mo_T)  (hm : mw nu z mo ma t x)  : kw_M l G yX5_now wsX5_now { frames := 0, cells := 0, slots := 0, locals := 0 } 0 0 [.ref mo] nu x (fun v nu' y => v = some (.int (tF t 1)) ∧ nu' = nu ∧ mw nu z mo ma (t) y) := by
  refine kw_M.ofW (cc := cX5_now) (maxL := 1) (ret := (some .int)) (by decide) rfl (Nat.le_of_ble_eq_true rfl) ?_
  intro p e s m args below meth c A ls S hr hlk hnm hK hZ hA hW hS hl
  have hl : lv_has ls 1 [(0, .ref mo)] := hl
  have iX5 : ∀ w ∈ wsX50, w ∈ wsX5_now := by decide +kernel
  refine lv_aload_n S.1 S.2.1 dX5_now_0 rfl (lv_at hl 0 rfl) ?_
  refine mx_gI S hK hm hW 1 iX5 rfl (by decide) (by decide +kernel) dX5_now_1 (v := tF t 1) rfl ?_
  refine kw_iret S hr hlk hW hS (by decide) (by decide) dX5_now_4 ?_
  refine ⟨?_, rfl, hm.to ?_⟩ <;> first | rfl | (simp [kw_b]; done) | (simp [kw_b, tF_uF, tF_uL, tF_uA, tF_uB, tL_uF, tL_uL, tL_uA, tL_uB, tA_uF, tA_uL, tA_uA, tA_uB, tB_uF, tB_uL, tB_uA, tB_uB]; done) | contradiction
def m_packet (t : mo_T) (np k : Nat) (w : Int32) : Int32 := if k < np then (if w = 0 then tA t 33 k else if w = 1 then tA t 34 k else if w = 2 then tA t 35 k else if w = 3 then tA t 36 k else if w = 4 then tA t 37 k else if w = 5 then tA t 38 k else if w = 6 then (if tA t 41 k = 0 then 0 else 1) else -1) else -1
def m_about (t : mo_T) (nl k : Nat) (w : Int32) : Int32 := if k < nl then (if w = 0 then tA t 19 k else if w = 1 then tA t 20 k else if w = 2 then tA t 21 k else if w = 3 then tA t 22 k else if w = 4 then tA t 23 k else if w = 5 then tA t 24 k else if w = 6 then tA t 25 k else if w = 7 then tA t 26 k else -1) else -1
def m_tokens (t : mo_T) (ng nl k : Nat) (w : Int32) : Int64 := if w = 1 then (if k < ng then tB t 32 (8 + k) else 0) else if k < nl then (if w = 0 then tB t 32 k else if w = 2 then tB t 32 (12 + k) else 0) else 0
def m_tag (t : mo_T) (ng nl k : Nat) (w : Int32) : Int64 := if w = 3 then tL t else if w = 0 then (if k < nl then tB t 27 k else 0) else if (w = 1 ∨ w = 2) ∧ k < ng then (if w = 1 then tB t 10 k else tB t 11 k) else 0
def m_count (t : mo_T) (w : Int32) : Int32 := if w = 0 then tF t 2 else if w = 1 then tF t 3 else if w = 2 then tF t 4 else if w = 3 then tF t 5 else if w = 4 then tF t 6 else if w = 5 then tF t 8 else -1
set_option maxHeartbeats 1000000 in
set_option maxRecDepth 100000 in
/-- packet -/
theorem c_X5_packet_s (l : Launch) (G : kw_G) (nu : Nat → Option Nat) (x z : kw_St) (mo : Nat) (ma : Nat → Nat) (t : mo_T) (k : Nat) (w : Int32) (np : Nat) (hm : mw nu z mo ma t x) (hk : k < 1000) (hnp : tF t 4 = nI np) (hp9 : np ≤ 1000) : kw_M l G yX5_packet wsX5_packet { frames := 1, cells := 0, slots := 0, locals := 22 } 0 0 [.ref mo, .int (nI k), .int (w)] nu x (fun v nu' y => v = some (.int (m_packet t np k w)) ∧ nu' = nu ∧ mw nu z mo ma (t) y) := by
  refine kw_M.ofW (cc := cX5_packet) (maxL := 3) (ret := (some .int)) (by decide) rfl (Nat.le_of_ble_eq_true rfl) ?_
  intro p e s m args below meth c A ls S hr hlk hnm hK hZ hA hW hS hl
  have hl : lv_has ls 3 [(0, .ref mo), (1, .int (nI k)), (2, .int (w))] := hl
  have iX5 : ∀ w ∈ wsX50, w ∈ wsX5_packet := by decide +kernel
  refine lv_iload_n S.1 S.2.1 dX5_packet_0 rfl (lv_at hl 1 rfl) ?_
  refine lv_iconst (v := 0) S.1 S.2.1 dX5_packet_1 (by decide) ?_
  refine lv_aload_n S.1 S.2.1 dX5_packet_2 rfl (lv_at hl 0 rfl) ?_
  refine mx_gI S hK hm hW 4 iX5 rfl (by decide) (by decide +kernel) dX5_packet_3 (v := nI np) hnp ?_
  refine lv_iconst (v := 1) S.1 S.2.1 dX5_packet_6 (by decide) ?_
  refine lv_isub S.1 S.2.1 dX5_packet_7 ?_
  refine kx_cS (As := [.int (nI k), .int (0), .int ((nI np) - (1))]) (rest := []) (st1 := [.int (kw_b (kw_wi (nI k) 0 ((nI np) - (1)) = true))]) S hK hZ hA hW hS (c_X5_in l G nu x (nI k) 0 ((nI np) - (1)) ) (va_cwS 3 S.2.2.2.2 gX5_packet_X5_in rfl rfl rfl (by decide +kernel) ⟨Nat.le_of_ble_eq_true rfl, Nat.le_of_ble_eq_true rfl⟩) rfl hl.1 rfl (Nat.le_of_ble_eq_true rfl) dX5_packet_8 ⟨Nat.le_of_ble_eq_true rfl, Nat.le_of_ble_eq_true rfl⟩ rfl (fun H locs hW hS => ?_)
  refine kx_ifz_ne (tgt := 16) S dX5_packet_11 (by decide) (fun c1 => ?_) (fun c1 => ?_)
  · skip
    have hkl : k < np := kw_wi_lt hk (by omega) (by assumption)
    refine lv_iload_n S.1 S.2.1 dX5_packet_16 rfl (lv_at hl 2 rfl) ?_
    by_cases w2 : w = 0
    · skip
      subst w2
      refine lv_tableIn (tgt := 60) S.1 S.2.1 dX5_packet_17 (by decide) (by decide) rfl (by decide) ?_
      refine lv_aload_n S.1 S.2.1 dX5_packet_60 rfl (lv_at hl 0 rfl) ?_
      refine mx_gA S hK hm hW 33 iX5 rfl (by decide) (by decide) (by decide +kernel) dX5_packet_61 ?_
      refine lv_iload_n S.1 S.2.1 dX5_packet_64 rfl (lv_at hl 1 rfl) ?_
      refine mx_ild S hK hm hW 33 (by decide) (k := k) (kw_ixof (k := k) (n := 1000) rfl (by omega) (by decide)) dX5_packet_65 (v := tA t 33 k) rfl ?_
      refine kw_iret S hr hlk hW hS (by decide) (by decide) dX5_packet_66 ?_
      refine ⟨?_, rfl, hm.to ?_⟩ <;> first | rfl | (simp [m_packet, c1, hkl, kw_b]; done) | (simp [m_packet, c1, hkl, kw_b, tF_uF, tF_uL, tF_uA, tF_uB, tL_uF, tL_uL, tL_uA, tL_uB, tA_uF, tA_uL, tA_uA, tA_uB, tB_uF, tB_uL, tB_uA, tB_uB]; done) | contradiction
    by_cases w3 : w = 1
    · skip
      subst w3
      refine lv_tableIn (tgt := 67) S.1 S.2.1 dX5_packet_17 (by decide) (by decide) rfl (by decide) ?_
      refine lv_aload_n S.1 S.2.1 dX5_packet_67 rfl (lv_at hl 0 rfl) ?_
      refine mx_gA S hK hm hW 34 iX5 rfl (by decide) (by decide) (by decide +kernel) dX5_packet_68 ?_
      refine lv_iload_n S.1 S.2.1 dX5_packet_71 rfl (lv_at hl 1 rfl) ?_
      refine mx_ild S hK hm hW 34 (by decide) (k := k) (kw_ixof (k := k) (n := 1000) rfl (by omega) (by decide)) dX5_packet_72 (v := tA t 34 k) rfl ?_
      refine kw_iret S hr hlk hW hS (by decide) (by decide) dX5_packet_73 ?_
      refine ⟨?_, rfl, hm.to ?_⟩ <;> first | rfl | (simp [m_packet, c1, hkl, w2, kw_b]; done) | (simp [m_packet, c1, hkl, w2, kw_b, tF_uF, tF_uL, tF_uA, tF_uB, tL_uF, tL_uL, tL_uA, tL_uB, tA_uF, tA_uL, tA_uA, tA_uB, tB_uF, tB_uL, tB_uA, tB_uB]; done) | contradiction
    by_cases w4 : w = 2
    · skip
      subst w4
      refine lv_tableIn (tgt := 74) S.1 S.2.1 dX5_packet_17 (by decide) (by decide) rfl (by decide) ?_
      refine lv_aload_n S.1 S.2.1 dX5_packet_74 rfl (lv_at hl 0 rfl) ?_
      refine mx_gA S hK hm hW 35 iX5 rfl (by decide) (by decide) (by decide +kernel) dX5_packet_75 ?_
      refine lv_iload_n S.1 S.2.1 dX5_packet_78 rfl (lv_at hl 1 rfl) ?_
      refine mx_ild S hK hm hW 35 (by decide) (k := k) (kw_ixof (k := k) (n := 1000) rfl (by omega) (by decide)) dX5_packet_79 (v := tA t 35 k) rfl ?_
      refine kw_iret S hr hlk hW hS (by decide) (by decide) dX5_packet_80 ?_
      refine ⟨?_, rfl, hm.to ?_⟩ <;> first | rfl | (simp [m_packet, c1, hkl, w2, w3, kw_b]; done) | (simp [m_packet, c1, hkl, w2, w3, kw_b, tF_uF, tF_uL, tF_uA, tF_uB, tL_uF, tL_uL, tL_uA, tL_uB, tA_uF, tA_uL, tA_uA, tA_uB, tB_uF, tB_uL, tB_uA, tB_uB]; done) | contradiction
    by_cases w5 : w = 3
    · skip
      subst w5
      refine lv_tableIn (tgt := 81) S.1 S.2.1 dX5_packet_17 (by decide) (by decide) rfl (by decide) ?_
      refine lv_aload_n S.1 S.2.1 dX5_packet_81 rfl (lv_at hl 0 rfl) ?_
      refine mx_gA S hK hm hW 36 iX5 rfl (by decide) (by decide) (by decide +kernel) dX5_packet_82 ?_
      refine lv_iload_n S.1 S.2.1 dX5_packet_85 rfl (lv_at hl 1 rfl) ?_
      refine mx_ild S hK hm hW 36 (by decide) (k := k) (kw_ixof (k := k) (n := 1000) rfl (by omega) (by decide)) dX5_packet_86 (v := tA t 36 k) rfl ?_
      refine kw_iret S hr hlk hW hS (by decide) (by decide) dX5_packet_87 ?_
      refine ⟨?_, rfl, hm.to ?_⟩ <;> first | rfl | (simp [m_packet, c1, hkl, w2, w3, w4, kw_b]; done) | (simp [m_packet, c1, hkl, w2, w3, w4, kw_b, tF_uF, tF_uL, tF_uA, tF_uB, tL_uF, tL_uL, tL_uA, tL_uB, tA_uF, tA_uL, tA_uA, tA_uB, tB_uF, tB_uL, tB_uA, tB_uB]; done) | contradiction
    by_cases w6 : w = 4
    · skip
      subst w6
      refine lv_tableIn (tgt := 88) S.1 S.2.1 dX5_packet_17 (by decide) (by decide) rfl (by decide) ?_
      refine lv_aload_n S.1 S.2.1 dX5_packet_88 rfl (lv_at hl 0 rfl) ?_
      refine mx_gA S hK hm hW 37 iX5 rfl (by decide) (by decide) (by decide +kernel) dX5_packet_89 ?_
      refine lv_iload_n S.1 S.2.1 dX5_packet_92 rfl (lv_at hl 1 rfl) ?_
      refine mx_ild S hK hm hW 37 (by decide) (k := k) (kw_ixof (k := k) (n := 1000) rfl (by omega) (by decide)) dX5_packet_93 (v := tA t 37 k) rfl ?_
      refine kw_iret S hr hlk hW hS (by decide) (by decide) dX5_packet_94 ?_
      refine ⟨?_, rfl, hm.to ?_⟩ <;> first | rfl | (simp [m_packet, c1, hkl, w2, w3, w4, w5, kw_b]; done) | (simp [m_packet, c1, hkl, w2, w3, w4, w5, kw_b, tF_uF, tF_uL, tF_uA, tF_uB, tL_uF, tL_uL, tL_uA, tL_uB, tA_uF, tA_uL, tA_uA, tA_uB, tB_uF, tB_uL, tB_uA, tB_uB]; done) | contradiction
    by_cases w7 : w = 5
    · skip
      subst w7
      refine lv_tableIn (tgt := 95) S.1 S.2.1 dX5_packet_17 (by decide) (by decide) rfl (by decide) ?_
      refine lv_aload_n S.1 S.2.1 dX5_packet_95 rfl (lv_at hl 0 rfl) ?_
      refine mx_gA S hK hm hW 38 iX5 rfl (by decide) (by decide) (by decide +kernel) dX5_packet_96 ?_
      refine lv_iload_n S.1 S.2.1 dX5_packet_99 rfl (lv_at hl 1 rfl) ?_
      refine mx_ild S hK hm hW 38 (by decide) (k := k) (kw_ixof (k := k) (n := 1000) rfl (by omega) (by decide)) dX5_packet_100 (v := tA t 38 k) rfl ?_
      refine kw_iret S hr hlk hW hS (by decide) (by decide) dX5_packet_101 ?_
      refine ⟨?_, rfl, hm.to ?_⟩ <;> first | rfl | (simp [m_packet, c1, hkl, w2, w3, w4, w5, w6, kw_b]; done) | (simp [m_packet, c1, hkl, w2, w3, w4, w5, w6, kw_b, tF_uF, tF_uL, tF_uA, tF_uB, tL_uF, tL_uL, tL_uA, tL_uB, tA_uF, tA_uL, tA_uA, tA_uB, tB_uF, tB_uL, tB_uA, tB_uB]; done) | contradiction
    by_cases w8 : w = 6
    · skip
      subst w8
      refine lv_tableIn (tgt := 102) S.1 S.2.1 dX5_packet_17 (by decide) (by decide) rfl (by decide) ?_
      refine lv_aload_n S.1 S.2.1 dX5_packet_102 rfl (lv_at hl 0 rfl) ?_
      refine mx_gA S hK hm hW 41 iX5 rfl (by decide) (by decide) (by decide +kernel) dX5_packet_103 ?_
      refine lv_iload_n S.1 S.2.1 dX5_packet_106 rfl (lv_at hl 1 rfl) ?_
      refine mx_zld S hK hm hW 41 (by decide) (k := k) (kw_ixof (k := k) (n := 1000) rfl (by omega) (by decide)) dX5_packet_107 (v := tA t 41 k) rfl ?_
      refine lv_if_eq (tgt := 115) S.1 S.2.1 dX5_packet_108 (by decide) (fun c9 => ?_) (fun c9 => ?_)
      · skip
        refine lv_iconst (v := 0) S.1 S.2.1 dX5_packet_115 (by decide) ?_
        refine kw_iret S hr hlk hW hS (by decide) (by decide) dX5_packet_116 ?_
        refine ⟨?_, rfl, hm.to ?_⟩ <;> first | rfl | (simp [m_packet, c1, hkl, w2, w3, w4, w5, w6, w7, eq_true c9, kw_b]; done) | (simp [m_packet, c1, hkl, w2, w3, w4, w5, w6, w7, eq_true c9, kw_b, tF_uF, tF_uL, tF_uA, tF_uB, tL_uF, tL_uL, tL_uA, tL_uB, tA_uF, tA_uL, tA_uA, tA_uB, tB_uF, tB_uL, tB_uA, tB_uB]; done) | contradiction
      · skip
        refine lv_iconst (v := 1) S.1 S.2.1 dX5_packet_111 (by decide) ?_
        refine lv_goto (tgt := 116) S.1 S.2.1 dX5_packet_112 (by decide) ?_
        refine kw_iret S hr hlk hW hS (by decide) (by decide) dX5_packet_116 ?_
        refine ⟨?_, rfl, hm.to ?_⟩ <;> first | rfl | (simp [m_packet, c1, hkl, w2, w3, w4, w5, w6, w7, c9, kw_b]; done) | (simp [m_packet, c1, hkl, w2, w3, w4, w5, w6, w7, c9, kw_b, tF_uF, tF_uL, tF_uA, tF_uB, tL_uF, tL_uL, tL_uA, tL_uB, tA_uF, tA_uL, tA_uA, tA_uB, tB_uF, tB_uL, tB_uA, tB_uB]; done) | contradiction
    refine lv_tableOut (tgt := 117) S.1 S.2.1 dX5_packet_17 (kw_out7 w2 w3 w4 w5 w6 w7 w8) (by decide) ?_
    refine lv_iconst (v := (-1)) S.1 S.2.1 dX5_packet_117 (by decide) ?_
    refine kw_iret S hr hlk hW hS (by decide) (by decide) dX5_packet_118 ?_
    refine ⟨?_, rfl, hm.to ?_⟩ <;> first | rfl | (simp [m_packet, c1, hkl, w2, w3, w4, w5, w6, w7, w8, kw_b]; done) | (simp [m_packet, c1, hkl, w2, w3, w4, w5, w6, w7, w8, kw_b, tF_uF, tF_uL, tF_uA, tF_uB, tL_uF, tL_uL, tL_uA, tL_uB, tA_uF, tA_uL, tA_uA, tA_uB, tB_uF, tB_uL, tB_uA, tB_uB]; done) | contradiction
  · skip
    have hkl : ¬ k < np := kw_wi_ge hk (by omega) (by assumption)
    refine lv_iconst (v := (-1)) S.1 S.2.1 dX5_packet_14 (by decide) ?_
    refine kw_iret S hr hlk hW hS (by decide) (by decide) dX5_packet_15 ?_
    refine ⟨?_, rfl, hm.to ?_⟩ <;> first | rfl | (simp [m_packet, c1, hkl, kw_b]; done) | (simp [m_packet, c1, hkl, kw_b, tF_uF, tF_uL, tF_uA, tF_uB, tL_uF, tL_uL, tL_uA, tL_uB, tA_uF, tA_uL, tA_uA, tA_uB, tB_uF, tB_uL, tB_uA, tB_uB]; done) | contradiction
set_option maxHeartbeats 1000000 in
set_option maxRecDepth 100000 in
/-- packet, of none -/
theorem c_X5_packet_o (l : Launch) (G : kw_G) (nu : Nat → Option Nat) (x z : kw_St) (mo : Nat) (ma : Nat → Nat) (t : mo_T) (ki : Int32) (w : Int32) (np : Nat) (hm : mw nu z mo ma t x) (hki : ∀ k, k < 1000 → ki ≠ nI k) (hnp : tF t 4 = nI np) (hp9 : np ≤ 1000) : kw_M l G yX5_packet wsX5_packet { frames := 1, cells := 0, slots := 0, locals := 22 } 0 0 [.ref mo, .int (ki), .int (w)] nu x (fun v nu' y => v = some (.int (-1)) ∧ nu' = nu ∧ mw nu z mo ma (t) y) := by
  refine kw_M.ofW (cc := cX5_packet) (maxL := 3) (ret := (some .int)) (by decide) rfl (Nat.le_of_ble_eq_true rfl) ?_
  intro p e s m args below meth c A ls S hr hlk hnm hK hZ hA hW hS hl
  have hl : lv_has ls 3 [(0, .ref mo), (1, .int (ki)), (2, .int (w))] := hl
  have iX5 : ∀ w ∈ wsX50, w ∈ wsX5_packet := by decide +kernel
  refine lv_iload_n S.1 S.2.1 dX5_packet_0 rfl (lv_at hl 1 rfl) ?_
  refine lv_iconst (v := 0) S.1 S.2.1 dX5_packet_1 (by decide) ?_
  refine lv_aload_n S.1 S.2.1 dX5_packet_2 rfl (lv_at hl 0 rfl) ?_
  refine mx_gI S hK hm hW 4 iX5 rfl (by decide) (by decide +kernel) dX5_packet_3 (v := nI np) hnp ?_
  refine lv_iconst (v := 1) S.1 S.2.1 dX5_packet_6 (by decide) ?_
  refine lv_isub S.1 S.2.1 dX5_packet_7 ?_
  refine kx_cS (As := [.int (ki), .int (0), .int ((nI np) - (1))]) (rest := []) (st1 := [.int (kw_b (kw_wi ki 0 ((nI np) - (1)) = true))]) S hK hZ hA hW hS (c_X5_in l G nu x ki 0 ((nI np) - (1)) ) (va_cwS 3 S.2.2.2.2 gX5_packet_X5_in rfl rfl rfl (by decide +kernel) ⟨Nat.le_of_ble_eq_true rfl, Nat.le_of_ble_eq_true rfl⟩) rfl hl.1 rfl (Nat.le_of_ble_eq_true rfl) dX5_packet_8 ⟨Nat.le_of_ble_eq_true rfl, Nat.le_of_ble_eq_true rfl⟩ rfl (fun H locs hW hS => ?_)
  refine kx_ifz_ne (tgt := 16) S dX5_packet_11 (by decide) (fun c1 => ?_) (fun c1 => ?_)
  · skip
    exact absurd c1 (by rw [kw_wi_out hki (by omega)]; decide)
  · skip
    refine lv_iconst (v := (-1)) S.1 S.2.1 dX5_packet_14 (by decide) ?_
    refine kw_iret S hr hlk hW hS (by decide) (by decide) dX5_packet_15 ?_
    refine ⟨?_, rfl, hm.to ?_⟩ <;> first | rfl | (simp [c1, kw_b]; done) | (simp [c1, kw_b, tF_uF, tF_uL, tF_uA, tF_uB, tL_uF, tL_uL, tL_uA, tL_uB, tA_uF, tA_uL, tA_uA, tA_uB, tB_uF, tB_uL, tB_uA, tB_uB]; done) | contradiction
set_option maxHeartbeats 1000000 in
set_option maxRecDepth 100000 in
/-- about -/
theorem c_X5_about_s (l : Launch) (G : kw_G) (nu : Nat → Option Nat) (x z : kw_St) (mo : Nat) (ma : Nat → Nat) (t : mo_T) (k : Nat) (w : Int32) (nl : Nat) (hm : mw nu z mo ma t x) (hk : k < 1000) (hnl : tF t 3 = nI nl) (hn8 : nl ≤ 8) : kw_M l G yX5_about wsX5_about { frames := 1, cells := 0, slots := 0, locals := 22 } 0 0 [.ref mo, .int (nI k), .int (w)] nu x (fun v nu' y => v = some (.int (m_about t nl k w)) ∧ nu' = nu ∧ mw nu z mo ma (t) y) := by
  refine kw_M.ofW (cc := cX5_about) (maxL := 3) (ret := (some .int)) (by decide) rfl (Nat.le_of_ble_eq_true rfl) ?_
  intro p e s m args below meth c A ls S hr hlk hnm hK hZ hA hW hS hl
  have hl : lv_has ls 3 [(0, .ref mo), (1, .int (nI k)), (2, .int (w))] := hl
  have iX5 : ∀ w ∈ wsX50, w ∈ wsX5_about := by decide +kernel
  refine lv_iload_n S.1 S.2.1 dX5_about_0 rfl (lv_at hl 1 rfl) ?_
  refine lv_iconst (v := 0) S.1 S.2.1 dX5_about_1 (by decide) ?_
  refine lv_aload_n S.1 S.2.1 dX5_about_2 rfl (lv_at hl 0 rfl) ?_
  refine mx_gI S hK hm hW 3 iX5 rfl (by decide) (by decide +kernel) dX5_about_3 (v := nI nl) hnl ?_
  refine lv_iconst (v := 1) S.1 S.2.1 dX5_about_6 (by decide) ?_
  refine lv_isub S.1 S.2.1 dX5_about_7 ?_
  refine kx_cS (As := [.int (nI k), .int (0), .int ((nI nl) - (1))]) (rest := []) (st1 := [.int (kw_b (kw_wi (nI k) 0 ((nI nl) - (1)) = true))]) S hK hZ hA hW hS (c_X5_in l G nu x (nI k) 0 ((nI nl) - (1)) ) (va_cwS 3 S.2.2.2.2 gX5_about_X5_in rfl rfl rfl (by decide +kernel) ⟨Nat.le_of_ble_eq_true rfl, Nat.le_of_ble_eq_true rfl⟩) rfl hl.1 rfl (Nat.le_of_ble_eq_true rfl) dX5_about_8 ⟨Nat.le_of_ble_eq_true rfl, Nat.le_of_ble_eq_true rfl⟩ rfl (fun H locs hW hS => ?_)
  refine kx_ifz_ne (tgt := 16) S dX5_about_11 (by decide) (fun c1 => ?_) (fun c1 => ?_)
  · skip
    have hkl : k < nl := kw_wi_lt hk (by omega) (by assumption)
    refine lv_iload_n S.1 S.2.1 dX5_about_16 rfl (lv_at hl 2 rfl) ?_
    by_cases w2 : w = 0
    · skip
      subst w2
      refine lv_tableIn (tgt := 64) S.1 S.2.1 dX5_about_17 (by decide) (by decide) rfl (by decide) ?_
      refine lv_aload_n S.1 S.2.1 dX5_about_64 rfl (lv_at hl 0 rfl) ?_
      refine mx_gA S hK hm hW 19 iX5 rfl (by decide) (by decide) (by decide +kernel) dX5_about_65 ?_
      refine lv_iload_n S.1 S.2.1 dX5_about_68 rfl (lv_at hl 1 rfl) ?_
      refine mx_ild S hK hm hW 19 (by decide) (k := k) (kw_ixof (k := k) (n := 8) rfl (by omega) (by decide)) dX5_about_69 (v := tA t 19 k) rfl ?_
      refine kw_iret S hr hlk hW hS (by decide) (by decide) dX5_about_70 ?_
      refine ⟨?_, rfl, hm.to ?_⟩ <;> first | rfl | (simp [m_about, c1, hkl, kw_b]; done) | (simp [m_about, c1, hkl, kw_b, tF_uF, tF_uL, tF_uA, tF_uB, tL_uF, tL_uL, tL_uA, tL_uB, tA_uF, tA_uL, tA_uA, tA_uB, tB_uF, tB_uL, tB_uA, tB_uB]; done) | contradiction
    by_cases w3 : w = 1
    · skip
      subst w3
      refine lv_tableIn (tgt := 71) S.1 S.2.1 dX5_about_17 (by decide) (by decide) rfl (by decide) ?_
      refine lv_aload_n S.1 S.2.1 dX5_about_71 rfl (lv_at hl 0 rfl) ?_
      refine mx_gA S hK hm hW 20 iX5 rfl (by decide) (by decide) (by decide +kernel) dX5_about_72 ?_
      refine lv_iload_n S.1 S.2.1 dX5_about_75 rfl (lv_at hl 1 rfl) ?_
      refine mx_ild S hK hm hW 20 (by decide) (k := k) (kw_ixof (k := k) (n := 8) rfl (by omega) (by decide)) dX5_about_76 (v := tA t 20 k) rfl ?_
      refine kw_iret S hr hlk hW hS (by decide) (by decide) dX5_about_77 ?_
      refine ⟨?_, rfl, hm.to ?_⟩ <;> first | rfl | (simp [m_about, c1, hkl, w2, kw_b]; done) | (simp [m_about, c1, hkl, w2, kw_b, tF_uF, tF_uL, tF_uA, tF_uB, tL_uF, tL_uL, tL_uA, tL_uB, tA_uF, tA_uL, tA_uA, tA_uB, tB_uF, tB_uL, tB_uA, tB_uB]; done) | contradiction
    by_cases w4 : w = 2
    · skip
      subst w4
      refine lv_tableIn (tgt := 78) S.1 S.2.1 dX5_about_17 (by decide) (by decide) rfl (by decide) ?_
      refine lv_aload_n S.1 S.2.1 dX5_about_78 rfl (lv_at hl 0 rfl) ?_
      refine mx_gA S hK hm hW 21 iX5 rfl (by decide) (by decide) (by decide +kernel) dX5_about_79 ?_
      refine lv_iload_n S.1 S.2.1 dX5_about_82 rfl (lv_at hl 1 rfl) ?_
      refine mx_ild S hK hm hW 21 (by decide) (k := k) (kw_ixof (k := k) (n := 8) rfl (by omega) (by decide)) dX5_about_83 (v := tA t 21 k) rfl ?_
      refine kw_iret S hr hlk hW hS (by decide) (by decide) dX5_about_84 ?_
      refine ⟨?_, rfl, hm.to ?_⟩ <;> first | rfl | (simp [m_about, c1, hkl, w2, w3, kw_b]; done) | (simp [m_about, c1, hkl, w2, w3, kw_b, tF_uF, tF_uL, tF_uA, tF_uB, tL_uF, tL_uL, tL_uA, tL_uB, tA_uF, tA_uL, tA_uA, tA_uB, tB_uF, tB_uL, tB_uA, tB_uB]; done) | contradiction
    by_cases w5 : w = 3
    · skip
      subst w5
      refine lv_tableIn (tgt := 85) S.1 S.2.1 dX5_about_17 (by decide) (by decide) rfl (by decide) ?_
      refine lv_aload_n S.1 S.2.1 dX5_about_85 rfl (lv_at hl 0 rfl) ?_
      refine mx_gA S hK hm hW 22 iX5 rfl (by decide) (by decide) (by decide +kernel) dX5_about_86 ?_
      refine lv_iload_n S.1 S.2.1 dX5_about_89 rfl (lv_at hl 1 rfl) ?_
      refine mx_ild S hK hm hW 22 (by decide) (k := k) (kw_ixof (k := k) (n := 8) rfl (by omega) (by decide)) dX5_about_90 (v := tA t 22 k) rfl ?_
      refine kw_iret S hr hlk hW hS (by decide) (by decide) dX5_about_91 ?_
      refine ⟨?_, rfl, hm.to ?_⟩ <;> first | rfl | (simp [m_about, c1, hkl, w2, w3, w4, kw_b]; done) | (simp [m_about, c1, hkl, w2, w3, w4, kw_b, tF_uF, tF_uL, tF_uA, tF_uB, tL_uF, tL_uL, tL_uA, tL_uB, tA_uF, tA_uL, tA_uA, tA_uB, tB_uF, tB_uL, tB_uA, tB_uB]; done) | contradiction
    by_cases w6 : w = 4
    · skip
      subst w6
      refine lv_tableIn (tgt := 92) S.1 S.2.1 dX5_about_17 (by decide) (by decide) rfl (by decide) ?_
      refine lv_aload_n S.1 S.2.1 dX5_about_92 rfl (lv_at hl 0 rfl) ?_
      refine mx_gA S hK hm hW 23 iX5 rfl (by decide) (by decide) (by decide +kernel) dX5_about_93 ?_
      refine lv_iload_n S.1 S.2.1 dX5_about_96 rfl (lv_at hl 1 rfl) ?_
      refine mx_ild S hK hm hW 23 (by decide) (k := k) (kw_ixof (k := k) (n := 8) rfl (by omega) (by decide)) dX5_about_97 (v := tA t 23 k) rfl ?_
      refine kw_iret S hr hlk hW hS (by decide) (by decide) dX5_about_98 ?_
      refine ⟨?_, rfl, hm.to ?_⟩ <;> first | rfl | (simp [m_about, c1, hkl, w2, w3, w4, w5, kw_b]; done) | (simp [m_about, c1, hkl, w2, w3, w4, w5, kw_b, tF_uF, tF_uL, tF_uA, tF_uB, tL_uF, tL_uL, tL_uA, tL_uB, tA_uF, tA_uL, tA_uA, tA_uB, tB_uF, tB_uL, tB_uA, tB_uB]; done) | contradiction
    by_cases w7 : w = 5
    · skip
      subst w7
      refine lv_tableIn (tgt := 99) S.1 S.2.1 dX5_about_17 (by decide) (by decide) rfl (by decide) ?_
      refine lv_aload_n S.1 S.2.1 dX5_about_99 rfl (lv_at hl 0 rfl) ?_
      refine mx_gA S hK hm hW 24 iX5 rfl (by decide) (by decide) (by decide +kernel) dX5_about_100 ?_
      refine lv_iload_n S.1 S.2.1 dX5_about_103 rfl (lv_at hl 1 rfl) ?_
      refine mx_ild S hK hm hW 24 (by decide) (k := k) (kw_ixof (k := k) (n := 8) rfl (by omega) (by decide)) dX5_about_104 (v := tA t 24 k) rfl ?_
      refine kw_iret S hr hlk hW hS (by decide) (by decide) dX5_about_105 ?_
      refine ⟨?_, rfl, hm.to ?_⟩ <;> first | rfl | (simp [m_about, c1, hkl, w2, w3, w4, w5, w6, kw_b]; done) | (simp [m_about, c1, hkl, w2, w3, w4, w5, w6, kw_b, tF_uF, tF_uL, tF_uA, tF_uB, tL_uF, tL_uL, tL_uA, tL_uB, tA_uF, tA_uL, tA_uA, tA_uB, tB_uF, tB_uL, tB_uA, tB_uB]; done) | contradiction
    by_cases w8 : w = 6
    · skip
      subst w8
      refine lv_tableIn (tgt := 106) S.1 S.2.1 dX5_about_17 (by decide) (by decide) rfl (by decide) ?_
      refine lv_aload_n S.1 S.2.1 dX5_about_106 rfl (lv_at hl 0 rfl) ?_
      refine mx_gA S hK hm hW 25 iX5 rfl (by decide) (by decide) (by decide +kernel) dX5_about_107 ?_
      refine lv_iload_n S.1 S.2.1 dX5_about_110 rfl (lv_at hl 1 rfl) ?_
      refine mx_ild S hK hm hW 25 (by decide) (k := k) (kw_ixof (k := k) (n := 8) rfl (by omega) (by decide)) dX5_about_111 (v := tA t 25 k) rfl ?_
      refine kw_iret S hr hlk hW hS (by decide) (by decide) dX5_about_112 ?_
      refine ⟨?_, rfl, hm.to ?_⟩ <;> first | rfl | (simp [m_about, c1, hkl, w2, w3, w4, w5, w6, w7, kw_b]; done) | (simp [m_about, c1, hkl, w2, w3, w4, w5, w6, w7, kw_b, tF_uF, tF_uL, tF_uA, tF_uB, tL_uF, tL_uL, tL_uA, tL_uB, tA_uF, tA_uL, tA_uA, tA_uB, tB_uF, tB_uL, tB_uA, tB_uB]; done) | contradiction
    by_cases w9 : w = 7
    · skip
      subst w9
      refine lv_tableIn (tgt := 113) S.1 S.2.1 dX5_about_17 (by decide) (by decide) rfl (by decide) ?_
      refine lv_aload_n S.1 S.2.1 dX5_about_113 rfl (lv_at hl 0 rfl) ?_
      refine mx_gA S hK hm hW 26 iX5 rfl (by decide) (by decide) (by decide +kernel) dX5_about_114 ?_
      refine lv_iload_n S.1 S.2.1 dX5_about_117 rfl (lv_at hl 1 rfl) ?_
      refine mx_ild S hK hm hW 26 (by decide) (k := k) (kw_ixof (k := k) (n := 8) rfl (by omega) (by decide)) dX5_about_118 (v := tA t 26 k) rfl ?_
      refine kw_iret S hr hlk hW hS (by decide) (by decide) dX5_about_119 ?_
      refine ⟨?_, rfl, hm.to ?_⟩ <;> first | rfl | (simp [m_about, c1, hkl, w2, w3, w4, w5, w6, w7, w8, kw_b]; done) | (simp [m_about, c1, hkl, w2, w3, w4, w5, w6, w7, w8, kw_b, tF_uF, tF_uL, tF_uA, tF_uB, tL_uF, tL_uL, tL_uA, tL_uB, tA_uF, tA_uL, tA_uA, tA_uB, tB_uF, tB_uL, tB_uA, tB_uB]; done) | contradiction
    refine lv_tableOut (tgt := 120) S.1 S.2.1 dX5_about_17 (kw_out8 w2 w3 w4 w5 w6 w7 w8 w9) (by decide) ?_
    refine lv_iconst (v := (-1)) S.1 S.2.1 dX5_about_120 (by decide) ?_
    refine kw_iret S hr hlk hW hS (by decide) (by decide) dX5_about_121 ?_
    refine ⟨?_, rfl, hm.to ?_⟩ <;> first | rfl | (simp [m_about, c1, hkl, w2, w3, w4, w5, w6, w7, w8, w9, kw_b]; done) | (simp [m_about, c1, hkl, w2, w3, w4, w5, w6, w7, w8, w9, kw_b, tF_uF, tF_uL, tF_uA, tF_uB, tL_uF, tL_uL, tL_uA, tL_uB, tA_uF, tA_uL, tA_uA, tA_uB, tB_uF, tB_uL, tB_uA, tB_uB]; done) | contradiction
  · skip
    have hkl : ¬ k < nl := kw_wi_ge hk (by omega) (by assumption)
    refine lv_iconst (v := (-1)) S.1 S.2.1 dX5_about_14 (by decide) ?_
    refine kw_iret S hr hlk hW hS (by decide) (by decide) dX5_about_15 ?_
    refine ⟨?_, rfl, hm.to ?_⟩ <;> first | rfl | (simp [m_about, c1, hkl, kw_b]; done) | (simp [m_about, c1, hkl, kw_b, tF_uF, tF_uL, tF_uA, tF_uB, tL_uF, tL_uL, tL_uA, tL_uB, tA_uF, tA_uL, tA_uA, tA_uB, tB_uF, tB_uL, tB_uA, tB_uB]; done) | contradiction
set_option maxHeartbeats 1000000 in
set_option maxRecDepth 100000 in
/-- about, of none -/
theorem c_X5_about_o (l : Launch) (G : kw_G) (nu : Nat → Option Nat) (x z : kw_St) (mo : Nat) (ma : Nat → Nat) (t : mo_T) (ki : Int32) (w : Int32) (nl : Nat) (hm : mw nu z mo ma t x) (hki : ∀ k, k < 1000 → ki ≠ nI k) (hnl : tF t 3 = nI nl) (hn8 : nl ≤ 8) : kw_M l G yX5_about wsX5_about { frames := 1, cells := 0, slots := 0, locals := 22 } 0 0 [.ref mo, .int (ki), .int (w)] nu x (fun v nu' y => v = some (.int (-1)) ∧ nu' = nu ∧ mw nu z mo ma (t) y) := by
  refine kw_M.ofW (cc := cX5_about) (maxL := 3) (ret := (some .int)) (by decide) rfl (Nat.le_of_ble_eq_true rfl) ?_
  intro p e s m args below meth c A ls S hr hlk hnm hK hZ hA hW hS hl
  have hl : lv_has ls 3 [(0, .ref mo), (1, .int (ki)), (2, .int (w))] := hl
  have iX5 : ∀ w ∈ wsX50, w ∈ wsX5_about := by decide +kernel
  refine lv_iload_n S.1 S.2.1 dX5_about_0 rfl (lv_at hl 1 rfl) ?_
  refine lv_iconst (v := 0) S.1 S.2.1 dX5_about_1 (by decide) ?_
  refine lv_aload_n S.1 S.2.1 dX5_about_2 rfl (lv_at hl 0 rfl) ?_
  refine mx_gI S hK hm hW 3 iX5 rfl (by decide) (by decide +kernel) dX5_about_3 (v := nI nl) hnl ?_
  refine lv_iconst (v := 1) S.1 S.2.1 dX5_about_6 (by decide) ?_
  refine lv_isub S.1 S.2.1 dX5_about_7 ?_
  refine kx_cS (As := [.int (ki), .int (0), .int ((nI nl) - (1))]) (rest := []) (st1 := [.int (kw_b (kw_wi ki 0 ((nI nl) - (1)) = true))]) S hK hZ hA hW hS (c_X5_in l G nu x ki 0 ((nI nl) - (1)) ) (va_cwS 3 S.2.2.2.2 gX5_about_X5_in rfl rfl rfl (by decide +kernel) ⟨Nat.le_of_ble_eq_true rfl, Nat.le_of_ble_eq_true rfl⟩) rfl hl.1 rfl (Nat.le_of_ble_eq_true rfl) dX5_about_8 ⟨Nat.le_of_ble_eq_true rfl, Nat.le_of_ble_eq_true rfl⟩ rfl (fun H locs hW hS => ?_)
  refine kx_ifz_ne (tgt := 16) S dX5_about_11 (by decide) (fun c1 => ?_) (fun c1 => ?_)
  · skip
    exact absurd c1 (by rw [kw_wi_out hki (by omega)]; decide)
  · skip
    refine lv_iconst (v := (-1)) S.1 S.2.1 dX5_about_14 (by decide) ?_
    refine kw_iret S hr hlk hW hS (by decide) (by decide) dX5_about_15 ?_
    refine ⟨?_, rfl, hm.to ?_⟩ <;> first | rfl | (simp [c1, kw_b]; done) | (simp [c1, kw_b, tF_uF, tF_uL, tF_uA, tF_uB, tL_uF, tL_uL, tL_uA, tL_uB, tA_uF, tA_uL, tA_uA, tA_uB, tB_uF, tB_uL, tB_uA, tB_uB]; done) | contradiction
set_option maxHeartbeats 1000000 in
set_option maxRecDepth 100000 in
/-- sent -/
theorem c_X5_sent_s (l : Launch) (G : kw_G) (nu : Nat → Option Nat) (x z : kw_St) (mo : Nat) (ma : Nat → Nat) (t : mo_T) (k : Nat) (nb : Nat) (hm : mw nu z mo ma t x) (hk : k < 1000) (hnb : tF t 5 = nI nb) (hb9 : nb ≤ 1000) : kw_M l G yX5_sent wsX5_sent { frames := 1, cells := 0, slots := 0, locals := 22 } 0 0 [.ref mo, .int (nI k)] nu x (fun v nu' y => v = some (.int (if k < nb then tA t 40 k else -1)) ∧ nu' = nu ∧ mw nu z mo ma (t) y) := by
  refine kw_M.ofW (cc := cX5_sent) (maxL := 2) (ret := (some .int)) (by decide) rfl (Nat.le_of_ble_eq_true rfl) ?_
  intro p e s m args below meth c A ls S hr hlk hnm hK hZ hA hW hS hl
  have hl : lv_has ls 2 [(0, .ref mo), (1, .int (nI k))] := hl
  have iX5 : ∀ w ∈ wsX50, w ∈ wsX5_sent := by decide +kernel
  refine lv_iload_n S.1 S.2.1 dX5_sent_0 rfl (lv_at hl 1 rfl) ?_
  refine lv_iconst (v := 0) S.1 S.2.1 dX5_sent_1 (by decide) ?_
  refine lv_aload_n S.1 S.2.1 dX5_sent_2 rfl (lv_at hl 0 rfl) ?_
  refine mx_gI S hK hm hW 5 iX5 rfl (by decide) (by decide +kernel) dX5_sent_3 (v := nI nb) hnb ?_
  refine lv_iconst (v := 1) S.1 S.2.1 dX5_sent_6 (by decide) ?_
  refine lv_isub S.1 S.2.1 dX5_sent_7 ?_
  refine kx_cS (As := [.int (nI k), .int (0), .int ((nI nb) - (1))]) (rest := []) (st1 := [.int (kw_b (kw_wi (nI k) 0 ((nI nb) - (1)) = true))]) S hK hZ hA hW hS (c_X5_in l G nu x (nI k) 0 ((nI nb) - (1)) ) (va_cwS 3 S.2.2.2.2 gX5_sent_X5_in rfl rfl rfl (by decide +kernel) ⟨Nat.le_of_ble_eq_true rfl, Nat.le_of_ble_eq_true rfl⟩) rfl hl.1 rfl (Nat.le_of_ble_eq_true rfl) dX5_sent_8 ⟨Nat.le_of_ble_eq_true rfl, Nat.le_of_ble_eq_true rfl⟩ rfl (fun H locs hW hS => ?_)
  refine kx_ifz_eq (tgt := 23) S dX5_sent_11 (by decide) (fun c1 => ?_) (fun c1 => ?_)
  · skip
    have hkl : ¬ k < nb := kw_wi_ge hk (by omega) (by assumption)
    refine lv_iconst (v := (-1)) S.1 S.2.1 dX5_sent_23 (by decide) ?_
    refine kw_iret S hr hlk hW hS (by decide) (by decide) dX5_sent_24 ?_
    refine ⟨?_, rfl, hm.to ?_⟩ <;> first | rfl | (simp [c1, hkl, kw_b]; done) | (simp [c1, hkl, kw_b, tF_uF, tF_uL, tF_uA, tF_uB, tL_uF, tL_uL, tL_uA, tL_uB, tA_uF, tA_uL, tA_uA, tA_uB, tB_uF, tB_uL, tB_uA, tB_uB]; done) | contradiction
  · skip
    have hkl : k < nb := kw_wi_lt hk (by omega) (by assumption)
    refine lv_aload_n S.1 S.2.1 dX5_sent_14 rfl (lv_at hl 0 rfl) ?_
    refine mx_gA S hK hm hW 40 iX5 rfl (by decide) (by decide) (by decide +kernel) dX5_sent_15 ?_
    refine lv_iload_n S.1 S.2.1 dX5_sent_18 rfl (lv_at hl 1 rfl) ?_
    refine mx_ild S hK hm hW 40 (by decide) (k := k) (kw_ixof (k := k) (n := 1000) rfl (by omega) (by decide)) dX5_sent_19 (v := tA t 40 k) rfl ?_
    refine lv_goto (tgt := 24) S.1 S.2.1 dX5_sent_20 (by decide) ?_
    refine kw_iret S hr hlk hW hS (by decide) (by decide) dX5_sent_24 ?_
    refine ⟨?_, rfl, hm.to ?_⟩ <;> first | rfl | (simp [c1, hkl, kw_b]; done) | (simp [c1, hkl, kw_b, tF_uF, tF_uL, tF_uA, tF_uB, tL_uF, tL_uL, tL_uA, tL_uB, tA_uF, tA_uL, tA_uA, tA_uB, tB_uF, tB_uL, tB_uA, tB_uB]; done) | contradiction
set_option maxHeartbeats 1000000 in
set_option maxRecDepth 100000 in
/-- sent, none -/
theorem c_X5_sent_o (l : Launch) (G : kw_G) (nu : Nat → Option Nat) (x z : kw_St) (mo : Nat) (ma : Nat → Nat) (t : mo_T) (ki : Int32) (nb : Nat) (hm : mw nu z mo ma t x) (hki : ∀ k, k < 1000 → ki ≠ nI k) (hnb : tF t 5 = nI nb) (hb9 : nb ≤ 1000) : kw_M l G yX5_sent wsX5_sent { frames := 1, cells := 0, slots := 0, locals := 22 } 0 0 [.ref mo, .int (ki)] nu x (fun v nu' y => v = some (.int (-1)) ∧ nu' = nu ∧ mw nu z mo ma (t) y) := by
  refine kw_M.ofW (cc := cX5_sent) (maxL := 2) (ret := (some .int)) (by decide) rfl (Nat.le_of_ble_eq_true rfl) ?_
  intro p e s m args below meth c A ls S hr hlk hnm hK hZ hA hW hS hl
  have hl : lv_has ls 2 [(0, .ref mo), (1, .int (ki))] := hl
  have iX5 : ∀ w ∈ wsX50, w ∈ wsX5_sent := by decide +kernel
  refine lv_iload_n S.1 S.2.1 dX5_sent_0 rfl (lv_at hl 1 rfl) ?_
  refine lv_iconst (v := 0) S.1 S.2.1 dX5_sent_1 (by decide) ?_
  refine lv_aload_n S.1 S.2.1 dX5_sent_2 rfl (lv_at hl 0 rfl) ?_
  refine mx_gI S hK hm hW 5 iX5 rfl (by decide) (by decide +kernel) dX5_sent_3 (v := nI nb) hnb ?_
  refine lv_iconst (v := 1) S.1 S.2.1 dX5_sent_6 (by decide) ?_
  refine lv_isub S.1 S.2.1 dX5_sent_7 ?_
  refine kx_cS (As := [.int (ki), .int (0), .int ((nI nb) - (1))]) (rest := []) (st1 := [.int (kw_b (kw_wi ki 0 ((nI nb) - (1)) = true))]) S hK hZ hA hW hS (c_X5_in l G nu x ki 0 ((nI nb) - (1)) ) (va_cwS 3 S.2.2.2.2 gX5_sent_X5_in rfl rfl rfl (by decide +kernel) ⟨Nat.le_of_ble_eq_true rfl, Nat.le_of_ble_eq_true rfl⟩) rfl hl.1 rfl (Nat.le_of_ble_eq_true rfl) dX5_sent_8 ⟨Nat.le_of_ble_eq_true rfl, Nat.le_of_ble_eq_true rfl⟩ rfl (fun H locs hW hS => ?_)
  refine kx_ifz_eq (tgt := 23) S dX5_sent_11 (by decide) (fun c1 => ?_) (fun c1 => ?_)
  · skip
    refine lv_iconst (v := (-1)) S.1 S.2.1 dX5_sent_23 (by decide) ?_
    refine kw_iret S hr hlk hW hS (by decide) (by decide) dX5_sent_24 ?_
    refine ⟨?_, rfl, hm.to ?_⟩ <;> first | rfl | (simp [c1, kw_b]; done) | (simp [c1, kw_b, tF_uF, tF_uL, tF_uA, tF_uB, tL_uF, tL_uL, tL_uA, tL_uB, tA_uF, tA_uL, tA_uA, tA_uB, tB_uF, tB_uL, tB_uA, tB_uB]; done) | contradiction
  · skip
    exact absurd c1 (by rw [kw_wi_out hki (by omega)]; decide)
set_option maxHeartbeats 1000000 in
set_option maxRecDepth 100000 in
/-- tokens -/
theorem c_X5_tokens_s (l : Launch) (G : kw_G) (nu : Nat → Option Nat) (x z : kw_St) (mo : Nat) (ma : Nat → Nat) (t : mo_T) (k : Nat) (w : Int32) (ng : Nat) (nl : Nat) (hm : mw nu z mo ma t x) (hk : k < 1000) (hng : tF t 2 = nI ng) (hg4 : ng ≤ 4) (hnl : tF t 3 = nI nl) (hn8 : nl ≤ 8) : kw_M l G yX5_tokens wsX5_tokens { frames := 1, cells := 0, slots := 0, locals := 22 } 0 0 [.ref mo, .int (nI k), .int (w)] nu x (fun v nu' y => v = some (.long (m_tokens t ng nl k w)) ∧ nu' = nu ∧ mw nu z mo ma (t) y) := by
  refine kw_M.ofW (cc := cX5_tokens) (maxL := 3) (ret := (some .long)) (by decide) rfl (Nat.le_of_ble_eq_true rfl) ?_
  intro p e s m args below meth c A ls S hr hlk hnm hK hZ hA hW hS hl
  have hl : lv_has ls 3 [(0, .ref mo), (1, .int (nI k)), (2, .int (w))] := hl
  have iX5 : ∀ w ∈ wsX50, w ∈ wsX5_tokens := by decide +kernel
  refine lv_iload_n S.1 S.2.1 dX5_tokens_0 rfl (lv_at hl 2 rfl) ?_
  refine lv_iconst (v := 1) S.1 S.2.1 dX5_tokens_1 (by decide) ?_
  refine lv_icmp_ne (tgt := 33) S.1 S.2.1 dX5_tokens_2 (by decide) (fun c1 => ?_) (fun c1 => ?_)
  · skip
    refine lv_iload_n S.1 S.2.1 dX5_tokens_33 rfl (lv_at hl 1 rfl) ?_
    refine lv_iconst (v := 0) S.1 S.2.1 dX5_tokens_34 (by decide) ?_
    refine lv_aload_n S.1 S.2.1 dX5_tokens_35 rfl (lv_at hl 0 rfl) ?_
    refine mx_gI S hK hm hW 3 iX5 rfl (by decide) (by decide +kernel) dX5_tokens_36 (v := nI nl) hnl ?_
    refine lv_iconst (v := 1) S.1 S.2.1 dX5_tokens_39 (by decide) ?_
    refine lv_isub S.1 S.2.1 dX5_tokens_40 ?_
    refine kx_cS (As := [.int (nI k), .int (0), .int ((nI nl) - (1))]) (rest := []) (st1 := [.int (kw_b (kw_wi (nI k) 0 ((nI nl) - (1)) = true))]) S hK hZ hA hW hS (c_X5_in l G nu x (nI k) 0 ((nI nl) - (1)) ) (va_cwS 3 S.2.2.2.2 gX5_tokens_X5_in rfl rfl rfl (by decide +kernel) ⟨Nat.le_of_ble_eq_true rfl, Nat.le_of_ble_eq_true rfl⟩) rfl hl.1 rfl (Nat.le_of_ble_eq_true rfl) dX5_tokens_41 ⟨Nat.le_of_ble_eq_true rfl, Nat.le_of_ble_eq_true rfl⟩ rfl (fun H locs hW hS => ?_)
    refine kx_ifz_ne (tgt := 49) S dX5_tokens_44 (by decide) (fun c2 => ?_) (fun c2 => ?_)
    · skip
      have hknl : k < nl := kw_wi_lt hk (by omega) (by assumption)
      refine lv_iload_n S.1 S.2.1 dX5_tokens_49 rfl (lv_at hl 2 rfl) ?_
      refine lv_if_ne (tgt := 62) S.1 S.2.1 dX5_tokens_50 (by decide) (fun c3 => ?_) (fun c3 => ?_)
      · skip
        refine lv_iload_n S.1 S.2.1 dX5_tokens_62 rfl (lv_at hl 2 rfl) ?_
        refine lv_iconst (v := 2) S.1 S.2.1 dX5_tokens_63 (by decide) ?_
        refine lv_icmp_ne (tgt := 79) S.1 S.2.1 dX5_tokens_64 (by decide) (fun c4 => ?_) (fun c4 => ?_)
        · skip
          refine lv_lconst (v := 0) S.1 S.2.1 dX5_tokens_79 (by decide) ?_
          refine kw_lret S hr hlk hW hS (by decide) (by decide) dX5_tokens_80 ?_
          refine ⟨?_, rfl, hm.to ?_⟩ <;> first | rfl | (simp [m_tokens, c1, c2, hknl, c3, c4, kw_b]; done) | (simp [m_tokens, c1, c2, hknl, c3, c4, kw_b, tF_uF, tF_uL, tF_uA, tF_uB, tL_uF, tL_uL, tL_uA, tL_uB, tA_uF, tA_uL, tA_uA, tA_uB, tB_uF, tB_uL, tB_uA, tB_uB]; done) | contradiction
        · skip
          refine lv_aload_n S.1 S.2.1 dX5_tokens_67 rfl (lv_at hl 0 rfl) ?_
          refine mx_gA S hK hm hW 32 iX5 rfl (by decide) (by decide) (by decide +kernel) dX5_tokens_68 ?_
          refine lv_bipush (v := 12) S.1 S.2.1 dX5_tokens_71 (by decide) ?_
          refine lv_iload_n S.1 S.2.1 dX5_tokens_73 rfl (lv_at hl 1 rfl) ?_
          refine lv_iadd S.1 S.2.1 dX5_tokens_74 ?_
          rw [show (12 : Int32) + nI k = nI (12 + k) from nI_add (12) (k)]
          refine mx_lld S hK hm hW 32 (by decide) (k := (12 + k)) (kw_ixof (k := 12 + k) (n := 20) rfl (by omega) (by decide)) dX5_tokens_75 (v := tB t 32 (12 + k)) rfl ?_
          refine lv_goto (tgt := 80) S.1 S.2.1 dX5_tokens_76 (by decide) ?_
          refine kw_lret S hr hlk hW hS (by decide) (by decide) dX5_tokens_80 ?_
          refine ⟨?_, rfl, hm.to ?_⟩ <;> first | rfl | (simp [m_tokens, c1, c2, hknl, c3, eq_true c4, kw_b]; done) | (simp [m_tokens, c1, c2, hknl, c3, eq_true c4, kw_b, tF_uF, tF_uL, tF_uA, tF_uB, tL_uF, tL_uL, tL_uA, tL_uB, tA_uF, tA_uL, tA_uA, tA_uB, tB_uF, tB_uL, tB_uA, tB_uB]; done) | contradiction
      · skip
        refine lv_aload_n S.1 S.2.1 dX5_tokens_53 rfl (lv_at hl 0 rfl) ?_
        refine mx_gA S hK hm hW 32 iX5 rfl (by decide) (by decide) (by decide +kernel) dX5_tokens_54 ?_
        refine lv_iload_n S.1 S.2.1 dX5_tokens_57 rfl (lv_at hl 1 rfl) ?_
        refine mx_lld S hK hm hW 32 (by decide) (k := k) (kw_ixof (k := k) (n := 20) rfl (by omega) (by decide)) dX5_tokens_58 (v := tB t 32 k) rfl ?_
        refine lv_goto (tgt := 80) S.1 S.2.1 dX5_tokens_59 (by decide) ?_
        refine kw_lret S hr hlk hW hS (by decide) (by decide) dX5_tokens_80 ?_
        refine ⟨?_, rfl, hm.to ?_⟩ <;> first | rfl | (simp [m_tokens, c1, c2, hknl, eq_true c3, kw_b]; done) | (simp [m_tokens, c1, c2, hknl, eq_true c3, kw_b, tF_uF, tF_uL, tF_uA, tF_uB, tL_uF, tL_uL, tL_uA, tL_uB, tA_uF, tA_uL, tA_uA, tA_uB, tB_uF, tB_uL, tB_uA, tB_uB]; done) | contradiction
    · skip
      have hknl : ¬ k < nl := kw_wi_ge hk (by omega) (by assumption)
      refine lv_lconst (v := 0) S.1 S.2.1 dX5_tokens_47 (by decide) ?_
      refine kw_lret S hr hlk hW hS (by decide) (by decide) dX5_tokens_48 ?_
      refine ⟨?_, rfl, hm.to ?_⟩ <;> first | rfl | (simp [m_tokens, c1, c2, hknl, kw_b]; done) | (simp [m_tokens, c1, c2, hknl, kw_b, tF_uF, tF_uL, tF_uA, tF_uB, tL_uF, tL_uL, tL_uA, tL_uB, tA_uF, tA_uL, tA_uA, tA_uB, tB_uF, tB_uL, tB_uA, tB_uB]; done) | contradiction
  · skip
    refine lv_iload_n S.1 S.2.1 dX5_tokens_5 rfl (lv_at hl 1 rfl) ?_
    refine lv_iconst (v := 0) S.1 S.2.1 dX5_tokens_6 (by decide) ?_
    refine lv_aload_n S.1 S.2.1 dX5_tokens_7 rfl (lv_at hl 0 rfl) ?_
    refine mx_gI S hK hm hW 2 iX5 rfl (by decide) (by decide +kernel) dX5_tokens_8 (v := nI ng) hng ?_
    refine lv_iconst (v := 1) S.1 S.2.1 dX5_tokens_11 (by decide) ?_
    refine lv_isub S.1 S.2.1 dX5_tokens_12 ?_
    refine kx_cS (As := [.int (nI k), .int (0), .int ((nI ng) - (1))]) (rest := []) (st1 := [.int (kw_b (kw_wi (nI k) 0 ((nI ng) - (1)) = true))]) S hK hZ hA hW hS (c_X5_in l G nu x (nI k) 0 ((nI ng) - (1)) ) (va_cwS 3 S.2.2.2.2 gX5_tokens_X5_in rfl rfl rfl (by decide +kernel) ⟨Nat.le_of_ble_eq_true rfl, Nat.le_of_ble_eq_true rfl⟩) rfl hl.1 rfl (Nat.le_of_ble_eq_true rfl) dX5_tokens_13 ⟨Nat.le_of_ble_eq_true rfl, Nat.le_of_ble_eq_true rfl⟩ rfl (fun H locs hW hS => ?_)
    refine kx_ifz_eq (tgt := 31) S dX5_tokens_16 (by decide) (fun c5 => ?_) (fun c5 => ?_)
    · skip
      have hkng : ¬ k < ng := kw_wi_ge hk (by omega) (by assumption)
      refine lv_lconst (v := 0) S.1 S.2.1 dX5_tokens_31 (by decide) ?_
      refine kw_lret S hr hlk hW hS (by decide) (by decide) dX5_tokens_32 ?_
      refine ⟨?_, rfl, hm.to ?_⟩ <;> first | rfl | (simp [m_tokens, eq_true c1, c5, hkng, kw_b]; done) | (simp [m_tokens, eq_true c1, c5, hkng, kw_b, tF_uF, tF_uL, tF_uA, tF_uB, tL_uF, tL_uL, tL_uA, tL_uB, tA_uF, tA_uL, tA_uA, tA_uB, tB_uF, tB_uL, tB_uA, tB_uB]; done) | contradiction
    · skip
      have hkng : k < ng := kw_wi_lt hk (by omega) (by assumption)
      refine lv_aload_n S.1 S.2.1 dX5_tokens_19 rfl (lv_at hl 0 rfl) ?_
      refine mx_gA S hK hm hW 32 iX5 rfl (by decide) (by decide) (by decide +kernel) dX5_tokens_20 ?_
      refine lv_bipush (v := 8) S.1 S.2.1 dX5_tokens_23 (by decide) ?_
      refine lv_iload_n S.1 S.2.1 dX5_tokens_25 rfl (lv_at hl 1 rfl) ?_
      refine lv_iadd S.1 S.2.1 dX5_tokens_26 ?_
      rw [show (8 : Int32) + nI k = nI (8 + k) from nI_add (8) (k)]
      refine mx_lld S hK hm hW 32 (by decide) (k := (8 + k)) (kw_ixof (k := 8 + k) (n := 20) rfl (by omega) (by decide)) dX5_tokens_27 (v := tB t 32 (8 + k)) rfl ?_
      refine lv_goto (tgt := 32) S.1 S.2.1 dX5_tokens_28 (by decide) ?_
      refine kw_lret S hr hlk hW hS (by decide) (by decide) dX5_tokens_32 ?_
      refine ⟨?_, rfl, hm.to ?_⟩ <;> first | rfl | (simp [m_tokens, eq_true c1, c5, hkng, kw_b]; done) | (simp [m_tokens, eq_true c1, c5, hkng, kw_b, tF_uF, tF_uL, tF_uA, tF_uB, tL_uF, tL_uL, tL_uA, tL_uB, tA_uF, tA_uL, tA_uA, tA_uB, tB_uF, tB_uL, tB_uA, tB_uB]; done) | contradiction
set_option maxHeartbeats 1000000 in
set_option maxRecDepth 100000 in
/-- tokens, of none -/
theorem c_X5_tokens_o (l : Launch) (G : kw_G) (nu : Nat → Option Nat) (x z : kw_St) (mo : Nat) (ma : Nat → Nat) (t : mo_T) (ki : Int32) (w : Int32) (ng : Nat) (nl : Nat) (hm : mw nu z mo ma t x) (hki : ∀ k, k < 1000 → ki ≠ nI k) (hng : tF t 2 = nI ng) (hg4 : ng ≤ 4) (hnl : tF t 3 = nI nl) (hn8 : nl ≤ 8) : kw_M l G yX5_tokens wsX5_tokens { frames := 1, cells := 0, slots := 0, locals := 22 } 0 0 [.ref mo, .int (ki), .int (w)] nu x (fun v nu' y => v = some (.long (0)) ∧ nu' = nu ∧ mw nu z mo ma (t) y) := by
  refine kw_M.ofW (cc := cX5_tokens) (maxL := 3) (ret := (some .long)) (by decide) rfl (Nat.le_of_ble_eq_true rfl) ?_
  intro p e s m args below meth c A ls S hr hlk hnm hK hZ hA hW hS hl
  have hl : lv_has ls 3 [(0, .ref mo), (1, .int (ki)), (2, .int (w))] := hl
  have iX5 : ∀ w ∈ wsX50, w ∈ wsX5_tokens := by decide +kernel
  refine lv_iload_n S.1 S.2.1 dX5_tokens_0 rfl (lv_at hl 2 rfl) ?_
  refine lv_iconst (v := 1) S.1 S.2.1 dX5_tokens_1 (by decide) ?_
  refine lv_icmp_ne (tgt := 33) S.1 S.2.1 dX5_tokens_2 (by decide) (fun c1 => ?_) (fun c1 => ?_)
  · skip
    refine lv_iload_n S.1 S.2.1 dX5_tokens_33 rfl (lv_at hl 1 rfl) ?_
    refine lv_iconst (v := 0) S.1 S.2.1 dX5_tokens_34 (by decide) ?_
    refine lv_aload_n S.1 S.2.1 dX5_tokens_35 rfl (lv_at hl 0 rfl) ?_
    refine mx_gI S hK hm hW 3 iX5 rfl (by decide) (by decide +kernel) dX5_tokens_36 (v := nI nl) hnl ?_
    refine lv_iconst (v := 1) S.1 S.2.1 dX5_tokens_39 (by decide) ?_
    refine lv_isub S.1 S.2.1 dX5_tokens_40 ?_
    refine kx_cS (As := [.int (ki), .int (0), .int ((nI nl) - (1))]) (rest := []) (st1 := [.int (kw_b (kw_wi ki 0 ((nI nl) - (1)) = true))]) S hK hZ hA hW hS (c_X5_in l G nu x ki 0 ((nI nl) - (1)) ) (va_cwS 3 S.2.2.2.2 gX5_tokens_X5_in rfl rfl rfl (by decide +kernel) ⟨Nat.le_of_ble_eq_true rfl, Nat.le_of_ble_eq_true rfl⟩) rfl hl.1 rfl (Nat.le_of_ble_eq_true rfl) dX5_tokens_41 ⟨Nat.le_of_ble_eq_true rfl, Nat.le_of_ble_eq_true rfl⟩ rfl (fun H locs hW hS => ?_)
    refine kx_ifz_ne (tgt := 49) S dX5_tokens_44 (by decide) (fun c2 => ?_) (fun c2 => ?_)
    · skip
      exact absurd c2 (by rw [kw_wi_out hki (by omega)]; decide)
    · skip
      refine lv_lconst (v := 0) S.1 S.2.1 dX5_tokens_47 (by decide) ?_
      refine kw_lret S hr hlk hW hS (by decide) (by decide) dX5_tokens_48 ?_
      refine ⟨?_, rfl, hm.to ?_⟩ <;> first | rfl | (simp [c1, c2, kw_b]; done) | (simp [c1, c2, kw_b, tF_uF, tF_uL, tF_uA, tF_uB, tL_uF, tL_uL, tL_uA, tL_uB, tA_uF, tA_uL, tA_uA, tA_uB, tB_uF, tB_uL, tB_uA, tB_uB]; done) | contradiction
  · skip
    refine lv_iload_n S.1 S.2.1 dX5_tokens_5 rfl (lv_at hl 1 rfl) ?_
    refine lv_iconst (v := 0) S.1 S.2.1 dX5_tokens_6 (by decide) ?_
    refine lv_aload_n S.1 S.2.1 dX5_tokens_7 rfl (lv_at hl 0 rfl) ?_
    refine mx_gI S hK hm hW 2 iX5 rfl (by decide) (by decide +kernel) dX5_tokens_8 (v := nI ng) hng ?_
    refine lv_iconst (v := 1) S.1 S.2.1 dX5_tokens_11 (by decide) ?_
    refine lv_isub S.1 S.2.1 dX5_tokens_12 ?_
    refine kx_cS (As := [.int (ki), .int (0), .int ((nI ng) - (1))]) (rest := []) (st1 := [.int (kw_b (kw_wi ki 0 ((nI ng) - (1)) = true))]) S hK hZ hA hW hS (c_X5_in l G nu x ki 0 ((nI ng) - (1)) ) (va_cwS 3 S.2.2.2.2 gX5_tokens_X5_in rfl rfl rfl (by decide +kernel) ⟨Nat.le_of_ble_eq_true rfl, Nat.le_of_ble_eq_true rfl⟩) rfl hl.1 rfl (Nat.le_of_ble_eq_true rfl) dX5_tokens_13 ⟨Nat.le_of_ble_eq_true rfl, Nat.le_of_ble_eq_true rfl⟩ rfl (fun H locs hW hS => ?_)
    refine kx_ifz_eq (tgt := 31) S dX5_tokens_16 (by decide) (fun c3 => ?_) (fun c3 => ?_)
    · skip
      refine lv_lconst (v := 0) S.1 S.2.1 dX5_tokens_31 (by decide) ?_
      refine kw_lret S hr hlk hW hS (by decide) (by decide) dX5_tokens_32 ?_
      refine ⟨?_, rfl, hm.to ?_⟩ <;> first | rfl | (simp [eq_true c1, c3, kw_b]; done) | (simp [eq_true c1, c3, kw_b, tF_uF, tF_uL, tF_uA, tF_uB, tL_uF, tL_uL, tL_uA, tL_uB, tA_uF, tA_uL, tA_uA, tA_uB, tB_uF, tB_uL, tB_uA, tB_uB]; done) | contradiction
    · skip
      exact absurd c3 (by rw [kw_wi_out hki (by omega)]; decide)
set_option maxHeartbeats 1000000 in
set_option maxRecDepth 100000 in
/-- tag -/
theorem c_X5_tag_s (l : Launch) (G : kw_G) (nu : Nat → Option Nat) (x z : kw_St) (mo : Nat) (ma : Nat → Nat) (t : mo_T) (k : Nat) (w : Int32) (ng : Nat) (nl : Nat) (hm : mw nu z mo ma t x) (hk : k < 1000) (hng : tF t 2 = nI ng) (hg4 : ng ≤ 4) (hnl : tF t 3 = nI nl) (hn8 : nl ≤ 8) : kw_M l G yX5_tag wsX5_tag { frames := 1, cells := 0, slots := 0, locals := 22 } 0 0 [.ref mo, .int (nI k), .int (w)] nu x (fun v nu' y => v = some (.long (m_tag t ng nl k w)) ∧ nu' = nu ∧ mw nu z mo ma (t) y) := by
  refine kw_M.ofW (cc := cX5_tag) (maxL := 4) (ret := (some .long)) (by decide) rfl (Nat.le_of_ble_eq_true rfl) ?_
  intro p e s m args below meth c A ls S hr hlk hnm hK hZ hA hW hS hl
  have hl : lv_has ls 4 [(0, .ref mo), (1, .int (nI k)), (2, .int (w))] := hl
  have iX5 : ∀ w ∈ wsX50, w ∈ wsX5_tag := by decide +kernel
  refine lv_iload_n S.1 S.2.1 dX5_tag_0 rfl (lv_at hl 2 rfl) ?_
  refine lv_iconst (v := 3) S.1 S.2.1 dX5_tag_1 (by decide) ?_
  refine lv_icmp_ne (tgt := 10) S.1 S.2.1 dX5_tag_2 (by decide) (fun c1 => ?_) (fun c1 => ?_)
  · skip
    refine lv_iload_n S.1 S.2.1 dX5_tag_10 rfl (lv_at hl 2 rfl) ?_
    refine lv_if_ne (tgt := 39) S.1 S.2.1 dX5_tag_11 (by decide) (fun c2 => ?_) (fun c2 => ?_)
    · skip
      refine lv_iload_n S.1 S.2.1 dX5_tag_39 rfl (lv_at hl 2 rfl) ?_
      refine lv_iconst (v := 1) S.1 S.2.1 dX5_tag_40 (by decide) ?_
      refine lv_icmp_eq (tgt := 49) S.1 S.2.1 dX5_tag_41 (by decide) (fun c3 => ?_) (fun c3 => ?_)
      · skip
        refine lv_iload_n S.1 S.2.1 dX5_tag_49 rfl (lv_at hl 1 rfl) ?_
        refine lv_iconst (v := 0) S.1 S.2.1 dX5_tag_50 (by decide) ?_
        refine lv_aload_n S.1 S.2.1 dX5_tag_51 rfl (lv_at hl 0 rfl) ?_
        refine mx_gI S hK hm hW 2 iX5 rfl (by decide) (by decide +kernel) dX5_tag_52 (v := nI ng) hng ?_
        refine lv_iconst (v := 1) S.1 S.2.1 dX5_tag_55 (by decide) ?_
        refine lv_isub S.1 S.2.1 dX5_tag_56 ?_
        refine kx_cS (As := [.int (nI k), .int (0), .int ((nI ng) - (1))]) (rest := []) (st1 := [.int (kw_b (kw_wi (nI k) 0 ((nI ng) - (1)) = true))]) S hK hZ hA hW hS (c_X5_in l G nu x (nI k) 0 ((nI ng) - (1)) ) (va_cwS 3 S.2.2.2.2 gX5_tag_X5_in rfl rfl rfl (by decide +kernel) ⟨Nat.le_of_ble_eq_true rfl, Nat.le_of_ble_eq_true rfl⟩) rfl hl.1 rfl (Nat.le_of_ble_eq_true rfl) dX5_tag_57 ⟨Nat.le_of_ble_eq_true rfl, Nat.le_of_ble_eq_true rfl⟩ rfl (fun H locs hW hS => ?_)
        refine kx_ifz_eq (tgt := 67) S dX5_tag_60 (by decide) (fun c4 => ?_) (fun c4 => ?_)
        · skip
          have hkng : ¬ k < ng := kw_wi_ge hk (by omega) (by assumption)
          refine lv_iconst (v := 0) S.1 S.2.1 dX5_tag_67 (by decide) ?_
          refine lv_istore_n (lv' := [(3, .int (0)), (0, .ref mo), (1, .int (nI k)), (2, .int (w))]) S.1 S.2.1 dX5_tag_68 rfl hl (by decide) rfl (fun ls hl => ?_)
          refine lv_iload_n S.1 S.2.1 dX5_tag_69 rfl (lv_at hl 0 rfl) ?_
          refine lv_if_ne (tgt := 77) S.1 S.2.1 dX5_tag_70 (by decide) (fun c5 => ?_) (fun c5 => ?_)
          · skip
            exact absurd c5 (by decide)
          · skip
            refine lv_lconst (v := 0) S.1 S.2.1 dX5_tag_73 (by decide) ?_
            refine lv_goto (tgt := 97) S.1 S.2.1 dX5_tag_74 (by decide) ?_
            refine kw_lret S hr hlk hW hS (by decide) (by decide) dX5_tag_97 ?_
            refine ⟨?_, rfl, hm.to ?_⟩ <;> first | rfl | (simp [m_tag, c1, c2, eq_true c3, c4, hkng, eq_true c5, kw_b]; done) | (simp [m_tag, c1, c2, eq_true c3, c4, hkng, eq_true c5, kw_b, tF_uF, tF_uL, tF_uA, tF_uB, tL_uF, tL_uL, tL_uA, tL_uB, tA_uF, tA_uL, tA_uA, tA_uB, tB_uF, tB_uL, tB_uA, tB_uB]; done) | contradiction
        · skip
          have hkng : k < ng := kw_wi_lt hk (by omega) (by assumption)
          refine lv_iconst (v := 1) S.1 S.2.1 dX5_tag_63 (by decide) ?_
          refine lv_goto (tgt := 68) S.1 S.2.1 dX5_tag_64 (by decide) ?_
          refine lv_istore_n (lv' := [(3, .int (1)), (0, .ref mo), (1, .int (nI k)), (2, .int (w))]) S.1 S.2.1 dX5_tag_68 rfl hl (by decide) rfl (fun ls hl => ?_)
          refine lv_iload_n S.1 S.2.1 dX5_tag_69 rfl (lv_at hl 0 rfl) ?_
          refine lv_if_ne (tgt := 77) S.1 S.2.1 dX5_tag_70 (by decide) (fun c6 => ?_) (fun c6 => ?_)
          · skip
            refine lv_iload_n S.1 S.2.1 dX5_tag_77 rfl (lv_at hl 3 rfl) ?_
            refine lv_iconst (v := 1) S.1 S.2.1 dX5_tag_78 (by decide) ?_
            refine lv_icmp_ne (tgt := 91) S.1 S.2.1 dX5_tag_79 (by decide) (fun c7 => ?_) (fun c7 => ?_)
            · skip
              refine lv_aload_n S.1 S.2.1 dX5_tag_91 rfl (lv_at hl 1 rfl) ?_
              refine mx_gA S hK hm hW 11 iX5 rfl (by decide) (by decide) (by decide +kernel) dX5_tag_92 ?_
              refine lv_iload_n S.1 S.2.1 dX5_tag_95 rfl (lv_at hl 2 rfl) ?_
              refine mx_lld S hK hm hW 11 (by decide) (k := k) (kw_ixof (k := k) (n := 4) rfl (by omega) (by decide)) dX5_tag_96 (v := tB t 11 k) rfl ?_
              refine kw_lret S hr hlk hW hS (by decide) (by decide) dX5_tag_97 ?_
              refine ⟨?_, rfl, hm.to ?_⟩ <;> first | rfl | (simp [m_tag, c1, c2, eq_true c3, c4, hkng, c6, c7, kw_b]; done) | (simp [m_tag, c1, c2, eq_true c3, c4, hkng, c6, c7, kw_b, tF_uF, tF_uL, tF_uA, tF_uB, tL_uF, tL_uL, tL_uA, tL_uB, tA_uF, tA_uL, tA_uA, tA_uB, tB_uF, tB_uL, tB_uA, tB_uB]; done) | contradiction
            · skip
              refine lv_aload_n S.1 S.2.1 dX5_tag_82 rfl (lv_at hl 1 rfl) ?_
              refine mx_gA S hK hm hW 10 iX5 rfl (by decide) (by decide) (by decide +kernel) dX5_tag_83 ?_
              refine lv_iload_n S.1 S.2.1 dX5_tag_86 rfl (lv_at hl 2 rfl) ?_
              refine mx_lld S hK hm hW 10 (by decide) (k := k) (kw_ixof (k := k) (n := 4) rfl (by omega) (by decide)) dX5_tag_87 (v := tB t 10 k) rfl ?_
              refine lv_goto (tgt := 97) S.1 S.2.1 dX5_tag_88 (by decide) ?_
              refine kw_lret S hr hlk hW hS (by decide) (by decide) dX5_tag_97 ?_
              refine ⟨?_, rfl, hm.to ?_⟩ <;> first | rfl | (simp [m_tag, c1, c2, eq_true c3, c4, hkng, c6, eq_true c7, kw_b]; done) | (simp [m_tag, c1, c2, eq_true c3, c4, hkng, c6, eq_true c7, kw_b, tF_uF, tF_uL, tF_uA, tF_uB, tL_uF, tL_uL, tL_uA, tL_uB, tA_uF, tA_uL, tA_uA, tA_uB, tB_uF, tB_uL, tB_uA, tB_uB]; done) | contradiction
          · skip
            exact absurd c6 (by decide)
      · skip
        refine lv_iload_n S.1 S.2.1 dX5_tag_44 rfl (lv_at hl 2 rfl) ?_
        refine lv_iconst (v := 2) S.1 S.2.1 dX5_tag_45 (by decide) ?_
        refine lv_icmp_ne (tgt := 67) S.1 S.2.1 dX5_tag_46 (by decide) (fun c8 => ?_) (fun c8 => ?_)
        · skip
          refine lv_iconst (v := 0) S.1 S.2.1 dX5_tag_67 (by decide) ?_
          refine lv_istore_n (lv' := [(3, .int (0)), (0, .ref mo), (1, .int (nI k)), (2, .int (w))]) S.1 S.2.1 dX5_tag_68 rfl hl (by decide) rfl (fun ls hl => ?_)
          refine lv_iload_n S.1 S.2.1 dX5_tag_69 rfl (lv_at hl 0 rfl) ?_
          refine lv_if_ne (tgt := 77) S.1 S.2.1 dX5_tag_70 (by decide) (fun c9 => ?_) (fun c9 => ?_)
          · skip
            exact absurd c9 (by decide)
          · skip
            refine lv_lconst (v := 0) S.1 S.2.1 dX5_tag_73 (by decide) ?_
            refine lv_goto (tgt := 97) S.1 S.2.1 dX5_tag_74 (by decide) ?_
            refine kw_lret S hr hlk hW hS (by decide) (by decide) dX5_tag_97 ?_
            refine ⟨?_, rfl, hm.to ?_⟩ <;> first | rfl | (simp [m_tag, c1, c2, c3, c8, eq_true c9, kw_b]; done) | (simp [m_tag, c1, c2, c3, c8, eq_true c9, kw_b, tF_uF, tF_uL, tF_uA, tF_uB, tL_uF, tL_uL, tL_uA, tL_uB, tA_uF, tA_uL, tA_uA, tA_uB, tB_uF, tB_uL, tB_uA, tB_uB]; done) | contradiction
        · skip
          refine lv_iload_n S.1 S.2.1 dX5_tag_49 rfl (lv_at hl 1 rfl) ?_
          refine lv_iconst (v := 0) S.1 S.2.1 dX5_tag_50 (by decide) ?_
          refine lv_aload_n S.1 S.2.1 dX5_tag_51 rfl (lv_at hl 0 rfl) ?_
          refine mx_gI S hK hm hW 2 iX5 rfl (by decide) (by decide +kernel) dX5_tag_52 (v := nI ng) hng ?_
          refine lv_iconst (v := 1) S.1 S.2.1 dX5_tag_55 (by decide) ?_
          refine lv_isub S.1 S.2.1 dX5_tag_56 ?_
          refine kx_cS (As := [.int (nI k), .int (0), .int ((nI ng) - (1))]) (rest := []) (st1 := [.int (kw_b (kw_wi (nI k) 0 ((nI ng) - (1)) = true))]) S hK hZ hA hW hS (c_X5_in l G nu x (nI k) 0 ((nI ng) - (1)) ) (va_cwS 3 S.2.2.2.2 gX5_tag_X5_in rfl rfl rfl (by decide +kernel) ⟨Nat.le_of_ble_eq_true rfl, Nat.le_of_ble_eq_true rfl⟩) rfl hl.1 rfl (Nat.le_of_ble_eq_true rfl) dX5_tag_57 ⟨Nat.le_of_ble_eq_true rfl, Nat.le_of_ble_eq_true rfl⟩ rfl (fun H locs hW hS => ?_)
          refine kx_ifz_eq (tgt := 67) S dX5_tag_60 (by decide) (fun c10 => ?_) (fun c10 => ?_)
          · skip
            have hkng : ¬ k < ng := kw_wi_ge hk (by omega) (by assumption)
            refine lv_iconst (v := 0) S.1 S.2.1 dX5_tag_67 (by decide) ?_
            refine lv_istore_n (lv' := [(3, .int (0)), (0, .ref mo), (1, .int (nI k)), (2, .int (w))]) S.1 S.2.1 dX5_tag_68 rfl hl (by decide) rfl (fun ls hl => ?_)
            refine lv_iload_n S.1 S.2.1 dX5_tag_69 rfl (lv_at hl 0 rfl) ?_
            refine lv_if_ne (tgt := 77) S.1 S.2.1 dX5_tag_70 (by decide) (fun c11 => ?_) (fun c11 => ?_)
            · skip
              exact absurd c11 (by decide)
            · skip
              refine lv_lconst (v := 0) S.1 S.2.1 dX5_tag_73 (by decide) ?_
              refine lv_goto (tgt := 97) S.1 S.2.1 dX5_tag_74 (by decide) ?_
              refine kw_lret S hr hlk hW hS (by decide) (by decide) dX5_tag_97 ?_
              refine ⟨?_, rfl, hm.to ?_⟩ <;> first | rfl | (simp [m_tag, c1, c2, c3, eq_true c8, c10, hkng, eq_true c11, kw_b]; done) | (simp [m_tag, c1, c2, c3, eq_true c8, c10, hkng, eq_true c11, kw_b, tF_uF, tF_uL, tF_uA, tF_uB, tL_uF, tL_uL, tL_uA, tL_uB, tA_uF, tA_uL, tA_uA, tA_uB, tB_uF, tB_uL, tB_uA, tB_uB]; done) | contradiction
          · skip
            have hkng : k < ng := kw_wi_lt hk (by omega) (by assumption)
            refine lv_iconst (v := 1) S.1 S.2.1 dX5_tag_63 (by decide) ?_
            refine lv_goto (tgt := 68) S.1 S.2.1 dX5_tag_64 (by decide) ?_
            refine lv_istore_n (lv' := [(3, .int (1)), (0, .ref mo), (1, .int (nI k)), (2, .int (w))]) S.1 S.2.1 dX5_tag_68 rfl hl (by decide) rfl (fun ls hl => ?_)
            refine lv_iload_n S.1 S.2.1 dX5_tag_69 rfl (lv_at hl 0 rfl) ?_
            refine lv_if_ne (tgt := 77) S.1 S.2.1 dX5_tag_70 (by decide) (fun c12 => ?_) (fun c12 => ?_)
            · skip
              refine lv_iload_n S.1 S.2.1 dX5_tag_77 rfl (lv_at hl 3 rfl) ?_
              refine lv_iconst (v := 1) S.1 S.2.1 dX5_tag_78 (by decide) ?_
              refine lv_icmp_ne (tgt := 91) S.1 S.2.1 dX5_tag_79 (by decide) (fun c13 => ?_) (fun c13 => ?_)
              · skip
                refine lv_aload_n S.1 S.2.1 dX5_tag_91 rfl (lv_at hl 1 rfl) ?_
                refine mx_gA S hK hm hW 11 iX5 rfl (by decide) (by decide) (by decide +kernel) dX5_tag_92 ?_
                refine lv_iload_n S.1 S.2.1 dX5_tag_95 rfl (lv_at hl 2 rfl) ?_
                refine mx_lld S hK hm hW 11 (by decide) (k := k) (kw_ixof (k := k) (n := 4) rfl (by omega) (by decide)) dX5_tag_96 (v := tB t 11 k) rfl ?_
                refine kw_lret S hr hlk hW hS (by decide) (by decide) dX5_tag_97 ?_
                refine ⟨?_, rfl, hm.to ?_⟩ <;> first | rfl | (simp [m_tag, c1, c2, c3, eq_true c8, c10, hkng, c12, c13, kw_b]; done) | (simp [m_tag, c1, c2, c3, eq_true c8, c10, hkng, c12, c13, kw_b, tF_uF, tF_uL, tF_uA, tF_uB, tL_uF, tL_uL, tL_uA, tL_uB, tA_uF, tA_uL, tA_uA, tA_uB, tB_uF, tB_uL, tB_uA, tB_uB]; done) | contradiction
              · skip
                refine lv_aload_n S.1 S.2.1 dX5_tag_82 rfl (lv_at hl 1 rfl) ?_
                refine mx_gA S hK hm hW 10 iX5 rfl (by decide) (by decide) (by decide +kernel) dX5_tag_83 ?_
                refine lv_iload_n S.1 S.2.1 dX5_tag_86 rfl (lv_at hl 2 rfl) ?_
                refine mx_lld S hK hm hW 10 (by decide) (k := k) (kw_ixof (k := k) (n := 4) rfl (by omega) (by decide)) dX5_tag_87 (v := tB t 10 k) rfl ?_
                refine lv_goto (tgt := 97) S.1 S.2.1 dX5_tag_88 (by decide) ?_
                refine kw_lret S hr hlk hW hS (by decide) (by decide) dX5_tag_97 ?_
                refine ⟨?_, rfl, hm.to ?_⟩ <;> first | rfl | (simp [m_tag, c1, c2, c3, eq_true c8, c10, hkng, c12, eq_true c13, kw_b]; done) | (simp [m_tag, c1, c2, c3, eq_true c8, c10, hkng, c12, eq_true c13, kw_b, tF_uF, tF_uL, tF_uA, tF_uB, tL_uF, tL_uL, tL_uA, tL_uB, tA_uF, tA_uL, tA_uA, tA_uB, tB_uF, tB_uL, tB_uA, tB_uB]; done) | contradiction
            · skip
              exact absurd c12 (by decide)
    · skip
      refine lv_iload_n S.1 S.2.1 dX5_tag_14 rfl (lv_at hl 1 rfl) ?_
      refine lv_iconst (v := 0) S.1 S.2.1 dX5_tag_15 (by decide) ?_
      refine lv_aload_n S.1 S.2.1 dX5_tag_16 rfl (lv_at hl 0 rfl) ?_
      refine mx_gI S hK hm hW 3 iX5 rfl (by decide) (by decide +kernel) dX5_tag_17 (v := nI nl) hnl ?_
      refine lv_iconst (v := 1) S.1 S.2.1 dX5_tag_20 (by decide) ?_
      refine lv_isub S.1 S.2.1 dX5_tag_21 ?_
      refine kx_cS (As := [.int (nI k), .int (0), .int ((nI nl) - (1))]) (rest := []) (st1 := [.int (kw_b (kw_wi (nI k) 0 ((nI nl) - (1)) = true))]) S hK hZ hA hW hS (c_X5_in l G nu x (nI k) 0 ((nI nl) - (1)) ) (va_cwS 3 S.2.2.2.2 gX5_tag_X5_in rfl rfl rfl (by decide +kernel) ⟨Nat.le_of_ble_eq_true rfl, Nat.le_of_ble_eq_true rfl⟩) rfl hl.1 rfl (Nat.le_of_ble_eq_true rfl) dX5_tag_22 ⟨Nat.le_of_ble_eq_true rfl, Nat.le_of_ble_eq_true rfl⟩ rfl (fun H locs hW hS => ?_)
      refine kx_ifz_eq (tgt := 37) S dX5_tag_25 (by decide) (fun c14 => ?_) (fun c14 => ?_)
      · skip
        have hknl : ¬ k < nl := kw_wi_ge hk (by omega) (by assumption)
        refine lv_lconst (v := 0) S.1 S.2.1 dX5_tag_37 (by decide) ?_
        refine kw_lret S hr hlk hW hS (by decide) (by decide) dX5_tag_38 ?_
        refine ⟨?_, rfl, hm.to ?_⟩ <;> first | rfl | (simp [m_tag, c1, eq_true c2, c14, hknl, kw_b]; done) | (simp [m_tag, c1, eq_true c2, c14, hknl, kw_b, tF_uF, tF_uL, tF_uA, tF_uB, tL_uF, tL_uL, tL_uA, tL_uB, tA_uF, tA_uL, tA_uA, tA_uB, tB_uF, tB_uL, tB_uA, tB_uB]; done) | contradiction
      · skip
        have hknl : k < nl := kw_wi_lt hk (by omega) (by assumption)
        refine lv_aload_n S.1 S.2.1 dX5_tag_28 rfl (lv_at hl 0 rfl) ?_
        refine mx_gA S hK hm hW 27 iX5 rfl (by decide) (by decide) (by decide +kernel) dX5_tag_29 ?_
        refine lv_iload_n S.1 S.2.1 dX5_tag_32 rfl (lv_at hl 1 rfl) ?_
        refine mx_lld S hK hm hW 27 (by decide) (k := k) (kw_ixof (k := k) (n := 8) rfl (by omega) (by decide)) dX5_tag_33 (v := tB t 27 k) rfl ?_
        refine lv_goto (tgt := 38) S.1 S.2.1 dX5_tag_34 (by decide) ?_
        refine kw_lret S hr hlk hW hS (by decide) (by decide) dX5_tag_38 ?_
        refine ⟨?_, rfl, hm.to ?_⟩ <;> first | rfl | (simp [m_tag, c1, eq_true c2, c14, hknl, kw_b]; done) | (simp [m_tag, c1, eq_true c2, c14, hknl, kw_b, tF_uF, tF_uL, tF_uA, tF_uB, tL_uF, tL_uL, tL_uA, tL_uB, tA_uF, tA_uL, tA_uA, tA_uB, tB_uF, tB_uL, tB_uA, tB_uB]; done) | contradiction
  · skip
    refine lv_aload_n S.1 S.2.1 dX5_tag_5 rfl (lv_at hl 0 rfl) ?_
    refine mx_gJ S hK hm hW iX5 (by decide +kernel) dX5_tag_6 (v := tL t) rfl ?_
    refine kw_lret S hr hlk hW hS (by decide) (by decide) dX5_tag_9 ?_
    refine ⟨?_, rfl, hm.to ?_⟩ <;> first | rfl | (simp [m_tag, eq_true c1, kw_b]; done) | (simp [m_tag, eq_true c1, kw_b, tF_uF, tF_uL, tF_uA, tF_uB, tL_uF, tL_uL, tL_uA, tL_uB, tA_uF, tA_uL, tA_uA, tA_uB, tB_uF, tB_uL, tB_uA, tB_uB]; done) | contradiction
set_option maxHeartbeats 1000000 in
set_option maxRecDepth 100000 in
/-- tag, of none -/
theorem c_X5_tag_o (l : Launch) (G : kw_G) (nu : Nat → Option Nat) (x z : kw_St) (mo : Nat) (ma : Nat → Nat) (t : mo_T) (ki : Int32) (w : Int32) (ng : Nat) (nl : Nat) (hm : mw nu z mo ma t x) (hki : ∀ k, k < 1000 → ki ≠ nI k) (hng : tF t 2 = nI ng) (hg4 : ng ≤ 4) (hnl : tF t 3 = nI nl) (hn8 : nl ≤ 8) : kw_M l G yX5_tag wsX5_tag { frames := 1, cells := 0, slots := 0, locals := 22 } 0 0 [.ref mo, .int (ki), .int (w)] nu x (fun v nu' y => v = some (.long (if w = 3 then tL t else 0)) ∧ nu' = nu ∧ mw nu z mo ma (t) y) := by
  refine kw_M.ofW (cc := cX5_tag) (maxL := 4) (ret := (some .long)) (by decide) rfl (Nat.le_of_ble_eq_true rfl) ?_
  intro p e s m args below meth c A ls S hr hlk hnm hK hZ hA hW hS hl
  have hl : lv_has ls 4 [(0, .ref mo), (1, .int (ki)), (2, .int (w))] := hl
  have iX5 : ∀ w ∈ wsX50, w ∈ wsX5_tag := by decide +kernel
  refine lv_iload_n S.1 S.2.1 dX5_tag_0 rfl (lv_at hl 2 rfl) ?_
  refine lv_iconst (v := 3) S.1 S.2.1 dX5_tag_1 (by decide) ?_
  refine lv_icmp_ne (tgt := 10) S.1 S.2.1 dX5_tag_2 (by decide) (fun c1 => ?_) (fun c1 => ?_)
  · skip
    refine lv_iload_n S.1 S.2.1 dX5_tag_10 rfl (lv_at hl 2 rfl) ?_
    refine lv_if_ne (tgt := 39) S.1 S.2.1 dX5_tag_11 (by decide) (fun c2 => ?_) (fun c2 => ?_)
    · skip
      refine lv_iload_n S.1 S.2.1 dX5_tag_39 rfl (lv_at hl 2 rfl) ?_
      refine lv_iconst (v := 1) S.1 S.2.1 dX5_tag_40 (by decide) ?_
      refine lv_icmp_eq (tgt := 49) S.1 S.2.1 dX5_tag_41 (by decide) (fun c3 => ?_) (fun c3 => ?_)
      · skip
        refine lv_iload_n S.1 S.2.1 dX5_tag_49 rfl (lv_at hl 1 rfl) ?_
        refine lv_iconst (v := 0) S.1 S.2.1 dX5_tag_50 (by decide) ?_
        refine lv_aload_n S.1 S.2.1 dX5_tag_51 rfl (lv_at hl 0 rfl) ?_
        refine mx_gI S hK hm hW 2 iX5 rfl (by decide) (by decide +kernel) dX5_tag_52 (v := nI ng) hng ?_
        refine lv_iconst (v := 1) S.1 S.2.1 dX5_tag_55 (by decide) ?_
        refine lv_isub S.1 S.2.1 dX5_tag_56 ?_
        refine kx_cS (As := [.int (ki), .int (0), .int ((nI ng) - (1))]) (rest := []) (st1 := [.int (kw_b (kw_wi ki 0 ((nI ng) - (1)) = true))]) S hK hZ hA hW hS (c_X5_in l G nu x ki 0 ((nI ng) - (1)) ) (va_cwS 3 S.2.2.2.2 gX5_tag_X5_in rfl rfl rfl (by decide +kernel) ⟨Nat.le_of_ble_eq_true rfl, Nat.le_of_ble_eq_true rfl⟩) rfl hl.1 rfl (Nat.le_of_ble_eq_true rfl) dX5_tag_57 ⟨Nat.le_of_ble_eq_true rfl, Nat.le_of_ble_eq_true rfl⟩ rfl (fun H locs hW hS => ?_)
        refine kx_ifz_eq (tgt := 67) S dX5_tag_60 (by decide) (fun c4 => ?_) (fun c4 => ?_)
        · skip
          refine lv_iconst (v := 0) S.1 S.2.1 dX5_tag_67 (by decide) ?_
          refine lv_istore_n (lv' := [(3, .int (0)), (0, .ref mo), (1, .int (ki)), (2, .int (w))]) S.1 S.2.1 dX5_tag_68 rfl hl (by decide) rfl (fun ls hl => ?_)
          refine lv_iload_n S.1 S.2.1 dX5_tag_69 rfl (lv_at hl 0 rfl) ?_
          refine lv_if_ne (tgt := 77) S.1 S.2.1 dX5_tag_70 (by decide) (fun c5 => ?_) (fun c5 => ?_)
          · skip
            exact absurd c5 (by decide)
          · skip
            refine lv_lconst (v := 0) S.1 S.2.1 dX5_tag_73 (by decide) ?_
            refine lv_goto (tgt := 97) S.1 S.2.1 dX5_tag_74 (by decide) ?_
            refine kw_lret S hr hlk hW hS (by decide) (by decide) dX5_tag_97 ?_
            refine ⟨?_, rfl, hm.to ?_⟩ <;> first | rfl | (simp [c1, c2, eq_true c3, c4, eq_true c5, kw_b]; done) | (simp [c1, c2, eq_true c3, c4, eq_true c5, kw_b, tF_uF, tF_uL, tF_uA, tF_uB, tL_uF, tL_uL, tL_uA, tL_uB, tA_uF, tA_uL, tA_uA, tA_uB, tB_uF, tB_uL, tB_uA, tB_uB]; done) | contradiction
        · skip
          exact absurd c4 (by rw [kw_wi_out hki (by omega)]; decide)
      · skip
        refine lv_iload_n S.1 S.2.1 dX5_tag_44 rfl (lv_at hl 2 rfl) ?_
        refine lv_iconst (v := 2) S.1 S.2.1 dX5_tag_45 (by decide) ?_
        refine lv_icmp_ne (tgt := 67) S.1 S.2.1 dX5_tag_46 (by decide) (fun c6 => ?_) (fun c6 => ?_)
        · skip
          refine lv_iconst (v := 0) S.1 S.2.1 dX5_tag_67 (by decide) ?_
          refine lv_istore_n (lv' := [(3, .int (0)), (0, .ref mo), (1, .int (ki)), (2, .int (w))]) S.1 S.2.1 dX5_tag_68 rfl hl (by decide) rfl (fun ls hl => ?_)
          refine lv_iload_n S.1 S.2.1 dX5_tag_69 rfl (lv_at hl 0 rfl) ?_
          refine lv_if_ne (tgt := 77) S.1 S.2.1 dX5_tag_70 (by decide) (fun c7 => ?_) (fun c7 => ?_)
          · skip
            exact absurd c7 (by decide)
          · skip
            refine lv_lconst (v := 0) S.1 S.2.1 dX5_tag_73 (by decide) ?_
            refine lv_goto (tgt := 97) S.1 S.2.1 dX5_tag_74 (by decide) ?_
            refine kw_lret S hr hlk hW hS (by decide) (by decide) dX5_tag_97 ?_
            refine ⟨?_, rfl, hm.to ?_⟩ <;> first | rfl | (simp [c1, c2, c3, c6, eq_true c7, kw_b]; done) | (simp [c1, c2, c3, c6, eq_true c7, kw_b, tF_uF, tF_uL, tF_uA, tF_uB, tL_uF, tL_uL, tL_uA, tL_uB, tA_uF, tA_uL, tA_uA, tA_uB, tB_uF, tB_uL, tB_uA, tB_uB]; done) | contradiction
        · skip
          refine lv_iload_n S.1 S.2.1 dX5_tag_49 rfl (lv_at hl 1 rfl) ?_
          refine lv_iconst (v := 0) S.1 S.2.1 dX5_tag_50 (by decide) ?_
          refine lv_aload_n S.1 S.2.1 dX5_tag_51 rfl (lv_at hl 0 rfl) ?_
          refine mx_gI S hK hm hW 2 iX5 rfl (by decide) (by decide +kernel) dX5_tag_52 (v := nI ng) hng ?_
          refine lv_iconst (v := 1) S.1 S.2.1 dX5_tag_55 (by decide) ?_
          refine lv_isub S.1 S.2.1 dX5_tag_56 ?_
          refine kx_cS (As := [.int (ki), .int (0), .int ((nI ng) - (1))]) (rest := []) (st1 := [.int (kw_b (kw_wi ki 0 ((nI ng) - (1)) = true))]) S hK hZ hA hW hS (c_X5_in l G nu x ki 0 ((nI ng) - (1)) ) (va_cwS 3 S.2.2.2.2 gX5_tag_X5_in rfl rfl rfl (by decide +kernel) ⟨Nat.le_of_ble_eq_true rfl, Nat.le_of_ble_eq_true rfl⟩) rfl hl.1 rfl (Nat.le_of_ble_eq_true rfl) dX5_tag_57 ⟨Nat.le_of_ble_eq_true rfl, Nat.le_of_ble_eq_true rfl⟩ rfl (fun H locs hW hS => ?_)
          refine kx_ifz_eq (tgt := 67) S dX5_tag_60 (by decide) (fun c8 => ?_) (fun c8 => ?_)
          · skip
            refine lv_iconst (v := 0) S.1 S.2.1 dX5_tag_67 (by decide) ?_
            refine lv_istore_n (lv' := [(3, .int (0)), (0, .ref mo), (1, .int (ki)), (2, .int (w))]) S.1 S.2.1 dX5_tag_68 rfl hl (by decide) rfl (fun ls hl => ?_)
            refine lv_iload_n S.1 S.2.1 dX5_tag_69 rfl (lv_at hl 0 rfl) ?_
            refine lv_if_ne (tgt := 77) S.1 S.2.1 dX5_tag_70 (by decide) (fun c9 => ?_) (fun c9 => ?_)
            · skip
              exact absurd c9 (by decide)
            · skip
              refine lv_lconst (v := 0) S.1 S.2.1 dX5_tag_73 (by decide) ?_
              refine lv_goto (tgt := 97) S.1 S.2.1 dX5_tag_74 (by decide) ?_
              refine kw_lret S hr hlk hW hS (by decide) (by decide) dX5_tag_97 ?_
              refine ⟨?_, rfl, hm.to ?_⟩ <;> first | rfl | (simp [c1, c2, c3, eq_true c6, c8, eq_true c9, kw_b]; done) | (simp [c1, c2, c3, eq_true c6, c8, eq_true c9, kw_b, tF_uF, tF_uL, tF_uA, tF_uB, tL_uF, tL_uL, tL_uA, tL_uB, tA_uF, tA_uL, tA_uA, tA_uB, tB_uF, tB_uL, tB_uA, tB_uB]; done) | contradiction
          · skip
            exact absurd c8 (by rw [kw_wi_out hki (by omega)]; decide)
    · skip
      refine lv_iload_n S.1 S.2.1 dX5_tag_14 rfl (lv_at hl 1 rfl) ?_
      refine lv_iconst (v := 0) S.1 S.2.1 dX5_tag_15 (by decide) ?_
      refine lv_aload_n S.1 S.2.1 dX5_tag_16 rfl (lv_at hl 0 rfl) ?_
      refine mx_gI S hK hm hW 3 iX5 rfl (by decide) (by decide +kernel) dX5_tag_17 (v := nI nl) hnl ?_
      refine lv_iconst (v := 1) S.1 S.2.1 dX5_tag_20 (by decide) ?_
      refine lv_isub S.1 S.2.1 dX5_tag_21 ?_
      refine kx_cS (As := [.int (ki), .int (0), .int ((nI nl) - (1))]) (rest := []) (st1 := [.int (kw_b (kw_wi ki 0 ((nI nl) - (1)) = true))]) S hK hZ hA hW hS (c_X5_in l G nu x ki 0 ((nI nl) - (1)) ) (va_cwS 3 S.2.2.2.2 gX5_tag_X5_in rfl rfl rfl (by decide +kernel) ⟨Nat.le_of_ble_eq_true rfl, Nat.le_of_ble_eq_true rfl⟩) rfl hl.1 rfl (Nat.le_of_ble_eq_true rfl) dX5_tag_22 ⟨Nat.le_of_ble_eq_true rfl, Nat.le_of_ble_eq_true rfl⟩ rfl (fun H locs hW hS => ?_)
      refine kx_ifz_eq (tgt := 37) S dX5_tag_25 (by decide) (fun c10 => ?_) (fun c10 => ?_)
      · skip
        refine lv_lconst (v := 0) S.1 S.2.1 dX5_tag_37 (by decide) ?_
        refine kw_lret S hr hlk hW hS (by decide) (by decide) dX5_tag_38 ?_
        refine ⟨?_, rfl, hm.to ?_⟩ <;> first | rfl | (simp [c1, eq_true c2, c10, kw_b]; done) | (simp [c1, eq_true c2, c10, kw_b, tF_uF, tF_uL, tF_uA, tF_uB, tL_uF, tL_uL, tL_uA, tL_uB, tA_uF, tA_uL, tA_uA, tA_uB, tB_uF, tB_uL, tB_uA, tB_uB]; done) | contradiction
      · skip
        exact absurd c10 (by rw [kw_wi_out hki (by omega)]; decide)
  · skip
    refine lv_aload_n S.1 S.2.1 dX5_tag_5 rfl (lv_at hl 0 rfl) ?_
    refine mx_gJ S hK hm hW iX5 (by decide +kernel) dX5_tag_6 (v := tL t) rfl ?_
    refine kw_lret S hr hlk hW hS (by decide) (by decide) dX5_tag_9 ?_
    refine ⟨?_, rfl, hm.to ?_⟩ <;> first | rfl | (simp [eq_true c1, kw_b]; done) | (simp [eq_true c1, kw_b, tF_uF, tF_uL, tF_uA, tF_uB, tL_uF, tL_uL, tL_uA, tL_uB, tA_uF, tA_uL, tA_uA, tA_uB, tB_uF, tB_uL, tB_uA, tB_uB]; done) | contradiction
set_option maxHeartbeats 1000000 in
set_option maxRecDepth 100000 in
/-- count -/
theorem c_X5_count (l : Launch) (G : kw_G) (nu : Nat → Option Nat) (x z : kw_St) (mo : Nat) (ma : Nat → Nat) (t : mo_T) (w : Int32) (hm : mw nu z mo ma t x)  : kw_M l G yX5_count wsX5_count { frames := 0, cells := 0, slots := 0, locals := 0 } 0 0 [.ref mo, .int (w)] nu x (fun v nu' y => v = some (.int (m_count t w)) ∧ nu' = nu ∧ mw nu z mo ma (t) y) := by
  refine kw_M.ofW (cc := cX5_count) (maxL := 2) (ret := (some .int)) (by decide) rfl (Nat.le_of_ble_eq_true rfl) ?_
  intro p e s m args below meth c A ls S hr hlk hnm hK hZ hA hW hS hl
  have hl : lv_has ls 2 [(0, .ref mo), (1, .int (w))] := hl
  have iX5 : ∀ w ∈ wsX50, w ∈ wsX5_count := by decide +kernel
  refine lv_iload_n S.1 S.2.1 dX5_count_0 rfl (lv_at hl 1 rfl) ?_
  by_cases w1 : w = 0
  · skip
    subst w1
    refine lv_tableIn (tgt := 40) S.1 S.2.1 dX5_count_1 (by decide) (by decide) rfl (by decide) ?_
    refine lv_aload_n S.1 S.2.1 dX5_count_40 rfl (lv_at hl 0 rfl) ?_
    refine mx_gI S hK hm hW 2 iX5 rfl (by decide) (by decide +kernel) dX5_count_41 (v := tF t 2) rfl ?_
    refine kw_iret S hr hlk hW hS (by decide) (by decide) dX5_count_44 ?_
    refine ⟨?_, rfl, hm.to ?_⟩ <;> first | rfl | (simp [m_count, kw_b]; done) | (simp [m_count, kw_b, tF_uF, tF_uL, tF_uA, tF_uB, tL_uF, tL_uL, tL_uA, tL_uB, tA_uF, tA_uL, tA_uA, tA_uB, tB_uF, tB_uL, tB_uA, tB_uB]; done) | contradiction
  by_cases w2 : w = 1
  · skip
    subst w2
    refine lv_tableIn (tgt := 45) S.1 S.2.1 dX5_count_1 (by decide) (by decide) rfl (by decide) ?_
    refine lv_aload_n S.1 S.2.1 dX5_count_45 rfl (lv_at hl 0 rfl) ?_
    refine mx_gI S hK hm hW 3 iX5 rfl (by decide) (by decide +kernel) dX5_count_46 (v := tF t 3) rfl ?_
    refine kw_iret S hr hlk hW hS (by decide) (by decide) dX5_count_49 ?_
    refine ⟨?_, rfl, hm.to ?_⟩ <;> first | rfl | (simp [m_count, w1, kw_b]; done) | (simp [m_count, w1, kw_b, tF_uF, tF_uL, tF_uA, tF_uB, tL_uF, tL_uL, tL_uA, tL_uB, tA_uF, tA_uL, tA_uA, tA_uB, tB_uF, tB_uL, tB_uA, tB_uB]; done) | contradiction
  by_cases w3 : w = 2
  · skip
    subst w3
    refine lv_tableIn (tgt := 50) S.1 S.2.1 dX5_count_1 (by decide) (by decide) rfl (by decide) ?_
    refine lv_aload_n S.1 S.2.1 dX5_count_50 rfl (lv_at hl 0 rfl) ?_
    refine mx_gI S hK hm hW 4 iX5 rfl (by decide) (by decide +kernel) dX5_count_51 (v := tF t 4) rfl ?_
    refine kw_iret S hr hlk hW hS (by decide) (by decide) dX5_count_54 ?_
    refine ⟨?_, rfl, hm.to ?_⟩ <;> first | rfl | (simp [m_count, w1, w2, kw_b]; done) | (simp [m_count, w1, w2, kw_b, tF_uF, tF_uL, tF_uA, tF_uB, tL_uF, tL_uL, tL_uA, tL_uB, tA_uF, tA_uL, tA_uA, tA_uB, tB_uF, tB_uL, tB_uA, tB_uB]; done) | contradiction
  by_cases w4 : w = 3
  · skip
    subst w4
    refine lv_tableIn (tgt := 55) S.1 S.2.1 dX5_count_1 (by decide) (by decide) rfl (by decide) ?_
    refine lv_aload_n S.1 S.2.1 dX5_count_55 rfl (lv_at hl 0 rfl) ?_
    refine mx_gI S hK hm hW 5 iX5 rfl (by decide) (by decide +kernel) dX5_count_56 (v := tF t 5) rfl ?_
    refine kw_iret S hr hlk hW hS (by decide) (by decide) dX5_count_59 ?_
    refine ⟨?_, rfl, hm.to ?_⟩ <;> first | rfl | (simp [m_count, w1, w2, w3, kw_b]; done) | (simp [m_count, w1, w2, w3, kw_b, tF_uF, tF_uL, tF_uA, tF_uB, tL_uF, tL_uL, tL_uA, tL_uB, tA_uF, tA_uL, tA_uA, tA_uB, tB_uF, tB_uL, tB_uA, tB_uB]; done) | contradiction
  by_cases w5 : w = 4
  · skip
    subst w5
    refine lv_tableIn (tgt := 60) S.1 S.2.1 dX5_count_1 (by decide) (by decide) rfl (by decide) ?_
    refine lv_aload_n S.1 S.2.1 dX5_count_60 rfl (lv_at hl 0 rfl) ?_
    refine mx_gI S hK hm hW 6 iX5 rfl (by decide) (by decide +kernel) dX5_count_61 (v := tF t 6) rfl ?_
    refine kw_iret S hr hlk hW hS (by decide) (by decide) dX5_count_64 ?_
    refine ⟨?_, rfl, hm.to ?_⟩ <;> first | rfl | (simp [m_count, w1, w2, w3, w4, kw_b]; done) | (simp [m_count, w1, w2, w3, w4, kw_b, tF_uF, tF_uL, tF_uA, tF_uB, tL_uF, tL_uL, tL_uA, tL_uB, tA_uF, tA_uL, tA_uA, tA_uB, tB_uF, tB_uL, tB_uA, tB_uB]; done) | contradiction
  by_cases w6 : w = 5
  · skip
    subst w6
    refine lv_tableIn (tgt := 65) S.1 S.2.1 dX5_count_1 (by decide) (by decide) rfl (by decide) ?_
    refine lv_aload_n S.1 S.2.1 dX5_count_65 rfl (lv_at hl 0 rfl) ?_
    refine mx_gI S hK hm hW 8 iX5 rfl (by decide) (by decide +kernel) dX5_count_66 (v := tF t 8) rfl ?_
    refine kw_iret S hr hlk hW hS (by decide) (by decide) dX5_count_69 ?_
    refine ⟨?_, rfl, hm.to ?_⟩ <;> first | rfl | (simp [m_count, w1, w2, w3, w4, w5, kw_b]; done) | (simp [m_count, w1, w2, w3, w4, w5, kw_b, tF_uF, tF_uL, tF_uA, tF_uB, tL_uF, tL_uL, tL_uA, tL_uB, tA_uF, tA_uL, tA_uA, tA_uB, tB_uF, tB_uL, tB_uA, tB_uB]; done) | contradiction
  refine lv_tableOut (tgt := 70) S.1 S.2.1 dX5_count_1 (kw_out6 w1 w2 w3 w4 w5 w6) (by decide) ?_
  refine lv_iconst (v := (-1)) S.1 S.2.1 dX5_count_70 (by decide) ?_
  refine kw_iret S hr hlk hW hS (by decide) (by decide) dX5_count_71 ?_
  refine ⟨?_, rfl, hm.to ?_⟩ <;> first | rfl | (simp [m_count, w1, w2, w3, w4, w5, w6, kw_b]; done) | (simp [m_count, w1, w2, w3, w4, w5, w6, kw_b, tF_uF, tF_uL, tF_uA, tF_uB, tL_uF, tL_uL, tL_uA, tL_uB, tA_uF, tA_uL, tA_uA, tA_uB, tB_uF, tB_uL, tB_uA, tB_uB]; done) | contradiction
/-- what one row's tokens are behind so many ticks -/
def m_tok (t : mo_T) (k : Nat) (ti : Int32) : Int64 := if tB t 32 k + (tA t 30 k).toInt64 * ti.toInt64 ≤ 1000 * (tA t 31 k).toInt64 then tB t 32 k + (tA t 30 k).toInt64 * ti.toInt64 else 1000 * (tA t 31 k).toInt64
def m_pasN (t : mo_T) (ti : Int32) : Nat → mo_T
  | 0 => uF t 1 (tF t 1 + ti)
  | n + 1 => uB (m_pasN t ti n) 32 n (m_tok (m_pasN t ti n) n ti)
set_option maxHeartbeats 1000000 in
set_option maxRecDepth 100000 in
/-- passes -/
theorem c_X5_passes (l : Launch) (G : kw_G) (nu : Nat → Option Nat) (x z : kw_St) (mo : Nat) (ma : Nat → Nat) (t : mo_T) (ti : Int32) (hm : mw nu z mo ma t x)  : kw_M l G yX5_passes wsX5_passes { frames := 0, cells := 0, slots := 0, locals := 0 } 0 0 [.ref mo, .int (ti)] nu x (fun v nu' y => v = none ∧ nu' = nu ∧ mw nu z mo ma (m_pasN t ti 20) y) := by
  refine kw_M.ofW (cc := cX5_passes) (maxL := 7) (ret := none) (by decide) rfl (Nat.le_of_ble_eq_true rfl) ?_
  intro p e s m args below meth c A ls S hr hlk hnm hK hZ hA hW hS hl
  have hl : lv_has ls 7 [(0, .ref mo), (1, .int (ti))] := hl
  have iX5 : ∀ w ∈ wsX50, w ∈ wsX5_passes := by decide +kernel
  obtain ⟨QQ, hQQ⟩ : ∃ q, q = MQ below (kw_Qc G A (fun v nu' y => v = none ∧ nu' = nu ∧ mw nu z mo ma (m_pasN t ti 20) y)) args s 0 0 A := ⟨_, rfl⟩
  rw [← hQQ]
  refine lv_aload_n S.1 S.2.1 dX5_passes_0 rfl (lv_at hl 0 rfl) ?_
  refine lv_dup S.1 S.2.1 dX5_passes_1 rfl ?_
  refine mx_gI S hK hm hW 1 iX5 rfl (by decide) (by decide +kernel) dX5_passes_2 (v := tF t 1) rfl ?_
  refine lv_iload_n S.1 S.2.1 dX5_passes_5 rfl (lv_at hl 1 rfl) ?_
  refine lv_iadd S.1 S.2.1 dX5_passes_6 ?_
  refine mx_pI S hK hm hW hS 1 iX5 rfl (by decide) (by decide +kernel) rfl rfl dX5_passes_7 (fun x H locs hm hW hS => ?_)
  refine lv_iconst (v := 0) S.1 S.2.1 dX5_passes_10 (by decide) ?_
  refine lv_istore_n (lv' := [(2, .int (0)), (0, .ref mo), (1, .int (ti))]) S.1 S.2.1 dX5_passes_11 rfl hl (by decide) rfl (fun ls hl => ?_)
  have loop : ∀ (dn n : Nat), n + dn = 20 → ∀ (x : kw_St) (H : Heap) (locs : List Loc) (ls : Array Slot), mw nu z mo ma (m_pasN t ti n) x → kw_W G A nu x H → va_S A s.heap H locs → lv_has ls 7 [(0, .ref mo), (1, .int (ti)), (2, .int (nI n))] → W p l e { frames := 0, cells := 0, slots := 0, locals := 0 } s m args below meth c H locs 0 0 QQ (F0 m 12 ls []) := by
    intro dn
    induction dn with
    | zero =>
      intro n  hndn  x H locs ls hm hW hS hl
      refine lv_iload_n S.1 S.2.1 dX5_passes_12 rfl (lv_at hl 2 rfl) ?_
      refine lv_bipush (v := 20) S.1 S.2.1 dX5_passes_13 (by decide) ?_
      refine lv_icmp_ge (tgt := 74) S.1 S.2.1 dX5_passes_15 (by decide) (fun c1 => ?_) (fun c1 => ?_)
      · skip
        rw [hQQ]
        refine kw_vret S hr hlk hW hS (by decide) (by decide) dX5_passes_74 ?_
        refine ⟨rfl, rfl, hm.to (by rw [show n = 20 by omega])⟩
      · skip
        exact absurd (nI_le (a := 20) (b := n) (by omega) (by omega)) c1
    | succ dn ihloop =>
      intro n  hndn  x H locs ls hm hW hS hl
      refine lv_iload_n S.1 S.2.1 dX5_passes_12 rfl (lv_at hl 2 rfl) ?_
      refine lv_bipush (v := 20) S.1 S.2.1 dX5_passes_13 (by decide) ?_
      refine lv_icmp_ge (tgt := 74) S.1 S.2.1 dX5_passes_15 (by decide) (fun c2 => ?_) (fun c2 => ?_)
      · skip
        exact absurd c2 (nI_ge (a := n) (b := 20) (by omega) (by omega))
      · skip
        refine lv_ldc2 (v := 1000) S.1 S.2.1 S.2.2.2.1 (S.2.2.2.2 _ (by decide +kernel)) dX5_passes_18 ?_
        refine lv_aload_n S.1 S.2.1 dX5_passes_21 rfl (lv_at hl 0 rfl) ?_
        refine mx_gA S hK hm hW 31 iX5 rfl (by decide) (by decide) (by decide +kernel) dX5_passes_22 ?_
        refine lv_iload_n S.1 S.2.1 dX5_passes_25 rfl (lv_at hl 2 rfl) ?_
        refine mx_ild S hK hm hW 31 (by decide) (k := n) (kw_ixof (k := n) (n := 20) rfl (by omega) (by decide)) dX5_passes_26 (v := tA (m_pasN t ti n) 31 n) rfl ?_
        refine lv_i2l S.1 S.2.1 dX5_passes_27 rfl ?_
        refine lv_lmul S.1 S.2.1 dX5_passes_28 ?_
        refine lv_lstore_n (lv' := [(3, .long ((1000) * ((tA (m_pasN t ti n) 31 n).toInt64))), (0, .ref mo), (1, .int (ti)), (2, .int (nI n))]) S.1 S.2.1 dX5_passes_29 rfl hl (by decide) rfl (fun ls hl => ?_)
        refine lv_aload_n S.1 S.2.1 dX5_passes_30 rfl (lv_at hl 1 rfl) ?_
        refine mx_gA S hK hm hW 32 iX5 rfl (by decide) (by decide) (by decide +kernel) dX5_passes_31 ?_
        refine lv_iload_n S.1 S.2.1 dX5_passes_34 rfl (lv_at hl 3 rfl) ?_
        refine mx_lld S hK hm hW 32 (by decide) (k := n) (kw_ixof (k := n) (n := 20) rfl (by omega) (by decide)) dX5_passes_35 (v := tB (m_pasN t ti n) 32 n) rfl ?_
        refine lv_aload_n S.1 S.2.1 dX5_passes_36 rfl (lv_at hl 1 rfl) ?_
        refine mx_gA S hK hm hW 30 iX5 rfl (by decide) (by decide) (by decide +kernel) dX5_passes_37 ?_
        refine lv_iload_n S.1 S.2.1 dX5_passes_40 rfl (lv_at hl 3 rfl) ?_
        refine mx_ild S hK hm hW 30 (by decide) (k := n) (kw_ixof (k := n) (n := 20) rfl (by omega) (by decide)) dX5_passes_41 (v := tA (m_pasN t ti n) 30 n) rfl ?_
        refine lv_i2l S.1 S.2.1 dX5_passes_42 rfl ?_
        refine lv_iload_n S.1 S.2.1 dX5_passes_43 rfl (lv_at hl 2 rfl) ?_
        refine lv_i2l S.1 S.2.1 dX5_passes_44 rfl ?_
        refine lv_lmul S.1 S.2.1 dX5_passes_45 ?_
        refine lv_ladd S.1 S.2.1 dX5_passes_46 ?_
        refine lv_lstore (lv' := [(5, .long ((tB (m_pasN t ti n) 32 n) + (((tA (m_pasN t ti n) 30 n).toInt64) * ((ti).toInt64)))), (3, .long ((1000) * ((tA (m_pasN t ti n) 31 n).toInt64))), (0, .ref mo), (1, .int (ti)), (2, .int (nI n))]) S.1 S.2.1 dX5_passes_47 hl (by decide) rfl (fun ls hl => ?_)
        refine lv_aload_n S.1 S.2.1 dX5_passes_49 rfl (lv_at hl 2 rfl) ?_
        refine mx_gA S hK hm hW 32 iX5 rfl (by decide) (by decide) (by decide +kernel) dX5_passes_50 ?_
        refine lv_iload_n S.1 S.2.1 dX5_passes_53 rfl (lv_at hl 4 rfl) ?_
        refine lv_lload S.1 S.2.1 dX5_passes_54 (lv_at hl 0 rfl) ?_
        refine lv_lload_n S.1 S.2.1 dX5_passes_56 rfl (lv_at hl 1 rfl) ?_
        refine kx_lc_le (tgt := 65) S dX5_passes_57 dX5_passes_58 (by decide) (fun c3 => ?_) (fun c3 => ?_)
        · skip
          refine lv_lload S.1 S.2.1 dX5_passes_65 (lv_at hl 0 rfl) ?_
          refine mx_lst S hK hm hW hS 32 (by decide) (k := n) (kw_ixof (k := n) (n := 20) rfl (by omega) (by decide)) dX5_passes_67 (fun x H locs hm hW hS => ?_)
          refine lv_iinc (v := nI (n + 1)) (lv' := [(2, .int (nI (n + 1))), (5, .long ((tB (m_pasN t ti n) 32 n) + (((tA (m_pasN t ti n) 30 n).toInt64) * ((ti).toInt64)))), (3, .long ((1000) * ((tA (m_pasN t ti n) 31 n).toInt64))), (0, .ref mo), (1, .int (ti))]) S.1 S.2.1 dX5_passes_68 hl (k := 4) rfl (nI_1 _) (by decide) rfl (fun ls hl => ?_)
          refine lv_goto (tgt := 12) S.1 S.2.1 dX5_passes_71 (by decide) ?_
          exact ihloop (n + 1)  (by omega)  x _ _ ls (hm.to (by simp [m_pasN, m_tok, c2, c3])) hW hS (lv_sub hl [3, 4, 0] rfl)
        · skip
          refine lv_lload_n S.1 S.2.1 dX5_passes_61 rfl (lv_at hl 1 rfl) ?_
          refine lv_goto (tgt := 67) S.1 S.2.1 dX5_passes_62 (by decide) ?_
          refine mx_lst S hK hm hW hS 32 (by decide) (k := n) (kw_ixof (k := n) (n := 20) rfl (by omega) (by decide)) dX5_passes_67 (fun x H locs hm hW hS => ?_)
          refine lv_iinc (v := nI (n + 1)) (lv' := [(2, .int (nI (n + 1))), (5, .long ((tB (m_pasN t ti n) 32 n) + (((tA (m_pasN t ti n) 30 n).toInt64) * ((ti).toInt64)))), (3, .long ((1000) * ((tA (m_pasN t ti n) 31 n).toInt64))), (0, .ref mo), (1, .int (ti))]) S.1 S.2.1 dX5_passes_68 hl (k := 4) rfl (nI_1 _) (by decide) rfl (fun ls hl => ?_)
          refine lv_goto (tgt := 12) S.1 S.2.1 dX5_passes_71 (by decide) ?_
          exact ihloop (n + 1)  (by omega)  x _ _ ls (hm.to (by simp [m_pasN, m_tok, c2, c3])) hW hS (lv_sub hl [3, 4, 0] rfl)
  exact loop (20 - 0) 0  (by omega)  x _ _ ls (hm.to rfl) hW hS (lv_conv (lv_sub hl [1, 2, 0] rfl) (congr (congrArg List.cons rfl) (congr (congrArg List.cons rfl) (congr (congrArg List.cons (congrArg (fun z9 => ((2 : Nat), Value.int z9)) (show (0 : Int32) = nI 0 from by first | rfl | (rfl)))) rfl))))
