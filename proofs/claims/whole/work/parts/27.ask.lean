/-! LinkShaper: what it answers without a change -/
set_option maxHeartbeats 1000000 in
set_option maxRecDepth 100000 in
/-- leafAt -/
theorem c_X4_leafAt_s (l : Launch) (G : kw_G) (nu : Nat → Option Nat) (x z : kw_St) (o : Nat) (ee : kE) (t : mo_T) (k : Nat) (hz : zw G nu z o ee t x) (hk : k < eA ee 6 1) : kw_M l G yX4_leafAt wsX4_leafAt { frames := 3, cells := 0, slots := 0, locals := 64 } 0 0 [.ref o, .int (nI k)] nu x (kw_P nu (some (.ref (eA ee 1 k))) x) := by
  refine kw_M.ofW (cc := cX4_leafAt) (maxL := 2) (ret := (some (.object "LinkShaper$Leaf"))) (by decide) rfl (Nat.le_of_ble_eq_true rfl) ?_
  intro p e s m args below meth c A ls S hr hlk hnm hK hZ hA hW hS hl
  have hl : lv_has ls 2 [(0, .ref o), (1, .int (nI k))] := hl
  have iX4 : ∀ w ∈ wsX40, w ∈ wsX4_leafAt := by decide +kernel
  have hdg := zd_ng hz
  have hdl := zd_nl hz
  have hdp := zd_np hz
  have hdb := zd_nb hz
  refine lv_iload_n S.1 S.2.1 dX4_leafAt_0 rfl (lv_at hl 1 rfl) ?_
  refine lv_if_lt (tgt := 15) S.1 S.2.1 dX4_leafAt_1 (by decide) (fun c1 => ?_) (fun c1 => ?_)
  · skip
    exact absurd c1 (nI_pos (by omega))
  · skip
    refine lv_iload_n S.1 S.2.1 dX4_leafAt_4 rfl (lv_at hl 1 rfl) ?_
    refine lv_aload_n S.1 S.2.1 dX4_leafAt_5 rfl (lv_at hl 0 rfl) ?_
    refine kx_gA S hK hW (zk_o hz) 1 251 rfl iX4 (by decide) rfl rfl (by decide) (by decide +kernel) dX4_leafAt_6 (b := (eA ee 4 1)) (zs_list hz (i := 1) (by decide)) ?_
    refine kx_cV (As := []) (rest := [.int (nI k)]) (st1 := [.int (nI (eA ee 6 1)), .int (nI k)]) S hK hZ hA hW hS (c_z_size l G hz 1 (by decide)) (cwV 0 S.2.2.2.2 gX4_leafAt_Jx4a65c_size_8abf5 rfl rfl rfl (by decide +kernel) ⟨Nat.le_of_ble_eq_true rfl, Nat.le_of_ble_eq_true rfl⟩) (zk_L hz (by decide)) (by decide) rfl rfl hl.1 rfl (Nat.le_of_ble_eq_true rfl) dX4_leafAt_9 ⟨Nat.le_of_ble_eq_true rfl, Nat.le_of_ble_eq_true rfl⟩ rfl (fun H locs hW hS => ?_)
    refine lv_icmp_lt (tgt := 19) S.1 S.2.1 dX4_leafAt_12 (by decide) (fun c2 => ?_) (fun c2 => ?_)
    · skip
      refine lv_aload_n S.1 S.2.1 dX4_leafAt_19 rfl (lv_at hl 0 rfl) ?_
      refine kx_gA S hK hW (zk_o hz) 1 251 rfl iX4 (by decide) rfl rfl (by decide) (by decide +kernel) dX4_leafAt_20 (b := (eA ee 4 1)) (zs_list hz (i := 1) (by decide)) ?_
      refine lv_iload_n S.1 S.2.1 dX4_leafAt_23 rfl (lv_at hl 1 rfl) ?_
      refine kx_cV (As := [.int (nI k)]) (rest := []) (st1 := [.ref (eA ee 1 k)]) S hK hZ hA hW hS (c_z_get l G hz 1 k (by decide) (by omega)) (cwV 1 S.2.2.2.2 gX4_leafAt_Jx4a65c_get_915e3 rfl rfl rfl (by decide +kernel) ⟨Nat.le_of_ble_eq_true rfl, Nat.le_of_ble_eq_true rfl⟩) (zk_L hz (by decide)) (by decide) rfl rfl hl.1 rfl (Nat.le_of_ble_eq_true rfl) dX4_leafAt_24 ⟨Nat.le_of_ble_eq_true rfl, Nat.le_of_ble_eq_true rfl⟩ rfl (fun H locs hW hS => ?_)
      refine kx_cast S hK hW (zk_l hz (by omega)) (by decide) rfl (by decide +kernel) dX4_leafAt_27 ?_
      refine kw_aret S hr (Or.inl ⟨_, rfl⟩) hlk (v := some (eA ee 1 k)) hW hS (by decide) (by decide) dX4_leafAt_30 ?_
      refine ⟨?_, rfl, ?_⟩ <;> first | rfl | (simp [c1, c2, kw_b]; done) | contradiction
    · skip
      exact absurd (nI_lt hk (by omega)) c2
set_option maxHeartbeats 1000000 in
set_option maxRecDepth 100000 in
/-- leafAt of nothing -/
theorem c_X4_leafAt_o (l : Launch) (G : kw_G) (nu : Nat → Option Nat) (x z : kw_St) (o : Nat) (ee : kE) (t : mo_T) (ki : Int32) (hz : zw G nu z o ee t x) (hki : ∀ k, k < eA ee 6 1 → ki ≠ nI k) : kw_M l G yX4_leafAt wsX4_leafAt { frames := 3, cells := 0, slots := 0, locals := 64 } 0 0 [.ref o, .int (ki)] nu x (kw_P nu (some (.null)) x) := by
  refine kw_M.ofW (cc := cX4_leafAt) (maxL := 2) (ret := (some (.object "LinkShaper$Leaf"))) (by decide) rfl (Nat.le_of_ble_eq_true rfl) ?_
  intro p e s m args below meth c A ls S hr hlk hnm hK hZ hA hW hS hl
  have hl : lv_has ls 2 [(0, .ref o), (1, .int (ki))] := hl
  have iX4 : ∀ w ∈ wsX40, w ∈ wsX4_leafAt := by decide +kernel
  have hdg := zd_ng hz
  have hdl := zd_nl hz
  have hdp := zd_np hz
  have hdb := zd_nb hz
  refine lv_iload_n S.1 S.2.1 dX4_leafAt_0 rfl (lv_at hl 1 rfl) ?_
  refine lv_if_lt (tgt := 15) S.1 S.2.1 dX4_leafAt_1 (by decide) (fun c1 => ?_) (fun c1 => ?_)
  · skip
    refine lv_null S.1 S.2.1 dX4_leafAt_15 ?_
    refine lv_goto (tgt := 30) S.1 S.2.1 dX4_leafAt_16 (by decide) ?_
    refine kw_aret S hr (Or.inl ⟨_, rfl⟩) hlk (v := none) hW hS (by decide) (by decide) dX4_leafAt_30 ?_
    refine ⟨?_, rfl, ?_⟩ <;> first | rfl | (simp [c1, kw_b]; done) | contradiction
  · skip
    refine lv_iload_n S.1 S.2.1 dX4_leafAt_4 rfl (lv_at hl 1 rfl) ?_
    refine lv_aload_n S.1 S.2.1 dX4_leafAt_5 rfl (lv_at hl 0 rfl) ?_
    refine kx_gA S hK hW (zk_o hz) 1 251 rfl iX4 (by decide) rfl rfl (by decide) (by decide +kernel) dX4_leafAt_6 (b := (eA ee 4 1)) (zs_list hz (i := 1) (by decide)) ?_
    refine kx_cV (As := []) (rest := [.int (ki)]) (st1 := [.int (nI (eA ee 6 1)), .int (ki)]) S hK hZ hA hW hS (c_z_size l G hz 1 (by decide)) (cwV 0 S.2.2.2.2 gX4_leafAt_Jx4a65c_size_8abf5 rfl rfl rfl (by decide +kernel) ⟨Nat.le_of_ble_eq_true rfl, Nat.le_of_ble_eq_true rfl⟩) (zk_L hz (by decide)) (by decide) rfl rfl hl.1 rfl (Nat.le_of_ble_eq_true rfl) dX4_leafAt_9 ⟨Nat.le_of_ble_eq_true rfl, Nat.le_of_ble_eq_true rfl⟩ rfl (fun H locs hW hS => ?_)
    refine lv_icmp_lt (tgt := 19) S.1 S.2.1 dX4_leafAt_12 (by decide) (fun c2 => ?_) (fun c2 => ?_)
    · skip
      exact absurd c2 (z_ixo (by omega) hki (by assumption))
    · skip
      refine lv_null S.1 S.2.1 dX4_leafAt_15 ?_
      refine lv_goto (tgt := 30) S.1 S.2.1 dX4_leafAt_16 (by decide) ?_
      refine kw_aret S hr (Or.inl ⟨_, rfl⟩) hlk (v := none) hW hS (by decide) (by decide) dX4_leafAt_30 ?_
      refine ⟨?_, rfl, ?_⟩ <;> first | rfl | (simp [c1, c2, kw_b]; done) | contradiction
set_option maxHeartbeats 1000000 in
set_option maxRecDepth 100000 in
/-- groupAt -/
theorem c_X4_groupAt_s (l : Launch) (G : kw_G) (nu : Nat → Option Nat) (x z : kw_St) (o : Nat) (ee : kE) (t : mo_T) (k : Nat) (hz : zw G nu z o ee t x) (hk : k < eA ee 6 0) : kw_M l G yX4_groupAt wsX4_groupAt { frames := 3, cells := 0, slots := 0, locals := 64 } 0 0 [.ref o, .int (nI k)] nu x (kw_P nu (some (.ref (eA ee 0 k))) x) := by
  refine kw_M.ofW (cc := cX4_groupAt) (maxL := 2) (ret := (some (.object "LinkShaper$Group"))) (by decide) rfl (Nat.le_of_ble_eq_true rfl) ?_
  intro p e s m args below meth c A ls S hr hlk hnm hK hZ hA hW hS hl
  have hl : lv_has ls 2 [(0, .ref o), (1, .int (nI k))] := hl
  have iX4 : ∀ w ∈ wsX40, w ∈ wsX4_groupAt := by decide +kernel
  have hdg := zd_ng hz
  have hdl := zd_nl hz
  have hdp := zd_np hz
  have hdb := zd_nb hz
  refine lv_iload_n S.1 S.2.1 dX4_groupAt_0 rfl (lv_at hl 1 rfl) ?_
  refine lv_if_lt (tgt := 15) S.1 S.2.1 dX4_groupAt_1 (by decide) (fun c1 => ?_) (fun c1 => ?_)
  · skip
    exact absurd c1 (nI_pos (by omega))
  · skip
    refine lv_iload_n S.1 S.2.1 dX4_groupAt_4 rfl (lv_at hl 1 rfl) ?_
    refine lv_aload_n S.1 S.2.1 dX4_groupAt_5 rfl (lv_at hl 0 rfl) ?_
    refine kx_gA S hK hW (zk_o hz) 0 250 rfl iX4 (by decide) rfl rfl (by decide) (by decide +kernel) dX4_groupAt_6 (b := (eA ee 4 0)) (zs_list hz (i := 0) (by decide)) ?_
    refine kx_cV (As := []) (rest := [.int (nI k)]) (st1 := [.int (nI (eA ee 6 0)), .int (nI k)]) S hK hZ hA hW hS (c_z_size l G hz 0 (by decide)) (cwV 0 S.2.2.2.2 gX4_groupAt_Jx4a65c_size_8abf5 rfl rfl rfl (by decide +kernel) ⟨Nat.le_of_ble_eq_true rfl, Nat.le_of_ble_eq_true rfl⟩) (zk_L hz (by decide)) (by decide) rfl rfl hl.1 rfl (Nat.le_of_ble_eq_true rfl) dX4_groupAt_9 ⟨Nat.le_of_ble_eq_true rfl, Nat.le_of_ble_eq_true rfl⟩ rfl (fun H locs hW hS => ?_)
    refine lv_icmp_lt (tgt := 19) S.1 S.2.1 dX4_groupAt_12 (by decide) (fun c2 => ?_) (fun c2 => ?_)
    · skip
      refine lv_aload_n S.1 S.2.1 dX4_groupAt_19 rfl (lv_at hl 0 rfl) ?_
      refine kx_gA S hK hW (zk_o hz) 0 250 rfl iX4 (by decide) rfl rfl (by decide) (by decide +kernel) dX4_groupAt_20 (b := (eA ee 4 0)) (zs_list hz (i := 0) (by decide)) ?_
      refine lv_iload_n S.1 S.2.1 dX4_groupAt_23 rfl (lv_at hl 1 rfl) ?_
      refine kx_cV (As := [.int (nI k)]) (rest := []) (st1 := [.ref (eA ee 0 k)]) S hK hZ hA hW hS (c_z_get l G hz 0 k (by decide) (by omega)) (cwV 1 S.2.2.2.2 gX4_groupAt_Jx4a65c_get_915e3 rfl rfl rfl (by decide +kernel) ⟨Nat.le_of_ble_eq_true rfl, Nat.le_of_ble_eq_true rfl⟩) (zk_L hz (by decide)) (by decide) rfl rfl hl.1 rfl (Nat.le_of_ble_eq_true rfl) dX4_groupAt_24 ⟨Nat.le_of_ble_eq_true rfl, Nat.le_of_ble_eq_true rfl⟩ rfl (fun H locs hW hS => ?_)
      refine kx_cast S hK hW (zk_g hz (by omega)) (by decide) rfl (by decide +kernel) dX4_groupAt_27 ?_
      refine kw_aret S hr (Or.inl ⟨_, rfl⟩) hlk (v := some (eA ee 0 k)) hW hS (by decide) (by decide) dX4_groupAt_30 ?_
      refine ⟨?_, rfl, ?_⟩ <;> first | rfl | (simp [c1, c2, kw_b]; done) | contradiction
    · skip
      exact absurd (nI_lt hk (by omega)) c2
set_option maxHeartbeats 1000000 in
set_option maxRecDepth 100000 in
/-- groupAt of nothing -/
theorem c_X4_groupAt_o (l : Launch) (G : kw_G) (nu : Nat → Option Nat) (x z : kw_St) (o : Nat) (ee : kE) (t : mo_T) (ki : Int32) (hz : zw G nu z o ee t x) (hki : ∀ k, k < eA ee 6 0 → ki ≠ nI k) : kw_M l G yX4_groupAt wsX4_groupAt { frames := 3, cells := 0, slots := 0, locals := 64 } 0 0 [.ref o, .int (ki)] nu x (kw_P nu (some (.null)) x) := by
  refine kw_M.ofW (cc := cX4_groupAt) (maxL := 2) (ret := (some (.object "LinkShaper$Group"))) (by decide) rfl (Nat.le_of_ble_eq_true rfl) ?_
  intro p e s m args below meth c A ls S hr hlk hnm hK hZ hA hW hS hl
  have hl : lv_has ls 2 [(0, .ref o), (1, .int (ki))] := hl
  have iX4 : ∀ w ∈ wsX40, w ∈ wsX4_groupAt := by decide +kernel
  have hdg := zd_ng hz
  have hdl := zd_nl hz
  have hdp := zd_np hz
  have hdb := zd_nb hz
  refine lv_iload_n S.1 S.2.1 dX4_groupAt_0 rfl (lv_at hl 1 rfl) ?_
  refine lv_if_lt (tgt := 15) S.1 S.2.1 dX4_groupAt_1 (by decide) (fun c1 => ?_) (fun c1 => ?_)
  · skip
    refine lv_null S.1 S.2.1 dX4_groupAt_15 ?_
    refine lv_goto (tgt := 30) S.1 S.2.1 dX4_groupAt_16 (by decide) ?_
    refine kw_aret S hr (Or.inl ⟨_, rfl⟩) hlk (v := none) hW hS (by decide) (by decide) dX4_groupAt_30 ?_
    refine ⟨?_, rfl, ?_⟩ <;> first | rfl | (simp [c1, kw_b]; done) | contradiction
  · skip
    refine lv_iload_n S.1 S.2.1 dX4_groupAt_4 rfl (lv_at hl 1 rfl) ?_
    refine lv_aload_n S.1 S.2.1 dX4_groupAt_5 rfl (lv_at hl 0 rfl) ?_
    refine kx_gA S hK hW (zk_o hz) 0 250 rfl iX4 (by decide) rfl rfl (by decide) (by decide +kernel) dX4_groupAt_6 (b := (eA ee 4 0)) (zs_list hz (i := 0) (by decide)) ?_
    refine kx_cV (As := []) (rest := [.int (ki)]) (st1 := [.int (nI (eA ee 6 0)), .int (ki)]) S hK hZ hA hW hS (c_z_size l G hz 0 (by decide)) (cwV 0 S.2.2.2.2 gX4_groupAt_Jx4a65c_size_8abf5 rfl rfl rfl (by decide +kernel) ⟨Nat.le_of_ble_eq_true rfl, Nat.le_of_ble_eq_true rfl⟩) (zk_L hz (by decide)) (by decide) rfl rfl hl.1 rfl (Nat.le_of_ble_eq_true rfl) dX4_groupAt_9 ⟨Nat.le_of_ble_eq_true rfl, Nat.le_of_ble_eq_true rfl⟩ rfl (fun H locs hW hS => ?_)
    refine lv_icmp_lt (tgt := 19) S.1 S.2.1 dX4_groupAt_12 (by decide) (fun c2 => ?_) (fun c2 => ?_)
    · skip
      exact absurd c2 (z_ixo (by omega) hki (by assumption))
    · skip
      refine lv_null S.1 S.2.1 dX4_groupAt_15 ?_
      refine lv_goto (tgt := 30) S.1 S.2.1 dX4_groupAt_16 (by decide) ?_
      refine kw_aret S hr (Or.inl ⟨_, rfl⟩) hlk (v := none) hW hS (by decide) (by decide) dX4_groupAt_30 ?_
      refine ⟨?_, rfl, ?_⟩ <;> first | rfl | (simp [c1, c2, kw_b]; done) | contradiction
set_option maxHeartbeats 1000000 in
set_option maxRecDepth 100000 in
/-- packet -/
theorem c_X4_packet_s (l : Launch) (G : kw_G) (nu : Nat → Option Nat) (x z : kw_St) (o : Nat) (ee : kE) (t : mo_T) (k : Nat) (w : Int32) (hz : zw G nu z o ee t x) (hk : k < eA ee 6 2) : kw_M l G yX4_packet wsX4_packet { frames := 3, cells := 0, slots := 0, locals := 64 } 0 0 [.ref o, .int (nI k), .int (w)] nu x (kw_P nu (some (.int (m_packet t (eA ee 6 2) k w))) x) := by
  refine kw_M.ofW (cc := cX4_packet) (maxL := 3) (ret := (some .int)) (by decide) rfl (Nat.le_of_ble_eq_true rfl) ?_
  intro p e s m args below meth c A ls S hr hlk hnm hK hZ hA hW hS hl
  have hl : lv_has ls 3 [(0, .ref o), (1, .int (nI k)), (2, .int (w))] := hl
  have iX4 : ∀ w ∈ wsX40, w ∈ wsX4_packet := by decide +kernel
  have hdg := zd_ng hz
  have hdl := zd_nl hz
  have hdp := zd_np hz
  have hdb := zd_nb hz
  refine lv_iload_n S.1 S.2.1 dX4_packet_0 rfl (lv_at hl 1 rfl) ?_
  refine lv_if_lt (tgt := 15) S.1 S.2.1 dX4_packet_1 (by decide) (fun c1 => ?_) (fun c1 => ?_)
  · skip
    exact absurd c1 (nI_pos (by omega))
  · skip
    refine lv_iload_n S.1 S.2.1 dX4_packet_4 rfl (lv_at hl 1 rfl) ?_
    refine lv_aload_n S.1 S.2.1 dX4_packet_5 rfl (lv_at hl 0 rfl) ?_
    refine kx_gA S hK hW (zk_o hz) 2 252 rfl iX4 (by decide) rfl rfl (by decide) (by decide +kernel) dX4_packet_6 (b := (eA ee 4 2)) (zs_list hz (i := 2) (by decide)) ?_
    refine kx_cV (As := []) (rest := [.int (nI k)]) (st1 := [.int (nI (eA ee 6 2)), .int (nI k)]) S hK hZ hA hW hS (c_z_size l G hz 2 (by decide)) (cwV 0 S.2.2.2.2 gX4_packet_Jx4a65c_size_8abf5 rfl rfl rfl (by decide +kernel) ⟨Nat.le_of_ble_eq_true rfl, Nat.le_of_ble_eq_true rfl⟩) (zk_L hz (by decide)) (by decide) rfl rfl hl.1 rfl (Nat.le_of_ble_eq_true rfl) dX4_packet_9 ⟨Nat.le_of_ble_eq_true rfl, Nat.le_of_ble_eq_true rfl⟩ rfl (fun H locs hW hS => ?_)
    refine lv_icmp_lt (tgt := 17) S.1 S.2.1 dX4_packet_12 (by decide) (fun c2 => ?_) (fun c2 => ?_)
    · skip
      refine lv_aload_n S.1 S.2.1 dX4_packet_17 rfl (lv_at hl 0 rfl) ?_
      refine kx_gA S hK hW (zk_o hz) 2 252 rfl iX4 (by decide) rfl rfl (by decide) (by decide +kernel) dX4_packet_18 (b := (eA ee 4 2)) (zs_list hz (i := 2) (by decide)) ?_
      refine lv_iload_n S.1 S.2.1 dX4_packet_21 rfl (lv_at hl 1 rfl) ?_
      refine kx_cV (As := [.int (nI k)]) (rest := []) (st1 := [.ref (eA ee 2 k)]) S hK hZ hA hW hS (c_z_get l G hz 2 k (by decide) (by omega)) (cwV 1 S.2.2.2.2 gX4_packet_Jx4a65c_get_915e3 rfl rfl rfl (by decide +kernel) ⟨Nat.le_of_ble_eq_true rfl, Nat.le_of_ble_eq_true rfl⟩) (zk_L hz (by decide)) (by decide) rfl rfl hl.1 rfl (Nat.le_of_ble_eq_true rfl) dX4_packet_22 ⟨Nat.le_of_ble_eq_true rfl, Nat.le_of_ble_eq_true rfl⟩ rfl (fun H locs hW hS => ?_)
      refine kx_cast S hK hW (zk_p hz (by omega)) (by decide) rfl (by decide +kernel) dX4_packet_25 ?_
      refine lv_iload_n S.1 S.2.1 dX4_packet_28 rfl (lv_at hl 2 rfl) ?_
      refine kx_cV (As := [.int (w)]) (rest := []) (st1 := [.int (q_pfig x ((eA ee 2 k)) w)]) S hK hZ hA hW hS (c_X3_figure l G nu x ((eA ee 2 k)) w ((zk_p hz (by omega)))) (cwV 1 S.2.2.2.2 gX4_packet_X3_figure rfl rfl rfl (by decide +kernel) ⟨Nat.le_of_ble_eq_true rfl, Nat.le_of_ble_eq_true rfl⟩) ((zk_p hz (by omega))) (by decide) rfl rfl hl.1 rfl (Nat.le_of_ble_eq_true rfl) dX4_packet_29 ⟨Nat.le_of_ble_eq_true rfl, Nat.le_of_ble_eq_true rfl⟩ rfl (fun H locs hW hS => ?_)
      refine kw_iret S hr hlk hW hS (by decide) (by decide) dX4_packet_32 ?_
      refine ⟨?_, rfl, rfl⟩; simp [m_packet, q_pfig, hk, (zp hz hk).2.1, (zp hz hk).2.2.1, (zp hz hk).2.2.2.1, (zp hz hk).2.2.2.2.1, (zp hz hk).2.2.2.2.2.1, (zp hz hk).2.2.2.2.2.2.1, (zp hz hk).2.2.2.2.2.2.2]
    · skip
      exact absurd (nI_lt hk (by omega)) c2
set_option maxHeartbeats 1000000 in
set_option maxRecDepth 100000 in
/-- packet of nothing -/
theorem c_X4_packet_o (l : Launch) (G : kw_G) (nu : Nat → Option Nat) (x z : kw_St) (o : Nat) (ee : kE) (t : mo_T) (ki : Int32) (w : Int32) (hz : zw G nu z o ee t x) (hki : ∀ k, k < eA ee 6 2 → ki ≠ nI k) : kw_M l G yX4_packet wsX4_packet { frames := 3, cells := 0, slots := 0, locals := 64 } 0 0 [.ref o, .int (ki), .int (w)] nu x (kw_P nu (some (.int (-1))) x) := by
  refine kw_M.ofW (cc := cX4_packet) (maxL := 3) (ret := (some .int)) (by decide) rfl (Nat.le_of_ble_eq_true rfl) ?_
  intro p e s m args below meth c A ls S hr hlk hnm hK hZ hA hW hS hl
  have hl : lv_has ls 3 [(0, .ref o), (1, .int (ki)), (2, .int (w))] := hl
  have iX4 : ∀ w ∈ wsX40, w ∈ wsX4_packet := by decide +kernel
  have hdg := zd_ng hz
  have hdl := zd_nl hz
  have hdp := zd_np hz
  have hdb := zd_nb hz
  refine lv_iload_n S.1 S.2.1 dX4_packet_0 rfl (lv_at hl 1 rfl) ?_
  refine lv_if_lt (tgt := 15) S.1 S.2.1 dX4_packet_1 (by decide) (fun c1 => ?_) (fun c1 => ?_)
  · skip
    refine lv_iconst (v := (-1)) S.1 S.2.1 dX4_packet_15 (by decide) ?_
    refine kw_iret S hr hlk hW hS (by decide) (by decide) dX4_packet_16 ?_
    refine ⟨?_, rfl, ?_⟩ <;> first | rfl | (simp [c1, kw_b]; done) | contradiction
  · skip
    refine lv_iload_n S.1 S.2.1 dX4_packet_4 rfl (lv_at hl 1 rfl) ?_
    refine lv_aload_n S.1 S.2.1 dX4_packet_5 rfl (lv_at hl 0 rfl) ?_
    refine kx_gA S hK hW (zk_o hz) 2 252 rfl iX4 (by decide) rfl rfl (by decide) (by decide +kernel) dX4_packet_6 (b := (eA ee 4 2)) (zs_list hz (i := 2) (by decide)) ?_
    refine kx_cV (As := []) (rest := [.int (ki)]) (st1 := [.int (nI (eA ee 6 2)), .int (ki)]) S hK hZ hA hW hS (c_z_size l G hz 2 (by decide)) (cwV 0 S.2.2.2.2 gX4_packet_Jx4a65c_size_8abf5 rfl rfl rfl (by decide +kernel) ⟨Nat.le_of_ble_eq_true rfl, Nat.le_of_ble_eq_true rfl⟩) (zk_L hz (by decide)) (by decide) rfl rfl hl.1 rfl (Nat.le_of_ble_eq_true rfl) dX4_packet_9 ⟨Nat.le_of_ble_eq_true rfl, Nat.le_of_ble_eq_true rfl⟩ rfl (fun H locs hW hS => ?_)
    refine lv_icmp_lt (tgt := 17) S.1 S.2.1 dX4_packet_12 (by decide) (fun c2 => ?_) (fun c2 => ?_)
    · skip
      exact absurd c2 (z_ixo (by omega) hki (by assumption))
    · skip
      refine lv_iconst (v := (-1)) S.1 S.2.1 dX4_packet_15 (by decide) ?_
      refine kw_iret S hr hlk hW hS (by decide) (by decide) dX4_packet_16 ?_
      refine ⟨?_, rfl, ?_⟩ <;> first | rfl | (simp [c1, c2, kw_b]; done) | contradiction
set_option maxHeartbeats 1000000 in
set_option maxRecDepth 100000 in
/-- sent -/
theorem c_X4_sent_s (l : Launch) (G : kw_G) (nu : Nat → Option Nat) (x z : kw_St) (o : Nat) (ee : kE) (t : mo_T) (k : Nat) (hz : zw G nu z o ee t x) (hk : k < eA ee 6 3) : kw_M l G yX4_sent wsX4_sent { frames := 3, cells := 0, slots := 0, locals := 64 } 0 0 [.ref o, .int (nI k)] nu x (kw_P nu (some (.int (tA t 40 k))) x) := by
  refine kw_M.ofW (cc := cX4_sent) (maxL := 2) (ret := (some .int)) (by decide) rfl (Nat.le_of_ble_eq_true rfl) ?_
  intro p e s m args below meth c A ls S hr hlk hnm hK hZ hA hW hS hl
  have hl : lv_has ls 2 [(0, .ref o), (1, .int (nI k))] := hl
  have iX3 : ∀ w ∈ wsX30, w ∈ wsX4_sent := by decide +kernel
  have iX4 : ∀ w ∈ wsX40, w ∈ wsX4_sent := by decide +kernel
  have hdg := zd_ng hz
  have hdl := zd_nl hz
  have hdp := zd_np hz
  have hdb := zd_nb hz
  refine lv_iload_n S.1 S.2.1 dX4_sent_0 rfl (lv_at hl 1 rfl) ?_
  refine lv_if_lt (tgt := 15) S.1 S.2.1 dX4_sent_1 (by decide) (fun c1 => ?_) (fun c1 => ?_)
  · skip
    exact absurd c1 (nI_pos (by omega))
  · skip
    refine lv_iload_n S.1 S.2.1 dX4_sent_4 rfl (lv_at hl 1 rfl) ?_
    refine lv_aload_n S.1 S.2.1 dX4_sent_5 rfl (lv_at hl 0 rfl) ?_
    refine kx_gA S hK hW (zk_o hz) 3 253 rfl iX4 (by decide) rfl rfl (by decide) (by decide +kernel) dX4_sent_6 (b := (eA ee 4 3)) (zs_list hz (i := 3) (by decide)) ?_
    refine kx_cV (As := []) (rest := [.int (nI k)]) (st1 := [.int (nI (eA ee 6 3)), .int (nI k)]) S hK hZ hA hW hS (c_z_size l G hz 3 (by decide)) (cwV 0 S.2.2.2.2 gX4_sent_Jx4a65c_size_8abf5 rfl rfl rfl (by decide +kernel) ⟨Nat.le_of_ble_eq_true rfl, Nat.le_of_ble_eq_true rfl⟩) (zk_L hz (by decide)) (by decide) rfl rfl hl.1 rfl (Nat.le_of_ble_eq_true rfl) dX4_sent_9 ⟨Nat.le_of_ble_eq_true rfl, Nat.le_of_ble_eq_true rfl⟩ rfl (fun H locs hW hS => ?_)
    refine lv_icmp_lt (tgt := 17) S.1 S.2.1 dX4_sent_12 (by decide) (fun c2 => ?_) (fun c2 => ?_)
    · skip
      refine lv_aload_n S.1 S.2.1 dX4_sent_17 rfl (lv_at hl 0 rfl) ?_
      refine kx_gA S hK hW (zk_o hz) 3 253 rfl iX4 (by decide) rfl rfl (by decide) (by decide +kernel) dX4_sent_18 (b := (eA ee 4 3)) (zs_list hz (i := 3) (by decide)) ?_
      refine lv_iload_n S.1 S.2.1 dX4_sent_21 rfl (lv_at hl 1 rfl) ?_
      refine kx_cV (As := [.int (nI k)]) (rest := []) (st1 := [.ref (eA ee 2 (eA ee 7 k))]) S hK hZ hA hW hS (c_z_get3 l G hz k (by omega)) (cwV 1 S.2.2.2.2 gX4_sent_Jx4a65c_get_915e3 rfl rfl rfl (by decide +kernel) ⟨Nat.le_of_ble_eq_true rfl, Nat.le_of_ble_eq_true rfl⟩) (zk_L hz (by decide)) (by decide) rfl rfl hl.1 rfl (Nat.le_of_ble_eq_true rfl) dX4_sent_22 ⟨Nat.le_of_ble_eq_true rfl, Nat.le_of_ble_eq_true rfl⟩ rfl (fun H locs hW hS => ?_)
      refine kx_cast S hK hW (zk_p hz (hz.1.2.2.2.2.2.1 k (by omega)).2) (by decide) rfl (by decide +kernel) dX4_sent_25 ?_
      refine kx_gI S hK hW (zk_p hz (hz.1.2.2.2.2.2.1 k (by omega)).2) 0 200 rfl iX3 (by decide) rfl rfl (by decide) (by decide +kernel) dX4_sent_28 (v := nI (eA ee 7 k)) (zp hz (hz.1.2.2.2.2.2.1 k (by omega)).2).1 ?_
      refine kw_iret S hr hlk hW hS (by decide) (by decide) dX4_sent_31 ?_
      refine ⟨?_, rfl, rfl⟩; rw [(hz.1.2.2.2.2.2.1 k hk).1]
    · skip
      exact absurd (nI_lt hk (by omega)) c2
set_option maxHeartbeats 1000000 in
set_option maxRecDepth 100000 in
/-- sent of nothing -/
theorem c_X4_sent_o (l : Launch) (G : kw_G) (nu : Nat → Option Nat) (x z : kw_St) (o : Nat) (ee : kE) (t : mo_T) (ki : Int32) (hz : zw G nu z o ee t x) (hki : ∀ k, k < eA ee 6 3 → ki ≠ nI k) : kw_M l G yX4_sent wsX4_sent { frames := 3, cells := 0, slots := 0, locals := 64 } 0 0 [.ref o, .int (ki)] nu x (kw_P nu (some (.int (-1))) x) := by
  refine kw_M.ofW (cc := cX4_sent) (maxL := 2) (ret := (some .int)) (by decide) rfl (Nat.le_of_ble_eq_true rfl) ?_
  intro p e s m args below meth c A ls S hr hlk hnm hK hZ hA hW hS hl
  have hl : lv_has ls 2 [(0, .ref o), (1, .int (ki))] := hl
  have iX4 : ∀ w ∈ wsX40, w ∈ wsX4_sent := by decide +kernel
  have hdg := zd_ng hz
  have hdl := zd_nl hz
  have hdp := zd_np hz
  have hdb := zd_nb hz
  refine lv_iload_n S.1 S.2.1 dX4_sent_0 rfl (lv_at hl 1 rfl) ?_
  refine lv_if_lt (tgt := 15) S.1 S.2.1 dX4_sent_1 (by decide) (fun c1 => ?_) (fun c1 => ?_)
  · skip
    refine lv_iconst (v := (-1)) S.1 S.2.1 dX4_sent_15 (by decide) ?_
    refine kw_iret S hr hlk hW hS (by decide) (by decide) dX4_sent_16 ?_
    refine ⟨?_, rfl, ?_⟩ <;> first | rfl | (simp [c1, kw_b]; done) | contradiction
  · skip
    refine lv_iload_n S.1 S.2.1 dX4_sent_4 rfl (lv_at hl 1 rfl) ?_
    refine lv_aload_n S.1 S.2.1 dX4_sent_5 rfl (lv_at hl 0 rfl) ?_
    refine kx_gA S hK hW (zk_o hz) 3 253 rfl iX4 (by decide) rfl rfl (by decide) (by decide +kernel) dX4_sent_6 (b := (eA ee 4 3)) (zs_list hz (i := 3) (by decide)) ?_
    refine kx_cV (As := []) (rest := [.int (ki)]) (st1 := [.int (nI (eA ee 6 3)), .int (ki)]) S hK hZ hA hW hS (c_z_size l G hz 3 (by decide)) (cwV 0 S.2.2.2.2 gX4_sent_Jx4a65c_size_8abf5 rfl rfl rfl (by decide +kernel) ⟨Nat.le_of_ble_eq_true rfl, Nat.le_of_ble_eq_true rfl⟩) (zk_L hz (by decide)) (by decide) rfl rfl hl.1 rfl (Nat.le_of_ble_eq_true rfl) dX4_sent_9 ⟨Nat.le_of_ble_eq_true rfl, Nat.le_of_ble_eq_true rfl⟩ rfl (fun H locs hW hS => ?_)
    refine lv_icmp_lt (tgt := 17) S.1 S.2.1 dX4_sent_12 (by decide) (fun c2 => ?_) (fun c2 => ?_)
    · skip
      exact absurd c2 (z_ixo (by omega) hki (by assumption))
    · skip
      refine lv_iconst (v := (-1)) S.1 S.2.1 dX4_sent_15 (by decide) ?_
      refine kw_iret S hr hlk hW hS (by decide) (by decide) dX4_sent_16 ?_
      refine ⟨?_, rfl, ?_⟩ <;> first | rfl | (simp [c1, c2, kw_b]; done) | contradiction
set_option maxHeartbeats 1000000 in
set_option maxRecDepth 100000 in
/-- about -/
theorem c_X4_about_s (l : Launch) (G : kw_G) (nu : Nat → Option Nat) (x z : kw_St) (o : Nat) (ee : kE) (t : mo_T) (k : Nat) (w : Int32) (hz : zw G nu z o ee t x) (hk : k < eA ee 6 1) : kw_M l G yX4_about wsX4_about { frames := 4, cells := 0, slots := 0, locals := 85 } 0 0 [.ref o, .int (nI k), .int (w)] nu x (kw_P nu (some (.int (m_about t (eA ee 6 1) k w))) x) := by
  refine kw_M.ofW (cc := cX4_about) (maxL := 4) (ret := (some .int)) (by decide) rfl (Nat.le_of_ble_eq_true rfl) ?_
  intro p e s m args below meth c A ls S hr hlk hnm hK hZ hA hW hS hl
  have hl : lv_has ls 4 [(0, .ref o), (1, .int (nI k)), (2, .int (w))] := hl
  have hdg := zd_ng hz
  have hdl := zd_nl hz
  have hdp := zd_np hz
  have hdb := zd_nb hz
  refine lv_aload_n S.1 S.2.1 dX4_about_0 rfl (lv_at hl 0 rfl) ?_
  refine lv_iload_n S.1 S.2.1 dX4_about_1 rfl (lv_at hl 1 rfl) ?_
  refine kx_cV (As := [.int (nI k)]) (rest := []) (st1 := [.ref (eA ee 1 k)]) S hK hZ hA hW hS (c_X4_leafAt_s l G nu x z o ee t k hz hk) (cwV 1 S.2.2.2.2 gX4_about_X4_leafAt rfl rfl rfl (by decide +kernel) ⟨Nat.le_of_ble_eq_true rfl, Nat.le_of_ble_eq_true rfl⟩) (zk_o hz) (by decide) rfl rfl hl.1 rfl (Nat.le_of_ble_eq_true rfl) dX4_about_2 ⟨Nat.le_of_ble_eq_true rfl, Nat.le_of_ble_eq_true rfl⟩ rfl (fun H locs hW hS => ?_)
  refine lv_astore_n (lv' := [(3, .ref (eA ee 1 k)), (0, .ref o), (1, .int (nI k)), (2, .int (w))]) S.1 S.2.1 dX4_about_5 rfl hl (by decide) rfl (fun ls hl => ?_)
  refine lv_aload_n S.1 S.2.1 dX4_about_6 rfl (lv_at hl 0 rfl) ?_
  refine lv_ifnonnull (tgt := 14) S.1 S.2.1 dX4_about_7 (by decide) ?_
  refine lv_aload_n S.1 S.2.1 dX4_about_14 rfl (lv_at hl 0 rfl) ?_
  refine lv_iload_n S.1 S.2.1 dX4_about_15 rfl (lv_at hl 3 rfl) ?_
  refine kx_cV (As := [.int (w)]) (rest := []) (st1 := [.int (q_lfig x ((eA ee 1 k)) w)]) S hK hZ hA hW hS (c_X2_figure l G nu x ((eA ee 1 k)) w ((zk_l hz (by omega)))) (cwV 1 S.2.2.2.2 gX4_about_X2_figure rfl rfl rfl (by decide +kernel) ⟨Nat.le_of_ble_eq_true rfl, Nat.le_of_ble_eq_true rfl⟩) ((zk_l hz (by omega))) (by decide) rfl rfl hl.1 rfl (Nat.le_of_ble_eq_true rfl) dX4_about_16 ⟨Nat.le_of_ble_eq_true rfl, Nat.le_of_ble_eq_true rfl⟩ rfl (fun H locs hW hS => ?_)
  refine kw_iret S hr hlk hW hS (by decide) (by decide) dX4_about_19 ?_
  refine ⟨?_, rfl, rfl⟩; simp [m_about, q_lfig, hk, (zl hz hk).2.2.2.2.2.2.2.2.2.1, (zl hz hk).2.2.2.2.2.2.2.2.2.2.1, (zl hz hk).2.2.2.2.2.2.2.2.2.2.2.1, (zl hz hk).2.2.2.2.2.2.2.2.2.2.2.2.1, (zl hz hk).2.2.2.2.2.2.2.2.2.2.2.2.2.1, (zl hz hk).2.2.2.2.2.2.2.2.2.2.2.2.2.2.1, (zl hz hk).2.2.2.2.2.2.2.2.2.2.2.2.2.2.2.1, (zl hz hk).2.2.2.2.2.2.2.2.2.2.2.2.2.2.2.2.1]
set_option maxHeartbeats 1000000 in
set_option maxRecDepth 100000 in
/-- about nothing -/
theorem c_X4_about_o (l : Launch) (G : kw_G) (nu : Nat → Option Nat) (x z : kw_St) (o : Nat) (ee : kE) (t : mo_T) (ki : Int32) (w : Int32) (hz : zw G nu z o ee t x) (hki : ∀ k, k < eA ee 6 1 → ki ≠ nI k) : kw_M l G yX4_about wsX4_about { frames := 4, cells := 0, slots := 0, locals := 85 } 0 0 [.ref o, .int (ki), .int (w)] nu x (kw_P nu (some (.int (-1))) x) := by
  refine kw_M.ofW (cc := cX4_about) (maxL := 4) (ret := (some .int)) (by decide) rfl (Nat.le_of_ble_eq_true rfl) ?_
  intro p e s m args below meth c A ls S hr hlk hnm hK hZ hA hW hS hl
  have hl : lv_has ls 4 [(0, .ref o), (1, .int (ki)), (2, .int (w))] := hl
  have hdg := zd_ng hz
  have hdl := zd_nl hz
  have hdp := zd_np hz
  have hdb := zd_nb hz
  refine lv_aload_n S.1 S.2.1 dX4_about_0 rfl (lv_at hl 0 rfl) ?_
  refine lv_iload_n S.1 S.2.1 dX4_about_1 rfl (lv_at hl 1 rfl) ?_
  refine kx_cV (As := [.int (ki)]) (rest := []) (st1 := [.null]) S hK hZ hA hW hS (c_X4_leafAt_o l G nu x z o ee t ki hz hki) (cwV 1 S.2.2.2.2 gX4_about_X4_leafAt rfl rfl rfl (by decide +kernel) ⟨Nat.le_of_ble_eq_true rfl, Nat.le_of_ble_eq_true rfl⟩) (zk_o hz) (by decide) rfl rfl hl.1 rfl (Nat.le_of_ble_eq_true rfl) dX4_about_2 ⟨Nat.le_of_ble_eq_true rfl, Nat.le_of_ble_eq_true rfl⟩ rfl (fun H locs hW hS => ?_)
  refine lv_astore_nN (lv' := [(3, .null), (0, .ref o), (1, .int (ki)), (2, .int (w))]) S.1 S.2.1 dX4_about_5 rfl hl (by decide) rfl (fun ls hl => ?_)
  refine lv_aload_nN S.1 S.2.1 dX4_about_6 rfl (lv_at hl 0 rfl) ?_
  refine lv_ifnonnullN S.1 S.2.1 dX4_about_7 ?_
  refine lv_iconst (v := (-1)) S.1 S.2.1 dX4_about_10 (by decide) ?_
  refine lv_goto (tgt := 19) S.1 S.2.1 dX4_about_11 (by decide) ?_
  refine kw_iret S hr hlk hW hS (by decide) (by decide) dX4_about_19 ?_
  refine ⟨?_, rfl, ?_⟩ <;> first | rfl | (simp [kw_b]; done) | contradiction
set_option maxHeartbeats 1000000 in
set_option maxRecDepth 100000 in
/-- tokens ss -/
theorem c_X4_tokens_ss (l : Launch) (G : kw_G) (nu : Nat → Option Nat) (x z : kw_St) (o : Nat) (ee : kE) (t : mo_T) (k : Nat) (w : Int32) (hz : zw G nu z o ee t x) (hk : k < eA ee 6 1) (hkg : k < eA ee 6 0) : kw_M l G yX4_tokens wsX4_tokens { frames := 4, cells := 0, slots := 0, locals := 85 } 0 0 [.ref o, .int (nI k), .int (w)] nu x (kw_P nu (some (.long (m_tokens t (eA ee 6 0) (eA ee 6 1) k w))) x) := by
  refine kw_M.ofW (cc := cX4_tokens) (maxL := 5) (ret := (some .long)) (by decide) rfl (Nat.le_of_ble_eq_true rfl) ?_
  intro p e s m args below meth c A ls S hr hlk hnm hK hZ hA hW hS hl
  have hl : lv_has ls 5 [(0, .ref o), (1, .int (nI k)), (2, .int (w))] := hl
  have iX0 : ∀ w ∈ wsX00, w ∈ wsX4_tokens := by decide +kernel
  have iX1 : ∀ w ∈ wsX10, w ∈ wsX4_tokens := by decide +kernel
  have iX2 : ∀ w ∈ wsX20, w ∈ wsX4_tokens := by decide +kernel
  have hdg := zd_ng hz
  have hdl := zd_nl hz
  have hdp := zd_np hz
  have hdb := zd_nb hz
  refine lv_aload_n S.1 S.2.1 dX4_tokens_0 rfl (lv_at hl 0 rfl) ?_
  refine lv_iload_n S.1 S.2.1 dX4_tokens_1 rfl (lv_at hl 1 rfl) ?_
  refine kx_cV (As := [.int (nI k)]) (rest := []) (st1 := [.ref (eA ee 1 k)]) S hK hZ hA hW hS (c_X4_leafAt_s l G nu x z o ee t k hz hk) (cwV 1 S.2.2.2.2 gX4_tokens_X4_leafAt rfl rfl rfl (by decide +kernel) ⟨Nat.le_of_ble_eq_true rfl, Nat.le_of_ble_eq_true rfl⟩) (zk_o hz) (by decide) rfl rfl hl.1 rfl (Nat.le_of_ble_eq_true rfl) dX4_tokens_2 ⟨Nat.le_of_ble_eq_true rfl, Nat.le_of_ble_eq_true rfl⟩ rfl (fun H locs hW hS => ?_)
  refine lv_astore_n (lv' := [(3, .ref (eA ee 1 k)), (0, .ref o), (1, .int (nI k)), (2, .int (w))]) S.1 S.2.1 dX4_tokens_5 rfl hl (by decide) rfl (fun ls hl => ?_)
  refine lv_aload_n S.1 S.2.1 dX4_tokens_6 rfl (lv_at hl 1 rfl) ?_
  refine lv_iload_n S.1 S.2.1 dX4_tokens_7 rfl (lv_at hl 2 rfl) ?_
  refine kx_cV (As := [.int (nI k)]) (rest := []) (st1 := [.ref (eA ee 0 k)]) S hK hZ hA hW hS (c_X4_groupAt_s l G nu x z o ee t k hz hkg) (cwV 1 S.2.2.2.2 gX4_tokens_X4_groupAt rfl rfl rfl (by decide +kernel) ⟨Nat.le_of_ble_eq_true rfl, Nat.le_of_ble_eq_true rfl⟩) (zk_o hz) (by decide) rfl rfl hl.1 rfl (Nat.le_of_ble_eq_true rfl) dX4_tokens_8 ⟨Nat.le_of_ble_eq_true rfl, Nat.le_of_ble_eq_true rfl⟩ rfl (fun H locs hW hS => ?_)
  refine lv_astore (lv' := [(4, .ref (eA ee 0 k)), (3, .ref (eA ee 1 k)), (0, .ref o), (1, .int (nI k)), (2, .int (w))]) S.1 S.2.1 dX4_tokens_11 hl (by decide) rfl (fun ls hl => ?_)
  refine lv_iload_n S.1 S.2.1 dX4_tokens_13 rfl (lv_at hl 4 rfl) ?_
  by_cases w1 : w = 0
  · skip
    subst w1
    refine lv_tableIn (tgt := 40) S.1 S.2.1 dX4_tokens_14 (by decide) (by decide) rfl (by decide) ?_
    refine lv_aload_n S.1 S.2.1 dX4_tokens_40 rfl (lv_at hl 1 rfl) ?_
    refine lv_ifnonnull (tgt := 48) S.1 S.2.1 dX4_tokens_41 (by decide) ?_
    refine lv_aload_n S.1 S.2.1 dX4_tokens_48 rfl (lv_at hl 1 rfl) ?_
    refine kx_gA S hK hW (zk_l hz (by omega)) 3 153 rfl iX2 (by decide) rfl rfl (by decide) (by decide +kernel) dX4_tokens_49 (b := (eA ee 3 k)) (zl_ce hz (by omega)) ?_
    refine kx_gJ S hK hW (zk_b hz (zb_l (by omega))) 2 52 rfl iX0 (by decide) rfl rfl (by decide) (by decide +kernel) dX4_tokens_52 (v := tB t 32 k) (zbu hz (zb_l (by omega))).2.2 ?_
    refine kw_lret S hr hlk hW hS (by decide) (by decide) dX4_tokens_55 ?_
    refine ⟨?_, rfl, rfl⟩; first | rfl | simp [m_tokens, hk, hkg]
  by_cases w2 : w = 1
  · skip
    subst w2
    refine lv_tableIn (tgt := 56) S.1 S.2.1 dX4_tokens_14 (by decide) (by decide) rfl (by decide) ?_
    refine lv_aload S.1 S.2.1 dX4_tokens_56 (lv_at hl 0 rfl) ?_
    refine lv_ifnonnull (tgt := 65) S.1 S.2.1 dX4_tokens_58 (by decide) ?_
    refine lv_aload S.1 S.2.1 dX4_tokens_65 (lv_at hl 0 rfl) ?_
    refine kx_gA S hK hW (zk_g hz (by omega)) 1 101 rfl iX1 (by decide) rfl rfl (by decide) (by decide +kernel) dX4_tokens_67 (b := (eA ee 3 (8 + k))) (zg hz (by omega)).2.1 ?_
    refine kx_gJ S hK hW (zk_b hz (zb_g (by omega))) 2 52 rfl iX0 (by decide) rfl rfl (by decide) (by decide +kernel) dX4_tokens_70 (v := tB t 32 (8 + k)) (zbu hz (zb_g (by omega))).2.2 ?_
    refine kw_lret S hr hlk hW hS (by decide) (by decide) dX4_tokens_73 ?_
    refine ⟨?_, rfl, rfl⟩; first | rfl | simp [m_tokens, hk, hkg, w1]
  by_cases w3 : w = 2
  · skip
    subst w3
    refine lv_tableIn (tgt := 74) S.1 S.2.1 dX4_tokens_14 (by decide) (by decide) rfl (by decide) ?_
    refine lv_aload_n S.1 S.2.1 dX4_tokens_74 rfl (lv_at hl 1 rfl) ?_
    refine lv_ifnull S.1 S.2.1 dX4_tokens_75 ?_
    refine lv_aload_n S.1 S.2.1 dX4_tokens_78 rfl (lv_at hl 1 rfl) ?_
    rcases o4 : kR x 155 (eA ee 1 k) with _ | p5
    · skip
      refine kx_gN S hK hW (zk_l hz (by omega)) 5 155 rfl iX2 (by decide) rfl rfl (by decide) (by decide +kernel) dX4_tokens_79 o4 ?_
      refine lv_ifnonnullN S.1 S.2.1 dX4_tokens_82 ?_
      refine lv_lconst (v := 0) S.1 S.2.1 dX4_tokens_85 (by decide) ?_
      refine lv_goto (tgt := 96) S.1 S.2.1 dX4_tokens_86 (by decide) ?_
      refine kw_lret S hr hlk hW hS (by decide) (by decide) dX4_tokens_96 ?_
      refine ⟨?_, rfl, rfl⟩; first | rfl | simp [m_tokens, hk, hkg, (z_pol0 hz hk o4).2, w1, w2]
    · skip
      refine kx_gA S hK hW (zk_l hz (by omega)) 5 155 rfl iX2 (by decide) rfl rfl (by decide) (by decide +kernel) dX4_tokens_79 (b := p5) o4 ?_
      refine lv_ifnonnull (tgt := 89) S.1 S.2.1 dX4_tokens_82 (by decide) ?_
      refine lv_aload_n S.1 S.2.1 dX4_tokens_89 rfl (lv_at hl 1 rfl) ?_
      refine kx_gA S hK hW (zk_l hz (by omega)) 5 155 rfl iX2 (by decide) rfl rfl (by decide) (by decide +kernel) dX4_tokens_90 (b := p5) o4 ?_
      refine kx_gJ S hK hW (zl_po hz hk p5 o4) 2 52 rfl iX0 (by decide) rfl rfl (by decide) (by decide +kernel) dX4_tokens_93 (v := kJ x 52 p5) rfl ?_
      refine kw_lret S hr hlk hW hS (by decide) (by decide) dX4_tokens_96 ?_
      refine ⟨?_, rfl, rfl⟩; first | rfl | simp [m_tokens, hk, hkg, (z_pol1 hz hk o4).2.2, w1, w2]
  refine lv_tableOut (tgt := 97) S.1 S.2.1 dX4_tokens_14 (kw_out3 w1 w2 w3) (by decide) ?_
  refine lv_lconst (v := 0) S.1 S.2.1 dX4_tokens_97 (by decide) ?_
  refine kw_lret S hr hlk hW hS (by decide) (by decide) dX4_tokens_98 ?_
  refine ⟨?_, rfl, rfl⟩; first | rfl | simp [m_tokens, hk, hkg, w1, w2, w3]
set_option maxHeartbeats 1000000 in
set_option maxRecDepth 100000 in
/-- tag ss -/
theorem c_X4_tag_ss (l : Launch) (G : kw_G) (nu : Nat → Option Nat) (x z : kw_St) (o : Nat) (ee : kE) (t : mo_T) (k : Nat) (w : Int32) (hz : zw G nu z o ee t x) (hk : k < eA ee 6 1) (hkg : k < eA ee 6 0) : kw_M l G yX4_tag wsX4_tag { frames := 4, cells := 0, slots := 0, locals := 85 } 0 0 [.ref o, .int (nI k), .int (w)] nu x (kw_P nu (some (.long (m_tag t (eA ee 6 0) (eA ee 6 1) k w))) x) := by
  refine kw_M.ofW (cc := cX4_tag) (maxL := 5) (ret := (some .long)) (by decide) rfl (Nat.le_of_ble_eq_true rfl) ?_
  intro p e s m args below meth c A ls S hr hlk hnm hK hZ hA hW hS hl
  have hl : lv_has ls 5 [(0, .ref o), (1, .int (nI k)), (2, .int (w))] := hl
  have iX1 : ∀ w ∈ wsX10, w ∈ wsX4_tag := by decide +kernel
  have iX2 : ∀ w ∈ wsX20, w ∈ wsX4_tag := by decide +kernel
  have iX4 : ∀ w ∈ wsX40, w ∈ wsX4_tag := by decide +kernel
  have hdg := zd_ng hz
  have hdl := zd_nl hz
  have hdp := zd_np hz
  have hdb := zd_nb hz
  refine lv_aload_n S.1 S.2.1 dX4_tag_0 rfl (lv_at hl 0 rfl) ?_
  refine lv_iload_n S.1 S.2.1 dX4_tag_1 rfl (lv_at hl 1 rfl) ?_
  refine kx_cV (As := [.int (nI k)]) (rest := []) (st1 := [.ref (eA ee 1 k)]) S hK hZ hA hW hS (c_X4_leafAt_s l G nu x z o ee t k hz hk) (cwV 1 S.2.2.2.2 gX4_tag_X4_leafAt rfl rfl rfl (by decide +kernel) ⟨Nat.le_of_ble_eq_true rfl, Nat.le_of_ble_eq_true rfl⟩) (zk_o hz) (by decide) rfl rfl hl.1 rfl (Nat.le_of_ble_eq_true rfl) dX4_tag_2 ⟨Nat.le_of_ble_eq_true rfl, Nat.le_of_ble_eq_true rfl⟩ rfl (fun H locs hW hS => ?_)
  refine lv_astore_n (lv' := [(3, .ref (eA ee 1 k)), (0, .ref o), (1, .int (nI k)), (2, .int (w))]) S.1 S.2.1 dX4_tag_5 rfl hl (by decide) rfl (fun ls hl => ?_)
  refine lv_aload_n S.1 S.2.1 dX4_tag_6 rfl (lv_at hl 1 rfl) ?_
  refine lv_iload_n S.1 S.2.1 dX4_tag_7 rfl (lv_at hl 2 rfl) ?_
  refine kx_cV (As := [.int (nI k)]) (rest := []) (st1 := [.ref (eA ee 0 k)]) S hK hZ hA hW hS (c_X4_groupAt_s l G nu x z o ee t k hz hkg) (cwV 1 S.2.2.2.2 gX4_tag_X4_groupAt rfl rfl rfl (by decide +kernel) ⟨Nat.le_of_ble_eq_true rfl, Nat.le_of_ble_eq_true rfl⟩) (zk_o hz) (by decide) rfl rfl hl.1 rfl (Nat.le_of_ble_eq_true rfl) dX4_tag_8 ⟨Nat.le_of_ble_eq_true rfl, Nat.le_of_ble_eq_true rfl⟩ rfl (fun H locs hW hS => ?_)
  refine lv_astore (lv' := [(4, .ref (eA ee 0 k)), (3, .ref (eA ee 1 k)), (0, .ref o), (1, .int (nI k)), (2, .int (w))]) S.1 S.2.1 dX4_tag_11 hl (by decide) rfl (fun ls hl => ?_)
  refine lv_iload_n S.1 S.2.1 dX4_tag_13 rfl (lv_at hl 4 rfl) ?_
  by_cases w1 : w = 0
  · skip
    subst w1
    refine lv_tableIn (tgt := 44) S.1 S.2.1 dX4_tag_14 (by decide) (by decide) rfl (by decide) ?_
    refine lv_aload_n S.1 S.2.1 dX4_tag_44 rfl (lv_at hl 1 rfl) ?_
    refine lv_ifnonnull (tgt := 52) S.1 S.2.1 dX4_tag_45 (by decide) ?_
    refine lv_aload_n S.1 S.2.1 dX4_tag_52 rfl (lv_at hl 1 rfl) ?_
    refine kx_gJ S hK hW (zk_l hz (by omega)) 17 167 rfl iX2 (by decide) rfl rfl (by decide) (by decide +kernel) dX4_tag_53 (v := tB t 27 k) (zl hz (by omega)).2.2.2.2.2.2.2.2.2.2.2.2.2.2.2.2.2 ?_
    refine kw_lret S hr hlk hW hS (by decide) (by decide) dX4_tag_56 ?_
    refine ⟨?_, rfl, rfl⟩; first | rfl | simp [m_tag, hk, hkg]
  by_cases w2 : w = 1
  · skip
    subst w2
    refine lv_tableIn (tgt := 57) S.1 S.2.1 dX4_tag_14 (by decide) (by decide) rfl (by decide) ?_
    refine lv_aload S.1 S.2.1 dX4_tag_57 (lv_at hl 0 rfl) ?_
    refine lv_ifnonnull (tgt := 66) S.1 S.2.1 dX4_tag_59 (by decide) ?_
    refine lv_aload S.1 S.2.1 dX4_tag_66 (lv_at hl 0 rfl) ?_
    refine kx_gJ S hK hW (zk_g hz (by omega)) 4 104 rfl iX1 (by decide) rfl rfl (by decide) (by decide +kernel) dX4_tag_68 (v := tB t 10 k) (zg hz (by omega)).2.2.2.2.1 ?_
    refine kw_lret S hr hlk hW hS (by decide) (by decide) dX4_tag_71 ?_
    refine ⟨?_, rfl, rfl⟩; first | rfl | simp [m_tag, hk, hkg, w1]
  by_cases w3 : w = 2
  · skip
    subst w3
    refine lv_tableIn (tgt := 72) S.1 S.2.1 dX4_tag_14 (by decide) (by decide) rfl (by decide) ?_
    refine lv_aload S.1 S.2.1 dX4_tag_72 (lv_at hl 0 rfl) ?_
    refine lv_ifnonnull (tgt := 81) S.1 S.2.1 dX4_tag_74 (by decide) ?_
    refine lv_aload S.1 S.2.1 dX4_tag_81 (lv_at hl 0 rfl) ?_
    refine kx_gJ S hK hW (zk_g hz (by omega)) 5 105 rfl iX1 (by decide) rfl rfl (by decide) (by decide +kernel) dX4_tag_83 (v := tB t 11 k) (zg hz (by omega)).2.2.2.2.2 ?_
    refine kw_lret S hr hlk hW hS (by decide) (by decide) dX4_tag_86 ?_
    refine ⟨?_, rfl, rfl⟩; first | rfl | simp [m_tag, hk, hkg, w1, w2]
  by_cases w4 : w = 3
  · skip
    subst w4
    refine lv_tableIn (tgt := 87) S.1 S.2.1 dX4_tag_14 (by decide) (by decide) rfl (by decide) ?_
    refine lv_aload_n S.1 S.2.1 dX4_tag_87 rfl (lv_at hl 2 rfl) ?_
    refine kx_gJ S hK hW (zk_o hz) 8 258 rfl iX4 (by decide) rfl rfl (by decide) (by decide +kernel) dX4_tag_88 (v := tL t) (zsh hz).2.2.2.2 ?_
    refine kw_lret S hr hlk hW hS (by decide) (by decide) dX4_tag_91 ?_
    refine ⟨?_, rfl, rfl⟩; first | rfl | simp [m_tag, hk, hkg, w1, w2, w3]
  refine lv_tableOut (tgt := 92) S.1 S.2.1 dX4_tag_14 (kw_out4 w1 w2 w3 w4) (by decide) ?_
  refine lv_lconst (v := 0) S.1 S.2.1 dX4_tag_92 (by decide) ?_
  refine kw_lret S hr hlk hW hS (by decide) (by decide) dX4_tag_93 ?_
  refine ⟨?_, rfl, rfl⟩; first | rfl | simp [m_tag, hk, hkg, w1, w2, w3, w4]
set_option maxHeartbeats 1000000 in
set_option maxRecDepth 100000 in
/-- tokens so -/
theorem c_X4_tokens_so (l : Launch) (G : kw_G) (nu : Nat → Option Nat) (x z : kw_St) (o : Nat) (ee : kE) (t : mo_T) (k : Nat) (w : Int32) (hz : zw G nu z o ee t x) (hk : k < eA ee 6 1) (hkg : ∀ j, j < eA ee 6 0 → nI k ≠ nI j) : kw_M l G yX4_tokens wsX4_tokens { frames := 4, cells := 0, slots := 0, locals := 85 } 0 0 [.ref o, .int (nI k), .int (w)] nu x (kw_P nu (some (.long (m_tokens t (eA ee 6 0) (eA ee 6 1) k w))) x) := by
  refine kw_M.ofW (cc := cX4_tokens) (maxL := 5) (ret := (some .long)) (by decide) rfl (Nat.le_of_ble_eq_true rfl) ?_
  intro p e s m args below meth c A ls S hr hlk hnm hK hZ hA hW hS hl
  have hl : lv_has ls 5 [(0, .ref o), (1, .int (nI k)), (2, .int (w))] := hl
  have iX0 : ∀ w ∈ wsX00, w ∈ wsX4_tokens := by decide +kernel
  have iX2 : ∀ w ∈ wsX20, w ∈ wsX4_tokens := by decide +kernel
  have hdg := zd_ng hz
  have hdl := zd_nl hz
  have hdp := zd_np hz
  have hdb := zd_nb hz
  have hng : ¬ k < eA ee 6 0 := fun h9 => hkg k h9 rfl
  refine lv_aload_n S.1 S.2.1 dX4_tokens_0 rfl (lv_at hl 0 rfl) ?_
  refine lv_iload_n S.1 S.2.1 dX4_tokens_1 rfl (lv_at hl 1 rfl) ?_
  refine kx_cV (As := [.int (nI k)]) (rest := []) (st1 := [.ref (eA ee 1 k)]) S hK hZ hA hW hS (c_X4_leafAt_s l G nu x z o ee t k hz hk) (cwV 1 S.2.2.2.2 gX4_tokens_X4_leafAt rfl rfl rfl (by decide +kernel) ⟨Nat.le_of_ble_eq_true rfl, Nat.le_of_ble_eq_true rfl⟩) (zk_o hz) (by decide) rfl rfl hl.1 rfl (Nat.le_of_ble_eq_true rfl) dX4_tokens_2 ⟨Nat.le_of_ble_eq_true rfl, Nat.le_of_ble_eq_true rfl⟩ rfl (fun H locs hW hS => ?_)
  refine lv_astore_n (lv' := [(3, .ref (eA ee 1 k)), (0, .ref o), (1, .int (nI k)), (2, .int (w))]) S.1 S.2.1 dX4_tokens_5 rfl hl (by decide) rfl (fun ls hl => ?_)
  refine lv_aload_n S.1 S.2.1 dX4_tokens_6 rfl (lv_at hl 1 rfl) ?_
  refine lv_iload_n S.1 S.2.1 dX4_tokens_7 rfl (lv_at hl 2 rfl) ?_
  refine kx_cV (As := [.int (nI k)]) (rest := []) (st1 := [.null]) S hK hZ hA hW hS (c_X4_groupAt_o l G nu x z o ee t (nI k) hz hkg) (cwV 1 S.2.2.2.2 gX4_tokens_X4_groupAt rfl rfl rfl (by decide +kernel) ⟨Nat.le_of_ble_eq_true rfl, Nat.le_of_ble_eq_true rfl⟩) (zk_o hz) (by decide) rfl rfl hl.1 rfl (Nat.le_of_ble_eq_true rfl) dX4_tokens_8 ⟨Nat.le_of_ble_eq_true rfl, Nat.le_of_ble_eq_true rfl⟩ rfl (fun H locs hW hS => ?_)
  refine lv_astoreN (lv' := [(4, .null), (3, .ref (eA ee 1 k)), (0, .ref o), (1, .int (nI k)), (2, .int (w))]) S.1 S.2.1 dX4_tokens_11 hl (by decide) rfl (fun ls hl => ?_)
  refine lv_iload_n S.1 S.2.1 dX4_tokens_13 rfl (lv_at hl 4 rfl) ?_
  by_cases w1 : w = 0
  · skip
    subst w1
    refine lv_tableIn (tgt := 40) S.1 S.2.1 dX4_tokens_14 (by decide) (by decide) rfl (by decide) ?_
    refine lv_aload_n S.1 S.2.1 dX4_tokens_40 rfl (lv_at hl 1 rfl) ?_
    refine lv_ifnonnull (tgt := 48) S.1 S.2.1 dX4_tokens_41 (by decide) ?_
    refine lv_aload_n S.1 S.2.1 dX4_tokens_48 rfl (lv_at hl 1 rfl) ?_
    refine kx_gA S hK hW (zk_l hz (by omega)) 3 153 rfl iX2 (by decide) rfl rfl (by decide) (by decide +kernel) dX4_tokens_49 (b := (eA ee 3 k)) (zl_ce hz (by omega)) ?_
    refine kx_gJ S hK hW (zk_b hz (zb_l (by omega))) 2 52 rfl iX0 (by decide) rfl rfl (by decide) (by decide +kernel) dX4_tokens_52 (v := tB t 32 k) (zbu hz (zb_l (by omega))).2.2 ?_
    refine kw_lret S hr hlk hW hS (by decide) (by decide) dX4_tokens_55 ?_
    refine ⟨?_, rfl, rfl⟩; first | rfl | simp [m_tokens, hk, hng]
  by_cases w2 : w = 1
  · skip
    subst w2
    refine lv_tableIn (tgt := 56) S.1 S.2.1 dX4_tokens_14 (by decide) (by decide) rfl (by decide) ?_
    refine lv_aloadN S.1 S.2.1 dX4_tokens_56 (lv_at hl 0 rfl) ?_
    refine lv_ifnonnullN S.1 S.2.1 dX4_tokens_58 ?_
    refine lv_lconst (v := 0) S.1 S.2.1 dX4_tokens_61 (by decide) ?_
    refine lv_goto (tgt := 73) S.1 S.2.1 dX4_tokens_62 (by decide) ?_
    refine kw_lret S hr hlk hW hS (by decide) (by decide) dX4_tokens_73 ?_
    refine ⟨?_, rfl, rfl⟩; first | rfl | simp [m_tokens, hk, hng, w1]
  by_cases w3 : w = 2
  · skip
    subst w3
    refine lv_tableIn (tgt := 74) S.1 S.2.1 dX4_tokens_14 (by decide) (by decide) rfl (by decide) ?_
    refine lv_aload_n S.1 S.2.1 dX4_tokens_74 rfl (lv_at hl 1 rfl) ?_
    refine lv_ifnull S.1 S.2.1 dX4_tokens_75 ?_
    refine lv_aload_n S.1 S.2.1 dX4_tokens_78 rfl (lv_at hl 1 rfl) ?_
    rcases o4 : kR x 155 (eA ee 1 k) with _ | p5
    · skip
      refine kx_gN S hK hW (zk_l hz (by omega)) 5 155 rfl iX2 (by decide) rfl rfl (by decide) (by decide +kernel) dX4_tokens_79 o4 ?_
      refine lv_ifnonnullN S.1 S.2.1 dX4_tokens_82 ?_
      refine lv_lconst (v := 0) S.1 S.2.1 dX4_tokens_85 (by decide) ?_
      refine lv_goto (tgt := 96) S.1 S.2.1 dX4_tokens_86 (by decide) ?_
      refine kw_lret S hr hlk hW hS (by decide) (by decide) dX4_tokens_96 ?_
      refine ⟨?_, rfl, rfl⟩; first | rfl | simp [m_tokens, hk, hng, (z_pol0 hz hk o4).2, w1, w2]
    · skip
      refine kx_gA S hK hW (zk_l hz (by omega)) 5 155 rfl iX2 (by decide) rfl rfl (by decide) (by decide +kernel) dX4_tokens_79 (b := p5) o4 ?_
      refine lv_ifnonnull (tgt := 89) S.1 S.2.1 dX4_tokens_82 (by decide) ?_
      refine lv_aload_n S.1 S.2.1 dX4_tokens_89 rfl (lv_at hl 1 rfl) ?_
      refine kx_gA S hK hW (zk_l hz (by omega)) 5 155 rfl iX2 (by decide) rfl rfl (by decide) (by decide +kernel) dX4_tokens_90 (b := p5) o4 ?_
      refine kx_gJ S hK hW (zl_po hz hk p5 o4) 2 52 rfl iX0 (by decide) rfl rfl (by decide) (by decide +kernel) dX4_tokens_93 (v := kJ x 52 p5) rfl ?_
      refine kw_lret S hr hlk hW hS (by decide) (by decide) dX4_tokens_96 ?_
      refine ⟨?_, rfl, rfl⟩; first | rfl | simp [m_tokens, hk, hng, (z_pol1 hz hk o4).2.2, w1, w2]
  refine lv_tableOut (tgt := 97) S.1 S.2.1 dX4_tokens_14 (kw_out3 w1 w2 w3) (by decide) ?_
  refine lv_lconst (v := 0) S.1 S.2.1 dX4_tokens_97 (by decide) ?_
  refine kw_lret S hr hlk hW hS (by decide) (by decide) dX4_tokens_98 ?_
  refine ⟨?_, rfl, rfl⟩; first | rfl | simp [m_tokens, hk, hng, w1, w2, w3]
set_option maxHeartbeats 1000000 in
set_option maxRecDepth 100000 in
/-- tag so -/
theorem c_X4_tag_so (l : Launch) (G : kw_G) (nu : Nat → Option Nat) (x z : kw_St) (o : Nat) (ee : kE) (t : mo_T) (k : Nat) (w : Int32) (hz : zw G nu z o ee t x) (hk : k < eA ee 6 1) (hkg : ∀ j, j < eA ee 6 0 → nI k ≠ nI j) : kw_M l G yX4_tag wsX4_tag { frames := 4, cells := 0, slots := 0, locals := 85 } 0 0 [.ref o, .int (nI k), .int (w)] nu x (kw_P nu (some (.long (m_tag t (eA ee 6 0) (eA ee 6 1) k w))) x) := by
  refine kw_M.ofW (cc := cX4_tag) (maxL := 5) (ret := (some .long)) (by decide) rfl (Nat.le_of_ble_eq_true rfl) ?_
  intro p e s m args below meth c A ls S hr hlk hnm hK hZ hA hW hS hl
  have hl : lv_has ls 5 [(0, .ref o), (1, .int (nI k)), (2, .int (w))] := hl
  have iX2 : ∀ w ∈ wsX20, w ∈ wsX4_tag := by decide +kernel
  have iX4 : ∀ w ∈ wsX40, w ∈ wsX4_tag := by decide +kernel
  have hdg := zd_ng hz
  have hdl := zd_nl hz
  have hdp := zd_np hz
  have hdb := zd_nb hz
  have hng : ¬ k < eA ee 6 0 := fun h9 => hkg k h9 rfl
  refine lv_aload_n S.1 S.2.1 dX4_tag_0 rfl (lv_at hl 0 rfl) ?_
  refine lv_iload_n S.1 S.2.1 dX4_tag_1 rfl (lv_at hl 1 rfl) ?_
  refine kx_cV (As := [.int (nI k)]) (rest := []) (st1 := [.ref (eA ee 1 k)]) S hK hZ hA hW hS (c_X4_leafAt_s l G nu x z o ee t k hz hk) (cwV 1 S.2.2.2.2 gX4_tag_X4_leafAt rfl rfl rfl (by decide +kernel) ⟨Nat.le_of_ble_eq_true rfl, Nat.le_of_ble_eq_true rfl⟩) (zk_o hz) (by decide) rfl rfl hl.1 rfl (Nat.le_of_ble_eq_true rfl) dX4_tag_2 ⟨Nat.le_of_ble_eq_true rfl, Nat.le_of_ble_eq_true rfl⟩ rfl (fun H locs hW hS => ?_)
  refine lv_astore_n (lv' := [(3, .ref (eA ee 1 k)), (0, .ref o), (1, .int (nI k)), (2, .int (w))]) S.1 S.2.1 dX4_tag_5 rfl hl (by decide) rfl (fun ls hl => ?_)
  refine lv_aload_n S.1 S.2.1 dX4_tag_6 rfl (lv_at hl 1 rfl) ?_
  refine lv_iload_n S.1 S.2.1 dX4_tag_7 rfl (lv_at hl 2 rfl) ?_
  refine kx_cV (As := [.int (nI k)]) (rest := []) (st1 := [.null]) S hK hZ hA hW hS (c_X4_groupAt_o l G nu x z o ee t (nI k) hz hkg) (cwV 1 S.2.2.2.2 gX4_tag_X4_groupAt rfl rfl rfl (by decide +kernel) ⟨Nat.le_of_ble_eq_true rfl, Nat.le_of_ble_eq_true rfl⟩) (zk_o hz) (by decide) rfl rfl hl.1 rfl (Nat.le_of_ble_eq_true rfl) dX4_tag_8 ⟨Nat.le_of_ble_eq_true rfl, Nat.le_of_ble_eq_true rfl⟩ rfl (fun H locs hW hS => ?_)
  refine lv_astoreN (lv' := [(4, .null), (3, .ref (eA ee 1 k)), (0, .ref o), (1, .int (nI k)), (2, .int (w))]) S.1 S.2.1 dX4_tag_11 hl (by decide) rfl (fun ls hl => ?_)
  refine lv_iload_n S.1 S.2.1 dX4_tag_13 rfl (lv_at hl 4 rfl) ?_
  by_cases w1 : w = 0
  · skip
    subst w1
    refine lv_tableIn (tgt := 44) S.1 S.2.1 dX4_tag_14 (by decide) (by decide) rfl (by decide) ?_
    refine lv_aload_n S.1 S.2.1 dX4_tag_44 rfl (lv_at hl 1 rfl) ?_
    refine lv_ifnonnull (tgt := 52) S.1 S.2.1 dX4_tag_45 (by decide) ?_
    refine lv_aload_n S.1 S.2.1 dX4_tag_52 rfl (lv_at hl 1 rfl) ?_
    refine kx_gJ S hK hW (zk_l hz (by omega)) 17 167 rfl iX2 (by decide) rfl rfl (by decide) (by decide +kernel) dX4_tag_53 (v := tB t 27 k) (zl hz (by omega)).2.2.2.2.2.2.2.2.2.2.2.2.2.2.2.2.2 ?_
    refine kw_lret S hr hlk hW hS (by decide) (by decide) dX4_tag_56 ?_
    refine ⟨?_, rfl, rfl⟩; first | rfl | simp [m_tag, hk, hng]
  by_cases w2 : w = 1
  · skip
    subst w2
    refine lv_tableIn (tgt := 57) S.1 S.2.1 dX4_tag_14 (by decide) (by decide) rfl (by decide) ?_
    refine lv_aloadN S.1 S.2.1 dX4_tag_57 (lv_at hl 0 rfl) ?_
    refine lv_ifnonnullN S.1 S.2.1 dX4_tag_59 ?_
    refine lv_lconst (v := 0) S.1 S.2.1 dX4_tag_62 (by decide) ?_
    refine lv_goto (tgt := 71) S.1 S.2.1 dX4_tag_63 (by decide) ?_
    refine kw_lret S hr hlk hW hS (by decide) (by decide) dX4_tag_71 ?_
    refine ⟨?_, rfl, rfl⟩; first | rfl | simp [m_tag, hk, hng, w1]
  by_cases w3 : w = 2
  · skip
    subst w3
    refine lv_tableIn (tgt := 72) S.1 S.2.1 dX4_tag_14 (by decide) (by decide) rfl (by decide) ?_
    refine lv_aloadN S.1 S.2.1 dX4_tag_72 (lv_at hl 0 rfl) ?_
    refine lv_ifnonnullN S.1 S.2.1 dX4_tag_74 ?_
    refine lv_lconst (v := 0) S.1 S.2.1 dX4_tag_77 (by decide) ?_
    refine lv_goto (tgt := 86) S.1 S.2.1 dX4_tag_78 (by decide) ?_
    refine kw_lret S hr hlk hW hS (by decide) (by decide) dX4_tag_86 ?_
    refine ⟨?_, rfl, rfl⟩; first | rfl | simp [m_tag, hk, hng, w1, w2]
  by_cases w4 : w = 3
  · skip
    subst w4
    refine lv_tableIn (tgt := 87) S.1 S.2.1 dX4_tag_14 (by decide) (by decide) rfl (by decide) ?_
    refine lv_aload_n S.1 S.2.1 dX4_tag_87 rfl (lv_at hl 2 rfl) ?_
    refine kx_gJ S hK hW (zk_o hz) 8 258 rfl iX4 (by decide) rfl rfl (by decide) (by decide +kernel) dX4_tag_88 (v := tL t) (zsh hz).2.2.2.2 ?_
    refine kw_lret S hr hlk hW hS (by decide) (by decide) dX4_tag_91 ?_
    refine ⟨?_, rfl, rfl⟩; first | rfl | simp [m_tag, hk, hng, w1, w2, w3]
  refine lv_tableOut (tgt := 92) S.1 S.2.1 dX4_tag_14 (kw_out4 w1 w2 w3 w4) (by decide) ?_
  refine lv_lconst (v := 0) S.1 S.2.1 dX4_tag_92 (by decide) ?_
  refine kw_lret S hr hlk hW hS (by decide) (by decide) dX4_tag_93 ?_
  refine ⟨?_, rfl, rfl⟩; first | rfl | simp [m_tag, hk, hng, w1, w2, w3, w4]
set_option maxHeartbeats 1000000 in
set_option maxRecDepth 100000 in
/-- tokens os -/
theorem c_X4_tokens_os (l : Launch) (G : kw_G) (nu : Nat → Option Nat) (x z : kw_St) (o : Nat) (ee : kE) (t : mo_T) (k : Nat) (w : Int32) (hz : zw G nu z o ee t x) (hkl : ∀ j, j < eA ee 6 1 → nI k ≠ nI j) (hkg : k < eA ee 6 0) : kw_M l G yX4_tokens wsX4_tokens { frames := 4, cells := 0, slots := 0, locals := 85 } 0 0 [.ref o, .int (nI k), .int (w)] nu x (kw_P nu (some (.long (m_tokens t (eA ee 6 0) (eA ee 6 1) k w))) x) := by
  refine kw_M.ofW (cc := cX4_tokens) (maxL := 5) (ret := (some .long)) (by decide) rfl (Nat.le_of_ble_eq_true rfl) ?_
  intro p e s m args below meth c A ls S hr hlk hnm hK hZ hA hW hS hl
  have hl : lv_has ls 5 [(0, .ref o), (1, .int (nI k)), (2, .int (w))] := hl
  have iX0 : ∀ w ∈ wsX00, w ∈ wsX4_tokens := by decide +kernel
  have iX1 : ∀ w ∈ wsX10, w ∈ wsX4_tokens := by decide +kernel
  have hdg := zd_ng hz
  have hdl := zd_nl hz
  have hdp := zd_np hz
  have hdb := zd_nb hz
  have hnk : ¬ k < eA ee 6 1 := fun h9 => hkl k h9 rfl
  refine lv_aload_n S.1 S.2.1 dX4_tokens_0 rfl (lv_at hl 0 rfl) ?_
  refine lv_iload_n S.1 S.2.1 dX4_tokens_1 rfl (lv_at hl 1 rfl) ?_
  refine kx_cV (As := [.int (nI k)]) (rest := []) (st1 := [.null]) S hK hZ hA hW hS (c_X4_leafAt_o l G nu x z o ee t (nI k) hz hkl) (cwV 1 S.2.2.2.2 gX4_tokens_X4_leafAt rfl rfl rfl (by decide +kernel) ⟨Nat.le_of_ble_eq_true rfl, Nat.le_of_ble_eq_true rfl⟩) (zk_o hz) (by decide) rfl rfl hl.1 rfl (Nat.le_of_ble_eq_true rfl) dX4_tokens_2 ⟨Nat.le_of_ble_eq_true rfl, Nat.le_of_ble_eq_true rfl⟩ rfl (fun H locs hW hS => ?_)
  refine lv_astore_nN (lv' := [(3, .null), (0, .ref o), (1, .int (nI k)), (2, .int (w))]) S.1 S.2.1 dX4_tokens_5 rfl hl (by decide) rfl (fun ls hl => ?_)
  refine lv_aload_n S.1 S.2.1 dX4_tokens_6 rfl (lv_at hl 1 rfl) ?_
  refine lv_iload_n S.1 S.2.1 dX4_tokens_7 rfl (lv_at hl 2 rfl) ?_
  refine kx_cV (As := [.int (nI k)]) (rest := []) (st1 := [.ref (eA ee 0 k)]) S hK hZ hA hW hS (c_X4_groupAt_s l G nu x z o ee t k hz hkg) (cwV 1 S.2.2.2.2 gX4_tokens_X4_groupAt rfl rfl rfl (by decide +kernel) ⟨Nat.le_of_ble_eq_true rfl, Nat.le_of_ble_eq_true rfl⟩) (zk_o hz) (by decide) rfl rfl hl.1 rfl (Nat.le_of_ble_eq_true rfl) dX4_tokens_8 ⟨Nat.le_of_ble_eq_true rfl, Nat.le_of_ble_eq_true rfl⟩ rfl (fun H locs hW hS => ?_)
  refine lv_astore (lv' := [(4, .ref (eA ee 0 k)), (3, .null), (0, .ref o), (1, .int (nI k)), (2, .int (w))]) S.1 S.2.1 dX4_tokens_11 hl (by decide) rfl (fun ls hl => ?_)
  refine lv_iload_n S.1 S.2.1 dX4_tokens_13 rfl (lv_at hl 4 rfl) ?_
  by_cases w1 : w = 0
  · skip
    subst w1
    refine lv_tableIn (tgt := 40) S.1 S.2.1 dX4_tokens_14 (by decide) (by decide) rfl (by decide) ?_
    refine lv_aload_nN S.1 S.2.1 dX4_tokens_40 rfl (lv_at hl 1 rfl) ?_
    refine lv_ifnonnullN S.1 S.2.1 dX4_tokens_41 ?_
    refine lv_lconst (v := 0) S.1 S.2.1 dX4_tokens_44 (by decide) ?_
    refine lv_goto (tgt := 55) S.1 S.2.1 dX4_tokens_45 (by decide) ?_
    refine kw_lret S hr hlk hW hS (by decide) (by decide) dX4_tokens_55 ?_
    refine ⟨?_, rfl, rfl⟩; first | rfl | simp [m_tokens, hnk, hkg]
  by_cases w2 : w = 1
  · skip
    subst w2
    refine lv_tableIn (tgt := 56) S.1 S.2.1 dX4_tokens_14 (by decide) (by decide) rfl (by decide) ?_
    refine lv_aload S.1 S.2.1 dX4_tokens_56 (lv_at hl 0 rfl) ?_
    refine lv_ifnonnull (tgt := 65) S.1 S.2.1 dX4_tokens_58 (by decide) ?_
    refine lv_aload S.1 S.2.1 dX4_tokens_65 (lv_at hl 0 rfl) ?_
    refine kx_gA S hK hW (zk_g hz (by omega)) 1 101 rfl iX1 (by decide) rfl rfl (by decide) (by decide +kernel) dX4_tokens_67 (b := (eA ee 3 (8 + k))) (zg hz (by omega)).2.1 ?_
    refine kx_gJ S hK hW (zk_b hz (zb_g (by omega))) 2 52 rfl iX0 (by decide) rfl rfl (by decide) (by decide +kernel) dX4_tokens_70 (v := tB t 32 (8 + k)) (zbu hz (zb_g (by omega))).2.2 ?_
    refine kw_lret S hr hlk hW hS (by decide) (by decide) dX4_tokens_73 ?_
    refine ⟨?_, rfl, rfl⟩; first | rfl | simp [m_tokens, hnk, hkg, w1]
  by_cases w3 : w = 2
  · skip
    subst w3
    refine lv_tableIn (tgt := 74) S.1 S.2.1 dX4_tokens_14 (by decide) (by decide) rfl (by decide) ?_
    refine lv_aload_nN S.1 S.2.1 dX4_tokens_74 rfl (lv_at hl 1 rfl) ?_
    refine lv_ifnullN (tgt := 85) S.1 S.2.1 dX4_tokens_75 (by decide) ?_
    refine lv_lconst (v := 0) S.1 S.2.1 dX4_tokens_85 (by decide) ?_
    refine lv_goto (tgt := 96) S.1 S.2.1 dX4_tokens_86 (by decide) ?_
    refine kw_lret S hr hlk hW hS (by decide) (by decide) dX4_tokens_96 ?_
    refine ⟨?_, rfl, rfl⟩; first | rfl | simp [m_tokens, hnk, hkg, w1, w2]
  refine lv_tableOut (tgt := 97) S.1 S.2.1 dX4_tokens_14 (kw_out3 w1 w2 w3) (by decide) ?_
  refine lv_lconst (v := 0) S.1 S.2.1 dX4_tokens_97 (by decide) ?_
  refine kw_lret S hr hlk hW hS (by decide) (by decide) dX4_tokens_98 ?_
  refine ⟨?_, rfl, rfl⟩; first | rfl | simp [m_tokens, hnk, hkg, w1, w2, w3]
set_option maxHeartbeats 1000000 in
set_option maxRecDepth 100000 in
/-- tag os -/
theorem c_X4_tag_os (l : Launch) (G : kw_G) (nu : Nat → Option Nat) (x z : kw_St) (o : Nat) (ee : kE) (t : mo_T) (k : Nat) (w : Int32) (hz : zw G nu z o ee t x) (hkl : ∀ j, j < eA ee 6 1 → nI k ≠ nI j) (hkg : k < eA ee 6 0) : kw_M l G yX4_tag wsX4_tag { frames := 4, cells := 0, slots := 0, locals := 85 } 0 0 [.ref o, .int (nI k), .int (w)] nu x (kw_P nu (some (.long (m_tag t (eA ee 6 0) (eA ee 6 1) k w))) x) := by
  refine kw_M.ofW (cc := cX4_tag) (maxL := 5) (ret := (some .long)) (by decide) rfl (Nat.le_of_ble_eq_true rfl) ?_
  intro p e s m args below meth c A ls S hr hlk hnm hK hZ hA hW hS hl
  have hl : lv_has ls 5 [(0, .ref o), (1, .int (nI k)), (2, .int (w))] := hl
  have iX1 : ∀ w ∈ wsX10, w ∈ wsX4_tag := by decide +kernel
  have iX4 : ∀ w ∈ wsX40, w ∈ wsX4_tag := by decide +kernel
  have hdg := zd_ng hz
  have hdl := zd_nl hz
  have hdp := zd_np hz
  have hdb := zd_nb hz
  have hnk : ¬ k < eA ee 6 1 := fun h9 => hkl k h9 rfl
  refine lv_aload_n S.1 S.2.1 dX4_tag_0 rfl (lv_at hl 0 rfl) ?_
  refine lv_iload_n S.1 S.2.1 dX4_tag_1 rfl (lv_at hl 1 rfl) ?_
  refine kx_cV (As := [.int (nI k)]) (rest := []) (st1 := [.null]) S hK hZ hA hW hS (c_X4_leafAt_o l G nu x z o ee t (nI k) hz hkl) (cwV 1 S.2.2.2.2 gX4_tag_X4_leafAt rfl rfl rfl (by decide +kernel) ⟨Nat.le_of_ble_eq_true rfl, Nat.le_of_ble_eq_true rfl⟩) (zk_o hz) (by decide) rfl rfl hl.1 rfl (Nat.le_of_ble_eq_true rfl) dX4_tag_2 ⟨Nat.le_of_ble_eq_true rfl, Nat.le_of_ble_eq_true rfl⟩ rfl (fun H locs hW hS => ?_)
  refine lv_astore_nN (lv' := [(3, .null), (0, .ref o), (1, .int (nI k)), (2, .int (w))]) S.1 S.2.1 dX4_tag_5 rfl hl (by decide) rfl (fun ls hl => ?_)
  refine lv_aload_n S.1 S.2.1 dX4_tag_6 rfl (lv_at hl 1 rfl) ?_
  refine lv_iload_n S.1 S.2.1 dX4_tag_7 rfl (lv_at hl 2 rfl) ?_
  refine kx_cV (As := [.int (nI k)]) (rest := []) (st1 := [.ref (eA ee 0 k)]) S hK hZ hA hW hS (c_X4_groupAt_s l G nu x z o ee t k hz hkg) (cwV 1 S.2.2.2.2 gX4_tag_X4_groupAt rfl rfl rfl (by decide +kernel) ⟨Nat.le_of_ble_eq_true rfl, Nat.le_of_ble_eq_true rfl⟩) (zk_o hz) (by decide) rfl rfl hl.1 rfl (Nat.le_of_ble_eq_true rfl) dX4_tag_8 ⟨Nat.le_of_ble_eq_true rfl, Nat.le_of_ble_eq_true rfl⟩ rfl (fun H locs hW hS => ?_)
  refine lv_astore (lv' := [(4, .ref (eA ee 0 k)), (3, .null), (0, .ref o), (1, .int (nI k)), (2, .int (w))]) S.1 S.2.1 dX4_tag_11 hl (by decide) rfl (fun ls hl => ?_)
  refine lv_iload_n S.1 S.2.1 dX4_tag_13 rfl (lv_at hl 4 rfl) ?_
  by_cases w1 : w = 0
  · skip
    subst w1
    refine lv_tableIn (tgt := 44) S.1 S.2.1 dX4_tag_14 (by decide) (by decide) rfl (by decide) ?_
    refine lv_aload_nN S.1 S.2.1 dX4_tag_44 rfl (lv_at hl 1 rfl) ?_
    refine lv_ifnonnullN S.1 S.2.1 dX4_tag_45 ?_
    refine lv_lconst (v := 0) S.1 S.2.1 dX4_tag_48 (by decide) ?_
    refine lv_goto (tgt := 56) S.1 S.2.1 dX4_tag_49 (by decide) ?_
    refine kw_lret S hr hlk hW hS (by decide) (by decide) dX4_tag_56 ?_
    refine ⟨?_, rfl, rfl⟩; first | rfl | simp [m_tag, hnk, hkg]
  by_cases w2 : w = 1
  · skip
    subst w2
    refine lv_tableIn (tgt := 57) S.1 S.2.1 dX4_tag_14 (by decide) (by decide) rfl (by decide) ?_
    refine lv_aload S.1 S.2.1 dX4_tag_57 (lv_at hl 0 rfl) ?_
    refine lv_ifnonnull (tgt := 66) S.1 S.2.1 dX4_tag_59 (by decide) ?_
    refine lv_aload S.1 S.2.1 dX4_tag_66 (lv_at hl 0 rfl) ?_
    refine kx_gJ S hK hW (zk_g hz (by omega)) 4 104 rfl iX1 (by decide) rfl rfl (by decide) (by decide +kernel) dX4_tag_68 (v := tB t 10 k) (zg hz (by omega)).2.2.2.2.1 ?_
    refine kw_lret S hr hlk hW hS (by decide) (by decide) dX4_tag_71 ?_
    refine ⟨?_, rfl, rfl⟩; first | rfl | simp [m_tag, hnk, hkg, w1]
  by_cases w3 : w = 2
  · skip
    subst w3
    refine lv_tableIn (tgt := 72) S.1 S.2.1 dX4_tag_14 (by decide) (by decide) rfl (by decide) ?_
    refine lv_aload S.1 S.2.1 dX4_tag_72 (lv_at hl 0 rfl) ?_
    refine lv_ifnonnull (tgt := 81) S.1 S.2.1 dX4_tag_74 (by decide) ?_
    refine lv_aload S.1 S.2.1 dX4_tag_81 (lv_at hl 0 rfl) ?_
    refine kx_gJ S hK hW (zk_g hz (by omega)) 5 105 rfl iX1 (by decide) rfl rfl (by decide) (by decide +kernel) dX4_tag_83 (v := tB t 11 k) (zg hz (by omega)).2.2.2.2.2 ?_
    refine kw_lret S hr hlk hW hS (by decide) (by decide) dX4_tag_86 ?_
    refine ⟨?_, rfl, rfl⟩; first | rfl | simp [m_tag, hnk, hkg, w1, w2]
  by_cases w4 : w = 3
  · skip
    subst w4
    refine lv_tableIn (tgt := 87) S.1 S.2.1 dX4_tag_14 (by decide) (by decide) rfl (by decide) ?_
    refine lv_aload_n S.1 S.2.1 dX4_tag_87 rfl (lv_at hl 2 rfl) ?_
    refine kx_gJ S hK hW (zk_o hz) 8 258 rfl iX4 (by decide) rfl rfl (by decide) (by decide +kernel) dX4_tag_88 (v := tL t) (zsh hz).2.2.2.2 ?_
    refine kw_lret S hr hlk hW hS (by decide) (by decide) dX4_tag_91 ?_
    refine ⟨?_, rfl, rfl⟩; first | rfl | simp [m_tag, hnk, hkg, w1, w2, w3]
  refine lv_tableOut (tgt := 92) S.1 S.2.1 dX4_tag_14 (kw_out4 w1 w2 w3 w4) (by decide) ?_
  refine lv_lconst (v := 0) S.1 S.2.1 dX4_tag_92 (by decide) ?_
  refine kw_lret S hr hlk hW hS (by decide) (by decide) dX4_tag_93 ?_
  refine ⟨?_, rfl, rfl⟩; first | rfl | simp [m_tag, hnk, hkg, w1, w2, w3, w4]
set_option maxHeartbeats 1000000 in
set_option maxRecDepth 100000 in
/-- tokens oo -/
theorem c_X4_tokens_oo (l : Launch) (G : kw_G) (nu : Nat → Option Nat) (x z : kw_St) (o : Nat) (ee : kE) (t : mo_T) (ki : Int32) (w : Int32) (hz : zw G nu z o ee t x) (hkl : ∀ j, j < eA ee 6 1 → ki ≠ nI j) (hkg : ∀ j, j < eA ee 6 0 → ki ≠ nI j) : kw_M l G yX4_tokens wsX4_tokens { frames := 4, cells := 0, slots := 0, locals := 85 } 0 0 [.ref o, .int (ki), .int (w)] nu x (kw_P nu (some (.long (0))) x) := by
  refine kw_M.ofW (cc := cX4_tokens) (maxL := 5) (ret := (some .long)) (by decide) rfl (Nat.le_of_ble_eq_true rfl) ?_
  intro p e s m args below meth c A ls S hr hlk hnm hK hZ hA hW hS hl
  have hl : lv_has ls 5 [(0, .ref o), (1, .int (ki)), (2, .int (w))] := hl
  have hdg := zd_ng hz
  have hdl := zd_nl hz
  have hdp := zd_np hz
  have hdb := zd_nb hz
  refine lv_aload_n S.1 S.2.1 dX4_tokens_0 rfl (lv_at hl 0 rfl) ?_
  refine lv_iload_n S.1 S.2.1 dX4_tokens_1 rfl (lv_at hl 1 rfl) ?_
  refine kx_cV (As := [.int (ki)]) (rest := []) (st1 := [.null]) S hK hZ hA hW hS (c_X4_leafAt_o l G nu x z o ee t ki hz hkl) (cwV 1 S.2.2.2.2 gX4_tokens_X4_leafAt rfl rfl rfl (by decide +kernel) ⟨Nat.le_of_ble_eq_true rfl, Nat.le_of_ble_eq_true rfl⟩) (zk_o hz) (by decide) rfl rfl hl.1 rfl (Nat.le_of_ble_eq_true rfl) dX4_tokens_2 ⟨Nat.le_of_ble_eq_true rfl, Nat.le_of_ble_eq_true rfl⟩ rfl (fun H locs hW hS => ?_)
  refine lv_astore_nN (lv' := [(3, .null), (0, .ref o), (1, .int (ki)), (2, .int (w))]) S.1 S.2.1 dX4_tokens_5 rfl hl (by decide) rfl (fun ls hl => ?_)
  refine lv_aload_n S.1 S.2.1 dX4_tokens_6 rfl (lv_at hl 1 rfl) ?_
  refine lv_iload_n S.1 S.2.1 dX4_tokens_7 rfl (lv_at hl 2 rfl) ?_
  refine kx_cV (As := [.int (ki)]) (rest := []) (st1 := [.null]) S hK hZ hA hW hS (c_X4_groupAt_o l G nu x z o ee t ki hz hkg) (cwV 1 S.2.2.2.2 gX4_tokens_X4_groupAt rfl rfl rfl (by decide +kernel) ⟨Nat.le_of_ble_eq_true rfl, Nat.le_of_ble_eq_true rfl⟩) (zk_o hz) (by decide) rfl rfl hl.1 rfl (Nat.le_of_ble_eq_true rfl) dX4_tokens_8 ⟨Nat.le_of_ble_eq_true rfl, Nat.le_of_ble_eq_true rfl⟩ rfl (fun H locs hW hS => ?_)
  refine lv_astoreN (lv' := [(4, .null), (3, .null), (0, .ref o), (1, .int (ki)), (2, .int (w))]) S.1 S.2.1 dX4_tokens_11 hl (by decide) rfl (fun ls hl => ?_)
  refine lv_iload_n S.1 S.2.1 dX4_tokens_13 rfl (lv_at hl 4 rfl) ?_
  by_cases w1 : w = 0
  · skip
    subst w1
    refine lv_tableIn (tgt := 40) S.1 S.2.1 dX4_tokens_14 (by decide) (by decide) rfl (by decide) ?_
    refine lv_aload_nN S.1 S.2.1 dX4_tokens_40 rfl (lv_at hl 1 rfl) ?_
    refine lv_ifnonnullN S.1 S.2.1 dX4_tokens_41 ?_
    refine lv_lconst (v := 0) S.1 S.2.1 dX4_tokens_44 (by decide) ?_
    refine lv_goto (tgt := 55) S.1 S.2.1 dX4_tokens_45 (by decide) ?_
    refine kw_lret S hr hlk hW hS (by decide) (by decide) dX4_tokens_55 ?_
    refine ⟨?_, rfl, rfl⟩; first | rfl | simp [m_tokens]
  by_cases w2 : w = 1
  · skip
    subst w2
    refine lv_tableIn (tgt := 56) S.1 S.2.1 dX4_tokens_14 (by decide) (by decide) rfl (by decide) ?_
    refine lv_aloadN S.1 S.2.1 dX4_tokens_56 (lv_at hl 0 rfl) ?_
    refine lv_ifnonnullN S.1 S.2.1 dX4_tokens_58 ?_
    refine lv_lconst (v := 0) S.1 S.2.1 dX4_tokens_61 (by decide) ?_
    refine lv_goto (tgt := 73) S.1 S.2.1 dX4_tokens_62 (by decide) ?_
    refine kw_lret S hr hlk hW hS (by decide) (by decide) dX4_tokens_73 ?_
    refine ⟨?_, rfl, rfl⟩; first | rfl | simp [m_tokens, w1]
  by_cases w3 : w = 2
  · skip
    subst w3
    refine lv_tableIn (tgt := 74) S.1 S.2.1 dX4_tokens_14 (by decide) (by decide) rfl (by decide) ?_
    refine lv_aload_nN S.1 S.2.1 dX4_tokens_74 rfl (lv_at hl 1 rfl) ?_
    refine lv_ifnullN (tgt := 85) S.1 S.2.1 dX4_tokens_75 (by decide) ?_
    refine lv_lconst (v := 0) S.1 S.2.1 dX4_tokens_85 (by decide) ?_
    refine lv_goto (tgt := 96) S.1 S.2.1 dX4_tokens_86 (by decide) ?_
    refine kw_lret S hr hlk hW hS (by decide) (by decide) dX4_tokens_96 ?_
    refine ⟨?_, rfl, rfl⟩; first | rfl | simp [m_tokens, w1, w2]
  refine lv_tableOut (tgt := 97) S.1 S.2.1 dX4_tokens_14 (kw_out3 w1 w2 w3) (by decide) ?_
  refine lv_lconst (v := 0) S.1 S.2.1 dX4_tokens_97 (by decide) ?_
  refine kw_lret S hr hlk hW hS (by decide) (by decide) dX4_tokens_98 ?_
  refine ⟨?_, rfl, rfl⟩; first | rfl | simp [m_tokens, w1, w2, w3]
set_option maxHeartbeats 1000000 in
set_option maxRecDepth 100000 in
/-- tag oo -/
theorem c_X4_tag_oo (l : Launch) (G : kw_G) (nu : Nat → Option Nat) (x z : kw_St) (o : Nat) (ee : kE) (t : mo_T) (ki : Int32) (w : Int32) (hz : zw G nu z o ee t x) (hkl : ∀ j, j < eA ee 6 1 → ki ≠ nI j) (hkg : ∀ j, j < eA ee 6 0 → ki ≠ nI j) : kw_M l G yX4_tag wsX4_tag { frames := 4, cells := 0, slots := 0, locals := 85 } 0 0 [.ref o, .int (ki), .int (w)] nu x (kw_P nu (some (.long (if w = 3 then tL t else 0))) x) := by
  refine kw_M.ofW (cc := cX4_tag) (maxL := 5) (ret := (some .long)) (by decide) rfl (Nat.le_of_ble_eq_true rfl) ?_
  intro p e s m args below meth c A ls S hr hlk hnm hK hZ hA hW hS hl
  have hl : lv_has ls 5 [(0, .ref o), (1, .int (ki)), (2, .int (w))] := hl
  have iX4 : ∀ w ∈ wsX40, w ∈ wsX4_tag := by decide +kernel
  have hdg := zd_ng hz
  have hdl := zd_nl hz
  have hdp := zd_np hz
  have hdb := zd_nb hz
  refine lv_aload_n S.1 S.2.1 dX4_tag_0 rfl (lv_at hl 0 rfl) ?_
  refine lv_iload_n S.1 S.2.1 dX4_tag_1 rfl (lv_at hl 1 rfl) ?_
  refine kx_cV (As := [.int (ki)]) (rest := []) (st1 := [.null]) S hK hZ hA hW hS (c_X4_leafAt_o l G nu x z o ee t ki hz hkl) (cwV 1 S.2.2.2.2 gX4_tag_X4_leafAt rfl rfl rfl (by decide +kernel) ⟨Nat.le_of_ble_eq_true rfl, Nat.le_of_ble_eq_true rfl⟩) (zk_o hz) (by decide) rfl rfl hl.1 rfl (Nat.le_of_ble_eq_true rfl) dX4_tag_2 ⟨Nat.le_of_ble_eq_true rfl, Nat.le_of_ble_eq_true rfl⟩ rfl (fun H locs hW hS => ?_)
  refine lv_astore_nN (lv' := [(3, .null), (0, .ref o), (1, .int (ki)), (2, .int (w))]) S.1 S.2.1 dX4_tag_5 rfl hl (by decide) rfl (fun ls hl => ?_)
  refine lv_aload_n S.1 S.2.1 dX4_tag_6 rfl (lv_at hl 1 rfl) ?_
  refine lv_iload_n S.1 S.2.1 dX4_tag_7 rfl (lv_at hl 2 rfl) ?_
  refine kx_cV (As := [.int (ki)]) (rest := []) (st1 := [.null]) S hK hZ hA hW hS (c_X4_groupAt_o l G nu x z o ee t ki hz hkg) (cwV 1 S.2.2.2.2 gX4_tag_X4_groupAt rfl rfl rfl (by decide +kernel) ⟨Nat.le_of_ble_eq_true rfl, Nat.le_of_ble_eq_true rfl⟩) (zk_o hz) (by decide) rfl rfl hl.1 rfl (Nat.le_of_ble_eq_true rfl) dX4_tag_8 ⟨Nat.le_of_ble_eq_true rfl, Nat.le_of_ble_eq_true rfl⟩ rfl (fun H locs hW hS => ?_)
  refine lv_astoreN (lv' := [(4, .null), (3, .null), (0, .ref o), (1, .int (ki)), (2, .int (w))]) S.1 S.2.1 dX4_tag_11 hl (by decide) rfl (fun ls hl => ?_)
  refine lv_iload_n S.1 S.2.1 dX4_tag_13 rfl (lv_at hl 4 rfl) ?_
  by_cases w1 : w = 0
  · skip
    subst w1
    refine lv_tableIn (tgt := 44) S.1 S.2.1 dX4_tag_14 (by decide) (by decide) rfl (by decide) ?_
    refine lv_aload_nN S.1 S.2.1 dX4_tag_44 rfl (lv_at hl 1 rfl) ?_
    refine lv_ifnonnullN S.1 S.2.1 dX4_tag_45 ?_
    refine lv_lconst (v := 0) S.1 S.2.1 dX4_tag_48 (by decide) ?_
    refine lv_goto (tgt := 56) S.1 S.2.1 dX4_tag_49 (by decide) ?_
    refine kw_lret S hr hlk hW hS (by decide) (by decide) dX4_tag_56 ?_
    refine ⟨?_, rfl, rfl⟩; first | rfl | simp [m_tag]
  by_cases w2 : w = 1
  · skip
    subst w2
    refine lv_tableIn (tgt := 57) S.1 S.2.1 dX4_tag_14 (by decide) (by decide) rfl (by decide) ?_
    refine lv_aloadN S.1 S.2.1 dX4_tag_57 (lv_at hl 0 rfl) ?_
    refine lv_ifnonnullN S.1 S.2.1 dX4_tag_59 ?_
    refine lv_lconst (v := 0) S.1 S.2.1 dX4_tag_62 (by decide) ?_
    refine lv_goto (tgt := 71) S.1 S.2.1 dX4_tag_63 (by decide) ?_
    refine kw_lret S hr hlk hW hS (by decide) (by decide) dX4_tag_71 ?_
    refine ⟨?_, rfl, rfl⟩; first | rfl | simp [m_tag, w1]
  by_cases w3 : w = 2
  · skip
    subst w3
    refine lv_tableIn (tgt := 72) S.1 S.2.1 dX4_tag_14 (by decide) (by decide) rfl (by decide) ?_
    refine lv_aloadN S.1 S.2.1 dX4_tag_72 (lv_at hl 0 rfl) ?_
    refine lv_ifnonnullN S.1 S.2.1 dX4_tag_74 ?_
    refine lv_lconst (v := 0) S.1 S.2.1 dX4_tag_77 (by decide) ?_
    refine lv_goto (tgt := 86) S.1 S.2.1 dX4_tag_78 (by decide) ?_
    refine kw_lret S hr hlk hW hS (by decide) (by decide) dX4_tag_86 ?_
    refine ⟨?_, rfl, rfl⟩; first | rfl | simp [m_tag, w1, w2]
  by_cases w4 : w = 3
  · skip
    subst w4
    refine lv_tableIn (tgt := 87) S.1 S.2.1 dX4_tag_14 (by decide) (by decide) rfl (by decide) ?_
    refine lv_aload_n S.1 S.2.1 dX4_tag_87 rfl (lv_at hl 2 rfl) ?_
    refine kx_gJ S hK hW (zk_o hz) 8 258 rfl iX4 (by decide) rfl rfl (by decide) (by decide +kernel) dX4_tag_88 (v := tL t) (zsh hz).2.2.2.2 ?_
    refine kw_lret S hr hlk hW hS (by decide) (by decide) dX4_tag_91 ?_
    refine ⟨?_, rfl, rfl⟩; first | rfl | simp [m_tag, w1, w2, w3]
  refine lv_tableOut (tgt := 92) S.1 S.2.1 dX4_tag_14 (kw_out4 w1 w2 w3 w4) (by decide) ?_
  refine lv_lconst (v := 0) S.1 S.2.1 dX4_tag_92 (by decide) ?_
  refine kw_lret S hr hlk hW hS (by decide) (by decide) dX4_tag_93 ?_
  refine ⟨?_, rfl, rfl⟩; first | rfl | simp [m_tag, w1, w2, w3, w4]
set_option maxHeartbeats 1000000 in
set_option maxRecDepth 100000 in
/-- count -/
theorem c_X4_count (l : Launch) (G : kw_G) (nu : Nat → Option Nat) (x z : kw_St) (o : Nat) (ee : kE) (t : mo_T) (w : Int32) (hz : zw G nu z o ee t x) (hF : zF ee t) : kw_M l G yX4_count wsX4_count { frames := 4, cells := 0, slots := 0, locals := 85 } 0 0 [.ref o, .int (w)] nu x (kw_P nu (some (.int (m_count t w))) x) := by
  refine kw_M.ofW (cc := cX4_count) (maxL := 2) (ret := (some .int)) (by decide) rfl (Nat.le_of_ble_eq_true rfl) ?_
  intro p e s m args below meth c A ls S hr hlk hnm hK hZ hA hW hS hl
  have hl : lv_has ls 2 [(0, .ref o), (1, .int (w))] := hl
  have iX4 : ∀ w ∈ wsX40, w ∈ wsX4_count := by decide +kernel
  have hdg := zd_ng hz
  have hdl := zd_nl hz
  have hdp := zd_np hz
  have hdb := zd_nb hz
  refine lv_iload_n S.1 S.2.1 dX4_count_0 rfl (lv_at hl 1 rfl) ?_
  by_cases w1 : w = 0
  · skip
    subst w1
    refine lv_tableIn (tgt := 40) S.1 S.2.1 dX4_count_1 (by decide) (by decide) rfl (by decide) ?_
    refine lv_aload_n S.1 S.2.1 dX4_count_40 rfl (lv_at hl 0 rfl) ?_
    refine kx_gA S hK hW (zk_o hz) 0 250 rfl iX4 (by decide) rfl rfl (by decide) (by decide +kernel) dX4_count_41 (b := (eA ee 4 0)) (zs_list hz (i := 0) (by decide)) ?_
    refine kx_cV (As := []) (rest := []) (st1 := [.int (nI (eA ee 6 0))]) S hK hZ hA hW hS (c_z_size l G hz 0 (by decide)) (cwV 0 S.2.2.2.2 gX4_count_Jx4a65c_size_8abf5 rfl rfl rfl (by decide +kernel) ⟨Nat.le_of_ble_eq_true rfl, Nat.le_of_ble_eq_true rfl⟩) (zk_L hz (by decide)) (by decide) rfl rfl hl.1 rfl (Nat.le_of_ble_eq_true rfl) dX4_count_44 ⟨Nat.le_of_ble_eq_true rfl, Nat.le_of_ble_eq_true rfl⟩ rfl (fun H locs hW hS => ?_)
    refine kw_iret S hr hlk hW hS (by decide) (by decide) dX4_count_47 ?_
    refine ⟨?_, rfl, rfl⟩; first | rfl | (simp [m_count, hz.1.1.1.1, hz.1.1.2.1.1, hz.1.1.2.2.1.1, hz.1.1.2.2.2.1.1]; done) | (rw [(hz.1.2.2.2.2.2.1 _ (by omega)).1, ← hon.2]; simp [m_count]; done) | (rw [← hz.1.1.2.2.2.2.2.2.1 (z_idle hz.1 hF (by assumption))]; simp [m_count]; done)
  by_cases w2 : w = 1
  · skip
    subst w2
    refine lv_tableIn (tgt := 48) S.1 S.2.1 dX4_count_1 (by decide) (by decide) rfl (by decide) ?_
    refine lv_aload_n S.1 S.2.1 dX4_count_48 rfl (lv_at hl 0 rfl) ?_
    refine kx_gA S hK hW (zk_o hz) 1 251 rfl iX4 (by decide) rfl rfl (by decide) (by decide +kernel) dX4_count_49 (b := (eA ee 4 1)) (zs_list hz (i := 1) (by decide)) ?_
    refine kx_cV (As := []) (rest := []) (st1 := [.int (nI (eA ee 6 1))]) S hK hZ hA hW hS (c_z_size l G hz 1 (by decide)) (cwV 0 S.2.2.2.2 gX4_count_Jx4a65c_size_8abf5 rfl rfl rfl (by decide +kernel) ⟨Nat.le_of_ble_eq_true rfl, Nat.le_of_ble_eq_true rfl⟩) (zk_L hz (by decide)) (by decide) rfl rfl hl.1 rfl (Nat.le_of_ble_eq_true rfl) dX4_count_52 ⟨Nat.le_of_ble_eq_true rfl, Nat.le_of_ble_eq_true rfl⟩ rfl (fun H locs hW hS => ?_)
    refine kw_iret S hr hlk hW hS (by decide) (by decide) dX4_count_55 ?_
    refine ⟨?_, rfl, rfl⟩; first | rfl | (simp [m_count, hz.1.1.1.1, hz.1.1.2.1.1, hz.1.1.2.2.1.1, hz.1.1.2.2.2.1.1, w1]; done) | (rw [(hz.1.2.2.2.2.2.1 _ (by omega)).1, ← hon.2]; simp [m_count]; done) | (rw [← hz.1.1.2.2.2.2.2.2.1 (z_idle hz.1 hF (by assumption))]; simp [m_count]; done)
  by_cases w3 : w = 2
  · skip
    subst w3
    refine lv_tableIn (tgt := 56) S.1 S.2.1 dX4_count_1 (by decide) (by decide) rfl (by decide) ?_
    refine lv_aload_n S.1 S.2.1 dX4_count_56 rfl (lv_at hl 0 rfl) ?_
    refine kx_gA S hK hW (zk_o hz) 2 252 rfl iX4 (by decide) rfl rfl (by decide) (by decide +kernel) dX4_count_57 (b := (eA ee 4 2)) (zs_list hz (i := 2) (by decide)) ?_
    refine kx_cV (As := []) (rest := []) (st1 := [.int (nI (eA ee 6 2))]) S hK hZ hA hW hS (c_z_size l G hz 2 (by decide)) (cwV 0 S.2.2.2.2 gX4_count_Jx4a65c_size_8abf5 rfl rfl rfl (by decide +kernel) ⟨Nat.le_of_ble_eq_true rfl, Nat.le_of_ble_eq_true rfl⟩) (zk_L hz (by decide)) (by decide) rfl rfl hl.1 rfl (Nat.le_of_ble_eq_true rfl) dX4_count_60 ⟨Nat.le_of_ble_eq_true rfl, Nat.le_of_ble_eq_true rfl⟩ rfl (fun H locs hW hS => ?_)
    refine kw_iret S hr hlk hW hS (by decide) (by decide) dX4_count_63 ?_
    refine ⟨?_, rfl, rfl⟩; first | rfl | (simp [m_count, hz.1.1.1.1, hz.1.1.2.1.1, hz.1.1.2.2.1.1, hz.1.1.2.2.2.1.1, w1, w2]; done) | (rw [(hz.1.2.2.2.2.2.1 _ (by omega)).1, ← hon.2]; simp [m_count]; done) | (rw [← hz.1.1.2.2.2.2.2.2.1 (z_idle hz.1 hF (by assumption))]; simp [m_count]; done)
  by_cases w4 : w = 3
  · skip
    subst w4
    refine lv_tableIn (tgt := 64) S.1 S.2.1 dX4_count_1 (by decide) (by decide) rfl (by decide) ?_
    refine lv_aload_n S.1 S.2.1 dX4_count_64 rfl (lv_at hl 0 rfl) ?_
    refine kx_gA S hK hW (zk_o hz) 3 253 rfl iX4 (by decide) rfl rfl (by decide) (by decide +kernel) dX4_count_65 (b := (eA ee 4 3)) (zs_list hz (i := 3) (by decide)) ?_
    refine kx_cV (As := []) (rest := []) (st1 := [.int (nI (eA ee 6 3))]) S hK hZ hA hW hS (c_z_size l G hz 3 (by decide)) (cwV 0 S.2.2.2.2 gX4_count_Jx4a65c_size_8abf5 rfl rfl rfl (by decide +kernel) ⟨Nat.le_of_ble_eq_true rfl, Nat.le_of_ble_eq_true rfl⟩) (zk_L hz (by decide)) (by decide) rfl rfl hl.1 rfl (Nat.le_of_ble_eq_true rfl) dX4_count_68 ⟨Nat.le_of_ble_eq_true rfl, Nat.le_of_ble_eq_true rfl⟩ rfl (fun H locs hW hS => ?_)
    refine kw_iret S hr hlk hW hS (by decide) (by decide) dX4_count_71 ?_
    refine ⟨?_, rfl, rfl⟩; first | rfl | (simp [m_count, hz.1.1.1.1, hz.1.1.2.1.1, hz.1.1.2.2.1.1, hz.1.1.2.2.2.1.1, w1, w2, w3]; done) | (rw [(hz.1.2.2.2.2.2.1 _ (by omega)).1, ← hon.2]; simp [m_count]; done) | (rw [← hz.1.1.2.2.2.2.2.2.1 (z_idle hz.1 hF (by assumption))]; simp [m_count]; done)
  by_cases w5 : w = 4
  · skip
    subst w5
    refine lv_tableIn (tgt := 72) S.1 S.2.1 dX4_count_1 (by decide) (by decide) rfl (by decide) ?_
    refine lv_aload_n S.1 S.2.1 dX4_count_72 rfl (lv_at hl 0 rfl) ?_
    refine kx_gI S hK hW (zk_o hz) 6 256 rfl iX4 (by decide) rfl rfl (by decide) (by decide +kernel) dX4_count_73 (v := tF t 6) (zsh hz).2.2.1 ?_
    refine kw_iret S hr hlk hW hS (by decide) (by decide) dX4_count_76 ?_
    refine ⟨?_, rfl, rfl⟩; first | rfl | (simp [m_count, hz.1.1.1.1, hz.1.1.2.1.1, hz.1.1.2.2.1.1, hz.1.1.2.2.2.1.1, w1, w2, w3, w4]; done) | (rw [(hz.1.2.2.2.2.2.1 _ (by omega)).1, ← hon.2]; simp [m_count]; done) | (rw [← hz.1.1.2.2.2.2.2.2.1 (z_idle hz.1 hF (by assumption))]; simp [m_count]; done)
  by_cases w6 : w = 5
  · skip
    subst w6
    refine lv_tableIn (tgt := 77) S.1 S.2.1 dX4_count_1 (by decide) (by decide) rfl (by decide) ?_
    refine lv_aload_n S.1 S.2.1 dX4_count_77 rfl (lv_at hl 0 rfl) ?_
    refine kx_gI S hK hW (zk_o hz) 4 254 rfl iX4 (by decide) rfl rfl (by decide) (by decide +kernel) dX4_count_78 (v := tF t 1) (zsh hz).1 ?_
    refine lv_aload_n S.1 S.2.1 dX4_count_81 rfl (lv_at hl 0 rfl) ?_
    refine kx_gI S hK hW (zk_o hz) 5 255 rfl iX4 (by decide) rfl rfl (by decide) (by decide +kernel) dX4_count_82 (v := nI (eA ee 9 0)) (zsh hz).2.1 ?_
    refine lv_icmp_ge (tgt := 104) S.1 S.2.1 dX4_count_85 (by decide) (fun c7 => ?_) (fun c7 => ?_)
    · skip
      refine lv_iconst (v := (-1)) S.1 S.2.1 dX4_count_104 (by decide) ?_
      refine kw_iret S hr hlk hW hS (by decide) (by decide) dX4_count_105 ?_
      refine ⟨?_, rfl, rfl⟩; first | rfl | (simp [m_count, hz.1.1.1.1, hz.1.1.2.1.1, hz.1.1.2.2.1.1, hz.1.1.2.2.2.1.1, w1, w2, w3, w4, w5]; done) | (rw [(hz.1.2.2.2.2.2.1 _ (by omega)).1, ← hon.2]; simp [m_count]; done) | (rw [← hz.1.1.2.2.2.2.2.2.1 (z_idle hz.1 hF (by assumption))]; simp [m_count]; done)
    · skip
      have hlf := z_busy hF (by assumption)
      have hon := hz.1.1.2.2.2.2.2.2.2 hlf
      refine lv_aload_n S.1 S.2.1 dX4_count_88 rfl (lv_at hl 0 rfl) ?_
      refine lv_aload_n S.1 S.2.1 dX4_count_89 rfl (lv_at hl 0 rfl) ?_
      refine kx_gA S hK hW (zk_o hz) 3 253 rfl iX4 (by decide) rfl rfl (by decide) (by decide +kernel) dX4_count_90 (b := (eA ee 4 3)) (zs_list hz (i := 3) (by decide)) ?_
      refine kx_cV (As := []) (rest := [.ref o]) (st1 := [.int (nI (eA ee 6 3)), .ref o]) S hK hZ hA hW hS (c_z_size l G hz 3 (by decide)) (cwV 0 S.2.2.2.2 gX4_count_Jx4a65c_size_8abf5 rfl rfl rfl (by decide +kernel) ⟨Nat.le_of_ble_eq_true rfl, Nat.le_of_ble_eq_true rfl⟩) (zk_L hz (by decide)) (by decide) rfl rfl hl.1 rfl (Nat.le_of_ble_eq_true rfl) dX4_count_93 ⟨Nat.le_of_ble_eq_true rfl, Nat.le_of_ble_eq_true rfl⟩ rfl (fun H locs hW hS => ?_)
      refine lv_iconst (v := 1) S.1 S.2.1 dX4_count_96 (by decide) ?_
      refine lv_isub S.1 S.2.1 dX4_count_97 ?_
      rw [show nI (eA ee 6 3) - 1 = nI (eA ee 6 3 - 1) from by rw [show eA ee 6 3 = (eA ee 6 3 - 1) + 1 by omega, nI_pred]; rfl]
      refine kx_cV (As := [.int (nI (eA ee 6 3 - 1))]) (rest := []) (st1 := [.int (tA t 40 (eA ee 6 3 - 1))]) S hK hZ hA hW hS (c_X4_sent_s l G nu x z o ee t (eA ee 6 3 - 1) hz (by omega)) (cwV 1 S.2.2.2.2 gX4_count_X4_sent rfl rfl rfl (by decide +kernel) ⟨Nat.le_of_ble_eq_true rfl, Nat.le_of_ble_eq_true rfl⟩) (zk_o hz) (by decide) rfl rfl hl.1 rfl (Nat.le_of_ble_eq_true rfl) dX4_count_98 ⟨Nat.le_of_ble_eq_true rfl, Nat.le_of_ble_eq_true rfl⟩ rfl (fun H locs hW hS => ?_)
      refine lv_goto (tgt := 105) S.1 S.2.1 dX4_count_101 (by decide) ?_
      refine kw_iret S hr hlk hW hS (by decide) (by decide) dX4_count_105 ?_
      refine ⟨?_, rfl, rfl⟩; first | rfl | (simp [m_count, hz.1.1.1.1, hz.1.1.2.1.1, hz.1.1.2.2.1.1, hz.1.1.2.2.2.1.1, w1, w2, w3, w4, w5]; done) | (rw [(hz.1.2.2.2.2.2.1 _ (by omega)).1, ← hon.2]; simp [m_count]; done) | (rw [← hz.1.1.2.2.2.2.2.2.1 (z_idle hz.1 hF (by assumption))]; simp [m_count]; done)
  refine lv_tableOut (tgt := 106) S.1 S.2.1 dX4_count_1 (kw_out6 w1 w2 w3 w4 w5 w6) (by decide) ?_
  refine lv_iconst (v := (-1)) S.1 S.2.1 dX4_count_106 (by decide) ?_
  refine kw_iret S hr hlk hW hS (by decide) (by decide) dX4_count_107 ?_
  refine ⟨?_, rfl, rfl⟩; first | rfl | (simp [m_count, hz.1.1.1.1, hz.1.1.2.1.1, hz.1.1.2.2.1.1, hz.1.1.2.2.2.1.1, w1, w2, w3, w4, w5, w6]; done) | (rw [(hz.1.2.2.2.2.2.1 _ (by omega)).1, ← hon.2]; simp [m_count]; done) | (rw [← hz.1.1.2.2.2.2.2.2.1 (z_idle hz.1 hF (by assumption))]; simp [m_count]; done)
set_option maxHeartbeats 1000000 in
set_option maxRecDepth 100000 in
/-- pickDue -/
theorem c_X4_pickDue (l : Launch) (G : kw_G) (nu : Nat → Option Nat) (x z : kw_St) (o : Nat) (ee : kE) (t : mo_T)  (hz : zw G nu z o ee t x)  : kw_M l G yX4_pickDue wsX4_pickDue { frames := 3, cells := 0, slots := 0, locals := 64 } 0 0 [.ref o] nu x (kw_P nu (some (va_rf ((m_due t (fpT t) (eA ee 6 1)).map (eA ee 1)))) x) := by
  refine kw_M.ofW (cc := cX4_pickDue) (maxL := 4) (ret := (some (.object "LinkShaper$Leaf"))) (by decide) rfl (Nat.le_of_ble_eq_true rfl) ?_
  intro p e s m args below meth c A ls S hr hlk hnm hK hZ hA hW hS hl
  have hl : lv_has ls 4 [(0, .ref o)] := hl
  have iX4 : ∀ w ∈ wsX40, w ∈ wsX4_pickDue := by decide +kernel
  have hdg := zd_ng hz
  have hdl := zd_nl hz
  have hdp := zd_np hz
  have hdb := zd_nb hz
  obtain ⟨QQ, hQQ⟩ : ∃ q, q = MQ below (kw_Qc G A (kw_P nu (some (va_rf ((m_due t (fpT t) (eA ee 6 1)).map (eA ee 1)))) x)) args s 0 0 A := ⟨_, rfl⟩
  rw [← hQQ]
  refine lv_null S.1 S.2.1 dX4_pickDue_0 ?_
  refine lv_astore_nN (lv' := [(1, .null), (0, .ref o)]) S.1 S.2.1 dX4_pickDue_1 rfl hl (by decide) rfl (fun ls hl => ?_)
  refine lv_iconst (v := 0) S.1 S.2.1 dX4_pickDue_2 (by decide) ?_
  refine lv_istore_n (lv' := [(2, .int (0)), (1, .null), (0, .ref o)]) S.1 S.2.1 dX4_pickDue_3 rfl hl (by decide) rfl (fun ls hl => ?_)
  have lp : ∀ (dn n : Nat) (io : Option Nat), n + dn = eA ee 6 1 → (io = m_am (m_duf t (fpT t)) (m_dul t (fpT t)) n) → ∀ (H : Heap) (locs : List Loc) (ls : Array Slot), kw_W G A nu x H → va_S A s.heap H locs → lv_has ls 4 [(0, .ref o), (1, va_rf (Option.map (eA ee 1) io)), (2, .int (nI n))] → W p l e { frames := 3, cells := 0, slots := 0, locals := 64 } s m args below meth c H locs 0 0 QQ (F0 m 4 ls []) := by
    intro dn
    induction dn with
    | zero =>
      intro n io hndn hio H locs ls hW hS hl
      rcases io with _ | a
      · skip
        have hl : lv_has ls 4 [(0, .ref o), (1, .null), (2, .int (nI n))] := hl
        refine lv_iload_n S.1 S.2.1 dX4_pickDue_4 rfl (lv_at hl 2 rfl) ?_
        refine lv_aload_n S.1 S.2.1 dX4_pickDue_5 rfl (lv_at hl 0 rfl) ?_
        refine kx_gA S hK hW (zk_o hz) 1 251 rfl iX4 (by decide) rfl rfl (by decide) (by decide +kernel) dX4_pickDue_6 (b := (eA ee 4 1)) (zs_list hz (i := 1) (by decide)) ?_
        refine kx_cV (As := []) (rest := [.int (nI n)]) (st1 := [.int (nI (eA ee 6 1)), .int (nI n)]) S hK hZ hA hW hS (c_z_size l G hz 1 (by decide)) (cwV 0 S.2.2.2.2 gX4_pickDue_Jx4a65c_size_8abf5 rfl rfl rfl (by decide +kernel) ⟨Nat.le_of_ble_eq_true rfl, Nat.le_of_ble_eq_true rfl⟩) (zk_L hz (by decide)) (by decide) rfl rfl hl.1 rfl (Nat.le_of_ble_eq_true rfl) dX4_pickDue_9 ⟨Nat.le_of_ble_eq_true rfl, Nat.le_of_ble_eq_true rfl⟩ rfl (fun H locs hW hS => ?_)
        refine lv_icmp_ge (tgt := 61) S.1 S.2.1 dX4_pickDue_12 (by decide) (fun c1 => ?_) (fun c1 => ?_)
        · skip
          refine lv_aload_nN S.1 S.2.1 dX4_pickDue_61 rfl (lv_at hl 1 rfl) ?_
          rw [hQQ]
          refine kw_aret S hr (Or.inl ⟨_, rfl⟩) hlk (v := none) hW hS (by decide) (by decide) dX4_pickDue_62 ?_
          refine ⟨?_, rfl, rfl⟩
          rw [m_due, show eA ee 6 1 = n by omega, ← hio]; rfl
        · skip
          exact absurd (nI_le (a := eA ee 6 1) (b := n) (by omega) (by omega)) c1
      · skip
        have hl : lv_has ls 4 [(0, .ref o), (1, .ref (eA ee 1 a)), (2, .int (nI n))] := hl
        obtain ⟨ha1, ha2⟩ := m_am_some hio.symm
        have ha3 : a < eA ee 6 1 := by omega
        refine lv_iload_n S.1 S.2.1 dX4_pickDue_4 rfl (lv_at hl 2 rfl) ?_
        refine lv_aload_n S.1 S.2.1 dX4_pickDue_5 rfl (lv_at hl 0 rfl) ?_
        refine kx_gA S hK hW (zk_o hz) 1 251 rfl iX4 (by decide) rfl rfl (by decide) (by decide +kernel) dX4_pickDue_6 (b := (eA ee 4 1)) (zs_list hz (i := 1) (by decide)) ?_
        refine kx_cV (As := []) (rest := [.int (nI n)]) (st1 := [.int (nI (eA ee 6 1)), .int (nI n)]) S hK hZ hA hW hS (c_z_size l G hz 1 (by decide)) (cwV 0 S.2.2.2.2 gX4_pickDue_Jx4a65c_size_8abf5 rfl rfl rfl (by decide +kernel) ⟨Nat.le_of_ble_eq_true rfl, Nat.le_of_ble_eq_true rfl⟩) (zk_L hz (by decide)) (by decide) rfl rfl hl.1 rfl (Nat.le_of_ble_eq_true rfl) dX4_pickDue_9 ⟨Nat.le_of_ble_eq_true rfl, Nat.le_of_ble_eq_true rfl⟩ rfl (fun H locs hW hS => ?_)
        refine lv_icmp_ge (tgt := 61) S.1 S.2.1 dX4_pickDue_12 (by decide) (fun c2 => ?_) (fun c2 => ?_)
        · skip
          refine lv_aload_n S.1 S.2.1 dX4_pickDue_61 rfl (lv_at hl 1 rfl) ?_
          rw [hQQ]
          refine kw_aret S hr (Or.inl ⟨_, rfl⟩) hlk (v := some (eA ee 1 a)) hW hS (by decide) (by decide) dX4_pickDue_62 ?_
          refine ⟨?_, rfl, rfl⟩
          rw [m_due, show eA ee 6 1 = n by omega, ← hio]; rfl
        · skip
          exact absurd (nI_le (a := eA ee 6 1) (b := n) (by omega) (by omega)) c2
    | succ dn ihlp =>
      intro n io hndn hio H locs ls hW hS hl
      rcases io with _ | a
      · skip
        have hl : lv_has ls 4 [(0, .ref o), (1, .null), (2, .int (nI n))] := hl
        refine lv_iload_n S.1 S.2.1 dX4_pickDue_4 rfl (lv_at hl 2 rfl) ?_
        refine lv_aload_n S.1 S.2.1 dX4_pickDue_5 rfl (lv_at hl 0 rfl) ?_
        refine kx_gA S hK hW (zk_o hz) 1 251 rfl iX4 (by decide) rfl rfl (by decide) (by decide +kernel) dX4_pickDue_6 (b := (eA ee 4 1)) (zs_list hz (i := 1) (by decide)) ?_
        refine kx_cV (As := []) (rest := [.int (nI n)]) (st1 := [.int (nI (eA ee 6 1)), .int (nI n)]) S hK hZ hA hW hS (c_z_size l G hz 1 (by decide)) (cwV 0 S.2.2.2.2 gX4_pickDue_Jx4a65c_size_8abf5 rfl rfl rfl (by decide +kernel) ⟨Nat.le_of_ble_eq_true rfl, Nat.le_of_ble_eq_true rfl⟩) (zk_L hz (by decide)) (by decide) rfl rfl hl.1 rfl (Nat.le_of_ble_eq_true rfl) dX4_pickDue_9 ⟨Nat.le_of_ble_eq_true rfl, Nat.le_of_ble_eq_true rfl⟩ rfl (fun H locs hW hS => ?_)
        refine lv_icmp_ge (tgt := 61) S.1 S.2.1 dX4_pickDue_12 (by decide) (fun c3 => ?_) (fun c3 => ?_)
        · skip
          exact absurd c3 (nI_ge (a := n) (b := eA ee 6 1) (by omega) (by omega))
        · skip
          have hdu := rd_duf hz (k := n) (by omega)
          refine lv_aload_n S.1 S.2.1 dX4_pickDue_15 rfl (lv_at hl 0 rfl) ?_
          refine kx_gA S hK hW (zk_o hz) 1 251 rfl iX4 (by decide) rfl rfl (by decide) (by decide +kernel) dX4_pickDue_16 (b := (eA ee 4 1)) (zs_list hz (i := 1) (by decide)) ?_
          refine lv_iload_n S.1 S.2.1 dX4_pickDue_19 rfl (lv_at hl 2 rfl) ?_
          refine kx_cV (As := [.int (nI n)]) (rest := []) (st1 := [.ref (eA ee 1 n)]) S hK hZ hA hW hS (c_z_get l G hz 1 n (by decide) (by omega)) (cwV 1 S.2.2.2.2 gX4_pickDue_Jx4a65c_get_915e3 rfl rfl rfl (by decide +kernel) ⟨Nat.le_of_ble_eq_true rfl, Nat.le_of_ble_eq_true rfl⟩) (zk_L hz (by decide)) (by decide) rfl rfl hl.1 rfl (Nat.le_of_ble_eq_true rfl) dX4_pickDue_20 ⟨Nat.le_of_ble_eq_true rfl, Nat.le_of_ble_eq_true rfl⟩ rfl (fun H locs hW hS => ?_)
          refine kx_cast S hK hW (zk_l hz (by omega)) (by decide) rfl (by decide +kernel) dX4_pickDue_23 ?_
          refine lv_astore_n (lv' := [(3, .ref (eA ee 1 n)), (0, .ref o), (1, .null), (2, .int (nI n))]) S.1 S.2.1 dX4_pickDue_26 rfl hl (by decide) rfl (fun ls hl => ?_)
          refine lv_aload_n S.1 S.2.1 dX4_pickDue_27 rfl (lv_at hl 0 rfl) ?_
          refine kx_cV (As := []) (rest := []) (st1 := [.int (q_start x ((eA ee 1 n)))]) S hK hZ hA hW hS (c_X2_start l G nu x ((eA ee 1 n)) ((zk_l hz (by omega))) (zl_fi hz (by omega))) (cwV 0 S.2.2.2.2 gX4_pickDue_X2_start rfl rfl rfl (by decide +kernel) ⟨Nat.le_of_ble_eq_true rfl, Nat.le_of_ble_eq_true rfl⟩) ((zk_l hz (by omega))) (by decide) rfl rfl hl.1 rfl (Nat.le_of_ble_eq_true rfl) dX4_pickDue_28 ⟨Nat.le_of_ble_eq_true rfl, Nat.le_of_ble_eq_true rfl⟩ rfl (fun H locs hW hS => ?_)
          refine lv_aload_n S.1 S.2.1 dX4_pickDue_31 rfl (lv_at hl 1 rfl) ?_
          refine kx_gI S hK hW (zk_o hz) 4 254 rfl iX4 (by decide) rfl rfl (by decide) (by decide +kernel) dX4_pickDue_32 (v := tF t 1) (zsh hz).1 ?_
          refine lv_icmp_gt (tgt := 55) S.1 S.2.1 dX4_pickDue_35 (by decide) (fun c4 => ?_) (fun c4 => ?_)
          · skip
            refine lv_iinc (v := nI (n + 1)) (lv' := [(2, .int (nI (n + 1))), (3, .ref (eA ee 1 n)), (0, .ref o), (1, .null)]) S.1 S.2.1 dX4_pickDue_55 hl (k := 3) rfl (nI_1 _) (by decide) rfl (fun ls hl => ?_)
            refine lv_goto (tgt := 4) S.1 S.2.1 dX4_pickDue_58 (by decide) ?_
            exact ihlp (n + 1) none (by omega) (by simp [m_am, hio.symm, hdu, c3, c4]) _ _ ls hW hS (lv_conv (lv_sub hl [2, 3, 0] rfl) (congr (congrArg List.cons rfl) (congr (congrArg List.cons rfl) (congr (congrArg List.cons rfl) rfl))))
          · skip
            refine lv_aload_nN S.1 S.2.1 dX4_pickDue_38 rfl (lv_at hl 2 rfl) ?_
            refine lv_ifnullN (tgt := 53) S.1 S.2.1 dX4_pickDue_39 (by decide) ?_
            refine lv_aload_n S.1 S.2.1 dX4_pickDue_53 rfl (lv_at hl 0 rfl) ?_
            refine lv_astore_n (lv' := [(1, .ref (eA ee 1 n)), (3, .ref (eA ee 1 n)), (0, .ref o), (2, .int (nI n))]) S.1 S.2.1 dX4_pickDue_54 rfl hl (by decide) rfl (fun ls hl => ?_)
            refine lv_iinc (v := nI (n + 1)) (lv' := [(2, .int (nI (n + 1))), (1, .ref (eA ee 1 n)), (3, .ref (eA ee 1 n)), (0, .ref o)]) S.1 S.2.1 dX4_pickDue_55 hl (k := 3) rfl (nI_1 _) (by decide) rfl (fun ls hl => ?_)
            refine lv_goto (tgt := 4) S.1 S.2.1 dX4_pickDue_58 (by decide) ?_
            exact ihlp (n + 1) (some n) (by omega) (by simp [m_am, hio.symm, hdu, c3, c4]) _ _ ls hW hS (lv_conv (lv_sub hl [3, 1, 0] rfl) (congr (congrArg List.cons rfl) (congr (congrArg List.cons rfl) (congr (congrArg List.cons rfl) rfl))))
      · skip
        have hl : lv_has ls 4 [(0, .ref o), (1, .ref (eA ee 1 a)), (2, .int (nI n))] := hl
        obtain ⟨ha1, ha2⟩ := m_am_some hio.symm
        have ha3 : a < eA ee 6 1 := by omega
        refine lv_iload_n S.1 S.2.1 dX4_pickDue_4 rfl (lv_at hl 2 rfl) ?_
        refine lv_aload_n S.1 S.2.1 dX4_pickDue_5 rfl (lv_at hl 0 rfl) ?_
        refine kx_gA S hK hW (zk_o hz) 1 251 rfl iX4 (by decide) rfl rfl (by decide) (by decide +kernel) dX4_pickDue_6 (b := (eA ee 4 1)) (zs_list hz (i := 1) (by decide)) ?_
        refine kx_cV (As := []) (rest := [.int (nI n)]) (st1 := [.int (nI (eA ee 6 1)), .int (nI n)]) S hK hZ hA hW hS (c_z_size l G hz 1 (by decide)) (cwV 0 S.2.2.2.2 gX4_pickDue_Jx4a65c_size_8abf5 rfl rfl rfl (by decide +kernel) ⟨Nat.le_of_ble_eq_true rfl, Nat.le_of_ble_eq_true rfl⟩) (zk_L hz (by decide)) (by decide) rfl rfl hl.1 rfl (Nat.le_of_ble_eq_true rfl) dX4_pickDue_9 ⟨Nat.le_of_ble_eq_true rfl, Nat.le_of_ble_eq_true rfl⟩ rfl (fun H locs hW hS => ?_)
        refine lv_icmp_ge (tgt := 61) S.1 S.2.1 dX4_pickDue_12 (by decide) (fun c5 => ?_) (fun c5 => ?_)
        · skip
          exact absurd c5 (nI_ge (a := n) (b := eA ee 6 1) (by omega) (by omega))
        · skip
          have hdu := rd_duf hz (k := n) (by omega)
          refine lv_aload_n S.1 S.2.1 dX4_pickDue_15 rfl (lv_at hl 0 rfl) ?_
          refine kx_gA S hK hW (zk_o hz) 1 251 rfl iX4 (by decide) rfl rfl (by decide) (by decide +kernel) dX4_pickDue_16 (b := (eA ee 4 1)) (zs_list hz (i := 1) (by decide)) ?_
          refine lv_iload_n S.1 S.2.1 dX4_pickDue_19 rfl (lv_at hl 2 rfl) ?_
          refine kx_cV (As := [.int (nI n)]) (rest := []) (st1 := [.ref (eA ee 1 n)]) S hK hZ hA hW hS (c_z_get l G hz 1 n (by decide) (by omega)) (cwV 1 S.2.2.2.2 gX4_pickDue_Jx4a65c_get_915e3 rfl rfl rfl (by decide +kernel) ⟨Nat.le_of_ble_eq_true rfl, Nat.le_of_ble_eq_true rfl⟩) (zk_L hz (by decide)) (by decide) rfl rfl hl.1 rfl (Nat.le_of_ble_eq_true rfl) dX4_pickDue_20 ⟨Nat.le_of_ble_eq_true rfl, Nat.le_of_ble_eq_true rfl⟩ rfl (fun H locs hW hS => ?_)
          refine kx_cast S hK hW (zk_l hz (by omega)) (by decide) rfl (by decide +kernel) dX4_pickDue_23 ?_
          refine lv_astore_n (lv' := [(3, .ref (eA ee 1 n)), (0, .ref o), (1, .ref (eA ee 1 a)), (2, .int (nI n))]) S.1 S.2.1 dX4_pickDue_26 rfl hl (by decide) rfl (fun ls hl => ?_)
          refine lv_aload_n S.1 S.2.1 dX4_pickDue_27 rfl (lv_at hl 0 rfl) ?_
          refine kx_cV (As := []) (rest := []) (st1 := [.int (q_start x ((eA ee 1 n)))]) S hK hZ hA hW hS (c_X2_start l G nu x ((eA ee 1 n)) ((zk_l hz (by omega))) (zl_fi hz (by omega))) (cwV 0 S.2.2.2.2 gX4_pickDue_X2_start rfl rfl rfl (by decide +kernel) ⟨Nat.le_of_ble_eq_true rfl, Nat.le_of_ble_eq_true rfl⟩) ((zk_l hz (by omega))) (by decide) rfl rfl hl.1 rfl (Nat.le_of_ble_eq_true rfl) dX4_pickDue_28 ⟨Nat.le_of_ble_eq_true rfl, Nat.le_of_ble_eq_true rfl⟩ rfl (fun H locs hW hS => ?_)
          refine lv_aload_n S.1 S.2.1 dX4_pickDue_31 rfl (lv_at hl 1 rfl) ?_
          refine kx_gI S hK hW (zk_o hz) 4 254 rfl iX4 (by decide) rfl rfl (by decide) (by decide +kernel) dX4_pickDue_32 (v := tF t 1) (zsh hz).1 ?_
          refine lv_icmp_gt (tgt := 55) S.1 S.2.1 dX4_pickDue_35 (by decide) (fun c6 => ?_) (fun c6 => ?_)
          · skip
            refine lv_iinc (v := nI (n + 1)) (lv' := [(2, .int (nI (n + 1))), (3, .ref (eA ee 1 n)), (0, .ref o), (1, .ref (eA ee 1 a))]) S.1 S.2.1 dX4_pickDue_55 hl (k := 3) rfl (nI_1 _) (by decide) rfl (fun ls hl => ?_)
            refine lv_goto (tgt := 4) S.1 S.2.1 dX4_pickDue_58 (by decide) ?_
            exact ihlp (n + 1) (some a) (by omega) (by simp [m_am, hio.symm, hdu, c5, c6]) _ _ ls hW hS (lv_conv (lv_sub hl [2, 3, 0] rfl) (congr (congrArg List.cons rfl) (congr (congrArg List.cons rfl) (congr (congrArg List.cons rfl) rfl))))
          · skip
            refine lv_aload_n S.1 S.2.1 dX4_pickDue_38 rfl (lv_at hl 2 rfl) ?_
            refine lv_ifnull S.1 S.2.1 dX4_pickDue_39 ?_
            have hdn : m_duf t (fpT t) n = true := by rw [hdu]; exact decide_eq_true (by assumption)
            refine lv_aload_n S.1 S.2.1 dX4_pickDue_42 rfl (lv_at hl 0 rfl) ?_
            refine kx_cV (As := []) (rest := []) (st1 := [.int (q_dl x ((eA ee 1 n)))]) S hK hZ hA hW hS (c_X2_deadline l G nu x ((eA ee 1 n)) ((zk_l hz (by omega))) (zl_fi hz (by omega))) (cwV 0 S.2.2.2.2 gX4_pickDue_X2_deadline rfl rfl rfl (by decide +kernel) ⟨Nat.le_of_ble_eq_true rfl, Nat.le_of_ble_eq_true rfl⟩) ((zk_l hz (by omega))) (by decide) rfl rfl hl.1 rfl (Nat.le_of_ble_eq_true rfl) dX4_pickDue_43 ⟨Nat.le_of_ble_eq_true rfl, Nat.le_of_ble_eq_true rfl⟩ rfl (fun H locs hW hS => ?_)
            refine lv_aload_n S.1 S.2.1 dX4_pickDue_46 rfl (lv_at hl 2 rfl) ?_
            refine kx_cV (As := []) (rest := [.int (q_dl x ((eA ee 1 n)))]) (st1 := [.int (q_dl x ((eA ee 1 a))), .int (q_dl x ((eA ee 1 n)))]) S hK hZ hA hW hS (c_X2_deadline l G nu x ((eA ee 1 a)) ((zk_l hz (by omega))) (zl_fi hz (by omega))) (cwV 0 S.2.2.2.2 gX4_pickDue_X2_deadline rfl rfl rfl (by decide +kernel) ⟨Nat.le_of_ble_eq_true rfl, Nat.le_of_ble_eq_true rfl⟩) ((zk_l hz (by omega))) (by decide) rfl rfl hl.1 rfl (Nat.le_of_ble_eq_true rfl) dX4_pickDue_47 ⟨Nat.le_of_ble_eq_true rfl, Nat.le_of_ble_eq_true rfl⟩ rfl (fun H locs hW hS => ?_)
            refine lv_icmp_ge (tgt := 55) S.1 S.2.1 dX4_pickDue_50 (by decide) (fun c7 => ?_) (fun c7 => ?_)
            · skip
              refine lv_iinc (v := nI (n + 1)) (lv' := [(2, .int (nI (n + 1))), (3, .ref (eA ee 1 n)), (0, .ref o), (1, .ref (eA ee 1 a))]) S.1 S.2.1 dX4_pickDue_55 hl (k := 3) rfl (nI_1 _) (by decide) rfl (fun ls hl => ?_)
              refine lv_goto (tgt := 4) S.1 S.2.1 dX4_pickDue_58 (by decide) ?_
              exact ihlp (n + 1) (some a) (by omega) (by simp [m_am, hio.symm, hdu, c5, c6, c7, rd_dul hz (by omega) ha3 hdn ha2]) _ _ ls hW hS (lv_conv (lv_sub hl [2, 3, 0] rfl) (congr (congrArg List.cons rfl) (congr (congrArg List.cons rfl) (congr (congrArg List.cons rfl) rfl))))
            · skip
              refine lv_aload_n S.1 S.2.1 dX4_pickDue_53 rfl (lv_at hl 0 rfl) ?_
              refine lv_astore_n (lv' := [(1, .ref (eA ee 1 n)), (3, .ref (eA ee 1 n)), (0, .ref o), (2, .int (nI n))]) S.1 S.2.1 dX4_pickDue_54 rfl hl (by decide) rfl (fun ls hl => ?_)
              refine lv_iinc (v := nI (n + 1)) (lv' := [(2, .int (nI (n + 1))), (1, .ref (eA ee 1 n)), (3, .ref (eA ee 1 n)), (0, .ref o)]) S.1 S.2.1 dX4_pickDue_55 hl (k := 3) rfl (nI_1 _) (by decide) rfl (fun ls hl => ?_)
              refine lv_goto (tgt := 4) S.1 S.2.1 dX4_pickDue_58 (by decide) ?_
              exact ihlp (n + 1) (some n) (by omega) (by simp [m_am, hio.symm, hdu, c5, c6, c7, rd_dul hz (by omega) ha3 hdn ha2]) _ _ ls hW hS (lv_conv (lv_sub hl [3, 1, 0] rfl) (congr (congrArg List.cons rfl) (congr (congrArg List.cons rfl) (congr (congrArg List.cons rfl) rfl))))
  exact lp (eA ee 6 1 - 0) 0 none (by omega) rfl _ _ ls hW hS (lv_conv (lv_sub hl [2, 1, 0] rfl) (congr (congrArg List.cons rfl) (congr (congrArg List.cons rfl) (congr (congrArg List.cons (congrArg (fun z9 => ((2 : Nat), Value.int z9)) (show (0 : Int32) = nI 0 from by first | rfl | (rfl)))) rfl))))
set_option maxHeartbeats 1000000 in
set_option maxRecDepth 100000 in
/-- pickExcessOf -/
theorem c_X4_pickExcessOf (l : Launch) (G : kw_G) (nu : Nat → Option Nat) (x z : kw_St) (o : Nat) (ee : kE) (t : mo_T) (g : Nat) (hz : zw G nu z o ee t x) (hg : g < eA ee 6 0) : kw_M l G yX4_pickExcessOf wsX4_pickExcessOf { frames := 3, cells := 0, slots := 0, locals := 64 } 0 0 [.ref o, .ref (eA ee 0 g)] nu x (kw_P nu (some (va_rf ((m_its1 t (fpT t) (eA ee 6 1) g).map (eA ee 1)))) x) := by
  refine kw_M.ofW (cc := cX4_pickExcessOf) (maxL := 5) (ret := (some (.object "LinkShaper$Leaf"))) (by decide) rfl (Nat.le_of_ble_eq_true rfl) ?_
  intro p e s m args below meth c A ls S hr hlk hnm hK hZ hA hW hS hl
  have hl : lv_has ls 5 [(0, .ref o), (1, .ref (eA ee 0 g))] := hl
  have iX2 : ∀ w ∈ wsX20, w ∈ wsX4_pickExcessOf := by decide +kernel
  have iX4 : ∀ w ∈ wsX40, w ∈ wsX4_pickExcessOf := by decide +kernel
  have hdg := zd_ng hz
  have hdl := zd_nl hz
  have hdp := zd_np hz
  have hdb := zd_nb hz
  obtain ⟨QQ, hQQ⟩ : ∃ q, q = MQ below (kw_Qc G A (kw_P nu (some (va_rf ((m_its1 t (fpT t) (eA ee 6 1) g).map (eA ee 1)))) x)) args s 0 0 A := ⟨_, rfl⟩
  rw [← hQQ]
  refine lv_null S.1 S.2.1 dX4_pickExcessOf_0 ?_
  refine lv_astore_nN (lv' := [(2, .null), (0, .ref o), (1, .ref (eA ee 0 g))]) S.1 S.2.1 dX4_pickExcessOf_1 rfl hl (by decide) rfl (fun ls hl => ?_)
  refine lv_iconst (v := 0) S.1 S.2.1 dX4_pickExcessOf_2 (by decide) ?_
  refine lv_istore_n (lv' := [(3, .int (0)), (2, .null), (0, .ref o), (1, .ref (eA ee 0 g))]) S.1 S.2.1 dX4_pickExcessOf_3 rfl hl (by decide) rfl (fun ls hl => ?_)
  have lp : ∀ (dn n : Nat) (io : Option Nat), n + dn = eA ee 6 1 → (io = m_am (m_exf t (fpT t) g) (m_exl t (fpT t)) n) → ∀ (H : Heap) (locs : List Loc) (ls : Array Slot), kw_W G A nu x H → va_S A s.heap H locs → lv_has ls 5 [(0, .ref o), (1, .ref (eA ee 0 g)), (2, va_rf (Option.map (eA ee 1) io)), (3, .int (nI n))] → W p l e { frames := 3, cells := 0, slots := 0, locals := 64 } s m args below meth c H locs 0 0 QQ (F0 m 4 ls []) := by
    intro dn
    induction dn with
    | zero =>
      intro n io hndn hio H locs ls hW hS hl
      rcases io with _ | a
      · skip
        have hl : lv_has ls 5 [(0, .ref o), (1, .ref (eA ee 0 g)), (2, .null), (3, .int (nI n))] := hl
        refine lv_iload_n S.1 S.2.1 dX4_pickExcessOf_4 rfl (lv_at hl 3 rfl) ?_
        refine lv_aload_n S.1 S.2.1 dX4_pickExcessOf_5 rfl (lv_at hl 0 rfl) ?_
        refine kx_gA S hK hW (zk_o hz) 1 251 rfl iX4 (by decide) rfl rfl (by decide) (by decide +kernel) dX4_pickExcessOf_6 (b := (eA ee 4 1)) (zs_list hz (i := 1) (by decide)) ?_
        refine kx_cV (As := []) (rest := [.int (nI n)]) (st1 := [.int (nI (eA ee 6 1)), .int (nI n)]) S hK hZ hA hW hS (c_z_size l G hz 1 (by decide)) (cwV 0 S.2.2.2.2 gX4_pickExcessOf_Jx4a65c_size_8abf5 rfl rfl rfl (by decide +kernel) ⟨Nat.le_of_ble_eq_true rfl, Nat.le_of_ble_eq_true rfl⟩) (zk_L hz (by decide)) (by decide) rfl rfl hl.1 rfl (Nat.le_of_ble_eq_true rfl) dX4_pickExcessOf_9 ⟨Nat.le_of_ble_eq_true rfl, Nat.le_of_ble_eq_true rfl⟩ rfl (fun H locs hW hS => ?_)
        refine lv_icmp_ge (tgt := 71) S.1 S.2.1 dX4_pickExcessOf_12 (by decide) (fun c1 => ?_) (fun c1 => ?_)
        · skip
          refine lv_aload_nN S.1 S.2.1 dX4_pickExcessOf_71 rfl (lv_at hl 2 rfl) ?_
          rw [hQQ]
          refine kw_aret S hr (Or.inl ⟨_, rfl⟩) hlk (v := none) hW hS (by decide) (by decide) dX4_pickExcessOf_72 ?_
          refine ⟨?_, rfl, rfl⟩
          rw [m_its1, show eA ee 6 1 = n by omega, ← hio]; rfl
        · skip
          exact absurd (nI_le (a := eA ee 6 1) (b := n) (by omega) (by omega)) c1
      · skip
        have hl : lv_has ls 5 [(0, .ref o), (1, .ref (eA ee 0 g)), (2, .ref (eA ee 1 a)), (3, .int (nI n))] := hl
        obtain ⟨ha1, ha2⟩ := m_am_some hio.symm
        have ha3 : a < eA ee 6 1 := by omega
        have haw := exf_w ha2
        refine lv_iload_n S.1 S.2.1 dX4_pickExcessOf_4 rfl (lv_at hl 3 rfl) ?_
        refine lv_aload_n S.1 S.2.1 dX4_pickExcessOf_5 rfl (lv_at hl 0 rfl) ?_
        refine kx_gA S hK hW (zk_o hz) 1 251 rfl iX4 (by decide) rfl rfl (by decide) (by decide +kernel) dX4_pickExcessOf_6 (b := (eA ee 4 1)) (zs_list hz (i := 1) (by decide)) ?_
        refine kx_cV (As := []) (rest := [.int (nI n)]) (st1 := [.int (nI (eA ee 6 1)), .int (nI n)]) S hK hZ hA hW hS (c_z_size l G hz 1 (by decide)) (cwV 0 S.2.2.2.2 gX4_pickExcessOf_Jx4a65c_size_8abf5 rfl rfl rfl (by decide +kernel) ⟨Nat.le_of_ble_eq_true rfl, Nat.le_of_ble_eq_true rfl⟩) (zk_L hz (by decide)) (by decide) rfl rfl hl.1 rfl (Nat.le_of_ble_eq_true rfl) dX4_pickExcessOf_9 ⟨Nat.le_of_ble_eq_true rfl, Nat.le_of_ble_eq_true rfl⟩ rfl (fun H locs hW hS => ?_)
        refine lv_icmp_ge (tgt := 71) S.1 S.2.1 dX4_pickExcessOf_12 (by decide) (fun c2 => ?_) (fun c2 => ?_)
        · skip
          refine lv_aload_n S.1 S.2.1 dX4_pickExcessOf_71 rfl (lv_at hl 2 rfl) ?_
          rw [hQQ]
          refine kw_aret S hr (Or.inl ⟨_, rfl⟩) hlk (v := some (eA ee 1 a)) hW hS (by decide) (by decide) dX4_pickExcessOf_72 ?_
          refine ⟨?_, rfl, rfl⟩
          rw [m_its1, show eA ee 6 1 = n by omega, ← hio]; rfl
        · skip
          exact absurd (nI_le (a := eA ee 6 1) (b := n) (by omega) (by omega)) c2
    | succ dn ihlp =>
      intro n io hndn hio H locs ls hW hS hl
      rcases io with _ | a
      · skip
        have hl : lv_has ls 5 [(0, .ref o), (1, .ref (eA ee 0 g)), (2, .null), (3, .int (nI n))] := hl
        refine lv_iload_n S.1 S.2.1 dX4_pickExcessOf_4 rfl (lv_at hl 3 rfl) ?_
        refine lv_aload_n S.1 S.2.1 dX4_pickExcessOf_5 rfl (lv_at hl 0 rfl) ?_
        refine kx_gA S hK hW (zk_o hz) 1 251 rfl iX4 (by decide) rfl rfl (by decide) (by decide +kernel) dX4_pickExcessOf_6 (b := (eA ee 4 1)) (zs_list hz (i := 1) (by decide)) ?_
        refine kx_cV (As := []) (rest := [.int (nI n)]) (st1 := [.int (nI (eA ee 6 1)), .int (nI n)]) S hK hZ hA hW hS (c_z_size l G hz 1 (by decide)) (cwV 0 S.2.2.2.2 gX4_pickExcessOf_Jx4a65c_size_8abf5 rfl rfl rfl (by decide +kernel) ⟨Nat.le_of_ble_eq_true rfl, Nat.le_of_ble_eq_true rfl⟩) (zk_L hz (by decide)) (by decide) rfl rfl hl.1 rfl (Nat.le_of_ble_eq_true rfl) dX4_pickExcessOf_9 ⟨Nat.le_of_ble_eq_true rfl, Nat.le_of_ble_eq_true rfl⟩ rfl (fun H locs hW hS => ?_)
        refine lv_icmp_ge (tgt := 71) S.1 S.2.1 dX4_pickExcessOf_12 (by decide) (fun c3 => ?_) (fun c3 => ?_)
        · skip
          exact absurd c3 (nI_ge (a := n) (b := eA ee 6 1) (by omega) (by omega))
        · skip
          have hex := rd_exf hz (k := n) (g := g) (by omega) hg
          refine lv_aload_n S.1 S.2.1 dX4_pickExcessOf_15 rfl (lv_at hl 0 rfl) ?_
          refine kx_gA S hK hW (zk_o hz) 1 251 rfl iX4 (by decide) rfl rfl (by decide) (by decide +kernel) dX4_pickExcessOf_16 (b := (eA ee 4 1)) (zs_list hz (i := 1) (by decide)) ?_
          refine lv_iload_n S.1 S.2.1 dX4_pickExcessOf_19 rfl (lv_at hl 3 rfl) ?_
          refine kx_cV (As := [.int (nI n)]) (rest := []) (st1 := [.ref (eA ee 1 n)]) S hK hZ hA hW hS (c_z_get l G hz 1 n (by decide) (by omega)) (cwV 1 S.2.2.2.2 gX4_pickExcessOf_Jx4a65c_get_915e3 rfl rfl rfl (by decide +kernel) ⟨Nat.le_of_ble_eq_true rfl, Nat.le_of_ble_eq_true rfl⟩) (zk_L hz (by decide)) (by decide) rfl rfl hl.1 rfl (Nat.le_of_ble_eq_true rfl) dX4_pickExcessOf_20 ⟨Nat.le_of_ble_eq_true rfl, Nat.le_of_ble_eq_true rfl⟩ rfl (fun H locs hW hS => ?_)
          refine kx_cast S hK hW (zk_l hz (by omega)) (by decide) rfl (by decide +kernel) dX4_pickExcessOf_23 ?_
          refine lv_astore (lv' := [(4, .ref (eA ee 1 n)), (0, .ref o), (1, .ref (eA ee 0 g)), (2, .null), (3, .int (nI n))]) S.1 S.2.1 dX4_pickExcessOf_26 hl (by decide) rfl (fun ls hl => ?_)
          refine lv_aload S.1 S.2.1 dX4_pickExcessOf_28 (lv_at hl 0 rfl) ?_
          refine kx_gA S hK hW (zk_l hz (by omega)) 0 150 rfl iX2 (by decide) rfl rfl (by decide) (by decide +kernel) dX4_pickExcessOf_30 (b := (eA ee 0 (eA ee 8 n))) (zl_gr hz (by omega)) ?_
          refine lv_aload_n S.1 S.2.1 dX4_pickExcessOf_33 rfl (lv_at hl 2 rfl) ?_
          refine lv_acmp_ne (rx := (some (eA ee 0 (eA ee 8 n)))) (ry := (some (eA ee 0 g))) (tgt := 65) S.1 S.2.1 dX4_pickExcessOf_34 (by decide) (fun c4 => ?_) (fun c4 => ?_)
          · skip
            refine lv_iinc (v := nI (n + 1)) (lv' := [(3, .int (nI (n + 1))), (4, .ref (eA ee 1 n)), (0, .ref o), (1, .ref (eA ee 0 g)), (2, .null)]) S.1 S.2.1 dX4_pickExcessOf_65 hl (k := 4) rfl (nI_1 _) (by decide) rfl (fun ls hl => ?_)
            refine lv_goto (tgt := 4) S.1 S.2.1 dX4_pickExcessOf_68 (by decide) ?_
            exact ihlp (n + 1) none (by omega) (by simp [m_am, hio.symm, hex, c3, c4]) _ _ ls hW hS (lv_conv (lv_sub hl [2, 3, 4, 0] rfl) (congr (congrArg List.cons rfl) (congr (congrArg List.cons rfl) (congr (congrArg List.cons rfl) (congr (congrArg List.cons rfl) rfl)))))
          · skip
            refine lv_aload S.1 S.2.1 dX4_pickExcessOf_37 (lv_at hl 0 rfl) ?_
            refine kx_cV (As := []) (rest := []) (st1 := [.int (kw_b (q_rdy x ((eA ee 1 n)) (eA ee 3 n) (eA ee 3 (8 + eA ee 8 n)) = true))]) S hK hZ hA hW hS (c_X2_isReady l G nu x ((eA ee 1 n)) (eA ee 0 (eA ee 8 n)) (eA ee 3 n) (eA ee 3 (8 + eA ee 8 n)) ((zk_l hz (by omega))) ((zk_g hz (zd_gr hz (by omega)))) ((zk_b hz (zb_l (by omega)))) ((zk_b hz (zb_g (zd_gr hz (by omega))))) (zl_gr hz (by omega)) (zl_ce hz (by omega)) (zl_gc hz (by omega)) (zl_fi hz (by omega))) (cwV 0 S.2.2.2.2 gX4_pickExcessOf_X2_isReady rfl rfl rfl (by decide +kernel) ⟨Nat.le_of_ble_eq_true rfl, Nat.le_of_ble_eq_true rfl⟩) ((zk_l hz (by omega))) (by decide) rfl rfl hl.1 rfl (Nat.le_of_ble_eq_true rfl) dX4_pickExcessOf_39 ⟨Nat.le_of_ble_eq_true rfl, Nat.le_of_ble_eq_true rfl⟩ rfl (fun H locs hW hS => ?_)
            refine kx_ifz_eq (tgt := 65) S dX4_pickExcessOf_42 (by decide) (fun c5 => ?_) (fun c5 => ?_)
            · skip
              refine lv_iinc (v := nI (n + 1)) (lv' := [(3, .int (nI (n + 1))), (4, .ref (eA ee 1 n)), (0, .ref o), (1, .ref (eA ee 0 g)), (2, .null)]) S.1 S.2.1 dX4_pickExcessOf_65 hl (k := 4) rfl (nI_1 _) (by decide) rfl (fun ls hl => ?_)
              refine lv_goto (tgt := 4) S.1 S.2.1 dX4_pickExcessOf_68 (by decide) ?_
              exact ihlp (n + 1) none (by omega) (by simp [m_am, hio.symm, hex, c3, eq_true c4, c5]) _ _ ls hW hS (lv_conv (lv_sub hl [2, 3, 4, 0] rfl) (congr (congrArg List.cons rfl) (congr (congrArg List.cons rfl) (congr (congrArg List.cons rfl) (congr (congrArg List.cons rfl) rfl)))))
            · skip
              refine lv_aload_nN S.1 S.2.1 dX4_pickExcessOf_45 rfl (lv_at hl 3 rfl) ?_
              refine lv_ifnullN (tgt := 62) S.1 S.2.1 dX4_pickExcessOf_46 (by decide) ?_
              refine lv_aload S.1 S.2.1 dX4_pickExcessOf_62 (lv_at hl 0 rfl) ?_
              refine lv_astore_n (lv' := [(2, .ref (eA ee 1 n)), (4, .ref (eA ee 1 n)), (0, .ref o), (1, .ref (eA ee 0 g)), (3, .int (nI n))]) S.1 S.2.1 dX4_pickExcessOf_64 rfl hl (by decide) rfl (fun ls hl => ?_)
              refine lv_iinc (v := nI (n + 1)) (lv' := [(3, .int (nI (n + 1))), (2, .ref (eA ee 1 n)), (4, .ref (eA ee 1 n)), (0, .ref o), (1, .ref (eA ee 0 g))]) S.1 S.2.1 dX4_pickExcessOf_65 hl (k := 4) rfl (nI_1 _) (by decide) rfl (fun ls hl => ?_)
              refine lv_goto (tgt := 4) S.1 S.2.1 dX4_pickExcessOf_68 (by decide) ?_
              exact ihlp (n + 1) (some n) (by omega) (by simp [m_am, hio.symm, hex, c3, eq_true c4, c5]) _ _ ls hW hS (lv_conv (lv_sub hl [3, 4, 1, 0] rfl) (congr (congrArg List.cons rfl) (congr (congrArg List.cons rfl) (congr (congrArg List.cons rfl) (congr (congrArg List.cons rfl) rfl)))))
      · skip
        have hl : lv_has ls 5 [(0, .ref o), (1, .ref (eA ee 0 g)), (2, .ref (eA ee 1 a)), (3, .int (nI n))] := hl
        obtain ⟨ha1, ha2⟩ := m_am_some hio.symm
        have ha3 : a < eA ee 6 1 := by omega
        have haw := exf_w ha2
        refine lv_iload_n S.1 S.2.1 dX4_pickExcessOf_4 rfl (lv_at hl 3 rfl) ?_
        refine lv_aload_n S.1 S.2.1 dX4_pickExcessOf_5 rfl (lv_at hl 0 rfl) ?_
        refine kx_gA S hK hW (zk_o hz) 1 251 rfl iX4 (by decide) rfl rfl (by decide) (by decide +kernel) dX4_pickExcessOf_6 (b := (eA ee 4 1)) (zs_list hz (i := 1) (by decide)) ?_
        refine kx_cV (As := []) (rest := [.int (nI n)]) (st1 := [.int (nI (eA ee 6 1)), .int (nI n)]) S hK hZ hA hW hS (c_z_size l G hz 1 (by decide)) (cwV 0 S.2.2.2.2 gX4_pickExcessOf_Jx4a65c_size_8abf5 rfl rfl rfl (by decide +kernel) ⟨Nat.le_of_ble_eq_true rfl, Nat.le_of_ble_eq_true rfl⟩) (zk_L hz (by decide)) (by decide) rfl rfl hl.1 rfl (Nat.le_of_ble_eq_true rfl) dX4_pickExcessOf_9 ⟨Nat.le_of_ble_eq_true rfl, Nat.le_of_ble_eq_true rfl⟩ rfl (fun H locs hW hS => ?_)
        refine lv_icmp_ge (tgt := 71) S.1 S.2.1 dX4_pickExcessOf_12 (by decide) (fun c6 => ?_) (fun c6 => ?_)
        · skip
          exact absurd c6 (nI_ge (a := n) (b := eA ee 6 1) (by omega) (by omega))
        · skip
          have hex := rd_exf hz (k := n) (g := g) (by omega) hg
          refine lv_aload_n S.1 S.2.1 dX4_pickExcessOf_15 rfl (lv_at hl 0 rfl) ?_
          refine kx_gA S hK hW (zk_o hz) 1 251 rfl iX4 (by decide) rfl rfl (by decide) (by decide +kernel) dX4_pickExcessOf_16 (b := (eA ee 4 1)) (zs_list hz (i := 1) (by decide)) ?_
          refine lv_iload_n S.1 S.2.1 dX4_pickExcessOf_19 rfl (lv_at hl 3 rfl) ?_
          refine kx_cV (As := [.int (nI n)]) (rest := []) (st1 := [.ref (eA ee 1 n)]) S hK hZ hA hW hS (c_z_get l G hz 1 n (by decide) (by omega)) (cwV 1 S.2.2.2.2 gX4_pickExcessOf_Jx4a65c_get_915e3 rfl rfl rfl (by decide +kernel) ⟨Nat.le_of_ble_eq_true rfl, Nat.le_of_ble_eq_true rfl⟩) (zk_L hz (by decide)) (by decide) rfl rfl hl.1 rfl (Nat.le_of_ble_eq_true rfl) dX4_pickExcessOf_20 ⟨Nat.le_of_ble_eq_true rfl, Nat.le_of_ble_eq_true rfl⟩ rfl (fun H locs hW hS => ?_)
          refine kx_cast S hK hW (zk_l hz (by omega)) (by decide) rfl (by decide +kernel) dX4_pickExcessOf_23 ?_
          refine lv_astore (lv' := [(4, .ref (eA ee 1 n)), (0, .ref o), (1, .ref (eA ee 0 g)), (2, .ref (eA ee 1 a)), (3, .int (nI n))]) S.1 S.2.1 dX4_pickExcessOf_26 hl (by decide) rfl (fun ls hl => ?_)
          refine lv_aload S.1 S.2.1 dX4_pickExcessOf_28 (lv_at hl 0 rfl) ?_
          refine kx_gA S hK hW (zk_l hz (by omega)) 0 150 rfl iX2 (by decide) rfl rfl (by decide) (by decide +kernel) dX4_pickExcessOf_30 (b := (eA ee 0 (eA ee 8 n))) (zl_gr hz (by omega)) ?_
          refine lv_aload_n S.1 S.2.1 dX4_pickExcessOf_33 rfl (lv_at hl 2 rfl) ?_
          refine lv_acmp_ne (rx := (some (eA ee 0 (eA ee 8 n)))) (ry := (some (eA ee 0 g))) (tgt := 65) S.1 S.2.1 dX4_pickExcessOf_34 (by decide) (fun c7 => ?_) (fun c7 => ?_)
          · skip
            refine lv_iinc (v := nI (n + 1)) (lv' := [(3, .int (nI (n + 1))), (4, .ref (eA ee 1 n)), (0, .ref o), (1, .ref (eA ee 0 g)), (2, .ref (eA ee 1 a))]) S.1 S.2.1 dX4_pickExcessOf_65 hl (k := 4) rfl (nI_1 _) (by decide) rfl (fun ls hl => ?_)
            refine lv_goto (tgt := 4) S.1 S.2.1 dX4_pickExcessOf_68 (by decide) ?_
            exact ihlp (n + 1) (some a) (by omega) (by simp [m_am, hio.symm, hex, c6, c7]) _ _ ls hW hS (lv_conv (lv_sub hl [2, 3, 4, 0] rfl) (congr (congrArg List.cons rfl) (congr (congrArg List.cons rfl) (congr (congrArg List.cons rfl) (congr (congrArg List.cons rfl) rfl)))))
          · skip
            refine lv_aload S.1 S.2.1 dX4_pickExcessOf_37 (lv_at hl 0 rfl) ?_
            refine kx_cV (As := []) (rest := []) (st1 := [.int (kw_b (q_rdy x ((eA ee 1 n)) (eA ee 3 n) (eA ee 3 (8 + eA ee 8 n)) = true))]) S hK hZ hA hW hS (c_X2_isReady l G nu x ((eA ee 1 n)) (eA ee 0 (eA ee 8 n)) (eA ee 3 n) (eA ee 3 (8 + eA ee 8 n)) ((zk_l hz (by omega))) ((zk_g hz (zd_gr hz (by omega)))) ((zk_b hz (zb_l (by omega)))) ((zk_b hz (zb_g (zd_gr hz (by omega))))) (zl_gr hz (by omega)) (zl_ce hz (by omega)) (zl_gc hz (by omega)) (zl_fi hz (by omega))) (cwV 0 S.2.2.2.2 gX4_pickExcessOf_X2_isReady rfl rfl rfl (by decide +kernel) ⟨Nat.le_of_ble_eq_true rfl, Nat.le_of_ble_eq_true rfl⟩) ((zk_l hz (by omega))) (by decide) rfl rfl hl.1 rfl (Nat.le_of_ble_eq_true rfl) dX4_pickExcessOf_39 ⟨Nat.le_of_ble_eq_true rfl, Nat.le_of_ble_eq_true rfl⟩ rfl (fun H locs hW hS => ?_)
            refine kx_ifz_eq (tgt := 65) S dX4_pickExcessOf_42 (by decide) (fun c8 => ?_) (fun c8 => ?_)
            · skip
              refine lv_iinc (v := nI (n + 1)) (lv' := [(3, .int (nI (n + 1))), (4, .ref (eA ee 1 n)), (0, .ref o), (1, .ref (eA ee 0 g)), (2, .ref (eA ee 1 a))]) S.1 S.2.1 dX4_pickExcessOf_65 hl (k := 4) rfl (nI_1 _) (by decide) rfl (fun ls hl => ?_)
              refine lv_goto (tgt := 4) S.1 S.2.1 dX4_pickExcessOf_68 (by decide) ?_
              exact ihlp (n + 1) (some a) (by omega) (by simp [m_am, hio.symm, hex, c6, eq_true c7, c8]) _ _ ls hW hS (lv_conv (lv_sub hl [2, 3, 4, 0] rfl) (congr (congrArg List.cons rfl) (congr (congrArg List.cons rfl) (congr (congrArg List.cons rfl) (congr (congrArg List.cons rfl) rfl)))))
            · skip
              refine lv_aload_n S.1 S.2.1 dX4_pickExcessOf_45 rfl (lv_at hl 3 rfl) ?_
              refine lv_ifnull S.1 S.2.1 dX4_pickExcessOf_46 ?_
              have hdn := (exf_w (t := t) (fp := fpT t) (g := g) (k := n) (by rw [hex]; simp [c6, eq_true c7, c8])).1
              refine lv_aload S.1 S.2.1 dX4_pickExcessOf_49 (lv_at hl 0 rfl) ?_
              refine kx_cV (As := []) (rest := []) (st1 := [.long (q_ltag x ((eA ee 1 n)))]) S hK hZ hA hW hS (c_X2_tagInLeaf l G nu x ((eA ee 1 n)) ((zk_l hz (by omega))) (zl_fi hz (by omega))) (cwV 0 S.2.2.2.2 gX4_pickExcessOf_X2_tagInLeaf rfl rfl rfl (by decide +kernel) ⟨Nat.le_of_ble_eq_true rfl, Nat.le_of_ble_eq_true rfl⟩) ((zk_l hz (by omega))) (by decide) rfl rfl hl.1 rfl (Nat.le_of_ble_eq_true rfl) dX4_pickExcessOf_51 ⟨Nat.le_of_ble_eq_true rfl, Nat.le_of_ble_eq_true rfl⟩ rfl (fun H locs hW hS => ?_)
              refine lv_aload_n S.1 S.2.1 dX4_pickExcessOf_54 rfl (lv_at hl 3 rfl) ?_
              refine kx_cV (As := []) (rest := [.long (q_ltag x ((eA ee 1 n)))]) (st1 := [.long (q_ltag x ((eA ee 1 a))), .long (q_ltag x ((eA ee 1 n)))]) S hK hZ hA hW hS (c_X2_tagInLeaf l G nu x ((eA ee 1 a)) ((zk_l hz (by omega))) (zl_fi hz (by omega))) (cwV 0 S.2.2.2.2 gX4_pickExcessOf_X2_tagInLeaf rfl rfl rfl (by decide +kernel) ⟨Nat.le_of_ble_eq_true rfl, Nat.le_of_ble_eq_true rfl⟩) ((zk_l hz (by omega))) (by decide) rfl rfl hl.1 rfl (Nat.le_of_ble_eq_true rfl) dX4_pickExcessOf_55 ⟨Nat.le_of_ble_eq_true rfl, Nat.le_of_ble_eq_true rfl⟩ rfl (fun H locs hW hS => ?_)
              refine kx_lc_ge (tgt := 65) S dX4_pickExcessOf_58 dX4_pickExcessOf_59 (by decide) (fun c9 => ?_) (fun c9 => ?_)
              · skip
                refine lv_iinc (v := nI (n + 1)) (lv' := [(3, .int (nI (n + 1))), (4, .ref (eA ee 1 n)), (0, .ref o), (1, .ref (eA ee 0 g)), (2, .ref (eA ee 1 a))]) S.1 S.2.1 dX4_pickExcessOf_65 hl (k := 4) rfl (nI_1 _) (by decide) rfl (fun ls hl => ?_)
                refine lv_goto (tgt := 4) S.1 S.2.1 dX4_pickExcessOf_68 (by decide) ?_
                exact ihlp (n + 1) (some a) (by omega) (by simp [m_am, hio.symm, hex, c6, eq_true c7, c8, c9, rd_exl hz (by omega) ha3 hdn haw.1]) _ _ ls hW hS (lv_conv (lv_sub hl [2, 3, 4, 0] rfl) (congr (congrArg List.cons rfl) (congr (congrArg List.cons rfl) (congr (congrArg List.cons rfl) (congr (congrArg List.cons rfl) rfl)))))
              · skip
                refine lv_aload S.1 S.2.1 dX4_pickExcessOf_62 (lv_at hl 0 rfl) ?_
                refine lv_astore_n (lv' := [(2, .ref (eA ee 1 n)), (4, .ref (eA ee 1 n)), (0, .ref o), (1, .ref (eA ee 0 g)), (3, .int (nI n))]) S.1 S.2.1 dX4_pickExcessOf_64 rfl hl (by decide) rfl (fun ls hl => ?_)
                refine lv_iinc (v := nI (n + 1)) (lv' := [(3, .int (nI (n + 1))), (2, .ref (eA ee 1 n)), (4, .ref (eA ee 1 n)), (0, .ref o), (1, .ref (eA ee 0 g))]) S.1 S.2.1 dX4_pickExcessOf_65 hl (k := 4) rfl (nI_1 _) (by decide) rfl (fun ls hl => ?_)
                refine lv_goto (tgt := 4) S.1 S.2.1 dX4_pickExcessOf_68 (by decide) ?_
                exact ihlp (n + 1) (some n) (by omega) (by simp [m_am, hio.symm, hex, c6, eq_true c7, c8, c9, rd_exl hz (by omega) ha3 hdn haw.1]) _ _ ls hW hS (lv_conv (lv_sub hl [3, 4, 1, 0] rfl) (congr (congrArg List.cons rfl) (congr (congrArg List.cons rfl) (congr (congrArg List.cons rfl) (congr (congrArg List.cons rfl) rfl)))))
  exact lp (eA ee 6 1 - 0) 0 none (by omega) rfl _ _ ls hW hS (lv_conv (lv_sub hl [2, 3, 1, 0] rfl) (congr (congrArg List.cons rfl) (congr (congrArg List.cons rfl) (congr (congrArg List.cons rfl) (congr (congrArg List.cons (congrArg (fun z9 => ((3 : Nat), Value.int z9)) (show (0 : Int32) = nI 0 from by first | rfl | (rfl)))) rfl)))))
set_option maxHeartbeats 1000000 in
set_option maxRecDepth 100000 in
/-- pickExcess -/
theorem c_X4_pickExcess (l : Launch) (G : kw_G) (nu : Nat → Option Nat) (x z : kw_St) (o : Nat) (ee : kE) (t : mo_T)  (hz : zw G nu z o ee t x)  : kw_M l G yX4_pickExcess wsX4_pickExcess { frames := 4, cells := 0, slots := 0, locals := 88 } 0 0 [.ref o] nu x (kw_P nu (some (va_rf ((m_best t (fpT t) (grT t) (eA ee 6 1) (eA ee 6 0)).map (eA ee 1)))) x) := by
  refine kw_M.ofW (cc := cX4_pickExcess) (maxL := 4) (ret := (some (.object "LinkShaper$Leaf"))) (by decide) rfl (Nat.le_of_ble_eq_true rfl) ?_
  intro p e s m args below meth c A ls S hr hlk hnm hK hZ hA hW hS hl
  have hl : lv_has ls 4 [(0, .ref o)] := hl
  have iX4 : ∀ w ∈ wsX40, w ∈ wsX4_pickExcess := by decide +kernel
  have hdg := zd_ng hz
  have hdl := zd_nl hz
  have hdp := zd_np hz
  have hdb := zd_nb hz
  obtain ⟨QQ, hQQ⟩ : ∃ q, q = MQ below (kw_Qc G A (kw_P nu (some (va_rf ((m_best t (fpT t) (grT t) (eA ee 6 1) (eA ee 6 0)).map (eA ee 1)))) x)) args s 0 0 A := ⟨_, rfl⟩
  rw [← hQQ]
  refine lv_null S.1 S.2.1 dX4_pickExcess_0 ?_
  refine lv_astore_nN (lv' := [(1, .null), (0, .ref o)]) S.1 S.2.1 dX4_pickExcess_1 rfl hl (by decide) rfl (fun ls hl => ?_)
  refine lv_iconst (v := 0) S.1 S.2.1 dX4_pickExcess_2 (by decide) ?_
  refine lv_istore_n (lv' := [(2, .int (0)), (1, .null), (0, .ref o)]) S.1 S.2.1 dX4_pickExcess_3 rfl hl (by decide) rfl (fun ls hl => ?_)
  have lp : ∀ (dn n : Nat) (bo : Option Nat), n + dn = eA ee 6 0 → (bo = m_best t (fpT t) (grT t) (eA ee 6 1) n) → ∀ (H : Heap) (locs : List Loc) (ls : Array Slot), kw_W G A nu x H → va_S A s.heap H locs → lv_has ls 4 [(0, .ref o), (1, va_rf (Option.map (eA ee 1) bo)), (2, .int (nI n))] → W p l e { frames := 4, cells := 0, slots := 0, locals := 88 } s m args below meth c H locs 0 0 QQ (F0 m 4 ls []) := by
    intro dn
    induction dn with
    | zero =>
      intro n bo hndn hbo H locs ls hW hS hl
      rcases bo with _ | b
      · skip
        have hl : lv_has ls 4 [(0, .ref o), (1, .null), (2, .int (nI n))] := hl
        refine lv_iload_n S.1 S.2.1 dX4_pickExcess_4 rfl (lv_at hl 2 rfl) ?_
        refine lv_aload_n S.1 S.2.1 dX4_pickExcess_5 rfl (lv_at hl 0 rfl) ?_
        refine kx_gA S hK hW (zk_o hz) 0 250 rfl iX4 (by decide) rfl rfl (by decide) (by decide +kernel) dX4_pickExcess_6 (b := (eA ee 4 0)) (zs_list hz (i := 0) (by decide)) ?_
        refine kx_cV (As := []) (rest := [.int (nI n)]) (st1 := [.int (nI (eA ee 6 0)), .int (nI n)]) S hK hZ hA hW hS (c_z_size l G hz 0 (by decide)) (cwV 0 S.2.2.2.2 gX4_pickExcess_Jx4a65c_size_8abf5 rfl rfl rfl (by decide +kernel) ⟨Nat.le_of_ble_eq_true rfl, Nat.le_of_ble_eq_true rfl⟩) (zk_L hz (by decide)) (by decide) rfl rfl hl.1 rfl (Nat.le_of_ble_eq_true rfl) dX4_pickExcess_9 ⟨Nat.le_of_ble_eq_true rfl, Nat.le_of_ble_eq_true rfl⟩ rfl (fun H locs hW hS => ?_)
        refine lv_icmp_ge (tgt := 59) S.1 S.2.1 dX4_pickExcess_12 (by decide) (fun c1 => ?_) (fun c1 => ?_)
        · skip
          refine lv_aload_nN S.1 S.2.1 dX4_pickExcess_59 rfl (lv_at hl 1 rfl) ?_
          rw [hQQ]
          refine kw_aret S hr (Or.inl ⟨_, rfl⟩) hlk (v := none) hW hS (by decide) (by decide) dX4_pickExcess_60 ?_
          refine ⟨?_, rfl, rfl⟩
          rw [show eA ee 6 0 = n by omega, ← hbo]; rfl
        · skip
          exact absurd (nI_le (a := eA ee 6 0) (b := n) (by omega) (by omega)) c1
      · skip
        have hl : lv_has ls 4 [(0, .ref o), (1, .ref (eA ee 1 b)), (2, .int (nI n))] := hl
        obtain ⟨hb1, gb, hb2, hb3⟩ := m_best_some hbo.symm
        have hbw := (exf_w hb3).1
        refine lv_iload_n S.1 S.2.1 dX4_pickExcess_4 rfl (lv_at hl 2 rfl) ?_
        refine lv_aload_n S.1 S.2.1 dX4_pickExcess_5 rfl (lv_at hl 0 rfl) ?_
        refine kx_gA S hK hW (zk_o hz) 0 250 rfl iX4 (by decide) rfl rfl (by decide) (by decide +kernel) dX4_pickExcess_6 (b := (eA ee 4 0)) (zs_list hz (i := 0) (by decide)) ?_
        refine kx_cV (As := []) (rest := [.int (nI n)]) (st1 := [.int (nI (eA ee 6 0)), .int (nI n)]) S hK hZ hA hW hS (c_z_size l G hz 0 (by decide)) (cwV 0 S.2.2.2.2 gX4_pickExcess_Jx4a65c_size_8abf5 rfl rfl rfl (by decide +kernel) ⟨Nat.le_of_ble_eq_true rfl, Nat.le_of_ble_eq_true rfl⟩) (zk_L hz (by decide)) (by decide) rfl rfl hl.1 rfl (Nat.le_of_ble_eq_true rfl) dX4_pickExcess_9 ⟨Nat.le_of_ble_eq_true rfl, Nat.le_of_ble_eq_true rfl⟩ rfl (fun H locs hW hS => ?_)
        refine lv_icmp_ge (tgt := 59) S.1 S.2.1 dX4_pickExcess_12 (by decide) (fun c2 => ?_) (fun c2 => ?_)
        · skip
          refine lv_aload_n S.1 S.2.1 dX4_pickExcess_59 rfl (lv_at hl 1 rfl) ?_
          rw [hQQ]
          refine kw_aret S hr (Or.inl ⟨_, rfl⟩) hlk (v := some (eA ee 1 b)) hW hS (by decide) (by decide) dX4_pickExcess_60 ?_
          refine ⟨?_, rfl, rfl⟩
          rw [show eA ee 6 0 = n by omega, ← hbo]; rfl
        · skip
          exact absurd (nI_le (a := eA ee 6 0) (b := n) (by omega) (by omega)) c2
    | succ dn ihlp =>
      intro n bo hndn hbo H locs ls hW hS hl
      rcases bo with _ | b
      · skip
        have hl : lv_has ls 4 [(0, .ref o), (1, .null), (2, .int (nI n))] := hl
        refine lv_iload_n S.1 S.2.1 dX4_pickExcess_4 rfl (lv_at hl 2 rfl) ?_
        refine lv_aload_n S.1 S.2.1 dX4_pickExcess_5 rfl (lv_at hl 0 rfl) ?_
        refine kx_gA S hK hW (zk_o hz) 0 250 rfl iX4 (by decide) rfl rfl (by decide) (by decide +kernel) dX4_pickExcess_6 (b := (eA ee 4 0)) (zs_list hz (i := 0) (by decide)) ?_
        refine kx_cV (As := []) (rest := [.int (nI n)]) (st1 := [.int (nI (eA ee 6 0)), .int (nI n)]) S hK hZ hA hW hS (c_z_size l G hz 0 (by decide)) (cwV 0 S.2.2.2.2 gX4_pickExcess_Jx4a65c_size_8abf5 rfl rfl rfl (by decide +kernel) ⟨Nat.le_of_ble_eq_true rfl, Nat.le_of_ble_eq_true rfl⟩) (zk_L hz (by decide)) (by decide) rfl rfl hl.1 rfl (Nat.le_of_ble_eq_true rfl) dX4_pickExcess_9 ⟨Nat.le_of_ble_eq_true rfl, Nat.le_of_ble_eq_true rfl⟩ rfl (fun H locs hW hS => ?_)
        refine lv_icmp_ge (tgt := 59) S.1 S.2.1 dX4_pickExcess_12 (by decide) (fun c3 => ?_) (fun c3 => ?_)
        · skip
          exact absurd c3 (nI_ge (a := n) (b := eA ee 6 0) (by omega) (by omega))
        · skip
          refine lv_aload_n S.1 S.2.1 dX4_pickExcess_15 rfl (lv_at hl 0 rfl) ?_
          refine lv_aload_n S.1 S.2.1 dX4_pickExcess_16 rfl (lv_at hl 0 rfl) ?_
          refine kx_gA S hK hW (zk_o hz) 0 250 rfl iX4 (by decide) rfl rfl (by decide) (by decide +kernel) dX4_pickExcess_17 (b := (eA ee 4 0)) (zs_list hz (i := 0) (by decide)) ?_
          refine lv_iload_n S.1 S.2.1 dX4_pickExcess_20 rfl (lv_at hl 2 rfl) ?_
          refine kx_cV (As := [.int (nI n)]) (rest := [.ref o]) (st1 := [.ref (eA ee 0 n), .ref o]) S hK hZ hA hW hS (c_z_get l G hz 0 n (by decide) (by omega)) (cwV 1 S.2.2.2.2 gX4_pickExcess_Jx4a65c_get_915e3 rfl rfl rfl (by decide +kernel) ⟨Nat.le_of_ble_eq_true rfl, Nat.le_of_ble_eq_true rfl⟩) (zk_L hz (by decide)) (by decide) rfl rfl hl.1 rfl (Nat.le_of_ble_eq_true rfl) dX4_pickExcess_21 ⟨Nat.le_of_ble_eq_true rfl, Nat.le_of_ble_eq_true rfl⟩ rfl (fun H locs hW hS => ?_)
          refine kx_cast S hK hW (zk_g hz (by omega)) (by decide) rfl (by decide +kernel) dX4_pickExcess_24 ?_
          refine kx_cV (As := [.ref (eA ee 0 n)]) (rest := []) (st1 := [va_rf ((m_its1 t (fpT t) (eA ee 6 1) n).map (eA ee 1))]) S hK hZ hA hW hS (c_X4_pickExcessOf l G nu x z o ee t n hz (by omega)) (cwV 1 S.2.2.2.2 gX4_pickExcess_X4_pickExcessOf rfl rfl rfl (by decide +kernel) ⟨Nat.le_of_ble_eq_true rfl, Nat.le_of_ble_eq_true rfl⟩) (zk_o hz) (by decide) rfl rfl hl.1 rfl (Nat.le_of_ble_eq_true rfl) dX4_pickExcess_27 ⟨Nat.le_of_ble_eq_true rfl, Nat.le_of_ble_eq_true rfl⟩ rfl (fun H locs hW hS => ?_)
          rcases hi1 : m_its1 t (fpT t) (eA ee 6 1) n with _ | a
          · skip
            refine W.eq (g2 := F0 m 30 ls [.null]) rfl ?_
            refine lv_astore_nN (lv' := [(3, .null), (0, .ref o), (1, .null), (2, .int (nI n))]) S.1 S.2.1 dX4_pickExcess_30 rfl hl (by decide) rfl (fun ls hl => ?_)
            refine lv_aload_nN S.1 S.2.1 dX4_pickExcess_31 rfl (lv_at hl 0 rfl) ?_
            refine lv_ifnullN (tgt := 53) S.1 S.2.1 dX4_pickExcess_32 (by decide) ?_
            refine lv_iinc (v := nI (n + 1)) (lv' := [(2, .int (nI (n + 1))), (3, .null), (0, .ref o), (1, .null)]) S.1 S.2.1 dX4_pickExcess_53 hl (k := 3) rfl (nI_1 _) (by decide) rfl (fun ls hl => ?_)
            refine lv_goto (tgt := 4) S.1 S.2.1 dX4_pickExcess_56 (by decide) ?_
            exact ihlp (n + 1) none (by omega) (by simp [m_best, hi1, hbo.symm, c3]) _ _ ls hW hS (lv_conv (lv_sub hl [2, 3, 0] rfl) (congr (congrArg List.cons rfl) (congr (congrArg List.cons rfl) (congr (congrArg List.cons rfl) rfl))))
          · skip
            refine W.eq (g2 := F0 m 30 ls [.ref (eA ee 1 a)]) rfl ?_
            obtain ⟨ha1, ha2⟩ := m_am_some hi1
            have haw := (exf_w ha2).1
            refine lv_astore_n (lv' := [(3, .ref (eA ee 1 a)), (0, .ref o), (1, .null), (2, .int (nI n))]) S.1 S.2.1 dX4_pickExcess_30 rfl hl (by decide) rfl (fun ls hl => ?_)
            refine lv_aload_n S.1 S.2.1 dX4_pickExcess_31 rfl (lv_at hl 0 rfl) ?_
            refine lv_ifnull S.1 S.2.1 dX4_pickExcess_32 ?_
            refine lv_aload_nN S.1 S.2.1 dX4_pickExcess_35 rfl (lv_at hl 2 rfl) ?_
            refine lv_ifnullN (tgt := 51) S.1 S.2.1 dX4_pickExcess_36 (by decide) ?_
            refine lv_aload_n S.1 S.2.1 dX4_pickExcess_51 rfl (lv_at hl 0 rfl) ?_
            refine lv_astore_n (lv' := [(1, .ref (eA ee 1 a)), (3, .ref (eA ee 1 a)), (0, .ref o), (2, .int (nI n))]) S.1 S.2.1 dX4_pickExcess_52 rfl hl (by decide) rfl (fun ls hl => ?_)
            refine lv_iinc (v := nI (n + 1)) (lv' := [(2, .int (nI (n + 1))), (1, .ref (eA ee 1 a)), (3, .ref (eA ee 1 a)), (0, .ref o)]) S.1 S.2.1 dX4_pickExcess_53 hl (k := 3) rfl (nI_1 _) (by decide) rfl (fun ls hl => ?_)
            refine lv_goto (tgt := 4) S.1 S.2.1 dX4_pickExcess_56 (by decide) ?_
            exact ihlp (n + 1) (some a) (by omega) (by simp [m_best, hi1, hbo.symm, c3, (rd_lgtag hz ha1 haw).symm]) _ _ ls hW hS (lv_conv (lv_sub hl [3, 1, 0] rfl) (congr (congrArg List.cons rfl) (congr (congrArg List.cons rfl) (congr (congrArg List.cons rfl) rfl))))
      · skip
        have hl : lv_has ls 4 [(0, .ref o), (1, .ref (eA ee 1 b)), (2, .int (nI n))] := hl
        obtain ⟨hb1, gb, hb2, hb3⟩ := m_best_some hbo.symm
        have hbw := (exf_w hb3).1
        refine lv_iload_n S.1 S.2.1 dX4_pickExcess_4 rfl (lv_at hl 2 rfl) ?_
        refine lv_aload_n S.1 S.2.1 dX4_pickExcess_5 rfl (lv_at hl 0 rfl) ?_
        refine kx_gA S hK hW (zk_o hz) 0 250 rfl iX4 (by decide) rfl rfl (by decide) (by decide +kernel) dX4_pickExcess_6 (b := (eA ee 4 0)) (zs_list hz (i := 0) (by decide)) ?_
        refine kx_cV (As := []) (rest := [.int (nI n)]) (st1 := [.int (nI (eA ee 6 0)), .int (nI n)]) S hK hZ hA hW hS (c_z_size l G hz 0 (by decide)) (cwV 0 S.2.2.2.2 gX4_pickExcess_Jx4a65c_size_8abf5 rfl rfl rfl (by decide +kernel) ⟨Nat.le_of_ble_eq_true rfl, Nat.le_of_ble_eq_true rfl⟩) (zk_L hz (by decide)) (by decide) rfl rfl hl.1 rfl (Nat.le_of_ble_eq_true rfl) dX4_pickExcess_9 ⟨Nat.le_of_ble_eq_true rfl, Nat.le_of_ble_eq_true rfl⟩ rfl (fun H locs hW hS => ?_)
        refine lv_icmp_ge (tgt := 59) S.1 S.2.1 dX4_pickExcess_12 (by decide) (fun c4 => ?_) (fun c4 => ?_)
        · skip
          exact absurd c4 (nI_ge (a := n) (b := eA ee 6 0) (by omega) (by omega))
        · skip
          refine lv_aload_n S.1 S.2.1 dX4_pickExcess_15 rfl (lv_at hl 0 rfl) ?_
          refine lv_aload_n S.1 S.2.1 dX4_pickExcess_16 rfl (lv_at hl 0 rfl) ?_
          refine kx_gA S hK hW (zk_o hz) 0 250 rfl iX4 (by decide) rfl rfl (by decide) (by decide +kernel) dX4_pickExcess_17 (b := (eA ee 4 0)) (zs_list hz (i := 0) (by decide)) ?_
          refine lv_iload_n S.1 S.2.1 dX4_pickExcess_20 rfl (lv_at hl 2 rfl) ?_
          refine kx_cV (As := [.int (nI n)]) (rest := [.ref o]) (st1 := [.ref (eA ee 0 n), .ref o]) S hK hZ hA hW hS (c_z_get l G hz 0 n (by decide) (by omega)) (cwV 1 S.2.2.2.2 gX4_pickExcess_Jx4a65c_get_915e3 rfl rfl rfl (by decide +kernel) ⟨Nat.le_of_ble_eq_true rfl, Nat.le_of_ble_eq_true rfl⟩) (zk_L hz (by decide)) (by decide) rfl rfl hl.1 rfl (Nat.le_of_ble_eq_true rfl) dX4_pickExcess_21 ⟨Nat.le_of_ble_eq_true rfl, Nat.le_of_ble_eq_true rfl⟩ rfl (fun H locs hW hS => ?_)
          refine kx_cast S hK hW (zk_g hz (by omega)) (by decide) rfl (by decide +kernel) dX4_pickExcess_24 ?_
          refine kx_cV (As := [.ref (eA ee 0 n)]) (rest := []) (st1 := [va_rf ((m_its1 t (fpT t) (eA ee 6 1) n).map (eA ee 1))]) S hK hZ hA hW hS (c_X4_pickExcessOf l G nu x z o ee t n hz (by omega)) (cwV 1 S.2.2.2.2 gX4_pickExcess_X4_pickExcessOf rfl rfl rfl (by decide +kernel) ⟨Nat.le_of_ble_eq_true rfl, Nat.le_of_ble_eq_true rfl⟩) (zk_o hz) (by decide) rfl rfl hl.1 rfl (Nat.le_of_ble_eq_true rfl) dX4_pickExcess_27 ⟨Nat.le_of_ble_eq_true rfl, Nat.le_of_ble_eq_true rfl⟩ rfl (fun H locs hW hS => ?_)
          rcases hi1 : m_its1 t (fpT t) (eA ee 6 1) n with _ | a
          · skip
            refine W.eq (g2 := F0 m 30 ls [.null]) rfl ?_
            refine lv_astore_nN (lv' := [(3, .null), (0, .ref o), (1, .ref (eA ee 1 b)), (2, .int (nI n))]) S.1 S.2.1 dX4_pickExcess_30 rfl hl (by decide) rfl (fun ls hl => ?_)
            refine lv_aload_nN S.1 S.2.1 dX4_pickExcess_31 rfl (lv_at hl 0 rfl) ?_
            refine lv_ifnullN (tgt := 53) S.1 S.2.1 dX4_pickExcess_32 (by decide) ?_
            refine lv_iinc (v := nI (n + 1)) (lv' := [(2, .int (nI (n + 1))), (3, .null), (0, .ref o), (1, .ref (eA ee 1 b))]) S.1 S.2.1 dX4_pickExcess_53 hl (k := 3) rfl (nI_1 _) (by decide) rfl (fun ls hl => ?_)
            refine lv_goto (tgt := 4) S.1 S.2.1 dX4_pickExcess_56 (by decide) ?_
            exact ihlp (n + 1) (some b) (by omega) (by simp [m_best, hi1, hbo.symm, c4]) _ _ ls hW hS (lv_conv (lv_sub hl [2, 3, 0] rfl) (congr (congrArg List.cons rfl) (congr (congrArg List.cons rfl) (congr (congrArg List.cons rfl) rfl))))
          · skip
            refine W.eq (g2 := F0 m 30 ls [.ref (eA ee 1 a)]) rfl ?_
            obtain ⟨ha1, ha2⟩ := m_am_some hi1
            have haw := (exf_w ha2).1
            refine lv_astore_n (lv' := [(3, .ref (eA ee 1 a)), (0, .ref o), (1, .ref (eA ee 1 b)), (2, .int (nI n))]) S.1 S.2.1 dX4_pickExcess_30 rfl hl (by decide) rfl (fun ls hl => ?_)
            refine lv_aload_n S.1 S.2.1 dX4_pickExcess_31 rfl (lv_at hl 0 rfl) ?_
            refine lv_ifnull S.1 S.2.1 dX4_pickExcess_32 ?_
            refine lv_aload_n S.1 S.2.1 dX4_pickExcess_35 rfl (lv_at hl 2 rfl) ?_
            refine lv_ifnull S.1 S.2.1 dX4_pickExcess_36 ?_
            refine lv_aload_n S.1 S.2.1 dX4_pickExcess_39 rfl (lv_at hl 0 rfl) ?_
            refine kx_cV (As := []) (rest := []) (st1 := [.long (q_lgtag x ((eA ee 1 a)) (eA ee 0 (eA ee 8 a)))]) S hK hZ hA hW hS (c_X2_tagInGroup l G nu x ((eA ee 1 a)) (eA ee 0 (eA ee 8 a)) ((zk_l hz (by omega))) ((zk_g hz (zd_gr hz (by omega)))) (zl_gr hz (by omega)) (zl_fi hz (by omega))) (cwV 0 S.2.2.2.2 gX4_pickExcess_X2_tagInGroup rfl rfl rfl (by decide +kernel) ⟨Nat.le_of_ble_eq_true rfl, Nat.le_of_ble_eq_true rfl⟩) ((zk_l hz (by omega))) (by decide) rfl rfl hl.1 rfl (Nat.le_of_ble_eq_true rfl) dX4_pickExcess_40 ⟨Nat.le_of_ble_eq_true rfl, Nat.le_of_ble_eq_true rfl⟩ rfl (fun H locs hW hS => ?_)
            refine lv_aload_n S.1 S.2.1 dX4_pickExcess_43 rfl (lv_at hl 2 rfl) ?_
            refine kx_cV (As := []) (rest := [.long (q_lgtag x ((eA ee 1 a)) (eA ee 0 (eA ee 8 a)))]) (st1 := [.long (q_lgtag x ((eA ee 1 b)) (eA ee 0 (eA ee 8 b))), .long (q_lgtag x ((eA ee 1 a)) (eA ee 0 (eA ee 8 a)))]) S hK hZ hA hW hS (c_X2_tagInGroup l G nu x ((eA ee 1 b)) (eA ee 0 (eA ee 8 b)) ((zk_l hz (by omega))) ((zk_g hz (zd_gr hz (by omega)))) (zl_gr hz (by omega)) (zl_fi hz (by omega))) (cwV 0 S.2.2.2.2 gX4_pickExcess_X2_tagInGroup rfl rfl rfl (by decide +kernel) ⟨Nat.le_of_ble_eq_true rfl, Nat.le_of_ble_eq_true rfl⟩) ((zk_l hz (by omega))) (by decide) rfl rfl hl.1 rfl (Nat.le_of_ble_eq_true rfl) dX4_pickExcess_44 ⟨Nat.le_of_ble_eq_true rfl, Nat.le_of_ble_eq_true rfl⟩ rfl (fun H locs hW hS => ?_)
            refine kx_lc_ge (tgt := 53) S dX4_pickExcess_47 dX4_pickExcess_48 (by decide) (fun c5 => ?_) (fun c5 => ?_)
            · skip
              refine lv_iinc (v := nI (n + 1)) (lv' := [(2, .int (nI (n + 1))), (3, .ref (eA ee 1 a)), (0, .ref o), (1, .ref (eA ee 1 b))]) S.1 S.2.1 dX4_pickExcess_53 hl (k := 3) rfl (nI_1 _) (by decide) rfl (fun ls hl => ?_)
              refine lv_goto (tgt := 4) S.1 S.2.1 dX4_pickExcess_56 (by decide) ?_
              exact ihlp (n + 1) (some b) (by omega) (by simp [m_best, hi1, hbo.symm, c4, c5, (rd_lgtag hz ha1 haw).symm, (rd_lgtag hz hb1 hbw).symm]) _ _ ls hW hS (lv_conv (lv_sub hl [2, 3, 0] rfl) (congr (congrArg List.cons rfl) (congr (congrArg List.cons rfl) (congr (congrArg List.cons rfl) rfl))))
            · skip
              refine lv_aload_n S.1 S.2.1 dX4_pickExcess_51 rfl (lv_at hl 0 rfl) ?_
              refine lv_astore_n (lv' := [(1, .ref (eA ee 1 a)), (3, .ref (eA ee 1 a)), (0, .ref o), (2, .int (nI n))]) S.1 S.2.1 dX4_pickExcess_52 rfl hl (by decide) rfl (fun ls hl => ?_)
              refine lv_iinc (v := nI (n + 1)) (lv' := [(2, .int (nI (n + 1))), (1, .ref (eA ee 1 a)), (3, .ref (eA ee 1 a)), (0, .ref o)]) S.1 S.2.1 dX4_pickExcess_53 hl (k := 3) rfl (nI_1 _) (by decide) rfl (fun ls hl => ?_)
              refine lv_goto (tgt := 4) S.1 S.2.1 dX4_pickExcess_56 (by decide) ?_
              exact ihlp (n + 1) (some a) (by omega) (by simp [m_best, hi1, hbo.symm, c4, c5, (rd_lgtag hz ha1 haw).symm, (rd_lgtag hz hb1 hbw).symm]) _ _ ls hW hS (lv_conv (lv_sub hl [3, 1, 0] rfl) (congr (congrArg List.cons rfl) (congr (congrArg List.cons rfl) (congr (congrArg List.cons rfl) rfl))))
  exact lp (eA ee 6 0 - 0) 0 none (by omega) rfl _ _ ls hW hS (lv_conv (lv_sub hl [2, 1, 0] rfl) (congr (congrArg List.cons rfl) (congr (congrArg List.cons rfl) (congr (congrArg List.cons (congrArg (fun z9 => ((2 : Nat), Value.int z9)) (show (0 : Int32) = nI 0 from by first | rfl | (rfl)))) rfl))))
/-- the least of the classes' ticks until they may go -/
def z_lst (x : kw_St) (e : kE) (t : mo_T) : Nat → Int64
  | 0 => 2000000000
  | n + 1 => if q_tmg x (eA e 1 n) (eA e 3 n) (eA e 3 (8 + eA e 8 n)) (tF t 1) < z_lst x e t n then q_tmg x (eA e 1 n) (eA e 3 n) (eA e 3 (8 + eA e 8 n)) (tF t 1) else z_lst x e t n
set_option maxHeartbeats 1000000 in
set_option maxRecDepth 100000 in
/-- ticksUntilOneMayGo -/
theorem c_X4_ticksUntilOneMayGo (l : Launch) (G : kw_G) (nu : Nat → Option Nat) (x z : kw_St) (o : Nat) (ee : kE) (t : mo_T)  (hz : zw G nu z o ee t x)  : kw_M l G yX4_ticksUntilOneMayGo wsX4_ticksUntilOneMayGo { frames := 3, cells := 0, slots := 0, locals := 66 } 0 0 [.ref o] nu x (kw_P nu (some (.int ((z_lst x ee t (eA ee 6 1)).toInt32))) x) := by
  refine kw_M.ofW (cc := cX4_ticksUntilOneMayGo) (maxL := 4) (ret := (some .int)) (by decide) rfl (Nat.le_of_ble_eq_true rfl) ?_
  intro p e s m args below meth c A ls S hr hlk hnm hK hZ hA hW hS hl
  have hl : lv_has ls 4 [(0, .ref o)] := hl
  have iX4 : ∀ w ∈ wsX40, w ∈ wsX4_ticksUntilOneMayGo := by decide +kernel
  have hdg := zd_ng hz
  have hdl := zd_nl hz
  have hdp := zd_np hz
  have hdb := zd_nb hz
  obtain ⟨QQ, hQQ⟩ : ∃ q, q = MQ below (kw_Qc G A (kw_P nu (some (.int ((z_lst x ee t (eA ee 6 1)).toInt32))) x)) args s 0 0 A := ⟨_, rfl⟩
  rw [← hQQ]
  refine lv_ldc2 (v := 2000000000) S.1 S.2.1 S.2.2.2.1 (S.2.2.2.2 _ (by decide +kernel)) dX4_ticksUntilOneMayGo_0 ?_
  refine lv_lstore_n (lv' := [(1, .long (2000000000)), (0, .ref o)]) S.1 S.2.1 dX4_ticksUntilOneMayGo_3 rfl hl (by decide) rfl (fun ls hl => ?_)
  refine lv_iconst (v := 0) S.1 S.2.1 dX4_ticksUntilOneMayGo_4 (by decide) ?_
  refine lv_istore_n (lv' := [(3, .int (0)), (1, .long (2000000000)), (0, .ref o)]) S.1 S.2.1 dX4_ticksUntilOneMayGo_5 rfl hl (by decide) rfl (fun ls hl => ?_)
  have lp : ∀ (dn n : Nat), n + dn = eA ee 6 1 → ∀ (H : Heap) (locs : List Loc) (ls : Array Slot), kw_W G A nu x H → va_S A s.heap H locs → lv_has ls 4 [(0, .ref o), (1, .long (z_lst x ee t n)), (3, .int (nI n))] → W p l e { frames := 3, cells := 0, slots := 0, locals := 66 } s m args below meth c H locs 0 0 QQ (F0 m 6 ls []) := by
    intro dn
    induction dn with
    | zero =>
      intro n  hndn  H locs ls hW hS hl
      refine lv_iload_n S.1 S.2.1 dX4_ticksUntilOneMayGo_6 rfl (lv_at hl 2 rfl) ?_
      refine lv_aload_n S.1 S.2.1 dX4_ticksUntilOneMayGo_7 rfl (lv_at hl 0 rfl) ?_
      refine kx_gA S hK hW (zk_o hz) 1 251 rfl iX4 (by decide) rfl rfl (by decide) (by decide +kernel) dX4_ticksUntilOneMayGo_8 (b := (eA ee 4 1)) (zs_list hz (i := 1) (by decide)) ?_
      refine kx_cV (As := []) (rest := [.int (nI n)]) (st1 := [.int (nI (eA ee 6 1)), .int (nI n)]) S hK hZ hA hW hS (c_z_size l G hz 1 (by decide)) (cwV 0 S.2.2.2.2 gX4_ticksUntilOneMayGo_Jx4a65c_size_8abf5 rfl rfl rfl (by decide +kernel) ⟨Nat.le_of_ble_eq_true rfl, Nat.le_of_ble_eq_true rfl⟩) (zk_L hz (by decide)) (by decide) rfl rfl hl.1 rfl (Nat.le_of_ble_eq_true rfl) dX4_ticksUntilOneMayGo_11 ⟨Nat.le_of_ble_eq_true rfl, Nat.le_of_ble_eq_true rfl⟩ rfl (fun H locs hW hS => ?_)
      refine lv_icmp_ge (tgt := 46) S.1 S.2.1 dX4_ticksUntilOneMayGo_14 (by decide) (fun c1 => ?_) (fun c1 => ?_)
      · skip
        refine lv_lload_n S.1 S.2.1 dX4_ticksUntilOneMayGo_46 rfl (lv_at hl 1 rfl) ?_
        refine lv_l2i S.1 S.2.1 dX4_ticksUntilOneMayGo_47 rfl ?_
        rw [hQQ]
        refine kw_iret S hr hlk hW hS (by decide) (by decide) dX4_ticksUntilOneMayGo_48 ?_
        refine ⟨?_, rfl, rfl⟩; rw [show eA ee 6 1 = n by omega]
      · skip
        exact absurd (nI_le (a := eA ee 6 1) (b := n) (by omega) (by omega)) c1
    | succ dn ihlp =>
      intro n  hndn  H locs ls hW hS hl
      refine lv_iload_n S.1 S.2.1 dX4_ticksUntilOneMayGo_6 rfl (lv_at hl 2 rfl) ?_
      refine lv_aload_n S.1 S.2.1 dX4_ticksUntilOneMayGo_7 rfl (lv_at hl 0 rfl) ?_
      refine kx_gA S hK hW (zk_o hz) 1 251 rfl iX4 (by decide) rfl rfl (by decide) (by decide +kernel) dX4_ticksUntilOneMayGo_8 (b := (eA ee 4 1)) (zs_list hz (i := 1) (by decide)) ?_
      refine kx_cV (As := []) (rest := [.int (nI n)]) (st1 := [.int (nI (eA ee 6 1)), .int (nI n)]) S hK hZ hA hW hS (c_z_size l G hz 1 (by decide)) (cwV 0 S.2.2.2.2 gX4_ticksUntilOneMayGo_Jx4a65c_size_8abf5 rfl rfl rfl (by decide +kernel) ⟨Nat.le_of_ble_eq_true rfl, Nat.le_of_ble_eq_true rfl⟩) (zk_L hz (by decide)) (by decide) rfl rfl hl.1 rfl (Nat.le_of_ble_eq_true rfl) dX4_ticksUntilOneMayGo_11 ⟨Nat.le_of_ble_eq_true rfl, Nat.le_of_ble_eq_true rfl⟩ rfl (fun H locs hW hS => ?_)
      refine lv_icmp_ge (tgt := 46) S.1 S.2.1 dX4_ticksUntilOneMayGo_14 (by decide) (fun c2 => ?_) (fun c2 => ?_)
      · skip
        exact absurd c2 (nI_ge (a := n) (b := eA ee 6 1) (by omega) (by omega))
      · skip
        refine lv_lload_n S.1 S.2.1 dX4_ticksUntilOneMayGo_17 rfl (lv_at hl 1 rfl) ?_
        refine lv_aload_n S.1 S.2.1 dX4_ticksUntilOneMayGo_18 rfl (lv_at hl 0 rfl) ?_
        refine kx_gA S hK hW (zk_o hz) 1 251 rfl iX4 (by decide) rfl rfl (by decide) (by decide +kernel) dX4_ticksUntilOneMayGo_19 (b := (eA ee 4 1)) (zs_list hz (i := 1) (by decide)) ?_
        refine lv_iload_n S.1 S.2.1 dX4_ticksUntilOneMayGo_22 rfl (lv_at hl 2 rfl) ?_
        refine kx_cV (As := [.int (nI n)]) (rest := [.long (z_lst x ee t n)]) (st1 := [.ref (eA ee 1 n), .long (z_lst x ee t n)]) S hK hZ hA hW hS (c_z_get l G hz 1 n (by decide) (by omega)) (cwV 1 S.2.2.2.2 gX4_ticksUntilOneMayGo_Jx4a65c_get_915e3 rfl rfl rfl (by decide +kernel) ⟨Nat.le_of_ble_eq_true rfl, Nat.le_of_ble_eq_true rfl⟩) (zk_L hz (by decide)) (by decide) rfl rfl hl.1 rfl (Nat.le_of_ble_eq_true rfl) dX4_ticksUntilOneMayGo_23 ⟨Nat.le_of_ble_eq_true rfl, Nat.le_of_ble_eq_true rfl⟩ rfl (fun H locs hW hS => ?_)
        refine kx_cast S hK hW (zk_l hz (by omega)) (by decide) rfl (by decide +kernel) dX4_ticksUntilOneMayGo_26 ?_
        refine lv_aload_n S.1 S.2.1 dX4_ticksUntilOneMayGo_29 rfl (lv_at hl 0 rfl) ?_
        refine kx_gI S hK hW (zk_o hz) 4 254 rfl iX4 (by decide) rfl rfl (by decide) (by decide +kernel) dX4_ticksUntilOneMayGo_30 (v := tF t 1) (zsh hz).1 ?_
        refine kx_cV (As := [.int (tF t 1)]) (rest := [.long (z_lst x ee t n)]) (st1 := [.long (q_tmg x ((eA ee 1 n)) (eA ee 3 n) (eA ee 3 (8 + eA ee 8 n)) (tF t 1)), .long (z_lst x ee t n)]) S hK hZ hA hW hS (c_X2_ticksUntilMayGo l G nu x ((eA ee 1 n)) (tF t 1) (eA ee 0 (eA ee 8 n)) (eA ee 3 n) (eA ee 3 (8 + eA ee 8 n)) ((zk_l hz (by omega))) ((zk_g hz (zd_gr hz (by omega)))) ((zk_b hz (zb_l (by omega)))) ((zk_b hz (zb_g (zd_gr hz (by omega))))) (zl_gr hz (by omega)) (zl_ce hz (by omega)) (zl_gc hz (by omega)) (zl_fi hz (by omega))) (cwV 1 S.2.2.2.2 gX4_ticksUntilOneMayGo_X2_ticksUntilMayGo rfl rfl rfl (by decide +kernel) ⟨Nat.le_of_ble_eq_true rfl, Nat.le_of_ble_eq_true rfl⟩) ((zk_l hz (by omega))) (by decide) rfl rfl hl.1 rfl (Nat.le_of_ble_eq_true rfl) dX4_ticksUntilOneMayGo_33 ⟨Nat.le_of_ble_eq_true rfl, Nat.le_of_ble_eq_true rfl⟩ rfl (fun H locs hW hS => ?_)
        refine kx_minl S hl.1 (by decide +kernel) (by decide +kernel) (by decide +kernel) (by decide +kernel) (Nat.le_of_ble_eq_true rfl) (Nat.le_of_ble_eq_true rfl) (by first | exact Nat.le_of_ble_eq_true rfl | exact Nat.le_refl _ | exact Nat.le_of_eq (Nat.zero_add _)) (by first | exact Nat.le_of_ble_eq_true rfl | exact Nat.le_of_eq (Nat.zero_add _) | exact Nat.le_refl _) dX4_ticksUntilOneMayGo_36 ?_
        refine lv_lstore_n (lv' := [(1, .long (if (q_tmg x ((eA ee 1 n)) (eA ee 3 n) (eA ee 3 (8 + eA ee 8 n)) (tF t 1)) < (z_lst x ee t n) then (q_tmg x ((eA ee 1 n)) (eA ee 3 n) (eA ee 3 (8 + eA ee 8 n)) (tF t 1)) else (z_lst x ee t n))), (0, .ref o), (3, .int (nI n))]) S.1 S.2.1 dX4_ticksUntilOneMayGo_39 rfl hl (by decide) rfl (fun ls hl => ?_)
        refine lv_iinc (v := nI (n + 1)) (lv' := [(3, .int (nI (n + 1))), (1, .long (if (q_tmg x ((eA ee 1 n)) (eA ee 3 n) (eA ee 3 (8 + eA ee 8 n)) (tF t 1)) < (z_lst x ee t n) then (q_tmg x ((eA ee 1 n)) (eA ee 3 n) (eA ee 3 (8 + eA ee 8 n)) (tF t 1)) else (z_lst x ee t n))), (0, .ref o)]) S.1 S.2.1 dX4_ticksUntilOneMayGo_40 hl (k := 2) rfl (nI_1 _) (by decide) rfl (fun ls hl => ?_)
        refine lv_goto (tgt := 6) S.1 S.2.1 dX4_ticksUntilOneMayGo_43 (by decide) ?_
        exact ihlp (n + 1)  (by omega)  _ _ ls hW hS (lv_conv (lv_sub hl [2, 1, 0] rfl) (congr (congrArg List.cons rfl) (congr (congrArg List.cons (congrArg (fun z9 => ((1 : Nat), Value.long z9)) (show (if (q_tmg x ((eA ee 1 n)) (eA ee 3 n) (eA ee 3 (8 + eA ee 8 n)) (tF t 1)) < (z_lst x ee t n) then (q_tmg x ((eA ee 1 n)) (eA ee 3 n) (eA ee 3 (8 + eA ee 8 n)) (tF t 1)) else (z_lst x ee t n) : Int64) = z_lst x ee t (n + 1) from by first | rfl | (rfl)))) (congr (congrArg List.cons rfl) rfl))))
  exact lp (eA ee 6 1 - 0) 0  (by omega)  _ _ ls hW hS (lv_conv (lv_sub hl [2, 1, 0] rfl) (congr (congrArg List.cons rfl) (congr (congrArg List.cons (congrArg (fun z9 => ((1 : Nat), Value.long z9)) (show (2000000000 : Int64) = z_lst x ee t 0 from by first | rfl | (rfl)))) (congr (congrArg List.cons (congrArg (fun z9 => ((3 : Nat), Value.int z9)) (show (0 : Int32) = nI 0 from by first | rfl | (rfl)))) rfl))))
