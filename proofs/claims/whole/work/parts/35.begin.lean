/-! a packet is put on the link; one begins, or none -/
set_option maxHeartbeats 1000000 in
set_option maxRecDepth 100000 in
/-- putOnLink -/
theorem c_X4_putOnLink (l : Launch) (G : kw_G) (nu : Nat → Option Nat) (x : kw_St) (o : Nat) (k : Nat) (ee : kE) (t : mo_T) (hk : nu k = some 4) (hKz : zK G nu o ee t) (hLs : zLs G nu o ee x) (hn5 : eA ee 6 3 < 512) (hO : ∀ i, i < eA ee 6 3 → eA ee 7 i < eA ee 6 2) : kw_M l G yX4_putOnLink wsX4_putOnLink { frames := 7, cells := zc (eA ee 10 3) (eA ee 6 3), slots := zs (eA ee 10 3) (eA ee 6 3), locals := 171 } (zc (eA ee 10 3) (eA ee 6 3)) (zs (eA ee 10 3) (eA ee 6 3)) [.ref o, .ref k] nu x (fun v nu' y => v = none ∧ ∃ D1 y1, zAdd nu x (eA ee 4 3) (eA ee 5 3) (eA ee 6 3) k nu' y1 D1 ∧ y = sI y1 255 o (kI x 254 o + kI x 202 k)) := by
  refine kw_M.ofW (cc := cX4_putOnLink) (maxL := 2) (ret := none) (by decide) rfl (Nat.le_of_ble_eq_true rfl) ?_
  intro p e s m args below meth c A ls S hr hlk hnm hK hZ hA hW hS hl
  have hl : lv_has ls 2 [(0, .ref o), (1, .ref k)] := hl
  have iX3 : ∀ w ∈ wsX30, w ∈ wsX4_putOnLink := by decide +kernel
  have iX4 : ∀ w ∈ wsX40, w ∈ wsX4_putOnLink := by decide +kernel
  refine lv_aload_n S.1 S.2.1 dX4_putOnLink_0 rfl (lv_at hl 1 rfl) ?_
  refine lv_ifnull S.1 S.2.1 dX4_putOnLink_1 ?_
  refine lv_aload_n S.1 S.2.1 dX4_putOnLink_4 rfl (lv_at hl 0 rfl) ?_
  refine kx_gA S hK hW hKz.1 3 253 rfl iX4 (by decide) rfl rfl (by decide) (by decide +kernel) dX4_putOnLink_5 (b := (eA ee 4 3)) (hLs.1 3 (by decide)).1 ?_
  refine lv_aload_n S.1 S.2.1 dX4_putOnLink_8 rfl (lv_at hl 1 rfl) ?_
  refine kw_callV (As := [.ref k]) (rest := []) S hK hZ hA hW hS (c_z_add l G nu x (eA ee 4 3) (eA ee 5 3) (eA ee 6 3) k 4 (hKz.2.1 3 (by decide)) hk (by decide) (hKz.2.2.2.2.2.2.1) hLs.2.1 (hLs.1 3 (by decide)).2.1 (hLs.1 3 (by decide)).2.2.1 (eA ee 10 3) (hLs.1 3 (by decide)).2.2.2.1 (hLs.1 3 (by decide)).2.2.2.2 hn5 (fun i y hi hy => ⟨4, by have h9 := hLs.2.2.2.2 i hi; rw [hy] at h9; cases h9; exact hKz.2.2.2.2.1 _ (hO i hi), by decide⟩)) (cwV 1 S.2.2.2.2 gX4_putOnLink_Jx4a65c_add_9ea2d rfl rfl rfl (by decide +kernel) ⟨Nat.le_of_ble_eq_true rfl, Nat.le_of_ble_eq_true rfl⟩) (hKz.2.1 3 (by decide)) (by decide) rfl rfl hl.1 rfl (Nat.le_of_ble_eq_true rfl) dX4_putOnLink_9 ⟨Nat.le_of_eq (Nat.zero_add _), Nat.le_of_eq (Nat.zero_add _)⟩ (fun v nu1 y1 H locs hp hW hS => ?_)
  obtain ⟨ev, D1, hadd⟩ := hp
  subst ev
  refine W.eq (g2 := F0 m 12 ls [.int (1)]) rfl ?_
  have ho1 := zAdd_ag hadd (hKz.2.1 3 (by decide)) hKz.1 (by decide) (by decide)
  have hk1 := zAdd_ag hadd (hKz.2.1 3 (by decide)) hk (by decide) (by decide)
  refine lv_pop S.1 S.2.1 dX4_putOnLink_12 rfl ?_
  refine lv_aload_n S.1 S.2.1 dX4_putOnLink_13 rfl (lv_at hl 0 rfl) ?_
  refine lv_aload_n S.1 S.2.1 dX4_putOnLink_14 rfl (lv_at hl 0 rfl) ?_
  refine kx_gI S hK hW (hadd.nu _ _ hKz.1) 4 254 rfl iX4 (by decide) rfl rfl (by decide) (by decide +kernel) dX4_putOnLink_15 (v := kI y1 254 o) rfl ?_
  refine lv_aload_n S.1 S.2.1 dX4_putOnLink_18 rfl (lv_at hl 1 rfl) ?_
  refine kx_gI S hK hW (hadd.nu _ _ hk) 2 202 rfl iX3 (by decide) rfl rfl (by decide) (by decide +kernel) dX4_putOnLink_19 (v := kI y1 202 k) rfl ?_
  refine lv_iadd S.1 S.2.1 dX4_putOnLink_22 ?_
  refine kx_pI S hK hW hS (hadd.nu _ _ hKz.1) 5 255  rfl iX4 tyX4_ok nmX4 (by decide) rfl rfl (by decide) (by decide +kernel) (Or.inl rfl) rfl dX4_putOnLink_23 (fun H locs hW hS => ?_)
  refine kw_vret S hr hlk hW hS (Nat.le_of_eq (Nat.zero_add _)) (Nat.le_of_eq (Nat.zero_add _)) dX4_putOnLink_26 ?_
  exact ⟨rfl, D1, y1, hadd, by rw [ho1.1, hk1.1]⟩
set_option maxHeartbeats 1000000 in
set_option maxRecDepth 100000 in
/-- beginOne, of which nothing comes -/
theorem c_X4_beginOne_n (l : Launch) (G : kw_G) (nu : Nat → Option Nat) (x z : kw_St) (o : Nat) (ee : kE) (t : mo_T)  (hz : zw G nu z o ee t x) (hdue : m_due t (fpT t) (eA ee 6 1) = none) (hbest : m_best t (fpT t) (grT t) (eA ee 6 1) (eA ee 6 0) = none) : kw_M l G yX4_beginOne wsX4_beginOne { frames := 8, cells := 0, slots := 0, locals := 192 } 0 0 [.ref o] nu x (kw_P nu (none) x) := by
  refine kw_M.ofW (cc := cX4_beginOne) (maxL := 3) (ret := none) (by decide) rfl (Nat.le_of_ble_eq_true rfl) ?_
  intro p e s m args below meth c A ls S hr hlk hnm hK hZ hA hW hS hl
  have hl : lv_has ls 3 [(0, .ref o)] := hl
  have hdg := zd_ng hz
  have hdl := zd_nl hz
  have hdp := zd_np hz
  have hdb := zd_nb hz
  refine lv_aload_n S.1 S.2.1 dX4_beginOne_0 rfl (lv_at hl 0 rfl) ?_
  refine kx_cV (As := []) (rest := []) (st1 := [va_rf ((m_due t (fpT t) (eA ee 6 1)).map (eA ee 1))]) S hK hZ hA hW hS (c_X4_pickDue l G nu x z o ee t  hz ) (cwV 0 S.2.2.2.2 gX4_beginOne_X4_pickDue rfl rfl rfl (by decide +kernel) ⟨Nat.le_of_ble_eq_true rfl, Nat.le_of_ble_eq_true rfl⟩) (zk_o hz) (by decide) rfl rfl hl.1 rfl (Nat.le_of_ble_eq_true rfl) dX4_beginOne_1 ⟨Nat.le_of_ble_eq_true rfl, Nat.le_of_ble_eq_true rfl⟩ rfl (fun H locs hW hS => ?_)
  rw [hdue]
  refine W.eq (g2 := F0 m 4 ls [.null]) rfl ?_
  refine lv_astore_nN (lv' := [(1, .null), (0, .ref o)]) S.1 S.2.1 dX4_beginOne_4 rfl hl (by decide) rfl (fun ls hl => ?_)
  refine lv_aload_nN S.1 S.2.1 dX4_beginOne_5 rfl (lv_at hl 0 rfl) ?_
  refine lv_ifnullN (tgt := 22) S.1 S.2.1 dX4_beginOne_6 (by decide) ?_
  refine lv_aload_n S.1 S.2.1 dX4_beginOne_22 rfl (lv_at hl 1 rfl) ?_
  refine kx_cV (As := []) (rest := []) (st1 := [va_rf ((m_best t (fpT t) (grT t) (eA ee 6 1) (eA ee 6 0)).map (eA ee 1))]) S hK hZ hA hW hS (c_X4_pickExcess l G nu x z o ee t  hz ) (cwV 0 S.2.2.2.2 gX4_beginOne_X4_pickExcess rfl rfl rfl (by decide +kernel) ⟨Nat.le_of_ble_eq_true rfl, Nat.le_of_ble_eq_true rfl⟩) (zk_o hz) (by decide) rfl rfl hl.1 rfl (Nat.le_of_ble_eq_true rfl) dX4_beginOne_23 ⟨Nat.le_of_ble_eq_true rfl, Nat.le_of_ble_eq_true rfl⟩ rfl (fun H locs hW hS => ?_)
  rw [hbest]
  refine W.eq (g2 := F0 m 26 ls [.null]) rfl ?_
  refine lv_astore_nN (lv' := [(2, .null), (1, .null), (0, .ref o)]) S.1 S.2.1 dX4_beginOne_26 rfl hl (by decide) rfl (fun ls hl => ?_)
  refine lv_aload_nN S.1 S.2.1 dX4_beginOne_27 rfl (lv_at hl 0 rfl) ?_
  refine lv_ifnullN (tgt := 63) S.1 S.2.1 dX4_beginOne_28 (by decide) ?_
  refine kw_vret S hr hlk hW hS (by decide) (by decide) dX4_beginOne_63 ?_
  exact ⟨rfl, rfl, rfl⟩
set_option maxHeartbeats 1000000 in
set_option maxRecDepth 100000 in
/-- beginOne: one that is due -/
theorem c_X4_beginOne_d (l : Launch) (G : kw_G) (nu : Nat → Option Nat) (x z : kw_St) (o : Nat) (ee : kE) (t : mo_T) (b : Nat) (pk : Nat) (qk : List Nat) (hz : zw G nu z o ee t x) (hb : b < eA ee 6 1) (hQ : eQ ee b = pk :: qk) (hdue : m_due t (fpT t) (eA ee 6 1) = some b) : kw_M l G yX4_beginOne wsX4_beginOne { frames := 8, cells := zc (eA ee 10 3) (eA ee 6 3), slots := zs (eA ee 10 3) (eA ee 6 3), locals := 192 } (zc (eA ee 10 3) (eA ee 6 3)) (zs (eA ee 10 3) (eA ee 6 3)) [.ref o] nu x (fun v nu' y => v = none ∧ nuX nu nu' ∧ ∃ e2, zw G nu' z o e2 (m_dsend t (fpT t) (grT t) b (eA ee 6 3)) y ∧ zF e2 (m_dsend t (fpT t) (grT t) b (eA ee 6 3)) ∧ eA e2 10 3 = zcap (eA ee 10 3) (eA ee 6 3)) := by
  refine kw_M.ofW (cc := cX4_beginOne) (maxL := 3) (ret := none) (by decide) rfl (Nat.le_of_ble_eq_true rfl) ?_
  intro p e s m args below meth c A ls S hr hlk hnm hK hZ hA hW hS hl
  have hl : lv_has ls 3 [(0, .ref o)] := hl
  have iX4 : ∀ w ∈ wsX40, w ∈ wsX4_beginOne := by decide +kernel
  have hdg := zd_ng hz
  have hdl := zd_nl hz
  have hdp := zd_np hz
  have hdb := zd_nb hz
  have hz0 := hz
  have hp := (zq_cons hz hb hQ).2.2.2.2.2
  have hn5 : eA ee 6 3 < 512 := zd_nlt hz hb hQ
  have hd := (m_am_some hdue).2
  refine lv_aload_n S.1 S.2.1 dX4_beginOne_0 rfl (lv_at hl 0 rfl) ?_
  refine kx_cV (As := []) (rest := []) (st1 := [va_rf ((m_due t (fpT t) (eA ee 6 1)).map (eA ee 1))]) S hK hZ hA hW hS (c_X4_pickDue l G nu x z o ee t  hz ) (cwV 0 S.2.2.2.2 gX4_beginOne_X4_pickDue rfl rfl rfl (by decide +kernel) ⟨Nat.le_of_ble_eq_true rfl, Nat.le_of_ble_eq_true rfl⟩) (zk_o hz) (by decide) rfl rfl hl.1 rfl (Nat.le_of_ble_eq_true rfl) dX4_beginOne_1 ⟨Nat.le_of_ble_eq_true rfl, Nat.le_of_ble_eq_true rfl⟩ rfl (fun H locs hW hS => ?_)
  rw [hdue]
  refine W.eq (g2 := F0 m 4 ls [.ref (eA ee 1 b)]) rfl ?_
  refine lv_astore_n (lv' := [(1, .ref (eA ee 1 b)), (0, .ref o)]) S.1 S.2.1 dX4_beginOne_4 rfl hl (by decide) rfl (fun ls hl => ?_)
  refine lv_aload_n S.1 S.2.1 dX4_beginOne_5 rfl (lv_at hl 0 rfl) ?_
  refine lv_ifnull S.1 S.2.1 dX4_beginOne_6 ?_
  refine lv_aload_n S.1 S.2.1 dX4_beginOne_9 rfl (lv_at hl 1 rfl) ?_
  refine lv_aload_n S.1 S.2.1 dX4_beginOne_10 rfl (lv_at hl 0 rfl) ?_
  refine lv_aload_n S.1 S.2.1 dX4_beginOne_11 rfl (lv_at hl 1 rfl) ?_
  refine kx_gI S hK hW (zk_o hz) 4 254 rfl iX4 (by decide) rfl rfl (by decide) (by decide +kernel) dX4_beginOne_12 (v := tF t 1) (zsh hz).1 ?_
  refine kx_cV (As := [.int (tF t 1)]) (rest := [.ref o]) (st1 := [.ref (eA ee 2 pk), .ref o]) S hK hZ hA hW hS (c_X2_sendDue l G nu x ((eA ee 1 b)) (tF t 1) (eA ee 0 (eA ee 8 b)) (eA ee 3 b) (eA ee 3 (8 + eA ee 8 b)) (eA ee 2 pk) ((zk_l hz (by omega))) ((zk_g hz (zd_gr hz (by omega)))) ((zk_b hz (zb_l (by omega)))) ((zk_b hz (zb_g (zd_gr hz (by omega))))) ((zk_p hz (by omega))) (zl_gr hz (by omega)) (zl_ce hz (by omega)) (zl_gc hz (by omega)) (zq_cons hz hb hQ).1 (z_bne hz hb)) (cwV 1 S.2.2.2.2 gX4_beginOne_X2_sendDue rfl rfl rfl (by decide +kernel) ⟨Nat.le_of_ble_eq_true rfl, Nat.le_of_ble_eq_true rfl⟩) ((zk_l hz (by omega))) (by decide) rfl rfl hl.1 rfl (Nat.le_of_ble_eq_true rfl) dX4_beginOne_15 ⟨Nat.le_of_ble_eq_true rfl, Nat.le_of_ble_eq_true rfl⟩ rfl (fun H locs hW hS => ?_)
  have hag : ∀ c, ¬ zTo ee b pk c → kw_ag c x (q_sdue x ((eA ee 1 b)) (eA ee 0 (eA ee 8 b)) (eA ee 3 b) (eA ee 3 (8 + eA ee 8 b)) (eA ee 2 pk) (tF t 1)) := fun c hc => sdue_ag hz _ hc
  have hLs := zLs_send hz hb hp hag
  refine kw_callV (As := [.ref (eA ee 2 pk)]) (rest := []) S hK hZ hA hW hS (c_X4_putOnLink l G nu (q_sdue x ((eA ee 1 b)) (eA ee 0 (eA ee 8 b)) (eA ee 3 b) (eA ee 3 (8 + eA ee 8 b)) (eA ee 2 pk) (tF t 1)) o (eA ee 2 pk) ee t (zk_p hz hp) hz0.2.1 hLs hn5 (fun i hi => (hz0.1.2.2.2.2.2.1 i hi).2)) (cwV 1 S.2.2.2.2 gX4_beginOne_X4_putOnLink rfl rfl rfl (by decide +kernel) ⟨Nat.le_of_ble_eq_true rfl, Nat.le_of_ble_eq_true rfl⟩) (zk_o hz) (by decide) rfl rfl hl.1 rfl (Nat.le_of_ble_eq_true rfl) dX4_beginOne_18 ⟨Nat.le_of_eq (Nat.zero_add _), Nat.le_of_eq (Nat.zero_add _)⟩ (fun v nu1 y2 H locs hp2 hW hS => ?_)
  obtain ⟨ev, D1, y1, hadd, ey⟩ := hp2
  subst ev
  refine W.eq (g2 := F0 m 21 ls []) rfl ?_
  refine kw_vret S hr hlk hW hS (Nat.le_of_eq (Nat.zero_add _)) (Nat.le_of_eq (Nat.zero_add _)) dX4_beginOne_21 ?_
  exact ⟨rfl, z_begun hz hb hp hag (tI_due hz.1 hb hQ (zq_cons hz hb hQ).2.2.2.2.1 (z_gr hz hb) hp hd) (fun _ => rfl) (zC_due hz hb hQ hd) (by have h9 := (zq_cons hz hb hQ).2.2.2.2.1; subst h9; rfl) hadd ey⟩
set_option maxHeartbeats 1000000 in
set_option maxRecDepth 100000 in
/-- beginOne: one of the excess -/
theorem c_X4_beginOne_x (l : Launch) (G : kw_G) (nu : Nat → Option Nat) (x z : kw_St) (o : Nat) (ee : kE) (t : mo_T) (b : Nat) (pk : Nat) (qk : List Nat) (hz : zw G nu z o ee t x) (hb : b < eA ee 6 1) (hQ : eQ ee b = pk :: qk) (hdue : m_due t (fpT t) (eA ee 6 1) = none) (hbest : m_best t (fpT t) (grT t) (eA ee 6 1) (eA ee 6 0) = some b) : kw_M l G yX4_beginOne wsX4_beginOne { frames := 8, cells := zc (eA ee 10 3) (eA ee 6 3), slots := zs (eA ee 10 3) (eA ee 6 3), locals := 192 } (zc (eA ee 10 3) (eA ee 6 3)) (zs (eA ee 10 3) (eA ee 6 3)) [.ref o] nu x (fun v nu' y => v = none ∧ nuX nu nu' ∧ ∃ e2, zw G nu' z o e2 (m_xs (z_hN t 1 (eA ee 6 1)) t (fpT t) (grT t) b (eA ee 6 3)) y ∧ zF e2 (m_xs (z_hN t 1 (eA ee 6 1)) t (fpT t) (grT t) b (eA ee 6 3)) ∧ eA e2 10 3 = zcap (eA ee 10 3) (eA ee 6 3)) := by
  refine kw_M.ofW (cc := cX4_beginOne) (maxL := 3) (ret := none) (by decide) rfl (Nat.le_of_ble_eq_true rfl) ?_
  intro p e s m args below meth c A ls S hr hlk hnm hK hZ hA hW hS hl
  have hl : lv_has ls 3 [(0, .ref o)] := hl
  have iX4 : ∀ w ∈ wsX40, w ∈ wsX4_beginOne := by decide +kernel
  have hdg := zd_ng hz
  have hdl := zd_nl hz
  have hdp := zd_np hz
  have hdb := zd_nb hz
  have hz0 := hz
  have hp := (zq_cons hz hb hQ).2.2.2.2.2
  have hn5 : eA ee 6 3 < 512 := zd_nlt hz hb hQ
  refine lv_aload_n S.1 S.2.1 dX4_beginOne_0 rfl (lv_at hl 0 rfl) ?_
  refine kx_cV (As := []) (rest := []) (st1 := [va_rf ((m_due t (fpT t) (eA ee 6 1)).map (eA ee 1))]) S hK hZ hA hW hS (c_X4_pickDue l G nu x z o ee t  hz ) (cwV 0 S.2.2.2.2 gX4_beginOne_X4_pickDue rfl rfl rfl (by decide +kernel) ⟨Nat.le_of_ble_eq_true rfl, Nat.le_of_ble_eq_true rfl⟩) (zk_o hz) (by decide) rfl rfl hl.1 rfl (Nat.le_of_ble_eq_true rfl) dX4_beginOne_1 ⟨Nat.le_of_ble_eq_true rfl, Nat.le_of_ble_eq_true rfl⟩ rfl (fun H locs hW hS => ?_)
  rw [hdue]
  refine W.eq (g2 := F0 m 4 ls [.null]) rfl ?_
  refine lv_astore_nN (lv' := [(1, .null), (0, .ref o)]) S.1 S.2.1 dX4_beginOne_4 rfl hl (by decide) rfl (fun ls hl => ?_)
  refine lv_aload_nN S.1 S.2.1 dX4_beginOne_5 rfl (lv_at hl 0 rfl) ?_
  refine lv_ifnullN (tgt := 22) S.1 S.2.1 dX4_beginOne_6 (by decide) ?_
  refine lv_aload_n S.1 S.2.1 dX4_beginOne_22 rfl (lv_at hl 1 rfl) ?_
  refine kx_cV (As := []) (rest := []) (st1 := [va_rf ((m_best t (fpT t) (grT t) (eA ee 6 1) (eA ee 6 0)).map (eA ee 1))]) S hK hZ hA hW hS (c_X4_pickExcess l G nu x z o ee t  hz ) (cwV 0 S.2.2.2.2 gX4_beginOne_X4_pickExcess rfl rfl rfl (by decide +kernel) ⟨Nat.le_of_ble_eq_true rfl, Nat.le_of_ble_eq_true rfl⟩) (zk_o hz) (by decide) rfl rfl hl.1 rfl (Nat.le_of_ble_eq_true rfl) dX4_beginOne_23 ⟨Nat.le_of_ble_eq_true rfl, Nat.le_of_ble_eq_true rfl⟩ rfl (fun H locs hW hS => ?_)
  rw [hbest]
  refine W.eq (g2 := F0 m 26 ls [.ref (eA ee 1 b)]) rfl ?_
  refine lv_astore_n (lv' := [(2, .ref (eA ee 1 b)), (1, .null), (0, .ref o)]) S.1 S.2.1 dX4_beginOne_26 rfl hl (by decide) rfl (fun ls hl => ?_)
  refine lv_aload_n S.1 S.2.1 dX4_beginOne_27 rfl (lv_at hl 0 rfl) ?_
  refine lv_ifnull S.1 S.2.1 dX4_beginOne_28 ?_
  refine lv_aload_n S.1 S.2.1 dX4_beginOne_31 rfl (lv_at hl 2 rfl) ?_
  refine lv_iconst (v := 1) S.1 S.2.1 dX4_beginOne_32 (by decide) ?_
  refine zx_cV (As := [.int (1)]) (rest := []) (st1 := []) (t0 := z_hN t 1 (eA ee 6 1)) S hK hZ hA hW hS (c_X4_countHeld l G nu x z o ee t 1 hz ) (cwV 1 S.2.2.2.2 gX4_beginOne_X4_countHeld rfl rfl rfl (by decide +kernel) ⟨Nat.le_of_ble_eq_true rfl, Nat.le_of_ble_eq_true rfl⟩) (zk_o hz) (by decide) rfl rfl hl.1 rfl (Nat.le_of_ble_eq_true rfl) dX4_beginOne_33 ⟨Nat.le_of_ble_eq_true rfl, Nat.le_of_ble_eq_true rfl⟩ rfl (fun x H locs hz hW hS => ?_)
  have hHe : zHe (z_hN t 1 (eA ee 6 1)) t := hN_He t 1 _
  have hF1 : tF (z_hN t 1 (eA ee 6 1)) 1 = tF t 1 := hHe.1 1
  refine lv_aload_n S.1 S.2.1 dX4_beginOne_36 rfl (lv_at hl 2 rfl) ?_
  refine lv_aload_n S.1 S.2.1 dX4_beginOne_37 rfl (lv_at hl 2 rfl) ?_
  refine kx_gJ S hK hW (zk_o hz) 8 258 rfl iX4 (by decide) rfl rfl (by decide) (by decide +kernel) dX4_beginOne_38 (v := tL (z_hN t 1 (eA ee 6 1))) (zsh hz).2.2.2.2 ?_
  refine lv_aload_n S.1 S.2.1 dX4_beginOne_41 rfl (lv_at hl 0 rfl) ?_
  refine kx_cV (As := []) (rest := [.long (tL (z_hN t 1 (eA ee 6 1))), .ref o]) (st1 := [.long (q_lgtag x ((eA ee 1 b)) (eA ee 0 (eA ee 8 b))), .long (tL (z_hN t 1 (eA ee 6 1))), .ref o]) S hK hZ hA hW hS (c_X2_tagInGroup l G nu x ((eA ee 1 b)) (eA ee 0 (eA ee 8 b)) ((zk_l hz (by omega))) ((zk_g hz (zd_gr hz (by omega)))) (zl_gr hz (by omega)) (zl_fi hz (by omega))) (cwV 0 S.2.2.2.2 gX4_beginOne_X2_tagInGroup rfl rfl rfl (by decide +kernel) ⟨Nat.le_of_ble_eq_true rfl, Nat.le_of_ble_eq_true rfl⟩) ((zk_l hz (by omega))) (by decide) rfl rfl hl.1 rfl (Nat.le_of_ble_eq_true rfl) dX4_beginOne_42 ⟨Nat.le_of_ble_eq_true rfl, Nat.le_of_ble_eq_true rfl⟩ rfl (fun H locs hW hS => ?_)
  refine kx_maxl S hl.1 (by decide +kernel) (by decide +kernel) (by decide +kernel) (by decide +kernel) (Nat.le_of_ble_eq_true rfl) (Nat.le_of_ble_eq_true rfl) (by first | exact Nat.le_of_ble_eq_true rfl | exact Nat.le_refl _ | exact Nat.le_of_eq (Nat.zero_add _)) (by first | exact Nat.le_of_ble_eq_true rfl | exact Nat.le_of_eq (Nat.zero_add _) | exact Nat.le_refl _) dX4_beginOne_45 ?_
  obtain ⟨lmv, hlv⟩ : ∃ lmv : Int64, lmv = if (q_lgtag x ((eA ee 1 b)) (eA ee 0 (eA ee 8 b))) < (tL (z_hN t 1 (eA ee 6 1))) then (tL (z_hN t 1 (eA ee 6 1))) else (q_lgtag x ((eA ee 1 b)) (eA ee 0 (eA ee 8 b))) := ⟨_, rfl⟩
  rw [← hlv]
  have lmx : lmv = if m_gtg t (fpT t) (grT t) b ≤ tL t then tL t else m_gtg t (fpT t) (grT t) b := by rw [hlv, zmax, rd_lgtag hz hb (zq_cons hz hb hQ).2.1, (hHe.tg b).2.2.2, hHe.2.1]
  have hzm := zw_mark hz lmv
  refine kx_pJ S hK hW hS (zk_o hz) 8 258  rfl iX4 tyX4_ok nmX4 (by decide) rfl rfl (by decide) (by decide +kernel) (Or.inl rfl) rfl dX4_beginOne_48 (fun H locs hW hS => ?_)
  have hzp := hz
  have hz := hzm
  refine lv_aload_n S.1 S.2.1 dX4_beginOne_51 rfl (lv_at hl 2 rfl) ?_
  refine lv_aload_n S.1 S.2.1 dX4_beginOne_52 rfl (lv_at hl 0 rfl) ?_
  refine lv_aload_n S.1 S.2.1 dX4_beginOne_53 rfl (lv_at hl 2 rfl) ?_
  refine kx_gI S hK hW (zk_o hz) 4 254 rfl iX4 (by decide) rfl rfl (by decide) (by decide +kernel) dX4_beginOne_54 (v := tF (uL (z_hN t 1 (eA ee 6 1)) lmv) 1) (zsh hz).1 ?_
  refine kx_cV (As := [.int (tF (uL (z_hN t 1 (eA ee 6 1)) lmv) 1)]) (rest := [.ref o]) (st1 := [.ref (eA ee 2 pk), .ref o]) S hK hZ hA hW hS (c_X2_sendExcess l G nu (sJ x 258 o lmv) ((eA ee 1 b)) (tF (uL (z_hN t 1 (eA ee 6 1)) lmv) 1) (eA ee 0 (eA ee 8 b)) (eA ee 3 b) (eA ee 3 (8 + eA ee 8 b)) (eA ee 2 pk) ((zk_l hz (by omega))) ((zk_g hz (zd_gr hz (by omega)))) ((zk_b hz (zb_l (by omega)))) ((zk_b hz (zb_g (zd_gr hz (by omega))))) ((zk_p hz (by omega))) (zl_gr hz (by omega)) (zl_ce hz (by omega)) (zl_gc hz (by omega)) (zq_cons hz hb hQ).1 (z_bne hz hb)) (cwV 1 S.2.2.2.2 gX4_beginOne_X2_sendExcess rfl rfl rfl (by decide +kernel) ⟨Nat.le_of_ble_eq_true rfl, Nat.le_of_ble_eq_true rfl⟩) ((zk_l hz (by omega))) (by decide) rfl rfl hl.1 rfl (Nat.le_of_ble_eq_true rfl) dX4_beginOne_57 ⟨Nat.le_of_ble_eq_true rfl, Nat.le_of_ble_eq_true rfl⟩ rfl (fun H locs hW hS => ?_)
  have hlm := lmx
  have hag : ∀ c, ¬ zTo ee b pk c → kw_ag c (sJ x 258 o lmv) (q_sexc (sJ x 258 o lmv) ((eA ee 1 b)) (eA ee 0 (eA ee 8 b)) (eA ee 3 b) (eA ee 3 (8 + eA ee 8 b)) (eA ee 2 pk) (tF (uL (z_hN t 1 (eA ee 6 1)) lmv) 1)) := fun c hc => sexc_ag _ hc
  have hLs := zLs_send hzm hb hp hag
  refine kw_callV (As := [.ref (eA ee 2 pk)]) (rest := []) S hK hZ hA hW hS (c_X4_putOnLink l G nu (q_sexc (sJ x 258 o lmv) ((eA ee 1 b)) (eA ee 0 (eA ee 8 b)) (eA ee 3 b) (eA ee 3 (8 + eA ee 8 b)) (eA ee 2 pk) (tF (uL (z_hN t 1 (eA ee 6 1)) lmv) 1)) o (eA ee 2 pk) ee t (zk_p hz hp) hz0.2.1 hLs hn5 (fun i hi => (hz0.1.2.2.2.2.2.1 i hi).2)) (cwV 1 S.2.2.2.2 gX4_beginOne_X4_putOnLink rfl rfl rfl (by decide +kernel) ⟨Nat.le_of_ble_eq_true rfl, Nat.le_of_ble_eq_true rfl⟩) (zk_o hz) (by decide) rfl rfl hl.1 rfl (Nat.le_of_ble_eq_true rfl) dX4_beginOne_60 ⟨Nat.le_of_eq (Nat.zero_add _), Nat.le_of_eq (Nat.zero_add _)⟩ (fun v nu1 y2 H locs hp2 hW hS => ?_)
  obtain ⟨ev, D1, y1, hadd, ey⟩ := hp2
  subst ev
  refine W.eq (g2 := F0 m 63 ls []) rfl ?_
  refine kw_vret S hr hlk hW hS (Nat.le_of_eq (Nat.zero_add _)) (Nat.le_of_eq (Nat.zero_add _)) dX4_beginOne_63 ?_
  exact ⟨rfl, z_begun hzm hb hp hag (tI_exc hzp.1 hb hQ (zq_cons hz0 hb hQ).2.2.2.2.1 (z_gr hz0 hb)) (fun _ => rfl) (by have h9 := zC_exc hzp hHe hb hQ lmx; rw [← hF1] at h9; exact h9) (by have h9 := (zq_cons hz0 hb hQ).2.2.2.2.1; subst h9; rfl) hadd ey⟩
