/-! LinkShaper: police, group, leaf, arrive -/
set_option maxHeartbeats 1000000 in
set_option maxRecDepth 100000 in
/-- police of nothing -/
theorem c_X4_police_o (l : Launch) (G : kw_G) (nu : Nat → Option Nat) (x z : kw_St) (o : Nat) (ee : kE) (t : mo_T) (ki : Int32) (r : Int32) (bu : Int32) (mk : Int32) (hz : zw G nu z o ee t x) (hki : ∀ k, k < eA ee 6 1 → ki ≠ nI k) : kw_M l G yX4_police wsX4_police { frames := 4, cells := 0, slots := 0, locals := 85 } 0 0 [.ref o, .int (ki), .int (r), .int (bu), .int (mk)] nu x (kw_P nu (some (.int (0))) x) := by
  refine kw_M.ofW (cc := cX4_police) (maxL := 6) (ret := (some .boolean)) (by decide) rfl (Nat.le_of_ble_eq_true rfl) ?_
  intro p e s m args below meth c A ls S hr hlk hnm hK hZ hA hW hS hl
  have hl : lv_has ls 6 [(0, .ref o), (1, .int (ki)), (2, .int (r)), (3, .int (bu)), (4, .int (mk))] := hl
  have hdg := zd_ng hz
  have hdl := zd_nl hz
  have hdp := zd_np hz
  have hdb := zd_nb hz
  refine lv_aload_n S.1 S.2.1 dX4_police_0 rfl (lv_at hl 0 rfl) ?_
  refine lv_iload_n S.1 S.2.1 dX4_police_1 rfl (lv_at hl 1 rfl) ?_
  refine kx_cV (As := [.int (ki)]) (rest := []) (st1 := [.null]) S hK hZ hA hW hS (c_X4_leafAt_o l G nu x z o ee t ki hz hki) (cwV 1 S.2.2.2.2 gX4_police_X4_leafAt rfl rfl rfl (by decide +kernel) ⟨Nat.le_of_ble_eq_true rfl, Nat.le_of_ble_eq_true rfl⟩) (zk_o hz) (by decide) rfl rfl hl.1 rfl (Nat.le_of_ble_eq_true rfl) dX4_police_2 ⟨Nat.le_of_ble_eq_true rfl, Nat.le_of_ble_eq_true rfl⟩ rfl (fun H locs hW hS => ?_)
  refine lv_astoreN (lv' := [(5, .null), (0, .ref o), (1, .int (ki)), (2, .int (r)), (3, .int (bu)), (4, .int (mk))]) S.1 S.2.1 dX4_police_5 hl (by decide) rfl (fun ls hl => ?_)
  refine lv_aloadN S.1 S.2.1 dX4_police_7 (lv_at hl 0 rfl) ?_
  refine lv_ifnullN (tgt := 34) S.1 S.2.1 dX4_police_9 (by decide) ?_
  refine lv_iconst (v := 0) S.1 S.2.1 dX4_police_34 (by decide) ?_
  refine kw_zret S hr hlk hW hS (by decide) (by decide) dX4_police_35 kw_n0 ?_
  exact ⟨rfl, rfl, rfl⟩
set_option maxHeartbeats 1000000 in
set_option maxRecDepth 100000 in
/-- police -/
theorem c_X4_police_s (l : Launch) (G : kw_G) (nu : Nat → Option Nat) (x z : kw_St) (o : Nat) (ee : kE) (t : mo_T) (k : Nat) (r : Int32) (bu : Int32) (mk : Int32) (hz : zw G nu z o ee t x) (hk : k < eA ee 6 1) (hF : zF ee t) (hmk : mk = 0 ∨ mk = 1) : kw_M l G yX4_police wsX4_police { frames := 4, cells := 1, slots := 3, locals := 85 } 1 3 [.ref o, .int (nI k), .int (r), .int (bu), .int (mk)] nu x (fun v nu' y => v = some (.int (kw_b (m_polok (eA ee 6 1) k r bu = true))) ∧ nuX nu nu' ∧ ∃ e2, zw G nu' z o e2 (m_police t (eA ee 6 1) k r bu mk) y ∧ zF e2 (m_police t (eA ee 6 1) k r bu mk)) := by
  refine kw_M.ofW (cc := cX4_police) (maxL := 6) (ret := (some .boolean)) (by decide) rfl (Nat.le_of_ble_eq_true rfl) ?_
  intro p e s m args below meth c A ls S hr hlk hnm hK hZ hA hW hS hl
  have hl : lv_has ls 6 [(0, .ref o), (1, .int (nI k)), (2, .int (r)), (3, .int (bu)), (4, .int (mk))] := hl
  have iX0 : ∀ w ∈ wsX00, w ∈ wsX4_police := by decide +kernel
  have iX2 : ∀ w ∈ wsX20, w ∈ wsX4_police := by decide +kernel
  have hdg := zd_ng hz
  have hdl := zd_nl hz
  have hdp := zd_np hz
  have hdb := zd_nb hz
  refine lv_aload_n S.1 S.2.1 dX4_police_0 rfl (lv_at hl 0 rfl) ?_
  refine lv_iload_n S.1 S.2.1 dX4_police_1 rfl (lv_at hl 1 rfl) ?_
  refine kx_cV (As := [.int (nI k)]) (rest := []) (st1 := [.ref (eA ee 1 k)]) S hK hZ hA hW hS (c_X4_leafAt_s l G nu x z o ee t k hz hk) (cwV 1 S.2.2.2.2 gX4_police_X4_leafAt rfl rfl rfl (by decide +kernel) ⟨Nat.le_of_ble_eq_true rfl, Nat.le_of_ble_eq_true rfl⟩) (zk_o hz) (by decide) rfl rfl hl.1 rfl (Nat.le_of_ble_eq_true rfl) dX4_police_2 ⟨Nat.le_of_ble_eq_true rfl, Nat.le_of_ble_eq_true rfl⟩ rfl (fun H locs hW hS => ?_)
  refine lv_astore (lv' := [(5, .ref (eA ee 1 k)), (0, .ref o), (1, .int (nI k)), (2, .int (r)), (3, .int (bu)), (4, .int (mk))]) S.1 S.2.1 dX4_police_5 hl (by decide) rfl (fun ls hl => ?_)
  refine lv_aload S.1 S.2.1 dX4_police_7 (lv_at hl 0 rfl) ?_
  refine lv_ifnull S.1 S.2.1 dX4_police_9 ?_
  refine lv_iload_n S.1 S.2.1 dX4_police_12 rfl (lv_at hl 3 rfl) ?_
  refine lv_iconst (v := 0) S.1 S.2.1 dX4_police_13 (by decide) ?_
  refine lv_sipush (v := 1000) S.1 S.2.1 dX4_police_14 (by decide) ?_
  refine kx_cS (As := [.int (r), .int (0), .int (1000)]) (rest := []) (st1 := [.int (kw_b (kw_wi r 0 1000 = true))]) S hK hZ hA hW hS (c_X4_isWithin l G nu x r 0 1000 ) (va_cwS 3 S.2.2.2.2 gX4_police_X4_isWithin rfl rfl rfl (by decide +kernel) ⟨Nat.le_of_ble_eq_true rfl, Nat.le_of_ble_eq_true rfl⟩) rfl hl.1 rfl (Nat.le_of_ble_eq_true rfl) dX4_police_17 ⟨Nat.le_of_ble_eq_true rfl, Nat.le_of_ble_eq_true rfl⟩ rfl (fun H locs hW hS => ?_)
  refine kx_ifz_eq (tgt := 34) S dX4_police_20 (by decide) (fun c1 => ?_) (fun c1 => ?_)
  · skip
    refine lv_iconst (v := 0) S.1 S.2.1 dX4_police_34 (by decide) ?_
    refine kw_zret S hr hlk hW hS (by decide) (by decide) dX4_police_35 kw_n0 ?_
    refine ⟨?_, nuX.rf, ee, ?_, ?_⟩ <;> simp [m_police, m_polok, kw_b, hk, c1] <;> first | exact hz | exact hF
  · skip
    refine lv_iload_n S.1 S.2.1 dX4_police_23 rfl (lv_at hl 4 rfl) ?_
    refine lv_iconst (v := 0) S.1 S.2.1 dX4_police_24 (by decide) ?_
    refine lv_sipush (v := 20000) S.1 S.2.1 dX4_police_25 (by decide) ?_
    refine kx_cS (As := [.int (bu), .int (0), .int (20000)]) (rest := []) (st1 := [.int (kw_b (kw_wi bu 0 20000 = true))]) S hK hZ hA hW hS (c_X4_isWithin l G nu x bu 0 20000 ) (va_cwS 3 S.2.2.2.2 gX4_police_X4_isWithin rfl rfl rfl (by decide +kernel) ⟨Nat.le_of_ble_eq_true rfl, Nat.le_of_ble_eq_true rfl⟩) rfl hl.1 rfl (Nat.le_of_ble_eq_true rfl) dX4_police_28 ⟨Nat.le_of_ble_eq_true rfl, Nat.le_of_ble_eq_true rfl⟩ rfl (fun H locs hW hS => ?_)
    refine kx_ifz_ne (tgt := 36) S dX4_police_31 (by decide) (fun c2 => ?_) (fun c2 => ?_)
    · skip
      refine lv_aload S.1 S.2.1 dX4_police_36 (lv_at hl 0 rfl) ?_
      refine kw_new S hK hW hS hA 1 rfl iX0 tyX0 tyX0_ok (by decide) kw_dvX0 (by decide +kernel) (by decide +kernel) (by decide +kernel) (by decide) (by decide) dX4_police_38 (fun d3 H hd4 hW hS => ?_)
      have n5 : ¬ o = d3 := kw_nb hd4 ((zk_o hz))
      have n6 : ¬ (eA ee 1 k) = d3 := kw_nb hd4 ((zk_l hz (by omega)))
      refine lv_dup S.1 S.2.1 dX4_police_41 rfl ?_
      refine lv_iload_n S.1 S.2.1 dX4_police_42 rfl (lv_at hl 3 rfl) ?_
      refine lv_iload_n S.1 S.2.1 dX4_police_43 rfl (lv_at hl 4 rfl) ?_
      refine kx_cI (As := [.int (r), .int (bu)]) (rest := [.ref d3, .ref (eA ee 1 k)]) (st1 := [.ref d3, .ref (eA ee 1 k)]) S hK hZ hA hW hS (c_X0_init l G ((va_up nu d3 (some 1))) (sNew x d3 (0)) d3 r bu ((va_up_self _ _ _))) (cwI 2 S.2.2.2.2 gX4_police_X0_init rfl rfl rfl (S.2.2.2.2 _ (by decide +kernel)) (S.2.2.2.2 _ (by decide +kernel)) (S.2.2.2.2 _ (by decide +kernel)) rfl (by decide +kernel) ⟨Nat.le_of_ble_eq_true rfl, Nat.le_of_ble_eq_true rfl⟩) rfl hl.1 rfl (Nat.le_of_ble_eq_true rfl) dX4_police_44 ⟨Nat.le_of_ble_eq_true rfl, Nat.le_of_ble_eq_true rfl⟩ rfl (fun H locs hW hS => ?_)
      refine kx_pA S hK hW hS (kw_old hd4 (zk_l hz (by omega))) 5 155  rfl iX2 tyX2_ok nmX2 (by decide) rfl rfl (by decide) (by decide +kernel) (Or.inl rfl) rfl (Or.inl ⟨_, rfl⟩) dX4_police_47 (fun H locs hW hS => ?_)
      refine lv_aload S.1 S.2.1 dX4_police_50 (lv_at hl 0 rfl) ?_
      refine lv_iload S.1 S.2.1 dX4_police_52 (lv_at hl 5 rfl) ?_
      refine kx_pZ S hK hW hS (kw_old hd4 (zk_l hz (by omega))) 6 156  rfl iX2 tyX2_ok nmX2 (by decide) rfl rfl (by decide) (by decide +kernel) (Or.inl rfl) rfl hmk dX4_police_54 (fun H locs hW hS => ?_)
      refine lv_iconst (v := 1) S.1 S.2.1 dX4_police_57 (by decide) ?_
      refine kw_zret S hr hlk hW hS (by decide) (by decide) dX4_police_58 kw_n1 ?_
      have hok : m_polok (eA ee 6 1) k r bu = true := by simp [m_polok, hk, c1, c2]
      refine ⟨by simp [hok, kw_b], nuX.up hd4, fA ee 3 (12 + k) d3, ?_, ?_⟩
      · rw [m_police, if_pos hok]; exact zw_pol hz hk hd4 hok
      · rw [m_police, if_pos hok]; exact hF
    · skip
      refine lv_iconst (v := 0) S.1 S.2.1 dX4_police_34 (by decide) ?_
      refine kw_zret S hr hlk hW hS (by decide) (by decide) dX4_police_35 kw_n0 ?_
      refine ⟨?_, nuX.rf, ee, ?_, ?_⟩ <;> simp [m_police, m_polok, kw_b, hk, c1, c2] <;> first | exact hz | exact hF
