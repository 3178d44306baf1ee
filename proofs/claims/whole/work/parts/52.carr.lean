/-! LinkShaper: arrive -/
set_option maxHeartbeats 1000000 in
set_option maxRecDepth 100000 in
/-- arrive at no class -/
theorem c_X4_arrive_o (l : Launch) (G : kw_G) (nu : Nat → Option Nat) (x z : kw_St) (o : Nat) (ee : kE) (t : mo_T) (ki : Int32) (sz : Int32) (hz : zw G nu z o ee t x) (hki : ∀ k, k < eA ee 6 1 → ki ≠ nI k) : kw_M l G yX4_arrive wsX4_arrive { frames := 7, cells := 0, slots := 0, locals := 171 } 0 0 [.ref o, .int (ki), .int (sz)] nu x (kw_P nu (some (.int (-1))) x) := by
  refine kw_M.ofW (cc := cX4_arrive) (maxL := 6) (ret := (some .int)) (by decide) rfl (Nat.le_of_ble_eq_true rfl) ?_
  intro p e s m args below meth c A ls S hr hlk hnm hK hZ hA hW hS hl
  have hl : lv_has ls 6 [(0, .ref o), (1, .int (ki)), (2, .int (sz))] := hl
  have hdg := zd_ng hz
  have hdl := zd_nl hz
  have hdp := zd_np hz
  have hdb := zd_nb hz
  refine lv_aload_n S.1 S.2.1 dX4_arrive_0 rfl (lv_at hl 0 rfl) ?_
  refine lv_iload_n S.1 S.2.1 dX4_arrive_1 rfl (lv_at hl 1 rfl) ?_
  refine kx_cV (As := [.int (ki)]) (rest := []) (st1 := [.null]) S hK hZ hA hW hS (c_X4_leafAt_o l G nu x z o ee t ki hz hki) (cwV 1 S.2.2.2.2 gX4_arrive_X4_leafAt rfl rfl rfl (by decide +kernel) ⟨Nat.le_of_ble_eq_true rfl, Nat.le_of_ble_eq_true rfl⟩) (zk_o hz) (by decide) rfl rfl hl.1 rfl (Nat.le_of_ble_eq_true rfl) dX4_arrive_2 ⟨Nat.le_of_ble_eq_true rfl, Nat.le_of_ble_eq_true rfl⟩ rfl (fun H locs hW hS => ?_)
  refine lv_astore_nN (lv' := [(3, .null), (0, .ref o), (1, .int (ki)), (2, .int (sz))]) S.1 S.2.1 dX4_arrive_5 rfl hl (by decide) rfl (fun ls hl => ?_)
  refine lv_aload_nN S.1 S.2.1 dX4_arrive_6 rfl (lv_at hl 0 rfl) ?_
  refine lv_ifnullN (tgt := 35) S.1 S.2.1 dX4_arrive_7 (by decide) ?_
  refine lv_iconst (v := (-1)) S.1 S.2.1 dX4_arrive_35 (by decide) ?_
  refine kw_iret S hr hlk hW hS (by decide) (by decide) dX4_arrive_36 ?_
  exact ⟨rfl, rfl, rfl⟩
set_option maxHeartbeats 1000000 in
set_option maxRecDepth 100000 in
/-- arrive -/
theorem c_X4_arrive_s (l : Launch) (G : kw_G) (nu : Nat → Option Nat) (x z : kw_St) (o : Nat) (ee : kE) (t : mo_T) (k : Nat) (sz : Int32) (hz : zw G nu z o ee t x) (hk : k < eA ee 6 1) (hF : zF ee t) (hnp : eA ee 6 2 < 512) : kw_M l G yX4_arrive wsX4_arrive { frames := 7, cells := 2, slots := 777, locals := 171 } 2 777 [.ref o, .int (nI k), .int (sz)] nu x (fun v nu' y => v = some (.int (m_arr t (eA ee 6 1) (eA ee 6 2) k (eA ee 8 k) (plE ee k) sz).1) ∧ nuX nu nu' ∧ ∃ e2, zw G nu' z o e2 ((m_arr t (eA ee 6 1) (eA ee 6 2) k (eA ee 8 k) (plE ee k) sz).2) y ∧ zF e2 ((m_arr t (eA ee 6 1) (eA ee 6 2) k (eA ee 8 k) (plE ee k) sz).2)) := by
  refine kw_M.ofW (cc := cX4_arrive) (maxL := 6) (ret := (some .int)) (by decide) rfl (Nat.le_of_ble_eq_true rfl) ?_
  intro p e s m args below meth c A ls S hr hlk hnm hK hZ hA hW hS hl
  have hl : lv_has ls 6 [(0, .ref o), (1, .int (nI k)), (2, .int (sz))] := hl
  have iX2 : ∀ w ∈ wsX20, w ∈ wsX4_arrive := by decide +kernel
  have iX3 : ∀ w ∈ wsX30, w ∈ wsX4_arrive := by decide +kernel
  have iX4 : ∀ w ∈ wsX40, w ∈ wsX4_arrive := by decide +kernel
  have hdg := zd_ng hz
  have hdl := zd_nl hz
  have hdp := zd_np hz
  have hdb := zd_nb hz
  refine lv_aload_n S.1 S.2.1 dX4_arrive_0 rfl (lv_at hl 0 rfl) ?_
  refine lv_iload_n S.1 S.2.1 dX4_arrive_1 rfl (lv_at hl 1 rfl) ?_
  refine kx_cV (As := [.int (nI k)]) (rest := []) (st1 := [.ref (eA ee 1 k)]) S hK hZ hA hW hS (c_X4_leafAt_s l G nu x z o ee t k hz hk) (cwV 1 S.2.2.2.2 gX4_arrive_X4_leafAt rfl rfl rfl (by decide +kernel) ⟨Nat.le_of_ble_eq_true rfl, Nat.le_of_ble_eq_true rfl⟩) (zk_o hz) (by decide) rfl rfl hl.1 rfl (Nat.le_of_ble_eq_true rfl) dX4_arrive_2 ⟨Nat.le_of_ble_eq_true rfl, Nat.le_of_ble_eq_true rfl⟩ rfl (fun H locs hW hS => ?_)
  refine lv_astore_n (lv' := [(3, .ref (eA ee 1 k)), (0, .ref o), (1, .int (nI k)), (2, .int (sz))]) S.1 S.2.1 dX4_arrive_5 rfl hl (by decide) rfl (fun ls hl => ?_)
  refine lv_aload_n S.1 S.2.1 dX4_arrive_6 rfl (lv_at hl 0 rfl) ?_
  refine lv_ifnull S.1 S.2.1 dX4_arrive_7 ?_
  refine lv_iload_n S.1 S.2.1 dX4_arrive_10 rfl (lv_at hl 3 rfl) ?_
  refine lv_bipush (v := 64) S.1 S.2.1 dX4_arrive_11 (by decide) ?_
  refine lv_sipush (v := 1500) S.1 S.2.1 dX4_arrive_13 (by decide) ?_
  refine kx_cS (As := [.int (sz), .int (64), .int (1500)]) (rest := []) (st1 := [.int (kw_b (kw_wi sz 64 1500 = true))]) S hK hZ hA hW hS (c_X4_isWithin l G nu x sz 64 1500 ) (va_cwS 3 S.2.2.2.2 gX4_arrive_X4_isWithin rfl rfl rfl (by decide +kernel) ⟨Nat.le_of_ble_eq_true rfl, Nat.le_of_ble_eq_true rfl⟩) rfl hl.1 rfl (Nat.le_of_ble_eq_true rfl) dX4_arrive_16 ⟨Nat.le_of_ble_eq_true rfl, Nat.le_of_ble_eq_true rfl⟩ rfl (fun H locs hW hS => ?_)
  refine kx_ifz_eq (tgt := 35) S dX4_arrive_19 (by decide) (fun c1 => ?_) (fun c1 => ?_)
  · skip
    refine lv_iconst (v := (-1)) S.1 S.2.1 dX4_arrive_35 (by decide) ?_
    refine kw_iret S hr hlk hW hS (by first | decide | (have := zc_le (eA ee 10 2) (eA ee 6 2); omega)) (by first | decide | (have := zs_le (c := eA ee 10 2) (n := eA ee 6 2) (by omega); omega)) dX4_arrive_36 ?_
    have hno : ¬ m_arok t (eA ee 6 1) (eA ee 6 2) k sz = true := by simp [m_arok, c1]
    refine ⟨by rw [m_arr, if_neg hno], nuX.rf, ee, ?_, ?_⟩ <;> rw [m_arr, if_neg hno] <;> first | exact hz | exact hF
  · skip
    refine lv_aload_n S.1 S.2.1 dX4_arrive_22 rfl (lv_at hl 1 rfl) ?_
    refine kx_gA S hK hW (zk_o hz) 2 252 rfl iX4 (by decide) rfl rfl (by decide) (by decide +kernel) dX4_arrive_23 (b := (eA ee 4 2)) (zs_list hz (i := 2) (by decide)) ?_
    refine kx_cV (As := []) (rest := []) (st1 := [.int (nI (eA ee 6 2))]) S hK hZ hA hW hS (c_z_size l G hz 2 (by decide)) (cwV 0 S.2.2.2.2 gX4_arrive_Jx4a65c_size_8abf5 rfl rfl rfl (by decide +kernel) ⟨Nat.le_of_ble_eq_true rfl, Nat.le_of_ble_eq_true rfl⟩) (zk_L hz (by decide)) (by decide) rfl rfl hl.1 rfl (Nat.le_of_ble_eq_true rfl) dX4_arrive_26 ⟨Nat.le_of_ble_eq_true rfl, Nat.le_of_ble_eq_true rfl⟩ rfl (fun H locs hW hS => ?_)
    refine lv_sipush (v := 1000) S.1 S.2.1 dX4_arrive_29 (by decide) ?_
    refine lv_icmp_lt (tgt := 37) S.1 S.2.1 dX4_arrive_32 (by decide) (fun c2 => ?_) (fun c2 => ?_)
    · skip
      have hwi : kw_wi sz 64 1500 = true := by assumption
      have hsz : bd sz 64 1500 := wi_bd hwi (by decide) (by decide)
      have hz00 := hz
      have hok : m_arok t (eA ee 6 1) (eA ee 6 2) k sz = true := by have h9 : ¬ eA ee 6 2 = 1000 := (by omega); simp [m_arok, hk, hwi, h9]
      refine lv_aload_n S.1 S.2.1 dX4_arrive_37 rfl (lv_at hl 0 rfl) ?_
      refine lv_iload_n S.1 S.2.1 dX4_arrive_38 rfl (lv_at hl 3 rfl) ?_
      refine kx_cV (As := [.int (sz)]) (rest := []) (st1 := [.int (kw_b (q_pays x ((eA ee 1 k)) sz = true))]) S hK hZ hA hW hS (c_X2_paysPolicer l G nu x ((eA ee 1 k)) sz ((zk_l hz (by omega))) (zl_po hz (by omega))) (cwV 1 S.2.2.2.2 gX4_arrive_X2_paysPolicer rfl rfl rfl (by decide +kernel) ⟨Nat.le_of_ble_eq_true rfl, Nat.le_of_ble_eq_true rfl⟩) ((zk_l hz (by omega))) (by decide) rfl rfl hl.1 rfl (Nat.le_of_ble_eq_true rfl) dX4_arrive_39 ⟨Nat.le_of_ble_eq_true rfl, Nat.le_of_ble_eq_true rfl⟩ rfl (fun H locs hW hS => ?_)
      have hz : zw G nu z o ee (m_arT t k sz) (q_payx x ((eA ee 1 k)) sz) := zw_pay hz hk hsz
      refine lv_istore (lv' := [(4, .int (kw_b (q_pays x ((eA ee 1 k)) sz = true))), (3, .ref (eA ee 1 k)), (0, .ref o), (1, .int (nI k)), (2, .int (sz))]) S.1 S.2.1 dX4_arrive_42 hl (by decide) rfl (fun ls hl => ?_)
      refine lv_iload S.1 S.2.1 dX4_arrive_44 (lv_at hl 0 rfl) ?_
      refine kx_ifz_ne (tgt := 69) S dX4_arrive_46 (by decide) (fun c3 => ?_) (fun c3 => ?_)
      · skip
        have hconf : q_pays x (eA ee 1 k) sz = true := by assumption
        have hpy := (pays_eq hz00 hk).mp hconf
        obtain ⟨hmk, hnR⟩ := arM_0 hpy
        refine lv_iload_n S.1 S.2.1 dX4_arrive_69 rfl (lv_at hl 4 rfl) ?_
        refine lv_aload_n S.1 S.2.1 dX4_arrive_70 rfl (lv_at hl 1 rfl) ?_
        refine kx_gI S hK hW (zk_l hz (by omega)) 4 154 rfl iX2 (by decide) rfl rfl (by decide) (by decide +kernel) dX4_arrive_71 (v := tA (m_arT t k sz) 16 k) (zl hz (by omega)).2.2.2.2.1 ?_
        refine lv_aload_n S.1 S.2.1 dX4_arrive_74 rfl (lv_at hl 1 rfl) ?_
        refine kx_gI S hK hW (zk_l hz (by omega)) 10 160 rfl iX2 (by decide) rfl rfl (by decide) (by decide +kernel) dX4_arrive_75 (v := tA (m_arT t k sz) 20 k) (zl hz (by omega)).2.2.2.2.2.2.2.2.2.2.1 ?_
        refine lv_isub S.1 S.2.1 dX4_arrive_78 ?_
        refine lv_icmp_le (tgt := 95) S.1 S.2.1 dX4_arrive_79 (by decide) (fun c4 => ?_) (fun c4 => ?_)
        · skip
          refine kw_new S hK hW hS hA 4 rfl iX3 tyX3 tyX3_ok (by decide) kw_dvX3 (by decide +kernel) (by decide +kernel) (by decide +kernel) (by decide) (by decide) dX4_arrive_95 (fun d5 H hd6 hW hS => ?_)
          have n7 : ¬ o = d5 := kw_nb hd6 ((zk_o hz))
          have n8 : ¬ (eA ee 4 2) = d5 := kw_nb hd6 ((zk_L hz (by decide)))
          have n9 : ¬ (eA ee 1 k) = d5 := kw_nb hd6 ((zk_l hz (by omega)))
          have n10 : ¬ (eA ee 0 (eA ee 8 k)) = d5 := kw_nb hd6 ((zk_g hz (zd_gr hz (by omega))))
          refine lv_dup S.1 S.2.1 dX4_arrive_98 rfl ?_
          refine lv_aload_n S.1 S.2.1 dX4_arrive_99 rfl (lv_at hl 2 rfl) ?_
          refine kx_gA S hK hW (kw_old hd6 (zk_o hz)) 2 252 rfl iX4 (by decide) rfl rfl (by decide) (by decide +kernel) dX4_arrive_100 (b := (eA ee 4 2)) (by rw [show kR (sNew (q_payx x ((eA ee 1 k)) sz) d5 (0)) 252 o = kR (q_payx x ((eA ee 1 k)) sz) 252 o from (by simp [kI_sNew, kJ_sNew, kR_sNew, kN_sNew, kI_sI, kI_sJ, kI_sR, kI_sA, kI_sB, kI_sC, kJ_sI, kJ_sJ, kJ_sR, kJ_sA, kJ_sB, kJ_sC, kR_sI, kR_sJ, kR_sR, kR_sA, kR_sB, kR_sC, kA_sI, kA_sJ, kA_sR, kA_sA, kA_sB, kA_sC, kB_sI, kB_sJ, kB_sR, kB_sA, kB_sB, kB_sC, kC_sI, kC_sJ, kC_sR, kC_sA, kC_sB, kC_sC, kN_sI, kN_sJ, kN_sR, kN_sA, kN_sB, kN_sC, n7, Ne.symm n7, n8, Ne.symm n8, n9, Ne.symm n9, n10, Ne.symm n10])]; exact (zs_list hz (i := 2) (by decide))) ?_
          refine kx_cV (As := []) (rest := [.ref d5, .ref d5]) (st1 := [.int (kI (sNew (q_payx x ((eA ee 1 k)) sz) d5 (0)) 2 ((eA ee 4 2))), .ref d5, .ref d5]) S hK hZ hA hW hS (c_Jx4a65c_size_8abf5 l G ((va_up nu d5 (some 4))) (sNew (q_payx x ((eA ee 1 k)) sz) d5 (0)) ((eA ee 4 2)) ((kw_old hd6 (zk_L hz (by decide))))) (cwV 0 S.2.2.2.2 gX4_arrive_Jx4a65c_size_8abf5 rfl rfl rfl (by decide +kernel) ⟨Nat.le_of_ble_eq_true rfl, Nat.le_of_ble_eq_true rfl⟩) ((kw_old hd6 (zk_L hz (by decide)))) (by decide) rfl rfl hl.1 rfl (Nat.le_of_ble_eq_true rfl) dX4_arrive_103 ⟨Nat.le_of_ble_eq_true rfl, Nat.le_of_ble_eq_true rfl⟩ rfl (fun H locs hW hS => ?_)
          rw [show kI (sNew (q_payx x ((eA ee 1 k)) sz) d5 (0)) 2 ((eA ee 4 2)) = nI (eA ee 6 2) from by rw [kI_sNew, if_neg (kw_nb hd6 (zk_L hz (by decide)))]; exact zs_n hz (by decide)]
          refine lv_iload_n S.1 S.2.1 dX4_arrive_106 rfl (lv_at hl 3 rfl) ?_
          refine lv_iload_n S.1 S.2.1 dX4_arrive_107 rfl (lv_at hl 4 rfl) ?_
          refine lv_aload_n S.1 S.2.1 dX4_arrive_108 rfl (lv_at hl 2 rfl) ?_
          refine kx_gI S hK hW (kw_old hd6 (zk_o hz)) 4 254 rfl iX4 (by decide) rfl rfl (by decide) (by decide +kernel) dX4_arrive_109 (v := kI (q_payx x ((eA ee 1 k)) sz) 254 o) (by simp [kI_sNew, kJ_sNew, kR_sNew, kN_sNew, kI_sI, kI_sJ, kI_sR, kI_sA, kI_sB, kI_sC, kJ_sI, kJ_sJ, kJ_sR, kJ_sA, kJ_sB, kJ_sC, kR_sI, kR_sJ, kR_sR, kR_sA, kR_sB, kR_sC, kA_sI, kA_sJ, kA_sR, kA_sA, kA_sB, kA_sC, kB_sI, kB_sJ, kB_sR, kB_sA, kB_sB, kB_sC, kC_sI, kC_sJ, kC_sR, kC_sA, kC_sB, kC_sC, kN_sI, kN_sJ, kN_sR, kN_sA, kN_sB, kN_sC, n7, Ne.symm n7, n8, Ne.symm n8, n9, Ne.symm n9, n10, Ne.symm n10]) ?_
          refine lv_iload S.1 S.2.1 dX4_arrive_112 (lv_at hl 0 rfl) ?_
          refine kx_ifz_ne (tgt := 121) S dX4_arrive_114 (by decide) (fun c11 => ?_) (fun c11 => ?_)
          · skip
            refine lv_iconst (v := 0) S.1 S.2.1 dX4_arrive_121 (by decide) ?_
            refine kx_cI (As := [.int (nI (eA ee 6 2)), .int (nI k), .int (sz), .int (kI (q_payx x ((eA ee 1 k)) sz) 254 o), .int (0)]) (rest := [.ref d5]) (st1 := [.ref d5]) S hK hZ hA hW hS (c_X3_init l G ((va_up nu d5 (some 4))) (sNew (q_payx x ((eA ee 1 k)) sz) d5 (0)) d5 (nI (eA ee 6 2)) (nI k) sz (kI (q_payx x ((eA ee 1 k)) sz) 254 o) 0 ((va_up_self _ _ _)) (Or.inl rfl)) (cwI 5 S.2.2.2.2 gX4_arrive_X3_init rfl rfl rfl (S.2.2.2.2 _ (by decide +kernel)) (S.2.2.2.2 _ (by decide +kernel)) (S.2.2.2.2 _ (by decide +kernel)) rfl (by decide +kernel) ⟨Nat.le_of_ble_eq_true rfl, Nat.le_of_ble_eq_true rfl⟩) rfl hl.1 rfl (Nat.le_of_ble_eq_true rfl) dX4_arrive_122 ⟨Nat.le_of_ble_eq_true rfl, Nat.le_of_ble_eq_true rfl⟩ rfl (fun H locs hW hS => ?_)
            refine lv_astore (lv' := [(5, .ref d5), (4, .int (kw_b (q_pays x ((eA ee 1 k)) sz = true))), (3, .ref (eA ee 1 k)), (0, .ref o), (1, .int (nI k)), (2, .int (sz))]) S.1 S.2.1 dX4_arrive_125 hl (by decide) rfl (fun ls hl => ?_)
            refine lv_aload_n S.1 S.2.1 dX4_arrive_127 rfl (lv_at hl 2 rfl) ?_
            refine lv_aload_n S.1 S.2.1 dX4_arrive_128 rfl (lv_at hl 3 rfl) ?_
            refine kx_gJ S hK hW (kw_old hd6 (zk_o hz)) 8 258 rfl iX4 (by decide) rfl rfl (by decide) (by decide +kernel) dX4_arrive_129 (v := kJ (q_payx x ((eA ee 1 k)) sz) 258 o) (by simp [kI_sNew, kJ_sNew, kR_sNew, kN_sNew, kI_sI, kI_sJ, kI_sR, kI_sA, kI_sB, kI_sC, kJ_sI, kJ_sJ, kJ_sR, kJ_sA, kJ_sB, kJ_sC, kR_sI, kR_sJ, kR_sR, kR_sA, kR_sB, kR_sC, kA_sI, kA_sJ, kA_sR, kA_sA, kA_sB, kA_sC, kB_sI, kB_sJ, kB_sR, kB_sA, kB_sB, kB_sC, kC_sI, kC_sJ, kC_sR, kC_sA, kC_sB, kC_sC, kN_sI, kN_sJ, kN_sR, kN_sA, kN_sB, kN_sC, n7, Ne.symm n7, n8, Ne.symm n8, n9, Ne.symm n9, n10, Ne.symm n10]) ?_
            have hag2 : ∀ c, c ≠ d5 → kw_ag c (q_payx x ((eA ee 1 k)) sz) (sI (sI (sI (sI (sI (sI (sI (sI (sNew (q_payx x ((eA ee 1 k)) sz) d5 (0)) 200 d5 (nI (eA ee 6 2))) 201 d5 (nI k)) 202 d5 sz) 203 d5 (kI (q_payx x ((eA ee 1 k)) sz) 254 o)) 204 d5 0) 205 d5 (-1)) 206 d5 0) 207 d5 (-1)) := fun c hc => ag_sI (ag_sI (ag_sI (ag_sI (ag_sI (ag_sI (ag_sI (ag_sI (ag_sNew kw_ag.rf hc) hc) hc) hc) hc) hc) hc) hc) hc
            have hnA := kw_nb hd6 (zk_l hz hk)
            have hnG := kw_nb hd6 (zk_g hz (zd_gr hz hk))
            refine kx_cV (As := [.long (kJ (q_payx x ((eA ee 1 k)) sz) 258 o)]) (rest := []) (st1 := []) S hK hZ hA hW hS (c_X2_catchUp l G ((va_up nu d5 (some 4))) (sI (sI (sI (sI (sI (sI (sI (sI (sNew (q_payx x ((eA ee 1 k)) sz) d5 (0)) 200 d5 (nI (eA ee 6 2))) 201 d5 (nI k)) 202 d5 sz) 203 d5 (kI (q_payx x ((eA ee 1 k)) sz) 254 o)) 204 d5 0) 205 d5 (-1)) 206 d5 0) 207 d5 (-1)) ((eA ee 1 k)) (kJ (q_payx x ((eA ee 1 k)) sz) 258 o) (eA ee 0 (eA ee 8 k)) ((kw_old hd6 (zk_l hz (by omega)))) ((kw_old hd6 (zk_g hz (zd_gr hz (by omega))))) (((hag2 _ hnA).2.2.1 150).trans (zl_gr hz hk)) (fun q hq => kw_old hd6 (zl_fi hz hk q (by rw [← (hag2 _ hnA).2.2.1 157]; exact hq)))) (cwV 1 S.2.2.2.2 gX4_arrive_X2_catchUp rfl rfl rfl (by decide +kernel) ⟨Nat.le_of_ble_eq_true rfl, Nat.le_of_ble_eq_true rfl⟩) ((kw_old hd6 (zk_l hz (by omega)))) (by decide) rfl rfl hl.1 rfl (Nat.le_of_ble_eq_true rfl) dX4_arrive_132 ⟨Nat.le_of_ble_eq_true rfl, Nat.le_of_ble_eq_true rfl⟩ rfl (fun H locs hW hS => ?_)
            refine lv_aload_n S.1 S.2.1 dX4_arrive_135 rfl (lv_at hl 2 rfl) ?_
            refine lv_aload S.1 S.2.1 dX4_arrive_136 (lv_at hl 0 rfl) ?_
            refine kx_cV (As := [.ref d5]) (rest := []) (st1 := []) S hK hZ hA hW hS (c_X2_append l G ((va_up nu d5 (some 4))) (q_catch (sI (sI (sI (sI (sI (sI (sI (sI (sNew (q_payx x ((eA ee 1 k)) sz) d5 (0)) 200 d5 (nI (eA ee 6 2))) 201 d5 (nI k)) 202 d5 sz) 203 d5 (kI (q_payx x ((eA ee 1 k)) sz) 254 o)) 204 d5 0) 205 d5 (-1)) 206 d5 0) 207 d5 (-1)) ((eA ee 1 k)) (eA ee 0 (eA ee 8 k)) (kJ (q_payx x ((eA ee 1 k)) sz) 258 o)) ((eA ee 1 k)) d5 (eA ee 0 (eA ee 8 k)) ((kw_old hd6 (zk_l hz (by omega)))) ((kw_old hd6 (zk_g hz (zd_gr hz (by omega))))) ((va_up_self _ _ _)) (by rw [(catch_R _ _ _ _).1]; exact ((hag2 _ hnA).2.2.1 150).trans (zl_gr hz hk)) (fun q hq => kw_old hd6 (zl_la hz hk q (by rw [(catch_R _ _ _ _).1, (hag2 _ hnA).2.2.1 158] at hq; exact hq)))) (cwV 1 S.2.2.2.2 gX4_arrive_X2_append rfl rfl rfl (by decide +kernel) ⟨Nat.le_of_ble_eq_true rfl, Nat.le_of_ble_eq_true rfl⟩) ((kw_old hd6 (zk_l hz (by omega)))) (by decide) rfl rfl hl.1 rfl (Nat.le_of_ble_eq_true rfl) dX4_arrive_138 ⟨Nat.le_of_ble_eq_true rfl, Nat.le_of_ble_eq_true rfl⟩ rfl (fun H locs hW hS => ?_)
            have hxo : ∀ c q, nu c = some q → q ≠ 3 → q ≠ 2 → q ≠ 4 → kw_ag c (q_payx x ((eA ee 1 k)) sz) (q_app (q_catch (sI (sI (sI (sI (sI (sI (sI (sI (sNew (q_payx x ((eA ee 1 k)) sz) d5 (0)) 200 d5 (nI (eA ee 6 2))) 201 d5 (nI k)) 202 d5 sz) 203 d5 (kI (q_payx x ((eA ee 1 k)) sz) 254 o)) 204 d5 0) 205 d5 (-1)) 206 d5 0) 207 d5 (-1)) ((eA ee 1 k)) (eA ee 0 (eA ee 8 k)) (kJ (q_payx x ((eA ee 1 k)) sz) 258 o)) ((eA ee 1 k)) (eA ee 0 (eA ee 8 k)) d5) := arr_oth hz hk hd6 hag2
            have hL2 : kR (q_app (q_catch (sI (sI (sI (sI (sI (sI (sI (sI (sNew (q_payx x ((eA ee 1 k)) sz) d5 (0)) 200 d5 (nI (eA ee 6 2))) 201 d5 (nI k)) 202 d5 sz) 203 d5 (kI (q_payx x ((eA ee 1 k)) sz) 254 o)) 204 d5 0) 205 d5 (-1)) 206 d5 0) 207 d5 (-1)) ((eA ee 1 k)) (eA ee 0 (eA ee 8 k)) (kJ (q_payx x ((eA ee 1 k)) sz) 258 o)) ((eA ee 1 k)) (eA ee 0 (eA ee 8 k)) d5) 252 o = some (eA ee 4 2) := ((hxo o 5 (zk_o hz) (by decide) (by decide) (by decide)).2.2.1 252).trans (zs_list hz (i := 2) (by decide))
            refine lv_aload_n S.1 S.2.1 dX4_arrive_141 rfl (lv_at hl 3 rfl) ?_
            refine kx_gA S hK hW (kw_old hd6 (zk_o hz)) 2 252 rfl iX4 (by decide) rfl rfl (by decide) (by decide +kernel) dX4_arrive_142 (b := (eA ee 4 2)) hL2 ?_
            refine lv_aload S.1 S.2.1 dX4_arrive_145 (lv_at hl 0 rfl) ?_
            have hX : nuX nu (va_up nu d5 (some 4)) := nuX.up hd6
            have hLs : zLs G (va_up nu d5 (some 4)) o ee (q_app (q_catch (sI (sI (sI (sI (sI (sI (sI (sI (sNew (q_payx x ((eA ee 1 k)) sz) d5 (0)) 200 d5 (nI (eA ee 6 2))) 201 d5 (nI k)) 202 d5 sz) 203 d5 (kI (q_payx x ((eA ee 1 k)) sz) 254 o)) 204 d5 0) 205 d5 (-1)) 206 d5 0) 207 d5 (-1)) ((eA ee 1 k)) (eA ee 0 (eA ee 8 k)) (kJ (q_payx x ((eA ee 1 k)) sz) 258 o)) ((eA ee 1 k)) (eA ee 0 (eA ee 8 k)) d5) := zLs_nu hX hz.2.1 (zLs_ag hz.2.1 (fun c q h hq => hxo c q h (by omega) (by omega) (by omega)) hz.2.2.1.1)
            have hKz := zK_nu hX hz.2.1
            refine kw_callV (As := [.ref d5]) (rest := []) S hK hZ hA hW hS (c_z_add l G (va_up nu d5 (some 4)) (q_app (q_catch (sI (sI (sI (sI (sI (sI (sI (sI (sNew (q_payx x ((eA ee 1 k)) sz) d5 (0)) 200 d5 (nI (eA ee 6 2))) 201 d5 (nI k)) 202 d5 sz) 203 d5 (kI (q_payx x ((eA ee 1 k)) sz) 254 o)) 204 d5 0) 205 d5 (-1)) 206 d5 0) 207 d5 (-1)) ((eA ee 1 k)) (eA ee 0 (eA ee 8 k)) (kJ (q_payx x ((eA ee 1 k)) sz) 258 o)) ((eA ee 1 k)) (eA ee 0 (eA ee 8 k)) d5) (eA ee 4 2) (eA ee 5 2) (eA ee 6 2) d5 4 (kw_old hd6 (zk_L hz (by decide))) (va_up_self _ _ _) (by decide) hKz.2.2.2.2.2.2.1 hLs.2.1 (hLs.1 2 (by decide)).2.1 (hLs.1 2 (by decide)).2.2.1 (eA ee 10 2) (hLs.1 2 (by decide)).2.2.2.1 (hLs.1 2 (by decide)).2.2.2.2 hnp (fun j y hj hy => ⟨4, by have h9 := hLs.2.2.2.1 2 (by decide) j hj; rw [hy] at h9; cases h9; exact hKz.2.2.2.2.1 j hj, by decide⟩)) (cwV 1 S.2.2.2.2 gX4_arrive_Jx4a65c_add_9ea2d rfl rfl rfl (by decide +kernel) ⟨Nat.le_of_ble_eq_true rfl, Nat.le_of_ble_eq_true rfl⟩) (kw_old hd6 (zk_L hz (by decide))) (by decide) rfl rfl hl.1 rfl (Nat.le_of_ble_eq_true rfl) dX4_arrive_147 ⟨by show _ ≤ 2; have := zc_le (eA ee 10 2) (eA ee 6 2); omega, by show _ ≤ 777; have := zs_le (c := eA ee 10 2) (n := eA ee 6 2) (by omega); omega⟩ (fun v nu9 y1 H locs hp hW hS => ?_)
            obtain ⟨ev, D1, hadd⟩ := hp
            subst ev
            refine W.eq (g2 := F0 m 150 ls [.int (1)]) rfl ?_
            have ho1 := zAdd_ag hadd (hKz.2.1 2 (by decide)) hKz.1 (by decide) (by decide)
            have hL1 : kR y1 252 o = some (eA ee 4 2) := (ho1.2.2.1 _).trans (hLs.1 2 (by decide)).1
            refine lv_pop S.1 S.2.1 dX4_arrive_150 rfl ?_
            refine lv_aload S.1 S.2.1 dX4_arrive_151 (lv_at hl 0 rfl) ?_
            refine kx_gI S hK hW (hadd.nu _ _ (va_up_self _ _ _)) 0 200 rfl iX3 (by decide) rfl rfl (by decide) (by decide +kernel) dX4_arrive_153 (v := kI y1 200 d5) rfl ?_
            refine kw_iret S hr hlk hW hS (by first | decide | (have := zc_le (eA ee 10 2) (eA ee 6 2); omega)) (by first | decide | (have := zs_le (c := eA ee 10 2) (n := eA ee 6 2) (by omega); omega)) dX4_arrive_156 ?_
            have hli : tA t 20 k + sz ≤ tA t 16 k := (lim_iff hz00.1 hk hsz).mp (by rw [← m_arT_A t k sz 16, ← m_arT_A t k sz 20]; exact c4)
            have hdx := zAdd_ag hadd (hKz.2.1 2 (by decide)) (va_up_self nu d5 (some 4)) (by decide) (by decide)
            have hdn : ∀ c, d5 ≠ c ∨ True := fun _ => Or.inr trivial
            have hdA : d5 ≠ eA ee 1 k := fun h => hnA h.symm
            have hdG : d5 ≠ eA ee 0 (eA ee 8 k) := fun h => hnG h.symm
            have hzS := zw_catch hz hk
            rw [← arS_eq, ← (zsh hz).2.2.2.2] at hzS
            have hfd : ∀ i, kI (q_catch (sI (sI (sI (sI (sI (sI (sI (sI (sNew (q_payx x ((eA ee 1 k)) sz) d5 (0)) 200 d5 (nI (eA ee 6 2))) 201 d5 (nI k)) 202 d5 sz) 203 d5 (kI (q_payx x ((eA ee 1 k)) sz) 254 o)) 204 d5 0) 205 d5 (-1)) 206 d5 0) 207 d5 (-1)) ((eA ee 1 k)) (eA ee 0 (eA ee 8 k)) (kJ (q_payx x ((eA ee 1 k)) sz) 258 o)) i d5 = kI (sI (sI (sI (sI (sI (sI (sI (sI (sNew (q_payx x ((eA ee 1 k)) sz) d5 (0)) 200 d5 (nI (eA ee 6 2))) 201 d5 (nI k)) 202 d5 sz) 203 d5 (kI (q_payx x ((eA ee 1 k)) sz) 254 o)) 204 d5 0) 205 d5 (-1)) 206 d5 0) 207 d5 (-1)) i d5 := fun i => congrFun (congrFun (catch_R _ _ _ _).2 i) d5
            have h4d : kI (q_app (q_catch (sI (sI (sI (sI (sI (sI (sI (sI (sNew (q_payx x ((eA ee 1 k)) sz) d5 (0)) 200 d5 (nI (eA ee 6 2))) 201 d5 (nI k)) 202 d5 sz) 203 d5 (kI (q_payx x ((eA ee 1 k)) sz) 254 o)) 204 d5 0) 205 d5 (-1)) 206 d5 0) 207 d5 (-1)) ((eA ee 1 k)) (eA ee 0 (eA ee 8 k)) (kJ (q_payx x ((eA ee 1 k)) sz) 258 o)) ((eA ee 1 k)) (eA ee 0 (eA ee 8 k)) d5) 200 d5 = nI (eA ee 6 2) := by simp only [app_I, hfd]; simp [kI_sI, kI_sNew, hdA, hdG]
            refine ⟨?_, hX.tr hadd.nu, z_ep ee k d5 D1, ?_, ?_⟩
            · rw [m_arr, if_pos hok, if_neg hnR, if_pos hli, hdx.1, h4d]
            · rw [m_arr, if_pos hok, if_neg hnR, if_pos hli]; show zw G nu9 z o _ (m_arF _ t k (eA ee 6 2) (plE ee k) sz) y1; rw [arF_eq, hmk]
              refine zw_arr hzS hk hnp hsz (plE_1 ee k) (plE_2 hzS.1 hk) hd6 (fun c hc => catch_ag (hag2 _ hnA) (hag2 _ hnG) (hag2 c hc)) ?_ hadd
              refine ⟨?_, ?_, ?_, ?_, ?_, ?_, ?_, ?_, ?_⟩ <;> first | (rw [hfd]; simp [kI_sI, kI_sNew]; done) | (rw [hfd]; simp only [kI_sI, kI_sNew]; simp; rw [(zsh hz).1, m_arS_F, m_arT_F]; done) | (rw [(catch_R _ _ _ _).1]; simp [kR_sI, kR_sNew]; done)
            · rw [m_arr, if_pos hok, if_neg hnR, if_pos hli]; show zF _ (m_arF _ t k (eA ee 6 2) (plE ee k) sz); rw [arF_eq]; unfold zF; rw [ta_F, if_neg (by decide), ta_F, if_neg (by decide), m_arS_F, m_arS_F, ep_o _ _ _ _ 9 _ (by decide)]; exact hF
          · skip
            exact absurd hconf c11
        · skip
          refine lv_aload_n S.1 S.2.1 dX4_arrive_82 rfl (lv_at hl 1 rfl) ?_
          refine lv_dup S.1 S.2.1 dX4_arrive_83 rfl ?_
          refine kx_gI S hK hW (zk_l hz (by omega)) 14 164 rfl iX2 (by decide) rfl rfl (by decide) (by decide +kernel) dX4_arrive_84 (v := tA (m_arT t k sz) 24 k) (zl hz (by omega)).2.2.2.2.2.2.2.2.2.2.2.2.2.2.1 ?_
          refine lv_iconst (v := 1) S.1 S.2.1 dX4_arrive_87 (by decide) ?_
          refine lv_iadd S.1 S.2.1 dX4_arrive_88 ?_
          refine kx_pI S hK hW hS (zk_l hz (by omega)) 14 164  rfl iX2 tyX2_ok nmX2 (by decide) rfl rfl (by decide) (by decide +kernel) (Or.inl rfl) rfl dX4_arrive_89 (fun H locs hW hS => ?_)
          refine lv_bipush (v := (-3)) S.1 S.2.1 dX4_arrive_92 (by decide) ?_
          refine kw_iret S hr hlk hW hS (by first | decide | (have := zc_le (eA ee 10 2) (eA ee 6 2); omega)) (by first | decide | (have := zs_le (c := eA ee 10 2) (n := eA ee 6 2) (by omega); omega)) dX4_arrive_94 ?_
          have hnl : ¬ tA t 20 k + sz ≤ tA t 16 k := fun h9 => absurd ((lim_iff hz00.1 hk hsz).mpr h9) (by rw [← m_arT_A t k sz, ← m_arT_A t k sz]; exact c4)
          refine ⟨by rw [m_arr, if_pos hok, if_neg hnR, if_neg hnl], nuX.rf, ee, ?_, ?_⟩ <;> rw [m_arr, if_pos hok, if_neg hnR, if_neg hnl]
          · have h9 := zw_164 hz hk (tA (m_arT t k sz) 24 k + 1); rw [m_arT_A] at h9; rw [m_arT_A]; exact h9
          · exact ⟨fun h9 => by rw [show tF (uA (m_arT t k sz) 24 k (tA t 24 k + 1)) 7 = tF t 7 from m_arT_F t k sz 7] at h9; show _ ≤ tF (m_arT t k sz) 1; rw [m_arT_F]; exact hF.1 h9, fun h9 => by rw [show tF (uA (m_arT t k sz) 24 k (tA t 24 k + 1)) 7 = tF t 7 from m_arT_F t k sz 7] at h9; show _ = tF (m_arT t k sz) 1 + tF (m_arT t k sz) 7; rw [m_arT_F, m_arT_F]; exact hF.2 h9⟩
      · skip
        have hconf : ¬ q_pays x (eA ee 1 k) sz = true := by assumption
        have hpn := Classical.not_not.mp (fun h9 => hconf ((pays_eq hz00 hk).mpr h9))
        have hTt : m_arT t k sz = t := by simp [m_arT, hpn.1, hpn.2]
        refine lv_aload_n S.1 S.2.1 dX4_arrive_49 rfl (lv_at hl 1 rfl) ?_
        refine kx_gI S hK hW (zk_l hz (by omega)) 6 156 rfl iX2 (by decide) rfl rfl (by decide) (by decide +kernel) dX4_arrive_50 (v := tA (m_arT t k sz) 29 k) (zl hz (by omega)).2.2.2.2.2.2.1 ?_
        refine lv_if_ne (tgt := 69) S.1 S.2.1 dX4_arrive_53 (by decide) (fun c12 => ?_) (fun c12 => ?_)
        · skip
          have hnR : ¬ m_arR t k sz = true := by have h9 : ¬ tA t 29 k = 0 := (by rw [← m_arT_A t k sz]; assumption); simp [m_arR, h9]
          have hmk : m_arM t k sz = 1 := by simp [m_arM, hpn.1, hpn.2]
          refine lv_iload_n S.1 S.2.1 dX4_arrive_69 rfl (lv_at hl 4 rfl) ?_
          refine lv_aload_n S.1 S.2.1 dX4_arrive_70 rfl (lv_at hl 1 rfl) ?_
          refine kx_gI S hK hW (zk_l hz (by omega)) 4 154 rfl iX2 (by decide) rfl rfl (by decide) (by decide +kernel) dX4_arrive_71 (v := tA (m_arT t k sz) 16 k) (zl hz (by omega)).2.2.2.2.1 ?_
          refine lv_aload_n S.1 S.2.1 dX4_arrive_74 rfl (lv_at hl 1 rfl) ?_
          refine kx_gI S hK hW (zk_l hz (by omega)) 10 160 rfl iX2 (by decide) rfl rfl (by decide) (by decide +kernel) dX4_arrive_75 (v := tA (m_arT t k sz) 20 k) (zl hz (by omega)).2.2.2.2.2.2.2.2.2.2.1 ?_
          refine lv_isub S.1 S.2.1 dX4_arrive_78 ?_
          refine lv_icmp_le (tgt := 95) S.1 S.2.1 dX4_arrive_79 (by decide) (fun c13 => ?_) (fun c13 => ?_)
          · skip
            refine kw_new S hK hW hS hA 4 rfl iX3 tyX3 tyX3_ok (by decide) kw_dvX3 (by decide +kernel) (by decide +kernel) (by decide +kernel) (by decide) (by decide) dX4_arrive_95 (fun d14 H hd15 hW hS => ?_)
            have n16 : ¬ o = d14 := kw_nb hd15 ((zk_o hz))
            have n17 : ¬ (eA ee 4 2) = d14 := kw_nb hd15 ((zk_L hz (by decide)))
            have n18 : ¬ (eA ee 1 k) = d14 := kw_nb hd15 ((zk_l hz (by omega)))
            have n19 : ¬ (eA ee 0 (eA ee 8 k)) = d14 := kw_nb hd15 ((zk_g hz (zd_gr hz (by omega))))
            refine lv_dup S.1 S.2.1 dX4_arrive_98 rfl ?_
            refine lv_aload_n S.1 S.2.1 dX4_arrive_99 rfl (lv_at hl 2 rfl) ?_
            refine kx_gA S hK hW (kw_old hd15 (zk_o hz)) 2 252 rfl iX4 (by decide) rfl rfl (by decide) (by decide +kernel) dX4_arrive_100 (b := (eA ee 4 2)) (by rw [show kR (sNew (q_payx x ((eA ee 1 k)) sz) d14 (0)) 252 o = kR (q_payx x ((eA ee 1 k)) sz) 252 o from (by simp [kI_sNew, kJ_sNew, kR_sNew, kN_sNew, kI_sI, kI_sJ, kI_sR, kI_sA, kI_sB, kI_sC, kJ_sI, kJ_sJ, kJ_sR, kJ_sA, kJ_sB, kJ_sC, kR_sI, kR_sJ, kR_sR, kR_sA, kR_sB, kR_sC, kA_sI, kA_sJ, kA_sR, kA_sA, kA_sB, kA_sC, kB_sI, kB_sJ, kB_sR, kB_sA, kB_sB, kB_sC, kC_sI, kC_sJ, kC_sR, kC_sA, kC_sB, kC_sC, kN_sI, kN_sJ, kN_sR, kN_sA, kN_sB, kN_sC, n16, Ne.symm n16, n17, Ne.symm n17, n18, Ne.symm n18, n19, Ne.symm n19])]; exact (zs_list hz (i := 2) (by decide))) ?_
            refine kx_cV (As := []) (rest := [.ref d14, .ref d14]) (st1 := [.int (kI (sNew (q_payx x ((eA ee 1 k)) sz) d14 (0)) 2 ((eA ee 4 2))), .ref d14, .ref d14]) S hK hZ hA hW hS (c_Jx4a65c_size_8abf5 l G ((va_up nu d14 (some 4))) (sNew (q_payx x ((eA ee 1 k)) sz) d14 (0)) ((eA ee 4 2)) ((kw_old hd15 (zk_L hz (by decide))))) (cwV 0 S.2.2.2.2 gX4_arrive_Jx4a65c_size_8abf5 rfl rfl rfl (by decide +kernel) ⟨Nat.le_of_ble_eq_true rfl, Nat.le_of_ble_eq_true rfl⟩) ((kw_old hd15 (zk_L hz (by decide)))) (by decide) rfl rfl hl.1 rfl (Nat.le_of_ble_eq_true rfl) dX4_arrive_103 ⟨Nat.le_of_ble_eq_true rfl, Nat.le_of_ble_eq_true rfl⟩ rfl (fun H locs hW hS => ?_)
            rw [show kI (sNew (q_payx x ((eA ee 1 k)) sz) d14 (0)) 2 ((eA ee 4 2)) = nI (eA ee 6 2) from by rw [kI_sNew, if_neg (kw_nb hd15 (zk_L hz (by decide)))]; exact zs_n hz (by decide)]
            refine lv_iload_n S.1 S.2.1 dX4_arrive_106 rfl (lv_at hl 3 rfl) ?_
            refine lv_iload_n S.1 S.2.1 dX4_arrive_107 rfl (lv_at hl 4 rfl) ?_
            refine lv_aload_n S.1 S.2.1 dX4_arrive_108 rfl (lv_at hl 2 rfl) ?_
            refine kx_gI S hK hW (kw_old hd15 (zk_o hz)) 4 254 rfl iX4 (by decide) rfl rfl (by decide) (by decide +kernel) dX4_arrive_109 (v := kI (q_payx x ((eA ee 1 k)) sz) 254 o) (by simp [kI_sNew, kJ_sNew, kR_sNew, kN_sNew, kI_sI, kI_sJ, kI_sR, kI_sA, kI_sB, kI_sC, kJ_sI, kJ_sJ, kJ_sR, kJ_sA, kJ_sB, kJ_sC, kR_sI, kR_sJ, kR_sR, kR_sA, kR_sB, kR_sC, kA_sI, kA_sJ, kA_sR, kA_sA, kA_sB, kA_sC, kB_sI, kB_sJ, kB_sR, kB_sA, kB_sB, kB_sC, kC_sI, kC_sJ, kC_sR, kC_sA, kC_sB, kC_sC, kN_sI, kN_sJ, kN_sR, kN_sA, kN_sB, kN_sC, n16, Ne.symm n16, n17, Ne.symm n17, n18, Ne.symm n18, n19, Ne.symm n19]) ?_
            refine lv_iload S.1 S.2.1 dX4_arrive_112 (lv_at hl 0 rfl) ?_
            refine kx_ifz_ne (tgt := 121) S dX4_arrive_114 (by decide) (fun c20 => ?_) (fun c20 => ?_)
            · skip
              exact absurd c20 hconf
            · skip
              refine lv_iconst (v := 1) S.1 S.2.1 dX4_arrive_117 (by decide) ?_
              refine lv_goto (tgt := 122) S.1 S.2.1 dX4_arrive_118 (by decide) ?_
              refine kx_cI (As := [.int (nI (eA ee 6 2)), .int (nI k), .int (sz), .int (kI (q_payx x ((eA ee 1 k)) sz) 254 o), .int (1)]) (rest := [.ref d14]) (st1 := [.ref d14]) S hK hZ hA hW hS (c_X3_init l G ((va_up nu d14 (some 4))) (sNew (q_payx x ((eA ee 1 k)) sz) d14 (0)) d14 (nI (eA ee 6 2)) (nI k) sz (kI (q_payx x ((eA ee 1 k)) sz) 254 o) 1 ((va_up_self _ _ _)) (Or.inr rfl)) (cwI 5 S.2.2.2.2 gX4_arrive_X3_init rfl rfl rfl (S.2.2.2.2 _ (by decide +kernel)) (S.2.2.2.2 _ (by decide +kernel)) (S.2.2.2.2 _ (by decide +kernel)) rfl (by decide +kernel) ⟨Nat.le_of_ble_eq_true rfl, Nat.le_of_ble_eq_true rfl⟩) rfl hl.1 rfl (Nat.le_of_ble_eq_true rfl) dX4_arrive_122 ⟨Nat.le_of_ble_eq_true rfl, Nat.le_of_ble_eq_true rfl⟩ rfl (fun H locs hW hS => ?_)
              refine lv_astore (lv' := [(5, .ref d14), (4, .int (kw_b (q_pays x ((eA ee 1 k)) sz = true))), (3, .ref (eA ee 1 k)), (0, .ref o), (1, .int (nI k)), (2, .int (sz))]) S.1 S.2.1 dX4_arrive_125 hl (by decide) rfl (fun ls hl => ?_)
              refine lv_aload_n S.1 S.2.1 dX4_arrive_127 rfl (lv_at hl 2 rfl) ?_
              refine lv_aload_n S.1 S.2.1 dX4_arrive_128 rfl (lv_at hl 3 rfl) ?_
              refine kx_gJ S hK hW (kw_old hd15 (zk_o hz)) 8 258 rfl iX4 (by decide) rfl rfl (by decide) (by decide +kernel) dX4_arrive_129 (v := kJ (q_payx x ((eA ee 1 k)) sz) 258 o) (by simp [kI_sNew, kJ_sNew, kR_sNew, kN_sNew, kI_sI, kI_sJ, kI_sR, kI_sA, kI_sB, kI_sC, kJ_sI, kJ_sJ, kJ_sR, kJ_sA, kJ_sB, kJ_sC, kR_sI, kR_sJ, kR_sR, kR_sA, kR_sB, kR_sC, kA_sI, kA_sJ, kA_sR, kA_sA, kA_sB, kA_sC, kB_sI, kB_sJ, kB_sR, kB_sA, kB_sB, kB_sC, kC_sI, kC_sJ, kC_sR, kC_sA, kC_sB, kC_sC, kN_sI, kN_sJ, kN_sR, kN_sA, kN_sB, kN_sC, n16, Ne.symm n16, n17, Ne.symm n17, n18, Ne.symm n18, n19, Ne.symm n19]) ?_
              have hag2 : ∀ c, c ≠ d14 → kw_ag c (q_payx x ((eA ee 1 k)) sz) (sI (sI (sI (sI (sI (sI (sI (sI (sNew (q_payx x ((eA ee 1 k)) sz) d14 (0)) 200 d14 (nI (eA ee 6 2))) 201 d14 (nI k)) 202 d14 sz) 203 d14 (kI (q_payx x ((eA ee 1 k)) sz) 254 o)) 204 d14 1) 205 d14 (-1)) 206 d14 0) 207 d14 (-1)) := fun c hc => ag_sI (ag_sI (ag_sI (ag_sI (ag_sI (ag_sI (ag_sI (ag_sI (ag_sNew kw_ag.rf hc) hc) hc) hc) hc) hc) hc) hc) hc
              have hnA := kw_nb hd15 (zk_l hz hk)
              have hnG := kw_nb hd15 (zk_g hz (zd_gr hz hk))
              refine kx_cV (As := [.long (kJ (q_payx x ((eA ee 1 k)) sz) 258 o)]) (rest := []) (st1 := []) S hK hZ hA hW hS (c_X2_catchUp l G ((va_up nu d14 (some 4))) (sI (sI (sI (sI (sI (sI (sI (sI (sNew (q_payx x ((eA ee 1 k)) sz) d14 (0)) 200 d14 (nI (eA ee 6 2))) 201 d14 (nI k)) 202 d14 sz) 203 d14 (kI (q_payx x ((eA ee 1 k)) sz) 254 o)) 204 d14 1) 205 d14 (-1)) 206 d14 0) 207 d14 (-1)) ((eA ee 1 k)) (kJ (q_payx x ((eA ee 1 k)) sz) 258 o) (eA ee 0 (eA ee 8 k)) ((kw_old hd15 (zk_l hz (by omega)))) ((kw_old hd15 (zk_g hz (zd_gr hz (by omega))))) (((hag2 _ hnA).2.2.1 150).trans (zl_gr hz hk)) (fun q hq => kw_old hd15 (zl_fi hz hk q (by rw [← (hag2 _ hnA).2.2.1 157]; exact hq)))) (cwV 1 S.2.2.2.2 gX4_arrive_X2_catchUp rfl rfl rfl (by decide +kernel) ⟨Nat.le_of_ble_eq_true rfl, Nat.le_of_ble_eq_true rfl⟩) ((kw_old hd15 (zk_l hz (by omega)))) (by decide) rfl rfl hl.1 rfl (Nat.le_of_ble_eq_true rfl) dX4_arrive_132 ⟨Nat.le_of_ble_eq_true rfl, Nat.le_of_ble_eq_true rfl⟩ rfl (fun H locs hW hS => ?_)
              refine lv_aload_n S.1 S.2.1 dX4_arrive_135 rfl (lv_at hl 2 rfl) ?_
              refine lv_aload S.1 S.2.1 dX4_arrive_136 (lv_at hl 0 rfl) ?_
              refine kx_cV (As := [.ref d14]) (rest := []) (st1 := []) S hK hZ hA hW hS (c_X2_append l G ((va_up nu d14 (some 4))) (q_catch (sI (sI (sI (sI (sI (sI (sI (sI (sNew (q_payx x ((eA ee 1 k)) sz) d14 (0)) 200 d14 (nI (eA ee 6 2))) 201 d14 (nI k)) 202 d14 sz) 203 d14 (kI (q_payx x ((eA ee 1 k)) sz) 254 o)) 204 d14 1) 205 d14 (-1)) 206 d14 0) 207 d14 (-1)) ((eA ee 1 k)) (eA ee 0 (eA ee 8 k)) (kJ (q_payx x ((eA ee 1 k)) sz) 258 o)) ((eA ee 1 k)) d14 (eA ee 0 (eA ee 8 k)) ((kw_old hd15 (zk_l hz (by omega)))) ((kw_old hd15 (zk_g hz (zd_gr hz (by omega))))) ((va_up_self _ _ _)) (by rw [(catch_R _ _ _ _).1]; exact ((hag2 _ hnA).2.2.1 150).trans (zl_gr hz hk)) (fun q hq => kw_old hd15 (zl_la hz hk q (by rw [(catch_R _ _ _ _).1, (hag2 _ hnA).2.2.1 158] at hq; exact hq)))) (cwV 1 S.2.2.2.2 gX4_arrive_X2_append rfl rfl rfl (by decide +kernel) ⟨Nat.le_of_ble_eq_true rfl, Nat.le_of_ble_eq_true rfl⟩) ((kw_old hd15 (zk_l hz (by omega)))) (by decide) rfl rfl hl.1 rfl (Nat.le_of_ble_eq_true rfl) dX4_arrive_138 ⟨Nat.le_of_ble_eq_true rfl, Nat.le_of_ble_eq_true rfl⟩ rfl (fun H locs hW hS => ?_)
              have hxo : ∀ c q, nu c = some q → q ≠ 3 → q ≠ 2 → q ≠ 4 → kw_ag c (q_payx x ((eA ee 1 k)) sz) (q_app (q_catch (sI (sI (sI (sI (sI (sI (sI (sI (sNew (q_payx x ((eA ee 1 k)) sz) d14 (0)) 200 d14 (nI (eA ee 6 2))) 201 d14 (nI k)) 202 d14 sz) 203 d14 (kI (q_payx x ((eA ee 1 k)) sz) 254 o)) 204 d14 1) 205 d14 (-1)) 206 d14 0) 207 d14 (-1)) ((eA ee 1 k)) (eA ee 0 (eA ee 8 k)) (kJ (q_payx x ((eA ee 1 k)) sz) 258 o)) ((eA ee 1 k)) (eA ee 0 (eA ee 8 k)) d14) := arr_oth hz hk hd15 hag2
              have hL2 : kR (q_app (q_catch (sI (sI (sI (sI (sI (sI (sI (sI (sNew (q_payx x ((eA ee 1 k)) sz) d14 (0)) 200 d14 (nI (eA ee 6 2))) 201 d14 (nI k)) 202 d14 sz) 203 d14 (kI (q_payx x ((eA ee 1 k)) sz) 254 o)) 204 d14 1) 205 d14 (-1)) 206 d14 0) 207 d14 (-1)) ((eA ee 1 k)) (eA ee 0 (eA ee 8 k)) (kJ (q_payx x ((eA ee 1 k)) sz) 258 o)) ((eA ee 1 k)) (eA ee 0 (eA ee 8 k)) d14) 252 o = some (eA ee 4 2) := ((hxo o 5 (zk_o hz) (by decide) (by decide) (by decide)).2.2.1 252).trans (zs_list hz (i := 2) (by decide))
              refine lv_aload_n S.1 S.2.1 dX4_arrive_141 rfl (lv_at hl 3 rfl) ?_
              refine kx_gA S hK hW (kw_old hd15 (zk_o hz)) 2 252 rfl iX4 (by decide) rfl rfl (by decide) (by decide +kernel) dX4_arrive_142 (b := (eA ee 4 2)) hL2 ?_
              refine lv_aload S.1 S.2.1 dX4_arrive_145 (lv_at hl 0 rfl) ?_
              have hX : nuX nu (va_up nu d14 (some 4)) := nuX.up hd15
              have hLs : zLs G (va_up nu d14 (some 4)) o ee (q_app (q_catch (sI (sI (sI (sI (sI (sI (sI (sI (sNew (q_payx x ((eA ee 1 k)) sz) d14 (0)) 200 d14 (nI (eA ee 6 2))) 201 d14 (nI k)) 202 d14 sz) 203 d14 (kI (q_payx x ((eA ee 1 k)) sz) 254 o)) 204 d14 1) 205 d14 (-1)) 206 d14 0) 207 d14 (-1)) ((eA ee 1 k)) (eA ee 0 (eA ee 8 k)) (kJ (q_payx x ((eA ee 1 k)) sz) 258 o)) ((eA ee 1 k)) (eA ee 0 (eA ee 8 k)) d14) := zLs_nu hX hz.2.1 (zLs_ag hz.2.1 (fun c q h hq => hxo c q h (by omega) (by omega) (by omega)) hz.2.2.1.1)
              have hKz := zK_nu hX hz.2.1
              refine kw_callV (As := [.ref d14]) (rest := []) S hK hZ hA hW hS (c_z_add l G (va_up nu d14 (some 4)) (q_app (q_catch (sI (sI (sI (sI (sI (sI (sI (sI (sNew (q_payx x ((eA ee 1 k)) sz) d14 (0)) 200 d14 (nI (eA ee 6 2))) 201 d14 (nI k)) 202 d14 sz) 203 d14 (kI (q_payx x ((eA ee 1 k)) sz) 254 o)) 204 d14 1) 205 d14 (-1)) 206 d14 0) 207 d14 (-1)) ((eA ee 1 k)) (eA ee 0 (eA ee 8 k)) (kJ (q_payx x ((eA ee 1 k)) sz) 258 o)) ((eA ee 1 k)) (eA ee 0 (eA ee 8 k)) d14) (eA ee 4 2) (eA ee 5 2) (eA ee 6 2) d14 4 (kw_old hd15 (zk_L hz (by decide))) (va_up_self _ _ _) (by decide) hKz.2.2.2.2.2.2.1 hLs.2.1 (hLs.1 2 (by decide)).2.1 (hLs.1 2 (by decide)).2.2.1 (eA ee 10 2) (hLs.1 2 (by decide)).2.2.2.1 (hLs.1 2 (by decide)).2.2.2.2 hnp (fun j y hj hy => ⟨4, by have h9 := hLs.2.2.2.1 2 (by decide) j hj; rw [hy] at h9; cases h9; exact hKz.2.2.2.2.1 j hj, by decide⟩)) (cwV 1 S.2.2.2.2 gX4_arrive_Jx4a65c_add_9ea2d rfl rfl rfl (by decide +kernel) ⟨Nat.le_of_ble_eq_true rfl, Nat.le_of_ble_eq_true rfl⟩) (kw_old hd15 (zk_L hz (by decide))) (by decide) rfl rfl hl.1 rfl (Nat.le_of_ble_eq_true rfl) dX4_arrive_147 ⟨by show _ ≤ 2; have := zc_le (eA ee 10 2) (eA ee 6 2); omega, by show _ ≤ 777; have := zs_le (c := eA ee 10 2) (n := eA ee 6 2) (by omega); omega⟩ (fun v nu9 y1 H locs hp hW hS => ?_)
              obtain ⟨ev, D1, hadd⟩ := hp
              subst ev
              refine W.eq (g2 := F0 m 150 ls [.int (1)]) rfl ?_
              have ho1 := zAdd_ag hadd (hKz.2.1 2 (by decide)) hKz.1 (by decide) (by decide)
              have hL1 : kR y1 252 o = some (eA ee 4 2) := (ho1.2.2.1 _).trans (hLs.1 2 (by decide)).1
              refine lv_pop S.1 S.2.1 dX4_arrive_150 rfl ?_
              refine lv_aload S.1 S.2.1 dX4_arrive_151 (lv_at hl 0 rfl) ?_
              refine kx_gI S hK hW (hadd.nu _ _ (va_up_self _ _ _)) 0 200 rfl iX3 (by decide) rfl rfl (by decide) (by decide +kernel) dX4_arrive_153 (v := kI y1 200 d14) rfl ?_
              refine kw_iret S hr hlk hW hS (by first | decide | (have := zc_le (eA ee 10 2) (eA ee 6 2); omega)) (by first | decide | (have := zs_le (c := eA ee 10 2) (n := eA ee 6 2) (by omega); omega)) dX4_arrive_156 ?_
              have hli : tA t 20 k + sz ≤ tA t 16 k := (lim_iff hz00.1 hk hsz).mp (by rw [← m_arT_A t k sz 16, ← m_arT_A t k sz 20]; exact c13)
              have hdx := zAdd_ag hadd (hKz.2.1 2 (by decide)) (va_up_self nu d14 (some 4)) (by decide) (by decide)
              have hdn : ∀ c, d14 ≠ c ∨ True := fun _ => Or.inr trivial
              have hdA : d14 ≠ eA ee 1 k := fun h => hnA h.symm
              have hdG : d14 ≠ eA ee 0 (eA ee 8 k) := fun h => hnG h.symm
              have hzS := zw_catch hz hk
              rw [← arS_eq, ← (zsh hz).2.2.2.2] at hzS
              have hfd : ∀ i, kI (q_catch (sI (sI (sI (sI (sI (sI (sI (sI (sNew (q_payx x ((eA ee 1 k)) sz) d14 (0)) 200 d14 (nI (eA ee 6 2))) 201 d14 (nI k)) 202 d14 sz) 203 d14 (kI (q_payx x ((eA ee 1 k)) sz) 254 o)) 204 d14 1) 205 d14 (-1)) 206 d14 0) 207 d14 (-1)) ((eA ee 1 k)) (eA ee 0 (eA ee 8 k)) (kJ (q_payx x ((eA ee 1 k)) sz) 258 o)) i d14 = kI (sI (sI (sI (sI (sI (sI (sI (sI (sNew (q_payx x ((eA ee 1 k)) sz) d14 (0)) 200 d14 (nI (eA ee 6 2))) 201 d14 (nI k)) 202 d14 sz) 203 d14 (kI (q_payx x ((eA ee 1 k)) sz) 254 o)) 204 d14 1) 205 d14 (-1)) 206 d14 0) 207 d14 (-1)) i d14 := fun i => congrFun (congrFun (catch_R _ _ _ _).2 i) d14
              have h4d : kI (q_app (q_catch (sI (sI (sI (sI (sI (sI (sI (sI (sNew (q_payx x ((eA ee 1 k)) sz) d14 (0)) 200 d14 (nI (eA ee 6 2))) 201 d14 (nI k)) 202 d14 sz) 203 d14 (kI (q_payx x ((eA ee 1 k)) sz) 254 o)) 204 d14 1) 205 d14 (-1)) 206 d14 0) 207 d14 (-1)) ((eA ee 1 k)) (eA ee 0 (eA ee 8 k)) (kJ (q_payx x ((eA ee 1 k)) sz) 258 o)) ((eA ee 1 k)) (eA ee 0 (eA ee 8 k)) d14) 200 d14 = nI (eA ee 6 2) := by simp only [app_I, hfd]; simp [kI_sI, kI_sNew, hdA, hdG]
              refine ⟨?_, hX.tr hadd.nu, z_ep ee k d14 D1, ?_, ?_⟩
              · rw [m_arr, if_pos hok, if_neg hnR, if_pos hli, hdx.1, h4d]
              · rw [m_arr, if_pos hok, if_neg hnR, if_pos hli]; show zw G nu9 z o _ (m_arF _ t k (eA ee 6 2) (plE ee k) sz) y1; rw [arF_eq, hmk]
                refine zw_arr hzS hk hnp hsz (plE_1 ee k) (plE_2 hzS.1 hk) hd15 (fun c hc => catch_ag (hag2 _ hnA) (hag2 _ hnG) (hag2 c hc)) ?_ hadd
                refine ⟨?_, ?_, ?_, ?_, ?_, ?_, ?_, ?_, ?_⟩ <;> first | (rw [hfd]; simp [kI_sI, kI_sNew]; done) | (rw [hfd]; simp only [kI_sI, kI_sNew]; simp; rw [(zsh hz).1, m_arS_F, m_arT_F]; done) | (rw [(catch_R _ _ _ _).1]; simp [kR_sI, kR_sNew]; done)
              · rw [m_arr, if_pos hok, if_neg hnR, if_pos hli]; show zF _ (m_arF _ t k (eA ee 6 2) (plE ee k) sz); rw [arF_eq]; unfold zF; rw [ta_F, if_neg (by decide), ta_F, if_neg (by decide), m_arS_F, m_arS_F, ep_o _ _ _ _ 9 _ (by decide)]; exact hF
          · skip
            refine lv_aload_n S.1 S.2.1 dX4_arrive_82 rfl (lv_at hl 1 rfl) ?_
            refine lv_dup S.1 S.2.1 dX4_arrive_83 rfl ?_
            refine kx_gI S hK hW (zk_l hz (by omega)) 14 164 rfl iX2 (by decide) rfl rfl (by decide) (by decide +kernel) dX4_arrive_84 (v := tA (m_arT t k sz) 24 k) (zl hz (by omega)).2.2.2.2.2.2.2.2.2.2.2.2.2.2.1 ?_
            refine lv_iconst (v := 1) S.1 S.2.1 dX4_arrive_87 (by decide) ?_
            refine lv_iadd S.1 S.2.1 dX4_arrive_88 ?_
            refine kx_pI S hK hW hS (zk_l hz (by omega)) 14 164  rfl iX2 tyX2_ok nmX2 (by decide) rfl rfl (by decide) (by decide +kernel) (Or.inl rfl) rfl dX4_arrive_89 (fun H locs hW hS => ?_)
            refine lv_bipush (v := (-3)) S.1 S.2.1 dX4_arrive_92 (by decide) ?_
            refine kw_iret S hr hlk hW hS (by first | decide | (have := zc_le (eA ee 10 2) (eA ee 6 2); omega)) (by first | decide | (have := zs_le (c := eA ee 10 2) (n := eA ee 6 2) (by omega); omega)) dX4_arrive_94 ?_
            have hnl : ¬ tA t 20 k + sz ≤ tA t 16 k := fun h9 => absurd ((lim_iff hz00.1 hk hsz).mpr h9) (by rw [← m_arT_A t k sz, ← m_arT_A t k sz]; exact c13)
            refine ⟨by rw [m_arr, if_pos hok, if_neg hnR, if_neg hnl], nuX.rf, ee, ?_, ?_⟩ <;> rw [m_arr, if_pos hok, if_neg hnR, if_neg hnl]
            · have h9 := zw_164 hz hk (tA (m_arT t k sz) 24 k + 1); rw [m_arT_A] at h9; rw [m_arT_A]; exact h9
            · exact ⟨fun h9 => by rw [show tF (uA (m_arT t k sz) 24 k (tA t 24 k + 1)) 7 = tF t 7 from m_arT_F t k sz 7] at h9; show _ ≤ tF (m_arT t k sz) 1; rw [m_arT_F]; exact hF.1 h9, fun h9 => by rw [show tF (uA (m_arT t k sz) 24 k (tA t 24 k + 1)) 7 = tF t 7 from m_arT_F t k sz 7] at h9; show _ = tF (m_arT t k sz) 1 + tF (m_arT t k sz) 7; rw [m_arT_F, m_arT_F]; exact hF.2 h9⟩
        · skip
          refine lv_aload_n S.1 S.2.1 dX4_arrive_56 rfl (lv_at hl 1 rfl) ?_
          refine lv_dup S.1 S.2.1 dX4_arrive_57 rfl ?_
          refine kx_gI S hK hW (zk_l hz (by omega)) 13 163 rfl iX2 (by decide) rfl rfl (by decide) (by decide +kernel) dX4_arrive_58 (v := tA (m_arT t k sz) 23 k) (zl hz (by omega)).2.2.2.2.2.2.2.2.2.2.2.2.2.1 ?_
          refine lv_iconst (v := 1) S.1 S.2.1 dX4_arrive_61 (by decide) ?_
          refine lv_iadd S.1 S.2.1 dX4_arrive_62 ?_
          refine kx_pI S hK hW hS (zk_l hz (by omega)) 13 163  rfl iX2 tyX2_ok nmX2 (by decide) rfl rfl (by decide) (by decide +kernel) (Or.inl rfl) rfl dX4_arrive_63 (fun H locs hW hS => ?_)
          refine lv_bipush (v := (-2)) S.1 S.2.1 dX4_arrive_66 (by decide) ?_
          refine kw_iret S hr hlk hW hS (by first | decide | (have := zc_le (eA ee 10 2) (eA ee 6 2); omega)) (by first | decide | (have := zs_le (c := eA ee 10 2) (n := eA ee 6 2) (by omega); omega)) dX4_arrive_68 ?_
          have h29 : tA t 29 k = 0 := by rw [← m_arT_A t k sz]; first | assumption | exact Classical.not_not.mp (by assumption)
          have hR : m_arR t k sz = true := by simp [m_arR, hpn.1, hpn.2, h29]
          refine ⟨by rw [m_arr, if_pos hok, if_pos hR], nuX.rf, ee, ?_, ?_⟩ <;> rw [m_arr, if_pos hok, if_pos hR]
          · have h9 := zw_163 hz hk (tA (m_arT t k sz) 23 k + 1); rw [m_arT_A] at h9; rw [m_arT_A]; generalize m_arT t k sz = T9 at *; subst hTt; exact h9
          · exact hF
    · skip
      exact absurd (nI_lt (b := 1000) (show eA ee 6 2 < 1000 by omega) (by omega)) c2
