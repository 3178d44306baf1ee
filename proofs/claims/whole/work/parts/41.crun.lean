/-! LinkShaper's run -/
set_option maxHeartbeats 1000000 in
set_option maxRecDepth 100000 in
/-- run that is refused -/
theorem c_X4_run_o (l : Launch) (G : kw_G) (nu : Nat → Option Nat) (x z : kw_St) (o : Nat) (ee : kE) (t : mo_T) (ti : Int32) (hz : zw G nu z o ee t x) (hro : m_rok t ti = false) : kw_M l G yX4_run wsX4_run { frames := 9, cells := 0, slots := 0, locals := 214 } 0 0 [.ref o, .int (ti)] nu x (kw_P nu (some (.int (-1))) x) := by
  refine kw_M.ofW (cc := cX4_run) (maxL := 5) (ret := (some .int)) (by decide) rfl (Nat.le_of_ble_eq_true rfl) ?_
  intro p e s m args below meth c A ls S hr hlk hnm hK hZ hA hW hS hl
  have hl : lv_has ls 5 [(0, .ref o), (1, .int (ti))] := hl
  have iX4 : ∀ w ∈ wsX40, w ∈ wsX4_run := by decide +kernel
  have hdg := zd_ng hz
  have hdl := zd_nl hz
  have hdp := zd_np hz
  have hdb := zd_nb hz
  refine lv_iload_n S.1 S.2.1 dX4_run_0 rfl (lv_at hl 1 rfl) ?_
  refine lv_iconst (v := 1) S.1 S.2.1 dX4_run_1 (by decide) ?_
  refine lv_ldc (v := 100000) S.1 S.2.1 S.2.2.2.1 (S.2.2.2.2 _ (by decide +kernel)) dX4_run_2 ?_
  refine kx_cS (As := [.int (ti), .int (1), .int (100000)]) (rest := []) (st1 := [.int (kw_b (kw_wi ti 1 100000 = true))]) S hK hZ hA hW hS (c_X4_isWithin l G nu x ti 1 100000 ) (va_cwS 3 S.2.2.2.2 gX4_run_X4_isWithin rfl rfl rfl (by decide +kernel) ⟨Nat.le_of_ble_eq_true rfl, Nat.le_of_ble_eq_true rfl⟩) rfl hl.1 rfl (Nat.le_of_ble_eq_true rfl) dX4_run_4 ⟨Nat.le_of_ble_eq_true rfl, Nat.le_of_ble_eq_true rfl⟩ rfl (fun H locs hW hS => ?_)
  refine kx_ifz_eq (tgt := 21) S dX4_run_7 (by decide) (fun c1 => ?_) (fun c1 => ?_)
  · skip
    refine lv_iconst (v := (-1)) S.1 S.2.1 dX4_run_21 (by decide) ?_
    refine kw_iret S hr hlk hW hS (by decide) (by decide) dX4_run_22 ?_
    exact ⟨rfl, rfl, rfl⟩
  · skip
    refine lv_aload_n S.1 S.2.1 dX4_run_10 rfl (lv_at hl 0 rfl) ?_
    refine kx_gI S hK hW (zk_o hz) 4 254 rfl iX4 (by decide) rfl rfl (by decide) (by decide +kernel) dX4_run_11 (v := tF t 1) (zsh hz).1 ?_
    refine lv_ldc (v := 1000000000) S.1 S.2.1 S.2.2.2.1 (S.2.2.2.2 _ (by decide +kernel)) dX4_run_14 ?_
    refine lv_iload_n S.1 S.2.1 dX4_run_16 rfl (lv_at hl 1 rfl) ?_
    refine lv_isub S.1 S.2.1 dX4_run_17 ?_
    refine lv_icmp_le (tgt := 23) S.1 S.2.1 dX4_run_18 (by decide) (fun c2 => ?_) (fun c2 => ?_)
    · skip
      exact absurd hro (by simp [m_rok, c1, c2])
    · skip
      refine lv_iconst (v := (-1)) S.1 S.2.1 dX4_run_21 (by decide) ?_
      refine kw_iret S hr hlk hW hS (by decide) (by decide) dX4_run_22 ?_
      exact ⟨rfl, rfl, rfl⟩
set_option maxHeartbeats 1000000 in
set_option maxRecDepth 100000 in
/-- run -/
theorem c_X4_run_s (l : Launch) (G : kw_G) (nu : Nat → Option Nat) (x z : kw_St) (o : Nat) (ee : kE) (t : mo_T) (tN : Nat) (hz : zw G nu z o ee t x) (hF : zF ee t) (ht1 : 1 ≤ tN) (ht2 : tN ≤ 100000) (hno : (tF t 1).toInt + tN ≤ 1000000000) : kw_M l G yX4_run wsX4_run { frames := 9, cells := 768, slots := 3072, locals := 214 } 768 3072 [.ref o, .int (nI tN)] nu x (fun v nu' y => v = some (.int (tF (m_fin (tF t 1 + nI tN) t) 5 - tF t 5)) ∧ nuX nu nu' ∧ ∃ e2, zw G nu' z o e2 (m_fin (tF t 1 + nI tN) t) y ∧ zF e2 (m_fin (tF t 1 + nI tN) t)) := by
  refine kw_M.ofW (cc := cX4_run) (maxL := 5) (ret := (some .int)) (by decide) rfl (Nat.le_of_ble_eq_true rfl) ?_
  intro p e s m args below meth c A ls S hr hlk hnm hK hZ hA hW hS hl
  have hl : lv_has ls 5 [(0, .ref o), (1, .int (nI tN))] := hl
  have iX4 : ∀ w ∈ wsX40, w ∈ wsX4_run := by decide +kernel
  have hdg := zd_ng hz
  have hdl := zd_nl hz
  have hdp := zd_np hz
  have hdb := zd_nb hz
  obtain ⟨QQ, hQQ⟩ : ∃ q, q = MQ below (kw_Qc G A (fun v nu' y => v = some (.int (tF (m_fin (tF t 1 + nI tN) t) 5 - tF t 5)) ∧ nuX nu nu' ∧ ∃ e2, zw G nu' z o e2 (m_fin (tF t 1 + nI tN) t) y ∧ zF e2 (m_fin (tF t 1 + nI tN) t))) args s 768 3072 A := ⟨_, rfl⟩
  rw [← hQQ]
  have hE := z_en hz.1 ht2 hno
  have hen : (tF t 1 + nI tN).toInt ≤ 1000000000 := by omega
  obtain ⟨nu0, hnu0⟩ : ∃ q, q = nu := ⟨_, rfl⟩
  refine lv_iload_n S.1 S.2.1 dX4_run_0 rfl (lv_at hl 1 rfl) ?_
  refine lv_iconst (v := 1) S.1 S.2.1 dX4_run_1 (by decide) ?_
  refine lv_ldc (v := 100000) S.1 S.2.1 S.2.2.2.1 (S.2.2.2.2 _ (by decide +kernel)) dX4_run_2 ?_
  refine kx_cS (As := [.int (nI tN), .int (1), .int (100000)]) (rest := []) (st1 := [.int (kw_b (kw_wi (nI tN) 1 100000 = true))]) S hK hZ hA hW hS (c_X4_isWithin l G nu x (nI tN) 1 100000 ) (va_cwS 3 S.2.2.2.2 gX4_run_X4_isWithin rfl rfl rfl (by decide +kernel) ⟨Nat.le_of_ble_eq_true rfl, Nat.le_of_ble_eq_true rfl⟩) rfl hl.1 rfl (Nat.le_of_ble_eq_true rfl) dX4_run_4 ⟨Nat.le_of_ble_eq_true rfl, Nat.le_of_ble_eq_true rfl⟩ rfl (fun H locs hW hS => ?_)
  refine kx_ifz_eq (tgt := 21) S dX4_run_7 (by decide) (fun c1 => ?_) (fun c1 => ?_)
  · skip
    exact absurd (z_wi1 ht1 ht2) c1
  · skip
    refine lv_aload_n S.1 S.2.1 dX4_run_10 rfl (lv_at hl 0 rfl) ?_
    refine kx_gI S hK hW (zk_o hz) 4 254 rfl iX4 (by decide) rfl rfl (by decide) (by decide +kernel) dX4_run_11 (v := tF t 1) (zsh hz).1 ?_
    refine lv_ldc (v := 1000000000) S.1 S.2.1 S.2.2.2.1 (S.2.2.2.2 _ (by decide +kernel)) dX4_run_14 ?_
    refine lv_iload_n S.1 S.2.1 dX4_run_16 rfl (lv_at hl 1 rfl) ?_
    refine lv_isub S.1 S.2.1 dX4_run_17 ?_
    refine lv_icmp_le (tgt := 23) S.1 S.2.1 dX4_run_18 (by decide) (fun c2 => ?_) (fun c2 => ?_)
    · skip
      refine lv_aload_n S.1 S.2.1 dX4_run_23 rfl (lv_at hl 0 rfl) ?_
      refine kx_gA S hK hW (zk_o hz) 3 253 rfl iX4 (by decide) rfl rfl (by decide) (by decide +kernel) dX4_run_24 (b := (eA ee 4 3)) (zs_list hz (i := 3) (by decide)) ?_
      refine kx_cV (As := []) (rest := []) (st1 := [.int (nI (eA ee 6 3))]) S hK hZ hA hW hS (c_z_size l G hz 3 (by decide)) (cwV 0 S.2.2.2.2 gX4_run_Jx4a65c_size_8abf5 rfl rfl rfl (by decide +kernel) ⟨Nat.le_of_ble_eq_true rfl, Nat.le_of_ble_eq_true rfl⟩) (zk_L hz (by decide)) (by decide) rfl rfl hl.1 rfl (Nat.le_of_ble_eq_true rfl) dX4_run_27 ⟨by show _ ≤ 768; omega, by show _ ≤ 3072; omega⟩ rfl (fun H locs hW hS => ?_)
      rw [← hz.1.1.2.2.2.1.1]
      refine lv_istore_n (lv' := [(2, .int (tF t 5)), (0, .ref o), (1, .int (nI tN))]) S.1 S.2.1 dX4_run_30 rfl hl (by decide) rfl (fun ls hl => ?_)
      refine lv_aload_n S.1 S.2.1 dX4_run_31 rfl (lv_at hl 1 rfl) ?_
      refine kx_gI S hK hW (zk_o hz) 4 254 rfl iX4 (by decide) rfl rfl (by decide) (by decide +kernel) dX4_run_32 (v := tF t 1) (zsh hz).1 ?_
      refine lv_iload_n S.1 S.2.1 dX4_run_35 rfl (lv_at hl 2 rfl) ?_
      refine lv_iadd S.1 S.2.1 dX4_run_36 ?_
      refine lv_istore_n (lv' := [(3, .int ((tF t 1) + (nI tN))), (2, .int (tF t 5)), (0, .ref o), (1, .int (nI tN))]) S.1 S.2.1 dX4_run_37 rfl hl (by decide) rfl (fun ls hl => ?_)
      refine lv_iconst (v := 0) S.1 S.2.1 dX4_run_38 (by decide) ?_
      refine lv_istore (lv' := [(4, .int (0)), (3, .int ((tF t 1) + (nI tN))), (2, .int (tF t 5)), (0, .ref o), (1, .int (nI tN))]) S.1 S.2.1 dX4_run_39 hl (by decide) rfl (fun ls hl => ?_)
      have lp : ∀ (dn n : Nat) (nu : Nat → Option Nat) (ee : kE) (T : mo_T) (ce : Nat) (sl : Nat), n + dn = tN → (nuX nu0 nu) → (ce ≤ eA ee 10 3) → (sl ≤ 4 * eA ee 10 3) → (zF ee T) → (m_fin (tF t 1 + nI tN) T = m_fin (tF t 1 + nI tN) t) → ((tF t 1).toInt + n ≤ (tF T 1).toInt) → ((tF T 1).toInt ≤ (tF t 1 + nI tN).toInt) → ∀ (x : kw_St) (H : Heap) (locs : List Loc) (ls : Array Slot), zw G nu z o ee T x → kw_W G A nu x H → va_S A s.heap H locs → lv_has ls 5 [(0, .ref o), (1, .int (nI tN)), (2, .int (tF t 5)), (3, .int (tF t 1 + nI tN)), (4, .int (nI n))] → W p l e { frames := 9, cells := 768, slots := 3072, locals := 214 } s m args below meth c H locs ce sl QQ (F0 m 41 ls []) := by
        intro dn
        induction dn with
        | zero =>
          intro n nu ee T ce sl hndn hnx hce hsl hF hfn hn1 hn2 x H locs ls hz hW hS hl
          have hcap9 := z_cap9 hz
          have hI0 := hz.1
          refine lv_iload S.1 S.2.1 dX4_run_41 (lv_at hl 4 rfl) ?_
          refine lv_iload_n S.1 S.2.1 dX4_run_43 rfl (lv_at hl 1 rfl) ?_
          refine lv_icmp_ge (tgt := 124) S.1 S.2.1 dX4_run_44 (by decide) (fun c3 => ?_) (fun c3 => ?_)
          · skip
            have hnn4 : tN = n := by omega
            subst hnn4
            refine lv_aload_n S.1 S.2.1 dX4_run_124 rfl (lv_at hl 0 rfl) ?_
            refine kx_gA S hK hW (zk_o hz) 3 253 rfl iX4 (by decide) rfl rfl (by decide) (by decide +kernel) dX4_run_125 (b := (eA ee 4 3)) (zs_list hz (i := 3) (by decide)) ?_
            refine kx_cV (As := []) (rest := []) (st1 := [.int (nI (eA ee 6 3))]) S hK hZ hA hW hS (c_z_size l G hz 3 (by decide)) (cwV 0 S.2.2.2.2 gX4_run_Jx4a65c_size_8abf5 rfl rfl rfl (by decide +kernel) ⟨Nat.le_of_ble_eq_true rfl, Nat.le_of_ble_eq_true rfl⟩) (zk_L hz (by decide)) (by decide) rfl rfl hl.1 rfl (Nat.le_of_ble_eq_true rfl) dX4_run_128 ⟨by show _ ≤ 768; omega, by show _ ≤ 3072; omega⟩ rfl (fun H locs hW hS => ?_)
            refine lv_iload_n S.1 S.2.1 dX4_run_131 rfl (lv_at hl 2 rfl) ?_
            refine lv_isub S.1 S.2.1 dX4_run_132 ?_
            rw [hQQ]
            refine kw_iret S hr hlk hW hS (by omega) (by omega) dX4_run_133 ?_
            have hst : ¬ tF T 1 < (tF t 1 + nI tN) := by rw [lt_toInt]; omega
            have hff : m_fin (tF t 1 + nI tN) t = T := by rw [← hfn, fin_stop hst]
            refine ⟨?_, ?_, ee, ?_, ?_⟩
            · rw [hff, hz.1.1.2.2.2.1.1]
            · rw [← hnu0]; exact hnx
            · rw [hff]; exact hz
            · rw [hff]; exact hF
          · skip
            exact absurd (nI_le (a := tN) (b := n) (by omega) (by omega)) c3
        | succ dn ihlp =>
          intro n nu ee T ce sl hndn hnx hce hsl hF hfn hn1 hn2 x H locs ls hz hW hS hl
          have hcap9 := z_cap9 hz
          have hI0 := hz.1
          refine lv_iload S.1 S.2.1 dX4_run_41 (lv_at hl 4 rfl) ?_
          refine lv_iload_n S.1 S.2.1 dX4_run_43 rfl (lv_at hl 1 rfl) ?_
          refine lv_icmp_ge (tgt := 124) S.1 S.2.1 dX4_run_44 (by decide) (fun c5 => ?_) (fun c5 => ?_)
          · skip
            exact absurd c5 (nI_ge (a := n) (b := tN) (by omega) (by omega))
          · skip
            refine lv_aload_n S.1 S.2.1 dX4_run_47 rfl (lv_at hl 0 rfl) ?_
            refine kx_gI S hK hW (zk_o hz) 4 254 rfl iX4 (by decide) rfl rfl (by decide) (by decide +kernel) dX4_run_48 (v := tF T 1) (zsh hz).1 ?_
            refine lv_iload_n S.1 S.2.1 dX4_run_51 rfl (lv_at hl 3 rfl) ?_
            refine lv_icmp_ge (tgt := 124) S.1 S.2.1 dX4_run_52 (by decide) (fun c6 => ?_) (fun c6 => ?_)
            · skip
              refine lv_aload_n S.1 S.2.1 dX4_run_124 rfl (lv_at hl 0 rfl) ?_
              refine kx_gA S hK hW (zk_o hz) 3 253 rfl iX4 (by decide) rfl rfl (by decide) (by decide +kernel) dX4_run_125 (b := (eA ee 4 3)) (zs_list hz (i := 3) (by decide)) ?_
              refine kx_cV (As := []) (rest := []) (st1 := [.int (nI (eA ee 6 3))]) S hK hZ hA hW hS (c_z_size l G hz 3 (by decide)) (cwV 0 S.2.2.2.2 gX4_run_Jx4a65c_size_8abf5 rfl rfl rfl (by decide +kernel) ⟨Nat.le_of_ble_eq_true rfl, Nat.le_of_ble_eq_true rfl⟩) (zk_L hz (by decide)) (by decide) rfl rfl hl.1 rfl (Nat.le_of_ble_eq_true rfl) dX4_run_128 ⟨by show _ ≤ 768; omega, by show _ ≤ 3072; omega⟩ rfl (fun H locs hW hS => ?_)
              refine lv_iload_n S.1 S.2.1 dX4_run_131 rfl (lv_at hl 2 rfl) ?_
              refine lv_isub S.1 S.2.1 dX4_run_132 ?_
              rw [hQQ]
              refine kw_iret S hr hlk hW hS (by omega) (by omega) dX4_run_133 ?_
              have hst : ¬ tF T 1 < (tF t 1 + nI tN) := Int32.not_lt.mpr c6
              have hff : m_fin (tF t 1 + nI tN) t = T := by rw [← hfn, fin_stop hst]
              refine ⟨?_, ?_, ee, ?_, ?_⟩
              · rw [hff, hz.1.1.2.2.2.1.1]
              · rw [← hnu0]; exact hnx
              · rw [hff]; exact hz
              · rw [hff]; exact hF
            · skip
              have hlt : tF T 1 < (tF t 1 + nI tN) := Int32.not_le.mp (by assumption)
              have hlt3 := lt_toInt.mp hlt
              refine lv_aload_n S.1 S.2.1 dX4_run_55 rfl (lv_at hl 0 rfl) ?_
              refine kx_gI S hK hW (zk_o hz) 4 254 rfl iX4 (by decide) rfl rfl (by decide) (by decide +kernel) dX4_run_56 (v := tF T 1) (zsh hz).1 ?_
              refine lv_aload_n S.1 S.2.1 dX4_run_59 rfl (lv_at hl 0 rfl) ?_
              refine kx_gI S hK hW (zk_o hz) 5 255 rfl iX4 (by decide) rfl rfl (by decide) (by decide +kernel) dX4_run_60 (v := nI (eA ee 9 0)) (zsh hz).2.1 ?_
              refine lv_icmp_lt (tgt := 70) S.1 S.2.1 dX4_run_63 (by decide) (fun c7 => ?_) (fun c7 => ?_)
              · skip
                have h7b : ¬ tF T 7 = 0 := z_busy hF (Int32.not_le.mpr (by assumption))
                have hv1 : tF T 1 = tF T 1 := rfl
                have hsv := step_busy (en := (tF t 1 + nI tN)) hz.1 h7b
                refine lv_aload_n S.1 S.2.1 dX4_run_70 rfl (lv_at hl 0 rfl) ?_
                refine kx_gI S hK hW (zk_o hz) 4 254 rfl iX4 (by decide) rfl rfl (by decide) (by decide +kernel) dX4_run_71 (v := tF T 1) (zsh hz).1 ?_
                refine lv_aload_n S.1 S.2.1 dX4_run_74 rfl (lv_at hl 0 rfl) ?_
                refine kx_gI S hK hW (zk_o hz) 5 255 rfl iX4 (by decide) rfl rfl (by decide) (by decide +kernel) dX4_run_75 (v := nI (eA ee 9 0)) (zsh hz).2.1 ?_
                refine lv_icmp_ge (tgt := 101) S.1 S.2.1 dX4_run_78 (by decide) (fun c8 => ?_) (fun c8 => ?_)
                · skip
                  exact absurd c8 (z_tfree hz.1 hF h7b)
                · skip
                  refine lv_aload_n S.1 S.2.1 dX4_run_81 rfl (lv_at hl 0 rfl) ?_
                  refine lv_aload_n S.1 S.2.1 dX4_run_82 rfl (lv_at hl 0 rfl) ?_
                  refine kx_gI S hK hW (zk_o hz) 5 255 rfl iX4 (by decide) rfl rfl (by decide) (by decide +kernel) dX4_run_83 (v := nI (eA ee 9 0)) (zsh hz).2.1 ?_
                  refine lv_iload_n S.1 S.2.1 dX4_run_86 rfl (lv_at hl 3 rfl) ?_
                  refine kx_mini S hl.1 (by decide +kernel) (by decide +kernel) (by decide +kernel) (by decide +kernel) (Nat.le_of_ble_eq_true rfl) (Nat.le_of_ble_eq_true rfl) (by show _ ≤ 768; omega) (by show _ ≤ 3072; omega) dX4_run_87 ?_
                  refine lv_aload_n S.1 S.2.1 dX4_run_90 rfl (lv_at hl 0 rfl) ?_
                  refine kx_gI S hK hW (zk_o hz) 4 254 rfl iX4 (by decide) rfl rfl (by decide) (by decide +kernel) dX4_run_91 (v := tF T 1) (zsh hz).1 ?_
                  refine lv_isub S.1 S.2.1 dX4_run_94 ?_
                  have hlv : tF T 1 < (tF t 1 + nI tN) := by rw [hv1]; exact hlt
                  have hIv := hz.1
                  have hno2 := n_ok hIv hlv hen
                  have hno3 := hno2.2.2 h7b
                  have hv2 : (tF T 1).toInt = (tF T 1).toInt := by rw [hv1]
                  rw [show ((if (tF t 1 + nI tN) < (nI (eA ee 9 0)) then (tF t 1 + nI tN) else (nI (eA ee 9 0))) - (tF T 1)) = m_n T (tF t 1 + nI tN) from busy_n hIv hF h7b hlv hen]
                  refine zx_cV (As := [.int (m_n T (tF t 1 + nI tN))]) (rest := []) (st1 := []) (t0 := m_pasN (uF (uF (uF T 6 (tF T 6 + (m_n T (tF t 1 + nI tN)))) 7 (tF T 7 - m_n T (tF t 1 + nI tN))) 8 (if tF T 7 - m_n T (tF t 1 + nI tN) = 0 then -1 else tF T 8)) (m_n T (tF t 1 + nI tN)) 20) S hK hZ hA hW hS (c_X4_passBusy l G nu x z o ee T (m_n T (tF t 1 + nI tN)) (tF T 7 - m_n T (tF t 1 + nI tN)) (if tF T 7 - m_n T (tF t 1 + nI tN) = 0 then -1 else tF T 8) hz (bd.of (by omega) (by omega)) (by omega) (tI_busy hIv hno2.1 hno3)) (cwV 1 S.2.2.2.2 gX4_run_X4_passBusy rfl rfl rfl (by decide +kernel) ⟨Nat.le_of_ble_eq_true rfl, Nat.le_of_ble_eq_true rfl⟩) (zk_o hz) (by decide) rfl rfl hl.1 rfl (Nat.le_of_ble_eq_true rfl) dX4_run_95 ⟨by show _ ≤ 768; omega, by show _ ≤ 3072; omega⟩ rfl (fun x H locs hz hW hS => ?_)
                  refine lv_goto (tgt := 118) S.1 S.2.1 dX4_run_98 (by decide) ?_
                  refine lv_iinc (v := nI (n + 1)) (lv' := [(4, .int (nI (n + 1))), (0, .ref o), (1, .int (nI tN)), (2, .int (tF t 5)), (3, .int (tF t 1 + nI tN))]) S.1 S.2.1 dX4_run_118 hl (k := 4) rfl (nI_1 _) (by decide) rfl (fun ls hl => ?_)
                  refine lv_goto (tgt := 41) S.1 S.2.1 dX4_run_121 (by decide) ?_
                  exact ihlp (n + 1) nu ee (m_step2 T (tF t 1 + nI tN)) _ _ (by omega) hnx (by omega) (by omega) (busy_F hIv hF h7b hlv hen) (by rw [← hsv, ← fin_step (lo := (tF t 1).toInt) hen (by omega) ⟨⟨_, hI0⟩, by omega⟩ hlt]; exact hfn) (by rw [(step2_ok hIv hlv hen (by omega)).2]; omega) (by rw [(step2_ok hIv hlv hen (by omega)).2]; omega) _ _ _ ls (by rw [busy_step hIv h7b]; exact hz) hW hS (lv_sub hl [1, 2, 3, 4, 0] rfl)
              · skip
                refine lv_aload_n S.1 S.2.1 dX4_run_66 rfl (lv_at hl 0 rfl) ?_
                have h7 := z_idle hz.1 hF (Int32.not_lt.mp (by assumption))
                rcases hdue : m_due T (fpT T) (eA ee 6 1) with _ | b
                · skip
                  rcases hbest : m_best T (fpT T) (grT T) (eA ee 6 1) (eA ee 6 0) with _ | b
                  · skip
                    refine kx_cV (As := []) (rest := []) (st1 := []) S hK hZ hA hW hS (c_X4_beginOne_n l G nu x z o ee T  hz hdue hbest) (cwV 0 S.2.2.2.2 gX4_run_X4_beginOne rfl rfl rfl (by decide +kernel) ⟨Nat.le_of_ble_eq_true rfl, Nat.le_of_ble_eq_true rfl⟩) (zk_o hz) (by decide) rfl rfl hl.1 rfl (Nat.le_of_ble_eq_true rfl) dX4_run_67 ⟨by show _ ≤ 768; omega, by show _ ≤ 3072; omega⟩ rfl (fun H locs hW hS => ?_)
                    refine lv_aload_n S.1 S.2.1 dX4_run_70 rfl (lv_at hl 0 rfl) ?_
                    refine kx_gI S hK hW (zk_o hz) 4 254 rfl iX4 (by decide) rfl rfl (by decide) (by decide +kernel) dX4_run_71 (v := tF T 1) (zsh hz).1 ?_
                    refine lv_aload_n S.1 S.2.1 dX4_run_74 rfl (lv_at hl 0 rfl) ?_
                    refine kx_gI S hK hW (zk_o hz) 5 255 rfl iX4 (by decide) rfl rfl (by decide) (by decide +kernel) dX4_run_75 (v := nI (eA ee 9 0)) (zsh hz).2.1 ?_
                    refine lv_icmp_ge (tgt := 101) S.1 S.2.1 dX4_run_78 (by decide) (fun c9 => ?_) (fun c9 => ?_)
                    · skip
                      refine lv_aload_n S.1 S.2.1 dX4_run_101 rfl (lv_at hl 0 rfl) ?_
                      refine lv_aload_n S.1 S.2.1 dX4_run_102 rfl (lv_at hl 0 rfl) ?_
                      refine kx_cV (As := []) (rest := [.ref o]) (st1 := [.int ((z_lst x ee T (eA ee 6 1)).toInt32), .ref o]) S hK hZ hA hW hS (c_X4_ticksUntilOneMayGo l G nu x z o ee T  hz ) (cwV 0 S.2.2.2.2 gX4_run_X4_ticksUntilOneMayGo rfl rfl rfl (by decide +kernel) ⟨Nat.le_of_ble_eq_true rfl, Nat.le_of_ble_eq_true rfl⟩) (zk_o hz) (by decide) rfl rfl hl.1 rfl (Nat.le_of_ble_eq_true rfl) dX4_run_103 ⟨by show _ ≤ 768; omega, by show _ ≤ 3072; omega⟩ rfl (fun H locs hW hS => ?_)
                      refine lv_iload_n S.1 S.2.1 dX4_run_106 rfl (lv_at hl 3 rfl) ?_
                      refine lv_aload_n S.1 S.2.1 dX4_run_107 rfl (lv_at hl 0 rfl) ?_
                      refine kx_gI S hK hW (zk_o hz) 4 254 rfl iX4 (by decide) rfl rfl (by decide) (by decide +kernel) dX4_run_108 (v := tF T 1) (zsh hz).1 ?_
                      refine lv_isub S.1 S.2.1 dX4_run_111 ?_
                      refine kx_mini S hl.1 (by decide +kernel) (by decide +kernel) (by decide +kernel) (by decide +kernel) (Nat.le_of_ble_eq_true rfl) (Nat.le_of_ble_eq_true rfl) (by show _ ≤ 768; omega) (by show _ ≤ 3072; omega) dX4_run_112 ?_
                      obtain ⟨n9, i1, i2, i3, i4, i5, i6⟩ := idle_n hz (zNow_of hz.1 hdue hbest) hlt hen (by omega)
                      have hIv := hz.1
                      rw [show (if ((tF t 1 + nI tN) - (tF T 1)) < ((z_lst x ee T (eA ee 6 1)).toInt32) then ((tF t 1 + nI tN) - (tF T 1)) else ((z_lst x ee T (eA ee 6 1)).toInt32)) = nI n9 from i3]
                      refine zx_cV (As := [.int (nI n9)]) (rest := []) (st1 := []) (t0 := m_pasN (z_hN T (nI n9) (eA ee 6 1)) (nI n9) 20) S hK hZ hA hW hS (c_X4_passIdle l G nu x z o ee T (nI n9) hz ⟨n9, Nat.zero_le _, i2, rfl⟩ (by rw [nI_toInt (by omega)]; omega)) (cwV 1 S.2.2.2.2 gX4_run_X4_passIdle rfl rfl rfl (by decide +kernel) ⟨Nat.le_of_ble_eq_true rfl, Nat.le_of_ble_eq_true rfl⟩) (zk_o hz) (by decide) rfl rfl hl.1 rfl (Nat.le_of_ble_eq_true rfl) dX4_run_115 ⟨by show _ ≤ 768; omega, by show _ ≤ 3072; omega⟩ rfl (fun x H locs hz hW hS => ?_)
                      refine lv_iinc (v := nI (n + 1)) (lv' := [(4, .int (nI (n + 1))), (0, .ref o), (1, .int (nI tN)), (2, .int (tF t 5)), (3, .int (tF t 1 + nI tN))]) S.1 S.2.1 dX4_run_118 hl (k := 4) rfl (nI_1 _) (by decide) rfl (fun ls hl => ?_)
                      refine lv_goto (tgt := 41) S.1 S.2.1 dX4_run_121 (by decide) ?_
                      exact ihlp (n + 1) nu ee (z_S ee T n9) _ _ (by omega) hnx (by omega) (by omega) (idle_F hF hIv h7 i2 (by omega)) (by rw [← idle_fin (lo := (tF t 1).toInt) hen (by omega) (by omega) hIv h7 hlt hdue hbest i1 i4 i5 i6]; exact hfn) (by rw [S_now hIv i2 (by omega)]; omega) (by rw [S_now hIv i2 (by omega)]; omega) _ _ _ ls hz hW hS (lv_sub hl [1, 2, 3, 4, 0] rfl)
                    · skip
                      exact absurd (Int32.not_lt.mp (by assumption)) c9
                  · skip
                    obtain ⟨T2, hT2⟩ : ∃ q, q = m_xs (z_hN T 1 (eA ee 6 1)) T (fpT T) (grT T) b (eA ee 6 3) := ⟨_, rfl⟩
                    obtain ⟨hb1, pk, qk, hQ⟩ := best_some hz.1 hbest
                    have h7b : ¬ tF T2 7 = 0 := by rw [hT2]; exact (exc_7 hz.1 hbest).1
                    have hv1 : tF T2 1 = tF T 1 := by rw [hT2]; exact (exc_7 hz.1 hbest).2
                    have hsv : m_step T (tF t 1 + nI tN) = m_step2 T2 (tF t 1 + nI tN) := by rw [hT2]; exact step_exc hz.1 h7 hdue hbest
                    have hrm := z_room hce hsl (z_cap hz) (zd_nlt hz hb1 hQ)
                    refine kw_callV (As := []) (rest := []) S hK hZ hA hW hS (c_X4_beginOne_x l G nu x z o ee T b pk qk hz hb1 hQ hdue hbest) (cwV 0 S.2.2.2.2 gX4_run_X4_beginOne rfl rfl rfl (by decide +kernel) ⟨Nat.le_of_ble_eq_true rfl, Nat.le_of_ble_eq_true rfl⟩) (zk_o hz) (by decide) rfl rfl hl.1 rfl (Nat.le_of_ble_eq_true rfl) dX4_run_67 ⟨by show _ ≤ 768; omega, by show _ ≤ 3072; omega⟩ (fun v nu x H locs hp hW hS => ?_)
                    obtain ⟨ev, hnx2, ee, hz, hF, hcp⟩ := hp
                    subst ev
                    rw [← hT2] at hz hF
                    have hnx := hnx.tr hnx2
                    refine W.eq (g2 := F0 m 70 ls []) rfl ?_
                    refine lv_aload_n S.1 S.2.1 dX4_run_70 rfl (lv_at hl 0 rfl) ?_
                    refine kx_gI S hK hW (zk_o hz) 4 254 rfl iX4 (by decide) rfl rfl (by decide) (by decide +kernel) dX4_run_71 (v := tF T2 1) (zsh hz).1 ?_
                    refine lv_aload_n S.1 S.2.1 dX4_run_74 rfl (lv_at hl 0 rfl) ?_
                    refine kx_gI S hK hW (zk_o hz) 5 255 rfl iX4 (by decide) rfl rfl (by decide) (by decide +kernel) dX4_run_75 (v := nI (eA ee 9 0)) (zsh hz).2.1 ?_
                    refine lv_icmp_ge (tgt := 101) S.1 S.2.1 dX4_run_78 (by decide) (fun c10 => ?_) (fun c10 => ?_)
                    · skip
                      exact absurd c10 (z_tfree hz.1 hF h7b)
                    · skip
                      refine lv_aload_n S.1 S.2.1 dX4_run_81 rfl (lv_at hl 0 rfl) ?_
                      refine lv_aload_n S.1 S.2.1 dX4_run_82 rfl (lv_at hl 0 rfl) ?_
                      refine kx_gI S hK hW (zk_o hz) 5 255 rfl iX4 (by decide) rfl rfl (by decide) (by decide +kernel) dX4_run_83 (v := nI (eA ee 9 0)) (zsh hz).2.1 ?_
                      refine lv_iload_n S.1 S.2.1 dX4_run_86 rfl (lv_at hl 3 rfl) ?_
                      refine kx_mini S hl.1 (by decide +kernel) (by decide +kernel) (by decide +kernel) (by decide +kernel) (Nat.le_of_ble_eq_true rfl) (Nat.le_of_ble_eq_true rfl) (by show _ ≤ 768; omega) (by show _ ≤ 3072; omega) dX4_run_87 ?_
                      refine lv_aload_n S.1 S.2.1 dX4_run_90 rfl (lv_at hl 0 rfl) ?_
                      refine kx_gI S hK hW (zk_o hz) 4 254 rfl iX4 (by decide) rfl rfl (by decide) (by decide +kernel) dX4_run_91 (v := tF T2 1) (zsh hz).1 ?_
                      refine lv_isub S.1 S.2.1 dX4_run_94 ?_
                      have hlv : tF T2 1 < (tF t 1 + nI tN) := by rw [hv1]; exact hlt
                      have hIv := hz.1
                      have hno2 := n_ok hIv hlv hen
                      have hno3 := hno2.2.2 h7b
                      have hv2 : (tF T2 1).toInt = (tF T 1).toInt := by rw [hv1]
                      rw [show ((if (tF t 1 + nI tN) < (nI (eA ee 9 0)) then (tF t 1 + nI tN) else (nI (eA ee 9 0))) - (tF T2 1)) = m_n T2 (tF t 1 + nI tN) from busy_n hIv hF h7b hlv hen]
                      refine zx_cV (As := [.int (m_n T2 (tF t 1 + nI tN))]) (rest := []) (st1 := []) (t0 := m_pasN (uF (uF (uF T2 6 (tF T2 6 + (m_n T2 (tF t 1 + nI tN)))) 7 (tF T2 7 - m_n T2 (tF t 1 + nI tN))) 8 (if tF T2 7 - m_n T2 (tF t 1 + nI tN) = 0 then -1 else tF T2 8)) (m_n T2 (tF t 1 + nI tN)) 20) S hK hZ hA hW hS (c_X4_passBusy l G nu x z o ee T2 (m_n T2 (tF t 1 + nI tN)) (tF T2 7 - m_n T2 (tF t 1 + nI tN)) (if tF T2 7 - m_n T2 (tF t 1 + nI tN) = 0 then -1 else tF T2 8) hz (bd.of (by omega) (by omega)) (by omega) (tI_busy hIv hno2.1 hno3)) (cwV 1 S.2.2.2.2 gX4_run_X4_passBusy rfl rfl rfl (by decide +kernel) ⟨Nat.le_of_ble_eq_true rfl, Nat.le_of_ble_eq_true rfl⟩) (zk_o hz) (by decide) rfl rfl hl.1 rfl (Nat.le_of_ble_eq_true rfl) dX4_run_95 ⟨by show _ ≤ 768; omega, by show _ ≤ 3072; omega⟩ rfl (fun x H locs hz hW hS => ?_)
                      refine lv_goto (tgt := 118) S.1 S.2.1 dX4_run_98 (by decide) ?_
                      refine lv_iinc (v := nI (n + 1)) (lv' := [(4, .int (nI (n + 1))), (0, .ref o), (1, .int (nI tN)), (2, .int (tF t 5)), (3, .int (tF t 1 + nI tN))]) S.1 S.2.1 dX4_run_118 hl (k := 4) rfl (nI_1 _) (by decide) rfl (fun ls hl => ?_)
                      refine lv_goto (tgt := 41) S.1 S.2.1 dX4_run_121 (by decide) ?_
                      exact ihlp (n + 1) nu ee (m_step2 T2 (tF t 1 + nI tN)) _ _ (by omega) hnx (by omega) (by omega) (busy_F hIv hF h7b hlv hen) (by rw [← hsv, ← fin_step (lo := (tF t 1).toInt) hen (by omega) ⟨⟨_, hI0⟩, by omega⟩ hlt]; exact hfn) (by rw [(step2_ok hIv hlv hen (by omega)).2]; omega) (by rw [(step2_ok hIv hlv hen (by omega)).2]; omega) _ _ _ ls (by rw [busy_step hIv h7b]; exact hz) hW hS (lv_sub hl [1, 2, 3, 4, 0] rfl)
                · skip
                  obtain ⟨T2, hT2⟩ : ∃ q, q = m_dsend T (fpT T) (grT T) b (eA ee 6 3) := ⟨_, rfl⟩
                  obtain ⟨hb1, -, pk, qk, hQ⟩ := due_some hz.1 hdue
                  have h7b : ¬ tF T2 7 = 0 := by rw [hT2]; exact (due_7 hz.1 hdue).1
                  have hv1 : tF T2 1 = tF T 1 := by rw [hT2]; exact (due_7 hz.1 hdue).2
                  have hsv : m_step T (tF t 1 + nI tN) = m_step2 T2 (tF t 1 + nI tN) := by rw [hT2]; exact step_due hz.1 h7 hdue
                  have hrm := z_room hce hsl (z_cap hz) (zd_nlt hz hb1 hQ)
                  refine kw_callV (As := []) (rest := []) S hK hZ hA hW hS (c_X4_beginOne_d l G nu x z o ee T b pk qk hz hb1 hQ hdue) (cwV 0 S.2.2.2.2 gX4_run_X4_beginOne rfl rfl rfl (by decide +kernel) ⟨Nat.le_of_ble_eq_true rfl, Nat.le_of_ble_eq_true rfl⟩) (zk_o hz) (by decide) rfl rfl hl.1 rfl (Nat.le_of_ble_eq_true rfl) dX4_run_67 ⟨by show _ ≤ 768; omega, by show _ ≤ 3072; omega⟩ (fun v nu x H locs hp hW hS => ?_)
                  obtain ⟨ev, hnx2, ee, hz, hF, hcp⟩ := hp
                  subst ev
                  rw [← hT2] at hz hF
                  have hnx := hnx.tr hnx2
                  refine W.eq (g2 := F0 m 70 ls []) rfl ?_
                  refine lv_aload_n S.1 S.2.1 dX4_run_70 rfl (lv_at hl 0 rfl) ?_
                  refine kx_gI S hK hW (zk_o hz) 4 254 rfl iX4 (by decide) rfl rfl (by decide) (by decide +kernel) dX4_run_71 (v := tF T2 1) (zsh hz).1 ?_
                  refine lv_aload_n S.1 S.2.1 dX4_run_74 rfl (lv_at hl 0 rfl) ?_
                  refine kx_gI S hK hW (zk_o hz) 5 255 rfl iX4 (by decide) rfl rfl (by decide) (by decide +kernel) dX4_run_75 (v := nI (eA ee 9 0)) (zsh hz).2.1 ?_
                  refine lv_icmp_ge (tgt := 101) S.1 S.2.1 dX4_run_78 (by decide) (fun c11 => ?_) (fun c11 => ?_)
                  · skip
                    exact absurd c11 (z_tfree hz.1 hF h7b)
                  · skip
                    refine lv_aload_n S.1 S.2.1 dX4_run_81 rfl (lv_at hl 0 rfl) ?_
                    refine lv_aload_n S.1 S.2.1 dX4_run_82 rfl (lv_at hl 0 rfl) ?_
                    refine kx_gI S hK hW (zk_o hz) 5 255 rfl iX4 (by decide) rfl rfl (by decide) (by decide +kernel) dX4_run_83 (v := nI (eA ee 9 0)) (zsh hz).2.1 ?_
                    refine lv_iload_n S.1 S.2.1 dX4_run_86 rfl (lv_at hl 3 rfl) ?_
                    refine kx_mini S hl.1 (by decide +kernel) (by decide +kernel) (by decide +kernel) (by decide +kernel) (Nat.le_of_ble_eq_true rfl) (Nat.le_of_ble_eq_true rfl) (by show _ ≤ 768; omega) (by show _ ≤ 3072; omega) dX4_run_87 ?_
                    refine lv_aload_n S.1 S.2.1 dX4_run_90 rfl (lv_at hl 0 rfl) ?_
                    refine kx_gI S hK hW (zk_o hz) 4 254 rfl iX4 (by decide) rfl rfl (by decide) (by decide +kernel) dX4_run_91 (v := tF T2 1) (zsh hz).1 ?_
                    refine lv_isub S.1 S.2.1 dX4_run_94 ?_
                    have hlv : tF T2 1 < (tF t 1 + nI tN) := by rw [hv1]; exact hlt
                    have hIv := hz.1
                    have hno2 := n_ok hIv hlv hen
                    have hno3 := hno2.2.2 h7b
                    have hv2 : (tF T2 1).toInt = (tF T 1).toInt := by rw [hv1]
                    rw [show ((if (tF t 1 + nI tN) < (nI (eA ee 9 0)) then (tF t 1 + nI tN) else (nI (eA ee 9 0))) - (tF T2 1)) = m_n T2 (tF t 1 + nI tN) from busy_n hIv hF h7b hlv hen]
                    refine zx_cV (As := [.int (m_n T2 (tF t 1 + nI tN))]) (rest := []) (st1 := []) (t0 := m_pasN (uF (uF (uF T2 6 (tF T2 6 + (m_n T2 (tF t 1 + nI tN)))) 7 (tF T2 7 - m_n T2 (tF t 1 + nI tN))) 8 (if tF T2 7 - m_n T2 (tF t 1 + nI tN) = 0 then -1 else tF T2 8)) (m_n T2 (tF t 1 + nI tN)) 20) S hK hZ hA hW hS (c_X4_passBusy l G nu x z o ee T2 (m_n T2 (tF t 1 + nI tN)) (tF T2 7 - m_n T2 (tF t 1 + nI tN)) (if tF T2 7 - m_n T2 (tF t 1 + nI tN) = 0 then -1 else tF T2 8) hz (bd.of (by omega) (by omega)) (by omega) (tI_busy hIv hno2.1 hno3)) (cwV 1 S.2.2.2.2 gX4_run_X4_passBusy rfl rfl rfl (by decide +kernel) ⟨Nat.le_of_ble_eq_true rfl, Nat.le_of_ble_eq_true rfl⟩) (zk_o hz) (by decide) rfl rfl hl.1 rfl (Nat.le_of_ble_eq_true rfl) dX4_run_95 ⟨by show _ ≤ 768; omega, by show _ ≤ 3072; omega⟩ rfl (fun x H locs hz hW hS => ?_)
                    refine lv_goto (tgt := 118) S.1 S.2.1 dX4_run_98 (by decide) ?_
                    refine lv_iinc (v := nI (n + 1)) (lv' := [(4, .int (nI (n + 1))), (0, .ref o), (1, .int (nI tN)), (2, .int (tF t 5)), (3, .int (tF t 1 + nI tN))]) S.1 S.2.1 dX4_run_118 hl (k := 4) rfl (nI_1 _) (by decide) rfl (fun ls hl => ?_)
                    refine lv_goto (tgt := 41) S.1 S.2.1 dX4_run_121 (by decide) ?_
                    exact ihlp (n + 1) nu ee (m_step2 T2 (tF t 1 + nI tN)) _ _ (by omega) hnx (by omega) (by omega) (busy_F hIv hF h7b hlv hen) (by rw [← hsv, ← fin_step (lo := (tF t 1).toInt) hen (by omega) ⟨⟨_, hI0⟩, by omega⟩ hlt]; exact hfn) (by rw [(step2_ok hIv hlv hen (by omega)).2]; omega) (by rw [(step2_ok hIv hlv hen (by omega)).2]; omega) _ _ _ ls (by rw [busy_step hIv h7b]; exact hz) hW hS (lv_sub hl [1, 2, 3, 4, 0] rfl)
      exact lp (tN - 0) 0 nu ee t _ _ (by omega) (by rw [hnu0]; exact nuX.rf) (Nat.zero_le _) (Nat.zero_le _) hF rfl (by omega) (by omega) _ _ _ ls hz hW hS (lv_conv (lv_sub hl [3, 4, 2, 1, 0] rfl) (congr (congrArg List.cons rfl) (congr (congrArg List.cons rfl) (congr (congrArg List.cons rfl) (congr (congrArg List.cons (congrArg (fun z9 => ((3 : Nat), Value.int z9)) (show ((tF t 1) + (nI tN) : Int32) = tF t 1 + nI tN from by first | rfl | (rfl)))) (congr (congrArg List.cons (congrArg (fun z9 => ((4 : Nat), Value.int z9)) (show (0 : Int32) = nI 0 from by first | rfl | (rfl)))) rfl))))))
    · skip
      exact absurd (z_last ht1 ht2 hno) c2
