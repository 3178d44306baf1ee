/-! LinkShaper: ticks pass -/
set_option maxHeartbeats 1000000 in
set_option maxRecDepth 100000 in
/-- countHeld -/
theorem c_X4_countHeld (l : Launch) (G : kw_G) (nu : Nat → Option Nat) (x z : kw_St) (o : Nat) (ee : kE) (t : mo_T) (ti : Int32) (hz : zw G nu z o ee t x)  : kw_M l G yX4_countHeld wsX4_countHeld { frames := 3, cells := 0, slots := 0, locals := 64 } 0 0 [.ref o, .int (ti)] nu x (fun v nu' y => v = none ∧ nu' = nu ∧ zw G nu z o ee (z_hN t ti (eA ee 6 1)) y) := by
  refine kw_M.ofW (cc := cX4_countHeld) (maxL := 4) (ret := none) (by decide) rfl (Nat.le_of_ble_eq_true rfl) ?_
  intro p e s m args below meth c A ls S hr hlk hnm hK hZ hA hW hS hl
  have hl : lv_has ls 4 [(0, .ref o), (1, .int (ti))] := hl
  have iX2 : ∀ w ∈ wsX20, w ∈ wsX4_countHeld := by decide +kernel
  have iX4 : ∀ w ∈ wsX40, w ∈ wsX4_countHeld := by decide +kernel
  have hdg := zd_ng hz
  have hdl := zd_nl hz
  have hdp := zd_np hz
  have hdb := zd_nb hz
  obtain ⟨QQ, hQQ⟩ : ∃ q, q = MQ below (kw_Qc G A (fun v nu' y => v = none ∧ nu' = nu ∧ zw G nu z o ee (z_hN t ti (eA ee 6 1)) y)) args s 0 0 A := ⟨_, rfl⟩
  rw [← hQQ]
  refine lv_iconst (v := 0) S.1 S.2.1 dX4_countHeld_0 (by decide) ?_
  refine lv_istore_n (lv' := [(2, .int (0)), (0, .ref o), (1, .int (ti))]) S.1 S.2.1 dX4_countHeld_1 rfl hl (by decide) rfl (fun ls hl => ?_)
  have lp : ∀ (dn n : Nat), n + dn = eA ee 6 1 → ∀ (x : kw_St) (H : Heap) (locs : List Loc) (ls : Array Slot), zw G nu z o ee (z_hN t ti n) x → kw_W G A nu x H → va_S A s.heap H locs → lv_has ls 4 [(0, .ref o), (1, .int (ti)), (2, .int (nI n))] → W p l e { frames := 3, cells := 0, slots := 0, locals := 64 } s m args below meth c H locs 0 0 QQ (F0 m 2 ls []) := by
    intro dn
    induction dn with
    | zero =>
      intro n  hndn  x H locs ls hz hW hS hl
      refine lv_iload_n S.1 S.2.1 dX4_countHeld_2 rfl (lv_at hl 2 rfl) ?_
      refine lv_aload_n S.1 S.2.1 dX4_countHeld_3 rfl (lv_at hl 0 rfl) ?_
      refine kx_gA S hK hW (zk_o hz) 1 251 rfl iX4 (by decide) rfl rfl (by decide) (by decide +kernel) dX4_countHeld_4 (b := (eA ee 4 1)) (zs_list hz (i := 1) (by decide)) ?_
      refine kx_cV (As := []) (rest := [.int (nI n)]) (st1 := [.int (nI (eA ee 6 1)), .int (nI n)]) S hK hZ hA hW hS (c_z_size l G hz 1 (by decide)) (cwV 0 S.2.2.2.2 gX4_countHeld_Jx4a65c_size_8abf5 rfl rfl rfl (by decide +kernel) ⟨Nat.le_of_ble_eq_true rfl, Nat.le_of_ble_eq_true rfl⟩) (zk_L hz (by decide)) (by decide) rfl rfl hl.1 rfl (Nat.le_of_ble_eq_true rfl) dX4_countHeld_7 ⟨Nat.le_of_ble_eq_true rfl, Nat.le_of_ble_eq_true rfl⟩ rfl (fun H locs hW hS => ?_)
      refine lv_icmp_ge (tgt := 48) S.1 S.2.1 dX4_countHeld_10 (by decide) (fun c1 => ?_) (fun c1 => ?_)
      · skip
        rw [hQQ]
        refine kw_vret S hr hlk hW hS (by decide) (by decide) dX4_countHeld_48 ?_
        refine ⟨rfl, rfl, ?_⟩; rw [show eA ee 6 1 = n by omega]; exact hz
      · skip
        exact absurd (nI_le (a := eA ee 6 1) (b := n) (by omega) (by omega)) c1
    | succ dn ihlp =>
      intro n  hndn  x H locs ls hz hW hS hl
      refine lv_iload_n S.1 S.2.1 dX4_countHeld_2 rfl (lv_at hl 2 rfl) ?_
      refine lv_aload_n S.1 S.2.1 dX4_countHeld_3 rfl (lv_at hl 0 rfl) ?_
      refine kx_gA S hK hW (zk_o hz) 1 251 rfl iX4 (by decide) rfl rfl (by decide) (by decide +kernel) dX4_countHeld_4 (b := (eA ee 4 1)) (zs_list hz (i := 1) (by decide)) ?_
      refine kx_cV (As := []) (rest := [.int (nI n)]) (st1 := [.int (nI (eA ee 6 1)), .int (nI n)]) S hK hZ hA hW hS (c_z_size l G hz 1 (by decide)) (cwV 0 S.2.2.2.2 gX4_countHeld_Jx4a65c_size_8abf5 rfl rfl rfl (by decide +kernel) ⟨Nat.le_of_ble_eq_true rfl, Nat.le_of_ble_eq_true rfl⟩) (zk_L hz (by decide)) (by decide) rfl rfl hl.1 rfl (Nat.le_of_ble_eq_true rfl) dX4_countHeld_7 ⟨Nat.le_of_ble_eq_true rfl, Nat.le_of_ble_eq_true rfl⟩ rfl (fun H locs hW hS => ?_)
      refine lv_icmp_ge (tgt := 48) S.1 S.2.1 dX4_countHeld_10 (by decide) (fun c2 => ?_) (fun c2 => ?_)
      · skip
        exact absurd c2 (nI_ge (a := n) (b := eA ee 6 1) (by omega) (by omega))
      · skip
        refine lv_aload_n S.1 S.2.1 dX4_countHeld_13 rfl (lv_at hl 0 rfl) ?_
        refine kx_gA S hK hW (zk_o hz) 1 251 rfl iX4 (by decide) rfl rfl (by decide) (by decide +kernel) dX4_countHeld_14 (b := (eA ee 4 1)) (zs_list hz (i := 1) (by decide)) ?_
        refine lv_iload_n S.1 S.2.1 dX4_countHeld_17 rfl (lv_at hl 2 rfl) ?_
        refine kx_cV (As := [.int (nI n)]) (rest := []) (st1 := [.ref (eA ee 1 n)]) S hK hZ hA hW hS (c_z_get l G hz 1 n (by decide) (by omega)) (cwV 1 S.2.2.2.2 gX4_countHeld_Jx4a65c_get_915e3 rfl rfl rfl (by decide +kernel) ⟨Nat.le_of_ble_eq_true rfl, Nat.le_of_ble_eq_true rfl⟩) (zk_L hz (by decide)) (by decide) rfl rfl hl.1 rfl (Nat.le_of_ble_eq_true rfl) dX4_countHeld_18 ⟨Nat.le_of_ble_eq_true rfl, Nat.le_of_ble_eq_true rfl⟩ rfl (fun H locs hW hS => ?_)
        refine kx_cast S hK hW (zk_l hz (by omega)) (by decide) rfl (by decide +kernel) dX4_countHeld_21 ?_
        refine lv_astore_n (lv' := [(3, .ref (eA ee 1 n)), (0, .ref o), (1, .int (ti)), (2, .int (nI n))]) S.1 S.2.1 dX4_countHeld_24 rfl hl (by decide) rfl (fun ls hl => ?_)
        refine lv_aload_n S.1 S.2.1 dX4_countHeld_25 rfl (lv_at hl 0 rfl) ?_
        refine kx_cV (As := []) (rest := []) (st1 := [.int (kw_b (q_held x ((eA ee 1 n)) (eA ee 3 n) (eA ee 3 (8 + eA ee 8 n)) = true))]) S hK hZ hA hW hS (c_X2_isHeld l G nu x ((eA ee 1 n)) (eA ee 0 (eA ee 8 n)) (eA ee 3 n) (eA ee 3 (8 + eA ee 8 n)) ((zk_l hz (by omega))) ((zk_g hz (zd_gr hz (by omega)))) ((zk_b hz (zb_l (by omega)))) ((zk_b hz (zb_g (zd_gr hz (by omega))))) (zl_gr hz (by omega)) (zl_ce hz (by omega)) (zl_gc hz (by omega)) (zl_fi hz (by omega))) (cwV 0 S.2.2.2.2 gX4_countHeld_X2_isHeld rfl rfl rfl (by decide +kernel) ⟨Nat.le_of_ble_eq_true rfl, Nat.le_of_ble_eq_true rfl⟩) ((zk_l hz (by omega))) (by decide) rfl rfl hl.1 rfl (Nat.le_of_ble_eq_true rfl) dX4_countHeld_26 ⟨Nat.le_of_ble_eq_true rfl, Nat.le_of_ble_eq_true rfl⟩ rfl (fun H locs hW hS => ?_)
        refine kx_ifz_eq (tgt := 42) S dX4_countHeld_29 (by decide) (fun c3 => ?_) (fun c3 => ?_)
        · skip
          refine lv_iinc (v := nI (n + 1)) (lv' := [(2, .int (nI (n + 1))), (3, .ref (eA ee 1 n)), (0, .ref o), (1, .int (ti))]) S.1 S.2.1 dX4_countHeld_42 hl (k := 3) rfl (nI_1 _) (by decide) rfl (fun ls hl => ?_)
          refine lv_goto (tgt := 2) S.1 S.2.1 dX4_countHeld_45 (by decide) ?_
          exact ihlp (n + 1)  (by omega)  _ _ _ ls (by rw [z_hN, if_neg (by rw [zw_hN hz (by omega)]; assumption)]; exact hz) hW hS (lv_sub hl [2, 3, 0] rfl)
        · skip
          refine lv_aload_n S.1 S.2.1 dX4_countHeld_32 rfl (lv_at hl 0 rfl) ?_
          refine lv_dup S.1 S.2.1 dX4_countHeld_33 rfl ?_
          refine kx_gI S hK hW (zk_l hz (by omega)) 16 166 rfl iX2 (by decide) rfl rfl (by decide) (by decide +kernel) dX4_countHeld_34 (v := tA (z_hN t ti n) 26 n) (zl hz (by omega)).2.2.2.2.2.2.2.2.2.2.2.2.2.2.2.2.1 ?_
          refine lv_iload_n S.1 S.2.1 dX4_countHeld_37 rfl (lv_at hl 2 rfl) ?_
          refine lv_iadd S.1 S.2.1 dX4_countHeld_38 ?_
          refine kx_pI S hK hW hS (zk_l hz (by omega)) 16 166  rfl iX2 tyX2_ok nmX2 (by decide) rfl rfl (by decide) (by decide +kernel) (Or.inl rfl) rfl dX4_countHeld_39 (fun H locs hW hS => ?_)
          refine lv_iinc (v := nI (n + 1)) (lv' := [(2, .int (nI (n + 1))), (3, .ref (eA ee 1 n)), (0, .ref o), (1, .int (ti))]) S.1 S.2.1 dX4_countHeld_42 hl (k := 3) rfl (nI_1 _) (by decide) rfl (fun ls hl => ?_)
          refine lv_goto (tgt := 2) S.1 S.2.1 dX4_countHeld_45 (by decide) ?_
          exact ihlp (n + 1)  (by omega)  _ _ _ ls (by rw [z_hN, if_pos (by rw [zw_hN hz (by omega)]; assumption)]; exact zw_held hz (by omega) _) hW hS (lv_sub hl [2, 3, 0] rfl)
  exact lp (eA ee 6 1 - 0) 0  (by omega)  _ _ _ ls hz hW hS (lv_conv (lv_sub hl [1, 2, 0] rfl) (congr (congrArg List.cons rfl) (congr (congrArg List.cons rfl) (congr (congrArg List.cons (congrArg (fun z9 => ((2 : Nat), Value.int z9)) (show (0 : Int32) = nI 0 from by first | rfl | (rfl)))) rfl))))
set_option maxHeartbeats 1000000 in
set_option maxRecDepth 100000 in
/-- pass -/
theorem c_X4_pass (l : Launch) (G : kw_G) (nu : Nat → Option Nat) (x z : kw_St) (o : Nat) (ee : kE) (t : mo_T) (ti : Int32) (hz : zw G nu z o ee t x) (hti : bd ti 0 100000) (hnow : (tF t 1).toInt + ti.toInt ≤ 1000000000) : kw_M l G yX4_pass wsX4_pass { frames := 3, cells := 0, slots := 0, locals := 64 } 0 0 [.ref o, .int (ti)] nu x (fun v nu' y => v = none ∧ nu' = nu ∧ zw G nu z o ee (m_pasN t ti 20) y) := by
  refine kw_M.ofW (cc := cX4_pass) (maxL := 4) (ret := none) (by decide) rfl (Nat.le_of_ble_eq_true rfl) ?_
  intro p e s m args below meth c A ls S hr hlk hnm hK hZ hA hW hS hl
  have hl : lv_has ls 4 [(0, .ref o), (1, .int (ti))] := hl
  have iX1 : ∀ w ∈ wsX10, w ∈ wsX4_pass := by decide +kernel
  have iX2 : ∀ w ∈ wsX20, w ∈ wsX4_pass := by decide +kernel
  have iX4 : ∀ w ∈ wsX40, w ∈ wsX4_pass := by decide +kernel
  have hdg := zd_ng hz
  have hdl := zd_nl hz
  have hdp := zd_np hz
  have hdb := zd_nb hz
  obtain ⟨QQ, hQQ⟩ : ∃ q, q = MQ below (kw_Qc G A (fun v nu' y => v = none ∧ nu' = nu ∧ zw G nu z o ee (m_pasN t ti 20) y)) args s 0 0 A := ⟨_, rfl⟩
  rw [← hQQ]
  have hI0 := hz.1
  refine lv_iconst (v := 0) S.1 S.2.1 dX4_pass_0 (by decide) ?_
  refine lv_istore_n (lv' := [(2, .int (0)), (0, .ref o), (1, .int (ti))]) S.1 S.2.1 dX4_pass_1 rfl hl (by decide) rfl (fun ls hl => ?_)
  have lp : ∀ (dn n : Nat), n + dn = eA ee 6 0 → ∀ (x : kw_St) (H : Heap) (locs : List Loc) (ls : Array Slot), zw G nu z o ee (z_p1 t ti n) x → kw_W G A nu x H → va_S A s.heap H locs → lv_has ls 4 [(0, .ref o), (1, .int (ti)), (2, .int (nI n))] → W p l e { frames := 3, cells := 0, slots := 0, locals := 64 } s m args below meth c H locs 0 0 QQ (F0 m 2 ls []) := by
    intro dn
    induction dn with
    | zero =>
      intro n  hndn  x H locs ls hz hW hS hl
      refine lv_iload_n S.1 S.2.1 dX4_pass_2 rfl (lv_at hl 2 rfl) ?_
      refine lv_aload_n S.1 S.2.1 dX4_pass_3 rfl (lv_at hl 0 rfl) ?_
      refine kx_gA S hK hW (zk_o hz) 0 250 rfl iX4 (by decide) rfl rfl (by decide) (by decide +kernel) dX4_pass_4 (b := (eA ee 4 0)) (zs_list hz (i := 0) (by decide)) ?_
      refine kx_cV (As := []) (rest := [.int (nI n)]) (st1 := [.int (nI (eA ee 6 0)), .int (nI n)]) S hK hZ hA hW hS (c_z_size l G hz 0 (by decide)) (cwV 0 S.2.2.2.2 gX4_pass_Jx4a65c_size_8abf5 rfl rfl rfl (by decide +kernel) ⟨Nat.le_of_ble_eq_true rfl, Nat.le_of_ble_eq_true rfl⟩) (zk_L hz (by decide)) (by decide) rfl rfl hl.1 rfl (Nat.le_of_ble_eq_true rfl) dX4_pass_7 ⟨Nat.le_of_ble_eq_true rfl, Nat.le_of_ble_eq_true rfl⟩ rfl (fun H locs hW hS => ?_)
      refine lv_icmp_ge (tgt := 37) S.1 S.2.1 dX4_pass_10 (by decide) (fun c1 => ?_) (fun c1 => ?_)
      · skip
        refine lv_iconst (v := 0) S.1 S.2.1 dX4_pass_37 (by decide) ?_
        refine lv_istore_n (lv' := [(2, .int (0)), (0, .ref o), (1, .int (ti))]) S.1 S.2.1 dX4_pass_38 rfl hl (by decide) rfl (fun ls hl => ?_)
        have lq : ∀ (dn j : Nat), j + dn = eA ee 6 1 → ∀ (x : kw_St) (H : Heap) (locs : List Loc) (ls : Array Slot), zw G nu z o ee (z_p2 (z_p1 t ti (eA ee 6 0)) ti j) x → kw_W G A nu x H → va_S A s.heap H locs → lv_has ls 4 [(0, .ref o), (1, .int (ti)), (2, .int (nI j))] → W p l e { frames := 3, cells := 0, slots := 0, locals := 64 } s m args below meth c H locs 0 0 QQ (F0 m 39 ls []) := by
          intro dn
          induction dn with
          | zero =>
            intro j  hndj  x H locs ls hz hW hS hl
            refine lv_iload_n S.1 S.2.1 dX4_pass_39 rfl (lv_at hl 2 rfl) ?_
            refine lv_aload_n S.1 S.2.1 dX4_pass_40 rfl (lv_at hl 0 rfl) ?_
            refine kx_gA S hK hW (zk_o hz) 1 251 rfl iX4 (by decide) rfl rfl (by decide) (by decide +kernel) dX4_pass_41 (b := (eA ee 4 1)) (zs_list hz (i := 1) (by decide)) ?_
            refine kx_cV (As := []) (rest := [.int (nI j)]) (st1 := [.int (nI (eA ee 6 1)), .int (nI j)]) S hK hZ hA hW hS (c_z_size l G hz 1 (by decide)) (cwV 0 S.2.2.2.2 gX4_pass_Jx4a65c_size_8abf5 rfl rfl rfl (by decide +kernel) ⟨Nat.le_of_ble_eq_true rfl, Nat.le_of_ble_eq_true rfl⟩) (zk_L hz (by decide)) (by decide) rfl rfl hl.1 rfl (Nat.le_of_ble_eq_true rfl) dX4_pass_44 ⟨Nat.le_of_ble_eq_true rfl, Nat.le_of_ble_eq_true rfl⟩ rfl (fun H locs hW hS => ?_)
            refine lv_icmp_ge (tgt := 91) S.1 S.2.1 dX4_pass_47 (by decide) (fun c2 => ?_) (fun c2 => ?_)
            · skip
              refine lv_aload_n S.1 S.2.1 dX4_pass_91 rfl (lv_at hl 0 rfl) ?_
              refine lv_dup S.1 S.2.1 dX4_pass_92 rfl ?_
              refine kx_gI S hK hW (zk_o hz) 4 254 rfl iX4 (by decide) rfl rfl (by decide) (by decide +kernel) dX4_pass_93 (v := tF (z_p2 (z_p1 t ti (eA ee 6 0)) ti j) 1) (zsh hz).1 ?_
              refine lv_iload_n S.1 S.2.1 dX4_pass_96 rfl (lv_at hl 1 rfl) ?_
              refine lv_iadd S.1 S.2.1 dX4_pass_97 ?_
              refine kx_pI S hK hW hS (zk_o hz) 4 254  rfl iX4 tyX4_ok nmX4 (by decide) rfl rfl (by decide) (by decide +kernel) (Or.inl rfl) rfl dX4_pass_98 (fun H locs hW hS => ?_)
              rw [hQQ]
              refine kw_vret S hr hlk hW hS (by decide) (by decide) dX4_pass_101 ?_
              refine ⟨rfl, rfl, zw_pas hI0 hti hnow (by rw [show eA ee 6 1 = j by omega]; exact hz) (by rw [p2_F, p1_F])⟩
            · skip
              exact absurd (nI_le (a := eA ee 6 1) (b := j) (by omega) (by omega)) c2
          | succ dn ihlq =>
            intro j  hndj  x H locs ls hz hW hS hl
            refine lv_iload_n S.1 S.2.1 dX4_pass_39 rfl (lv_at hl 2 rfl) ?_
            refine lv_aload_n S.1 S.2.1 dX4_pass_40 rfl (lv_at hl 0 rfl) ?_
            refine kx_gA S hK hW (zk_o hz) 1 251 rfl iX4 (by decide) rfl rfl (by decide) (by decide +kernel) dX4_pass_41 (b := (eA ee 4 1)) (zs_list hz (i := 1) (by decide)) ?_
            refine kx_cV (As := []) (rest := [.int (nI j)]) (st1 := [.int (nI (eA ee 6 1)), .int (nI j)]) S hK hZ hA hW hS (c_z_size l G hz 1 (by decide)) (cwV 0 S.2.2.2.2 gX4_pass_Jx4a65c_size_8abf5 rfl rfl rfl (by decide +kernel) ⟨Nat.le_of_ble_eq_true rfl, Nat.le_of_ble_eq_true rfl⟩) (zk_L hz (by decide)) (by decide) rfl rfl hl.1 rfl (Nat.le_of_ble_eq_true rfl) dX4_pass_44 ⟨Nat.le_of_ble_eq_true rfl, Nat.le_of_ble_eq_true rfl⟩ rfl (fun H locs hW hS => ?_)
            refine lv_icmp_ge (tgt := 91) S.1 S.2.1 dX4_pass_47 (by decide) (fun c3 => ?_) (fun c3 => ?_)
            · skip
              exact absurd c3 (nI_ge (a := j) (b := eA ee 6 1) (by omega) (by omega))
            · skip
              refine lv_aload_n S.1 S.2.1 dX4_pass_50 rfl (lv_at hl 0 rfl) ?_
              refine kx_gA S hK hW (zk_o hz) 1 251 rfl iX4 (by decide) rfl rfl (by decide) (by decide +kernel) dX4_pass_51 (b := (eA ee 4 1)) (zs_list hz (i := 1) (by decide)) ?_
              refine lv_iload_n S.1 S.2.1 dX4_pass_54 rfl (lv_at hl 2 rfl) ?_
              refine kx_cV (As := [.int (nI j)]) (rest := []) (st1 := [.ref (eA ee 1 j)]) S hK hZ hA hW hS (c_z_get l G hz 1 j (by decide) (by omega)) (cwV 1 S.2.2.2.2 gX4_pass_Jx4a65c_get_915e3 rfl rfl rfl (by decide +kernel) ⟨Nat.le_of_ble_eq_true rfl, Nat.le_of_ble_eq_true rfl⟩) (zk_L hz (by decide)) (by decide) rfl rfl hl.1 rfl (Nat.le_of_ble_eq_true rfl) dX4_pass_55 ⟨Nat.le_of_ble_eq_true rfl, Nat.le_of_ble_eq_true rfl⟩ rfl (fun H locs hW hS => ?_)
              refine kx_cast S hK hW (zk_l hz (by omega)) (by decide) rfl (by decide +kernel) dX4_pass_58 ?_
              refine lv_astore_n (lv' := [(3, .ref (eA ee 1 j)), (0, .ref o), (1, .int (ti)), (2, .int (nI j))]) S.1 S.2.1 dX4_pass_61 rfl hl (by decide) rfl (fun ls hl => ?_)
              refine lv_aload_n S.1 S.2.1 dX4_pass_62 rfl (lv_at hl 0 rfl) ?_
              refine kx_gA S hK hW (zk_l hz (by omega)) 3 153 rfl iX2 (by decide) rfl rfl (by decide) (by decide +kernel) dX4_pass_63 (b := (eA ee 3 j)) (zl_ce hz (by omega)) ?_
              refine lv_iload_n S.1 S.2.1 dX4_pass_66 rfl (lv_at hl 2 rfl) ?_
              refine kx_cV (As := [.int (ti)]) (rest := []) (st1 := []) S hK hZ hA hW hS (c_X0_fill l G nu x ((eA ee 3 j)) ti ((zk_b hz (zb_l (by omega))))) (cwV 1 S.2.2.2.2 gX4_pass_X0_fill rfl rfl rfl (by decide +kernel) ⟨Nat.le_of_ble_eq_true rfl, Nat.le_of_ble_eq_true rfl⟩) ((zk_b hz (zb_l (by omega)))) (by decide) rfl rfl hl.1 rfl (Nat.le_of_ble_eq_true rfl) dX4_pass_67 ⟨Nat.le_of_ble_eq_true rfl, Nat.le_of_ble_eq_true rfl⟩ rfl (fun H locs hW hS => ?_)
              have hz : zw G nu z o ee (z_p3 (z_p2 (z_p1 t ti (eA ee 6 0)) ti j) ti j) (sJ x 52 ((eA ee 3 j)) (q_fill x ((eA ee 3 j)) ti)) := zw_fill hz (zb_l (by omega)) hti
              refine lv_aload_n S.1 S.2.1 dX4_pass_70 rfl (lv_at hl 0 rfl) ?_
              rcases o4 : kR (sJ x 52 ((eA ee 3 j)) (q_fill x ((eA ee 3 j)) ti)) 155 (eA ee 1 j) with _ | p5
              · skip
                refine kx_gN S hK hW (zk_l hz (by omega)) 5 155 rfl iX2 (by decide) rfl rfl (by decide) (by decide +kernel) dX4_pass_71 o4 ?_
                refine lv_ifnullN (tgt := 85) S.1 S.2.1 dX4_pass_74 (by decide) ?_
                refine lv_iinc (v := nI (j + 1)) (lv' := [(2, .int (nI (j + 1))), (3, .ref (eA ee 1 j)), (0, .ref o), (1, .int (ti))]) S.1 S.2.1 dX4_pass_85 hl (k := 3) rfl (nI_1 _) (by decide) rfl (fun ls hl => ?_)
                refine lv_goto (tgt := 39) S.1 S.2.1 dX4_pass_88 (by decide) ?_
                exact ihlq (j + 1)  (by omega)  _ _ _ ls (by show zw G nu z o ee (uB _ 32 (12 + j) _) _; rw [tok_none hz.1 hti (by omega) (z_pol0 hz (by omega) o4).1, uB_self]; exact hz) hW hS (lv_sub hl [2, 3, 0] rfl)
              · skip
                refine kx_gA S hK hW (zk_l hz (by omega)) 5 155 rfl iX2 (by decide) rfl rfl (by decide) (by decide +kernel) dX4_pass_71 (b := p5) o4 ?_
                refine lv_ifnull S.1 S.2.1 dX4_pass_74 ?_
                refine lv_aload_n S.1 S.2.1 dX4_pass_77 rfl (lv_at hl 0 rfl) ?_
                refine kx_gA S hK hW (zk_l hz (by omega)) 5 155 rfl iX2 (by decide) rfl rfl (by decide) (by decide +kernel) dX4_pass_78 (b := p5) o4 ?_
                refine lv_iload_n S.1 S.2.1 dX4_pass_81 rfl (lv_at hl 2 rfl) ?_
                refine kx_cV (As := [.int (ti)]) (rest := []) (st1 := []) S hK hZ hA hW hS (c_X0_fill l G nu (sJ x 52 ((eA ee 3 j)) (q_fill x ((eA ee 3 j)) ti)) p5 ti ((zl_po hz (by omega) p5 o4))) (cwV 1 S.2.2.2.2 gX4_pass_X0_fill rfl rfl rfl (by decide +kernel) ⟨Nat.le_of_ble_eq_true rfl, Nat.le_of_ble_eq_true rfl⟩) ((zl_po hz (by omega) p5 o4)) (by decide) rfl rfl hl.1 rfl (Nat.le_of_ble_eq_true rfl) dX4_pass_82 ⟨Nat.le_of_ble_eq_true rfl, Nat.le_of_ble_eq_true rfl⟩ rfl (fun H locs hW hS => ?_)
                refine lv_iinc (v := nI (j + 1)) (lv' := [(2, .int (nI (j + 1))), (3, .ref (eA ee 1 j)), (0, .ref o), (1, .int (ti))]) S.1 S.2.1 dX4_pass_85 hl (k := 3) rfl (nI_1 _) (by decide) rfl (fun ls hl => ?_)
                refine lv_goto (tgt := 39) S.1 S.2.1 dX4_pass_88 (by decide) ?_
                exact ihlq (j + 1)  (by omega)  _ _ _ ls (by obtain ⟨hp0, hp1, -⟩ := z_pol1 hz (by omega) o4; subst hp1; exact zw_fill hz (zb_p (by omega) hp0) hti) hW hS (lv_sub hl [2, 3, 0] rfl)
        exact lq (eA ee 6 1 - 0) 0  (by omega)  _ _ _ ls (by show zw G nu z o ee (z_p1 t ti (eA ee 6 0)) _; rw [show eA ee 6 0 = n by omega]; exact hz) hW hS (lv_conv (lv_sub hl [1, 2, 0] rfl) (congr (congrArg List.cons rfl) (congr (congrArg List.cons rfl) (congr (congrArg List.cons (congrArg (fun z9 => ((2 : Nat), Value.int z9)) (show (0 : Int32) = nI 0 from by first | rfl | (rfl)))) rfl))))
      · skip
        exact absurd (nI_le (a := eA ee 6 0) (b := n) (by omega) (by omega)) c1
    | succ dn ihlp =>
      intro n  hndn  x H locs ls hz hW hS hl
      refine lv_iload_n S.1 S.2.1 dX4_pass_2 rfl (lv_at hl 2 rfl) ?_
      refine lv_aload_n S.1 S.2.1 dX4_pass_3 rfl (lv_at hl 0 rfl) ?_
      refine kx_gA S hK hW (zk_o hz) 0 250 rfl iX4 (by decide) rfl rfl (by decide) (by decide +kernel) dX4_pass_4 (b := (eA ee 4 0)) (zs_list hz (i := 0) (by decide)) ?_
      refine kx_cV (As := []) (rest := [.int (nI n)]) (st1 := [.int (nI (eA ee 6 0)), .int (nI n)]) S hK hZ hA hW hS (c_z_size l G hz 0 (by decide)) (cwV 0 S.2.2.2.2 gX4_pass_Jx4a65c_size_8abf5 rfl rfl rfl (by decide +kernel) ⟨Nat.le_of_ble_eq_true rfl, Nat.le_of_ble_eq_true rfl⟩) (zk_L hz (by decide)) (by decide) rfl rfl hl.1 rfl (Nat.le_of_ble_eq_true rfl) dX4_pass_7 ⟨Nat.le_of_ble_eq_true rfl, Nat.le_of_ble_eq_true rfl⟩ rfl (fun H locs hW hS => ?_)
      refine lv_icmp_ge (tgt := 37) S.1 S.2.1 dX4_pass_10 (by decide) (fun c6 => ?_) (fun c6 => ?_)
      · skip
        exact absurd c6 (nI_ge (a := n) (b := eA ee 6 0) (by omega) (by omega))
      · skip
        refine lv_aload_n S.1 S.2.1 dX4_pass_13 rfl (lv_at hl 0 rfl) ?_
        refine kx_gA S hK hW (zk_o hz) 0 250 rfl iX4 (by decide) rfl rfl (by decide) (by decide +kernel) dX4_pass_14 (b := (eA ee 4 0)) (zs_list hz (i := 0) (by decide)) ?_
        refine lv_iload_n S.1 S.2.1 dX4_pass_17 rfl (lv_at hl 2 rfl) ?_
        refine kx_cV (As := [.int (nI n)]) (rest := []) (st1 := [.ref (eA ee 0 n)]) S hK hZ hA hW hS (c_z_get l G hz 0 n (by decide) (by omega)) (cwV 1 S.2.2.2.2 gX4_pass_Jx4a65c_get_915e3 rfl rfl rfl (by decide +kernel) ⟨Nat.le_of_ble_eq_true rfl, Nat.le_of_ble_eq_true rfl⟩) (zk_L hz (by decide)) (by decide) rfl rfl hl.1 rfl (Nat.le_of_ble_eq_true rfl) dX4_pass_18 ⟨Nat.le_of_ble_eq_true rfl, Nat.le_of_ble_eq_true rfl⟩ rfl (fun H locs hW hS => ?_)
        refine kx_cast S hK hW (zk_g hz (by omega)) (by decide) rfl (by decide +kernel) dX4_pass_21 ?_
        refine kx_gA S hK hW (zk_g hz (by omega)) 1 101 rfl iX1 (by decide) rfl rfl (by decide) (by decide +kernel) dX4_pass_24 (b := (eA ee 3 (8 + n))) (zg hz (by omega)).2.1 ?_
        refine lv_iload_n S.1 S.2.1 dX4_pass_27 rfl (lv_at hl 1 rfl) ?_
        refine kx_cV (As := [.int (ti)]) (rest := []) (st1 := []) S hK hZ hA hW hS (c_X0_fill l G nu x ((eA ee 3 (8 + n))) ti ((zk_b hz (zb_g (by omega))))) (cwV 1 S.2.2.2.2 gX4_pass_X0_fill rfl rfl rfl (by decide +kernel) ⟨Nat.le_of_ble_eq_true rfl, Nat.le_of_ble_eq_true rfl⟩) ((zk_b hz (zb_g (by omega)))) (by decide) rfl rfl hl.1 rfl (Nat.le_of_ble_eq_true rfl) dX4_pass_28 ⟨Nat.le_of_ble_eq_true rfl, Nat.le_of_ble_eq_true rfl⟩ rfl (fun H locs hW hS => ?_)
        refine lv_iinc (v := nI (n + 1)) (lv' := [(2, .int (nI (n + 1))), (0, .ref o), (1, .int (ti))]) S.1 S.2.1 dX4_pass_31 hl (k := 2) rfl (nI_1 _) (by decide) rfl (fun ls hl => ?_)
        refine lv_goto (tgt := 2) S.1 S.2.1 dX4_pass_34 (by decide) ?_
        exact ihlp (n + 1)  (by omega)  _ _ _ ls (zw_fill hz (zb_g (by omega)) hti) hW hS (lv_sub hl [1, 2, 0] rfl)
  exact lp (eA ee 6 0 - 0) 0  (by omega)  _ _ _ ls hz hW hS (lv_conv (lv_sub hl [1, 2, 0] rfl) (congr (congrArg List.cons rfl) (congr (congrArg List.cons rfl) (congr (congrArg List.cons (congrArg (fun z9 => ((2 : Nat), Value.int z9)) (show (0 : Int32) = nI 0 from by first | rfl | (rfl)))) rfl))))
set_option maxHeartbeats 1000000 in
set_option maxRecDepth 100000 in
/-- passBusy -/
theorem c_X4_passBusy (l : Launch) (G : kw_G) (nu : Nat → Option Nat) (x z : kw_St) (o : Nat) (ee : kE) (t : mo_T) (ti : Int32) (lf : Int32) (on : Int32) (hz : zw G nu z o ee t x) (hti : bd ti 0 100000) (hnow : (tF t 1).toInt + ti.toInt ≤ 1000000000) (hI2 : tI ee (uF (uF (uF t 6 (tF t 6 + ti)) 7 lf) 8 on)) : kw_M l G yX4_passBusy wsX4_passBusy { frames := 4, cells := 0, slots := 0, locals := 87 } 0 0 [.ref o, .int (ti)] nu x (fun v nu' y => v = none ∧ nu' = nu ∧ zw G nu z o ee (m_pasN (uF (uF (uF t 6 (tF t 6 + ti)) 7 lf) 8 on) ti 20) y) := by
  refine kw_M.ofW (cc := cX4_passBusy) (maxL := 2) (ret := none) (by decide) rfl (Nat.le_of_ble_eq_true rfl) ?_
  intro p e s m args below meth c A ls S hr hlk hnm hK hZ hA hW hS hl
  have hl : lv_has ls 2 [(0, .ref o), (1, .int (ti))] := hl
  have iX4 : ∀ w ∈ wsX40, w ∈ wsX4_passBusy := by decide +kernel
  have hdg := zd_ng hz
  have hdl := zd_nl hz
  have hdp := zd_np hz
  have hdb := zd_nb hz
  refine lv_aload_n S.1 S.2.1 dX4_passBusy_0 rfl (lv_at hl 0 rfl) ?_
  refine lv_dup S.1 S.2.1 dX4_passBusy_1 rfl ?_
  refine kx_gI S hK hW (zk_o hz) 6 256 rfl iX4 (by decide) rfl rfl (by decide) (by decide +kernel) dX4_passBusy_2 (v := tF t 6) (zsh hz).2.2.1 ?_
  refine lv_iload_n S.1 S.2.1 dX4_passBusy_5 rfl (lv_at hl 1 rfl) ?_
  refine lv_iadd S.1 S.2.1 dX4_passBusy_6 ?_
  refine kx_pI S hK hW hS (zk_o hz) 6 256  rfl iX4 tyX4_ok nmX4 (by decide) rfl rfl (by decide) (by decide +kernel) (Or.inl rfl) rfl dX4_passBusy_7 (fun H locs hW hS => ?_)
  have hz : zw G nu z o ee (uF (uF (uF t 6 (tF t 6 + ti)) 7 lf) 8 on) (sI x 256 o ((tF t 6) + (ti))) := zw_busy hz hI2
  refine lv_aload_n S.1 S.2.1 dX4_passBusy_10 rfl (lv_at hl 0 rfl) ?_
  refine lv_iload_n S.1 S.2.1 dX4_passBusy_11 rfl (lv_at hl 1 rfl) ?_
  refine zx_cV (As := [.int (ti)]) (rest := []) (st1 := []) (t0 := m_pasN (uF (uF (uF t 6 (tF t 6 + ti)) 7 lf) 8 on) ti 20) S hK hZ hA hW hS (c_X4_pass l G nu (sI x 256 o ((tF t 6) + (ti))) z o ee (uF (uF (uF t 6 (tF t 6 + ti)) 7 lf) 8 on) ti hz hti hnow) (cwV 1 S.2.2.2.2 gX4_passBusy_X4_pass rfl rfl rfl (by decide +kernel) ⟨Nat.le_of_ble_eq_true rfl, Nat.le_of_ble_eq_true rfl⟩) (zk_o hz) (by decide) rfl rfl hl.1 rfl (Nat.le_of_ble_eq_true rfl) dX4_passBusy_12 ⟨Nat.le_of_ble_eq_true rfl, Nat.le_of_ble_eq_true rfl⟩ rfl (fun x H locs hz hW hS => ?_)
  refine kw_vret S hr hlk hW hS (by decide) (by decide) dX4_passBusy_15 ?_
  exact ⟨rfl, rfl, hz⟩
theorem hN_F (t : mo_T) (ti : Int32) : ∀ n j, tF (z_hN t ti n) j = tF t j
  | 0, _ => rfl
  | n + 1, j => by
    rw [z_hN]
    split
    · exact (tF_uA _ _ _ _ _).trans (hN_F t ti n j)
    · exact hN_F t ti n j
set_option maxHeartbeats 1000000 in
set_option maxRecDepth 100000 in
/-- passIdle -/
theorem c_X4_passIdle (l : Launch) (G : kw_G) (nu : Nat → Option Nat) (x z : kw_St) (o : Nat) (ee : kE) (t : mo_T) (ti : Int32) (hz : zw G nu z o ee t x) (hti : bd ti 0 100000) (hnow : (tF t 1).toInt + ti.toInt ≤ 1000000000) : kw_M l G yX4_passIdle wsX4_passIdle { frames := 4, cells := 0, slots := 0, locals := 87 } 0 0 [.ref o, .int (ti)] nu x (fun v nu' y => v = none ∧ nu' = nu ∧ zw G nu z o ee (m_pasN (z_hN t ti (eA ee 6 1)) ti 20) y) := by
  refine kw_M.ofW (cc := cX4_passIdle) (maxL := 2) (ret := none) (by decide) rfl (Nat.le_of_ble_eq_true rfl) ?_
  intro p e s m args below meth c A ls S hr hlk hnm hK hZ hA hW hS hl
  have hl : lv_has ls 2 [(0, .ref o), (1, .int (ti))] := hl
  have hdg := zd_ng hz
  have hdl := zd_nl hz
  have hdp := zd_np hz
  have hdb := zd_nb hz
  refine lv_aload_n S.1 S.2.1 dX4_passIdle_0 rfl (lv_at hl 0 rfl) ?_
  refine lv_iload_n S.1 S.2.1 dX4_passIdle_1 rfl (lv_at hl 1 rfl) ?_
  refine zx_cV (As := [.int (ti)]) (rest := []) (st1 := []) (t0 := z_hN t ti (eA ee 6 1)) S hK hZ hA hW hS (c_X4_countHeld l G nu x z o ee t ti hz ) (cwV 1 S.2.2.2.2 gX4_passIdle_X4_countHeld rfl rfl rfl (by decide +kernel) ⟨Nat.le_of_ble_eq_true rfl, Nat.le_of_ble_eq_true rfl⟩) (zk_o hz) (by decide) rfl rfl hl.1 rfl (Nat.le_of_ble_eq_true rfl) dX4_passIdle_2 ⟨Nat.le_of_ble_eq_true rfl, Nat.le_of_ble_eq_true rfl⟩ rfl (fun x H locs hz hW hS => ?_)
  refine lv_aload_n S.1 S.2.1 dX4_passIdle_5 rfl (lv_at hl 0 rfl) ?_
  refine lv_iload_n S.1 S.2.1 dX4_passIdle_6 rfl (lv_at hl 1 rfl) ?_
  refine zx_cV (As := [.int (ti)]) (rest := []) (st1 := []) (t0 := m_pasN (z_hN t ti (eA ee 6 1)) ti 20) S hK hZ hA hW hS (c_X4_pass l G nu x z o ee (z_hN t ti (eA ee 6 1)) ti hz hti (by rw [hN_F]; exact hnow)) (cwV 1 S.2.2.2.2 gX4_passIdle_X4_pass rfl rfl rfl (by decide +kernel) ⟨Nat.le_of_ble_eq_true rfl, Nat.le_of_ble_eq_true rfl⟩) (zk_o hz) (by decide) rfl rfl hl.1 rfl (Nat.le_of_ble_eq_true rfl) dX4_passIdle_7 ⟨Nat.le_of_ble_eq_true rfl, Nat.le_of_ble_eq_true rfl⟩ rfl (fun x H locs hz hW hS => ?_)
  refine kw_vret S hr hlk hW hS (by decide) (by decide) dX4_passIdle_10 ?_
  exact ⟨rfl, rfl, hz⟩
