/-! LinkShaper: leaf -/
set_option maxHeartbeats 1000000 in
set_option maxRecDepth 100000 in
/-- leaf of no group -/
theorem c_X4_leaf_o (l : Launch) (G : kw_G) (nu : Nat → Option Nat) (x z : kw_St) (o : Nat) (ee : kE) (t : mo_T) (ki : Int32) (w : Int32) (gu : Int32) (ce : Int32) (bu : Int32) (li : Int32) (hz : zw G nu z o ee t x) (hki : ∀ k, k < eA ee 6 0 → ki ≠ nI k) : kw_M l G yX4_leaf wsX4_leaf { frames := 7, cells := 0, slots := 0, locals := 171 } 0 0 [.ref o, .int (ki), .int (w), .int (gu), .int (ce), .int (bu), .int (li)] nu x (kw_P nu (some (.int (-1))) x) := by
  refine kw_M.ofW (cc := cX4_leaf) (maxL := 8) (ret := (some .int)) (by decide) rfl (Nat.le_of_ble_eq_true rfl) ?_
  intro p e s m args below meth c A ls S hr hlk hnm hK hZ hA hW hS hl
  have hl : lv_has ls 8 [(0, .ref o), (1, .int (ki)), (2, .int (w)), (3, .int (gu)), (4, .int (ce)), (5, .int (bu)), (6, .int (li))] := hl
  have hdg := zd_ng hz
  have hdl := zd_nl hz
  have hdp := zd_np hz
  have hdb := zd_nb hz
  refine lv_aload_n S.1 S.2.1 dX4_leaf_0 rfl (lv_at hl 0 rfl) ?_
  refine lv_iload_n S.1 S.2.1 dX4_leaf_1 rfl (lv_at hl 1 rfl) ?_
  refine kx_cV (As := [.int (ki)]) (rest := []) (st1 := [.null]) S hK hZ hA hW hS (c_X4_groupAt_o l G nu x z o ee t ki hz hki) (cwV 1 S.2.2.2.2 gX4_leaf_X4_groupAt rfl rfl rfl (by decide +kernel) ⟨Nat.le_of_ble_eq_true rfl, Nat.le_of_ble_eq_true rfl⟩) (zk_o hz) (by decide) rfl rfl hl.1 rfl (Nat.le_of_ble_eq_true rfl) dX4_leaf_2 ⟨Nat.le_of_ble_eq_true rfl, Nat.le_of_ble_eq_true rfl⟩ rfl (fun H locs hW hS => ?_)
  refine lv_astoreN (lv' := [(7, .null), (0, .ref o), (1, .int (ki)), (2, .int (w)), (3, .int (gu)), (4, .int (ce)), (5, .int (bu)), (6, .int (li))]) S.1 S.2.1 dX4_leaf_5 hl (by decide) rfl (fun ls hl => ?_)
  refine lv_aloadN S.1 S.2.1 dX4_leaf_7 (lv_at hl 0 rfl) ?_
  refine lv_ifnullN (tgt := 24) S.1 S.2.1 dX4_leaf_9 (by decide) ?_
  refine lv_iconst (v := (-1)) S.1 S.2.1 dX4_leaf_24 (by decide) ?_
  refine kw_iret S hr hlk hW hS (by decide) (by decide) dX4_leaf_25 ?_
  exact ⟨rfl, rfl, rfl⟩
set_option maxHeartbeats 1000000 in
set_option maxRecDepth 100000 in
/-- leaf -/
theorem c_X4_leaf_s (l : Launch) (G : kw_G) (nu : Nat → Option Nat) (x z : kw_St) (o : Nat) (ee : kE) (t : mo_T) (g : Nat) (w : Int32) (gu : Int32) (ce : Int32) (bu : Int32) (li : Int32) (hz : zw G nu z o ee t x) (hg : g < eA ee 6 0) (hF : zF ee t) : kw_M l G yX4_leaf wsX4_leaf { frames := 7, cells := 3, slots := 789, locals := 171 } 3 789 [.ref o, .int (nI g), .int (w), .int (gu), .int (ce), .int (bu), .int (li)] nu x (fun v nu' y => v = some (.int (if m_lfok t (eA ee 6 0) (eA ee 6 1) g w gu ce bu li = true then nI (eA ee 6 1) else -1)) ∧ nuX nu nu' ∧ ∃ e2, zw G nu' z o e2 (m_leaf t (eA ee 6 0) (eA ee 6 1) g w gu ce bu li) y ∧ zF e2 (m_leaf t (eA ee 6 0) (eA ee 6 1) g w gu ce bu li)) := by
  refine kw_M.ofW (cc := cX4_leaf) (maxL := 8) (ret := (some .int)) (by decide) rfl (Nat.le_of_ble_eq_true rfl) ?_
  intro p e s m args below meth c A ls S hr hlk hnm hK hZ hA hW hS hl
  have hl : lv_has ls 8 [(0, .ref o), (1, .int (nI g)), (2, .int (w)), (3, .int (gu)), (4, .int (ce)), (5, .int (bu)), (6, .int (li))] := hl
  have iX0 : ∀ w ∈ wsX00, w ∈ wsX4_leaf := by decide +kernel
  have iX1 : ∀ w ∈ wsX10, w ∈ wsX4_leaf := by decide +kernel
  have iX2 : ∀ w ∈ wsX20, w ∈ wsX4_leaf := by decide +kernel
  have iX4 : ∀ w ∈ wsX40, w ∈ wsX4_leaf := by decide +kernel
  have hdg := zd_ng hz
  have hdl := zd_nl hz
  have hdp := zd_np hz
  have hdb := zd_nb hz
  refine lv_aload_n S.1 S.2.1 dX4_leaf_0 rfl (lv_at hl 0 rfl) ?_
  refine lv_iload_n S.1 S.2.1 dX4_leaf_1 rfl (lv_at hl 1 rfl) ?_
  refine kx_cV (As := [.int (nI g)]) (rest := []) (st1 := [.ref (eA ee 0 g)]) S hK hZ hA hW hS (c_X4_groupAt_s l G nu x z o ee t g hz hg) (cwV 1 S.2.2.2.2 gX4_leaf_X4_groupAt rfl rfl rfl (by decide +kernel) ⟨Nat.le_of_ble_eq_true rfl, Nat.le_of_ble_eq_true rfl⟩) (zk_o hz) (by decide) rfl rfl hl.1 rfl (Nat.le_of_ble_eq_true rfl) dX4_leaf_2 ⟨Nat.le_of_ble_eq_true rfl, Nat.le_of_ble_eq_true rfl⟩ rfl (fun H locs hW hS => ?_)
  refine lv_astore (lv' := [(7, .ref (eA ee 0 g)), (0, .ref o), (1, .int (nI g)), (2, .int (w)), (3, .int (gu)), (4, .int (ce)), (5, .int (bu)), (6, .int (li))]) S.1 S.2.1 dX4_leaf_5 hl (by decide) rfl (fun ls hl => ?_)
  refine lv_aload S.1 S.2.1 dX4_leaf_7 (lv_at hl 0 rfl) ?_
  refine lv_ifnull S.1 S.2.1 dX4_leaf_9 ?_
  refine lv_aload_n S.1 S.2.1 dX4_leaf_12 rfl (lv_at hl 1 rfl) ?_
  refine kx_gA S hK hW (zk_o hz) 1 251 rfl iX4 (by decide) rfl rfl (by decide) (by decide +kernel) dX4_leaf_13 (b := (eA ee 4 1)) (zs_list hz (i := 1) (by decide)) ?_
  refine kx_cV (As := []) (rest := []) (st1 := [.int (nI (eA ee 6 1))]) S hK hZ hA hW hS (c_z_size l G hz 1 (by decide)) (cwV 0 S.2.2.2.2 gX4_leaf_Jx4a65c_size_8abf5 rfl rfl rfl (by decide +kernel) ⟨Nat.le_of_ble_eq_true rfl, Nat.le_of_ble_eq_true rfl⟩) (zk_L hz (by decide)) (by decide) rfl rfl hl.1 rfl (Nat.le_of_ble_eq_true rfl) dX4_leaf_16 ⟨Nat.le_of_ble_eq_true rfl, Nat.le_of_ble_eq_true rfl⟩ rfl (fun H locs hW hS => ?_)
  refine lv_bipush (v := 8) S.1 S.2.1 dX4_leaf_19 (by decide) ?_
  refine lv_icmp_lt (tgt := 26) S.1 S.2.1 dX4_leaf_21 (by decide) (fun c1 => ?_) (fun c1 => ?_)
  · skip
    refine lv_iload_n S.1 S.2.1 dX4_leaf_26 rfl (lv_at hl 3 rfl) ?_
    refine kx_cS (As := [.int (w)]) (rest := []) (st1 := [.int (kw_b (kw_wi w 1 12 = true))]) S hK hZ hA hW hS (c_X4_isWeight l G nu x w ) (va_cwS 1 S.2.2.2.2 gX4_leaf_X4_isWeight rfl rfl rfl (by decide +kernel) ⟨Nat.le_of_ble_eq_true rfl, Nat.le_of_ble_eq_true rfl⟩) rfl hl.1 rfl (Nat.le_of_ble_eq_true rfl) dX4_leaf_27 ⟨Nat.le_of_ble_eq_true rfl, Nat.le_of_ble_eq_true rfl⟩ rfl (fun H locs hW hS => ?_)
    refine kx_ifz_eq (tgt := 56) S dX4_leaf_30 (by decide) (fun c2 => ?_) (fun c2 => ?_)
    · skip
      refine lv_iconst (v := (-1)) S.1 S.2.1 dX4_leaf_56 (by decide) ?_
      refine kw_iret S hr hlk hW hS (by first | decide | (have := zc_le (eA ee 10 1) (eA ee 6 1); omega)) (by first | decide | (have := zs_le (c := eA ee 10 1) (n := eA ee 6 1) (by omega); omega)) dX4_leaf_57 ?_
      have hko : ¬ m_lfok t (eA ee 6 0) (eA ee 6 1) g w gu ce bu li = true := fun h9 => by
        obtain ⟨q1, q2, q3, q4, q5, q6, q7⟩ := (lf_iff hz hg).mp h9
        first | exact absurd ((z_eight hz).mpr q1) c2 | exact absurd q2 c2 | exact absurd q3 c2 | exact absurd q4 c2 | exact absurd q5 c2 | exact absurd c2 q6 | exact absurd q7 c2
      refine ⟨by rw [if_neg hko], nuX.rf, ee, ?_, ?_⟩ <;> rw [m_leaf, if_neg hko] <;> first | exact hz | exact hF
    · skip
      refine lv_iload S.1 S.2.1 dX4_leaf_33 (lv_at hl 5 rfl) ?_
      refine lv_iload S.1 S.2.1 dX4_leaf_35 (lv_at hl 6 rfl) ?_
      refine kx_cS (As := [.int (ce), .int (bu)]) (rest := []) (st1 := [.int (kw_b (kw_wi ce 0 1000 = true ∧ kw_wi bu 1500 20000 = true))]) S hK hZ hA hW hS (c_X4_isCeiling l G nu x ce bu ) (va_cwS 2 S.2.2.2.2 gX4_leaf_X4_isCeiling rfl rfl rfl (by decide +kernel) ⟨Nat.le_of_ble_eq_true rfl, Nat.le_of_ble_eq_true rfl⟩) rfl hl.1 rfl (Nat.le_of_ble_eq_true rfl) dX4_leaf_37 ⟨Nat.le_of_ble_eq_true rfl, Nat.le_of_ble_eq_true rfl⟩ rfl (fun H locs hW hS => ?_)
      refine kx_ifz_eq (tgt := 56) S dX4_leaf_40 (by decide) (fun c3 => ?_) (fun c3 => ?_)
      · skip
        refine lv_iconst (v := (-1)) S.1 S.2.1 dX4_leaf_56 (by decide) ?_
        refine kw_iret S hr hlk hW hS (by first | decide | (have := zc_le (eA ee 10 1) (eA ee 6 1); omega)) (by first | decide | (have := zs_le (c := eA ee 10 1) (n := eA ee 6 1) (by omega); omega)) dX4_leaf_57 ?_
        have hko : ¬ m_lfok t (eA ee 6 0) (eA ee 6 1) g w gu ce bu li = true := fun h9 => by
          obtain ⟨q1, q2, q3, q4, q5, q6, q7⟩ := (lf_iff hz hg).mp h9
          first | exact absurd ((z_eight hz).mpr q1) c3 | exact absurd q2 c3 | exact absurd q3 c3 | exact absurd q4 c3 | exact absurd q5 c3 | exact absurd c3 q6 | exact absurd q7 c3
        refine ⟨by rw [if_neg hko], nuX.rf, ee, ?_, ?_⟩ <;> rw [m_leaf, if_neg hko] <;> first | exact hz | exact hF
      · skip
        refine lv_iload S.1 S.2.1 dX4_leaf_43 (lv_at hl 7 rfl) ?_
        refine lv_sipush (v := 1500) S.1 S.2.1 dX4_leaf_45 (by decide) ?_
        refine lv_ldc (v := 60000) S.1 S.2.1 S.2.2.2.1 (S.2.2.2.2 _ (by decide +kernel)) dX4_leaf_48 ?_
        refine kx_cS (As := [.int (li), .int (1500), .int (60000)]) (rest := []) (st1 := [.int (kw_b (kw_wi li 1500 60000 = true))]) S hK hZ hA hW hS (c_X4_isWithin l G nu x li 1500 60000 ) (va_cwS 3 S.2.2.2.2 gX4_leaf_X4_isWithin rfl rfl rfl (by decide +kernel) ⟨Nat.le_of_ble_eq_true rfl, Nat.le_of_ble_eq_true rfl⟩) rfl hl.1 rfl (Nat.le_of_ble_eq_true rfl) dX4_leaf_50 ⟨Nat.le_of_ble_eq_true rfl, Nat.le_of_ble_eq_true rfl⟩ rfl (fun H locs hW hS => ?_)
        refine kx_ifz_ne (tgt := 58) S dX4_leaf_53 (by decide) (fun c4 => ?_) (fun c4 => ?_)
        · skip
          refine lv_iload_n S.1 S.2.1 dX4_leaf_58 rfl (lv_at hl 4 rfl) ?_
          refine kx_cS (As := [.int (gu)]) (rest := []) (st1 := [.int (kw_b (gu = 0 ∨ kw_wi gu 10 1000 = true))]) S hK hZ hA hW hS (c_X4_isGuarantee l G nu x gu ) (va_cwS 1 S.2.2.2.2 gX4_leaf_X4_isGuarantee rfl rfl rfl (by decide +kernel) ⟨Nat.le_of_ble_eq_true rfl, Nat.le_of_ble_eq_true rfl⟩) rfl hl.1 rfl (Nat.le_of_ble_eq_true rfl) dX4_leaf_59 ⟨Nat.le_of_ble_eq_true rfl, Nat.le_of_ble_eq_true rfl⟩ rfl (fun H locs hW hS => ?_)
          refine kx_ifz_eq (tgt := 81) S dX4_leaf_62 (by decide) (fun c5 => ?_) (fun c5 => ?_)
          · skip
            refine lv_iconst (v := (-1)) S.1 S.2.1 dX4_leaf_81 (by decide) ?_
            refine kw_iret S hr hlk hW hS (by first | decide | (have := zc_le (eA ee 10 1) (eA ee 6 1); omega)) (by first | decide | (have := zs_le (c := eA ee 10 1) (n := eA ee 6 1) (by omega); omega)) dX4_leaf_82 ?_
            have hko : ¬ m_lfok t (eA ee 6 0) (eA ee 6 1) g w gu ce bu li = true := fun h9 => by
              obtain ⟨q1, q2, q3, q4, q5, q6, q7⟩ := (lf_iff hz hg).mp h9
              first | exact absurd ((z_eight hz).mpr q1) c5 | exact absurd q2 c5 | exact absurd q3 c5 | exact absurd q4 c5 | exact absurd q5 c5 | exact absurd c5 q6 | exact absurd q7 c5
            refine ⟨by rw [if_neg hko], nuX.rf, ee, ?_, ?_⟩ <;> rw [m_leaf, if_neg hko] <;> first | exact hz | exact hF
          · skip
            refine lv_iload_n S.1 S.2.1 dX4_leaf_65 rfl (lv_at hl 4 rfl) ?_
            refine lv_iload S.1 S.2.1 dX4_leaf_66 (lv_at hl 5 rfl) ?_
            refine lv_icmp_gt (tgt := 81) S.1 S.2.1 dX4_leaf_68 (by decide) (fun c6 => ?_) (fun c6 => ?_)
            · skip
              refine lv_iconst (v := (-1)) S.1 S.2.1 dX4_leaf_81 (by decide) ?_
              refine kw_iret S hr hlk hW hS (by first | decide | (have := zc_le (eA ee 10 1) (eA ee 6 1); omega)) (by first | decide | (have := zs_le (c := eA ee 10 1) (n := eA ee 6 1) (by omega); omega)) dX4_leaf_82 ?_
              have hko : ¬ m_lfok t (eA ee 6 0) (eA ee 6 1) g w gu ce bu li = true := fun h9 => by
                obtain ⟨q1, q2, q3, q4, q5, q6, q7⟩ := (lf_iff hz hg).mp h9
                first | exact absurd ((z_eight hz).mpr q1) c6 | exact absurd q2 c6 | exact absurd q3 c6 | exact absurd q4 c6 | exact absurd q5 c6 | exact absurd c6 q6 | exact absurd q7 c6
              refine ⟨by rw [if_neg hko], nuX.rf, ee, ?_, ?_⟩ <;> rw [m_leaf, if_neg hko] <;> first | exact hz | exact hF
            · skip
              refine lv_aload_n S.1 S.2.1 dX4_leaf_71 rfl (lv_at hl 1 rfl) ?_
              refine lv_iload_n S.1 S.2.1 dX4_leaf_72 rfl (lv_at hl 4 rfl) ?_
              refine lv_aload S.1 S.2.1 dX4_leaf_73 (lv_at hl 0 rfl) ?_
              refine kx_cV (As := [.int (gu), .ref (eA ee 0 g)]) (rest := []) (st1 := [.int (kw_b (¬ 1000 - kI x 257 o < gu ∧ ¬ kI x 50 (eA ee 3 (8 + g)) - kI x 102 ((eA ee 0 g)) < gu))]) S hK hZ hA hW hS (c_X4_hasRoomFor l G nu x o gu ((eA ee 0 g)) (eA ee 3 (8 + g)) ((zk_o hz)) ((zk_g hz (by omega))) ((zk_b hz (zb_g (by omega)))) (zg hz (by omega)).2.1) (cwV 2 S.2.2.2.2 gX4_leaf_X4_hasRoomFor rfl rfl rfl (by decide +kernel) ⟨Nat.le_of_ble_eq_true rfl, Nat.le_of_ble_eq_true rfl⟩) ((zk_o hz)) (by decide) rfl rfl hl.1 rfl (Nat.le_of_ble_eq_true rfl) dX4_leaf_75 ⟨Nat.le_of_ble_eq_true rfl, Nat.le_of_ble_eq_true rfl⟩ rfl (fun H locs hW hS => ?_)
              refine kx_ifz_ne (tgt := 83) S dX4_leaf_78 (by decide) (fun c7 => ?_) (fun c7 => ?_)
              · skip
                refine lv_aload_n S.1 S.2.1 dX4_leaf_83 rfl (lv_at hl 1 rfl) ?_
                refine kx_gA S hK hW (zk_o hz) 1 251 rfl iX4 (by decide) rfl rfl (by decide) (by decide +kernel) dX4_leaf_84 (b := (eA ee 4 1)) (zs_list hz (i := 1) (by decide)) ?_
                refine kw_new S hK hW hS hA 3 rfl iX2 tyX2 tyX2_ok (by decide) kw_dvX2 (by decide +kernel) (by decide +kernel) (by decide +kernel) (by decide) (by decide) dX4_leaf_87 (fun d8 H hd9 hW hS => ?_)
                have n10 : ¬ o = d8 := kw_nb hd9 ((zk_o hz))
                have n11 : ¬ (eA ee 4 1) = d8 := kw_nb hd9 ((zk_L hz (by decide)))
                have n12 : ¬ (eA ee 0 g) = d8 := kw_nb hd9 ((zk_g hz (by omega)))
                refine lv_dup S.1 S.2.1 dX4_leaf_90 rfl ?_
                refine lv_aload S.1 S.2.1 dX4_leaf_91 (lv_at hl 0 rfl) ?_
                refine lv_iload_n S.1 S.2.1 dX4_leaf_93 rfl (lv_at hl 3 rfl) ?_
                refine lv_iload_n S.1 S.2.1 dX4_leaf_94 rfl (lv_at hl 4 rfl) ?_
                refine kw_new S hK hW hS hA 1 rfl iX0 tyX0 tyX0_ok (by decide) kw_dvX0 (by decide +kernel) (by decide +kernel) (by decide +kernel) (by decide) (by decide) dX4_leaf_95 (fun d13 H hd14 hW hS => ?_)
                have n15 : ¬ o = d13 := kw_nb hd14 ((kw_old hd9 (zk_o hz)))
                have n16 : ¬ (eA ee 4 1) = d13 := kw_nb hd14 ((kw_old hd9 (zk_L hz (by decide))))
                have n17 : ¬ (eA ee 0 g) = d13 := kw_nb hd14 ((kw_old hd9 (zk_g hz (by omega))))
                have n18 : ¬ d8 = d13 := kw_nb hd14 ((va_up_self _ _ _))
                refine lv_dup S.1 S.2.1 dX4_leaf_98 rfl ?_
                refine lv_iload S.1 S.2.1 dX4_leaf_99 (lv_at hl 5 rfl) ?_
                refine lv_iload S.1 S.2.1 dX4_leaf_101 (lv_at hl 6 rfl) ?_
                refine kx_cI (As := [.int (ce), .int (bu)]) (rest := [.ref d13, .int (gu), .int (w), .ref (eA ee 0 g), .ref d8, .ref d8, .ref (eA ee 4 1)]) (st1 := [.ref d13, .int (gu), .int (w), .ref (eA ee 0 g), .ref d8, .ref d8, .ref (eA ee 4 1)]) S hK hZ hA hW hS (c_X0_init l G ((va_up (va_up nu d8 (some 3)) d13 (some 1))) (sNew (sNew x d8 (0)) d13 (0)) d13 ce bu ((va_up_self _ _ _))) (cwI 2 S.2.2.2.2 gX4_leaf_X0_init rfl rfl rfl (S.2.2.2.2 _ (by decide +kernel)) (S.2.2.2.2 _ (by decide +kernel)) (S.2.2.2.2 _ (by decide +kernel)) rfl (by decide +kernel) ⟨Nat.le_of_ble_eq_true rfl, Nat.le_of_ble_eq_true rfl⟩) rfl hl.1 rfl (Nat.le_of_ble_eq_true rfl) dX4_leaf_103 ⟨Nat.le_of_ble_eq_true rfl, Nat.le_of_ble_eq_true rfl⟩ rfl (fun H locs hW hS => ?_)
                refine lv_iload S.1 S.2.1 dX4_leaf_106 (lv_at hl 7 rfl) ?_
                refine kx_cI (As := [.ref (eA ee 0 g), .int (w), .int (gu), .ref d13, .int (li)]) (rest := [.ref d8, .ref (eA ee 4 1)]) (st1 := [.ref d8, .ref (eA ee 4 1)]) S hK hZ hA hW hS (c_X2_init l G ((va_up (va_up nu d8 (some 3)) d13 (some 1))) (sJ (sJ (sI (sNew (sNew x d8 (0)) d13 (0)) 50 d13 ce) 51 d13 (1000 * (bu).toInt64)) 52 d13 (1000 * (bu).toInt64)) d8 ((eA ee 0 g)) w gu d13 li ((kw_old hd14 (va_up_self _ _ _)))) (cwI 5 S.2.2.2.2 gX4_leaf_X2_init rfl rfl rfl (S.2.2.2.2 _ (by decide +kernel)) (S.2.2.2.2 _ (by decide +kernel)) (S.2.2.2.2 _ (by decide +kernel)) rfl (by decide +kernel) ⟨Nat.le_of_ble_eq_true rfl, Nat.le_of_ble_eq_true rfl⟩) rfl hl.1 rfl (Nat.le_of_ble_eq_true rfl) dX4_leaf_108 ⟨Nat.le_of_ble_eq_true rfl, Nat.le_of_ble_eq_true rfl⟩ rfl (fun H locs hW hS => ?_)
                have hX : nuX nu (va_up (va_up nu d8 (some 3)) d13 (some 1)) := (nuX.up hd9).tr (nuX.up hd14)
                have hx : ∀ c q, nu c = some q → kw_ag c x (sI (sR (sI (sI (sR (sJ (sJ (sI (sNew (sNew x d8 (0)) d13 (0)) 50 d13 ce) 51 d13 (1000 * (bu).toInt64)) 52 d13 (1000 * (bu).toInt64)) 150 d8 (some ((eA ee 0 g)))) 151 d8 w) 152 d8 gu) 153 d8 (some d13)) 154 d8 li) := fun c q h => ag_sI (ag_sR (ag_sI (ag_sI (ag_sR (ag_sJ (ag_sJ (ag_sI (ag_sNew (ag_sNew kw_ag.rf (kw_nb hd9 h)) (kw_nb hd14 (nuX.up hd9 _ _ h))) (kw_nb hd14 (nuX.up hd9 _ _ h))) (kw_nb hd14 (nuX.up hd9 _ _ h))) (kw_nb hd14 (nuX.up hd9 _ _ h))) (kw_nb hd9 h)) (kw_nb hd9 h)) (kw_nb hd9 h)) (kw_nb hd9 h)) (kw_nb hd9 h)
                have hLs : zLs G (va_up (va_up nu d8 (some 3)) d13 (some 1)) o ee (sI (sR (sI (sI (sR (sJ (sJ (sI (sNew (sNew x d8 (0)) d13 (0)) 50 d13 ce) 51 d13 (1000 * (bu).toInt64)) 52 d13 (1000 * (bu).toInt64)) 150 d8 (some ((eA ee 0 g)))) 151 d8 w) 152 d8 gu) 153 d8 (some d13)) 154 d8 li) := zLs_nu hX hz.2.1 (zLs_ag hz.2.1 (fun c q h _ => hx c q h) hz.2.2.1.1)
                have hKz := zK_nu hX hz.2.1
                refine kw_callV (As := [.ref d8]) (rest := []) S hK hZ hA hW hS (c_z_add l G (va_up (va_up nu d8 (some 3)) d13 (some 1)) (sI (sR (sI (sI (sR (sJ (sJ (sI (sNew (sNew x d8 (0)) d13 (0)) 50 d13 ce) 51 d13 (1000 * (bu).toInt64)) 52 d13 (1000 * (bu).toInt64)) 150 d8 (some ((eA ee 0 g)))) 151 d8 w) 152 d8 gu) 153 d8 (some d13)) 154 d8 li) (eA ee 4 1) (eA ee 5 1) (eA ee 6 1) d8 3 (kw_old hd14 (kw_old hd9 (zk_L hz (by decide)))) (kw_old hd14 (va_up_self _ _ _)) (by decide) hKz.2.2.2.2.2.2.1 hLs.2.1 (hLs.1 1 (by decide)).2.1 (hLs.1 1 (by decide)).2.2.1 (eA ee 10 1) (hLs.1 1 (by decide)).2.2.2.1 (hLs.1 1 (by decide)).2.2.2.2 (by omega) (fun j y hj hy => ⟨3, by have h9 := hLs.2.2.2.1 1 (by decide) j hj; rw [hy] at h9; cases h9; exact hKz.2.2.2.1 j hj, by decide⟩)) (cwV 1 S.2.2.2.2 gX4_leaf_Jx4a65c_add_9ea2d rfl rfl rfl (by decide +kernel) ⟨Nat.le_of_ble_eq_true rfl, Nat.le_of_ble_eq_true rfl⟩) (kw_old hd14 (kw_old hd9 (zk_L hz (by decide)))) (by decide) rfl rfl hl.1 rfl (Nat.le_of_ble_eq_true rfl) dX4_leaf_111 ⟨by show _ ≤ 3; have := zc_le (eA ee 10 1) (eA ee 6 1); omega, by show _ ≤ 789; have := zs_le (c := eA ee 10 1) (n := eA ee 6 1) (by omega); omega⟩ (fun v nu9 y1 H locs hp hW hS => ?_)
                obtain ⟨ev, D1, hadd⟩ := hp
                subst ev
                refine W.eq (g2 := F0 m 114 ls [.int (1)]) rfl ?_
                have ho1 := zAdd_ag hadd (hKz.2.1 1 (by decide)) hKz.1 (by decide) (by decide)
                have hL1 : kR y1 251 o = some (eA ee 4 1) := (ho1.2.2.1 _).trans (hLs.1 1 (by decide)).1
                refine lv_pop S.1 S.2.1 dX4_leaf_114 rfl ?_
                refine lv_aload S.1 S.2.1 dX4_leaf_115 (lv_at hl 0 rfl) ?_
                refine lv_dup S.1 S.2.1 dX4_leaf_117 rfl ?_
                refine kx_gI S hK hW (hadd.nu _ _ (kw_old hd14 (kw_old hd9 (zk_g hz (by omega))))) 2 102 rfl iX1 (by decide) rfl rfl (by decide) (by decide +kernel) dX4_leaf_118 (v := kI y1 102 (eA ee 0 g)) rfl ?_
                refine lv_iload_n S.1 S.2.1 dX4_leaf_121 rfl (lv_at hl 4 rfl) ?_
                refine lv_iadd S.1 S.2.1 dX4_leaf_122 ?_
                refine kx_pI S hK hW hS (hadd.nu _ _ (kw_old hd14 (kw_old hd9 (zk_g hz (by omega))))) 2 102  rfl iX1 tyX1_ok nmX1 (by decide) rfl rfl (by decide) (by decide +kernel) (Or.inl rfl) rfl dX4_leaf_123 (fun H locs hW hS => ?_)
                refine lv_aload_n S.1 S.2.1 dX4_leaf_126 rfl (lv_at hl 1 rfl) ?_
                refine lv_dup S.1 S.2.1 dX4_leaf_127 rfl ?_
                refine kx_gI S hK hW (hadd.nu _ _ (kw_old hd14 (kw_old hd9 (zk_o hz)))) 7 257 rfl iX4 (by decide) rfl rfl (by decide) (by decide +kernel) dX4_leaf_128 (v := kI y1 257 o) (by simp [kI_sNew, kJ_sNew, kR_sNew, kN_sNew, kI_sI, kI_sJ, kI_sR, kI_sA, kI_sB, kI_sC, kJ_sI, kJ_sJ, kJ_sR, kJ_sA, kJ_sB, kJ_sC, kR_sI, kR_sJ, kR_sR, kR_sA, kR_sB, kR_sC, kA_sI, kA_sJ, kA_sR, kA_sA, kA_sB, kA_sC, kB_sI, kB_sJ, kB_sR, kB_sA, kB_sB, kB_sC, kC_sI, kC_sJ, kC_sR, kC_sA, kC_sB, kC_sC, kN_sI, kN_sJ, kN_sR, kN_sA, kN_sB, kN_sC, n10, Ne.symm n10, n11, Ne.symm n11, n12, Ne.symm n12, n15, Ne.symm n15, n16, Ne.symm n16, n17, Ne.symm n17, n18, Ne.symm n18]) ?_
                refine lv_iload_n S.1 S.2.1 dX4_leaf_131 rfl (lv_at hl 4 rfl) ?_
                refine lv_iadd S.1 S.2.1 dX4_leaf_132 ?_
                refine kx_pI S hK hW hS (hadd.nu _ _ (kw_old hd14 (kw_old hd9 (zk_o hz)))) 7 257  rfl iX4 tyX4_ok nmX4 (by decide) rfl rfl (by decide) (by decide +kernel) (Or.inl rfl) rfl dX4_leaf_133 (fun H locs hW hS => ?_)
                refine lv_aload_n S.1 S.2.1 dX4_leaf_136 rfl (lv_at hl 1 rfl) ?_
                refine kx_gA S hK hW (hadd.nu _ _ (kw_old hd14 (kw_old hd9 (zk_o hz)))) 1 251 rfl iX4 (by decide) rfl rfl (by decide) (by decide +kernel) dX4_leaf_137 (b := (eA ee 4 1)) (by rw [show kR (sI (sI y1 102 (eA ee 0 g) ((kI y1 102 (eA ee 0 g)) + (gu))) 257 o ((kI y1 257 o) + (gu))) 251 o = kR y1 251 o from (by simp [kI_sNew, kJ_sNew, kR_sNew, kN_sNew, kI_sI, kI_sJ, kI_sR, kI_sA, kI_sB, kI_sC, kJ_sI, kJ_sJ, kJ_sR, kJ_sA, kJ_sB, kJ_sC, kR_sI, kR_sJ, kR_sR, kR_sA, kR_sB, kR_sC, kA_sI, kA_sJ, kA_sR, kA_sA, kA_sB, kA_sC, kB_sI, kB_sJ, kB_sR, kB_sA, kB_sB, kB_sC, kC_sI, kC_sJ, kC_sR, kC_sA, kC_sB, kC_sC, kN_sI, kN_sJ, kN_sR, kN_sA, kN_sB, kN_sC, n10, Ne.symm n10, n11, Ne.symm n11, n12, Ne.symm n12, n15, Ne.symm n15, n16, Ne.symm n16, n17, Ne.symm n17, n18, Ne.symm n18])]; exact hL1) ?_
                refine kx_cV (As := []) (rest := []) (st1 := [.int (kI (sI (sI y1 102 (eA ee 0 g) ((kI y1 102 (eA ee 0 g)) + (gu))) 257 o ((kI y1 257 o) + (gu))) 2 ((eA ee 4 1)))]) S hK hZ hA hW hS (c_Jx4a65c_size_8abf5 l G nu9 (sI (sI y1 102 (eA ee 0 g) ((kI y1 102 (eA ee 0 g)) + (gu))) 257 o ((kI y1 257 o) + (gu))) ((eA ee 4 1)) ((hadd.nu _ _ (kw_old hd14 (kw_old hd9 (zk_L hz (by decide))))))) (cwV 0 S.2.2.2.2 gX4_leaf_Jx4a65c_size_8abf5 rfl rfl rfl (by decide +kernel) ⟨Nat.le_of_ble_eq_true rfl, Nat.le_of_ble_eq_true rfl⟩) ((hadd.nu _ _ (kw_old hd14 (kw_old hd9 (zk_L hz (by decide)))))) (by decide) rfl rfl hl.1 rfl (Nat.le_of_ble_eq_true rfl) dX4_leaf_140 ⟨by show _ ≤ 3; have := zc_le (eA ee 10 1) (eA ee 6 1); omega, by show _ ≤ 789; have := zs_le (c := eA ee 10 1) (n := eA ee 6 1) (by omega); omega⟩ rfl (fun H locs hW hS => ?_)
                refine lv_iconst (v := 1) S.1 S.2.1 dX4_leaf_143 (by decide) ?_
                refine lv_isub S.1 S.2.1 dX4_leaf_144 ?_
                refine kw_iret S hr hlk hW hS (by first | decide | (have := zc_le (eA ee 10 1) (eA ee 6 1); omega)) (by first | decide | (have := zs_le (c := eA ee 10 1) (n := eA ee 6 1) (by omega); omega)) dX4_leaf_145 ?_
                have hok : m_lfok t (eA ee 6 0) (eA ee 6 1) g w gu ce bu li = true := (lf_iff hz hg).mpr ⟨(z_eight hz).mp c1, c2, c3, c4, c5, Int32.not_lt.mpr (Int32.not_lt.mp c6), c7⟩
                have hs1 : ∀ v1 v2, kI (sI (sI y1 102 (eA ee 0 g) v1) 257 o v2) 2 (eA ee 4 1) = nI (eA ee 6 1 + 1) := fun v1 v2 => hadd.2.2.2.2.1
                obtain ⟨n9, -, hn9, en9⟩ := gu_bd c5
                subst en9
                refine ⟨?_, hX.tr hadd.nu, z_el ee d8 d13 g D1, ?_, ?_⟩
                · rw [if_pos hok]; exact congrArg some (congrArg Value.int (by rw [hs1, nI_pred]))
                · rw [m_leaf, if_pos hok]; exact zw_lf hz ((z_eight hz).mp c1) hg (wi_bd c2 (by decide) (by decide)) hn9 (lf_sum hz hn9 c7.1) (wi_bd c3.1 (by decide) (by decide)) (bd.lo (wi_bd c3.2 (a := 1500) (b := 20000) (by decide) (by decide))) (bd.lo (wi_bd c4 (a := 1500) (b := 60000) (by decide) (by decide))) hd9 hd14 hadd
                · rw [m_leaf, if_pos hok]; exact ⟨fun h9 => hF.1 h9, fun h9 => hF.2 h9⟩
              · skip
                refine lv_iconst (v := (-1)) S.1 S.2.1 dX4_leaf_81 (by decide) ?_
                refine kw_iret S hr hlk hW hS (by first | decide | (have := zc_le (eA ee 10 1) (eA ee 6 1); omega)) (by first | decide | (have := zs_le (c := eA ee 10 1) (n := eA ee 6 1) (by omega); omega)) dX4_leaf_82 ?_
                have hko : ¬ m_lfok t (eA ee 6 0) (eA ee 6 1) g w gu ce bu li = true := fun h9 => by
                  obtain ⟨q1, q2, q3, q4, q5, q6, q7⟩ := (lf_iff hz hg).mp h9
                  first | exact absurd ((z_eight hz).mpr q1) c7 | exact absurd q2 c7 | exact absurd q3 c7 | exact absurd q4 c7 | exact absurd q5 c7 | exact absurd c7 q6 | exact absurd q7 c7
                refine ⟨by rw [if_neg hko], nuX.rf, ee, ?_, ?_⟩ <;> rw [m_leaf, if_neg hko] <;> first | exact hz | exact hF
        · skip
          refine lv_iconst (v := (-1)) S.1 S.2.1 dX4_leaf_56 (by decide) ?_
          refine kw_iret S hr hlk hW hS (by first | decide | (have := zc_le (eA ee 10 1) (eA ee 6 1); omega)) (by first | decide | (have := zs_le (c := eA ee 10 1) (n := eA ee 6 1) (by omega); omega)) dX4_leaf_57 ?_
          have hko : ¬ m_lfok t (eA ee 6 0) (eA ee 6 1) g w gu ce bu li = true := fun h9 => by
            obtain ⟨q1, q2, q3, q4, q5, q6, q7⟩ := (lf_iff hz hg).mp h9
            first | exact absurd ((z_eight hz).mpr q1) c4 | exact absurd q2 c4 | exact absurd q3 c4 | exact absurd q4 c4 | exact absurd q5 c4 | exact absurd c4 q6 | exact absurd q7 c4
          refine ⟨by rw [if_neg hko], nuX.rf, ee, ?_, ?_⟩ <;> rw [m_leaf, if_neg hko] <;> first | exact hz | exact hF
  · skip
    refine lv_iconst (v := (-1)) S.1 S.2.1 dX4_leaf_24 (by decide) ?_
    refine kw_iret S hr hlk hW hS (by first | decide | (have := zc_le (eA ee 10 1) (eA ee 6 1); omega)) (by first | decide | (have := zs_le (c := eA ee 10 1) (n := eA ee 6 1) (by omega); omega)) dX4_leaf_25 ?_
    have hko : ¬ m_lfok t (eA ee 6 0) (eA ee 6 1) g w gu ce bu li = true := fun h9 => by
      obtain ⟨q1, q2, q3, q4, q5, q6, q7⟩ := (lf_iff hz hg).mp h9
      first | exact absurd ((z_eight hz).mpr q1) c1 | exact absurd q2 c1 | exact absurd q3 c1 | exact absurd q4 c1 | exact absurd q5 c1 | exact absurd c1 q6 | exact absurd q7 c1
    refine ⟨by rw [if_neg hko], nuX.rf, ee, ?_, ?_⟩ <;> rw [m_leaf, if_neg hko] <;> first | exact hz | exact hF
