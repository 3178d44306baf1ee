/-! LinkShaper: group, leaf -/
set_option maxHeartbeats 1000000 in
set_option maxRecDepth 100000 in
/-- group -/
theorem c_X4_group (l : Launch) (G : kw_G) (nu : Nat → Option Nat) (x z : kw_St) (o : Nat) (ee : kE) (t : mo_T) (w : Int32) (ce : Int32) (bu : Int32) (hz : zw G nu z o ee t x) (hF : zF ee t) : kw_M l G yX4_group wsX4_group { frames := 7, cells := 3, slots := 777, locals := 171 } 3 777 [.ref o, .int (w), .int (ce), .int (bu)] nu x (fun v nu' y => v = some (.int (if m_gok t w ce bu = true then nI (eA ee 6 0) else -1)) ∧ nuX nu nu' ∧ ∃ e2, zw G nu' z o e2 (m_group t (eA ee 6 0) w ce bu) y ∧ zF e2 (m_group t (eA ee 6 0) w ce bu)) := by
  refine kw_M.ofW (cc := cX4_group) (maxL := 4) (ret := (some .int)) (by decide) rfl (Nat.le_of_ble_eq_true rfl) ?_
  intro p e s m args below meth c A ls S hr hlk hnm hK hZ hA hW hS hl
  have hl : lv_has ls 4 [(0, .ref o), (1, .int (w)), (2, .int (ce)), (3, .int (bu))] := hl
  have iX0 : ∀ w ∈ wsX00, w ∈ wsX4_group := by decide +kernel
  have iX1 : ∀ w ∈ wsX10, w ∈ wsX4_group := by decide +kernel
  have iX4 : ∀ w ∈ wsX40, w ∈ wsX4_group := by decide +kernel
  have hdg := zd_ng hz
  have hdl := zd_nl hz
  have hdp := zd_np hz
  have hdb := zd_nb hz
  refine lv_aload_n S.1 S.2.1 dX4_group_0 rfl (lv_at hl 0 rfl) ?_
  refine kx_gA S hK hW (zk_o hz) 0 250 rfl iX4 (by decide) rfl rfl (by decide) (by decide +kernel) dX4_group_1 (b := (eA ee 4 0)) (zs_list hz (i := 0) (by decide)) ?_
  refine kx_cV (As := []) (rest := []) (st1 := [.int (nI (eA ee 6 0))]) S hK hZ hA hW hS (c_z_size l G hz 0 (by decide)) (cwV 0 S.2.2.2.2 gX4_group_Jx4a65c_size_8abf5 rfl rfl rfl (by decide +kernel) ⟨Nat.le_of_ble_eq_true rfl, Nat.le_of_ble_eq_true rfl⟩) (zk_L hz (by decide)) (by decide) rfl rfl hl.1 rfl (Nat.le_of_ble_eq_true rfl) dX4_group_4 ⟨Nat.le_of_ble_eq_true rfl, Nat.le_of_ble_eq_true rfl⟩ rfl (fun H locs hW hS => ?_)
  refine lv_iconst (v := 4) S.1 S.2.1 dX4_group_7 (by decide) ?_
  refine lv_icmp_ge (tgt := 26) S.1 S.2.1 dX4_group_8 (by decide) (fun c1 => ?_) (fun c1 => ?_)
  · skip
    refine lv_iconst (v := (-1)) S.1 S.2.1 dX4_group_26 (by decide) ?_
    refine kw_iret S hr hlk hW hS (by first | decide | (have := zc_le (eA ee 10 0) (eA ee 6 0); omega)) (by first | decide | (have := zs_le (c := eA ee 10 0) (n := eA ee 6 0) (by omega); omega)) dX4_group_27 ?_
    have hko : m_gok t w ce bu = false := by first | (simp [m_gok, c1]; done) | (simp [m_gok, z_four hz c1]; done) | (simp [m_gok]; simp_all; done)
    refine ⟨by simp [hko], nuX.rf, ee, ?_, ?_⟩ <;> rw [m_group, hko] <;> simp <;> first | exact hz | exact hF
  · skip
    refine lv_iload_n S.1 S.2.1 dX4_group_11 rfl (lv_at hl 1 rfl) ?_
    refine kx_cS (As := [.int (w)]) (rest := []) (st1 := [.int (kw_b (kw_wi w 1 12 = true))]) S hK hZ hA hW hS (c_X4_isWeight l G nu x w ) (va_cwS 1 S.2.2.2.2 gX4_group_X4_isWeight rfl rfl rfl (by decide +kernel) ⟨Nat.le_of_ble_eq_true rfl, Nat.le_of_ble_eq_true rfl⟩) rfl hl.1 rfl (Nat.le_of_ble_eq_true rfl) dX4_group_12 ⟨Nat.le_of_ble_eq_true rfl, Nat.le_of_ble_eq_true rfl⟩ rfl (fun H locs hW hS => ?_)
    refine kx_ifz_eq (tgt := 26) S dX4_group_15 (by decide) (fun c2 => ?_) (fun c2 => ?_)
    · skip
      refine lv_iconst (v := (-1)) S.1 S.2.1 dX4_group_26 (by decide) ?_
      refine kw_iret S hr hlk hW hS (by first | decide | (have := zc_le (eA ee 10 0) (eA ee 6 0); omega)) (by first | decide | (have := zs_le (c := eA ee 10 0) (n := eA ee 6 0) (by omega); omega)) dX4_group_27 ?_
      have hko : m_gok t w ce bu = false := by first | (simp [m_gok, c1, c2]; done) | (simp [m_gok, z_four hz c1]; done) | (simp [m_gok, z_four hz c2]; done) | (simp [m_gok]; simp_all; done)
      refine ⟨by simp [hko], nuX.rf, ee, ?_, ?_⟩ <;> rw [m_group, hko] <;> simp <;> first | exact hz | exact hF
    · skip
      refine lv_iload_n S.1 S.2.1 dX4_group_18 rfl (lv_at hl 2 rfl) ?_
      refine lv_iload_n S.1 S.2.1 dX4_group_19 rfl (lv_at hl 3 rfl) ?_
      refine kx_cS (As := [.int (ce), .int (bu)]) (rest := []) (st1 := [.int (kw_b (kw_wi ce 0 1000 = true ∧ kw_wi bu 1500 20000 = true))]) S hK hZ hA hW hS (c_X4_isCeiling l G nu x ce bu ) (va_cwS 2 S.2.2.2.2 gX4_group_X4_isCeiling rfl rfl rfl (by decide +kernel) ⟨Nat.le_of_ble_eq_true rfl, Nat.le_of_ble_eq_true rfl⟩) rfl hl.1 rfl (Nat.le_of_ble_eq_true rfl) dX4_group_20 ⟨Nat.le_of_ble_eq_true rfl, Nat.le_of_ble_eq_true rfl⟩ rfl (fun H locs hW hS => ?_)
      refine kx_ifz_ne (tgt := 28) S dX4_group_23 (by decide) (fun c3 => ?_) (fun c3 => ?_)
      · skip
        have hg4 := z_four' hz (by assumption)
        have hwe : kw_wi w 1 12 = true := by assumption
        have hce : kw_wi ce 0 1000 = true ∧ kw_wi bu 1500 20000 = true := by assumption
        refine lv_aload_n S.1 S.2.1 dX4_group_28 rfl (lv_at hl 0 rfl) ?_
        refine kx_gA S hK hW (zk_o hz) 0 250 rfl iX4 (by decide) rfl rfl (by decide) (by decide +kernel) dX4_group_29 (b := (eA ee 4 0)) (zs_list hz (i := 0) (by decide)) ?_
        refine kw_new S hK hW hS hA 2 rfl iX1 tyX1 tyX1_ok (by decide) kw_dvX1 (by decide +kernel) (by decide +kernel) (by decide +kernel) (by decide) (by decide) dX4_group_32 (fun d4 H hd5 hW hS => ?_)
        have n6 : ¬ o = d4 := kw_nb hd5 ((zk_o hz))
        have n7 : ¬ (eA ee 4 0) = d4 := kw_nb hd5 ((zk_L hz (by decide)))
        refine lv_dup S.1 S.2.1 dX4_group_35 rfl ?_
        refine lv_iload_n S.1 S.2.1 dX4_group_36 rfl (lv_at hl 1 rfl) ?_
        refine kw_new S hK hW hS hA 1 rfl iX0 tyX0 tyX0_ok (by decide) kw_dvX0 (by decide +kernel) (by decide +kernel) (by decide +kernel) (by decide) (by decide) dX4_group_37 (fun d8 H hd9 hW hS => ?_)
        have n10 : ¬ o = d8 := kw_nb hd9 ((kw_old hd5 (zk_o hz)))
        have n11 : ¬ (eA ee 4 0) = d8 := kw_nb hd9 ((kw_old hd5 (zk_L hz (by decide))))
        have n12 : ¬ d4 = d8 := kw_nb hd9 ((va_up_self _ _ _))
        refine lv_dup S.1 S.2.1 dX4_group_40 rfl ?_
        refine lv_iload_n S.1 S.2.1 dX4_group_41 rfl (lv_at hl 2 rfl) ?_
        refine lv_iload_n S.1 S.2.1 dX4_group_42 rfl (lv_at hl 3 rfl) ?_
        refine kx_cI (As := [.int (ce), .int (bu)]) (rest := [.ref d8, .int (w), .ref d4, .ref d4, .ref (eA ee 4 0)]) (st1 := [.ref d8, .int (w), .ref d4, .ref d4, .ref (eA ee 4 0)]) S hK hZ hA hW hS (c_X0_init l G ((va_up (va_up nu d4 (some 2)) d8 (some 1))) (sNew (sNew x d4 (0)) d8 (0)) d8 ce bu ((va_up_self _ _ _))) (cwI 2 S.2.2.2.2 gX4_group_X0_init rfl rfl rfl (S.2.2.2.2 _ (by decide +kernel)) (S.2.2.2.2 _ (by decide +kernel)) (S.2.2.2.2 _ (by decide +kernel)) rfl (by decide +kernel) ⟨Nat.le_of_ble_eq_true rfl, Nat.le_of_ble_eq_true rfl⟩) rfl hl.1 rfl (Nat.le_of_ble_eq_true rfl) dX4_group_43 ⟨Nat.le_of_ble_eq_true rfl, Nat.le_of_ble_eq_true rfl⟩ rfl (fun H locs hW hS => ?_)
        refine kx_cI (As := [.int (w), .ref d8]) (rest := [.ref d4, .ref (eA ee 4 0)]) (st1 := [.ref d4, .ref (eA ee 4 0)]) S hK hZ hA hW hS (c_X1_init l G ((va_up (va_up nu d4 (some 2)) d8 (some 1))) (sJ (sJ (sI (sNew (sNew x d4 (0)) d8 (0)) 50 d8 ce) 51 d8 (1000 * (bu).toInt64)) 52 d8 (1000 * (bu).toInt64)) d4 w d8 ((kw_old hd9 (va_up_self _ _ _)))) (cwI 2 S.2.2.2.2 gX4_group_X1_init rfl rfl rfl (S.2.2.2.2 _ (by decide +kernel)) (S.2.2.2.2 _ (by decide +kernel)) (S.2.2.2.2 _ (by decide +kernel)) rfl (by decide +kernel) ⟨Nat.le_of_ble_eq_true rfl, Nat.le_of_ble_eq_true rfl⟩) rfl hl.1 rfl (Nat.le_of_ble_eq_true rfl) dX4_group_46 ⟨Nat.le_of_ble_eq_true rfl, Nat.le_of_ble_eq_true rfl⟩ rfl (fun H locs hW hS => ?_)
        have hX : nuX nu (va_up (va_up nu d4 (some 2)) d8 (some 1)) := (nuX.up hd5).tr (nuX.up hd9)
        have hx : ∀ c q, nu c = some q → kw_ag c x (sR (sI (sJ (sJ (sI (sNew (sNew x d4 (0)) d8 (0)) 50 d8 ce) 51 d8 (1000 * (bu).toInt64)) 52 d8 (1000 * (bu).toInt64)) 100 d4 w) 101 d4 (some d8)) := fun c q h => ag_sR (ag_sI (ag_sJ (ag_sJ (ag_sI (ag_sNew (ag_sNew kw_ag.rf (kw_nb hd5 h)) (kw_nb hd9 (nuX.up hd5 _ _ h))) (kw_nb hd9 (nuX.up hd5 _ _ h))) (kw_nb hd9 (nuX.up hd5 _ _ h))) (kw_nb hd9 (nuX.up hd5 _ _ h))) (kw_nb hd5 h)) (kw_nb hd5 h)
        have hLs : zLs G (va_up (va_up nu d4 (some 2)) d8 (some 1)) o ee (sR (sI (sJ (sJ (sI (sNew (sNew x d4 (0)) d8 (0)) 50 d8 ce) 51 d8 (1000 * (bu).toInt64)) 52 d8 (1000 * (bu).toInt64)) 100 d4 w) 101 d4 (some d8)) := zLs_nu hX hz.2.1 (zLs_ag hz.2.1 (fun c q h _ => hx c q h) hz.2.2.1.1)
        have hKz := zK_nu hX hz.2.1
        refine kw_callV (As := [.ref d4]) (rest := []) S hK hZ hA hW hS (c_z_add l G (va_up (va_up nu d4 (some 2)) d8 (some 1)) (sR (sI (sJ (sJ (sI (sNew (sNew x d4 (0)) d8 (0)) 50 d8 ce) 51 d8 (1000 * (bu).toInt64)) 52 d8 (1000 * (bu).toInt64)) 100 d4 w) 101 d4 (some d8)) (eA ee 4 0) (eA ee 5 0) (eA ee 6 0) d4 2 (kw_old hd9 (kw_old hd5 (zk_L hz (by decide)))) (kw_old hd9 (va_up_self _ _ _)) (by decide) hKz.2.2.2.2.2.2.1 hLs.2.1 (hLs.1 0 (by decide)).2.1 (hLs.1 0 (by decide)).2.2.1 (eA ee 10 0) (hLs.1 0 (by decide)).2.2.2.1 (hLs.1 0 (by decide)).2.2.2.2 (by omega) (fun j y hj hy => ⟨2, by have h9 := hLs.2.2.2.1 0 (by decide) j hj; rw [hy] at h9; cases h9; exact hKz.2.2.1 j hj, by decide⟩)) (cwV 1 S.2.2.2.2 gX4_group_Jx4a65c_add_9ea2d rfl rfl rfl (by decide +kernel) ⟨Nat.le_of_ble_eq_true rfl, Nat.le_of_ble_eq_true rfl⟩) (kw_old hd9 (kw_old hd5 (zk_L hz (by decide)))) (by decide) rfl rfl hl.1 rfl (Nat.le_of_ble_eq_true rfl) dX4_group_49 ⟨by show _ ≤ 3; have := zc_le (eA ee 10 0) (eA ee 6 0); omega, by show _ ≤ 777; have := zs_le (c := eA ee 10 0) (n := eA ee 6 0) (by omega); omega⟩ (fun v nu9 y1 H locs hp hW hS => ?_)
        obtain ⟨ev, D1, hadd⟩ := hp
        subst ev
        refine W.eq (g2 := F0 m 52 ls [.int (1)]) rfl ?_
        have ho1 := zAdd_ag hadd (hKz.2.1 0 (by decide)) hKz.1 (by decide) (by decide)
        have hL1 : kR y1 250 o = some (eA ee 4 0) := (ho1.2.2.1 _).trans (hLs.1 0 (by decide)).1
        refine lv_pop S.1 S.2.1 dX4_group_52 rfl ?_
        refine lv_aload_n S.1 S.2.1 dX4_group_53 rfl (lv_at hl 0 rfl) ?_
        refine kx_gA S hK hW (hadd.nu _ _ (kw_old hd9 (kw_old hd5 (zk_o hz)))) 0 250 rfl iX4 (by decide) rfl rfl (by decide) (by decide +kernel) dX4_group_54 (b := (eA ee 4 0)) hL1 ?_
        refine kx_cV (As := []) (rest := []) (st1 := [.int (kI y1 2 ((eA ee 4 0)))]) S hK hZ hA hW hS (c_Jx4a65c_size_8abf5 l G nu9 y1 ((eA ee 4 0)) ((hadd.nu _ _ (kw_old hd9 (kw_old hd5 (zk_L hz (by decide))))))) (cwV 0 S.2.2.2.2 gX4_group_Jx4a65c_size_8abf5 rfl rfl rfl (by decide +kernel) ⟨Nat.le_of_ble_eq_true rfl, Nat.le_of_ble_eq_true rfl⟩) ((hadd.nu _ _ (kw_old hd9 (kw_old hd5 (zk_L hz (by decide)))))) (by decide) rfl rfl hl.1 rfl (Nat.le_of_ble_eq_true rfl) dX4_group_57 ⟨by show _ ≤ 3; have := zc_le (eA ee 10 0) (eA ee 6 0); omega, by show _ ≤ 777; have := zs_le (c := eA ee 10 0) (n := eA ee 6 0) (by omega); omega⟩ rfl (fun H locs hW hS => ?_)
        refine lv_iconst (v := 1) S.1 S.2.1 dX4_group_60 (by decide) ?_
        refine lv_isub S.1 S.2.1 dX4_group_61 ?_
        refine kw_iret S hr hlk hW hS (by first | decide | (have := zc_le (eA ee 10 0) (eA ee 6 0); omega)) (by first | decide | (have := zs_le (c := eA ee 10 0) (n := eA ee 6 0) (by omega); omega)) dX4_group_62 ?_
        have hok : m_gok t w ce bu = true := by simp [m_gok, hg4.2, hwe, hce]
        refine ⟨?_, hX.tr hadd.nu, z_eg ee d4 d8 D1, ?_, ?_⟩
        · rw [hadd.2.2.2.2.1, nI_pred, if_pos hok]
        · rw [m_group, if_pos hok]; exact zw_grp hz hg4.1 (wi_bd hwe (by decide) (by decide)) (wi_bd hce.1 (by decide) (by decide)) (bd.lo (wi_bd hce.2 (a := 1500) (b := 20000) (by decide) (by decide))) hd5 hd9 hadd
        · rw [m_group, if_pos hok]; exact hF
      · skip
        refine lv_iconst (v := (-1)) S.1 S.2.1 dX4_group_26 (by decide) ?_
        refine kw_iret S hr hlk hW hS (by first | decide | (have := zc_le (eA ee 10 0) (eA ee 6 0); omega)) (by first | decide | (have := zs_le (c := eA ee 10 0) (n := eA ee 6 0) (by omega); omega)) dX4_group_27 ?_
        have hko : m_gok t w ce bu = false := by first | (simp [m_gok, c1, c2, c3]; done) | (simp [m_gok, z_four hz c1]; done) | (simp [m_gok, z_four hz c2]; done) | (simp [m_gok, z_four hz c3]; done) | (simp [m_gok]; simp_all; done)
        refine ⟨by simp [hko], nuX.rf, ee, ?_, ?_⟩ <;> rw [m_group, hko] <;> simp <;> first | exact hz | exact hF
