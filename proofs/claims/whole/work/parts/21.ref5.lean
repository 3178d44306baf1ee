/-! the reference: begins -/
def m_st (t : mo_T) (fp : Nat → Nat) (k : Nat) : Int32 := if tA t 25 k ≤ tA t 35 (fp k) then tA t 35 (fp k) else tA t 25 k
def m_dl (t : mo_T) (fp : Nat → Nat) (k : Nat) : Int32 := m_st t fp k + (1000 * tA t 34 (fp k) + tA t 15 k - 1) / tA t 15 k
def m_duf (t : mo_T) (fp : Nat → Nat) (k : Nat) : Bool := decide (¬ tA t 19 k ≤ 0) && (decide (¬ tA t 15 k ≤ 0) && decide (¬ tF t 1 < m_st t fp k))
def m_dul (t : mo_T) (fp : Nat → Nat) (a b : Nat) : Bool := decide (¬ m_dl t fp b ≤ m_dl t fp a)
def m_due (t : mo_T) (fp : Nat → Nat) (nl : Nat) : Option Nat := m_am (m_duf t fp) (m_dul t fp) nl
def m_dsend (t : mo_T) (fp gr : Nat → Nat) (b nb : Nat) : mo_T := uA (uA (m_goes (uA t 25 b (m_dl t fp b)) b (fp b) (gr b) nb 1) 38 (fp b) (m_dl t fp b)) 21 b (tA t 21 b + tA t 34 (fp b))
def m_begins (t : mo_T) (fp gr : Nat → Nat) (nl ng nb : Nat) : mo_T := match m_due t fp nl with
  | none => m_excess t fp gr nl ng nb
  | some b => m_dsend t fp gr b nb
theorem kw_nle0 {x : Int32} (h : ¬ x ≤ 0) : ¬ x = 0 := fun e => h (by rw [e]; decide)
set_option maxHeartbeats 1000000 in
set_option maxRecDepth 100000 in
/-- begins -/
theorem c_X5_begins (l : Launch) (G : kw_G) (nu : Nat → Option Nat) (x z : kw_St) (mo : Nat) (ma : Nat → Nat) (t : mo_T) (fp : Nat → Nat) (gr : Nat → Nat) (nl : Nat) (ng : Nat) (nb : Nat) (hm : mw nu z mo ma t x) (hng : tF t 2 = nI ng) (hg4 : ng ≤ 4) (hnl : tF t 3 = nI nl) (hn8 : nl ≤ 8) (hfp : ∀ k, k < nl → ¬ tA t 19 k = 0 → tA t 17 k = nI (fp k) ∧ fp k < 1000) (hgr : ∀ k, k < nl → tA t 13 k = nI (gr k) ∧ gr k < ng) (hwe : ∀ k, k < nl → 0 < tA t 14 k) (hgw : ∀ g, g < ng → 0 < tA t 9 g) (hnb : tF t 5 = nI nb) (hb9 : nb < 1000) : kw_M l G yX5_begins wsX5_begins { frames := 2, cells := 0, slots := 0, locals := 50 } 0 0 [.ref mo] nu x (fun v nu' y => v = none ∧ nu' = nu ∧ mw nu z mo ma (m_begins t fp gr nl ng nb) y) := by
  refine kw_M.ofW (cc := cX5_begins) (maxL := 4) (ret := none) (by decide) rfl (Nat.le_of_ble_eq_true rfl) ?_
  intro p e s m args below meth c A ls S hr hlk hnm hK hZ hA hW hS hl
  have hl : lv_has ls 4 [(0, .ref mo)] := hl
  have iX5 : ∀ w ∈ wsX50, w ∈ wsX5_begins := by decide +kernel
  obtain ⟨QQ, hQQ⟩ : ∃ q, q = MQ below (kw_Qc G A (fun v nu' y => v = none ∧ nu' = nu ∧ mw nu z mo ma (m_begins t fp gr nl ng nb) y)) args s 0 0 A := ⟨_, rfl⟩
  rw [← hQQ]
  refine lv_iconst (v := (-1)) S.1 S.2.1 dX5_begins_0 (by decide) ?_
  refine lv_istore_n (lv' := [(1, .int (-1)), (0, .ref mo)]) S.1 S.2.1 dX5_begins_1 rfl hl (by decide) rfl (fun ls hl => ?_)
  refine lv_iconst (v := 0) S.1 S.2.1 dX5_begins_2 (by decide) ?_
  refine lv_istore_n (lv' := [(2, .int (0)), (1, .int (-1)), (0, .ref mo)]) S.1 S.2.1 dX5_begins_3 rfl hl (by decide) rfl (fun ls hl => ?_)
  have loop : ∀ (dn n : Nat) (bo : Option Nat), n + dn = nl → (bo = m_am (m_duf t fp) (m_dul t fp) n) → ∀ (x : kw_St) (H : Heap) (locs : List Loc) (ls : Array Slot), mw nu z mo ma (t) x → kw_W G A nu x H → va_S A s.heap H locs → lv_has ls 4 [(0, .ref mo), (1, .int (m_ob bo)), (2, .int (nI n))] → W p l e { frames := 2, cells := 0, slots := 0, locals := 50 } s m args below meth c H locs 0 0 QQ (F0 m 4 ls []) := by
    intro dn
    induction dn with
    | zero =>
      intro n bo hndn hbo x H locs ls hm hW hS hl
      rcases bo with _ | b
      · skip
        have hl : lv_has ls 4 [(0, .ref mo), (1, .int (-1)), (2, .int (nI n))] := hl
        refine lv_iload_n S.1 S.2.1 dX5_begins_4 rfl (lv_at hl 2 rfl) ?_
        refine lv_aload_n S.1 S.2.1 dX5_begins_5 rfl (lv_at hl 0 rfl) ?_
        refine mx_gI S hK hm hW 3 iX5 rfl (by decide) (by decide +kernel) dX5_begins_6 (v := nI nl) hnl ?_
        refine lv_icmp_ge (tgt := 68) S.1 S.2.1 dX5_begins_9 (by decide) (fun c1 => ?_) (fun c1 => ?_)
        · skip
          have hnn2 : nl = n := by omega
          subst hnn2
          refine lv_iload_n S.1 S.2.1 dX5_begins_68 rfl (lv_at hl 1 rfl) ?_
          refine lv_iconst (v := (-1)) S.1 S.2.1 dX5_begins_69 (by decide) ?_
          refine lv_icmp_eq (tgt := 116) S.1 S.2.1 dX5_begins_70 (by decide) (fun c3 => ?_) (fun c3 => ?_)
          · skip
            refine lv_aload_n S.1 S.2.1 dX5_begins_116 rfl (lv_at hl 0 rfl) ?_
            refine mx_cV (As := []) (rest := []) (st1 := []) S hK hZ hA hm hW hS (c_X5_excess l G nu x z mo ma t fp gr nl ng nb hm hng hg4 hnl hn8 hfp hgr hwe hgw hnb hb9) (cwV 0 S.2.2.2.2 gX5_begins_X5_excess rfl rfl rfl (by decide +kernel) ⟨Nat.le_of_ble_eq_true rfl, Nat.le_of_ble_eq_true rfl⟩) rfl hl.1 rfl (Nat.le_of_ble_eq_true rfl) dX5_begins_117 ⟨Nat.le_of_ble_eq_true rfl, Nat.le_of_ble_eq_true rfl⟩ rfl (fun x H locs hm hW hS => ?_)
            rw [hQQ]
            refine kw_vret S hr hlk hW hS (by decide) (by decide) dX5_begins_120 ?_
            refine ⟨?_, rfl, hm.to ?_⟩ <;> first | rfl | (simp [m_begins, m_due, m_dsend, hbo.symm, eq_true c3, kw_b]; done) | (simp [m_begins, m_due, m_dsend, hbo.symm, eq_true c3, kw_b, tF_uF, tF_uL, tF_uA, tF_uB, tL_uF, tL_uL, tL_uA, tL_uB, tA_uF, tA_uL, tA_uA, tA_uB, tB_uF, tB_uL, tB_uA, tB_uB, m_goes_A, m_goes_B, m_goes_L, m_goes_F]; done) | contradiction
          · skip
            exact absurd c3 (by decide)
        · skip
          exact absurd (nI_le (a := nl) (b := n) (by omega) (by omega)) c1
      · skip
        have hl : lv_has ls 4 [(0, .ref mo), (1, .int (nI b)), (2, .int (nI n))] := hl
        obtain ⟨hb1, hb2⟩ := m_am_some hbo.symm
        have hbw : ¬ tA t 19 b ≤ 0 := by have h := hb2; simp only [m_duf, Bool.and_eq_true, decide_eq_true_eq] at h; exact h.1
        have hbg : ¬ tA t 15 b ≤ 0 := by have h := hb2; simp only [m_duf, Bool.and_eq_true, decide_eq_true_eq] at h; exact h.2.1
        have hbp := hfp b (by omega) (kw_nle0 hbw)
        have hbq := hbp.2
        refine lv_iload_n S.1 S.2.1 dX5_begins_4 rfl (lv_at hl 2 rfl) ?_
        refine lv_aload_n S.1 S.2.1 dX5_begins_5 rfl (lv_at hl 0 rfl) ?_
        refine mx_gI S hK hm hW 3 iX5 rfl (by decide) (by decide +kernel) dX5_begins_6 (v := nI nl) hnl ?_
        refine lv_icmp_ge (tgt := 68) S.1 S.2.1 dX5_begins_9 (by decide) (fun c4 => ?_) (fun c4 => ?_)
        · skip
          have hnn5 : nl = n := by omega
          subst hnn5
          refine lv_iload_n S.1 S.2.1 dX5_begins_68 rfl (lv_at hl 1 rfl) ?_
          refine lv_iconst (v := (-1)) S.1 S.2.1 dX5_begins_69 (by decide) ?_
          refine lv_icmp_eq (tgt := 116) S.1 S.2.1 dX5_begins_70 (by decide) (fun c6 => ?_) (fun c6 => ?_)
          · skip
            exact absurd (by first | exact c6 | exact Classical.not_not.mp c6) (nI_nm1 (by omega))
          · skip
            refine lv_aload_n S.1 S.2.1 dX5_begins_73 rfl (lv_at hl 0 rfl) ?_
            refine lv_iload_n S.1 S.2.1 dX5_begins_74 rfl (lv_at hl 1 rfl) ?_
            refine mx_cV (As := [.int (nI b)]) (rest := []) (st1 := [.int ((m_dl t fp b))]) S hK hZ hA hm hW hS (c_X5_deadlineOf l G nu x z mo ma t b (m_dl t fp b) (fp b) hm rfl (by omega) hbp.1 hbp.2 (Int32.not_le.mp hbg)) (cwV 1 S.2.2.2.2 gX5_begins_X5_deadlineOf rfl rfl rfl (by decide +kernel) ⟨Nat.le_of_ble_eq_true rfl, Nat.le_of_ble_eq_true rfl⟩) rfl hl.1 rfl (Nat.le_of_ble_eq_true rfl) dX5_begins_75 ⟨Nat.le_of_ble_eq_true rfl, Nat.le_of_ble_eq_true rfl⟩ rfl (fun x H locs hm hW hS => ?_)
            refine lv_istore_n (lv' := [(2, .int ((m_dl t fp b))), (0, .ref mo), (1, .int (nI b))]) S.1 S.2.1 dX5_begins_78 rfl hl (by decide) rfl (fun ls hl => ?_)
            refine lv_aload_n S.1 S.2.1 dX5_begins_79 rfl (lv_at hl 1 rfl) ?_
            refine mx_gA S hK hm hW 25 iX5 rfl (by decide) (by decide) (by decide +kernel) dX5_begins_80 ?_
            refine lv_iload_n S.1 S.2.1 dX5_begins_83 rfl (lv_at hl 2 rfl) ?_
            refine lv_iload_n S.1 S.2.1 dX5_begins_84 rfl (lv_at hl 0 rfl) ?_
            refine mx_ist S hK hm hW hS 25 (by decide) (k := b) (kw_ixof (k := b) (n := 8) rfl (by omega) (by decide)) dX5_begins_85 (fun x H locs hm hW hS => ?_)
            refine lv_aload_n S.1 S.2.1 dX5_begins_86 rfl (lv_at hl 1 rfl) ?_
            refine lv_iload_n S.1 S.2.1 dX5_begins_87 rfl (lv_at hl 2 rfl) ?_
            refine lv_iconst (v := 1) S.1 S.2.1 dX5_begins_88 (by decide) ?_
            refine mx_cV (As := [.int (nI b), .int (1)]) (rest := []) (st1 := [.int (nI (fp b))]) S hK hZ hA hm hW hS (c_X5_goes l G nu x z mo ma (uA t 25 (b) ((m_dl t fp b))) b 1 (fp b) (gr b) nb hm (by omega) (by simp [tF_uF, tF_uL, tF_uA, tF_uB, tL_uF, tL_uL, tL_uA, tL_uB, tA_uF, tA_uL, tA_uA, tA_uB, tB_uF, tB_uL, tB_uA, tB_uB, m_goes_A, m_goes_B, m_goes_L, m_goes_F]; exact hbp.1) hbp.2 (by simp [tF_uF, tF_uL, tF_uA, tF_uB, tL_uF, tL_uL, tL_uA, tL_uB, tA_uF, tA_uL, tA_uA, tA_uB, tB_uF, tB_uL, tB_uA, tB_uB, m_goes_A, m_goes_B, m_goes_L, m_goes_F]; exact (hgr b (by omega)).1) (by have := (hgr b (by omega)).2; omega) (by simp [tF_uF, tF_uL, tF_uA, tF_uB, tL_uF, tL_uL, tL_uA, tL_uB, tA_uF, tA_uL, tA_uA, tA_uB, tB_uF, tB_uL, tB_uA, tB_uB, m_goes_A, m_goes_B, m_goes_L, m_goes_F]; exact hnb) hb9) (cwV 2 S.2.2.2.2 gX5_begins_X5_goes rfl rfl rfl (by decide +kernel) ⟨Nat.le_of_ble_eq_true rfl, Nat.le_of_ble_eq_true rfl⟩) rfl hl.1 rfl (Nat.le_of_ble_eq_true rfl) dX5_begins_89 ⟨Nat.le_of_ble_eq_true rfl, Nat.le_of_ble_eq_true rfl⟩ rfl (fun x H locs hm hW hS => ?_)
            refine lv_istore_n (lv' := [(3, .int (nI (fp b))), (2, .int ((m_dl t fp b))), (0, .ref mo), (1, .int (nI b))]) S.1 S.2.1 dX5_begins_92 rfl hl (by decide) rfl (fun ls hl => ?_)
            refine lv_aload_n S.1 S.2.1 dX5_begins_93 rfl (lv_at hl 2 rfl) ?_
            refine mx_gA S hK hm hW 38 iX5 rfl (by decide) (by decide) (by decide +kernel) dX5_begins_94 ?_
            refine lv_iload_n S.1 S.2.1 dX5_begins_97 rfl (lv_at hl 0 rfl) ?_
            refine lv_iload_n S.1 S.2.1 dX5_begins_98 rfl (lv_at hl 1 rfl) ?_
            refine mx_ist S hK hm hW hS 38 (by decide) (k := (fp b)) (kw_ixof (k := fp b) (n := 1000) rfl (by omega) (by decide)) dX5_begins_99 (fun x H locs hm hW hS => ?_)
            refine lv_aload_n S.1 S.2.1 dX5_begins_100 rfl (lv_at hl 2 rfl) ?_
            refine mx_gA S hK hm hW 21 iX5 rfl (by decide) (by decide) (by decide +kernel) dX5_begins_101 ?_
            refine lv_iload_n S.1 S.2.1 dX5_begins_104 rfl (lv_at hl 3 rfl) ?_
            refine lv_dup2_11 S.1 S.2.1 dX5_begins_105 rfl rfl ?_
            refine mx_ild S hK hm hW 21 (by decide) (k := b) (kw_ixof (k := b) (n := 8) rfl (by omega) (by decide)) dX5_begins_106 (v := tA t 21 b) (by simp [tF_uF, tF_uL, tF_uA, tF_uB, tL_uF, tL_uL, tL_uA, tL_uB, tA_uF, tA_uL, tA_uA, tA_uB, tB_uF, tB_uL, tB_uA, tB_uB, m_goes_A, m_goes_B, m_goes_L, m_goes_F]) ?_
            refine lv_aload_n S.1 S.2.1 dX5_begins_107 rfl (lv_at hl 2 rfl) ?_
            refine mx_gA S hK hm hW 34 iX5 rfl (by decide) (by decide) (by decide +kernel) dX5_begins_108 ?_
            refine lv_iload_n S.1 S.2.1 dX5_begins_111 rfl (lv_at hl 0 rfl) ?_
            refine mx_ild S hK hm hW 34 (by decide) (k := (fp b)) (kw_ixof (k := fp b) (n := 1000) rfl (by omega) (by decide)) dX5_begins_112 (v := tA t 34 (fp b)) (by simp [tF_uF, tF_uL, tF_uA, tF_uB, tL_uF, tL_uL, tL_uA, tL_uB, tA_uF, tA_uL, tA_uA, tA_uB, tB_uF, tB_uL, tB_uA, tB_uB, m_goes_A, m_goes_B, m_goes_L, m_goes_F]) ?_
            refine lv_iadd S.1 S.2.1 dX5_begins_113 ?_
            refine mx_ist S hK hm hW hS 21 (by decide) (k := b) (kw_ixof (k := b) (n := 8) rfl (by omega) (by decide)) dX5_begins_114 (fun x H locs hm hW hS => ?_)
            rw [hQQ]
            refine kw_vret S hr hlk hW hS (by decide) (by decide) dX5_begins_115 ?_
            refine ⟨?_, rfl, hm.to ?_⟩ <;> first | rfl | (simp [m_begins, m_due, m_dsend, hbo.symm, c6, kw_b]; done) | (simp [m_begins, m_due, m_dsend, hbo.symm, c6, kw_b, tF_uF, tF_uL, tF_uA, tF_uB, tL_uF, tL_uL, tL_uA, tL_uB, tA_uF, tA_uL, tA_uA, tA_uB, tB_uF, tB_uL, tB_uA, tB_uB, m_goes_A, m_goes_B, m_goes_L, m_goes_F]; done) | contradiction
        · skip
          exact absurd (nI_le (a := nl) (b := n) (by omega) (by omega)) c4
    | succ dn ihloop =>
      intro n bo hndn hbo x H locs ls hm hW hS hl
      rcases bo with _ | b
      · skip
        have hl : lv_has ls 4 [(0, .ref mo), (1, .int (-1)), (2, .int (nI n))] := hl
        refine lv_iload_n S.1 S.2.1 dX5_begins_4 rfl (lv_at hl 2 rfl) ?_
        refine lv_aload_n S.1 S.2.1 dX5_begins_5 rfl (lv_at hl 0 rfl) ?_
        refine mx_gI S hK hm hW 3 iX5 rfl (by decide) (by decide +kernel) dX5_begins_6 (v := nI nl) hnl ?_
        refine lv_icmp_ge (tgt := 68) S.1 S.2.1 dX5_begins_9 (by decide) (fun c7 => ?_) (fun c7 => ?_)
        · skip
          exact absurd c7 (nI_ge (a := n) (b := nl) (by omega) (by omega))
        · skip
          refine lv_aload_n S.1 S.2.1 dX5_begins_12 rfl (lv_at hl 0 rfl) ?_
          refine mx_gA S hK hm hW 19 iX5 rfl (by decide) (by decide) (by decide +kernel) dX5_begins_13 ?_
          refine lv_iload_n S.1 S.2.1 dX5_begins_16 rfl (lv_at hl 2 rfl) ?_
          refine mx_ild S hK hm hW 19 (by decide) (k := n) (kw_ixof (k := n) (n := 8) rfl (by omega) (by decide)) dX5_begins_17 (v := tA t 19 n) rfl ?_
          refine lv_if_le (tgt := 62) S.1 S.2.1 dX5_begins_18 (by decide) (fun c8 => ?_) (fun c8 => ?_)
          · skip
            refine lv_iinc (v := nI (n + 1)) (lv' := [(2, .int (nI (n + 1))), (0, .ref mo), (1, .int (-1))]) S.1 S.2.1 dX5_begins_62 hl (k := 2) rfl (nI_1 _) (by decide) rfl (fun ls hl => ?_)
            refine lv_goto (tgt := 4) S.1 S.2.1 dX5_begins_65 (by decide) ?_
            exact ihloop (n + 1) none (by omega) (by simp only [m_am, hbo.symm, m_duf, m_dul]; simp [c7, c8]) x _ _ ls (hm.to rfl) hW hS (lv_conv (lv_sub hl [1, 2, 0] rfl) (congr (congrArg List.cons rfl) (congr (congrArg List.cons (congrArg (fun z9 => ((1 : Nat), Value.int z9)) (show (-1 : Int32) = m_ob none from by first | rfl | (rfl)))) (congr (congrArg List.cons rfl) rfl))))
          · skip
            refine lv_aload_n S.1 S.2.1 dX5_begins_21 rfl (lv_at hl 0 rfl) ?_
            refine mx_gA S hK hm hW 15 iX5 rfl (by decide) (by decide) (by decide +kernel) dX5_begins_22 ?_
            refine lv_iload_n S.1 S.2.1 dX5_begins_25 rfl (lv_at hl 2 rfl) ?_
            refine mx_ild S hK hm hW 15 (by decide) (k := n) (kw_ixof (k := n) (n := 8) rfl (by omega) (by decide)) dX5_begins_26 (v := tA t 15 n) rfl ?_
            refine lv_if_le (tgt := 62) S.1 S.2.1 dX5_begins_27 (by decide) (fun c9 => ?_) (fun c9 => ?_)
            · skip
              refine lv_iinc (v := nI (n + 1)) (lv' := [(2, .int (nI (n + 1))), (0, .ref mo), (1, .int (-1))]) S.1 S.2.1 dX5_begins_62 hl (k := 2) rfl (nI_1 _) (by decide) rfl (fun ls hl => ?_)
              refine lv_goto (tgt := 4) S.1 S.2.1 dX5_begins_65 (by decide) ?_
              exact ihloop (n + 1) none (by omega) (by simp only [m_am, hbo.symm, m_duf, m_dul]; simp [c7, c8, c9]) x _ _ ls (hm.to rfl) hW hS (lv_conv (lv_sub hl [1, 2, 0] rfl) (congr (congrArg List.cons rfl) (congr (congrArg List.cons (congrArg (fun z9 => ((1 : Nat), Value.int z9)) (show (-1 : Int32) = m_ob none from by first | rfl | (rfl)))) (congr (congrArg List.cons rfl) rfl))))
            · skip
              refine lv_aload_n S.1 S.2.1 dX5_begins_30 rfl (lv_at hl 0 rfl) ?_
              refine lv_iload_n S.1 S.2.1 dX5_begins_31 rfl (lv_at hl 2 rfl) ?_
              refine mx_cV (As := [.int (nI n)]) (rest := []) (st1 := [.int ((m_st t fp n))]) S hK hZ hA hm hW hS (c_X5_startOf l G nu x z mo ma t n (m_st t fp n) (fp n) hm rfl (by omega) (hfp n (by omega) (kw_nle0 (by assumption))).1 (hfp n (by omega) (kw_nle0 (by assumption))).2) (cwV 1 S.2.2.2.2 gX5_begins_X5_startOf rfl rfl rfl (by decide +kernel) ⟨Nat.le_of_ble_eq_true rfl, Nat.le_of_ble_eq_true rfl⟩) rfl hl.1 rfl (Nat.le_of_ble_eq_true rfl) dX5_begins_32 ⟨Nat.le_of_ble_eq_true rfl, Nat.le_of_ble_eq_true rfl⟩ rfl (fun x H locs hm hW hS => ?_)
              refine lv_aload_n S.1 S.2.1 dX5_begins_35 rfl (lv_at hl 0 rfl) ?_
              refine mx_gI S hK hm hW 1 iX5 rfl (by decide) (by decide +kernel) dX5_begins_36 (v := tF t 1) rfl ?_
              refine lv_icmp_gt (tgt := 62) S.1 S.2.1 dX5_begins_39 (by decide) (fun c10 => ?_) (fun c10 => ?_)
              · skip
                refine lv_iinc (v := nI (n + 1)) (lv' := [(2, .int (nI (n + 1))), (0, .ref mo), (1, .int (-1))]) S.1 S.2.1 dX5_begins_62 hl (k := 2) rfl (nI_1 _) (by decide) rfl (fun ls hl => ?_)
                refine lv_goto (tgt := 4) S.1 S.2.1 dX5_begins_65 (by decide) ?_
                exact ihloop (n + 1) none (by omega) (by simp only [m_am, hbo.symm, m_duf, m_dul]; simp [c7, c8, c9, c10]) x _ _ ls (hm.to rfl) hW hS (lv_conv (lv_sub hl [1, 2, 0] rfl) (congr (congrArg List.cons rfl) (congr (congrArg List.cons (congrArg (fun z9 => ((1 : Nat), Value.int z9)) (show (-1 : Int32) = m_ob none from by first | rfl | (rfl)))) (congr (congrArg List.cons rfl) rfl))))
              · skip
                refine lv_iload_n S.1 S.2.1 dX5_begins_42 rfl (lv_at hl 1 rfl) ?_
                refine lv_iconst (v := (-1)) S.1 S.2.1 dX5_begins_43 (by decide) ?_
                refine lv_icmp_eq (tgt := 60) S.1 S.2.1 dX5_begins_44 (by decide) (fun c11 => ?_) (fun c11 => ?_)
                · skip
                  refine lv_iload_n S.1 S.2.1 dX5_begins_60 rfl (lv_at hl 2 rfl) ?_
                  refine lv_istore_n (lv' := [(1, .int (nI n)), (0, .ref mo), (2, .int (nI n))]) S.1 S.2.1 dX5_begins_61 rfl hl (by decide) rfl (fun ls hl => ?_)
                  refine lv_iinc (v := nI (n + 1)) (lv' := [(2, .int (nI (n + 1))), (1, .int (nI n)), (0, .ref mo)]) S.1 S.2.1 dX5_begins_62 hl (k := 2) rfl (nI_1 _) (by decide) rfl (fun ls hl => ?_)
                  refine lv_goto (tgt := 4) S.1 S.2.1 dX5_begins_65 (by decide) ?_
                  exact ihloop (n + 1) (some n) (by omega) (by simp only [m_am, hbo.symm, m_duf, m_dul]; simp [c7, c8, c9, c10, eq_true c11]) x _ _ ls (hm.to rfl) hW hS (lv_conv (lv_sub hl [2, 1, 0] rfl) (congr (congrArg List.cons rfl) (congr (congrArg List.cons (congrArg (fun z9 => ((1 : Nat), Value.int z9)) (show (nI n : Int32) = m_ob (some n) from by first | rfl | (rfl)))) (congr (congrArg List.cons rfl) rfl))))
                · skip
                  exact absurd c11 (by decide)
      · skip
        have hl : lv_has ls 4 [(0, .ref mo), (1, .int (nI b)), (2, .int (nI n))] := hl
        obtain ⟨hb1, hb2⟩ := m_am_some hbo.symm
        have hbw : ¬ tA t 19 b ≤ 0 := by have h := hb2; simp only [m_duf, Bool.and_eq_true, decide_eq_true_eq] at h; exact h.1
        have hbg : ¬ tA t 15 b ≤ 0 := by have h := hb2; simp only [m_duf, Bool.and_eq_true, decide_eq_true_eq] at h; exact h.2.1
        have hbp := hfp b (by omega) (kw_nle0 hbw)
        have hbq := hbp.2
        refine lv_iload_n S.1 S.2.1 dX5_begins_4 rfl (lv_at hl 2 rfl) ?_
        refine lv_aload_n S.1 S.2.1 dX5_begins_5 rfl (lv_at hl 0 rfl) ?_
        refine mx_gI S hK hm hW 3 iX5 rfl (by decide) (by decide +kernel) dX5_begins_6 (v := nI nl) hnl ?_
        refine lv_icmp_ge (tgt := 68) S.1 S.2.1 dX5_begins_9 (by decide) (fun c12 => ?_) (fun c12 => ?_)
        · skip
          exact absurd c12 (nI_ge (a := n) (b := nl) (by omega) (by omega))
        · skip
          refine lv_aload_n S.1 S.2.1 dX5_begins_12 rfl (lv_at hl 0 rfl) ?_
          refine mx_gA S hK hm hW 19 iX5 rfl (by decide) (by decide) (by decide +kernel) dX5_begins_13 ?_
          refine lv_iload_n S.1 S.2.1 dX5_begins_16 rfl (lv_at hl 2 rfl) ?_
          refine mx_ild S hK hm hW 19 (by decide) (k := n) (kw_ixof (k := n) (n := 8) rfl (by omega) (by decide)) dX5_begins_17 (v := tA t 19 n) rfl ?_
          refine lv_if_le (tgt := 62) S.1 S.2.1 dX5_begins_18 (by decide) (fun c13 => ?_) (fun c13 => ?_)
          · skip
            refine lv_iinc (v := nI (n + 1)) (lv' := [(2, .int (nI (n + 1))), (0, .ref mo), (1, .int (nI b))]) S.1 S.2.1 dX5_begins_62 hl (k := 2) rfl (nI_1 _) (by decide) rfl (fun ls hl => ?_)
            refine lv_goto (tgt := 4) S.1 S.2.1 dX5_begins_65 (by decide) ?_
            exact ihloop (n + 1) (some b) (by omega) (by simp only [m_am, hbo.symm, m_duf, m_dul]; simp [c12, c13]) x _ _ ls (hm.to rfl) hW hS (lv_conv (lv_sub hl [1, 2, 0] rfl) (congr (congrArg List.cons rfl) (congr (congrArg List.cons (congrArg (fun z9 => ((1 : Nat), Value.int z9)) (show (nI b : Int32) = m_ob (some b) from by first | rfl | (rfl)))) (congr (congrArg List.cons rfl) rfl))))
          · skip
            refine lv_aload_n S.1 S.2.1 dX5_begins_21 rfl (lv_at hl 0 rfl) ?_
            refine mx_gA S hK hm hW 15 iX5 rfl (by decide) (by decide) (by decide +kernel) dX5_begins_22 ?_
            refine lv_iload_n S.1 S.2.1 dX5_begins_25 rfl (lv_at hl 2 rfl) ?_
            refine mx_ild S hK hm hW 15 (by decide) (k := n) (kw_ixof (k := n) (n := 8) rfl (by omega) (by decide)) dX5_begins_26 (v := tA t 15 n) rfl ?_
            refine lv_if_le (tgt := 62) S.1 S.2.1 dX5_begins_27 (by decide) (fun c14 => ?_) (fun c14 => ?_)
            · skip
              refine lv_iinc (v := nI (n + 1)) (lv' := [(2, .int (nI (n + 1))), (0, .ref mo), (1, .int (nI b))]) S.1 S.2.1 dX5_begins_62 hl (k := 2) rfl (nI_1 _) (by decide) rfl (fun ls hl => ?_)
              refine lv_goto (tgt := 4) S.1 S.2.1 dX5_begins_65 (by decide) ?_
              exact ihloop (n + 1) (some b) (by omega) (by simp only [m_am, hbo.symm, m_duf, m_dul]; simp [c12, c13, c14]) x _ _ ls (hm.to rfl) hW hS (lv_conv (lv_sub hl [1, 2, 0] rfl) (congr (congrArg List.cons rfl) (congr (congrArg List.cons (congrArg (fun z9 => ((1 : Nat), Value.int z9)) (show (nI b : Int32) = m_ob (some b) from by first | rfl | (rfl)))) (congr (congrArg List.cons rfl) rfl))))
            · skip
              refine lv_aload_n S.1 S.2.1 dX5_begins_30 rfl (lv_at hl 0 rfl) ?_
              refine lv_iload_n S.1 S.2.1 dX5_begins_31 rfl (lv_at hl 2 rfl) ?_
              refine mx_cV (As := [.int (nI n)]) (rest := []) (st1 := [.int ((m_st t fp n))]) S hK hZ hA hm hW hS (c_X5_startOf l G nu x z mo ma t n (m_st t fp n) (fp n) hm rfl (by omega) (hfp n (by omega) (kw_nle0 (by assumption))).1 (hfp n (by omega) (kw_nle0 (by assumption))).2) (cwV 1 S.2.2.2.2 gX5_begins_X5_startOf rfl rfl rfl (by decide +kernel) ⟨Nat.le_of_ble_eq_true rfl, Nat.le_of_ble_eq_true rfl⟩) rfl hl.1 rfl (Nat.le_of_ble_eq_true rfl) dX5_begins_32 ⟨Nat.le_of_ble_eq_true rfl, Nat.le_of_ble_eq_true rfl⟩ rfl (fun x H locs hm hW hS => ?_)
              refine lv_aload_n S.1 S.2.1 dX5_begins_35 rfl (lv_at hl 0 rfl) ?_
              refine mx_gI S hK hm hW 1 iX5 rfl (by decide) (by decide +kernel) dX5_begins_36 (v := tF t 1) rfl ?_
              refine lv_icmp_gt (tgt := 62) S.1 S.2.1 dX5_begins_39 (by decide) (fun c15 => ?_) (fun c15 => ?_)
              · skip
                refine lv_iinc (v := nI (n + 1)) (lv' := [(2, .int (nI (n + 1))), (0, .ref mo), (1, .int (nI b))]) S.1 S.2.1 dX5_begins_62 hl (k := 2) rfl (nI_1 _) (by decide) rfl (fun ls hl => ?_)
                refine lv_goto (tgt := 4) S.1 S.2.1 dX5_begins_65 (by decide) ?_
                exact ihloop (n + 1) (some b) (by omega) (by simp only [m_am, hbo.symm, m_duf, m_dul]; simp [c12, c13, c14, c15]) x _ _ ls (hm.to rfl) hW hS (lv_conv (lv_sub hl [1, 2, 0] rfl) (congr (congrArg List.cons rfl) (congr (congrArg List.cons (congrArg (fun z9 => ((1 : Nat), Value.int z9)) (show (nI b : Int32) = m_ob (some b) from by first | rfl | (rfl)))) (congr (congrArg List.cons rfl) rfl))))
              · skip
                refine lv_iload_n S.1 S.2.1 dX5_begins_42 rfl (lv_at hl 1 rfl) ?_
                refine lv_iconst (v := (-1)) S.1 S.2.1 dX5_begins_43 (by decide) ?_
                refine lv_icmp_eq (tgt := 60) S.1 S.2.1 dX5_begins_44 (by decide) (fun c16 => ?_) (fun c16 => ?_)
                · skip
                  exact absurd (by first | exact c16 | exact Classical.not_not.mp c16) (nI_nm1 (by omega))
                · skip
                  refine lv_aload_n S.1 S.2.1 dX5_begins_47 rfl (lv_at hl 0 rfl) ?_
                  refine lv_iload_n S.1 S.2.1 dX5_begins_48 rfl (lv_at hl 2 rfl) ?_
                  refine mx_cV (As := [.int (nI n)]) (rest := []) (st1 := [.int ((m_dl t fp n))]) S hK hZ hA hm hW hS (c_X5_deadlineOf l G nu x z mo ma t n (m_dl t fp n) (fp n) hm rfl (by omega) (hfp n (by omega) (kw_nle0 (by assumption))).1 (hfp n (by omega) (kw_nle0 (by assumption))).2 (Int32.not_le.mp (by assumption))) (cwV 1 S.2.2.2.2 gX5_begins_X5_deadlineOf rfl rfl rfl (by decide +kernel) ⟨Nat.le_of_ble_eq_true rfl, Nat.le_of_ble_eq_true rfl⟩) rfl hl.1 rfl (Nat.le_of_ble_eq_true rfl) dX5_begins_49 ⟨Nat.le_of_ble_eq_true rfl, Nat.le_of_ble_eq_true rfl⟩ rfl (fun x H locs hm hW hS => ?_)
                  refine lv_aload_n S.1 S.2.1 dX5_begins_52 rfl (lv_at hl 0 rfl) ?_
                  refine lv_iload_n S.1 S.2.1 dX5_begins_53 rfl (lv_at hl 1 rfl) ?_
                  refine mx_cV (As := [.int (nI b)]) (rest := [.int ((m_dl t fp n))]) (st1 := [.int ((m_dl t fp b)), .int ((m_dl t fp n))]) S hK hZ hA hm hW hS (c_X5_deadlineOf l G nu x z mo ma t b (m_dl t fp b) (fp b) hm rfl (by omega) hbp.1 hbp.2 (Int32.not_le.mp hbg)) (cwV 1 S.2.2.2.2 gX5_begins_X5_deadlineOf rfl rfl rfl (by decide +kernel) ⟨Nat.le_of_ble_eq_true rfl, Nat.le_of_ble_eq_true rfl⟩) rfl hl.1 rfl (Nat.le_of_ble_eq_true rfl) dX5_begins_54 ⟨Nat.le_of_ble_eq_true rfl, Nat.le_of_ble_eq_true rfl⟩ rfl (fun x H locs hm hW hS => ?_)
                  refine lv_icmp_ge (tgt := 62) S.1 S.2.1 dX5_begins_57 (by decide) (fun c17 => ?_) (fun c17 => ?_)
                  · skip
                    refine lv_iinc (v := nI (n + 1)) (lv' := [(2, .int (nI (n + 1))), (0, .ref mo), (1, .int (nI b))]) S.1 S.2.1 dX5_begins_62 hl (k := 2) rfl (nI_1 _) (by decide) rfl (fun ls hl => ?_)
                    refine lv_goto (tgt := 4) S.1 S.2.1 dX5_begins_65 (by decide) ?_
                    exact ihloop (n + 1) (some b) (by omega) (by simp only [m_am, hbo.symm, m_duf, m_dul]; simp [c12, c13, c14, c15, c16, c17]) x _ _ ls (hm.to rfl) hW hS (lv_conv (lv_sub hl [1, 2, 0] rfl) (congr (congrArg List.cons rfl) (congr (congrArg List.cons (congrArg (fun z9 => ((1 : Nat), Value.int z9)) (show (nI b : Int32) = m_ob (some b) from by first | rfl | (rfl)))) (congr (congrArg List.cons rfl) rfl))))
                  · skip
                    refine lv_iload_n S.1 S.2.1 dX5_begins_60 rfl (lv_at hl 2 rfl) ?_
                    refine lv_istore_n (lv' := [(1, .int (nI n)), (0, .ref mo), (2, .int (nI n))]) S.1 S.2.1 dX5_begins_61 rfl hl (by decide) rfl (fun ls hl => ?_)
                    refine lv_iinc (v := nI (n + 1)) (lv' := [(2, .int (nI (n + 1))), (1, .int (nI n)), (0, .ref mo)]) S.1 S.2.1 dX5_begins_62 hl (k := 2) rfl (nI_1 _) (by decide) rfl (fun ls hl => ?_)
                    refine lv_goto (tgt := 4) S.1 S.2.1 dX5_begins_65 (by decide) ?_
                    exact ihloop (n + 1) (some n) (by omega) (by simp only [m_am, hbo.symm, m_duf, m_dul]; simp [c12, c13, c14, c15, c16, c17]) x _ _ ls (hm.to rfl) hW hS (lv_conv (lv_sub hl [2, 1, 0] rfl) (congr (congrArg List.cons rfl) (congr (congrArg List.cons (congrArg (fun z9 => ((1 : Nat), Value.int z9)) (show (nI n : Int32) = m_ob (some n) from by first | rfl | (rfl)))) (congr (congrArg List.cons rfl) rfl))))
  exact loop (nl - 0) 0 none (by omega) rfl x _ _ ls (hm.to rfl) hW hS (lv_conv (lv_sub hl [2, 1, 0] rfl) (congr (congrArg List.cons rfl) (congr (congrArg List.cons (congrArg (fun z9 => ((1 : Nat), Value.int z9)) (show (-1 : Int32) = m_ob none from by first | rfl | (rfl)))) (congr (congrArg List.cons (congrArg (fun z9 => ((2 : Nat), Value.int z9)) (show (0 : Int32) = nI 0 from by first | rfl | (rfl)))) rfl))))
